/-! scan: the state behind a piece. -/
theorem pq_stN {N p : Nat} {mv : Nat → Option Nat} {B u : Nat → Nat} : ∀ {j s : Nat}, pq N mv B p j = some s → (∀ i, i < j → B (p + i) = 97 + u i) → stN mv u j = some s
  | 0, s, h, _ => by
    have e : pq N mv B p 0 = if 0 < N then some 0 else none := rfl
    rw [e] at h
    by_cases h0 : 0 < N
    · rw [if_pos h0] at h; exact h
    · rw [if_neg h0] at h; cases h
  | j + 1, s, h, hu => by
    have e : pq N mv B p (j + 1) = mvO mv (pq N mv B p j) (ltO (B (p + j))) := rfl
    rw [e] at h
    cases hq : pq N mv B p j with
    | none => rw [hq] at h; cases h
    | some s' =>
      cases hl : ltO (B (p + j)) with
      | none => rw [hq, hl] at h; cases h
      | some l =>
        rw [hq, hl] at h
        have h1 : mv (8 * s' + l) = some s := h
        have h2 := (ltO_lt hl).2
        have h3 := hu j (by omega)
        have h4 : u j = l := by omega
        have ih := pq_stN hq (fun i hi => hu i (by omega))
        unfold stN
        rw [ih]
        show mv (8 * s' + u j) = some s
        rw [h4]; exact h1
