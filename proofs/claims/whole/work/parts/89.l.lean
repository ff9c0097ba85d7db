/-! scan: what the longest piece is. -/
theorem pcs_some {N p : Nat} {mv an : Nat → Option Nat} {B : Nat → Nat} : ∀ {j r L : Nat}, pcs N mv an B p j = (some r, L) → 1 ≤ L ∧ L ≤ j ∧ ∃ s, pq N mv B p L = some s ∧ an s = some r
  | 0, r, L, h => by cases h
  | j + 1, r, L, h => by
    have e : pcs N mv an B p (j + 1) = (match pq N mv B p (j + 1) with | none => pcs N mv an B p j | some s => match an s with | none => pcs N mv an B p j | some r => (some r, j + 1)) := rfl
    rw [e] at h
    have less : pcs N mv an B p j = (some r, L) → 1 ≤ L ∧ L ≤ j + 1 ∧ ∃ s, pq N mv B p L = some s ∧ an s = some r := fun q => by
      obtain ⟨a1, a2, a3⟩ := pcs_some q
      exact ⟨a1, by omega, a3⟩
    cases hq : pq N mv B p (j + 1) with
    | none => rw [hq] at h; exact less h
    | some s =>
      rw [hq] at h
      cases ha : an s with
      | none =>
        dsimp only at h
        rw [ha] at h; exact less h
      | some r' =>
        dsimp only at h
        rw [ha] at h
        cases h
        exact ⟨by omega, Nat.le_refl _, s, hq, ha⟩
theorem pcs_nl {N p : Nat} {mv an : Nat → Option Nat} {B : Nat → Nat} : ∀ {j L : Nat}, pcs N mv an B p j = (none, L) → L = 0
  | 0, L, h => by cases h; rfl
  | j + 1, L, h => by
    have e : pcs N mv an B p (j + 1) = (match pq N mv B p (j + 1) with | none => pcs N mv an B p j | some s => match an s with | none => pcs N mv an B p j | some r => (some r, j + 1)) := rfl
    rw [e] at h
    cases hq : pq N mv B p (j + 1) with
    | none => rw [hq] at h; exact pcs_nl h
    | some s =>
      rw [hq] at h
      cases ha : an s with
      | none =>
        dsimp only at h
        rw [ha] at h; exact pcs_nl h
      | some r' =>
        dsimp only at h
        rw [ha] at h
        cases h
/-- the letters of a piece that is met -/
theorem pq_let {N p : Nat} {mv : Nat → Option Nat} {B : Nat → Nat} : ∀ {L s : Nat}, pq N mv B p L = some s → ∀ i, i < L → ∃ l, ltO (B (p + i)) = some l
  | 0, s, h, i, hi => by omega
  | L + 1, s, h, i, hi => by
    have e : pq N mv B p (L + 1) = mvO mv (pq N mv B p L) (ltO (B (p + L))) := rfl
    rw [e] at h
    cases hq : pq N mv B p L with
    | none => rw [hq] at h; cases h
    | some s' =>
      by_cases hiL : i = L
      · subst hiL
        cases hl : ltO (B (p + i)) with
        | none => rw [hq, hl] at h; cases h
        | some l => exact ⟨l, rfl⟩
      · exact pq_let hq i (by omega)
theorem pcs_let {N p j r L : Nat} {mv an : Nat → Option Nat} {B : Nat → Nat} (h : pcs N mv an B p j = (some r, L)) : ∃ u : Nat → Nat, ∀ i, i < L → ltO (B (p + i)) = some (u i) := by
  obtain ⟨-, -, s, hq, -⟩ := pcs_some h
  refine ⟨fun i => B (p + i) - 97, fun i hi => ?_⟩
  obtain ⟨l, hl⟩ := pq_let hq i hi
  show ltO (B (p + i)) = some (B (p + i) - 97)
  have := (ltO_lt hl).2
  rw [hl]
  congr 1; omega
/-- a cut reads only the rules -/
theorem cut_Fr {F : Nat → Nat → Prop} {R : Nat → Prop} {x y r np tp L : Nat} {u : Nat → Nat} {w w' : MWd} (h : Fr F R x y w w') (hr : r < 12) (hF : ∀ k a, 6 ≤ a → a < 42 → ¬ F k a) (hR : ∀ a, 6 ≤ a ∧ a < 42 ∨ 130 ≤ a ∧ a ≤ 142 → ¬ R a) : (RuleA w' r np tp ↔ RuleA w r np tp) ∧ ∀ k, (cutRw w' r np L u k ↔ cutRw w r np L u k) := by
  have eA : ∀ a, 130 ≤ a → a ≤ 142 → wAI w' a = wAI w a := fun a h1 h2 => Fr_ai h (by omega) (hR a (Or.inr ⟨h1, h2⟩))
  have eF : ∀ k, wFI w' k (6 + 3 * r) = wFI w k (6 + 3 * r) := fun k => Fr_fi h (by omega) (hF k _ (by omega) (by omega))
  have e1 : rFi w' r = rFi w r := by unfold rFi; rw [eF]
  have e2 : rLa w' r = rLa w r := by unfold rLa; rw [eF]
  have e3 : rAF w' r = rAF w r := by unfold rAF; rw [eA 139 (by omega) (by omega)]
  have e4 : rAL w' r = rAL w r := by unfold rAL; rw [eA 140 (by omega) (by omega)]
  have e5 : rFo w' r np = rFo w r np := by unfold rFo; rw [eA 136 (by omega) (by omega)]
  have e6 : rLt w' r np = rLt w r np := by unfold rLt; rw [eA 135 (by omega) (by omega)]
  have e7 : rCE w' r = rCE w r := by unfold rCE; rw [eA 141 (by omega) (by omega)]
  refine ⟨?_, fun k => ?_⟩
  · unfold RuleA
    simp only [eF, eA 130 (by omega) (by omega), eA 131 (by omega) (by omega), eA 132 (by omega) (by omega), eA 133 (by omega) (by omega), eA 134 (by omega) (by omega), eA 137 (by omega) (by omega), eA 138 (by omega) (by omega), eA 142 (by omega) (by omega)]
  · unfold cutRw
    rw [e1, e2, e3, e4, e5, e6, e7]
theorem ctT_Fr {F : Nat → Nat → Prop} {R : Nat → Prop} {x y r p L : Nat} {B : Nat → Nat} {w w' : MWd} (h : Fr F R x y w w') (hr : r < 12) (hF : ∀ k a, 6 ≤ a → a < 42 → ¬ F k a) (hR : ∀ a, 6 ≤ a ∧ a < 42 ∨ 130 ≤ a ∧ a ≤ 142 → ¬ R a) (hok : RuleOk w r) (hu : ∃ u : Nat → Nat, ∀ i, i < L → B (p + i) = 97 + u i)
    (hex : wAI w 133 r = Int32.ofNat 1 → ∀ np tp u, RuleA w r np tp → (∀ i, i < L → B (p + i) = 97 + u i) → ∃ k, 1 ≤ k ∧ k ≤ L ∧ cutRw w r np L u k) : ctT w' r B p L = ctT w r B p L := by
  have e133 : wAI w' 133 = wAI w 133 := Fr_ai h (by omega) (hR 133 (by omega))
  obtain ⟨np, tp, hA, -, -⟩ := hok
  rcases hA.2.2.2.2.2.1.2 with h0 | h0
  · rw [ctT_no h0, ctT_no (by rw [e133]; exact h0)]
  · obtain ⟨u, hu⟩ := hu
    obtain ⟨k, a1, a2, a3, a4⟩ := cut_top L (hex h0 np tp u hA hu)
    have c := cut_Fr (np := np) (tp := tp) (L := L) (u := u) h hr hF hR
    rw [ctT_eq hA h0 hu a1 a2 a3 a4, ctT_eq (c.1.mpr hA) (by rw [e133]; exact h0) hu a1 a2 ((c.2 k).mpr a3) (fun j h1 h2 q => a4 j h1 h2 ((c.2 j).mp q))]
