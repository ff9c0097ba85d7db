/-! What a machine's answers say of the words that lead to them. -/
theorem bt_folU {fo : Nat → Int32} {x : Int32} {p : Nat} : ∀ n, bt (folU fo x n) p = true ↔ ∃ q, q < n ∧ bt x q = true ∧ bt (fo q) p = true
  | 0 => by
    show bt (Int32.ofNat 0) p = true ↔ _
    rw [bt_0]
    exact iff_of_false Bool.false_ne_true (fun ⟨q, hq, _⟩ => absurd hq (Nat.not_lt_zero q))
  | n + 1 => by
    show bt (if bt x n = true then folU fo x n ||| fo n else folU fo x n) p = true ↔ _
    by_cases h : bt x n = true
    · rw [if_pos h, bt_or, Bool.or_eq_true, bt_folU n]
      constructor
      · rintro (⟨q, hq, h1, h2⟩ | h1)
        · exact ⟨q, by omega, h1, h2⟩
        · exact ⟨n, by omega, h, h1⟩
      · rintro ⟨q, hq, h1, h2⟩
        by_cases hqn : q = n
        · subst hqn; exact Or.inr h2
        · exact Or.inl ⟨q, by omega, h1, h2⟩
    · rw [if_neg h, bt_folU n]
      constructor
      · rintro ⟨q, hq, h1, h2⟩; exact ⟨q, by omega, h1, h2⟩
      · rintro ⟨q, hq, h1, h2⟩
        by_cases hqn : q = n
        · subst hqn; exact absurd h1 h
        · exact ⟨q, by omega, h1, h2⟩
theorem en_inj {x y : Option Nat} (hx : ∀ a, x = some a → a < 2147483648) (hy : ∀ a, y = some a → a < 2147483648) (h : en x = en y) : x = y := by
  cases y with
  | none => exact (en_N hx).mp h
  | some b => exact (en_eq (hy b rfl) hx).mp h
theorem stN_lt {mv : Nat → Option Nat} {n : Nat} {u : Nat → Nat} (h0 : 1 ≤ n) (h6 : ∀ t a, t < 8 * n → mv t = some a → a < n) : ∀ k s, (∀ i, i < k → u i < 8) → stN mv u k = some s → s < n
  | 0, s, _, h => by cases h; omega
  | k + 1, s, hu, h => by
    unfold stN at h
    cases hk : stN mv u k with
    | none => rw [hk] at h; cases h
    | some s' =>
      rw [hk] at h
      have := stN_lt h0 h6 k s' (fun i hi => hu i (by omega)) hk
      have := hu k (by omega)
      exact h6 _ s (by omega) h
theorem nMv_O {kd : Nat → Nat} {mv : Nat → Option Nat} {N t s : Nat} (h : nEnd kd mv N) (ht : t < 8 * N) (hs : nMv kd mv t = some s) : ∃ a, mv (8 * (nSt kd mv (8 * N)).2 (t / 8) + t % 8) = some a ∧ (nSt kd mv (8 * N)).2 s = kd a := by
  have hin := nEnd_in h ht
  have hk1 : (nSt kd mv (8 * N)).2 (t / 8) = (nSt kd mv t).2 (t / 8) := nSt_keep (by omega) hin
  rw [hk1]
  have h9 : nSt kd mv (t + 1) = nStep kd mv (nSt kd mv t) t := rfl
  have hs' : nTgt kd mv (nSt kd mv t) t = some s := hs
  unfold nTgt at hs'
  cases hx : mv (8 * (nSt kd mv t).2 (t / 8) + t % 8) with
  | none => rw [hx] at hs'; cases hs'
  | some a =>
    rw [hx] at hs'
    have hfd : fdK (nSt kd mv t).2 (kd a) (nSt kd mv t).1 = s := Option.some.inj hs'
    refine ⟨a, rfl, ?_⟩
    rcases (fdK_spec (nSt kd mv t).2 (kd a) (nSt kd mv t).1).1 with h1 | h1
    · rw [hfd] at h1
      rw [nSt_keep (t := t) (by omega) h1.1]; exact h1.2
    · rw [hfd] at h1
      have h2 : nSt kd mv (t + 1) = ((nSt kd mv t).1 + 1, updN (nSt kd mv t).2 (nSt kd mv t).1 (kd a)) := by
        rw [h9]; unfold nStep; rw [hx]; dsimp only; rw [if_pos (by rw [hfd]; exact h1)]
      rw [nSt_keep (t := t + 1) (by omega) (by rw [h2, h1]; exact Nat.lt_succ_self _), h2, h1]
      exact updN_at
/-- the states of the machine follow the sets -/
theorem stN_kd {A : Nat → Int32} {kd : Nat → Nat} {mv : Nat → Option Nat} {n N : Nat} {u : Nat → Nat} (hn : 1 ≤ n) (h6 : ∀ t a, t < 8 * n → mv t = some a → a < n) (hk : ∀ i, i < n → Le A mv i (kd i)) (hN : nEnd kd mv N) : ∀ k s, (∀ i, i < k → u i < 8) → stN (nMv kd mv) u k = some s → s < N ∧ ∃ x, stN mv u k = some x ∧ x < n ∧ kd x = (nSt kd mv (8 * N)).2 s
  | 0, s, _, h => by
    cases h
    have h1 := nSt_pos (kd := kd) (mv := mv) (8 * N)
    rw [hN.2] at h1
    exact ⟨by omega, 0, rfl, by omega, by rw [nSt_keep (t := 0) (Nat.zero_le _) Nat.zero_lt_one]; rfl⟩
  | k + 1, s, hu, h => by
    unfold stN at h
    cases hs' : stN (nMv kd mv) u k with
    | none => rw [hs'] at h; cases h
    | some s' =>
      rw [hs'] at h
      obtain ⟨hN', x', hx1, hx2, hx3⟩ := stN_kd hn h6 hk hN k s' (fun i hi => hu i (by omega)) hs'
      have hl := hu k (by omega)
      have hsN := nMv_lt hN (show 8 * s' + u k < 8 * N by omega) h
      obtain ⟨a, ha1, ha2⟩ := nMv_O hN (show 8 * s' + u k < 8 * N by omega) h
      rw [show (8 * s' + u k) / 8 = s' by omega, show (8 * s' + u k) % 8 = u k by omega, ← hx3] at ha1
      have hpm := Pe_mv (hk x' hx2).2.1 hl
      rcases Pm_some hpm with ⟨p1, p2⟩ | ⟨a', b, p1, p2, p3⟩
      · rw [p1] at ha1; cases ha1
      · rw [p1] at ha1; cases ha1
        have hkx := (hk x' hx2).1
        have hbn := h6 _ b (by omega) p2
        have han := h6 _ a (by omega) p1
        refine ⟨hsN, b, ?_, hbn, ?_⟩
        · unfold stN; rw [hx1]; exact p2
        · rw [ha2]; exact ((Le_iff (hk a han) (hk b hbn)).mpr p3).symm
/-- the sets are the places that the letters lead to -/
theorem stN_row {w : MWd} {nr m n : Nat} {u : Nat → Nat} {r : Nat} (hE : sEnd (nxF w nr m) n) (hr : r < nr) (hr12 : r < 12) (hmd : wFI w 322 (6 + 3 * r) = Int32.ofNat m) : ∀ k x, (∀ i, i ≤ k → u i < 8) → stN (sMv (nxF w nr m)) u (k + 1) = some x → 1 ≤ x ∧ x < n ∧
    ∀ p, bt ((sSt (nxF w nr m) (8 * n)).2 x r) p = true ↔ rB (wFI w 328 (6 + 3 * r)) (wAI w (7 + 3 * r)) (wAI w (8 + 3 * r)) u k p ∧ bt (wAI w (8 + 3 * r) (u k)) p = true := by
  have hn1 := sEnd_pos hE
  intro k
  induction k with
  | zero =>
    intro x hu h
    have h' : sMv (nxF w nr m) (8 * 0 + u 0) = some x := h
    have hl := hu 0 (Nat.le_refl 0)
    obtain ⟨a1, a2, a3⟩ := sMv_some hE (show 8 * 0 + u 0 < 8 * n by omega) h'
    refine ⟨a1, a2, fun p => ?_⟩
    rw [a3 r hr12, show (8 * 0 + u 0) / 8 = 0 by omega, show (8 * 0 + u 0) % 8 = u 0 by omega]
    unfold nxF bhF
    rw [if_pos ⟨hr, hl⟩, if_pos ⟨hr, hmd⟩, if_pos rfl, bt_and, Bool.and_eq_true]
    exact Iff.rfl
  | succ k ih =>
    intro x hu h
    have h' : (match stN (sMv (nxF w nr m)) u (k + 1) with | none => none | some s => sMv (nxF w nr m) (8 * s + u (k + 1))) = some x := h
    cases hs : stN (sMv (nxF w nr m)) u (k + 1) with
    | none => rw [hs] at h'; cases h'
    | some x' =>
      rw [hs] at h'
      obtain ⟨b1, b2, b3⟩ := ih x' (fun i hi => hu i (by omega)) hs
      have hl := hu (k + 1) (Nat.le_refl _)
      have h'' : sMv (nxF w nr m) (8 * x' + u (k + 1)) = some x := h'
      obtain ⟨a1, a2, a3⟩ := sMv_some hE (show 8 * x' + u (k + 1) < 8 * n by omega) h''
      refine ⟨a1, a2, fun p => ?_⟩
      rw [a3 r hr12, show (8 * x' + u (k + 1)) / 8 = x' by omega, show (8 * x' + u (k + 1)) % 8 = u (k + 1) by omega]
      unfold nxF bhF
      rw [if_pos ⟨hr, hl⟩, if_pos ⟨hr, hmd⟩, if_neg (by omega), bt_and, Bool.and_eq_true, bt_folU]
      refine and_congr_left fun _ => ?_
      show _ ↔ ∃ q, q < 30 ∧ _ ∧ _
      constructor
      · rintro ⟨q, h1, h2, h3⟩; exact ⟨q, h1, (b3 q).mp h2, h3⟩
      · rintro ⟨q, h1, h2, h3⟩; exact ⟨q, h1, (b3 q).mpr h2, h3⟩
theorem MachC_of {w : MWd} {nr m N : Nat} {mvN an : Nat → Option Nat} (hnr : nr ≤ 12) (hR : ∀ r, r < nr → RuleOk w r) (hM : isM w nr m N mvN an) : MachC w m N nr mvN an := by
  intro s r hs ha
  obtain ⟨n, hE, hc⟩ := hM
  rcases hc with ⟨-, hN⟩ | ⟨h2, kd, hk, hN, hmv, han⟩
  · omega
  · rw [han s hs] at ha
    have hl := ansF_lt ha
    obtain ⟨np, tp, hA, hB, -⟩ := hR r hl.2.1
    obtain ⟨m', hm', em1, em2⟩ := hA.2.2.1
    refine ⟨hl.2.1, by rw [em2, ← em1]; exact hl.2.2.1, fun u k hu hst => ?_⟩
    rw [hmv] at hst
    have hn1 := sEnd_pos hE
    obtain ⟨-, x, hx1, hx2, hx3⟩ := stN_kd (A := stA w nr m n) hn1 (sMv_in hE) hk hN (k + 1) s (fun i hi => hu i (by omega)) hst
    obtain ⟨-, -, b3⟩ := stN_row hE hl.2.1 (by omega) hl.2.2.1 k x hu hx1
    have hAx : stA w nr m n (kd x) = stA w nr m n x := Pe_ans (hk x hx2).2.1
    rw [hx3] at hAx
    have hax : ansF w nr m ((sSt (nxF w nr m) (8 * n)).2 x) 12 = some r := by
      have h9 : en (ansF w nr m ((sSt (nxF w nr m) (8 * n)).2 ((nSt kd (sMv (nxF w nr m)) (8 * N)).2 s)) 12) = en (ansF w nr m ((sSt (nxF w nr m) (8 * n)).2 x) 12) := hAx
      rw [← ha]
      exact (en_inj (fun a q => by have := ansF_lt q; omega) (fun a q => by have := ansF_lt q; omega) h9).symm
    have hne := (ansF_lt hax).2.2.2
    have hex : ∃ p, p < 32 ∧ bt ((sSt (nxF w nr m) (8 * n)).2 x r &&& wFI w 329 (6 + 3 * r)) p = true := by
      apply Classical.byContradiction
      intro hno
      refine hne (ts_0.mpr fun p hp => ?_)
      cases hb : bt ((sSt (nxF w nr m) (8 * n)).2 x r &&& wFI w 329 (6 + 3 * r)) p
      · rfl
      · exact absurd ⟨p, hp, hb⟩ hno
    obtain ⟨p, hp, hb⟩ := hex
    rw [bt_and, Bool.and_eq_true] at hb
    have hb1 := (b3 p).mp hb.1
    have hnp := hA.1
    have hlk := hu k (Nat.le_refl k)
    have h6 := hB.2.2.2.2.2 (u k) p hlk hp
    rw [hb1.2] at h6
    have hpn : p < np := by
      apply Nat.lt_of_not_le
      intro hc
      rw [decide_eq_false (show ¬ p < np by omega)] at h6
      cases h6
    exact ⟨p, by omega, hb1, hb.2⟩
