/-! The law's loop. -/
def lwCase (pc : Nat) : Prop := ∀ {w : MWd} {L i : Nat} {l5 l6 l7 : Option MV} {Q : MRes → MWd → Prop} (_ : Inv w) (_ : L ≤ 3072) (_ : i + 6 ≤ L) (_ : lw_K 100 w L i Q), mR 100 w 182 pc (lw_ls L i l5 l6 l7) [] Q
theorem and_31 (x : Int32) : ∃ k : Nat, k < 32 ∧ x &&& Int32.ofNat 31 = Int32.ofNat k := by
  refine ⟨x.toBitVec.toNat % 2 ^ 5, Nat.mod_lt _ (by decide), bt_ext fun p hp => ?_⟩
  rw [bt_and, bt_ofNat _ hp, Nat.testBit_mod_two_pow]
  have h : bt (Int32.ofNat 31) p = decide (p < 5) := by revert p; decide
  rw [h, Bool.and_comm]; rfl
theorem i_L6 {L i : Nat} (hL : L ≤ 3072) (hi : i ≤ 4000) : (Int32.ofNat L - Int32.ofNat 6 < Int32.ofNat i ↔ L < i + 6) ∧ (Int32.ofNat i ≤ Int32.ofNat L - Int32.ofNat 6 ↔ i + 6 ≤ L) := by
  have h : (Int32.ofNat L - Int32.ofNat 6).toInt = (L : Int) - 6 := by
    rw [Int32.toInt_sub, i_ti (by omega), i_ti (by decide)]
    rw [Int.bmod_eq_of_le (by omega) (by omega)]
    rfl
  rw [Int32.lt_iff_toInt_lt, Int32.le_iff_toInt_le, h, i_ti (by omega)]
  omega
theorem law_loop (c2 : lwCase 288) (c6 : lwCase 521) (c13 : lwCase 967) {L CB SB : Nat} (hL : L ≤ 3072) : ∀ (f i : Nat) (w : MWd) (l5 l6 l7 : Option MV), L < i + 6 * (f + 1) → i ≤ L + 6 → Inv w → wC w + 600 * f ≤ CB → wS w + 6000 * f ≤ SB →
    mR 100 w 182 23 (lw_ls L i l5 l6 l7) [] (fun r w' => r = .inl (some (vI 1)) ∧ wC w' ≤ CB ∧ wS w' ≤ SB) := by
  intro f
  induction f with
  | zero =>
    intro i w l5 l6 l7 hf hi hI hC hS
    have h6 := i_L6 (i := i) hL (by omega)
    rw [e_182_23]
    simp (disch := omega) only [e_182_25, e_182_26, e_182_27, e_182_29, e_182_30, e_182_1196, e_182_1197, i_lit, h6.1, h6.2]
    (repeat' (first | (with_reducible refine And.intro ?_ ?_) | (with_reducible intro _)))
    all_goals try omega
    exact Or.inr rfl
    exact ⟨rfl, by omega, by omega⟩
  | succ f ih =>
    intro i w l5 l6 l7 hf hi hI hC hS
    have h6 := i_L6 (i := i) hL (by omega)
    have K : lw_K 100 w L i (fun r w' => r = .inl (some (vI 1)) ∧ wC w' ≤ CB ∧ wS w' ≤ SB) := fun w' a b c h1 _ h3 h4 => ih (i + 6) w' a b c (by omega) (by omega) h1 (by omega) (by omega)
    rw [e_182_23]
    rw [e_182_25, e_182_26, e_182_27, e_182_29, e_182_30]
    simp only [i_lit, h6.1, h6.2]
    refine ⟨fun q => ?_, fun hiL => ?_⟩
    · simp only [e_182_1196, e_182_1197, i_lit]
      exact ⟨Or.inr rfl, rfl, by omega, by omega⟩
    · rw [e_182_33, e_182_34, e_182_36S, e_182_37, e_182_39]
      obtain ⟨k, hk, hx⟩ := and_31 (wAI w 0 (Int32.ofNat i).toNatClampNeg)
      rw [i_in (by omega)]
      refine ⟨by omega, ?_⟩
      have hx' : wAI w 0 (Int32.ofNat i).toNatClampNeg &&& (31 : Int32) = Int32.ofNat k := hx
      rw [hx']
      by_cases hk18 : k < 18
      · have hc : k = 0 ∨ k = 1 ∨ k = 2 ∨ k = 3 ∨ k = 4 ∨ k = 5 ∨ k = 6 ∨ k = 7 ∨ k = 8 ∨ k = 9 ∨ k = 10 ∨ k = 11 ∨ k = 12 ∨ k = 13 ∨ k = 14 ∨ k = 15 ∨ k = 16 ∨ k = 17 := by omega
        rcases hc with rfl | rfl | rfl | rfl | rfl | rfl | rfl | rfl | rfl | rfl | rfl | rfl | rfl | rfl | rfl | rfl | rfl | rfl
        · exact e_182_40_0.mpr (case_0 hI hL hiL K)
        · exact e_182_40_1.mpr (case_1 hI hL hiL K)
        · exact e_182_40_2.mpr (c2 hI hL hiL K)
        · exact e_182_40_3.mpr (case_3 hI hL hiL K)
        · exact e_182_40_4.mpr (case_4 hI hL hiL K)
        · exact e_182_40_5.mpr (case_5 hI hL hiL K)
        · exact e_182_40_6.mpr (c6 hI hL hiL K)
        · exact e_182_40_7.mpr (case_7 hI hL hiL K)
        · exact e_182_40_8.mpr (case_8 hI hL hiL K)
        · exact e_182_40_9.mpr (case_9 hI hL hiL K)
        · exact e_182_40_10.mpr (case_10 hI hL hiL K)
        · exact e_182_40_11.mpr (case_11 hI hL hiL K)
        · exact e_182_40_12.mpr (case_12 hI hL hiL K)
        · exact e_182_40_13.mpr (c13 hI hL hiL K)
        · exact e_182_40_14.mpr (case_14 hI hL hiL K)
        · exact e_182_40_15.mpr (case_15 hI hL hiL K)
        · exact e_182_40_16.mpr (case_16 hI hL hiL K)
        · exact e_182_40_17.mpr (case_17 hI hL hiL K)
      · refine (e_182_40_o (Or.inr ?_)).mpr ?_
        · rw [i_ti (by omega)]; omega
        · simp only [e_182_1190, e_182_1193]
          exact K w l5 l6 l7 hI rfl (by omega) (by omega)
theorem law_all (c2 : lwCase 288) (c6 : lwCase 521) (c13 : lwCase 967) (L : Nat) (xs : Nat → Int32) (hL : L ≤ 3072) : mj_Law L xs := by
  have h0 := tStart_N xs
  have main : mR 100 (mj_w0 xs) 182 0 (mj_ent 182 [vP (30, L, 0)]) [] (fun r w' => r = .inl (some (vI 1)) ∧ wC w' ≤ 400000 ∧ wS w' ≤ 3200000) := by
    have e : mj_ent 182 [vP (30, L, 0)] = [some (vR (some (30, L, 0))), none, none, none, none, none, none, none, none] := rfl
    rw [e]
    trace_state
    sorry
  sorry
