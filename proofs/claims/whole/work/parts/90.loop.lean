/-! The law's first four instructions: its one argument alone is set. -/
section MR
variable {d : Nat} {w : MWd} {Q : MRes → MWd → Prop} {st : List MV}
theorem e0_182_0 {p0 : Option Ptr} : mR d w 182 0 [some (vR p0), none, none, none, none, none, none, none, none] (st) Q ↔ mR d (nwO w 10) 182 3 [some (vR p0), none, none, none, none, none, none, none, none] (vR (some (8, 0, wN w)) :: st) Q := mR_new (mj_ff fC_182_0 0 rfl) qc_11_8 rfl
theorem e0_182_3 {p0 : Option Ptr} {x : Option Ptr} : mR d w 182 3 [some (vR p0), none, none, none, none, none, none, none, none] (vR x :: st) Q ↔ mR d w 182 4 [some (vR p0), none, none, none, none, none, none, none, none] (vR x :: vR x :: st) Q := mR_dupR (mj_ff fC_182_0 1 rfl)
theorem e0_182_4 {p0 : Option Ptr} {n9 a9 : Nat} {r0 : Option Ptr} : mR (d + 1) w 182 4 [some (vR p0), none, none, none, none, none, none, none, none] ([vR (some (8, n9, a9)), vR r0]) Q ↔ mR d w 81 0 [some (vR (some (8, n9, a9)))] [] (mK (d + 1) 182 4 7 [some (vR p0), none, none, none, none, none, none, none, none] [vR r0] Q) := mR_calls (v := 2) (as := [vR (some (8, n9, a9))]) (mj_ff fC_182_0 2 rfl) rfl qm_11_68 rfl (mj_fit2 qs_81 rfl (Nat.le_of_ble_eq_true rfl)) (Nat.le_of_ble_eq_true rfl)
theorem e0_182_7 {p0 : Option Ptr} {v9 : Option Ptr} : mR d w 182 7 [some (vR p0), none, none, none, none, none, none, none, none] (vR v9 :: st) Q ↔ mR d w 182 8 [some (vR p0), some (vR v9), none, none, none, none, none, none, none] (st) Q := mR_astore_n (mj_ff fC_182_0 3 rfl) rfl
end MR
/-! The law's loop. -/
def lwCase (pc : Nat) : Prop := ∀ {w : MWd} {L i : Nat} {l5 l6 l7 : Option MV} {Q : MRes → MWd → Prop} (_ : Inv w) (_ : L ≤ 3072) (_ : i + 6 ≤ L) (_ : lw_K 100 w L i Q), mR 100 w 182 pc (lw_ls L i l5 l6 l7) [] Q
theorem and_31 (x : Int32) : ∃ k : Nat, k < 32 ∧ x &&& Int32.ofNat 31 = Int32.ofNat k := by
  refine ⟨x.toBitVec.toNat % 2 ^ 5, Nat.mod_lt _ (by decide), bt_ext fun p hp => ?_⟩
  have h : bt (Int32.ofNat 31) p = decide (p < 5) := by revert p; decide
  rw [bt_and, h, bt_ofNat (_ % 2 ^ 5) hp, Nat.testBit_mod_two_pow, Bool.and_comm]; rfl
theorem i_L6 {L i : Nat} (hL : L ≤ 3072) (hi : i ≤ 4000) : (Int32.ofNat L - Int32.ofNat 6 < Int32.ofNat i ↔ L < i + 6) ∧ (Int32.ofNat i ≤ Int32.ofNat L - Int32.ofNat 6 ↔ i + 6 ≤ L) := by
  have h : (Int32.ofNat L - Int32.ofNat 6).toInt = (L : Int) - 6 := by
    rw [Int32.toInt_sub, i_ti (by omega), i_ti (by decide)]
    rw [Int.bmod_eq_of_le (by omega) (by omega)]
    rfl
  rw [Int32.lt_iff_toInt_lt, Int32.le_iff_toInt_le, h, i_ti (by omega)]
  omega
def lwQ (CB SB : Nat) (r : MRes) (w' : MWd) : Prop := r = .inl (some (vI (Int32.ofNat 1))) ∧ wC w' ≤ CB ∧ wS w' ≤ SB
theorem law_loop (c2 : lwCase 288) (c13 : lwCase 967) {L CB SB : Nat} (hL : L ≤ 3072) : ∀ (f i : Nat) (w : MWd) (l5 l6 l7 : Option MV), L < i + 6 * (f + 1) → i ≤ L + 6 → Inv w → wC w + 600 * f ≤ CB → wS w + 5000 * f ≤ SB →
    mR 100 w 182 23 (lw_ls L i l5 l6 l7) [] (lwQ CB SB) := by
  intro f
  induction f with
  | zero =>
    intro i w l5 l6 l7 hf hi hI hC hS
    have h6 := i_L6 (i := i) hL (by omega)
    rw [e_182_23]
    simp (disch := omega) only [e_182_25, e_182_26, e_182_27, e_182_29, e_182_30, e_182_1196, e_182_1197, i_lit, h6.1, h6.2]
    (repeat' (first | (with_reducible refine And.intro ?_ ?_) | (with_reducible intro _)))
    all_goals try omega
    exact Or.inr trivial
    exact ⟨rfl, by omega, by omega⟩
  | succ f ih =>
    intro i w l5 l6 l7 hf hi hI hC hS
    have h6 := i_L6 (i := i) hL (by omega)
    rw [e_182_23]
    rw [e_182_25, e_182_26, e_182_27, e_182_29, e_182_30]
    simp only [i_lit, h6.1, h6.2]
    refine ⟨fun q => ?_, fun hiL => ?_⟩
    · simp only [e_182_1196, e_182_1197, i_lit]
      exact ⟨Or.inr trivial, rfl, by omega, by omega⟩
    · have K : lw_K 100 w L i (lwQ CB SB) := fun w' a b c h1 _ h3 h4 => ih (i + 6) w' a b c (by omega) (by omega) h1 (by omega) (by omega)
      rw [e_182_33, e_182_34, e_182_36S, e_182_37, e_182_39]
      obtain ⟨k, hk, hx⟩ := and_31 (wAI w 0 (Int32.ofNat i).toNatClampNeg)
      rw [i_in (by omega)]
      refine ⟨by omega, ?_⟩
      have hx' : wAI w 0 (Int32.ofNat i).toNatClampNeg &&& (31 : Int32) = Int32.ofNat k := hx
      rw [hx']
      by_cases hk18 : k < 18
      · have hc : k = 0 ∨ k = 1 ∨ k = 2 ∨ k = 3 ∨ k = 4 ∨ k = 5 ∨ k = 6 ∨ k = 7 ∨ k = 8 ∨ k = 9 ∨ k = 10 ∨ k = 11 ∨ k = 12 ∨ k = 13 ∨ k = 14 ∨ k = 15 ∨ k = 16 ∨ k = 17 := by omega
        rcases hc with rfl | rfl | rfl | rfl | rfl | rfl | rfl | rfl | rfl | rfl | rfl | rfl | rfl | rfl | rfl | rfl | rfl | rfl
        · exact e_182_40_0.mpr (case_0 hI hL hiL K)
        · exact e_182_40_1.mpr (case_1 hI hL hiL K)
        · exact e_182_40_2.mpr (c2 hI hL hiL K)
        · exact e_182_40_3.mpr (case_3 hI hL hiL K)
        · exact e_182_40_4.mpr (case_4 hI hL hiL K)
        · exact e_182_40_5.mpr (case_5 hI hL hiL K)
        · exact e_182_40_6.mpr (case_6 hI hL hiL K)
        · exact e_182_40_7.mpr (case_7 hI hL hiL K)
        · exact e_182_40_8.mpr (case_8 hI hL hiL K)
        · exact e_182_40_9.mpr (case_9 hI hL hiL K)
        · exact e_182_40_10.mpr (case_10 hI hL hiL K)
        · exact e_182_40_11.mpr (case_11 hI hL hiL K)
        · exact e_182_40_12.mpr (case_12 hI hL hiL K)
        · exact e_182_40_13.mpr (c13 hI hL hiL K)
        · exact e_182_40_14.mpr (case_14 hI hL hiL K)
        · exact e_182_40_15.mpr (case_15 hI hL hiL K)
        · exact e_182_40_16.mpr (case_16 hI hL hiL K)
        · exact e_182_40_17.mpr (case_17 hI hL hiL K)
      · refine (e_182_40_o (Or.inr ?_)).mpr ?_
        · rw [i_ti (by omega)]; omega
        · simp only [e_182_1190, e_182_1193, i_lit, i_add]
          exact K w l5 l6 l7 hI rfl (by omega) (by omega)
set_option maxRecDepth 100000 in
theorem st_N1 (xs : Nat → Int32) : wN (tForge (nwO (mj_w0 xs) 10) 1) = 128 := rfl
set_option maxRecDepth 100000 in
theorem st_N2 (xs : Nat → Int32) : wN (tMod (nwO (tForge (nwO (mj_w0 xs) 10) 1) 42) 128) = 166 := rfl
theorem law_all (c2 : lwCase 288) (c13 : lwCase 967) (L : Nat) (xs : Nat → Int32) (hL : L ≤ 3072) : mj_Law L xs := by
  have h0 := tStart_N xs
  have hG := Inv_start xs
  have e1 : wN (mj_w0 xs) = 1 := rfl
  have main : mR 100 (mj_w0 xs) 182 0 (mj_ent 182 [vP (30, L, 0)]) [] (lwQ 400000 3000000) := by
    have e : mj_ent 182 [vP (30, L, 0)] = [some (vR (some (30, L, 0))), none, none, none, none, none, none, none, none] := rfl
    rw [e]
    simp only [e0_182_0, e0_182_3, e0_182_4, e1]
    refine k_81 ?_
    have e2 : wN (tForge (nwO (mj_w0 xs) 10) 1) = 128 := st_N1 xs
    simp only [mK_n, e0_182_7, e_182_8, e_182_11, e_182_12, e2]
    refine k_108 ?_
    have e3 : wN (tMod (nwO (tForge (nwO (mj_w0 xs) 10) 1) 42) 128) = 166 := st_N2 xs
    simp only [mK_n, e_182_15, e_182_16, e_182_17, e_182_19, e_182_20, e_182_21, e3]
    refine ⟨by decide, ?_⟩
    exact law_loop c2 c13 hL 512 0 (tStart xs) none none none (by omega) (by omega) hG (by omega) (by omega)
  obtain ⟨f, r, w', hr, hQ, h3, h4⟩ := main
  refine ⟨f, 100, w', ?_, by decide, h3, h4⟩
  rw [hr, hQ]; rfl
