/-! feed: the bytes of a number. -/
def byt (x : Int32) (s : Nat) : Nat := x.toBitVec.toNat / 2 ^ s % 256
theorem byt_lt (x : Int32) (s : Nat) : byt x s < 256 := Nat.mod_lt _ (by decide)
theorem bt_ofNat (m : Nat) {p : Nat} (hp : p < 32) : bt (Int32.ofNat m) p = m.testBit p := by
  show (BitVec.ofNat 32 m).getLsbD p = _
  rw [BitVec.getLsbD_ofNat, decide_eq_true hp, Bool.true_and]
theorem bt_255 {p : Nat} (hp : p < 32) : bt (Int32.ofNat 255) p = decide (p < 8) := by
  revert p; decide
theorem bt_byt (x : Int32) (s : Nat) {p : Nat} (hp : p < 32) : bt (Int32.ofNat (byt x s)) p = (decide (p < 8) && bt x (s + p)) := by
  rw [bt_ofNat _ hp]
  unfold byt
  rw [show (256 : Nat) = 2 ^ 8 from rfl, Nat.testBit_mod_two_pow, Nat.testBit_div_two_pow]
  rw [Nat.add_comm p s]
  rfl
theorem byt_u (x : Int32) {s : Nat} (hs : s < 32) : (x.toUInt32 >>> ((Int32.ofNat s).toUInt32 &&& (Int32.ofNat 31).toUInt32)).toInt32 &&& Int32.ofNat 255 = Int32.ofNat (byt x s) := by
  apply bt_ext
  intro p hp
  rw [bt_and, bt_ur hs, bt_255 hp, bt_byt x s hp, Bool.and_comm]
theorem byt_s (x : Int32) {s : Nat} (hs : s ≤ 24) : (x >>> (Int32.ofNat s &&& Int32.ofNat 31)) &&& Int32.ofNat 255 = Int32.ofNat (byt x s) := by
  apply bt_ext
  intro p hp
  rw [bt_and, bt_255 hp, bt_byt x s hp, Bool.and_comm]
  by_cases h : p < 8
  · rw [bt_sr (by omega) x p (by omega)]
  · rw [decide_eq_false h]; rfl
theorem G_sFI {w : MWd} {k a : Nat} {v : Int32} (G : Gr w) : Gr (sFI w k a v) := G
theorem G_sAI {w : MWd} {k a : Nat} {v : Int32} (G : Gr w) : Gr (sAI w k a v) := G
theorem G_sAJ {w : MWd} {k a : Nat} {v : Int64} (G : Gr w) : Gr (sAJ w k a v) := G
theorem G_tick {w : MWd} (G : Gr w) : Gr (mj_tick w) := G
/-- the store behind one byte, of the class and of the reference -/
def pt1 (w : MWd) (n b : Nat) : MWd := sFI (sAI w 3 n (Int32.ofNat b)) 449 2 (Int32.ofNat (n + 1))
def pt2 (w : MWd) (n b : Nat) : MWd := sFI (sAI w 129 n (Int32.ofNat b)) 642 128 (Int32.ofNat (n + 1))
theorem k_78_3 {d n s : Nat} {w : MWd} {x : Int32} {Q : MRes → MWd → Prop} (G : Gr w) (hn : n < 1000) (h1 : wFI w 449 2 = Int32.ofNat n) (hs : s < 32)
    (h : mR d (pt1 w n (byt x s)) 78 3 [some (vR (some (7, 0, 2))), some (vI x), some (vI (Int32.ofNat s + -8))] [] Q) : mR d w 78 3 [some (vR (some (7, 0, 2))), some (vI x), some (vI (Int32.ofNat s))] [] Q := by
  rw [e_78_3]
  simp (disch := omega) only [e_78_0, e_78_2, e_78_4, e_78_7, e_78_8, e_78_11, e_78_14, e_78_15, e_78_18, e_78_21, e_78_24, e_78_25, e_78_28, e_78_29, e_78_32, e_78_33, e_78_34, e_78_35, e_78_38, e_78_39, e_78_40, e_78_41, e_78_42, e_78_45, e_78_46, e_78_47, e_78_50, e_78_53, e_78_56, g_448 G, h1, wrd, u2, i_lit, i_add, i_cl, i_lt, i_le, i_in, byt_u]
  refine ⟨fun q => by omega, fun _ => ⟨fun q => by omega, fun _ => ⟨fun q => by omega, fun _ => ⟨hn, ?_⟩⟩⟩⟩
  exact h
theorem k_113_3 {d n s : Nat} {w : MWd} {x : Int32} {Q : MRes → MWd → Prop} (G : Gr w) (hn : n < 1000) (h1 : wFI w 642 128 = Int32.ofNat n) (hs : s ≤ 24)
    (h : mR d (pt2 w n (byt x s)) 113 3 [some (vR (some (10, 0, 128))), some (vI x), some (vI (Int32.ofNat s + -8))] [] Q) : mR d w 113 3 [some (vR (some (10, 0, 128))), some (vI x), some (vI (Int32.ofNat s))] [] Q := by
  rw [e_113_3]
  simp (disch := omega) only [e_113_0, e_113_2, e_113_4, e_113_7, e_113_8, e_113_11, e_113_12, e_113_15, e_113_16, e_113_17, e_113_18, e_113_21, e_113_22, e_113_23, e_113_24, e_113_25, e_113_28, e_113_29, e_113_30, e_113_33, e_113_36, e_113_39, g_641 G, h1, wrd, u2, i_lit, i_add, i_cl, i_lt, i_le, i_in, byt_s]
  exact ⟨fun q => by omega, fun _ => ⟨hn, h⟩⟩
theorem pt1_Fr {F : Nat → Nat → Prop} {R : Nat → Prop} {w w' : MWd} {n b x y : Nat} (h : Fr F R x y w w') (hF : F 449 2) (hR : R 3) : Fr F R x y w (pt1 w' n b) := Fr_sFI (Fr_sAI h (Or.inl hR)) (Or.inl hF)
theorem pt2_Fr {F : Nat → Nat → Prop} {R : Nat → Prop} {w w' : MWd} {n b x y : Nat} (h : Fr F R x y w w') (hF : F 642 128) (hR : R 129) : Fr F R x y w (pt2 w' n b) := Fr_sFI (Fr_sAI h (Or.inl hR)) (Or.inl hF)
def p41 (w : MWd) (n : Nat) (x : Int32) : MWd := pt1 (pt1 (pt1 (pt1 w n (byt x 24)) (n + 1) (byt x 16)) (n + 2) (byt x 8)) (n + 3) (byt x 0)
def p42 (w : MWd) (n : Nat) (x : Int32) : MWd := pt2 (pt2 (pt2 (pt2 w n (byt x 24)) (n + 1) (byt x 16)) (n + 2) (byt x 8)) (n + 3) (byt x 0)
theorem pt1_G {w : MWd} {n b : Nat} (G : Gr w) : Gr (pt1 w n b) := Fr_Gr (F := fun _ _ => True) (R := fun _ => True) (x := 0) (y := 0) (pt1_Fr Fr_refl trivial trivial) G
theorem pt2_G {w : MWd} {n b : Nat} (G : Gr w) : Gr (pt2 w n b) := Fr_Gr (F := fun _ _ => True) (R := fun _ => True) (x := 0) (y := 0) (pt2_Fr Fr_refl trivial trivial) G
theorem pt1_n {w : MWd} {n b : Nat} : wFI (pt1 w n b) 449 2 = Int32.ofNat (n + 1) := rfl
theorem pt2_n {w : MWd} {n b : Nat} : wFI (pt2 w n b) 642 128 = Int32.ofNat (n + 1) := rfl
theorem s_78 {d n : Nat} {w : MWd} {x : Int32} {Q : MRes → MWd → Prop} (G : Gr w) (hn : n + 4 ≤ 1000) (h1 : wFI w 449 2 = Int32.ofNat n) (h : Q (.inl none) (p41 w n x)) : mR d w 78 0 [some (vR (some (7, 0, 2))), some (vI x), none] [] Q := by
  rw [e_78_0, e_78_2]
  refine k_78_3 (s := 24) G (by omega) h1 (by decide) ?_
  refine k_78_3 (s := 16) (pt1_G G) (by omega) pt1_n (by decide) ?_
  refine k_78_3 (s := 8) (pt1_G (pt1_G G)) (by omega) pt1_n (by decide) ?_
  refine k_78_3 (s := 0) (pt1_G (pt1_G (pt1_G G))) (by omega) pt1_n (by decide) ?_
  rw [e_78_3]
  simp only [e_78_0, e_78_2, e_78_4, e_78_7, e_78_8, e_78_11, e_78_14, e_78_15, e_78_18, e_78_21, e_78_24, e_78_25, e_78_28, e_78_29, e_78_32, e_78_33, e_78_34, e_78_35, e_78_38, e_78_39, e_78_40, e_78_41, e_78_42, e_78_45, e_78_46, e_78_47, e_78_50, e_78_53, e_78_56]
  exact ⟨fun _ => h, fun q => absurd q (by decide)⟩
theorem s_113 {d n : Nat} {w : MWd} {x : Int32} {Q : MRes → MWd → Prop} (G : Gr w) (hn : n + 4 ≤ 1000) (h1 : wFI w 642 128 = Int32.ofNat n) (h : Q (.inl none) (p42 w n x)) : mR d w 113 0 [some (vR (some (10, 0, 128))), some (vI x), none] [] Q := by
  rw [e_113_0, e_113_2]
  refine k_113_3 (s := 24) G (by omega) h1 (by decide) ?_
  refine k_113_3 (s := 16) (pt2_G G) (by omega) pt2_n (by decide) ?_
  refine k_113_3 (s := 8) (pt2_G (pt2_G G)) (by omega) pt2_n (by decide) ?_
  refine k_113_3 (s := 0) (pt2_G (pt2_G (pt2_G G))) (by omega) pt2_n (by decide) ?_
  rw [e_113_3]
  simp only [e_113_0, e_113_2, e_113_4, e_113_7, e_113_8, e_113_11, e_113_12, e_113_15, e_113_16, e_113_17, e_113_18, e_113_21, e_113_22, e_113_23, e_113_24, e_113_25, e_113_28, e_113_29, e_113_30, e_113_33, e_113_36, e_113_39]
  exact ⟨fun _ => h, fun q => absurd q (by decide)⟩
def putN (f : Nat → Int32) (n b : Nat) : Nat → Int32 := fun i => if i = n then Int32.ofNat b else f i
def put4 (f : Nat → Int32) (n : Nat) (x : Int32) : Nat → Int32 := putN (putN (putN (putN f n (byt x 24)) (n + 1) (byt x 16)) (n + 2) (byt x 8)) (n + 3) (byt x 0)
def tEq (f g : Nat → Int32) (n : Nat) : Prop := ∀ i, i < n → ∃ b : Nat, b < 256 ∧ f i = Int32.ofNat b ∧ g i = Int32.ofNat b
theorem tEq_put {f g : Nat → Int32} {n b : Nat} (h : tEq f g n) (hb : b < 256) : tEq (putN f n b) (putN g n b) (n + 1) := by
  intro i hi
  unfold putN
  by_cases h1 : i = n
  · rw [if_pos h1, if_pos h1]; exact ⟨b, hb, rfl, rfl⟩
  · rw [if_neg h1, if_neg h1]; exact h i (by omega)
theorem tEq_put4 {f g : Nat → Int32} {n : Nat} (h : tEq f g n) (x : Int32) : tEq (put4 f n x) (put4 g n x) (n + 4) :=
  tEq_put (tEq_put (tEq_put (tEq_put h (byt_lt _ _)) (byt_lt _ _)) (byt_lt _ _)) (byt_lt _ _)
theorem pt1_r {w : MWd} {n b : Nat} : wAI (pt1 w n b) 3 = putN (wAI w 3) n b := by
  funext i
  show u2 (wAI w) 3 n (Int32.ofNat b) 3 i = _
  unfold u2 putN
  simp only [true_and]
theorem pt2_r {w : MWd} {n b : Nat} : wAI (pt2 w n b) 129 = putN (wAI w 129) n b := by
  funext i
  show u2 (wAI w) 129 n (Int32.ofNat b) 129 i = _
  unfold u2 putN
  simp only [true_and]
theorem p41_r {w : MWd} {n : Nat} {x : Int32} : wAI (p41 w n x) 3 = put4 (wAI w 3) n x := by
  unfold p41 put4
  rw [pt1_r, pt1_r, pt1_r, pt1_r]
theorem p42_r {w : MWd} {n : Nat} {x : Int32} : wAI (p42 w n x) 129 = put4 (wAI w 129) n x := by
  unfold p42 put4
  rw [pt2_r, pt2_r, pt2_r, pt2_r]
theorem p41_Fr {w : MWd} {n : Nat} {x : Int32} : Fr (fun k a => k = 449 ∧ a = 2) (fun a => a = 3) 0 0 w (p41 w n x) := pt1_Fr (pt1_Fr (pt1_Fr (pt1_Fr Fr_refl ⟨rfl, rfl⟩ rfl) ⟨rfl, rfl⟩ rfl) ⟨rfl, rfl⟩ rfl) ⟨rfl, rfl⟩ rfl
theorem p42_Fr {w : MWd} {n : Nat} {x : Int32} : Fr (fun k a => k = 642 ∧ a = 128) (fun a => a = 129) 0 0 w (p42 w n x) := pt2_Fr (pt2_Fr (pt2_Fr (pt2_Fr Fr_refl ⟨rfl, rfl⟩ rfl) ⟨rfl, rfl⟩ rfl) ⟨rfl, rfl⟩ rfl) ⟨rfl, rfl⟩ rfl
theorem p41_n {w : MWd} {n : Nat} {x : Int32} : wFI (p41 w n x) 449 2 = Int32.ofNat (n + 4) := rfl
theorem p42_n {w : MWd} {n : Nat} {x : Int32} : wFI (p42 w n x) 642 128 = Int32.ofNat (n + 4) := rfl
theorem p41_G {w : MWd} {n : Nat} {x : Int32} (G : Gr w) : Gr (p41 w n x) := Fr_Gr p41_Fr G
theorem p42_G {w : MWd} {n : Nat} {x : Int32} (G : Gr w) : Gr (p42 w n x) := Fr_Gr p42_Fr G
def p415 (w : MWd) (n : Nat) (x1 x2 x3 x4 x5 : Int32) : MWd := (p41 (p41 (p41 (p41 (p41 w n x1) (n + 4) x2) (n + 8) x3) (n + 12) x4) (n + 16) x5)
def p425 (w : MWd) (n : Nat) (x1 x2 x3 x4 x5 : Int32) : MWd := (p42 (p42 (p42 (p42 (p42 w n x1) (n + 4) x2) (n + 8) x3) (n + 12) x4) (n + 16) x5)
def put5 (f : Nat → Int32) (n : Nat) (x1 x2 x3 x4 x5 : Int32) : Nat → Int32 := put4 (put4 (put4 (put4 (put4 f n x1) (n + 4) x2) (n + 8) x3) (n + 12) x4) (n + 16) x5
theorem p415_r {w : MWd} {n : Nat} {x1 x2 x3 x4 x5 : Int32} : wAI (p415 w n x1 x2 x3 x4 x5) 3 = put5 (wAI w 3) n x1 x2 x3 x4 x5 := by
  unfold p415 put5
  rw [p41_r, p41_r, p41_r, p41_r, p41_r]
theorem p425_r {w : MWd} {n : Nat} {x1 x2 x3 x4 x5 : Int32} : wAI (p425 w n x1 x2 x3 x4 x5) 129 = put5 (wAI w 129) n x1 x2 x3 x4 x5 := by
  unfold p425 put5
  rw [p42_r, p42_r, p42_r, p42_r, p42_r]
theorem p415_n {w : MWd} {n : Nat} {x1 x2 x3 x4 x5 : Int32} : wFI (p415 w n x1 x2 x3 x4 x5) 449 2 = Int32.ofNat (n + 20) := p41_n
theorem p425_n {w : MWd} {n : Nat} {x1 x2 x3 x4 x5 : Int32} : wFI (p425 w n x1 x2 x3 x4 x5) 642 128 = Int32.ofNat (n + 20) := p42_n
theorem p415_Fr {w : MWd} {n : Nat} {x1 x2 x3 x4 x5 : Int32} : Fr (fun k a => k = 449 ∧ a = 2) (fun a => a = 3) 0 0 w (p415 w n x1 x2 x3 x4 x5) :=
  Fr_trans (x := 0) (y := 0) (x' := 0) (y' := 0) (Fr_trans (x := 0) (y := 0) (x' := 0) (y' := 0) (Fr_trans (x := 0) (y := 0) (x' := 0) (y' := 0) (Fr_trans (x := 0) (y := 0) (x' := 0) (y' := 0) p41_Fr p41_Fr) p41_Fr) p41_Fr) p41_Fr
theorem p425_Fr {w : MWd} {n : Nat} {x1 x2 x3 x4 x5 : Int32} : Fr (fun k a => k = 642 ∧ a = 128) (fun a => a = 129) 0 0 w (p425 w n x1 x2 x3 x4 x5) :=
  Fr_trans (x := 0) (y := 0) (x' := 0) (y' := 0) (Fr_trans (x := 0) (y := 0) (x' := 0) (y' := 0) (Fr_trans (x := 0) (y := 0) (x' := 0) (y' := 0) (Fr_trans (x := 0) (y := 0) (x' := 0) (y' := 0) p42_Fr p42_Fr) p42_Fr) p42_Fr) p42_Fr
theorem tEq_put5 {f g : Nat → Int32} {n : Nat} (h : tEq f g n) (x1 x2 x3 x4 x5 : Int32) : tEq (put5 f n x1 x2 x3 x4 x5) (put5 g n x1 x2 x3 x4 x5) (n + 20) :=
  tEq_put4 (tEq_put4 (tEq_put4 (tEq_put4 (tEq_put4 h x1) x2) x3) x4) x5
theorem s_82 {d n : Nat} {w : MWd} {x1 x2 x3 x4 x5 : Int32} {Q : MRes → MWd → Prop} (G : Gr w) (hn : n + 20 ≤ 1000) (h1 : wFI w 449 2 = Int32.ofNat n)
    (h : Q (.inl (some (vI (Int32.ofNat (n + 20))))) (p415 w n x1 x2 x3 x4 x5)) :
    mR (d + 2) w 82 0 [some (vR (some (8, 0, 1))), some (vI x1), some (vI x2), some (vI x3), some (vI x4), some (vI x5)] [] Q := by
  have G1 := p41_G (n := n) (x := x1) G
  have G2 := p41_G (n := n + 4) (x := x2) G1
  have G3 := p41_G (n := n + 8) (x := x3) G2
  have G4 := p41_G (n := n + 12) (x := x4) G3
  have G5 := p41_G (n := n + 16) (x := x5) G4
  simp (disch := omega) only [e_82_0, e_82_1, e_82_4, e_82_7, e_82_10, e_82_13, e_82_23, e_82_24, e_82_27, e_82_28, e_82_31, e_82_32, e_82_35, e_82_36, e_82_39, e_82_40, e_82_43, e_82_44, e_82_47, e_82_48, e_82_51, e_82_53, e_82_56, e_82_57, e_82_60, e_82_62, e_82_65, e_82_66, e_82_69, e_82_72, g_512 G, h1, i_lit, i_add, i_mul, i_m1, i_lt, i_le, i_eq, i_cl, i_in, i_ltN, i_Nlt, i_leN, i_Nle, i_eN, i_Ne, i_inN, i_l1, i_l2]
  refine ⟨fun _ => ?_, fun q => by omega⟩
  refine s_78 G (by omega) h1 ?_
  simp only [mK_n, e_82_0, e_82_1, e_82_4, e_82_7, e_82_10, e_82_13, e_82_23, e_82_24, e_82_27, e_82_28, e_82_31, e_82_32, e_82_35, e_82_36, e_82_39, e_82_40, e_82_43, e_82_44, e_82_47, e_82_48, e_82_51, e_82_53, e_82_56, e_82_57, e_82_60, e_82_62, e_82_65, e_82_66, e_82_69, e_82_72, g_512 G1]
  refine s_78 G1 (by omega) p41_n ?_
  simp only [mK_n, e_82_0, e_82_1, e_82_4, e_82_7, e_82_10, e_82_13, e_82_23, e_82_24, e_82_27, e_82_28, e_82_31, e_82_32, e_82_35, e_82_36, e_82_39, e_82_40, e_82_43, e_82_44, e_82_47, e_82_48, e_82_51, e_82_53, e_82_56, e_82_57, e_82_60, e_82_62, e_82_65, e_82_66, e_82_69, e_82_72, g_512 G2]
  refine s_78 G2 (by omega) p41_n ?_
  simp only [mK_n, e_82_0, e_82_1, e_82_4, e_82_7, e_82_10, e_82_13, e_82_23, e_82_24, e_82_27, e_82_28, e_82_31, e_82_32, e_82_35, e_82_36, e_82_39, e_82_40, e_82_43, e_82_44, e_82_47, e_82_48, e_82_51, e_82_53, e_82_56, e_82_57, e_82_60, e_82_62, e_82_65, e_82_66, e_82_69, e_82_72, g_512 G3]
  refine s_78 G3 (by omega) p41_n ?_
  simp only [mK_n, e_82_0, e_82_1, e_82_4, e_82_7, e_82_10, e_82_13, e_82_23, e_82_24, e_82_27, e_82_28, e_82_31, e_82_32, e_82_35, e_82_36, e_82_39, e_82_40, e_82_43, e_82_44, e_82_47, e_82_48, e_82_51, e_82_53, e_82_56, e_82_57, e_82_60, e_82_62, e_82_65, e_82_66, e_82_69, e_82_72, g_512 G4]
  refine s_78 G4 (by omega) p41_n ?_
  simp only [mK_n, e_82_0, e_82_1, e_82_4, e_82_7, e_82_10, e_82_13, e_82_23, e_82_24, e_82_27, e_82_28, e_82_31, e_82_32, e_82_35, e_82_36, e_82_39, e_82_40, e_82_43, e_82_44, e_82_47, e_82_48, e_82_51, e_82_53, e_82_56, e_82_57, e_82_60, e_82_62, e_82_65, e_82_66, e_82_69, e_82_72, g_512 G5, p41_n]
  exact h
theorem s_112 {d n : Nat} {w : MWd} {x1 x2 x3 x4 x5 : Int32} {Q : MRes → MWd → Prop} (G : Gr w) (hn : n + 20 ≤ 1000) (h1 : wFI w 642 128 = Int32.ofNat n)
    (h : Q (.inl (some (vI (Int32.ofNat (n + 20))))) (p425 (sFI w 640 128 (Int32.ofNat 0)) n x1 x2 x3 x4 x5)) :
    mR (d + 2) w 112 0 [some (vR (some (10, 0, 128))), some (vI x1), some (vI x2), some (vI x3), some (vI x4), some (vI x5)] [] Q := by
  have G0 : Gr (sFI w 640 128 (Int32.ofNat 0)) := Fr_Gr (F := scF) (R := scA) (x := 0) (y := 0) (w := w) (by (repeat first | exact Fr_refl | refine Fr_sAJ ?_ (by first | omega | (unfold scA; omega) | (unfold tpA scA; omega)) | refine Fr_cpJ ?_ (by omega) | refine Fr_sFI ?_ (by first | omega | (unfold scF; omega) | (unfold tpF scF; omega)) | refine Fr_sAI ?_ (by first | omega | (unfold scA; omega) | (unfold tpA scA; omega)) | refine Fr_cpI ?_ (by first | omega | (unfold scA; omega) | (unfold tpA scA; omega)) | with_reducible apply Fr_tick); done) G
  have G1 := p42_G (n := n) (x := x1) G0
  have G2 := p42_G (n := n + 4) (x := x2) G1
  have G3 := p42_G (n := n + 8) (x := x3) G2
  have G4 := p42_G (n := n + 12) (x := x4) G3
  have G5 := p42_G (n := n + 16) (x := x5) G4
  simp (disch := omega) only [e_112_0, e_112_1, e_112_2, e_112_5, e_112_6, e_112_9, e_112_11, e_112_12, e_112_15, e_112_18, e_112_19, e_112_20, e_112_23, e_112_24, e_112_25, e_112_26, e_112_29, e_112_30, e_112_31, e_112_34, e_112_35, e_112_36, e_112_39, e_112_40, e_112_42, e_112_45, e_112_46, e_112_48, e_112_51, e_112_52, e_112_55, h1, i_lit, i_add, i_mul, i_m1, i_lt, i_le, i_eq, i_cl, i_in, i_ltN, i_Nlt, i_leN, i_Nle, i_eN, i_Ne, i_inN, i_l1, i_l2, mj_cpok, mj_nn, reduceCtorEq, lg_self, Nat.not_lt_zero, Nat.zero_le, Nat.reduceEqDiff, Nat.reduceLT, Nat.reduceLeDiff, true_or, or_true, false_or, or_false, not_true_eq_false, not_false_eq_true, true_imp_iff, false_imp_iff, and_self, wrd, u2, and_true, true_and, and_false, false_and, and_self, ite_true, ite_false, reduceIte]
  refine ⟨fun _ => ?_, fun q => by omega⟩
  refine s_113 G0 (by omega) h1 ?_
  simp only [mK_n, e_112_0, e_112_1, e_112_2, e_112_5, e_112_6, e_112_9, e_112_11, e_112_12, e_112_15, e_112_18, e_112_19, e_112_20, e_112_23, e_112_24, e_112_25, e_112_26, e_112_29, e_112_30, e_112_31, e_112_34, e_112_35, e_112_36, e_112_39, e_112_40, e_112_42, e_112_45, e_112_46, e_112_48, e_112_51, e_112_52, e_112_55]
  refine s_113 G1 (by omega) p42_n ?_
  simp only [mK_n, e_112_0, e_112_1, e_112_2, e_112_5, e_112_6, e_112_9, e_112_11, e_112_12, e_112_15, e_112_18, e_112_19, e_112_20, e_112_23, e_112_24, e_112_25, e_112_26, e_112_29, e_112_30, e_112_31, e_112_34, e_112_35, e_112_36, e_112_39, e_112_40, e_112_42, e_112_45, e_112_46, e_112_48, e_112_51, e_112_52, e_112_55]
  refine s_113 G2 (by omega) p42_n ?_
  simp only [mK_n, e_112_0, e_112_1, e_112_2, e_112_5, e_112_6, e_112_9, e_112_11, e_112_12, e_112_15, e_112_18, e_112_19, e_112_20, e_112_23, e_112_24, e_112_25, e_112_26, e_112_29, e_112_30, e_112_31, e_112_34, e_112_35, e_112_36, e_112_39, e_112_40, e_112_42, e_112_45, e_112_46, e_112_48, e_112_51, e_112_52, e_112_55]
  refine s_113 G3 (by omega) p42_n ?_
  simp only [mK_n, e_112_0, e_112_1, e_112_2, e_112_5, e_112_6, e_112_9, e_112_11, e_112_12, e_112_15, e_112_18, e_112_19, e_112_20, e_112_23, e_112_24, e_112_25, e_112_26, e_112_29, e_112_30, e_112_31, e_112_34, e_112_35, e_112_36, e_112_39, e_112_40, e_112_42, e_112_45, e_112_46, e_112_48, e_112_51, e_112_52, e_112_55]
  refine s_113 G4 (by omega) p42_n ?_
  simp only [mK_n, e_112_0, e_112_1, e_112_2, e_112_5, e_112_6, e_112_9, e_112_11, e_112_12, e_112_15, e_112_18, e_112_19, e_112_20, e_112_23, e_112_24, e_112_25, e_112_26, e_112_29, e_112_30, e_112_31, e_112_34, e_112_35, e_112_36, e_112_39, e_112_40, e_112_42, e_112_45, e_112_46, e_112_48, e_112_51, e_112_52, e_112_55, p42_n]
  exact h
