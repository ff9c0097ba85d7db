/-! The constructors with loops, and the class's and the reference's whole start. -/
def tRule (w : MWd) (a : Nat) : MWd := sFR (nwA (sFR (nwA w 30) 320 a (some (20, 30, wN w))) 8) 321 a (some (20, 8, wN w + 1))
def tBk (b : Nat) : Nat → Nat → MWd → MWd
  | 0, _, w => w
  | n + 1, i, w => tBk b n (i + 1) (sAR (tRule (nwO w 15) (wN w)) b i (some (5, 0, wN w)))
theorem k_71_l {d : Nat} {Q : MRes → MWd → Prop} {a b : Nat} : ∀ (n i : Nat) (w : MWd), i + n = 12 → wFR w 384 a = some (24, 12, b) → a < wN w → Q (.inl none) (tBk b n i w) →
    mR (d + 1) w 71 15 [some (vR (some (6, 0, a))), some (vI (Int32.ofNat i))] [] Q
  | 0, i, w, hi, hr, ha, h => by
    simp only [e_71_15, e_71_0, e_71_1, e_71_4, e_71_5, e_71_7, e_71_10, e_71_13, e_71_14, e_71_16, e_71_18, e_71_21, e_71_22, e_71_25, e_71_26, e_71_29, e_71_30, e_71_33, e_71_34, e_71_37, e_71_40, i_lit, i_add, i_mul, i_m1, i_lt, i_le, i_eq, i_cl, i_in, i_ltN, i_Nlt, i_leN, i_Nle, i_eN, i_Ne, i_inN]
    have hi' : i = 12 := by omega
    subst hi'
    exact ⟨fun _ => h, fun h9 => absurd h9 (by decide)⟩
  | n + 1, i, w, hi, hr, ha, h => by
    refine k_71_15 hr (by omega) (show Int32.ofNat 0 ≤ Int32.ofNat i from (i_le (by omega) (by omega)).mpr (Nat.zero_le i)) (show Int32.ofNat i < Int32.ofNat 12 from (i_lt (by omega) (by omega)).mpr (by omega)) ?_
    simp only [i_lit, i_add, i_mul, i_m1, i_lt, i_le, i_eq, i_cl, i_in, i_ltN, i_Nlt, i_leN, i_Nle, i_eN, i_Ne, i_inN]
    refine k_71_l (b := b) n (i + 1) _ (by omega) ?_ ?_ ?_
    · simp only [wrd, hr]
      simp (disch := omega) only [if_neg, u2]
      exact hr
    · simp only [wrd]; omega
    · rw [i_cl (by omega)]; exact h
def tBook (w : MWd) (a : Nat) : MWd := tBk (wN w) 12 0 (sFR (nwA w 12) 384 a (some (24, 12, wN w)))
theorem k_71 {d : Nat} {Q : MRes → MWd → Prop} {a : Nat} {w : MWd} (ha : a < wN w) (h : Q (.inl none) (tBook w a)) : mR (d + 1) w 71 0 [some (vR (some (6, 0, a))), none] [] Q := by
  simp only [e_71_0, e_71_1, e_71_4, e_71_5, e_71_7, e_71_10, e_71_13, e_71_14, e_71_16, e_71_18, e_71_21, e_71_22, e_71_25, e_71_26, e_71_29, e_71_30, e_71_33, e_71_34, e_71_37, e_71_40]
  refine ⟨by decide, ?_⟩
  refine k_71_l 12 0 _ (by omega) ?_ ?_ h
  · simp only [wrd, u2, and_true, true_and, and_false, false_and, and_self, ite_true, ite_false, reduceIte]
    rfl
  · simp only [wrd]; omega
def tMach (w : MWd) (a : Nat) : MWd := sFR (nwA (sFR (nwA (sFR (nwA (sFR (nwA (sFR (nwA (sFR (nwA (sFR (nwA w 800) 64 a (some (20, 800, wN w))) 100) 65 a (some (20, 100, wN w + 1))) 100) 66 a (some (20, 100, wN w + 2))) 100) 67 a (some (20, 100, wN w + 3))) 100) 68 a (some (20, 100, wN w + 4))) 100) 69 a (some (21, 100, wN w + 5))) 100) 70 a (some (21, 100, wN w + 6))
def tMs (b : Nat) : Nat → Nat → MWd → MWd
  | 0, _, w => w
  | n + 1, i, w => tMs b n (i + 1) (sAR (tMach (nwO w 8) (wN w)) b i (some (1, 0, wN w)))
theorem k_23_l {d : Nat} {Q : MRes → MWd → Prop} {a b : Nat} : ∀ (n i : Nat) (w : MWd), i + n = 4 → wFR w 128 a = some (23, 4, b) → a < wN w → Q (.inl none) (tMs b n i w) →
    mR (d + 1) w 23 14 [some (vR (some (2, 0, a))), some (vI (Int32.ofNat i))] [] Q
  | 0, i, w, hi, hr, ha, h => by
    simp only [e_23_14, e_23_0, e_23_1, e_23_4, e_23_5, e_23_6, e_23_9, e_23_12, e_23_13, e_23_15, e_23_16, e_23_19, e_23_20, e_23_23, e_23_24, e_23_27, e_23_28, e_23_31, e_23_32, e_23_35, e_23_38, i_lit, i_add, i_mul, i_m1, i_lt, i_le, i_eq, i_cl, i_in, i_ltN, i_Nlt, i_leN, i_Nle, i_eN, i_Ne, i_inN]
    have hi' : i = 4 := by omega
    subst hi'
    exact ⟨fun _ => h, fun h9 => absurd h9 (by decide)⟩
  | n + 1, i, w, hi, hr, ha, h => by
    simp (disch := omega) only [e_23_14, e_23_0, e_23_1, e_23_4, e_23_5, e_23_6, e_23_9, e_23_12, e_23_13, e_23_15, e_23_16, e_23_19, e_23_20, e_23_23, e_23_24, e_23_27, e_23_28, e_23_31, e_23_32, e_23_35, e_23_38, i_lit, i_add, i_mul, i_m1, i_lt, i_le, i_eq, i_cl, i_in, i_ltN, i_Nlt, i_leN, i_Nle, i_eN, i_Ne, i_inN]
    refine ⟨fun h9 => by omega, fun _ => ?_⟩
    simp (disch := omega) only [wrd, u2, and_true, true_and, and_false, false_and, and_self, ite_true, ite_false, reduceIte, hr, if_neg, if_pos]
    refine k_12 ?_
    simp (disch := omega) only [mK_n, e_23_0, e_23_1, e_23_4, e_23_5, e_23_6, e_23_9, e_23_12, e_23_13, e_23_15, e_23_16, e_23_19, e_23_20, e_23_23, e_23_24, e_23_27, e_23_28, e_23_31, e_23_32, e_23_35, e_23_38, wrd, u2, and_true, true_and, and_false, false_and, and_self, ite_true, ite_false, reduceIte, i_lit, i_add, i_mul, i_m1, i_lt, i_le, i_eq, i_cl, i_in, i_ltN, i_Nlt, i_leN, i_Nle, i_eN, i_Ne, i_inN]
    refine ⟨⟨Or.inl trivial, by omega⟩, ?_⟩
    refine k_23_l (b := b) n (i + 1) _ (by omega) ?_ ?_ ?_
    · simp only [wrd, hr]
      simp (disch := omega) only [if_neg, u2]
      exact hr
    · simp only [wrd]; omega
    · exact h
def tSet (w : MWd) (a : Nat) : MWd := tMs (wN w) 4 0 (sFR (nwA w 4) 128 a (some (23, 4, wN w)))
theorem k_23 {d : Nat} {Q : MRes → MWd → Prop} {a : Nat} {w : MWd} (ha : a < wN w) (h : Q (.inl none) (tSet w a)) : mR (d + 1) w 23 0 [some (vR (some (2, 0, a))), none] [] Q := by
  simp only [e_23_0, e_23_1, e_23_4, e_23_5, e_23_6, e_23_9, e_23_12, e_23_13, e_23_15, e_23_16, e_23_19, e_23_20, e_23_23, e_23_24, e_23_27, e_23_28, e_23_31, e_23_32, e_23_35, e_23_38]
  refine ⟨by decide, ?_⟩
  refine k_23_l 4 0 _ (by omega) ?_ ?_ h
  · simp only [wrd, u2, and_true, true_and, and_false, false_and, and_self, ite_true, ite_false, reduceIte]
    rfl
  · simp only [wrd]; omega
def tTape (w : MWd) (a : Nat) : MWd := sFR (nwA w 1000) 448 a (some (20, 1000, wN w))
def tRead (w : MWd) (a : Nat) : MWd := sFR (nwA (sFR (nwA (sFR (nwA (sFR (nwA w 40) 256 a (some (20, 40, wN w))) 40) 257 a (some (20, 40, wN w + 1))) 40) 258 a (some (20, 40, wN w + 2))) 40) 259 a (some (22, 40, wN w + 3))
def tMake (w : MWd) (a : Nat) : MWd := sFR (nwA (sFR (nwA (sFR (nwA (sFR (nwA (sFR (nwA (sFR (nwA (sFR (nwA (sFR (nwA (sFR (nwA w 1200) 192 a (some (20, 1200, wN w))) 800) 193 a (some (20, 800, wN w + 1))) 100) 194 a (some (20, 100, wN w + 2))) 12) 195 a (some (20, 12, wN w + 3))) 12) 196 a (some (20, 12, wN w + 4))) 100) 197 a (some (20, 100, wN w + 5))) 100) 198 a (some (20, 100, wN w + 6))) 100) 199 a (some (20, 100, wN w + 7))) 100) 200 a (some (20, 100, wN w + 8))
def tCut (w : MWd) (a : Nat) : MWd := sFR (nwA (sFR (nwA w 2000) 0 a (some (20, 2000, wN w))) 1001) 1 a (some (22, 1001, wN w + 1))
def tPart (w : MWd) (a N c key : Nat) (t : MWd → Nat → MWd) : MWd := sFR (t (nwO w N) (wN w)) key a (some (c, 0, wN w))
def tForge (w : MWd) (a : Nat) : MWd := sFI (tPart (tPart (tPart (tPart (tPart (tPart (tPart w a 2 7 512 tTape) a 2 6 513 tBook) a 7 4 514 tRead) a 10 3 515 tMake) a 9 0 516 tCut) a 1 2 517 tSet) a 1 2 518 tSet) 521 a (-1)
theorem k_81 {d : Nat} {Q : MRes → MWd → Prop} {a : Nat} {w : MWd} (h : Q (.inl none) (tForge w a)) : mR (d + 2) w 81 0 [some (vR (some (8, 0, a)))] [] Q := by
  simp only [e_81_0, e_81_1, e_81_4, e_81_5, e_81_8, e_81_9, e_81_12, e_81_15, e_81_16, e_81_19, e_81_20, e_81_23, e_81_26, e_81_27, e_81_30, e_81_31, e_81_34, e_81_37, e_81_38, e_81_41, e_81_42, e_81_45, e_81_48, e_81_49, e_81_52, e_81_53, e_81_56, e_81_59, e_81_60, e_81_63, e_81_64, e_81_67, e_81_70, e_81_71, e_81_74, e_81_75, e_81_78, e_81_81, e_81_82, e_81_83, e_81_86]
  refine k_77 ?_
  simp only [mK_n, e_81_0, e_81_1, e_81_4, e_81_5, e_81_8, e_81_9, e_81_12, e_81_15, e_81_16, e_81_19, e_81_20, e_81_23, e_81_26, e_81_27, e_81_30, e_81_31, e_81_34, e_81_37, e_81_38, e_81_41, e_81_42, e_81_45, e_81_48, e_81_49, e_81_52, e_81_53, e_81_56, e_81_59, e_81_60, e_81_63, e_81_64, e_81_67, e_81_70, e_81_71, e_81_74, e_81_75, e_81_78, e_81_81, e_81_82, e_81_83, e_81_86]
  refine k_71 (Nat.lt_succ_self _) ?_
  simp only [mK_n, e_81_0, e_81_1, e_81_4, e_81_5, e_81_8, e_81_9, e_81_12, e_81_15, e_81_16, e_81_19, e_81_20, e_81_23, e_81_26, e_81_27, e_81_30, e_81_31, e_81_34, e_81_37, e_81_38, e_81_41, e_81_42, e_81_45, e_81_48, e_81_49, e_81_52, e_81_53, e_81_56, e_81_59, e_81_60, e_81_63, e_81_64, e_81_67, e_81_70, e_81_71, e_81_74, e_81_75, e_81_78, e_81_81, e_81_82, e_81_83, e_81_86]
  refine k_39 ?_
  simp only [mK_n, e_81_0, e_81_1, e_81_4, e_81_5, e_81_8, e_81_9, e_81_12, e_81_15, e_81_16, e_81_19, e_81_20, e_81_23, e_81_26, e_81_27, e_81_30, e_81_31, e_81_34, e_81_37, e_81_38, e_81_41, e_81_42, e_81_45, e_81_48, e_81_49, e_81_52, e_81_53, e_81_56, e_81_59, e_81_60, e_81_63, e_81_64, e_81_67, e_81_70, e_81_71, e_81_74, e_81_75, e_81_78, e_81_81, e_81_82, e_81_83, e_81_86]
  refine k_26 ?_
  simp only [mK_n, e_81_0, e_81_1, e_81_4, e_81_5, e_81_8, e_81_9, e_81_12, e_81_15, e_81_16, e_81_19, e_81_20, e_81_23, e_81_26, e_81_27, e_81_30, e_81_31, e_81_34, e_81_37, e_81_38, e_81_41, e_81_42, e_81_45, e_81_48, e_81_49, e_81_52, e_81_53, e_81_56, e_81_59, e_81_60, e_81_63, e_81_64, e_81_67, e_81_70, e_81_71, e_81_74, e_81_75, e_81_78, e_81_81, e_81_82, e_81_83, e_81_86]
  refine k_0 ?_
  simp only [mK_n, e_81_0, e_81_1, e_81_4, e_81_5, e_81_8, e_81_9, e_81_12, e_81_15, e_81_16, e_81_19, e_81_20, e_81_23, e_81_26, e_81_27, e_81_30, e_81_31, e_81_34, e_81_37, e_81_38, e_81_41, e_81_42, e_81_45, e_81_48, e_81_49, e_81_52, e_81_53, e_81_56, e_81_59, e_81_60, e_81_63, e_81_64, e_81_67, e_81_70, e_81_71, e_81_74, e_81_75, e_81_78, e_81_81, e_81_82, e_81_83, e_81_86]
  refine k_23 (Nat.lt_succ_self _) ?_
  simp only [mK_n, e_81_0, e_81_1, e_81_4, e_81_5, e_81_8, e_81_9, e_81_12, e_81_15, e_81_16, e_81_19, e_81_20, e_81_23, e_81_26, e_81_27, e_81_30, e_81_31, e_81_34, e_81_37, e_81_38, e_81_41, e_81_42, e_81_45, e_81_48, e_81_49, e_81_52, e_81_53, e_81_56, e_81_59, e_81_60, e_81_63, e_81_64, e_81_67, e_81_70, e_81_71, e_81_74, e_81_75, e_81_78, e_81_81, e_81_82, e_81_83, e_81_86]
  refine k_23 (Nat.lt_succ_self _) ?_
  simp only [mK_n, e_81_0, e_81_1, e_81_4, e_81_5, e_81_8, e_81_9, e_81_12, e_81_15, e_81_16, e_81_19, e_81_20, e_81_23, e_81_26, e_81_27, e_81_30, e_81_31, e_81_34, e_81_37, e_81_38, e_81_41, e_81_42, e_81_45, e_81_48, e_81_49, e_81_52, e_81_53, e_81_56, e_81_59, e_81_60, e_81_63, e_81_64, e_81_67, e_81_70, e_81_71, e_81_74, e_81_75, e_81_78, e_81_81, e_81_82, e_81_83, e_81_86]
  exact h
def tMod (w : MWd) (a : Nat) : MWd := sFR (nwA (sFR (nwA (sFR (nwA (sFR (nwA (sFR (nwA (sFR (nwA (sFR (nwA (sFR (nwA (sFR (nwA (sFR (nwA (sFR (nwA (sFR (nwM (sFR (nwA (sFR (nwM (sFR (nwA (sFR (nwA (sFR (nwA (sFR (nwA (sFR (nwA (sFR (nwA (sFR (nwA (sFR (nwA (sFR (nwA (sFR (nwA (sFR (nwA (sFR (nwA (sFR (nwA (sFR (nwA (sFI (sFR (nwA w 1000) 641 a (some (20, 1000, wN w))) 643 a (-1)) 12) 645 a (some (20, 12, wN w + 1))) 12) 646 a (some (20, 12, wN w + 2))) 12) 647 a (some (22, 12, wN w + 3))) 12) 648 a (some (22, 12, wN w + 4))) 12) 649 a (some (20, 12, wN w + 5))) 360) 650 a (some (20, 360, wN w + 6))) 360) 651 a (some (20, 360, wN w + 7))) 12) 652 a (some (20, 12, wN w + 8))) 12) 653 a (some (20, 12, wN w + 9))) 12) 654 a (some (20, 12, wN w + 10))) 12) 655 a (some (20, 12, wN w + 11))) 12) 656 a (some (22, 12, wN w + 12))) 12) 657 a (some (20, 12, wN w + 13))) 4) 665 a (some (20, 4, wN w + 14))) 4 900) 666 a (some (25, 4, wN w + 15))) 4) 667 a (some (20, 4, wN w + 20))) 4 900) 668 a (some (25, 4, wN w + 21))) 1212) 670 a (some (20, 1212, wN w + 26))) 100) 671 a (some (20, 100, wN w + 27))) 800) 672 a (some (20, 800, wN w + 28))) 101) 673 a (some (20, 101, wN w + 29))) 100) 674 a (some (20, 100, wN w + 30))) 100) 675 a (some (21, 100, wN w + 31))) 100) 676 a (some (21, 100, wN w + 32))) 100) 677 a (some (20, 100, wN w + 33))) 2000) 679 a (some (20, 2000, wN w + 34))) 4) 680 a (some (20, 4, wN w + 35))) 1001) 681 a (some (22, 1001, wN w + 36))
theorem k_108 {d : Nat} {Q : MRes → MWd → Prop} {a : Nat} {w : MWd} (h : Q (.inl none) (tMod w a)) : mR d w 108 0 [some (vR (some (10, 0, a)))] [] Q := by
  simp only [e_108_0, e_108_1, e_108_4, e_108_5, e_108_8, e_108_10, e_108_13, e_108_14, e_108_15, e_108_18, e_108_19, e_108_21, e_108_23, e_108_26, e_108_27, e_108_29, e_108_31, e_108_34, e_108_35, e_108_37, e_108_39, e_108_42, e_108_43, e_108_45, e_108_47, e_108_50, e_108_51, e_108_53, e_108_55, e_108_58, e_108_59, e_108_62, e_108_64, e_108_67, e_108_68, e_108_71, e_108_73, e_108_76, e_108_77, e_108_79, e_108_81, e_108_84, e_108_85, e_108_87, e_108_89, e_108_92, e_108_93, e_108_95, e_108_97, e_108_100, e_108_101, e_108_103, e_108_105, e_108_108, e_108_109, e_108_111, e_108_113, e_108_116, e_108_117, e_108_119, e_108_121, e_108_124, e_108_125, e_108_126, e_108_128, e_108_131, e_108_132, e_108_133, e_108_136, e_108_140, e_108_143, e_108_144, e_108_145, e_108_147, e_108_150, e_108_151, e_108_152, e_108_155, e_108_159, e_108_162, e_108_163, e_108_166, e_108_168, e_108_171, e_108_172, e_108_174, e_108_176, e_108_179, e_108_180, e_108_183, e_108_185, e_108_188, e_108_189, e_108_191, e_108_193, e_108_196, e_108_197, e_108_199, e_108_201, e_108_204, e_108_205, e_108_207, e_108_209, e_108_212, e_108_213, e_108_215, e_108_217, e_108_220, e_108_221, e_108_223, e_108_225, e_108_228, e_108_229, e_108_232, e_108_234, e_108_237, e_108_238, e_108_239, e_108_241, e_108_244, e_108_245, e_108_248, e_108_250, e_108_253]
  exact ⟨by decide, by decide, by decide, by decide, by decide, by decide, by decide, by decide, by decide, by decide, by decide, by decide, by decide, by decide, by decide, by decide, by decide, by decide, by decide, by decide, by decide, by decide, by decide, by decide, by decide, by decide, by decide, by decide, by decide, h⟩
