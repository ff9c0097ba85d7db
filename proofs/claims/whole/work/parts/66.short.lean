/-! The reference's shortest words. -/
def rowN (w : MWd) (a : Nat) (f : Nat → Nat) : MWd := (w.1, w.2.1, (fun b j => if b = a then Int32.ofNat (f j) else wAI w b j, wAJ w, wAR w))
theorem srn : (∀ (w : MWd) (a : Nat) (f : Nat → Nat), wN (rowN w a f) = wN w) ∧ (∀ (w : MWd) (a : Nat) (f : Nat → Nat), wC (rowN w a f) = wC w) ∧ (∀ (w : MWd) (a : Nat) (f : Nat → Nat), wS (rowN w a f) = wS w) ∧
  (∀ (w : MWd) (a : Nat) (f : Nat → Nat), wFI (rowN w a f) = wFI w) ∧ (∀ (w : MWd) (a : Nat) (f : Nat → Nat), wFR (rowN w a f) = wFR w) ∧
  (∀ (w : MWd) (a b j : Nat) (f : Nat → Nat), wAI (rowN w a f) b j = if b = a then Int32.ofNat (f j) else wAI w b j) ∧ (∀ (w : MWd) (a : Nat) (f : Nat → Nat), wAJ (rowN w a f) = wAJ w) ∧ (∀ (w : MWd) (a : Nat) (f : Nat → Nat), wAR (rowN w a f) = wAR w) :=
  ⟨fun _ _ _ => rfl, fun _ _ _ => rfl, fun _ _ _ => rfl, fun _ _ _ => rfl, fun _ _ _ => rfl, fun _ _ _ _ _ => rfl, fun _ _ _ => rfl, fun _ _ _ => rfl⟩
theorem rowN_s {w : MWd} {a j v : Nat} {f : Nat → Nat} : sAI (rowN w a f) a j (Int32.ofNat v) = rowN w a (updN f j v) := by
  have h : (wAI (sAI (rowN w a f) a j (Int32.ofNat v))) = wAI (rowN w a (updN f j v)) := by
    funext b i
    show u2 (wAI (rowN w a f)) a j (Int32.ofNat v) b i = if b = a then Int32.ofNat (updN f j v i) else wAI w b i
    unfold u2 updN
    by_cases hb : b = a
    · by_cases hi : i = j
      · rw [if_pos ⟨hb, hi⟩, if_pos hb, if_pos hi]
      · rw [if_neg (fun q => hi q.2), if_pos hb, if_neg hi]
        exact if_pos hb
    · rw [if_neg (fun q => hb q.1), if_neg hb]
      exact if_neg hb
  show (w.1, w.2.1, (wAI (sAI (rowN w a f) a j (Int32.ofNat v)), wAJ w, wAR w)) = _
  rw [h]; rfl
theorem rowN_ex (w : MWd) (a : Nat) : ∃ f, w = rowN w a f := by
  refine ⟨fun i => (wAI w a i).toBitVec.toNat, ?_⟩
  have h : wAI w = fun b j => if b = a then Int32.ofNat ((wAI w a j).toBitVec.toNat) else wAI w b j := by
    funext b j
    by_cases hb : b = a
    · rw [if_pos hb, hb]
      apply Int32.toBitVec_inj.mp
      show _ = BitVec.ofNat 32 _
      rw [BitVec.ofNat_toNat, BitVec.setWidth_eq]
    · rw [if_neg hb]
  show (w.1, w.2.1, (wAI w, wAJ w, wAR w)) = (w.1, w.2.1, ((fun b j => if b = a then Int32.ofNat ((wAI w a j).toBitVec.toNat) else wAI w b j), wAJ w, wAR w))
  rw [← h]
theorem rowN_Gr {w : MWd} {a : Nat} {f : Nat → Nat} (G : Gr w) : Gr (rowN w a f) := G
/-- what stands behind k rounds -/
def fInv (n : Nat) (mv : Nat → Option Nat) (acc : Nat → Prop) (k : Nat) (fr : Nat → Nat) : Prop := ∀ s, s < n → fr s ≤ n ∧ (fr s < n → Dk mv acc (fr s) s) ∧ ∀ q, q ≤ k → Dk mv acc q s → fr s ≤ q
theorem fInv_upd {n k : Nat} {mv : Nat → Option Nat} {acc : Nat → Prop} {fr : Nat → Nat} (h : fInv n mv acc k fr) {s l t : Nat} (hs : s < n) (hl : l < 8) (ht : t < n) (hv : mv (8 * s + l) = some t) (hlt : fr t + 1 < fr s) : fInv n mv acc k (updN fr s (fr t + 1)) := by
  intro x hx
  unfold updN
  by_cases he : x = s
  · subst he
    rw [if_pos rfl]
    obtain ⟨a1, a2, a3⟩ := h x hs
    obtain ⟨b1, b2, b3⟩ := h t ht
    refine ⟨by omega, fun q => Or.inr ⟨l, t, hl, hv, b2 (by omega)⟩, fun q hq hd => ?_⟩
    have := a3 q hq hd
    omega
  · rw [if_neg he]; exact h x hx
section SH
variable {d m n : Nat} {w : MWd} {mv an : Nat → Option Nat} {Q : MRes → MWd → Prop}
abbrev sh_ls (r j m n i : Nat) (l6 l7 l8 : Option MV) : List (Option MV) := [some (vR (some (10, 0, 128))), some (vI (Int32.ofNat r)), some (vI (Int32.ofNat j)), some (vI (Int32.ofNat m)), some (vI (Int32.ofNat n)), some (vI (Int32.ofNat i)), l6, l7, l8]
theorem l_155_122 {r j i : Nat} {acc : Nat → Prop} (G : Gr w) (hm : m < 4) (hA : RefA w m n mv an) (hmv : ∀ t a, t < 8 * n → mv t = some a → a < n) (hr : r < 12) (hj : j ≤ 100) (hi : i < n)
    (K : ∀ fr l6 l7 l8, fInv n mv acc (i + 1) fr → mR (d + 2) (rowN w 162 fr) 155 102 (sh_ls r j m n (i + 1) l6 l7 l8) [] Q) :
    ∀ (f s l : Nat) (fr : Nat → Nat) (l8 : Option MV), 8 * s + l + f = 8 * n → l < 8 → s < n → fInv n mv acc i fr → (∀ x, x < s → Dk mv acc (i + 1) x → fr x ≤ i + 1) → (∀ q t, q < l → mv (8 * s + q) = some t → Dk mv acc i t → fr s ≤ i + 1) →
      mR (d + 2) (rowN w 162 fr) 155 122 (sh_ls r j m n i (some (vI (Int32.ofNat s))) (some (vI (Int32.ofNat l))) l8) [] Q
  | 0, s, l, fr, l8, hf, hl, hs, h1, h2, h3 => by omega
  | f + 1, s, l, fr, l8, hf, hl, hs, h1, h2, h3 => by
    have hn := hA.1
    have e1 := hA.2.2.2 s l hs hl
    have ih := l_155_122 G hm hA hmv hr hj hi K f
    have hnext : ∀ (fr' : Nat → Nat) (l8' : Option MV), fInv n mv acc i fr' → (∀ x, x < s → Dk mv acc (i + 1) x → fr' x ≤ i + 1) → (∀ q t, q < l + 1 → mv (8 * s + q) = some t → Dk mv acc i t → fr' s ≤ i + 1) →
        mR (d + 2) (rowN w 162 fr') 155 122 (sh_ls r j m n i (some (vI (Int32.ofNat s))) (some (vI (Int32.ofNat (l + 1)))) l8') [] Q := by
      intro fr' l8' g1 g2 g3
      by_cases hl8 : l + 1 < 8
      · exact ih s (l + 1) fr' l8' (by omega) hl8 hs g1 g2 g3
      · have hl7 : l = 7 := by omega
        subst hl7
        have g4 : ∀ x, x < s + 1 → Dk mv acc (i + 1) x → fr' x ≤ i + 1 := by
          intro x hx hd
          by_cases hxs : x = s
          · subst hxs
            rcases hd with hd | ⟨q, t, hq, hv, hd⟩
            · have := (g1 x hs).2.2 0 (Nat.zero_le i) hd; omega
            · exact g3 q t hq hv hd
          · exact g2 x (by omega) hd
        rw [e_155_122]
        simp (disch := omega) only [e_155_0, e_155_1, e_155_2, e_155_5, e_155_6, e_155_7, e_155_10, e_155_13, e_155_14, e_155_15, e_155_17, e_155_20, e_155_23, e_155_24, e_155_25, e_155_28, e_155_29, e_155_30, e_155_31, e_155_34, e_155_37, e_155_38, e_155_39, e_155_40, e_155_43, e_155_44, e_155_45, e_155_46, e_155_47, e_155_50, e_155_51, e_155_52, e_155_54, e_155_55, e_155_59, e_155_61, e_155_64, e_155_65, e_155_68, e_155_70, e_155_71, e_155_74, e_155_75, e_155_76, e_155_78, e_155_80, e_155_81, e_155_82, e_155_83, e_155_86, e_155_87, e_155_90, e_155_92, e_155_93, e_155_96, e_155_99, e_155_100, e_155_104, e_155_106, e_155_109, e_155_110, e_155_114, e_155_116, e_155_119, e_155_120, e_155_124, e_155_126, e_155_129, e_155_130, e_155_131, e_155_133, e_155_135, e_155_138, e_155_140, e_155_142, e_155_143, e_155_146, e_155_147, e_155_150, e_155_152, e_155_153, e_155_156, e_155_158, e_155_159, e_155_160, e_155_163, e_155_165, e_155_166, e_155_167, e_155_168, e_155_171, e_155_172, e_155_175, e_155_178, e_155_181, e_155_184, e_155_187, e_155_190, e_155_191, e_155_194, e_155_195, e_155_196, e_155_198, e_155_201, e_155_202, e_155_203, e_155_206, e_155_207, e_155_208, e_155_211, e_155_212, e_155_213, e_155_214, e_155_216, e_155_217, e_155_219, e_155_220, e_155_224, e_155_225, e_155_228, e_155_229, e_155_232, e_155_233, e_155_235, e_155_237, e_155_240, e_155_241, e_155_244, e_155_245, e_155_248, e_155_249, e_155_250, e_155_252, e_155_254, e_155_257, e_155_258, e_155_259, e_155_262, e_155_264, e_155_265, e_155_266, e_155_267, e_155_270, e_155_273, e_155_276, e_155_277, e_155_278, e_155_280, e_155_282, e_155_285, e_155_287, e_155_290, e_155_293, e_155_295, i_lit, i_add, i_mul, i_m1, i_lt, i_le, i_eq, i_cl, i_in, i_ltN, i_Nlt, i_leN, i_Nle, i_eN, i_Ne, i_inN, i_l1, i_l2, mj_cpok, mj_nn, reduceCtorEq, lg_self, Nat.not_lt_zero, Nat.zero_le, Nat.reduceEqDiff, Nat.reduceLT, Nat.reduceLeDiff, true_or, or_true, false_or, or_false, not_true_eq_false, not_false_eq_true, true_imp_iff, false_imp_iff, and_self, wrd, u2, and_true, true_and, and_false, false_and, and_self, ite_true, ite_false, reduceIte]
        (repeat' (first | (with_reducible refine And.intro ?_ ?_) | (with_reducible intro _)))
        all_goals try omega
        rw [e_155_112]
        simp (disch := omega) only [e_155_0, e_155_1, e_155_2, e_155_5, e_155_6, e_155_7, e_155_10, e_155_13, e_155_14, e_155_15, e_155_17, e_155_20, e_155_23, e_155_24, e_155_25, e_155_28, e_155_29, e_155_30, e_155_31, e_155_34, e_155_37, e_155_38, e_155_39, e_155_40, e_155_43, e_155_44, e_155_45, e_155_46, e_155_47, e_155_50, e_155_51, e_155_52, e_155_54, e_155_55, e_155_59, e_155_61, e_155_64, e_155_65, e_155_68, e_155_70, e_155_71, e_155_74, e_155_75, e_155_76, e_155_78, e_155_80, e_155_81, e_155_82, e_155_83, e_155_86, e_155_87, e_155_90, e_155_92, e_155_93, e_155_96, e_155_99, e_155_100, e_155_104, e_155_106, e_155_109, e_155_110, e_155_114, e_155_116, e_155_119, e_155_120, e_155_124, e_155_126, e_155_129, e_155_130, e_155_131, e_155_133, e_155_135, e_155_138, e_155_140, e_155_142, e_155_143, e_155_146, e_155_147, e_155_150, e_155_152, e_155_153, e_155_156, e_155_158, e_155_159, e_155_160, e_155_163, e_155_165, e_155_166, e_155_167, e_155_168, e_155_171, e_155_172, e_155_175, e_155_178, e_155_181, e_155_184, e_155_187, e_155_190, e_155_191, e_155_194, e_155_195, e_155_196, e_155_198, e_155_201, e_155_202, e_155_203, e_155_206, e_155_207, e_155_208, e_155_211, e_155_212, e_155_213, e_155_214, e_155_216, e_155_217, e_155_219, e_155_220, e_155_224, e_155_225, e_155_228, e_155_229, e_155_232, e_155_233, e_155_235, e_155_237, e_155_240, e_155_241, e_155_244, e_155_245, e_155_248, e_155_249, e_155_250, e_155_252, e_155_254, e_155_257, e_155_258, e_155_259, e_155_262, e_155_264, e_155_265, e_155_266, e_155_267, e_155_270, e_155_273, e_155_276, e_155_277, e_155_278, e_155_280, e_155_282, e_155_285, e_155_287, e_155_290, e_155_293, e_155_295, i_lit, i_add, i_mul, i_m1, i_lt, i_le, i_eq, i_cl, i_in, i_ltN, i_Nlt, i_leN, i_Nle, i_eN, i_Ne, i_inN, i_l1, i_l2, mj_cpok, mj_nn, reduceCtorEq, lg_self, Nat.not_lt_zero, Nat.zero_le, Nat.reduceEqDiff, Nat.reduceLT, Nat.reduceLeDiff, true_or, or_true, false_or, or_false, not_true_eq_false, not_false_eq_true, true_imp_iff, false_imp_iff, and_self, wrd, u2, and_true, true_and, and_false, false_and, and_self, ite_true, ite_false, reduceIte]
        (repeat' (first | (with_reducible refine And.intro ?_ ?_) | (with_reducible intro _)))
        all_goals try omega
        · refine K fr' _ _ _ (fun x hx => ⟨(g1 x hx).1, (g1 x hx).2.1, fun q hq hd => ?_⟩)
          by_cases hqi : q ≤ i
          · exact (g1 x hx).2.2 q hqi hd
          · have hqe : q = i + 1 := by omega
            subst hqe
            exact g4 x (by omega) hd
        · exact ih (s + 1) 0 fr' _ (by omega) (by omega) (by omega) g1 g4 (fun q t hq => absurd hq (Nat.not_lt_zero q))
    rw [e_155_122]
    cases hv : mv (8 * s + l) with
    | none =>
      rw [hv] at e1
      replace e1 : wAI w (145 + m) (9 * s + 1 + l) = NN := e1
      have em : ¬ 145 + m = 162 := by omega
      simp (disch := omega) only [e_155_0, e_155_1, e_155_2, e_155_5, e_155_6, e_155_7, e_155_10, e_155_13, e_155_14, e_155_15, e_155_17, e_155_20, e_155_23, e_155_24, e_155_25, e_155_28, e_155_29, e_155_30, e_155_31, e_155_34, e_155_37, e_155_38, e_155_39, e_155_40, e_155_43, e_155_44, e_155_45, e_155_46, e_155_47, e_155_50, e_155_51, e_155_52, e_155_54, e_155_55, e_155_59, e_155_61, e_155_64, e_155_65, e_155_68, e_155_70, e_155_71, e_155_74, e_155_75, e_155_76, e_155_78, e_155_80, e_155_81, e_155_82, e_155_83, e_155_86, e_155_87, e_155_90, e_155_92, e_155_93, e_155_96, e_155_99, e_155_100, e_155_104, e_155_106, e_155_109, e_155_110, e_155_114, e_155_116, e_155_119, e_155_120, e_155_124, e_155_126, e_155_129, e_155_130, e_155_131, e_155_133, e_155_135, e_155_138, e_155_140, e_155_142, e_155_143, e_155_146, e_155_147, e_155_150, e_155_152, e_155_153, e_155_156, e_155_158, e_155_159, e_155_160, e_155_163, e_155_165, e_155_166, e_155_167, e_155_168, e_155_171, e_155_172, e_155_175, e_155_178, e_155_181, e_155_184, e_155_187, e_155_190, e_155_191, e_155_194, e_155_195, e_155_196, e_155_198, e_155_201, e_155_202, e_155_203, e_155_206, e_155_207, e_155_208, e_155_211, e_155_212, e_155_213, e_155_214, e_155_216, e_155_217, e_155_219, e_155_220, e_155_224, e_155_225, e_155_228, e_155_229, e_155_232, e_155_233, e_155_235, e_155_237, e_155_240, e_155_241, e_155_244, e_155_245, e_155_248, e_155_249, e_155_250, e_155_252, e_155_254, e_155_257, e_155_258, e_155_259, e_155_262, e_155_264, e_155_265, e_155_266, e_155_267, e_155_270, e_155_273, e_155_276, e_155_277, e_155_278, e_155_280, e_155_282, e_155_285, e_155_287, e_155_290, e_155_293, e_155_295, e_147_0, e_147_1, e_147_4, e_147_5, e_147_6, e_147_8, e_147_9, e_147_10, e_147_11, e_147_12, e_147_13, e_147_14, e_147_15, i_lit, i_add, i_mul, i_m1, i_lt, i_le, i_eq, i_cl, i_in, i_ltN, i_Nlt, i_leN, i_Nle, i_eN, i_Ne, i_inN, i_l1, i_l2, mj_cpok, mj_nn, reduceCtorEq, lg_self, Nat.not_lt_zero, Nat.zero_le, Nat.reduceEqDiff, Nat.reduceLT, Nat.reduceLeDiff, true_or, or_true, false_or, or_false, not_true_eq_false, not_false_eq_true, true_imp_iff, false_imp_iff, and_self, wrd, u2, and_true, true_and, and_false, false_and, and_self, ite_true, ite_false, reduceIte, srn, mK_v, g_666 G, g_mach G hm, em, e1]
      (repeat' (first | (with_reducible refine And.intro ?_ ?_) | (with_reducible intro _)))
      all_goals try omega
      refine hnext fr _ h1 h2 (fun q t hq hqv hd => ?_)
      by_cases hql : q = l
      · subst hql; rw [hv] at hqv; cases hqv
      · exact h3 q t (by omega) hqv hd
    | some a =>
      have ha := hmv _ a (by omega) hv
      have fa := (h1 a ha).1
      have fs := (h1 s hs).1
      rw [hv] at e1
      replace e1 : wAI w (145 + m) (9 * s + 1 + l) = Int32.ofNat a := e1
      have em : ¬ 145 + m = 162 := by omega
      by_cases hlt : fr a + 1 < fr s
      · simp (disch := omega) only [e_155_0, e_155_1, e_155_2, e_155_5, e_155_6, e_155_7, e_155_10, e_155_13, e_155_14, e_155_15, e_155_17, e_155_20, e_155_23, e_155_24, e_155_25, e_155_28, e_155_29, e_155_30, e_155_31, e_155_34, e_155_37, e_155_38, e_155_39, e_155_40, e_155_43, e_155_44, e_155_45, e_155_46, e_155_47, e_155_50, e_155_51, e_155_52, e_155_54, e_155_55, e_155_59, e_155_61, e_155_64, e_155_65, e_155_68, e_155_70, e_155_71, e_155_74, e_155_75, e_155_76, e_155_78, e_155_80, e_155_81, e_155_82, e_155_83, e_155_86, e_155_87, e_155_90, e_155_92, e_155_93, e_155_96, e_155_99, e_155_100, e_155_104, e_155_106, e_155_109, e_155_110, e_155_114, e_155_116, e_155_119, e_155_120, e_155_124, e_155_126, e_155_129, e_155_130, e_155_131, e_155_133, e_155_135, e_155_138, e_155_140, e_155_142, e_155_143, e_155_146, e_155_147, e_155_150, e_155_152, e_155_153, e_155_156, e_155_158, e_155_159, e_155_160, e_155_163, e_155_165, e_155_166, e_155_167, e_155_168, e_155_171, e_155_172, e_155_175, e_155_178, e_155_181, e_155_184, e_155_187, e_155_190, e_155_191, e_155_194, e_155_195, e_155_196, e_155_198, e_155_201, e_155_202, e_155_203, e_155_206, e_155_207, e_155_208, e_155_211, e_155_212, e_155_213, e_155_214, e_155_216, e_155_217, e_155_219, e_155_220, e_155_224, e_155_225, e_155_228, e_155_229, e_155_232, e_155_233, e_155_235, e_155_237, e_155_240, e_155_241, e_155_244, e_155_245, e_155_248, e_155_249, e_155_250, e_155_252, e_155_254, e_155_257, e_155_258, e_155_259, e_155_262, e_155_264, e_155_265, e_155_266, e_155_267, e_155_270, e_155_273, e_155_276, e_155_277, e_155_278, e_155_280, e_155_282, e_155_285, e_155_287, e_155_290, e_155_293, e_155_295, e_147_0, e_147_1, e_147_4, e_147_5, e_147_6, e_147_8, e_147_9, e_147_10, e_147_11, e_147_12, e_147_13, e_147_14, e_147_15, i_lit, i_add, i_mul, i_m1, i_lt, i_le, i_eq, i_cl, i_in, i_ltN, i_Nlt, i_leN, i_Nle, i_eN, i_Ne, i_inN, i_l1, i_l2, mj_cpok, mj_nn, reduceCtorEq, lg_self, Nat.not_lt_zero, Nat.zero_le, Nat.reduceEqDiff, Nat.reduceLT, Nat.reduceLeDiff, true_or, or_true, false_or, or_false, not_true_eq_false, not_false_eq_true, true_imp_iff, false_imp_iff, and_self, wrd, u2, and_true, true_and, and_false, false_and, and_self, ite_true, ite_false, reduceIte, srn, mK_v, g_666 G, g_mach G hm, g_677 G, em, e1, hlt, rowN_s]
        (repeat' (first | (with_reducible refine And.intro ?_ ?_) | (with_reducible intro _)))
        all_goals try omega
        refine hnext _ _ (fInv_upd h1 hs hl ha hv hlt) (fun x hx hd => ?_) (fun q t hq hqv hd => ?_)
        · unfold updN; rw [if_neg (by omega)]; exact h2 x hx hd
        · unfold updN; rw [if_pos rfl]
          by_cases hql : q = l
          · subst hql
            rw [hv] at hqv; cases hqv
            have := (h1 a ha).2.2 i (Nat.le_refl i) hd
            omega
          · have := h3 q t (by omega) hqv hd; omega
      · simp (disch := omega) only [e_155_0, e_155_1, e_155_2, e_155_5, e_155_6, e_155_7, e_155_10, e_155_13, e_155_14, e_155_15, e_155_17, e_155_20, e_155_23, e_155_24, e_155_25, e_155_28, e_155_29, e_155_30, e_155_31, e_155_34, e_155_37, e_155_38, e_155_39, e_155_40, e_155_43, e_155_44, e_155_45, e_155_46, e_155_47, e_155_50, e_155_51, e_155_52, e_155_54, e_155_55, e_155_59, e_155_61, e_155_64, e_155_65, e_155_68, e_155_70, e_155_71, e_155_74, e_155_75, e_155_76, e_155_78, e_155_80, e_155_81, e_155_82, e_155_83, e_155_86, e_155_87, e_155_90, e_155_92, e_155_93, e_155_96, e_155_99, e_155_100, e_155_104, e_155_106, e_155_109, e_155_110, e_155_114, e_155_116, e_155_119, e_155_120, e_155_124, e_155_126, e_155_129, e_155_130, e_155_131, e_155_133, e_155_135, e_155_138, e_155_140, e_155_142, e_155_143, e_155_146, e_155_147, e_155_150, e_155_152, e_155_153, e_155_156, e_155_158, e_155_159, e_155_160, e_155_163, e_155_165, e_155_166, e_155_167, e_155_168, e_155_171, e_155_172, e_155_175, e_155_178, e_155_181, e_155_184, e_155_187, e_155_190, e_155_191, e_155_194, e_155_195, e_155_196, e_155_198, e_155_201, e_155_202, e_155_203, e_155_206, e_155_207, e_155_208, e_155_211, e_155_212, e_155_213, e_155_214, e_155_216, e_155_217, e_155_219, e_155_220, e_155_224, e_155_225, e_155_228, e_155_229, e_155_232, e_155_233, e_155_235, e_155_237, e_155_240, e_155_241, e_155_244, e_155_245, e_155_248, e_155_249, e_155_250, e_155_252, e_155_254, e_155_257, e_155_258, e_155_259, e_155_262, e_155_264, e_155_265, e_155_266, e_155_267, e_155_270, e_155_273, e_155_276, e_155_277, e_155_278, e_155_280, e_155_282, e_155_285, e_155_287, e_155_290, e_155_293, e_155_295, e_147_0, e_147_1, e_147_4, e_147_5, e_147_6, e_147_8, e_147_9, e_147_10, e_147_11, e_147_12, e_147_13, e_147_14, e_147_15, i_lit, i_add, i_mul, i_m1, i_lt, i_le, i_eq, i_cl, i_in, i_ltN, i_Nlt, i_leN, i_Nle, i_eN, i_Ne, i_inN, i_l1, i_l2, mj_cpok, mj_nn, reduceCtorEq, lg_self, Nat.not_lt_zero, Nat.zero_le, Nat.reduceEqDiff, Nat.reduceLT, Nat.reduceLeDiff, true_or, or_true, false_or, or_false, not_true_eq_false, not_false_eq_true, true_imp_iff, false_imp_iff, and_self, wrd, u2, and_true, true_and, and_false, false_and, and_self, ite_true, ite_false, reduceIte, srn, mK_v, g_666 G, g_mach G hm, g_677 G, em, e1, hlt, rowN_s]
        (repeat' (first | (with_reducible refine And.intro ?_ ?_) | (with_reducible intro _)))
        all_goals try omega
        have hu : updN fr s (fr s) = fr := by
          funext x
          unfold updN
          by_cases hx : x = s
          · rw [if_pos hx, hx]
          · rw [if_neg hx]
        rw [hu]
        refine hnext fr _ h1 h2 (fun q t hq hqv hd => ?_)
        by_cases hql : q = l
        · subst hql
          rw [hv] at hqv; cases hqv
          have := (h1 a ha).2.2 i (Nat.le_refl i) hd
          omega
        · exact h3 q t (by omega) hqv hd
theorem l_155_102 {r j : Nat} {acc : Nat → Prop} (G : Gr w) (hm : m < 4) (hn0 : 0 < n) (hA : RefA w m n mv an) (hmv : ∀ t a, t < 8 * n → mv t = some a → a < n) (hr : r < 12) (hj : j ≤ 100)
    (K : ∀ fr l6 l7 l8, farOk n mv acc fr → mR (d + 2) (rowN w 162 fr) 155 190 (sh_ls r j m n n l6 l7 l8) [] Q) :
    ∀ (f i : Nat) (fr : Nat → Nat) (l6 l7 l8 : Option MV), i + f = n → fInv n mv acc i fr → mR (d + 2) (rowN w 162 fr) 155 102 (sh_ls r j m n i l6 l7 l8) [] Q
  | 0, i, fr, l6, l7, l8, hi, h => by
    have hn := hA.1
    have hin : i = n := by omega
    subst hin
    rw [e_155_102, e_155_104, e_155_106]
    exact ⟨fun _ => K fr l6 l7 l8 h, fun q => absurd q (by rw [i_lt (by omega) (by omega)]; omega)⟩
  | f + 1, i, fr, l6, l7, l8, hi, h => by
    have hn := hA.1
    have ih := l_155_102 G hm hn0 hA hmv hr hj K f
    rw [e_155_102]
    simp (disch := omega) only [e_155_0, e_155_1, e_155_2, e_155_5, e_155_6, e_155_7, e_155_10, e_155_13, e_155_14, e_155_15, e_155_17, e_155_20, e_155_23, e_155_24, e_155_25, e_155_28, e_155_29, e_155_30, e_155_31, e_155_34, e_155_37, e_155_38, e_155_39, e_155_40, e_155_43, e_155_44, e_155_45, e_155_46, e_155_47, e_155_50, e_155_51, e_155_52, e_155_54, e_155_55, e_155_59, e_155_61, e_155_64, e_155_65, e_155_68, e_155_70, e_155_71, e_155_74, e_155_75, e_155_76, e_155_78, e_155_80, e_155_81, e_155_82, e_155_83, e_155_86, e_155_87, e_155_90, e_155_92, e_155_93, e_155_96, e_155_99, e_155_100, e_155_104, e_155_106, e_155_109, e_155_110, e_155_114, e_155_116, e_155_119, e_155_120, e_155_124, e_155_126, e_155_129, e_155_130, e_155_131, e_155_133, e_155_135, e_155_138, e_155_140, e_155_142, e_155_143, e_155_146, e_155_147, e_155_150, e_155_152, e_155_153, e_155_156, e_155_158, e_155_159, e_155_160, e_155_163, e_155_165, e_155_166, e_155_167, e_155_168, e_155_171, e_155_172, e_155_175, e_155_178, e_155_181, e_155_184, e_155_187, e_155_190, e_155_191, e_155_194, e_155_195, e_155_196, e_155_198, e_155_201, e_155_202, e_155_203, e_155_206, e_155_207, e_155_208, e_155_211, e_155_212, e_155_213, e_155_214, e_155_216, e_155_217, e_155_219, e_155_220, e_155_224, e_155_225, e_155_228, e_155_229, e_155_232, e_155_233, e_155_235, e_155_237, e_155_240, e_155_241, e_155_244, e_155_245, e_155_248, e_155_249, e_155_250, e_155_252, e_155_254, e_155_257, e_155_258, e_155_259, e_155_262, e_155_264, e_155_265, e_155_266, e_155_267, e_155_270, e_155_273, e_155_276, e_155_277, e_155_278, e_155_280, e_155_282, e_155_285, e_155_287, e_155_290, e_155_293, e_155_295, i_lit, i_add, i_mul, i_m1, i_lt, i_le, i_eq, i_cl, i_in, i_ltN, i_Nlt, i_leN, i_Nle, i_eN, i_Ne, i_inN, i_l1, i_l2, mj_cpok, mj_nn, reduceCtorEq, lg_self, Nat.not_lt_zero, Nat.zero_le, Nat.reduceEqDiff, Nat.reduceLT, Nat.reduceLeDiff, true_or, or_true, false_or, or_false, not_true_eq_false, not_false_eq_true, true_imp_iff, false_imp_iff, and_self, wrd, u2, and_true, true_and, and_false, false_and, and_self, ite_true, ite_false, reduceIte]
    (repeat' (first | (with_reducible refine And.intro ?_ ?_) | (with_reducible intro _)))
    all_goals try omega
    rw [e_155_112]
    simp (disch := omega) only [e_155_0, e_155_1, e_155_2, e_155_5, e_155_6, e_155_7, e_155_10, e_155_13, e_155_14, e_155_15, e_155_17, e_155_20, e_155_23, e_155_24, e_155_25, e_155_28, e_155_29, e_155_30, e_155_31, e_155_34, e_155_37, e_155_38, e_155_39, e_155_40, e_155_43, e_155_44, e_155_45, e_155_46, e_155_47, e_155_50, e_155_51, e_155_52, e_155_54, e_155_55, e_155_59, e_155_61, e_155_64, e_155_65, e_155_68, e_155_70, e_155_71, e_155_74, e_155_75, e_155_76, e_155_78, e_155_80, e_155_81, e_155_82, e_155_83, e_155_86, e_155_87, e_155_90, e_155_92, e_155_93, e_155_96, e_155_99, e_155_100, e_155_104, e_155_106, e_155_109, e_155_110, e_155_114, e_155_116, e_155_119, e_155_120, e_155_124, e_155_126, e_155_129, e_155_130, e_155_131, e_155_133, e_155_135, e_155_138, e_155_140, e_155_142, e_155_143, e_155_146, e_155_147, e_155_150, e_155_152, e_155_153, e_155_156, e_155_158, e_155_159, e_155_160, e_155_163, e_155_165, e_155_166, e_155_167, e_155_168, e_155_171, e_155_172, e_155_175, e_155_178, e_155_181, e_155_184, e_155_187, e_155_190, e_155_191, e_155_194, e_155_195, e_155_196, e_155_198, e_155_201, e_155_202, e_155_203, e_155_206, e_155_207, e_155_208, e_155_211, e_155_212, e_155_213, e_155_214, e_155_216, e_155_217, e_155_219, e_155_220, e_155_224, e_155_225, e_155_228, e_155_229, e_155_232, e_155_233, e_155_235, e_155_237, e_155_240, e_155_241, e_155_244, e_155_245, e_155_248, e_155_249, e_155_250, e_155_252, e_155_254, e_155_257, e_155_258, e_155_259, e_155_262, e_155_264, e_155_265, e_155_266, e_155_267, e_155_270, e_155_273, e_155_276, e_155_277, e_155_278, e_155_280, e_155_282, e_155_285, e_155_287, e_155_290, e_155_293, e_155_295, i_lit, i_add, i_mul, i_m1, i_lt, i_le, i_eq, i_cl, i_in, i_ltN, i_Nlt, i_leN, i_Nle, i_eN, i_Ne, i_inN, i_l1, i_l2, mj_cpok, mj_nn, reduceCtorEq, lg_self, Nat.not_lt_zero, Nat.zero_le, Nat.reduceEqDiff, Nat.reduceLT, Nat.reduceLeDiff, true_or, or_true, false_or, or_false, not_true_eq_false, not_false_eq_true, true_imp_iff, false_imp_iff, and_self, wrd, u2, and_true, true_and, and_false, false_and, and_self, ite_true, ite_false, reduceIte]
    (repeat' (first | (with_reducible refine And.intro ?_ ?_) | (with_reducible intro _)))
    all_goals try omega
    exact l_155_122 G hm hA hmv hr hj (by omega) (fun fr' l6' l7' l8' g => ih (i + 1) fr' l6' l7' l8' (by omega) g) (8 * n) 0 0 fr _ (by omega) (by omega) hn0 h (fun x hx => absurd hx (Nat.not_lt_zero x)) (fun q t hq => absurd hq (Nat.not_lt_zero q))
end SH
