/-! addRule: the reference's reader, rows. -/
theorem rowL_40 {S : Nat → Nat} {I : PRd} {x : PSt} (h40 : S 40 = 256) (hx : x.1 = 40) : ∀ k, rowL S I k x = .inr x
  | 0 => rfl
  | k + 1 => by
    obtain ⟨i, np, fo, lt, f, l, e⟩ := x
    have e40 : i = 40 := hx
    subst e40
    unfold rowL
    rw [h40, if_neg (by decide)]
theorem eitL_40 {S : Nat → Nat} {I : PRd} {x : PSt} (h40 : S 40 = 256) (hx : x.1 = 40) : ∀ k, eitL S I k x = .inr x
  | 0 => rfl
  | k + 1 => by
    obtain ⟨i, np, fo, lt, f, l, e⟩ := x
    have e40 : i = 40 := hx
    subst e40
    unfold eitL
    rw [h40, if_neg (by decide)]
theorem pOk_row {i0 np0 : Nat} {fo0 lt0 : Nat → Int32} {i np : Nat} {fo lt : Nat → Int32} {f l : Int32} {e : Bool} (p0 : pOk i0 np0 fo0 lt0 (i, np, fo, lt, f, l, e)) {i' np' : Nat} {fo' lt' : Nat → Int32} {f' l' : Int32} {e' : Bool} (h : pOk i np fo lt (i', np', fo', lt', f', l', e')) : pOk i0 np0 fo0 lt0 (jnR f l e (i', np', fo', lt', f', l', e')) := by
  have hok2 := h
  obtain ⟨o1, o2, o3, o4, o5, o6, o7, o8, o9⟩ := h
  have t2 := pOk_two (e2 := e') p0 (Nat.le_refl _) hok2
  have hl : pIn np0 np' l := pIn_w p0.2.2.2.2.2.2.2.2 (Nat.le_refl _) o3
  have hf3 : pIn np0 np' f' := pIn_w o8 p0.2.2.1 (Nat.le_refl _)
  obtain ⟨b1, b2, b3, b4, b5, b6, b7, b8, b9⟩ := t2
  refine ⟨b1, b2, b3, b4, fun p hp => ⟨by rw [lkF_out hl (by omega)]; exact (b5 p hp).1, (b5 p hp).2⟩, fun p h1 h2 => ⟨lkF_in (b6 p h1 h2).1 hf3, (b6 p h1 h2).2⟩, fun p hp => by rw [lkF_out hl (by omega)]; exact b7 p hp, ?_, ?_⟩
  · by_cases c : e = true
    · rw [if_pos c]; exact pIn_or b8 hf3
    · rw [if_neg c]; exact b8
  · by_cases c : e' = true
    · rw [if_pos c]; exact pIn_or hl b9
    · rw [if_neg c]; exact b9
section RF
variable {d : Nat} {n r dep : Nat} {B : Nat → Nat}
theorem r_119l {I : PRd} (hr : r < 12) (hIp : pRdOk I) (hI : rfOkb n B r dep 121 (d + 5) [some (vR (some (10, 0, 128))), none] I) {W : MWd} (G : Gr W) (hT : rfT W n B) {Q : MRes → MWd → Prop} :
    ∀ (k i np : Nat) (fo lt : Nat → Int32) (f l : Int32) (e : Bool) (V : MWd) (x1 x2 x3 : Option MV), 40 ≤ i + k → i ≤ 40 → (∃ i0 np0 fo0 lt0, pOk i0 np0 fo0 lt0 (i, np, fo, lt, f, l, e)) → Fr rF rA 0 0 W V → rfU W V r → rfR V r i np dep fo lt → wFI V 660 128 = f → wFI V 661 128 = l → wFI V 662 128 = b2 e → rfK n Q W r dep (rowL (sgn n B) I k (i, np, fo, lt, f, l, e)) →
      mR (d + 6) V 119 4 [some (vR (some (10, 0, 128))), x1, x2, x3] [] Q := by
  have hS : sgOk (sgn n B) := sgn_ok (fun i hi => (hT.2.2 i hi).1)
  intro k
  induction k with
  | zero =>
    intro i np fo lt f l e V x1 x2 x3 hk hi hp0 hF hU hR v60 v61 v62 K
    have e40 : i = 40 := by omega
    subst e40
    have GV := Fr_Gr hF G
    have TV := rfT_Fr hF (by omega) (by omega) hT
    rw [e_119_4]
    simp (disch := omega) only [e_119_5, i_lit, i_add, i_mul, i_m1, i_lt, i_le, i_eq, i_cl, i_in, i_ltN, i_Nlt, i_leN, i_Nle, i_eN, i_Ne, i_inN, i_l1, i_l2, mj_cpok, mj_nn, reduceCtorEq, lg_self, Nat.not_lt_zero, Nat.zero_le, Nat.reduceEqDiff, Nat.reduceLT, Nat.reduceLeDiff, true_or, or_true, false_or, or_false, not_true_eq_false, not_false_eq_true, true_imp_iff, false_imp_iff, and_self, wrd, u2, and_true, true_and, and_false, false_and, and_self, ite_true, ite_false, reduceIte]
    refine r_118 (d := d + 3) GV TV hR.1 hi (fun c => ?_) (fun c c2 => ?_) (fun c c2 => ?_)
    · show mK (d + 6) 119 5 8 _ _ Q _ _
      rw [mK_x (by decide +kernel)]
      exact rfE_thr G (K.1 c) hF hU hR.1
    · rw [sgn40] at c2; exact absurd c2 (by decide)
    · have k0 := K.2 c V hF hU hR v60 v61 v62
      simp (disch := omega) only [e_119_8, e_119_104, i_lit, i_add, i_mul, i_m1, i_lt, i_le, i_eq, i_cl, i_in, i_ltN, i_Nlt, i_leN, i_Nle, i_eN, i_Ne, i_inN, i_l1, i_l2, mj_cpok, mj_nn, reduceCtorEq, lg_self, Nat.not_lt_zero, Nat.zero_le, Nat.reduceEqDiff, Nat.reduceLT, Nat.reduceLeDiff, true_or, or_true, false_or, or_false, not_true_eq_false, not_false_eq_true, true_imp_iff, false_imp_iff, and_self, wrd, u2, and_true, true_and, and_false, false_and, and_self, ite_true, ite_false, reduceIte, mK_v]
      (repeat' (first | (with_reducible refine And.intro ?_ ?_) | (with_reducible intro _)))
      all_goals first | omega | exact k0
  | succ k ih =>
    intro i np fo lt f l e V x1 x2 x3 hk hi hp0 hF hU hR v60 v61 v62 K
    have GV := Fr_Gr hF G
    have TV := rfT_Fr hF (by omega) (by omega) hT
    rw [e_119_4]
    simp (disch := omega) only [e_119_5, i_lit, i_add, i_mul, i_m1, i_lt, i_le, i_eq, i_cl, i_in, i_ltN, i_Nlt, i_leN, i_Nle, i_eN, i_Ne, i_inN, i_l1, i_l2, mj_cpok, mj_nn, reduceCtorEq, lg_self, Nat.not_lt_zero, Nat.zero_le, Nat.reduceEqDiff, Nat.reduceLT, Nat.reduceLeDiff, true_or, or_true, false_or, or_false, not_true_eq_false, not_false_eq_true, true_imp_iff, false_imp_iff, and_self, wrd, u2, and_true, true_and, and_false, false_and, and_self, ite_true, ite_false, reduceIte]
    refine r_118 (d := d + 3) GV TV hR.1 hi (fun c => ?_) (fun c c2 => ?_) (fun c c2 => ?_)
    · rw [rowL_40 sgn40 c.1] at K
      show mK (d + 6) 119 5 8 _ _ Q _ _
      rw [mK_x (by decide +kernel)]
      have e40 : i = 40 := c.1
      exact rfE_thr G (K.1 c) hF hU (by rw [hR.1, e40])
    · unfold rowL at K
      rw [if_pos c2] at K
      obtain ⟨i0, np0, fo0, lt0, p0⟩ := hp0
      have hok := hIp i np fo lt hi p0.2.2.2.1 p0.2.2.2.2.2.2.1
      simp (disch := omega) only [e_119_8, e_119_11, e_119_12, e_119_15, e_119_16, e_119_17, e_119_20, e_119_21, e_119_22, e_119_25, e_119_26, e_119_27, i_lit, i_add, i_mul, i_m1, i_lt, i_le, i_eq, i_cl, i_in, i_ltN, i_Nlt, i_leN, i_Nle, i_eN, i_Ne, i_inN, i_l1, i_l2, mj_cpok, mj_nn, reduceCtorEq, lg_self, Nat.not_lt_zero, Nat.zero_le, Nat.reduceEqDiff, Nat.reduceLT, Nat.reduceLeDiff, true_or, or_true, false_or, or_false, not_true_eq_false, not_false_eq_true, true_imp_iff, false_imp_iff, and_self, wrd, u2, and_true, true_and, and_false, false_and, and_self, ite_true, ite_false, reduceIte, mK_v, v60, v61, v62]
      (repeat' (first | (with_reducible refine And.intro ?_ ?_) | (with_reducible intro _)))
      all_goals try omega
      refine hI V i np fo lt _ GV TV hR hi p0.2.2.2.1 p0.2.2.2.2.2.2.1 ?_
      have hx : ∀ p V, Q (.inr (3, some p)) V → mK (d + 6) 119 27 30 [some (vR (some (10, 0, 128))), some (vI f), some (vI l), some (vI (b2 e))] [] Q (.inr (3, some p)) V := fun p V h => by
        rw [mK_x (by decide +kernel)]; exact h
      cases hy : I i np fo lt with
      | inl er =>
        rw [hy] at K
        exact rfE_tr hF hU hx K
      | inr y =>
        obtain ⟨i', np', fo', lt', f', l', e'⟩ := y
        rw [hy] at K hok
        dsimp only at K
        have hok2 := hok
        obtain ⟨o1, o2, o3, o4, o5, o6, o7, o8, o9⟩ := hok
        refine ⟨fun c => ?_, ?_⟩
        · rw [rowL_40 sgn40 (show (jnR f l e (i', np', fo', lt', f', l', e')).1 = 40 from c.1)] at K
          exact rfE_tr hF hU hx (K.1 c)
        · intro V2 hV2 hVU2 hR2 w60 w61 w62
          have F2 : Fr rF rA 0 0 W V2 := Fr_trans (x := 0) (y := 0) hF hV2
          have U2 : rfU W V2 r := rfU_tr hU hVU2
          have G2 := Fr_Gr F2 G
          have n120 : mR (d + 5) V2 120 0 [some (vR (some (10, 0, 128))), some (vI l), some (vI f'), none] [] (mK (d + 6) 119 36 39 [some (vR (some (10, 0, 128))), some (vI f), some (vI l), some (vI (b2 e))] [] Q) := by
            refine r_120 G2 hr hR2.2.2.1 (fun U hU' uj up => ?_)
            have FU : Fr rF rA 0 0 W U := Fr_trans (x := 0) (y := 0) F2 (Fr_weak hU' (fun _ _ q => q.elim) (fun _ q => by omega) (Nat.le_refl _) (Nat.le_refl _))
            have UU : rfU W U r := rfU_tr U2 ⟨fun j hj => by rw [Fr_ai hU' (by decide) (by omega)], fun j hj => ⟨by rw [Fr_ai hU' (by decide) (by omega)], uj j hj⟩⟩
            have x60 := (Fr_fi (k := 660) (a := 128) hU' (by decide) (fun q => q)).trans w60
            have x61 := (Fr_fi (k := 661) (a := 128) hU' (by decide) (fun q => q)).trans w61
            have x62 := (Fr_fi (k := 662) (a := 128) hU' (by decide) (fun q => q)).trans w62
            have RU : rfR U r i' np' dep (lkF fo' l f') lt' := by
              obtain ⟨a1, a2, a3, a4, a5⟩ := hR2
              refine ⟨(Fr_fi hU' (by decide) (fun q => q)).trans a1, (Fr_fi hU' (by decide) (fun q => q)).trans a2, (Fr_fi hU' (by decide) (fun q => q)).trans a3, by rw [Fr_ai hU' (by decide) (by omega)]; exact a4, fun p hp => ⟨?_, ?_⟩⟩
              · rw [up p (by omega)]
                unfold lkF
                dsimp only
                rw [(a5 p hp).1]
              · rw [Fr_ai hU' (by decide) (by omega)]; exact (a5 p hp).2
            have nn : ∀ y0 y1 y2, y0 = (if e = true then f ||| f' else f) → y1 = (if e' = true then l ||| l' else l') → y2 = b2 (e && e') → mR (d + 6) (sFI (sFI (sFI U 660 128 y0) 661 128 y1) 662 128 y2) 119 4 [some (vR (some (10, 0, 128))), some (vI f), some (vI l), some (vI (b2 e))] [] Q := by
              intro y0 y1 y2 h0 h1 h2
              have FX : Fr (fun k a => a = 128 ∧ 660 ≤ k ∧ k ≤ 662) (fun _ => False) 0 0 U (sFI (sFI (sFI U 660 128 y0) 661 128 y1) 662 128 y2) := Fr_sFI (Fr_sFI (Fr_sFI Fr_refl (by omega)) (by omega)) (by omega)
              refine ih i' np' (lkF fo' l f') lt' _ _ _ _ _ _ _ (by omega) o2 ⟨i0, np0, fo0, lt0, pOk_row p0 hok2⟩ (Fr_trans (x := 0) (y := 0) FU (Fr_weak FX (fun _ _ q => by omega) (fun _ q => q.elim) (Nat.le_refl _) (Nat.le_refl _))) (rfU_tr UU (rfU_Fr FX ⟨fun q => q, fun q => q, fun q => q⟩)) ?_ ?_ ?_ ?_ K
              · obtain ⟨a1, a2, a3, a4, a5⟩ := RU
                exact ⟨(Fr_fi FX (by decide) (by omega)).trans a1, (Fr_fi FX (by decide) (by omega)).trans a2, (Fr_fi FX (by decide) (by omega)).trans a3, a4, a5⟩
              · simp only [mj_cpok, mj_nn, reduceCtorEq, lg_self, Nat.not_lt_zero, Nat.zero_le, Nat.reduceEqDiff, Nat.reduceLT, Nat.reduceLeDiff, true_or, or_true, false_or, or_false, not_true_eq_false, not_false_eq_true, true_imp_iff, false_imp_iff, and_self, wrd, u2, and_true, true_and, and_false, false_and, and_self, ite_true, ite_false, reduceIte]; exact h0
              · simp only [mj_cpok, mj_nn, reduceCtorEq, lg_self, Nat.not_lt_zero, Nat.zero_le, Nat.reduceEqDiff, Nat.reduceLT, Nat.reduceLeDiff, true_or, or_true, false_or, or_false, not_true_eq_false, not_false_eq_true, true_imp_iff, false_imp_iff, and_self, wrd, u2, and_true, true_and, and_false, false_and, and_self, ite_true, ite_false, reduceIte]; exact h1
              · simp only [mj_cpok, mj_nn, reduceCtorEq, lg_self, Nat.not_lt_zero, Nat.zero_le, Nat.reduceEqDiff, Nat.reduceLT, Nat.reduceLeDiff, true_or, or_true, false_or, or_false, not_true_eq_false, not_false_eq_true, true_imp_iff, false_imp_iff, and_self, wrd, u2, and_true, true_and, and_false, false_and, and_self, ite_true, ite_false, reduceIte]; exact h2
            cases e <;> cases e' <;> simp only [b2, Bool.false_eq_true, if_true, if_false, Bool.and_false, Bool.false_and, Bool.and_true, Bool.true_and, Bool.and_self] at nn x62
            · have n1 := nn _ _ _ rfl rfl rfl
              simp (disch := omega) only [e_119_39, e_119_40, e_119_41, e_119_44, e_119_45, e_119_46, e_119_49, e_119_50, e_119_53, e_119_54, e_119_57, e_119_58, e_119_59, e_119_62, e_119_65, e_119_66, e_119_67, e_119_70, e_119_71, e_119_74, e_119_75, e_119_78, e_119_81, e_119_82, e_119_83, e_119_86, e_119_87, e_119_90, e_119_93, e_119_94, e_119_97, e_119_98, e_119_101, i_lit, i_add, i_mul, i_m1, i_lt, i_le, i_eq, i_cl, i_in, i_ltN, i_Nlt, i_leN, i_Nle, i_eN, i_Ne, i_inN, i_l1, i_l2, mj_cpok, mj_nn, reduceCtorEq, lg_self, Nat.not_lt_zero, Nat.zero_le, Nat.reduceEqDiff, Nat.reduceLT, Nat.reduceLeDiff, true_or, or_true, false_or, or_false, not_true_eq_false, not_false_eq_true, true_imp_iff, false_imp_iff, and_self, wrd, u2, and_true, true_and, and_false, false_and, and_self, ite_true, ite_false, reduceIte, mK_n, x60, x61, x62, b2, Bool.false_eq_true]
              (repeat' (first | (with_reducible refine And.intro ?_ ?_) | (with_reducible intro _)))
              all_goals first | omega | exact n1
            · have n1 := nn _ _ _ rfl rfl rfl
              simp (disch := omega) only [e_119_39, e_119_40, e_119_41, e_119_44, e_119_45, e_119_46, e_119_49, e_119_50, e_119_53, e_119_54, e_119_57, e_119_58, e_119_59, e_119_62, e_119_65, e_119_66, e_119_67, e_119_70, e_119_71, e_119_74, e_119_75, e_119_78, e_119_81, e_119_82, e_119_83, e_119_86, e_119_87, e_119_90, e_119_93, e_119_94, e_119_97, e_119_98, e_119_101, i_lit, i_add, i_mul, i_m1, i_lt, i_le, i_eq, i_cl, i_in, i_ltN, i_Nlt, i_leN, i_Nle, i_eN, i_Ne, i_inN, i_l1, i_l2, mj_cpok, mj_nn, reduceCtorEq, lg_self, Nat.not_lt_zero, Nat.zero_le, Nat.reduceEqDiff, Nat.reduceLT, Nat.reduceLeDiff, true_or, or_true, false_or, or_false, not_true_eq_false, not_false_eq_true, true_imp_iff, false_imp_iff, and_self, wrd, u2, and_true, true_and, and_false, false_and, and_self, ite_true, ite_false, reduceIte, mK_n, x60, x61, x62, b2, Bool.false_eq_true]
              (repeat' (first | (with_reducible refine And.intro ?_ ?_) | (with_reducible intro _)))
              all_goals first | omega | exact n1
            · have n1 := nn _ _ _ rfl rfl rfl
              simp (disch := omega) only [e_119_39, e_119_40, e_119_41, e_119_44, e_119_45, e_119_46, e_119_49, e_119_50, e_119_53, e_119_54, e_119_57, e_119_58, e_119_59, e_119_62, e_119_65, e_119_66, e_119_67, e_119_70, e_119_71, e_119_74, e_119_75, e_119_78, e_119_81, e_119_82, e_119_83, e_119_86, e_119_87, e_119_90, e_119_93, e_119_94, e_119_97, e_119_98, e_119_101, i_lit, i_add, i_mul, i_m1, i_lt, i_le, i_eq, i_cl, i_in, i_ltN, i_Nlt, i_leN, i_Nle, i_eN, i_Ne, i_inN, i_l1, i_l2, mj_cpok, mj_nn, reduceCtorEq, lg_self, Nat.not_lt_zero, Nat.zero_le, Nat.reduceEqDiff, Nat.reduceLT, Nat.reduceLeDiff, true_or, or_true, false_or, or_false, not_true_eq_false, not_false_eq_true, true_imp_iff, false_imp_iff, and_self, wrd, u2, and_true, true_and, and_false, false_and, and_self, ite_true, ite_false, reduceIte, mK_n, x60, x61, x62, b2, Bool.false_eq_true]
              (repeat' (first | (with_reducible refine And.intro ?_ ?_) | (with_reducible intro _)))
              all_goals first | omega | exact n1
            · have n1 := nn _ _ _ rfl rfl rfl
              simp (disch := omega) only [e_119_39, e_119_40, e_119_41, e_119_44, e_119_45, e_119_46, e_119_49, e_119_50, e_119_53, e_119_54, e_119_57, e_119_58, e_119_59, e_119_62, e_119_65, e_119_66, e_119_67, e_119_70, e_119_71, e_119_74, e_119_75, e_119_78, e_119_81, e_119_82, e_119_83, e_119_86, e_119_87, e_119_90, e_119_93, e_119_94, e_119_97, e_119_98, e_119_101, i_lit, i_add, i_mul, i_m1, i_lt, i_le, i_eq, i_cl, i_in, i_ltN, i_Nlt, i_leN, i_Nle, i_eN, i_Ne, i_inN, i_l1, i_l2, mj_cpok, mj_nn, reduceCtorEq, lg_self, Nat.not_lt_zero, Nat.zero_le, Nat.reduceEqDiff, Nat.reduceLT, Nat.reduceLeDiff, true_or, or_true, false_or, or_false, not_true_eq_false, not_false_eq_true, true_imp_iff, false_imp_iff, and_self, wrd, u2, and_true, true_and, and_false, false_and, and_self, ite_true, ite_false, reduceIte, mK_n, x60, x61, x62, b2, Bool.false_eq_true]
              (repeat' (first | (with_reducible refine And.intro ?_ ?_) | (with_reducible intro _)))
              all_goals first | omega | exact n1
          simp (disch := omega) only [e_119_30, e_119_31, e_119_32, e_119_33, e_119_36, i_lit, i_add, i_mul, i_m1, i_lt, i_le, i_eq, i_cl, i_in, i_ltN, i_Nlt, i_leN, i_Nle, i_eN, i_Ne, i_inN, i_l1, i_l2, mj_cpok, mj_nn, reduceCtorEq, lg_self, Nat.not_lt_zero, Nat.zero_le, Nat.reduceEqDiff, Nat.reduceLT, Nat.reduceLeDiff, true_or, or_true, false_or, or_false, not_true_eq_false, not_false_eq_true, true_imp_iff, false_imp_iff, and_self, wrd, u2, and_true, true_and, and_false, false_and, and_self, ite_true, ite_false, reduceIte, mK_n, w60]
          exact n120
    · unfold rowL at K
      rw [if_neg c2] at K
      have k0 := K.2 c V hF hU hR v60 v61 v62
      simp (disch := omega) only [e_119_8, e_119_104, i_lit, i_add, i_mul, i_m1, i_lt, i_le, i_eq, i_cl, i_in, i_ltN, i_Nlt, i_leN, i_Nle, i_eN, i_Ne, i_inN, i_l1, i_l2, mj_cpok, mj_nn, reduceCtorEq, lg_self, Nat.not_lt_zero, Nat.zero_le, Nat.reduceEqDiff, Nat.reduceLT, Nat.reduceLeDiff, true_or, or_true, false_or, or_false, not_true_eq_false, not_false_eq_true, true_imp_iff, false_imp_iff, and_self, wrd, u2, and_true, true_and, and_false, false_and, and_self, ite_true, ite_false, reduceIte, mK_v]
      (repeat' (first | (with_reducible refine And.intro ?_ ?_) | (with_reducible intro _)))
      all_goals first | omega | exact k0
theorem r_119 {I : PRd} (hr : r < 12) (hIp : pRdOk I) (hI : rfOkb n B r dep 121 (d + 5) [some (vR (some (10, 0, 128))), none] I) :
    rfOk n B r dep 119 (d + 6) [some (vR (some (10, 0, 128))), none, none, none] (rowP (sgn n B) I) := by
  intro W i np fo lt Q G hT hW hi hn hf K
  have hok := hIp i np fo lt hi hn hf
  unfold rowP at K
  have hx : ∀ p V, Q (.inr (3, some p)) V → mK (d + 6) 119 1 4 [some (vR (some (10, 0, 128))), none, none, none] [] Q (.inr (3, some p)) V := fun p V h => by
    rw [mK_x (by decide +kernel)]; exact h
  simp (disch := omega) only [e_119_0, e_119_1, i_lit, i_add, i_mul, i_m1, i_lt, i_le, i_eq, i_cl, i_in, i_ltN, i_Nlt, i_leN, i_Nle, i_eN, i_Ne, i_inN, i_l1, i_l2, mj_cpok, mj_nn, reduceCtorEq, lg_self, Nat.not_lt_zero, Nat.zero_le, Nat.reduceEqDiff, Nat.reduceLT, Nat.reduceLeDiff, true_or, or_true, false_or, or_false, not_true_eq_false, not_false_eq_true, true_imp_iff, false_imp_iff, and_self, wrd, u2, and_true, true_and, and_false, false_and, and_self, ite_true, ite_false, reduceIte]
  refine hI W i np fo lt _ G hT hW hi hn hf ?_
  cases hy : I i np fo lt with
  | inl er =>
    rw [hy] at K
    exact rfE_tr Fr_refl rfU_refl hx K
  | inr y =>
    obtain ⟨i', np', fo', lt', f, l, e⟩ := y
    rw [hy] at K hok
    refine ⟨fun c => ?_, ?_⟩
    · have K' : rfK n Q W r dep (rowL (sgn n B) I 40 (i', np', fo', lt', f, l, e)) := K
      rw [rowL_40 sgn40 c.1] at K'
      exact rfE_tr Fr_refl rfU_refl hx (K'.1 c)
    · intro V hV hVU hR v60 v61 v62
      rw [mK_n]
      exact r_119l hr hIp hI G hT 40 i' np' fo' lt' f l e V none none none (by omega) hok.2.1 ⟨i, np, fo, lt, hok⟩ hV hVU hR v60 v61 v62 K
end RF
