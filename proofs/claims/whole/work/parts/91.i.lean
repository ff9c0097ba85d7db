/-! addRule: the class's reader, rows and choices. -/
section CL
variable {d : Nat} {S : Nat → Nat} {r : Nat}
theorem c_43d {W : MWd} {Q : MRes → MWd → Prop} {e j : Nat} {x2 : Int32} (he : e ≤ 40) (hj : j ≤ 40) (h2 : wFI W 262 42 = Int32.ofNat e) (h : Q (.inl none) W) : mR (d + 6) W 43 8 [some (vR (some (4, 0, 42))), some (vR (some (5, 0, 6 + 3 * r))), some (vI x2), some (vI (Int32.ofNat j))] [] Q := by
  rw [e_43_8]
  simp (disch := omega) only [e_43_9, e_43_11, e_43_14, e_43_15, e_43_41, i_lit, i_add, i_mul, i_m1, i_lt, i_le, i_eq, i_cl, i_in, i_ltN, i_Nlt, i_leN, i_Nle, i_eN, i_Ne, i_inN, i_l1, i_l2, mj_cpok, mj_nn, reduceCtorEq, lg_self, Nat.not_lt_zero, Nat.zero_le, Nat.reduceEqDiff, Nat.reduceLT, Nat.reduceLeDiff, true_or, or_true, false_or, or_false, not_true_eq_false, not_false_eq_true, true_imp_iff, false_imp_iff, and_self, wrd, u2, and_true, true_and, and_false, false_and, and_self, ite_true, ite_false, reduceIte]
  (repeat' (first | (with_reducible refine And.intro ?_ ?_) | (with_reducible intro _)))
  all_goals first
    | omega
    | exact h
    | skip
  refine c_52d he h2 ?_
  simp (disch := omega) only [mK_v, e_43_18, e_43_21, e_43_41, i_lit, i_add, i_mul, i_m1, i_lt, i_le, i_eq, i_cl, i_in, i_ltN, i_Nlt, i_leN, i_Nle, i_eN, i_Ne, i_inN, i_l1, i_l2, mj_cpok, mj_nn, reduceCtorEq, lg_self, Nat.not_lt_zero, Nat.zero_le, Nat.reduceEqDiff, Nat.reduceLT, Nat.reduceLeDiff, true_or, or_true, false_or, or_false, not_true_eq_false, not_false_eq_true, true_imp_iff, false_imp_iff, and_self, wrd, u2, and_true, true_and, and_false, false_and, and_self, ite_true, ite_false, reduceIte]
  have e256 := sgI_e
  rw [← e256]
  refine c_55 (d := d + 4) (c := 256) (by decide) (fun q => absurd q (by decide)) (fun _ => ?_)
  simp (disch := omega) only [mK_v, e_43_18, e_43_21, e_43_41, i_lit, i_add, i_mul, i_m1, i_lt, i_le, i_eq, i_cl, i_in, i_ltN, i_Nlt, i_leN, i_Nle, i_eN, i_Ne, i_inN, i_l1, i_l2, mj_cpok, mj_nn, reduceCtorEq, lg_self, Nat.not_lt_zero, Nat.zero_le, Nat.reduceEqDiff, Nat.reduceLT, Nat.reduceLeDiff, true_or, or_true, false_or, or_false, not_true_eq_false, not_false_eq_true, true_imp_iff, false_imp_iff, and_self, wrd, u2, and_true, true_and, and_false, false_and, and_self, ite_true, ite_false, reduceIte]
  (repeat' (first | (with_reducible refine And.intro ?_ ?_) | (with_reducible intro _)))
  all_goals first | omega | exact h
theorem c_42d {W : MWd} {Q : MRes → MWd → Prop} {e j : Nat} {x2 : Int32} (he : e ≤ 40) (hj : j ≤ 40) (h2 : wFI W 262 42 = Int32.ofNat e) (h : Q (.inl none) W) : mR (d + 7) W 42 8 [some (vR (some (4, 0, 42))), some (vR (some (5, 0, 6 + 3 * r))), some (vI x2), some (vI (Int32.ofNat j))] [] Q := by
  rw [e_42_8]
  simp (disch := omega) only [e_42_9, e_42_11, e_42_14, e_42_15, e_42_49, i_lit, i_add, i_mul, i_m1, i_lt, i_le, i_eq, i_cl, i_in, i_ltN, i_Nlt, i_leN, i_Nle, i_eN, i_Ne, i_inN, i_l1, i_l2, mj_cpok, mj_nn, reduceCtorEq, lg_self, Nat.not_lt_zero, Nat.zero_le, Nat.reduceEqDiff, Nat.reduceLT, Nat.reduceLeDiff, true_or, or_true, false_or, or_false, not_true_eq_false, not_false_eq_true, true_imp_iff, false_imp_iff, and_self, wrd, u2, and_true, true_and, and_false, false_and, and_self, ite_true, ite_false, reduceIte]
  (repeat' (first | (with_reducible refine And.intro ?_ ?_) | (with_reducible intro _)))
  all_goals first
    | omega
    | exact h
    | skip
  refine c_52d he h2 ?_
  simp (disch := omega) only [mK_v, e_42_18, e_42_20, e_42_49, i_lit, i_add, i_mul, i_m1, i_lt, i_le, i_eq, i_cl, i_in, i_ltN, i_Nlt, i_leN, i_Nle, i_eN, i_Ne, i_inN, i_l1, i_l2, mj_cpok, mj_nn, reduceCtorEq, lg_self, Nat.not_lt_zero, Nat.zero_le, Nat.reduceEqDiff, Nat.reduceLT, Nat.reduceLeDiff, true_or, or_true, false_or, or_false, not_true_eq_false, not_false_eq_true, true_imp_iff, false_imp_iff, and_self, wrd, u2, and_true, true_and, and_false, false_and, and_self, ite_true, ite_false, reduceIte]
  (repeat' (first | (with_reducible refine And.intro ?_ ?_) | (with_reducible intro _)))
  all_goals first | omega | exact h
theorem c_43l {x2 : Int32} {I : PRd} (hS : sgOk S) (hr : r < 12) (hIp : pRdOk I) (hI : clOk S r 44 (d + 5) [some (vR (some (4, 0, 42))), some (vR (some (5, 0, 6 + 3 * r))), some (vI x2), none, none] I) {W : MWd} (G : Gr W) (hs : clS S W) {Q : MRes → MWd → Prop} {t : Nat} :
    ∀ (k i np : Nat) (fo lt : Nat → Int32) (f l : Int32) (e : Bool) (V : MWd) (j : Nat), 40 ≤ i + k → i ≤ 40 → j + 1 ≤ i → t + 1 ≤ i → np ≤ 30 → (∀ p, np ≤ p → fo p = Int32.ofNat 0) → Fr (cF r) (cA r) 0 0 W V → clR V r (t + 1) i np fo lt → wAI V 44 t = f → wAI V 45 t = l → wAI V 46 t = b2 e → (∀ j, j < t → wAI V 44 j = wAI W 44 j ∧ wAI V 45 j = wAI W 45 j ∧ wAI V 46 j = wAI W 46 j) →
      (∃ i0 np0 fo0 lt0, pOk i0 np0 fo0 lt0 (i, np, fo, lt, f, l, e)) → clK Q W r t (rowL S I k (i, np, fo, lt, f, l, e)) → mR (d + 6) V 43 8 [some (vR (some (4, 0, 42))), some (vR (some (5, 0, 6 + 3 * r))), some (vI x2), some (vI (Int32.ofNat j))] [] Q := by
  intro k
  induction k with
  | zero =>
    intro i np fo lt f l e V j hk hi hj ht hn hf hF hc a4 a5 a6 aj _ K
    have e40 : i = 40 := by omega
    subst e40
    have k0 := K V hF hc a4 a5 a6 aj
    have GV := Fr_Gr hF G
    have hsV := clS_Fr hr hF hs
    rw [e_43_8]
    simp (disch := omega) only [e_43_9, e_43_11, e_43_14, e_43_15, e_43_41, i_lit, i_add, i_mul, i_m1, i_lt, i_le, i_eq, i_cl, i_in, i_ltN, i_Nlt, i_leN, i_Nle, i_eN, i_Ne, i_inN, i_l1, i_l2, mj_cpok, mj_nn, reduceCtorEq, lg_self, Nat.not_lt_zero, Nat.zero_le, Nat.reduceEqDiff, Nat.reduceLT, Nat.reduceLeDiff, true_or, or_true, false_or, or_false, not_true_eq_false, not_false_eq_true, true_imp_iff, false_imp_iff, and_self, wrd, u2, and_true, true_and, and_false, false_and, and_self, ite_true, ite_false, reduceIte]
    (repeat' (first | (with_reducible refine And.intro ?_ ?_) | (with_reducible intro _)))
    all_goals first
      | omega
      | exact k0
      | skip
    refine c_52 GV hS hsV hc.1 hc.2.1 hi ?_
    simp (disch := omega) only [mK_v, e_43_18, e_43_21, e_43_41, i_lit, i_add, i_mul, i_m1, i_lt, i_le, i_eq, i_cl, i_in, i_ltN, i_Nlt, i_leN, i_Nle, i_eN, i_Ne, i_inN, i_l1, i_l2, mj_cpok, mj_nn, reduceCtorEq, lg_self, Nat.not_lt_zero, Nat.zero_le, Nat.reduceEqDiff, Nat.reduceLT, Nat.reduceLeDiff, true_or, or_true, false_or, or_false, not_true_eq_false, not_false_eq_true, true_imp_iff, false_imp_iff, and_self, wrd, u2, and_true, true_and, and_false, false_and, and_self, ite_true, ite_false, reduceIte]
    have h256 := (hS 40).2 (Nat.le_refl _)
    refine c_55 (d := d + 4) (hS 40).1 (fun q => by rw [h256] at q; exact absurd q (by decide)) (fun _ => ?_)
    simp (disch := omega) only [mK_v, e_43_18, e_43_21, e_43_41, i_lit, i_add, i_mul, i_m1, i_lt, i_le, i_eq, i_cl, i_in, i_ltN, i_Nlt, i_leN, i_Nle, i_eN, i_Ne, i_inN, i_l1, i_l2, mj_cpok, mj_nn, reduceCtorEq, lg_self, Nat.not_lt_zero, Nat.zero_le, Nat.reduceEqDiff, Nat.reduceLT, Nat.reduceLeDiff, true_or, or_true, false_or, or_false, not_true_eq_false, not_false_eq_true, true_imp_iff, false_imp_iff, and_self, wrd, u2, and_true, true_and, and_false, false_and, and_self, ite_true, ite_false, reduceIte]
    (repeat' (first | (with_reducible refine And.intro ?_ ?_) | (with_reducible intro _)))
    all_goals first | omega | exact k0
  | succ k ih =>
    intro i np fo lt f l e V j hk hi hj ht hn hf hF hc a4 a5 a6 aj hp0 K
    have GV := Fr_Gr hF G
    have hsV := clS_Fr hr hF hs
    have hb := hS i
    unfold rowL at K
    rw [e_43_8]
    by_cases c : atB (S i)
    · rw [if_pos c] at K
      have hok := hIp i np fo lt hi hn hf
      simp (disch := omega) only [e_43_9, e_43_11, e_43_14, e_43_15, e_43_41, i_lit, i_add, i_mul, i_m1, i_lt, i_le, i_eq, i_cl, i_in, i_ltN, i_Nlt, i_leN, i_Nle, i_eN, i_Ne, i_inN, i_l1, i_l2, mj_cpok, mj_nn, reduceCtorEq, lg_self, Nat.not_lt_zero, Nat.zero_le, Nat.reduceEqDiff, Nat.reduceLT, Nat.reduceLeDiff, true_or, or_true, false_or, or_false, not_true_eq_false, not_false_eq_true, true_imp_iff, false_imp_iff, and_self, wrd, u2, and_true, true_and, and_false, false_and, and_self, ite_true, ite_false, reduceIte]
      (repeat' (first | (with_reducible refine And.intro ?_ ?_) | (with_reducible intro _)))
      all_goals try omega
      refine c_52 GV hS hsV hc.1 hc.2.1 hi ?_
      simp (disch := omega) only [mK_v, e_43_18, e_43_21, e_43_41, i_lit, i_add, i_mul, i_m1, i_lt, i_le, i_eq, i_cl, i_in, i_ltN, i_Nlt, i_leN, i_Nle, i_eN, i_Ne, i_inN, i_l1, i_l2, mj_cpok, mj_nn, reduceCtorEq, lg_self, Nat.not_lt_zero, Nat.zero_le, Nat.reduceEqDiff, Nat.reduceLT, Nat.reduceLeDiff, true_or, or_true, false_or, or_false, not_true_eq_false, not_false_eq_true, true_imp_iff, false_imp_iff, and_self, wrd, u2, and_true, true_and, and_false, false_and, and_self, ite_true, ite_false, reduceIte]
      refine c_55 (d := d + 4) hb.1 (fun _ => ?_) (fun q => absurd c q)
      simp (disch := omega) only [mK_v, e_43_18, e_43_21, e_43_24, e_43_25, e_43_26, e_43_27, i_lit, i_add, i_mul, i_m1, i_lt, i_le, i_eq, i_cl, i_in, i_ltN, i_Nlt, i_leN, i_Nle, i_eN, i_Ne, i_inN, i_l1, i_l2, mj_cpok, mj_nn, reduceCtorEq, lg_self, Nat.not_lt_zero, Nat.zero_le, Nat.reduceEqDiff, Nat.reduceLT, Nat.reduceLeDiff, true_or, or_true, false_or, or_false, not_true_eq_false, not_false_eq_true, true_imp_iff, false_imp_iff, and_self, wrd, u2, and_true, true_and, and_false, false_and, and_self, ite_true, ite_false, reduceIte]
      (repeat' (first | (with_reducible refine And.intro ?_ ?_) | (with_reducible intro _)))
      all_goals try omega
      refine hI V (t + 1) i np fo lt _ GV hsV hc ht hi hn hf ?_
      cases hx : I i np fo lt with
      | inl er =>
        rw [hx] at K hok
        intro V2 hV2 v2 vd
        have k0 := K V2 (Fr_trans (x := 0) (y := 0) hF hV2) v2 (clD_up vd a6 (fun j hj => (aj j hj).2.2))
        have nn := c_43d (d := d) (r := r) (x2 := x2) (j := j + 1) hok (by omega) v2 k0
        have n58 : mR (d + 5) V2 58 0 [some (vR (some (4, 0, 42))), some (vR (some (5, 0, 6 + 3 * r))), none, none] [] (mK (d + 6) 43 32 35 [some (vR (some (4, 0, 42))), some (vR (some (5, 0, 6 + 3 * r))), some (vI x2), some (vI (Int32.ofNat j))] [] Q) := by
          refine c_58d (d := d + 4) hok v2 ?_
          simp (disch := omega) only [mK_n, e_43_35, e_43_38, i_lit, i_add, i_mul, i_m1, i_lt, i_le, i_eq, i_cl, i_in, i_ltN, i_Nlt, i_leN, i_Nle, i_eN, i_Ne, i_inN, i_l1, i_l2, mj_cpok, mj_nn, reduceCtorEq, lg_self, Nat.not_lt_zero, Nat.zero_le, Nat.reduceEqDiff, Nat.reduceLT, Nat.reduceLeDiff, true_or, or_true, false_or, or_false, not_true_eq_false, not_false_eq_true, true_imp_iff, false_imp_iff, and_self, wrd, u2, and_true, true_and, and_false, false_and, and_self, ite_true, ite_false, reduceIte]
          exact nn
        simp (disch := omega) only [mK_n, e_43_30, e_43_31, e_43_32, i_lit, i_add, i_mul, i_m1, i_lt, i_le, i_eq, i_cl, i_in, i_ltN, i_Nlt, i_leN, i_Nle, i_eN, i_Ne, i_inN, i_l1, i_l2, mj_cpok, mj_nn, reduceCtorEq, lg_self, Nat.not_lt_zero, Nat.zero_le, Nat.reduceEqDiff, Nat.reduceLT, Nat.reduceLeDiff, true_or, or_true, false_or, or_false, not_true_eq_false, not_false_eq_true, true_imp_iff, false_imp_iff, and_self, wrd, u2, and_true, true_and, and_false, false_and, and_self, ite_true, ite_false, reduceIte]
        exact n58
      | inr y =>
        obtain ⟨i', np', fo', lt', f', l', e'⟩ := y
        rw [hx] at K hok
        intro V2 hV2 hc2 v44 v45 v46 vj
        have hok2 := hok
        obtain ⟨o1, o2, o3, o4, o5, o6, o7, o8, o9⟩ := hok
        have G2 := Fr_Gr hV2 GV
        have F2 : Fr (cF r) (cA r) 0 0 W V2 := Fr_trans (x := 0) (y := 0) hF hV2
        obtain ⟨w4, w5, w6⟩ := vj t (Nat.lt_succ_self t)
        have hcc := hc2
        obtain ⟨u262, u261, u260, u326, u7, u8⟩ := hc2
        obtain ⟨i0, np0, fo0, lt0, p0⟩ := hp0
        have n58 : mR (d + 5) V2 58 0 [some (vR (some (4, 0, 42))), some (vR (some (5, 0, 6 + 3 * r))), none, none] [] (mK (d + 6) 43 32 35 [some (vR (some (4, 0, 42))), some (vR (some (5, 0, 6 + 3 * r))), some (vI x2), some (vI (Int32.ofNat j))] [] Q) := by
          refine c_58 (d := d + 4) G2 hr (t := t) (f := f) (l := l) (f' := f') (l' := l') (e := e) (e' := e') (by omega) u262 u260 (w4.trans a4) (w5.trans a5) (w6.trans a6) v44 v45 v46 (fun U hU x0 x7 x4 x5 x6 xj => ?_)
          have FU : Fr (cF r) (cA r) 0 0 W U := Fr_trans (x := 0) (y := 0) F2 (Fr_weak hU (fun _ _ q => by omega) (fun _ q => by omega) (Nat.le_refl _) (Nat.le_refl _))
          have hok3 := rowL_ok hS hIp (k := 0) (x := jnR f l e (i', np', fo', lt', f', l', e')) (i := i0) (np := np0) (fo := fo0) (lt := lt0)
          have hf2 : ∀ p, np' ≤ p → lkF fo' l f' p = Int32.ofNat 0 := fun p hp => by
            have hl : pIn np0 np' l := pIn_w p0.2.2.2.2.2.2.2.2 (Nat.le_refl _) o3
            rw [lkF_out hl (by omega)]; exact o7 p hp
          have nn := ih i' np' (lkF fo' l f') lt' (if e = true then f ||| f' else f) (if e' = true then l ||| l' else l') (e && e') U (j + 1) (by omega) o2 (by omega) (by omega) o4 hf2 FU
            ⟨(Fr_fi hU (by decide) (by omega)).trans u262, (Fr_fi hU (by decide) (by omega)).trans u261, x0, (Fr_fi hU (by omega) (by omega)).trans u326, fun p hp => by
              rw [x7 p hp]; unfold lkF; rw [u7 p hp], by rw [Fr_ai hU (by omega) (by omega)]; exact u8⟩ x4 x5 x6 (fun j hj => ⟨(xj j hj).1.trans ((vj j (by omega)).1.trans (aj j hj).1), (xj j hj).2.1.trans ((vj j (by omega)).2.1.trans (aj j hj).2.1), (xj j hj).2.2.trans ((vj j (by omega)).2.2.trans (aj j hj).2.2)⟩) ?_ K
          · simp (disch := omega) only [mK_n, e_43_35, e_43_38, i_lit, i_add, i_mul, i_m1, i_lt, i_le, i_eq, i_cl, i_in, i_ltN, i_Nlt, i_leN, i_Nle, i_eN, i_Ne, i_inN, i_l1, i_l2, mj_cpok, mj_nn, reduceCtorEq, lg_self, Nat.not_lt_zero, Nat.zero_le, Nat.reduceEqDiff, Nat.reduceLT, Nat.reduceLeDiff, true_or, or_true, false_or, or_false, not_true_eq_false, not_false_eq_true, true_imp_iff, false_imp_iff, and_self, wrd, u2, and_true, true_and, and_false, false_and, and_self, ite_true, ite_false, reduceIte]
            exact nn
          · refine ⟨i0, np0, fo0, lt0, ?_⟩
            have t2 := pOk_two (e2 := e') p0 (Nat.le_refl _) hok2
            have hl : pIn np0 np' l := pIn_w p0.2.2.2.2.2.2.2.2 (Nat.le_refl _) o3
            have hf3 : pIn np0 np' f' := pIn_w o8 p0.2.2.1 (Nat.le_refl _)
            obtain ⟨b1, b2, b3, b4, b5, b6, b7, b8, b9⟩ := t2
            refine ⟨b1, b2, b3, b4, fun p hp => ⟨by rw [lkF_out hl (by omega)]; exact (b5 p hp).1, (b5 p hp).2⟩, fun p h1 h2 => ⟨lkF_in (b6 p h1 h2).1 hf3, (b6 p h1 h2).2⟩, fun p hp => by rw [lkF_out hl (by omega)]; exact b7 p hp, ?_, ?_⟩
            · by_cases c : e = true
              · rw [if_pos c]; exact pIn_or b8 hf3
              · rw [if_neg c]; exact b8
            · by_cases c : e' = true
              · rw [if_pos c]; exact pIn_or hl b9
              · rw [if_neg c]; exact b9
        simp (disch := omega) only [mK_n, e_43_30, e_43_31, e_43_32, i_lit, i_add, i_mul, i_m1, i_lt, i_le, i_eq, i_cl, i_in, i_ltN, i_Nlt, i_leN, i_Nle, i_eN, i_Ne, i_inN, i_l1, i_l2, mj_cpok, mj_nn, reduceCtorEq, lg_self, Nat.not_lt_zero, Nat.zero_le, Nat.reduceEqDiff, Nat.reduceLT, Nat.reduceLeDiff, true_or, or_true, false_or, or_false, not_true_eq_false, not_false_eq_true, true_imp_iff, false_imp_iff, and_self, wrd, u2, and_true, true_and, and_false, false_and, and_self, ite_true, ite_false, reduceIte]
        exact n58
    · rw [if_neg c] at K
      have k0 := K V hF hc a4 a5 a6 aj
      simp (disch := omega) only [e_43_9, e_43_11, e_43_14, e_43_15, e_43_41, i_lit, i_add, i_mul, i_m1, i_lt, i_le, i_eq, i_cl, i_in, i_ltN, i_Nlt, i_leN, i_Nle, i_eN, i_Ne, i_inN, i_l1, i_l2, mj_cpok, mj_nn, reduceCtorEq, lg_self, Nat.not_lt_zero, Nat.zero_le, Nat.reduceEqDiff, Nat.reduceLT, Nat.reduceLeDiff, true_or, or_true, false_or, or_false, not_true_eq_false, not_false_eq_true, true_imp_iff, false_imp_iff, and_self, wrd, u2, and_true, true_and, and_false, false_and, and_self, ite_true, ite_false, reduceIte]
      (repeat' (first | (with_reducible refine And.intro ?_ ?_) | (with_reducible intro _)))
      all_goals first
        | omega
        | exact k0
        | skip
      refine c_52 GV hS hsV hc.1 hc.2.1 hi ?_
      simp (disch := omega) only [mK_v, e_43_18, e_43_21, e_43_41, i_lit, i_add, i_mul, i_m1, i_lt, i_le, i_eq, i_cl, i_in, i_ltN, i_Nlt, i_leN, i_Nle, i_eN, i_Ne, i_inN, i_l1, i_l2, mj_cpok, mj_nn, reduceCtorEq, lg_self, Nat.not_lt_zero, Nat.zero_le, Nat.reduceEqDiff, Nat.reduceLT, Nat.reduceLeDiff, true_or, or_true, false_or, or_false, not_true_eq_false, not_false_eq_true, true_imp_iff, false_imp_iff, and_self, wrd, u2, and_true, true_and, and_false, false_and, and_self, ite_true, ite_false, reduceIte]
      refine c_55 (d := d + 4) hb.1 (fun q => absurd q c) (fun _ => ?_)
      simp (disch := omega) only [mK_v, e_43_18, e_43_21, e_43_41, i_lit, i_add, i_mul, i_m1, i_lt, i_le, i_eq, i_cl, i_in, i_ltN, i_Nlt, i_leN, i_Nle, i_eN, i_Ne, i_inN, i_l1, i_l2, mj_cpok, mj_nn, reduceCtorEq, lg_self, Nat.not_lt_zero, Nat.zero_le, Nat.reduceEqDiff, Nat.reduceLT, Nat.reduceLeDiff, true_or, or_true, false_or, or_false, not_true_eq_false, not_false_eq_true, true_imp_iff, false_imp_iff, and_self, wrd, u2, and_true, true_and, and_false, false_and, and_self, ite_true, ite_false, reduceIte]
      (repeat' (first | (with_reducible refine And.intro ?_ ?_) | (with_reducible intro _)))
      all_goals first | omega | exact k0
end CL
