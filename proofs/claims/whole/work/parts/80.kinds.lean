/-! build: the reference's classes. -/
theorem sAI_row {w : MWd} {a b j : Nat} {v : Int32} (h : b ≠ a) : wAI (sAI w a j v) b = wAI w b := u2_row h
section CK
variable {d n : Nat} {w : MWd} {Q : MRes → MWd → Prop} {A : Nat → Int32} {mv : Nat → Option Nat}
abbrev clFr (w w' : MWd) : Prop := Fr (fun _ _ => False) (fun a => a = 158 ∨ a = 159) 0 0 w w'
theorem clFr_t {w w' w'' : MWd} (h : clFr w w') (h' : clFr w' w'') : clFr w w'' := Fr_trans (x := 0) (y := 0) (x' := 0) (y' := 0) h h'
theorem s_141 (G : Gr w) (hF : CF w n A mv)
    (K : ∀ (w' : MWd) (cl : Nat → Nat), clFr w w' → (∀ i, i < n → wAI w' 158 i = Int32.ofNat (cl i) ∧ cl i < n) → (∀ i j, i < n → j < n → (cl i = cl j ↔ Pe A mv i j)) → Q (.inl none) w') :
    mR (d + 2) w 141 0 [some (vR (some (10, 0, 128))), none, none, none, none] [] Q := by
  have hF' := hF
  obtain ⟨f1, f2, f3, f4, f5, f6⟩ := hF
  have kf : ∀ {w' : MWd}, clFr w w' → CF w' n A mv := fun hW => ⟨f1, f2, (Fr_fi hW (by decide) (fun q => q)).trans f3, by rw [Fr_ai hW (by decide) (by decide)]; exact f4, by rw [Fr_ai hW (by decide) (by decide)]; exact f5, f6⟩
  -- one round: from classes of round k to the others of round k + 1
  have round : ∀ (k b : Nat) (w' : MWd) (cl : Nat → Nat), b ≤ 100 → clFr w w' → (∀ i, i < n → wAI w' 158 i = Int32.ofNat (cl i) ∧ cl i < n) → (∀ i j, i < n → j < n → (cl i = cl j ↔ Pq A mv k i j)) →
      (∀ (w'' : MWd) (o : Nat → Nat) (l3 l4 : Option MV), clFr w w'' → (∀ i, i < n → wAI w'' 158 i = Int32.ofNat (o i) ∧ o i < n) → (∀ i j, i < n → j < n → (o i = o j ↔ Pq A mv (k + 1) i j)) →
        mR (d + 2) w'' 141 27 [some (vR (some (10, 0, 128))), some (vI (Int32.ofNat b)), some (vI (Int32.ofNat (nK A mv n (k + 1)))), some (vI (Int32.ofNat n)), l4] [] Q) →
      ∀ (f s : Nat) (w'' : MWd) (o : Nat → Nat) (l4 : Option MV), s + f = n → clFr w w'' → wAI w'' 158 = wAI w' 158 → (∀ i, i < s → wAI w'' 159 i = Int32.ofNat (o i) ∧ o i < cnt (rpB A mv (k + 1)) s) → (∀ i j, i < s → j < s → (o i = o j ↔ Pq A mv (k + 1) i j)) →
        mR (d + 2) w'' 141 38 [some (vR (some (10, 0, 128))), some (vI (Int32.ofNat b)), some (vI (Int32.ofNat (cnt (rpB A mv (k + 1)) s))), some (vI (Int32.ofNat s)), l4] [] Q := by
    intro k b w' cl hb hW hk hL KK f
    induction f with
    | zero =>
      intro s w'' o l4 hs hW' h158 g1 g2
      have he : s = n := by omega
      subst he
      have hc := nK_le (A := A) (mv := mv) (n := s) (k := k + 1)
      have copy : ∀ (f q : Nat) (v : MWd), q + f = s → clFr w v → wAI v 159 = wAI w'' 159 → (∀ i, i < q → wAI v 158 i = Int32.ofNat (o i)) →
          mR (d + 2) v 141 110 [some (vR (some (10, 0, 128))), some (vI (Int32.ofNat b)), some (vI (Int32.ofNat (nK A mv s (k + 1)))), some (vI (Int32.ofNat q)), l4] [] Q := by
        intro f
        induction f with
        | zero =>
          intro q v hq hv h159 g3
          have he : q = s := by omega
          subst he
          have a669 : wFI v 669 128 = Int32.ofNat q := (Fr_fi hv (by decide) (fun q => q)).trans f3
          rw [e_141_110]
          simp (disch := omega) only [e_141_111, e_141_112, e_141_115, e_141_136, i_lit, i_add, i_mul, i_m1, i_lt, i_le, i_eq, i_cl, i_in, i_ltN, i_Nlt, i_leN, i_Nle, i_eN, i_Ne, i_inN, i_l1, i_l2, mj_cpok, mj_nn, reduceCtorEq, lg_self, Nat.not_lt_zero, Nat.zero_le, Nat.reduceEqDiff, Nat.reduceLT, Nat.reduceLeDiff, true_or, or_true, false_or, or_false, not_true_eq_false, not_false_eq_true, true_imp_iff, false_imp_iff, and_self, wrd, u2, and_true, true_and, and_false, false_and, and_self, ite_true, ite_false, reduceIte, a669]
          (repeat' (first | (with_reducible refine And.intro ?_ ?_) | (with_reducible intro _)))
          all_goals try omega
          exact KK v o none l4 hv (fun i hi => ⟨g3 i hi, by have h9 : o i < nK A mv q (k + 1) := (g1 i hi).2; omega⟩) g2
        | succ f ihc =>
          intro q v hq hv h159 g3
          have Gv := Fr_Gr hv G
          have a669 : wFI v 669 128 = Int32.ofNat s := (Fr_fi hv (by decide) (fun q => q)).trans f3
          have eo : wAI v 159 q = Int32.ofNat (o q) := by rw [h159]; exact (g1 q (by omega)).1
          rw [e_141_110]
          simp (disch := omega) only [e_141_111, e_141_112, e_141_115, e_141_118, e_141_119, e_141_122, e_141_123, e_141_124, e_141_127, e_141_128, e_141_129, e_141_130, e_141_133, i_lit, i_add, i_mul, i_m1, i_lt, i_le, i_eq, i_cl, i_in, i_ltN, i_Nlt, i_leN, i_Nle, i_eN, i_Ne, i_inN, i_l1, i_l2, mj_cpok, mj_nn, reduceCtorEq, lg_self, Nat.not_lt_zero, Nat.zero_le, Nat.reduceEqDiff, Nat.reduceLT, Nat.reduceLeDiff, true_or, or_true, false_or, or_false, not_true_eq_false, not_false_eq_true, true_imp_iff, false_imp_iff, and_self, wrd, u2, and_true, true_and, and_false, false_and, and_self, ite_true, ite_false, reduceIte, a669, g_673 Gv, g_674 Gv, eo]
          (repeat' (first | (with_reducible refine And.intro ?_ ?_) | (with_reducible intro _)))
          all_goals try omega
          refine ihc (q + 1) _ (by omega) (Fr_sAI hv (Or.inl (Or.inl rfl))) (by rw [← h159]; exact sAI_row (by decide)) (fun i hi => ?_)
          simp only [mj_cpok, mj_nn, reduceCtorEq, lg_self, Nat.not_lt_zero, Nat.zero_le, Nat.reduceEqDiff, Nat.reduceLT, Nat.reduceLeDiff, true_or, or_true, false_or, or_false, not_true_eq_false, not_false_eq_true, true_imp_iff, false_imp_iff, and_self, wrd, u2, and_true, true_and, and_false, false_and, and_self, ite_true, ite_false, reduceIte]
          by_cases hiq : i = q
          · rw [if_pos hiq, hiq]
          · rw [if_neg hiq]; exact g3 i (by omega)
      have a669 : wFI w'' 669 128 = Int32.ofNat s := (Fr_fi hW' (by decide) (fun q => q)).trans f3
      rw [e_141_38]
      simp (disch := omega) only [e_141_39, e_141_40, e_141_43, e_141_108, e_141_109, i_lit, i_add, i_mul, i_m1, i_lt, i_le, i_eq, i_cl, i_in, i_ltN, i_Nlt, i_leN, i_Nle, i_eN, i_Ne, i_inN, i_l1, i_l2, mj_cpok, mj_nn, reduceCtorEq, lg_self, Nat.not_lt_zero, Nat.zero_le, Nat.reduceEqDiff, Nat.reduceLT, Nat.reduceLeDiff, true_or, or_true, false_or, or_false, not_true_eq_false, not_false_eq_true, true_imp_iff, false_imp_iff, and_self, wrd, u2, and_true, true_and, and_false, false_and, and_self, ite_true, ite_false, reduceIte, a669]
      (repeat' (first | (with_reducible refine And.intro ?_ ?_) | (with_reducible intro _)))
      all_goals try omega
      exact copy s 0 w'' (by omega) hW' rfl (fun i hi => absurd hi (Nat.not_lt_zero i))
    | succ f ih =>
      intro s w'' o l4 hs hW' h158 g1 g2
      have hcn := cnt_le (rpB A mv (k + 1)) s
      have a669 : wFI w'' 669 128 = Int32.ofNat n := (Fr_fi hW' (by decide) (fun q => q)).trans f3
      have G'' := Fr_Gr hW' G
      have search : ∀ (f' i : Nat), i + f' = s → (∀ j, j < i → ¬ Pq A mv (k + 1) j s) →
          mR (d + 2) w'' 141 49 [some (vR (some (10, 0, 128))), some (vI (Int32.ofNat b)), some (vI (Int32.ofNat (cnt (rpB A mv (k + 1)) s))), some (vI (Int32.ofNat s)), some (vI (Int32.ofNat i))] [] Q := by
        intro f'
        induction f' with
        | zero =>
          intro i hi g3
          have his : i = s := by omega
          subst his
          have hrp : rpB A mv (k + 1) i = true := rpB_iff.mpr g3
          have nn : mR (d + 2) (sAI w'' 159 i (Int32.ofNat (cnt (rpB A mv (k + 1)) i))) 141 38 [some (vR (some (10, 0, 128))), some (vI (Int32.ofNat b)), some (vI (Int32.ofNat (cnt (rpB A mv (k + 1)) i + 1))), some (vI (Int32.ofNat (i + 1))), some (vI (Int32.ofNat i))] [] Q := by
            have e : cnt (rpB A mv (k + 1)) (i + 1) = cnt (rpB A mv (k + 1)) i + 1 := by show cnt _ i + (if rpB A mv (k + 1) i = true then 1 else 0) = _; rw [if_pos hrp]
            have := ih (i + 1) (sAI w'' 159 i (Int32.ofNat (cnt (rpB A mv (k + 1)) i))) (fun x => if x = i then cnt (rpB A mv (k + 1)) i else o x) (some (vI (Int32.ofNat i))) (by omega) (Fr_sAI hW' (Or.inl (Or.inr rfl))) (by rw [← h158]; exact sAI_row (by decide)) (fun x hx => ?_) (fun x y hx hy => ?_)
            · rw [e] at this; exact this
            · rw [e]
              simp only [mj_cpok, mj_nn, reduceCtorEq, lg_self, Nat.not_lt_zero, Nat.zero_le, Nat.reduceEqDiff, Nat.reduceLT, Nat.reduceLeDiff, true_or, or_true, false_or, or_false, not_true_eq_false, not_false_eq_true, true_imp_iff, false_imp_iff, and_self, wrd, u2, and_true, true_and, and_false, false_and, and_self, ite_true, ite_false, reduceIte]
              by_cases hxi : x = i
              · rw [if_pos hxi, if_pos hxi]; exact ⟨rfl, by omega⟩
              · rw [if_neg hxi, if_neg hxi]
                have := g1 x (by omega)
                exact ⟨this.1, by omega⟩
            · by_cases hxi : x = i
              · by_cases hyi : y = i
                · subst hxi; rw [if_pos rfl, hyi, if_pos rfl]; exact iff_of_true rfl (Pq_refl _ _)
                · have hyo := (g1 y (by omega)).2
                  rw [if_pos hxi, if_neg hyi, hxi]
                  exact iff_of_false (by omega) (fun q => g3 y (by omega) (Pq_symm _ q))
              · by_cases hyi : y = i
                · have hxo := (g1 x (by omega)).2
                  rw [if_neg hxi, if_pos hyi, hyi]
                  exact iff_of_false (by omega) (fun q => g3 x (by omega) q)
                · rw [if_neg hxi, if_neg hyi]; exact g2 x y (by omega) (by omega)
          rw [e_141_49, e_141_50, e_141_52, e_141_53]
          refine s_143 (d := d) G'' (kf hW') (cl := cl) (fun x hx => by rw [h158]; exact hk x hx) hL (by omega) (by omega) (fun _ => ?_) (fun q => absurd (Pq_refl _ _) q)
          simp (disch := omega) only [mK_v, e_141_56, e_141_65, e_141_66, e_141_69, e_141_70, e_141_72, e_141_73, e_141_76, e_141_77, e_141_80, e_141_81, e_141_84, e_141_86, e_141_87, e_141_88, e_141_89, e_141_91, e_141_92, e_141_95, e_141_96, e_141_99, e_141_100, e_141_101, e_141_102, e_141_105, i_lit, i_add, i_mul, i_m1, i_lt, i_le, i_eq, i_cl, i_in, i_ltN, i_Nlt, i_leN, i_Nle, i_eN, i_Ne, i_inN, i_l1, i_l2, mj_cpok, mj_nn, reduceCtorEq, lg_self, Nat.not_lt_zero, Nat.zero_le, Nat.reduceEqDiff, Nat.reduceLT, Nat.reduceLeDiff, true_or, or_true, false_or, or_false, not_true_eq_false, not_false_eq_true, true_imp_iff, false_imp_iff, and_self, wrd, u2, and_true, true_and, and_false, false_and, and_self, ite_true, ite_false, reduceIte, g_674 G'']
          (repeat' (first | (with_reducible refine And.intro ?_ ?_) | (with_reducible intro _)))
          all_goals first | omega | exact nn
        | succ f' ihs =>
          intro i hi g3
          rw [e_141_49, e_141_50, e_141_52, e_141_53]
          refine s_143 (d := d) G'' (kf hW') (cl := cl) (fun x hx => by rw [h158]; exact hk x hx) hL (by omega) (by omega) (fun hp => ?_) (fun hp => ?_)
          · have hrp : ¬ rpB A mv (k + 1) s = true := fun q => rpB_iff.mp q i (by omega) hp
            have hoi := g1 i (by omega)
            have hne : ¬ i = s := by omega
            have nn : mR (d + 2) (sAI w'' 159 s (Int32.ofNat (o i))) 141 38 [some (vR (some (10, 0, 128))), some (vI (Int32.ofNat b)), some (vI (Int32.ofNat (cnt (rpB A mv (k + 1)) s + 0))), some (vI (Int32.ofNat (s + 1))), some (vI (Int32.ofNat i))] [] Q := by
              have e : cnt (rpB A mv (k + 1)) (s + 1) = cnt (rpB A mv (k + 1)) s + 0 := by show cnt _ s + (if rpB A mv (k + 1) s = true then 1 else 0) = _; rw [if_neg hrp]
              have := ih (s + 1) (sAI w'' 159 s (Int32.ofNat (o i))) (fun x => if x = s then o i else o x) (some (vI (Int32.ofNat i))) (by omega) (Fr_sAI hW' (Or.inl (Or.inr rfl))) (by rw [← h158]; exact sAI_row (by decide)) (fun x hx => ?_) (fun x y hx hy => ?_)
              · rw [e] at this; exact this
              · rw [e]
                simp only [mj_cpok, mj_nn, reduceCtorEq, lg_self, Nat.not_lt_zero, Nat.zero_le, Nat.reduceEqDiff, Nat.reduceLT, Nat.reduceLeDiff, true_or, or_true, false_or, or_false, not_true_eq_false, not_false_eq_true, true_imp_iff, false_imp_iff, and_self, wrd, u2, and_true, true_and, and_false, false_and, and_self, ite_true, ite_false, reduceIte]
                by_cases hxi : x = s
                · rw [if_pos hxi, if_pos hxi]; exact ⟨rfl, by omega⟩
                · rw [if_neg hxi, if_neg hxi]
                  have := g1 x (by omega)
                  exact ⟨this.1, by omega⟩
              · by_cases hxi : x = s
                · by_cases hyi : y = s
                  · subst hxi; rw [if_pos rfl, hyi, if_pos rfl]; exact iff_of_true rfl (Pq_refl _ _)
                  · rw [if_pos hxi, if_neg hyi, hxi, g2 i y (by omega) (by omega)]
                    exact ⟨fun q => Pq_trans _ (Pq_symm _ hp) q, fun q => Pq_trans _ hp q⟩
                · by_cases hyi : y = s
                  · rw [if_neg hxi, if_pos hyi, hyi, g2 x i (by omega) (by omega)]
                    exact ⟨fun q => Pq_trans _ q hp, fun q => Pq_trans _ q (Pq_symm _ hp)⟩
                  · rw [if_neg hxi, if_neg hyi]; exact g2 x y (by omega) (by omega)
            simp (disch := omega) only [mK_v, e_141_56, e_141_65, e_141_66, e_141_69, e_141_70, e_141_72, e_141_73, e_141_76, e_141_77, e_141_80, e_141_81, e_141_84, e_141_86, e_141_87, e_141_88, e_141_89, e_141_91, e_141_92, e_141_95, e_141_96, e_141_99, e_141_100, e_141_101, e_141_102, e_141_105, i_lit, i_add, i_mul, i_m1, i_lt, i_le, i_eq, i_cl, i_in, i_ltN, i_Nlt, i_leN, i_Nle, i_eN, i_Ne, i_inN, i_l1, i_l2, mj_cpok, mj_nn, reduceCtorEq, lg_self, Nat.not_lt_zero, Nat.zero_le, Nat.reduceEqDiff, Nat.reduceLT, Nat.reduceLeDiff, true_or, or_true, false_or, or_false, not_true_eq_false, not_false_eq_true, true_imp_iff, false_imp_iff, and_self, wrd, u2, and_true, true_and, and_false, false_and, and_self, ite_true, ite_false, reduceIte, g_674 G'', hoi.1, hne]
            (repeat' (first | (with_reducible refine And.intro ?_ ?_) | (with_reducible intro _)))
            all_goals first | omega | exact nn
          · simp (disch := omega) only [mK_v, e_141_56, e_141_59, e_141_62, i_lit, i_add, i_mul, i_m1, i_lt, i_le, i_eq, i_cl, i_in, i_ltN, i_Nlt, i_leN, i_Nle, i_eN, i_Ne, i_inN, i_l1, i_l2, mj_cpok, mj_nn, reduceCtorEq, lg_self, Nat.not_lt_zero, Nat.zero_le, Nat.reduceEqDiff, Nat.reduceLT, Nat.reduceLeDiff, true_or, or_true, false_or, or_false, not_true_eq_false, not_false_eq_true, true_imp_iff, false_imp_iff, and_self, wrd, u2, and_true, true_and, and_false, false_and, and_self, ite_true, ite_false, reduceIte]
            (repeat' (first | (with_reducible refine And.intro ?_ ?_) | (with_reducible intro _)))
            all_goals try omega
            refine ihs (i + 1) (by omega) (fun j hj => ?_)
            by_cases hji : j = i
            · subst hji; exact hp
            · exact g3 j (by omega)
      rw [e_141_38]
      simp (disch := omega) only [e_141_39, e_141_40, e_141_43, e_141_46, e_141_47, i_lit, i_add, i_mul, i_m1, i_lt, i_le, i_eq, i_cl, i_in, i_ltN, i_Nlt, i_leN, i_Nle, i_eN, i_Ne, i_inN, i_l1, i_l2, mj_cpok, mj_nn, reduceCtorEq, lg_self, Nat.not_lt_zero, Nat.zero_le, Nat.reduceEqDiff, Nat.reduceLT, Nat.reduceLeDiff, true_or, or_true, false_or, or_false, not_true_eq_false, not_false_eq_true, true_imp_iff, false_imp_iff, and_self, wrd, u2, and_true, true_and, and_false, false_and, and_self, ite_true, ite_false, reduceIte, a669]
      (repeat' (first | (with_reducible refine And.intro ?_ ?_) | (with_reducible intro _)))
      all_goals try omega
      exact search s 0 (by omega) (fun j hj => absurd hj (Nat.not_lt_zero j))
  have main : ∀ (f k b : Nat) (w' : MWd) (cl : Nat → Nat) (l3 l4 : Option MV), k + f = 101 → clFr w w' → (∀ i, i < n → wAI w' 158 i = Int32.ofNat (cl i) ∧ cl i < n) → (∀ i j, i < n → j < n → (cl i = cl j ↔ Pq A mv k i j)) →
      (k = 0 ∧ b = 0 ∨ ∃ k', k = k' + 1 ∧ b = nK A mv n k' ∧ k ≤ b) → mR (d + 2) w' 141 27 [some (vR (some (10, 0, 128))), some (vI (Int32.ofNat b)), some (vI (Int32.ofNat (nK A mv n k))), some (vI (Int32.ofNat n)), l4] [] Q := by
    intro f
    induction f with
    | zero =>
      intro k b w' cl l3 l4 hk hW g1 g2 g3
      exfalso
      rcases g3 with ⟨h1, -⟩ | ⟨k', h1, h2, h3⟩
      · omega
      · have := nK_le (A := A) (mv := mv) (n := n) (k := k')
        omega
    | succ f ih =>
      intro k b w' cl l3 l4 hk hW g1 g2 g3
      have c1 := nK_le (A := A) (mv := mv) (n := n) (k := k)
      have h0 := nK_0 (A := A) (mv := mv) (n := n) (by omega)
      have hb : b ≤ 100 := by
        rcases g3 with ⟨-, h1⟩ | ⟨k', -, h2, -⟩
        · omega
        · have := nK_le (A := A) (mv := mv) (n := n) (k := k')
          omega
      rw [e_141_27]
      simp (disch := omega) only [e_141_28, e_141_29, e_141_32, e_141_33, e_141_34, e_141_35, e_141_36, e_141_37, e_141_139, i_lit, i_add, i_mul, i_m1, i_lt, i_le, i_eq, i_cl, i_in, i_ltN, i_Nlt, i_leN, i_Nle, i_eN, i_Ne, i_inN, i_l1, i_l2, mj_cpok, mj_nn, reduceCtorEq, lg_self, Nat.not_lt_zero, Nat.zero_le, Nat.reduceEqDiff, Nat.reduceLT, Nat.reduceLeDiff, true_or, or_true, false_or, or_false, not_true_eq_false, not_false_eq_true, true_imp_iff, false_imp_iff, and_self, wrd, u2, and_true, true_and, and_false, false_and, and_self, ite_true, ite_false, reduceIte]
      refine ⟨fun he => ?_, fun hne => ?_⟩
      · rcases g3 with ⟨h1, h2⟩ | ⟨k', h1, h2, h3⟩
        · subst h1; omega
        · refine K w' cl hW g1 (fun i j hi hj => ?_)
          rw [g2 i j hi hj, h1]
          exact (Pe_iff f6 (by rw [← h1]; omega) hi hj).symm
      · have hk1 : k + 1 ≤ nK A mv n k := by
          rcases g3 with ⟨h1, h2⟩ | ⟨k', h1, h2, h3⟩
          · subst h1; omega
          · have hmo := nK_mono (A := A) (mv := mv) (n := n) (k := k')
            rw [← h1] at hmo; omega
        refine round k (nK A mv n k) w' cl (by omega) hW g1 g2 (fun w'' o l3' l4' hW' g1' g2' => ?_) n 0 w' (fun _ => 0) l4 (by omega) hW rfl (fun i hi => absurd hi (Nat.not_lt_zero i)) (fun i j hi => absurd hi (Nat.not_lt_zero i))
        exact ih (k + 1) (nK A mv n k) w'' o l3' l4' (by omega) hW' g1' g2' (Or.inr ⟨k, rfl, rfl, hk1⟩)
  have ini : ∀ (f i : Nat) (w' : MWd), i + f = n → clFr w w' → (∀ q, q < i → wAI w' 158 q = Int32.ofNat 0) → mR (d + 2) w' 141 6 [some (vR (some (10, 0, 128))), some (vI (Int32.ofNat 0)), some (vI (Int32.ofNat 1)), some (vI (Int32.ofNat i)), none] [] Q := by
    intro f
    induction f with
    | zero =>
      intro i w' hi hW g
      have he : i = n := by omega
      subst he
      have a669 : wFI w' 669 128 = Int32.ofNat i := (Fr_fi hW (by decide) (fun q => q)).trans f3
      rw [e_141_6]
      simp (disch := omega) only [e_141_7, e_141_8, e_141_11, i_lit, i_add, i_mul, i_m1, i_lt, i_le, i_eq, i_cl, i_in, i_ltN, i_Nlt, i_leN, i_Nle, i_eN, i_Ne, i_inN, i_l1, i_l2, mj_cpok, mj_nn, reduceCtorEq, lg_self, Nat.not_lt_zero, Nat.zero_le, Nat.reduceEqDiff, Nat.reduceLT, Nat.reduceLeDiff, true_or, or_true, false_or, or_false, not_true_eq_false, not_false_eq_true, true_imp_iff, false_imp_iff, and_self, wrd, u2, and_true, true_and, and_false, false_and, and_self, ite_true, ite_false, reduceIte, a669]
      (repeat' (first | (with_reducible refine And.intro ?_ ?_) | (with_reducible intro _)))
      all_goals try omega
      have := main 101 0 0 w' (fun _ => 0) none none (by omega) hW (fun q hq => ⟨g q hq, by omega⟩) (fun a b _ _ => iff_of_true rfl trivial) (Or.inl ⟨rfl, rfl⟩)
      rw [nK_0 (by omega)] at this
      exact this
    | succ f ih =>
      intro i w' hi hW g
      have a669 : wFI w' 669 128 = Int32.ofNat n := (Fr_fi hW (by decide) (fun q => q)).trans f3
      rw [e_141_6]
      simp (disch := omega) only [e_141_7, e_141_8, e_141_11, e_141_14, e_141_15, e_141_18, e_141_19, e_141_20, e_141_21, e_141_24, i_lit, i_add, i_mul, i_m1, i_lt, i_le, i_eq, i_cl, i_in, i_ltN, i_Nlt, i_leN, i_Nle, i_eN, i_Ne, i_inN, i_l1, i_l2, mj_cpok, mj_nn, reduceCtorEq, lg_self, Nat.not_lt_zero, Nat.zero_le, Nat.reduceEqDiff, Nat.reduceLT, Nat.reduceLeDiff, true_or, or_true, false_or, or_false, not_true_eq_false, not_false_eq_true, true_imp_iff, false_imp_iff, and_self, wrd, u2, and_true, true_and, and_false, false_and, and_self, ite_true, ite_false, reduceIte, a669, g_673 (Fr_Gr hW G)]
      (repeat' (first | (with_reducible refine And.intro ?_ ?_) | (with_reducible intro _)))
      all_goals try omega
      refine ih (i + 1) _ (by omega) (Fr_sAI hW (Or.inl (Or.inl rfl))) (fun q hq => ?_)
      simp only [mj_cpok, mj_nn, reduceCtorEq, lg_self, Nat.not_lt_zero, Nat.zero_le, Nat.reduceEqDiff, Nat.reduceLT, Nat.reduceLeDiff, true_or, or_true, false_or, or_false, not_true_eq_false, not_false_eq_true, true_imp_iff, false_imp_iff, and_self, wrd, u2, and_true, true_and, and_false, false_and, and_self, ite_true, ite_false, reduceIte]
      by_cases hqi : q = i
      · rw [if_pos hqi]
      · rw [if_neg hqi]; exact g q (by omega)
  rw [e_141_0, e_141_1, e_141_2, e_141_3, e_141_4, e_141_5]
  exact ini n 0 w (by omega) Fr_refl (fun q hq => absurd hq (Nat.not_lt_zero q))
end CK
