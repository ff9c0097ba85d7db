/-! scan: the class cuts a token. -/
def rFi (w : MWd) (r p : Nat) : Prop := bt (wFI w 328 (6 + 3 * r)) p = true
def rLa (w : MWd) (r p : Nat) : Prop := bt (wFI w 330 (6 + 3 * r)) p = true
def rAF (w : MWd) (r p : Nat) : Prop := p < 32 ∧ bt (wAI w 139 r) p = true
def rAL (w : MWd) (r p : Nat) : Prop := p < 32 ∧ bt (wAI w 140 r) p = true
def rUs (w : MWd) (r p : Nat) : Prop := bt (wAI w 142 r) p = true
def rFo (w : MWd) (r np p q : Nat) : Prop := p < np ∧ q < 32 ∧ bt (wAI w 136 (30 * r + p)) q = true
def rLt (w : MWd) (r np l p : Nat) : Prop := l < 8 ∧ p < np ∧ bt (wAI w 135 (30 * r + p)) l = true
def rCE (w : MWd) (r : Nat) : Prop := wAI w 141 r = Int32.ofNat 1
theorem bt_lt {x : Int32} {p : Nat} (h : bt x p = true) : p < 32 := by
  apply Nat.lt_of_not_le
  intro hc
  rw [bt_big hc] at h; cases h
theorem cutOk_of {w : MWd} {r np tp : Nat} (hA : RuleA w r np tp) (hB : RuleB w r np) (hC : RuleC w r np tp) (h1 : wAI w 133 r = Int32.ofNat 1) : cutOk tp (rFi w r) (rLa w r) (rAF w r) (rAL w r) (rUs w r) (rFo w r np) (rLt w r np) (rCE w r) := by
  have e328 : wFI w 328 (6 + 3 * r) = wAI w 137 r := hA.2.2.2.2.2.2.2.2.2.1
  have e330 : wFI w 330 (6 + 3 * r) = wAI w 138 r := hA.2.2.2.2.2.2.2.2.2.2.1
  obtain ⟨c1, c2, c3, c4, c5, c6⟩ := hC
  obtain ⟨b1, -, -, -, b5, b6⟩ := hB
  have hnp := hA.1
  refine ⟨fun p h => ?_, fun p h => ?_, fun p h => (c3 p h.1 h.2).1, fun p h => (c4 p h.1 h.2).1, fun p q h => ?_, fun p l hl h => ?_⟩
  · unfold rFi at h; rw [e328] at h; exact c1 p (bt_lt h) h
  · unfold rLa at h; rw [e330] at h; exact c2 p (bt_lt h) h
  · have := c5 p q h.1 h.2.1 h.2.2
    exact ⟨this.1, fun q' => (this.2 q').1⟩
  · obtain ⟨l1, l2, l3⟩ := hl
    refine c6 p l2 ⟨l, l1, l3⟩ ?_
    rcases h with (h | ⟨h, h'⟩) | ⟨q, h | ⟨h, h'⟩, h2⟩
    · left; rw [b1 p (by omega), if_pos h1, h.2]; rfl
    · left
      have h9 : bt (wAI w 138 r) p = true := by unfold rLa at h'; rw [e330] at h'; exact h'
      have h10 : wAI w 141 r = Int32.ofNat 1 := h
      rw [b1 p (by omega), if_pos h1, h10, h9, decide_eq_true rfl]; simp
    · right
      refine ⟨q, h.2.1, ?_, h2⟩
      rw [b5 p q (by omega) h.2.1, h.2.2, decide_eq_true l2]; rfl
    · right
      have h9 : bt (wAI w 138 r) p = true := by unfold rLa at h; rw [e330] at h; exact h
      refine ⟨q, h'.1, ?_, h2⟩
      rw [b5 p q (by omega) h'.1, h9, h'.2, decide_eq_true l2]; simp
theorem pl_iff {w : MWd} {r np l p : Nat} (hB : RuleB w r np) (hnp : np ≤ 30) (hl : l < 8) : bt (wAI w (8 + 3 * r) l) p = true ↔ plC (rUs w r) (rLt w r np) l p := by
  unfold plC rLt rUs
  constructor
  · intro h
    have hp := bt_lt h
    rw [hB.2.2.2.2.2 l p hl hp] at h
    simp only [Bool.and_eq_true, decide_eq_true_eq] at h
    exact ⟨⟨hl, h.1, h.2.1⟩, h.2.2⟩
  · rintro ⟨⟨-, h1, h2⟩, h3⟩
    rw [hB.2.2.2.2.2 l p hl (by omega)]
    simp only [Bool.and_eq_true, decide_eq_true_eq]
    exact ⟨h1, h2, h3⟩
theorem fc_iff {w : MWd} {r np tp p q : Nat} (hA : RuleA w r np tp) (hB : RuleB w r np) (hC : RuleC w r np tp) (hp : p < 30) : bt (wAI w (7 + 3 * r) p) q = true ↔ fcC (rLa w r) (rAF w r) (rFo w r np) p q := by
  have e330 : wFI w 330 (6 + 3 * r) = wAI w 138 r := hA.2.2.2.2.2.2.2.2.2.2.1
  have htp := hA.2.1
  unfold fcC rFo rLa rAF
  rw [e330]
  constructor
  · intro h
    have hq := bt_lt h
    rw [hB.2.2.2.2.1 p q hp hq] at h
    simp only [Bool.and_eq_true, Bool.or_eq_true, decide_eq_true_eq] at h
    obtain ⟨h1, h2 | ⟨h2, h3⟩⟩ := h
    · exact Or.inl ⟨h1, hq, h2⟩
    · exact Or.inr ⟨h2, hq, h3⟩
  · rintro (⟨h1, h2, h3⟩ | ⟨h1, h2, h3⟩)
    · rw [hB.2.2.2.2.1 p q hp h2]
      simp only [Bool.and_eq_true, Bool.or_eq_true, decide_eq_true_eq]
      exact ⟨h1, Or.inl h3⟩
    · have h4 := hC.2.1 p (bt_lt h1) h1
      rw [hB.2.2.2.2.1 p q hp h2]
      simp only [Bool.and_eq_true, Bool.or_eq_true, decide_eq_true_eq]
      exact ⟨by omega, Or.inr ⟨h1, h3⟩⟩
/-- the sets of the class as numbers -/
def cI (w : MWd) (r : Nat) (u : Nat → Nat) : Nat → Int32
  | 0 => wFI w 328 (6 + 3 * r) &&& wAI w (8 + 3 * r) (u 0)
  | i + 1 => (folU (wAI w (7 + 3 * r)) (cI w r u i) 30 &&& wFI w 327 (6 + 3 * r)) &&& wAI w (8 + 3 * r) (u (i + 1))
theorem cI_iff {w : MWd} {r np tp L : Nat} {u : Nat → Nat} (hA : RuleA w r np tp) (hB : RuleB w r np) (hC : RuleC w r np tp) (hu : ∀ i, i < L → u i < 8) : ∀ i p, i < L → (bt (cI w r u i) p = true ↔ cM u tp (rFi w r) (rLa w r) (rAF w r) (rUs w r) (rFo w r np) (rLt w r np) i p)
  | 0, p, hi => by
    unfold cI cM
    rw [bt_and, Bool.and_eq_true, pl_iff hB hA.1 (hu 0 hi)]
    exact Iff.rfl
  | i + 1, p, hi => by
    have e327 : ∀ p, p < 32 → bt (wFI w 327 (6 + 3 * r)) p = decide (p < tp) := hA.2.2.2.2.2.2.2.2.1
    unfold cI cM
    rw [bt_and, bt_and, Bool.and_eq_true, Bool.and_eq_true, pl_iff hB hA.1 (hu (i + 1) hi), bt_folU]
    refine and_congr_left fun hpl => and_congr ?_ ?_
    · constructor
      · rintro ⟨q, h1, h2, h3⟩
        exact ⟨q, (cI_iff hA hB hC hu i q (by omega)).mp h2, (fc_iff hA hB hC h1).mp h3⟩
      · rintro ⟨q, h2, h3⟩
        have h4 : q < np := by
          cases i with
          | zero => exact h2.2.1.2.1
          | succ i => exact h2.2.1.2.1
        have hnp := hA.1
        exact ⟨q, by omega, (cI_iff hA hB hC hu i q (by omega)).mpr h2, (fc_iff hA hB hC (by omega)).mpr h3⟩
    · have hnp := hA.1
      have := hpl.1.2.1
      rw [e327 p (by omega), decide_eq_true_eq]
theorem and_ne {x y : Int32} : ¬ x &&& y = Int32.ofNat 0 ↔ ∃ p, bt x p = true ∧ bt y p = true := by
  rw [ts_0]
  constructor
  · intro h
    apply Classical.byContradiction
    intro hno
    refine h fun p hp => ?_
    rw [bt_and]
    cases hx : bt x p
    · rfl
    · cases hy : bt y p
      · rfl
      · exact absurd ⟨p, hx, hy⟩ hno
  · rintro ⟨p, h1, h2⟩ h
    have := h p (bt_lt h1)
    rw [bt_and, h1, h2] at this; cases this
section SC
variable {d : Nat} {w : MWd} {Q : MRes → MWd → Prop}
theorem s_67 {r : Nat} {X Y : Int32} (G : Gr w) (hr : r < 12) (h : ∀ y, (∀ q, bt y q = true ↔ q < 30 ∧ bt Y q = true ∧ ∃ t, bt (wAI w (7 + 3 * r) q) t = true ∧ bt X t = true) → Q (.inl (some (vI y))) w) :
    mR d w 67 0 [some (vR (some (5, 0, 6 + 3 * r))), some (vI X), some (vI Y), none, none] [] Q := by
  have loop : ∀ (f p : Nat) (y : Int32), p + f = 30 → (∀ q, bt y q = true ↔ q < p ∧ bt Y q = true ∧ ∃ t, bt (wAI w (7 + 3 * r) q) t = true ∧ bt X t = true) → mR d w 67 5 [some (vR (some (5, 0, 6 + 3 * r))), some (vI X), some (vI Y), some (vI y), some (vI (Int32.ofNat p))] [] Q := by
    intro f
    induction f with
    | zero =>
      intro p y hp hy
      have he : p = 30 := by omega
      subst he
      rw [e_67_5]
      simp (disch := omega) only [e_67_0, e_67_1, e_67_2, e_67_3, e_67_7, e_67_9, e_67_12, e_67_13, e_67_15, e_67_16, e_67_17, e_67_18, e_67_21, e_67_22, e_67_25, e_67_27, e_67_28, e_67_29, e_67_30, e_67_33, e_67_34, e_67_35, e_67_37, e_67_38, e_67_39, e_67_40, e_67_43, e_67_46, e_67_47, i_lit, i_add, i_mul, i_m1, i_lt, i_le, i_eq, i_cl, i_in, i_ltN, i_Nlt, i_leN, i_Nle, i_eN, i_Ne, i_inN, i_l1, i_l2, mj_cpok, mj_nn, reduceCtorEq, lg_self, Nat.not_lt_zero, Nat.zero_le, Nat.reduceEqDiff, Nat.reduceLT, Nat.reduceLeDiff, true_or, or_true, false_or, or_false, not_true_eq_false, not_false_eq_true, true_imp_iff, false_imp_iff, and_self, wrd, u2, and_true, true_and, and_false, false_and, and_self, ite_true, ite_false, reduceIte]
      (repeat' (first | (with_reducible refine And.intro ?_ ?_) | (with_reducible intro _)))
      all_goals try omega
      exact h y hy
    | succ f ih =>
      intro p y hp hy
      have skip : ¬ (bt Y p = true ∧ ∃ t, bt (wAI w (7 + 3 * r) p) t = true ∧ bt X t = true) → mR d w 67 5 [some (vR (some (5, 0, 6 + 3 * r))), some (vI X), some (vI Y), some (vI y), some (vI (Int32.ofNat (p + 1)))] [] Q := by
        intro hno
        refine ih (p + 1) y (by omega) (fun q => ?_)
        rw [hy q]
        constructor
        · rintro ⟨h1, h2⟩; exact ⟨by omega, h2⟩
        · rintro ⟨h1, h2⟩
          by_cases hqp : q = p
          · subst hqp; exact absurd h2 hno
          · exact ⟨by omega, h2⟩
      rw [e_67_5]
      simp (disch := omega) only [e_67_0, e_67_1, e_67_2, e_67_3, e_67_7, e_67_9, e_67_12, e_67_13, e_67_15, e_67_16, e_67_17, e_67_18, e_67_21, e_67_22, e_67_25, e_67_27, e_67_28, e_67_29, e_67_30, e_67_33, e_67_34, e_67_35, e_67_37, e_67_38, e_67_39, e_67_40, e_67_43, e_67_46, e_67_47, i_lit, i_add, i_mul, i_m1, i_lt, i_le, i_eq, i_cl, i_in, i_ltN, i_Nlt, i_leN, i_Nle, i_eN, i_Ne, i_inN, i_l1, i_l2, mj_cpok, mj_nn, reduceCtorEq, lg_self, Nat.not_lt_zero, Nat.zero_le, Nat.reduceEqDiff, Nat.reduceLT, Nat.reduceLeDiff, true_or, or_true, false_or, or_false, not_true_eq_false, not_false_eq_true, true_imp_iff, false_imp_iff, and_self, wrd, u2, and_true, true_and, and_false, false_and, and_self, ite_true, ite_false, reduceIte, ts_u0, g_320 G hr]
      (repeat' (first | (with_reducible refine And.intro ?_ ?_) | (with_reducible intro _)))
      all_goals try omega
      · rename_i hb
        exact skip fun q => by rw [hb] at q; cases q.1
      · rename_i hb hz
        exact skip fun q => and_ne.mpr q.2 hz
      · rename_i hb hz
        refine ih (p + 1) _ (by omega) (fun q => ?_)
        rw [bt_or, bt_bit (by omega), Bool.or_eq_true, hy q, decide_eq_true_eq]
        have hY : bt Y p = true := by cases hx : bt Y p <;> simp_all
        constructor
        · rintro (⟨h1, h2⟩ | h1)
          · exact ⟨by omega, h2⟩
          · subst h1; exact ⟨by omega, hY, and_ne.mp hz⟩
        · rintro ⟨h1, h2⟩
          by_cases hqp : p = q
          · exact Or.inr hqp
          · exact Or.inl ⟨by omega, h2⟩
  rw [e_67_0, e_67_1, e_67_2, e_67_3]
  exact loop 30 0 _ (by omega) (fun q => by
    rw [show (0 : Int32) = Int32.ofNat 0 from rfl, bt_0]
    exact iff_of_false Bool.false_ne_true (fun h => absurd h.1 (Nat.not_lt_zero q)))
theorem s_10 {r n p L : Nat} {B u : Nat → Nat} (G : Gr w) (hr : r < 12) (hn : n ≤ 1000) (h1 : wFI w 449 2 = Int32.ofNat n) (hB : ∀ i, i < n → B i < 256 ∧ wAI w 3 i = Int32.ofNat (B i)) (hL : 1 ≤ L) (hpL : p + L ≤ n) (h4 : wFI w 4 57 = Int32.ofNat p) (h7 : wFI w 7 57 = Int32.ofNat L) (hu : ∀ i, i < L → ltO (B (p + i)) = some (u i))
    (K : ∀ W, Fr (fun _ _ => False) (fun a => a = 59) 0 0 w W → (∀ q, 1 ≤ q → q ≤ L → b01 (wAI W 59 q) ∧ (wAI W 59 q = Int32.ofNat 0 ↔ cI w r u (q - 1) &&& wFI w 330 (6 + 3 * r) = Int32.ofNat 0)) → Q (.inl none) W) :
    mR (d + 2) w 10 0 [some (vR (some (0, 0, 57))), some (vR (some (7, 0, 2))), some (vR (some (5, 0, 6 + 3 * r))), none, none] [] Q := by
  have loop : ∀ (f q : Nat) (W : MWd) (x : Int32), q + f = L + 1 → 1 ≤ q → Fr (fun _ _ => False) (fun a => a = 59) 0 0 w W → (∀ k, 1 ≤ k → k < q → b01 (wAI W 59 k) ∧ (wAI W 59 k = Int32.ofNat 0 ↔ cI w r u (k - 1) &&& wFI w 330 (6 + 3 * r) = Int32.ofNat 0)) →
      (q ≤ L → x &&& wAI w (8 + 3 * r) (u (q - 1)) = cI w r u (q - 1)) → mR (d + 2) W 10 8 [some (vR (some (0, 0, 57))), some (vR (some (7, 0, 2))), some (vR (some (5, 0, 6 + 3 * r))), some (vI x), some (vI (Int32.ofNat q))] [] Q := by
    intro f
    induction f with
    | zero =>
      intro q W x hq hq1 hF g1 g2
      have a7 : wFI W 7 57 = Int32.ofNat L := (Fr_fi hF (by decide) (fun q => q)).trans h7
      rw [e_10_8]
      simp (disch := omega) only [e_10_10, e_10_11, e_10_14, e_10_83, i_lit, i_add, i_mul, i_m1, i_lt, i_le, i_eq, i_cl, i_in, i_ltN, i_Nlt, i_leN, i_Nle, i_eN, i_Ne, i_inN, i_l1, i_l2, mj_cpok, mj_nn, reduceCtorEq, lg_self, Nat.not_lt_zero, Nat.zero_le, Nat.reduceEqDiff, Nat.reduceLT, Nat.reduceLeDiff, true_or, or_true, false_or, or_false, not_true_eq_false, not_false_eq_true, true_imp_iff, false_imp_iff, and_self, wrd, u2, and_true, true_and, and_false, false_and, and_self, ite_true, ite_false, reduceIte, a7]
      (repeat' (first | (with_reducible refine And.intro ?_ ?_) | (with_reducible intro _)))
      all_goals try omega
      exact K W hF (fun k hk1 hk2 => g1 k hk1 (by omega))
    | succ f ih =>
      intro q W x hq hq1 hF g1 g2
      have G' := Fr_Gr hF G
      have a7 : wFI W 7 57 = Int32.ofNat L := (Fr_fi hF (by decide) (fun q => q)).trans h7
      have a4 : wFI W 4 57 = Int32.ofNat p := (Fr_fi hF (by decide) (fun q => q)).trans h4
      have a449 : wFI W 449 2 = Int32.ofNat n := (Fr_fi hF (by decide) (fun q => q)).trans h1
      have aF : ∀ k, wFI W k (6 + 3 * r) = wFI w k (6 + 3 * r) := fun k => Fr_fi hF (by omega) (fun q => q)
      have a8 : wAI W (8 + 3 * r) = wAI w (8 + 3 * r) := Fr_ai hF (by omega) (by omega)
      have a7' : wAI W (7 + 3 * r) = wAI w (7 + 3 * r) := Fr_ai hF (by omega) (by omega)
      have hul := hu (q - 1) (by omega)
      have hu8 := (ltO_lt hul).1
      have aB : B (p + (q - 1)) < 256 ∧ wAI W 3 (p + (q - 1)) = Int32.ofNat (B (p + (q - 1))) := by
        rw [Fr_ai hF (by decide) (by decide)]; exact hB _ (by omega)
      have hsub : Int32.ofNat (p + q) - Int32.ofNat 1 = Int32.ofNat (p + (q - 1)) := by rw [i_sub (by omega)]; congr 1; omega
      have ecI := g2 (by omega)
      rw [e_10_8]
      simp (disch := omega) only [e_10_10, e_10_11, e_10_14, e_10_17, e_10_19, e_10_22, e_10_25, e_10_26, e_10_27, e_10_28, e_10_29, e_10_32, e_10_34, e_10_35, e_10_36, e_10_37, i_lit, i_add, i_mul, i_m1, i_lt, i_le, i_eq, i_cl, i_in, i_ltN, i_Nlt, i_leN, i_Nle, i_eN, i_Ne, i_inN, i_l1, i_l2, mj_cpok, mj_nn, reduceCtorEq, lg_self, Nat.not_lt_zero, Nat.zero_le, Nat.reduceEqDiff, Nat.reduceLT, Nat.reduceLeDiff, true_or, or_true, false_or, or_false, not_true_eq_false, not_false_eq_true, true_imp_iff, false_imp_iff, and_self, wrd, u2, and_true, true_and, and_false, false_and, and_self, ite_true, ite_false, reduceIte, a7, a4, hsub]
      (repeat' (first | (with_reducible refine And.intro ?_ ?_) | (with_reducible intro _)))
      all_goals try omega
      refine s_80 G' hn a449 (by omega) aB ?_
      rw [hul]
      show (mK _ _ _ _ _ _ _ (.inl (some (vI (Int32.ofNat (u (q - 1)))))) W)
      have fin : ∀ (v : Int32), b01 v → (v = Int32.ofNat 0 ↔ cI w r u (q - 1) &&& wFI w 330 (6 + 3 * r) = Int32.ofNat 0) → mR (d + 2) (sAI W 59 q v) 10 66 [some (vR (some (0, 0, 57))), some (vR (some (7, 0, 2))), some (vR (some (5, 0, 6 + 3 * r))), some (vI (cI w r u (q - 1))), some (vI (Int32.ofNat q))] [] Q := by
        intro v hv hv2
        rw [e_10_66, e_10_67, e_10_68]
        refine s_66 (w := sAI W 59 q v) (G_sAI G') hr ?_
        rw [show wAI (sAI W 59 q v) (7 + 3 * r) = wAI W (7 + 3 * r) from sAI_row (by omega), a7']
        simp (disch := omega) only [mK_v, e_10_71, e_10_72, e_10_75, e_10_76, e_10_77, e_10_80, i_lit, i_add, i_mul, i_m1, i_lt, i_le, i_eq, i_cl, i_in, i_ltN, i_Nlt, i_leN, i_Nle, i_eN, i_Ne, i_inN, i_l1, i_l2, mj_cpok, mj_nn, reduceCtorEq, lg_self, Nat.not_lt_zero, Nat.zero_le, Nat.reduceEqDiff, Nat.reduceLT, Nat.reduceLeDiff, true_or, or_true, false_or, or_false, not_true_eq_false, not_false_eq_true, true_imp_iff, false_imp_iff, and_self, wrd, u2, and_true, true_and, and_false, false_and, and_self, ite_true, ite_false, reduceIte, aF]
        refine ih (q + 1) _ _ (by omega) (by omega) (Fr_sAI hF (Or.inl rfl)) (fun k hk1 hk2 => ?_) (fun hqL => ?_)
        · simp only [mj_cpok, mj_nn, reduceCtorEq, lg_self, Nat.not_lt_zero, Nat.zero_le, Nat.reduceEqDiff, Nat.reduceLT, Nat.reduceLeDiff, true_or, or_true, false_or, or_false, not_true_eq_false, not_false_eq_true, true_imp_iff, false_imp_iff, and_self, wrd, u2, and_true, true_and, and_false, false_and, and_self, ite_true, ite_false, reduceIte]
          by_cases hkq : k = q
          · rw [if_pos hkq, hkq]; exact ⟨hv, hv2⟩
          · rw [if_neg hkq]; exact g1 k hk1 (by omega)
        · rw [show q + 1 - 1 = (q - 1) + 1 by omega]; rfl
      simp (disch := omega) only [mK_v, e_10_40, e_69_0, e_69_1, e_69_4, e_69_5, e_69_7, e_69_10, e_69_11, e_69_14, e_69_15, e_69_16, e_69_19, e_69_20, e_10_43, e_10_44, e_10_45, e_10_46, e_10_49, e_10_51, e_10_52, e_10_53, e_10_56, e_10_57, e_10_60, e_10_61, e_10_64, e_10_65, i_lit, i_add, i_mul, i_m1, i_lt, i_le, i_eq, i_cl, i_in, i_ltN, i_Nlt, i_leN, i_Nle, i_eN, i_Ne, i_inN, i_l1, i_l2, mj_cpok, mj_nn, reduceCtorEq, lg_self, Nat.not_lt_zero, Nat.zero_le, Nat.reduceEqDiff, Nat.reduceLT, Nat.reduceLeDiff, true_or, or_true, false_or, or_false, not_true_eq_false, not_false_eq_true, true_imp_iff, false_imp_iff, and_self, wrd, u2, and_true, true_and, and_false, false_and, and_self, ite_true, ite_false, reduceIte, g_321 G' hr, g_1 G', a8, aF, ecI]
      (repeat' (first | (with_reducible refine And.intro ?_ ?_) | (with_reducible intro _)))
      all_goals try omega
      · rename_i hz; exact fin _ (Or.inl rfl) (iff_of_true rfl hz)
      · rename_i hz; exact fin _ (Or.inr rfl) (iff_of_false (by decide) hz)
  rw [e_10_0, e_10_1, e_10_4, e_10_5, e_10_6]
  exact loop L 1 w _ (by omega) (Nat.le_refl 1) Fr_refl (fun k h1 h2 => by omega) (fun _ => rfl)
end SC
