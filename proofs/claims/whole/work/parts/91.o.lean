/-! addRule: the class, the useful places found. -/
def stU (mt en : Nat → Bool) (fo : Nat → Nat → Bool) (X : Nat → Bool) (p : Nat) : Prop := mt p = true ∧ (en p = true ∨ ∃ q, q < 32 ∧ fo p q = true ∧ X q = true)
theorem cnt_ne {X Y : Nat → Bool} (h : ∀ p, p < 32 → X p = true → Y p = true) (hn : ∃ p, p < 32 ∧ Y p = true ∧ X p = false) : cnt X 32 < cnt Y 32 := cnt_lt h hn
section CL
variable {d : Nat} {W : MWd} {r np : Nat} {Q : MRes → MWd → Prop}
theorem cnt_30 {X : Nat → Bool} (h : ∀ p, p < 32 → X p = true → p < 30) : cnt X 32 ≤ 30 := by
  have e : cnt X 32 = cnt X 30 + (if X 30 = true then 1 else 0) + (if X 31 = true then 1 else 0) := rfl
  have h0 : ¬ X 30 = true := fun q => absurd (h 30 (by decide) q) (by decide)
  have h1 : ¬ X 31 = true := fun q => absurd (h 31 (by decide) q) (by decide)
  rw [e, if_neg h0, if_neg h1]
  have := cnt_le X 30
  omega
/-- the rounds -/
theorem c_68r {M : Int32} {mt en : Nat → Bool} {fo : Nat → Nat → Bool} (G : Gr W) (hr : r < 12) (hM : ∀ p, p < 32 → bt M p = mt p) (hmt : ∀ p, p < 32 → mt p = true → p < 30) (hfo : ∀ p q, p < 30 → q < 32 → bt (wAI W (7 + 3 * r) p) q = fo p q)
    (K : ∀ V X, Fr (fun k a => k = 334 ∧ a = 6 + 3 * r) (fun _ => False) 0 0 W V → wFI V 334 (6 + 3 * r) = X → useC mt en fo (bt X) → useS mt en fo (bt X) → mR (d + 1) V 68 84 [some (vR (some (5, 0, 6 + 3 * r))), some (vI M), some (vI X), some (vI (Int32.ofNat 0))] [] Q) :
    ∀ (f k : Nat) (V : MWd) (X O : Int32), k + f = 30 → Fr (fun k a => k = 334 ∧ a = 6 + 3 * r) (fun _ => False) 0 0 W V → wFI V 334 (6 + 3 * r) = X → (∀ p, p < 32 → (bt X p = true ↔ stU mt en fo (bt O) p)) → (∀ p, p < 32 → bt O p = true → bt X p = true) → useS mt en fo (bt X) → (X ≠ O → k + 1 ≤ cnt (bt X) 32) →
      mR (d + 1) V 68 39 [some (vR (some (5, 0, 6 + 3 * r))), some (vI M), some (vI O), some (vI (Int32.ofNat k))] [] Q := by
  intro f
  induction f with
  | zero =>
    intro k V X O hk hF hX hst hO hS hc
    have e : k = 30 := by omega
    subst e
    have eX : X = O := by
      refine Classical.byContradiction fun hn => ?_
      have h1 := hc hn
      have h2 := cnt_30 (X := bt X) (fun p hp h => hmt p hp ((hst p hp).mp h).1)
      omega
    subst eX
    have k0 := K V X hF hX (fun p hp h1 h2 => (hst p hp).mpr ⟨h1, h2⟩) hS
    rw [e_68_39]
    simp (disch := omega) only [e_68_40, e_68_42, e_68_82, e_68_83, i_lit, i_add, i_mul, i_m1, i_lt, i_le, i_eq, i_cl, i_in, i_ltN, i_Nlt, i_leN, i_Nle, i_eN, i_Ne, i_inN, i_l1, i_l2, mj_cpok, mj_nn, reduceCtorEq, lg_self, Nat.not_lt_zero, Nat.zero_le, Nat.reduceEqDiff, Nat.reduceLT, Nat.reduceLeDiff, true_or, or_true, false_or, or_false, not_true_eq_false, not_false_eq_true, true_imp_iff, false_imp_iff, and_self, wrd, u2, and_true, true_and, and_false, false_and, and_self, ite_true, ite_false, reduceIte]
    (repeat' (first | (with_reducible refine And.intro ?_ ?_) | (with_reducible intro _)))
    all_goals first | omega | exact k0
  | succ f ih =>
    intro k V X O hk hF hX hst hO hS hc
    rw [e_68_39]
    by_cases eX : X = O
    · subst eX
      have k0 := K V X hF hX (fun p hp h1 h2 => (hst p hp).mpr ⟨h1, h2⟩) hS
      simp (disch := omega) only [e_68_40, e_68_42, e_68_45, e_68_46, e_68_49, e_68_50, e_68_82, e_68_83, i_lit, i_add, i_mul, i_m1, i_lt, i_le, i_eq, i_cl, i_in, i_ltN, i_Nlt, i_leN, i_Nle, i_eN, i_Ne, i_inN, i_l1, i_l2, mj_cpok, mj_nn, reduceCtorEq, lg_self, Nat.not_lt_zero, Nat.zero_le, Nat.reduceEqDiff, Nat.reduceLT, Nat.reduceLeDiff, true_or, or_true, false_or, or_false, not_true_eq_false, not_false_eq_true, true_imp_iff, false_imp_iff, and_self, wrd, u2, and_true, true_and, and_false, false_and, and_self, ite_true, ite_false, reduceIte, hX]
      (repeat' (first | (with_reducible refine And.intro ?_ ?_) | (with_reducible intro _)))
      all_goals first | omega | exact k0
    · have hc1 := hc eX
      simp (disch := omega) only [e_68_40, e_68_42, e_68_45, e_68_46, e_68_49, e_68_50, e_68_53, e_68_54, e_68_57, e_68_58, e_68_59, e_68_60, e_68_63, e_68_64, e_68_65, e_68_68, e_68_69, i_lit, i_add, i_mul, i_m1, i_lt, i_le, i_eq, i_cl, i_in, i_ltN, i_Nlt, i_leN, i_Nle, i_eN, i_Ne, i_inN, i_l1, i_l2, mj_cpok, mj_nn, reduceCtorEq, lg_self, Nat.not_lt_zero, Nat.zero_le, Nat.reduceEqDiff, Nat.reduceLT, Nat.reduceLeDiff, true_or, or_true, false_or, or_false, not_true_eq_false, not_false_eq_true, true_imp_iff, false_imp_iff, and_self, wrd, u2, and_true, true_and, and_false, false_and, and_self, ite_true, ite_false, reduceIte, hX]
      (repeat' (first | (with_reducible refine And.intro ?_ ?_) | (with_reducible intro _)))
      all_goals try first | omega | (rename_i h; exact absurd h eX)
      have GV := Fr_Gr hF G
      have v7 : wAI V (7 + 3 * r) = wAI W (7 + 3 * r) := Fr_ai hF (by omega) (fun q => q)
      refine c_67 (d := d) GV hr (fun y hy => ?_)
      rw [v7] at hy
      have hnew : ∀ p, p < 32 → (bt (X ||| y) p = true ↔ stU mt en fo (bt X) p) := by
        intro p hp
        rw [bt_or, Bool.or_eq_true, hy p hp]
        refine ⟨fun h => ?_, fun h => ?_⟩
        · rcases h with h | ⟨h1, h2, s, hs, h3, h4⟩
          · obtain ⟨a1, a2⟩ := (hst p hp).mp h
            refine ⟨a1, a2.elim Or.inl (fun ⟨q, b1, b2, b3⟩ => Or.inr ⟨q, b1, b2, hO q b1 b3⟩)⟩
          · exact ⟨by rw [← hM p hp]; exact h2, Or.inr ⟨s, hs, by rw [← hfo p s h1 hs]; exact h3, h4⟩⟩
        · obtain ⟨a1, a2⟩ := h
          rcases a2 with a2 | ⟨q, b1, b2, b3⟩
          · exact Or.inl ((hst p hp).mpr ⟨a1, Or.inl a2⟩)
          · have h30 := hmt p hp a1
            exact Or.inr ⟨h30, by rw [hM p hp]; exact a1, q, b1, by rw [hfo p q h30 b1]; exact b2, b3⟩
      have hsub : ∀ p, p < 32 → bt X p = true → bt (X ||| y) p = true := fun p hp h => by rw [bt_or, h]; rfl
      have nn := ih (k + 1) (sFI V 334 (6 + 3 * r) (X ||| y)) (X ||| y) X (by omega) (Fr_sFI hF (Or.inl ⟨rfl, rfl⟩)) (by simp only [mj_cpok, mj_nn, reduceCtorEq, lg_self, Nat.not_lt_zero, Nat.zero_le, Nat.reduceEqDiff, Nat.reduceLT, Nat.reduceLeDiff, true_or, or_true, false_or, or_false, not_true_eq_false, not_false_eq_true, true_imp_iff, false_imp_iff, and_self, wrd, u2, and_true, true_and, and_false, false_and, and_self, ite_true, ite_false, reduceIte]) hnew hsub (useS_or hS (fun p hp h => Or.inr ((hnew p hp).mp h))) (fun hne => by
        have hex : ∃ p, p < 32 ∧ bt (X ||| y) p = true ∧ bt X p = false := by
          refine Classical.byContradiction fun hn => hne (bt_ext fun p hp => ?_)
          cases h1 : bt X p
          · cases h2 : bt (X ||| y) p
            · rfl
            · exact absurd ⟨p, hp, h2, h1⟩ hn
          · rw [hsub p hp h1]
        have := cnt_ne hsub hex
        omega)
      simp (disch := omega) only [mK_v, e_68_72, e_68_73, e_68_76, e_68_79, i_lit, i_add, i_mul, i_m1, i_lt, i_le, i_eq, i_cl, i_in, i_ltN, i_Nlt, i_leN, i_Nle, i_eN, i_Ne, i_inN, i_l1, i_l2, mj_cpok, mj_nn, reduceCtorEq, lg_self, Nat.not_lt_zero, Nat.zero_le, Nat.reduceEqDiff, Nat.reduceLT, Nat.reduceLeDiff, true_or, or_true, false_or, or_false, not_true_eq_false, not_false_eq_true, true_imp_iff, false_imp_iff, and_self, wrd, u2, and_true, true_and, and_false, false_and, and_self, ite_true, ite_false, reduceIte]
      exact nn
theorem c_68a (G : Gr W) (hr : r < 12) {Q' : MRes → MWd → Prop} (K : ∀ M : Int32, (∀ q, q < 32 → (bt M q = true ↔ ∃ l, l < 8 ∧ bt (wAI W (8 + 3 * r) l) q = true)) → mR d W 68 25 [some (vR (some (5, 0, 6 + 3 * r))), some (vI M), some (vI (Int32.ofNat 8)), none] [] Q') :
    ∀ (f k : Nat) (M : Int32), k + f = 8 → (∀ q, q < 32 → (bt M q = true ↔ ∃ l, l < k ∧ bt (wAI W (8 + 3 * r) l) q = true)) → mR d W 68 4 [some (vR (some (5, 0, 6 + 3 * r))), some (vI M), some (vI (Int32.ofNat k)), none] [] Q' := by
  intro f
  induction f with
  | zero =>
    intro k M hk hM
    have e : k = 8 := by omega
    subst e
    have k0 := K M hM
    rw [e_68_4]
    simp (disch := omega) only [e_68_5, e_68_7, i_lit, i_add, i_mul, i_m1, i_lt, i_le, i_eq, i_cl, i_in, i_ltN, i_Nlt, i_leN, i_Nle, i_eN, i_Ne, i_inN, i_l1, i_l2, mj_cpok, mj_nn, reduceCtorEq, lg_self, Nat.not_lt_zero, Nat.zero_le, Nat.reduceEqDiff, Nat.reduceLT, Nat.reduceLeDiff, true_or, or_true, false_or, or_false, not_true_eq_false, not_false_eq_true, true_imp_iff, false_imp_iff, and_self, wrd, u2, and_true, true_and, and_false, false_and, and_self, ite_true, ite_false, reduceIte]
    (repeat' (first | (with_reducible refine And.intro ?_ ?_) | (with_reducible intro _)))
    all_goals first | omega | exact k0
  | succ f ih =>
    intro k M hk hM
    have nn := ih (k + 1) (M ||| wAI W (8 + 3 * r) k) (by omega) (fun q hq => by
      rw [bt_or, Bool.or_eq_true, hM q hq]
      refine ⟨fun h => ?_, fun ⟨l, h1, h2⟩ => ?_⟩
      · rcases h with ⟨l, h1, h2⟩ | h
        · exact ⟨l, by omega, h2⟩
        · exact ⟨k, by omega, h⟩
      · by_cases c : l = k
        · subst c; exact Or.inr h2
        · exact Or.inl ⟨l, by omega, h2⟩)
    rw [e_68_4]
    simp (disch := omega) only [e_68_5, e_68_7, e_68_10, e_68_11, e_68_12, e_68_15, e_68_16, e_68_17, e_68_18, e_68_19, e_68_22, i_lit, i_add, i_mul, i_m1, i_lt, i_le, i_eq, i_cl, i_in, i_ltN, i_Nlt, i_leN, i_Nle, i_eN, i_Ne, i_inN, i_l1, i_l2, mj_cpok, mj_nn, reduceCtorEq, lg_self, Nat.not_lt_zero, Nat.zero_le, Nat.reduceEqDiff, Nat.reduceLT, Nat.reduceLeDiff, true_or, or_true, false_or, or_false, not_true_eq_false, not_false_eq_true, true_imp_iff, false_imp_iff, and_self, wrd, u2, and_true, true_and, and_false, false_and, and_self, ite_true, ite_false, reduceIte, g_321 G hr]
    (repeat' (first | (with_reducible refine And.intro ?_ ?_) | (with_reducible intro _)))
    all_goals first | omega | exact nn
theorem c_68b {M X O : Int32} (G : Gr W) (hr : r < 12) (hX : wFI W 334 (6 + 3 * r) = X) (K : ∀ V, Fr (fun _ _ => False) (fun a => a = 8 + 3 * r) 0 0 W V → (∀ l, l < 8 → wAI V (8 + 3 * r) l = wAI W (8 + 3 * r) l &&& X) → Q (.inl none) V) :
    ∀ (f k : Nat) (V : MWd), k + f = 8 → Fr (fun _ _ => False) (fun a => a = 8 + 3 * r) 0 0 W V → (∀ l, l < 8 → wAI V (8 + 3 * r) l = if l < k then wAI W (8 + 3 * r) l &&& X else wAI W (8 + 3 * r) l) → mR d V 68 84 [some (vR (some (5, 0, 6 + 3 * r))), some (vI M), some (vI O), some (vI (Int32.ofNat k))] [] Q := by
  intro f
  induction f with
  | zero =>
    intro k V hk hF hV
    have e : k = 8 := by omega
    subst e
    have k0 := K V hF (fun l hl => by rw [hV l hl, if_pos hl])
    rw [e_68_84]
    simp (disch := omega) only [e_68_85, e_68_87, e_68_109, i_lit, i_add, i_mul, i_m1, i_lt, i_le, i_eq, i_cl, i_in, i_ltN, i_Nlt, i_leN, i_Nle, i_eN, i_Ne, i_inN, i_l1, i_l2, mj_cpok, mj_nn, reduceCtorEq, lg_self, Nat.not_lt_zero, Nat.zero_le, Nat.reduceEqDiff, Nat.reduceLT, Nat.reduceLeDiff, true_or, or_true, false_or, or_false, not_true_eq_false, not_false_eq_true, true_imp_iff, false_imp_iff, and_self, wrd, u2, and_true, true_and, and_false, false_and, and_self, ite_true, ite_false, reduceIte]
    (repeat' (first | (with_reducible refine And.intro ?_ ?_) | (with_reducible intro _)))
    all_goals first | omega | exact k0
  | succ f ih =>
    intro k V hk hF hV
    have GV := Fr_Gr hF G
    have hX' : wFI V 334 (6 + 3 * r) = X := (Fr_fi hF (by omega) (fun q => q)).trans hX
    have nn := ih (k + 1) (sAI V (8 + 3 * r) k (wAI V (8 + 3 * r) k &&& X)) (by omega) (Fr_sAI hF (Or.inl rfl)) (fun l hl => by
      simp only [mj_cpok, mj_nn, reduceCtorEq, lg_self, Nat.not_lt_zero, Nat.zero_le, Nat.reduceEqDiff, Nat.reduceLT, Nat.reduceLeDiff, true_or, or_true, false_or, or_false, not_true_eq_false, not_false_eq_true, true_imp_iff, false_imp_iff, and_self, wrd, u2, and_true, true_and, and_false, false_and, and_self, ite_true, ite_false, reduceIte]
      by_cases h : l = k
      · subst h
        rw [if_pos rfl, if_pos (Nat.lt_succ_self _), hV l hl, if_neg (by omega)]
      · rw [if_neg h, hV l hl]
        by_cases h' : l < k
        · rw [if_pos h', if_pos (by omega)]
        · rw [if_neg h', if_neg (by omega)])
    rw [e_68_84]
    simp (disch := omega) only [e_68_85, e_68_87, e_68_90, e_68_91, e_68_94, e_68_95, e_68_96, e_68_97, e_68_98, e_68_101, e_68_102, e_68_103, e_68_106, i_lit, i_add, i_mul, i_m1, i_lt, i_le, i_eq, i_cl, i_in, i_ltN, i_Nlt, i_leN, i_Nle, i_eN, i_Ne, i_inN, i_l1, i_l2, mj_cpok, mj_nn, reduceCtorEq, lg_self, Nat.not_lt_zero, Nat.zero_le, Nat.reduceEqDiff, Nat.reduceLT, Nat.reduceLeDiff, true_or, or_true, false_or, or_false, not_true_eq_false, not_false_eq_true, true_imp_iff, false_imp_iff, and_self, wrd, u2, and_true, true_and, and_false, false_and, and_self, ite_true, ite_false, reduceIte, g_321 GV hr, hX']
    (repeat' (first | (with_reducible refine And.intro ?_ ?_) | (with_reducible intro _)))
    all_goals first | omega | exact nn
def mtB (np : Nat) (lt : Nat → Int32) (p : Nat) : Bool := decide (p < np) && !(decide (lt p = Int32.ofNat 0))
theorem mtB_iff {lt : Nat → Int32} {p : Nat} (h8 : ∀ q, 8 ≤ q → bt (lt p) q = false) (hp : p < np) : mtB np lt p = true ↔ ∃ l, l < 8 ∧ bt (lt p) l = true := by
  unfold mtB
  rw [decide_eq_true hp, Bool.true_and, Bool.not_eq_true', decide_eq_false_iff_not]
  refine ⟨fun h => Classical.byContradiction fun hn => h (ts_0.mpr fun q hq => ?_), fun ⟨l, h1, h2⟩ h => by rw [h, bt_0] at h2; cases h2⟩
  by_cases c : 8 ≤ q
  · exact h8 q c
  · cases h2 : bt (lt p) q
    · rfl
    · exact absurd ⟨q, by omega, h2⟩ hn
theorem c_68 {la : Int32} {lt : Nat → Int32} (G : Gr W) (hr : r < 12) (hnp : np ≤ 30) (h8 : ∀ l x, l < 8 → x < 32 → bt (wAI W (8 + 3 * r) l) x = (decide (x < np) && bt (lt x) l)) (hl8 : ∀ p, p < np → ∀ q, 8 ≤ q → bt (lt p) q = false) (h329 : wFI W 329 (6 + 3 * r) = la)
    (K : ∀ V X, Fr (fun k a => k = 334 ∧ a = 6 + 3 * r) (fun a => a = 8 + 3 * r) 0 0 W V → wFI V 334 (6 + 3 * r) = X → useC (mtB np lt) (bt la) (fun p => bt (wAI W (7 + 3 * r) p)) (bt X) → useS (mtB np lt) (bt la) (fun p => bt (wAI W (7 + 3 * r) p)) (bt X) → (∀ l x, l < 8 → x < 32 → bt (wAI V (8 + 3 * r) l) x = (decide (x < np) && (bt (lt x) l && bt X x))) → Q (.inl none) V) :
    mR (d + 1) W 68 0 [some (vR (some (5, 0, 6 + 3 * r))), none, none, none] [] Q := by
  have nn := c_68a (d := d + 1) (W := W) (r := r) (Q' := Q) G hr (fun M hM => ?_) 8 0 (Int32.ofNat 0) rfl (fun q hq => by rw [bt_0]; exact ⟨fun h => (by cases h), fun ⟨l, h1, h2⟩ => absurd h1 (Nat.not_lt_zero l)⟩)
  · simp (disch := omega) only [e_68_0, e_68_1, e_68_2, e_68_3, i_lit, i_add, i_mul, i_m1, i_lt, i_le, i_eq, i_cl, i_in, i_ltN, i_Nlt, i_leN, i_Nle, i_eN, i_Ne, i_inN, i_l1, i_l2, mj_cpok, mj_nn, reduceCtorEq, lg_self, Nat.not_lt_zero, Nat.zero_le, Nat.reduceEqDiff, Nat.reduceLT, Nat.reduceLeDiff, true_or, or_true, false_or, or_false, not_true_eq_false, not_false_eq_true, true_imp_iff, false_imp_iff, and_self, wrd, u2, and_true, true_and, and_false, false_and, and_self, ite_true, ite_false, reduceIte]
    exact nn
  · have hM' : ∀ p, p < 32 → bt M p = mtB np lt p := by
      intro p hp
      rw [Bool.eq_iff_iff, hM p hp]
      by_cases c : p < np
      · rw [mtB_iff (hl8 p c) c]
        refine exists_congr fun l => and_congr_right fun hl => ?_
        rw [h8 l p hl hp, decide_eq_true c, Bool.true_and]
      · unfold mtB
        rw [decide_eq_false c, Bool.false_and]
        refine ⟨fun ⟨l, h1, h2⟩ => ?_, fun h => (by cases h)⟩
        rw [h8 l p h1 hp, decide_eq_false c, Bool.false_and] at h2; exact h2
    have hmt : ∀ p, p < 32 → mtB np lt p = true → p < 30 := fun p hp h => by
      unfold mtB at h
      rw [Bool.and_eq_true, decide_eq_true_eq] at h
      omega
    have fin : ∀ V X, Fr (fun k a => k = 334 ∧ a = 6 + 3 * r) (fun _ => False) 0 0 W V → wFI V 334 (6 + 3 * r) = X → useC (mtB np lt) (bt la) (fun p => bt (wAI W (7 + 3 * r) p)) (bt X) → useS (mtB np lt) (bt la) (fun p => bt (wAI W (7 + 3 * r) p)) (bt X) → mR (d + 1) V 68 84 [some (vR (some (5, 0, 6 + 3 * r))), some (vI M), some (vI X), some (vI (Int32.ofNat 0))] [] Q := by
      intro V X hV hX h1 h2
      refine c_68b (W := V) (X := X) (Fr_Gr hV G) hr hX (fun U hU h8' => ?_) 8 0 V rfl Fr_refl (fun l hl => by rw [if_neg (Nat.not_lt_zero l)])
      refine K U X (Fr_trans (x := 0) (y := 0) (Fr_weak hV (fun _ _ q => q) (fun _ q => q.elim) (Nat.le_refl _) (Nat.le_refl _)) (Fr_weak hU (fun _ _ q => q.elim) (fun _ q => q) (Nat.le_refl _) (Nat.le_refl _))) ((Fr_fi hU (by omega) (fun q => q)).trans hX) h1 h2 (fun l x hl hx => ?_)
      rw [h8' l hl, bt_and, Fr_ai hV (by omega) (fun q => q), h8 l x hl hx, Bool.and_assoc]
    have st := c_68r (d := d) (W := W) (r := r) (Q := Q) (M := M) (mt := mtB np lt) (en := bt la) (fo := fun p => bt (wAI W (7 + 3 * r) p)) G hr hM' hmt (fun p q _ _ => rfl) fin 30 0 (sFI W 334 (6 + 3 * r) (la &&& M)) (la &&& M) (Int32.ofNat 0) rfl (Fr_sFI Fr_refl (Or.inl ⟨rfl, rfl⟩)) (by simp only [mj_cpok, mj_nn, reduceCtorEq, lg_self, Nat.not_lt_zero, Nat.zero_le, Nat.reduceEqDiff, Nat.reduceLT, Nat.reduceLeDiff, true_or, or_true, false_or, or_false, not_true_eq_false, not_false_eq_true, true_imp_iff, false_imp_iff, and_self, wrd, u2, and_true, true_and, and_false, false_and, and_self, ite_true, ite_false, reduceIte]) (fun p hp => by
        rw [bt_and, hM' p hp, Bool.and_eq_true]
        refine ⟨fun h => ⟨h.2, Or.inl h.1⟩, fun ⟨h1, h2⟩ => ⟨?_, h1⟩⟩
        rcases h2 with h2 | ⟨q, -, -, h3⟩
        · exact h2
        · rw [bt_0] at h3; cases h3) (fun p _ h => by rw [bt_0] at h; cases h) (fun Y hY p hp h => by
        rw [bt_and, hM' p hp, Bool.and_eq_true] at h
        exact hY p hp h.2 (Or.inl h.1)) (fun hne => by
        have hex : ∃ p, p < 32 ∧ bt (la &&& M) p = true ∧ bt (Int32.ofNat 0) p = false := by
          refine Classical.byContradiction fun hn => hne (ts_0.mpr fun p hp => ?_)
          cases h : bt (la &&& M) p
          · rfl
          · exact absurd ⟨p, hp, h, bt_0 p⟩ hn
        have := cnt_ne (fun p _ h => by rw [bt_0] at h; cases h) hex
        omega)
    simp (disch := omega) only [e_68_25, e_68_26, e_68_27, e_68_30, e_68_31, e_68_32, e_68_35, e_68_36, e_68_37, e_68_38, i_lit, i_add, i_mul, i_m1, i_lt, i_le, i_eq, i_cl, i_in, i_ltN, i_Nlt, i_leN, i_Nle, i_eN, i_Ne, i_inN, i_l1, i_l2, mj_cpok, mj_nn, reduceCtorEq, lg_self, Nat.not_lt_zero, Nat.zero_le, Nat.reduceEqDiff, Nat.reduceLT, Nat.reduceLeDiff, true_or, or_true, false_or, or_false, not_true_eq_false, not_false_eq_true, true_imp_iff, false_imp_iff, and_self, wrd, u2, and_true, true_and, and_false, false_and, and_self, ite_true, ite_false, reduceIte, h329]
    exact st
end CL
