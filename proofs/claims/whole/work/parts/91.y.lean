/-! addRule: what both have read is one rule. -/
theorem patP_ok {n : Nat} {S : Nat → Nat} (hS : sgOk S) {tp i np : Nat} {fo lt : Nat → Int32} {f l f2 l2 : Int32} {e hl e2 : Bool} (h : patP n S = .inr (tp, (i, np, fo, lt, f, l, e), hl, f2, l2, e2)) :
    np ≤ 30 ∧ tp ≤ np ∧ pIn 0 tp f ∧ pIn 0 tp l ∧ pIn tp np f2 ∧ pIn tp np l2 ∧ (∀ p, p < tp → pIn 0 tp (fo p)) ∧ (∀ p, tp ≤ p → p < np → pIn tp np (fo p)) ∧ (∀ p, np ≤ p → fo p = Int32.ofNat 0) ∧ (∀ p, p < np → ∀ q, 8 ≤ q → bt (lt p) q = false) ∧ (hl = false → f2 = Int32.ofNat 0) := by
  unfold patP at h
  have hok := eitG_ok hS 6 0 0 (fun _ => Int32.ofNat 0) (fun _ => Int32.ofNat 0) (by decide) (by decide) (fun _ _ => rfl)
  cases hx : eitG S 6 0 0 (fun _ => Int32.ofNat 0) (fun _ => Int32.ofNat 0) with
  | inl er => rw [hx] at h; cases h
  | inr y =>
    obtain ⟨i1, tp1, fo1, lt1, f1, l1, e1⟩ := y
    rw [hx] at h hok
    obtain ⟨a1, a2, a3, a4, a5, a6, a7, a8, a9⟩ := hok
    dsimp only at h
    by_cases c1 : S i1 = 47
    · rw [if_pos c1] at h
      have := hS i1
      have hok2 := eitG_ok hS 6 (i1 + 1) tp1 fo1 lt1 (by omega) a4 a7
      cases hz : eitG S 6 (i1 + 1) tp1 fo1 lt1 with
      | inl er => rw [hz] at h; cases h
      | inr y =>
        obtain ⟨i3, np3, fo3, lt3, f3, l3, e3⟩ := y
        rw [hz] at h hok2
        obtain ⟨b1, b2, b3, b4, b5, b6, b7, b8, b9⟩ := hok2
        dsimp only at h
        by_cases c2 : i3 < n
        · rw [if_pos c2] at h; cases h
        · rw [if_neg c2] at h
          cases h
          refine ⟨b4, b3, a8, a9, b8, b9, fun p hp => ?_, fun p h1 h2 => (b6 p h1 h2).1, b7, fun p hp => ?_, fun q => (by cases q)⟩
          · rw [(b5 p hp).1]; exact (a6 p (Nat.zero_le _) hp).1
          · by_cases c : p < tp
            · rw [(b5 p c).2]; exact (a6 p (Nat.zero_le _) c).2
            · exact (b6 p (by omega) hp).2
    · rw [if_neg c1] at h
      by_cases c2 : i1 < n
      · rw [if_pos c2] at h; cases h
      · rw [if_neg c2] at h
        cases h
        exact ⟨a4, Nat.le_refl _, a8, a9, pIn_0, pIn_0, fun p hp => (a6 p (Nat.zero_le _) hp).1, fun p h1 h2 => absurd h1 (by omega), a7, fun p hp => (a6 p (Nat.zero_le _) hp).2, fun _ => rfl⟩
theorem tokM_bt : ∀ tp, tp < 31 → ∀ p, p < 32 → bt (tokM tp) p = decide (p < tp) := by decide +kernel
theorem useC_eq {mt en en' : Nat → Bool} {fo fo' : Nat → Nat → Bool} {X : Nat → Bool} (h : ∀ p, p < 32 → mt p = true → en p = en' p ∧ ∀ q, q < 32 → fo p q = fo' p q) (hC : useC mt en fo X) : useC mt en' fo' X := by
  intro p hp hm h2
  obtain ⟨h3, h4⟩ := h p hp hm
  refine hC p hp hm ?_
  rcases h2 with h2 | ⟨q, q1, q2, q3⟩
  · exact Or.inl (by rw [h3]; exact h2)
  · exact Or.inr ⟨q, q1, by rw [h4 q q1]; exact q2, q3⟩
theorem useS_eq {mt en en' : Nat → Bool} {fo fo' : Nat → Nat → Bool} {X : Nat → Bool} (h : ∀ p, p < 32 → mt p = true → en p = en' p ∧ ∀ q, q < 32 → fo p q = fo' p q) (hS : useS mt en fo X) : useS mt en' fo' X :=
  fun Y hY => hS Y (useC_eq (fun p hp hm => ⟨(h p hp hm).1.symm, fun q hq => ((h p hp hm).2 q hq).symm⟩) hY)
/-- the class's row of a rule, as bits -/
theorem row_bt {fo : Nat → Int32} {l f2 : Int32} {hl : Bool} {tp np p q : Nat} (hl0 : hl = false → f2 = Int32.ofNat 0) (hp : p < 30) :
    bt (if hl = true then lkF fo l f2 p else fo p) q = (bt (fo p) q || (bt l p && bt f2 q)) := by
  cases hl
  · rw [if_neg (by decide), hl0 rfl, bt_0, Bool.and_false, Bool.or_false]
  · rw [if_pos rfl]
    unfold lkF
    by_cases c : bt l p = true
    · rw [if_pos ⟨hp, c⟩, bt_or, c, Bool.true_and]
    · rw [if_neg (fun q => c q.2), Bool.eq_false_iff.mpr c, Bool.false_and, Bool.or_false]
theorem foM_bt {fo : Nat → Int32} {l f2 : Int32} {p q : Nat} : bt (foM fo l f2 p) q = (bt (fo p) q || (bt l p && bt f2 q)) := by
  unfold foM
  rw [bt_or]
  by_cases c : bt l p = true
  · rw [if_pos c, c, Bool.true_and]
  · rw [if_neg c, Bool.eq_false_iff.mpr c, bt_0, Bool.false_and]
def laC2 (l : Int32) (hl : Bool) (l2 : Int32) (e2 : Bool) : Int32 := if hl = true then (if e2 = true then l2 ||| l else l2) else l
theorem laM_eq {l l2 : Int32} {hl e2 : Bool} : laM l hl l2 e2 = laC2 l hl l2 e2 := by
  unfold laM laC2
  cases hl <;> cases e2
  · rfl
  · rfl
  · show l2 ||| Int32.ofNat 0 = l2
    exact or_0 l2
  · rfl
/-- the rule that both hold -/
theorem rule_ok {V : MWd} {r n m1 m2 : Nat} {x3 : Int32} {S : Nat → Nat} (hS : sgOk S) {tp i np : Nat} {fo lt : Nat → Int32} {f l f2 l2 X X' : Int32} {e hl e2 : Bool} (hP : patP n S = .inr (tp, (i, np, fo, lt, f, l, e), hl, f2, l2, e2))
    (h1 : m1 < 4) (h2 : m2 < 4) (h3 : b01 x3) (a322 : wFI V 322 (6 + 3 * r) = Int32.ofNat m1) (a323 : wFI V 323 (6 + 3 * r) = Int32.ofNat m2) (a324 : wFI V 324 (6 + 3 * r) = x3) (a325 : wFI V 325 (6 + 3 * r) = b2 hl) (a326 : wFI V 326 (6 + 3 * r) = Int32.ofNat np) (a327 : wFI V 327 (6 + 3 * r) = tokM tp)
    (a328 : wFI V 328 (6 + 3 * r) = f) (a330 : wFI V 330 (6 + 3 * r) = l) (a329 : wFI V 329 (6 + 3 * r) = laC2 l hl l2 e2) (a331 : hl = true → wFI V 331 (6 + 3 * r) = f2 ∧ wFI V 333 (6 + 3 * r) = b2 e2) (a334 : wFI V 334 (6 + 3 * r) = X)
    (a7 : ∀ p, p < 30 → wAI V (7 + 3 * r) p = if hl = true then lkF fo l f2 p else fo p) (a8 : ∀ q x, q < 8 → x < 32 → bt (wAI V (8 + 3 * r) q) x = (decide (x < np) && (bt (lt x) q && bt X x)))
    (b130 : wAI V 130 r = Int32.ofNat m1) (b131 : wAI V 131 r = Int32.ofNat m2) (b132 : wAI V 132 r = x3) (b133 : wAI V 133 r = b2 hl) (b134 : wAI V 134 r = Int32.ofNat np) (b137 : wAI V 137 r = f) (b138 : wAI V 138 r = l) (b139 : wAI V 139 r = f2) (b140 : wAI V 140 r = l2) (b141 : wAI V 141 r = b2 e2) (b142 : wAI V 142 r = X')
    (bpp : ∀ p, p < np → wAI V 136 (30 * r + p) = fo p ∧ wAI V 135 (30 * r + p) = lt p)
    (uC : useC (mtB np lt) (bt (laC2 l hl l2 e2)) (fun p => bt (wAI V (7 + 3 * r) p)) (bt X)) (uS : useS (mtB np lt) (bt (laC2 l hl l2 e2)) (fun p => bt (wAI V (7 + 3 * r) p)) (bt X))
    (vC : useC (mtB np lt) (bt (laM l hl l2 e2)) (fun p => bt (foM fo l f2 p)) (bt X')) (vS : useS (mtB np lt) (bt (laM l hl l2 e2)) (fun p => bt (foM fo l f2 p)) (bt X')) : RuleOk V r := by
  obtain ⟨o1, o2, o3, o4, o5, o6, o7, o8, o9, o10, o11⟩ := patP_ok hS hP
  have hmt : ∀ p, p < 32 → mtB np lt p = true → p < np := fun p hp h => by
    unfold mtB at h
    rw [Bool.and_eq_true, decide_eq_true_eq] at h
    exact h.1
  have hcong : ∀ p, p < 32 → mtB np lt p = true → bt (laM l hl l2 e2) p = bt (laC2 l hl l2 e2) p ∧ ∀ q, q < 32 → bt (foM fo l f2 p) q = bt (wAI V (7 + 3 * r) p) q := fun p hp hm => ⟨by rw [laM_eq], fun q hq => by
    have := hmt p hp hm
    rw [a7 p (by omega), row_bt (tp := tp) (np := np) o11 (by omega), foM_bt]⟩
  have eX : X = X' := bt_ext (use_eq uC uS (useC_eq hcong vC) (useS_eq hcong vS))
  subst eX
  have n01 : ¬ (Int32.ofNat 0 = Int32.ofNat 1) := by decide
  refine ⟨np, tp, ⟨o1, o2, ⟨m1, h1, a322, b130⟩, ⟨m2, h2, a323, b131⟩, ⟨a324.trans b132.symm, by rw [b132]; exact h3⟩, ⟨a325.trans b133.symm, by rw [b133]; exact b2_01 hl⟩, a326, b134, fun p hp => by rw [a327]; exact tokM_bt tp (by omega) p hp, a328.trans b137.symm, a330.trans b138.symm, a334.trans b142.symm⟩, ⟨fun p hp => ?_, fun h => ?_, by rw [b141]; exact b2_01 e2, fun h => ?_, fun p q hp hq => ?_, fun q x hq hx => ?_⟩, ⟨fun q hq h => ?_, fun q hq h => ?_, fun q hq h => ?_, fun q hq h => ?_, fun p q hp hq h => ?_, fun p hp h1' h2' => ?_⟩⟩
  · rw [a329, b133, b140, b141, b138]
    unfold laC2
    cases hl <;> cases e2 <;> simp only [b2, Bool.false_eq_true, if_true, if_false, n01]
    · simp [bt_or]
    · simp [bt_or]
  · rw [b133] at h
    cases hl
    · exact absurd h (by decide)
    · obtain ⟨y1, y2⟩ := a331 rfl
      exact ⟨y1.trans b139.symm, y2.trans b141.symm⟩
  · rw [b133] at h
    cases hl
    · rw [b139]; exact o11 rfl
    · exact absurd h (by decide)
  · rw [a7 p hp, row_bt (tp := tp) (np := np) o11 hp, b138, b139]
    by_cases c : p < np
    · rw [decide_eq_true c, Bool.true_and, (bpp p c).1]
    · rw [decide_eq_false c, Bool.false_and, o9 p (by omega), bt_0, Bool.false_or]
      cases h : bt l p
      · rfl
      · have := o4 p h; omega
  · rw [a8 q x hq hx, b142]
    by_cases c : x < np
    · rw [decide_eq_true c, (bpp x c).2]
    · rw [decide_eq_false c, Bool.false_and, Bool.false_and]
  · rw [b137] at h; exact (o3 q h).2
  · rw [b138] at h; exact (o4 q h).2
  · rw [b139] at h; exact o5 q h
  · rw [b140] at h; exact o6 q h
  · rw [(bpp p hp).1] at h
    exact ⟨fun c => (o7 p c q h).2, fun c => o8 p c hp q h⟩
  · rw [b142]
    obtain ⟨x, hx, hx2⟩ := h1'
    rw [(bpp p hp).2] at hx2
    have hm := (mtB_iff (o10 p hp) hp).mpr ⟨x, hx, hx2⟩
    refine uC p (by omega) hm ?_
    rcases h2' with h2' | ⟨q, q1, q2, q3⟩
    · rw [a329] at h2'; exact Or.inl h2'
    · rw [b142] at q3
      exact Or.inr ⟨q, q1, q2, q3⟩
