/-! Sets as they are come to. -/
noncomputable def zrow (x : Nat → Int32) : Bool := @decide (∀ r, r < 12 → x r = Int32.ofNat 0) (Classical.propDecidable _)
noncomputable def srow (x y : Nat → Int32) : Bool := @decide (∀ r, r < 12 → x r = y r) (Classical.propDecidable _)
theorem zrow_iff {x : Nat → Int32} : zrow x = true ↔ ∀ r, r < 12 → x r = Int32.ofNat 0 := @decide_eq_true_iff _ (Classical.propDecidable _)
theorem srow_iff {x y : Nat → Int32} : srow x y = true ↔ ∀ r, r < 12 → x r = y r := @decide_eq_true_iff _ (Classical.propDecidable _)
noncomputable def fdS (S : Nat → Nat → Int32) (x : Nat → Int32) : Nat → Nat
  | 0 => 1
  | m + 1 => if fdS S x m < m + 1 then fdS S x m else if srow (S (m + 1)) x = true then m + 1 else m + 2
theorem fdS_spec (S : Nat → Nat → Int32) (x : Nat → Int32) : ∀ m, 1 ≤ fdS S x m ∧ (fdS S x m < m + 1 ∧ srow (S (fdS S x m)) x = true ∨ fdS S x m = m + 1) ∧ ∀ k, 1 ≤ k → k < fdS S x m → srow (S k) x = false
  | 0 => ⟨Nat.le_refl 1, Or.inr rfl, fun k h1 h2 => by have : fdS S x 0 = 1 := rfl; omega⟩
  | m + 1 => by
    obtain ⟨ih0, ih1, ih2⟩ := fdS_spec S x m
    unfold fdS
    by_cases h1 : fdS S x m < m + 1
    · rw [if_pos h1]
      rcases ih1 with h | h
      · exact ⟨ih0, Or.inl ⟨by omega, h.2⟩, ih2⟩
      · omega
    · rw [if_neg h1]
      have h2 : fdS S x m = m + 1 := by rcases ih1 with h | h <;> omega
      rw [h2] at ih2
      by_cases h3 : srow (S (m + 1)) x = true
      · rw [if_pos h3]; exact ⟨by omega, Or.inl ⟨by omega, h3⟩, ih2⟩
      · rw [if_neg h3]
        refine ⟨by omega, Or.inr rfl, fun k hk1 hk2 => ?_⟩
        by_cases h4 : k = m + 1
        · subst h4; exact Bool.eq_false_iff.mpr h3
        · exact ih2 k hk1 (by omega)
theorem fdS_of {S : Nat → Nat → Int32} {x : Nat → Int32} {m k : Nat} (h0 : 1 ≤ k) (h1 : k ≤ m + 1) (h2 : k = m + 1 ∨ srow (S k) x = true) (h3 : ∀ j, 1 ≤ j → j < k → srow (S j) x = false) : fdS S x m = k := by
  obtain ⟨a0, a1, a2⟩ := fdS_spec S x m
  rcases Nat.lt_trichotomy (fdS S x m) k with h4 | h4 | h4
  · rcases a1 with h5 | h5
    · have := h3 _ a0 h4; rw [h5.2] at this; cases this
    · omega
  · exact h4
  · rcases h2 with h5 | h5
    · rcases a1 with h6 | h6 <;> omega
    · have := a2 k h0 h4; rw [h5] at this; cases this
def updS (S : Nat → Nat → Int32) (m : Nat) (x : Nat → Int32) : Nat → Nat → Int32 := fun k => if k = m then x else S k
section SS
variable (f : Nat → (Nat → Int32) → Nat → Nat → Int32)
def sNx (z : Nat × (Nat → Nat → Int32)) (t : Nat) : Nat → Int32 := f (t / 8) (z.2 (t / 8)) (t % 8)
noncomputable def sStep (z : Nat × (Nat → Nat → Int32)) (t : Nat) : Nat × (Nat → Nat → Int32) :=
  if zrow (sNx f z t) = true then z else if fdS z.2 (sNx f z t) (z.1 - 1) = z.1 then (z.1 + 1, updS z.2 z.1 (sNx f z t)) else z
noncomputable def sTgt (z : Nat × (Nat → Nat → Int32)) (t : Nat) : Option Nat := if zrow (sNx f z t) = true then none else some (fdS z.2 (sNx f z t) (z.1 - 1))
noncomputable def sSt : Nat → Nat × (Nat → Nat → Int32)
  | 0 => (1, fun _ _ => Int32.ofNat 0)
  | t + 1 => sStep f (sSt t) t
noncomputable def sMv (t : Nat) : Option Nat := sTgt f (sSt f t) t
def sEnd (n : Nat) : Prop := (∀ s, s < n → s < (sSt f (8 * s)).1) ∧ (sSt f (8 * n)).1 = n ∧ n ≤ 100
def sBad : Prop := ∃ t, (∀ s, 8 * s ≤ t → s < (sSt f (8 * s)).1) ∧ (sSt f t).1 = 100 ∧ (sSt f (t + 1)).1 = 101
end SS
section SS
variable {f : Nat → (Nat → Int32) → Nat → Nat → Int32}
theorem sStep_cases (z : Nat × (Nat → Nat → Int32)) (hz : 1 ≤ z.1) (t : Nat) : (zrow (sNx f z t) = true ∧ sTgt f z t = none ∧ sStep f z t = z) ∨
    (∃ k, 1 ≤ k ∧ k < z.1 ∧ zrow (sNx f z t) = false ∧ sTgt f z t = some k ∧ sStep f z t = z ∧ srow (z.2 k) (sNx f z t) = true ∧ ∀ j, 1 ≤ j → j < k → srow (z.2 j) (sNx f z t) = false) ∨
    (zrow (sNx f z t) = false ∧ sTgt f z t = some z.1 ∧ sStep f z t = (z.1 + 1, updS z.2 z.1 (sNx f z t)) ∧ ∀ j, 1 ≤ j → j < z.1 → srow (z.2 j) (sNx f z t) = false) := by
  unfold sTgt sStep
  cases h : zrow (sNx f z t)
  · rw [if_neg Bool.false_ne_true, if_neg Bool.false_ne_true]
    obtain ⟨a0, a1, a2⟩ := fdS_spec z.2 (sNx f z t) (z.1 - 1)
    by_cases h2 : fdS z.2 (sNx f z t) (z.1 - 1) = z.1
    · refine Or.inr (Or.inr ⟨rfl, by rw [h2], if_pos h2, ?_⟩)
      rw [h2] at a2; exact a2
    · refine Or.inr (Or.inl ⟨_, a0, ?_, rfl, rfl, if_neg h2, ?_, a2⟩)
      · rcases a1 with h3 | h3 <;> omega
      · rcases a1 with h3 | h3
        · exact h3.2
        · omega
  · exact Or.inl ⟨rfl, if_pos rfl, if_pos rfl⟩
theorem sSt_pos : ∀ t, 1 ≤ (sSt f t).1
  | 0 => Nat.le_refl 1
  | t + 1 => by
    have ih := sSt_pos t
    show 1 ≤ (sStep f (sSt f t) t).1
    rcases sStep_cases (f := f) (sSt f t) ih t with ⟨-, -, h⟩ | ⟨k, -, -, -, -, h, -⟩ | ⟨-, -, h, -⟩
    · rw [h]; exact ih
    · rw [h]; exact ih
    · rw [h]; exact Nat.le_add_left 1 _
theorem sSt_step (t : Nat) : (sSt f t).1 ≤ (sSt f (t + 1)).1 ∧ (sSt f (t + 1)).1 ≤ (sSt f t).1 + 1 := by
  show _ ≤ (sStep f (sSt f t) t).1 ∧ (sStep f (sSt f t) t).1 ≤ _
  rcases sStep_cases (f := f) (sSt f t) (sSt_pos t) t with ⟨-, -, h⟩ | ⟨k, -, -, -, -, h, -⟩ | ⟨-, -, h, -⟩
  · rw [h]; omega
  · rw [h]; omega
  · rw [h]; dsimp only; omega
theorem sSt_mono {t u : Nat} (h : t ≤ u) : (sSt f t).1 ≤ (sSt f u).1 := by
  induction h with
  | refl => exact Nat.le_refl _
  | step _ ih => exact Nat.le_trans ih (sSt_step _).1
theorem sSt_keep {t u k : Nat} (h : t ≤ u) (hk : k < (sSt f t).1) : (sSt f u).2 k = (sSt f t).2 k := by
  induction h with
  | refl => rfl
  | @step u h ih =>
    rw [← ih]
    have h9 : (sSt f t).1 ≤ (sSt f u).1 := sSt_mono h
    show (sStep f (sSt f u) u).2 k = _
    rcases sStep_cases (f := f) (sSt f u) (sSt_pos u) u with ⟨-, -, h⟩ | ⟨k, -, -, -, -, h, -⟩ | ⟨-, -, h, -⟩
    · rw [h]
    · rw [h]
    · rw [h]; exact if_neg (by omega)
theorem sSt_zero {t : Nat} : (sSt f t).2 0 = fun _ => Int32.ofNat 0 := sSt_keep (t := 0) (Nat.zero_le t) Nat.zero_lt_one
theorem sEnd_uniq {n m : Nat} (h : sEnd f n) (h' : sEnd f m) : n = m := by
  rcases Nat.lt_trichotomy n m with h1 | h1 | h1
  · have := h'.1 n h1; rw [h.2.1] at this; omega
  · exact h1
  · have := h.1 m h1; rw [h'.2.1] at this; omega
theorem sEnd_bad {n : Nat} (h : sEnd f n) (h' : sBad f) : False := by
  obtain ⟨t, h1, h2, h3⟩ := h'
  by_cases ht : t < 8 * n
  · have := sSt_mono (f := f) (show t + 1 ≤ 8 * n by omega)
    rw [h.2.1] at this
    have := h.2.2
    omega
  · have := h1 n (by omega); rw [h.2.1] at this; omega
theorem sEnd_in {n : Nat} (h : sEnd f n) {t : Nat} (ht : t < 8 * n) : t / 8 < (sSt f t).1 := by
  have h1 := h.1 (t / 8) (by omega)
  have h2 := sSt_mono (f := f) (show 8 * (t / 8) ≤ t by omega)
  omega
theorem sEnd_pos {n : Nat} (h : sEnd f n) : 1 ≤ n := by have := sSt_pos (f := f) (8 * n); rw [h.2.1] at this; exact this
/-- where a letter leads -/
theorem sMv_some {n : Nat} (h : sEnd f n) {t k : Nat} (ht : t < 8 * n) (hk : sMv f t = some k) : 1 ≤ k ∧ k < n ∧ ∀ r, r < 12 → (sSt f (8 * n)).2 k r = f (t / 8) ((sSt f (8 * n)).2 (t / 8)) (t % 8) r := by
  have h1 := sSt_mono (f := f) (show t + 1 ≤ 8 * n by omega)
  rw [h.2.1] at h1
  have hp := sSt_pos (f := f) t
  have h3 := (sSt_step (f := f) t).1
  have hx := sEnd_in h ht
  have hk1 : (sSt f (8 * n)).2 (t / 8) = (sSt f t).2 (t / 8) := sSt_keep (by omega) hx
  have h9 : sSt f (t + 1) = sStep f (sSt f t) t := rfl
  rw [hk1]
  unfold sMv at hk
  rcases sStep_cases (f := f) (sSt f t) hp t with ⟨-, h2, -⟩ | ⟨k', k1, k2, -, h2, -, h4, -⟩ | ⟨-, h2, h4, -⟩
  · rw [h2] at hk; cases hk
  · rw [h2] at hk; cases hk
    refine ⟨k1, by omega, fun r hr => ?_⟩
    rw [sSt_keep (t := t) (by omega) k2]
    exact srow_iff.mp h4 r hr
  · rw [h2] at hk; cases hk
    rw [h4] at h9
    have h10 : (sSt f (t + 1)).1 = (sSt f t).1 + 1 := by rw [h9]
    refine ⟨hp, by omega, fun r hr => ?_⟩
    rw [sSt_keep (t := t + 1) (by omega) (by omega), h9]
    show updS _ _ _ _ r = _
    unfold updS
    rw [if_pos rfl]; rfl
theorem sMv_none {n : Nat} (h : sEnd f n) {t : Nat} (ht : t < 8 * n) (hk : sMv f t = none) : ∀ r, r < 12 → f (t / 8) ((sSt f (8 * n)).2 (t / 8)) (t % 8) r = Int32.ofNat 0 := by
  have hx := sEnd_in h ht
  have hk1 : (sSt f (8 * n)).2 (t / 8) = (sSt f t).2 (t / 8) := sSt_keep (by omega) hx
  rw [hk1]
  unfold sMv at hk
  rcases sStep_cases (f := f) (sSt f t) (sSt_pos t) t with ⟨h1, -, -⟩ | ⟨k', k1, k2, -, h2, -⟩ | ⟨-, h2, -⟩
  · exact zrow_iff.mp h1
  · rw [h2] at hk; cases hk
  · rw [h2] at hk; cases hk
end SS
