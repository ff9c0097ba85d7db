/-! Frames: what a piece of a run leaves as it was (objects of the static graph only). -/
def Fr (F : Nat → Nat → Prop) (R : Nat → Prop) (x y : Nat) (w w' : MWd) : Prop :=
  wN w ≤ wN w' ∧ wC w' ≤ wC w + x ∧ wS w' ≤ wS w + y ∧ (∀ k a, a < 167 → wFR w' k a = wFR w k a) ∧ (∀ a j, a < 167 → wAR w' a j = wAR w a j) ∧
  (∀ k a, a < 167 → ¬ F k a → wFI w' k a = wFI w k a) ∧ (∀ a, a < 167 → ¬ R a → wAI w' a = wAI w a) ∧ (¬ R 166 → wAJ w' 166 = wAJ w 166)
theorem gs_64 {w : MWd} {c m : Nat} (h : grS w c) (hm : m < 4) : wFR w 64 (c + 2 + 8 * m) = some (20, 800, c + 3 + 8 * m) := by
  rw [show c + 3 + 8 * m = c + 2 + 8 * m + 1 by omega]; exact gm_64 (h.2 m hm).2
theorem gs_65 {w : MWd} {c m : Nat} (h : grS w c) (hm : m < 4) : wFR w 65 (c + 2 + 8 * m) = some (20, 100, c + 4 + 8 * m) := by
  rw [show c + 4 + 8 * m = c + 2 + 8 * m + 2 by omega]; exact gm_65 (h.2 m hm).2
theorem gs_66 {w : MWd} {c m : Nat} (h : grS w c) (hm : m < 4) : wFR w 66 (c + 2 + 8 * m) = some (20, 100, c + 5 + 8 * m) := by
  rw [show c + 5 + 8 * m = c + 2 + 8 * m + 3 by omega]; exact gm_66 (h.2 m hm).2
theorem gs_67 {w : MWd} {c m : Nat} (h : grS w c) (hm : m < 4) : wFR w 67 (c + 2 + 8 * m) = some (20, 100, c + 6 + 8 * m) := by
  rw [show c + 6 + 8 * m = c + 2 + 8 * m + 4 by omega]; exact gm_67 (h.2 m hm).2
theorem gs_68 {w : MWd} {c m : Nat} (h : grS w c) (hm : m < 4) : wFR w 68 (c + 2 + 8 * m) = some (20, 100, c + 7 + 8 * m) := by
  rw [show c + 7 + 8 * m = c + 2 + 8 * m + 5 by omega]; exact gm_68 (h.2 m hm).2
theorem gs_69 {w : MWd} {c m : Nat} (h : grS w c) (hm : m < 4) : wFR w 69 (c + 2 + 8 * m) = some (21, 100, c + 8 + 8 * m) := by
  rw [show c + 8 + 8 * m = c + 2 + 8 * m + 6 by omega]; exact gm_69 (h.2 m hm).2
theorem gs_70 {w : MWd} {c m : Nat} (h : grS w c) (hm : m < 4) : wFR w 70 (c + 2 + 8 * m) = some (21, 100, c + 9 + 8 * m) := by
  rw [show c + 9 + 8 * m = c + 2 + 8 * m + 7 by omega]; exact gm_70 (h.2 m hm).2
theorem gs_row {w : MWd} {c m : Nat} (h : grS w c) (hm : m < 4) : wAR w (c + 1) m = some (1, 0, c + 2 + 8 * m) := (h.2 m hm).1
theorem i_l1 {k n : Nat} (h : k < 2147483648) (h' : n < 2147483648) : Int32.ofNat k ≤ Int32.ofNat n - Int32.ofNat 1 ↔ k < n := by
  cases n with
  | zero => rw [show Int32.ofNat 0 - Int32.ofNat 1 = NN from rfl, i_leN h]; exact iff_of_false id (Nat.not_lt_zero k)
  | succ n => rw [i_sub (by omega), i_le h (by omega)]; omega
theorem i_l2 {k n : Nat} (h : k < 2147483648) (h' : n < 2147483648) : Int32.ofNat n - Int32.ofNat 1 < Int32.ofNat k ↔ n ≤ k := by
  cases n with
  | zero => rw [show Int32.ofNat 0 - Int32.ofNat 1 = NN from rfl, i_Nlt h]; exact iff_of_true trivial (Nat.zero_le k)
  | succ n => rw [i_sub (by omega), i_lt (by omega) h]; omega
theorem lg_self (x : Int64) : (lg_cmp x x = Int32.ofNat 0) = True := by
  unfold lg_cmp
  simp
section FR
variable {F F' : Nat → Nat → Prop} {R R' : Nat → Prop} {x y x' y' : Nat} {w w' w'' : MWd}
theorem Fr_refl : Fr F R x y w w := ⟨Nat.le_refl _, Nat.le_add_right _ _, Nat.le_add_right _ _, fun _ _ _ => rfl, fun _ _ _ => rfl, fun _ _ _ _ => rfl, fun _ _ _ => rfl, fun _ => rfl⟩
theorem Fr_trans (h : Fr F R x y w w') (h' : Fr F R x' y' w' w'') : Fr F R (x + x') (y + y') w w'' :=
  ⟨Nat.le_trans h.1 h'.1, by have := h.2.1; have := h'.2.1; omega, by have := h.2.2.1; have := h'.2.2.1; omega,
   fun k a q => (h'.2.2.2.1 k a q).trans (h.2.2.2.1 k a q), fun a j q => (h'.2.2.2.2.1 a j q).trans (h.2.2.2.2.1 a j q),
   fun k a q n => (h'.2.2.2.2.2.1 k a q n).trans (h.2.2.2.2.2.1 k a q n), fun a q n => (h'.2.2.2.2.2.2.1 a q n).trans (h.2.2.2.2.2.2.1 a q n), fun n => (h'.2.2.2.2.2.2.2 n).trans (h.2.2.2.2.2.2.2 n)⟩
theorem Fr_weak (h : Fr F R x y w w') (hF : ∀ k a, F k a → F' k a) (hR : ∀ a, R a → R' a) (hx : x ≤ x') (hy : y ≤ y') : Fr F' R' x' y' w w' :=
  ⟨h.1, by have := h.2.1; omega, by have := h.2.2.1; omega, h.2.2.2.1, h.2.2.2.2.1, fun k a q n => h.2.2.2.2.2.1 k a q fun m => n (hF k a m), fun a q n => h.2.2.2.2.2.2.1 a q fun m => n (hR a m), fun n => h.2.2.2.2.2.2.2 fun m => n (hR _ m)⟩
theorem Fr_fr (h : Fr F R x y w w') {k a : Nat} (ha : a < 167) : wFR w' k a = wFR w k a := h.2.2.2.1 k a ha
theorem Fr_fi (h : Fr F R x y w w') {k a : Nat} (ha : a < 167) (hn : ¬ F k a) : wFI w' k a = wFI w k a := h.2.2.2.2.2.1 k a ha hn
theorem Fr_ai (h : Fr F R x y w w') {a : Nat} (ha : a < 167) (hn : ¬ R a) : wAI w' a = wAI w a := h.2.2.2.2.2.2.1 a ha hn
theorem Fr_aj (h : Fr F R x y w w') (hn : ¬ R 166) : wAJ w' 166 = wAJ w 166 := h.2.2.2.2.2.2.2 hn
theorem Fr_Gr (h : Fr F R x y w w') (g : Gr w) : Gr w' := by
  obtain ⟨h0, h1, h2, h3, h4, h5, h6⟩ := g
  have hf : ∀ k a, a < 167 → wFR w' k a = wFR w k a := h.2.2.2.1
  have hr : ∀ a j, a < 167 → wAR w' a j = wAR w a j := h.2.2.2.2.1
  have hs : ∀ c, c + 34 ≤ 167 → grS w c → grS w' c := by
    intro c hc g
    unfold grS grM at g ⊢
    refine ⟨by rw [hf _ _ (by omega)]; exact g.1, fun m hm => ?_⟩
    rw [hr _ _ (by omega), hf _ _ (by omega), hf _ _ (by omega), hf _ _ (by omega), hf _ _ (by omega), hf _ _ (by omega), hf _ _ (by omega), hf _ _ (by omega)]
    exact g.2 m hm
  refine ⟨Nat.le_trans h0 h.1, fun r hr' => ?_, hs _ (by omega) h2, hs _ (by omega) h3, fun m hm => ?_, fun m hm => ?_, ?_⟩
  · rw [hr _ _ (by omega), hf _ _ (by omega), hf _ _ (by omega)]
    exact h1 r hr'
  · rw [hr _ _ (by omega)]; exact h4 m hm
  · rw [hr _ _ (by omega)]; exact h5 m hm
  · rw [hf 512 1 (by decide), hf 513 1 (by decide), hf 514 1 (by decide), hf 515 1 (by decide), hf 516 1 (by decide), hf 448 2 (by decide), hf 384 4 (by decide), hf 256 42 (by decide), hf 257 42 (by decide), hf 258 42 (by decide), hf 259 42 (by decide), hf 192 47 (by decide), hf 193 47 (by decide), hf 194 47 (by decide), hf 195 47 (by decide), hf 196 47 (by decide), hf 197 47 (by decide), hf 198 47 (by decide), hf 199 47 (by decide), hf 200 47 (by decide), hf 0 57 (by decide), hf 1 57 (by decide), hf 641 128 (by decide), hf 645 128 (by decide), hf 646 128 (by decide), hf 647 128 (by decide), hf 648 128 (by decide), hf 649 128 (by decide), hf 650 128 (by decide), hf 651 128 (by decide), hf 652 128 (by decide), hf 653 128 (by decide), hf 654 128 (by decide), hf 655 128 (by decide), hf 656 128 (by decide), hf 657 128 (by decide), hf 665 128 (by decide), hf 666 128 (by decide), hf 667 128 (by decide), hf 668 128 (by decide), hf 670 128 (by decide), hf 671 128 (by decide), hf 672 128 (by decide), hf 673 128 (by decide), hf 674 128 (by decide), hf 675 128 (by decide), hf 676 128 (by decide), hf 677 128 (by decide), hf 679 128 (by decide), hf 680 128 (by decide), hf 681 128 (by decide)]
    exact h6
theorem Fr_sFI {k a : Nat} {v : Int32} (h : Fr F R x y w w') (hn : F k a ∨ 167 ≤ a) : Fr F R x y w (sFI w' k a v) := by
  refine ⟨h.1, h.2.1, h.2.2.1, h.2.2.2.1, h.2.2.2.2.1, fun k' a' q n => ?_, h.2.2.2.2.2.2⟩
  show u2 (wFI w') k a v k' a' = _
  unfold u2
  rw [if_neg, h.2.2.2.2.2.1 k' a' q n]
  rintro ⟨rfl, rfl⟩
  rcases hn with hn | hn
  · exact n hn
  · omega
theorem Fr_sAI {a j : Nat} {v : Int32} (h : Fr F R x y w w') (hn : R a ∨ 167 ≤ a) : Fr F R x y w (sAI w' a j v) := by
  refine ⟨h.1, h.2.1, h.2.2.1, h.2.2.2.1, h.2.2.2.2.1, h.2.2.2.2.2.1, fun a' q n => ?_, h.2.2.2.2.2.2.2⟩
  show u2 (wAI w') a j v a' = _
  rw [← h.2.2.2.2.2.2.1 a' q n]
  funext j'
  unfold u2
  rw [if_neg]
  rintro ⟨rfl, rfl⟩
  rcases hn with hn | hn
  · exact n hn
  · omega
theorem Fr_sAJ {a j : Nat} {v : Int64} (h : Fr F R x y w w') (hn : R 166 ∨ a ≠ 166) : Fr F R x y w (sAJ w' a j v) := by
  refine ⟨h.1, h.2.1, h.2.2.1, h.2.2.2.1, h.2.2.2.2.1, h.2.2.2.2.2.1, h.2.2.2.2.2.2.1, fun n => ?_⟩
  rw [← h.2.2.2.2.2.2.2 n]
  funext j'
  show u2 (wAJ w') a j v 166 j' = _
  unfold u2
  rw [if_neg]
  rintro ⟨rfl, -⟩
  rcases hn with hn | hn
  · exact n hn
  · exact hn rfl
theorem Fr_cpI {a b c d n : Nat} (h : Fr F R x y w w') (hn : R c ∨ 167 ≤ c) : Fr F R x y w (cpI w' a b c d n) := by
  refine ⟨h.1, h.2.1, h.2.2.1, h.2.2.2.1, h.2.2.2.2.1, h.2.2.2.2.2.1, fun a' q n' => ?_, h.2.2.2.2.2.2.2⟩
  rw [← h.2.2.2.2.2.2.1 a' q n']
  funext j'
  show (if a' = c ∧ _ then _ else _) = _
  rw [if_neg]
  rintro ⟨rfl, -⟩
  rcases hn with hn | hn
  · exact n' hn
  · omega
theorem Fr_cpJ {a b c d n : Nat} (h : Fr F R x y w w') (hn : c ≠ 166) : Fr F R x y w (cpJ w' a b c d n) := by
  refine ⟨h.1, h.2.1, h.2.2.1, h.2.2.2.1, h.2.2.2.2.1, h.2.2.2.2.2.1, h.2.2.2.2.2.2.1, fun n' => ?_⟩
  rw [← h.2.2.2.2.2.2.2 n']
  funext j'
  show (if 166 = c ∧ _ then _ else _) = _
  rw [if_neg]
  rintro ⟨rfl, -⟩
  exact hn rfl
theorem Fr_tick (h : Fr F R x y w w') : Fr F R (x + 1) (y + 6) w (mj_tick w') :=
  ⟨h.1, by have := h.2.1; show wC w' + 1 ≤ _; omega, by have := h.2.2.1; show wS w' + 6 ≤ _; omega, h.2.2.2⟩
theorem Fr_nwA {n : Nat} (hw : 167 ≤ wN w) (h : Fr F R x y w w') : Fr F R (x + 1) (y + n) w (nwA w' n) := by
  have hN : ∀ a, a < 167 → ¬ a = wN w' := fun a ha => by have := h.1; omega
  refine ⟨?_, ?_, ?_, h.2.2.2.1, fun a j q => ?_, h.2.2.2.2.2.1, fun a q n' => ?_, fun n' => ?_⟩
  · have := h.1; show _ ≤ wN w' + 1; omega
  · have := h.2.1; show wC w' + 1 ≤ _; omega
  · have := h.2.2.1; show wS w' + n ≤ _; omega
  · show (if a = wN w' then none else wAR w' a j) = _
    rw [if_neg (hN a q)]; exact h.2.2.2.2.1 a j q
  · rw [← h.2.2.2.2.2.2.1 a q n']
    funext j
    show (if a = wN w' then 0 else wAI w' a j) = _
    rw [if_neg (hN a q)]
  · rw [← h.2.2.2.2.2.2.2 n']
    funext j
    show (if 166 = wN w' then 0 else wAJ w' 166 j) = _
    rw [if_neg (hN 166 (by decide))]
theorem Fr_nwO {n : Nat} (hw : 167 ≤ wN w) (h : Fr F R x y w w') : Fr F R (x + 1) (y + n) w (nwO w' n) := by
  have hN : ∀ a, a < 167 → ¬ a = wN w' := fun a ha => by have := h.1; omega
  refine ⟨?_, ?_, ?_, fun k a q => ?_, h.2.2.2.2.1, fun k a q n' => ?_, h.2.2.2.2.2.2⟩
  · have := h.1; show _ ≤ wN w' + 1; omega
  · have := h.2.1; show wC w' + 1 ≤ _; omega
  · have := h.2.2.1; show wS w' + n ≤ _; omega
  · show (if a = wN w' then none else wFR w' k a) = _
    rw [if_neg (hN a q)]; exact h.2.2.2.1 k a q
  · show (if a = wN w' then 0 else wFI w' k a) = _
    rw [if_neg (hN a q)]; exact h.2.2.2.2.2.1 k a q n'
theorem Fr_0 (h : Fr F R 0 0 w w') : wC w' ≤ wC w ∧ wS w' ≤ wS w := ⟨h.2.1, h.2.2.1⟩
end FR
/-- what no call's answer shows: scratch -/
def scF (k a : Nat) : Prop := (a = 128 ∧ (k = 640 ∨ (658 ≤ k ∧ k ≤ 662) ∨ k = 669)) ∨ (42 ≤ a ∧ a < 57) ∨ (a = 57 ∧ 7 ≤ k)
def scA (a : Nat) : Prop := (42 ≤ a ∧ a < 57) ∨ a = 59 ∨ a = 149 ∨ (151 ≤ a ∧ a ≤ 159) ∨ a = 162 ∨ 165 ≤ a
theorem iTape_keep {w w' : MWd} (h : iTape w) (h1 : wFI w' 449 2 = wFI w 449 2) (h2 : wFI w' 642 128 = wFI w 642 128) (h3 : wAI w' 3 = wAI w 3) (h4 : wAI w' 129 = wAI w 129) : iTape w' := by
  unfold iTape; rw [h1, h2, h3, h4]; exact h
theorem RuleOk_keep {w w' : MWd} {r : Nat} (h : RuleOk w r) (h1 : ∀ k, 322 ≤ k → k ≤ 334 → wFI w' k (6 + 3 * r) = wFI w k (6 + 3 * r)) (h2 : wAI w' (7 + 3 * r) = wAI w (7 + 3 * r)) (h3 : wAI w' (8 + 3 * r) = wAI w (8 + 3 * r))
    (h4 : ∀ a, 130 ≤ a → a ≤ 142 → a ≠ 135 → a ≠ 136 → wAI w' a r = wAI w a r) (h5 : ∀ p, p < 30 → wAI w' 135 (30 * r + p) = wAI w 135 (30 * r + p) ∧ wAI w' 136 (30 * r + p) = wAI w 136 (30 * r + p)) : RuleOk w' r := by
  obtain ⟨np, tp, hA, hB, hC⟩ := h
  have hnp := hA.1
  refine ⟨np, tp, ?_, ?_, ?_⟩
  · unfold RuleA
    rw [h1 322 (by omega) (by omega), h1 323 (by omega) (by omega), h1 324 (by omega) (by omega), h1 325 (by omega) (by omega), h1 326 (by omega) (by omega), h1 327 (by omega) (by omega), h1 328 (by omega) (by omega), h1 330 (by omega) (by omega), h1 334 (by omega) (by omega),
      h4 130 (by omega) (by omega) (by omega) (by omega), h4 131 (by omega) (by omega) (by omega) (by omega), h4 132 (by omega) (by omega) (by omega) (by omega), h4 133 (by omega) (by omega) (by omega) (by omega), h4 134 (by omega) (by omega) (by omega) (by omega), h4 137 (by omega) (by omega) (by omega) (by omega), h4 138 (by omega) (by omega) (by omega) (by omega), h4 142 (by omega) (by omega) (by omega) (by omega)]
    exact hA
  · unfold RuleB
    rw [h1 329 (by omega) (by omega), h1 331 (by omega) (by omega), h1 333 (by omega) (by omega), h2, h3,
      h4 133 (by omega) (by omega) (by omega) (by omega), h4 138 (by omega) (by omega) (by omega) (by omega), h4 139 (by omega) (by omega) (by omega) (by omega), h4 140 (by omega) (by omega) (by omega) (by omega), h4 141 (by omega) (by omega) (by omega) (by omega), h4 142 (by omega) (by omega) (by omega) (by omega)]
    obtain ⟨b1, b2, b3, b4, b5, b6⟩ := hB
    refine ⟨b1, b2, b3, b4, fun p q hp hq => ?_, fun l q hl hq => ?_⟩
    · rw [(h5 p hp).2]; exact b5 p q hp hq
    · by_cases hq' : q < 30
      · rw [(h5 q hq').1]; exact b6 l q hl hq
      · have := b6 l q hl hq
        rw [decide_eq_false (show ¬ q < np by omega)] at this ⊢
        exact this
  · unfold RuleC
    rw [h1 329 (by omega) (by omega), h2, h4 137 (by omega) (by omega) (by omega) (by omega), h4 138 (by omega) (by omega) (by omega) (by omega), h4 139 (by omega) (by omega) (by omega) (by omega), h4 140 (by omega) (by omega) (by omega) (by omega), h4 142 (by omega) (by omega) (by omega) (by omega)]
    obtain ⟨b1, b2, b3, b4, b5, b6⟩ := hC
    refine ⟨b1, b2, b3, b4, fun p q hp hq => ?_, fun p hp => ?_⟩
    · rw [(h5 p (by omega)).2]; exact b5 p q hp hq
    · rw [(h5 p (by omega)).1]; exact b6 p hp
theorem iRules_keep {w w' : MWd} (h : iRules w) (h1 : wFI w' 385 4 = wFI w 385 4) (h2 : wFI w' 644 128 = wFI w 644 128) (h3 : ∀ k a, 6 ≤ a → a < 42 → wFI w' k a = wFI w k a) (h4 : ∀ a, 6 ≤ a ∧ a < 42 ∨ 130 ≤ a ∧ a ≤ 142 → wAI w' a = wAI w a) : iRules w' := by
  obtain ⟨n, hn, e1, e2, hr⟩ := h
  refine ⟨n, hn, by rw [h1, e1], by rw [h2, e2], fun r hr' => RuleOk_keep (hr r hr') (fun k _ _ => h3 k _ (by omega) (by omega)) (h4 _ (by omega)) (h4 _ (by omega)) (fun a _ _ _ _ => by rw [h4 a (by omega)]) (fun p _ => by rw [h4 135 (by omega), h4 136 (by omega)]; exact ⟨rfl, rfl⟩)⟩
theorem MachOk_keep {w w' : MWd} {c m nb : Nat} (hc : c = 60 ∨ c = 94) (hm : m < 4) (hb : nb ≤ 12) (h : MachOk w c m nb) (h1 : ∀ k a, 62 ≤ a → a < 128 → wFI w' k a = wFI w k a) (h2 : ∀ a, 62 ≤ a ∧ a < 128 ∨ a = 143 ∨ 145 ≤ a ∧ a ≤ 148 → wAI w' a = wAI w a)
    (h3 : ∀ r, r < nb → wFI w' 328 (6 + 3 * r) = wFI w 328 (6 + 3 * r) ∧ wFI w' 329 (6 + 3 * r) = wFI w 329 (6 + 3 * r) ∧ wAI w' (7 + 3 * r) = wAI w (7 + 3 * r) ∧ wAI w' (8 + 3 * r) = wAI w (8 + 3 * r) ∧ wAI w' 130 r = wAI w 130 r) : MachOk w' c m nb := by
  obtain ⟨n, mv, an, hA, ⟨T, dep, hB⟩, hC⟩ := h
  refine ⟨n, mv, an, ?_, ⟨T, dep, ?_⟩, ?_⟩
  · unfold MachA
    rw [h1 _ _ (by omega) (by omega), h2 143 (by omega), h2 (c + 4 + 8 * m) (by omega), h2 (c + 3 + 8 * m) (by omega), h2 (145 + m) (by omega)]
    exact hA
  · rw [h2 (c + 5 + 8 * m) (by omega), h2 (c + 6 + 8 * m) (by omega), h2 (c + 7 + 8 * m) (by omega)]
    exact hB
  · intro s r hs ha
    obtain ⟨q1, q2, q3⟩ := hC s r hs ha
    obtain ⟨e1, e2, e3, e4, e5⟩ := h3 r q1
    rw [e1, e2, e3, e4, e5]
    exact ⟨q1, q2, q3⟩
theorem iMach_keep {w w' : MWd} (h : iMach w) (h0 : wFR w' 517 1 = wFR w 517 1 ∧ wFR w' 518 1 = wFR w 518 1) (h1 : wFI w' 385 4 = wFI w 385 4) (h2 : wFI w' 520 1 = wFI w 520 1 ∧ wFI w' 664 128 = wFI w 664 128 ∧ wFI w' 519 1 = wFI w 519 1 ∧ wFI w' 663 128 = wFI w 663 128)
    (h3 : ∀ k a, 6 ≤ a ∧ a < 42 ∨ 62 ≤ a ∧ a < 128 → wFI w' k a = wFI w k a) (h4 : ∀ a, 6 ≤ a ∧ a < 42 ∨ a = 130 ∨ 62 ≤ a ∧ a < 128 ∨ a = 143 ∨ 145 ≤ a ∧ a ≤ 148 → wAI w' a = wAI w a) : iMach w' := by
  obtain ⟨c, nb, nr, hc, e1, e2, e3, e4, e5, e6, e7, e8, e9, hm⟩ := h
  refine ⟨c, nb, nr, hc, by rw [h0.1, e1], by rw [h0.2, e2], e3, e4, by rw [h1, e5], by rw [h2.1, e6], by rw [h2.2.1, e7], by rw [h2.2.2.1]; exact e8, by rw [h2.2.2.1, h2.2.2.2, e9], fun m hm' => ?_⟩
  exact MachOk_keep hc hm' (by omega) (hm m hm') (fun k a _ _ => h3 k a (by omega)) (fun a _ => h4 a (by omega)) (fun r hr => by
    rw [h3 328 _ (by omega), h3 329 _ (by omega), h4 (7 + 3 * r) (by omega), h4 (8 + 3 * r) (by omega), h4 130 (by omega)]
    exact ⟨rfl, rfl, rfl, rfl, rfl⟩)
theorem Inv_Fr {w w' : MWd} {x y : Nat} (I : Inv w) (h : Fr scF scA x y w w') : Inv w' := by
  obtain ⟨G, hT, hR, hM, hK, hS, hE⟩ := I
  have fi : ∀ k a, a < 167 → ¬ scF k a → wFI w' k a = wFI w k a := fun k a => h.2.2.2.2.2.1 k a
  have ai : ∀ a, a < 167 → ¬ scA a → wAI w' a = wAI w a := fun a => h.2.2.2.2.2.2.1 a
  refine ⟨Fr_Gr h G, iTape_keep hT (fi _ _ (by decide) (by unfold scF; omega)) (fi _ _ (by decide) (by unfold scF; omega)) (ai _ (by decide) (by unfold scA; omega)) (ai _ (by decide) (by unfold scA; omega)),
    iRules_keep hR (fi _ _ (by decide) (by unfold scF; omega)) (fi _ _ (by decide) (by unfold scF; omega)) (fun k a _ _ => fi k a (by omega) (by unfold scF; omega)) (fun a _ => ai a (by omega) (by unfold scA; omega)),
    iMach_keep hM ⟨Fr_fr h (by decide), Fr_fr h (by decide)⟩ (fi _ _ (by decide) (by unfold scF; omega)) ⟨fi _ _ (by decide) (by unfold scF; omega), fi _ _ (by decide) (by unfold scF; omega), fi _ _ (by decide) (by unfold scF; omega), fi _ _ (by decide) (by unfold scF; omega)⟩ (fun k a _ => fi k a (by omega) (by unfold scF; omega)) (fun a _ => ai a (by omega) (by unfold scA; omega)), ?_, ?_, ?_⟩
  · unfold iTok
    rw [fi 2 57 (by decide) (by unfold scF; omega), fi 678 128 (by decide) (by unfold scF; omega), ai 58 (by decide) (by unfold scA; omega), ai 163 (by decide) (by unfold scA; omega)]
    exact hK
  · unfold iScan
    rw [fi 3 57 (by decide) (by unfold scF; omega), fi 4 57 (by decide) (by unfold scF; omega), fi 5 57 (by decide) (by unfold scF; omega), fi 6 57 (by decide) (by unfold scF; omega), ai 164 (by decide) (by unfold scA; omega)]
    exact hS
  · unfold iErr
    rw [fi 521 1 (by decide) (by unfold scF; omega), fi 643 128 (by decide) (by unfold scF; omega)]
    exact hE
section FR
variable {F : Nat → Nat → Prop} {R : Nat → Prop} {x y : Nat} {w w' : MWd}
theorem iTape_Fr (h : Fr F R x y w w') (I : iTape w) (hF : ¬ F 449 2 ∧ ¬ F 642 128 ∧ ¬ R 3 ∧ ¬ R 129) : iTape w' :=
  iTape_keep I (Fr_fi h (by decide) hF.1) (Fr_fi h (by decide) hF.2.1) (Fr_ai h (by decide) hF.2.2.1) (Fr_ai h (by decide) hF.2.2.2)
theorem iRules_Fr (h : Fr F R x y w w') (I : iRules w) (h1 : ¬ F 385 4 ∧ ¬ F 644 128) (h3 : ∀ k a, 6 ≤ a → a < 42 → ¬ F k a) (h4 : ∀ a, 6 ≤ a ∧ a < 42 ∨ 130 ≤ a ∧ a ≤ 142 → ¬ R a) : iRules w' :=
  iRules_keep I (Fr_fi h (by decide) h1.1) (Fr_fi h (by decide) h1.2) (fun k a p q => Fr_fi h (by omega) (h3 k a p q)) (fun a p => Fr_ai h (by omega) (h4 a p))
theorem iMach_Fr (h : Fr F R x y w w') (I : iMach w) (h1 : ¬ F 385 4 ∧ ¬ F 520 1 ∧ ¬ F 664 128 ∧ ¬ F 519 1 ∧ ¬ F 663 128) (h3 : ∀ k a, 6 ≤ a ∧ a < 42 ∨ 62 ≤ a ∧ a < 128 → ¬ F k a) (h4 : ∀ a, 6 ≤ a ∧ a < 42 ∨ a = 130 ∨ 62 ≤ a ∧ a < 128 ∨ a = 143 ∨ 145 ≤ a ∧ a ≤ 148 → ¬ R a) : iMach w' :=
  iMach_keep I ⟨Fr_fr h (by decide), Fr_fr h (by decide)⟩ (Fr_fi h (by decide) h1.1) ⟨Fr_fi h (by decide) h1.2.1, Fr_fi h (by decide) h1.2.2.1, Fr_fi h (by decide) h1.2.2.2.1, Fr_fi h (by decide) h1.2.2.2.2⟩ (fun k a p => Fr_fi h (by omega) (h3 k a p)) (fun a p => Fr_ai h (by omega) (h4 a p))
theorem iTok_Fr (h : Fr F R x y w w') (I : iTok w) (h1 : ¬ F 2 57 ∧ ¬ F 678 128 ∧ ¬ R 58 ∧ ¬ R 163) : iTok w' := by
  unfold iTok
  rw [Fr_fi h (by decide) h1.1, Fr_fi h (by decide) h1.2.1, Fr_ai h (by decide) h1.2.2.1, Fr_ai h (by decide) h1.2.2.2]
  exact I
theorem iScan_Fr (h : Fr F R x y w w') (I : iScan w) (h1 : ¬ F 3 57 ∧ ¬ F 4 57 ∧ ¬ F 5 57 ∧ ¬ F 6 57 ∧ ¬ R 164) : iScan w' := by
  unfold iScan
  rw [Fr_fi h (by decide) h1.1, Fr_fi h (by decide) h1.2.1, Fr_fi h (by decide) h1.2.2.1, Fr_fi h (by decide) h1.2.2.2.1, Fr_ai h (by decide) h1.2.2.2.2]
  exact I
theorem iErr_Fr (h : Fr F R x y w w') (I : iErr w) (h1 : ¬ F 521 1 ∧ ¬ F 643 128) : iErr w' := by
  unfold iErr
  rw [Fr_fi h (by decide) h1.1, Fr_fi h (by decide) h1.2]
  exact I
end FR
/-- scratch, and the tape -/
def tpF (k a : Nat) : Prop := scF k a ∨ (k = 449 ∧ a = 2) ∨ (k = 642 ∧ a = 128)
def tpA (a : Nat) : Prop := scA a ∨ a = 3 ∨ a = 129
theorem Inv_tape {x y : Nat} {w w' : MWd} (I : Inv w) (h : Fr tpF tpA x y w w') (hT : iTape w') : Inv w' := by
  obtain ⟨G, -, hR, hM, hK, hS, hE⟩ := I
  refine ⟨Fr_Gr h G, hT, iRules_Fr h hR ?_ (fun k a _ _ => ?_) (fun a _ => ?_), iMach_Fr h hM ?_ (fun k a _ => ?_) (fun a _ => ?_), iTok_Fr h hK ?_, iScan_Fr h hS ?_, iErr_Fr h hE ?_⟩ <;> (simp only [tpF, tpA, scF, scA]; omega)
