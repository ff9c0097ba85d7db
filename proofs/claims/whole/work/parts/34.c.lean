/-! Numbering as states are come to, and shortest words. -/
def fdK (O : Nat → Nat) (c : Nat) : Nat → Nat
  | 0 => 0
  | m + 1 => if fdK O c m < m then fdK O c m else if O m = c then m else m + 1
theorem fdK_spec (O : Nat → Nat) (c : Nat) : ∀ m, (fdK O c m < m ∧ O (fdK O c m) = c ∨ fdK O c m = m) ∧ ∀ k, k < fdK O c m → O k ≠ c
  | 0 => ⟨Or.inr rfl, fun k h => absurd h (Nat.not_lt_zero k)⟩
  | m + 1 => by
    have ih := fdK_spec O c m
    unfold fdK
    by_cases h1 : fdK O c m < m
    · rw [if_pos h1]
      rcases ih.1 with h | h
      · exact ⟨Or.inl ⟨by omega, h.2⟩, ih.2⟩
      · omega
    · rw [if_neg h1]
      have h2 : fdK O c m = m := by rcases ih.1 with h | h <;> omega
      rw [h2] at ih
      by_cases h3 : O m = c
      · rw [if_pos h3]; exact ⟨Or.inl ⟨by omega, h3⟩, ih.2⟩
      · rw [if_neg h3]
        refine ⟨Or.inr rfl, fun k hk => ?_⟩
        by_cases h4 : k = m
        · subst h4; exact h3
        · exact ih.2 k (by omega)
theorem fdK_le (O : Nat → Nat) (c m : Nat) : fdK O c m ≤ m := by
  rcases (fdK_spec O c m).1 with h | h <;> omega
theorem fdK_of {O : Nat → Nat} {c m k : Nat} (h1 : k ≤ m) (h2 : k = m ∨ O k = c) (h3 : ∀ j, j < k → O j ≠ c) : fdK O c m = k := by
  have h := fdK_spec O c m
  rcases Nat.lt_trichotomy (fdK O c m) k with h4 | h4 | h4
  · rcases h.1 with h5 | h5
    · exact absurd h5.2 (h3 _ h4)
    · omega
  · exact h4
  · rcases h2 with h5 | h5
    · have := fdK_le O c m; omega
    · exact absurd h5 (h.2 k h4)
def updN (O : Nat → Nat) (m c : Nat) : Nat → Nat := fun k => if k = m then c else O k
def nStep (kd : Nat → Nat) (mv : Nat → Option Nat) (x : Nat × (Nat → Nat)) (t : Nat) : Nat × (Nat → Nat) := match mv (8 * x.2 (t / 8) + t % 8) with
  | none => x
  | some a => if fdK x.2 (kd a) x.1 = x.1 then (x.1 + 1, updN x.2 x.1 (kd a)) else x
def nTgt (kd : Nat → Nat) (mv : Nat → Option Nat) (x : Nat × (Nat → Nat)) (t : Nat) : Option Nat := match mv (8 * x.2 (t / 8) + t % 8) with
  | none => none
  | some a => some (fdK x.2 (kd a) x.1)
def nSt (kd : Nat → Nat) (mv : Nat → Option Nat) : Nat → Nat × (Nat → Nat)
  | 0 => (1, fun _ => kd 0)
  | t + 1 => nStep kd mv (nSt kd mv t) t
/-- the numbering ends with n states -/
def nEnd (kd : Nat → Nat) (mv : Nat → Option Nat) (n : Nat) : Prop := (∀ s, s < n → s < (nSt kd mv (8 * s)).1) ∧ (nSt kd mv (8 * n)).1 = n
def nMv (kd : Nat → Nat) (mv : Nat → Option Nat) (t : Nat) : Option Nat := nTgt kd mv (nSt kd mv t) t
section NS
variable {kd : Nat → Nat} {mv : Nat → Option Nat}
theorem nStep_cases (x : Nat × (Nat → Nat)) (t : Nat) : (nTgt kd mv x t = none ∧ nStep kd mv x t = x) ∨ (∃ k, k < x.1 ∧ nTgt kd mv x t = some k ∧ nStep kd mv x t = x) ∨ (∃ a, mv (8 * x.2 (t / 8) + t % 8) = some a ∧ nTgt kd mv x t = some x.1 ∧ nStep kd mv x t = (x.1 + 1, updN x.2 x.1 (kd a)) ∧ ∀ k, k < x.1 → x.2 k ≠ kd a) := by
  unfold nTgt nStep
  cases h : mv (8 * x.2 (t / 8) + t % 8) with
  | none => exact Or.inl ⟨rfl, rfl⟩
  | some a =>
    have h1 := fdK_spec x.2 (kd a) x.1
    by_cases h2 : fdK x.2 (kd a) x.1 = x.1
    · refine Or.inr (Or.inr ⟨a, rfl, congrArg some h2, if_pos h2, ?_⟩)
      rw [h2] at h1; exact h1.2
    · refine Or.inr (Or.inl ⟨_, ?_, rfl, if_neg h2⟩)
      rcases h1.1 with h3 | h3
      · exact h3.1
      · exact absurd h3 h2
theorem nSt_step (t : Nat) : (nSt kd mv t).1 ≤ (nSt kd mv (t + 1)).1 ∧ (nSt kd mv (t + 1)).1 ≤ (nSt kd mv t).1 + 1 := by
  show _ ≤ (nStep kd mv (nSt kd mv t) t).1 ∧ (nStep kd mv (nSt kd mv t) t).1 ≤ _
  rcases nStep_cases (kd := kd) (mv := mv) (nSt kd mv t) t with h | ⟨k, -, -, h⟩ | ⟨a, -, -, h, -⟩
  · rw [h.2]; omega
  · rw [h]; omega
  · rw [h]; dsimp only; omega
theorem nSt_mono {t u : Nat} (h : t ≤ u) : (nSt kd mv t).1 ≤ (nSt kd mv u).1 := by
  induction h with
  | refl => exact Nat.le_refl _
  | step _ ih => exact Nat.le_trans ih (nSt_step _).1
theorem nSt_keep {t u k : Nat} (h : t ≤ u) (hk : k < (nSt kd mv t).1) : (nSt kd mv u).2 k = (nSt kd mv t).2 k := by
  induction h with
  | refl => rfl
  | @step u h ih =>
    rw [← ih]
    have h9 : (nSt kd mv t).1 ≤ (nSt kd mv u).1 := nSt_mono h
    show (nStep kd mv (nSt kd mv u) u).2 k = _
    rcases nStep_cases (kd := kd) (mv := mv) (nSt kd mv u) u with h | ⟨k, -, -, h⟩ | ⟨a, -, -, h, -⟩
    · rw [h.2]
    · rw [h]
    · rw [h]; exact if_neg (by omega)
theorem nSt_pos (t : Nat) : 1 ≤ (nSt kd mv t).1 := nSt_mono (t := 0) (Nat.zero_le t)
theorem nEnd_uniq {n m : Nat} (h : nEnd kd mv n) (h' : nEnd kd mv m) : n = m := by
  rcases Nat.lt_trichotomy n m with h1 | h1 | h1
  · have := h'.1 n h1; rw [h.2] at this; omega
  · exact h1
  · have := h.1 m h1; rw [h'.2] at this; omega
theorem nEnd_in {n : Nat} (h : nEnd kd mv n) {t : Nat} (ht : t < 8 * n) : t / 8 < (nSt kd mv t).1 := by
  have h1 := h.1 (t / 8) (by omega)
  have h2 := nSt_mono (kd := kd) (mv := mv) (show 8 * (t / 8) ≤ t by omega)
  omega
theorem nMv_lt {n : Nat} (h : nEnd kd mv n) {t k : Nat} (ht : t < 8 * n) (hk : nMv kd mv t = some k) : k < n := by
  have h1 := nSt_mono (kd := kd) (mv := mv) (show t + 1 ≤ 8 * n by omega)
  rw [h.2] at h1
  have h3 := (nSt_step (kd := kd) (mv := mv) t).1
  rcases nStep_cases (kd := kd) (mv := mv) (nSt kd mv t) t with h2 | ⟨k', hk', h2, -⟩ | ⟨a, -, h2, h4, -⟩
  · unfold nMv at hk; rw [h2.1] at hk; cases hk
  · unfold nMv at hk; rw [h2] at hk; cases hk; omega
  · unfold nMv at hk; rw [h2] at hk; cases hk
    have h5 : (nSt kd mv (t + 1)).1 = (nSt kd mv t).1 + 1 := by show (nStep kd mv (nSt kd mv t) t).1 = _; rw [h4]
    omega
end NS
/-- what breadth first means: T k is the step (8 s + letter) that comes to k first -/
def BF (n : Nat) (mv : Nat → Option Nat) (T dep : Nat → Nat) : Prop :=
  dep 0 = 0 ∧ (∀ k, 1 ≤ k → k < n → T k < 8 * n ∧ T k / 8 < k ∧ mv (T k) = some k ∧ dep k = dep (T k / 8) + 1) ∧
  (∀ k k', 1 ≤ k → k < k' → k' < n → T k < T k') ∧ (∀ t k, t < 8 * n → mv t = some k → k < n ∧ (1 ≤ k → T k ≤ t))
theorem BF_of {kd : Nat → Nat} {mv : Nat → Option Nat} {n : Nat} (h : nEnd kd mv n) {T dep : Nat → Nat} (h0 : dep 0 = 0)
    (hT : ∀ k, 1 ≤ k → k < n → T k < 8 * n ∧ (nSt kd mv (T k)).1 = k ∧ (nSt kd mv (T k + 1)).1 = k + 1 ∧ dep k = dep (T k / 8) + 1) : BF n (nMv kd mv) T dep := by
  refine ⟨h0, fun k h1 h2 => ?_, fun k k' h1 h2 h3 => ?_, fun t k h1 h2 => ⟨nMv_lt h h1 h2, fun h3 => ?_⟩⟩
  · obtain ⟨a1, a2, a3, a4⟩ := hT k h1 h2
    refine ⟨a1, ?_, ?_, a4⟩
    · have := nEnd_in h a1; omega
    · unfold nMv
      have h9 : (nSt kd mv (T k + 1)).1 = (nStep kd mv (nSt kd mv (T k)) (T k)).1 := rfl
      rcases nStep_cases (kd := kd) (mv := mv) (nSt kd mv (T k)) (T k) with h2 | ⟨k', hk', -, h2⟩ | ⟨a, -, h2, h4, -⟩
      · rw [h2.2] at h9; omega
      · rw [h2] at h9; omega
      · rw [h2, a2]
  · obtain ⟨a1, a2, a3, a4⟩ := hT k h1 (by omega)
    obtain ⟨b1, b2, b3, b4⟩ := hT k' (by omega) h3
    apply Nat.lt_of_not_le
    intro hc
    have := nSt_mono (kd := kd) (mv := mv) hc
    omega
  · have h4 := nMv_lt h h1 h2
    obtain ⟨a1, a2, a3, a4⟩ := hT k h3 h4
    apply Nat.le_of_not_lt
    intro hc
    have h5 := nSt_mono (kd := kd) (mv := mv) (show t + 1 ≤ T k from hc)
    have h9 : (nSt kd mv (t + 1)).1 = (nStep kd mv (nSt kd mv t) t).1 := rfl
    have h10 := (nSt_step (kd := kd) (mv := mv) t).1
    unfold nMv at h2
    rcases nStep_cases (kd := kd) (mv := mv) (nSt kd mv t) t with h6 | ⟨k', hk', h6, -⟩ | ⟨a, -, h6, h7, -⟩
    · rw [h6.1] at h2; cases h2
    · rw [h6] at h2; cases h2; omega
    · rw [h6] at h2; cases h2; rw [h7] at h9; dsimp only at h9; omega
/-- a state with acc can be come to within k letters -/
def Dk (mv : Nat → Option Nat) (acc : Nat → Prop) : Nat → Nat → Prop
  | 0, s => acc s
  | k + 1, s => acc s ∨ ∃ l t, l < 8 ∧ mv (8 * s + l) = some t ∧ Dk mv acc k t
def upT (T : Nat → Nat) : Nat → Nat → Nat
  | 0, k => k
  | j + 1, k => T (upT T j k) / 8
section BF
variable {n : Nat} {mv : Nat → Option Nat} {T dep : Nat → Nat} {acc : Nat → Prop}
theorem Dk_acc {s : Nat} (h : acc s) : ∀ k, Dk mv acc k s
  | 0 => h
  | _ + 1 => Or.inl h
theorem Dk_succ : ∀ {k s : Nat}, Dk mv acc k s → Dk mv acc (k + 1) s
  | 0, _, h => Or.inl h
  | _ + 1, _, Or.inl h => Or.inl h
  | _ + 1, _, Or.inr ⟨l, t, hl, h1, h2⟩ => Or.inr ⟨l, t, hl, h1, Dk_succ h2⟩
theorem BF_dep_le (B : BF n mv T dep) : ∀ k, k < n → dep k ≤ k := by
  intro k
  induction k using Nat.strongRecOn with
  | ind k ih =>
    intro hk
    by_cases h0 : k = 0
    · subst h0; rw [B.1]; omega
    · obtain ⟨-, a2, -, a4⟩ := B.2.1 k (by omega) hk
      have := ih _ a2 (by omega)
      omega
theorem BF_mono (B : BF n mv T dep) : ∀ k k', k ≤ k' → k' < n → dep k ≤ dep k' := by
  intro k
  induction k using Nat.strongRecOn with
  | ind k ih =>
    intro k' h1 h2
    by_cases h0 : k = 0
    · subst h0; rw [B.1]; omega
    · by_cases he : k = k'
      · subst he; omega
      · obtain ⟨-, a2, -, a4⟩ := B.2.1 k (by omega) (by omega)
        obtain ⟨-, b2, -, b4⟩ := B.2.1 k' (by omega) h2
        have h3 := B.2.2.1 k k' (by omega) (by omega) h2
        have := ih _ a2 (T k' / 8) (Nat.div_le_div_right (by omega)) (by omega)
        omega
theorem BF_edge (B : BF n mv T dep) {s l t : Nat} (hs : s < n) (hl : l < 8) (h : mv (8 * s + l) = some t) : t < n ∧ dep t ≤ dep s + 1 := by
  have h1 := B.2.2.2 (8 * s + l) t (by omega) h
  refine ⟨h1.1, ?_⟩
  by_cases h0 : t = 0
  · subst h0; rw [B.1]; omega
  · obtain ⟨-, a2, -, a4⟩ := B.2.1 t (by omega) h1.1
    have h2 := h1.2 (by omega)
    have := BF_mono B (T t / 8) s (by omega) hs
    omega
theorem BF_Dk (B : BF n mv T dep) : ∀ (k s : Nat), s < n → Dk mv acc k s → ∃ x, x < n ∧ acc x ∧ dep x ≤ dep s + k
  | 0, s, hs, h => ⟨s, hs, h, by omega⟩
  | k + 1, s, hs, h => by
    rcases h with h | ⟨l, t, hl, h1, h2⟩
    · exact ⟨s, hs, h, by omega⟩
    · obtain ⟨h3, h4⟩ := BF_edge B hs hl h1
      obtain ⟨x, h5, h6, h7⟩ := BF_Dk B k t h3 h2
      exact ⟨x, h5, h6, by omega⟩
theorem BF_up (B : BF n mv T dep) {s : Nat} (hs : s < n) : ∀ j, j ≤ dep s → upT T j s ≤ s ∧ dep (upT T j s) + j = dep s
  | 0, _ => ⟨Nat.le_refl s, rfl⟩
  | j + 1, h => by
    obtain ⟨h1, h2⟩ := BF_up B hs j (by omega)
    have h3 : 1 ≤ upT T j s := by
      apply Nat.lt_of_not_le
      intro hc
      have h4 : upT T j s = 0 := by omega
      rw [h4, B.1] at h2; omega
    obtain ⟨-, a2, -, a4⟩ := B.2.1 _ h3 (by omega)
    show T (upT T j s) / 8 ≤ s ∧ dep (T (upT T j s) / 8) + (j + 1) = dep s
    omega
theorem BF_upmv (B : BF n mv T dep) {s j : Nat} (hs : s < n) (h : j < dep s) : 1 ≤ upT T j s ∧ upT T j s < n ∧ T (upT T j s) = 8 * upT T (j + 1) s + T (upT T j s) % 8 ∧ mv (T (upT T j s)) = some (upT T j s) := by
  obtain ⟨h1, h2⟩ := BF_up B hs j (by omega)
  have h3 : 1 ≤ upT T j s := by
    apply Nat.lt_of_not_le
    intro hc
    have h4 : upT T j s = 0 := by omega
    rw [h4, B.1] at h2; omega
  obtain ⟨a1, a2, a3, a4⟩ := B.2.1 _ h3 (by omega)
  refine ⟨h3, by omega, ?_, a3⟩
  show _ = 8 * (T (upT T j s) / 8) + _
  omega
theorem BF_upD (B : BF n mv T dep) {s : Nat} (hs : s < n) (ha : acc s) : ∀ j, j ≤ dep s → Dk mv acc j (upT T j s)
  | 0, _ => ha
  | j + 1, h => by
    obtain ⟨-, -, a3, a4⟩ := BF_upmv B hs (show j < dep s by omega)
    refine Or.inr ⟨T (upT T j s) % 8, upT T j s, by omega, ?_, BF_upD B hs ha j (by omega)⟩
    rw [← a3]; exact a4
/-- what the reference's distances are: at most n, and exact below -/
def farOk (n : Nat) (mv : Nat → Option Nat) (acc : Nat → Prop) (fr : Nat → Nat) : Prop := ∀ s, s < n → fr s ≤ n ∧ (fr s < n → Dk mv acc (fr s) s) ∧ ∀ k, k ≤ n → Dk mv acc k s → fr s ≤ k
theorem BF_ord (B : BF n mv T dep) {s : Nat} (hs : s < n) (hf : ∀ x, x < s → ¬ acc x) : ∀ (j b : Nat), j ≤ dep s → b < upT T j s → dep b + j = dep s → Dk mv acc j b → False
  | 0, b, _, h1, _, h3 => hf b h1 h3
  | j + 1, b, h0, h1, h2, h3 => by
    have hu := BF_up B hs (j + 1) h0
    rcases h3 with h3 | ⟨l, t, hl, h4, h5⟩
    · exact hf b (by omega) h3
    · have hb : b < n := by omega
      obtain ⟨e1, e2⟩ := BF_edge B hb hl h4
      obtain ⟨x, x1, x2, x3⟩ := BF_Dk B j t e1 h5
      have x4 : s ≤ x := Nat.le_of_not_lt fun hc => hf x hc x2
      have x5 := BF_mono B s x x4 x1
      obtain ⟨a1, a2, a3, a4⟩ := BF_upmv B hs (show j < dep s by omega)
      have t0 : 1 ≤ t := by
        apply Nat.lt_of_not_le
        intro hc
        have h9 : t = 0 := by omega
        rw [h9, B.1] at x3; omega
      have t1 := (B.2.2.2 (8 * b + l) t (by omega) h4).2 t0
      refine BF_ord B hs hf j t (by omega) ?_ (by omega) h5
      apply Nat.lt_of_not_le
      intro hc
      by_cases he : upT T j s = t
      · rw [← he] at t1; omega
      · have := B.2.2.1 (upT T j s) t a1 (by omega) e1
        omega
theorem BF_far (B : BF n mv T dep) {fr : Nat → Nat} (F : farOk n mv acc fr) {s : Nat} (hs : s < n) (ha : acc s) (hf : ∀ x, x < s → ¬ acc x) (j : Nat) (hj : j ≤ dep s) : fr (upT T j s) = j := by
  have hu := BF_up B hs j hj
  have hd := BF_dep_le B s hs
  obtain ⟨f1, f2, f3⟩ := F (upT T j s) (by omega)
  have h1 := f3 j (by omega) (BF_upD B hs ha j hj)
  have h2 := f2 (by omega)
  obtain ⟨x, x1, x2, x3⟩ := BF_Dk B _ _ (by omega) h2
  have x4 : s ≤ x := Nat.le_of_not_lt fun hc => hf x hc x2
  have x5 := BF_mono B s x x4 x1
  omega
theorem BF_top (B : BF n mv T dep) {s : Nat} (hs : s < n) : upT T (dep s) s = 0 := by
  have hu := BF_up B hs (dep s) (Nat.le_refl _)
  apply Nat.eq_zero_of_not_pos
  intro hc
  obtain ⟨-, -, -, a4⟩ := B.2.1 (upT T (dep s) s) hc (by omega)
  omega
/-- the least letter that leads nearer is the one of the way back -/
theorem BF_letter (B : BF n mv T dep) {fr : Nat → Nat} (F : farOk n mv acc fr) {s : Nat} (hs : s < n) (ha : acc s) (hf : ∀ x, x < s → ¬ acc x) {j : Nat} (hj : j < dep s) :
    mv (8 * upT T (j + 1) s + T (upT T j s) % 8) = some (upT T j s) ∧ (∀ l b, l < T (upT T j s) % 8 → mv (8 * upT T (j + 1) s + l) = some b → ¬ fr b = j) := by
  obtain ⟨a1, a2, a3, a4⟩ := BF_upmv B hs hj
  refine ⟨by rw [← a3]; exact a4, fun l b hl hb hfr => ?_⟩
  have hu := BF_up B hs (j + 1) (by omega)
  have hu' := BF_up B hs j (by omega)
  have hd := BF_dep_le B s hs
  obtain ⟨e1, e2⟩ := BF_edge B (show upT T (j + 1) s < n by omega) (show l < 8 by omega) hb
  obtain ⟨f1, f2, f3⟩ := F b e1
  have h2 := f2 (by omega)
  rw [hfr] at h2
  obtain ⟨x, x1, x2, x3⟩ := BF_Dk B _ _ e1 h2
  have x4 : s ≤ x := Nat.le_of_not_lt fun hc => hf x hc x2
  have x5 := BF_mono B s x x4 x1
  have b0 : 1 ≤ b := by
    apply Nat.lt_of_not_le
    intro hc
    have h9 : b = 0 := by omega
    rw [h9, B.1] at x3; omega
  have t1 := (B.2.2.2 (8 * upT T (j + 1) s + l) b (by omega) hb).2 b0
  refine BF_ord B hs hf j b (by omega) ?_ (by omega) h2
  apply Nat.lt_of_not_le
  intro hc
  by_cases he : upT T j s = b
  · rw [← he] at t1; omega
  · have := B.2.2.1 (upT T j s) b a1 (by omega) e1
    omega
theorem far_none {fr : Nat → Nat} (F : farOk n mv acc fr) (B : BF n mv T dep) (hf : ∀ x, x < n → ¬ acc x) {s : Nat} (hs : s < n) : fr s = n := by
  obtain ⟨f1, f2, f3⟩ := F s hs
  by_cases h : fr s < n
  · obtain ⟨x, x1, x2, -⟩ := BF_Dk B _ _ hs (f2 h)
    exact absurd x2 (hf x x1)
  · omega
end BF
