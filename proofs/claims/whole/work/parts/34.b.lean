/-! Counting, and the least closed set. -/
def cnt (f : Nat → Bool) : Nat → Nat
  | 0 => 0
  | n + 1 => cnt f n + (if f n = true then 1 else 0)
theorem cnt_le (f : Nat → Bool) : ∀ n, cnt f n ≤ n
  | 0 => Nat.le_refl 0
  | n + 1 => by
    have h := cnt_le f n
    unfold cnt
    split <;> omega
theorem cnt_mono {f g : Nat → Bool} : ∀ {n : Nat}, (∀ p, p < n → f p = true → g p = true) → cnt f n ≤ cnt g n
  | 0, _ => Nat.le_refl 0
  | n + 1, h => by
    have h1 := cnt_mono (f := f) (g := g) (n := n) fun p hp => h p (by omega)
    unfold cnt
    by_cases h2 : f n = true
    · rw [if_pos h2, if_pos (h n (by omega) h2)]; omega
    · rw [if_neg h2]; split <;> omega
theorem cnt_lt {f g : Nat → Bool} : ∀ {n : Nat}, (∀ p, p < n → f p = true → g p = true) → (∃ p, p < n ∧ g p = true ∧ f p = false) → cnt f n < cnt g n
  | 0, _, ⟨p, hp, _⟩ => by omega
  | n + 1, h, ⟨p, hp, hg, hf⟩ => by
    unfold cnt
    by_cases h3 : p = n
    · subst h3
      have h1 := cnt_mono (f := f) (g := g) (n := p) fun q hq => h q (by omega)
      rw [if_pos hg, hf, if_neg Bool.false_ne_true]; omega
    · have h1 := cnt_lt (f := f) (g := g) (n := n) (fun p hp => h p (by omega)) ⟨p, by omega, hg, hf⟩
      by_cases h2 : f n = true
      · rw [if_pos h2, if_pos (h n (by omega) h2)]; omega
      · rw [if_neg h2]; split <;> omega
/-- the least set of places from which an end can be come to: mt what matches, en the ends, fo what follows -/
def useC (mt en : Nat → Bool) (fo : Nat → Nat → Bool) (X : Nat → Bool) : Prop := ∀ p, p < 32 → mt p = true → (en p = true ∨ ∃ q, q < 32 ∧ fo p q = true ∧ X q = true) → X p = true
def useS (mt en : Nat → Bool) (fo : Nat → Nat → Bool) (X : Nat → Bool) : Prop := ∀ Y, useC mt en fo Y → ∀ p, p < 32 → X p = true → Y p = true
theorem use_eq {mt en : Nat → Bool} {fo : Nat → Nat → Bool} {X Y : Nat → Bool} (h1 : useC mt en fo X) (h2 : useS mt en fo X) (h3 : useC mt en fo Y) (h4 : useS mt en fo Y) : ∀ p, p < 32 → X p = Y p := by
  intro p hp
  cases hx : X p
  · cases hy : Y p
    · rfl
    · rw [h4 X h1 p hp hy] at hx; cases hx
  · rw [h2 Y h3 p hp hx]
/-- one more round adds what has a follower in X -/
theorem useS_or {mt en : Nat → Bool} {fo : Nat → Nat → Bool} {X X' : Nat → Bool} (h : useS mt en fo X) (h1 : ∀ p, p < 32 → X' p = true → X p = true ∨ (mt p = true ∧ (en p = true ∨ ∃ q, q < 32 ∧ fo p q = true ∧ X q = true))) : useS mt en fo X' := by
  intro Y hY p hp hx
  rcases h1 p hp hx with h2 | ⟨h2, h3 | ⟨q, hq, h4, h5⟩⟩
  · exact h Y hY p hp h2
  · exact hY p hp h2 (Or.inl h3)
  · exact hY p hp h2 (Or.inr ⟨q, hq, h4, h Y hY q hq h5⟩)
/-! Putting alike sets together, round by round. -/
def Pm (P : Nat → Nat → Prop) : Option Nat → Option Nat → Prop
  | none, none => True
  | some a, some b => P a b
  | _, _ => False
def Pq (A : Nat → Int32) (mv : Nat → Option Nat) : Nat → Nat → Nat → Prop
  | 0, _, _ => True
  | k + 1, i, j => A i = A j ∧ ∀ l, l < 8 → Pm (Pq A mv k) (mv (8 * i + l)) (mv (8 * j + l))
section PQ
variable {A : Nat → Int32} {mv : Nat → Option Nat}
theorem Pm_refl {P : Nat → Nat → Prop} (h : ∀ i, P i i) : ∀ x, Pm P x x
  | none => trivial
  | some a => h a
theorem Pm_symm {P : Nat → Nat → Prop} (h : ∀ i j, P i j → P j i) : ∀ {x y}, Pm P x y → Pm P y x
  | none, none, _ => trivial
  | some a, some b, q => h a b q
  | none, some _, q => q.elim
  | some _, none, q => q.elim
theorem Pm_trans {P : Nat → Nat → Prop} (h : ∀ i j k, P i j → P j k → P i k) : ∀ {x y z}, Pm P x y → Pm P y z → Pm P x z
  | none, none, none, _, _ => trivial
  | some _, some _, some _, q, r => h _ _ _ q r
  | none, some _, _, q, _ => q.elim
  | some _, none, _, q, _ => q.elim
  | some _, some _, none, _, r => r.elim
  | none, none, some _, _, r => r.elim
theorem Pm_mono {P P' : Nat → Nat → Prop} {x y : Option Nat} (h : ∀ i j, x = some i → y = some j → P i j → P' i j) (q : Pm P x y) : Pm P' x y := by
  cases x <;> cases y
  · trivial
  · exact q.elim
  · exact q.elim
  · exact h _ _ rfl rfl q
theorem Pq_refl : ∀ (k i : Nat), Pq A mv k i i
  | 0, _ => trivial
  | k + 1, _ => ⟨rfl, fun _ _ => Pm_refl (Pq_refl k) _⟩
theorem Pq_symm : ∀ (k : Nat) {i j : Nat}, Pq A mv k i j → Pq A mv k j i
  | 0, _, _, _ => trivial
  | k + 1, _, _, h => ⟨h.1.symm, fun l hl => Pm_symm (fun _ _ => Pq_symm k) (h.2 l hl)⟩
theorem Pq_trans : ∀ (k : Nat) {i j m : Nat}, Pq A mv k i j → Pq A mv k j m → Pq A mv k i m
  | 0, _, _, _, _, _ => trivial
  | k + 1, _, _, _, h, h' => ⟨h.1.trans h'.1, fun l hl => Pm_trans (P := Pq A mv k) (fun _ _ _ => Pq_trans k) (h.2 l hl) (h'.2 l hl)⟩
theorem Pq_mono : ∀ (k : Nat) {i j : Nat}, Pq A mv (k + 1) i j → Pq A mv k i j
  | 0, _, _, _ => trivial
  | k + 1, _, _, h => ⟨h.1, fun l hl => Pm_mono (fun _ _ _ _ => Pq_mono k) (h.2 l hl)⟩
/-- the first one that is alike -/
theorem Pq_least (k : Nat) : ∀ (i : Nat), ∃ r, r ≤ i ∧ Pq A mv k r i ∧ ∀ j, j < r → ¬ Pq A mv k j r := by
  intro i
  induction i using Nat.strongRecOn with
  | ind i ih =>
    by_cases h : ∃ j, j < i ∧ Pq A mv k j i
    · obtain ⟨j, hj, hp⟩ := h
      obtain ⟨r, h1, h2, h3⟩ := ih j hj
      exact ⟨r, by omega, Pq_trans k h2 hp, h3⟩
    · exact ⟨i, Nat.le_refl i, Pq_refl k i, fun j hj hp => h ⟨j, hj, hp⟩⟩
noncomputable def rpB (A : Nat → Int32) (mv : Nat → Option Nat) (k i : Nat) : Bool := @decide (∀ j, j < i → ¬ Pq A mv k j i) (Classical.propDecidable _)
theorem rpB_iff {k i : Nat} : rpB A mv k i = true ↔ ∀ j, j < i → ¬ Pq A mv k j i := @decide_eq_true_iff _ (Classical.propDecidable _)
theorem rpB_mono {k i : Nat} (h : rpB A mv k i = true) : rpB A mv (k + 1) i = true :=
  rpB_iff.mpr fun j hj hp => rpB_iff.mp h j hj (Pq_mono k hp)
/-- how many kinds there are -/
noncomputable def nK (A : Nat → Int32) (mv : Nat → Option Nat) (n k : Nat) : Nat := cnt (rpB A mv k) n
theorem nK_le {n k : Nat} : nK A mv n k ≤ n := cnt_le _ _
theorem nK_mono {n k : Nat} : nK A mv n k ≤ nK A mv n (k + 1) := cnt_mono fun _ _ h => rpB_mono h
theorem nK_0 {n : Nat} (h : 0 < n) : nK A mv n 0 = 1 := by
  have h0 : rpB A mv 0 0 = true := rpB_iff.mpr fun j hj => absurd hj (Nat.not_lt_zero j)
  have h1 : ∀ m, cnt (rpB A mv 0) (m + 1) = 1 := by
    intro m
    induction m with
    | zero => show cnt _ 0 + _ = 1; rw [if_pos h0]; rfl
    | succ m ih =>
      show cnt _ (m + 1) + _ = 1
      rw [ih, if_neg]
      intro h2
      exact rpB_iff.mp h2 0 (by omega) trivial
  obtain ⟨m, rfl⟩ : ∃ m, n = m + 1 := ⟨n - 1, by omega⟩
  exact h1 m
theorem nK_stable {n k : Nat} (h : nK A mv n (k + 1) = nK A mv n k) {i j : Nat} (hi : i < n) (hj : j < n) (hp : Pq A mv k i j) : Pq A mv (k + 1) i j := by
  have hs : ∀ p, p < n → rpB A mv (k + 1) p = true → rpB A mv k p = true := by
    intro p hp h1
    cases h2 : rpB A mv k p
    · have h3 := cnt_lt (f := rpB A mv k) (g := rpB A mv (k + 1)) (n := n) (fun _ _ h => rpB_mono h) ⟨p, hp, h1, h2⟩
      have h4 : cnt (rpB A mv (k + 1)) n = cnt (rpB A mv k) n := h
      omega
    · rfl
  have hr : ∀ i, i < n → ∃ r, r ≤ i ∧ Pq A mv (k + 1) r i ∧ ∀ j, j < r → ¬ Pq A mv k j r := by
    intro i hi
    obtain ⟨r, h1, h2, h3⟩ := Pq_least (A := A) (mv := mv) (k + 1) i
    exact ⟨r, h1, h2, rpB_iff.mp (hs r (by omega) (rpB_iff.mpr h3))⟩
  obtain ⟨r, hr1, hr2, hr3⟩ := hr i hi
  obtain ⟨s, hs1, hs2, hs3⟩ := hr j hj
  have h5 : Pq A mv k r s := Pq_trans k (Pq_trans k (Pq_mono k hr2) hp) (Pq_symm k (Pq_mono k hs2))
  have h6 : r = s := by
    rcases Nat.lt_trichotomy r s with h7 | h7 | h7
    · exact absurd h5 (hs3 r h7)
    · exact h7
    · exact absurd (Pq_symm k h5) (hr3 s h7)
  subst h6
  exact Pq_trans (k + 1) (Pq_symm (k + 1) hr2) hs2
theorem Pq_all {n k : Nat} (hm : ∀ t a, t < 8 * n → mv t = some a → a < n) (h : nK A mv n (k + 1) = nK A mv n k) : ∀ (m : Nat) {i j : Nat}, i < n → j < n → Pq A mv k i j → Pq A mv (k + m) i j
  | 0, _, _, _, _, hp => hp
  | m + 1, i, j, hi, hj, hp => by
    have h1 := nK_stable h hi hj hp
    refine ⟨h1.1, fun l hl => Pm_mono ?_ (h1.2 l hl)⟩
    intro a b ha hb hab
    exact Pq_all hm h m (hm _ a (by omega) ha) (hm _ b (by omega) hb) hab
/-- alike for ever -/
def Pe (A : Nat → Int32) (mv : Nat → Option Nat) (i j : Nat) : Prop := ∀ k, Pq A mv k i j
theorem Pq_le {k m : Nat} (h : m ≤ k) {i j : Nat} (hp : Pq A mv k i j) : Pq A mv m i j := by
  induction h with
  | refl => exact hp
  | step _ ih => exact ih (Pq_mono _ hp)
theorem Pe_iff {n k : Nat} (hm : ∀ t a, t < 8 * n → mv t = some a → a < n) (h : nK A mv n (k + 1) = nK A mv n k) {i j : Nat} (hi : i < n) (hj : j < n) : Pe A mv i j ↔ Pq A mv (k + 1) i j := by
  constructor
  · intro q; exact q _
  · intro q m
    by_cases hmk : m ≤ k
    · exact Pq_le hmk (Pq_mono k q)
    · obtain ⟨e, rfl⟩ : ∃ e, m = k + e := ⟨m - k, by omega⟩
      exact Pq_all hm h e hi hj (Pq_mono k q)
theorem Pe_refl (i : Nat) : Pe A mv i i := fun k => Pq_refl k i
theorem Pe_symm {i j : Nat} (h : Pe A mv i j) : Pe A mv j i := fun k => Pq_symm k (h k)
theorem Pe_trans {i j m : Nat} (h : Pe A mv i j) (h' : Pe A mv j m) : Pe A mv i m := fun k => Pq_trans k (h k) (h' k)
theorem Pe_ans {i j : Nat} (h : Pe A mv i j) : A i = A j := (h 1).1
theorem Pe_mv {i j l : Nat} (h : Pe A mv i j) (hl : l < 8) : Pm (Pe A mv) (mv (8 * i + l)) (mv (8 * j + l)) := by
  have h1 := (h 1).2 l hl
  revert h1
  cases hx : mv (8 * i + l) <;> cases hy : mv (8 * j + l) <;> intro h1
  · trivial
  · exact h1.elim
  · exact h1.elim
  · intro k
    have h2 := (h (k + 1)).2 l hl
    rw [hx, hy] at h2
    exact h2
end PQ
/-! Counting words: from the front and from the back. -/
def sumN (f : Nat → Int64) : Nat → Int64
  | 0 => 0
  | n + 1 => sumN f n + f n
theorem sumN_congr {f g : Nat → Int64} : ∀ {n : Nat}, (∀ i, i < n → f i = g i) → sumN f n = sumN g n
  | 0, _ => rfl
  | n + 1, h => by
    unfold sumN
    rw [sumN_congr fun i hi => h i (by omega), h n (by omega)]
theorem sumN_add (f g : Nat → Int64) : ∀ n, sumN (fun i => f i + g i) n = sumN f n + sumN g n
  | 0 => by show (0 : Int64) = 0 + 0; grind
  | n + 1 => by
    unfold sumN
    rw [sumN_add f g n]; grind
theorem sumN_mul (c : Int64) (f : Nat → Int64) : ∀ n, sumN (fun i => c * f i) n = c * sumN f n
  | 0 => by show (0 : Int64) = c * 0; grind
  | n + 1 => by
    unfold sumN
    rw [sumN_mul c f n]; grind
theorem sumN_zero : ∀ n, sumN (fun _ => 0) n = 0
  | 0 => rfl
  | n + 1 => by
    unfold sumN
    rw [sumN_zero n]; decide
theorem sumN_swap (f : Nat → Nat → Int64) (m : Nat) : ∀ n, sumN (fun i => sumN (fun j => f i j) m) n = sumN (fun j => sumN (fun i => f i j) n) m
  | 0 => (sumN_zero m).symm
  | n + 1 => by
    show sumN (fun i => sumN (fun j => f i j) m) n + sumN (fun j => f n j) m = sumN (fun j => sumN (fun i => f i j) n + f n j) m
    rw [sumN_swap f m n, sumN_add]
theorem sumN_split (f : Nat → Int64) (a : Nat) : ∀ b, sumN f (a + b) = sumN f a + sumN (fun i => f (a + i)) b
  | 0 => by show sumN f a = sumN f a + 0; grind
  | b + 1 => by
    show sumN f (a + b) + f (a + b) = _ + (_ + f (a + b))
    rw [sumN_split f a b]; grind
theorem sumN_8 (f : Nat → Int64) : ∀ n, sumN f (8 * n) = sumN (fun s => sumN (fun l => f (8 * s + l)) 8) n
  | 0 => rfl
  | n + 1 => by
    show sumN f (8 * n + 8) = sumN (fun s => sumN (fun l => f (8 * s + l)) 8) n + sumN (fun l => f (8 * n + l)) 8
    rw [sumN_split, sumN_8 f n]
/-- one term alone -/
theorem sumN_one (g : Nat → Int64) : ∀ {n a : Nat}, a < n → sumN (fun i => if i = a then g i else 0) n = g a
  | 0, _, h => by omega
  | n + 1, a, h => by
    unfold sumN
    by_cases h1 : n = a
    · subst h1
      rw [if_pos rfl, sumN_congr (g := fun _ => 0) fun i hi => if_neg (by omega), sumN_zero]; grind
    · rw [sumN_one g (show a < n by omega), if_neg h1]; grind
def fwd (mv : Nat → Option Nat) (n : Nat) : Nat → Nat → Int64
  | 0, s => if s = 0 then 1 else 0
  | k + 1, t => sumN (fun x => if mv x = some t then fwd mv n k (x / 8) else 0) (8 * n)
def bwd (mv : Nat → Option Nat) (b : Nat → Int64) : Nat → Nat → Int64
  | 0, s => b s
  | k + 1, s => sumN (fun l => match mv (8 * s + l) with | none => 0 | some t => bwd mv b k t) 8
theorem fwd_move {mv : Nat → Option Nat} {n : Nat} (hm : ∀ t a, t < 8 * n → mv t = some a → a < n) (F b : Nat → Int64) :
    sumN (fun t => sumN (fun x => if mv x = some t then F (x / 8) else 0) (8 * n) * b t) n = sumN (fun s => F s * sumN (fun l => match mv (8 * s + l) with | none => 0 | some t => b t) 8) n := by
  have h1 : sumN (fun t => sumN (fun x => if mv x = some t then F (x / 8) else 0) (8 * n) * b t) n = sumN (fun t => sumN (fun x => b t * (if mv x = some t then F (x / 8) else 0)) (8 * n)) n :=
    sumN_congr fun t _ => by rw [sumN_mul]; grind
  rw [h1, sumN_swap]
  rw [sumN_8]
  apply sumN_congr
  intro s hs
  rw [← sumN_mul]
  apply sumN_congr
  intro l hl
  have h2 : (8 * s + l) / 8 = s := by omega
  cases hv : mv (8 * s + l) with
  | none =>
    show sumN (fun t => b t * (if (none : Option Nat) = some t then F ((8 * s + l) / 8) else 0)) n = F s * 0
    rw [sumN_congr (g := fun _ => 0), sumN_zero]
    · grind
    · intro i _; rw [if_neg (by simp)]; grind
  | some a =>
    have ha := hm _ a (by omega) hv
    show sumN (fun t => b t * (if some a = some t then F ((8 * s + l) / 8) else 0)) n = F s * b a
    rw [h2, sumN_congr (g := fun t => if t = a then b t * F s else 0), sumN_one (fun t => b t * F s) ha]
    · grind
    · intro t _
      by_cases h : t = a
      · subst h; rw [if_pos rfl, if_pos rfl]
      · rw [if_neg (by simp only [Option.some.injEq]; omega), if_neg h]; grind
theorem fwd_bwd {mv : Nat → Option Nat} {n : Nat} (hm : ∀ t a, t < 8 * n → mv t = some a → a < n) (b : Nat → Int64) : ∀ (k j : Nat), sumN (fun s => fwd mv n k s * bwd mv b j s) n = sumN (fun s => fwd mv n 0 s * bwd mv b (k + j) s) n
  | 0, j => by rw [Nat.zero_add]
  | k + 1, j => by
    have h := fwd_bwd hm b k (j + 1)
    rw [show k + 1 + j = k + (j + 1) by omega, ← h]
    exact fwd_move hm (fwd mv n k) (bwd mv b j)
theorem fwd_words {mv : Nat → Option Nat} {n : Nat} (h0 : 0 < n) (hm : ∀ t a, t < 8 * n → mv t = some a → a < n) (b : Nat → Int64) (k : Nat) : sumN (fun s => fwd mv n k s * b s) n = bwd mv b k 0 := by
  have h := fwd_bwd hm b k 0
  rw [Nat.add_zero] at h
  have h2 : sumN (fun s => fwd mv n 0 s * bwd mv b k s) n = bwd mv b k 0 := by
    rw [sumN_congr (g := fun s => if s = 0 then bwd mv b k s else 0), sumN_one (fun s => bwd mv b k s) h0]
    intro s _
    show (if s = 0 then (1 : Int64) else 0) * _ = _
    by_cases hs : s = 0
    · rw [if_pos hs, if_pos hs]; grind
    · rw [if_neg hs, if_neg hs]; grind
  rw [← h2, ← h]
  rfl
