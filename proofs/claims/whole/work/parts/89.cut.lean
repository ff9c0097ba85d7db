/-! scan: where a token is cut, as pure sets of places. -/
section CUT
variable (u : Nat → Nat) (L tp : Nat) (fi la aF aL us : Nat → Prop) (fo : Nat → Nat → Prop) (lt : Nat → Nat → Prop) (canE : Prop)
def tR : Nat → Nat → Prop
  | 0, p => fi p ∧ lt (u 0) p
  | i + 1, p => (∃ q, tR i q ∧ fo q p) ∧ lt (u (i + 1)) p
def flR (s : Nat) : Nat → Nat → Prop
  | 0, p => aF p ∧ lt (u s) p
  | j + 1, p => (∃ q, flR s j q ∧ fo q p) ∧ lt (u (s + j + 1)) p
def cutR (n : Nat) : Prop := (∃ p, tR u fi fo lt (n - 1) p ∧ la p) ∧ (n = L → canE) ∧ (n < L → ∃ p, flR u aF fo lt n (L - 1 - n) p ∧ aL p)
def fcC (p q : Nat) : Prop := fo p q ∨ (la p ∧ aF q)
def plC (l p : Nat) : Prop := lt l p ∧ us p
def laC (p : Nat) : Prop := aL p ∨ (canE ∧ la p)
def cM : Nat → Nat → Prop
  | 0, p => fi p ∧ plC us lt (u 0) p
  | i + 1, p => ((∃ q, cM i q ∧ fcC la aF fo q p) ∧ p < tp) ∧ plC us lt (u (i + 1)) p
def bC : Nat → Nat → Prop
  | 0, p => (laC la aL canE p ∧ tp ≤ p) ∧ plC us lt (u (L - 1)) p
  | e + 1, p => (tp ≤ p ∧ ∃ q, fcC la aF fo p q ∧ bC e q) ∧ plC us lt (u (L - 2 - e)) p
def cutC (n : Nat) : Prop := (∃ p, cM u tp fi la aF us fo lt (n - 1) p ∧ la p) ∧ (n = L → canE) ∧ (n < L → ∃ p, bC u L tp la aF aL us fo lt canE (L - 1 - n) p ∧ aF p)
def hM : Nat → Nat → Prop
  | 0, p => fi p ∧ plC us lt (u 0) p
  | i + 1, p => (∃ q, hM i q ∧ fcC la aF fo q p) ∧ plC us lt (u (i + 1)) p
end CUT
section CUT
variable {u : Nat → Nat} {L tp : Nat} {fi la aF aL us : Nat → Prop} {fo : Nat → Nat → Prop} {lt : Nat → Nat → Prop} {canE : Prop}
/-- how a rule's places lie, and that all useful ones are found -/
def cutOk (tp : Nat) (fi la aF aL us : Nat → Prop) (fo : Nat → Nat → Prop) (lt : Nat → Nat → Prop) (canE : Prop) : Prop :=
  (∀ p, fi p → p < tp) ∧ (∀ p, la p → p < tp) ∧ (∀ p, aF p → tp ≤ p) ∧ (∀ p, aL p → tp ≤ p) ∧ (∀ p q, fo p q → (p < tp → q < tp) ∧ (tp ≤ p → tp ≤ q)) ∧
  (∀ p l, lt l p → (laC la aL canE p ∨ ∃ q, fcC la aF fo p q ∧ us q) → us p)
/-- a rest that what must follow matches, from the back -/
def bR (u : Nat → Nat) (L : Nat) (aL : Nat → Prop) (fo : Nat → Nat → Prop) (lt : Nat → Nat → Prop) : Nat → Nat → Prop
  | 0, p => aL p ∧ lt (u (L - 1)) p
  | e + 1, p => (∃ q, fo p q ∧ bR u L aL fo lt e q) ∧ lt (u (L - 2 - e)) p
theorem bR_tp (h : cutOk tp fi la aF aL us fo lt canE) : ∀ e p, bR u L aL fo lt e p → tp ≤ p
  | 0, p, q => h.2.2.2.1 p q.1
  | e + 1, p, ⟨⟨q, h1, h2⟩, _⟩ => by
    have h3 := bR_tp h e q h2
    apply Nat.le_of_not_lt
    intro hc
    have := (h.2.2.2.2.1 p q h1).1 hc
    omega
theorem bR_us (h : cutOk tp fi la aF aL us fo lt canE) : ∀ e p, bR u L aL fo lt e p → us p
  | 0, p, q => h.2.2.2.2.2 p _ q.2 (Or.inl (Or.inl q.1))
  | e + 1, p, ⟨⟨q, h1, h2⟩, h3⟩ => h.2.2.2.2.2 p _ h3 (Or.inr ⟨q, Or.inl h1, bR_us h e q h2⟩)
theorem bC_iff (h : cutOk tp fi la aF aL us fo lt canE) : ∀ e p, bC u L tp la aF aL us fo lt canE e p ↔ bR u L aL fo lt e p
  | 0, p => by
    constructor
    · rintro ⟨⟨h1 | ⟨-, h1⟩, h2⟩, h3, -⟩
      · exact ⟨h1, h3⟩
      · have := h.2.1 p h1; omega
    · intro q
      exact ⟨⟨Or.inl q.1, h.2.2.2.1 p q.1⟩, q.2, bR_us h 0 p q⟩
  | e + 1, p => by
    constructor
    · rintro ⟨⟨h1, q, h2 | ⟨h2, -⟩, h3⟩, h4, -⟩
      · exact ⟨⟨q, h2, (bC_iff h e q).mp h3⟩, h4⟩
      · have := h.2.1 p h2; omega
    · intro hb
      have h1 := bR_tp h (e + 1) p hb
      have h2 := bR_us h (e + 1) p hb
      obtain ⟨⟨q, h3, h4⟩, h5⟩ := hb
      exact ⟨⟨h1, q, Or.inl h3, (bC_iff h e q).mpr h4⟩, h5, h2⟩
/-- from the front and from the back -/
theorem fl_bR {s : Nat} : ∀ (j e : Nat), s + j + e + 1 = L → ((∃ p, flR u aF fo lt s j p ∧ bR u L aL fo lt e p) ↔ ∃ p, aF p ∧ bR u L aL fo lt (j + e) p)
  | 0, e, he => by
    rw [Nat.zero_add]
    constructor
    · rintro ⟨p, h1, h2⟩; exact ⟨p, h1.1, h2⟩
    · rintro ⟨p, h1, h2⟩
      refine ⟨p, ⟨h1, ?_⟩, h2⟩
      cases e with
      | zero => have := h2.2; rw [show L - 1 = s by omega] at this; exact this
      | succ e => have := h2.2; rw [show L - 2 - e = s by omega] at this; exact this
  | j + 1, e, he => by
    have ih := fl_bR (s := s) j (e + 1) (by omega)
    rw [show j + 1 + e = j + (e + 1) by omega, ← ih]
    constructor
    · rintro ⟨p, ⟨⟨q, h1, h2⟩, h3⟩, h4⟩
      refine ⟨q, h1, ⟨p, h2, h4⟩, ?_⟩
      have h5 : lt (u (s + j)) q := by
        cases j with
        | zero => exact h1.2
        | succ j => exact h1.2
      rw [show L - 2 - e = s + j by omega]; exact h5
    · rintro ⟨q, h1, ⟨p, h2, h4⟩, h3⟩
      refine ⟨p, ⟨⟨q, h1, h2⟩, ?_⟩, h4⟩
      cases e with
      | zero => have := h4.2; rw [show L - 1 = s + j + 1 by omega] at this; exact this
      | succ e => have := h4.2; rw [show L - 2 - e = s + j + 1 by omega] at this; exact this
theorem tR_tp (h : cutOk tp fi la aF aL us fo lt canE) : ∀ i p, tR u fi fo lt i p → p < tp
  | 0, p, q => h.1 p q.1
  | i + 1, p, ⟨⟨q, h1, h2⟩, _⟩ => (h.2.2.2.2.1 q p h2).1 (tR_tp h i q h1)
theorem tR_lt : ∀ i p, tR u fi fo lt i p → lt (u i) p
  | 0, _, q => q.2
  | _ + 1, _, q => q.2
theorem cM_iff (h : cutOk tp fi la aF aL us fo lt canE) : ∀ i p, cM u tp fi la aF us fo lt i p ↔ tR u fi fo lt i p ∧ us p
  | 0, p => by
    constructor
    · rintro ⟨h1, h2, h3⟩; exact ⟨⟨h1, h2⟩, h3⟩
    · rintro ⟨⟨h1, h2⟩, h3⟩; exact ⟨h1, h2, h3⟩
  | i + 1, p => by
    constructor
    · rintro ⟨⟨⟨q, h1, h2⟩, h3⟩, h4, h5⟩
      have h6 := (cM_iff h i q).mp h1
      rcases h2 with h2 | ⟨-, h2⟩
      · exact ⟨⟨⟨q, h6.1, h2⟩, h4⟩, h5⟩
      · have := h.2.2.1 p h2; omega
    · rintro ⟨⟨⟨q, h1, h2⟩, h3⟩, h4⟩
      have h5 : us q := h.2.2.2.2.2 q _ (tR_lt i q h1) (Or.inr ⟨p, Or.inl h2, h4⟩)
      exact ⟨⟨⟨q, (cM_iff h i q).mpr ⟨h1, h5⟩, Or.inl h2⟩, (h.2.2.2.2.1 q p h2).1 (tR_tp h i q h1)⟩, h3, h4⟩
theorem cut_iff (h : cutOk tp fi la aF aL us fo lt canE) {n : Nat} (h1 : 1 ≤ n) (hn : n ≤ L) : cutC u L tp fi la aF aL us fo lt canE n ↔ cutR u L fi la aF aL fo lt canE n := by
  unfold cutC cutR
  have hb : n < L → ((∃ p, bC u L tp la aF aL us fo lt canE (L - 1 - n) p ∧ aF p) ↔ ∃ p, flR u aF fo lt n (L - 1 - n) p ∧ aL p) := by
    intro hlt
    have e1 := fl_bR (u := u) (L := L) (aF := aF) (aL := aL) (fo := fo) (lt := lt) (s := n) (L - 1 - n) 0 (by omega)
    constructor
    · rintro ⟨p, h2, h3⟩
      obtain ⟨p', h4, h5⟩ := e1.mpr ⟨p, h3, (bC_iff h _ p).mp h2⟩
      exact ⟨p', h4, h5.1⟩
    · rintro ⟨p, h2, h3⟩
      have h6 : lt (u (L - 1)) p := by
        have h7 : ∀ j, flR u aF fo lt n j p → lt (u (n + j)) p := fun j hj => by
          cases j with
          | zero => exact hj.2
          | succ j => exact hj.2
        have := h7 _ h2
        rw [show n + (L - 1 - n) = L - 1 by omega] at this; exact this
      obtain ⟨p', h4, h5⟩ := e1.mp ⟨p, h2, h3, h6⟩
      exact ⟨p', (bC_iff h _ p').mpr h5, h4⟩
  constructor
  · rintro ⟨⟨p, h2, h3⟩, h4, h5⟩
    exact ⟨⟨p, ((cM_iff h _ p).mp h2).1, h3⟩, h4, fun hlt => (hb hlt).mp (h5 hlt)⟩
  · rintro ⟨⟨p, h2, h3⟩, h4, h5⟩
    refine ⟨⟨p, (cM_iff h _ p).mpr ⟨h2, ?_⟩, h3⟩, h4, fun hlt => (hb hlt).mpr (h5 hlt)⟩
    have h6 := tR_lt _ p h2
    by_cases hlt : n < L
    · obtain ⟨p', h7, h8⟩ := (hb hlt).mpr (h5 hlt)
      exact h.2.2.2.2.2 p _ h6 (Or.inr ⟨p', Or.inr ⟨h3, h8⟩, bR_us h _ p' ((bC_iff h _ p').mp h7)⟩)
    · exact h.2.2.2.2.2 p _ h6 (Or.inl (Or.inr ⟨h4 (by omega), h3⟩))
/-- a word that is met falls into a token and what must follow -/
theorem hM_cut (h : cutOk tp fi la aF aL us fo lt canE) : ∀ i p, hM u fi la aF us fo lt i p → (p < tp ∧ tR u fi fo lt i p) ∨ (tp ≤ p ∧ ∃ n, 1 ≤ n ∧ n ≤ i ∧ (∃ t, tR u fi fo lt (n - 1) t ∧ la t) ∧ flR u aF fo lt n (i - n) p)
  | 0, p, ⟨h1, h2, _⟩ => Or.inl ⟨h.1 p h1, h1, h2⟩
  | i + 1, p, ⟨⟨q, h1, h2⟩, h3, _⟩ => by
    rcases hM_cut h i q h1 with ⟨a1, a2⟩ | ⟨a1, n, a2, a3, a4, a5⟩
    · rcases h2 with h2 | ⟨h2, h4⟩
      · exact Or.inl ⟨(h.2.2.2.2.1 q p h2).1 a1, ⟨q, a2, h2⟩, h3⟩
      · refine Or.inr ⟨h.2.2.1 p h4, i + 1, by omega, Nat.le_refl _, ⟨q, a2, h2⟩, ?_⟩
        rw [Nat.sub_self]; exact ⟨h4, h3⟩
    · rcases h2 with h2 | ⟨h2, -⟩
      · refine Or.inr ⟨(h.2.2.2.2.1 q p h2).2 a1, n, a2, by omega, a4, ?_⟩
        rw [show i + 1 - n = (i - n) + 1 by omega]
        refine ⟨⟨q, a5, h2⟩, ?_⟩
        rw [show n + (i - n) + 1 = i + 1 by omega]; exact h3
      · have := h.2.1 q h2; omega
theorem cut_ex (h : cutOk tp fi la aF aL us fo lt canE) (hL : 1 ≤ L) {p : Nat} (h1 : hM u fi la aF us fo lt (L - 1) p) (h2 : laC la aL canE p) : ∃ n, 1 ≤ n ∧ n ≤ L ∧ cutR u L fi la aF aL fo lt canE n := by
  rcases hM_cut h (L - 1) p h1 with ⟨a1, a2⟩ | ⟨a1, n, a2, a3, a4, a5⟩
  · rcases h2 with h2 | ⟨h2, h3⟩
    · have := h.2.2.2.1 p h2; omega
    · exact ⟨L, hL, Nat.le_refl L, ⟨p, a2, h3⟩, fun _ => h2, fun q => by omega⟩
  · rcases h2 with h2 | ⟨-, h3⟩
    · exact ⟨n, a2, by omega, a4, fun q => by omega, fun _ => ⟨p, a5, h2⟩⟩
    · have := h.2.1 p h3; omega
end CUT
