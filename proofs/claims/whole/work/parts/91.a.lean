/-! addRule: how a pattern is read, once for both. -/
abbrev PSt : Type := Nat × Nat × (Nat → Int32) × (Nat → Int32) × Int32 × Int32 × Bool
abbrev PRes : Type := Nat ⊕ PSt
abbrev PRd : Type := Nat → Nat → (Nat → Int32) → (Nat → Int32) → PRes
def lkF (fo : Nat → Int32) (l f : Int32) : Nat → Int32 := fun p => if p < 30 ∧ bt l p = true then fo p ||| f else fo p
abbrev isL (c : Nat) : Prop := 97 ≤ c ∧ c < 105
abbrev atB (c : Nat) : Prop := isL c ∨ c = 46 ∨ c = 91 ∨ c = 40
def bit1 (k : Nat) : Int32 := Int32.ofNat 1 <<< (Int32.ofNat k &&& Int32.ofNat 31)
def spM (a b : Nat) : Nat → Int32
  | 0 => Int32.ofNat 0
  | n + 1 => spM a b n ||| (if a ≤ n ∧ n ≤ b then bit1 n else Int32.ofNat 0)
def sp1 (S : Nat → Nat) (i : Nat) : Nat ⊕ (Nat × Int32) :=
  if isL (S i) then (if S (i + 1) = 45 then (if isL (S (i + 2)) then .inr (i + 3, spM (S i - 97) (S (i + 2) - 97) 8) else .inl (i + 2)) else .inr (i + 1, bit1 (S i - 97))) else .inl i
def spR (S : Nat → Nat) : Nat → Nat → Int32 → Nat ⊕ (Nat × Int32)
  | 0, i, _ => .inl i
  | f + 1, i, m => match sp1 S i with
    | .inl e => .inl e
    | .inr (i', m') => if isL (S i') then spR S f i' (m ||| m') else if S i' = 93 then .inr (i' + 1, m ||| m') else .inl i'
def addP (np : Nat) (fo lt : Nat → Int32) (m : Int32) (i : Nat) : PRes := .inr (i, np + 1, fo, fun p => if p = np then m else lt p, bit1 np, bit1 np, false)
def grpP (S : Nat → Nat) : PRes → PRes
  | .inl e => .inl e
  | .inr (i, x) => if S i = 41 then .inr (i + 1, x) else .inl i
def spaP (np : Nat) (fo lt : Nat → Int32) : Nat ⊕ (Nat × Int32) → PRes
  | .inl e => .inl e
  | .inr (i, m) => addP np fo lt m i
def atomP (S : Nat → Nat) (sub : Option PRd) : PRd := fun i np fo lt =>
  if S i = 40 then (match sub with
    | none => .inl i
    | some R => grpP S (R (i + 1) np fo lt))
  else if (isL (S i) ∨ S i = 46 ∨ S i = 91) ∧ np < 30 then
    if S i = 91 then spaP np fo lt (spR S 40 (i + 1) (Int32.ofNat 0))
    else addP np fo lt (if S i = 46 then Int32.ofNat 255 else bit1 (S i - 97)) (i + 1)
  else .inl i
def opP (S : Nat → Nat) : PRes → PRes
  | .inl e => .inl e
  | .inr (i, np, fo, lt, f, l, e) =>
    if S i = 42 then .inr (i + 1, np, lkF fo l f, lt, f, l, true)
    else if S i = 43 then .inr (i + 1, np, lkF fo l f, lt, f, l, e)
    else if S i = 63 then .inr (i + 1, np, fo, lt, f, l, true)
    else .inr (i, np, fo, lt, f, l, e)
def itemP (S : Nat → Nat) (A : PRd) : PRd := fun i np fo lt => opP S (A i np fo lt)
def jnR (f l : Int32) (e : Bool) : PSt → PSt
  | (i, np, fo, lt, f', l', e') => (i, np, lkF fo l f', lt, if e = true then f ||| f' else f, if e' = true then l ||| l' else l', e && e')
def rowL (S : Nat → Nat) (I : PRd) : Nat → PSt → PRes
  | 0, x => .inr x
  | k + 1, (i, np, fo, lt, f, l, e) => if atB (S i) then (match I i np fo lt with
      | .inl e => .inl e
      | .inr y => rowL S I k (jnR f l e y)) else .inr (i, np, fo, lt, f, l, e)
def rowP (S : Nat → Nat) (I : PRd) : PRd := fun i np fo lt => match I i np fo lt with
  | .inl e => .inl e
  | .inr x => rowL S I 40 x
def jnE (f l : Int32) (e : Bool) : PSt → PSt
  | (i, np, fo, lt, f', l', e') => (i, np, fo, lt, f ||| f', l ||| l', e || e')
def eitL (S : Nat → Nat) (R : PRd) : Nat → PSt → PRes
  | 0, x => .inr x
  | k + 1, (i, np, fo, lt, f, l, e) => if S i = 124 then (match R (i + 1) np fo lt with
      | .inl e => .inl e
      | .inr y => eitL S R k (jnE f l e y)) else .inr (i, np, fo, lt, f, l, e)
def eitP (S : Nat → Nat) (R : PRd) : PRd := fun i np fo lt => match R i np fo lt with
  | .inl e => .inl e
  | .inr x => eitL S R 40 x
def eitG (S : Nat → Nat) : Nat → PRd
  | 0 => eitP S (rowP S (itemP S (atomP S none)))
  | g + 1 => eitP S (rowP S (itemP S (atomP S (some (eitG S g)))))
/-- what is read keeps to its own places -/
def pIn (lo hi : Nat) (x : Int32) : Prop := ∀ q, bt x q = true → lo ≤ q ∧ q < hi
def pOk (i np : Nat) (fo lt : Nat → Int32) : PSt → Prop
  | (i', np', fo', lt', f, l, _) => i < i' ∧ i' ≤ 40 ∧ np ≤ np' ∧ np' ≤ 30 ∧ (∀ p, p < np → fo' p = fo p ∧ lt' p = lt p) ∧ (∀ p, np ≤ p → p < np' → pIn np np' (fo' p) ∧ ∀ q, 8 ≤ q → bt (lt' p) q = false) ∧ (∀ p, np' ≤ p → fo' p = Int32.ofNat 0) ∧ pIn np np' f ∧ pIn np np' l
def pRO (i np : Nat) (fo lt : Nat → Int32) : PRes → Prop
  | .inl e => e ≤ 40
  | .inr x => pOk i np fo lt x
def pRdOk (R : PRd) : Prop := ∀ i np fo lt, i ≤ 40 → np ≤ 30 → (∀ p, np ≤ p → fo p = Int32.ofNat 0) → pRO i np fo lt (R i np fo lt)
def sgOk (S : Nat → Nat) : Prop := ∀ i, S i ≤ 256 ∧ (40 ≤ i → S i = 256)
theorem pIn_or {lo hi : Nat} {x y : Int32} (h : pIn lo hi x) (h' : pIn lo hi y) : pIn lo hi (x ||| y) := fun q hq => by
  rw [bt_or, Bool.or_eq_true] at hq
  exact hq.elim (h q) (h' q)
theorem pIn_w {lo hi lo' hi' : Nat} {x : Int32} (h : pIn lo hi x) (h1 : lo' ≤ lo) (h2 : hi ≤ hi') : pIn lo' hi' x := fun q hq => by
  have := h q hq; omega
theorem pIn_0 {lo hi : Nat} : pIn lo hi (Int32.ofNat 0) := fun q hq => by rw [bt_0] at hq; cases hq
theorem bit1_bt {k : Nat} (h : k < 32) (q : Nat) : bt (bit1 k) q = decide (k = q) := bt_bit h
theorem or_0 (x : Int32) : x ||| Int32.ofNat 0 = x := bt_ext fun p _ => by rw [bt_or, bt_0, Bool.or_false]
theorem z_or (x : Int32) : Int32.ofNat 0 ||| x = x := bt_ext fun p _ => by rw [bt_or, bt_0, Bool.false_or]
theorem or_as (x y z : Int32) : x ||| y ||| z = x ||| (y ||| z) := bt_ext fun p _ => by simp only [bt_or, Bool.or_assoc]
section PA
variable {S : Nat → Nat}
theorem spM_hi {a b : Nat} : ∀ {n q : Nat}, n ≤ 8 → 8 ≤ q → bt (spM a b n) q = false
  | 0, q, _, _ => bt_0 q
  | n + 1, q, h, hq => by
    unfold spM
    rw [bt_or, spM_hi (by omega) hq, Bool.false_or]
    by_cases h1 : a ≤ n ∧ n ≤ b
    · rw [if_pos h1, bit1_bt (by omega), decide_eq_false (by omega)]
    · rw [if_neg h1, bt_0]
theorem sp1_ok (hS : sgOk S) {i : Nat} (hi : i ≤ 40) : (∀ e, sp1 S i = .inl e → e ≤ 40) ∧ ∀ i' m, sp1 S i = .inr (i', m) → i < i' ∧ i' ≤ 40 ∧ ∀ q, 8 ≤ q → bt m q = false := by
  have h0 := hS i
  have h1 := hS (i + 1)
  have h2 := hS (i + 2)
  unfold sp1
  by_cases c0 : isL (S i)
  · rw [if_pos c0]
    by_cases c1 : S (i + 1) = 45
    · rw [if_pos c1]
      by_cases c2 : isL (S (i + 2))
      · rw [if_pos c2]
        refine ⟨fun e h => (by cases h), fun i' m h => ?_⟩
        cases h
        exact ⟨by omega, by omega, fun q hq => spM_hi (by omega) hq⟩
      · rw [if_neg c2]
        exact ⟨fun e h => (by cases h; omega), fun i' m h => by cases h⟩
    · rw [if_neg c1]
      refine ⟨fun e h => (by cases h), fun i' m h => ?_⟩
      cases h
      refine ⟨by omega, by omega, fun q hq => ?_⟩
      rw [bit1_bt (by omega), decide_eq_false (by omega)]
  · rw [if_neg c0]
    exact ⟨fun e h => (by cases h; omega), fun i' m h => by cases h⟩
theorem spR_ok (hS : sgOk S) : ∀ {f i : Nat} {m : Int32}, i ≤ 40 → (∀ q, 8 ≤ q → bt m q = false) → (∀ e, spR S f i m = .inl e → e ≤ 40) ∧ ∀ i' m', spR S f i m = .inr (i', m') → i < i' ∧ i' ≤ 40 ∧ ∀ q, 8 ≤ q → bt m' q = false
  | 0, i, m, hi, hm => ⟨fun e h => (by cases h; omega), fun i' m' h => by cases h⟩
  | f + 1, i, m, hi, hm => by
    have h1 := sp1_ok hS hi
    unfold spR
    cases hs : sp1 S i with
    | inl e => exact ⟨fun e' h => (by cases h; exact h1.1 e hs), fun i' m' h => by cases h⟩
    | inr y =>
      obtain ⟨i1, m1⟩ := y
      obtain ⟨a1, a2, a3⟩ := h1.2 i1 m1 hs
      have hm1 : ∀ q, 8 ≤ q → bt (m ||| m1) q = false := fun q hq => by rw [bt_or, hm q hq, a3 q hq]; rfl
      dsimp only
      by_cases c : isL (S i1)
      · rw [if_pos c]
        have ih := spR_ok hS (f := f) (i := i1) a2 hm1
        exact ⟨ih.1, fun i' m' h => by have := ih.2 i' m' h; exact ⟨by omega, this.2⟩⟩
      · rw [if_neg c]
        by_cases c' : S i1 = 93
        · rw [if_pos c']
          have := hS i1
          exact ⟨fun e h => (by cases h), fun i' m' h => by cases h; exact ⟨by omega, by omega, hm1⟩⟩
        · rw [if_neg c']
          exact ⟨fun e h => (by cases h; omega), fun i' m' h => by cases h⟩
theorem addP_ok {i np : Nat} {fo lt : Nat → Int32} {m : Int32} {i' : Nat} (h1 : i < i') (h2 : i' ≤ 40) (hn : np < 30) (hf : ∀ p, np ≤ p → fo p = Int32.ofNat 0) (hm : ∀ q, 8 ≤ q → bt m q = false) : pRO i np fo lt (addP np fo lt m i') := by
  have hb : pIn np (np + 1) (bit1 np) := fun q hq => by
    rw [bit1_bt (by omega), decide_eq_true_eq] at hq; omega
  refine ⟨h1, h2, by omega, by omega, fun p hp => ⟨rfl, if_neg (by omega)⟩, fun p hp hp' => ⟨?_, ?_⟩, fun p hp => hf p (by omega), hb, hb⟩
  · rw [hf p hp]; exact pIn_0
  · show ∀ q, 8 ≤ q → bt (if p = np then m else lt p) q = false
    rw [if_pos (show p = np by omega)]; exact hm
theorem atomP_ok (hS : sgOk S) {sub : Option PRd} (hsub : ∀ R, sub = some R → pRdOk R) : pRdOk (atomP S sub) := by
  intro i np fo lt hi hn hf
  have h0 := hS i
  unfold atomP
  by_cases c0 : S i = 40
  · rw [if_pos c0]
    cases sub with
    | none => exact hi
    | some R =>
      dsimp only
      have h := hsub R rfl (i + 1) np fo lt (by omega) hn hf
      cases hR : R (i + 1) np fo lt with
      | inl e => rw [hR] at h; exact h
      | inr y =>
        rw [hR] at h
        obtain ⟨i', np', fo', lt', f, l, e⟩ := y
        obtain ⟨a1, a2, a3⟩ := h
        have := hS i'
        unfold grpP
        dsimp only
        by_cases c : S i' = 41
        · rw [if_pos c]; exact ⟨by omega, by omega, a3⟩
        · rw [if_neg c]; exact a2
  · rw [if_neg c0]
    by_cases c1 : (isL (S i) ∨ S i = 46 ∨ S i = 91) ∧ np < 30
    · rw [if_pos c1]
      by_cases c2 : S i = 91
      · rw [if_pos c2]
        have h := spR_ok hS (f := 40) (i := i + 1) (m := Int32.ofNat 0) (by omega) (fun q _ => bt_0 q)
        cases hR : spR S 40 (i + 1) (Int32.ofNat 0) with
        | inl e => exact h.1 e hR
        | inr y =>
          obtain ⟨i', m⟩ := y
          obtain ⟨a1, a2, a3⟩ := h.2 i' m hR
          exact addP_ok (by omega) a2 c1.2 hf a3
      · rw [if_neg c2]
        refine addP_ok (by omega) (by omega) c1.2 hf (fun q hq => ?_)
        by_cases c3 : S i = 46
        · rw [if_pos c3]
          by_cases hq' : q < 32
          · have : ∀ q, q < 32 → 8 ≤ q → bt (Int32.ofNat 255) q = false := by decide
            exact this q hq' hq
          · exact bt_big (by omega)
        · rw [if_neg c3, bit1_bt (by omega), decide_eq_false (by omega)]
    · rw [if_neg c1]; exact hi
theorem lkF_in {fo : Nat → Int32} {lo hi p : Nat} {l f : Int32} (h : pIn lo hi (fo p)) (hf : pIn lo hi f) : pIn lo hi (lkF fo l f p) := by
  unfold lkF
  by_cases c : p < 30 ∧ bt l p = true
  · rw [if_pos c]; exact pIn_or h hf
  · rw [if_neg c]; exact h
theorem lkF_out {fo : Nat → Int32} {lo hi p : Nat} {l f : Int32} (hl : pIn lo hi l) (h : p < lo ∨ hi ≤ p) : lkF fo l f p = fo p := by
  unfold lkF
  rw [if_neg]
  intro c
  have := hl p c.2; omega
theorem itemP_ok (hS : sgOk S) {A : PRd} (hA : pRdOk A) : pRdOk (itemP S A) := by
  intro i np fo lt hi hn hf
  have h := hA i np fo lt hi hn hf
  unfold itemP
  cases hR : A i np fo lt with
  | inl e => rw [hR] at h; exact h
  | inr y =>
    rw [hR] at h
    obtain ⟨i', np', fo', lt', f, l, e⟩ := y
    obtain ⟨a1, a2, a3, a4, a5, a6, a7, a8, a9⟩ := h
    have := hS i'
    have lk : ∀ e', i' < 40 → pRO i np fo lt (.inr (i' + 1, np', lkF fo' l f, lt', f, l, e')) := fun e' h40 => ⟨by omega, by omega, a3, a4, fun p hp => ⟨by rw [lkF_out a9 (by omega)]; exact (a5 p hp).1, (a5 p hp).2⟩, fun p h1 h2 => ⟨lkF_in (a6 p h1 h2).1 a8, (a6 p h1 h2).2⟩, fun p hp => by rw [lkF_out a9 (by omega)]; exact a7 p hp, a8, a9⟩
    unfold opP
    dsimp only
    by_cases c1 : S i' = 42
    · rw [if_pos c1]; exact lk _ (by omega)
    · rw [if_neg c1]
      by_cases c2 : S i' = 43
      · rw [if_pos c2]; exact lk _ (by omega)
      · rw [if_neg c2]
        by_cases c3 : S i' = 63
        · rw [if_pos c3]; exact ⟨by omega, by omega, a3, a4, a5, a6, a7, a8, a9⟩
        · rw [if_neg c3]; exact ⟨a1, a2, a3, a4, a5, a6, a7, a8, a9⟩
/-- two pieces, one behind the other -/
theorem pOk_two {i np : Nat} {fo lt : Nat → Int32} {i1 np1 : Nat} {fo1 lt1 : Nat → Int32} {f l : Int32} {e : Bool} (h : pOk i np fo lt (i1, np1, fo1, lt1, f, l, e)) {i2 np2 : Nat} {fo2 lt2 : Nat → Int32} {f2 l2 : Int32} {e2 : Bool} {j : Nat} (hj : i1 ≤ j) (h' : pOk j np1 fo1 lt1 (i2, np2, fo2, lt2, f2, l2, e2)) : pOk i np fo lt (i2, np2, fo2, lt2, f, l2, e2) := by
  obtain ⟨a1, a2, a3, a4, a5, a6, a7, a8, a9⟩ := h
  obtain ⟨b1, b2, b3, b4, b5, b6, b7, b8, b9⟩ := h'
  refine ⟨by omega, b2, by omega, b4, fun p hp => ⟨(b5 p (by omega)).1.trans (a5 p hp).1, (b5 p (by omega)).2.trans (a5 p hp).2⟩, fun p h1 h2 => ?_, b7, pIn_w a8 (by omega) b3, pIn_w b9 a3 (by omega)⟩
  by_cases c : p < np1
  · rw [(b5 p c).1, (b5 p c).2]; exact ⟨pIn_w (a6 p h1 c).1 (by omega) b3, (a6 p h1 c).2⟩
  · exact ⟨pIn_w (b6 p (by omega) h2).1 a3 (by omega), (b6 p (by omega) h2).2⟩
theorem rowL_ok (hS : sgOk S) {I : PRd} (hI : pRdOk I) {i np : Nat} {fo lt : Nat → Int32} : ∀ {k : Nat} {x : PSt}, pOk i np fo lt x → pRO i np fo lt (rowL S I k x)
  | 0, x, h => h
  | k + 1, (i1, np1, fo1, lt1, f, l, e), h => by
    unfold rowL
    by_cases c : atB (S i1)
    · rw [if_pos c]
      have h' := hI i1 np1 fo1 lt1 h.2.1 h.2.2.2.1 h.2.2.2.2.2.2.1
      cases hR : I i1 np1 fo1 lt1 with
      | inl e => rw [hR] at h'; exact h'
      | inr y =>
        rw [hR] at h'
        refine rowL_ok hS hI ?_
        obtain ⟨i2, np2, fo2, lt2, f2, l2, e2⟩ := y
        have t := pOk_two (e2 := e2) h (Nat.le_refl _) h'
        have hl : pIn np np2 l := pIn_w h.2.2.2.2.2.2.2.2 (Nat.le_refl _) h'.2.2.1
        have hf2 : pIn np np2 f2 := pIn_w h'.2.2.2.2.2.2.2.1 h.2.2.1 (Nat.le_refl _)
        obtain ⟨b1, b2, b3, b4, b5, b6, b7, b8, b9⟩ := t
        refine ⟨b1, b2, b3, b4, fun p hp => ⟨by rw [lkF_out hl (by omega)]; exact (b5 p hp).1, (b5 p hp).2⟩, fun p h1 h2 => ⟨lkF_in (b6 p h1 h2).1 hf2, (b6 p h1 h2).2⟩, fun p hp => by rw [lkF_out hl (by omega)]; exact b7 p hp, ?_, ?_⟩
        · by_cases c : e = true
          · rw [if_pos c]; exact pIn_or b8 hf2
          · rw [if_neg c]; exact b8
        · by_cases c : e2 = true
          · rw [if_pos c]; exact pIn_or hl b9
          · rw [if_neg c]; exact b9
    · rw [if_neg c]; exact h
theorem rowP_ok (hS : sgOk S) {I : PRd} (hI : pRdOk I) : pRdOk (rowP S I) := by
  intro i np fo lt hi hn hf
  have h := hI i np fo lt hi hn hf
  unfold rowP
  cases hR : I i np fo lt with
  | inl e => rw [hR] at h; exact h
  | inr y => rw [hR] at h; exact rowL_ok hS hI h
theorem eitL_ok (hS : sgOk S) {R : PRd} (hI : pRdOk R) {i np : Nat} {fo lt : Nat → Int32} : ∀ {k : Nat} {x : PSt}, pOk i np fo lt x → pRO i np fo lt (eitL S R k x)
  | 0, x, h => h
  | k + 1, (i1, np1, fo1, lt1, f, l, e), h => by
    unfold eitL
    by_cases c : S i1 = 124
    · rw [if_pos c]
      have := hS i1
      have h' := hI (i1 + 1) np1 fo1 lt1 (by omega) h.2.2.2.1 h.2.2.2.2.2.2.1
      cases hR : R (i1 + 1) np1 fo1 lt1 with
      | inl e => rw [hR] at h'; exact h'
      | inr y =>
        rw [hR] at h'
        refine eitL_ok hS hI ?_
        obtain ⟨i2, np2, fo2, lt2, f2, l2, e2⟩ := y
        have t := pOk_two (e2 := e2) h (Nat.le_succ _) h'
        have hl : pIn np np2 l := pIn_w h.2.2.2.2.2.2.2.2 (Nat.le_refl _) h'.2.2.1
        have hf2 : pIn np np2 f2 := pIn_w h'.2.2.2.2.2.2.2.1 h.2.2.1 (Nat.le_refl _)
        obtain ⟨b1, b2, b3, b4, b5, b6, b7, b8, b9⟩ := t
        exact ⟨b1, b2, b3, b4, b5, b6, b7, pIn_or b8 hf2, pIn_or hl b9⟩
    · rw [if_neg c]; exact h
theorem eitP_ok (hS : sgOk S) {R : PRd} (hR' : pRdOk R) : pRdOk (eitP S R) := by
  intro i np fo lt hi hn hf
  have h := hR' i np fo lt hi hn hf
  unfold eitP
  cases hR : R i np fo lt with
  | inl e => rw [hR] at h; exact h
  | inr y => rw [hR] at h; exact eitL_ok hS hR' h
theorem eitG_ok (hS : sgOk S) : ∀ g, pRdOk (eitG S g)
  | 0 => eitP_ok hS (rowP_ok hS (itemP_ok hS (atomP_ok hS (fun R h => by cases h))))
  | g + 1 => eitP_ok hS (rowP_ok hS (itemP_ok hS (atomP_ok hS (fun R h => by cases h; exact eitG_ok hS g))))
end PA
