/-! The small machine's values and stores, as the claim's machine holds them. -/
def so_v (ad : Nat → Nat) : MV → Value
  | .inl x => .int x
  | .inr (.inl x) => .long x
  | .inr (.inr (.inl x)) => .double x
  | .inr (.inr (.inr none)) => .null
  | .inr (.inr (.inr (some p))) => .ref (ad p.2.2)
def so_pok (n : Nat) (K : Nat → Nat × Nat) (p : Ptr) : Prop := p.2.2 < n ∧ K p.2.2 = (p.1, p.2.1)
def so_ok (n : Nat) (K : Nat → Nat × Nat) (v : MV) : Prop := ∀ p : Ptr, v = vP p → so_pok n K p
def so_lok (n : Nat) (K : Nat → Nat × Nat) (ls : List (Option MV)) : Prop := ∀ (i : Nat) (v : MV), mj_gl ls i = some v → so_ok n K v
def so_sok (n : Nat) (K : Nat → Nat × Nat) (st : List MV) : Prop := ∀ v ∈ st, so_ok n K v
def so_ls (ad : Nat → Nat) : Nat → List (Option MV) → List (Nat × Value)
  | _, [] => []
  | i, none :: r => so_ls ad (i + 1) r
  | i, some v :: r => (i, so_v ad v) :: so_ls ad (i + 1) r
theorem so_ls_mem {ad : Nat → Nat} : ∀ (ls : List (Option MV)) (i : Nat) (q : Nat × Value), q ∈ so_ls ad i ls ↔ ∃ (j : Nat) (v : MV), mj_gl ls j = some v ∧ q = (i + j, so_v ad v)
  | [], i, q => by simp [so_ls, mj_gl]
  | none :: r, i, q => by
    rw [so_ls, so_ls_mem r (i + 1) q]
    constructor
    · rintro ⟨j, v, h, rfl⟩
      exact ⟨j + 1, v, h, by congr 1; omega⟩
    · rintro ⟨j, v, h, rfl⟩
      cases j with
      | zero => simp [mj_gl] at h
      | succ j => exact ⟨j, v, h, by congr 1; omega⟩
  | some x :: r, i, q => by
    rw [so_ls, List.mem_cons, so_ls_mem r (i + 1) q]
    constructor
    · rintro (rfl | ⟨j, v, h, rfl⟩)
      · exact ⟨0, x, rfl, rfl⟩
      · exact ⟨j + 1, v, h, by congr 1; omega⟩
    · rintro ⟨j, v, h, rfl⟩
      cases j with
      | zero => simp only [mj_gl, Option.some.injEq] at h; subst h; exact Or.inl rfl
      | succ j => exact Or.inr ⟨j, v, h, by congr 1; omega⟩
theorem mj_gl_sl : ∀ (ls : List (Option MV)) (i : Nat) (v : Option MV) (j : Nat), mj_gl (mj_sl ls i v) j = if j = i ∧ i < ls.length then v else mj_gl ls j
  | [], i, v, j => by simp [mj_sl, mj_gl]
  | x :: r, 0, v, 0 => by simp [mj_sl, mj_gl]
  | x :: r, 0, v, j + 1 => by simp [mj_sl, mj_gl]
  | x :: r, i + 1, v, 0 => by simp [mj_sl, mj_gl]
  | x :: r, i + 1, v, j + 1 => by
    have h := mj_gl_sl r i v j
    simp only [mj_sl, mj_gl, h, List.length_cons, Nat.add_right_cancel_iff, Nat.add_lt_add_iff_right]
theorem mj_len_sl : ∀ (ls : List (Option MV)) (i : Nat) (v : Option MV), (mj_sl ls i v).length = ls.length
  | [], i, v => by simp [mj_sl]
  | x :: r, 0, v => by simp [mj_sl]
  | x :: r, i + 1, v => by simp [mj_sl, mj_len_sl r i v]
theorem so_cat (ad : Nat → Nat) (v : MV) : (so_v ad v).category = mj_cat v := by
  rcases v with x | x | x | x
  · rfl
  · rfl
  · rfl
  · cases x <;> rfl
theorem so_is2 (ad : Nat → Nat) (v : MV) : mj_is2 (some v) = ((so_v ad v).category == 2) := by
  rcases v with x | x | x | x
  · rfl
  · rfl
  · rfl
  · cases x <;> rfl
theorem so_has_mono {ls : Array Slot} {n : Nat} {l l' : List (Nat × Value)} (h : lv_has ls n l) (hs : ∀ q ∈ l', q ∈ l) : lv_has ls n l' := ⟨h.1, h.2.1, fun q hq => h.2.2 q (hs q hq)⟩
/-- a store of one word -/
theorem so_st1 {ad : Nat → Nat} {ls ls' : List (Option MV)} {i : Nat} {v : MV} (h : mj_s1 ls i v = some ls') : i < ls.length ∧ ls'.length = ls.length ∧
    ∀ q ∈ so_ls ad 0 ls', q ∈ (i, so_v ad v) :: (so_ls ad 0 ls).filter (fun q => !(q.1 == i) && !(q.1 + 1 == i && q.2.category == 2)) := by
  unfold mj_s1 at h
  split at h
  · rename_i hc
    obtain ⟨hc, hp⟩ := hc
    cases h
    refine ⟨hc, mj_len_sl _ _ _, ?_⟩
    intro q hq
    obtain ⟨j, x, hj, rfl⟩ := (so_ls_mem _ _ _).mp hq
    rw [mj_gl_sl] at hj
    split at hj
    · rename_i hji
      cases hj
      simp [hji.1]
    · rename_i hji
      have hne : j ≠ i := fun e => hji ⟨e, hc⟩
      refine List.mem_cons_of_mem _ (List.mem_filter.mpr ⟨(so_ls_mem _ _ _).mpr ⟨j, x, hj, rfl⟩, ?_⟩)
      simp only [Nat.zero_add, Bool.and_eq_true, Bool.not_eq_true', beq_eq_false_iff_ne, Bool.and_eq_false_iff]
      refine ⟨hne, ?_⟩
      by_cases e : j + 1 = i
      · subst e
        right
        simp only [mj_pv, hj, so_is2 ad, Bool.not_eq_true', beq_eq_false_iff_ne] at hp
        simpa using hp
      · left
        simpa using e
  · cases h
/-- a store of two words -/
theorem so_st2 {ad : Nat → Nat} {ls ls' : List (Option MV)} {i : Nat} {v : MV} (h : mj_s2 ls i v = some ls') : i + 1 < ls.length ∧ ls'.length = ls.length ∧
    ∀ q ∈ so_ls ad 0 ls', q ∈ (i, so_v ad v) :: (so_ls ad 0 ls).filter (fun q => !(q.1 == i) && (!(q.1 == i + 1) && !(q.1 + 1 == i && q.2.category == 2))) := by
  unfold mj_s2 at h
  split at h
  · rename_i hc
    obtain ⟨hc, hp⟩ := hc
    cases h
    refine ⟨hc, by rw [mj_len_sl, mj_len_sl], ?_⟩
    intro q hq
    obtain ⟨j, x, hj, rfl⟩ := (so_ls_mem _ _ _).mp hq
    rw [mj_gl_sl] at hj
    split at hj
    · cases hj
    · rename_i hji
      rw [mj_len_sl] at hji
      have hne1 : j ≠ i + 1 := fun e => hji ⟨e, hc⟩
      rw [mj_gl_sl] at hj
      split at hj
      · rename_i hji2
        cases hj
        simp [hji2.1]
      · rename_i hji2
        have hne : j ≠ i := fun e => hji2 ⟨e, by omega⟩
        refine List.mem_cons_of_mem _ (List.mem_filter.mpr ⟨(so_ls_mem _ _ _).mpr ⟨j, x, hj, rfl⟩, ?_⟩)
        simp only [Nat.zero_add, Bool.and_eq_true, Bool.not_eq_true', beq_eq_false_iff_ne, Bool.and_eq_false_iff]
        refine ⟨hne, hne1, ?_⟩
        by_cases e : j + 1 = i
        · subst e
          right
          simp only [mj_pv, hj, so_is2 ad, Bool.not_eq_true', beq_eq_false_iff_ne] at hp
          simpa using hp
        · left
          simpa using e
  · cases h
theorem so_lok_s1 {n : Nat} {K : Nat → Nat × Nat} {ls ls' : List (Option MV)} {i : Nat} {v : MV} (h : mj_s1 ls i v = some ls') (hl : so_lok n K ls) (hv : so_ok n K v) : so_lok n K ls' := by
  unfold mj_s1 at h
  split at h
  · cases h
    intro j x hj
    rw [mj_gl_sl] at hj
    split at hj
    · cases hj; exact hv
    · exact hl j x hj
  · cases h
theorem so_lok_s2 {n : Nat} {K : Nat → Nat × Nat} {ls ls' : List (Option MV)} {i : Nat} {v : MV} (h : mj_s2 ls i v = some ls') (hl : so_lok n K ls) (hv : so_ok n K v) : so_lok n K ls' := by
  unfold mj_s2 at h
  split at h
  · cases h
    intro j x hj
    rw [mj_gl_sl] at hj
    split at hj
    · cases hj
    · rw [mj_gl_sl] at hj
      split at hj
      · cases hj; exact hv
      · exact hl j x hj
  · cases h
theorem so_at {ad : Nat → Nat} {lsA : Array Slot} {nL k : Nat} {ls : List (Option MV)} {v : MV} (h : lv_has lsA nL (so_ls ad 0 ls)) (hk : mj_gl ls k = some v) : lsA[k]? = some (.val (so_v ad v)) := h.2.2 (k, so_v ad v) ((so_ls_mem _ _ _).mpr ⟨k, v, hk, by simp⟩)
/-- the kinds of arrays -/
def so_ty (k : Nat) : FieldType := if k = 20 then .int else if k = 21 then .long else if k = 22 then .boolean else if k = 23 then .object RX1 else if k = 24 then .object RX5 else .array .int
def so_fv (ad : Nat → Nat) (w : MWd) (ci id j : Nat) : Value := if mj_ft ci j < 2 then .int (wFI w (mj_fk ci j) id) else so_v ad (vR (wFR w (mj_fk ci j) id))
def so_cell (ad : Nat → Nat) (cA : Nat → ClassId) (G : Nat → Nat → Value) (K : Nat → Nat × Nat) (w : MWd) (id : Nat) : va_E :=
  if (K id).1 = 9 then .inr (9, [G id 0, G id 1, G id 2, G id 3, G id 4, G id 5, .int (wFI w (mj_fk 9 6) id)])
  else if (K id).1 < 11 then .inr ((K id).1, (List.range (mj_nf (K id).1)).map (so_fv ad w (K id).1 id))
  else if (K id).1 = 20 ∨ (K id).1 = 22 then .inl (cA id, (K id).2, .inl (wAI w id))
  else if (K id).1 = 21 then .inl (cA id, (K id).2, .inr (.inl (wAJ w id)))
  else .inl (cA id, (K id).2, .inr (.inr (.inr (.inr (fun j => (wAR w id j).map (fun p => ad p.2.2))))))
def so_ws (ad : Nat → Nat) (cA : Nat → ClassId) (G : Nat → Nat → Value) (K : Nat → Nat × Nat) (w : MWd) : va_W := (List.range (wN w - 1)).map (fun i => (ad (i + 1), so_cell ad cA G K w (i + 1)))
/-- what holds of a store by itself: kinds, and every pointer that it holds is one of a cell that is there -/
def so_wf (L : Nat) (K : Nat → Nat × Nat) (w : MWd) : Prop :=
  1 ≤ wN w ∧ K 0 = (30, L) ∧ (∀ id, 0 < id → id < wN w → (K id).1 < 11 ∨ 20 ≤ (K id).1 ∧ (K id).1 ≤ 25) ∧
  (∀ k a p, wFR w k a = some p → so_pok (wN w) K p) ∧ (∀ a j p, wAR w a j = some p → so_pok (wN w) K p) ∧
  (∀ id, 0 < id → id < wN w → 20 ≤ (K id).1 → (K id).2 ≤ 65536)
def so_tys (tys : List (ClassId × FieldType)) (cA : Nat → ClassId) (K : Nat → Nat × Nat) (w : MWd) : Prop := ∀ id, 0 < id → id < wN w → 20 ≤ (K id).1 → ∃ t0 : Nat, tys[t0]? = some (cA id, so_ty (K id).1)
/-- where a frame began: the script's place, how many cells there were, where they lie, what they are -/
abbrev so_B : Type := Nat × Nat × (Nat → Nat) × (Nat → Nat × Nat)
def so_lo (b : so_B) (ad : Nat → Nat) (K : Nat → Nat × Nat) (n : Nat) : Prop := ad 0 = b.1 ∧ b.2.1 ≤ n ∧ ∀ i, i < b.2.1 → ad i = b.2.2.1 i ∧ K i = b.2.2.2 i
theorem so_lo.ext {b : so_B} {ad ad' : Nat → Nat} {K K' : Nat → Nat × Nat} {n n' : Nat} (h : so_lo b ad K n) (h1 : 1 ≤ n) (hn : n ≤ n') (had : ∀ i, i < n → ad' i = ad i) (hK : ∀ i, i < n → K' i = K i) : so_lo b ad' K' n' := by
  obtain ⟨h2, h3, h4⟩ := h
  refine ⟨by rw [had 0 h1]; exact h2, Nat.le_trans h3 hn, fun i hi => ?_⟩
  have hi2 : i < n := Nat.lt_of_lt_of_le hi h3
  rw [had i hi2, hK i hi2]
  exact h4 i hi
def so_Rep (D : va_G) (A : Nat → Prop) (L : Nat) (b : so_B) (tys : List (ClassId × FieldType)) (ad : Nat → Nat) (cA : Nat → ClassId) (G : Nat → Nat → Value) (K : Nat → Nat × Nat) (w : MWd) (H : Heap) : Prop :=
  so_wf L K w ∧ so_lo b ad K (wN w) ∧ so_tys tys cA K w ∧ va_P D vwCl (so_ws ad cA G K w) H ∧ va_D A (so_ws ad cA G K w)
theorem so_ws_at {ad : Nat → Nat} {cA : Nat → ClassId} {G : Nat → Nat → Value} {K : Nat → Nat × Nat} {w : MWd} {id : Nat} (h0 : 0 < id) (h1 : id < wN w) : (so_ws ad cA G K w)[id - 1]? = some (ad id, so_cell ad cA G K w id) := by
  unfold so_ws
  rw [List.getElem?_map, List.getElem?_range (by omega)]
  simp only [Option.map_some]
  rw [show id - 1 + 1 = id by omega]
theorem so_ws_inv {ad : Nat → Nat} {cA : Nat → ClassId} {G : Nat → Nat → Value} {K : Nat → Nat × Nat} {w : MWd} {k : Nat} {q : Nat × va_E} (h : (so_ws ad cA G K w)[k]? = some q) : k + 1 < wN w ∧ q = (ad (k + 1), so_cell ad cA G K w (k + 1)) := by
  unfold so_ws at h
  rw [List.getElem?_map] at h
  cases hr : (List.range (wN w - 1))[k]? with
  | none => rw [hr] at h; simp at h
  | some x =>
    obtain ⟨hlt, hx⟩ := List.getElem?_eq_some_iff.mp hr
    simp only [List.length_range] at hlt
    simp only [List.getElem_range] at hx
    subst hx
    rw [hr] at h
    simp only [Option.map_some, Option.some.injEq] at h
    exact ⟨by omega, h.symm⟩
theorem so_ws_len {ad : Nat → Nat} {cA : Nat → ClassId} {G : Nat → Nat → Value} {K : Nat → Nat × Nat} {w : MWd} : (so_ws ad cA G K w).length = wN w - 1 := by simp [so_ws]
/-- one cell changes -/
theorem so_ws_set {ad : Nat → Nat} {cA : Nat → ClassId} {G G' : Nat → Nat → Value} {K : Nat → Nat × Nat} {w w' : MWd} {id : Nat} {e : va_E} (h0 : 0 < id) (h1 : id < wN w) (hn : wN w' = wN w) (he : so_cell ad cA G' K w' id = e) (ho : ∀ j, j ≠ id → so_cell ad cA G' K w' j = so_cell ad cA G K w j) :
    (so_ws ad cA G K w).set (id - 1) (ad id, e) = so_ws ad cA G' K w' := by
  apply List.ext_getElem?
  intro k
  rw [List.getElem?_set]
  by_cases e1 : id - 1 = k
  · subst e1
    rw [if_pos rfl, if_pos (by rw [so_ws_len]; omega), so_ws_at h0 (by rw [hn]; exact h1), he]
  · rw [if_neg e1]
    by_cases e2 : k + 1 < wN w
    · have a1 := so_ws_at (ad := ad) (cA := cA) (G := G) (K := K) (w := w) (id := k + 1) (by omega) e2
      have a2 := so_ws_at (ad := ad) (cA := cA) (G := G') (K := K) (w := w') (id := k + 1) (by omega) (by omega)
      simp only [Nat.add_sub_cancel] at a1 a2
      rw [a1, a2, ho (k + 1) (by omega)]
    · rw [List.getElem?_eq_none (by rw [so_ws_len]; omega), List.getElem?_eq_none (by rw [so_ws_len]; omega)]
/-- one cell more -/
theorem so_ws_push {ad ad' : Nat → Nat} {cA cA' : Nat → ClassId} {G G' : Nat → Nat → Value} {K K' : Nat → Nat × Nat} {w w' : MWd} {q : Nat} {e : va_E} (hw : 1 ≤ wN w) (hn : wN w' = wN w + 1) (hq : ad' (wN w) = q) (he : so_cell ad' cA' G' K' w' (wN w) = e) (had : ∀ j, j < wN w → ad' j = ad j) (ho : ∀ j, 0 < j → j < wN w → so_cell ad' cA' G' K' w' j = so_cell ad cA G K w j) :
    so_ws ad cA G K w ++ [(q, e)] = so_ws ad' cA' G' K' w' := by
  apply List.ext_getElem?
  intro k
  by_cases e1 : k + 1 < wN w
  · rw [List.getElem?_append_left (by rw [so_ws_len]; omega)]
    have a1 := so_ws_at (ad := ad) (cA := cA) (G := G) (K := K) (w := w) (id := k + 1) (by omega) e1
    have a2 := so_ws_at (ad := ad') (cA := cA') (G := G') (K := K') (w := w') (id := k + 1) (by omega) (by omega)
    simp only [Nat.add_sub_cancel] at a1 a2
    rw [a1, a2, ho (k + 1) (by omega) e1, had (k + 1) e1]
  · rw [List.getElem?_append_right (by rw [so_ws_len]; omega), so_ws_len]
    by_cases e2 : k = wN w - 1
    · subst e2
      have a2 := so_ws_at (ad := ad') (cA := cA') (G := G') (K := K') (w := w') (id := wN w) (by omega) (by omega)
      rw [a2, hq, he]
      simp
    · rw [List.getElem?_eq_none (by simp; omega), List.getElem?_eq_none (by rw [so_ws_len]; omega)]
