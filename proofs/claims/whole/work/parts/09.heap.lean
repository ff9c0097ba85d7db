/-! What the small machine does in one step, the claim's machine does: fields and rows. -/
theorem so_kind_id {L : Nat} {K : Nat → Nat × Nat} {w : MWd} (h : so_wf L K w) {p : Ptr} (hp : so_pok (wN w) K p) (hk : ¬ p.1 = 30) : 0 < p.2.2 ∧ p.2.2 < wN w ∧ K p.2.2 = (p.1, p.2.1) := by
  refine ⟨?_, hp.1, hp.2⟩
  rcases Nat.eq_zero_or_pos p.2.2 with e | e
  · have h2 := hp.2
    rw [e, h.2.1] at h2
    have h3 := congrArg Prod.fst h2
    exact absurd h3.symm hk
  · exact e
theorem so_fk_inj {ci k k' : Nat} (h : mj_fk ci k = mj_fk ci k') : k = k' := by unfold mj_fk at h; omega
theorem so_cell9 {ad : Nat → Nat} {cA : Nat → ClassId} {G : Nat → Nat → Value} {K : Nat → Nat × Nat} {w : MWd} {id : Nat} (h : (K id).1 = 9) : so_cell ad cA G K w id = .inr (9, [G id 0, G id 1, G id 2, G id 3, G id 4, G id 5, .int (wFI w (mj_fk 9 6) id)]) := by
  unfold so_cell; rw [if_pos h]
theorem so_cellO {ad : Nat → Nat} {cA : Nat → ClassId} {G : Nat → Nat → Value} {K : Nat → Nat × Nat} {w : MWd} {id : Nat} (h9 : ¬ (K id).1 = 9) (h : (K id).1 < 11) : so_cell ad cA G K w id = .inr ((K id).1, (List.range (mj_nf (K id).1)).map (so_fv ad w (K id).1 id)) := by
  unfold so_cell; rw [if_neg h9, if_pos h]
theorem so_cellI {ad : Nat → Nat} {cA : Nat → ClassId} {G : Nat → Nat → Value} {K : Nat → Nat × Nat} {w : MWd} {id : Nat} (h : (K id).1 = 20 ∨ (K id).1 = 22) : so_cell ad cA G K w id = .inl (cA id, (K id).2, .inl (wAI w id)) := by
  unfold so_cell; rw [if_neg (by omega), if_neg (by omega), if_pos h]
theorem so_cellL {ad : Nat → Nat} {cA : Nat → ClassId} {G : Nat → Nat → Value} {K : Nat → Nat × Nat} {w : MWd} {id : Nat} (h : (K id).1 = 21) : so_cell ad cA G K w id = .inl (cA id, (K id).2, .inr (.inl (wAJ w id))) := by
  unfold so_cell; rw [if_neg (by omega), if_neg (by omega), if_neg (by omega), if_pos h]
theorem so_cellR {ad : Nat → Nat} {cA : Nat → ClassId} {G : Nat → Nat → Value} {K : Nat → Nat × Nat} {w : MWd} {id : Nat} (h : 23 ≤ (K id).1) : so_cell ad cA G K w id = .inl (cA id, (K id).2, .inr (.inr (.inr (.inr (fun j => (wAR w id j).map (fun p => ad p.2.2)))))) := by
  unfold so_cell; rw [if_neg (by omega), if_neg (by omega), if_neg (by omega), if_neg (by omega)]
theorem so_cell_sFI {ad : Nat → Nat} {cA : Nat → ClassId} {G : Nat → Nat → Value} {K : Nat → Nat × Nat} {w : MWd} {k id j : Nat} {x : Int32} (h : j ≠ id) : so_cell ad cA G K (sFI w k id x) j = so_cell ad cA G K w j := by
  unfold so_cell
  have e : ∀ k', wFI (sFI w k id x) k' j = wFI w k' j := fun k' => by simp only [wrd, u2]; simp [h]
  have e2 : so_fv ad (sFI w k id x) (K j).1 j = so_fv ad w (K j).1 j := by
    funext i
    simp only [so_fv, e]
    rfl
  rw [e, e2]
  rfl
theorem so_cell_sFR {ad : Nat → Nat} {cA : Nat → ClassId} {G : Nat → Nat → Value} {K : Nat → Nat × Nat} {w : MWd} {k id j : Nat} {x : Option Ptr} (h : j ≠ id) : so_cell ad cA G K (sFR w k id x) j = so_cell ad cA G K w j := by
  unfold so_cell
  have e : ∀ k', wFR (sFR w k id x) k' j = wFR w k' j := fun k' => by simp only [wrd, u2]; simp [h]
  have e2 : so_fv ad (sFR w k id x) (K j).1 j = so_fv ad w (K j).1 j := by
    funext i
    simp only [so_fv, e]
    rfl
  rw [e2]
  rfl
theorem so_cell_sAI {ad : Nat → Nat} {cA : Nat → ClassId} {G : Nat → Nat → Value} {K : Nat → Nat × Nat} {w : MWd} {id i j : Nat} {x : Int32} (h : j ≠ id) : so_cell ad cA G K (sAI w id i x) j = so_cell ad cA G K w j := by
  unfold so_cell
  have e : wAI (sAI w id i x) j = wAI w j := by funext k'; simp only [wrd, u2]; simp [h]
  rw [e]
  rfl
theorem so_cell_sAJ {ad : Nat → Nat} {cA : Nat → ClassId} {G : Nat → Nat → Value} {K : Nat → Nat × Nat} {w : MWd} {id i j : Nat} {x : Int64} (h : j ≠ id) : so_cell ad cA G K (sAJ w id i x) j = so_cell ad cA G K w j := by
  unfold so_cell
  have e : wAJ (sAJ w id i x) j = wAJ w j := by funext k'; simp only [wrd, u2]; simp [h]
  rw [e]
  rfl
theorem so_cell_sAR {ad : Nat → Nat} {cA : Nat → ClassId} {G : Nat → Nat → Value} {K : Nat → Nat × Nat} {w : MWd} {id i j : Nat} {x : Option Ptr} (h : j ≠ id) : so_cell ad cA G K (sAR w id i x) j = so_cell ad cA G K w j := by
  unfold so_cell
  have e : ∀ k', wAR (sAR w id i x) j k' = wAR w j k' := fun k' => by simp only [wrd, u2]; simp [h]
  simp only [e]
  rfl
theorem so_list_set {f g : Nat → Value} {n k : Nat} {v : Value} (hv : g k = v) (ho : ∀ j, j ≠ k → g j = f j) : ((List.range n).map f).set k v = (List.range n).map g := by
  apply List.ext_getElem?
  intro i
  rw [List.getElem?_set, List.getElem?_map, List.getElem?_map]
  by_cases e : k = i
  · subst e
    by_cases hl : k < n
    · rw [if_pos rfl, if_pos (by simpa using hl), List.getElem?_range hl, Option.map_some, hv]
    · rw [if_pos rfl, if_neg (by simpa using hl), List.getElem?_eq_none (by simpa using hl)]
      rfl
  · rw [if_neg e]
    by_cases hl : i < n
    · rw [List.getElem?_range hl, Option.map_some, Option.map_some, ho i (fun q => e q.symm)]
    · rw [List.getElem?_eq_none (by simpa using hl)]
      rfl
theorem so_wf_sFI {L : Nat} {K : Nat → Nat × Nat} {w : MWd} {k id : Nat} {x : Int32} (h : so_wf L K w) : so_wf L K (sFI w k id x) := h
theorem so_wf_sAI {L : Nat} {K : Nat → Nat × Nat} {w : MWd} {k id : Nat} {x : Int32} (h : so_wf L K w) : so_wf L K (sAI w k id x) := h
theorem so_wf_sAJ {L : Nat} {K : Nat → Nat × Nat} {w : MWd} {k id : Nat} {x : Int64} (h : so_wf L K w) : so_wf L K (sAJ w k id x) := h
theorem so_wf_sFR {L : Nat} {K : Nat → Nat × Nat} {w : MWd} {k id : Nat} {x : Option Ptr} (h : so_wf L K w) (hx : so_ok (wN w) K (vR x)) : so_wf L K (sFR w k id x) := by
  obtain ⟨h1, h2, h3, h4, h5, h6⟩ := h
  refine ⟨h1, h2, h3, ?_, h5, h6⟩
  intro k' a p hp
  simp only [wrd, u2] at hp
  split at hp
  · subst hp
    exact hx p rfl
  · exact h4 k' a p hp
theorem so_wf_sAR {L : Nat} {K : Nat → Nat × Nat} {w : MWd} {k id : Nat} {x : Option Ptr} (h : so_wf L K w) (hx : so_ok (wN w) K (vR x)) : so_wf L K (sAR w k id x) := by
  obtain ⟨h1, h2, h3, h4, h5, h6⟩ := h
  refine ⟨h1, h2, h3, h4, ?_, h6⟩
  intro k' a p hp
  simp only [wrd, u2] at hp
  split at hp
  · subst hp
    exact hx p rfl
  · exact h5 k' a p hp
section SO
variable {p : Program} {l : Launch} {e : Env} {R : Room} {s : State} {m : MethodId} {args : Array Value} {below : List Frame} {meth : Method} {c : Code} {Q : State → Prop} {M L : Nat} {b : so_B} {xs : Nat → Int32} {A : Nat → Prop} {D : va_G} {mc ms : Nat} {wE w : MWd} {pc nx : Nat} {ls : List (Option MV)} {st : List MV}
theorem so_s_getfield (C : so_C p l s m args meth c M A b L xs) {k ci j : Nat} {q : Ptr} {r : List MV} (hf : mj_fetch M pc = some (.getfield k, nx)) (hk : mj_fld (mj_o M) k = some (ci, j)) (hq : q.1 = ci) {v : MV} (hv : v = if mj_ft ci j < 2 then vI (wFI w (mj_fk ci j) q.2.2) else vR (wFR w (mj_fk ci j) q.2.2))
    (hJ : so_J p l e R s m args below meth c M A b L xs D Q mc ms wE w nx ls (v :: r)) : so_J p l e R s m args below meth c M A b L xs D Q mc ms wE w pc ls (.inr (.inr (.inr (some q))) :: r) := by
  obtain ⟨hd, rfl⟩ := so_decn hf rfl (by decide : 0 < 3)
  intro H locs cells slots tys ad cA G K lsA hR hX hK hS hl hn hlo hst hc hs
  obtain ⟨⟨Cn, T, N⟩, hcl, hj, hlink⟩ := so_fld hk
  have hci : ci < 11 := (List.getElem?_eq_some_iff.mp hcl).1
  obtain ⟨h0, h1, hKq⟩ := so_kind_id hR.1 (hst _ List.mem_cons_self q rfl) (by omega)
  have hKc : (K q.2.2).1 = ci := by rw [hKq]; exact hq
  obtain ⟨-, -, hN, -, -⟩ := so_ty_ok ci _ hcl
  have hN : N = mj_nf ci := hN
  have hvok : so_ok (wN w) K v := by
    intro p' hp'
    rw [hv] at hp'
    split at hp'
    · cases hp'
    · refine hR.1.2.2.2.1 (mj_fk ci j) q.2.2 p' ?_
      simpa [vR, vP] using hp'
  have kk := hJ H locs cells slots tys ad cA G K lsA hR hX hK hS hl hn hlo (so_sok_cons hvok (so_sok_tail hst)) hc hs
  have hwa := so_ws_at (ad := ad) (cA := cA) (G := G) (K := K) h0 h1
  have C9 := C
  obtain ⟨hx, hb, -, -, hown, hts, -⟩ := C
  obtain ⟨fs, hcell, hfs⟩ : ∃ fs : List Value, so_cell ad cA G K w q.2.2 = .inr (ci, fs) ∧ fs[j]? = some (so_v ad v) := by
    by_cases h9 : ci = 9
    · subst h9
      have h6 := so_fld9 hk
      subst h6
      refine ⟨_, so_cell9 hKc, ?_⟩
      rw [hv, if_pos (by decide)]
      rfl
    · refine ⟨_, by rw [so_cellO (by rw [hKc]; exact h9) (by rw [hKc]; exact hci), hKc], ?_⟩
      rw [List.getElem?_map, List.getElem?_range (by rw [← hN]; exact hj), Option.map_some, so_fv, hv]
      split <;> rfl
  rw [hcell] at hwa
  rcases hlink with hlink | ⟨host, hlink⟩
  · exact va_get (own := so_cn (mj_o M)) (C := Cn) (T := T) (N := N) (ci := ci) hx hb hts (so_uw ci _ hcl) hown hK hR.2.2.2.1 (q.2.2 - 1) hwa hcl j hj (hts _ hlink) (fun _ h => h) hfs hd kk
  · exact va_getN (own := so_cn (mj_o M)) (C := Cn) (T := T) (N := N) (ci := ci) hx hb hts (so_uw ci _ hcl) hown hK hR.2.2.2.1 (q.2.2 - 1) hwa hcl j hj (va_Nw.use rfl ((C9.2.2.2.2.2.2.2.2.2.1).2.2.2.2.2.1 _ hlink)) (fun _ h => h) hfs hd kk
theorem so_typ {ci k : Nat} {q : vw_C} (h : vwCl[ci]? = some q) (hk : k < q.2.2) : ∃ ty, parseFieldDescriptor (q.2.1 k).2.2.1 = some ty ∧ (mj_ft ci k = 0 → ty = .int) ∧ (mj_ft ci k = 1 → ty = .boolean) ∧ (mj_ft ci k = 2 → (∃ Cn, ty = .object Cn) ∨ ∃ t, ty = .array t) := by
  obtain ⟨h1, -, -, h4, h5⟩ := so_ty_ok ci q h
  refine ⟨_, h1 k hk, ?_⟩
  have h4 := h4 k hk
  have h5 := h5 k hk
  generalize (so_tyL.getD ci (fun _ => FieldType.int)) k = ty at h4 h5
  cases ty <;> simp_all
/-- a field is written: whatever its new value v, w1 the store behind it -/
theorem so_s_put (C : so_C p l s m args meth c M A b L xs) {k ci j : Nat} {q : Ptr} {v : MV} {r : List MV} {w1 : MWd} (hf : mj_fetch M pc = some (.putfield k, nx)) (hk : mj_fld (mj_o M) k = some (ci, j)) (hq : q.1 = ci) (hfin : mj_fin ci j = false ∨ mj_isI M = true ∧ ci = mj_o M)
    (hv : (mj_ft ci j = 0 ∧ ∃ x, v = .inl x) ∨ (mj_ft ci j = 1 ∧ ∃ x, v = .inl x ∧ (x = 0 ∨ x = 1)) ∨ (mj_ft ci j = 2 ∧ ∃ x, v = .inr (.inr (.inr x))))
    (hw1 : (∃ x, v = .inl x ∧ w1 = sFI w (mj_fk ci j) q.2.2 x) ∨ (∃ x, v = .inr (.inr (.inr x)) ∧ w1 = sFR w (mj_fk ci j) q.2.2 x))
    (hJ : so_J p l e R s m args below meth c M A b L xs D Q mc ms wE w1 nx ls r) : so_J p l e R s m args below meth c M A b L xs D Q mc ms wE w pc ls (v :: .inr (.inr (.inr (some q))) :: r) := by
  obtain ⟨hd, rfl⟩ := so_decn hf rfl (by decide : 0 < 3)
  intro H locs cells slots tys ad cA G K lsA hR hX hK hS hl hn hlo hst hc hs
  obtain ⟨⟨Cn, T, N⟩, hcl, hj, hlink⟩ := so_fld hk
  have hci : ci < 11 := (List.getElem?_eq_some_iff.mp hcl).1
  obtain ⟨h0, h1, hKq⟩ := so_kind_id hR.1 (hst _ (List.mem_cons_of_mem _ List.mem_cons_self) q rfl) (by omega)
  have hKc : (K q.2.2).1 = ci := by rw [hKq]; exact hq
  obtain ⟨hpty, hnm, hN, -, -⟩ := so_ty_ok ci _ hcl
  have hN : N = mj_nf ci := hN
  have hwa := so_ws_at (ad := ad) (cA := cA) (G := G) (K := K) h0 h1
  have C9 := C
  obtain ⟨hx, hb, -, -, hown, hts, -, -, -, -, hin, -⟩ := C
  obtain ⟨ty, hty, ht0, ht1, ht2⟩ := so_typ hcl hj
  have hnf : narrow ty (so_v ad v) = so_v ad v ∧ fits ty (so_v ad v) = true := by
    rcases hv with ⟨h, x, rfl⟩ | ⟨h, x, rfl, hx01⟩ | ⟨h, x, rfl⟩
    · rw [ht0 h]; exact ⟨rfl, rfl⟩
    · rw [ht1 h]; rcases hx01 with rfl | rfl <;> exact ⟨rfl, rfl⟩
    · rcases ht2 h with ⟨Cn, rfl⟩ | ⟨t, rfl⟩ <;> cases x <;> exact ⟨rfl, rfl⟩
  have hft : mj_ft ci j < 2 ↔ ∃ x, v = .inl x := by
    rcases hv with ⟨h, x, rfl⟩ | ⟨h, x, rfl, -⟩ | ⟨h, x, rfl⟩
    · exact ⟨fun _ => ⟨x, rfl⟩, fun _ => by omega⟩
    · exact ⟨fun _ => ⟨x, rfl⟩, fun _ => by omega⟩
    · exact ⟨fun _ => by omega, fun ⟨y, hy⟩ => by cases hy⟩
  have hwN : wN w1 = wN w ∧ wC w1 = wC w ∧ wS w1 = wS w ∧ wAI w1 = wAI w := by
    rcases hw1 with ⟨x, -, rfl⟩ | ⟨x, -, rfl⟩ <;> simp only [wrd] <;> exact ⟨trivial, trivial, trivial, trivial⟩
  have hwf : so_wf L K w1 := by
    rcases hw1 with ⟨x, -, rfl⟩ | ⟨x, hxv, rfl⟩
    · exact so_wf_sFI hR.1
    · exact so_wf_sFR hR.1 (by have h9 := hst _ List.mem_cons_self; rw [hxv] at h9; exact h9)
  have hother : ∀ i, i ≠ q.2.2 → so_cell ad cA G K w1 i = so_cell ad cA G K w i := by
    intro i hi
    rcases hw1 with ⟨x, -, rfl⟩ | ⟨x, -, rfl⟩
    · exact so_cell_sFI hi
    · exact so_cell_sFR hi
  obtain ⟨fs, hcell, hlen, hnew⟩ : ∃ fs : List Value, so_cell ad cA G K w q.2.2 = .inr (ci, fs) ∧ j < fs.length ∧ so_cell ad cA G K w1 q.2.2 = .inr (ci, fs.set j (so_v ad v)) := by
    by_cases h9 : ci = 9
    · subst h9
      have h6 := so_fld9 hk
      subst h6
      refine ⟨_, so_cell9 hKc, by simp, ?_⟩
      rw [so_cell9 hKc]
      rcases hw1 with ⟨x, rfl, rfl⟩ | ⟨x, rfl, rfl⟩
      · have e : wFI (sFI w (mj_fk 9 6) q.2.2 x) (mj_fk 9 6) q.2.2 = x := by simp only [wrd, u2]; simp
        rw [e]
        rfl
      · obtain ⟨y, hy⟩ := hft.mp (by decide)
        cases hy
    · refine ⟨(List.range (mj_nf ci)).map (so_fv ad w ci q.2.2), by rw [so_cellO (by rw [hKc]; exact h9) (by rw [hKc]; exact hci), hKc], by rw [List.length_map, List.length_range, ← hN]; exact hj, ?_⟩
      rw [so_cellO (by rw [hKc]; exact h9) (by rw [hKc]; exact hci), hKc]
      congr 2
      refine (so_list_set ?_ ?_).symm
      · unfold so_fv
        rcases hw1 with ⟨x, rfl, rfl⟩ | ⟨x, rfl, rfl⟩
        · rw [if_pos (hft.mpr ⟨x, rfl⟩)]
          simp only [wrd, u2]
          simp [so_v]
        · rw [if_neg (fun h => by obtain ⟨y, hy⟩ := hft.mp h; cases hy)]
          simp only [wrd, u2]
          simp [so_v]
      · intro i hi
        unfold so_fv
        have hne : ¬ mj_fk ci i = mj_fk ci j := fun h => hi (so_fk_inj h)
        rcases hw1 with ⟨x, rfl, rfl⟩ | ⟨x, rfl, rfl⟩ <;> simp only [wrd, u2] <;> simp [hne]
  rw [hcell] at hwa
  have hset := so_ws_set (ad := ad) (cA := cA) (G := G) (G' := G) (K := K) h0 h1 hwN.1 hnew hother
  have kk : ∀ (H1 : Heap) (locs1 : List Loc), va_P D vwCl ((so_ws ad cA G K w).set (q.2.2 - 1) (ad q.2.2, .inr (ci, fs.set j (so_v ad v)))) H1 → va_D A ((so_ws ad cA G K w).set (q.2.2 - 1) (ad q.2.2, .inr (ci, fs.set j (so_v ad v)))) → va_S A s.heap H1 locs1 → W p l e R s m args below meth c H1 locs1 cells slots Q (F0 m (pc + 3) lsA (r.map (so_v ad))) := by
    intro H1 locs1 hP1 hD1 hS1
    rw [hset] at hP1 hD1
    exact hJ H1 locs1 cells slots tys ad cA G K lsA ⟨hwf, (by rw [hwN.1]; exact hR.2.1), (by intro id hi1 hi2; rw [hwN.1] at hi2; exact hR.2.2.1 id hi1 hi2), hP1, hD1⟩ (by rw [hwN.2.2.2]; exact hX) hK hS1 hl hn (by rw [hwN.1]; exact hlo) (by rw [hwN.1]; exact so_sok_tail (so_sok_tail hst)) (by rw [hwN.2.1]; exact hc) (by rw [hwN.2.2.1]; exact hs)
  obtain ⟨hf1, hf2, hf3⟩ := so_fin_ok hcl hj
  rcases hlink with hlink | ⟨host, hlink⟩
  · cases hfn : mj_fin ci j with
    | false => exact va_put (own := so_cn (mj_o M)) (C := Cn) (T := T) (N := N) (ci := ci) hx hb hts (so_uw ci _ hcl) _ hpty hnm hown hK hR.2.2.2.1 hR.2.2.2.2 hS (q.2.2 - 1) hwa hcl j hj (hts _ hlink) (fun _ h => h) (by rw [← hfn]; exact hf1) hty hnf.1 hnf.2 hlen hd kk
    | true =>
      rcases hfin with h | ⟨h, h'⟩
      · rw [hfn] at h; cases h
      · exact va_putF (own := so_cn (mj_o M)) (C := Cn) (T := T) (N := N) (ci := ci) hx hb hts (so_uw ci _ hcl) _ hpty hnm hown hK hR.2.2.2.1 hR.2.2.2.2 hS (q.2.2 - 1) hwa hcl j hj (hts _ hlink) (fun _ h => h) (by rw [← hfn]; exact hf1) (hin h) (by rw [← h']; exact hf2 hfn) hty hnf.1 hnf.2 hlen hd kk
  · cases hfn : mj_fin ci j with
    | false => exact va_putN (own := so_cn (mj_o M)) (C := Cn) (T := T) (N := N) (ci := ci) hx hb hts (so_uw ci _ hcl) _ hpty hnm hown hK hR.2.2.2.1 hR.2.2.2.2 hS (q.2.2 - 1) hwa hcl j hj (va_Nw.use rfl ((C9.2.2.2.2.2.2.2.2.2.1).2.2.2.2.2.1 _ hlink)) (fun _ h => h) (by rw [← hfn]; exact hf1) hty hnf.1 hnf.2 hlen hd kk
    | true =>
      rcases hfin with h | ⟨-, h'⟩
      · rw [hfn] at h; cases h
      · exact absurd h' (so_nest_ne hk hlink)
end SO
