/-! new int[n][k] -/
section SO
variable {p : Program} {l : Launch} {e : Env} {R : Room} {s : State} {m : MethodId} {args : Array Value} {below : List Frame} {meth : Method} {c : Code} {Q : State → Prop} {M L : Nat} {b : so_B} {xs : Nat → Int32} {A : Nat → Prop} {D : va_G} {mc ms : Nat} {wE w : MWd} {pc nx : Nat} {ls : List (Option MV)} {st : List MV}
set_option maxHeartbeats 1000000 in
theorem so_s_mna (C : so_C p l s m args meth c M A b L xs) {n k : Int32} {r : List MV} (hf : mj_fetch M pc = some (.multianewarray 60 2, nx)) (ho : mj_o M = 10) (hn0 : ¬ n < 0) (hn1 : n.toNatClampNeg ≤ 1024) (hk0 : ¬ k < 0) (hk1 : k.toNatClampNeg ≤ 65536) (hm : wC (nwM w n.toNatClampNeg k.toNatClampNeg) ≤ wC wE ∧ wS (nwM w n.toNatClampNeg k.toNatClampNeg) ≤ wS wE) (hRm : so_Rm R mc ms)
    (hJ : so_J p l e R s m args below meth c M A b L xs D Q mc ms wE (nwM w n.toNatClampNeg k.toNatClampNeg) nx ls (vP (25, n.toNatClampNeg, wN w) :: r)) : so_J p l e R s m args below meth c M A b L xs D Q mc ms wE w pc ls (.inl k :: .inl n :: r) := by
  obtain ⟨hd, rfl⟩ := so_decn hf rfl (by decide : 0 < 4)
  intro H locs cells slots tys ad cA G K lsA hR hX hK hS hl hn hlo hst hc hs
  obtain ⟨hx, hb, -, -, hown, hts, -, -, hA, hSt, -⟩ := C
  have hw10 : so_cn (mj_o M) = RX10 := by rw [ho]; rfl
  rw [hw10] at hown
  have hac : (Cond.arrayClass .int).before args s = true := hts _ (so_x (List.mem_of_getElem? (i := 1) rfl))
  obtain ⟨cy, ky, compy, hy1, hy2, hy3⟩ := Cond.arrayClass_spec hac
  have hK2 : va_K D vwCl (tys ++ [(cy, .int)]) s := ⟨hK.1, fun i q hq => by
    by_cases hi : i < tys.length
    · rw [List.getElem?_append_left hi] at hq
      exact hK.2 i q hq
    · rw [List.getElem?_append_right (by omega)] at hq
      have h0 : i - tys.length = 0 := by have := (List.getElem?_eq_some_iff.mp hq).1; simp at this; omega
      rw [h0] at hq
      cases hq
      exact ⟨fun N z => ⟨(fun q hq => by cases hq), ky, hy2, compy, hy3⟩, hy1⟩⟩
  generalize hN : n.toNatClampNeg = N at hn1 hm hJ
  generalize hKk : k.toNatClampNeg = kk at hk1 hm hJ
  have hmC : wC w + 1 + N ≤ wC wE := hm.1
  have hmS : wS w + N + N * kk ≤ wS wE := hm.2
  have hP0 : va_P D vwCl (so_ws ad cA G K w ++ va_pl [] (fun _ => .inr (0, []))) H := by
    show va_P D vwCl (so_ws ad cA G K w ++ []) H
    rw [List.append_nil]; exact hR.2.2.2.1
  have hD0 : va_D A (so_ws ad cA G K w ++ va_pl [] (fun _ => .inr (0, []))) := by
    show va_D A (so_ws ad cA G K w ++ [])
    rw [List.append_nil]; exact hR.2.2.2.2
  obtain ⟨r1, r2, r3, r4⟩ := hRm
  refine va_mna (own := RX10) (ty := .int) (cy := cy) (z := (kk, .inl (fun _ => 0))) hx hb hown (hts _ (so_x (List.mem_of_getElem? (i := 0) rfl))) hSt.2.2.2.2.2.2.2.2.1 hac hy1 hK2 hP0 hD0 hS hA hn0 hk0 hN hKk (by omega) (by show _ * 4 ≤ _; omega) (by omega) rfl rfl (by omega) (by omega) (fun c' => by
      show ({ cls := c', slots := Array.replicate kk (Value.int 0), vm := .none } : Cell) = _
      rw [arrV_new]
      rfl) hd ?_
  intro q rr cA1 H1 hinj _ hK3 hP1 hD1 hS1
  have hN1 : wN (nwM w N kk) = wN w + 1 + N := rfl
  have h1 := hR.1.1
  -- the new maps
  obtain ⟨ad', had'⟩ : ∃ z : Nat → Nat, z = fun i => if i = wN w then q else if wN w < i ∧ i < wN w + 1 + N then rr (i - wN w - 1) else ad i := ⟨_, rfl⟩
  obtain ⟨cA', hcA'⟩ : ∃ z : Nat → ClassId, z = fun i => if i = wN w then cA1 else if wN w < i ∧ i < wN w + 1 + N then cy else cA i := ⟨_, rfl⟩
  obtain ⟨K', hK'⟩ : ∃ z : Nat → Nat × Nat, z = fun i => if i = wN w then (25, N) else if wN w < i ∧ i < wN w + 1 + N then (20, kk) else K i := ⟨_, rfl⟩
  have e_ad : ∀ i, i < wN w → ad' i = ad i := fun i hi => by rw [had']; show (if _ then _ else if _ then _ else _) = _; rw [if_neg (by omega), if_neg (by omega)]
  have e_cA : ∀ i, i < wN w → cA' i = cA i := fun i hi => by rw [hcA']; show (if _ then _ else if _ then _ else _) = _; rw [if_neg (by omega), if_neg (by omega)]
  have e_K : ∀ i, i < wN w → K' i = K i := fun i hi => by rw [hK']; show (if _ then _ else if _ then _ else _) = _; rw [if_neg (by omega), if_neg (by omega)]
  have o_ad : ad' (wN w) = q := by rw [had']; exact if_pos rfl
  have o_cA : cA' (wN w) = cA1 := by rw [hcA']; exact if_pos rfl
  have o_K : K' (wN w) = (25, N) := by rw [hK']; exact if_pos rfl
  have n_ad : ∀ i, i < N → ad' (wN w + 1 + i) = rr i := fun i hi => by
    rw [had']; show (if _ then _ else if _ then _ else _) = _; rw [if_neg (by omega), if_pos (by omega)]; congr 1; omega
  have n_cA : ∀ i, i < N → cA' (wN w + 1 + i) = cy := fun i hi => by
    rw [hcA']; show (if _ then _ else if _ then _ else _) = _; rw [if_neg (by omega), if_pos (by omega)]
  have n_K : ∀ i, i < N → K' (wN w + 1 + i) = (20, kk) := fun i hi => by
    rw [hK']; show (if _ then _ else if _ then _ else _) = _; rw [if_neg (by omega), if_pos (by omega)]
  have mAR : ∀ a j, wAR (nwM w N kk) a j = if a = wN w then (if j < N then some (20, kk, wN w + 1 + j) else none) else wAR w a j := fun _ _ => rfl
  have mAI : ∀ a j, wAI (nwM w N kk) a j = if wN w ≤ a ∧ a < wN w + 1 + N then 0 else wAI w a j := fun _ _ => rfl
  have hwf : so_wf L K' (nwM w N kk) := by
    refine ⟨by rw [hN1]; omega, by rw [e_K 0 (by omega)]; exact hR.1.2.1, ?_, ?_, ?_, ?_⟩
    · intro id hi0 hi1
      rw [hN1] at hi1
      by_cases e9 : id < wN w
      · rw [e_K id e9]; exact hR.1.2.2.1 id hi0 e9
      · by_cases e8 : id = wN w
        · subst e8; rw [o_K]; exact Or.inr ⟨by show 20 ≤ 25; omega, by show 25 ≤ 25; omega⟩
        · obtain ⟨i, rfl⟩ : ∃ i, id = wN w + 1 + i := ⟨id - wN w - 1, by omega⟩
          rw [n_K i (by omega)]; exact Or.inr ⟨by show 20 ≤ 20; omega, by show 20 ≤ 25; omega⟩
    · intro k a p hp
      exact so_pok_ext (by rw [hN1]; omega) e_K (hR.1.2.2.2.1 k a p hp)
    · intro a j p hp
      rw [mAR] at hp
      split at hp
      · split at hp
        · rename_i hj
          cases hp
          exact ⟨by show wN w + 1 + j < _; rw [hN1]; omega, n_K j hj⟩
        · cases hp
      · exact so_pok_ext (by rw [hN1]; omega) e_K (hR.1.2.2.2.2.1 a j p hp)
    · intro id hi0 hi1 hi2
      rw [hN1] at hi1
      by_cases e9 : id < wN w
      · rw [e_K id e9] at hi2 ⊢; exact hR.1.2.2.2.2.2 id hi0 e9 hi2
      · by_cases e8 : id = wN w
        · subst e8; rw [o_K]; show N ≤ 65536; omega
        · obtain ⟨i, rfl⟩ : ∃ i, id = wN w + 1 + i := ⟨id - wN w - 1, by omega⟩
          rw [n_K i (by omega)]; exact hk1
  have hold : ∀ j, 0 < j → j < wN w → so_cell ad' cA' G K' (nwM w N kk) j = so_cell ad cA G K w j := fun j hj0 hj => so_cell_ext hR.1 (e_K j hj) (e_cA j hj) rfl e_ad (fun _ => rfl) (fun _ => rfl) (by funext i; rw [mAI, if_neg (by omega)]) rfl (by funext i; rw [mAR, if_neg (by omega)])
  have happ := so_ws_app (ad := ad) (ad' := ad') (cA := cA) (cA' := cA') (G := G) (G' := G) (K := K) (K' := K') (w := w) (w' := nwM w N kk) ((q, .inl (cA1, N, .inr (.inr (.inr (.inr (fun i => if i < N then some (rr i) else none)))))) :: (List.range N).map (fun i => (rr i, .inl (cy, (kk, .inl (fun _ => 0)))))) h1 (by rw [hN1]; simp; omega) (fun i hi => by
    cases i with
    | zero =>
      rw [Nat.add_zero, o_ad, so_cellR (by rw [o_K]; show 23 ≤ 25; omega), o_cA, o_K]
      simp only [List.getElem?_cons_zero]
      congr 9
      funext j
      rw [mAR, if_pos rfl]
      split
      · rename_i hj; rw [Option.map_some, n_ad j hj]
      · rfl
    | succ i =>
      have hi2 : i < N := by simp at hi; omega
      rw [List.getElem?_cons_succ, List.getElem?_map, List.getElem?_range hi2, Option.map_some, show wN w + (i + 1) = wN w + 1 + i by omega, n_ad i hi2, so_cellI (by rw [n_K i hi2]; exact Or.inl rfl), n_cA i hi2, n_K i hi2]
      congr 6
      funext j
      rw [mAI, if_pos (by omega)]) e_ad hold
  have hval : (List.range N).map rr = (List.range N).map rr := rfl
  have hext : (so_ws ad cA G K w ++ [(q, .inl (cA1, N, .inr (.inr (.inr (.inr (fun i => if i < N then some (rr i) else none))))))]) ++ va_pl ([] ++ (List.range N).map rr) (vr_up (fun _ => .inr (0, [])) ((List.range N).map rr) (.inl (cy, (kk, .inl (fun _ => 0))))) = so_ws ad' cA' G K' (nwM w N kk) := by
    rw [← happ, List.append_assoc]
    congr 1
    show _ :: va_pl _ _ = _
    congr 1
    unfold va_pl
    rw [List.nil_append, List.map_map]
    apply List.map_congr_left
    intro i hi
    show (rr i, vr_up _ _ _ (rr i)) = _
    rw [vr_up_in (List.mem_map.mpr ⟨i, hi, rfl⟩)]
  rw [hext] at hP1 hD1
  have hrep : so_Rep D A L b ((tys ++ [(cy, .int)]) ++ [(cA1, .array .int)]) ad' cA' G K' (nwM w N kk) H1 := by
    refine ⟨hwf, hR.2.1.ext hR.1.1 (by rw [hN1]; omega) e_ad e_K, ?_, hP1, hD1⟩
    intro id hi0 hi1 hi2
    rw [hN1] at hi1
    by_cases e9 : id < wN w
    · rw [e_K id e9] at hi2 ⊢
      obtain ⟨t0, ht0⟩ := hR.2.2.1 id hi0 e9 hi2
      refine ⟨t0, ?_⟩
      rw [e_cA id e9, List.append_assoc, List.getElem?_append_left (List.getElem?_eq_some_iff.mp ht0).1]
      exact ht0
    · by_cases e8 : id = wN w
      · subst e8
        rw [o_K, o_cA]
        exact ⟨(tys ++ [(cy, FieldType.int)]).length, by rw [List.getElem?_append_right (Nat.le_refl _), Nat.sub_self]; rfl⟩
      · obtain ⟨i, rfl⟩ : ∃ i, id = wN w + 1 + i := ⟨id - wN w - 1, by omega⟩
        rw [n_K i (by omega), n_cA i (by omega)]
        exact ⟨tys.length, by rw [List.append_assoc, List.getElem?_append_right (Nat.le_refl _), Nat.sub_self]; rfl⟩
  have hsr := so_sok_tail (so_sok_tail hst)
  have fin := hJ H1 locs (cells + 1 + N) (slots + N + N * kk) _ ad' cA' G K' lsA hrep (by funext i; rw [mAI, if_neg (by omega), hX]) hK3 hS1 (by rw [so_ls_ext e_ad hlo]; exact hl) hn (so_lok_ext (by rw [hN1]; omega) e_K hlo) (so_sok_cons (by
    intro p' hp'
    cases hp'
    exact ⟨by show wN w < _; rw [hN1]; omega, o_K⟩) (so_sok_ext (by rw [hN1]; omega) e_K hsr)) (by show _ = mc + (wC w + 1 + N); omega) (by show _ = ms + (wS w + N + N * kk); omega)
  rw [List.map_cons, so_map_ext e_ad hsr] at fin
  rw [show so_v ad' (vP (25, N, wN w)) = .ref q from congrArg Value.ref o_ad] at fin
  exact fin
end SO
