/-! What the small machine does in one step, the claim's machine does: new things, copies, the library's own. -/
theorem so_v_ext {n : Nat} {K : Nat → Nat × Nat} {ad ad' : Nat → Nat} (had : ∀ i, i < n → ad' i = ad i) {v : MV} (h : so_ok n K v) : so_v ad' v = so_v ad v := by
  rcases v with x | x | x | x
  · rfl
  · rfl
  · rfl
  · cases x with
    | none => rfl
    | some p => show Value.ref _ = Value.ref _; rw [had _ (h p rfl).1]
theorem so_ls_ext {n : Nat} {K : Nat → Nat × Nat} {ad ad' : Nat → Nat} (had : ∀ i, i < n → ad' i = ad i) : ∀ {ls : List (Option MV)} {i : Nat}, so_lok n K ls → so_ls ad' i ls = so_ls ad i ls
  | [], _, _ => rfl
  | none :: r, i, h => by
    show so_ls ad' (i + 1) r = so_ls ad (i + 1) r
    exact so_ls_ext had (fun j v hj => h (j + 1) v hj)
  | some x :: r, i, h => by
    show (i, so_v ad' x) :: so_ls ad' (i + 1) r = (i, so_v ad x) :: so_ls ad (i + 1) r
    rw [so_v_ext had (h 0 x rfl), so_ls_ext had (fun j v hj => h (j + 1) v hj)]
theorem so_map_ext {n : Nat} {K : Nat → Nat × Nat} {ad ad' : Nat → Nat} (had : ∀ i, i < n → ad' i = ad i) {st : List MV} (h : so_sok n K st) : st.map (so_v ad') = st.map (so_v ad) := List.map_congr_left (fun v hv => so_v_ext had (h v hv))
theorem so_pok_ext {n n' : Nat} {K K' : Nat → Nat × Nat} (hn : n ≤ n') (hK : ∀ i, i < n → K' i = K i) {p : Ptr} (h : so_pok n K p) : so_pok n' K' p := ⟨Nat.lt_of_lt_of_le h.1 hn, by rw [hK _ h.1]; exact h.2⟩
theorem so_ok_ext {n n' : Nat} {K K' : Nat → Nat × Nat} (hn : n ≤ n') (hK : ∀ i, i < n → K' i = K i) {v : MV} (h : so_ok n K v) : so_ok n' K' v := fun p hp => so_pok_ext hn hK (h p hp)
theorem so_lok_ext {n n' : Nat} {K K' : Nat → Nat × Nat} (hn : n ≤ n') (hK : ∀ i, i < n → K' i = K i) {ls : List (Option MV)} (h : so_lok n K ls) : so_lok n' K' ls := fun i v hi => so_ok_ext hn hK (h i v hi)
theorem so_sok_ext {n n' : Nat} {K K' : Nat → Nat × Nat} (hn : n ≤ n') (hK : ∀ i, i < n → K' i = K i) {st : List MV} (h : so_sok n K st) : so_sok n' K' st := fun v hv => so_ok_ext hn hK (h v hv)
theorem so_cell_ext {L : Nat} {ad ad' : Nat → Nat} {cA cA' : Nat → ClassId} {G G' : Nat → Nat → Value} {K K' : Nat → Nat × Nat} {w w' : MWd} (hwf : so_wf L K w) {j : Nat} (hK : K' j = K j) (hcA : cA' j = cA j) (hG : G' j = G j) (had : ∀ i, i < wN w → ad' i = ad i) (hFI : ∀ k, wFI w' k j = wFI w k j) (hFR : ∀ k, wFR w' k j = wFR w k j) (hAI : wAI w' j = wAI w j) (hAJ : wAJ w' j = wAJ w j) (hAR : wAR w' j = wAR w j) :
    so_cell ad' cA' G' K' w' j = so_cell ad cA G K w j := by
  have e1 : so_fv ad' w' (K j).1 j = so_fv ad w (K j).1 j := by
    funext i
    unfold so_fv
    rw [hFI, hFR]
    split
    · rfl
    · exact so_v_ext (K := K) had (so_ok_int (fun p hp => hwf.2.2.2.1 _ _ p hp))
  have e2 : (fun i => (wAR w j i).map (fun p => ad' p.2.2)) = (fun i => (wAR w j i).map (fun p => ad p.2.2)) := by
    funext i
    cases hp : wAR w j i with
    | none => rfl
    | some p => simp only [Option.map_some]; rw [had _ (hwf.2.2.2.2.1 _ _ p hp).1]
  unfold so_cell
  rw [hK, hcA, hG, hFI, hAI, hAJ, hAR, e1, e2]
theorem so_ws_app {ad ad' : Nat → Nat} {cA cA' : Nat → ClassId} {G G' : Nat → Nat → Value} {K K' : Nat → Nat × Nat} {w w' : MWd} (ext : va_W) (hw : 1 ≤ wN w) (hn : wN w' = wN w + ext.length) (he : ∀ i, i < ext.length → ext[i]? = some (ad' (wN w + i), so_cell ad' cA' G' K' w' (wN w + i))) (had : ∀ j, j < wN w → ad' j = ad j) (ho : ∀ j, 0 < j → j < wN w → so_cell ad' cA' G' K' w' j = so_cell ad cA G K w j) :
    so_ws ad cA G K w ++ ext = so_ws ad' cA' G' K' w' := by
  apply List.ext_getElem?
  intro k
  by_cases e1 : k + 1 < wN w
  · rw [List.getElem?_append_left (by rw [so_ws_len]; omega)]
    have a1 := so_ws_at (ad := ad) (cA := cA) (G := G) (K := K) (w := w) (id := k + 1) (by omega) e1
    have a2 := so_ws_at (ad := ad') (cA := cA') (G := G') (K := K') (w := w') (id := k + 1) (by omega) (by omega)
    simp only [Nat.add_sub_cancel] at a1 a2
    rw [a1, a2, ho (k + 1) (by omega) e1, had (k + 1) e1]
  · rw [List.getElem?_append_right (by rw [so_ws_len]; omega), so_ws_len]
    by_cases e2 : k - (wN w - 1) < ext.length
    · rw [he _ e2]
      have a2 := so_ws_at (ad := ad') (cA := cA') (G := G') (K := K') (w := w') (id := wN w + (k - (wN w - 1))) (by omega) (by omega)
      rw [show wN w + (k - (wN w - 1)) - 1 = k by omega] at a2
      rw [a2]
    · rw [List.getElem?_eq_none (by omega), List.getElem?_eq_none (by rw [so_ws_len]; omega)]
def so_Rm (R : Room) (mc ms : Nat) : Prop := mc ≤ R.cells ∧ ms ≤ R.slots ∧ 8 ≤ R.frames ∧ 150 ≤ R.locals
theorem so_va_up {α : Type} {f : Nat → α} {k j : Nat} {v : α} (h : j < k) : va_up f k v j = f j := va_up_ne f v (by omega)
section SO
variable {p : Program} {l : Launch} {e : Env} {R : Room} {s : State} {m : MethodId} {args : Array Value} {below : List Frame} {meth : Method} {c : Code} {Q : State → Prop} {M L : Nat} {b : so_B} {xs : Nat → Int32} {A : Nat → Prop} {D : va_G} {mc ms : Nat} {wE w : MWd} {pc nx : Nat} {ls : List (Option MV)} {st : List MV}
/-- one cell more: the store with it -/
theorem so_rep_more {w1 : MWd} {H H1 : Heap} {tys tys1 : List (ClassId × FieldType)} {ad : Nat → Nat} {cA : Nat → ClassId} {G : Nat → Nat → Value} {K : Nat → Nat × Nat} {q : Nat} {cq : ClassId} {gq : Nat → Value} {kq : Nat × Nat}
    (hR : so_Rep D A L b tys ad cA G K w H)
    (hw1 : wN w1 = wN w + 1) (hk : kq.1 < 11 ∨ 20 ≤ kq.1 ∧ kq.1 ≤ 25) (hk2 : 20 ≤ kq.1 → kq.2 ≤ 65536)
    (hFI : ∀ k j, j < wN w → wFI w1 k j = wFI w k j) (hFR : ∀ k j, wFR w1 k j = wFR w k j ∨ wFR w1 k j = none) (hFR2 : ∀ k j, j < wN w → wFR w1 k j = wFR w k j) (hAI : ∀ j, j < wN w → wAI w1 j = wAI w j) (hAJ : ∀ j, j < wN w → wAJ w1 j = wAJ w j) (hAR : ∀ j i, wAR w1 j i = wAR w j i ∨ wAR w1 j i = none) (hAR2 : ∀ j, j < wN w → wAR w1 j = wAR w j)
    (htys : ∀ (k : Nat) (x : ClassId × FieldType), tys[k]? = some x → tys1[k]? = some x) (htq : 20 ≤ kq.1 → ∃ t0 : Nat, tys1[t0]? = some (cq, so_ty kq.1))
    {e1 : va_E} (hcell : so_cell (va_up ad (wN w) q) (va_up cA (wN w) cq) (va_up G (wN w) gq) (va_up K (wN w) kq) w1 (wN w) = e1) (hP1 : va_P D vwCl (so_ws ad cA G K w ++ [(q, e1)]) H1) (hD1 : va_D A (so_ws ad cA G K w ++ [(q, e1)])) :
    so_Rep D A L b tys1 (va_up ad (wN w) q) (va_up cA (wN w) cq) (va_up G (wN w) gq) (va_up K (wN w) kq) w1 H1 := by
  have hN1 : wN w ≤ wN w1 := by omega
  have had : ∀ i, i < wN w → va_up ad (wN w) q i = ad i := fun i hi => so_va_up hi
  have hKe : ∀ i, i < wN w → va_up K (wN w) kq i = K i := fun i hi => so_va_up hi
  have h1 := hR.1.1
  have hwf : so_wf L (va_up K (wN w) kq) w1 := by
    refine ⟨by omega, by rw [hKe 0 (by omega)]; exact hR.1.2.1, ?_, ?_, ?_, ?_⟩
    · intro id hi0 hi1
      by_cases e9 : id = wN w
      · subst e9; rw [va_up_self]; exact hk
      · rw [hKe id (by omega)]; exact hR.1.2.2.1 id hi0 (by omega)
    · intro k a p hp
      rcases hFR k a with h | h
      · exact so_pok_ext hN1 hKe (hR.1.2.2.2.1 k a p (by rw [← h]; exact hp))
      · rw [h] at hp; cases hp
    · intro k a p hp
      rcases hAR k a with h | h
      · exact so_pok_ext hN1 hKe (hR.1.2.2.2.2.1 k a p (by rw [← h]; exact hp))
      · rw [h] at hp; cases hp
    · intro id hi0 hi1 hi2
      by_cases e9 : id = wN w
      · subst e9; rw [va_up_self] at hi2 ⊢; exact hk2 hi2
      · rw [hKe id (by omega)] at hi2 ⊢; exact hR.1.2.2.2.2.2 id hi0 (by omega) hi2
  have happ := so_ws_app (ad := ad) (ad' := va_up ad (wN w) q) (cA := cA) (cA' := va_up cA (wN w) cq) (G := G) (G' := va_up G (wN w) gq) (K := K) (K' := va_up K (wN w) kq) (w := w) (w' := w1) [(q, e1)] h1 (by simp [hw1]) (fun i hi => by
    have hz : i = 0 := by simp at hi; omega
    subst hz
    rw [Nat.add_zero, va_up_self, hcell]
    rfl) had (fun j hj0 hj => so_cell_ext hR.1 (hKe j hj) (so_va_up hj) (so_va_up hj) had (fun k => hFI k j hj) (fun k => hFR2 k j hj) (hAI j hj) (hAJ j hj) (hAR2 j hj))
  rw [happ] at hP1 hD1
  refine ⟨hwf, hR.2.1.ext h1 hN1 had hKe, ?_, hP1, hD1⟩
  intro id hi0 hi1 hi2
  by_cases e9 : id = wN w
  · subst e9; rw [va_up_self] at hi2 ⊢; rw [va_up_self]; exact htq hi2
  · rw [hKe id (by omega)] at hi2 ⊢
    obtain ⟨t0, ht0⟩ := hR.2.2.1 id hi0 (by omega) hi2
    exact ⟨t0, htys _ _ (by rw [so_va_up (by omega)]; exact ht0)⟩
/-- one cell more: the frame goes on in the store with it -/
theorem so_more {st1 : List MV} {w1 : MWd} {v : MV} (hJ : so_J p l e R s m args below meth c M A b L xs D Q mc ms wE w1 nx ls (v :: st1)) {H H1 : Heap} {locs : List Loc} {cells slots : Nat} {tys tys1 : List (ClassId × FieldType)} {ad : Nat → Nat} {cA : Nat → ClassId} {G : Nat → Nat → Value} {K : Nat → Nat × Nat} {lsA : Array Slot} {q : Nat} {cq : ClassId} {gq : Nat → Value} {kq : Nat × Nat}
    (hR : so_Rep D A L b tys ad cA G K w H) (hX : wAI w 0 = xs) (hK : va_K D vwCl tys1 s) (hl : lv_has lsA (mj_l M) (so_ls ad 0 ls)) (hn : ls.length = mj_l M) (hlo : so_lok (wN w) K ls) (hst : so_sok (wN w) K st1) {nn : Nat} (hc : cells + wC wE = mc + wC w) (hs : slots + wS wE = ms + wS w)
    (hw1 : wN w1 = wN w + 1 ∧ wC w1 = wC w + 1 ∧ wS w1 = wS w + nn) (hk : kq.1 < 11 ∨ 20 ≤ kq.1 ∧ kq.1 ≤ 25) (hk2 : 20 ≤ kq.1 → kq.2 ≤ 65536) (hv : v = vP (kq.1, kq.2, wN w))
    (hFI : ∀ k j, j < wN w → wFI w1 k j = wFI w k j) (hFR : ∀ k j, wFR w1 k j = wFR w k j ∨ wFR w1 k j = none) (hFR2 : ∀ k j, j < wN w → wFR w1 k j = wFR w k j) (hAI : ∀ j, j < wN w → wAI w1 j = wAI w j) (hAJ : ∀ j, j < wN w → wAJ w1 j = wAJ w j) (hAR : ∀ j i, wAR w1 j i = wAR w j i ∨ wAR w1 j i = none) (hAR2 : ∀ j, j < wN w → wAR w1 j = wAR w j)
    (htys : ∀ (k : Nat) (x : ClassId × FieldType), tys[k]? = some x → tys1[k]? = some x) (htq : 20 ≤ kq.1 → ∃ t0 : Nat, tys1[t0]? = some (cq, so_ty kq.1))
    {e1 : va_E} (hcell : so_cell (va_up ad (wN w) q) (va_up cA (wN w) cq) (va_up G (wN w) gq) (va_up K (wN w) kq) w1 (wN w) = e1) (hP1 : va_P D vwCl (so_ws ad cA G K w ++ [(q, e1)]) H1) (hD1 : va_D A (so_ws ad cA G K w ++ [(q, e1)])) (hS1 : va_S A s.heap H1 locs) :
    W p l e R s m args below meth c H1 locs (cells + 1) (slots + nn) Q (F0 m nx lsA (.ref q :: st1.map (so_v ad))) := by
  have hN1 : wN w ≤ wN w1 := by omega
  have had : ∀ i, i < wN w → va_up ad (wN w) q i = ad i := fun i hi => so_va_up hi
  have hKe : ∀ i, i < wN w → va_up K (wN w) kq i = K i := fun i hi => so_va_up hi
  have h1 := hR.1.1
  have hrep := so_rep_more hR hw1.1 hk hk2 hFI hFR hFR2 hAI hAJ hAR hAR2 htys htq hcell hP1 hD1
  have kk := hJ H1 locs (cells + 1) (slots + nn) tys1 _ _ _ _ lsA hrep (by rw [hAI 0 (by omega)]; exact hX) hK hS1 (by rw [so_ls_ext had hlo]; exact hl) hn (so_lok_ext hN1 hKe hlo) (so_sok_cons (by
    intro p' hp'
    rw [hv] at hp'
    cases hp'
    exact ⟨by show wN w < wN w1; omega, va_up_self _ _ _⟩) (so_sok_ext hN1 hKe hst)) (by omega) (by omega)
  rw [List.map_cons, so_map_ext had hst, hv] at kk
  rw [show so_v (va_up ad (wN w) q) (vP (kq.1, kq.2, wN w)) = .ref q from congrArg Value.ref (va_up_self _ _ _)] at kk
  exact kk
theorem so_s_new (C : so_C p l s m args meth c M A b L xs) {k ci : Nat} (hf : mj_fetch M pc = some (.new k, nx)) (hk : mj_cls (mj_o M) k = some ci) (hm : wC (nwO w (mj_nf ci)) ≤ wC wE ∧ wS (nwO w (mj_nf ci)) ≤ wS wE) (hRm : so_Rm R mc ms)
    (hJ : so_J p l e R s m args below meth c M A b L xs D Q mc ms wE (nwO w (mj_nf ci)) nx ls (vP (ci, 0, wN w) :: st)) : so_J p l e R s m args below meth c M A b L xs D Q mc ms wE w pc ls st := by
  obtain ⟨hd, rfl⟩ := so_decn hf rfl (by decide : 0 < 3)
  intro H locs cells slots tys ad cA G K lsA hR hX hK hS hl hn hlo hst hc hs
  obtain ⟨⟨Cn, T, N⟩, hcl, hw1, hw2, hw3⟩ := so_cls hk
  have hci : ci < 11 := (List.getElem?_eq_some_iff.mp hcl).1
  obtain ⟨hpty, -, hN, hft, hty⟩ := so_ty_ok ci _ hcl
  have hN : N = mj_nf ci := hN
  obtain ⟨hx, hb, -, -, hown, hts, -, -, hA, -⟩ := C
  simp only [wrd] at hm
  obtain ⟨gq, fs, hcell, hfs⟩ : ∃ (gq : Nat → Value) (fs : List Value), (∀ q, so_cell (va_up ad (wN w) q) (va_up cA (wN w) 0) (va_up G (wN w) gq) (va_up K (wN w) (ci, 0)) (nwO w (mj_nf ci)) (wN w) = .inr (ci, fs)) ∧ ∀ j, j < N → defaultValue ((so_tyL.getD ci (fun _ => .int)) j) = vp_V fs j := by
    by_cases h9 : ci = 9
    · subst h9
      refine ⟨fun i => if i = 5 then .int 0 else .null, [.null, .null, .null, .null, .null, .int 0, .int 0], ?_, ?_⟩
      · intro q
        rw [so_cell9 (by rw [va_up_self]), va_up_self]
        simp only [wrd]
        simp
      · intro j hj
        have hN9 : N = 7 := hN
        rcases (show j = 0 ∨ j = 1 ∨ j = 2 ∨ j = 3 ∨ j = 4 ∨ j = 5 ∨ j = 6 by omega) with rfl | rfl | rfl | rfl | rfl | rfl | rfl <;> rfl
    · refine ⟨fun _ => .null, (List.range (mj_nf ci)).map (fun j => if mj_ft ci j < 2 then .int 0 else .null), ?_, ?_⟩
      · intro q
        rw [so_cellO (by rw [va_up_self]; exact h9) (by rw [va_up_self]; exact hci), va_up_self]
        congr 2
        apply List.map_congr_left
        intro j hj
        unfold so_fv
        simp only [wrd]
        simp [so_v]
      · intro j hj
        unfold vp_V
        rw [show ((List.range (mj_nf ci)).map (fun j => if mj_ft ci j < 2 then Value.int 0 else Value.null)).getD j Value.null = (if mj_ft ci j < 2 then Value.int 0 else Value.null) from by rw [List.getD_eq_getElem?_getD, List.getElem?_map, List.getElem?_range (by rw [← hN]; exact hj)]; rfl, hft j hj]
        have h5 := hty j hj
        generalize (so_tyL.getD ci (fun _ => FieldType.int)) j = ty at h5
        cases ty <;> first | rfl | exact absurd h5 Bool.false_ne_true
  refine va_new (own := so_cn (mj_o M)) (C := Cn) (T := T) (N := N) (ci := ci) hx hb hts (so_uw ci _ hcl) _ hpty hown (hts _ hw1) (hts _ hw2) (hts _ hw3) hK hR.2.2.2.1 hR.2.2.2.2 hS hA hcl hfs (by have := hRm.1; omega) (by have := hRm.2.1; rw [hN]; omega) hd ?_
  intro q H1 hP1 hD1 hS1
  exact so_more (kq := (ci, 0)) hJ hR hX hK hl hn hlo hst hc hs ⟨by simp only [wrd], by simp only [wrd], by simp only [wrd, hN]⟩ (Or.inl hci) (fun h => by show 0 ≤ _; omega) rfl (fun k j hj => by simp only [wrd]; rw [if_neg (by omega)]) (fun k j => by simp only [wrd]; split <;> simp) (fun k j hj => by simp only [wrd]; rw [if_neg (by omega)]) (fun j _ => by simp only [wrd]) (fun j _ => by simp only [wrd]) (fun j i => Or.inl (by simp only [wrd])) (fun j _ => by simp only [wrd]) (fun _ _ h => h) (fun h => by have : 20 ≤ ci := h; omega) (hcell q) hP1 hD1 hS1
theorem so_s_newarray (C : so_C p l s m args meth c M A b L xs) {t : ArrayType} {n : Int32} {kd : Nat} {r : List MV} (hf : mj_fetch M pc = some (.newarray t, nx)) (hn0 : ¬ n < 0) (hn1 : n.toNatClampNeg ≤ 65536) (hkd : t = .int ∧ kd = 20 ∨ t = .long ∧ kd = 21 ∨ t = .boolean ∧ kd = 22) (hm : wC (nwA w n.toNatClampNeg) ≤ wC wE ∧ wS (nwA w n.toNatClampNeg) ≤ wS wE) (hRm : so_Rm R mc ms)
    (hJ : so_J p l e R s m args below meth c M A b L xs D Q mc ms wE (nwA w n.toNatClampNeg) nx ls (vP (kd, n.toNatClampNeg, wN w) :: r)) : so_J p l e R s m args below meth c M A b L xs D Q mc ms wE w pc ls (.inl n :: r) := by
  obtain ⟨hd, rfl⟩ := so_decn hf rfl (by decide : 0 < 2)
  intro H locs cells slots tys ad cA G K lsA hR hX hK hS hl hn hlo hst hc hs
  obtain ⟨hx, hb, -, -, hown, hts, -, -, hA, -⟩ := C
  simp only [wrd] at hm
  have fin : ∀ (e1 : ClassId → va_E) (q : Nat) (cq : ClassId) (H1 : Heap), (∀ cq, so_cell (va_up ad (wN w) q) (va_up cA (wN w) cq) (va_up G (wN w) (fun _ => .null)) (va_up K (wN w) (kd, n.toNatClampNeg)) (nwA w n.toNatClampNeg) (wN w) = e1 cq) → va_K D vwCl (tys ++ [(cq, so_ty kd)]) s → va_P D vwCl (so_ws ad cA G K w ++ [(q, e1 cq)]) H1 → va_D A (so_ws ad cA G K w ++ [(q, e1 cq)]) → va_S A s.heap H1 locs → W p l e R s m args below meth c H1 locs (cells + 1) (slots + n.toNatClampNeg) Q (F0 m (pc + mj_len (.newarray t)) lsA (.ref q :: r.map (so_v ad))) := by
    intro e1 q cq H1 hce hK1 hP1 hD1 hS1
    refine so_more (kq := (kd, n.toNatClampNeg)) (gq := fun _ => .null) (cq := cq) (tys := tys) (tys1 := tys ++ [(cq, so_ty kd)]) hJ hR hX hK1 hl hn hlo (so_sok_tail hst) hc hs ⟨by simp only [wrd], by simp only [wrd], by simp only [wrd]⟩ (by show kd < 11 ∨ 20 ≤ kd ∧ kd ≤ 25; omega) (fun _ => hn1) rfl (fun k j hj => by simp only [wrd]) (fun k j => Or.inl (by simp only [wrd])) (fun k j hj => by simp only [wrd]) (fun j hj => by funext i; simp only [wrd]; rw [if_neg (by omega)]) (fun j hj => by funext i; simp only [wrd]; rw [if_neg (by omega)]) (fun j i => by simp only [wrd]; split <;> simp) (fun j hj => by funext i; simp only [wrd]; rw [if_neg (by omega)]) (fun k x h => by rw [List.getElem?_append_left (List.getElem?_eq_some_iff.mp h).1]; exact h) (fun _ => ⟨tys.length, by simp⟩) (hce cq) hP1 hD1 hS1
  have hcs : cells + 1 ≤ R.cells ∧ slots + n.toNatClampNeg ≤ R.slots := by have := hRm.1; have := hRm.2.1; omega
  rcases hkd with ⟨rfl, rfl⟩ | ⟨rfl, rfl⟩ | ⟨rfl, rfl⟩
  · exact va_newa (atype := .int) (ty := .int) (a0 := (n.toNatClampNeg, .inl (fun _ => 0))) hx hb (hts _ (so_x (List.mem_of_getElem? (i := 1) rfl))) rfl hK hR.2.2.2.1 hR.2.2.2.2 hS hA (fun _ => rfl) hn0 rfl (by show _ * 4 ≤ _; omega) hcs.1 hcs.2 hd (fun q cq H1 hK1 hP1 hD1 hS1 => fin (fun cq => .inl (cq, (n.toNatClampNeg, .inl (fun _ => 0)))) q cq H1 (fun cq => by
      rw [so_cellI (by rw [va_up_self]; exact Or.inl rfl), va_up_self, va_up_self]
      congr 4
      funext i
      simp only [wrd]
      simp) hK1 hP1 hD1 hS1)
  · exact va_newa (atype := .long) (ty := .long) (a0 := (n.toNatClampNeg, .inr (.inl (fun _ => 0)))) hx hb (hts _ (so_x (List.mem_of_getElem? (i := 2) rfl))) rfl hK hR.2.2.2.1 hR.2.2.2.2 hS hA (fun _ => rfl) hn0 rfl (by show _ * 8 ≤ _; omega) hcs.1 hcs.2 hd (fun q cq H1 hK1 hP1 hD1 hS1 => fin (fun cq => .inl (cq, (n.toNatClampNeg, .inr (.inl (fun _ => 0))))) q cq H1 (fun cq => by
      rw [so_cellL (by rw [va_up_self]), va_up_self, va_up_self]
      congr 5
      funext i
      simp only [wrd]
      simp) hK1 hP1 hD1 hS1)
  · exact va_newa (atype := .boolean) (ty := .boolean) (a0 := (n.toNatClampNeg, .inl (fun _ => 0))) hx hb (hts _ (so_x (List.mem_of_getElem? (i := 3) rfl))) rfl hK hR.2.2.2.1 hR.2.2.2.2 hS hA (fun _ => rfl) hn0 rfl (by show _ * 1 ≤ _; omega) hcs.1 hcs.2 hd (fun q cq H1 hK1 hP1 hD1 hS1 => fin (fun cq => .inl (cq, (n.toNatClampNeg, .inl (fun _ => 0)))) q cq H1 (fun cq => by
      rw [so_cellI (by rw [va_up_self]; exact Or.inr rfl), va_up_self, va_up_self]
      congr 4
      funext i
      simp only [wrd]
      simp) hK1 hP1 hD1 hS1)
theorem so_s_copyI (C : so_C p l s m args meth c M A b L xs) {k Mx : Nat} {q0 q1 : Ptr} {sp dp n : Int32} {r : List MV} (hf : mj_fetch M pc = some (.invokestatic k, nx)) (hk : mj_mth (mj_o M) k = some (3, Mx)) (h20 : q1.1 = 20 ∧ q0.1 = 20) (hne : ¬ q1.2.2 = q0.2.2) (g1 : ¬ sp < 0) (g2 : ¬ dp < 0) (g3 : ¬ n < 0) (g4 : sp.toNatClampNeg + n.toNatClampNeg ≤ q0.2.1) (g5 : dp.toNatClampNeg + n.toNatClampNeg ≤ q1.2.1) (hwt : mj_wt r ≤ 8) (hRm : so_Rm R mc ms)
    (hJ : so_J p l e R s m args below meth c M A b L xs D Q mc ms wE (cpI w q0.2.2 sp.toNatClampNeg q1.2.2 dp.toNatClampNeg n.toNatClampNeg) nx ls r) : so_J p l e R s m args below meth c M A b L xs D Q mc ms wE w pc ls (.inl n :: .inl dp :: .inr (.inr (.inr (some q1))) :: .inl sp :: .inr (.inr (.inr (some q0))) :: r) := by
  obtain ⟨hd, rfl⟩ := so_decn hf rfl (by decide : 0 < 3)
  intro H locs cells slots tys ad cA G K lsA hR hX hK hS hl hn hlo hst hc hs
  have t1 := so_sok_tail (so_sok_tail hst)
  obtain ⟨a0, a1, aK⟩ := so_kind_id hR.1 (t1 _ List.mem_cons_self q1 rfl) (by omega)
  obtain ⟨b0, b1, bK⟩ := so_kind_id hR.1 ((so_sok_tail (so_sok_tail t1)) _ List.mem_cons_self q0 rfl) (by omega)
  have hwa := so_ws_at (ad := ad) (cA := cA) (G := G) (K := K) a0 a1
  have hwb := so_ws_at (ad := ad) (cA := cA) (G := G) (K := K) b0 b1
  obtain ⟨t1', ht1⟩ := hR.2.2.1 _ a0 a1 (by rw [aK]; omega)
  obtain ⟨t0', ht0⟩ := hR.2.2.1 _ b0 b1 (by rw [bK]; omega)
  have hkA : (K q1.2.2).1 = 20 ∨ (K q1.2.2).1 = 22 := by rw [aK]; exact Or.inl h20.1
  have hkB : (K q0.2.2).1 = 20 ∨ (K q0.2.2).1 = 22 := by rw [bK]; exact Or.inl h20.2
  rw [so_cellI hkA] at hwa
  rw [so_cellI hkB] at hwb
  rw [aK] at hwa ht1
  rw [bK] at hwb ht0
  rw [show so_ty q1.1 = .int by rw [h20.1]; rfl] at ht1
  rw [show so_ty q0.1 = .int by rw [h20.2]; rfl] at ht0
  obtain ⟨hx, hb, -, hml, hown, hts, -, -, hA, hSt, -⟩ := C
  have hmt : Cond.methodLink (so_cn (mj_o M)) k arraycopyName ∈ so_big := (so_mth hk).2 (by decide)
  have hcat : ((r.map (so_v ad)).map fun v => v.category).sum ≤ 8 := by
    rw [List.map_map, show ((fun v => v.category) ∘ so_v ad) = mj_cat from funext (fun v => so_cat ad v)]
    exact hwt
  have h9 : nativeFrameWords "java/lang/System" "arraycopy" 5 = 7 := by decide
  refine va_copyi (own := so_cn (mj_o M)) hx hb (by rw [hml, hl.1]) hown (hts _ hmt) (hts _ (so_x (List.mem_of_getElem? (i := 6) rfl))) (hts _ (so_x (List.mem_of_getElem? (i := 7) rfl))) (hts _ (so_x (List.mem_of_getElem? (i := 8) rfl))) hK hR.2.2.2.1 hR.2.2.2.2 hS (q0.2.2 - 1) (q1.2.2 - 1) t0' t1' hwb hwa ht0 ht1 rfl g1 g2 g3 g4 g5 (fun _ _ => rfl) (by have := hRm.2.2.1; omega) (by have := hRm.2.2.2; omega) hd ?_
  intro H1 locs1 hP1 hD1 hS1
  rw [so_ws_set (ad := ad) (cA := cA) (G := G) (G' := G) (K := K) (w := w) (w' := cpI w q0.2.2 sp.toNatClampNeg q1.2.2 dp.toNatClampNeg n.toNatClampNeg) a0 a1 (by simp only [wrd]) (by
    rw [so_cellI hkA, aK]
    congr 4
    funext i
    simp only [wrd, va_cpy]
    simp) (fun i hi => by
    unfold so_cell
    have e9 : wAI (cpI w q0.2.2 sp.toNatClampNeg q1.2.2 dp.toNatClampNeg n.toNatClampNeg) i = wAI w i := by funext j; simp only [wrd]; simp [hi]
    rw [e9]
    rfl)] at hP1 hD1
  exact hJ H1 locs1 cells slots tys ad cA G K lsA ⟨hR.1, hR.2.1, hR.2.2.1, hP1, hD1⟩ (by rw [← hX]; funext i; simp only [wrd]; rw [if_neg (by omega)]) hK hS1 hl hn hlo (so_sok_tail (so_sok_tail (so_sok_tail t1))) hc hs
theorem so_s_copyJ (C : so_C p l s m args meth c M A b L xs) {k Mx : Nat} {q0 q1 : Ptr} {sp dp n : Int32} {r : List MV} (hf : mj_fetch M pc = some (.invokestatic k, nx)) (hk : mj_mth (mj_o M) k = some (3, Mx)) (h20 : q1.1 = 21 ∧ q0.1 = 21) (hne : ¬ q1.2.2 = q0.2.2) (g1 : ¬ sp < 0) (g2 : ¬ dp < 0) (g3 : ¬ n < 0) (g4 : sp.toNatClampNeg + n.toNatClampNeg ≤ q0.2.1) (g5 : dp.toNatClampNeg + n.toNatClampNeg ≤ q1.2.1) (hwt : mj_wt r ≤ 8) (hRm : so_Rm R mc ms)
    (hJ : so_J p l e R s m args below meth c M A b L xs D Q mc ms wE (cpJ w q0.2.2 sp.toNatClampNeg q1.2.2 dp.toNatClampNeg n.toNatClampNeg) nx ls r) : so_J p l e R s m args below meth c M A b L xs D Q mc ms wE w pc ls (.inl n :: .inl dp :: .inr (.inr (.inr (some q1))) :: .inl sp :: .inr (.inr (.inr (some q0))) :: r) := by
  obtain ⟨hd, rfl⟩ := so_decn hf rfl (by decide : 0 < 3)
  intro H locs cells slots tys ad cA G K lsA hR hX hK hS hl hn hlo hst hc hs
  have t1 := so_sok_tail (so_sok_tail hst)
  obtain ⟨a0, a1, aK⟩ := so_kind_id hR.1 (t1 _ List.mem_cons_self q1 rfl) (by omega)
  obtain ⟨b0, b1, bK⟩ := so_kind_id hR.1 ((so_sok_tail (so_sok_tail t1)) _ List.mem_cons_self q0 rfl) (by omega)
  have hwa := so_ws_at (ad := ad) (cA := cA) (G := G) (K := K) a0 a1
  have hwb := so_ws_at (ad := ad) (cA := cA) (G := G) (K := K) b0 b1
  obtain ⟨t1', ht1⟩ := hR.2.2.1 _ a0 a1 (by rw [aK]; omega)
  obtain ⟨t0', ht0⟩ := hR.2.2.1 _ b0 b1 (by rw [bK]; omega)
  have hkA : (K q1.2.2).1 = 21 := by rw [aK]; exact h20.1
  have hkB : (K q0.2.2).1 = 21 := by rw [bK]; exact h20.2
  rw [so_cellL hkA] at hwa
  rw [so_cellL hkB] at hwb
  rw [aK] at hwa ht1
  rw [bK] at hwb ht0
  rw [show so_ty q1.1 = .long by rw [h20.1]; rfl] at ht1
  rw [show so_ty q0.1 = .long by rw [h20.2]; rfl] at ht0
  obtain ⟨hx, hb, -, hml, hown, hts, -, -, hA, hSt, -⟩ := C
  have hmt : Cond.methodLink (so_cn (mj_o M)) k arraycopyName ∈ so_big := (so_mth hk).2 (by decide)
  have hcat : ((r.map (so_v ad)).map fun v => v.category).sum ≤ 8 := by
    rw [List.map_map, show ((fun v => v.category) ∘ so_v ad) = mj_cat from funext (fun v => so_cat ad v)]
    exact hwt
  have h9 : nativeFrameWords "java/lang/System" "arraycopy" 5 = 7 := by decide
  refine va_copyl (own := so_cn (mj_o M)) hx hb (by rw [hml, hl.1]) hown (hts _ hmt) (hts _ (so_x (List.mem_of_getElem? (i := 6) rfl))) (hts _ (so_x (List.mem_of_getElem? (i := 7) rfl))) (hts _ (so_x (List.mem_of_getElem? (i := 8) rfl))) hK hR.2.2.2.1 hR.2.2.2.2 hS (q0.2.2 - 1) (q1.2.2 - 1) t0' t1' hwb hwa ht0 ht1 rfl g1 g2 g3 g4 g5 (fun _ _ => rfl) (by have := hRm.2.2.1; omega) (by have := hRm.2.2.2; omega) hd ?_
  intro H1 locs1 hP1 hD1 hS1
  rw [so_ws_set (ad := ad) (cA := cA) (G := G) (G' := G) (K := K) (w := w) (w' := cpJ w q0.2.2 sp.toNatClampNeg q1.2.2 dp.toNatClampNeg n.toNatClampNeg) a0 a1 (by simp only [wrd]) (by
    rw [so_cellL hkA, aK]
    congr 5
    funext i
    simp only [wrd, va_cpy]
    simp) (fun i hi => by
    unfold so_cell
    have e9 : wAJ (cpJ w q0.2.2 sp.toNatClampNeg q1.2.2 dp.toNatClampNeg n.toNatClampNeg) i = wAJ w i := by funext j; simp only [wrd]; simp [hi]
    rw [e9]
    rfl)] at hP1 hD1
  exact hJ H1 locs1 cells slots tys ad cA G K lsA ⟨hR.1, hR.2.1, hR.2.2.1, hP1, hD1⟩ hX hK hS1 hl hn hlo (so_sok_tail (so_sok_tail (so_sok_tail t1))) hc hs
theorem so_s_max (C : so_C p l s m args meth c M A b L xs) {k Mx : Nat} {x y : Int32} {r : List MV} (hf : mj_fetch M pc = some (.invokestatic k, nx)) (hk : mj_mth (mj_o M) k = some (4, Mx)) (hwt : mj_wt r ≤ 8) (hRm : so_Rm R mc ms) (hm : wC w ≤ wC wE ∧ wS w ≤ wS wE)
    (hJ : so_J p l e R s m args below meth c M A b L xs D Q mc ms wE w nx ls (vI (if x < y then y else x) :: r)) : so_J p l e R s m args below meth c M A b L xs D Q mc ms wE w pc ls (.inl y :: .inl x :: r) := by
  obtain ⟨hd, rfl⟩ := so_decn hf rfl (by decide : 0 < 3)
  intro H locs cells slots tys ad cA G K lsA hR hX hK hS hl hn hlo hst hc hs
  have kk := hJ H locs cells slots tys ad cA G K lsA hR hX hK hS hl hn hlo (so_sok_cons so_ok_I (so_sok_tail (so_sok_tail hst))) hc hs
  obtain ⟨hx, hb, -, hml, hown, hts, -, -, hA, hSt, -⟩ := C
  have hmt : Cond.methodLink (so_cn (mj_o M)) k Lib.Math.max.name ∈ so_big := (so_mth hk).2 (by decide)
  have hcat : ((r.map (so_v ad)).map fun v => v.category).sum ≤ 8 := by
    rw [List.map_map, show ((fun v => v.category) ∘ so_v ad) = mj_cat from funext (fun v => so_cat ad v)]
    exact hwt
  obtain ⟨r1, r2, r3, r4⟩ := hRm
  exact va_mmax (own := so_cn (mj_o M)) hx hb (by rw [hml, hl.1]) hown (hts _ hmt) (hts _ (so_x (List.mem_of_getElem? (i := 9) rfl))) (hts _ (so_x (List.mem_of_getElem? (i := 11) rfl))) (hts _ (so_x (List.mem_of_getElem? (i := 12) rfl))) (by omega) (by omega) (by omega) (by omega) hd kk
theorem so_s_min (C : so_C p l s m args meth c M A b L xs) {k Mx : Nat} {x y : Int32} {r : List MV} (hf : mj_fetch M pc = some (.invokestatic k, nx)) (hk : mj_mth (mj_o M) k = some (5, Mx)) (hwt : mj_wt r ≤ 8) (hRm : so_Rm R mc ms) (hm : wC w ≤ wC wE ∧ wS w ≤ wS wE)
    (hJ : so_J p l e R s m args below meth c M A b L xs D Q mc ms wE w nx ls (vI (if y < x then y else x) :: r)) : so_J p l e R s m args below meth c M A b L xs D Q mc ms wE w pc ls (.inl y :: .inl x :: r) := by
  obtain ⟨hd, rfl⟩ := so_decn hf rfl (by decide : 0 < 3)
  intro H locs cells slots tys ad cA G K lsA hR hX hK hS hl hn hlo hst hc hs
  have kk := hJ H locs cells slots tys ad cA G K lsA hR hX hK hS hl hn hlo (so_sok_cons so_ok_I (so_sok_tail (so_sok_tail hst))) hc hs
  obtain ⟨hx, hb, -, hml, hown, hts, -, -, hA, hSt, -⟩ := C
  have hmt : Cond.methodLink (so_cn (mj_o M)) k Lib.Math.min.name ∈ so_big := (so_mth hk).2 (by decide)
  have hcat : ((r.map (so_v ad)).map fun v => v.category).sum ≤ 8 := by
    rw [List.map_map, show ((fun v => v.category) ∘ so_v ad) = mj_cat from funext (fun v => so_cat ad v)]
    exact hwt
  obtain ⟨r1, r2, r3, r4⟩ := hRm
  exact va_mmin (own := so_cn (mj_o M)) hx hb (by rw [hml, hl.1]) hown (hts _ hmt) (hts _ (so_x (List.mem_of_getElem? (i := 10) rfl))) (hts _ (so_x (List.mem_of_getElem? (i := 11) rfl))) (hts _ (so_x (List.mem_of_getElem? (i := 13) rfl))) (by omega) (by omega) (by omega) (by omega) hd kk
theorem so_s_objInit (C : so_C p l s m args meth c M A b L xs) {k Mx : Nat} {q : Ptr} {r : List MV} (hf : mj_fetch M pc = some (.invokespecial k, nx)) (hk : mj_mth (mj_o M) k = some (1, Mx)) (hwt : mj_wt r ≤ 8) (hRm : so_Rm R mc ms)
    (hJ : so_J p l e R s m args below meth c M A b L xs D Q mc ms wE w nx ls r) : so_J p l e R s m args below meth c M A b L xs D Q mc ms wE w pc ls (.inr (.inr (.inr (some q))) :: r) := by
  obtain ⟨hd, rfl⟩ := so_decn hf rfl (by decide : 0 < 3)
  intro H locs cells slots tys ad cA G K lsA hR hX hK hS hl hn hlo hst hc hs
  have kk := hJ H locs cells slots tys ad cA G K lsA hR hX hK hS hl hn hlo (so_sok_tail hst) hc hs
  obtain ⟨hx, hb, -, hml, hown, hts, -, -, hA, hSt, -⟩ := C
  have hmt : Cond.methodLink (so_cn (mj_o M)) k objectInit ∈ so_big := (so_mth hk).2 (by decide)
  have hcat : ((r.map (so_v ad)).map fun v => v.category).sum ≤ 8 := by
    rw [List.map_map, show ((fun v => v.category) ∘ so_v ad) = mj_cat from funext (fun v => so_cat ad v)]
    exact hwt
  obtain ⟨r1, r2, r3, r4⟩ := hRm
  exact W.objInit (own := so_cn (mj_o M)) hx hb hown (hts _ hmt) (hts _ (so_x (List.mem_of_getElem? (i := 4) rfl))) (hts _ (so_x (List.mem_of_getElem? (i := 5) rfl))) rfl (by rw [hml]; exact hl.1) rfl hd (by omega) (by show 2 * 0 + _ + 12 ≤ _; omega) kk
theorem so_s_anewarray (C : so_C p l s m args meth c M A b L xs) {k : Nat} {n : Int32} {kd ci : Nat} {r : List MV} (hf : mj_fetch M pc = some (.anewarray k, nx)) (hn0 : ¬ n < 0) (hn1 : n.toNatClampNeg ≤ 65536) (hk : mj_cls (mj_o M) k = some ci) (hkd : ci = 1 ∧ kd = 23 ∨ ci = 5 ∧ kd = 24) (hm : wC (nwA w n.toNatClampNeg) ≤ wC wE ∧ wS (nwA w n.toNatClampNeg) ≤ wS wE) (hRm : so_Rm R mc ms)
    (hJ : so_J p l e R s m args below meth c M A b L xs D Q mc ms wE (nwA w n.toNatClampNeg) nx ls (vP (kd, n.toNatClampNeg, wN w) :: r)) : so_J p l e R s m args below meth c M A b L xs D Q mc ms wE w pc ls (.inl n :: r) := by
  obtain ⟨hd, rfl⟩ := so_decn hf rfl (by decide : 0 < 3)
  intro H locs cells slots tys ad cA G K lsA hR hX hK hS hl hn hlo hst hc hs
  obtain ⟨q0, hcl, hw1, -, -⟩ := so_cls hk
  obtain ⟨hx, hb, -, -, hown, hts, -, -, hA, hSt, -⟩ := C
  simp only [wrd] at hm
  have fin : ∀ (q : Nat) (cq : ClassId) (H1 : Heap), va_K D vwCl (tys ++ [(cq, so_ty kd)]) s → va_P D vwCl (so_ws ad cA G K w ++ [(q, .inl (cq, n.toNatClampNeg, .inr (.inr (.inr (.inr (fun _ => none))))))]) H1 → va_D A (so_ws ad cA G K w ++ [(q, .inl (cq, n.toNatClampNeg, .inr (.inr (.inr (.inr (fun _ => none))))))]) → va_S A s.heap H1 locs → W p l e R s m args below meth c H1 locs (cells + 1) (slots + n.toNatClampNeg) Q (F0 m (pc + mj_len (.anewarray k)) lsA (.ref q :: r.map (so_v ad))) := by
    intro q cq H1 hK1 hP1 hD1 hS1
    refine so_more (kq := (kd, n.toNatClampNeg)) (gq := fun _ => .null) (cq := cq) (tys := tys) (tys1 := tys ++ [(cq, so_ty kd)]) hJ hR hX hK1 hl hn hlo (so_sok_tail hst) hc hs ⟨by simp only [wrd], by simp only [wrd], by simp only [wrd]⟩ (by show kd < 11 ∨ 20 ≤ kd ∧ kd ≤ 25; omega) (fun _ => hn1) rfl (fun k j hj => by simp only [wrd]) (fun k j => Or.inl (by simp only [wrd])) (fun k j hj => by simp only [wrd]) (fun j hj => by funext i; simp only [wrd]; rw [if_neg (by omega)]) (fun j hj => by funext i; simp only [wrd]; rw [if_neg (by omega)]) (fun j i => by simp only [wrd]; split <;> simp) (fun j hj => by funext i; simp only [wrd]; rw [if_neg (by omega)]) (fun k x h => by rw [List.getElem?_append_left (List.getElem?_eq_some_iff.mp h).1]; exact h) (fun _ => ⟨tys.length, by simp⟩) ?_ hP1 hD1 hS1
    rw [so_cellR (by rw [va_up_self]; show 23 ≤ kd; omega), va_up_self, va_up_self]
    congr 7
    funext i
    simp only [wrd]
    simp
  have hcs : cells + 1 ≤ R.cells ∧ slots + n.toNatClampNeg ≤ R.slots := by have := hRm.1; have := hRm.2.1; omega
  rcases hkd with ⟨rfl, rfl⟩ | ⟨rfl, rfl⟩
  · cases hcl
    exact va_newq (own := so_cn (mj_o M)) (C := RX1) hx hb hown (hts _ hw1) hSt.2.2.2.2.2.2.1 hK hR.2.2.2.1 hR.2.2.2.2 hS hA hn0 rfl (by omega) hcs.1 hcs.2 hd fin
  · cases hcl
    exact va_newq (own := so_cn (mj_o M)) (C := RX5) hx hb hown (hts _ hw1) hSt.2.2.2.2.2.2.2.1 hK hR.2.2.2.1 hR.2.2.2.2 hS hA hn0 rfl (by omega) hcs.1 hcs.2 hd fin
end SO
