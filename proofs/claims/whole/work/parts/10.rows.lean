/-! What the small machine does in one step, the claim's machine does: rows of numbers and of pointers. -/
theorem so_ok_int {n : Nat} {K : Nat → Nat × Nat} {x : Option Ptr} (h : ∀ p, x = some p → so_pok n K p) : so_ok n K (vR x) := fun p hp => h p (by simpa [vR, vP] using hp)
theorem so_rf (ad : Nat → Nat) (x : Option Ptr) : so_v ad (vR x) = va_rf (x.map (fun p => ad p.2.2)) := by cases x <;> rfl
section SO
variable {p : Program} {l : Launch} {e : Env} {R : Room} {s : State} {m : MethodId} {args : Array Value} {below : List Frame} {meth : Method} {c : Code} {Q : State → Prop} {M L : Nat} {b : so_B} {xs : Nat → Int32} {A : Nat → Prop} {D : va_G} {mc ms : Nat} {wE w : MWd} {pc nx : Nat} {ls : List (Option MV)} {st : List MV}
theorem so_s_iaload (C : so_C p l s m args meth c M A b L xs) {j : Int32} {q : Ptr} {r : List MV} (hf : mj_fetch M pc = some (.iaload, nx)) (hq : q.1 = 20 ∨ q.1 = 30) (hin : mj_in j q.2.1)
    (hJ : so_J p l e R s m args below meth c M A b L xs D Q mc ms wE w nx ls (vI (wAI w q.2.2 j.toNatClampNeg) :: r)) : so_J p l e R s m args below meth c M A b L xs D Q mc ms wE w pc ls (.inl j :: .inr (.inr (.inr (some q))) :: r) := by
  obtain ⟨hd, rfl⟩ := so_decn hf rfl (by decide : 0 < 1)
  intro H locs cells slots tys ad cA G K lsA hR hX hK hS hl hn hlo hst hc hs
  have kk := hJ H locs cells slots tys ad cA G K lsA hR hX hK hS hl hn hlo (so_sok_cons so_ok_I (so_sok_tail (so_sok_tail hst))) hc hs
  have hpok := hst _ (List.mem_cons_of_mem _ List.mem_cons_self) q rfl
  obtain ⟨hx, hb, -, -, -, -, -, -, -, hSt, -⟩ := C
  rcases hq with hq | hq
  · obtain ⟨h0, h1, hKq⟩ := so_kind_id hR.1 hpok (by omega)
    have hwa := so_ws_at (ad := ad) (cA := cA) (G := G) (K := K) h0 h1
    obtain ⟨t0, ht0⟩ := hR.2.2.1 _ h0 h1 (by rw [hKq]; omega)
    rw [so_cellI (by rw [hKq]; exact Or.inl hq)] at hwa
    rw [hKq] at hwa ht0
    rw [show so_ty q.1 = .int by rw [hq]; rfl] at ht0
    exact va_iald hx hb hK hR.2.2.2.1 (q.2.2 - 1) t0 hwa ht0 hin hd kk
  · have e0 : q.2.2 = 0 := by
      rcases Nat.eq_zero_or_pos q.2.2 with h | h
      · exact h
      · rcases hR.1.2.2.1 _ h hpok.1 with h2 | h2 <;> rw [hpok.2] at h2 <;> omega
    have hL : q.2.1 = L := by
      have h2 := hpok.2
      rw [e0, hR.1.2.1] at h2
      exact (congrArg Prod.snd h2).symm
    show W p l e R s m args below meth c H locs cells slots Q (F0 m pc lsA (.int j :: .ref (ad q.2.2) :: r.map (so_v ad)))
    rw [e0, hR.2.1.1]
    refine va_sld hx hb hSt.1 hSt.2.1 hSt.2.2.1 hS (by rw [← hL]; exact hin) hd ?_
    have kk2 : W p l e R s m args below meth c H locs cells slots Q (F0 m (pc + 1) lsA (.int (wAI w q.2.2 j.toNatClampNeg) :: r.map (so_v ad))) := kk
    rw [e0, hX] at kk2
    exact kk2
theorem so_s_alen (C : so_C p l s m args meth c M A b L xs) {q : Ptr} {r : List MV} (hf : mj_fetch M pc = some (.arraylength, nx)) (hq : q.1 = 30)
    (hJ : so_J p l e R s m args below meth c M A b L xs D Q mc ms wE w nx ls (vI (Int32.ofNat q.2.1) :: r)) : so_J p l e R s m args below meth c M A b L xs D Q mc ms wE w pc ls (.inr (.inr (.inr (some q))) :: r) := by
  obtain ⟨hd, rfl⟩ := so_decn hf rfl (by decide : 0 < 1)
  intro H locs cells slots tys ad cA G K lsA hR hX hK hS hl hn hlo hst hc hs
  have kk := hJ H locs cells slots tys ad cA G K lsA hR hX hK hS hl hn hlo (so_sok_cons so_ok_I (so_sok_tail hst)) hc hs
  have hpok := hst _ List.mem_cons_self q rfl
  obtain ⟨hx, hb, -, -, -, -, -, -, -, hSt, -⟩ := C
  have e0 : q.2.2 = 0 := by
    rcases Nat.eq_zero_or_pos q.2.2 with h | h
    · exact h
    · rcases hR.1.2.2.1 _ h hpok.1 with h2 | h2 <;> rw [hpok.2] at h2 <;> omega
  have hL : q.2.1 = L := by
    have h2 := hpok.2
    rw [e0, hR.1.2.1] at h2
    exact (congrArg Prod.snd h2).symm
  show W p l e R s m args below meth c H locs cells slots Q (F0 m pc lsA (.ref (ad q.2.2) :: r.map (so_v ad)))
  rw [e0, hR.2.1.1]
  refine va_slen hx hb hSt.1 hSt.2.1 hSt.2.2.1 hS hd ?_
  have kk2 : W p l e R s m args below meth c H locs cells slots Q (F0 m (pc + 1) lsA (.int (Int32.ofNat q.2.1) :: r.map (so_v ad))) := kk
  rw [hL] at kk2
  exact kk2
theorem so_s_baload (C : so_C p l s m args meth c M A b L xs) {j : Int32} {q : Ptr} {r : List MV} (hf : mj_fetch M pc = some (.baload, nx)) (hq : q.1 = 22) (hin : mj_in j q.2.1)
    (hJ : so_J p l e R s m args below meth c M A b L xs D Q mc ms wE w nx ls (vI (wAI w q.2.2 j.toNatClampNeg) :: r)) : so_J p l e R s m args below meth c M A b L xs D Q mc ms wE w pc ls (.inl j :: .inr (.inr (.inr (some q))) :: r) := by
  obtain ⟨hd, rfl⟩ := so_decn hf rfl (by decide : 0 < 1)
  intro H locs cells slots tys ad cA G K lsA hR hX hK hS hl hn hlo hst hc hs
  have kk := hJ H locs cells slots tys ad cA G K lsA hR hX hK hS hl hn hlo (so_sok_cons so_ok_I (so_sok_tail (so_sok_tail hst))) hc hs
  obtain ⟨h0, h1, hKq⟩ := so_kind_id hR.1 (hst _ (List.mem_cons_of_mem _ List.mem_cons_self) q rfl) (by omega)
  have hwa := so_ws_at (ad := ad) (cA := cA) (G := G) (K := K) h0 h1
  obtain ⟨t0, ht0⟩ := hR.2.2.1 _ h0 h1 (by rw [hKq]; omega)
  rw [so_cellI (by rw [hKq]; exact Or.inr hq)] at hwa
  rw [hKq] at hwa ht0
  rw [show so_ty q.1 = .boolean by rw [hq]; rfl] at ht0
  exact va_zald C.1 C.2.1 hK hR.2.2.2.1 (q.2.2 - 1) t0 hwa ht0 hin hd kk
theorem so_s_laload (C : so_C p l s m args meth c M A b L xs) {j : Int32} {q : Ptr} {r : List MV} (hf : mj_fetch M pc = some (.laload, nx)) (hq : q.1 = 21) (hin : mj_in j q.2.1)
    (hJ : so_J p l e R s m args below meth c M A b L xs D Q mc ms wE w nx ls (vL (wAJ w q.2.2 j.toNatClampNeg) :: r)) : so_J p l e R s m args below meth c M A b L xs D Q mc ms wE w pc ls (.inl j :: .inr (.inr (.inr (some q))) :: r) := by
  obtain ⟨hd, rfl⟩ := so_decn hf rfl (by decide : 0 < 1)
  intro H locs cells slots tys ad cA G K lsA hR hX hK hS hl hn hlo hst hc hs
  have kk := hJ H locs cells slots tys ad cA G K lsA hR hX hK hS hl hn hlo (so_sok_cons so_ok_L (so_sok_tail (so_sok_tail hst))) hc hs
  obtain ⟨h0, h1, hKq⟩ := so_kind_id hR.1 (hst _ (List.mem_cons_of_mem _ List.mem_cons_self) q rfl) (by omega)
  have hwa := so_ws_at (ad := ad) (cA := cA) (G := G) (K := K) h0 h1
  obtain ⟨t0, ht0⟩ := hR.2.2.1 _ h0 h1 (by rw [hKq]; omega)
  rw [so_cellL (by rw [hKq]; exact hq)] at hwa
  rw [hKq] at hwa ht0
  rw [show so_ty q.1 = .long by rw [hq]; rfl] at ht0
  exact va_lald C.1 C.2.1 hK hR.2.2.2.1 (q.2.2 - 1) t0 hwa ht0 hin hd kk
theorem so_aldqA {cc : ByteArray} {H : Heap} {locs : List Loc} {cells slots : Nat} {lsA : Array Slot} {rest : List Value} {cl : List vw_C} {tys : List (ClassId × FieldType)} {ws : va_W} {a : Nat} (hexec : p.tables.exec = Jvm.exec) (hb : c.code = cc) (hK : va_K D cl tys s) (hP : va_P D cl ws H) (q0 t0 : Nat) {cA : ClassId} {t : FieldType} {n : Nat} {f : Nat → Option Nat} (ha : ws[q0]? = some (a, .inl (cA, n, .inr (.inr (.inr (.inr f)))))) (ht : tys[t0]? = some (cA, .array t)) {i : Int32} (hin : vp_in i n) (hdg : decode cc pc = .ok (.aaload, 1))
    (kk : W p l e R s m args below meth c H locs cells slots Q (F0 m (pc + 1) lsA (va_rf (f i.toNatClampNeg) :: rest))) : W p l e R s m args below meth c H locs cells slots Q (F0 m pc lsA (.int i :: .ref a :: rest)) := by
  have hlt : i.toNatClampNeg < n := Nat.not_le.mp fun q => hin (Or.inr q)
  exact W.aald (v := va_rf (f i.toNatClampNeg)) (ty := .array t) hexec hb (hP q0 _ ha) ((hK.2 t0 _ ht).1 n (fun j => va_rf (f j))) rfl (fun q => by cases q) (by show ¬ (i < 0 ∨ (arrV _ _ _).slots.size ≤ _); rw [arrV_size]; exact hin) (by show (arrV _ _ _).slots[_]? = _; rw [arrV_read _ _ hlt]) rfl rfl hdg kk
theorem so_s_aaload (C : so_C p l s m args meth c M A b L xs) {j : Int32} {q : Ptr} {r : List MV} (hf : mj_fetch M pc = some (.aaload, nx)) (hq : q.1 = 23 ∨ q.1 = 24 ∨ q.1 = 25) (hin : mj_in j q.2.1)
    (hJ : so_J p l e R s m args below meth c M A b L xs D Q mc ms wE w nx ls (vR (wAR w q.2.2 j.toNatClampNeg) :: r)) : so_J p l e R s m args below meth c M A b L xs D Q mc ms wE w pc ls (.inl j :: .inr (.inr (.inr (some q))) :: r) := by
  obtain ⟨hd, rfl⟩ := so_decn hf rfl (by decide : 0 < 1)
  intro H locs cells slots tys ad cA G K lsA hR hX hK hS hl hn hlo hst hc hs
  have kk := hJ H locs cells slots tys ad cA G K lsA hR hX hK hS hl hn hlo (so_sok_cons (so_ok_int (fun p hp => hR.1.2.2.2.2.1 _ _ p hp)) (so_sok_tail (so_sok_tail hst))) hc hs
  obtain ⟨h0, h1, hKq⟩ := so_kind_id hR.1 (hst _ (List.mem_cons_of_mem _ List.mem_cons_self) q rfl) (by omega)
  have hwa := so_ws_at (ad := ad) (cA := cA) (G := G) (K := K) h0 h1
  obtain ⟨t0, ht0⟩ := hR.2.2.1 _ h0 h1 (by rw [hKq]; omega)
  rw [so_cellR (by rw [hKq]; omega)] at hwa
  rw [hKq] at hwa ht0
  rw [List.map_cons, so_rf] at kk
  rcases hq with hq | hq | hq
  · rw [show so_ty q.1 = .object RX1 by rw [hq]; rfl] at ht0
    exact va_aldq C.1 C.2.1 hK hR.2.2.2.1 (q.2.2 - 1) t0 hwa ht0 hin hd kk
  · rw [show so_ty q.1 = .object RX5 by rw [hq]; rfl] at ht0
    exact va_aldq C.1 C.2.1 hK hR.2.2.2.1 (q.2.2 - 1) t0 hwa ht0 hin hd kk
  · rw [show so_ty q.1 = .array .int by rw [hq]; rfl] at ht0
    exact so_aldqA C.1 C.2.1 hK hR.2.2.2.1 (q.2.2 - 1) t0 hwa ht0 hin hd kk
theorem so_s_iastore (C : so_C p l s m args meth c M A b L xs) {j x : Int32} {q : Ptr} {r : List MV} (hf : mj_fetch M pc = some (.iastore, nx)) (hq : q.1 = 20) (hin : mj_in j q.2.1)
    (hJ : so_J p l e R s m args below meth c M A b L xs D Q mc ms wE (sAI w q.2.2 j.toNatClampNeg x) nx ls r) : so_J p l e R s m args below meth c M A b L xs D Q mc ms wE w pc ls (.inl x :: .inl j :: .inr (.inr (.inr (some q))) :: r) := by
  obtain ⟨hd, rfl⟩ := so_decn hf rfl (by decide : 0 < 1)
  intro H locs cells slots tys ad cA G K lsA hR hX hK hS hl hn hlo hst hc hs
  obtain ⟨h0, h1, hKq⟩ := so_kind_id hR.1 (hst _ (List.mem_cons_of_mem _ (List.mem_cons_of_mem _ List.mem_cons_self)) q rfl) (by omega)
  have hwa := so_ws_at (ad := ad) (cA := cA) (G := G) (K := K) h0 h1
  obtain ⟨t0, ht0⟩ := hR.2.2.1 _ h0 h1 (by rw [hKq]; omega)
  have hkI : (K q.2.2).1 = 20 ∨ (K q.2.2).1 = 22 := by rw [hKq]; exact Or.inl hq
  rw [so_cellI hkI] at hwa
  rw [hKq] at hwa ht0
  rw [show so_ty q.1 = .int by rw [hq]; rfl] at ht0
  have hset := so_ws_set (ad := ad) (cA := cA) (G := G) (G' := G) (K := K) (w := w) (w' := sAI w q.2.2 j.toNatClampNeg x) (e := .inl (cA q.2.2, q.2.1, .inl (upd (wAI w q.2.2) j.toNatClampNeg x))) h0 h1 (by simp only [wrd]) (by
    rw [so_cellI hkI, hKq]
    congr 4
    funext i
    simp only [wrd, u2, upd]
    simp) (fun i hi => so_cell_sAI hi)
  refine va_iast C.1 C.2.1 hK hR.2.2.2.1 hR.2.2.2.2 hS (q.2.2 - 1) t0 hwa ht0 hin hd ?_
  intro H1 locs1 hP1 hD1 hS1
  rw [hset] at hP1 hD1
  exact hJ H1 locs1 cells slots tys ad cA G K lsA ⟨so_wf_sAI hR.1, hR.2.1, hR.2.2.1, hP1, hD1⟩ (by rw [← hX]; funext i; simp only [wrd, u2]; simp; omega) hK hS1 hl hn hlo (so_sok_tail (so_sok_tail (so_sok_tail hst))) hc hs
theorem so_s_bastore (C : so_C p l s m args meth c M A b L xs) {j x : Int32} {q : Ptr} {r : List MV} (hf : mj_fetch M pc = some (.bastore, nx)) (hq : q.1 = 22) (hin : mj_in j q.2.1) (hx01 : x = 0 ∨ x = 1)
    (hJ : so_J p l e R s m args below meth c M A b L xs D Q mc ms wE (sAI w q.2.2 j.toNatClampNeg x) nx ls r) : so_J p l e R s m args below meth c M A b L xs D Q mc ms wE w pc ls (.inl x :: .inl j :: .inr (.inr (.inr (some q))) :: r) := by
  obtain ⟨hd, rfl⟩ := so_decn hf rfl (by decide : 0 < 1)
  intro H locs cells slots tys ad cA G K lsA hR hX hK hS hl hn hlo hst hc hs
  obtain ⟨h0, h1, hKq⟩ := so_kind_id hR.1 (hst _ (List.mem_cons_of_mem _ (List.mem_cons_of_mem _ List.mem_cons_self)) q rfl) (by omega)
  have hwa := so_ws_at (ad := ad) (cA := cA) (G := G) (K := K) h0 h1
  obtain ⟨t0, ht0⟩ := hR.2.2.1 _ h0 h1 (by rw [hKq]; omega)
  have hkI : (K q.2.2).1 = 20 ∨ (K q.2.2).1 = 22 := by rw [hKq]; exact Or.inr hq
  rw [so_cellI hkI] at hwa
  rw [hKq] at hwa ht0
  rw [show so_ty q.1 = .boolean by rw [hq]; rfl] at ht0
  have hnar : vp_nar .boolean x = x := by rcases hx01 with rfl | rfl <;> rfl
  have hset := so_ws_set (ad := ad) (cA := cA) (G := G) (G' := G) (K := K) (w := w) (w' := sAI w q.2.2 j.toNatClampNeg x) (e := .inl (cA q.2.2, q.2.1, .inl (upd (wAI w q.2.2) j.toNatClampNeg (vp_nar .boolean x)))) h0 h1 (by simp only [wrd]) (by
    rw [so_cellI hkI, hKq, hnar]
    congr 4
    funext i
    simp only [wrd, u2, upd]
    simp) (fun i hi => so_cell_sAI hi)
  refine va_zast C.1 C.2.1 hK hR.2.2.2.1 hR.2.2.2.2 hS (q.2.2 - 1) t0 hwa ht0 hin hd ?_
  intro H1 locs1 hP1 hD1 hS1
  rw [hset] at hP1 hD1
  exact hJ H1 locs1 cells slots tys ad cA G K lsA ⟨so_wf_sAI hR.1, hR.2.1, hR.2.2.1, hP1, hD1⟩ (by rw [← hX]; funext i; simp only [wrd, u2]; simp; omega) hK hS1 hl hn hlo (so_sok_tail (so_sok_tail (so_sok_tail hst))) hc hs
theorem so_s_lastore (C : so_C p l s m args meth c M A b L xs) {j : Int32} {x : Int64} {q : Ptr} {r : List MV} (hf : mj_fetch M pc = some (.lastore, nx)) (hq : q.1 = 21) (hin : mj_in j q.2.1)
    (hJ : so_J p l e R s m args below meth c M A b L xs D Q mc ms wE (sAJ w q.2.2 j.toNatClampNeg x) nx ls r) : so_J p l e R s m args below meth c M A b L xs D Q mc ms wE w pc ls (.inr (.inl x) :: .inl j :: .inr (.inr (.inr (some q))) :: r) := by
  obtain ⟨hd, rfl⟩ := so_decn hf rfl (by decide : 0 < 1)
  intro H locs cells slots tys ad cA G K lsA hR hX hK hS hl hn hlo hst hc hs
  obtain ⟨h0, h1, hKq⟩ := so_kind_id hR.1 (hst _ (List.mem_cons_of_mem _ (List.mem_cons_of_mem _ List.mem_cons_self)) q rfl) (by omega)
  have hwa := so_ws_at (ad := ad) (cA := cA) (G := G) (K := K) h0 h1
  obtain ⟨t0, ht0⟩ := hR.2.2.1 _ h0 h1 (by rw [hKq]; omega)
  have hkI : (K q.2.2).1 = 21 := by rw [hKq]; exact hq
  rw [so_cellL hkI] at hwa
  rw [hKq] at hwa ht0
  rw [show so_ty q.1 = .long by rw [hq]; rfl] at ht0
  refine va_last C.1 C.2.1 hK hR.2.2.2.1 hR.2.2.2.2 hS (q.2.2 - 1) t0 hwa ht0 hin hd ?_
  intro H1 locs1 hP1 hD1 hS1
  rw [so_ws_set (ad := ad) (cA := cA) (G := G) (G' := G) (K := K) (w := w) (w' := sAJ w q.2.2 j.toNatClampNeg x) h0 h1 (by simp only [wrd]) (by
    rw [so_cellL hkI, hKq]
    congr 5
    funext i
    simp only [wrd, u2, vp_updL]
    simp) (fun i hi => so_cell_sAJ hi)] at hP1 hD1
  exact hJ H1 locs1 cells slots tys ad cA G K lsA ⟨so_wf_sAJ hR.1, hR.2.1, hR.2.2.1, hP1, hD1⟩ hX hK hS1 hl hn hlo (so_sok_tail (so_sok_tail (so_sok_tail hst))) hc hs
theorem so_s_aastore (C : so_C p l s m args meth c M A b L xs) {j : Int32} {v q : Ptr} {r : List MV} (hf : mj_fetch M pc = some (.aastore, nx)) (hq : q.1 = 23 ∧ v.1 = 1 ∨ q.1 = 24 ∧ v.1 = 5) (hin : mj_in j q.2.1)
    (hJ : so_J p l e R s m args below meth c M A b L xs D Q mc ms wE (sAR w q.2.2 j.toNatClampNeg (some v)) nx ls r) : so_J p l e R s m args below meth c M A b L xs D Q mc ms wE w pc ls (.inr (.inr (.inr (some v))) :: .inl j :: .inr (.inr (.inr (some q))) :: r) := by
  obtain ⟨hd, rfl⟩ := so_decn hf rfl (by decide : 0 < 1)
  intro H locs cells slots tys ad cA G K lsA hR hX hK hS hl hn hlo hst hc hs
  obtain ⟨h0, h1, hKq⟩ := so_kind_id hR.1 (hst _ (List.mem_cons_of_mem _ (List.mem_cons_of_mem _ List.mem_cons_self)) q rfl) (by omega)
  have hvok := hst _ List.mem_cons_self
  obtain ⟨v0, v1, hKv⟩ := so_kind_id hR.1 (hvok v rfl) (by omega)
  have hwa := so_ws_at (ad := ad) (cA := cA) (G := G) (K := K) h0 h1
  have hwv := so_ws_at (ad := ad) (cA := cA) (G := G) (K := K) v0 v1
  obtain ⟨t0, ht0⟩ := hR.2.2.1 _ h0 h1 (by rw [hKq]; omega)
  have hkI : 23 ≤ (K q.2.2).1 := by rw [hKq]; omega
  rw [so_cellR hkI] at hwa
  rw [so_cellO (by rw [hKv]; omega) (by rw [hKv]; omega)] at hwv
  rw [hKq] at hwa ht0
  rw [hKv] at hwv
  have fin : ∀ (H1 : Heap) (locs1 : List Loc), va_P D vwCl ((so_ws ad cA G K w).set (q.2.2 - 1) (ad q.2.2, .inl (cA q.2.2, q.2.1, .inr (.inr (.inr (.inr (va_up (fun i => (wAR w q.2.2 i).map (fun p => ad p.2.2)) j.toNatClampNeg (some (ad v.2.2))))))))) H1 → va_D A ((so_ws ad cA G K w).set (q.2.2 - 1) (ad q.2.2, .inl (cA q.2.2, q.2.1, .inr (.inr (.inr (.inr (va_up (fun i => (wAR w q.2.2 i).map (fun p => ad p.2.2)) j.toNatClampNeg (some (ad v.2.2))))))))) → va_S A s.heap H1 locs1 → W p l e R s m args below meth c H1 locs1 cells slots Q (F0 m (pc + 1) lsA (r.map (so_v ad))) := by
    intro H1 locs1 hP1 hD1 hS1
    rw [so_ws_set (ad := ad) (cA := cA) (G := G) (G' := G) (K := K) (w := w) (w' := sAR w q.2.2 j.toNatClampNeg (some v)) h0 h1 (by simp only [wrd]) (by
      rw [so_cellR hkI, hKq]
      congr 7
      funext i
      simp only [wrd, u2, va_up]
      by_cases e : i = j.toNatClampNeg <;> simp [e]) (fun i hi => so_cell_sAR hi)] at hP1 hD1
    exact hJ H1 locs1 cells slots tys ad cA G K lsA ⟨so_wf_sAR hR.1 hvok, hR.2.1, hR.2.2.1, hP1, hD1⟩ hX hK hS1 hl hn hlo (so_sok_tail (so_sok_tail (so_sok_tail hst))) hc hs
  rcases hq with ⟨hq, hv⟩ | ⟨hq, hv⟩
  · rw [show so_ty q.1 = .object RX1 by rw [hq]; rfl] at ht0
    rw [hv] at hwv
    exact va_astq (r := (RX1, TX1, 8)) C.1 C.2.1 hK hR.2.2.2.1 hR.2.2.2.2 hS (q.2.2 - 1) t0 (v.2.2 - 1) 1 hwa ht0 hwv rfl hin hd fin
  · rw [show so_ty q.1 = .object RX5 by rw [hq]; rfl] at ht0
    rw [hv] at hwv
    exact va_astq (r := (RX5, TX5, 15)) C.1 C.2.1 hK hR.2.2.2.1 hR.2.2.2.2 hS (q.2.2 - 1) t0 (v.2.2 - 1) 5 hwa ht0 hwv rfl hin hd fin
end SO
