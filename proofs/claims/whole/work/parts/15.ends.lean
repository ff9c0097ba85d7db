/-! Ends of a frame: returns, and 'throw new E("text")' of the library's exceptions. -/
def so_tn : List String := ["java/lang/RuntimeException", "java/lang/Exception"]
def so_tA (E : Nat) : List Cond := vx_atS RX8 (if E = 0 then 65 else if E = 1 then 76 else 117) (so_xn E) so_tn
theorem so_tA_in : ([0, 1, 2].all fun E => (so_tA E).all (fun w => goodWord w || so_nwk w)) = true := by decide +kernel
theorem so_tA_mem0 : ([0, 1, 2].all fun E => ((so_tA E).filter so_wNoCode).all (fun w => decide (w ∈ lw_tbl))) = true := by decide +kernel
theorem so_tA_memC0 : ∀ w ∈ (so_tA 0).filter (fun w => !(so_wNoCode w)), w ∈ lw_tbl := by decide +kernel
theorem so_tA_memC1 : ∀ w ∈ (so_tA 1).filter (fun w => !(so_wNoCode w)), w ∈ lw_tbl := by decide +kernel
theorem so_tA_memC2 : ∀ w ∈ (so_tA 2).filter (fun w => !(so_wNoCode w)), w ∈ lw_tbl := by decide +kernel
theorem so_tA_tbl {E : Nat} (hE : E < 3) {w : Cond} (h : w ∈ so_tA E) : w ∈ so_big ∨ w ∈ so_nw := by
  have hE3 : E ∈ [0, 1, 2] := by simp only [List.mem_cons, List.not_mem_nil, or_false]; omega
  have h1 : w ∈ lw_tbl := by
    by_cases hc : so_wNoCode w = true
    · have h9 := List.all_eq_true.mp (List.all_eq_true.mp so_tA_mem0 E hE3) w (List.mem_filter.mpr ⟨h, hc⟩)
      simpa using h9
    · have h9 : w ∈ (so_tA E).filter (fun w => !(so_wNoCode w)) := List.mem_filter.mpr ⟨h, by simpa using hc⟩
      rcases (show E = 0 ∨ E = 1 ∨ E = 2 by omega) with rfl | rfl | rfl
      · exact so_tA_memC0 w h9
      · exact so_tA_memC1 w h9
      · exact so_tA_memC2 w h9
  have h2 := List.all_eq_true.mp (List.all_eq_true.mp so_tA_in E hE3) w h
  rw [Bool.or_eq_true] at h2
  rcases h2 with h2 | h2
  · exact Or.inl (List.mem_filter.mpr ⟨h1, h2⟩)
  · exact Or.inr (List.mem_filter.mpr ⟨h1, h2⟩)
def so_str (i : Nat) : Option String := (lw_tbl.filterMap (fun w => match w with
  | .stringRef a k tx => if a = RX8 ∧ k = i then some tx else none
  | _ => none)).head?
theorem so_str_mem {i : Nat} {tx : String} (h : so_str i = some tx) : Cond.stringRef RX8 i tx ∈ lw_tbl := by
  have h1 := List.mem_of_mem_head? h
  obtain ⟨w, hw, h2⟩ := List.mem_filterMap.mp h1
  cases w <;> first | (cases h2; done) | skip
  rename_i a k t9
  have h3 : (if a = RX8 ∧ k = i then some t9 else none) = some tx := h2
  split at h3
  · rename_i hc
    obtain ⟨rfl, rfl⟩ := hc
    cases h3
    exact hw
  · cases h3
def so_wc (e : Nat × Nat × Nat × Nat × Nat) : Bool :=
  decide (decode (mj_c (e.1 / 10000)) (e.1 % 10000) = .ok (.new e.2.2.1, 3)) && decide (decode (mj_c (e.1 / 10000)) (e.1 % 10000 + 3) = .ok (.dup, 1)) && decide (decode (mj_c (e.1 / 10000)) (e.1 % 10000 + 4) = .ok (.ldc e.2.2.2.1, 2)) && decide (decode (mj_c (e.1 / 10000)) (e.1 % 10000 + 6) = .ok (.invokespecial e.2.2.2.2, 3)) && decide (decode (mj_c (e.1 / 10000)) (e.1 % 10000 + 9) = .ok (.athrow, 1)) &&
  decide (mj_o (e.1 / 10000) = 8) && decide (mj_h (e.1 / 10000) = []) && decide (e.2.1 < 3) && decide (mj_exc 8 e.2.2.1 = some e.2.1) && (so_str e.2.2.2.1).isSome && decide (e.2.2.2.2 = if e.2.1 = 0 then 65 else if e.2.1 = 1 then 76 else 117)
set_option maxRecDepth 100000 in
theorem so_wL_all : mj_wL.all so_wc = true := by decide +kernel
theorem so_thr {M pc E ik is ic : Nat} (h : mj_thr M pc = some (E, ik, is, ic)) : decode (mj_c M) pc = .ok (.new ik, 3) ∧ decode (mj_c M) (pc + 3) = .ok (.dup, 1) ∧ decode (mj_c M) (pc + 4) = .ok (.ldc is, 2) ∧ decode (mj_c M) (pc + 6) = .ok (.invokespecial ic, 3) ∧ decode (mj_c M) (pc + 9) = .ok (.athrow, 1) ∧ mj_o M = 8 ∧ mj_h M = [] ∧ E < 3 ∧ mj_exc 8 ik = some E ∧ (∃ tx, so_str is = some tx) ∧ ic = if E = 0 then 65 else if E = 1 then 76 else 117 := by
  unfold mj_thr at h
  split at h
  · have h1 := List.all_eq_true.mp so_wL_all _ (mj_lk_mem h)
    unfold so_wc at h1
    have e1 : (M * 10000 + pc) / 10000 = M := by omega
    have e2 : (M * 10000 + pc) % 10000 = pc := by omega
    simp only [e1, e2, Bool.and_eq_true, decide_eq_true_eq] at h1
    obtain ⟨⟨⟨⟨⟨⟨⟨⟨⟨⟨h1, h2⟩, h3⟩, h4⟩, h5⟩, h6⟩, h7⟩, h8⟩, h9⟩, h10⟩, h11⟩ := h1
    exact ⟨h1, h2, h3, h4, h5, h6, h7, h8, h9, Option.isSome_iff_exists.mp h10, h11⟩
  · cases h
theorem so_xn_fit {E : Nat} (h : E < 3) : Bundle.fit (so_xn E) = true := by
  rcases (show E = 0 ∨ E = 1 ∨ E = 2 by omega) with rfl | rfl | rfl <;> decide +kernel
def mj_retI (i : Instr) (v : Option MV) : Prop := (i = .ireturn ∧ ∃ x, v = some (.inl x)) ∨ (i = .lreturn ∧ ∃ x, v = some (.inr (.inl x))) ∨ (i = .dreturn ∧ ∃ x, v = some (.inr (.inr (.inl x)))) ∨ (i = .areturn ∧ ∃ x, v = some (.inr (.inr (.inr x)))) ∨ (i = .return_ ∧ v = none)
section SO
variable {p : Program} {l : Launch} {e : Env} {R : Room} {s : State} {m : MethodId} {args : Array Value} {below : List Frame} {meth : Method} {c : Code} {M L : Nat} {b : so_B} {xs : Nat → Int32} {A : Nat → Prop} {D : va_G} {mc ms : Nat} {wE w : MWd} {pc nx : Nat} {ls : List (Option MV)} {st : List MV} {i : Instr}
variable {Qc : Array Value → State → Outcome → State → Prop} {XC : String → Addr → State → State → Prop} {free : Addr → Prop}
theorem so_s_thr (C : so_C p l s m args meth c M A b L xs) {E ik is ic : Nat} (hw : mj_thr M pc = some (E, ik, is, ic)) (hwt : mj_wt st ≤ 8) (hRm : so_Rm R mc ms)
    (hx : ∀ (H : Heap) (locs : List Loc) (tys : List (ClassId × FieldType)) (ad : Nat → Nat) (cA : Nat → ClassId) (G : Nat → Nat → Value) (K : Nat → Nat × Nat) (q : Addr) (t : State), so_Rep D A L b tys ad cA G K (mj_tick w) H → wAI (mj_tick w) 0 = xs → va_K D vwCl tys s → va_S A s.heap H locs → t.heap = H → s.vm.Alike t.vm → XC (so_xn E) q s t) (hfree : ∀ q, A q → free q) :
    so_J p l e R s m args below meth c M A b L xs D (vx_MQ below Qc XC args s mc ms free) mc ms (mj_tick w) w pc ls st := by
  obtain ⟨d0, d3, d4, d6, d9, ho, hh, hE, hexc, ⟨tx, htx⟩, hic⟩ := so_thr hw
  intro H locs cells slots tys ad cA G K lsA hR hX hK hS hl hn hlo hst hc hs
  obtain ⟨hx9, hb, -, hml, hown, hts, hlocks, hlt, hA, hSt, -, htab⟩ := C
  obtain ⟨-, -, hk1, hk2, -⟩ := so_exc hexc
  obtain ⟨sa, hsa⟩ := hSt.2.2.2.2.2.2.2.2.2.1 is tx (so_str_mem htx)
  have hown8 : s.vm.findClass RX8 = some m.cls := by rw [ho] at hown; exact hown
  have hcat : ((st.map (so_v ad)).map fun v => v.category).sum ≤ 8 := by
    rw [List.map_map, show ((fun v => v.category) ∘ so_v ad) = mj_cat from funext (fun v => so_cat ad v)]
    exact hwt
  obtain ⟨r1, r2, r3, r4⟩ := hRm
  have hatl : vx_atS RX8 ic (so_xn E) so_tn = so_tA E := by rw [hic]; rfl
  have hc' : cells + (wC w + 1) = mc + wC w := hc
  have hs' : slots + (wS w + 6) = ms + wS w := hs
  refine vx_throwS (own := RX8) (cls := so_xn E) (text := tx) (names := so_tn) (ik := ik) (is := is) (ic := ic) (sa := sa) (A := A) hx9 hb hlt hown8 (so_xn_fit hE) (by decide +kernel) (hts _ hk1) (hts _ hk2) hsa ?_ ?_ hSt.2.2.2.1 hSt.2.2.2.2.1 hS (by rw [hml]; exact hl.1) d0 d3 d4 d6 d9 ?_ (by show 2 + 3 < _; omega) (by show _ + (13 * (2 + 1) + 43) ≤ _; omega) (by omega) (by omega) hlocks ?_ (fun z hz => hfree _ (hS.2.2 z hz)) (by omega) (by omega)
  · intro w9 hw9
    rw [hatl] at hw9
    rcases so_tA_tbl hE hw9 with h | h
    · exact hts w9 h
    · exact va_Nw.use (so_nwk_on (List.mem_filter.mp h).2) (hSt.2.2.2.2.2.1 w9 h)
  · intro w9 hw9
    unfold vx_ot
    rw [Bool.or_eq_true]
    rcases List.mem_cons.mp hw9 with h | hw9
    · exact Or.inr (by rw [h]; exact (List.mem_filter.mp hk1).2)
    · rcases List.mem_cons.mp hw9 with h | hw9
      · exact Or.inr (by rw [h]; exact (List.mem_filter.mp hk2).2)
      · rw [hatl] at hw9
        rcases so_tA_tbl hE hw9 with h | h
        · exact Or.inr (List.mem_filter.mp h).2
        · exact Or.inl (so_nwk_on (List.mem_filter.mp h).2)
  · intro x hx
    rw [htab, hh] at hx
    cases hx
  · intro q9 t ht1 ht2 ht3
    obtain ⟨g1, g2, g3, g4, g5⟩ := hR
    exact hx t.heap locs tys ad cA G K q9 t ⟨g1, g2, g3, g4.kept (fun k x h9 => ht3 x.1 ((g4 k x h9).lt)), g5⟩ hX hK ⟨Nat.le_trans hS.1 ht2, fun q h1 h2 => (ht3 q (Nat.lt_of_lt_of_le h1 hS.1)).trans (hS.2.1 q h1 h2), hS.2.2⟩ rfl ht1
theorem so_s_ret (C : so_C p l s m args meth c M A b L xs) {v : Option MV} (hf : mj_fetch M pc = some (i, nx)) (hi : mj_retI i v) (hok : mj_retOk M v = true) (hst : st = v.toList)
    (hq : ∀ (H : Heap) (locs : List Loc) (tys : List (ClassId × FieldType)) (ad : Nat → Nat) (cA : Nat → ClassId) (G : Nat → Nat → Value) (K : Nat → Nat × Nat) (t : State), so_Rep D A L b tys ad cA G K w H → wAI w 0 = xs → va_K D vwCl tys s → va_S A s.heap H locs → (∀ x, v = some x → so_ok (wN w) K x) → t.heap = H → s.WarmedH t.vm → Qc args s (.returned (v.map (so_v ad))) t) (hfree : ∀ q, A q → free q) :
    so_J p l e R s m args below meth c M A b L xs D (vx_MQ below Qc XC args s mc ms free) mc ms w w pc ls st := by
  intro H locs cells slots tys ad cA G K lsA hR hX hK hS hl hn hlo hso hc hs
  obtain ⟨hx9, hb, hr, hml, hown, hts, hlocks, -⟩ := C
  have hcm : cells = mc := by omega
  have hsm : slots = ms := by omega
  subst hcm; subst hsm; subst hst
  have hqq : ∀ t : State, t.heap = H → s.WarmedH t.vm → Qc args s (.returned (v.map (so_v ad))) t := fun t h1 h2 => hq H locs tys ad cA G K t hR hX hK hS (fun x hx => hso x (by rw [hx]; exact List.mem_cons_self)) h1 h2
  have hff : ∀ q ∈ locs, free q.base := fun z hz => hfree _ (hS.2.2 z hz)
  rcases hi with ⟨rfl, x, rfl⟩ | ⟨rfl, x, rfl⟩ | ⟨rfl, x, rfl⟩ | ⟨rfl, x, rfl⟩ | ⟨rfl, rfl⟩
  · obtain ⟨hd, rfl⟩ := so_decn hf rfl (by decide : 0 < 1)
    unfold mj_retOk at hok
    split at hok
    · rename_i h _; cases h
    · rename_i h1 h2
      cases h1
      exact vx_ret (W.iret hx9 hb (by rw [hr, h2]) hqq hff hd)
    · rename_i h1 h2
      cases h1
      have h3 := of_decide_eq_true hok
      exact vx_ret (W.zret (ty := .boolean) hx9 hb (by rw [hr, h2]) (by rcases h3 with rfl | rfl <;> rfl) hqq hff hd)
    · rename_i h _; cases h
    · rename_i h _; cases h
    · rename_i h _; cases h
    · cases hok
  · obtain ⟨hd, rfl⟩ := so_decn hf rfl (by decide : 0 < 1)
    unfold mj_retOk at hok
    split at hok
    · rename_i h _; cases h
    · rename_i h _; cases h
    · rename_i h _; cases h
    · rename_i h1 h2
      cases h1
      exact vx_ret (W.lret hx9 hb (by rw [hr, h2]) hqq hff hd)
    · rename_i h _; cases h
    · rename_i h _; cases h
    · cases hok
  · obtain ⟨hd, rfl⟩ := so_decn hf rfl (by decide : 0 < 1)
    unfold mj_retOk at hok
    split at hok
    · rename_i h _; cases h
    · rename_i h _; cases h
    · rename_i h _; cases h
    · rename_i h _; cases h
    · rename_i h1 h2
      cases h1
      exact vx_ret (W.dret hx9 hb (by rw [hr, h2]) hqq hff hd)
    · rename_i h _; cases h
    · cases hok
  · obtain ⟨hd, rfl⟩ := so_decn hf rfl (by decide : 0 < 1)
    unfold mj_retOk at hok
    split at hok
    · rename_i h _; cases h
    · rename_i h _; cases h
    · rename_i h _; cases h
    · rename_i h _; cases h
    · rename_i h _; cases h
    · rename_i h1 h2
      cases h1
      exact vx_ret (W.aret hx9 hb (by rw [hr, h2]) (Or.inl ⟨_, rfl⟩) (by
        cases x with
        | none => exact Or.inl rfl
        | some q => exact Or.inr ⟨_, rfl⟩) hqq hff hd)
    · cases hok
  · obtain ⟨hd, rfl⟩ := so_decn hf rfl (by decide : 0 < 1)
    unfold mj_retOk at hok
    split at hok
    · rename_i h2
      exact vx_ret (W.vret hx9 hb (by rw [hr, h2]) hqq hff hd)
    · rename_i h _; cases h
    · rename_i h _; cases h
    · rename_i h _; cases h
    · rename_i h _; cases h
    · rename_i h _; cases h
    · cases hok
end SO
