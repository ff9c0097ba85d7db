/-! The reference's exception: the constructor above it, its own, and 'throw new Wrong(at)' whole. -/
def so_rt : String := "java/lang/RuntimeException"
def so_wAt : List Cond := Bundle.throwableAtoms ++ Bundle.chain0Atoms so_rt ["java/lang/Exception"] ++
  [.methodLink RX9 1 (Bundle.init0 so_rt), .instantiable RX9 7, .selects RX9 Bundle.tFill0 Bundle.tFill0, .selects RX9 Bundle.tFill Bundle.tFill,
   .lays RX9 Bundle.tN "cause" "Ljava/lang/Throwable;", .lays RX9 Bundle.tN "stackTrace" Bundle.steD, .lays RX9 Bundle.tN "suppressedExceptions" Bundle.listD, .lays RX9 Bundle.tN "detailMessage" "Ljava/lang/String;",
   .isRef (.static Bundle.tN "UNASSIGNED_STACK" Bundle.steD), .isRef (.static Bundle.tN "SUPPRESSED_SENTINEL" Bundle.listD),
   .fieldLink Bundle.tN 198 Bundle.tN "backtrace" "Ljava/lang/Object;", .lays Bundle.tN Bundle.tN "backtrace" "Ljava/lang/Object;", .lays RX9 Bundle.tN "backtrace" "Ljava/lang/Object;"]
section WR
variable {p : Program} {l : Launch} {e : Env} {R : Room} {s : State} {m₀ : MethodId} {args : Array Value} {below : List Frame} {meth : Method} {c : Code} {W : State} {locs : List Loc} {cells slots : Nat}
set_option maxHeartbeats 2000000 in
/-- 'super()' in Wrong's constructor, on a new object (after the kit's vx_ctorMade0) -/
theorem so_superMade (X : Stand p l e R s m₀ args below meth c W locs cells slots) (hexec : p.tables.exec = Jvm.exec) (htr : e.platform.stackTraces = false)
    (hown : s.vm.findClass RX9 = some m₀.cls) (h : ∀ a ∈ so_wAt, a.before args s = true)
    (hlocs : ∀ x ∈ locs, ∀ cell, s.heap[x.base]? = some cell → cell.vm.isStatics = false)
    {a : Addr} {kX : Class} (hkX : s.vm.classes[m₀.cls]? = some kX) (hcell : W.heap[a]? = some (freshCell m₀.cls kX))
    {g : JFrame} (hg : g.method = m₀) (hsize : g.locals.size = c.maxLocals) {rest : List Value} (hstack : g.stack = .ref a :: rest)
    (hd6 : decode c.code g.pc = .ok (.invokespecial 1, 3))
    (hRframes : 4 < R.frames) (hRlocals : 2 * g.monitorRoom + (rest.map fun v => v.category).sum + 67 ≤ R.locals) :
    ∃ (V : State) (ce : Cell) (L : List Loc), Stand p l e R s m₀ args below meth c (V.setCell a ce) (locs ++ L) cells slots ∧ (∀ y ∈ L, y.base = a) ∧ V.heap = W.heap ∧ ce.cls = m₀.cls ∧ ce.vm = .none ∧ ce.slots.size = (freshCell m₀.cls kX).slots.size ∧
      ∀ target, Steps p.tables e below ((V.setCell a ce).setTop { g with stack := rest, pc := g.pc + 3 }) target → Steps p.tables e below (W.setTop g) target := by
  have howns : e.platform.frameOwnsMonitors = true := by rw [X.admits.platform]
  have hfin : e.platform.finalization = false := by rw [X.admits.platform]
  have hpl : e.platform.magicAccessors = ({} : Platform).magicAccessors := by rw [X.admits.platform]
  have a' : ∀ x, x ∈ so_wAt → x.holds args s none s [] = true := fun x hx => h x hx
  obtain ⟨T, Z, L, LZ, Y⟩ := ThrowableC.of_atoms (args := args) howns hfin hpl (fun x hx => h x (by simp [so_wAt, hx]))
  obtain ⟨P1, Ps, hlen, L1, hL, hP1m, hlink1, hlink⟩ := Bundle.chain0 (args := args) hpl Y.init0 ["java/lang/Exception"] so_rt (by decide) (by decide) (fun x hx => h x (by simp only [so_wAt, List.mem_append]; exact Or.inl (Or.inr hx)))
  obtain ⟨c1, kX', hc1, hk, hord, -, -, hn6⟩ := Cond.instantiable_spec (a' (.instantiable RX9 7) (by simp [so_wAt]))
  cases Option.some.inj (hc1.symm.trans hown)
  cases Option.some.inj (hkX.symm.trans hk)
  have hfound := hown
  have hsel0 : selectMethod e.platform s.vm m₀.cls T.fill0 = .method T.fill0 := by
    obtain ⟨c2, r2, m2, q1, q2, q3, q4, -⟩ := Cond.selects_spec (a' (.selects RX9 Bundle.tFill0 Bundle.tFill0) (by simp [so_wAt]))
    cases Option.some.inj (q1.symm.trans hfound)
    cases Option.some.inj (q2.symm.trans (State.methodFound?_of_named Y.fill0 (by decide)))
    cases Option.some.inj (q3.symm.trans Y.fill0)
    rw [Launch.admits_selectMethod X.admits]; exact q4
  have hselF : selectMethod e.platform s.vm m₀.cls T.fill = .method T.fill := by
    obtain ⟨c2, r2, m2, q1, q2, q3, q4, -⟩ := Cond.selects_spec (a' (.selects RX9 Bundle.tFill Bundle.tFill) (by simp [so_wAt]))
    cases Option.some.inj (q1.symm.trans hfound)
    cases Option.some.inj (q2.symm.trans (State.methodFound?_of_named Y.fill (by decide)))
    cases Option.some.inj (q3.symm.trans Y.fill)
    rw [Launch.admits_selectMethod X.admits]; exact q4
  obtain ⟨cellS0, hcS0, hiss⟩ := Y.statics
  obtain ⟨u0, hu0⟩ := Cond.staticRefV Y.unassigned L.unassignedStatic L.statics hcS0 hiss (a' (.isRef (.static Bundle.tN "UNASSIGNED_STACK" Bundle.steD)) (by simp [so_wAt]))
  obtain ⟨sen, hsen⟩ := Cond.staticRefV Y.sentinel L.sentinelStatic L.statics hcS0 hiss (a' (.isRef (.static Bundle.tN "SUPPRESSED_SENTINEL" Bundle.listD)) (by simp [so_wAt]))
  obtain ⟨ci198, i198, fB, hk198, hg198, ha198, hsB, -, hnB, htB, hffB⟩ := Cond.ownField (t := .object "java/lang/Object") Y.found L.cls (by decide +kernel) (a' (.fieldLink Bundle.tN 198 Bundle.tN "backtrace" "Ljava/lang/Object;") (by simp [so_wAt])) (a' (.lays Bundle.tN Bundle.tN "backtrace" "Ljava/lang/Object;") (by simp [so_wAt])) e.platform hpl
  obtain ⟨cellS, hcS', heS, -, hkeep⟩ := X.same.2.2.2.2.2 T.aS cellS0 hcS0
  have hcellS : W.heap[T.aS]? = some cellS := hcS'
  have hout' : ∀ i, (⟨T.aS, i⟩ : Loc) ∉ locs := fun i hmem => by
    have := hlocs _ hmem cellS0 hcS0
    rw [hiss] at this; cases this
  have hvmS : cellS.vm = cellS0.vm := by rw [heS]
  have hknownS : cellS.vm ≠ .unknown := by
    rw [heS]; intro hu
    rw [show cellS0.vm = .unknown from hu] at hiss
    cases hiss
  have hneS : T.aS ≠ a := by
    intro he
    rw [he] at hcellS
    have e9 := Option.some.inj (hcellS.symm.trans hcell)
    rw [e9] at hvmS
    rw [← hvmS] at hiss
    cases hiss
  obtain ⟨iM, hffM⟩ := Y.msg
  obtain ⟨tyC, dC, hdC, hdnC⟩ := Cond.laysAt hfound hk Y.cause (a' (.lays RX9 Bundle.tN "cause" "Ljava/lang/Throwable;") (by simp [so_wAt]))
  obtain ⟨tyS, dS, hdS, hdnS⟩ := Cond.laysAt hfound hk Y.stack (a' (.lays RX9 Bundle.tN "stackTrace" Bundle.steD) (by simp [so_wAt]))
  obtain ⟨tyP, dP, hdP, hdnP⟩ := Cond.laysAt hfound hk Y.supp (a' (.lays RX9 Bundle.tN "suppressedExceptions" Bundle.listD) (by simp [so_wAt]))
  obtain ⟨tyB, dB, hdB, hdnB⟩ := Cond.laysAt hfound hk hffB (a' (.lays RX9 Bundle.tN "backtrace" "Ljava/lang/Object;") (by simp [so_wAt]))
  have bC := Cond.laysApart hdB hdC hdnB hdnC (by rw [hnB, Y.causeName]; decide)
  have bS := Cond.laysApart hdB hdS hdnB hdnS (by rw [hnB, Y.stackName]; decide)
  have bP := Cond.laysApart hdB hdP hdnB hdnP (by rw [hnB, Y.suppName]; decide)
  have hskip : SkipFacts T e.platform s (fun u => u) u0 ((preparedCellV T.toThrowableT (freshCell m₀.cls kX) a u0 sen).withEntry W.cur) :=
    ⟨{ ci198 := ci198, i198 := i198, fBack := fB }, ⟨hk198, hg198, ha198, hsB⟩, by
      have := fresh_default (c := m₀.cls) tyB
      rw [htB] at this
      simpa [preparedCellV, Cell.setSlot, Cell.withEntry, Array.getElem?_setIfInBounds, bC, bS, bP, bC.symm, bS.symm, bP.symm, defaultValue] using this, fun _ _ => rfl⟩
  obtain ⟨tm, methC, cdC, kC, vm₁, hnC, -, -, -, -, -, -, -, hW₁, st1⟩ := Steps.initCold (tb := p.tables) (e := e) (below := below) (s := s) (U := W) X.here hexec X.warmed hpl hown (t := Bundle.init0 so_rt) rfl rfl (by decide)
    (a' (.methodLink RX9 1 (Bundle.init0 so_rt)) (by simp [so_wAt])) (h (.instanceMethod (Bundle.init0 so_rt)) (by simp [so_wAt, Bundle.chain0Atoms, Bundle.passAtoms])) (bytes := Bundle.five) (maxL := 1) (h (.code (Bundle.init0 so_rt) Bundle.five 1 none) (by simp [so_wAt, Bundle.chain0Atoms, Bundle.passAtoms]))
    (f := g) hg (a := a) (rest := rest) hstack hd6
  cases Option.some.inj (hnC.symm.trans hP1m)
  have X₁ := X.noted hW₁
  obtain ⟨vm₂, X₂, st2⟩ := X₁.ctorPlainOffV hexec (g := { g with stack := rest }) hg hsize T L Z LZ (P1 :: Ps)
    (fun P hP => by rcases List.mem_cons.mp hP with rfl | hP; exact L1; exact hL P hP) ⟨hlink1, hlink⟩ (u0 := u0) (sen := sen) (self := a) (cell := freshCell m₀.cls kX) (cellS := cellS)
    hcell (fun _ => by simp) (by simp) rfl rfl hsel0 hselF hcellS hneS hknownS (by rw [hkeep _ (hout' _)]; exact hu0) (by rw [hkeep _ (hout' _)]; exact hsen)
    (Takes.of_laid hk hord tyC (by rw [Y.causeType]; rfl)) (Takes.of_laid hk hord tyS (by rw [Y.stackType]; exact fits_refV_array _ u0)) (Takes.of_laid hk hord tyP (by rw [Y.suppType]; exact fits_refV_object _ sen)) Y.objLocals hskip htr [] hd6
    (by simp only [List.length_cons, hlen, List.length_nil]; omega) (by simp only [List.length_cons, hlen, List.length_nil]; omega)
  refine ⟨(W.setVm vm₁).setVm vm₂, _, _, X₂, fun y hy => ?_, rfl, rfl, rfl, ?_, fun target hwalk => st1 _ (fun acts => ?_)⟩
  · simp only [List.mem_cons, List.not_mem_nil, or_false] at hy
    rcases hy with rfl | rfl | rfl | rfl <;> rfl
  · simp [preparedCellV, Cell.setSlot]
  · rw [doInvoke_state]
    exact st2 _ hwalk
end WR
theorem so_q0 : decode (mj_c 107) 0 = .ok (.aload_n 0, 1) := by decide +kernel
theorem so_q1 : decode (mj_c 107) 1 = .ok (.invokespecial 1, 3) := by decide +kernel
theorem so_q4 : decode (mj_c 107) 4 = .ok (.aload_n 0, 1) := by decide +kernel
theorem so_q5 : decode (mj_c 107) 5 = .ok (.iload_n 1, 1) := by decide +kernel
theorem so_q6 : decode (mj_c 107) 6 = .ok (.putfield 7, 3) := by decide +kernel
theorem so_q9 : decode (mj_c 107) 9 = .ok (.return_, 1) := by decide +kernel
theorem so_wAt_in : (so_wAt.filter vx_no).all (fun w => goodWord w || so_nwk w) = true := by decide +kernel
def so_wNoCode (w : Cond) : Bool := match w with
  | .code .. => false
  | .codeSync .. => false
  | _ => true
theorem so_wAt_mem0 : ((so_wAt.filter vx_no).filter so_wNoCode).all (fun w => decide (w ∈ lw_tbl)) = true := by decide +kernel
theorem so_wAt_memC : ∀ w ∈ (so_wAt.filter vx_no).filter (fun w => !(so_wNoCode w)), w ∈ lw_tbl := by decide +kernel
theorem so_wAt_tbl {w : Cond} (h : w ∈ so_wAt.filter vx_no) : w ∈ so_big ∨ w ∈ so_nw := by
  have h1 : w ∈ lw_tbl := by
    by_cases hc : so_wNoCode w = true
    · have := List.all_eq_true.mp so_wAt_mem0 w (List.mem_filter.mpr ⟨h, hc⟩)
      simpa using this
    · exact so_wAt_memC w (List.mem_filter.mpr ⟨h, by simpa using hc⟩)
  have h2 := List.all_eq_true.mp so_wAt_in w h
  rw [Bool.or_eq_true] at h2
  rcases h2 with h2 | h2
  · exact Or.inl (List.mem_filter.mpr ⟨h1, h2⟩)
  · exact Or.inr (List.mem_filter.mpr ⟨h1, h2⟩)
theorem so_nwk_on {w : Cond} (h : so_nwk w = true) : w.onTables = true := by
  cases w <;> first | rfl | exact absurd h Bool.false_ne_true
def so_wPc (D : va_G) (a : Nat) (v : Int32) : Array Value → State → Prop := va_Pc [.ref a, .int v] (fun U => (∃ kX : Class, U.vm.classes[D.1 9]? = some kX ∧ U.heap[a]? = some (freshCell (D.1 9) kX)) ∧ va_K D vwCl [] U ∧ (∀ w ∈ so_nw, va_Nw w U) ∧ ∃ A0, vx_Zq Bundle.tN "UNASSIGNED_STACK" Bundle.steD A0 U U.heap ∧ vx_Zq Bundle.tN "SUPPRESSED_SENTINEL" Bundle.listD A0 U U.heap)
def so_wQc (D : va_G) (a : Nat) (v : Int32) : Array Value → State → Outcome → State → Prop := fun _ st o t => o = .returned none ∧ (∃ g : Nat → Value, va_P D vwCl [(a, .inr (9, [g 0, g 1, g 2, g 3, g 4, g 5, .int v]))] t.heap) ∧ va_F (fun q => q = a) st t
theorem so_wi (l : Launch) (hlt : l.stackTraces = false) (D : va_G) (a : Nat) (v : Int32) : vx_Met l (mj_y 107) (so_hd 107 :: so_big) { frames := 5, cells := 0, slots := 0, locals := 100 } (so_wPc D a v) (so_wQc D a v) (fun _ _ _ _ => False) 0 0 (fun q => q = a) := by
  refine vx_ofW (cc := mj_c 107) (maxL := 2) (ret := none) (so_m (by decide : 107 < 182)).2.2.2.2.2.1 rfl ?_
  intro p e s m args below meth c s₁ B hml hexcF hv
  obtain ⟨rfl, ⟨kX, hkX, hcell⟩, hK, hnw, A0, hU, hN⟩ := hv
  have hx := B.exec
  have hb := B.bytes
  have hr := B.returns
  have hts := atoms_spec (ws := so_hd 107 :: so_big) B.pre
  have hown : s.vm.findClass RX9 = some m.cls := findClass_of_methodNamed B.named
  have hlocks := B.notSynchronized
  have hin : meth.name = "<init>" := (name_of_methodNamed B.named B.method).1
  have hcl9 : s.vm.findClass RX9 = some (D.1 9) := (hK.1 9 _ rfl).2.1
  have hm9 : D.1 9 = m.cls := Option.some.inj (hcl9.symm.trans hown)
  have hbig : ∀ w ∈ so_big, w.before ([.ref a, .int v] : List Value).toArray s = true := fun w hw => hts w (List.mem_cons_of_mem _ hw)
  have hat : ∀ w ∈ so_wAt, w.before ([.ref a, .int v] : List Value).toArray s = true := vx_own (fun w hw => by
    rcases so_wAt_tbl hw with h | h
    · exact hbig w h
    · exact va_Nw.use (so_nwk_on (List.mem_filter.mp h).2) (hnw w h)) (vx_isRefq hU.1) (vx_isRefq hN.1) hU.2.word hN.2.word
  have hl := lv_entry ([.ref a, .int v]) (n := 2) (Nat.le_of_ble_eq_true rfl)
  rw [lg_entry_eq]
  generalize (lg_sl ([.ref a, .int v]) ++ List.replicate (2 - (lg_sl ([.ref a, .int v])).length) Slot.unset).toArray = ls at hl ⊢
  have hl : lv_has ls 2 [(0, .ref a), (1, .int v)] := hl
  refine lv_aload_n hx hb so_q0 rfl (lv_at hl 0 rfl) ?_
  intro T hT X
  have htr : e.platform.stackTraces = false := (show e.platform.stackTraces = l.stackTraces by rw [X.admits.platform]).trans hlt
  obtain ⟨V, ce, L, XV, hLa, hVh, hc1, hc2, hc3, hgo⟩ := so_superMade X hx htr hown hat (fun x hx => nomatch hx) (a := a) (kX := kX) (by rw [← hm9]; exact hkX) (by rw [hT, ← hm9]; exact hcell) (g := F0 m 1 ls [.ref a]) rfl (by rw [hml]; exact hl.1) (rest := []) rfl (by rw [hb]; exact so_q1) (by show 4 < 5; omega) (by show 2 * 0 + 0 + 67 ≤ 100; omega)
  suffices K : W p l e (headSpec (so_hd 107 :: so_big) { frames := 5, cells := 0, slots := 0, locals := 100 }).room s m ([.ref a, .int v] : List Value).toArray below meth c (V.setCell a ce).heap ([] ++ L) 0 0 (vx_MQ below (so_wQc D a v) (fun _ _ _ _ => False) ([.ref a, .int v] : List Value).toArray s 0 0 (fun q => q = a)) (F0 m 4 ls []) by
    obtain ⟨t, a1, b1⟩ := K _ rfl XV
    exact ⟨t, hgo t a1, b1⟩
  have hVs : V.heap = s.heap := by rw [hVh, hT]
  have hlt9 : a < s.heap.size := (Array.getElem?_eq_some_iff.mp hcell).1
  have hsz : (V.setCell a ce).heap.size = s.heap.size := by rw [size_setCell, hVs]
  have hself : (V.setCell a ce).heap[a]? = some ce := by
    simp [State.setCell, hVs, hlt9]
  have hoth : ∀ q, q ≠ a → (V.setCell a ce).heap[q]? = s.heap[q]? := fun q hq => by
    simp [State.setCell, hVs, Array.getElem?_setIfInBounds, Ne.symm hq]
  obtain ⟨cell0, hc0, -, -, hsl0⟩ := u_born (C := RX9) (T := TX9) (N := 7) tyX9 hbig (so_uw 9 _ rfl) (hK.1 9 _ rfl) hkX (show s.heap[a]? = some (blank (D.1 9) kX) from hcell) tyX9_ok
  have hce0 : cell0 = freshCell (D.1 9) kX := Option.some.inj (hc0.symm.trans hcell)
  have hin9 : ∀ k, k < 7 → ∃ y, ce.slots[D.2 9 k]? = some y := fun k hk => by
    have h1 := (Array.getElem?_eq_some_iff.mp (hsl0 k hk)).1
    rw [hce0, hm9, ← hc3] at h1
    exact ⟨_, Array.getElem?_eq_getElem h1⟩
  obtain ⟨g, hg⟩ : ∃ g : Nat → Value, ∀ k, k < 7 → ce.slots[D.2 9 k]? = some (g k) := ⟨fun k => (ce.slots[D.2 9 k]?).getD .null, fun k hk => by obtain ⟨y, hy⟩ := hin9 k hk; simp [hy]⟩
  have hP : va_P D vwCl [(a, .inr (9, [g 0, g 1, g 2, g 3, g 4, g 5, g 6]))] (V.setCell a ce).heap := by
    intro k q hq
    have h0 : k = 0 := by have := (List.getElem?_eq_some_iff.mp hq).1; simp at this; omega
    subst h0
    cases hq
    refine ⟨(RX9, TX9, 7), rfl, ce, hself, by rw [hc1]; exact hm9.symm, hc2, ?_⟩
    intro k hk
    have hk7 : k < 7 := hk
    rcases (show k = 0 ∨ k = 1 ∨ k = 2 ∨ k = 3 ∨ k = 4 ∨ k = 5 ∨ k = 6 by omega) with rfl | rfl | rfl | rfl | rfl | rfl | rfl <;> exact hg _ (by omega)
  have hD : va_D (fun q => q = a) [(a, .inr (9, [g 0, g 1, g 2, g 3, g 4, g 5, g 6]))] := by
    refine ⟨fun i j p q hi hj _ => ?_, fun k q hq => ?_⟩
    · have h1 := (List.getElem?_eq_some_iff.mp hi).1
      have h2 := (List.getElem?_eq_some_iff.mp hj).1
      simp at h1 h2
      omega
    · have h0 : k = 0 := by have := (List.getElem?_eq_some_iff.mp hq).1; simp at this; omega
      subst h0
      cases hq
      rfl
  have hS : va_S (fun q => q = a) s.heap (V.setCell a ce).heap ([] ++ L) := ⟨by rw [hsz]; exact Nat.le_refl _, fun q _ hq => hoth q hq, fun y hy => hLa y (by simpa using hy)⟩
  generalize (V.setCell a ce).heap = H at hP hS ⊢
  generalize [] ++ L = locs at hS ⊢
  have hlink : Cond.fieldLink RX9 7 RX9 "place" "I" ∈ so_big := by
    obtain ⟨q, hq, -, h | ⟨host, h⟩⟩ := so_fld (o := 9) (i := 7) (ci := 9) (k := 6) (by decide +kernel)
    · cases hq; exact h
    · exact absurd rfl (so_nest_ne (o := 9) (i := 7) (ci := 9) (k := 6) (by decide +kernel) h)
  refine lv_aload_n hx hb so_q4 rfl (lv_at hl 0 rfl) ?_
  refine lv_iload_n hx hb so_q5 rfl (lv_at hl 1 rfl) ?_
  refine va_putF (D := D) (ci := 9) (v := .int v) (ty := .int) (own := RX9) (ref := RX9) (C := RX9) (T := TX9) (N := 7) hx hb hbig (so_uw 9 _ rfl) tyX9 tyX9_ok nmX9 hown hK hP hD hS 0 rfl rfl 6 (by decide) (hbig _ hlink) (fun _ h9 => h9) rfl hin rfl (by decide +kernel) rfl rfl (Nat.le_of_ble_eq_true rfl) so_q6 (fun H1 locs1 hP1 hD1 hS1 => ?_)
  refine vx_ret ?_
  exact W.vret hx hb hr (fun t ht hW => ⟨rfl, ⟨g, by rw [ht]; exact hP1⟩, hS1.F ht⟩) hS1.2.2 so_q9
theorem so_vL_all : mj_vL.all (fun k => decide (decode (mj_c (k / 10000)) (k % 10000) = .ok (.new 126, 3)) && decide (decode (mj_c (k / 10000)) (k % 10000 + 3) = .ok (.dup, 1)) && decide (decode (mj_c (k / 10000)) (k % 10000 + 4) = .ok (.aload_n 0, 1)) && decide (decode (mj_c (k / 10000)) (k % 10000 + 5) = .ok (.getfield 123, 3)) && decide (decode (mj_c (k / 10000)) (k % 10000 + 8) = .ok (.invokespecial 128, 3)) && decide (decode (mj_c (k / 10000)) (k % 10000 + 11) = .ok (.athrow, 1)) && decide (mj_o (k / 10000) = 10) && decide (mj_h (k / 10000) = [])) = true := by decide +kernel
theorem so_thw {M pc : Nat} (h : mj_thw M pc = true) : decode (mj_c M) pc = .ok (.new 126, 3) ∧ decode (mj_c M) (pc + 3) = .ok (.dup, 1) ∧ decode (mj_c M) (pc + 4) = .ok (.aload_n 0, 1) ∧ decode (mj_c M) (pc + 5) = .ok (.getfield 123, 3) ∧ decode (mj_c M) (pc + 8) = .ok (.invokespecial 128, 3) ∧ decode (mj_c M) (pc + 11) = .ok (.athrow, 1) ∧ mj_o M = 10 ∧ mj_h M = [] := by
  unfold mj_thw at h
  rw [Bool.and_eq_true, decide_eq_true_eq] at h
  have h1 := List.all_eq_true.mp so_vL_all _ (List.contains_iff_mem.mp h.2)
  have e1 : (M * 10000 + pc) / 10000 = M := by omega
  have e2 : (M * 10000 + pc) % 10000 = pc := by omega
  simp only [e1, e2, Bool.and_eq_true, decide_eq_true_eq] at h1
  obtain ⟨⟨⟨⟨⟨⟨⟨h1, h2⟩, h3⟩, h4⟩, h5⟩, h6⟩, h7⟩, h8⟩ := h1
  exact ⟨h1, h2, h3, h4, h5, h6, h7, h8⟩
theorem so_no128 : Cond.methodLink RX10 128 (mj_y 107) ∉ so_big := by
  intro h
  have h1 : (lw_tbl.any (fun w => match w with
    | .methodLink a i _ => decide (a = RX10) && decide (i = 128)
    | _ => false)) = false := by decide +kernel
  rw [List.any_eq_false] at h1
  have := h1 _ (List.mem_filter.mp h).1
  simp at this
section SO
variable {p : Program} {l : Launch} {e : Env} {R : Room} {s : State} {m : MethodId} {args : Array Value} {below : List Frame} {meth : Method} {c : Code} {Q : State → Prop} {M L : Nat} {b : so_B} {xs : Nat → Int32} {A : Nat → Prop} {D : va_G} {mc ms : Nat} {wE w : MWd} {pc nx : Nat} {ls : List (Option MV)} {st : List MV}
set_option maxHeartbeats 1000000 in
/-- 'throw new Wrong(at)', whole -/
theorem so_s_wrong (C : so_C p l s m args meth c M A b L xs) {q : Ptr} (hw : mj_thw M pc = true) (hls : mj_gl ls 0 = some (vP q)) (hq : q.1 = 10) (hRm : so_Rm R mc ms) (hm : wC (mj_wrong w q.2.2) ≤ wC wE ∧ wS (mj_wrong w q.2.2) ≤ wS wE)
    (kx : ∀ (H : Heap) (locs : List Loc) (cells slots : Nat) (tys : List (ClassId × FieldType)) (ad : Nat → Nat) (cA : Nat → ClassId) (G : Nat → Nat → Value) (K : Nat → Nat × Nat) (lsA : Array Slot) (ce : Cell) (pc1 : Nat) (rest : List Value), so_Rep D A L b tys ad cA G K (mj_wrong w q.2.2) H → wAI (mj_wrong w q.2.2) 0 = xs → va_K D vwCl tys s → va_S A s.heap H locs → K (wN w) = (9, 0) → H[ad (wN w)]? = some ce → ce.vm = .none → s.vm.findClass RX9 = some ce.cls → cells + wC wE = mc + wC (mj_wrong w q.2.2) → slots + wS wE = ms + wS (mj_wrong w q.2.2) →
      vx_W p l e R s m args below meth c H locs cells slots Q (F0 m pc1 lsA rest) (ad (wN w))) : so_J p l e R s m args below meth c M A b L xs D Q mc ms wE w pc ls [] := by
  obtain ⟨hd0, hd3, hd4, hd5, hd8, hd11, ho, -⟩ := so_thw hw
  intro H locs cells slots tys ad cA G K lsA hR hX hK hS hl hn hlo hst hc hs
  have C9 := C
  obtain ⟨hx, hb, -, hml, hown, hts, -, hlt, hA, hSt, -⟩ := C
  have hmC : wC w + 1 ≤ wC wE := hm.1
  have hmS : wS w + 7 ≤ wS wE := hm.2
  obtain ⟨r1, r2, r3, r4⟩ := hRm
  have hcl9 : s.vm.findClass RX9 = some (D.1 9) := (hK.1 9 _ rfl).2.1
  obtain ⟨q9, hq9, hw1, hw2, hw3⟩ := so_cls (o := 10) (i := 126) (ci := 9) (by decide +kernel)
  cases hq9
  have hown10 : s.vm.findClass RX10 = some m.cls := by rw [ho] at hown; exact hown
  refine W.newcK (own := RX10) (C := RX9) hx hb hown10 (hts _ hw1) (hts _ hw2) (hts _ hw3) (g := F0 m pc lsA []) rfl hd0 (by omega) (by show slots + 7 ≤ _; omega) hcl9 rfl fun H1 kC hkC e1 z1 o1 => ?_
  show W p l e R s m args below meth c H1 locs (cells + 1) (slots + 7) Q (F0 m (pc + 3) lsA [.ref H.size])
  refine lv_dup hx hb hd3 rfl ?_
  refine lv_aload_n (i := 0) hx hb (by rw [show pc + 3 + 1 = pc + 4 by omega]; exact hd4) rfl (so_at hl hls) ?_
  have hqok := hlo 0 _ hls q rfl
  obtain ⟨q0, q1, hKq⟩ := so_kind_id hR.1 hqok (by omega)
  have hP1 : va_P D vwCl (so_ws ad cA G K w) H1 := hR.2.2.2.1.kept (fun k x hx9 => o1 x.1 ((hR.2.2.2.1 k x hx9).lt))
  have hwa := so_ws_at (ad := ad) (cA := cA) (G := G) (K := K) q0 q1
  rw [so_cellO (by rw [hKq]; show ¬ q.1 = 9; omega) (by rw [hKq]; show q.1 < 11; omega), hKq, hq] at hwa
  obtain ⟨q10, hq10, hj10, hlink⟩ := so_fld (o := 10) (i := 123) (ci := 10) (k := 18) (by decide +kernel)
  cases hq10
  have hlink : Cond.fieldLink RX10 123 (TX10 18).1 (TX10 18).2.1 (TX10 18).2.2.1 ∈ so_big := by
    rcases hlink with h | ⟨host, h⟩
    · exact h
    · exact absurd rfl (so_nest_ne (o := 10) (i := 123) (ci := 10) (k := 18) (by decide +kernel) h)
  have hfs : ((List.range (mj_nf 10)).map (so_fv ad w 10 q.2.2))[18]? = some (Value.int (wFI w (mj_fk 10 18) q.2.2)) := by
    rw [List.getElem?_map, List.getElem?_range (by decide)]
    rfl
  refine va_get (own := RX10) (C := RX10) (T := TX10) (N := 42) (ci := 10) hx hb hts (so_uw 10 _ rfl) hown10 hK hP1 (q.2.2 - 1) hwa rfl 18 (by decide) (hts _ hlink) (fun _ h => h) hfs (by rw [show pc + 3 + 1 + 1 = pc + 5 by omega]; exact hd5) ?_
  generalize hv : wFI w (mj_fk 10 18) q.2.2 = v
  have hrun : vx_Run p l e R s m args below meth c H1 locs (cells + 1) (slots + 7) 0 0 (F0 m (pc + 8) lsA [.int v, .ref H.size, .ref H.size]) [.ref H.size] (so_wQc D H.size v (Value.ref H.size :: [Value.int v]).toArray) (fun _ _ _ _ => False) (fun q => q = H.size) := by
    obtain ⟨hl1, hl2, hl3⟩ : True ∧ True ∧ True := ⟨trivial, trivial, trivial⟩
    obtain ⟨hh, -, hinst, hini, -, -, -, hmh, hdesc, -⟩ := so_m (M := 107) (by decide)
    obtain ⟨-, hnest⟩ := (so_mth (o := 10) (i := 128) (kd := 0) (M := 107) (by decide +kernel)).1 rfl
    have hnest : ∃ host, Cond.methodLinkNest RX10 128 (mj_y 107) host ∈ so_nw := by
      rcases hnest with h | ⟨h, -⟩
      · exact absurd h so_no128
      · exact h
    obtain ⟨host, hnest⟩ := hnest
    refine vx_runIN (own := RX10) (host := host) (index := 128) (As := [.int v]) (y := mj_y 107) (bytes := mj_c 107) (maxL := 2) (nL := mj_l M) (n := 1) (cc := mj_c M) ⟨hx, hb, hml, hown10, hts⟩ (so_wi l hlt D H.size v) ⟨⟨⟨rfl, rfl, by show 5 + 1 ≤ _; omega, by show 8 + (2 + 11) + 100 ≤ _; omega, ?_, List.mem_cons_self⟩, hts _ hh, hts _ hini, hmh, fun sig h => ?_, va_Nw.use rfl (hSt.2.2.2.2.2.1 _ hnest)⟩, rfl, hts _ (hinst rfl)⟩ ⟨?_, ?_⟩ rfl rfl hl.1 rfl (by show 2 * 0 + (1 + 0) ≤ 8; omega) (by show decode (mj_c M) (pc + 8) = _; exact hd8) ⟨by omega, by omega⟩
    · intro w9 hw9 a' U hW
      have hw8 : w9 ∈ so_big := by
        rcases List.mem_cons.mp hw9 with h | h
        · rw [h]; exact hh
        · exact h
      exact word_at hW (good_of_word (List.mem_filter.mp hw8).2) (hts _ hw8)
    · rw [h] at hdesc
      exact (Option.some.inj hdesc).symm
    · intro a9 U g mk ⟨h1, ⟨kX, hk1, hk2⟩, h3, h4, A0, h5, h6⟩
      exact ⟨h1, ⟨kX, hk1, hk2⟩, va_K.moved (u := U) (U := U.calling g mk a9) (Vm.Alike.refl U.vm) h3, fun w9 hw9 => va_Nw.same (u := U) (U := U.calling g mk a9) (so_nwk_on (List.mem_filter.mp hw9).2) rfl (h4 w9 hw9), A0, vx_Zq.moved (u := U) (U := U.calling g mk a9) (Vm.Alike.refl U.vm) h5, vx_Zq.moved (u := U) (U := U.calling g mk a9) (Vm.Alike.refl U.vm) h6⟩
    · intro U hU hW
      obtain ⟨k', hk', he'⟩ := hW.alike.2.2 _ _ hkC
      have hS1 : va_S A s.heap H1 locs := ⟨Nat.le_trans hS.1 (by omega), fun x h1 h2 => (o1 x (Nat.lt_of_lt_of_le h1 hS.1)).trans (hS.2.1 x h1 h2), hS.2.2⟩
      refine ⟨rfl, ⟨k', hk', by rw [hU, e1]; congr 1; show Cell.mk _ _ _ _ _ = Cell.mk _ _ _ _ _; congr 2; rw [he']⟩, va_K.moved hW.alike (hK.sub (tys' := []) [] rfl), fun w9 hw9 => so_nw_warm hw9 hW (hSt.2.2.2.2.2.1 w9 hw9), A, ?_, ?_⟩
      · rw [hU]; exact vx_Zq.moved hW.alike (hSt.2.2.2.1.kept hS1.2.1)
      · rw [hU]; exact vx_Zq.moved hW.alike (hSt.2.2.2.2.1.kept hS1.2.1)
  intro T hT X
  rw [show pc + 3 + 1 + 1 + 3 = pc + 8 by omega] at *
  rcases hrun T hT X with ⟨rv, st₀, t, T', Lx, h0, X', hLx, e3, e4, ⟨hret, ⟨g, hPn⟩, hF⟩, hst9⟩ | ⟨q9, st₀, t, T', Lx, E, ce, h0, X', hLx, e3, e4, hfalse, -⟩
  · cases hret
    rw [← e3] at hPn
    obtain ⟨f1, f2⟩ := hF
    rw [← e3, h0] at f1
    rw [← e3, h0] at f2
    have hPo : va_P D vwCl (so_ws ad cA G K w) T'.heap := hP1.kept (fun k x hx9 => f2 x.1 ((hP1 k x hx9).lt) (by have := (hR.2.2.2.1 k x hx9).lt; omega))
    have hPP : va_P D vwCl (so_ws ad cA G K w ++ [(H.size, .inr (9, [g 0, g 1, g 2, g 3, g 4, g 5, .int v]))]) T'.heap := hPo.app hPn
    have hDD : va_D A (so_ws ad cA G K w ++ [(H.size, .inr (9, [g 0, g 1, g 2, g 3, g 4, g 5, .int v]))]) := hR.2.2.2.2.push hR.2.2.2.1 rfl (hA _ hS.1)
    have hrep := so_rep_more (w1 := mj_wrong w q.2.2) (tys1 := tys) (q := H.size) (cq := 0) (gq := g) (kq := (9, 0)) hR rfl (Or.inl (by show 9 < 11; omega)) (fun h => by have h9 : 20 ≤ 9 := h; omega) (fun k j hj => by
        unfold mj_wrong
        simp only [wrd, u2]
        rw [if_neg (by omega), if_neg (by omega)]) (fun k j => by
        unfold mj_wrong
        simp only [wrd]
        split <;> simp) (fun k j hj => by
        unfold mj_wrong
        simp only [wrd]
        rw [if_neg (by omega)]) (fun j _ => rfl) (fun j _ => rfl) (fun j i => Or.inl rfl) (fun j _ => rfl) (fun _ _ h => h) (fun h => by have h9 : 20 ≤ 9 := h; omega) (by
        rw [so_cell9 (by rw [va_up_self]), va_up_self]
        unfold mj_wrong
        simp only [wrd, u2, hv]
        simp) hPP hDD
    obtain ⟨t9, h9k, ce, hce1, hce2, hce3, -⟩ := hPn 0 _ rfl
    cases h9k
    have hSf : va_S A s.heap T'.heap (locs ++ Lx) := by
      refine ⟨Nat.le_trans hS.1 (by omega), fun x h1 h2 => ?_, fun y hy => ?_⟩
      · rw [f2 x (by have := hS.1; omega) (by have := hS.1; omega), o1 x (Nat.lt_of_lt_of_le h1 hS.1)]
        exact hS.2.1 x h1 h2
      · rcases List.mem_append.mp hy with h | h
        · exact hS.2.2 y h
        · rw [hLx y h]; exact hA _ hS.1
    have kk := kx T'.heap (locs ++ Lx) (cells + 1) (slots + 7) tys _ _ _ _ lsA ce (pc + 11) [] hrep hX hK hSf (va_up_self _ _ _) (by rw [va_up_self]; exact hce1) hce3 (by rw [hce2]; exact hcl9) (by show _ = mc + (wC w + 1); omega) (by show _ = ms + (wS w + 7); omega)
    rw [va_up_self] at kk
    obtain ⟨tt, a1, b1⟩ := vx_athrow (rest := []) hx hb hd11 kk T' rfl X'
    exact ⟨tt, hst9 _ a1, b1⟩
  · exact hfalse.elim
end SO
