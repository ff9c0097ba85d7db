/-! The law's entry: the claim's machine comes to its end with 1, if the small one does. -/
def mj_w0 (xs : Nat → Int32) : MWd := ((1, 0, 0), (fun _ _ => 0, fun _ _ => none), (fun a j => if a = 0 then xs j else 0, fun _ _ => 0, fun _ _ => none))
def mj_Law (L : Nat) (xs : Nat → Int32) : Prop := ∃ (f d : Nat) (w' : MWd), mj_run f d (mj_w0 xs) 182 0 (mj_ent 182 [vP (30, L, 0)]) [] = some (.inl (some (vI 1)), w') ∧ d ≤ 800 ∧ wC w' ≤ 400000 ∧ wS w' ≤ 3000000
theorem so_in_tbl {w : Cond} (h : w ∈ so_big) : w ∈ lw_tbl := (List.mem_filter.mp h).1
theorem so_nw_tbl {w : Cond} (h : w ∈ so_nw) : w ∈ lw_tbl := (List.mem_filter.mp h).1
def so_gv : List Cond := flatC (Jvm.Cond.and given_1 narrow_1)
theorem so_gv_str : lw_tbl.all (fun w => match w with
  | .stringRef a i _ => !(decide (a = RX8)) || so_gv.any (fun g => match g with
    | .exactly (.string b j) "java/lang/String" => decide (b = a) && decide (j = i)
    | _ => false)
  | _ => true) = true := by decide +kernel
theorem so_gv_exact {i : Nat} {tx : String} (h : Cond.stringRef RX8 i tx ∈ lw_tbl) : Cond.exactly (.string RX8 i) "java/lang/String" ∈ so_gv := by
  have h1 := List.all_eq_true.mp so_gv_str _ h
  have h2 : so_gv.any (fun g => match g with
    | .exactly (.string b j) "java/lang/String" => decide (b = RX8) && decide (j = i)
    | _ => false) = true := by simpa using h1
  obtain ⟨g, hg, h3⟩ := List.any_eq_true.mp h2
  split at h3
  · rw [Bool.and_eq_true, decide_eq_true_eq, decide_eq_true_eq] at h3
    obtain ⟨rfl, rfl⟩ := h3
    exact hg
  · cases h3
theorem so_gv_nc : ([0, 1, 2, 3].all fun E => [0, 1, 2, 3].all fun E' => decide (E = E') || so_gv.any (fun g => match g with
  | .not (.castable a c) => decide (a = so_xn E) && decide (c = so_xn E')
  | _ => false)) = true := by decide +kernel
theorem so_gv_notcast {E E' : Nat} (h1 : E < 4) (h2 : E' < 4) (h3 : ¬ E = E') : Cond.not (.castable (so_xn E) (so_xn E')) ∈ so_gv := by
  have m1 : E ∈ [0, 1, 2, 3] := by simp only [List.mem_cons, List.not_mem_nil, or_false]; omega
  have m2 : E' ∈ [0, 1, 2, 3] := by simp only [List.mem_cons, List.not_mem_nil, or_false]; omega
  have h4 := List.all_eq_true.mp (List.all_eq_true.mp so_gv_nc E m1) E' m2
  rw [Bool.or_eq_true, decide_eq_true_eq] at h4
  rcases h4 with h4 | h4
  · exact absurd h4 h3
  · obtain ⟨g, hg, h5⟩ := List.any_eq_true.mp h4
    split at h5
    · rw [Bool.and_eq_true, decide_eq_true_eq, decide_eq_true_eq] at h5
      obtain ⟨rfl, rfl⟩ := h5
      exact hg
    · cases h5
theorem so_ins_all : (List.range 11).all (fun ci => match vwCl[ci]? with
  | some q => lw_tbl.any (fun w => match w with
    | .instantiable a n => decide (a = q.1) && decide (n = q.2.2)
    | _ => false)
  | none => false) = true := by decide +kernel
theorem so_ins {ci : Nat} {q : vw_C} (h : vwCl[ci]? = some q) : Cond.instantiable q.1 q.2.2 ∈ lw_tbl := by
  have hci : ci < 11 := (List.getElem?_eq_some_iff.mp h).1
  have h1 := List.all_eq_true.mp so_ins_all ci (List.mem_range.mpr hci)
  rw [h] at h1
  obtain ⟨w, hw, h2⟩ := List.any_eq_true.mp h1
  split at h2
  · rw [Bool.and_eq_true, decide_eq_true_eq, decide_eq_true_eq] at h2
    obtain ⟨rfl, rfl⟩ := h2
    exact hw
  · cases h2
set_option maxHeartbeats 4000000 in
theorem so_start {p : Program} {e : Env} {s : State} {m : MethodId} {below : List Frame} {meth : Method} {c : Code} (l : Launch) (hflags : l.flags = flags0) {b L : Nat} {xs : Nat → Int32} (hpure : mj_Law L xs) (htab : c.exceptionTable.toList = []) (C0 : lw_At p s m meth c b L xs) : W p l e room_1 s m #[Value.ref b] below meth c s.heap [] 0 0 (lw_Z below #[Value.ref b] s) (entryFrame m ([Value.ref b] : List Value).toArray 9) := by
  obtain ⟨hx, hb, hr, hml, hown, hts, hX, hbl, hlocks, hgv⟩ := id C0
  obtain ⟨f, d, w', hrun, hd, hwc, hws⟩ := hpure
  have hs := flat_of_before _ hgv
  have hlt : l.stackTraces = false := by
    unfold Launch.stackTraces
    rw [hflags]
    decide
  have hD : ∀ k : Nat, ∃ x : ClassId × (Nat → Nat), ∀ q : vw_C, vwCl[k]? = some q → u_Kn s q.1 q.2.1 q.2.2 x.1 x.2 := by
    intro k
    cases hq : vwCl[k]? with
    | none => exact ⟨(0, fun _ => 0), fun q h => by cases h⟩
    | some q =>
      obtain ⟨cC, iS, hKn⟩ := u_known (C := q.1) (T := q.2.1) (N := q.2.2) (n := q.2.2) hts (fun w hw => so_in_tbl (so_uw k q hq w hw)) (hts _ (so_ins hq))
      exact ⟨(cC, iS), fun q' h => by cases h; exact hKn⟩
  have hD2 : ∃ D : va_G, ∀ (k : Nat) (q : vw_C), vwCl[k]? = some q → u_Kn s q.1 q.2.1 q.2.2 (D.1 k) (D.2 k) := ⟨(fun k => (Classical.choose (hD k)).1, fun k => (Classical.choose (hD k)).2), fun k q hq => Classical.choose_spec (hD k) q hq⟩
  obtain ⟨D, hKn⟩ := hD2
  have hSt : so_St (fun q : Nat => s.heap.size ≤ q) b L xs s s.heap := by
    have hAOA : va_AOA .int s := hts (.arrayOver (.array .int)) (by decide +kernel)
    have hAO1 : va_AO RX1 s := va_AO.of (hts (.arrayOver (.object RX1)) (by decide +kernel))
    have hAO5 : va_AO RX5 s := va_AO.of (hts (.arrayOver (.object RX5)) (by decide +kernel))
    refine ⟨hX, hbl, Nat.not_le.mpr hbl, ?_, ?_, fun w hw => va_Nw.of (so_nwk_on (List.mem_filter.mp hw).2) (hts _ (so_nw_tbl hw)), hAO1, hAO5, hAOA, ?_, ?_⟩
    · exact vx_Zqof (hts _ (by decide +kernel)) (hts _ (by decide +kernel)) (hs _ (by decide +kernel)) (fun a ha => Nat.not_le.mpr ha)
    · exact vx_Zqof (hts _ (by decide +kernel)) (hts _ (by decide +kernel)) (hs _ (by decide +kernel)) (fun a ha => Nat.not_le.mpr ha)
    · intro i tx hi
      obtain ⟨sa, -, -, -, hev, -⟩ := Cond.exactly_spec (hs _ (so_gv_exact hi))
      exact ⟨sa, vk_R.of (A := #[Value.ref b]) (hts _ hi) hev⟩
    · intro E E' h1 h2 h3
      exact va_Nc.of (hs _ (so_gv_notcast h1 h2 h3))
  have C : so_C p l s m #[Value.ref b] meth c 182 (fun q : Nat => s.heap.size ≤ q) (b, 1, (fun _ => b), (fun _ => (30, L))) L xs :=
    ⟨hx, hb, hr, hml, hown, fun w hw => hts _ (so_in_tbl hw), hlocks, hlt, fun q hq => hq, hSt, fun hi => absurd hi (by decide), by rw [htab]; rfl⟩
  have hlA := lv_entry ([.ref b]) (n := 9) (Nat.le_of_ble_eq_true rfl)
  rw [lg_entry_eq]
  generalize (lg_sl ([.ref b]) ++ List.replicate (9 - (lg_sl ([.ref b])).length) Slot.unset).toArray = lsA at hlA ⊢
  have k := so_sound f d (mj_w0 xs) 182 0 _ _ _ _ hrun p l e room_1 s m #[Value.ref b] below meth c L (b, 1, (fun _ => b), (fun _ => (30, L))) xs (fun q : Nat => s.heap.size ≤ q) D (wC w') (wS w') (fun _ _ o _ => o = .returned (some (.int 1))) (fun _ _ _ _ => False) (fun q : Nat => s.heap.size ≤ q) C
    ⟨Nat.le_trans hwc (Nat.le_of_ble_eq_true rfl), Nat.le_trans hws (Nat.le_of_ble_eq_true rfl), Nat.le_of_ble_eq_true rfl, Nat.le_of_ble_eq_true rfl⟩ (by show d + 8 ≤ 2048; omega) (by show 100 * d + 150 ≤ 84000; omega) (fun _ h => h)
    (fun v hv H locs tys ad cA G K t _ _ _ _ _ _ _ => by cases hv; rfl) (fun E po hr => by cases hr)
    s.heap [] 0 0 [] (fun _ => b) (fun _ => 0) (fun _ _ => .null) (fun _ => (30, L)) lsA
    ⟨⟨Nat.le_refl 1, rfl, (fun id h0 h1 => by have h9 : id < 1 := h1; omega), (fun k a p h => by cases h), (fun k a p h => by cases h), (fun id h0 h1 => by have h9 : id < 1 := h1; omega)⟩, ⟨rfl, Nat.le_refl 1, fun _ _ => ⟨rfl, rfl⟩⟩, (fun id h0 h1 => by have h9 : id < 1 := h1; omega), (fun k q h => by
      have h9 : ([] : va_W)[k]? = some q := h
      simp at h9), ⟨(fun i j p q h => by
      have h9 : ([] : va_W)[i]? = some p := h
      simp at h9), (fun k q h => by
      have h9 : ([] : va_W)[k]? = some q := h
      simp at h9)⟩⟩
    (by funext j; rfl) ⟨hKn, fun k q h => by simp at h⟩ va_S.rf (so_has_mono hlA (fun q hq => by
      unfold mj_ent at hq
      rw [so_ls_app, so_ls_ents] at hq
      exact hq)) (mj_ent_len (M := 182) (show 1 ≤ mj_l 182 from by decide)) (fun j v hj => by
      unfold mj_ent at hj
      have h9 := mj_gl_ents _ j v (mj_gl_app_none _ _ j v hj)
      rw [List.mem_singleton] at h9
      subst h9
      intro p8 hp8
      cases hp8
      exact ⟨Nat.lt_succ_self 0, rfl⟩) (fun v hv => by cases hv) (by show 0 + wC w' = wC w' + 0; omega) (by show 0 + wS w' = wS w' + 0; omega)
  intro T hT X
  obtain ⟨t, a1, o, h1, h2, h3⟩ := k T hT X
  refine ⟨t, a1, o, h1, h2, ?_⟩
  rcases h3 with ⟨rfl, Lx, ⟨-, hW, hsame⟩, hLx⟩ | ⟨q, -, E, ce, L9, hF, -⟩
  · refine ⟨rfl, lw_closed (d0 := s.drawn) (Drawn.sameBut.refl s.drawn lw_cs) ⟨_, rfl⟩ hW ?_⟩
    exact hsame.weaken (fun y hy hlt9 => absurd hlt9 (Nat.not_lt.mpr (hLx y hy))) (Nat.le_trans hwc (Nat.le_of_ble_eq_true rfl)) (Nat.le_trans hws (Nat.le_of_ble_eq_true rfl))
  · exact hF.elim
