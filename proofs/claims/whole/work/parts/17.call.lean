/-! Calls: what the small machine's run of a callee says of the claim's callee; the exception tables. -/
theorem mj_hs_none {o pc E : Nat} : ∀ {t : List (Nat × Nat × Nat × Nat)}, mj_hs o pc E t = none → ∀ x ∈ t, ¬ (x.1 ≤ pc ∧ pc < x.2.1 ∧ mj_exc o x.2.2.2 = some E)
  | [], _, x, hx => by cases hx
  | (a, b, h0, t0) :: r, h, x, hx => by
    rw [mj_hs] at h
    split at h
    · cases h
    · rename_i hc
      rcases List.mem_cons.mp hx with rfl | hx
      · exact hc
      · exact mj_hs_none h x hx
theorem mj_hs_some {o pc E hp : Nat} : ∀ {t : List (Nat × Nat × Nat × Nat)}, mj_hs o pc E t = some hp → ∃ (pre : List (Nat × Nat × Nat × Nat)) (x : Nat × Nat × Nat × Nat) (suf : List (Nat × Nat × Nat × Nat)), t = pre ++ x :: suf ∧ (∀ z ∈ pre, ¬ (z.1 ≤ pc ∧ pc < z.2.1 ∧ mj_exc o z.2.2.2 = some E)) ∧ (x.1 ≤ pc ∧ pc < x.2.1 ∧ mj_exc o x.2.2.2 = some E) ∧ x.2.2.1 = hp
  | [], h => by cases h
  | (a, b, h0, t0) :: r, h => by
    rw [mj_hs] at h
    split at h
    · rename_i hc
      cases h
      exact ⟨[], _, r, rfl, (fun z hz => by cases hz), hc, rfl⟩
    · rename_i hc
      obtain ⟨pre, x, suf, h1, h2, h3, h4⟩ := mj_hs_some h
      refine ⟨(a, b, h0, t0) :: pre, x, suf, by rw [h1]; rfl, fun z hz => ?_, h3, h4⟩
      rcases List.mem_cons.mp hz with rfl | hz
      · exact hc
      · exact h2 z hz
theorem so_hL_all : mj_hL.all (fun e => e.2.all (fun x => (mj_exc (mj_o e.1) x.2.2.2).isSome)) = true := by decide +kernel
theorem so_hx {M : Nat} {x : Nat × Nat × Nat × Nat} (h : x ∈ mj_h M) : ∃ E, mj_exc (mj_o M) x.2.2.2 = some E := by
  unfold mj_h at h
  cases hk : mj_lk mj_hL M with
  | none => rw [hk] at h; cases h
  | some t =>
    rw [hk] at h
    have h1 := List.all_eq_true.mp so_hL_all _ (mj_lk_mem hk)
    exact Option.isSome_iff_exists.mp (List.all_eq_true.mp h1 x h)
theorem so_Rep.narrow {D : va_G} {A A1 : Nat → Prop} {L : Nat} {b b1 : so_B} {tys : List (ClassId × FieldType)} {ad : Nat → Nat} {cA : Nat → ClassId} {G : Nat → Nat → Value} {K : Nat → Nat × Nat} {w : MWd} {H : Heap} (h : so_Rep D A1 L b1 tys ad cA G K w H) (hA : ∀ q, A1 q → A q) (hb : so_lo b ad K (wN w)) : so_Rep D A L b tys ad cA G K w H :=
  ⟨h.1, hb, h.2.2.1, h.2.2.2.1, ⟨h.2.2.2.2.1, fun k q hq => hA _ (h.2.2.2.2.2 k q hq)⟩⟩
def so_Hr (s : State) (args : Array Value) (A : Nat → Prop) (b : so_B) (L : Nat) (xs : Nat → Int32) (D : va_G) (Qc : Array Value → State → Outcome → State → Prop) (w' : MWd) (r : MRes) : Prop :=
  ∀ v, r = .inl v → ∀ (H : Heap) (locs : List Loc) (tys : List (ClassId × FieldType)) (ad : Nat → Nat) (cA : Nat → ClassId) (G : Nat → Nat → Value) (K : Nat → Nat × Nat) (t : State), so_Rep D A L b tys ad cA G K w' H → wAI w' 0 = xs → va_K D vwCl tys s → va_S A s.heap H locs → (∀ x, v = some x → so_ok (wN w') K x) → t.heap = H → s.WarmedH t.vm → Qc args s (.returned (v.map (so_v ad))) t
def so_Hx (s : State) (A : Nat → Prop) (b : so_B) (L : Nat) (xs : Nat → Int32) (D : va_G) (XC : String → Addr → State → State → Prop) (w' : MWd) (r : MRes) : Prop :=
  ∀ E po, r = .inr (E, po) → E < 4 → ∀ (H : Heap) (locs : List Loc) (tys : List (ClassId × FieldType)) (ad : Nat → Nat) (cA : Nat → ClassId) (G : Nat → Nat → Value) (K : Nat → Nat × Nat) (q : Addr) (t : State), so_Rep D A L b tys ad cA G K w' H → wAI w' 0 = xs → va_K D vwCl tys s → va_S A s.heap H locs → (∀ pt, po = some pt → q = ad pt.2.2 ∧ so_pok (wN w') K pt) → t.heap = H → s.vm.Alike t.vm → XC (so_xn E) q s t
/-- what is to be shown of runs of f steps -/
def so_S (f : Nat) : Prop := ∀ (d : Nat) (w : MWd) (M pc : Nat) (ls : List (Option MV)) (st : List MV) (r : MRes) (w' : MWd), mj_run f d w M pc ls st = some (r, w') →
  ∀ (p : Program) (l : Launch) (e : Env) (R : Room) (s : State) (m : MethodId) (args : Array Value) (below : List Frame) (meth : Method) (c : Code) (L : Nat) (b : so_B) (xs : Nat → Int32) (A : Nat → Prop) (D : va_G) (mc ms : Nat) (Qc : Array Value → State → Outcome → State → Prop) (XC : String → Addr → State → State → Prop) (free : Addr → Prop),
    so_C p l s m args meth c M A b L xs → so_Rm R mc ms → d + 8 ≤ R.frames → 100 * d + 150 ≤ R.locals → (∀ q, A q → free q) → so_Hr s args A b L xs D Qc w' r → so_Hx s A b L xs D XC w' r →
    so_J p l e R s m args below meth c M A b L xs D (vx_MQ below Qc XC args s mc ms free) mc ms w' w pc ls st
def so_Pc (D : va_G) (L b0 : Nat) (xs : Nat → Int32) (tys : List (ClassId × FieldType)) (ad : Nat → Nat) (cA : Nat → ClassId) (G : Nat → Nat → Value) (K : Nat → Nat × Nat) (w : MWd) (sz : Nat) (av : List Value) : Array Value → State → Prop :=
  va_Pc av (fun U => U.heap.size = sz ∧ so_Rep D (va_A (so_ws ad cA G K w) sz) L (b0, wN w, ad, K) tys ad cA G K w U.heap ∧ va_K D vwCl tys U ∧ so_St (va_A (so_ws ad cA G K w) sz) b0 L xs U U.heap)
def so_Qc (D : va_G) (L b0 : Nat) (xs : Nat → Int32) (ad : Nat → Nat) (K : Nat → Nat × Nat) (n0 : Nat) (A1 : Nat → Prop) (r : MRes) (w1 : MWd) : Array Value → State → Outcome → State → Prop := fun _ st o t =>
  ∃ rv, r = .inl rv ∧ ∃ (tys1 : List (ClassId × FieldType)) (ad1 : Nat → Nat) (cA1 : Nat → ClassId) (G1 : Nat → Nat → Value) (K1 : Nat → Nat × Nat), o = .returned (rv.map (so_v ad1)) ∧ so_Rep D A1 L (b0, n0, ad, K) tys1 ad1 cA1 G1 K1 w1 t.heap ∧ wAI w1 0 = xs ∧ va_K D vwCl tys1 t ∧ va_F A1 st t ∧ ∀ x, rv = some x → so_ok (wN w1) K1 x
def so_XC (D : va_G) (L b0 : Nat) (xs : Nat → Int32) (ad : Nat → Nat) (K : Nat → Nat × Nat) (n0 : Nat) (A1 : Nat → Prop) (r : MRes) (w1 : MWd) : String → Addr → State → State → Prop := fun C q st t =>
  ∃ E po, r = .inr (E, po) ∧ E < 4 ∧ C = so_xn E ∧ ∃ (tys1 : List (ClassId × FieldType)) (ad1 : Nat → Nat) (cA1 : Nat → ClassId) (G1 : Nat → Nat → Value) (K1 : Nat → Nat × Nat), so_Rep D A1 L (b0, n0, ad, K) tys1 ad1 cA1 G1 K1 w1 t.heap ∧ wAI w1 0 = xs ∧ va_K D vwCl tys1 t ∧ va_F A1 st t ∧ ∀ pt, po = some pt → q = ad1 pt.2.2 ∧ so_pok (wN w1) K1 pt
theorem so_St.calling {A : Nat → Prop} {b L : Nat} {xs : Nat → Int32} {U : State} {g : JFrame} {mk : MethodId} {a : Array Value} (h : so_St A b L xs U U.heap) : so_St A b L xs (U.calling g mk a) (U.calling g mk a).heap :=
  h.warm (locs := []) (va_S.rf (A := A)) (State.WarmedH.refl U) (fun _ h => h)
theorem so_Pc.blind {D : va_G} {L b0 : Nat} {xs : Nat → Int32} {tys : List (ClassId × FieldType)} {ad : Nat → Nat} {cA : Nat → ClassId} {G : Nat → Nat → Value} {K : Nat → Nat × Nat} {w : MWd} {sz : Nat} {av : List Value} : FrameBlind (so_Pc D L b0 xs tys ad cA G K w sz av) := by
  intro a U g mk ⟨h1, h2, h3, h4, h5⟩
  exact ⟨h1, h2, h3, va_K.moved (u := U) (U := U.calling g mk a) (Vm.Alike.refl U.vm) h4, h5.calling⟩
theorem lg_sl_len (ad : Nat → Nat) : ∀ as : List MV, (lg_sl (as.map (so_v ad))).length = (mj_ents as).length
  | [] => rfl
  | v :: r => by
    have ih := lg_sl_len ad r
    unfold lg_sl at ih ⊢
    rw [List.map_cons, List.flatMap_cons, List.length_append, ih, so_cat, mj_ents]
    split <;> simp <;> omega
theorem so_ls_app (ad : Nat → Nat) : ∀ (a : List (Option MV)) (i k : Nat), so_ls ad i (a ++ List.replicate k none) = so_ls ad i a
  | [], i, k => by
    induction k generalizing i with
    | zero => rfl
    | succ k ih =>
      rw [List.nil_append] at ih ⊢
      rw [List.replicate_succ]
      show so_ls ad (i + 1) (List.replicate k none) = _
      rw [ih]
      rfl
  | none :: r, i, k => by rw [List.cons_append, so_ls, so_ls, so_ls_app ad r]
  | some v :: r, i, k => by rw [List.cons_append, so_ls, so_ls, so_ls_app ad r]
theorem so_ls_ents (ad : Nat → Nat) : ∀ (as : List MV) (i : Nat), so_ls ad i (mj_ents as) = lv_args i (as.map (so_v ad))
  | [], i => rfl
  | v :: r, i => by
    rw [mj_ents, List.map_cons, lv_args, so_cat]
    split
    · rw [so_ls, so_ls, so_ls_ents ad r]
    · rw [so_ls, so_ls_ents ad r]
theorem mj_gl_app_none : ∀ (a : List (Option MV)) (k j : Nat) (v : MV), mj_gl (a ++ List.replicate k none) j = some v → mj_gl a j = some v
  | [], k, j, v, h => by
    induction k generalizing j with
    | zero => simp [mj_gl] at h
    | succ k ih =>
      rw [List.nil_append, List.replicate_succ] at h
      cases j with
      | zero => simp [mj_gl] at h
      | succ j => exact ih j (by rw [List.nil_append]; exact h)
  | x :: r, k, 0, v, h => h
  | x :: r, k, j + 1, v, h => mj_gl_app_none r k j v h
theorem mj_gl_ents : ∀ (as : List MV) (j : Nat) (v : MV), mj_gl (mj_ents as) j = some v → v ∈ as
  | [], j, v, h => by simp [mj_ents, mj_gl] at h
  | x :: r, j, v, h => by
    rw [mj_ents] at h
    split at h
    · cases j with
      | zero => simp only [mj_gl, Option.some.injEq] at h; subst h; exact List.mem_cons_self
      | succ j =>
        cases j with
        | zero => simp [mj_gl] at h
        | succ j => exact List.mem_cons_of_mem _ (mj_gl_ents r j v h)
    · cases j with
      | zero => simp only [mj_gl, Option.some.injEq] at h; subst h; exact List.mem_cons_self
      | succ j => exact List.mem_cons_of_mem _ (mj_gl_ents r j v h)
theorem mj_ent_len {M : Nat} {as : List MV} (h : (mj_ents as).length ≤ mj_l M) : (mj_ent M as).length = mj_l M := by
  unfold mj_ent
  rw [List.length_append, List.length_replicate]
  omega
/-- what holds in a callee's body -/
theorem so_body {f d' : Nat} (hS : so_S f) {w w1 : MWd} {M' : Nat} {as : List MV} {r : MRes} (hrun : mj_run f d' w M' 0 (mj_ent M' as) [] = some (r, w1)) {l : Launch} (hlt : l.stackTraces = false) {D : va_G} {L b0 : Nat} {xs : Nat → Int32} {tys : List (ClassId × FieldType)} {ad : Nat → Nat} {cA : Nat → ClassId} {G : Nat → Nat → Value} {K : Nat → Nat × Nat} {sz : Nat} (hX : wAI w 0 = xs) (hso : so_sok (wN w) K as) (hlen : (mj_ents as).length ≤ mj_l M') (hMo : (mj_y M').cls = so_cn (mj_o M'))
    {p : Program} {e : Env} {s : State} {m : MethodId} {args : Array Value} {below : List Frame} {meth : Method} {c : Code} {s₁ : State} {W0 : Cond}
    (B : BodyLoose p l (mj_y M') (headSpec (W0 :: so_big) { frames := d' + 8, cells := wC w1 - wC w, slots := wS w1 - wS w, locals := 100 * d' + 150 }) (mj_c M') (mj_l M') (mj_r M') e s m args below meth c s₁) (hml : c.maxLocals = mj_l M') (htab : c.exceptionTable.toList = tableOf (mj_h M')) (hP : so_Pc D L b0 xs tys ad cA G K w sz (as.map (so_v ad)) args s) :
    W p l e (headSpec (W0 :: so_big) { frames := d' + 8, cells := wC w1 - wC w, slots := wS w1 - wS w, locals := 100 * d' + 150 }).room s m args below meth c s.heap [] 0 0 (vx_MQ below (so_Qc D L b0 xs ad K (wN w) (va_A (so_ws ad cA G K w) sz) r w1) (so_XC D L b0 xs ad K (wN w) (va_A (so_ws ad cA G K w) sz) r w1) args s (wC w1 - wC w) (wS w1 - wS w) (va_A (so_ws ad cA G K w) sz)) (entryFrame m args (mj_l M')) := by
  obtain ⟨rfl, hsz, hR, hK, hSt⟩ := hP
  have hts := atoms_spec (ws := W0 :: so_big) B.pre
  have hle := mj_run_le hrun
  have C : so_C p l s m (as.map (so_v ad)).toArray meth c M' (va_A (so_ws ad cA G K w) sz) (b0, wN w, ad, K) L xs := by
    refine ⟨B.exec, B.bytes, B.returns, hml, by rw [← hMo]; exact findClass_of_methodNamed B.named, fun w9 hw9 => hts w9 (List.mem_cons_of_mem _ hw9), B.notSynchronized, hlt, fun q hq => Or.inr (by rw [← hsz]; exact hq), hSt, fun hi => ?_, htab⟩
    unfold mj_isI at hi
    rw [(name_of_methodNamed B.named B.method).1]
    exact of_decide_eq_true hi
  rw [lg_entry_eq]
  have hl := lv_entry (as.map (so_v ad)) (n := mj_l M') (by rw [lg_sl_len]; exact hlen)
  generalize (lg_sl (as.map (so_v ad)) ++ List.replicate (mj_l M' - (lg_sl (as.map (so_v ad))).length) Slot.unset).toArray = lsA at hl ⊢
  have k := hS d' w M' 0 (mj_ent M' as) [] r w1 hrun p l e (headSpec (W0 :: so_big) { frames := d' + 8, cells := wC w1 - wC w, slots := wS w1 - wS w, locals := 100 * d' + 150 }).room s m (as.map (so_v ad)).toArray below meth c L (b0, wN w, ad, K) xs (va_A (so_ws ad cA G K w) sz) D (wC w1 - wC w) (wS w1 - wS w)
    (so_Qc D L b0 xs ad K (wN w) (va_A (so_ws ad cA G K w) sz) r w1) (so_XC D L b0 xs ad K (wN w) (va_A (so_ws ad cA G K w) sz) r w1) (va_A (so_ws ad cA G K w) sz) C
    ⟨Nat.le_refl _, Nat.le_refl _, by show 8 ≤ d' + 8; omega, by show 150 ≤ 100 * d' + 150; omega⟩ (Nat.le_refl _) (Nat.le_refl _) (fun _ h => h)
    (by
      intro v hv H locs tys1 ad1 cA1 G1 K1 t hR1 hX1 hK1 hS1 hv1 ht hW
      exact ⟨v, hv, tys1, ad1, cA1, G1, K1, rfl, by rw [ht]; exact hR1, hX1, va_K.moved hW.alike hK1, hS1.F ht, hv1⟩)
    (by
      intro E po hr hE H locs tys1 ad1 cA1 G1 K1 q t hR1 hX1 hK1 hS1 hq ht hW
      exact ⟨E, po, hr, hE, rfl, tys1, ad1, cA1, G1, K1, by rw [ht]; exact hR1, hX1, va_K.moved hW hK1, hS1.F ht, hq⟩)
    s.heap [] 0 0 tys ad cA G K lsA hR hX hK va_S.rf (so_has_mono hl (fun q hq => by
      unfold mj_ent at hq
      rw [so_ls_app, so_ls_ents] at hq
      exact hq)) (mj_ent_len hlen) (fun j v hj => hso v (by
      unfold mj_ent at hj
      exact mj_gl_ents as j v (mj_gl_app_none _ _ j v hj))) (fun v hv => by cases hv) (by have := hle.2.1; omega) (by have := hle.2.2; omega)
  exact k
theorem so_hdc {M : Nat} (h : mj_h M = []) : so_hd M = .code (mj_y M) (mj_c M) (mj_l M) (mj_r M) := by unfold so_hd; rw [if_pos h]
theorem so_hdw {M : Nat} (h : ¬ mj_h M = []) : so_hd M = .codeWith (mj_y M) (mj_c M) (mj_l M) (mj_r M) (mj_h M) := by unfold so_hd; rw [if_neg h]
theorem so_met {f d' : Nat} (hS : so_S f) {w w1 : MWd} {M' : Nat} (hM : M' < 182) {as : List MV} {r : MRes} (hrun : mj_run f d' w M' 0 (mj_ent M' as) [] = some (r, w1)) {l : Launch} (hlt : l.stackTraces = false) {D : va_G} {L b0 : Nat} {xs : Nat → Int32} {tys : List (ClassId × FieldType)} {ad : Nat → Nat} {cA : Nat → ClassId} {G : Nat → Nat → Value} {K : Nat → Nat × Nat} {sz : Nat} (hX : wAI w 0 = xs) (hso : so_sok (wN w) K as) (hlen : (mj_ents as).length ≤ mj_l M') :
    vx_Met l (mj_y M') (so_hd M' :: so_big) { frames := d' + 8, cells := wC w1 - wC w, slots := wS w1 - wS w, locals := 100 * d' + 150 } (so_Pc D L b0 xs tys ad cA G K w sz (as.map (so_v ad))) (so_Qc D L b0 xs ad K (wN w) (va_A (so_ws ad cA G K w) sz) r w1) (so_XC D L b0 xs ad K (wN w) (va_A (so_ws ad cA G K w) sz) r w1) (wC w1 - wC w) (wS w1 - wS w) (va_A (so_ws ad cA G K w) sz) := by
  obtain ⟨-, -, -, -, -, hpl, hMo, -⟩ := so_m hM
  by_cases hh : mj_h M' = []
  · refine vx_ofW (cc := mj_c M') (maxL := mj_l M') (ret := mj_r M') hpl (by rw [so_hdc hh]) ?_
    intro p e s m args below meth c s₁ B hml ht hP
    refine so_body hS hrun hlt hX hso hlen hMo B hml ?_ hP
    rw [hh]
    cases hl : c.exceptionTable.toList with
    | nil => rfl
    | cons x xs9 => exact (ht x (by rw [hl]; exact List.mem_cons_self)).elim
  · refine vx_ofWH (cc := mj_c M') (maxL := mj_l M') (ret := mj_r M') (hh := mj_h M') hpl (by rw [so_hdw hh]) ?_
    intro p e s m args below meth c s₁ B hml hP
    refine so_body hS hrun hlt hX hso hlen hMo B hml (vx_table (x := mj_y M') B (bytes := mj_c M') (maxL' := mj_l M') (ret' := mj_r M') ?_) hP
    rw [← so_hdw hh]
    exact atoms_spec (ws := so_hd M' :: so_big) B.pre _ List.mem_cons_self
