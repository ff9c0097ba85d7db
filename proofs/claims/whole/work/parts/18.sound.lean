/-! The claim's machine does what the small one does. -/
theorem so_cl_cn {ci : Nat} (h : ci < 11) : ∃ q : vw_C, vwCl[ci]? = some q ∧ q.1 = so_cn ci := by
  have h1 : (List.range 11).all (fun ci => match vwCl[ci]? with
    | some q => decide (q.1 = so_cn ci)
    | none => false) = true := by decide +kernel
  have h2 := List.all_eq_true.mp h1 ci (List.mem_range.mpr h)
  cases hq : vwCl[ci]? with
  | none => rw [hq] at h2; cases h2
  | some q => rw [hq] at h2; exact ⟨q, rfl, of_decide_eq_true h2⟩
theorem mj_args_ok {n : Nat} {st as rest : List MV} (h : mj_args n st = some (as, rest)) : as.length = n ∧ st = as.reverse ++ rest := by
  unfold mj_args at h
  split at h
  · cases h
    refine ⟨by simp; omega, by simp⟩
  · cases h
theorem mj_recv_ok {M : Nat} {as : List MV} (h : mj_recv M as = true) : ∃ (q : Ptr) (r : List MV), as = vP q :: r ∧ q.1 = mj_o M := by
  unfold mj_recv at h
  split at h
  · rename_i q r
    exact ⟨q, r, rfl, by simpa using h⟩
  · cases h
section SO
variable {p : Program} {l : Launch} {e : Env} {R : Room} {s : State} {m : MethodId} {args : Array Value} {below : List Frame} {meth : Method} {c : Code} {M L : Nat} {b : so_B} {xs : Nat → Int32} {A : Nat → Prop} {D : va_G} {mc ms : Nat} {wE w : MWd} {pc nx : Nat} {ls : List (Option MV)} {st : List MV} {i : Instr} {Q : State → Prop}
variable {Qc : Array Value → State → Outcome → State → Prop} {XC : String → Addr → State → State → Prop} {free : Addr → Prop}
variable {H : Heap} {locs : List Loc} {cells slots : Nat}
theorem so_pass (C : so_C p l s m args meth c M A b L xs) {E : Nat} (hE : E < 4) {x : Nat × Nat × Nat × Nat} (hx : x ∈ mj_h M) (hn : ¬ (x.1 ≤ pc ∧ pc < x.2.1 ∧ mj_exc (mj_o M) x.2.2.2 = some E)) {z : ExceptionTableEntry} (hz : z = ⟨x.1, x.2.1, x.2.2.1, x.2.2.2⟩) :
    covers z pc = false ∨ (z.catchType ≠ 0 ∧ ∃ nm : String, (Cond.classLink (so_cn (mj_o M)) z.catchType nm).before args s = true ∧ va_Nc (so_xn E) nm s) := by
  subst hz
  obtain ⟨E', hE'⟩ := so_hx hx
  obtain ⟨h4, h0, hk1, -, -⟩ := so_exc hE'
  by_cases hc : x.1 ≤ pc ∧ pc < x.2.1
  · right
    refine ⟨h0, so_xn E', C.2.2.2.2.2.1 _ hk1, ?_⟩
    have hne : ¬ E = E' := fun h => hn ⟨hc.1, hc.2, by rw [hE', h]⟩
    exact C.2.2.2.2.2.2.2.2.2.1.2.2.2.2.2.2.2.2.2.2 E E' hE h4 hne
  · left
    show (decide (x.1 ≤ pc) && decide (pc < x.2.1)) = false
    rw [Bool.and_eq_false_iff, decide_eq_false_iff_not, decide_eq_false_iff_not]
    omega
theorem so_uncaught (C : so_C p l s m args meth c M A b L xs) {E : Nat} (hE : E < 4) (hn : mj_hs (mj_o M) pc E (mj_h M) = none) {q : Addr} {ce : Cell} {lsA : Array Slot} {rest : List Value} (hcell : H[q]? = some ce) (hv : ce.vm = .none) (hcl : s.vm.findClass (so_xn E) = some ce.cls)
    (hx : ∀ t : State, t.heap = H → s.vm.Alike t.vm → XC (so_xn E) q s t) (hf : ∀ z ∈ locs, free z.base) (hc : cells ≤ mc) (hs : slots ≤ ms) :
    vx_W p l e R s m args below meth c H locs cells slots (vx_MQ below Qc XC args s mc ms free) (F0 m pc lsA rest) q := by
  refine vx_outP (own := so_cn (mj_o M)) (E := so_xn E) C.2.2.2.2.1 C.2.2.2.2.2.2.1 ?_ hcell hv hcl hx hf hc hs
  intro z hz
  rw [C.2.2.2.2.2.2.2.2.2.2.2] at hz
  obtain ⟨x, hx, rfl⟩ := List.mem_map.mp hz
  exact so_pass C hE hx (mj_hs_none hn x hx) rfl
theorem so_caught (C : so_C p l s m args meth c M A b L xs) {E hp : Nat} (hE : E < 4) (hn : mj_hs (mj_o M) pc E (mj_h M) = some hp) {q : Addr} {ce : Cell} {lsA : Array Slot} {rest : List Value} (hcell : H[q]? = some ce) (hv : ce.vm = .none) (hcl : s.vm.findClass (so_xn E) = some ce.cls)
    (kk : W p l e R s m args below meth c H locs cells slots Q (F0 m hp lsA [.ref q])) : vx_W p l e R s m args below meth c H locs cells slots Q (F0 m pc lsA rest) q := by
  obtain ⟨pre, x, suf, h1, h2, ⟨h3, h4, h5⟩, rfl⟩ := mj_hs_some hn
  obtain ⟨-, h0, hk1, -, hk3⟩ := so_exc h5
  have hnw := C.2.2.2.2.2.2.2.2.2.1.2.2.2.2.2.1
  refine vx_catch (own := so_cn (mj_o M)) (name := so_xn E) (E := so_xn E) C.2.2.2.2.1 (tableOf pre) ⟨x.1, x.2.1, x.2.2.1, x.2.2.2⟩ (tableOf suf) ?_ ?_ ?_ h0 (C.2.2.2.2.2.1 _ hk1) (va_Nw.use (so_nwk_on (List.mem_filter.mp hk3).2) (hnw _ hk3)) hcell hv hcl kk
  · rw [C.2.2.2.2.2.2.2.2.2.2.2, h1]
    unfold tableOf
    rw [List.map_append, List.map_cons]
  · intro z hz
    obtain ⟨y, hy, rfl⟩ := List.mem_map.mp hz
    exact so_pass C hE (by rw [h1]; exact List.mem_append_left _ hy) (h2 y hy) rfl
  · show (decide (x.1 ≤ pc) && decide (pc < x.2.1)) = true
    rw [Bool.and_eq_true, decide_eq_true_eq, decide_eq_true_eq]
    exact ⟨h3, h4⟩
/-- the callee runs, in the claim's machine -/
theorem so_runs {f d' : Nat} (hS : so_S f) (C : so_C p l s m args meth c M A b L xs) {k v M' : Nat} {as rest : List MV} {r1 : MRes} {w1 : MWd} (hf : mj_fetch M pc = some (i, nx)) (hcall : mj_call i = some (k, v)) (hm : mj_mth (mj_o M) k = some (0, M')) (has : as.length = mj_a M' + if v = 0 then 0 else 1) (hst9 : st = as.reverse ++ rest) (hfit : mj_fits v M' as = true) (hwt : mj_wt rest ≤ 8)
    (hrun : mj_run f d' w M' 0 (mj_ent M' as) [] = some (r1, w1)) {tys : List (ClassId × FieldType)} {ad : Nat → Nat} {cA : Nat → ClassId} {G : Nat → Nat → Value} {K : Nat → Nat × Nat} {lsA : Array Slot} (hR : so_Rep D A L b tys ad cA G K w H) (hX : wAI w 0 = xs) (hK : va_K D vwCl tys s) (hSv : va_S A s.heap H locs) (hl : lv_has lsA (mj_l M) (so_ls ad 0 ls)) (hst : so_sok (wN w) K st)
    (hd : d' + 9 ≤ R.frames) (hloc : 100 * (d' + 1) + 150 ≤ R.locals) (hcs : cells + (wC w1 - wC w) ≤ R.cells ∧ slots + (wS w1 - wS w) ≤ R.slots) :
    nx = pc + 3 ∧ ∃ a9 : Array Value, vx_Run p l e R s m args below meth c H locs cells slots (wC w1 - wC w) (wS w1 - wS w) (F0 m pc lsA (st.map (so_v ad))) (rest.map (so_v ad)) (so_Qc D L b.1 xs ad K (wN w) (va_A (so_ws ad cA G K w) H.size) r1 w1 a9) (so_XC D L b.1 xs ad K (wN w) (va_A (so_ws ad cA G K w) H.size) r1 w1) (va_A (so_ws ad cA G K w) H.size) := by
  have C9 := C
  obtain ⟨hx, hb, -, hml, hown, hts, -, hlt, hA, hSt, -⟩ := C
  obtain ⟨hM, hlk⟩ := (so_mth hm).1 rfl
  obtain ⟨hh, hsta, hinst, hini, hsel, hpl, hMo, hmh, hdesc, hl20, ho11, hI⟩ := so_m hM
  unfold mj_fits at hfit
  rw [Bool.and_eq_true, decide_eq_true_eq] at hfit
  obtain ⟨hlen, hfit⟩ := hfit
  have hso : so_sok (wN w) K as := fun x hx9 => hst x (by rw [hst9]; exact List.mem_append_left _ (List.mem_reverse.mpr hx9))
  have hmet := so_met hS hM hrun hlt (D := D) (L := L) (b0 := b.1) (xs := xs) (tys := tys) (ad := ad) (cA := cA) (G := G) (K := K) (sz := H.size) hX hso hlen
  have hws : ∀ w9 ∈ so_hd M' :: so_big, ∀ (a' : Array Value) (U : State), s.WarmedH U.vm → w9.before a' U = true := by
    intro w9 hw9 a' U hW
    have hw8 : w9 ∈ so_big := by
      rcases List.mem_cons.mp hw9 with h | h
      · rw [h]; exact hh
      · exact h
    exact word_at hW (good_of_word (List.mem_filter.mp hw8).2) (hts _ hw8)
  have hsg : ∀ sig, parseMethodDescriptor (mj_y M').desc = some sig → mj_a M' = sig.parameters.length := fun sig h => by
    rw [h] at hdesc
    exact (Option.some.inj hdesc).symm
  have hcat : ((rest.map (so_v ad)).map fun v => v.category).sum ≤ 8 := by
    rw [List.map_map, show ((fun v => v.category) ∘ so_v ad) = mj_cat from funext (fun v => so_cat ad v)]
    exact hwt
  have hAA : ∀ q, va_A (so_ws ad cA G K w) H.size q → A q := fun q hq => by
    rcases hq with ⟨k9, e9, h9⟩ | h9
    · exact hR.2.2.2.2.2 k9 (q, e9) h9
    · exact hA q (Nat.le_trans hSv.1 h9)
  have hPc : ∀ U : State, U.heap = H → s.WarmedH U.vm → so_Pc D L b.1 xs tys ad cA G K w H.size (as.map (so_v ad)) (as.map (so_v ad)).toArray U := by
    intro U hU hW
    refine ⟨rfl, by rw [hU], ?_, va_K.moved hW.alike hK, ?_⟩
    · rw [hU]
      exact ⟨hR.1, ⟨hR.2.1.1, Nat.le_refl _, fun _ _ => ⟨rfl, rfl⟩⟩, hR.2.2.1, hR.2.2.2.1, va_D.self hR.2.2.2.2⟩
    · rw [hU]
      exact hSt.warm hSv hW hAA
  have hdec : decode (mj_c M) pc = .ok (i, 3) ∧ nx = pc + 3 := by
    rcases mj_call0 hcall with ⟨-, rfl⟩ | ⟨-, rfl⟩ | ⟨-, rfl⟩ <;> exact so_decn hf rfl (by decide : 0 < 3)
  obtain ⟨hdec, hnx⟩ := hdec
  refine ⟨hnx, (as.map (so_v ad)).toArray, ?_⟩
  have S : CallFix p m c (mj_c M) (mj_l M) s args so_big (so_cn (mj_o M)) := ⟨hx, hb, hml, hown, hts⟩
  have hfr : d' + 8 + 1 ≤ R.frames := by omega
  have hlo9 : 8 + (mj_l M' + 11) + (100 * d' + 150) ≤ R.locals := by omega
  rcases mj_call0 hcall with ⟨rfl, rfl⟩ | ⟨rfl, rfl⟩ | ⟨rfl, rfl⟩
  · -- static
    rw [if_pos rfl] at hfit
    rw [if_pos rfl] at has
    have hstk : (F0 m pc lsA (st.map (so_v ad))).stack = (as.map (so_v ad)).reverse ++ rest.map (so_v ad) := by
      show st.map (so_v ad) = _
      rw [hst9, List.map_append, List.map_reverse]
    have hn : (as.map (so_v ad)).length = mj_a M' := by rw [List.length_map]; exact has
    rcases hlk with hlink | ⟨⟨host, hlink⟩, hhE, -⟩
    · by_cases hhE : mj_h M' = []
      · have hcm : Cond.code (mj_y M') (mj_c M') (mj_l M') (mj_r M') ∈ so_hd M' :: so_big := by rw [← so_hdc hhE]; exact List.mem_cons_self
        exact vx_runS (bytes := mj_c M') (maxL := mj_l M') (ret := mj_r M') (own := so_cn (mj_o M)) (index := k) (n := mj_a M') S hmet ⟨⟨rfl, rfl, hfr, hlo9, hws, hcm, by rw [← so_hdc hhE]; exact hts _ hh, hts _ hini, hmh, hsg, hts _ hlink⟩, hts _ (hsta hfit)⟩ ⟨so_Pc.blind, hPc⟩ rfl hn hl.1 hstk (by show 2 * 0 + _ ≤ 8; omega) hdec hcs
      · have hcm : Cond.codeWith (mj_y M') (mj_c M') (mj_l M') (mj_r M') (mj_h M') ∈ so_hd M' :: so_big := by rw [← so_hdw hhE]; exact List.mem_cons_self
        exact vx_runSX (hh := mj_h M') (bytes := mj_c M') (maxL := mj_l M') (ret := mj_r M') (own := so_cn (mj_o M)) (index := k) (n := mj_a M') S hmet ⟨⟨rfl, rfl, hfr, hlo9, hws, hcm⟩, by rw [← so_hdw hhE]; exact hts _ hh, hts _ hini, hmh, hsg, hts _ hlink, hts _ (hsta hfit)⟩ ⟨so_Pc.blind, hPc⟩ rfl hn hl.1 hstk (by show 2 * 0 + _ ≤ 8; omega) hdec hcs
    · have hcm : Cond.code (mj_y M') (mj_c M') (mj_l M') (mj_r M') ∈ so_hd M' :: so_big := by rw [← so_hdc hhE]; exact List.mem_cons_self
      exact vx_runSN (bytes := mj_c M') (maxL := mj_l M') (ret := mj_r M') (own := so_cn (mj_o M)) (host := host) (index := k) (n := mj_a M') S hmet ⟨⟨⟨rfl, rfl, hfr, hlo9, hws, hcm⟩, by rw [← so_hdc hhE]; exact hts _ hh, hts _ hini, hmh, hsg, va_Nw.use rfl (hSt.2.2.2.2.2.1 _ hlink)⟩, hts _ (hsta hfit), trivial⟩ ⟨so_Pc.blind, hPc⟩ rfl hn hl.1 hstk (by show 2 * 0 + _ ≤ 8; omega) hdec hcs
  · -- virtual
    rw [if_neg (by decide), if_pos rfl, Bool.and_eq_true, Bool.and_eq_true, Bool.not_eq_true', Bool.not_eq_true'] at hfit
    obtain ⟨⟨hs0, hi0⟩, hrc⟩ := hfit
    obtain ⟨q, as', rfl, hq⟩ := mj_recv_ok hrc
    have hn : (as'.map (so_v ad)).length = mj_a M' := by
      rw [if_neg (by decide)] at has
      rw [List.length_map]
      simpa using has
    have hstk : (F0 m pc lsA (st.map (so_v ad))).stack = (as'.map (so_v ad)).reverse ++ Value.ref (ad q.2.2) :: rest.map (so_v ad) := by
      show st.map (so_v ad) = _
      rw [hst9]
      simp [so_v]
    have hq11 := ho11 hs0
    obtain ⟨h0, h1, hKq⟩ := so_kind_id hR.1 (hso _ List.mem_cons_self q rfl) (by omega)
    have hwa := so_ws_at (ad := ad) (cA := cA) (G := G) (K := K) h0 h1
    obtain ⟨qc, hqc, hqn⟩ := so_cl_cn hq11
    obtain ⟨fs, hcell⟩ : ∃ fs : List Value, so_cell ad cA G K w q.2.2 = .inr (mj_o M', fs) := by
      have hKc : (K q.2.2).1 = mj_o M' := by rw [hKq]; exact hq
      by_cases h9 : mj_o M' = 9
      · exact ⟨_, by rw [so_cell9 (by rw [hKc]; exact h9), h9]⟩
      · exact ⟨_, by rw [so_cellO (by rw [hKc]; exact h9) (by rw [hKc]; exact hq11), hKc]⟩
    rw [hcell] at hwa
    obtain ⟨t9, ht9, ce, hce1, hce2, hce3, -⟩ := hR.2.2.2.1 _ _ hwa
    cases Option.some.inj (hqc.symm.trans ht9)
    have hcB : ∃ cellB : Cell, H[ad q.2.2]? = some cellB ∧ cellB.vm.isStatics = false ∧ s.vm.findClass (mj_y M').cls = some cellB.cls := ⟨ce, hce1, by rw [hce3]; rfl, by rw [hMo, ← hqn, hce2]; exact (hK.1 _ _ hqc).2.1⟩
    rcases hlk with hlink | ⟨-, -, h | h⟩
    · by_cases hhE : mj_h M' = []
      · have hcm : Cond.code (mj_y M') (mj_c M') (mj_l M') (mj_r M') ∈ so_hd M' :: so_big := by rw [← so_hdc hhE]; exact List.mem_cons_self
        exact vx_runV (bytes := mj_c M') (maxL := mj_l M') (ret := mj_r M') (own := so_cn (mj_o M)) (C := (mj_y M').cls) (index := k) (n := mj_a M') (b := ad q.2.2) (As := as'.map (so_v ad)) S hmet ⟨⟨rfl, rfl, hfr, hlo9, hws, hcm, by rw [← so_hdc hhE]; exact hts _ hh, hts _ hini, hmh, hsg, hts _ hlink⟩, hts _ (hinst hs0), hts _ (hsel hs0 hi0)⟩ ⟨so_Pc.blind, hcB, hPc⟩ rfl hn hl.1 hstk (by show 2 * 0 + _ ≤ 8; omega) hdec hcs
      · have hcm : Cond.codeWith (mj_y M') (mj_c M') (mj_l M') (mj_r M') (mj_h M') ∈ so_hd M' :: so_big := by rw [← so_hdw hhE]; exact List.mem_cons_self
        exact vx_runVX (hh := mj_h M') (bytes := mj_c M') (maxL := mj_l M') (ret := mj_r M') (own := so_cn (mj_o M)) (C := (mj_y M').cls) (index := k) (n := mj_a M') (b := ad q.2.2) (As := as'.map (so_v ad)) S hmet ⟨⟨rfl, rfl, hfr, hlo9, hws, hcm⟩, by rw [← so_hdw hhE]; exact hts _ hh, hts _ hini, hmh, hsg, hts _ hlink, hts _ (hinst hs0), hts _ (hsel hs0 hi0)⟩ ⟨so_Pc.blind, hcB, hPc⟩ rfl hn hl.1 hstk (by show 2 * 0 + _ ≤ 8; omega) hdec hcs
    · rw [hs0] at h; cases h
    · rw [hi0] at h; cases h
  · -- a constructor
    rw [if_neg (by decide), if_neg (by decide), Bool.and_eq_true, Bool.and_eq_true, Bool.not_eq_true'] at hfit
    obtain ⟨⟨hs0, hi1⟩, hrc⟩ := hfit
    obtain ⟨q, as', rfl, hq⟩ := mj_recv_ok hrc
    obtain ⟨hhE, hrN, -⟩ := hI hi1
    have hn : (as'.map (so_v ad)).length = mj_a M' := by
      rw [if_neg (by decide)] at has
      rw [List.length_map]
      simpa using has
    have hstk : (F0 m pc lsA (st.map (so_v ad))).stack = (as'.map (so_v ad)).reverse ++ Value.ref (ad q.2.2) :: rest.map (so_v ad) := by
      show st.map (so_v ad) = _
      rw [hst9]
      simp [so_v]
    have hname : (mj_y M').name = "<init>" := by unfold mj_isI at hi1; exact of_decide_eq_true hi1
    have hcd : so_hd M' = .code (mj_y M') (mj_c M') (mj_l M') none := by rw [so_hdc hhE, hrN]
    have hcm : Cond.code (mj_y M') (mj_c M') (mj_l M') none ∈ so_hd M' :: so_big := by rw [← hcd]; exact List.mem_cons_self
    rcases hlk with hlink | ⟨⟨host, hlink⟩, -, -⟩
    · exact vx_runI (bytes := mj_c M') (maxL := mj_l M') (own := so_cn (mj_o M)) (index := k) (n := mj_a M') (b := ad q.2.2) (As := as'.map (so_v ad)) S hmet ⟨⟨rfl, rfl, hfr, hlo9, hws, hcm, by rw [← hcd]; exact hts _ hh, hts _ hini, hmh, hsg, hts _ hlink⟩, hname, hts _ (hinst hs0)⟩ ⟨so_Pc.blind, hPc⟩ rfl hn hl.1 hstk (by show 2 * 0 + _ ≤ 8; omega) hdec hcs
    · exact vx_runIN (bytes := mj_c M') (maxL := mj_l M') (own := so_cn (mj_o M)) (host := host) (index := k) (n := mj_a M') (b := ad q.2.2) (As := as'.map (so_v ad)) S hmet ⟨⟨⟨rfl, rfl, hfr, hlo9, hws, hcm⟩, by rw [← hcd]; exact hts _ hh, hts _ hini, hmh, hsg, va_Nw.use rfl (hSt.2.2.2.2.2.1 _ hlink)⟩, hname, hts _ (hinst hs0)⟩ ⟨so_Pc.blind, hPc⟩ rfl hn hl.1 hstk (by show 2 * 0 + _ ≤ 8; omega) hdec hcs
end SO
