/-! Soundness, whole: by the length of the small machine's run. -/
theorem so_lok_none {n : Nat} {K : Nat → Nat × Nat} {ls : List (Option MV)} {i : Nat} (h : so_lok n K ls) : so_lok n K (mj_sl ls i none) := by
  intro j x hj
  rw [mj_gl_sl] at hj
  split at hj
  · cases hj
  · exact h j x hj
theorem so_ls_none {ad : Nat → Nat} {ls : List (Option MV)} {i : Nat} (hl : i < ls.length) (hp : mj_pv ls i = true) {v : Value} : ∀ q ∈ so_ls ad 0 (mj_sl ls i none), q ∈ (i, v) :: (so_ls ad 0 ls).filter (fun q => !(q.1 == i) && !(q.1 + 1 == i && q.2.category == 2)) := by
  intro q hq
  obtain ⟨j, x, hj, rfl⟩ := (so_ls_mem _ _ _).mp hq
  rw [mj_gl_sl] at hj
  split at hj
  · cases hj
  · rename_i hji
    have hne : j ≠ i := fun e => hji ⟨e, hl⟩
    refine List.mem_cons_of_mem _ (List.mem_filter.mpr ⟨(so_ls_mem _ _ _).mpr ⟨j, x, hj, rfl⟩, ?_⟩)
    simp only [Nat.zero_add, Bool.and_eq_true, Bool.not_eq_true', beq_eq_false_iff_ne, Bool.and_eq_false_iff]
    refine ⟨hne, ?_⟩
    by_cases e : j + 1 = i
    · subst e
      right
      simp only [mj_pv, hj, so_is2 ad, Bool.not_eq_true', beq_eq_false_iff_ne] at hp
      simpa using hp
    · left
      simpa using e
section SO
variable {p : Program} {l : Launch} {e : Env} {R : Room} {s : State} {m : MethodId} {args : Array Value} {below : List Frame} {meth : Method} {c : Code} {M L : Nat} {b : so_B} {xs : Nat → Int32} {A : Nat → Prop} {D : va_G} {mc ms : Nat} {wE w : MWd} {pc nx : Nat} {ls : List (Option MV)} {st : List MV} {i : Instr} {Q : State → Prop}
variable {Qc : Array Value → State → Outcome → State → Prop} {XC : String → Addr → State → State → Prop} {free : Addr → Prop}
theorem so_call {f d : Nat} (hS : so_S f) {r : MRes} {w' : MWd} (hf : mj_fetch M pc = some (i, nx)) (hc : mj_cInv f d w M pc nx i ls st r w') (C : so_C p l s m args meth c M A b L xs) (hRm : so_Rm R mc ms) (hd : d + 8 ≤ R.frames) (hloc : 100 * d + 150 ≤ R.locals) (hfree : ∀ q, A q → free q) (hHr : so_Hr s args A b L xs D Qc w' r) (hHx : so_Hx s A b L xs D XC w' r) :
    so_J p l e R s m args below meth c M A b L xs D (vx_MQ below Qc XC args s mc ms free) mc ms w' w pc ls st := by
  obtain ⟨k, v, M', as, rest, d', r1, w1, hcall, hm, ha, hfit, hwt, rfl, hrun, hgo⟩ := hc
  obtain ⟨has, hst9⟩ := mj_args_ok ha
  have hle := mj_run_le hrun
  have hle2 : mj_le w1 w' := by
    rcases hgo with ⟨rv, -, h3⟩ | ⟨E, po, -, ⟨-, -, rfl⟩ | ⟨hp, -, ⟨q, -, h3⟩ | ⟨-, n, nx', -, -, -, h3⟩⟩⟩
    · exact mj_run_le h3
    · exact mj_le.rf _
    · exact mj_run_le h3
    · exact mj_run_le h3
  intro H locs cells slots tys ad cA G K lsA hR hX hK hSv hl hn hlo hst hc0 hs0
  obtain ⟨hlC1, hlC2⟩ := hle.2
  obtain ⟨hlD1, hlD2⟩ := hle2.2
  obtain ⟨hR1, hR2, hR3, hR4⟩ := hRm
  have hcs : cells + (wC w1 - wC w) ≤ R.cells ∧ slots + (wS w1 - wS w) ≤ R.slots := by omega
  obtain ⟨hnx, a9, hvr⟩ := so_runs hS C hf hcall hm has hst9 hfit hwt hrun hR hX hK hSv hl hst (by omega) hloc hcs
  have hA := C.2.2.2.2.2.2.2.2.1
  have hown := C.2.2.2.2.1
  have hAA : ∀ q, va_A (so_ws ad cA G K w) H.size q → A q := fun q hq => by
    rcases hq with ⟨k9, e9, h9⟩ | h9
    · exact hR.2.2.2.2.2 k9 (q, e9) h9
    · exact hA q (Nat.le_trans hSv.1 h9)
  have hw1 := hR.1.1
  have hrs : so_sok (wN w) K rest := fun x hx9 => hst x (by rw [hst9]; exact List.mem_append_right _ hx9)
  -- what stands behind the call
  have hback : ∀ {tys1 : List (ClassId × FieldType)} {ad1 : Nat → Nat} {cA1 : Nat → ClassId} {G1 : Nat → Nat → Value} {K1 : Nat → Nat × Nat} {st₀ t T' : State} {Lx : List Loc}, st₀.heap = H → T'.heap = t.heap → T'.vm = t.vm → s.WarmedH T'.vm → (∀ q ∈ Lx, va_A (so_ws ad cA G K w) H.size q.base) → so_Rep D (va_A (so_ws ad cA G K w) H.size) L (b.1, wN w, ad, K) tys1 ad1 cA1 G1 K1 w1 t.heap → va_K D vwCl tys1 t → va_F (va_A (so_ws ad cA G K w) H.size) st₀ t →
      (∀ i, i < wN w → ad1 i = ad i) ∧ (∀ i, i < wN w → K1 i = K i) ∧ so_Rep D A L b tys1 ad1 cA1 G1 K1 w1 T'.heap ∧ va_K D vwCl tys1 s ∧ va_S A s.heap T'.heap (locs ++ Lx) := by
    intro tys1 ad1 cA1 G1 K1 st₀ t T' Lx h0 e1 e2 hW hLx hRr hKt hF
    have had : ∀ i, i < wN w → ad1 i = ad i := fun i hi => (hRr.2.1.2.2 i hi).1
    have hKK : ∀ i, i < wN w → K1 i = K i := fun i hi => (hRr.2.1.2.2 i hi).2
    refine ⟨had, hKK, ?_, ?_, ?_⟩
    · rw [e1]
      exact hRr.narrow hAA (hR.2.1.ext hw1 hle.1 had hKK)
    · exact va_K.moved (by rw [← e2]; exact Jvm.Vm.Alike.symm hW.alike) hKt
    · exact (vx_keep h0 e1 hSv (fun q _ h => hAA q h) hAA hLx hF).2.2
  intro T hT X
  rcases hvr T hT X with ⟨v9, st₀, t, T', Lx, h0, X', hLx, e1, e2, ⟨rv, hrv, tys1, ad1, cA1, G1, K1, ho, hRr, hX1, hKt, hF, hok⟩, hstep⟩ | ⟨q, st₀, t, T', Lx, E9, ce, h0, X', hLx, e1, e2, ⟨E, po, hr1, hE, rfl, tys1, ad1, cA1, G1, K1, hRr, hX1, hKt, hF, hpo⟩, hce, hcv, hcl, hstep⟩
  · obtain ⟨had, hKK, hRn, hKn, hSn⟩ := hback h0 e1 e2 X'.warmed hLx hRr hKt hF
    cases ho
    rcases hgo with ⟨rv', hr', h3⟩ | ⟨E, po, hr', -⟩
    · rw [hrv] at hr'
      cases hr'
      have kk := hS _ _ _ _ _ _ _ _ h3 p l e R s m args below meth c L b xs A D mc ms Qc XC free C ⟨hR1, hR2, hR3, hR4⟩ hd hloc hfree hHr hHx T'.heap (locs ++ Lx) (cells + (wC w1 - wC w)) (slots + (wS w1 - wS w)) tys1 ad1 cA1 G1 K1 lsA hRn hX1 hKn hSn (by rw [so_ls_ext had hlo]; exact hl) hn (so_lok_ext hle.1 hKK hlo) (fun x hx => by
        rcases List.mem_append.mp hx with h | h
        · cases rv with
          | none => cases h
          | some y =>
            have h9 : x = y := by simpa using h
            exact hok x (by rw [h9])
        · exact so_ok_ext hle.1 hKK (hrs x h)) (by omega) (by omega)
      obtain ⟨t2, a1, b1⟩ := kk T' rfl X'
      refine ⟨t2, hstep t2 ?_, b1⟩
      have hsk : (rv.map (so_v ad1)).toList ++ rest.map (so_v ad) = (rv.toList ++ rest).map (so_v ad1) := by
        rw [List.map_append, so_map_ext had hrs]
        cases rv <;> rfl
      rw [hsk, show (F0 m pc lsA (st.map (so_v ad))).pc + 3 = nx from hnx.symm]
      exact a1
    · rw [hrv] at hr'
      cases hr'
  · obtain ⟨had, hKK, hRn, hKn, hSn⟩ := hback h0 e1 e2 X'.warmed hLx hRr hKt hF
    rw [← e1] at hce
    rcases hgo with ⟨rv', hr', h3⟩ | ⟨E', po', hr', hend⟩
    · rw [hr1] at hr'
      cases hr'
    · rw [hr1] at hr'
      cases hr'
      have hjoin : ∀ (V : vx_W p l e R s m args below meth c T'.heap (locs ++ Lx) (cells + (wC w1 - wC w)) (slots + (wS w1 - wS w)) (vx_MQ below Qc XC args s mc ms free) (F0 m pc lsA (rest.map (so_v ad))) q), ∃ t, Steps p.tables e below (T.setTop (F0 m pc lsA (st.map (so_v ad)))) t ∧ vx_MQ below Qc XC args s mc ms free t := by
        intro V
        obtain ⟨t2, a1, b1⟩ := V T' rfl X'
        exact ⟨t2, hstep.trans a1, b1⟩
      apply hjoin
      rcases hend with ⟨hn0, rfl, rfl⟩ | ⟨hp, hhp, hcatch⟩
      · refine so_uncaught C hE hn0 hce hcv hcl (fun t9 h1 h2 => hHx E po rfl hE T'.heap (locs ++ Lx) tys1 ad1 cA1 G1 K1 q t9 hRn hX1 hKn hSn hpo h1 h2) (fun z hz => hfree _ (hSn.2.2 z hz)) (by omega) (by omega)
      · refine so_caught C hE hhp hce hcv hcl ?_
        rcases hcatch with ⟨q9, rfl, h3⟩ | ⟨rfl, n, nx', hast, hnl, hpv, h3⟩
        · obtain ⟨hq9, hpk⟩ := hpo q9 rfl
          have kk := hS _ _ _ _ _ _ _ _ h3 p l e R s m args below meth c L b xs A D mc ms Qc XC free C ⟨hR1, hR2, hR3, hR4⟩ hd hloc hfree hHr hHx T'.heap (locs ++ Lx) (cells + (wC w1 - wC w)) (slots + (wS w1 - wS w)) tys1 ad1 cA1 G1 K1 lsA hRn hX1 hKn hSn (by rw [so_ls_ext had hlo]; exact hl) hn (so_lok_ext hle.1 hKK hlo) (fun x hx => by
            rw [List.mem_singleton] at hx
            subst hx
            intro p8 hp8
            cases hp8
            exact hpk) (by omega) (by omega)
          rw [hq9]
          exact kk
        · have hls1 : ls.length = mj_l M := hn
          have kk : ∀ lsB : Array Slot, lv_has lsB (mj_l M) ((n, .ref q) :: (so_ls ad 0 ls).filter (fun q => !(q.1 == n) && !(q.1 + 1 == n && q.2.category == 2))) → W p l e R s m args below meth c T'.heap (locs ++ Lx) (cells + (wC w1 - wC w)) (slots + (wS w1 - wS w)) (vx_MQ below Qc XC args s mc ms free) (F0 m nx' lsB []) := by
            intro lsB hB
            exact hS _ _ _ _ _ _ _ _ h3 p l e R s m args below meth c L b xs A D mc ms Qc XC free C ⟨hR1, hR2, hR3, hR4⟩ hd hloc hfree hHr hHx T'.heap (locs ++ Lx) (cells + (wC w1 - wC w)) (slots + (wS w1 - wS w)) tys1 ad1 cA1 G1 K1 lsB hRn hX1 hKn hSn (by
              rw [so_ls_ext had (so_lok_none hlo)]
              exact so_has_mono hB (so_ls_none hnl hpv)) (by rw [mj_len_sl]; exact hn) (so_lok_ext hle.1 hKK (so_lok_none hlo)) (fun x hx => by cases hx) (by omega) (by omega)
          rcases hast with hfe | ⟨n4, rfl, hfe⟩
          · obtain ⟨hdd, rfl⟩ := so_decn hfe rfl (by decide : 0 < 2)
            exact lv_astore C.1 C.2.1 hdd hl (by omega) rfl kk
          · obtain ⟨hdd, rfl⟩ := so_decn hfe rfl (by decide : 0 < 1)
            exact lv_astore_n C.1 C.2.1 hdd rfl hl (by omega) rfl kk
end SO
theorem so_sound : ∀ f : Nat, so_S f
  | 0 => by
    intro d w M pc ls st r w' h
    cases h
  | f + 1 => by
    have ih := so_sound f
    intro d w M pc ls st r w' h p l e R s m args below meth c L b xs A D mc ms Qc XC free C hRm hd hloc hfree hHr hHx
    have hle := mj_run_le h
    obtain ⟨i, nx, hf, hc | hl | hs⟩ := mj_inv h
    · exact so_call ih hf hc C hRm hd hloc hfree hHr hHx
    · rcases hl with ⟨k, Mx, q, rest, rfl, hm, rfl, hwt, h3⟩ | ⟨k, Mx, p1, q, sp, dp, n, rest, rfl, hm, rfl, h20, hne, g1, g2, g3, g4, g5, hwt, ⟨hk, h3⟩ | ⟨hk, h3⟩⟩ | ⟨k, Mx, x, y, rest, rfl, hm, rfl, hwt, h3⟩ | ⟨k, Mx, x, y, rest, rfl, hm, rfl, hwt, h3⟩
      · exact so_s_objInit C hf hm hwt hRm (ih _ _ _ _ _ _ _ _ h3 p l e R s m args below meth c L b xs A D mc ms Qc XC free C hRm hd hloc hfree hHr hHx)
      · exact so_s_copyI C hf hm (by omega) hne g1 g2 g3 g4 g5 hwt hRm (ih _ _ _ _ _ _ _ _ h3 p l e R s m args below meth c L b xs A D mc ms Qc XC free C hRm hd hloc hfree hHr hHx)
      · exact so_s_copyJ C hf hm (by omega) hne g1 g2 g3 g4 g5 hwt hRm (ih _ _ _ _ _ _ _ _ h3 p l e R s m args below meth c L b xs A D mc ms Qc XC free C hRm hd hloc hfree hHr hHx)
      · exact so_s_max C hf hm hwt hRm hle.2 (ih _ _ _ _ _ _ _ _ h3 p l e R s m args below meth c L b xs A D mc ms Qc XC free C hRm hd hloc hfree hHr hHx)
      · exact so_s_min C hf hm hwt hRm hle.2 (ih _ _ _ _ _ _ _ _ h3 p l e R s m args below meth c L b xs A D mc ms Qc XC free C hRm hd hloc hfree hHr hHx)
    · rcases hs with ⟨v, hi, hok, hst, rfl, rfl⟩ | ⟨E, ik, is, ic, hw, hwt, rfl, rfl⟩ | ⟨q, hw, hls, rfl, hq, rfl, rfl⟩ | ⟨w1, pc1, ls1, st1, hs, h3⟩
      · exact so_s_ret C hf hi hok hst (fun H locs tys ad cA G K t a1 a2 a3 a4 a5 a6 a7 => hHr v rfl H locs tys ad cA G K t a1 a2 a3 a4 a5 a6 a7) hfree
      · exact so_s_thr C hw hwt hRm (fun H locs tys ad cA G K q t a1 a2 a3 a4 a5 a6 => hHx E none rfl (by have := (so_thr hw).2.2.2.2.2.2.2.1; omega) H locs tys ad cA G K q t a1 a2 a3 a4 (fun pt hpt => by cases hpt) a5 a6) hfree
      · refine so_s_wrong C hw hls hq hRm ⟨Nat.le_refl _, Nat.le_refl _⟩ ?_
        intro H locs cells slots tys ad cA G K lsA ce pc1 rest hR hX hK hSv hKw hce hcv hcl hc1 hs1
        refine so_uncaught C (E := 3) (by decide) ?_ hce hcv hcl (fun t a5 a6 => hHx 3 (some (9, 0, wN w)) rfl (by decide) H locs tys ad cA G K _ t hR hX hK hSv (fun pt hpt => ?_) a5 a6) (fun z hz => hfree _ (hSv.2.2 z hz)) (by omega) (by omega)
        · rw [(so_thw hw).2.2.2.2.2.2.2]
          rfl
        · cases hpt
          exact ⟨rfl, by show wN w < wN (mj_wrong w q.2.2); unfold mj_wrong; simp only [wrd]; omega, hKw⟩
      · exact so_step C hf hs (mj_run_le h3).2 hRm (ih _ _ _ _ _ _ _ _ h3 p l e R s m args below meth c L b xs A D mc ms Qc XC free C hRm hd hloc hfree hHr hHx)
