/-! THE PURE SIDE. What a run of the small machine comes to, as a predicate with an equation for each instruction. -/
theorem mj_body_call {f d : Nat} {w : MWd} {M pc : Nat} {ls : List (Option MV)} {st : List MV} {i : Instr} {nx k v M' : Nat} (hf : mj_fetch M pc = some (i, nx)) (hc : mj_call i = some (k, v)) (hm : mj_mth (mj_o M) k = some (0, M')) : mj_body (mj_run f) d w M pc ls st = (match mj_args (mj_a M' + if v = 0 then 0 else 1) st with
          | some (as, rest) =>
            if mj_fits v M' as = true ∧ mj_wt rest ≤ 8 then (match d with
            | 0 => none
            | d' + 1 => (match mj_run f d' w M' 0 (mj_ent M' as) [] with
              | some (.inl rv, w') => mj_run f (d' + 1) w' M nx ls (rv.toList ++ rest)
              | some (.inr (E, p), w') => (match mj_hs (mj_o M) pc E (mj_h M) with
                | none => some (.inr (E, p), w')
                | some hp => (match p with
                  | some q => mj_run f (d' + 1) w' M hp ls [vP q]
                  | none => (match mj_fetch M hp with
                    | some (.astore n, nx') => if n < ls.length ∧ mj_pv ls n = true then mj_run f (d' + 1) w' M nx' (mj_sl ls n none) [] else none
                    | some (.astore_n n, nx') => if (n : Nat) < ls.length ∧ mj_pv ls n = true then mj_run f (d' + 1) w' M nx' (mj_sl ls n none) [] else none
                    | _ => none)))
              | none => none)) else none
          | none => none) := by
  unfold mj_body
  rw [hf]
  dsimp only
  rw [hc]
  dsimp only
  rw [hm]
  rfl
theorem mj_out {f d : Nat} {w : MWd} {M pc : Nat} {ls : List (Option MV)} {st : List MV} {r : MRes} {w' : MWd} {i : Instr} {nx : Nat} (hf : mj_fetch M pc = some (i, nx)) (h : mj_cInv f d w M pc nx i ls st r w' ∨ mj_lInv f d w M nx i ls st r w') : mj_run (f + 1) d w M pc ls st = some (r, w') := by
  show mj_body (mj_run f) d w M pc ls st = some (r, w')
  rcases h with hc | hl
  · obtain ⟨k, v, M', as, rest, d', r1, w1, hcall, hm, ha, hft, hwt, rfl, hr, h2⟩ := hc
    rw [mj_body_call hf hcall hm, ha]
    dsimp only
    rw [if_pos ⟨hft, hwt⟩, hr]
    rcases h2 with ⟨rv, rfl, h3⟩ | ⟨E, p, rfl, ⟨hn, rfl, rfl⟩ | ⟨hp, hh, ⟨q, rfl, h3⟩ | ⟨rfl, n, nx', hfe, h5, h6, h3⟩⟩⟩
    · exact h3
    · dsimp only
      rw [hn]
    · dsimp only
      rw [hh]
      exact h3
    · dsimp only
      rw [hh]
      try dsimp only
      rcases hfe with hfe | ⟨n4, rfl, hfe⟩
      · rw [hfe]
        try dsimp only
        rw [if_pos ⟨h5, h6⟩]
        exact h3
      · rw [hfe]
        try dsimp only
        rw [if_pos ⟨h5, h6⟩]
        exact h3
  · unfold mj_body
    rw [hf]
    dsimp only
    rcases hl with ⟨k, Mx, q, rest, rfl, hm, rfl, hwt, h3⟩ | ⟨k, Mx, p1, q, sp, dp, n, rest, rfl, hm, rfl, h20, hne, g1, g2, g3, g4, g5, hwt, hk⟩ | ⟨k, Mx, x, y, rest, rfl, hm, rfl, hwt, h3⟩ | ⟨k, Mx, x, y, rest, rfl, hm, rfl, hwt, h3⟩
    · rw [show mj_call (.invokespecial k) = some (k, 2) from rfl]
      try dsimp only
      rw [hm]
      refine (if_pos ?_).trans h3
      exact ⟨rfl, hwt⟩
    · rw [show mj_call (.invokestatic k) = some (k, 0) from rfl]
      try dsimp only
      rw [hm]
      rcases hk with ⟨hk, h3⟩ | ⟨hk, h3⟩
      · refine (if_pos ?_).trans ((if_pos hk).trans h3)
        exact ⟨h20, hne, g1, g2, g3, g4, g5, rfl, hwt⟩
      · refine (if_pos ?_).trans ((if_neg hk).trans h3)
        exact ⟨h20, hne, g1, g2, g3, g4, g5, rfl, hwt⟩
    · rw [show mj_call (.invokestatic k) = some (k, 0) from rfl]
      try dsimp only
      rw [hm]
      refine (if_pos ?_).trans h3
      exact ⟨rfl, hwt⟩
    · rw [show mj_call (.invokestatic k) = some (k, 0) from rfl]
      try dsimp only
      rw [hm]
      refine (if_pos ?_).trans h3
      exact ⟨rfl, hwt⟩
theorem mj_out0 {f : Nat} {d : Nat} {w : MWd} {M pc : Nat} {ls : List (Option MV)} {st : List MV} {i : Instr} {nx : Nat} (hf : mj_fetch M pc = some (i, nx)) (hc : mj_call i = none) : (∃ x, ∀ f, mj_run (f + 1) d w M pc ls st = x) ∨ ∀ f, mj_run (f + 1) d w M pc ls st = (match mj_step M i pc nx w ls st with
      | some (w', pc', ls', st') => mj_run f d w' M pc' ls' st'
      | none => none) := by
  have hb : ∀ f, mj_run (f + 1) d w M pc ls st = mj_body (mj_run f) d w M pc ls st := fun _ => rfl
  simp only [hb]
  unfold mj_body
  rw [hf]
  try dsimp only
  rw [hc]
  try dsimp only
  split
  · exact Or.inl ⟨_, fun _ => rfl⟩
  · exact Or.inl ⟨_, fun _ => rfl⟩
  · exact Or.inl ⟨_, fun _ => rfl⟩
  · exact Or.inl ⟨_, fun _ => rfl⟩
  · exact Or.inl ⟨_, fun _ => rfl⟩
  · split
    · exact Or.inl ⟨_, fun _ => rfl⟩
    · split
      · exact Or.inl ⟨_, fun _ => rfl⟩
      · right
        intro f
        cases mj_step M i pc nx w ls st <;> rfl
theorem mj_run_more : ∀ (f : Nat) {d : Nat} {w : MWd} {M pc : Nat} {ls : List (Option MV)} {st : List MV} {r : MRes} {w' : MWd}, mj_run f d w M pc ls st = some (r, w') → mj_run (f + 1) d w M pc ls st = some (r, w')
  | 0, _, _, _, _, _, _, _, _, h => by cases h
  | f + 1, d, w, M, pc, ls, st, r, w', h => by
    have ih := @mj_run_more f
    obtain ⟨i, nx, hf, hc | hl | hs⟩ := mj_inv h
    · refine mj_out hf (Or.inl ?_)
      obtain ⟨k, v, M', as, rest, d', r1, w1, hcall, hm, ha, hft, hwt, hd, hr, h2⟩ := hc
      refine ⟨k, v, M', as, rest, d', r1, w1, hcall, hm, ha, hft, hwt, hd, ih hr, ?_⟩
      rcases h2 with ⟨rv, e1, h3⟩ | ⟨E, p, e1, ⟨hn, e2, e3⟩ | ⟨hp, hh, ⟨q, e2, h3⟩ | ⟨e2, n, nx', hfe, h5, h6, h3⟩⟩⟩
      · exact Or.inl ⟨rv, e1, ih h3⟩
      · exact Or.inr ⟨E, p, e1, Or.inl ⟨hn, e2, e3⟩⟩
      · exact Or.inr ⟨E, p, e1, Or.inr ⟨hp, hh, Or.inl ⟨q, e2, ih h3⟩⟩⟩
      · exact Or.inr ⟨E, p, e1, Or.inr ⟨hp, hh, Or.inr ⟨e2, n, nx', hfe, h5, h6, ih h3⟩⟩⟩
    · refine mj_out hf (Or.inr ?_)
      rcases hl with ⟨k, Mx, q, rest, a1, a2, a3, a4, h3⟩ | ⟨k, Mx, p1, q, sp, dp, n, rest, a1, a2, a3, a4, a5, a6, a7, a8, a9, a10, a11, hk⟩ | ⟨k, Mx, x, y, rest, a1, a2, a3, a4, h3⟩ | ⟨k, Mx, x, y, rest, a1, a2, a3, a4, h3⟩
      · exact Or.inl ⟨k, Mx, q, rest, a1, a2, a3, a4, ih h3⟩
      · refine Or.inr (Or.inl ⟨k, Mx, p1, q, sp, dp, n, rest, a1, a2, a3, a4, a5, a6, a7, a8, a9, a10, a11, ?_⟩)
        rcases hk with ⟨hk, h3⟩ | ⟨hk, h3⟩
        · exact Or.inl ⟨hk, ih h3⟩
        · exact Or.inr ⟨hk, ih h3⟩
      · exact Or.inr (Or.inr (Or.inl ⟨k, Mx, x, y, rest, a1, a2, a3, a4, ih h3⟩))
      · exact Or.inr (Or.inr (Or.inr ⟨k, Mx, x, y, rest, a1, a2, a3, a4, ih h3⟩))
    · cases hc : mj_call i with
      | some kv =>
        exfalso
        rcases mj_call0 (k := kv.1) (v := kv.2) hc with ⟨-, rfl⟩ | ⟨-, rfl⟩ | ⟨-, rfl⟩ <;> rcases hs with ⟨v, hi, -⟩ | ⟨E, ik, is, ic, ht, -⟩ | ⟨q, ht, -⟩ | ⟨w1, pc1, ls1, st1, hs, -⟩
        all_goals first
          | (rcases hi with ⟨h9, -⟩ | ⟨h9, -⟩ | ⟨h9, -⟩ | ⟨h9, -⟩ | ⟨h9, -⟩ <;> cases h9; done)
          | (have h9 := (so_thr ht).1; have h8 := (so_dec hf); obtain ⟨n9, h8, -⟩ := h8; rw [h9] at h8; cases h8; done)
          | (have h9 := (so_thw ht).1; have h8 := (so_dec hf); obtain ⟨n9, h8, -⟩ := h8; rw [h9] at h8; cases h8; done)
          | (cases hs; done)
      | none =>
        rcases mj_out0 (d := d) (w := w) (ls := ls) (st := st) (f := f) hf hc with ⟨x, hx⟩ | hx
        · rw [hx] at h ⊢; exact h
        · rw [hx] at h ⊢
          split at h
          · rename_i w1 pc1 ls1 st1 hs1
            exact ih h
          · cases h
theorem mj_run_up {f g : Nat} (hfg : f ≤ g) {d : Nat} {w : MWd} {M pc : Nat} {ls : List (Option MV)} {st : List MV} {r : MRes} {w' : MWd} (h : mj_run f d w M pc ls st = some (r, w')) : mj_run g d w M pc ls st = some (r, w') := by
  induction hfg with
  | refl => exact h
  | step _ ih => exact mj_run_more _ ih
/-- the run comes to an end that Q takes -/
def mR (d : Nat) (w : MWd) (M pc : Nat) (ls : List (Option MV)) (st : List MV) (Q : MRes → MWd → Prop) : Prop := ∃ (f : Nat) (r : MRes) (w' : MWd), mj_run f d w M pc ls st = some (r, w') ∧ Q r w'
theorem mR_mono {d : Nat} {w : MWd} {M pc : Nat} {ls : List (Option MV)} {st : List MV} {Q Q' : MRes → MWd → Prop} (h : mR d w M pc ls st Q) (hQ : ∀ r w', Q r w' → Q' r w') : mR d w M pc ls st Q' := by
  obtain ⟨f, r, w', h1, h2⟩ := h
  exact ⟨f, r, w', h1, hQ r w' h2⟩
section MR
variable {d : Nat} {w : MWd} {M pc nx : Nat} {ls : List (Option MV)} {st : List MV} {Q : MRes → MWd → Prop} {i : Instr}
theorem mR_succ : mR d w M pc ls st Q ↔ ∃ (f : Nat) (r : MRes) (w' : MWd), mj_body (mj_run f) d w M pc ls st = some (r, w') ∧ Q r w' := by
  constructor
  · rintro ⟨f, r, w', h1, h2⟩
    cases f with
    | zero => cases h1
    | succ f => exact ⟨f, r, w', h1, h2⟩
  · rintro ⟨f, r, w', h1, h2⟩
    exact ⟨f + 1, r, w', h1, h2⟩
/-- a plain step -/
theorem mR_step (hf : mj_fetch M pc = some (i, nx)) (hc : mj_call i = none) (hp : mj_thr M pc = none ∧ mj_thw M pc = false) (hi : ¬ i = .ireturn ∧ ¬ i = .lreturn ∧ ¬ i = .dreturn ∧ ¬ i = .areturn ∧ ¬ i = .return_) :
    mR d w M pc ls st Q ↔ ∃ s : MSt, mj_step M i pc nx w ls st = some s ∧ mR d s.1 M s.2.1 s.2.2.1 s.2.2.2 Q := by
  rw [mR_succ]
  have hb : ∀ f, mj_body (mj_run f) d w M pc ls st = (match mj_step M i pc nx w ls st with
      | some (w', pc', ls', st') => mj_run f d w' M pc' ls' st'
      | none => none) := by
    intro f
    unfold mj_body
    rw [hf]
    try dsimp only
    rw [hc]
    try dsimp only
    split
    · exact absurd rfl hi.1
    · exact absurd rfl hi.2.1
    · exact absurd rfl hi.2.2.1
    · exact absurd rfl hi.2.2.2.1
    · exact absurd rfl hi.2.2.2.2
    · rw [hp.1]
      try dsimp only
      rw [if_neg (by rw [hp.2]; decide)]
      cases mj_step M i pc nx w ls st <;> rfl
  constructor
  · rintro ⟨f, r, w', h1, h2⟩
    rw [hb] at h1
    split at h1
    · rename_i w1 pc1 ls1 st1 hs
      exact ⟨(w1, pc1, ls1, st1), hs, f, r, w', h1, h2⟩
    · cases h1
  · rintro ⟨⟨w1, pc1, ls1, st1⟩, hs, f, r, w', h1, h2⟩
    refine ⟨f, r, w', ?_, h2⟩
    rw [hb, hs]
    exact h1
/-- a call -/
theorem mR_call {k v M' : Nat} {as rest : List MV} (hf : mj_fetch M pc = some (i, nx)) (hc : mj_call i = some (k, v)) (hm : mj_mth (mj_o M) k = some (0, M')) (ha : mj_args (mj_a M' + if v = 0 then 0 else 1) st = some (as, rest)) (hft : mj_fits v M' as = true) (hwt : mj_wt rest ≤ 8)
    (h : mR d w M' 0 (mj_ent M' as) [] (fun r w1 => match r with
      | .inl rv => mR (d + 1) w1 M nx ls (rv.toList ++ rest) Q
      | .inr (E, p) => (match mj_hs (mj_o M) pc E (mj_h M) with
        | none => Q (.inr (E, p)) w1
        | some hp => (match p with
          | some q => mR (d + 1) w1 M hp ls [vP q] Q
          | none => (match mj_fetch M hp with
            | some (.astore n, nx') => n < ls.length ∧ mj_pv ls n = true ∧ mR (d + 1) w1 M nx' (mj_sl ls n none) [] Q
            | some (.astore_n n, nx') => (n : Nat) < ls.length ∧ mj_pv ls n = true ∧ mR (d + 1) w1 M nx' (mj_sl ls n none) [] Q
            | _ => False))))) : mR (d + 1) w M pc ls st Q := by
  obtain ⟨f, r, w1, h1, h2⟩ := h
  have fin : ∀ (g : Nat) (r2 : MRes) (w2 : MWd), Q r2 w2 → f ≤ g → ((∃ rv, r = .inl rv ∧ mj_run g (d + 1) w1 M nx ls (rv.toList ++ rest) = some (r2, w2)) ∨
     (∃ (E : Nat) (p : Option Ptr), r = .inr (E, p) ∧
       ((mj_hs (mj_o M) pc E (mj_h M) = none ∧ r2 = .inr (E, p) ∧ w2 = w1) ∨
        (∃ hp, mj_hs (mj_o M) pc E (mj_h M) = some hp ∧
          ((∃ q, p = some q ∧ mj_run g (d + 1) w1 M hp ls [vP q] = some (r2, w2)) ∨
           (p = none ∧ ∃ (n nx' : Nat), (mj_fetch M hp = some (.astore n, nx') ∨ ∃ n4 : Fin 4, n = n4 ∧ mj_fetch M hp = some (.astore_n n4, nx')) ∧ n < ls.length ∧ mj_pv ls n = true ∧ mj_run g (d + 1) w1 M nx' (mj_sl ls n none) [] = some (r2, w2))))))) → mR (d + 1) w M pc ls st Q := fun g r2 w2 hq hg h9 => ⟨g + 1, r2, w2, mj_out hf (Or.inl ⟨k, v, M', as, rest, d, r, w1, hc, hm, ha, hft, hwt, rfl, mj_run_up hg h1, h9⟩), hq⟩
  cases r with
  | inl rv =>
    obtain ⟨g, r2, w2, h3, h4⟩ := h2
    exact fin (max f g) r2 w2 h4 (Nat.le_max_left f g) (Or.inl ⟨rv, rfl, mj_run_up (Nat.le_max_right f g) h3⟩)
  | inr ep =>
    obtain ⟨E, p⟩ := ep
    dsimp only at h2
    cases hh : mj_hs (mj_o M) pc E (mj_h M) with
    | none =>
      rw [hh] at h2
      exact fin f _ _ h2 (Nat.le_refl f) (Or.inr ⟨E, p, rfl, Or.inl ⟨hh, rfl, rfl⟩⟩)
    | some hp =>
      rw [hh] at h2
      cases p with
      | some q =>
        obtain ⟨g, r2, w2, h3, h4⟩ := h2
        exact fin (max f g) r2 w2 h4 (Nat.le_max_left f g) (Or.inr ⟨E, _, rfl, Or.inr ⟨hp, hh, Or.inl ⟨q, rfl, mj_run_up (Nat.le_max_right f g) h3⟩⟩⟩)
      | none =>
        dsimp only at h2
        split at h2
        · rename_i n nx' hfe
          obtain ⟨h5, h6, g, r2, w2, h3, h4⟩ := h2
          exact fin (max f g) r2 w2 h4 (Nat.le_max_left f g) (Or.inr ⟨E, _, rfl, Or.inr ⟨hp, hh, Or.inr ⟨rfl, n, nx', Or.inl hfe, h5, h6, mj_run_up (Nat.le_max_right f g) h3⟩⟩⟩)
        · rename_i n nx' hfe
          obtain ⟨h5, h6, g, r2, w2, h3, h4⟩ := h2
          exact fin (max f g) r2 w2 h4 (Nat.le_max_left f g) (Or.inr ⟨E, _, rfl, Or.inr ⟨hp, hh, Or.inr ⟨rfl, n, nx', Or.inr ⟨n, rfl, hfe⟩, h5, h6, mj_run_up (Nat.le_max_right f g) h3⟩⟩⟩)
        · exact h2.elim
end MR
