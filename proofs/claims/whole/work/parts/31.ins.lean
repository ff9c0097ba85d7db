/-! One equation for each kind of instruction. -/
def mj_fchk (M : Nat) (t : List (Nat × Instr × Nat)) : Bool := t.all (fun e => decide (mj_fetch M e.1 = some e.2) && decide (mj_thr M e.1 = none) && !(mj_thw M e.1))
theorem mj_ff {M : Nat} {t : List (Nat × Instr × Nat)} (h : mj_fchk M t = true) (k : Nat) {pc nx : Nat} {i : Instr} (hk : t[k]? = some (pc, i, nx)) : mj_fetch M pc = some (i, nx) ∧ mj_thr M pc = none ∧ mj_thw M pc = false := by
  have h1 := List.all_eq_true.mp h _ (List.mem_of_getElem? hk)
  simp only [Bool.and_eq_true, decide_eq_true_eq, Bool.not_eq_true'] at h1
  exact ⟨h1.1.1, h1.1.2, h1.2⟩
abbrev mF (M pc : Nat) (i : Instr) (nx : Nat) : Prop := mj_fetch M pc = some (i, nx) ∧ mj_thr M pc = none ∧ mj_thw M pc = false
section MR
variable {d : Nat} {w : MWd} {M pc nx : Nat} {ls : List (Option MV)} {st : List MV} {Q : MRes → MWd → Prop} {i : Instr}
theorem mR_one (hf : mF M pc i nx) (hc : mj_call i = none) (hi : ¬ i = .ireturn ∧ ¬ i = .lreturn ∧ ¬ i = .dreturn ∧ ¬ i = .areturn ∧ ¬ i = .return_) {s : MSt} (hs : mj_step M i pc nx w ls st = some s) : mR d w M pc ls st Q ↔ mR d s.1 M s.2.1 s.2.2.1 s.2.2.2 Q := by
  rw [mR_step hf.1 hc hf.2 hi]
  constructor
  · rintro ⟨s', h1, h2⟩
    rw [hs] at h1
    cases h1
    exact h2
  · intro h
    exact ⟨s, hs, h⟩
theorem mR_stuck (hf : mF M pc i nx) (hc : mj_call i = none) (hi : ¬ i = .ireturn ∧ ¬ i = .lreturn ∧ ¬ i = .dreturn ∧ ¬ i = .areturn ∧ ¬ i = .return_) (hs : mj_step M i pc nx w ls st = none) : ¬ mR d w M pc ls st Q := by
  rw [mR_step hf.1 hc hf.2 hi]
  rintro ⟨s', h1, h2⟩
  rw [hs] at h1
  cases h1
/-- a step with a condition -/
theorem mR_oneC (hf : mF M pc i nx) (hc : mj_call i = none) (hi : ¬ i = .ireturn ∧ ¬ i = .lreturn ∧ ¬ i = .dreturn ∧ ¬ i = .areturn ∧ ¬ i = .return_) {c : Prop} [Decidable c] {s : MSt} (hs : mj_step M i pc nx w ls st = if c then some s else none) : mR d w M pc ls st Q ↔ c ∧ mR d s.1 M s.2.1 s.2.2.1 s.2.2.2 Q := by
  by_cases h : c
  · rw [if_pos h] at hs
    rw [mR_one hf hc hi hs]
    exact ⟨fun q => ⟨h, q⟩, fun q => q.2⟩
  · rw [if_neg h] at hs
    exact ⟨fun q => absurd q (mR_stuck hf hc hi hs), fun q => absurd q.1 h⟩
/-- a branch -/
theorem mR_br (hf : mF M pc i nx) (hc : mj_call i = none) (hi : ¬ i = .ireturn ∧ ¬ i = .lreturn ∧ ¬ i = .dreturn ∧ ¬ i = .areturn ∧ ¬ i = .return_) {c : Prop} [Decidable c] {s1 s2 : MSt} (hs : mj_step M i pc nx w ls st = some (if c then s1 else s2)) : mR d w M pc ls st Q ↔ (c → mR d s1.1 M s1.2.1 s1.2.2.1 s1.2.2.2 Q) ∧ (¬ c → mR d s2.1 M s2.2.1 s2.2.2.1 s2.2.2.2 Q) := by
  rw [mR_one hf hc hi hs]
  by_cases h : c
  · rw [if_pos h]
    exact ⟨fun q => ⟨fun _ => q, fun q2 => absurd h q2⟩, fun q => q.1 h⟩
  · rw [if_neg h]
    exact ⟨fun q => ⟨fun q2 => absurd q2 h, fun _ => q⟩, fun q => q.2 h⟩
/-- a return -/
theorem mR_ret (hf : mF M pc i nx) (v : Option MV) (hi : mj_retI i v) (hok : mj_retOk M v = true) : mR d w M pc ls v.toList Q ↔ Q (.inl v) w := by
  have hr : ∀ f, mj_run (f + 1) d w M pc ls v.toList = some (.inl v, w) := by
    intro f
    show mj_body (mj_run f) d w M pc ls v.toList = _
    unfold mj_body
    rw [hf.1]
    rcases hi with ⟨rfl, x, rfl⟩ | ⟨rfl, x, rfl⟩ | ⟨rfl, x, rfl⟩ | ⟨rfl, x, rfl⟩ | ⟨rfl, rfl⟩
    all_goals exact if_pos hok
  constructor
  · rintro ⟨f, r, w', h1, h2⟩
    cases f with
    | zero => cases h1
    | succ f =>
      rw [hr] at h1
      cases h1
      exact h2
  · intro h
    exact ⟨1, _, _, hr 0, h⟩
/-- a return of a boolean -/
theorem mR_retZ (hf : mF M pc .ireturn nx) (hr : mj_r M = some .boolean) (x : Int32) : mR d w M pc ls [vI x] Q ↔ (x = 0 ∨ x = 1) ∧ Q (.inl (some (vI x))) w := by
  have hk : mj_retOk M (some (.inl x)) = decide (x = 0 ∨ x = 1) := by
    unfold mj_retOk
    rw [hr]
  by_cases h : x = 0 ∨ x = 1
  · have h9 := mR_ret (d := d) (w := w) (ls := ls) (Q := Q) hf (some (.inl x)) (Or.inl ⟨rfl, x, rfl⟩) (by rw [hk]; exact decide_eq_true h)
    exact h9.trans ⟨fun q => ⟨h, q⟩, fun q => q.2⟩
  · refine ⟨?_, fun q => absurd q.1 h⟩
    rintro ⟨f, r, w', h1, h2⟩
    cases f with
    | zero => cases h1
    | succ f =>
      exfalso
      have h3 : mj_body (mj_run f) d w M pc ls [vI x] = some (r, w') := h1
      unfold mj_body at h3
      rw [hf.1] at h3
      have h4 : (if mj_retOk M (some (.inl x)) = true then (some (.inl (some (.inl x)), w) : Option (MRes × MWd)) else none) = some (r, w') := h3
      rw [hk, if_neg (by rw [decide_eq_true_eq]; exact h)] at h4
      cases h4
/-- a throw of the class -/
theorem mR_thr {E ik is ic : Nat} (hf : mj_fetch M pc = some (i, nx)) (hi : mj_call i = none ∧ (¬ i = .ireturn ∧ ¬ i = .lreturn ∧ ¬ i = .dreturn ∧ ¬ i = .areturn ∧ ¬ i = .return_)) (ht : mj_thr M pc = some (E, ik, is, ic)) (hwt : mj_wt st ≤ 8) : mR d w M pc ls st Q ↔ Q (.inr (E, none)) (mj_tick w) := by
  have hr : ∀ f, mj_run (f + 1) d w M pc ls st = some (.inr (E, none), mj_tick w) := by
    intro f
    show mj_body (mj_run f) d w M pc ls st = _
    unfold mj_body
    rw [hf]
    dsimp only
    rw [hi.1]
    dsimp only
    split
    · exact absurd rfl hi.2.1
    · exact absurd rfl hi.2.2.1
    · exact absurd rfl hi.2.2.2.1
    · exact absurd rfl hi.2.2.2.2.1
    · exact absurd rfl hi.2.2.2.2.2
    · rw [ht]
      exact if_pos hwt
  constructor
  · rintro ⟨f, r, w', h1, h2⟩
    cases f with
    | zero => cases h1
    | succ f =>
      rw [hr] at h1
      cases h1
      exact h2
  · intro h
    exact ⟨1, _, _, hr 0, h⟩
/-- a throw of the reference -/
theorem mR_thw {q : Ptr} (hf : mj_fetch M pc = some (i, nx)) (hi : mj_call i = none ∧ (¬ i = .ireturn ∧ ¬ i = .lreturn ∧ ¬ i = .dreturn ∧ ¬ i = .areturn ∧ ¬ i = .return_)) (ht : mj_thr M pc = none) (hw : mj_thw M pc = true) (hl : mj_gl ls 0 = some (vP q)) (hq : q.1 = 10) : mR d w M pc ls [] Q ↔ Q (.inr (3, some (9, 0, wN w))) (mj_wrong w q.2.2) := by
  have hr : ∀ f, mj_run (f + 1) d w M pc ls [] = some (.inr (3, some (9, 0, wN w)), mj_wrong w q.2.2) := by
    intro f
    show mj_body (mj_run f) d w M pc ls [] = _
    unfold mj_body
    rw [hf]
    dsimp only
    rw [hi.1]
    dsimp only
    split
    · exact absurd rfl hi.2.1
    · exact absurd rfl hi.2.2.1
    · exact absurd rfl hi.2.2.2.1
    · exact absurd rfl hi.2.2.2.2.1
    · exact absurd rfl hi.2.2.2.2.2
    · rw [ht]
      dsimp only
      rw [if_pos hw, hl]
      exact if_pos hq
  constructor
  · rintro ⟨f, r, w', h1, h2⟩
    cases f with
    | zero => cases h1
    | succ f =>
      rw [hr] at h1
      cases h1
      exact h2
  · intro h
    exact ⟨1, _, _, hr 0, h⟩
/-- what the caller does with a callee's end -/
def mK (d M pc nx : Nat) (ls : List (Option MV)) (rest : List MV) (Q : MRes → MWd → Prop) : MRes → MWd → Prop := fun r w1 => match r with
  | .inl rv => mR d w1 M nx ls (rv.toList ++ rest) Q
  | .inr (E, p) => (match mj_hs (mj_o M) pc E (mj_h M) with
    | none => Q (.inr (E, p)) w1
    | some hp => (match p with
      | some q => mR d w1 M hp ls [vP q] Q
      | none => (match mj_fetch M hp with
        | some (.astore n, nx') => n < ls.length ∧ mj_pv ls n = true ∧ mR d w1 M nx' (mj_sl ls n none) [] Q
        | some (.astore_n n, nx') => (n : Nat) < ls.length ∧ mj_pv ls n = true ∧ mR d w1 M nx' (mj_sl ls n none) [] Q
        | _ => False)))
theorem mR_calls {k v M' : Nat} {as rest : List MV} (hf : mF M pc i nx) (hc : mj_call i = some (k, v)) (hm : mj_mth (mj_o M) k = some (0, M')) (ha : mj_args (mj_a M' + if v = 0 then 0 else 1) st = some (as, rest)) (hft : mj_fits v M' as = true) (hwt : mj_wt rest ≤ 8) :
    mR (d + 1) w M pc ls st Q ↔ mR d w M' 0 (mj_ent M' as) [] (mK (d + 1) M pc nx ls rest Q) := by
  refine ⟨?_, fun h => mR_call hf.1 hc hm ha hft hwt h⟩
  rintro ⟨f, r, w', h1, h2⟩
  cases f with
  | zero => cases h1
  | succ f =>
    have h3 : mj_body (mj_run f) (d + 1) w M pc ls st = some (r, w') := h1
    rw [mj_body_call hf.1 hc hm, ha] at h3
    dsimp only at h3
    rw [if_pos ⟨hft, hwt⟩] at h3
    cases hr : mj_run f d w M' 0 (mj_ent M' as) [] with
    | none => rw [hr] at h3; cases h3
    | some x =>
      obtain ⟨r1, w1⟩ := x
      rw [hr] at h3
      refine ⟨f, r1, w1, hr, ?_⟩
      unfold mK
      cases r1 with
      | inl rv => exact ⟨f, r, w', h3, h2⟩
      | inr ep =>
        obtain ⟨E, p⟩ := ep
        dsimp only at h3 ⊢
        cases hh : mj_hs (mj_o M) pc E (mj_h M) with
        | none =>
          rw [hh] at h3
          cases h3
          exact h2
        | some hp =>
          rw [hh] at h3
          dsimp only at h3 ⊢
          cases p with
          | some q => exact ⟨f, r, w', h3, h2⟩
          | none =>
            dsimp only at h3 ⊢
            split at h3
            · rename_i n nx' hfe
              rw [hfe]
              split at h3
              · rename_i h9; exact ⟨h9.1, h9.2, f, r, w', h3, h2⟩
              · cases h3
            · rename_i n nx' hfe
              rw [hfe]
              split at h3
              · rename_i h9; exact ⟨h9.1, h9.2, f, r, w', h3, h2⟩
              · cases h3
            · cases h3
end MR
