/-! What a run of the small machine is, case by case. -/
def mj_cInv (f d : Nat) (w : MWd) (M pc nx : Nat) (i : Instr) (ls : List (Option MV)) (st : List MV) (r : MRes) (w' : MWd) : Prop :=
  ∃ (k v M' : Nat) (as rest : List MV) (d' : Nat) (r1 : MRes) (w1 : MWd), mj_call i = some (k, v) ∧ mj_mth (mj_o M) k = some (0, M') ∧ mj_args (mj_a M' + if v = 0 then 0 else 1) st = some (as, rest) ∧ mj_fits v M' as = true ∧ mj_wt rest ≤ 8 ∧ d = d' + 1 ∧ mj_run f d' w M' 0 (mj_ent M' as) [] = some (r1, w1) ∧
    ((∃ rv, r1 = .inl rv ∧ mj_run f d w1 M nx ls (rv.toList ++ rest) = some (r, w')) ∨
     (∃ (E : Nat) (p : Option Ptr), r1 = .inr (E, p) ∧
       ((mj_hs (mj_o M) pc E (mj_h M) = none ∧ r = .inr (E, p) ∧ w' = w1) ∨
        (∃ hp, mj_hs (mj_o M) pc E (mj_h M) = some hp ∧
          ((∃ q, p = some q ∧ mj_run f d w1 M hp ls [vP q] = some (r, w')) ∨
           (p = none ∧ ∃ (n nx' : Nat), (mj_fetch M hp = some (.astore n, nx') ∨ ∃ n4 : Fin 4, n = n4 ∧ mj_fetch M hp = some (.astore_n n4, nx')) ∧ n < ls.length ∧ mj_pv ls n = true ∧ mj_run f d w1 M nx' (mj_sl ls n none) [] = some (r, w')))))))
def mj_lInv (f d : Nat) (w : MWd) (M nx : Nat) (i : Instr) (ls : List (Option MV)) (st : List MV) (r : MRes) (w' : MWd) : Prop :=
  (∃ (k Mx : Nat) (q : Ptr) (rest : List MV), i = .invokespecial k ∧ mj_mth (mj_o M) k = some (1, Mx) ∧ st = .inr (.inr (.inr (some q))) :: rest ∧ mj_wt rest ≤ 8 ∧ mj_run f d w M nx ls rest = some (r, w')) ∨
  (∃ (k Mx : Nat) (p q : Ptr) (sp dp n : Int32) (rest : List MV), i = .invokestatic k ∧ mj_mth (mj_o M) k = some (3, Mx) ∧ st = .inl n :: .inl dp :: .inr (.inr (.inr (some p))) :: .inl sp :: .inr (.inr (.inr (some q))) :: rest ∧
    (p.1 = 20 ∧ q.1 = 20 ∨ p.1 = 21 ∧ q.1 = 21) ∧ ¬ p.2.2 = q.2.2 ∧ ¬ sp < 0 ∧ ¬ dp < 0 ∧ ¬ n < 0 ∧ sp.toNatClampNeg + n.toNatClampNeg ≤ q.2.1 ∧ dp.toNatClampNeg + n.toNatClampNeg ≤ p.2.1 ∧ mj_wt rest ≤ 8 ∧
    ((p.1 = 20 ∧ mj_run f d (cpI w q.2.2 sp.toNatClampNeg p.2.2 dp.toNatClampNeg n.toNatClampNeg) M nx ls rest = some (r, w')) ∨ (¬ p.1 = 20 ∧ mj_run f d (cpJ w q.2.2 sp.toNatClampNeg p.2.2 dp.toNatClampNeg n.toNatClampNeg) M nx ls rest = some (r, w')))) ∨
  (∃ (k Mx : Nat) (x y : Int32) (rest : List MV), i = .invokestatic k ∧ mj_mth (mj_o M) k = some (4, Mx) ∧ st = .inl y :: .inl x :: rest ∧ mj_wt rest ≤ 8 ∧ mj_run f d w M nx ls (vI (if x < y then y else x) :: rest) = some (r, w')) ∨
  (∃ (k Mx : Nat) (x y : Int32) (rest : List MV), i = .invokestatic k ∧ mj_mth (mj_o M) k = some (5, Mx) ∧ st = .inl y :: .inl x :: rest ∧ mj_wt rest ≤ 8 ∧ mj_run f d w M nx ls (vI (if y < x then y else x) :: rest) = some (r, w'))
def mj_sInv (f d : Nat) (w : MWd) (M pc nx : Nat) (i : Instr) (ls : List (Option MV)) (st : List MV) (r : MRes) (w' : MWd) : Prop :=
  (∃ v : Option MV, mj_retI i v ∧ mj_retOk M v = true ∧ st = v.toList ∧ r = .inl v ∧ w' = w) ∨
  (∃ E ik is ic : Nat, mj_thr M pc = some (E, ik, is, ic) ∧ mj_wt st ≤ 8 ∧ r = .inr (E, none) ∧ w' = mj_tick w) ∨
  (∃ q : Ptr, mj_thw M pc = true ∧ mj_gl ls 0 = some (vP q) ∧ st = [] ∧ q.1 = 10 ∧ r = .inr (3, some (9, 0, wN w)) ∧ w' = mj_wrong w q.2.2) ∨
  (∃ (w1 : MWd) (pc1 : Nat) (ls1 : List (Option MV)) (st1 : List MV), mj_step M i pc nx w ls st = some (w1, pc1, ls1, st1) ∧ mj_run f d w1 M pc1 ls1 st1 = some (r, w'))
theorem mj_call0 {i : Instr} {k v : Nat} (h : mj_call i = some (k, v)) : (v = 0 ∧ i = .invokestatic k) ∨ (v = 1 ∧ i = .invokevirtual k) ∨ (v = 2 ∧ i = .invokespecial k) := by
  unfold mj_call at h
  split at h <;> cases h
  · exact Or.inr (Or.inl ⟨rfl, rfl⟩)
  · exact Or.inr (Or.inr ⟨rfl, rfl⟩)
  · exact Or.inl ⟨rfl, rfl⟩
set_option maxHeartbeats 4000000 in
theorem mj_inv {f d : Nat} {w : MWd} {M pc : Nat} {ls : List (Option MV)} {st : List MV} {r : MRes} {w' : MWd} (h : mj_run (f + 1) d w M pc ls st = some (r, w')) :
    ∃ (i : Instr) (nx : Nat), mj_fetch M pc = some (i, nx) ∧ (mj_cInv f d w M pc nx i ls st r w' ∨ mj_lInv f d w M nx i ls st r w' ∨ mj_sInv f d w M pc nx i ls st r w') := by
  change mj_body (mj_run f) d w M pc ls st = some (r, w') at h
  unfold mj_body at h
  split at h
  · cases h
  rename_i i nx hf
  refine ⟨i, nx, hf, ?_⟩
  split at h
  · rename_i k v hc
    have hc9 := mj_call0 hc
    split at h
    · rename_i M' hm
      left
      split at h
      · rename_i as rest ha
        split at h
        · rename_i hfit
          split at h
          · cases h
          · rename_i d'
            split at h
            · rename_i rv w1 hr
              exact ⟨k, v, M', as, rest, d', _, w1, hc, hm, ha, hfit.1, hfit.2, rfl, hr, Or.inl ⟨rv, rfl, h⟩⟩
            · rename_i E p w1 hr
              refine ⟨k, v, M', as, rest, d', _, w1, hc, hm, ha, hfit.1, hfit.2, rfl, hr, Or.inr ⟨E, p, rfl, ?_⟩⟩
              split at h
              · rename_i hn
                cases h
                exact Or.inl ⟨hn, rfl, rfl⟩
              · rename_i hp hh
                right
                refine ⟨hp, hh, ?_⟩
                split at h
                · rename_i q
                  exact Or.inl ⟨q, rfl, h⟩
                · right
                  refine ⟨rfl, ?_⟩
                  split at h
                  · rename_i n nx' hfe
                    split at h
                    · rename_i hl
                      exact ⟨n, nx', Or.inl hfe, hl.1, hl.2, h⟩
                    · cases h
                  · rename_i n nx' hfe
                    split at h
                    · rename_i hl
                      exact ⟨(n : Nat), nx', Or.inr ⟨n, rfl, hfe⟩, hl.1, hl.2, h⟩
                    · cases h
                  · cases h
            · cases h
        · cases h
      · cases h
    · rename_i Mx hm
      right; left; left
      split at h
      · rename_i q rest
        split at h
        · rename_i hv
          rcases hc9 with ⟨e, hi⟩ | ⟨e, hi⟩ | ⟨e, hi⟩
          · omega
          · omega
          · exact ⟨k, Mx, q, rest, hi, hm, rfl, hv.2, h⟩
        · cases h
      · cases h
    · rename_i Mx hm
      right; left; right; left
      split at h
      · rename_i n dp p sp q rest
        split at h
        · rename_i hv
          obtain ⟨v1, v2, v3, v4, v5, v6, v7, v8, v9⟩ := hv
          rcases hc9 with ⟨e, hi⟩ | ⟨e, hi⟩ | ⟨e, hi⟩
          · refine ⟨k, Mx, p, q, sp, dp, n, rest, hi, hm, rfl, v1, v2, v3, v4, v5, v6, v7, v9, ?_⟩
            split at h
            · exact Or.inl ⟨‹_›, h⟩
            · exact Or.inr ⟨‹_›, h⟩
          · omega
          · omega
        · cases h
      · cases h
    · rename_i Mx hm
      right; left; right; right; left
      split at h
      · rename_i y x rest
        split at h
        · rename_i hv
          rcases hc9 with ⟨e, hi⟩ | ⟨e, hi⟩ | ⟨e, hi⟩
          · exact ⟨k, Mx, x, y, rest, hi, hm, rfl, hv.2, h⟩
          · omega
          · omega
        · cases h
      · cases h
    · rename_i Mx hm
      right; left; right; right; right
      split at h
      · rename_i y x rest
        split at h
        · rename_i hv
          rcases hc9 with ⟨e, hi⟩ | ⟨e, hi⟩ | ⟨e, hi⟩
          · exact ⟨k, Mx, x, y, rest, hi, hm, rfl, hv.2, h⟩
          · omega
          · omega
        · cases h
      · cases h
    · cases h
  · right; right
    split at h
    · left
      split at h
      · split at h
        · cases h; exact ⟨_, Or.inl ⟨rfl, _, rfl⟩, ‹_›, rfl, rfl, rfl⟩
        · cases h
      · cases h
    · left
      split at h
      · split at h
        · cases h; exact ⟨_, Or.inr (Or.inl ⟨rfl, _, rfl⟩), ‹_›, rfl, rfl, rfl⟩
        · cases h
      · cases h
    · left
      split at h
      · split at h
        · cases h; exact ⟨_, Or.inr (Or.inr (Or.inl ⟨rfl, _, rfl⟩)), ‹_›, rfl, rfl, rfl⟩
        · cases h
      · cases h
    · left
      split at h
      · split at h
        · cases h; exact ⟨_, Or.inr (Or.inr (Or.inr (Or.inl ⟨rfl, _, rfl⟩))), ‹_›, rfl, rfl, rfl⟩
        · cases h
      · cases h
    · left
      split at h
      · split at h
        · cases h; exact ⟨none, Or.inr (Or.inr (Or.inr (Or.inr ⟨rfl, rfl⟩))), ‹_›, rfl, rfl, rfl⟩
        · cases h
      · cases h
    · right
      split at h
      · rename_i E y ht
        left
        split at h
        · rename_i hw
          cases h
          exact ⟨E, y.1, y.2.1, y.2.2, ht, hw, rfl, rfl⟩
        · cases h
      · right
        split at h
        · rename_i ht
          left
          split at h
          · rename_i q hq
            split at h
            · rename_i h10
              cases h
              exact ⟨q, ht, hq, rfl, h10, rfl, rfl⟩
            · cases h
          · cases h
        · right
          split at h
          · rename_i w1 pc1 ls1 st1 hs
            exact ⟨w1, pc1, ls1, st1, hs, h⟩
          · cases h
theorem mj_run_le : ∀ {f d : Nat} {w : MWd} {M pc : Nat} {ls : List (Option MV)} {st : List MV} {r : MRes} {w' : MWd}, mj_run f d w M pc ls st = some (r, w') → mj_le w w'
  | 0, _, _, _, _, _, _, _, _, h => by cases h
  | f + 1, d, w, M, pc, ls, st, r, w', h => by
    obtain ⟨i, nx, hf, hc | hl | hs⟩ := mj_inv h
    · obtain ⟨k, v, M', as, rest, d', r1, w1, -, -, -, -, -, -, hr, h2⟩ := hc
      have a1 := mj_run_le hr
      rcases h2 with ⟨rv, -, h3⟩ | ⟨E, p, -, ⟨-, -, rfl⟩ | ⟨hp, -, ⟨q, -, h3⟩ | ⟨-, n, nx', -, -, -, h3⟩⟩⟩
      · exact a1.tr (mj_run_le h3)
      · exact a1
      · exact a1.tr (mj_run_le h3)
      · exact a1.tr (mj_run_le h3)
    · rcases hl with ⟨k, Mx, q, rest, -, -, -, -, h3⟩ | ⟨k, Mx, p, q, sp, dp, n, rest, -, -, -, -, -, -, -, -, -, -, -, ⟨-, h3⟩ | ⟨-, h3⟩⟩ | ⟨k, Mx, x, y, rest, -, -, -, -, h3⟩ | ⟨k, Mx, x, y, rest, -, -, -, -, h3⟩
      · exact mj_run_le h3
      · exact (show mj_le w (cpI w _ _ _ _ _) from mj_le.rf w).tr (mj_run_le h3)
      · exact (show mj_le w (cpJ w _ _ _ _ _) from mj_le.rf w).tr (mj_run_le h3)
      · exact mj_run_le h3
      · exact mj_run_le h3
    · rcases hs with ⟨v, -, -, -, -, rfl⟩ | ⟨E, ik, is, ic, -, -, -, rfl⟩ | ⟨q, -, -, -, -, -, rfl⟩ | ⟨w1, pc1, ls1, st1, hs, h3⟩
      · exact mj_le.rf _
      · unfold mj_le; simp only [wrd]; omega
      · exact mj_le.wrong _ _
      · exact (mj_step_le hs).tr (mj_run_le h3)
