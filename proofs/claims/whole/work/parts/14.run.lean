/-! One step of the small machine, whole: the claim's machine does it; and stores only grow. -/
def mj_le (w w1 : MWd) : Prop := wN w ≤ wN w1 ∧ wC w ≤ wC w1 ∧ wS w ≤ wS w1
theorem mj_le.rf (w : MWd) : mj_le w w := ⟨Nat.le_refl _, Nat.le_refl _, Nat.le_refl _⟩
theorem mj_le.tr {a b c : MWd} (h1 : mj_le a b) (h2 : mj_le b c) : mj_le a c := ⟨Nat.le_trans h1.1 h2.1, Nat.le_trans h1.2.1 h2.2.1, Nat.le_trans h1.2.2 h2.2.2⟩
theorem mj_le.wrong (w : MWd) (id : Nat) : mj_le w (mj_wrong w id) := by unfold mj_le mj_wrong; simp only [wrd]; omega
theorem mj_le.mna (w : MWd) (n k : Nat) : mj_le w (nwM w n k) := by unfold mj_le nwM wN wC wS; dsimp only; omega
set_option maxHeartbeats 2000000 in
theorem mj_step_le {M : Nat} {i : Instr} {pc nx pc1 : Nat} {w w1 : MWd} {ls ls1 : List (Option MV)} {st st1 : List MV} (h : mj_step M i pc nx w ls st = some (w1, pc1, ls1, st1)) : mj_le w w1 := by
  unfold mj_step at h
  split at h
  all_goals (repeat' split at h)
  all_goals first
    | (cases h; done)
    | (cases h; exact mj_le.rf _)
    | (cases h; exact mj_le.mna _ _ _)
    | (cases h; unfold mj_le; simp only [wrd]; omega)
    | (obtain ⟨_, _, hh⟩ := Option.map_eq_some_iff.mp h; first | (cases hh; exact mj_le.rf _) | (split at hh <;> (cases hh; exact mj_le.rf _)))

section SO
variable {p : Program} {l : Launch} {e : Env} {R : Room} {s : State} {m : MethodId} {args : Array Value} {below : List Frame} {meth : Method} {c : Code} {Q : State → Prop} {M L : Nat} {b : so_B} {xs : Nat → Int32} {A : Nat → Prop} {D : va_G} {mc ms : Nat} {wE w w1 : MWd} {pc nx pc1 : Nat} {ls ls1 : List (Option MV)} {st st1 : List MV} {i : Instr}
set_option maxHeartbeats 4000000 in
theorem so_step (C : so_C p l s m args meth c M A b L xs) (hf : mj_fetch M pc = some (i, nx)) (hs : mj_step M i pc nx w ls st = some (w1, pc1, ls1, st1)) (hm : wC w1 ≤ wC wE ∧ wS w1 ≤ wS wE) (hRm : so_Rm R mc ms)
    (hJ : so_J p l e R s m args below meth c M A b L xs D Q mc ms wE w1 pc1 ls1 st1) : so_J p l e R s m args below meth c M A b L xs D Q mc ms wE w pc ls st := by
  unfold mj_step at hs
  split at hs
  · cases hs; exact so_s_null C hf hJ
  · cases hs; exact so_s_iconst C hf hJ
  · cases hs; exact so_s_bipush C hf hJ
  · cases hs; exact so_s_sipush C hf hJ
  · cases hs; exact so_s_lconst C hf hJ
  · split at hs
    · rename_i h0; subst h0; cases hs; exact so_s_dconst C hf hJ
    · cases hs
  · split at hs
    · cases hs; exact so_s_ldc C ‹_› hf hJ
    · cases hs
  · split at hs
    · cases hs; exact so_s_ldcw C ‹_› hf hJ
    · cases hs
  · split at hs
    · cases hs; exact so_s_ldc2 C ‹_› hf hJ
    · cases hs
  · split at hs
    · cases hs; exact so_s_iload C hf ‹_› hJ
    · cases hs
  · split at hs
    · cases hs; exact so_s_iload_n C hf ‹_› hJ
    · cases hs
  · split at hs
    · cases hs; exact so_s_lload C hf ‹_› hJ
    · cases hs
  · split at hs
    · cases hs; exact so_s_lload_n C hf ‹_› hJ
    · cases hs
  · split at hs
    · cases hs; exact so_s_dload C hf ‹_› hJ
    · cases hs
  · split at hs
    · cases hs; exact so_s_aload C hf ‹_› hJ
    · cases hs
  · split at hs
    · cases hs; exact so_s_aload_n C hf ‹_› hJ
    · cases hs
  · split at hs
    · obtain ⟨t1, ht, hh⟩ := Option.map_eq_some_iff.mp hs; cases hh; exact so_s_istore C hf ht hJ
    · cases hs
  · split at hs
    · obtain ⟨t1, ht, hh⟩ := Option.map_eq_some_iff.mp hs; cases hh; exact so_s_istore_n C hf ht hJ
    · cases hs
  · split at hs
    · obtain ⟨t1, ht, hh⟩ := Option.map_eq_some_iff.mp hs; cases hh; exact so_s_astore C hf ht hJ
    · cases hs
  · split at hs
    · obtain ⟨t1, ht, hh⟩ := Option.map_eq_some_iff.mp hs; cases hh; exact so_s_astore_n C hf ht hJ
    · cases hs
  · split at hs
    · obtain ⟨t1, ht, hh⟩ := Option.map_eq_some_iff.mp hs; cases hh; exact so_s_lstore C hf ht hJ
    · cases hs
  · split at hs
    · obtain ⟨t1, ht, hh⟩ := Option.map_eq_some_iff.mp hs; cases hh; exact so_s_lstore_n C hf ht hJ
    · cases hs
  · split at hs
    · obtain ⟨t1, ht, hh⟩ := Option.map_eq_some_iff.mp hs; cases hh; exact so_s_dstore C hf ht hJ
    · cases hs
  · split at hs
    · obtain ⟨t1, ht, hh⟩ := Option.map_eq_some_iff.mp hs; cases hh; exact so_s_iinc C hf ‹_› ht hJ
    · cases hs
  · split at hs
    · cases hs; exact so_s_iadd C hf hJ
    · cases hs
  · split at hs
    · cases hs; exact so_s_isub C hf hJ
    · cases hs
  · split at hs
    · cases hs; exact so_s_imul C hf hJ
    · cases hs
  · split at hs
    · cases hs; exact so_s_iand C hf hJ
    · cases hs
  · split at hs
    · cases hs; exact so_s_ior C hf hJ
    · cases hs
  · split at hs
    · cases hs; exact so_s_ixor C hf hJ
    · cases hs
  · split at hs
    · cases hs; exact so_s_ishl C hf hJ
    · cases hs
  · split at hs
    · cases hs; exact so_s_ishr C hf hJ
    · cases hs
  · split at hs
    · cases hs; exact so_s_iushr C hf hJ
    · cases hs
  · split at hs
    · cases hs; exact so_s_ladd C hf hJ
    · cases hs
  · split at hs
    · cases hs; exact so_s_lmul C hf hJ
    · cases hs
  · split at hs
    · cases hs; exact so_s_lcmp C hf hJ
    · cases hs
  · split at hs
    · cases hs; exact so_s_i2l C hf hJ
    · cases hs
  · split at hs
    · cases hs; exact so_s_i2d C hf hJ
    · cases hs
  · split at hs
    · split at hs
      · cases hs; exact so_s_ddiv C hf ‹_› hJ
      · cases hs
    · cases hs
  · split at hs
    · cases hs; exact so_s_dcmp C hf hJ
    · cases hs
  · split at hs
    · cases hs; exact so_s_dupI C hf hJ
    · cases hs; exact so_s_dupR C hf hJ
    · cases hs
  · split at hs
    · cases hs; exact so_s_dup2 C hf hJ
    · cases hs
  · split at hs
    · cases hs; exact so_s_pop C hf hJ
    · cases hs
  · obtain ⟨t1, ht, hh⟩ := Option.map_eq_some_iff.mp hs; cases hh; exact so_s_goto C hf ht hJ
  · split at hs
    · obtain ⟨t1, ht, hh⟩ := Option.map_eq_some_iff.mp hs
      split at hh <;> cases hh
      · exact so_s_if C hf ht (fun _ => hJ) (fun q => absurd ‹_› q)
      · exact so_s_if C hf ht (fun q => absurd q ‹_›) (fun _ => hJ)
    · cases hs
  · split at hs
    · obtain ⟨t1, ht, hh⟩ := Option.map_eq_some_iff.mp hs
      split at hh <;> cases hh
      · exact so_s_icmp C hf ht (fun _ => hJ) (fun q => absurd ‹_› q)
      · exact so_s_icmp C hf ht (fun q => absurd q ‹_›) (fun _ => hJ)
    · cases hs
  · split at hs
    · obtain ⟨t1, ht, hh⟩ := Option.map_eq_some_iff.mp hs
      split at hh <;> cases hh
      · exact so_s_ifnull C hf ht (fun _ => hJ) (fun q => absurd ‹_› q)
      · exact so_s_ifnull C hf ht (fun q => absurd q ‹_›) (fun _ => hJ)
    · cases hs
  · split at hs
    · obtain ⟨t1, ht, hh⟩ := Option.map_eq_some_iff.mp hs
      split at hh <;> cases hh
      · exact so_s_ifnonnull C hf ht (fun _ => hJ) (fun q => absurd ‹_› q)
      · exact so_s_ifnonnull C hf ht (fun q => absurd q ‹_›) (fun _ => hJ)
    · cases hs
  · split at hs
    · exact so_s_switch C hf hs hJ
    · cases hs
  · split at hs
    · rename_i hk9
      split at hs
      · rename_i hq9
        split at hs
        · rename_i ht9
          cases hs
          exact so_s_getfield C hf hk9 hq9 (by rw [if_pos ht9]) hJ
        · rename_i ht9
          cases hs
          exact so_s_getfield C hf hk9 hq9 (by rw [if_neg ht9]) hJ
      · cases hs
    · cases hs
  · split at hs
    · rename_i hk9
      split at hs
      · rename_i hq9
        cases hs
        exact so_s_put C hf hk9 hq9.1 hq9.2.1 (by
          rcases hq9.2.2 with h | ⟨h, h2⟩
          · exact Or.inl ⟨h, _, rfl⟩
          · exact Or.inr (Or.inl ⟨h, _, rfl, h2⟩)) (Or.inl ⟨_, rfl, rfl⟩) hJ
      · cases hs
    · rename_i hk9
      split at hs
      · rename_i hq9
        cases hs
        exact so_s_put C hf hk9 hq9.1 hq9.2.1 (Or.inr (Or.inr ⟨hq9.2.2, _, rfl⟩)) (Or.inr ⟨_, rfl, rfl⟩) hJ
      · cases hs
    · cases hs
  · split at hs
    · split at hs
      · rename_i hq9; cases hs; exact so_s_iaload C hf hq9.1 hq9.2 hJ
      · cases hs
    · cases hs
  · split at hs
    · split at hs
      · rename_i hq9; cases hs; exact so_s_baload C hf hq9.1 hq9.2 hJ
      · cases hs
    · cases hs
  · split at hs
    · split at hs
      · rename_i hq9; cases hs; exact so_s_laload C hf hq9.1 hq9.2 hJ
      · cases hs
    · cases hs
  · split at hs
    · split at hs
      · rename_i hq9; cases hs; exact so_s_aaload C hf hq9.1 hq9.2 hJ
      · cases hs
    · cases hs
  · split at hs
    · split at hs
      · rename_i hq9; cases hs; exact so_s_iastore C hf hq9.1 hq9.2 hJ
      · cases hs
    · cases hs
  · split at hs
    · split at hs
      · rename_i hq9; cases hs; exact so_s_bastore C hf hq9.1 hq9.2.1 hq9.2.2 hJ
      · cases hs
    · cases hs
  · split at hs
    · split at hs
      · rename_i hq9; cases hs; exact so_s_lastore C hf hq9.1 hq9.2 hJ
      · cases hs
    · cases hs
  · split at hs
    · split at hs
      · rename_i hq9; cases hs; exact so_s_aastore C hf hq9.1 hq9.2 hJ
      · cases hs
    · cases hs
  · split at hs
    · split at hs
      · rename_i hq9; cases hs; exact so_s_alen C hf hq9 hJ
      · cases hs
    · cases hs
  · split at hs
    · cases hs; exact so_s_new C hf ‹_› hm hRm hJ
    · cases hs
  · split at hs
    · split at hs
      · rename_i hq9
        split at hs
        · cases hs; exact so_s_newarray C hf hq9.1 hq9.2 (Or.inl ⟨rfl, rfl⟩) hm hRm hJ
        · cases hs; exact so_s_newarray C hf hq9.1 hq9.2 (Or.inr (Or.inl ⟨rfl, rfl⟩)) hm hRm hJ
        · cases hs; exact so_s_newarray C hf hq9.1 hq9.2 (Or.inr (Or.inr ⟨rfl, rfl⟩)) hm hRm hJ
        · cases hs
      · cases hs
    · cases hs
  · split at hs
    · split at hs
      · rename_i hq9
        split at hs
        · cases hs; exact so_s_anewarray C hf hq9.1 hq9.2 ‹_› (Or.inl ⟨rfl, rfl⟩) hm hRm hJ
        · cases hs; exact so_s_anewarray C hf hq9.1 hq9.2 ‹_› (Or.inr ⟨rfl, rfl⟩) hm hRm hJ
        · cases hs
      · cases hs
    · cases hs
  · split at hs
    · split at hs
      · rename_i hq9
        obtain ⟨h10, rfl, ⟨a1, a2⟩, a3, a4⟩ := hq9
        cases hs
        exact so_s_mna C hf h10 a1 a2 a3 a4 hm hRm hJ
      · cases hs
    · cases hs
  · cases hs
end SO
