/-! Lemmas for each kind of instruction (made by gen32.py). -/
def mj_pl : Instr → Bool
  | .ireturn | .lreturn | .dreturn | .areturn | .return_ | .invokevirtual _ | .invokespecial _ | .invokestatic _ => false
  | _ => true
theorem mj_pl_ok {i : Instr} (h : mj_pl i = true) : mj_call i = none ∧ (¬ i = .ireturn ∧ ¬ i = .lreturn ∧ ¬ i = .dreturn ∧ ¬ i = .areturn ∧ ¬ i = .return_) := by
  refine ⟨?_, ?_, ?_, ?_, ?_, ?_⟩
  · cases i <;> first | rfl | cases h
  all_goals (rintro rfl; cases h)
theorem mj_cnd_lt {x y : Int32} : (mj_cnd .lt x y = true ↔ x < y) ∧ (¬ mj_cnd .lt x y = true ↔ y ≤ x) := ⟨decide_eq_true_iff, by show ¬ decide (x < y) = true ↔ _; rw [decide_eq_true_iff]; exact Int32.not_lt⟩
theorem mj_cnd_ge {x y : Int32} : (mj_cnd .ge x y = true ↔ y ≤ x) ∧ (¬ mj_cnd .ge x y = true ↔ x < y) := ⟨decide_eq_true_iff, by show ¬ decide (y ≤ x) = true ↔ _; rw [decide_eq_true_iff]; exact Int32.not_le⟩
theorem mj_cnd_gt {x y : Int32} : (mj_cnd .gt x y = true ↔ y < x) ∧ (¬ mj_cnd .gt x y = true ↔ x ≤ y) := ⟨decide_eq_true_iff, by show ¬ decide (y < x) = true ↔ _; rw [decide_eq_true_iff]; exact Int32.not_lt⟩
theorem mj_cnd_le {x y : Int32} : (mj_cnd .le x y = true ↔ x ≤ y) ∧ (¬ mj_cnd .le x y = true ↔ y < x) := ⟨decide_eq_true_iff, by show ¬ decide (x ≤ y) = true ↔ _; rw [decide_eq_true_iff]; exact Int32.not_le⟩
theorem mj_cnd_eq {x y : Int32} : (mj_cnd .eq x y = true ↔ x = y) ∧ (¬ mj_cnd .eq x y = true ↔ ¬ x = y) := ⟨decide_eq_true_iff, by show ¬ decide (x = y) = true ↔ _; rw [decide_eq_true_iff]⟩
theorem mj_cnd_ne {x y : Int32} : (mj_cnd .ne x y = true ↔ ¬ x = y) ∧ (¬ mj_cnd .ne x y = true ↔ x = y) := ⟨decide_eq_true_iff, by show ¬ decide (¬ x = y) = true ↔ _; rw [decide_eq_true_iff]; exact Decidable.not_not⟩
section MR
variable {d : Nat} {w w1 : MWd} {M pc nx pc1 : Nat} {ls ls1 : List (Option MV)} {st st1 : List MV} {Q : MRes → MWd → Prop} {i : Instr}
theorem mR_1 (hf : mF M pc i nx) (hc : mj_pl i = true) (hs : mj_step M i pc nx w ls st = some (w1, pc1, ls1, st1)) : mR d w M pc ls st Q ↔ mR d w1 M pc1 ls1 st1 Q := mR_one hf (mj_pl_ok hc).1 (mj_pl_ok hc).2 hs
theorem mR_1c (hf : mF M pc i nx) (hc : mj_pl i = true) {c : Prop} [Decidable c] (hs : mj_step M i pc nx w ls st = if c then some (w1, pc1, ls1, st1) else none) : mR d w M pc ls st Q ↔ c ∧ mR d w1 M pc1 ls1 st1 Q := mR_oneC hf (mj_pl_ok hc).1 (mj_pl_ok hc).2 hs
theorem mR_iconst {n : Int} {v : Int32} (hf : mF M pc (.iconst n) nx) (hv : Int32.ofInt n = v) : mR d w M pc ls st Q ↔ mR d w M nx ls (vI v :: st) Q := by
  subst hv; exact mR_1 hf rfl rfl
theorem mR_bipush {n : Int} {v : Int32} (hf : mF M pc (.bipush n) nx) (hv : (Int8.ofInt n).toInt32 = v) : mR d w M pc ls st Q ↔ mR d w M nx ls (vI v :: st) Q := by
  subst hv; exact mR_1 hf rfl rfl
theorem mR_sipush {n : Int} {v : Int32} (hf : mF M pc (.sipush n) nx) (hv : (Int16.ofInt n).toInt32 = v) : mR d w M pc ls st Q ↔ mR d w M nx ls (vI v :: st) Q := by
  subst hv; exact mR_1 hf rfl rfl
theorem mR_lconst {n : Fin 2} {v : Int64} (hf : mF M pc (.lconst n) nx) (hv : Int64.ofNat (n : Nat) = v) : mR d w M pc ls st Q ↔ mR d w M nx ls (vL v :: st) Q := by
  subst hv; exact mR_1 hf rfl rfl
theorem mR_dconst (hf : mF M pc (.dconst 0) nx) : mR d w M pc ls st Q ↔ mR d w M nx ls (vD FP.dconst0 :: st) Q := mR_1 hf rfl rfl
theorem mR_null (hf : mF M pc (.aconst_null) nx) : mR d w M pc ls st Q ↔ mR d w M nx ls (vR none :: st) Q := mR_1 hf rfl rfl
theorem mR_ldc {k : Nat} {v : Int32} (hf : mF M pc (.ldc k) nx) (hk : mj_ki (mj_o M) k = some v) : mR d w M pc ls st Q ↔ mR d w M nx ls (vI v :: st) Q := by
  refine mR_1 hf rfl ?_
  show (match mj_ki (mj_o M) k with | some v => some (w, nx, ls, vI v :: st) | none => none) = _
  rw [hk]
theorem mR_ldcw {k : Nat} {v : Int32} (hf : mF M pc (.ldc_w k) nx) (hk : mj_ki (mj_o M) k = some v) : mR d w M pc ls st Q ↔ mR d w M nx ls (vI v :: st) Q := by
  refine mR_1 hf rfl ?_
  show (match mj_ki (mj_o M) k with | some v => some (w, nx, ls, vI v :: st) | none => none) = _
  rw [hk]
theorem mR_ldc2 {k : Nat} {v : Int64} (hf : mF M pc (.ldc2_w k) nx) (hk : mj_k2 (mj_o M) k = some v) : mR d w M pc ls st Q ↔ mR d w M nx ls (vL v :: st) Q := by
  refine mR_1 hf rfl ?_
  show (match mj_k2 (mj_o M) k with | some v => some (w, nx, ls, vL v :: st) | none => none) = _
  rw [hk]
theorem mR_iload {k : Nat} {x : Int32} (hf : mF M pc (.iload k) nx) (hk : mj_gl ls k = some (vI x)) : mR d w M pc ls st Q ↔ mR d w M nx ls (vI x :: st) Q := by
  refine mR_1 hf rfl ?_
  show (match mj_gl ls k with | some (.inl x) => some (w, nx, ls, vI x :: st) | _ => none) = _
  rw [hk]
theorem mR_iload_n {k : Fin 4} {x : Int32} (hf : mF M pc (.iload_n k) nx) (hk : mj_gl ls (k : Nat) = some (vI x)) : mR d w M pc ls st Q ↔ mR d w M nx ls (vI x :: st) Q := by
  refine mR_1 hf rfl ?_
  show (match mj_gl ls (k : Nat) with | some (.inl x) => some (w, nx, ls, vI x :: st) | _ => none) = _
  rw [hk]
theorem mR_lload {k : Nat} {x : Int64} (hf : mF M pc (.lload k) nx) (hk : mj_gl ls k = some (vL x)) : mR d w M pc ls st Q ↔ mR d w M nx ls (vL x :: st) Q := by
  refine mR_1 hf rfl ?_
  show (match mj_gl ls k with | some (.inr (.inl x)) => some (w, nx, ls, vL x :: st) | _ => none) = _
  rw [hk]
theorem mR_lload_n {k : Fin 4} {x : Int64} (hf : mF M pc (.lload_n k) nx) (hk : mj_gl ls (k : Nat) = some (vL x)) : mR d w M pc ls st Q ↔ mR d w M nx ls (vL x :: st) Q := by
  refine mR_1 hf rfl ?_
  show (match mj_gl ls (k : Nat) with | some (.inr (.inl x)) => some (w, nx, ls, vL x :: st) | _ => none) = _
  rw [hk]
theorem mR_dload {k : Nat} {x : UInt64} (hf : mF M pc (.dload k) nx) (hk : mj_gl ls k = some (vD x)) : mR d w M pc ls st Q ↔ mR d w M nx ls (vD x :: st) Q := by
  refine mR_1 hf rfl ?_
  show (match mj_gl ls k with | some (.inr (.inr (.inl x))) => some (w, nx, ls, vD x :: st) | _ => none) = _
  rw [hk]
theorem mR_aload {k : Nat} {x : Option Ptr} (hf : mF M pc (.aload k) nx) (hk : mj_gl ls k = some (vR x)) : mR d w M pc ls st Q ↔ mR d w M nx ls (vR x :: st) Q := by
  refine mR_1 hf rfl ?_
  show (match mj_gl ls k with | some (.inr (.inr (.inr x))) => some (w, nx, ls, vR x :: st) | _ => none) = _
  rw [hk]
theorem mR_aload_n {k : Fin 4} {x : Option Ptr} (hf : mF M pc (.aload_n k) nx) (hk : mj_gl ls (k : Nat) = some (vR x)) : mR d w M pc ls st Q ↔ mR d w M nx ls (vR x :: st) Q := by
  refine mR_1 hf rfl ?_
  show (match mj_gl ls (k : Nat) with | some (.inr (.inr (.inr x))) => some (w, nx, ls, vR x :: st) | _ => none) = _
  rw [hk]
theorem mR_istore {k : Nat} {x : Int32} (hf : mF M pc (.istore k) nx) (hk : mj_s1 ls k (vI x) = some ls1) : mR d w M pc ls (vI x :: st) Q ↔ mR d w M nx ls1 st Q := by
  refine mR_1 hf rfl ?_
  show ((mj_s1 ls k (vI x)).map fun l => (w, nx, l, st)) = _
  rw [hk]
  rfl
theorem mR_istore_n {k : Fin 4} {x : Int32} (hf : mF M pc (.istore_n k) nx) (hk : mj_s1 ls (k : Nat) (vI x) = some ls1) : mR d w M pc ls (vI x :: st) Q ↔ mR d w M nx ls1 st Q := by
  refine mR_1 hf rfl ?_
  show ((mj_s1 ls (k : Nat) (vI x)).map fun l => (w, nx, l, st)) = _
  rw [hk]
  rfl
theorem mR_astore {k : Nat} {x : Option Ptr} (hf : mF M pc (.astore k) nx) (hk : mj_s1 ls k (vR x) = some ls1) : mR d w M pc ls (vR x :: st) Q ↔ mR d w M nx ls1 st Q := by
  refine mR_1 hf rfl ?_
  show ((mj_s1 ls k (vR x)).map fun l => (w, nx, l, st)) = _
  rw [hk]
  rfl
theorem mR_astore_n {k : Fin 4} {x : Option Ptr} (hf : mF M pc (.astore_n k) nx) (hk : mj_s1 ls (k : Nat) (vR x) = some ls1) : mR d w M pc ls (vR x :: st) Q ↔ mR d w M nx ls1 st Q := by
  refine mR_1 hf rfl ?_
  show ((mj_s1 ls (k : Nat) (vR x)).map fun l => (w, nx, l, st)) = _
  rw [hk]
  rfl
theorem mR_lstore {k : Nat} {x : Int64} (hf : mF M pc (.lstore k) nx) (hk : mj_s2 ls k (vL x) = some ls1) : mR d w M pc ls (vL x :: st) Q ↔ mR d w M nx ls1 st Q := by
  refine mR_1 hf rfl ?_
  show ((mj_s2 ls k (vL x)).map fun l => (w, nx, l, st)) = _
  rw [hk]
  rfl
theorem mR_lstore_n {k : Fin 4} {x : Int64} (hf : mF M pc (.lstore_n k) nx) (hk : mj_s2 ls (k : Nat) (vL x) = some ls1) : mR d w M pc ls (vL x :: st) Q ↔ mR d w M nx ls1 st Q := by
  refine mR_1 hf rfl ?_
  show ((mj_s2 ls (k : Nat) (vL x)).map fun l => (w, nx, l, st)) = _
  rw [hk]
  rfl
theorem mR_dstore {k : Nat} {x : UInt64} (hf : mF M pc (.dstore k) nx) (hk : mj_s2 ls k (vD x) = some ls1) : mR d w M pc ls (vD x :: st) Q ↔ mR d w M nx ls1 st Q := by
  refine mR_1 hf rfl ?_
  show ((mj_s2 ls k (vD x)).map fun l => (w, nx, l, st)) = _
  rw [hk]
  rfl
theorem mR_iinc {k : Nat} {n : Int} {x c : Int32} (hf : mF M pc (.iinc k n) nx) (hk : mj_gl ls k = some (vI x)) (hv : Int32.ofInt n = c) (hl : mj_s1 ls k (vI (x + c)) = some ls1) : mR d w M pc ls st Q ↔ mR d w M nx ls1 st Q := by
  subst hv
  refine mR_1 hf rfl ?_
  show (match mj_gl ls k with | some (.inl x) => (mj_s1 ls k (vI (x + Int32.ofInt n))).map (fun l => (w, nx, l, st)) | _ => none) = _
  rw [hk]
  show (mj_s1 ls k (vI (x + Int32.ofInt n))).map (fun l => (w, nx, l, st)) = _
  rw [hl]
  rfl
theorem mR_iadd {x y : Int32} (hf : mF M pc (.iadd) nx) : mR d w M pc ls (vI y :: vI x :: st) Q ↔ mR d w M nx ls (vI (x + y) :: st) Q := mR_1 hf rfl rfl
theorem mR_isub {x y : Int32} (hf : mF M pc (.isub) nx) : mR d w M pc ls (vI y :: vI x :: st) Q ↔ mR d w M nx ls (vI (x - y) :: st) Q := mR_1 hf rfl rfl
theorem mR_imul {x y : Int32} (hf : mF M pc (.imul) nx) : mR d w M pc ls (vI y :: vI x :: st) Q ↔ mR d w M nx ls (vI (x * y) :: st) Q := mR_1 hf rfl rfl
theorem mR_iand {x y : Int32} (hf : mF M pc (.iand) nx) : mR d w M pc ls (vI y :: vI x :: st) Q ↔ mR d w M nx ls (vI (x &&& y) :: st) Q := mR_1 hf rfl rfl
theorem mR_ior {x y : Int32} (hf : mF M pc (.ior) nx) : mR d w M pc ls (vI y :: vI x :: st) Q ↔ mR d w M nx ls (vI (x ||| y) :: st) Q := mR_1 hf rfl rfl
theorem mR_ixor {x y : Int32} (hf : mF M pc (.ixor) nx) : mR d w M pc ls (vI y :: vI x :: st) Q ↔ mR d w M nx ls (vI (x ^^^ y) :: st) Q := mR_1 hf rfl rfl
theorem mR_ishl {x y : Int32} (hf : mF M pc (.ishl) nx) : mR d w M pc ls (vI y :: vI x :: st) Q ↔ mR d w M nx ls (vI (x <<< (y &&& 31)) :: st) Q := mR_1 hf rfl rfl
theorem mR_ishr {x y : Int32} (hf : mF M pc (.ishr) nx) : mR d w M pc ls (vI y :: vI x :: st) Q ↔ mR d w M nx ls (vI (x >>> (y &&& 31)) :: st) Q := mR_1 hf rfl rfl
theorem mR_iushr {x y : Int32} (hf : mF M pc (.iushr) nx) : mR d w M pc ls (vI y :: vI x :: st) Q ↔ mR d w M nx ls (vI (x.toUInt32 >>> (y.toUInt32 &&& Int32.toUInt32 31)).toInt32 :: st) Q := mR_1 hf rfl rfl
theorem mR_ladd {x y : Int64} (hf : mF M pc (.ladd) nx) : mR d w M pc ls (vL y :: vL x :: st) Q ↔ mR d w M nx ls (vL (x + y) :: st) Q := mR_1 hf rfl rfl
theorem mR_lmul {x y : Int64} (hf : mF M pc (.lmul) nx) : mR d w M pc ls (vL y :: vL x :: st) Q ↔ mR d w M nx ls (vL (x * y) :: st) Q := mR_1 hf rfl rfl
theorem mR_lcmp {x y : Int64} (hf : mF M pc (.lcmp) nx) : mR d w M pc ls (vL y :: vL x :: st) Q ↔ mR d w M nx ls (vI (lg_cmp x y) :: st) Q := mR_1 hf rfl rfl
theorem mR_i2l {x : Int32} (hf : mF M pc (.i2l) nx) : mR d w M pc ls (vI x :: st) Q ↔ mR d w M nx ls (vL x.toInt64 :: st) Q := mR_1 hf rfl rfl
theorem mR_i2d {x : Int32} (hf : mF M pc (.i2d) nx) : mR d w M pc ls (vI x :: st) Q ↔ mR d w M nx ls (vD (FP.i2d x) :: st) Q := mR_1 hf rfl rfl
theorem mR_dupI {x : Int32} (hf : mF M pc (.dup) nx) : mR d w M pc ls (vI x :: st) Q ↔ mR d w M nx ls (vI x :: vI x :: st) Q := mR_1 hf rfl rfl
theorem mR_dupR {x : Option Ptr} (hf : mF M pc (.dup) nx) : mR d w M pc ls (vR x :: st) Q ↔ mR d w M nx ls (vR x :: vR x :: st) Q := mR_1 hf rfl rfl
theorem mR_pop {x : Int32} (hf : mF M pc (.pop) nx) : mR d w M pc ls (vI x :: st) Q ↔ mR d w M nx ls (st) Q := mR_1 hf rfl rfl
theorem mR_dup2 {x : Int32} {y : Option Ptr} (hf : mF M pc (.dup2) nx) : mR d w M pc ls (vI x :: vR y :: st) Q ↔ mR d w M nx ls (vI x :: vR y :: vI x :: vR y :: st) Q := mR_1 hf rfl rfl
theorem mR_dcmp {op : CmpOp} {x y : UInt64} (hf : mF M pc (.dcmp op) nx) : mR d w M pc ls (vD y :: vD x :: st) Q ↔ mR d w M nx ls (vI (Op.cmpValue (FP.dcmp x y) op) :: st) Q := mR_1 hf rfl rfl
theorem mR_ddiv {x y : UInt64} (hf : mF M pc (.ddiv) nx) : mR d w M pc ls (vD y :: vD x :: st) Q ↔ FP.ddiv x y &&& 0x7fffffffffffffff ≤ 0x7ff0000000000000 ∧ mR d w M nx ls (vD (FP.ddiv x y) :: st) Q := mR_1c hf rfl rfl
theorem mR_goto {off : Int} {t : Nat} (hf : mF M pc (.goto off) nx) (ht : mj_jmp pc off = some t) : mR d w M pc ls st Q ↔ mR d w M t ls st Q := by
  refine mR_1 hf rfl ?_
  show (mj_jmp pc off).map (fun t => (w, t, ls, st)) = _
  rw [ht]
  rfl
theorem mR_if {cd : ClassFile.Cond} {off : Int} {t : Nat} {x : Int32} {P N : Prop} (hf : mF M pc (.ifCond cd off) nx) (ht : mj_jmp pc off = some t) (hP : (mj_cnd cd x 0 = true ↔ P) ∧ (¬ mj_cnd cd x 0 = true ↔ N)) : mR d w M pc ls (vI x :: st) Q ↔ (P → mR d w M t ls st Q) ∧ (N → mR d w M nx ls st Q) := by
  rw [← hP.1, ← hP.2]
  refine mR_br (s1 := (w, t, ls, st)) (s2 := (w, nx, ls, st)) hf rfl (mj_pl_ok rfl).2 ?_
  show (mj_jmp pc off).map (fun t => if mj_cnd cd x 0 = true then (w, t, ls, st) else (w, nx, ls, st)) = _
  rw [ht]
  rfl
theorem mR_icmp {cd : ClassFile.Cond} {off : Int} {t : Nat} {x y : Int32} {P N : Prop} (hf : mF M pc (.if_icmp cd off) nx) (ht : mj_jmp pc off = some t) (hP : (mj_cnd cd x y = true ↔ P) ∧ (¬ mj_cnd cd x y = true ↔ N)) : mR d w M pc ls (vI y :: vI x :: st) Q ↔ (P → mR d w M t ls st Q) ∧ (N → mR d w M nx ls st Q) := by
  rw [← hP.1, ← hP.2]
  refine mR_br (s1 := (w, t, ls, st)) (s2 := (w, nx, ls, st)) hf rfl (mj_pl_ok rfl).2 ?_
  show (mj_jmp pc off).map (fun t => if mj_cnd cd x y = true then (w, t, ls, st) else (w, nx, ls, st)) = _
  rw [ht]
  rfl
theorem mR_ifnull {off : Int} {t : Nat} {x : Option Ptr} (hf : mF M pc (.ifnull off) nx) (ht : mj_jmp pc off = some t) : mR d w M pc ls (vR x :: st) Q ↔ (x = none → mR d w M t ls st Q) ∧ (¬ x = none → mR d w M nx ls st Q) := by
  refine mR_br (s1 := (w, t, ls, st)) (s2 := (w, nx, ls, st)) hf rfl (mj_pl_ok rfl).2 ?_
  show (mj_jmp pc off).map (fun t => if x = none then (w, t, ls, st) else (w, nx, ls, st)) = _
  rw [ht]
  rfl
theorem mR_ifnonnull {off : Int} {t : Nat} {x : Option Ptr} (hf : mF M pc (.ifnonnull off) nx) (ht : mj_jmp pc off = some t) : mR d w M pc ls (vR x :: st) Q ↔ (x = none → mR d w M nx ls st Q) ∧ (¬ x = none → mR d w M t ls st Q) := by
  refine mR_br (s1 := (w, nx, ls, st)) (s2 := (w, t, ls, st)) hf rfl (mj_pl_ok rfl).2 ?_
  show (mj_jmp pc off).map (fun t => if x = none then (w, nx, ls, st) else (w, t, ls, st)) = _
  rw [ht]
  rfl
theorem mR_getI {k ci j n a kk : Nat} (hf : mF M pc (.getfield k) nx) (hk : mj_fld (mj_o M) k = some (ci, j)) (ht : mj_ft ci j < 2) (hkk : mj_fk ci j = kk) : mR d w M pc ls (vR (some (ci, n, a)) :: st) Q ↔ mR d w M nx ls (vI (wFI w kk a) :: st) Q := by
  subst hkk
  refine mR_1 hf rfl ?_
  unfold mj_step
  dsimp only
  rw [hk]
  dsimp only
  rw [if_pos rfl, if_pos ht]
theorem mR_getR {k ci j n a kk : Nat} (hf : mF M pc (.getfield k) nx) (hk : mj_fld (mj_o M) k = some (ci, j)) (ht : ¬ mj_ft ci j < 2) (hkk : mj_fk ci j = kk) : mR d w M pc ls (vR (some (ci, n, a)) :: st) Q ↔ mR d w M nx ls (vR (wFR w kk a) :: st) Q := by
  subst hkk
  refine mR_1 hf rfl ?_
  unfold mj_step
  dsimp only
  rw [hk]
  dsimp only
  rw [if_pos rfl, if_neg ht]
theorem mR_putI {k ci j n a kk : Nat} {x : Int32} (hf : mF M pc (.putfield k) nx) (hk : mj_fld (mj_o M) k = some (ci, j)) (hw : mj_fin ci j = false ∨ mj_isI M = true ∧ ci = mj_o M) (ht : mj_ft ci j = 0) (hkk : mj_fk ci j = kk) : mR d w M pc ls (vI x :: vR (some (ci, n, a)) :: st) Q ↔ mR d (sFI w kk a x) M nx ls st Q := by
  subst hkk
  refine mR_1 hf rfl ?_
  unfold mj_step
  dsimp only
  rw [hk]
  dsimp only
  rw [if_pos ⟨rfl, hw, Or.inl ht⟩]
theorem mR_putZ {k ci j n a kk : Nat} {x : Int32} (hf : mF M pc (.putfield k) nx) (hk : mj_fld (mj_o M) k = some (ci, j)) (hw : mj_fin ci j = false ∨ mj_isI M = true ∧ ci = mj_o M) (ht : mj_ft ci j = 1) (hkk : mj_fk ci j = kk) : mR d w M pc ls (vI x :: vR (some (ci, n, a)) :: st) Q ↔ (x = 0 ∨ x = 1) ∧ mR d (sFI w kk a x) M nx ls st Q := by
  subst hkk
  refine mR_1c hf rfl ?_
  unfold mj_step
  dsimp only
  rw [hk]
  dsimp only
  by_cases h : x = 0 ∨ x = 1
  · rw [if_pos ⟨rfl, hw, Or.inr ⟨ht, h⟩⟩, if_pos h]
  · rw [if_neg (fun q => ?_), if_neg h]
    rcases q.2.2 with h9 | h9
    · rw [ht] at h9; cases h9
    · exact h h9.2
theorem mR_putR {k ci j n a kk : Nat} {x : Option Ptr} (hf : mF M pc (.putfield k) nx) (hk : mj_fld (mj_o M) k = some (ci, j)) (hw : mj_fin ci j = false ∨ mj_isI M = true ∧ ci = mj_o M) (ht : mj_ft ci j = 2) (hkk : mj_fk ci j = kk) : mR d w M pc ls (vR x :: vR (some (ci, n, a)) :: st) Q ↔ mR d (sFR w kk a x) M nx ls st Q := by
  subst hkk
  refine mR_1 hf rfl ?_
  unfold mj_step
  dsimp only
  rw [hk]
  dsimp only
  rw [if_pos ⟨rfl, hw, ht⟩]
theorem mR_iaload {j : Int32} {n a : Nat} (hf : mF M pc (.iaload) nx) : mR d w M pc ls (vI j :: vR (some (20, n, a)) :: st) Q ↔ mj_in j n ∧ mR d w M nx ls (vI (wAI w a j.toNatClampNeg) :: st) Q := by
  refine mR_1c hf rfl ?_
  show (if (20 = 20 ∨ 20 = 30) ∧ mj_in j n then _ else _) = _
  simp only [true_or, true_and]
theorem mR_ialoadS {j : Int32} {n a : Nat} (hf : mF M pc (.iaload) nx) : mR d w M pc ls (vI j :: vR (some (30, n, a)) :: st) Q ↔ mj_in j n ∧ mR d w M nx ls (vI (wAI w a j.toNatClampNeg) :: st) Q := by
  refine mR_1c hf rfl ?_
  show (if (30 = 20 ∨ 30 = 30) ∧ mj_in j n then _ else _) = _
  simp only [or_true, true_and]
theorem mR_baload {j : Int32} {n a : Nat} (hf : mF M pc (.baload) nx) : mR d w M pc ls (vI j :: vR (some (22, n, a)) :: st) Q ↔ mj_in j n ∧ mR d w M nx ls (vI (wAI w a j.toNatClampNeg) :: st) Q := by
  refine mR_1c hf rfl ?_
  show (if 22 = 22 ∧ mj_in j n then _ else _) = _
  simp only [true_and]
theorem mR_laload {j : Int32} {n a : Nat} (hf : mF M pc (.laload) nx) : mR d w M pc ls (vI j :: vR (some (21, n, a)) :: st) Q ↔ mj_in j n ∧ mR d w M nx ls (vL (wAJ w a j.toNatClampNeg) :: st) Q := by
  refine mR_1c hf rfl ?_
  show (if 21 = 21 ∧ mj_in j n then _ else _) = _
  simp only [true_and]
theorem mR_aaload {j : Int32} {q n a : Nat} (hf : mF M pc (.aaload) nx) : mR d w M pc ls (vI j :: vR (some (q, n, a)) :: st) Q ↔ ((q = 23 ∨ q = 24 ∨ q = 25) ∧ mj_in j n) ∧ mR d w M nx ls (vR (wAR w a j.toNatClampNeg) :: st) Q := mR_1c hf rfl rfl
theorem mR_iastore {x j : Int32} {n a : Nat} (hf : mF M pc (.iastore) nx) : mR d w M pc ls (vI x :: vI j :: vR (some (20, n, a)) :: st) Q ↔ mj_in j n ∧ mR d (sAI w a j.toNatClampNeg x) M nx ls st Q := by
  refine mR_1c hf rfl ?_
  show (if 20 = 20 ∧ mj_in j n then _ else _) = _
  simp only [true_and]
theorem mR_bastore {x j : Int32} {n a : Nat} (hf : mF M pc (.bastore) nx) : mR d w M pc ls (vI x :: vI j :: vR (some (22, n, a)) :: st) Q ↔ (mj_in j n ∧ (x = 0 ∨ x = 1)) ∧ mR d (sAI w a j.toNatClampNeg x) M nx ls st Q := by
  refine mR_1c hf rfl ?_
  show (if 22 = 22 ∧ mj_in j n ∧ (x = 0 ∨ x = 1) then _ else _) = _
  simp only [true_and]
theorem mR_lastore {x : Int64} {j : Int32} {n a : Nat} (hf : mF M pc (.lastore) nx) : mR d w M pc ls (vL x :: vI j :: vR (some (21, n, a)) :: st) Q ↔ mj_in j n ∧ mR d (sAJ w a j.toNatClampNeg x) M nx ls st Q := by
  refine mR_1c hf rfl ?_
  show (if 21 = 21 ∧ mj_in j n then _ else _) = _
  simp only [true_and]
theorem mR_aastore {v : Ptr} {j : Int32} {q n a : Nat} (hf : mF M pc (.aastore) nx) : mR d w M pc ls (vR (some v) :: vI j :: vR (some (q, n, a)) :: st) Q ↔ ((q = 23 ∧ v.1 = 1 ∨ q = 24 ∧ v.1 = 5) ∧ mj_in j n) ∧ mR d (sAR w a j.toNatClampNeg (some v)) M nx ls st Q := mR_1c hf rfl rfl
theorem mR_alen {n a : Nat} (hf : mF M pc (.arraylength) nx) : mR d w M pc ls (vR (some (30, n, a)) :: st) Q ↔ mR d w M nx ls (vI (Int32.ofNat n) :: st) Q := mR_1 hf rfl rfl
theorem mR_new {k ci nf : Nat} (hf : mF M pc (.new k) nx) (hk : mj_cls (mj_o M) k = some ci) (hn : mj_nf ci = nf) : mR d w M pc ls st Q ↔ mR d (nwO w nf) M nx ls (vR (some (ci, 0, wN w)) :: st) Q := by
  subst hn
  refine mR_1 hf rfl ?_
  unfold mj_step
  dsimp only
  rw [hk]
abbrev mj_nn (n : Int32) : Prop := ¬ n < 0 ∧ n.toNatClampNeg ≤ 65536
theorem mR_newI {n : Int32} (hf : mF M pc (.newarray .int) nx) : mR d w M pc ls (vI n :: st) Q ↔ mj_nn n ∧ mR d (nwA w n.toNatClampNeg) M nx ls (vR (some (20, n.toNatClampNeg, wN w)) :: st) Q := mR_1c hf rfl rfl
theorem mR_newJ {n : Int32} (hf : mF M pc (.newarray .long) nx) : mR d w M pc ls (vI n :: st) Q ↔ mj_nn n ∧ mR d (nwA w n.toNatClampNeg) M nx ls (vR (some (21, n.toNatClampNeg, wN w)) :: st) Q := mR_1c hf rfl rfl
theorem mR_newZ {n : Int32} (hf : mF M pc (.newarray .boolean) nx) : mR d w M pc ls (vI n :: st) Q ↔ mj_nn n ∧ mR d (nwA w n.toNatClampNeg) M nx ls (vR (some (22, n.toNatClampNeg, wN w)) :: st) Q := mR_1c hf rfl rfl
theorem mR_newR {k kd ci : Nat} {n : Int32} (hf : mF M pc (.anewarray k) nx) (hk : mj_cls (mj_o M) k = some ci) (hc : ci = 1 ∧ kd = 23 ∨ ci = 5 ∧ kd = 24) : mR d w M pc ls (vI n :: st) Q ↔ mj_nn n ∧ mR d (nwA w n.toNatClampNeg) M nx ls (vR (some (kd, n.toNatClampNeg, wN w)) :: st) Q := by
  refine mR_1c hf rfl ?_
  unfold mj_step
  dsimp only
  rw [hk]
  rcases hc with ⟨rfl, rfl⟩ | ⟨rfl, rfl⟩ <;> rfl
theorem mR_mna {n m : Int32} (hf : mF M pc (.multianewarray 60 2) nx) (ho : mj_o M = 10) : mR d w M pc ls (vI m :: vI n :: st) Q ↔ ((¬ n < 0 ∧ n.toNatClampNeg ≤ 1024) ∧ mj_nn m) ∧ mR d (nwM w n.toNatClampNeg m.toNatClampNeg) M nx ls (vR (some (25, n.toNatClampNeg, wN w)) :: st) Q := by
  refine mR_1c hf rfl ?_
  show (if mj_o M = 10 ∧ 60 = 60 ∧ (¬ n < 0 ∧ n.toNatClampNeg ≤ 1024) ∧ (¬ m < 0 ∧ m.toNatClampNeg ≤ 65536) then _ else _) = _
  simp only [ho, true_and]
theorem mR_sw {dflt lo hi : Int} {offs : Array Int} {x : Int32} {t : Nat} (hf : mF M pc (.tableswitch dflt lo hi offs) nx) (hs : (if x.toInt < lo ∨ hi < x.toInt then mj_jmp pc dflt else (match offs[(x.toInt - lo).toNat]? with | some off => mj_jmp pc off | none => none)) = some t) : mR d w M pc ls (vI x :: st) Q ↔ mR d w M t ls st Q := by
  refine mR_1 hf rfl ?_
  unfold mj_step
  dsimp only
  split at hs
  · rename_i h
    rw [if_pos h, hs]
    rfl
  · rename_i h
    rw [if_neg h]
    cases ho : offs[(x.toInt - lo).toNat]? with
    | none => rw [ho] at hs; cases hs
    | some off =>
      rw [ho] at hs
      dsimp only at hs ⊢
      rw [hs]
      rfl
theorem mR_spc {c : Prop} [Decidable c] (h : ∀ f, mj_run (f + 1) d w M pc ls st = if c then mj_run f d w1 M pc1 ls1 st1 else none) : mR d w M pc ls st Q ↔ c ∧ mR d w1 M pc1 ls1 st1 Q := by
  constructor
  · rintro ⟨f, r, w', h1, h2⟩
    cases f with
    | zero => cases h1
    | succ f =>
      rw [h] at h1
      split at h1
      · exact ⟨‹_›, f, r, w', h1, h2⟩
      · cases h1
  · rintro ⟨hc, f, r, w', h1, h2⟩
    exact ⟨f + 1, r, w', by rw [h, if_pos hc]; exact h1, h2⟩
theorem mR_oi {k Mx : Nat} {q : Ptr} (hf : mF M pc (.invokespecial k) nx) (hm : mj_mth (mj_o M) k = some (1, Mx)) (hwt : mj_wt st ≤ 8) : mR d w M pc ls (vR (some q) :: st) Q ↔ mR d w M nx ls st Q := by
  refine (mR_spc (c := 2 = 2 ∧ mj_wt st ≤ 8) (w1 := w) (pc1 := nx) (ls1 := ls) (st1 := st) (fun f => ?_)).trans ⟨fun h => h.2, fun h => ⟨⟨rfl, hwt⟩, h⟩⟩
  show mj_body (mj_run f) d w M pc ls _ = _
  unfold mj_body
  rw [hf.1]
  dsimp only
  rw [show mj_call (.invokespecial k) = some (k, 2) from rfl]
  dsimp only
  rw [hm]
  rfl
theorem mR_max {k Mx : Nat} {x y : Int32} (hf : mF M pc (.invokestatic k) nx) (hm : mj_mth (mj_o M) k = some (4, Mx)) (hwt : mj_wt st ≤ 8) : mR d w M pc ls (vI y :: vI x :: st) Q ↔ mR d w M nx ls (vI (if x < y then y else x) :: st) Q := by
  refine (mR_spc (c := 0 = 0 ∧ mj_wt st ≤ 8) (w1 := w) (pc1 := nx) (ls1 := ls) (st1 := vI (if x < y then y else x) :: st) (fun f => ?_)).trans ⟨fun h => h.2, fun h => ⟨⟨rfl, hwt⟩, h⟩⟩
  show mj_body (mj_run f) d w M pc ls _ = _
  unfold mj_body
  rw [hf.1]
  dsimp only
  rw [show mj_call (.invokestatic k) = some (k, 0) from rfl]
  dsimp only
  rw [hm]
  rfl
theorem mR_min {k Mx : Nat} {x y : Int32} (hf : mF M pc (.invokestatic k) nx) (hm : mj_mth (mj_o M) k = some (5, Mx)) (hwt : mj_wt st ≤ 8) : mR d w M pc ls (vI y :: vI x :: st) Q ↔ mR d w M nx ls (vI (if y < x then y else x) :: st) Q := by
  refine (mR_spc (c := 0 = 0 ∧ mj_wt st ≤ 8) (w1 := w) (pc1 := nx) (ls1 := ls) (st1 := vI (if y < x then y else x) :: st) (fun f => ?_)).trans ⟨fun h => h.2, fun h => ⟨⟨rfl, hwt⟩, h⟩⟩
  show mj_body (mj_run f) d w M pc ls _ = _
  unfold mj_body
  rw [hf.1]
  dsimp only
  rw [show mj_call (.invokestatic k) = some (k, 0) from rfl]
  dsimp only
  rw [hm]
  rfl
abbrev mj_cpok (sp dp n : Int32) (a b : Nat) : Prop := ¬ sp < 0 ∧ ¬ dp < 0 ∧ ¬ n < 0 ∧ sp.toNatClampNeg + n.toNatClampNeg ≤ a ∧ dp.toNatClampNeg + n.toNatClampNeg ≤ b
theorem mR_cpI {k Mx : Nat} {sp dp n : Int32} {a q b p : Nat} (hf : mF M pc (.invokestatic k) nx) (hm : mj_mth (mj_o M) k = some (3, Mx)) (hwt : mj_wt st ≤ 8) : mR d w M pc ls (vI n :: vI dp :: vR (some (20, b, p)) :: vI sp :: vR (some (20, a, q)) :: st) Q ↔ (¬ p = q ∧ mj_cpok sp dp n a b) ∧ mR d (cpI w q sp.toNatClampNeg p dp.toNatClampNeg n.toNatClampNeg) M nx ls st Q := by
  refine (mR_spc (c := (20 = 20 ∧ 20 = 20 ∨ 20 = 21 ∧ 20 = 21) ∧ ¬ p = q ∧ ¬ sp < 0 ∧ ¬ dp < 0 ∧ ¬ n < 0 ∧ sp.toNatClampNeg + n.toNatClampNeg ≤ a ∧ dp.toNatClampNeg + n.toNatClampNeg ≤ b ∧ 0 = 0 ∧ mj_wt st ≤ 8) (w1 := cpI w q sp.toNatClampNeg p dp.toNatClampNeg n.toNatClampNeg) (pc1 := nx) (ls1 := ls) (st1 := st) (fun f => ?_)).trans ⟨fun ⟨⟨_, h1, h2, h3, h4, h5, h6, _, _⟩, h7⟩ => ⟨⟨h1, h2, h3, h4, h5, h6⟩, h7⟩, fun ⟨⟨h1, h2, h3, h4, h5, h6⟩, h7⟩ => ⟨⟨Or.inl ⟨rfl, rfl⟩, h1, h2, h3, h4, h5, h6, rfl, hwt⟩, h7⟩⟩
  show mj_body (mj_run f) d w M pc ls _ = _
  unfold mj_body
  rw [hf.1]
  dsimp only
  rw [show mj_call (.invokestatic k) = some (k, 0) from rfl]
  dsimp only
  rw [hm]
  rfl
theorem mR_cpJ {k Mx : Nat} {sp dp n : Int32} {a q b p : Nat} (hf : mF M pc (.invokestatic k) nx) (hm : mj_mth (mj_o M) k = some (3, Mx)) (hwt : mj_wt st ≤ 8) : mR d w M pc ls (vI n :: vI dp :: vR (some (21, b, p)) :: vI sp :: vR (some (21, a, q)) :: st) Q ↔ (¬ p = q ∧ mj_cpok sp dp n a b) ∧ mR d (cpJ w q sp.toNatClampNeg p dp.toNatClampNeg n.toNatClampNeg) M nx ls st Q := by
  refine (mR_spc (c := (21 = 20 ∧ 21 = 20 ∨ 21 = 21 ∧ 21 = 21) ∧ ¬ p = q ∧ ¬ sp < 0 ∧ ¬ dp < 0 ∧ ¬ n < 0 ∧ sp.toNatClampNeg + n.toNatClampNeg ≤ a ∧ dp.toNatClampNeg + n.toNatClampNeg ≤ b ∧ 0 = 0 ∧ mj_wt st ≤ 8) (w1 := cpJ w q sp.toNatClampNeg p dp.toNatClampNeg n.toNatClampNeg) (pc1 := nx) (ls1 := ls) (st1 := st) (fun f => ?_)).trans ⟨fun ⟨⟨_, h1, h2, h3, h4, h5, h6, _, _⟩, h7⟩ => ⟨⟨h1, h2, h3, h4, h5, h6⟩, h7⟩, fun ⟨⟨h1, h2, h3, h4, h5, h6⟩, h7⟩ => ⟨⟨Or.inr ⟨rfl, rfl⟩, h1, h2, h3, h4, h5, h6, rfl, hwt⟩, h7⟩⟩
  show mj_body (mj_run f) d w M pc ls _ = _
  unfold mj_body
  rw [hf.1]
  dsimp only
  rw [show mj_call (.invokestatic k) = some (k, 0) from rfl]
  dsimp only
  rw [hm]
  rfl
end MR
