/-! What the small machine does in one step, the claim's machine does: instructions that change neither store nor locals. -/
theorem va_AOA.warm {t : FieldType} {s U : State} (hW : s.WarmedH U.vm) (h : va_AOA t s) : va_AOA t U := by
  exact Jvm.Stand.arrayOver_alikeB hW.alike h
theorem so_nw_warm {w : Cond} (h0 : w ∈ so_nw) {s U : State} (hW : s.WarmedH U.vm) (h : va_Nw w s) : va_Nw w U := by
  have hk := (List.mem_filter.mp h0).2
  cases w <;> first | exact va_Nw.warmF hW h | exact va_Nw.warmM hW h | exact va_Nw.warmC hW h | exact va_Nw.warmD hW h | exact absurd hk Bool.false_ne_true
def so_St (A : Nat → Prop) (b L : Nat) (xs : Nat → Int32) (U : State) (H : Heap) : Prop :=
  va_X b L xs U H ∧ b < H.size ∧ ¬ A b ∧ vx_Zq Bundle.tN "UNASSIGNED_STACK" Bundle.steD A U H ∧ vx_Zq Bundle.tN "SUPPRESSED_SENTINEL" Bundle.listD A U H ∧ (∀ w ∈ so_nw, va_Nw w U) ∧ va_AO RX1 U ∧ va_AO RX5 U ∧ va_AOA .int U ∧
  (∀ i tx, Cond.stringRef RX8 i tx ∈ lw_tbl → ∃ sa, vk_R RX8 i tx sa U) ∧ (∀ E E', E < 4 → E' < 4 → ¬ E = E' → va_Nc (so_xn E) (so_xn E') U)
/-- what stands in the heap outside, seen from a later state -/
theorem so_St.warm {A B : Nat → Prop} {b L : Nat} {xs : Nat → Int32} {s U : State} {H : Heap} {locs : List Loc} (h : so_St A b L xs s s.heap) (hS : va_S A s.heap H locs) (hW : s.WarmedH U.vm) (hAB : ∀ q, B q → A q) : so_St B b L xs U H := by
  obtain ⟨h1, h2, h3, h4, h5, h6, h7, h8, h9, h10, h11⟩ := h
  refine ⟨va_X.moved hW.alike (h1.kept (hS.2.1 b h2 h3)), Nat.lt_of_lt_of_le h2 hS.1, fun q => h3 (hAB _ q), (vx_Zq.moved hW.alike (h4.kept hS.2.1)).narrow hAB, (vx_Zq.moved hW.alike (h5.kept hS.2.1)).narrow hAB, fun w hw => so_nw_warm hw hW (h6 w hw), va_AO.moved hW.alike h7, va_AO.moved hW.alike h8, h9.warm hW, fun i tx hi => ?_, fun E E' e1 e2 e3 => va_Nc.moved hW.alike (h11 E E' e1 e2 e3)⟩
  obtain ⟨sa, hsa⟩ := h10 i tx hi
  exact ⟨sa, vk_R.warm hW hsa⟩
/-- what holds of a frame of method M -/
def so_C (p : Program) (l : Launch) (s : State) (m : MethodId) (args : Array Value) (meth : Method) (c : Code) (M : Nat) (A : Nat → Prop) (b : so_B) (L : Nat) (xs : Nat → Int32) : Prop :=
  p.tables.exec = Jvm.exec ∧ c.code = mj_c M ∧ meth.sig.returnType = mj_r M ∧ c.maxLocals = mj_l M ∧ s.vm.findClass (so_cn (mj_o M)) = some m.cls ∧ (∀ w ∈ so_big, w.before args s = true) ∧ meth.locks = false ∧ l.stackTraces = false ∧ (∀ q, s.heap.size ≤ q → A q) ∧ so_St A b.1 L xs s s.heap ∧
  (mj_isI M = true → meth.name = "<init>") ∧ c.exceptionTable.toList = tableOf (mj_h M)
def so_J (p : Program) (l : Launch) (e : Env) (R : Room) (s : State) (m : MethodId) (args : Array Value) (below : List Frame) (meth : Method) (c : Code) (M : Nat) (A : Nat → Prop) (b : so_B) (L : Nat) (xs : Nat → Int32) (D : va_G) (Q : State → Prop) (mc ms : Nat) (wE w : MWd) (pc : Nat) (ls : List (Option MV)) (st : List MV) : Prop :=
  ∀ (H : Heap) (locs : List Loc) (cells slots : Nat) (tys : List (ClassId × FieldType)) (ad : Nat → Nat) (cA : Nat → ClassId) (G : Nat → Nat → Value) (K : Nat → Nat × Nat) (lsA : Array Slot), so_Rep D A L b tys ad cA G K w H → wAI w 0 = xs → va_K D vwCl tys s → va_S A s.heap H locs → lv_has lsA (mj_l M) (so_ls ad 0 ls) → ls.length = mj_l M → so_lok (wN w) K ls → so_sok (wN w) K st → cells + wC wE = mc + wC w → slots + wS wE = ms + wS w →
    W p l e R s m args below meth c H locs cells slots Q (F0 m pc lsA (st.map (so_v ad)))
theorem so_dec {M pc nx : Nat} {i : Instr} (h : mj_fetch M pc = some (i, nx)) : ∃ n, decode (mj_c M) pc = .ok (i, n) ∧ nx = pc + n ∧ (n = mj_len i ∨ mj_len i = 0) := by
  unfold mj_fetch at h
  split at h
  · rename_i i' n hd
    split at h
    · rename_i hn
      cases h
      exact ⟨n, hd, rfl, hn⟩
    · cases h
  · cases h
theorem so_decn {M pc nx k : Nat} {i : Instr} (h : mj_fetch M pc = some (i, nx)) (hk : mj_len i = k) (h0 : 0 < k) : decode (mj_c M) pc = .ok (i, k) ∧ nx = pc + k := by
  obtain ⟨n, h1, h2, h3⟩ := so_dec h
  have e : n = k := by omega
  subst e
  exact ⟨h1, h2⟩
theorem so_sok_tail {n : Nat} {K : Nat → Nat × Nat} {v : MV} {st : List MV} (h : so_sok n K (v :: st)) : so_sok n K st := fun x hx => h x (List.mem_cons_of_mem _ hx)
theorem so_sok_cons {n : Nat} {K : Nat → Nat × Nat} {v : MV} {st : List MV} (hv : so_ok n K v) (h : so_sok n K st) : so_sok n K (v :: st) := fun x hx => by
  rcases List.mem_cons.mp hx with rfl | hx
  · exact hv
  · exact h x hx
theorem so_ok_I {n : Nat} {K : Nat → Nat × Nat} {x : Int32} : so_ok n K (.inl x) := fun p h => by cases h
theorem so_ok_L {n : Nat} {K : Nat → Nat × Nat} {x : Int64} : so_ok n K (.inr (.inl x)) := fun p h => by cases h
theorem so_ok_D {n : Nat} {K : Nat → Nat × Nat} {x : UInt64} : so_ok n K (.inr (.inr (.inl x))) := fun p h => by cases h
theorem so_ok_N {n : Nat} {K : Nat → Nat × Nat} : so_ok n K (vR none) := fun p h => by cases h
theorem so_jmp {pc t : Nat} {off : Int} (h : mj_jmp pc off = some t) : (pc : Int) + off = (t : Int) := by
  unfold mj_jmp at h
  split at h
  · rename_i e
    cases h
    exact e
  · cases h
section SO
variable {p : Program} {l : Launch} {e : Env} {R : Room} {s : State} {m : MethodId} {args : Array Value} {below : List Frame} {meth : Method} {c : Code} {Q : State → Prop} {M L : Nat} {b : so_B} {xs : Nat → Int32} {A : Nat → Prop} {D : va_G} {mc ms : Nat} {wE w : MWd} {pc nx : Nat} {ls : List (Option MV)} {st : List MV}
/-- a step that changes the stack alone -/
theorem so_p {st1 : List MV} {pc1 : Nat} (h : ∀ (H : Heap) (locs : List Loc) (cells slots : Nat) (ad : Nat → Nat) (lsA : Array Slot), W p l e R s m args below meth c H locs cells slots Q (F0 m pc1 lsA (st1.map (so_v ad))) → W p l e R s m args below meth c H locs cells slots Q (F0 m pc lsA (st.map (so_v ad))))
    (hok : ∀ n K, so_sok n K st → so_sok n K st1) (hJ : so_J p l e R s m args below meth c M A b L xs D Q mc ms wE w pc1 ls st1) : so_J p l e R s m args below meth c M A b L xs D Q mc ms wE w pc ls st :=
  fun H locs cells slots tys ad cA G K lsA hR hX hK hS hl hn hlo hst hc hs => h H locs cells slots ad lsA (hJ H locs cells slots tys ad cA G K lsA hR hX hK hS hl hn hlo (hok _ _ hst) hc hs)
theorem so_s_iadd (C : so_C p l s m args meth c M A b L xs) (hf : mj_fetch M pc = some (.iadd, nx)) {x y : Int32} {r : List MV} (hJ : so_J p l e R s m args below meth c M A b L xs D Q mc ms wE w nx ls (vI (x + y) :: r)) : so_J p l e R s m args below meth c M A b L xs D Q mc ms wE w pc ls (.inl y :: .inl x :: r) := by
  obtain ⟨hd, rfl⟩ := so_decn hf rfl (by decide : 0 < 1)
  exact so_p (fun _ _ _ _ ad _ k => lv_iadd C.1 C.2.1 hd k) (fun n K h => so_sok_cons so_ok_I (so_sok_tail (so_sok_tail h))) hJ
theorem so_s_isub (C : so_C p l s m args meth c M A b L xs) (hf : mj_fetch M pc = some (.isub, nx)) {x y : Int32} {r : List MV} (hJ : so_J p l e R s m args below meth c M A b L xs D Q mc ms wE w nx ls (vI (x - y) :: r)) : so_J p l e R s m args below meth c M A b L xs D Q mc ms wE w pc ls (.inl y :: .inl x :: r) := by
  obtain ⟨hd, rfl⟩ := so_decn hf rfl (by decide : 0 < 1)
  exact so_p (fun _ _ _ _ ad _ k => lv_isub C.1 C.2.1 hd k) (fun n K h => so_sok_cons so_ok_I (so_sok_tail (so_sok_tail h))) hJ
theorem so_s_imul (C : so_C p l s m args meth c M A b L xs) (hf : mj_fetch M pc = some (.imul, nx)) {x y : Int32} {r : List MV} (hJ : so_J p l e R s m args below meth c M A b L xs D Q mc ms wE w nx ls (vI (x * y) :: r)) : so_J p l e R s m args below meth c M A b L xs D Q mc ms wE w pc ls (.inl y :: .inl x :: r) := by
  obtain ⟨hd, rfl⟩ := so_decn hf rfl (by decide : 0 < 1)
  exact so_p (fun _ _ _ _ ad _ k => lv_imul C.1 C.2.1 hd k) (fun n K h => so_sok_cons so_ok_I (so_sok_tail (so_sok_tail h))) hJ
theorem so_s_iand (C : so_C p l s m args meth c M A b L xs) (hf : mj_fetch M pc = some (.iand, nx)) {x y : Int32} {r : List MV} (hJ : so_J p l e R s m args below meth c M A b L xs D Q mc ms wE w nx ls (vI (x &&& y) :: r)) : so_J p l e R s m args below meth c M A b L xs D Q mc ms wE w pc ls (.inl y :: .inl x :: r) := by
  obtain ⟨hd, rfl⟩ := so_decn hf rfl (by decide : 0 < 1)
  exact so_p (fun _ _ _ _ ad _ k => lv_iand C.1 C.2.1 hd k) (fun n K h => so_sok_cons so_ok_I (so_sok_tail (so_sok_tail h))) hJ
theorem so_s_ior (C : so_C p l s m args meth c M A b L xs) (hf : mj_fetch M pc = some (.ior, nx)) {x y : Int32} {r : List MV} (hJ : so_J p l e R s m args below meth c M A b L xs D Q mc ms wE w nx ls (vI (x ||| y) :: r)) : so_J p l e R s m args below meth c M A b L xs D Q mc ms wE w pc ls (.inl y :: .inl x :: r) := by
  obtain ⟨hd, rfl⟩ := so_decn hf rfl (by decide : 0 < 1)
  exact so_p (fun _ _ _ _ ad _ k => lv_ior C.1 C.2.1 hd k) (fun n K h => so_sok_cons so_ok_I (so_sok_tail (so_sok_tail h))) hJ
theorem so_s_ixor (C : so_C p l s m args meth c M A b L xs) (hf : mj_fetch M pc = some (.ixor, nx)) {x y : Int32} {r : List MV} (hJ : so_J p l e R s m args below meth c M A b L xs D Q mc ms wE w nx ls (vI (x ^^^ y) :: r)) : so_J p l e R s m args below meth c M A b L xs D Q mc ms wE w pc ls (.inl y :: .inl x :: r) := by
  obtain ⟨hd, rfl⟩ := so_decn hf rfl (by decide : 0 < 1)
  exact so_p (fun _ _ _ _ ad _ k => lv_ixor C.1 C.2.1 hd k) (fun n K h => so_sok_cons so_ok_I (so_sok_tail (so_sok_tail h))) hJ
theorem so_s_ishl (C : so_C p l s m args meth c M A b L xs) (hf : mj_fetch M pc = some (.ishl, nx)) {x y : Int32} {r : List MV} (hJ : so_J p l e R s m args below meth c M A b L xs D Q mc ms wE w nx ls (vI (x <<< (y &&& 31)) :: r)) : so_J p l e R s m args below meth c M A b L xs D Q mc ms wE w pc ls (.inl y :: .inl x :: r) := by
  obtain ⟨hd, rfl⟩ := so_decn hf rfl (by decide : 0 < 1)
  exact so_p (fun _ _ _ _ ad _ k => lv_ishl C.1 C.2.1 hd k) (fun n K h => so_sok_cons so_ok_I (so_sok_tail (so_sok_tail h))) hJ
theorem so_s_ishr (C : so_C p l s m args meth c M A b L xs) (hf : mj_fetch M pc = some (.ishr, nx)) {x y : Int32} {r : List MV} (hJ : so_J p l e R s m args below meth c M A b L xs D Q mc ms wE w nx ls (vI (x >>> (y &&& 31)) :: r)) : so_J p l e R s m args below meth c M A b L xs D Q mc ms wE w pc ls (.inl y :: .inl x :: r) := by
  obtain ⟨hd, rfl⟩ := so_decn hf rfl (by decide : 0 < 1)
  exact so_p (fun _ _ _ _ ad _ k => lv_ishr C.1 C.2.1 hd k) (fun n K h => so_sok_cons so_ok_I (so_sok_tail (so_sok_tail h))) hJ
theorem so_s_iushr (C : so_C p l s m args meth c M A b L xs) (hf : mj_fetch M pc = some (.iushr, nx)) {x y : Int32} {r : List MV} (hJ : so_J p l e R s m args below meth c M A b L xs D Q mc ms wE w nx ls (vI (x.toUInt32 >>> (y.toUInt32 &&& Int32.toUInt32 31)).toInt32 :: r)) : so_J p l e R s m args below meth c M A b L xs D Q mc ms wE w pc ls (.inl y :: .inl x :: r) := by
  obtain ⟨hd, rfl⟩ := so_decn hf rfl (by decide : 0 < 1)
  exact so_p (fun _ _ _ _ ad _ k => lv_iushr C.1 C.2.1 hd rfl k) (fun n K h => so_sok_cons so_ok_I (so_sok_tail (so_sok_tail h))) hJ
theorem so_s_ladd (C : so_C p l s m args meth c M A b L xs) (hf : mj_fetch M pc = some (.ladd, nx)) {x y : Int64} {r : List MV} (hJ : so_J p l e R s m args below meth c M A b L xs D Q mc ms wE w nx ls (vL (x + y) :: r)) : so_J p l e R s m args below meth c M A b L xs D Q mc ms wE w pc ls (.inr (.inl y) :: .inr (.inl x) :: r) := by
  obtain ⟨hd, rfl⟩ := so_decn hf rfl (by decide : 0 < 1)
  exact so_p (fun _ _ _ _ ad _ k => lv_ladd C.1 C.2.1 hd k) (fun n K h => so_sok_cons so_ok_L (so_sok_tail (so_sok_tail h))) hJ
theorem so_s_lmul (C : so_C p l s m args meth c M A b L xs) (hf : mj_fetch M pc = some (.lmul, nx)) {x y : Int64} {r : List MV} (hJ : so_J p l e R s m args below meth c M A b L xs D Q mc ms wE w nx ls (vL (x * y) :: r)) : so_J p l e R s m args below meth c M A b L xs D Q mc ms wE w pc ls (.inr (.inl y) :: .inr (.inl x) :: r) := by
  obtain ⟨hd, rfl⟩ := so_decn hf rfl (by decide : 0 < 1)
  exact so_p (fun _ _ _ _ ad _ k => lv_lmul C.1 C.2.1 hd k) (fun n K h => so_sok_cons so_ok_L (so_sok_tail (so_sok_tail h))) hJ
theorem so_s_lcmp (C : so_C p l s m args meth c M A b L xs) (hf : mj_fetch M pc = some (.lcmp, nx)) {x y : Int64} {r : List MV} (hJ : so_J p l e R s m args below meth c M A b L xs D Q mc ms wE w nx ls (vI (lg_cmp x y) :: r)) : so_J p l e R s m args below meth c M A b L xs D Q mc ms wE w pc ls (.inr (.inl y) :: .inr (.inl x) :: r) := by
  obtain ⟨hd, rfl⟩ := so_decn hf rfl (by decide : 0 < 1)
  exact so_p (fun _ _ _ _ ad _ k => W.lcmp C.1 C.2.1 hd k) (fun n K h => so_sok_cons so_ok_I (so_sok_tail (so_sok_tail h))) hJ
theorem so_s_i2l (C : so_C p l s m args meth c M A b L xs) (hf : mj_fetch M pc = some (.i2l, nx)) {x : Int32} {r : List MV} (hJ : so_J p l e R s m args below meth c M A b L xs D Q mc ms wE w nx ls (vL x.toInt64 :: r)) : so_J p l e R s m args below meth c M A b L xs D Q mc ms wE w pc ls (.inl x :: r) := by
  obtain ⟨hd, rfl⟩ := so_decn hf rfl (by decide : 0 < 1)
  exact so_p (fun _ _ _ _ ad _ k => lv_i2l C.1 C.2.1 hd rfl k) (fun n K h => so_sok_cons so_ok_L (so_sok_tail h)) hJ
theorem so_s_i2d (C : so_C p l s m args meth c M A b L xs) (hf : mj_fetch M pc = some (.i2d, nx)) {x : Int32} {r : List MV} (hJ : so_J p l e R s m args below meth c M A b L xs D Q mc ms wE w nx ls (vD (FP.i2d x) :: r)) : so_J p l e R s m args below meth c M A b L xs D Q mc ms wE w pc ls (.inl x :: r) := by
  obtain ⟨hd, rfl⟩ := so_decn hf rfl (by decide : 0 < 1)
  exact so_p (fun _ _ _ _ ad _ k => lv_i2d C.1 C.2.1 hd k) (fun n K h => so_sok_cons so_ok_D (so_sok_tail h)) hJ
theorem so_s_ddiv (C : so_C p l s m args meth c M A b L xs) (hf : mj_fetch M pc = some (.ddiv, nx)) {x y : UInt64} {r : List MV} (hne : FP.ddiv x y &&& 0x7fffffffffffffff ≤ 0x7ff0000000000000) (hJ : so_J p l e R s m args below meth c M A b L xs D Q mc ms wE w nx ls (vD (FP.ddiv x y) :: r)) : so_J p l e R s m args below meth c M A b L xs D Q mc ms wE w pc ls (.inr (.inr (.inl y)) :: .inr (.inr (.inl x)) :: r) := by
  obtain ⟨hd, rfl⟩ := so_decn hf rfl (by decide : 0 < 1)
  exact so_p (fun _ _ _ _ ad _ k => lv_ddiv C.1 C.2.1 hd hne k) (fun n K h => so_sok_cons so_ok_D (so_sok_tail (so_sok_tail h))) hJ
theorem so_s_dcmp (C : so_C p l s m args meth c M A b L xs) {op : CmpOp} {x y : UInt64} {r : List MV} (hf : mj_fetch M pc = some (.dcmp op, nx)) (hJ : so_J p l e R s m args below meth c M A b L xs D Q mc ms wE w nx ls (vI (Op.cmpValue (FP.dcmp x y) op) :: r)) : so_J p l e R s m args below meth c M A b L xs D Q mc ms wE w pc ls (.inr (.inr (.inl y)) :: .inr (.inr (.inl x)) :: r) := by
  obtain ⟨hd, rfl⟩ := so_decn hf rfl (by decide : 0 < 1)
  exact so_p (fun _ _ _ _ ad _ k => lv_dcmp C.1 C.2.1 hd k) (fun n K h => so_sok_cons so_ok_I (so_sok_tail (so_sok_tail h))) hJ
theorem so_s_iconst (C : so_C p l s m args meth c M A b L xs) {n : Int} (hf : mj_fetch M pc = some (.iconst n, nx)) (hJ : so_J p l e R s m args below meth c M A b L xs D Q mc ms wE w nx ls (vI (Int32.ofInt n) :: st)) : so_J p l e R s m args below meth c M A b L xs D Q mc ms wE w pc ls st := by
  obtain ⟨hd, rfl⟩ := so_decn hf rfl (by decide : 0 < 1)
  exact so_p (fun _ _ _ _ ad _ k => lv_iconst C.1 C.2.1 hd rfl k) (fun n K h => so_sok_cons so_ok_I h) hJ
theorem so_s_bipush (C : so_C p l s m args meth c M A b L xs) {n : Int} (hf : mj_fetch M pc = some (.bipush n, nx)) (hJ : so_J p l e R s m args below meth c M A b L xs D Q mc ms wE w nx ls (vI (Int8.ofInt n).toInt32 :: st)) : so_J p l e R s m args below meth c M A b L xs D Q mc ms wE w pc ls st := by
  obtain ⟨hd, rfl⟩ := so_decn hf rfl (by decide : 0 < 2)
  exact so_p (fun _ _ _ _ ad _ k => lv_bipush C.1 C.2.1 hd rfl k) (fun n K h => so_sok_cons so_ok_I h) hJ
theorem so_s_sipush (C : so_C p l s m args meth c M A b L xs) {n : Int} (hf : mj_fetch M pc = some (.sipush n, nx)) (hJ : so_J p l e R s m args below meth c M A b L xs D Q mc ms wE w nx ls (vI (Int16.ofInt n).toInt32 :: st)) : so_J p l e R s m args below meth c M A b L xs D Q mc ms wE w pc ls st := by
  obtain ⟨hd, rfl⟩ := so_decn hf rfl (by decide : 0 < 3)
  exact so_p (fun _ _ _ _ ad _ k => lv_sipush C.1 C.2.1 hd rfl k) (fun n K h => so_sok_cons so_ok_I h) hJ
theorem so_s_lconst (C : so_C p l s m args meth c M A b L xs) {n : Fin 2} (hf : mj_fetch M pc = some (.lconst n, nx)) (hJ : so_J p l e R s m args below meth c M A b L xs D Q mc ms wE w nx ls (vL (Int64.ofNat (n : Nat)) :: st)) : so_J p l e R s m args below meth c M A b L xs D Q mc ms wE w pc ls st := by
  obtain ⟨hd, rfl⟩ := so_decn hf rfl (by decide : 0 < 1)
  exact so_p (fun _ _ _ _ ad _ k => lv_lconst C.1 C.2.1 hd rfl k) (fun n K h => so_sok_cons so_ok_L h) hJ
theorem so_s_dconst (C : so_C p l s m args meth c M A b L xs)  (hf : mj_fetch M pc = some (.dconst 0, nx)) (hJ : so_J p l e R s m args below meth c M A b L xs D Q mc ms wE w nx ls (vD FP.dconst0 :: st)) : so_J p l e R s m args below meth c M A b L xs D Q mc ms wE w pc ls st := by
  obtain ⟨hd, rfl⟩ := so_decn hf rfl (by decide : 0 < 1)
  exact so_p (fun _ _ _ _ ad _ k => lv_dconst0 C.1 C.2.1 hd k) (fun n K h => so_sok_cons so_ok_D h) hJ
theorem so_s_null (C : so_C p l s m args meth c M A b L xs)  (hf : mj_fetch M pc = some (.aconst_null, nx)) (hJ : so_J p l e R s m args below meth c M A b L xs D Q mc ms wE w nx ls (vR none :: st)) : so_J p l e R s m args below meth c M A b L xs D Q mc ms wE w pc ls st := by
  obtain ⟨hd, rfl⟩ := so_decn hf rfl (by decide : 0 < 1)
  exact so_p (fun _ _ _ _ ad _ k => lv_null C.1 C.2.1 hd k) (fun n K h => so_sok_cons so_ok_N h) hJ
theorem so_s_ldc (C : so_C p l s m args meth c M A b L xs) {i : Nat} {v : Int32} (hv : mj_ki (mj_o M) i = some v) (hf : mj_fetch M pc = some (.ldc i, nx)) (hJ : so_J p l e R s m args below meth c M A b L xs D Q mc ms wE w nx ls (vI v :: st)) : so_J p l e R s m args below meth c M A b L xs D Q mc ms wE w pc ls st := by
  obtain ⟨hd, rfl⟩ := so_decn hf rfl (by decide : 0 < 2)
  exact so_p (fun _ _ _ _ ad _ k => lv_ldc C.1 C.2.1 C.2.2.2.2.1 (C.2.2.2.2.2.1 _ (so_ki hv)) hd k) (fun n K h => so_sok_cons so_ok_I h) hJ
theorem so_s_ldcw (C : so_C p l s m args meth c M A b L xs) {i : Nat} {v : Int32} (hv : mj_ki (mj_o M) i = some v) (hf : mj_fetch M pc = some (.ldc_w i, nx)) (hJ : so_J p l e R s m args below meth c M A b L xs D Q mc ms wE w nx ls (vI v :: st)) : so_J p l e R s m args below meth c M A b L xs D Q mc ms wE w pc ls st := by
  obtain ⟨hd, rfl⟩ := so_decn hf rfl (by decide : 0 < 3)
  exact so_p (fun _ _ _ _ ad _ k => lv_ldcw C.1 C.2.1 C.2.2.2.2.1 (C.2.2.2.2.2.1 _ (so_ki hv)) hd k) (fun n K h => so_sok_cons so_ok_I h) hJ
theorem so_s_ldc2 (C : so_C p l s m args meth c M A b L xs) {i : Nat} {v : Int64} (hv : mj_k2 (mj_o M) i = some v) (hf : mj_fetch M pc = some (.ldc2_w i, nx)) (hJ : so_J p l e R s m args below meth c M A b L xs D Q mc ms wE w nx ls (vL v :: st)) : so_J p l e R s m args below meth c M A b L xs D Q mc ms wE w pc ls st := by
  obtain ⟨hd, rfl⟩ := so_decn hf rfl (by decide : 0 < 3)
  exact so_p (fun _ _ _ _ ad _ k => lv_ldc2 C.1 C.2.1 C.2.2.2.2.1 (C.2.2.2.2.2.1 _ (so_k2 hv)) hd k) (fun n K h => so_sok_cons so_ok_L h) hJ
theorem so_s_dupI (C : so_C p l s m args meth c M A b L xs) (hf : mj_fetch M pc = some (.dup, nx)) {x : Int32} {r : List MV} (hJ : so_J p l e R s m args below meth c M A b L xs D Q mc ms wE w nx ls (.inl x :: .inl x :: r)) : so_J p l e R s m args below meth c M A b L xs D Q mc ms wE w pc ls (.inl x :: r) := by
  obtain ⟨hd, rfl⟩ := so_decn hf rfl (by decide : 0 < 1)
  exact so_p (fun _ _ _ _ ad _ k => lv_dup C.1 C.2.1 hd rfl k) (fun n K h => so_sok_cons so_ok_I h) hJ
theorem so_s_dupR (C : so_C p l s m args meth c M A b L xs) (hf : mj_fetch M pc = some (.dup, nx)) {x : Option Ptr} {r : List MV} (hJ : so_J p l e R s m args below meth c M A b L xs D Q mc ms wE w nx ls (vR x :: vR x :: r)) : so_J p l e R s m args below meth c M A b L xs D Q mc ms wE w pc ls (.inr (.inr (.inr x)) :: r) := by
  obtain ⟨hd, rfl⟩ := so_decn hf rfl (by decide : 0 < 1)
  exact so_p (fun _ _ _ _ ad _ k => lv_dup C.1 C.2.1 hd (by cases x <;> rfl) k) (fun n K h => so_sok_cons (h _ List.mem_cons_self) h) hJ
theorem so_s_dup2 (C : so_C p l s m args meth c M A b L xs) (hf : mj_fetch M pc = some (.dup2, nx)) {x : Int32} {y : Option Ptr} {r : List MV} (hJ : so_J p l e R s m args below meth c M A b L xs D Q mc ms wE w nx ls (vI x :: vR y :: vI x :: vR y :: r)) : so_J p l e R s m args below meth c M A b L xs D Q mc ms wE w pc ls (.inl x :: .inr (.inr (.inr y)) :: r) := by
  obtain ⟨hd, rfl⟩ := so_decn hf rfl (by decide : 0 < 1)
  exact so_p (fun _ _ _ _ ad _ k => lv_dup2_11 C.1 C.2.1 hd rfl (by cases y <;> rfl) k) (fun n K h => so_sok_cons so_ok_I (so_sok_cons (h _ (List.mem_cons_of_mem _ List.mem_cons_self)) h)) hJ
theorem so_s_pop (C : so_C p l s m args meth c M A b L xs) (hf : mj_fetch M pc = some (.pop, nx)) {x : Int32} {r : List MV} (hJ : so_J p l e R s m args below meth c M A b L xs D Q mc ms wE w nx ls (r)) : so_J p l e R s m args below meth c M A b L xs D Q mc ms wE w pc ls (.inl x :: r) := by
  obtain ⟨hd, rfl⟩ := so_decn hf rfl (by decide : 0 < 1)
  exact so_p (fun _ _ _ _ ad _ k => lv_pop C.1 C.2.1 hd rfl k) (fun n K h => so_sok_tail h) hJ
theorem so_s_goto (C : so_C p l s m args meth c M A b L xs) {off : Int} {t : Nat} (hf : mj_fetch M pc = some (.goto off, nx)) (ht : mj_jmp pc off = some t) (hJ : so_J p l e R s m args below meth c M A b L xs D Q mc ms wE w t ls st) : so_J p l e R s m args below meth c M A b L xs D Q mc ms wE w pc ls st := by
  obtain ⟨hd, rfl⟩ := so_decn hf rfl (by decide : 0 < 3)
  exact so_p (fun _ _ _ _ ad _ k => lv_goto C.1 C.2.1 hd (so_jmp ht) k) (fun n K h => h) hJ
theorem so_s_if (C : so_C p l s m args meth c M A b L xs) {cd : ClassFile.Cond} {off : Int} {t : Nat} {x : Int32} {r : List MV} (hf : mj_fetch M pc = some (.ifCond cd off, nx)) (ht : mj_jmp pc off = some t) (hJt : mj_cnd cd x 0 = true → so_J p l e R s m args below meth c M A b L xs D Q mc ms wE w t ls r) (hJf : ¬ mj_cnd cd x 0 = true → so_J p l e R s m args below meth c M A b L xs D Q mc ms wE w nx ls r) : so_J p l e R s m args below meth c M A b L xs D Q mc ms wE w pc ls (.inl x :: r) := by
  obtain ⟨hd, rfl⟩ := so_decn hf rfl (by decide : 0 < 3)
  by_cases hc : mj_cnd cd x 0 = true
  · refine so_p (fun _ _ _ _ ad _ k => ?_) (fun n K h => so_sok_tail h) (hJt hc)
    cases cd <;> simp only [mj_cnd, decide_eq_true_eq] at hc
    · exact lv_if_eq C.1 C.2.1 hd (so_jmp ht) (fun _ => k) (fun h => absurd hc h)
    · exact lv_if_ne C.1 C.2.1 hd (so_jmp ht) (fun _ => k) (fun h => absurd h hc)
    · exact lv_if_lt C.1 C.2.1 hd (so_jmp ht) (fun _ => k) (fun h => absurd hc h)
    · exact lv_if_ge C.1 C.2.1 hd (so_jmp ht) (fun _ => k) (fun h => absurd hc h)
    · exact lv_if_gt C.1 C.2.1 hd (so_jmp ht) (fun _ => k) (fun h => absurd hc h)
    · exact lv_if_le C.1 C.2.1 hd (so_jmp ht) (fun _ => k) (fun h => absurd hc h)
  · refine so_p (fun _ _ _ _ ad _ k => ?_) (fun n K h => so_sok_tail h) (hJf hc)
    cases cd <;> simp only [mj_cnd, decide_eq_true_eq] at hc
    · exact lv_if_eq C.1 C.2.1 hd (so_jmp ht) (fun h => absurd h hc) (fun _ => k)
    · exact lv_if_ne C.1 C.2.1 hd (so_jmp ht) (fun h => absurd h hc) (fun _ => k)
    · exact lv_if_lt C.1 C.2.1 hd (so_jmp ht) (fun h => absurd h hc) (fun _ => k)
    · exact lv_if_ge C.1 C.2.1 hd (so_jmp ht) (fun h => absurd h hc) (fun _ => k)
    · exact lv_if_gt C.1 C.2.1 hd (so_jmp ht) (fun h => absurd h hc) (fun _ => k)
    · exact lv_if_le C.1 C.2.1 hd (so_jmp ht) (fun h => absurd h hc) (fun _ => k)
theorem so_s_icmp (C : so_C p l s m args meth c M A b L xs) {cd : ClassFile.Cond} {off : Int} {t : Nat} {x y : Int32} {r : List MV} (hf : mj_fetch M pc = some (.if_icmp cd off, nx)) (ht : mj_jmp pc off = some t) (hJt : mj_cnd cd x y = true → so_J p l e R s m args below meth c M A b L xs D Q mc ms wE w t ls r) (hJf : ¬ mj_cnd cd x y = true → so_J p l e R s m args below meth c M A b L xs D Q mc ms wE w nx ls r) : so_J p l e R s m args below meth c M A b L xs D Q mc ms wE w pc ls (.inl y :: .inl x :: r) := by
  obtain ⟨hd, rfl⟩ := so_decn hf rfl (by decide : 0 < 3)
  by_cases hc : mj_cnd cd x y = true
  · refine so_p (fun _ _ _ _ ad _ k => ?_) (fun n K h => so_sok_tail (so_sok_tail h)) (hJt hc)
    cases cd <;> simp only [mj_cnd, decide_eq_true_eq] at hc
    · exact lv_icmp_eq C.1 C.2.1 hd (so_jmp ht) (fun _ => k) (fun h => absurd hc h)
    · exact lv_icmp_ne C.1 C.2.1 hd (so_jmp ht) (fun _ => k) (fun h => absurd h hc)
    · exact lv_icmp_lt C.1 C.2.1 hd (so_jmp ht) (fun _ => k) (fun h => absurd hc h)
    · exact lv_icmp_ge C.1 C.2.1 hd (so_jmp ht) (fun _ => k) (fun h => absurd hc h)
    · exact lv_icmp_gt C.1 C.2.1 hd (so_jmp ht) (fun _ => k) (fun h => absurd hc h)
    · exact lv_icmp_le C.1 C.2.1 hd (so_jmp ht) (fun _ => k) (fun h => absurd hc h)
  · refine so_p (fun _ _ _ _ ad _ k => ?_) (fun n K h => so_sok_tail (so_sok_tail h)) (hJf hc)
    cases cd <;> simp only [mj_cnd, decide_eq_true_eq] at hc
    · exact lv_icmp_eq C.1 C.2.1 hd (so_jmp ht) (fun h => absurd h hc) (fun _ => k)
    · exact lv_icmp_ne C.1 C.2.1 hd (so_jmp ht) (fun h => absurd h hc) (fun _ => k)
    · exact lv_icmp_lt C.1 C.2.1 hd (so_jmp ht) (fun h => absurd h hc) (fun _ => k)
    · exact lv_icmp_ge C.1 C.2.1 hd (so_jmp ht) (fun h => absurd h hc) (fun _ => k)
    · exact lv_icmp_gt C.1 C.2.1 hd (so_jmp ht) (fun h => absurd h hc) (fun _ => k)
    · exact lv_icmp_le C.1 C.2.1 hd (so_jmp ht) (fun h => absurd h hc) (fun _ => k)
theorem so_s_ifnull (C : so_C p l s m args meth c M A b L xs) {off : Int} {t : Nat} {x : Option Ptr} {r : List MV} (hf : mj_fetch M pc = some (.ifnull off, nx)) (ht : mj_jmp pc off = some t) (hJt : x = none → so_J p l e R s m args below meth c M A b L xs D Q mc ms wE w t ls r) (hJf : ¬ x = none → so_J p l e R s m args below meth c M A b L xs D Q mc ms wE w nx ls r) : so_J p l e R s m args below meth c M A b L xs D Q mc ms wE w pc ls (.inr (.inr (.inr x)) :: r) := by
  obtain ⟨hd, rfl⟩ := so_decn hf rfl (by decide : 0 < 3)
  cases x with
  | none => exact so_p (fun _ _ _ _ ad _ k => lv_ifnullN C.1 C.2.1 hd (so_jmp ht) k) (fun n K h => so_sok_tail h) (hJt rfl)
  | some q => exact so_p (fun _ _ _ _ ad _ k => lv_ifnull C.1 C.2.1 hd k) (fun n K h => so_sok_tail h) (hJf (by simp))
theorem so_s_ifnonnull (C : so_C p l s m args meth c M A b L xs) {off : Int} {t : Nat} {x : Option Ptr} {r : List MV} (hf : mj_fetch M pc = some (.ifnonnull off, nx)) (ht : mj_jmp pc off = some t) (hJt : x = none → so_J p l e R s m args below meth c M A b L xs D Q mc ms wE w nx ls r) (hJf : ¬ x = none → so_J p l e R s m args below meth c M A b L xs D Q mc ms wE w t ls r) : so_J p l e R s m args below meth c M A b L xs D Q mc ms wE w pc ls (.inr (.inr (.inr x)) :: r) := by
  obtain ⟨hd, rfl⟩ := so_decn hf rfl (by decide : 0 < 3)
  cases x with
  | none => exact so_p (fun _ _ _ _ ad _ k => lv_ifnonnullN C.1 C.2.1 hd k) (fun n K h => so_sok_tail h) (hJt rfl)
  | some q => exact so_p (fun _ _ _ _ ad _ k => lv_ifnonnull C.1 C.2.1 hd (so_jmp ht) k) (fun n K h => so_sok_tail h) (hJf (by simp))
theorem so_s_switch (C : so_C p l s m args meth c M A b L xs) {dflt lo hi : Int} {offs : Array Int} {x : Int32} {r : List MV} {st1 : MSt} (hf : mj_fetch M pc = some (.tableswitch dflt lo hi offs, nx)) (hs : (if x.toInt < lo ∨ hi < x.toInt then (mj_jmp pc dflt).map fun t => (w, t, ls, r) else match offs[(x.toInt - lo).toNat]? with
      | some off => (mj_jmp pc off).map fun t => (w, t, ls, r)
      | none => none) = some st1) (hJ : so_J p l e R s m args below meth c M A b L xs D Q mc ms wE st1.1 st1.2.1 st1.2.2.1 st1.2.2.2) : so_J p l e R s m args below meth c M A b L xs D Q mc ms wE w pc ls (.inl x :: r) := by
  obtain ⟨n, hd, -, -⟩ := so_dec hf
  split at hs
  · rename_i h
    cases hj : mj_jmp pc dflt with
    | none => rw [hj] at hs; cases hs
    | some t =>
      rw [hj] at hs
      cases hs
      exact so_p (fun _ _ _ _ ad _ k => lv_tableOut C.1 C.2.1 hd h (so_jmp hj) k) (fun n K h => so_sok_tail h) hJ
  · rename_i h
    cases ho : offs[(x.toInt - lo).toNat]? with
    | none => rw [ho] at hs; cases hs
    | some off =>
      rw [ho] at hs
      cases hj : mj_jmp pc off with
      | none => simp only [hj] at hs; cases hs
      | some t =>
        simp only [hj] at hs
        cases hs
        exact so_p (fun _ _ _ _ ad _ k => lv_tableIn C.1 C.2.1 hd (fun q => h (Or.inl q)) (fun q => h (Or.inr q)) ho (so_jmp hj) k) (fun n K h => so_sok_tail h) hJ
theorem so_s_iload (C : so_C p l s m args meth c M A b L xs) {i : Nat} {x : Int32} (hf : mj_fetch M pc = some (.iload i, nx)) (hk : mj_gl ls i = some (.inl x)) (hJ : so_J p l e R s m args below meth c M A b L xs D Q mc ms wE w nx ls (vI x :: st)) : so_J p l e R s m args below meth c M A b L xs D Q mc ms wE w pc ls st := by
  obtain ⟨hd, rfl⟩ := so_decn hf rfl (by decide : 0 < 2)
  intro H locs cells slots tys ad cA G K lsA hR hX hK hS hl hn hlo hst hc hs
  have k := hJ H locs cells slots tys ad cA G K lsA hR hX hK hS hl hn hlo (so_sok_cons (hlo _ _ hk) hst) hc hs
  have hat := so_at hl hk
  exact lv_iload C.1 C.2.1 hd hat k
theorem so_s_iload_n (C : so_C p l s m args meth c M A b L xs) {i : Fin 4} {x : Int32} (hf : mj_fetch M pc = some (.iload_n i, nx)) (hk : mj_gl ls (i : Nat) = some (.inl x)) (hJ : so_J p l e R s m args below meth c M A b L xs D Q mc ms wE w nx ls (vI x :: st)) : so_J p l e R s m args below meth c M A b L xs D Q mc ms wE w pc ls st := by
  obtain ⟨hd, rfl⟩ := so_decn hf rfl (by decide : 0 < 1)
  intro H locs cells slots tys ad cA G K lsA hR hX hK hS hl hn hlo hst hc hs
  have k := hJ H locs cells slots tys ad cA G K lsA hR hX hK hS hl hn hlo (so_sok_cons (hlo _ _ hk) hst) hc hs
  have hat := so_at hl hk
  exact lv_iload_n C.1 C.2.1 hd rfl hat k
theorem so_s_lload (C : so_C p l s m args meth c M A b L xs) {i : Nat} {x : Int64} (hf : mj_fetch M pc = some (.lload i, nx)) (hk : mj_gl ls i = some (.inr (.inl x))) (hJ : so_J p l e R s m args below meth c M A b L xs D Q mc ms wE w nx ls (vL x :: st)) : so_J p l e R s m args below meth c M A b L xs D Q mc ms wE w pc ls st := by
  obtain ⟨hd, rfl⟩ := so_decn hf rfl (by decide : 0 < 2)
  intro H locs cells slots tys ad cA G K lsA hR hX hK hS hl hn hlo hst hc hs
  have k := hJ H locs cells slots tys ad cA G K lsA hR hX hK hS hl hn hlo (so_sok_cons (hlo _ _ hk) hst) hc hs
  have hat := so_at hl hk
  exact lv_lload C.1 C.2.1 hd hat k
theorem so_s_lload_n (C : so_C p l s m args meth c M A b L xs) {i : Fin 4} {x : Int64} (hf : mj_fetch M pc = some (.lload_n i, nx)) (hk : mj_gl ls (i : Nat) = some (.inr (.inl x))) (hJ : so_J p l e R s m args below meth c M A b L xs D Q mc ms wE w nx ls (vL x :: st)) : so_J p l e R s m args below meth c M A b L xs D Q mc ms wE w pc ls st := by
  obtain ⟨hd, rfl⟩ := so_decn hf rfl (by decide : 0 < 1)
  intro H locs cells slots tys ad cA G K lsA hR hX hK hS hl hn hlo hst hc hs
  have k := hJ H locs cells slots tys ad cA G K lsA hR hX hK hS hl hn hlo (so_sok_cons (hlo _ _ hk) hst) hc hs
  have hat := so_at hl hk
  exact lv_lload_n C.1 C.2.1 hd rfl hat k
theorem so_s_dload (C : so_C p l s m args meth c M A b L xs) {i : Nat} {x : UInt64} (hf : mj_fetch M pc = some (.dload i, nx)) (hk : mj_gl ls i = some (.inr (.inr (.inl x)))) (hJ : so_J p l e R s m args below meth c M A b L xs D Q mc ms wE w nx ls (vD x :: st)) : so_J p l e R s m args below meth c M A b L xs D Q mc ms wE w pc ls st := by
  obtain ⟨hd, rfl⟩ := so_decn hf rfl (by decide : 0 < 2)
  intro H locs cells slots tys ad cA G K lsA hR hX hK hS hl hn hlo hst hc hs
  have k := hJ H locs cells slots tys ad cA G K lsA hR hX hK hS hl hn hlo (so_sok_cons (hlo _ _ hk) hst) hc hs
  have hat := so_at hl hk
  exact lv_dload C.1 C.2.1 hd hat k
theorem so_s_aload (C : so_C p l s m args meth c M A b L xs) {i : Nat} {x : Option Ptr} (hf : mj_fetch M pc = some (.aload i, nx)) (hk : mj_gl ls i = some (.inr (.inr (.inr x)))) (hJ : so_J p l e R s m args below meth c M A b L xs D Q mc ms wE w nx ls (vR x :: st)) : so_J p l e R s m args below meth c M A b L xs D Q mc ms wE w pc ls st := by
  obtain ⟨hd, rfl⟩ := so_decn hf rfl (by decide : 0 < 2)
  intro H locs cells slots tys ad cA G K lsA hR hX hK hS hl hn hlo hst hc hs
  have k := hJ H locs cells slots tys ad cA G K lsA hR hX hK hS hl hn hlo (so_sok_cons (hlo _ _ hk) hst) hc hs
  have hat := so_at hl hk
  cases x with
  | none => exact lv_aloadN C.1 C.2.1 hd hat k
  | some q => exact lv_aload C.1 C.2.1 hd hat k
theorem so_s_aload_n (C : so_C p l s m args meth c M A b L xs) {i : Fin 4} {x : Option Ptr} (hf : mj_fetch M pc = some (.aload_n i, nx)) (hk : mj_gl ls (i : Nat) = some (.inr (.inr (.inr x)))) (hJ : so_J p l e R s m args below meth c M A b L xs D Q mc ms wE w nx ls (vR x :: st)) : so_J p l e R s m args below meth c M A b L xs D Q mc ms wE w pc ls st := by
  obtain ⟨hd, rfl⟩ := so_decn hf rfl (by decide : 0 < 1)
  intro H locs cells slots tys ad cA G K lsA hR hX hK hS hl hn hlo hst hc hs
  have k := hJ H locs cells slots tys ad cA G K lsA hR hX hK hS hl hn hlo (so_sok_cons (hlo _ _ hk) hst) hc hs
  have hat := so_at hl hk
  cases x with
  | none => exact lv_aload_nN C.1 C.2.1 hd rfl hat k
  | some q => exact lv_aload_n C.1 C.2.1 hd rfl hat k
theorem so_s_istore (C : so_C p l s m args meth c M A b L xs) {i : Nat} {x : Int32} {l1 : List (Option MV)} {r : List MV} (hf : mj_fetch M pc = some (.istore i, nx)) (hk : mj_s1 ls i (vI x) = some l1) (hJ : so_J p l e R s m args below meth c M A b L xs D Q mc ms wE w nx l1 r) : so_J p l e R s m args below meth c M A b L xs D Q mc ms wE w pc ls (vI x :: r) := by
  obtain ⟨hd, rfl⟩ := so_decn hf rfl (by decide : 0 < 2)
  intro H locs cells slots tys ad cA G K lsA hR hX hK hS hl hn hlo hst hc hs
  obtain ⟨h1, h2, h3⟩ := so_st1 (ad := ad) hk
  have hl1 := so_lok_s1 hk hlo (hst _ List.mem_cons_self)
  rw [hn] at h1 h2
  exact lv_istore C.1 C.2.1 hd hl h1 rfl (fun lsB hB => hJ H locs cells slots tys ad cA G K lsB hR hX hK hS (so_has_mono hB h3) h2 hl1 (so_sok_tail hst) hc hs)
theorem so_s_istore_n (C : so_C p l s m args meth c M A b L xs) {i : Fin 4} {x : Int32} {l1 : List (Option MV)} {r : List MV} (hf : mj_fetch M pc = some (.istore_n i, nx)) (hk : mj_s1 ls (i : Nat) (vI x) = some l1) (hJ : so_J p l e R s m args below meth c M A b L xs D Q mc ms wE w nx l1 r) : so_J p l e R s m args below meth c M A b L xs D Q mc ms wE w pc ls (vI x :: r) := by
  obtain ⟨hd, rfl⟩ := so_decn hf rfl (by decide : 0 < 1)
  intro H locs cells slots tys ad cA G K lsA hR hX hK hS hl hn hlo hst hc hs
  obtain ⟨h1, h2, h3⟩ := so_st1 (ad := ad) hk
  have hl1 := so_lok_s1 hk hlo (hst _ List.mem_cons_self)
  rw [hn] at h1 h2
  exact lv_istore_n C.1 C.2.1 hd rfl hl h1 rfl (fun lsB hB => hJ H locs cells slots tys ad cA G K lsB hR hX hK hS (so_has_mono hB h3) h2 hl1 (so_sok_tail hst) hc hs)
theorem so_s_lstore (C : so_C p l s m args meth c M A b L xs) {i : Nat} {x : Int64} {l1 : List (Option MV)} {r : List MV} (hf : mj_fetch M pc = some (.lstore i, nx)) (hk : mj_s2 ls i (vL x) = some l1) (hJ : so_J p l e R s m args below meth c M A b L xs D Q mc ms wE w nx l1 r) : so_J p l e R s m args below meth c M A b L xs D Q mc ms wE w pc ls (vL x :: r) := by
  obtain ⟨hd, rfl⟩ := so_decn hf rfl (by decide : 0 < 2)
  intro H locs cells slots tys ad cA G K lsA hR hX hK hS hl hn hlo hst hc hs
  obtain ⟨h1, h2, h3⟩ := so_st2 (ad := ad) hk
  have hl1 := so_lok_s2 hk hlo (hst _ List.mem_cons_self)
  rw [hn] at h1 h2
  exact lv_lstore C.1 C.2.1 hd hl h1 rfl (fun lsB hB => hJ H locs cells slots tys ad cA G K lsB hR hX hK hS (so_has_mono hB h3) h2 hl1 (so_sok_tail hst) hc hs)
theorem so_s_lstore_n (C : so_C p l s m args meth c M A b L xs) {i : Fin 4} {x : Int64} {l1 : List (Option MV)} {r : List MV} (hf : mj_fetch M pc = some (.lstore_n i, nx)) (hk : mj_s2 ls (i : Nat) (vL x) = some l1) (hJ : so_J p l e R s m args below meth c M A b L xs D Q mc ms wE w nx l1 r) : so_J p l e R s m args below meth c M A b L xs D Q mc ms wE w pc ls (vL x :: r) := by
  obtain ⟨hd, rfl⟩ := so_decn hf rfl (by decide : 0 < 1)
  intro H locs cells slots tys ad cA G K lsA hR hX hK hS hl hn hlo hst hc hs
  obtain ⟨h1, h2, h3⟩ := so_st2 (ad := ad) hk
  have hl1 := so_lok_s2 hk hlo (hst _ List.mem_cons_self)
  rw [hn] at h1 h2
  exact lv_lstore_n C.1 C.2.1 hd rfl hl h1 rfl (fun lsB hB => hJ H locs cells slots tys ad cA G K lsB hR hX hK hS (so_has_mono hB h3) h2 hl1 (so_sok_tail hst) hc hs)
theorem so_s_dstore (C : so_C p l s m args meth c M A b L xs) {i : Nat} {x : UInt64} {l1 : List (Option MV)} {r : List MV} (hf : mj_fetch M pc = some (.dstore i, nx)) (hk : mj_s2 ls i (vD x) = some l1) (hJ : so_J p l e R s m args below meth c M A b L xs D Q mc ms wE w nx l1 r) : so_J p l e R s m args below meth c M A b L xs D Q mc ms wE w pc ls (vD x :: r) := by
  obtain ⟨hd, rfl⟩ := so_decn hf rfl (by decide : 0 < 2)
  intro H locs cells slots tys ad cA G K lsA hR hX hK hS hl hn hlo hst hc hs
  obtain ⟨h1, h2, h3⟩ := so_st2 (ad := ad) hk
  have hl1 := so_lok_s2 hk hlo (hst _ List.mem_cons_self)
  rw [hn] at h1 h2
  exact lv_dstore C.1 C.2.1 hd hl h1 rfl (fun lsB hB => hJ H locs cells slots tys ad cA G K lsB hR hX hK hS (so_has_mono hB h3) h2 hl1 (so_sok_tail hst) hc hs)
theorem so_s_astore (C : so_C p l s m args meth c M A b L xs) {i : Nat} {x : Option Ptr} {l1 : List (Option MV)} {r : List MV} (hf : mj_fetch M pc = some (.astore i, nx)) (hk : mj_s1 ls i (vR x) = some l1) (hJ : so_J p l e R s m args below meth c M A b L xs D Q mc ms wE w nx l1 r) : so_J p l e R s m args below meth c M A b L xs D Q mc ms wE w pc ls (vR x :: r) := by
  obtain ⟨hd, rfl⟩ := so_decn hf rfl (by decide : 0 < 2)
  intro H locs cells slots tys ad cA G K lsA hR hX hK hS hl hn hlo hst hc hs
  obtain ⟨h1, h2, h3⟩ := so_st1 (ad := ad) hk
  have hl1 := so_lok_s1 hk hlo (hst _ List.mem_cons_self)
  rw [hn] at h1 h2
  cases x with
  | none => exact lv_astoreN C.1 C.2.1 hd hl h1 rfl (fun lsB hB => hJ H locs cells slots tys ad cA G K lsB hR hX hK hS (so_has_mono hB h3) h2 hl1 (so_sok_tail hst) hc hs)
  | some q => exact lv_astore C.1 C.2.1 hd hl h1 rfl (fun lsB hB => hJ H locs cells slots tys ad cA G K lsB hR hX hK hS (so_has_mono hB h3) h2 hl1 (so_sok_tail hst) hc hs)
theorem so_s_astore_n (C : so_C p l s m args meth c M A b L xs) {i : Fin 4} {x : Option Ptr} {l1 : List (Option MV)} {r : List MV} (hf : mj_fetch M pc = some (.astore_n i, nx)) (hk : mj_s1 ls (i : Nat) (vR x) = some l1) (hJ : so_J p l e R s m args below meth c M A b L xs D Q mc ms wE w nx l1 r) : so_J p l e R s m args below meth c M A b L xs D Q mc ms wE w pc ls (vR x :: r) := by
  obtain ⟨hd, rfl⟩ := so_decn hf rfl (by decide : 0 < 1)
  intro H locs cells slots tys ad cA G K lsA hR hX hK hS hl hn hlo hst hc hs
  obtain ⟨h1, h2, h3⟩ := so_st1 (ad := ad) hk
  have hl1 := so_lok_s1 hk hlo (hst _ List.mem_cons_self)
  rw [hn] at h1 h2
  cases x with
  | none => exact lv_astore_nN C.1 C.2.1 hd rfl hl h1 rfl (fun lsB hB => hJ H locs cells slots tys ad cA G K lsB hR hX hK hS (so_has_mono hB h3) h2 hl1 (so_sok_tail hst) hc hs)
  | some q => exact lv_astore_n C.1 C.2.1 hd rfl hl h1 rfl (fun lsB hB => hJ H locs cells slots tys ad cA G K lsB hR hX hK hS (so_has_mono hB h3) h2 hl1 (so_sok_tail hst) hc hs)
theorem so_s_iinc (C : so_C p l s m args meth c M A b L xs) {i : Nat} {n : Int} {x : Int32} {l1 : List (Option MV)} (hf : mj_fetch M pc = some (.iinc i n, nx)) (hx : mj_gl ls i = some (.inl x)) (hk : mj_s1 ls i (vI (x + Int32.ofInt n)) = some l1) (hJ : so_J p l e R s m args below meth c M A b L xs D Q mc ms wE w nx l1 st) : so_J p l e R s m args below meth c M A b L xs D Q mc ms wE w pc ls st := by
  obtain ⟨hd, rfl⟩ := so_decn hf rfl (by decide : 0 < 3)
  intro H locs cells slots tys ad cA G K lsA hR hX hK hS hl hn hlo hst hc hs
  obtain ⟨h1, h2, h3⟩ := so_st1 (ad := ad) hk
  have hl1 := so_lok_s1 hk hlo so_ok_I
  rw [hn] at h1 h2
  obtain ⟨k, hk9⟩ := List.mem_iff_getElem?.mp ((so_ls_mem (ad := ad) ls 0 (0 + i, so_v ad (.inl x))).mpr ⟨i, _, hx, rfl⟩)
  rw [Nat.zero_add] at hk9
  exact lv_iinc (k := k) C.1 C.2.1 hd hl hk9 rfl h1 rfl (fun lsB hB => hJ H locs cells slots tys ad cA G K lsB hR hX hK hS (so_has_mono hB h3) h2 hl1 hst hc hs)
end SO
