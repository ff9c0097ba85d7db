/-! A small machine over typed stores. -/
abbrev Ptr : Type := Nat × Nat × Nat
abbrev MV : Type := Int32 ⊕ (Int64 ⊕ (UInt64 ⊕ Option Ptr))
abbrev MWd : Type := (Nat × Nat × Nat) × ((Nat → Nat → Int32) × (Nat → Nat → Option Ptr)) × ((Nat → Nat → Int32) × (Nat → Nat → Int64) × (Nat → Nat → Option Ptr))
abbrev vI (x : Int32) : MV := Sum.inl x
abbrev vL (x : Int64) : MV := Sum.inr (Sum.inl x)
abbrev vD (x : UInt64) : MV := Sum.inr (Sum.inr (Sum.inl x))
abbrev vR (x : Option Ptr) : MV := Sum.inr (Sum.inr (Sum.inr x))
abbrev vP (x : Ptr) : MV := Sum.inr (Sum.inr (Sum.inr (some x)))
def wN (w : MWd) : Nat := w.1.1
def wC (w : MWd) : Nat := w.1.2.1
def wS (w : MWd) : Nat := w.1.2.2
def wFI (w : MWd) : Nat → Nat → Int32 := w.2.1.1
def wFR (w : MWd) : Nat → Nat → Option Ptr := w.2.1.2
def wAI (w : MWd) : Nat → Nat → Int32 := w.2.2.1
def wAJ (w : MWd) : Nat → Nat → Int64 := w.2.2.2.1
def wAR (w : MWd) : Nat → Nat → Option Ptr := w.2.2.2.2
def u2 {α : Type} (f : Nat → Nat → α) (a b : Nat) (v : α) : Nat → Nat → α := fun x y => if x = a ∧ y = b then v else f x y
def sFI (w : MWd) (k a : Nat) (v : Int32) : MWd := (w.1, (u2 (wFI w) k a v, wFR w), w.2.2)
def sFR (w : MWd) (k a : Nat) (v : Option Ptr) : MWd := (w.1, (wFI w, u2 (wFR w) k a v), w.2.2)
def sAI (w : MWd) (a j : Nat) (v : Int32) : MWd := (w.1, w.2.1, (u2 (wAI w) a j v, wAJ w, wAR w))
def sAJ (w : MWd) (a j : Nat) (v : Int64) : MWd := (w.1, w.2.1, (wAI w, u2 (wAJ w) a j v, wAR w))
def sAR (w : MWd) (a j : Nat) (v : Option Ptr) : MWd := (w.1, w.2.1, (wAI w, wAJ w, u2 (wAR w) a j v))
/-- a new object of N fields -/
def nwO (w : MWd) (N : Nat) : MWd := ((wN w + 1, wC w + 1, wS w + N), (fun k a => if a = wN w then 0 else wFI w k a, fun k a => if a = wN w then none else wFR w k a), w.2.2)
/-- a new row of n -/
def nwA (w : MWd) (n : Nat) : MWd := ((wN w + 1, wC w + 1, wS w + n), w.2.1, (fun a j => if a = wN w then 0 else wAI w a j, fun a j => if a = wN w then 0 else wAJ w a j, fun a j => if a = wN w then none else wAR w a j))
/-- new int[n][k] -/
def nwM (w : MWd) (n k : Nat) : MWd := ((wN w + 1 + n, wC w + 1 + n, wS w + n + n * k), w.2.1, (fun a j => if wN w ≤ a ∧ a < wN w + 1 + n then 0 else wAI w a j, wAJ w, fun a j => if a = wN w then (if j < n then some (20, k, wN w + 1 + j) else none) else wAR w a j))
def cpI (w : MWd) (src sp dst dp n : Nat) : MWd := (w.1, w.2.1, (fun a j => if a = dst ∧ dp ≤ j ∧ j < dp + n then wAI w src (sp + (j - dp)) else wAI w a j, wAJ w, wAR w))
def cpJ (w : MWd) (src sp dst dp n : Nat) : MWd := (w.1, w.2.1, (wAI w, fun a j => if a = dst ∧ dp ≤ j ∧ j < dp + n then wAJ w src (sp + (j - dp)) else wAJ w a j, wAR w))
/-- the length of an instruction, 0 where the fetch gives none -/
def mj_len : Instr → Nat
  | .bipush _ | .aload _ | .iload _ | .lload _ | .dload _ | .istore _ | .astore _ | .lstore _ | .dstore _ | .ldc _ | .newarray _ => 2
  | .sipush _ | .getfield _ | .putfield _ | .goto _ | .if_icmp _ _ | .ifCond _ _ | .iinc _ _ | .ifnull _ | .ifnonnull _ | .invokespecial _ | .invokestatic _ | .invokevirtual _ | .new _ | .anewarray _ | .ldc2_w _ | .ldc_w _ => 3
  | .multianewarray _ _ => 4
  | .tableswitch .. => 0
  | _ => 1
def mj_fetch (M pc : Nat) : Option (Instr × Nat) := match decode (mj_c M) pc with
  | .ok (i, n) => if n = mj_len i ∨ mj_len i = 0 then some (i, pc + n) else none
  | .error _ => none
def mj_jmp (pc : Nat) (off : Int) : Option Nat := match (pc : Int) + off with
  | .ofNat t => some t
  | .negSucc _ => none
/-- an exception is made -/
def mj_tick (w : MWd) : MWd := ((wN w, wC w + 1, wS w + 6), w.2)
/-- what a store holds behind a change -/
theorem wrd : (∀ (w : MWd) (k a : Nat) (v : Int32), wN (sFI w k a v) = wN w) ∧
  (∀ (w : MWd) (k a : Nat) (v : Int32), wC (sFI w k a v) = wC w) ∧
  (∀ (w : MWd) (k a : Nat) (v : Int32), wS (sFI w k a v) = wS w) ∧
  (∀ (w : MWd) (k a : Nat) (v : Int32), wFI (sFI w k a v) = u2 (wFI w) k a v) ∧
  (∀ (w : MWd) (k a : Nat) (v : Int32), wFR (sFI w k a v) = wFR w) ∧
  (∀ (w : MWd) (k a : Nat) (v : Int32), wAI (sFI w k a v) = wAI w) ∧
  (∀ (w : MWd) (k a : Nat) (v : Int32), wAJ (sFI w k a v) = wAJ w) ∧
  (∀ (w : MWd) (k a : Nat) (v : Int32), wAR (sFI w k a v) = wAR w) ∧
  (∀ (w : MWd) (k a : Nat) (v : Option Ptr), wN (sFR w k a v) = wN w) ∧
  (∀ (w : MWd) (k a : Nat) (v : Option Ptr), wC (sFR w k a v) = wC w) ∧
  (∀ (w : MWd) (k a : Nat) (v : Option Ptr), wS (sFR w k a v) = wS w) ∧
  (∀ (w : MWd) (k a : Nat) (v : Option Ptr), wFI (sFR w k a v) = wFI w) ∧
  (∀ (w : MWd) (k a : Nat) (v : Option Ptr), wFR (sFR w k a v) = u2 (wFR w) k a v) ∧
  (∀ (w : MWd) (k a : Nat) (v : Option Ptr), wAI (sFR w k a v) = wAI w) ∧
  (∀ (w : MWd) (k a : Nat) (v : Option Ptr), wAJ (sFR w k a v) = wAJ w) ∧
  (∀ (w : MWd) (k a : Nat) (v : Option Ptr), wAR (sFR w k a v) = wAR w) ∧
  (∀ (w : MWd) (k a : Nat) (v : Int32), wN (sAI w k a v) = wN w) ∧
  (∀ (w : MWd) (k a : Nat) (v : Int32), wC (sAI w k a v) = wC w) ∧
  (∀ (w : MWd) (k a : Nat) (v : Int32), wS (sAI w k a v) = wS w) ∧
  (∀ (w : MWd) (k a : Nat) (v : Int32), wFI (sAI w k a v) = wFI w) ∧
  (∀ (w : MWd) (k a : Nat) (v : Int32), wFR (sAI w k a v) = wFR w) ∧
  (∀ (w : MWd) (k a : Nat) (v : Int32), wAI (sAI w k a v) = u2 (wAI w) k a v) ∧
  (∀ (w : MWd) (k a : Nat) (v : Int32), wAJ (sAI w k a v) = wAJ w) ∧
  (∀ (w : MWd) (k a : Nat) (v : Int32), wAR (sAI w k a v) = wAR w) ∧
  (∀ (w : MWd) (k a : Nat) (v : Int64), wN (sAJ w k a v) = wN w) ∧
  (∀ (w : MWd) (k a : Nat) (v : Int64), wC (sAJ w k a v) = wC w) ∧
  (∀ (w : MWd) (k a : Nat) (v : Int64), wS (sAJ w k a v) = wS w) ∧
  (∀ (w : MWd) (k a : Nat) (v : Int64), wFI (sAJ w k a v) = wFI w) ∧
  (∀ (w : MWd) (k a : Nat) (v : Int64), wFR (sAJ w k a v) = wFR w) ∧
  (∀ (w : MWd) (k a : Nat) (v : Int64), wAI (sAJ w k a v) = wAI w) ∧
  (∀ (w : MWd) (k a : Nat) (v : Int64), wAJ (sAJ w k a v) = u2 (wAJ w) k a v) ∧
  (∀ (w : MWd) (k a : Nat) (v : Int64), wAR (sAJ w k a v) = wAR w) ∧
  (∀ (w : MWd) (k a : Nat) (v : Option Ptr), wN (sAR w k a v) = wN w) ∧
  (∀ (w : MWd) (k a : Nat) (v : Option Ptr), wC (sAR w k a v) = wC w) ∧
  (∀ (w : MWd) (k a : Nat) (v : Option Ptr), wS (sAR w k a v) = wS w) ∧
  (∀ (w : MWd) (k a : Nat) (v : Option Ptr), wFI (sAR w k a v) = wFI w) ∧
  (∀ (w : MWd) (k a : Nat) (v : Option Ptr), wFR (sAR w k a v) = wFR w) ∧
  (∀ (w : MWd) (k a : Nat) (v : Option Ptr), wAI (sAR w k a v) = wAI w) ∧
  (∀ (w : MWd) (k a : Nat) (v : Option Ptr), wAJ (sAR w k a v) = wAJ w) ∧
  (∀ (w : MWd) (k a : Nat) (v : Option Ptr), wAR (sAR w k a v) = u2 (wAR w) k a v) ∧
  (∀ (w : MWd) (a b c d n : Nat), wN (cpI w a b c d n) = wN w) ∧
  (∀ (w : MWd) (a b c d n : Nat), wC (cpI w a b c d n) = wC w) ∧
  (∀ (w : MWd) (a b c d n : Nat), wS (cpI w a b c d n) = wS w) ∧
  (∀ (w : MWd) (a b c d n : Nat), wFI (cpI w a b c d n) = wFI w) ∧
  (∀ (w : MWd) (a b c d n : Nat), wFR (cpI w a b c d n) = wFR w) ∧
  (∀ (w : MWd) (a b c d n : Nat), wAI (cpI w a b c d n) = fun x j => if x = c ∧ d ≤ j ∧ j < d + n then wAI w a (b + (j - d)) else wAI w x j) ∧
  (∀ (w : MWd) (a b c d n : Nat), wAJ (cpI w a b c d n) = wAJ w) ∧
  (∀ (w : MWd) (a b c d n : Nat), wAR (cpI w a b c d n) = wAR w) ∧
  (∀ (w : MWd) (a b c d n : Nat), wN (cpJ w a b c d n) = wN w) ∧
  (∀ (w : MWd) (a b c d n : Nat), wC (cpJ w a b c d n) = wC w) ∧
  (∀ (w : MWd) (a b c d n : Nat), wS (cpJ w a b c d n) = wS w) ∧
  (∀ (w : MWd) (a b c d n : Nat), wFI (cpJ w a b c d n) = wFI w) ∧
  (∀ (w : MWd) (a b c d n : Nat), wFR (cpJ w a b c d n) = wFR w) ∧
  (∀ (w : MWd) (a b c d n : Nat), wAI (cpJ w a b c d n) = wAI w) ∧
  (∀ (w : MWd) (a b c d n : Nat), wAJ (cpJ w a b c d n) = fun x j => if x = c ∧ d ≤ j ∧ j < d + n then wAJ w a (b + (j - d)) else wAJ w x j) ∧
  (∀ (w : MWd) (a b c d n : Nat), wAR (cpJ w a b c d n) = wAR w) ∧
  (∀ (w : MWd) (n : Nat), wN (nwO w n) = wN w + 1) ∧
  (∀ (w : MWd) (n : Nat), wC (nwO w n) = wC w + 1) ∧
  (∀ (w : MWd) (n : Nat), wS (nwO w n) = wS w + n) ∧
  (∀ (w : MWd) (n : Nat), wFI (nwO w n) = fun k a => if a = wN w then 0 else wFI w k a) ∧
  (∀ (w : MWd) (n : Nat), wFR (nwO w n) = fun k a => if a = wN w then none else wFR w k a) ∧
  (∀ (w : MWd) (n : Nat), wAI (nwO w n) = wAI w) ∧
  (∀ (w : MWd) (n : Nat), wAJ (nwO w n) = wAJ w) ∧
  (∀ (w : MWd) (n : Nat), wAR (nwO w n) = wAR w) ∧
  (∀ (w : MWd) (n : Nat), wN (nwA w n) = wN w + 1) ∧
  (∀ (w : MWd) (n : Nat), wC (nwA w n) = wC w + 1) ∧
  (∀ (w : MWd) (n : Nat), wS (nwA w n) = wS w + n) ∧
  (∀ (w : MWd) (n : Nat), wFI (nwA w n) = wFI w) ∧
  (∀ (w : MWd) (n : Nat), wFR (nwA w n) = wFR w) ∧
  (∀ (w : MWd) (n : Nat), wAI (nwA w n) = fun k a => if k = wN w then 0 else wAI w k a) ∧
  (∀ (w : MWd) (n : Nat), wAJ (nwA w n) = fun k a => if k = wN w then 0 else wAJ w k a) ∧
  (∀ (w : MWd) (n : Nat), wAR (nwA w n) = fun k a => if k = wN w then none else wAR w k a) ∧
  (∀ (w : MWd) , wN (mj_tick w) = wN w) ∧
  (∀ (w : MWd) , wC (mj_tick w) = wC w + 1) ∧
  (∀ (w : MWd) , wS (mj_tick w) = wS w + 6) ∧
  (∀ (w : MWd) , wFI (mj_tick w) = wFI w) ∧
  (∀ (w : MWd) , wFR (mj_tick w) = wFR w) ∧
  (∀ (w : MWd) , wAI (mj_tick w) = wAI w) ∧
  (∀ (w : MWd) , wAJ (mj_tick w) = wAJ w) ∧
  (∀ (w : MWd) , wAR (mj_tick w) = wAR w) := by
  refine ⟨?_, ?_, ?_, ?_, ?_, ?_, ?_, ?_, ?_, ?_, ?_, ?_, ?_, ?_, ?_, ?_, ?_, ?_, ?_, ?_, ?_, ?_, ?_, ?_, ?_, ?_, ?_, ?_, ?_, ?_, ?_, ?_, ?_, ?_, ?_, ?_, ?_, ?_, ?_, ?_, ?_, ?_, ?_, ?_, ?_, ?_, ?_, ?_, ?_, ?_, ?_, ?_, ?_, ?_, ?_, ?_, ?_, ?_, ?_, ?_, ?_, ?_, ?_, ?_, ?_, ?_, ?_, ?_, ?_, ?_, ?_, ?_, ?_, ?_, ?_, ?_, ?_, ?_, ?_, ?_⟩ <;> intros <;> rfl
def mj_gl : List (Option MV) → Nat → Option MV
  | [], _ => none
  | x :: _, 0 => x
  | _ :: r, n + 1 => mj_gl r n
def mj_sl : List (Option MV) → Nat → Option MV → List (Option MV)
  | [], _, _ => []
  | _ :: r, 0, v => v :: r
  | x :: r, n + 1, v => x :: mj_sl r n v
def mj_cat : MV → Nat
  | .inr (.inl _) => 2
  | .inr (.inr (.inl _)) => 2
  | _ => 1
def mj_is2 : Option MV → Bool
  | some (.inr (.inl _)) => true
  | some (.inr (.inr (.inl _))) => true
  | _ => false
def mj_pv (ls : List (Option MV)) : Nat → Bool
  | 0 => true
  | j + 1 => !(mj_is2 (mj_gl ls j))
def mj_s1 (ls : List (Option MV)) (i : Nat) (v : MV) : Option (List (Option MV)) := if i < ls.length ∧ mj_pv ls i = true then some (mj_sl ls i (some v)) else none
def mj_s2 (ls : List (Option MV)) (i : Nat) (v : MV) : Option (List (Option MV)) := if i + 1 < ls.length ∧ mj_pv ls i = true then some (mj_sl (mj_sl ls i (some v)) (i + 1) none) else none
def mj_cnd (c : ClassFile.Cond) (x y : Int32) : Bool := match c with
  | .eq => decide (x = y)
  | .ne => decide (¬ x = y)
  | .lt => decide (x < y)
  | .ge => decide (y ≤ x)
  | .gt => decide (y < x)
  | .le => decide (x ≤ y)
abbrev mj_in (i : Int32) (n : Nat) : Prop := ¬ (i < 0 ∨ n ≤ i.toNatClampNeg)
def mj_fk (ci k : Nat) : Nat := 64 * ci + k
abbrev MSt : Type := MWd × Nat × List (Option MV) × List MV
def mj_step (M : Nat) (i : Instr) (pc nx : Nat) (w : MWd) (ls : List (Option MV)) (st : List MV) : Option MSt :=
  match i with
  | .aconst_null => some (w, nx, ls, vR none :: st)
  | .iconst n => some (w, nx, ls, vI (Int32.ofInt n) :: st)
  | .bipush n => some (w, nx, ls, vI (Int8.ofInt n).toInt32 :: st)
  | .sipush n => some (w, nx, ls, vI (Int16.ofInt n).toInt32 :: st)
  | .lconst n => some (w, nx, ls, vL (Int64.ofNat (n : Nat)) :: st)
  | .dconst n => if n = 0 then some (w, nx, ls, vD FP.dconst0 :: st) else none
  | .ldc k => match mj_ki (mj_o M) k with
    | some v => some (w, nx, ls, vI v :: st)
    | none => none
  | .ldc_w k => match mj_ki (mj_o M) k with
    | some v => some (w, nx, ls, vI v :: st)
    | none => none
  | .ldc2_w k => match mj_k2 (mj_o M) k with
    | some v => some (w, nx, ls, vL v :: st)
    | none => none
  | .iload k => match mj_gl ls k with
    | some (.inl x) => some (w, nx, ls, vI x :: st)
    | _ => none
  | .iload_n k => match mj_gl ls (k : Nat) with
    | some (.inl x) => some (w, nx, ls, vI x :: st)
    | _ => none
  | .lload k => match mj_gl ls k with
    | some (.inr (.inl x)) => some (w, nx, ls, vL x :: st)
    | _ => none
  | .lload_n k => match mj_gl ls (k : Nat) with
    | some (.inr (.inl x)) => some (w, nx, ls, vL x :: st)
    | _ => none
  | .dload k => match mj_gl ls k with
    | some (.inr (.inr (.inl x))) => some (w, nx, ls, vD x :: st)
    | _ => none
  | .aload k => match mj_gl ls k with
    | some (.inr (.inr (.inr x))) => some (w, nx, ls, vR x :: st)
    | _ => none
  | .aload_n k => match mj_gl ls (k : Nat) with
    | some (.inr (.inr (.inr x))) => some (w, nx, ls, vR x :: st)
    | _ => none
  | .istore k => match st with
    | .inl x :: r => (mj_s1 ls k (vI x)).map fun l => (w, nx, l, r)
    | _ => none
  | .istore_n k => match st with
    | .inl x :: r => (mj_s1 ls (k : Nat) (vI x)).map fun l => (w, nx, l, r)
    | _ => none
  | .astore k => match st with
    | .inr (.inr (.inr x)) :: r => (mj_s1 ls k (vR x)).map fun l => (w, nx, l, r)
    | _ => none
  | .astore_n k => match st with
    | .inr (.inr (.inr x)) :: r => (mj_s1 ls (k : Nat) (vR x)).map fun l => (w, nx, l, r)
    | _ => none
  | .lstore k => match st with
    | .inr (.inl x) :: r => (mj_s2 ls k (vL x)).map fun l => (w, nx, l, r)
    | _ => none
  | .lstore_n k => match st with
    | .inr (.inl x) :: r => (mj_s2 ls (k : Nat) (vL x)).map fun l => (w, nx, l, r)
    | _ => none
  | .dstore k => match st with
    | .inr (.inr (.inl x)) :: r => (mj_s2 ls k (vD x)).map fun l => (w, nx, l, r)
    | _ => none
  | .iinc k n => match mj_gl ls k with
    | some (.inl x) => (mj_s1 ls k (vI (x + Int32.ofInt n))).map fun l => (w, nx, l, st)
    | _ => none
  | .iadd => match st with
    | .inl y :: .inl x :: r => some (w, nx, ls, vI (x + y) :: r)
    | _ => none
  | .isub => match st with
    | .inl y :: .inl x :: r => some (w, nx, ls, vI (x - y) :: r)
    | _ => none
  | .imul => match st with
    | .inl y :: .inl x :: r => some (w, nx, ls, vI (x * y) :: r)
    | _ => none
  | .iand => match st with
    | .inl y :: .inl x :: r => some (w, nx, ls, vI (x &&& y) :: r)
    | _ => none
  | .ior => match st with
    | .inl y :: .inl x :: r => some (w, nx, ls, vI (x ||| y) :: r)
    | _ => none
  | .ixor => match st with
    | .inl y :: .inl x :: r => some (w, nx, ls, vI (x ^^^ y) :: r)
    | _ => none
  | .ishl => match st with
    | .inl y :: .inl x :: r => some (w, nx, ls, vI (x <<< (y &&& 31)) :: r)
    | _ => none
  | .ishr => match st with
    | .inl y :: .inl x :: r => some (w, nx, ls, vI (x >>> (y &&& 31)) :: r)
    | _ => none
  | .iushr => match st with
    | .inl y :: .inl x :: r => some (w, nx, ls, vI (x.toUInt32 >>> (y.toUInt32 &&& Int32.toUInt32 31)).toInt32 :: r)
    | _ => none
  | .ladd => match st with
    | .inr (.inl y) :: .inr (.inl x) :: r => some (w, nx, ls, vL (x + y) :: r)
    | _ => none
  | .lmul => match st with
    | .inr (.inl y) :: .inr (.inl x) :: r => some (w, nx, ls, vL (x * y) :: r)
    | _ => none
  | .lcmp => match st with
    | .inr (.inl y) :: .inr (.inl x) :: r => some (w, nx, ls, vI (lg_cmp x y) :: r)
    | _ => none
  | .i2l => match st with
    | .inl x :: r => some (w, nx, ls, vL x.toInt64 :: r)
    | _ => none
  | .i2d => match st with
    | .inl x :: r => some (w, nx, ls, vD (FP.i2d x) :: r)
    | _ => none
  | .ddiv => match st with
    | .inr (.inr (.inl y)) :: .inr (.inr (.inl x)) :: r => if FP.ddiv x y &&& 0x7fffffffffffffff ≤ 0x7ff0000000000000 then some (w, nx, ls, vD (FP.ddiv x y) :: r) else none
    | _ => none
  | .dcmp op => match st with
    | .inr (.inr (.inl y)) :: .inr (.inr (.inl x)) :: r => some (w, nx, ls, vI (Op.cmpValue (FP.dcmp x y) op) :: r)
    | _ => none
  | .dup => match st with
    | .inl x :: r => some (w, nx, ls, .inl x :: .inl x :: r)
    | .inr (.inr (.inr x)) :: r => some (w, nx, ls, vR x :: vR x :: r)
    | _ => none
  | .dup2 => match st with
    | .inl x :: .inr (.inr (.inr y)) :: r => some (w, nx, ls, vI x :: vR y :: vI x :: vR y :: r)
    | _ => none
  | .pop => match st with
    | .inl _ :: r => some (w, nx, ls, r)
    | _ => none
  | .goto off => (mj_jmp pc off).map fun t => (w, t, ls, st)
  | .ifCond c off => match st with
    | .inl x :: r => (mj_jmp pc off).map fun t => if mj_cnd c x 0 = true then (w, t, ls, r) else (w, nx, ls, r)
    | _ => none
  | .if_icmp c off => match st with
    | .inl y :: .inl x :: r => (mj_jmp pc off).map fun t => if mj_cnd c x y = true then (w, t, ls, r) else (w, nx, ls, r)
    | _ => none
  | .ifnull off => match st with
    | .inr (.inr (.inr x)) :: r => (mj_jmp pc off).map fun t => if x = none then (w, t, ls, r) else (w, nx, ls, r)
    | _ => none
  | .ifnonnull off => match st with
    | .inr (.inr (.inr x)) :: r => (mj_jmp pc off).map fun t => if x = none then (w, nx, ls, r) else (w, t, ls, r)
    | _ => none
  | .tableswitch dflt lo hi offs => match st with
    | .inl x :: r => if x.toInt < lo ∨ hi < x.toInt then (mj_jmp pc dflt).map fun t => (w, t, ls, r) else match offs[(x.toInt - lo).toNat]? with
      | some off => (mj_jmp pc off).map fun t => (w, t, ls, r)
      | none => none
    | _ => none
  | .getfield k => match mj_fld (mj_o M) k, st with
    | some (ci, j), .inr (.inr (.inr (some p))) :: r => if p.1 = ci then (if mj_ft ci j < 2 then some (w, nx, ls, vI (wFI w (mj_fk ci j) p.2.2) :: r) else some (w, nx, ls, vR (wFR w (mj_fk ci j) p.2.2) :: r)) else none
    | _, _ => none
  | .putfield k => match mj_fld (mj_o M) k, st with
    | some (ci, j), .inl x :: .inr (.inr (.inr (some p))) :: r => if p.1 = ci ∧ (mj_fin ci j = false ∨ mj_isI M = true ∧ ci = mj_o M) ∧ (mj_ft ci j = 0 ∨ mj_ft ci j = 1 ∧ (x = 0 ∨ x = 1)) then some (sFI w (mj_fk ci j) p.2.2 x, nx, ls, r) else none
    | some (ci, j), .inr (.inr (.inr v)) :: .inr (.inr (.inr (some p))) :: r => if p.1 = ci ∧ (mj_fin ci j = false ∨ mj_isI M = true ∧ ci = mj_o M) ∧ mj_ft ci j = 2 then some (sFR w (mj_fk ci j) p.2.2 v, nx, ls, r) else none
    | _, _ => none
  | .iaload => match st with
    | .inl j :: .inr (.inr (.inr (some p))) :: r => if (p.1 = 20 ∨ p.1 = 30) ∧ mj_in j p.2.1 then some (w, nx, ls, vI (wAI w p.2.2 j.toNatClampNeg) :: r) else none
    | _ => none
  | .baload => match st with
    | .inl j :: .inr (.inr (.inr (some p))) :: r => if p.1 = 22 ∧ mj_in j p.2.1 then some (w, nx, ls, vI (wAI w p.2.2 j.toNatClampNeg) :: r) else none
    | _ => none
  | .laload => match st with
    | .inl j :: .inr (.inr (.inr (some p))) :: r => if p.1 = 21 ∧ mj_in j p.2.1 then some (w, nx, ls, vL (wAJ w p.2.2 j.toNatClampNeg) :: r) else none
    | _ => none
  | .aaload => match st with
    | .inl j :: .inr (.inr (.inr (some p))) :: r => if (p.1 = 23 ∨ p.1 = 24 ∨ p.1 = 25) ∧ mj_in j p.2.1 then some (w, nx, ls, vR (wAR w p.2.2 j.toNatClampNeg) :: r) else none
    | _ => none
  | .iastore => match st with
    | .inl x :: .inl j :: .inr (.inr (.inr (some p))) :: r => if p.1 = 20 ∧ mj_in j p.2.1 then some (sAI w p.2.2 j.toNatClampNeg x, nx, ls, r) else none
    | _ => none
  | .bastore => match st with
    | .inl x :: .inl j :: .inr (.inr (.inr (some p))) :: r => if p.1 = 22 ∧ mj_in j p.2.1 ∧ (x = 0 ∨ x = 1) then some (sAI w p.2.2 j.toNatClampNeg x, nx, ls, r) else none
    | _ => none
  | .lastore => match st with
    | .inr (.inl x) :: .inl j :: .inr (.inr (.inr (some p))) :: r => if p.1 = 21 ∧ mj_in j p.2.1 then some (sAJ w p.2.2 j.toNatClampNeg x, nx, ls, r) else none
    | _ => none
  | .aastore => match st with
    | .inr (.inr (.inr (some v))) :: .inl j :: .inr (.inr (.inr (some p))) :: r => if (p.1 = 23 ∧ v.1 = 1 ∨ p.1 = 24 ∧ v.1 = 5) ∧ mj_in j p.2.1 then some (sAR w p.2.2 j.toNatClampNeg (some v), nx, ls, r) else none
    | _ => none
  | .arraylength => match st with
    | .inr (.inr (.inr (some p))) :: r => if p.1 = 30 then some (w, nx, ls, vI (Int32.ofNat p.2.1) :: r) else none
    | _ => none
  | .new k => match mj_cls (mj_o M) k with
    | some ci => some (nwO w (mj_nf ci), nx, ls, vP (ci, 0, wN w) :: st)
    | none => none
  | .newarray t => match st with
    | .inl n :: r => if ¬ n < 0 ∧ n.toNatClampNeg ≤ 65536 then (match t with
      | .int => some (nwA w n.toNatClampNeg, nx, ls, vP (20, n.toNatClampNeg, wN w) :: r)
      | .long => some (nwA w n.toNatClampNeg, nx, ls, vP (21, n.toNatClampNeg, wN w) :: r)
      | .boolean => some (nwA w n.toNatClampNeg, nx, ls, vP (22, n.toNatClampNeg, wN w) :: r)
      | _ => none) else none
    | _ => none
  | .anewarray k => match st with
    | .inl n :: r => if ¬ n < 0 ∧ n.toNatClampNeg ≤ 65536 then (match mj_cls (mj_o M) k with
      | some 1 => some (nwA w n.toNatClampNeg, nx, ls, vP (23, n.toNatClampNeg, wN w) :: r)
      | some 5 => some (nwA w n.toNatClampNeg, nx, ls, vP (24, n.toNatClampNeg, wN w) :: r)
      | _ => none) else none
    | _ => none
  | .multianewarray k 2 => match st with
    | .inl m :: .inl n :: r => if mj_o M = 10 ∧ k = 60 ∧ (¬ n < 0 ∧ n.toNatClampNeg ≤ 1024) ∧ (¬ m < 0 ∧ m.toNatClampNeg ≤ 65536) then some (nwM w n.toNatClampNeg m.toNatClampNeg, nx, ls, vP (25, n.toNatClampNeg, wN w) :: r) else none
    | _ => none
  | _ => none
/-- new Wrong(at) -/
def mj_wrong (w : MWd) (id : Nat) : MWd := sFI (nwO w 7) (mj_fk 9 6) (wN w) (wFI w (mj_fk 10 18) id)
abbrev MRes : Type := Option MV ⊕ (Nat × Option Ptr)
/-- the locals at a method's entry -/
def mj_ents : List MV → List (Option MV)
  | [] => []
  | v :: r => if mj_cat v = 2 then some v :: none :: mj_ents r else some v :: mj_ents r
def mj_ent (M : Nat) (args : List MV) : List (Option MV) := mj_ents args ++ List.replicate (mj_l M - (mj_ents args).length) none
/-- the handler for an exception at a place -/
def mj_hs (o pc E : Nat) : List (Nat × Nat × Nat × Nat) → Option Nat
  | [] => none
  | (a, b, h, t) :: r => if a ≤ pc ∧ pc < b ∧ mj_exc o t = some E then some h else mj_hs o pc E r
/-- what a call finds on the stack: arguments, first one first, and the rest -/
def mj_args (n : Nat) (st : List MV) : Option (List MV × List MV) := if n ≤ st.length then some ((st.take n).reverse, st.drop n) else none
def mj_wt (st : List MV) : Nat := (st.map mj_cat).sum
def mj_recv (M : Nat) : List MV → Bool
  | .inr (.inr (.inr (some p))) :: _ => p.1 == mj_o M
  | _ => false
def mj_retOk (M : Nat) (v : Option MV) : Bool := match v, mj_r M with
  | none, none => true
  | some (.inl _), some .int => true
  | some (.inl x), some .boolean => decide (x = 0 ∨ x = 1)
  | some (.inr (.inl _)), some .long => true
  | some (.inr (.inr (.inl _))), some .double => true
  | some (.inr (.inr (.inr _))), some (.object _) => true
  | _, _ => false
/-- what kind of call the instruction makes: its pool entry; 0 static, 1 virtual, 2 special -/
def mj_call : Instr → Option (Nat × Nat)
  | .invokevirtual k => some (k, 1)
  | .invokespecial k => some (k, 2)
  | .invokestatic k => some (k, 0)
  | _ => none
def mj_fits (v M : Nat) (as : List MV) : Bool := decide ((mj_ents as).length ≤ mj_l M) && if v = 0 then mj_s M else !(mj_s M) && (if v = 1 then !(mj_isI M) else mj_isI M) && mj_recv M as
def mj_body (mj_rec : Nat → MWd → Nat → Nat → List (Option MV) → List MV → Option (MRes × MWd)) (d : Nat) (w : MWd) (M pc : Nat) (ls : List (Option MV)) (st : List MV) : Option (MRes × MWd) :=
    match mj_fetch M pc with
    | none => none
    | some (i, nx) =>
      match mj_call i with
      | some (k, v) => (match mj_mth (mj_o M) k with
        | some (0, M') => (match mj_args (mj_a M' + if v = 0 then 0 else 1) st with
          | some (as, rest) =>
            if mj_fits v M' as = true ∧ mj_wt rest ≤ 8 then (match d with
            | 0 => none
            | d' + 1 => (match mj_rec d' w M' 0 (mj_ent M' as) [] with
              | some (.inl rv, w') => mj_rec (d' + 1) w' M nx ls (rv.toList ++ rest)
              | some (.inr (E, p), w') => (match mj_hs (mj_o M) pc E (mj_h M) with
                | none => some (.inr (E, p), w')
                | some hp => (match p with
                  | some q => mj_rec (d' + 1) w' M hp ls [vP q]
                  | none => (match mj_fetch M hp with
                    | some (.astore n, nx') => if n < ls.length ∧ mj_pv ls n = true then mj_rec (d' + 1) w' M nx' (mj_sl ls n none) [] else none
                    | some (.astore_n n, nx') => if (n : Nat) < ls.length ∧ mj_pv ls n = true then mj_rec (d' + 1) w' M nx' (mj_sl ls n none) [] else none
                    | _ => none)))
              | none => none)) else none
          | none => none)
        | some (1, _) => (match st with
          | .inr (.inr (.inr (some _))) :: r => if v = 2 ∧ mj_wt r ≤ 8 then mj_rec d w M nx ls r else none
          | _ => none)
        | some (3, _) => (match st with
          | .inl n :: .inl dp :: .inr (.inr (.inr (some p))) :: .inl sp :: .inr (.inr (.inr (some q))) :: r =>
            if (p.1 = 20 ∧ q.1 = 20 ∨ p.1 = 21 ∧ q.1 = 21) ∧ ¬ p.2.2 = q.2.2 ∧ ¬ sp < 0 ∧ ¬ dp < 0 ∧ ¬ n < 0 ∧ sp.toNatClampNeg + n.toNatClampNeg ≤ q.2.1 ∧ dp.toNatClampNeg + n.toNatClampNeg ≤ p.2.1 ∧ v = 0 ∧ mj_wt r ≤ 8 then
              (if p.1 = 20 then mj_rec d (cpI w q.2.2 sp.toNatClampNeg p.2.2 dp.toNatClampNeg n.toNatClampNeg) M nx ls r else mj_rec d (cpJ w q.2.2 sp.toNatClampNeg p.2.2 dp.toNatClampNeg n.toNatClampNeg) M nx ls r) else none
          | _ => none)
        | some (4, _) => (match st with
          | .inl y :: .inl x :: r => if v = 0 ∧ mj_wt r ≤ 8 then mj_rec d w M nx ls (vI (if x < y then y else x) :: r) else none
          | _ => none)
        | some (5, _) => (match st with
          | .inl y :: .inl x :: r => if v = 0 ∧ mj_wt r ≤ 8 then mj_rec d w M nx ls (vI (if y < x then y else x) :: r) else none
          | _ => none)
        | _ => none)
      | none => (match i with
        | .ireturn => (match st with
          | [.inl x] => if mj_retOk M (some (.inl x)) = true then some (.inl (some (.inl x)), w) else none
          | _ => none)
        | .lreturn => (match st with
          | [.inr (.inl x)] => if mj_retOk M (some (.inr (.inl x))) = true then some (.inl (some (.inr (.inl x))), w) else none
          | _ => none)
        | .dreturn => (match st with
          | [.inr (.inr (.inl x))] => if mj_retOk M (some (.inr (.inr (.inl x)))) = true then some (.inl (some (.inr (.inr (.inl x)))), w) else none
          | _ => none)
        | .areturn => (match st with
          | [.inr (.inr (.inr x))] => if mj_retOk M (some (.inr (.inr (.inr x)))) = true then some (.inl (some (.inr (.inr (.inr x)))), w) else none
          | _ => none)
        | .return_ => (match st with
          | [] => if mj_retOk M none = true then some (.inl none, w) else none
          | _ => none)
        | _ => (match mj_thr M pc with
          | some (E, _) => if mj_wt st ≤ 8 then some (.inr (E, none), mj_tick w) else none
          | none => if mj_thw M pc = true then (match mj_gl ls 0, st with
              | some (.inr (.inr (.inr (some q)))), [] => if q.1 = 10 then some (.inr (3, some (9, 0, wN w)), mj_wrong w q.2.2) else none
              | _, _ => none)
            else (match mj_step M i pc nx w ls st with
            | some (w', pc', ls', st') => mj_rec d w' M pc' ls' st'
            | none => none)))
def mj_run : Nat → Nat → MWd → Nat → Nat → List (Option MV) → List MV → Option (MRes × MWd)
  | 0 => fun _ _ _ _ _ _ => none
  | f + 1 => mj_body (mj_run f)

