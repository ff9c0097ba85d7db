/-! Numbers and bits. -/
def NN : Int32 := -1
theorem i_lit (n : Nat) : (OfNat.ofNat n : Int32) = Int32.ofNat n := rfl
theorem i_add (a b : Nat) : Int32.ofNat a + Int32.ofNat b = Int32.ofNat (a + b) := (Int32.ofNat_add a b).symm
theorem i_mul (a b : Nat) : Int32.ofNat a * Int32.ofNat b = Int32.ofNat (a * b) := (Int32.ofNat_mul a b).symm
theorem i_sub {a b : Nat} (h : b ≤ a) : Int32.ofNat a - Int32.ofNat b = Int32.ofNat (a - b) := (Int32.ofNat_sub a b h).symm
theorem i_m1 : -(Int32.ofNat 1) = NN := rfl
theorem i_ti {k : Nat} (h : k < 2147483648) : (Int32.ofNat k).toInt = k := Int32.toInt_ofNat_of_lt h
theorem i_cl {k : Nat} (h : k < 2147483648) : (Int32.ofNat k).toNatClampNeg = k := Int32.toNatClampNeg_ofNat_of_lt h
theorem i_tN : NN.toInt = -1 := rfl
theorem i_lt {a b : Nat} (h : a < 2147483648) (h' : b < 2147483648) : Int32.ofNat a < Int32.ofNat b ↔ a < b := by
  rw [Int32.lt_iff_toInt_lt, i_ti h, i_ti h']; omega
theorem i_le {a b : Nat} (h : a < 2147483648) (h' : b < 2147483648) : Int32.ofNat a ≤ Int32.ofNat b ↔ a ≤ b := by
  rw [Int32.le_iff_toInt_le, i_ti h, i_ti h']; omega
theorem i_eq {a b : Nat} (h : a < 2147483648) (h' : b < 2147483648) : Int32.ofNat a = Int32.ofNat b ↔ a = b := by
  rw [← Int32.toInt_inj, i_ti h, i_ti h']; omega
theorem i_ltN {a : Nat} (h : a < 2147483648) : Int32.ofNat a < NN ↔ False := by
  rw [Int32.lt_iff_toInt_lt, i_ti h, i_tN]
  exact iff_of_false (by omega) id
theorem i_Nlt {a : Nat} (h : a < 2147483648) : NN < Int32.ofNat a ↔ True := by
  rw [Int32.lt_iff_toInt_lt, i_ti h, i_tN]
  exact iff_of_true (by omega) trivial
theorem i_leN {a : Nat} (h : a < 2147483648) : Int32.ofNat a ≤ NN ↔ False := by
  rw [Int32.le_iff_toInt_le, i_ti h, i_tN]
  exact iff_of_false (by omega) id
theorem i_Nle {a : Nat} (h : a < 2147483648) : NN ≤ Int32.ofNat a ↔ True := by
  rw [Int32.le_iff_toInt_le, i_ti h, i_tN]
  exact iff_of_true (by omega) trivial
theorem i_eN {a : Nat} (h : a < 2147483648) : Int32.ofNat a = NN ↔ False := by
  rw [← Int32.toInt_inj, i_ti h, i_tN]
  exact iff_of_false (by omega) id
theorem i_Ne {a : Nat} (h : a < 2147483648) : NN = Int32.ofNat a ↔ False := by
  rw [← Int32.toInt_inj, i_ti h, i_tN]
  exact iff_of_false (by omega) id
theorem i_in {a n : Nat} (h : a < 2147483648) : mj_in (Int32.ofNat a) n ↔ a < n := by
  unfold mj_in
  rw [i_cl h, show (0 : Int32) = Int32.ofNat 0 from rfl, i_lt h (by decide)]; omega
theorem i_inN {n : Nat} : mj_in NN n ↔ False := iff_of_false (fun h => h (Or.inl (by decide))) id
/-- a number is less than 0 or a small one -/
theorem i_cs (x : Int32) : (x < 0 ∧ x < Int32.ofNat 0) ∨ ∃ k : Nat, k < 2147483648 ∧ x = Int32.ofNat k := by
  by_cases h : x < 0
  · exact Or.inl ⟨h, h⟩
  · have h1 := Int32.le_iff_toInt_le.mp (Int32.not_lt.mp h)
    have h0 : (0 : Int32).toInt = 0 := rfl
    have h2 := Int32.toInt_lt x
    refine Or.inr ⟨x.toInt.toNat, by omega, ?_⟩
    rw [← Int32.toInt_inj, i_ti (by omega)]; omega
/-- the bit of a place -/
def bt (x : Int32) (p : Nat) : Bool := x.toBitVec.getLsbD p
theorem bt_ext {x y : Int32} (h : ∀ p, p < 32 → bt x p = bt y p) : x = y := Int32.toBitVec_inj.mp (BitVec.eq_of_getLsbD_eq h)
theorem bt_big {x : Int32} {p : Nat} (h : 32 ≤ p) : bt x p = false := BitVec.getLsbD_of_ge _ _ h
theorem bt_or (x y : Int32) (p : Nat) : bt (x ||| y) p = (bt x p || bt y p) := by
  unfold bt; rw [Int32.toBitVec_or, BitVec.getLsbD_or]
theorem bt_and (x y : Int32) (p : Nat) : bt (x &&& y) p = (bt x p && bt y p) := by
  unfold bt; rw [Int32.toBitVec_and, BitVec.getLsbD_and]
theorem bt_0 (p : Nat) : bt (Int32.ofNat 0) p = false := by
  show (0#32).getLsbD p = false
  exact BitVec.getLsbD_zero
theorem bt_not (x : Int32) {p : Nat} (h : p < 32) : bt (x ^^^ NN) p = !bt x p := by
  unfold bt; rw [Int32.toBitVec_xor, BitVec.getLsbD_xor]
  have : NN.toBitVec = BitVec.allOnes 32 := by decide
  rw [this, BitVec.getLsbD_allOnes, decide_eq_true h, Bool.xor_true]
theorem sh_lt {p : Nat} (h : p < 32) : (Int32.ofNat p &&& Int32.ofNat 31) = Int32.ofNat p := by
  revert p; decide
theorem sh_u {p : Nat} (h : p < 32) : ((Int32.ofNat p).toUInt32 &&& (Int32.ofNat 31).toUInt32) = UInt32.ofNat p := by
  revert p; decide
theorem bt_sl {p : Nat} (h : p < 32) (x : Int32) (q : Nat) : bt (x <<< (Int32.ofNat p &&& Int32.ofNat 31)) q = (decide (p ≤ q ∧ q < 32) && bt x (q - p)) := by
  rw [sh_lt h]
  unfold bt
  rw [Int32.toBitVec_shiftLeft]
  have h1 : ((Int32.ofNat p).toBitVec.smod 32) = BitVec.ofNat 32 p := by revert p; decide
  rw [h1, BitVec.shiftLeft_eq', BitVec.toNat_ofNat, Nat.mod_eq_of_lt (by omega), BitVec.getLsbD_shiftLeft]
  by_cases h2 : q < p
  · rw [decide_eq_true h2, Bool.not_true, Bool.and_false, Bool.false_and, decide_eq_false (by omega), Bool.false_and]
  · rw [decide_eq_false h2, Bool.not_false, Bool.and_true]
    by_cases h3 : q < 32
    · rw [decide_eq_true h3, decide_eq_true ⟨by omega, h3⟩]
    · rw [decide_eq_false h3, decide_eq_false (by omega)]
theorem bt_sr {p : Nat} (h : p < 32) (x : Int32) (q : Nat) (hq : p + q < 32) : bt (x >>> (Int32.ofNat p &&& Int32.ofNat 31)) q = bt x (p + q) := by
  rw [sh_lt h]
  unfold bt
  rw [Int32.toBitVec_shiftRight]
  have h1 : ((Int32.ofNat p).toBitVec.smod 32) = BitVec.ofNat 32 p := by clear hq; revert p; decide
  rw [h1]
  show (x.toBitVec.sshiftRight (BitVec.ofNat 32 p).toNat).getLsbD q = _
  rw [BitVec.toNat_ofNat, Nat.mod_eq_of_lt (by omega), BitVec.getLsbD_sshiftRight, decide_eq_false (by omega), if_pos hq]
  rfl
theorem bt_ur {p : Nat} (h : p < 32) (x : Int32) (q : Nat) : bt (x.toUInt32 >>> ((Int32.ofNat p).toUInt32 &&& (Int32.ofNat 31).toUInt32)).toInt32 q = bt x (p + q) := by
  rw [sh_u h]
  unfold bt
  show (x.toUInt32 >>> UInt32.ofNat p).toBitVec.getLsbD q = _
  rw [UInt32.toBitVec_shiftRight]
  have h1 : ((UInt32.ofNat p).toBitVec % 32) = BitVec.ofNat 32 p := by revert p; decide
  rw [h1, BitVec.ushiftRight_eq', BitVec.toNat_ofNat, Nat.mod_eq_of_lt (by omega), BitVec.getLsbD_ushiftRight]
  rfl
theorem bt_one (p : Nat) : bt (Int32.ofNat 1) p = decide (p = 0) := by
  show (1#32).getLsbD p = _
  rw [BitVec.getLsbD_one]; simp
theorem bt_bit {p q : Nat} (h : p < 32) : bt (Int32.ofNat 1 <<< (Int32.ofNat p &&& Int32.ofNat 31)) q = decide (p = q) := by
  rw [bt_sl h, bt_one]
  by_cases h1 : p = q
  · subst h1; simp [h]
  · by_cases h2 : p ≤ q ∧ q < 32
    · rw [decide_eq_true h2, decide_eq_false (show ¬ q - p = 0 by omega), decide_eq_false h1]; rfl
    · rw [decide_eq_false h2, decide_eq_false h1]; rfl
theorem and_one (x : Int32) : x &&& Int32.ofNat 1 = if bt x 0 then Int32.ofNat 1 else Int32.ofNat 0 := by
  apply bt_ext
  intro p hp
  rw [bt_and, bt_one]
  cases h : bt x 0
  · rw [if_neg Bool.false_ne_true, bt_0]
    by_cases h1 : p = 0
    · subst h1; rw [h]; rfl
    · rw [decide_eq_false h1, Bool.and_false]
  · rw [if_pos rfl, bt_one]
    by_cases h1 : p = 0
    · subst h1; rw [h]; rfl
    · rw [decide_eq_false h1, Bool.and_false]
theorem ite_b1 (b : Bool) : ((if b = true then Int32.ofNat 1 else Int32.ofNat 0) = Int32.ofNat 0) ↔ b = false := by cases b <;> decide
theorem ite_b2 (b : Bool) : ((if b = true then Int32.ofNat 1 else Int32.ofNat 0) = Int32.ofNat 1) ↔ b = true := by cases b <;> decide
/-- the tests of a bit -/
theorem ts_u0 {p : Nat} (h : p < 32) (x : Int32) : (x.toUInt32 >>> ((Int32.ofNat p).toUInt32 &&& (Int32.ofNat 31).toUInt32)).toInt32 &&& Int32.ofNat 1 = Int32.ofNat 0 ↔ bt x p = false := by
  rw [and_one, ite_b1, bt_ur h]; rfl
theorem ts_s1 {p : Nat} (h : p < 32) (x : Int32) : (x >>> (Int32.ofNat p &&& Int32.ofNat 31)) &&& Int32.ofNat 1 = Int32.ofNat 1 ↔ bt x p = true := by
  rw [and_one, ite_b2, bt_sr h x 0 (by omega)]; rfl
theorem ts_0 {x : Int32} : x = Int32.ofNat 0 ↔ ∀ p, p < 32 → bt x p = false :=
  ⟨fun h p _ => by rw [h, bt_0], fun h => bt_ext fun p hp => by rw [h p hp, bt_0]⟩
