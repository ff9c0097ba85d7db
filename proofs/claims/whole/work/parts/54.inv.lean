/-! The invariant of the law's loop. -/
def en : Option Nat → Int32
  | none => NN
  | some k => Int32.ofNat k
def b01 (x : Int32) : Prop := x = Int32.ofNat 0 ∨ x = Int32.ofNat 1
/-- the state behind the first k letters -/
def stN (mv : Nat → Option Nat) (u : Nat → Nat) : Nat → Option Nat
  | 0 => some 0
  | k + 1 => match stN mv u k with
    | none => none
    | some s => mv (8 * s + u k)
/-- the places that can be behind k letters -/
def rB (F : Int32) (fo pl : Nat → Int32) (u : Nat → Nat) : Nat → Nat → Prop
  | 0, p => bt F p = true
  | k + 1, p => ∃ q, q < 30 ∧ (rB F fo pl u k q ∧ bt (pl (u k)) q = true) ∧ bt (fo q) p = true
def rHit (F L : Int32) (fo pl : Nat → Int32) (u : Nat → Nat) (k : Nat) : Prop := ∃ p, p < 30 ∧ (rB F fo pl u k p ∧ bt (pl (u k)) p = true) ∧ bt L p = true
def iTape (w : MWd) : Prop := ∃ n : Nat, n ≤ 1000 ∧ wFI w 449 2 = Int32.ofNat n ∧ wFI w 642 128 = Int32.ofNat n ∧ ∀ i, i < n → ∃ b : Nat, b < 256 ∧ wAI w 3 i = Int32.ofNat b ∧ wAI w 129 i = Int32.ofNat b
def RuleA (w : MWd) (r np tp : Nat) : Prop := np ≤ 30 ∧ tp ≤ np ∧
  (∃ m : Nat, m < 4 ∧ wFI w 322 (6 + 3 * r) = Int32.ofNat m ∧ wAI w 130 r = Int32.ofNat m) ∧
  (∃ m : Nat, m < 4 ∧ wFI w 323 (6 + 3 * r) = Int32.ofNat m ∧ wAI w 131 r = Int32.ofNat m) ∧
  (wFI w 324 (6 + 3 * r) = wAI w 132 r ∧ b01 (wAI w 132 r)) ∧ (wFI w 325 (6 + 3 * r) = wAI w 133 r ∧ b01 (wAI w 133 r)) ∧
  wFI w 326 (6 + 3 * r) = Int32.ofNat np ∧ wAI w 134 r = Int32.ofNat np ∧ (∀ p, p < 32 → bt (wFI w 327 (6 + 3 * r)) p = decide (p < tp)) ∧
  wFI w 328 (6 + 3 * r) = wAI w 137 r ∧ wFI w 330 (6 + 3 * r) = wAI w 138 r ∧ wFI w 334 (6 + 3 * r) = wAI w 142 r
def RuleB (w : MWd) (r np : Nat) : Prop :=
  (∀ p, p < 32 → bt (wFI w 329 (6 + 3 * r)) p = if wAI w 133 r = Int32.ofNat 1 then (bt (wAI w 140 r) p || (decide (wAI w 141 r = Int32.ofNat 1) && bt (wAI w 138 r) p)) else bt (wAI w 138 r) p) ∧
  (wAI w 133 r = Int32.ofNat 1 → wFI w 331 (6 + 3 * r) = wAI w 139 r ∧ wFI w 333 (6 + 3 * r) = wAI w 141 r) ∧ b01 (wAI w 141 r) ∧ (wAI w 133 r = Int32.ofNat 0 → wAI w 139 r = Int32.ofNat 0) ∧
  (∀ p q, p < 30 → q < 32 → bt (wAI w (7 + 3 * r) p) q = (decide (p < np) && (bt (wAI w 136 (30 * r + p)) q || (bt (wAI w 138 r) p && bt (wAI w 139 r) q)))) ∧
  (∀ l q, l < 8 → q < 32 → bt (wAI w (8 + 3 * r) l) q = (decide (q < np) && (bt (wAI w 135 (30 * r + q)) l && bt (wAI w 142 r) q)))
def RuleC (w : MWd) (r np tp : Nat) : Prop :=
  (∀ q, q < 32 → bt (wAI w 137 r) q = true → q < tp) ∧ (∀ q, q < 32 → bt (wAI w 138 r) q = true → q < tp) ∧
  (∀ q, q < 32 → bt (wAI w 139 r) q = true → tp ≤ q ∧ q < np) ∧ (∀ q, q < 32 → bt (wAI w 140 r) q = true → tp ≤ q ∧ q < np) ∧
  (∀ p q, p < np → q < 32 → bt (wAI w 136 (30 * r + p)) q = true → (p < tp → q < tp) ∧ (tp ≤ p → tp ≤ q ∧ q < np)) ∧
  (∀ p, p < np → (∃ l, l < 8 ∧ bt (wAI w 135 (30 * r + p)) l = true) → (bt (wFI w 329 (6 + 3 * r)) p = true ∨ ∃ q, q < 32 ∧ bt (wAI w (7 + 3 * r) p) q = true ∧ bt (wAI w 142 r) q = true) → bt (wAI w 142 r) p = true)
def RuleOk (w : MWd) (r : Nat) : Prop := ∃ np tp, RuleA w r np tp ∧ RuleB w r np ∧ RuleC w r np tp
def iRules (w : MWd) : Prop := ∃ n : Nat, n ≤ 12 ∧ wFI w 385 4 = Int32.ofNat n ∧ wFI w 644 128 = Int32.ofNat n ∧ ∀ r, r < n → RuleOk w r
def MachA (w : MWd) (c m n : Nat) (mv an : Nat → Option Nat) : Prop := n ≤ 100 ∧ wFI w 71 (c + 2 + 8 * m) = Int32.ofNat n ∧ wAI w 143 m = Int32.ofNat n ∧
  (∀ s, s < n → wAI w (c + 4 + 8 * m) s = en (an s) ∧ wAI w (145 + m) (9 * s) = en (an s)) ∧
  (∀ s l, s < n → l < 8 → wAI w (c + 3 + 8 * m) (8 * s + l) = en (mv (8 * s + l)) ∧ wAI w (145 + m) (9 * s + 1 + l) = en (mv (8 * s + l)))
def MachB (w : MWd) (c m n : Nat) (mv : Nat → Option Nat) : Prop := ∃ T dep, BF n mv T dep ∧
  (∀ k, 1 ≤ k → k < n → wAI w (c + 5 + 8 * m) k = Int32.ofNat (T k / 8) ∧ wAI w (c + 6 + 8 * m) k = Int32.ofNat (T k % 8)) ∧ (∀ k, k < n → wAI w (c + 7 + 8 * m) k = Int32.ofNat (dep k))
def MachC (w : MWd) (m n nb : Nat) (mv an : Nat → Option Nat) : Prop := ∀ s r, s < n → an s = some r → r < nb ∧ wAI w 130 r = Int32.ofNat m ∧
  ∀ u k, (∀ i, i ≤ k → u i < 8) → stN mv u (k + 1) = some s → rHit (wFI w 328 (6 + 3 * r)) (wFI w 329 (6 + 3 * r)) (wAI w (7 + 3 * r)) (wAI w (8 + 3 * r)) u k
def MachOk (w : MWd) (c m nb : Nat) : Prop := ∃ n mv an, MachA w c m n mv an ∧ MachB w c m n mv ∧ MachC w m n nb mv an
def iMach (w : MWd) : Prop := ∃ c nb nr : Nat, (c = 60 ∨ c = 94) ∧ wFR w 517 1 = some (2, 0, c) ∧ wFR w 518 1 = some (2, 0, 154 - c) ∧ nb ≤ nr ∧ nr ≤ 12 ∧ wFI w 385 4 = Int32.ofNat nr ∧
  wFI w 520 1 = Int32.ofNat nb ∧ wFI w 664 128 = Int32.ofNat nb ∧ b01 (wFI w 519 1) ∧ wFI w 519 1 = wFI w 663 128 ∧ ∀ m, m < 4 → MachOk w c m nb
def iTok (w : MWd) : Prop := ∃ n : Nat, n ≤ 500 ∧ wFI w 2 57 = Int32.ofNat n ∧ wFI w 678 128 = Int32.ofNat n ∧ ∀ i, i < 4 * n → wAI w 58 i = wAI w 163 i
def iScan (w : MWd) : Prop := wFI w 3 57 = wAI w 164 0 ∧ wFI w 4 57 = wAI w 164 1 ∧ wFI w 5 57 = wAI w 164 2 ∧ wFI w 6 57 = wAI w 164 3
def iErr (w : MWd) : Prop := wFI w 521 1 = wFI w 643 128
def Inv (w : MWd) : Prop := Gr w ∧ iTape w ∧ iRules w ∧ iMach w ∧ iTok w ∧ iScan w ∧ iErr w
set_option maxRecDepth 100000 in
theorem Inv_start (xs : Nat → Int32) : Inv (tStart xs) := by
  refine ⟨tStart_Gr xs, ⟨0, by decide, rfl, rfl, fun i h => absurd h (Nat.not_lt_zero i)⟩, ⟨0, by decide, rfl, rfl, fun i h => absurd h (Nat.not_lt_zero i)⟩, ?_, ⟨0, by decide, rfl, rfl, fun i h => absurd h (Nat.not_lt_zero i)⟩, ⟨rfl, rfl, rfl, rfl⟩, rfl⟩
  refine ⟨60, 0, 0, Or.inl rfl, (tStart_sw xs).1, (tStart_sw xs).2, Nat.le_refl 0, by decide, rfl, rfl, rfl, Or.inl rfl, rfl, fun m hm => ?_⟩
  refine ⟨0, fun _ => none, fun _ => none, ⟨by decide, ?_, ?_, fun s h => absurd h (Nat.not_lt_zero s), fun s l h => absurd h (Nat.not_lt_zero s)⟩, ⟨fun _ => 0, fun _ => 0, ⟨rfl, fun k h1 h2 => absurd h2 (Nat.not_lt_zero k), fun k k' _ _ h => absurd h (Nat.not_lt_zero k'), fun t k h => absurd h (Nat.not_lt_zero t)⟩, fun k _ h => absurd h (Nat.not_lt_zero k), fun k h => absurd h (Nat.not_lt_zero k)⟩, fun s r h => absurd h (Nat.not_lt_zero s)⟩
  · have h : m = 0 ∨ m = 1 ∨ m = 2 ∨ m = 3 := by omega
    rcases h with rfl | rfl | rfl | rfl <;> exact rfl
  · have h : m = 0 ∨ m = 1 ∨ m = 2 ∨ m = 3 := by omega
    rcases h with rfl | rfl | rfl | rfl <;> exact rfl
theorem Sg_of {w w' : MWd} (h1 : wN w ≤ wN w') (h2 : wFR w' = wFR w) (h3 : ∀ a j, a < wN w → wAR w' a j = wAR w a j) : Sg w w' := ⟨h1, fun k a _ => by rw [h2], h3⟩
