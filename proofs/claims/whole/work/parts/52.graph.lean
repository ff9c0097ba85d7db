/-! The static graph of objects behind the start. -/
def tStart (xs : Nat → Int32) : MWd := nwA (tMod (nwO (tForge (nwO (mj_w0 xs) 10) 1) 42) 128) 1
/-- a machine with its rows -/
def grM (w : MWd) (b : Nat) : Prop := wFR w 64 b = some (20, 800, b + 1) ∧ wFR w 65 b = some (20, 100, b + 2) ∧ wFR w 66 b = some (20, 100, b + 3) ∧ wFR w 67 b = some (20, 100, b + 4) ∧ wFR w 68 b = some (20, 100, b + 5) ∧ wFR w 69 b = some (21, 100, b + 6) ∧ wFR w 70 b = some (21, 100, b + 7)
def grS (w : MWd) (c : Nat) : Prop := wFR w 128 c = some (23, 4, c + 1) ∧ ∀ m, m < 4 → wAR w (c + 1) m = some (1, 0, c + 2 + 8 * m) ∧ grM w (c + 2 + 8 * m)
def Gr (w : MWd) : Prop := 167 ≤ wN w ∧ (∀ r, r < 12 → wAR w 5 r = some (5, 0, 6 + 3 * r) ∧ wFR w 320 (6 + 3 * r) = some (20, 30, 7 + 3 * r) ∧ wFR w 321 (6 + 3 * r) = some (20, 8, 8 + 3 * r)) ∧ grS w 60 ∧ grS w 94 ∧
  (∀ m, m < 4 → wAR w 144 m = some (20, 900, 145 + m)) ∧ (∀ m, m < 4 → wAR w 150 m = some (20, 900, 151 + m)) ∧
  wFR w 512 1 = some (7, 0, 2) ∧
  wFR w 513 1 = some (6, 0, 4) ∧
  wFR w 514 1 = some (4, 0, 42) ∧
  wFR w 515 1 = some (3, 0, 47) ∧
  wFR w 516 1 = some (0, 0, 57) ∧
  wFR w 448 2 = some (20, 1000, 3) ∧
  wFR w 384 4 = some (24, 12, 5) ∧
  wFR w 256 42 = some (20, 40, 43) ∧
  wFR w 257 42 = some (20, 40, 44) ∧
  wFR w 258 42 = some (20, 40, 45) ∧
  wFR w 259 42 = some (22, 40, 46) ∧
  wFR w 192 47 = some (20, 1200, 48) ∧
  wFR w 193 47 = some (20, 800, 49) ∧
  wFR w 194 47 = some (20, 100, 50) ∧
  wFR w 195 47 = some (20, 12, 51) ∧
  wFR w 196 47 = some (20, 12, 52) ∧
  wFR w 197 47 = some (20, 100, 53) ∧
  wFR w 198 47 = some (20, 100, 54) ∧
  wFR w 199 47 = some (20, 100, 55) ∧
  wFR w 200 47 = some (20, 100, 56) ∧
  wFR w 0 57 = some (20, 2000, 58) ∧
  wFR w 1 57 = some (22, 1001, 59) ∧
  wFR w 641 128 = some (20, 1000, 129) ∧
  wFR w 645 128 = some (20, 12, 130) ∧
  wFR w 646 128 = some (20, 12, 131) ∧
  wFR w 647 128 = some (22, 12, 132) ∧
  wFR w 648 128 = some (22, 12, 133) ∧
  wFR w 649 128 = some (20, 12, 134) ∧
  wFR w 650 128 = some (20, 360, 135) ∧
  wFR w 651 128 = some (20, 360, 136) ∧
  wFR w 652 128 = some (20, 12, 137) ∧
  wFR w 653 128 = some (20, 12, 138) ∧
  wFR w 654 128 = some (20, 12, 139) ∧
  wFR w 655 128 = some (20, 12, 140) ∧
  wFR w 656 128 = some (22, 12, 141) ∧
  wFR w 657 128 = some (20, 12, 142) ∧
  wFR w 665 128 = some (20, 4, 143) ∧
  wFR w 666 128 = some (25, 4, 144) ∧
  wFR w 667 128 = some (20, 4, 149) ∧
  wFR w 668 128 = some (25, 4, 150) ∧
  wFR w 670 128 = some (20, 1212, 155) ∧
  wFR w 671 128 = some (20, 100, 156) ∧
  wFR w 672 128 = some (20, 800, 157) ∧
  wFR w 673 128 = some (20, 101, 158) ∧
  wFR w 674 128 = some (20, 100, 159) ∧
  wFR w 675 128 = some (21, 100, 160) ∧
  wFR w 676 128 = some (21, 100, 161) ∧
  wFR w 677 128 = some (20, 100, 162) ∧
  wFR w 679 128 = some (20, 2000, 163) ∧
  wFR w 680 128 = some (20, 4, 164) ∧
  wFR w 681 128 = some (22, 1001, 165)
theorem g_512 {w : MWd} (h : Gr w) : wFR w 512 1 = some (7, 0, 2) := h.2.2.2.2.2.2.1
theorem g_513 {w : MWd} (h : Gr w) : wFR w 513 1 = some (6, 0, 4) := h.2.2.2.2.2.2.2.1
theorem g_514 {w : MWd} (h : Gr w) : wFR w 514 1 = some (4, 0, 42) := h.2.2.2.2.2.2.2.2.1
theorem g_515 {w : MWd} (h : Gr w) : wFR w 515 1 = some (3, 0, 47) := h.2.2.2.2.2.2.2.2.2.1
theorem g_516 {w : MWd} (h : Gr w) : wFR w 516 1 = some (0, 0, 57) := h.2.2.2.2.2.2.2.2.2.2.1
theorem g_448 {w : MWd} (h : Gr w) : wFR w 448 2 = some (20, 1000, 3) := h.2.2.2.2.2.2.2.2.2.2.2.1
theorem g_384 {w : MWd} (h : Gr w) : wFR w 384 4 = some (24, 12, 5) := h.2.2.2.2.2.2.2.2.2.2.2.2.1
theorem g_256 {w : MWd} (h : Gr w) : wFR w 256 42 = some (20, 40, 43) := h.2.2.2.2.2.2.2.2.2.2.2.2.2.1
theorem g_257 {w : MWd} (h : Gr w) : wFR w 257 42 = some (20, 40, 44) := h.2.2.2.2.2.2.2.2.2.2.2.2.2.2.1
theorem g_258 {w : MWd} (h : Gr w) : wFR w 258 42 = some (20, 40, 45) := h.2.2.2.2.2.2.2.2.2.2.2.2.2.2.2.1
theorem g_259 {w : MWd} (h : Gr w) : wFR w 259 42 = some (22, 40, 46) := h.2.2.2.2.2.2.2.2.2.2.2.2.2.2.2.2.1
theorem g_192 {w : MWd} (h : Gr w) : wFR w 192 47 = some (20, 1200, 48) := h.2.2.2.2.2.2.2.2.2.2.2.2.2.2.2.2.2.1
theorem g_193 {w : MWd} (h : Gr w) : wFR w 193 47 = some (20, 800, 49) := h.2.2.2.2.2.2.2.2.2.2.2.2.2.2.2.2.2.2.1
theorem g_194 {w : MWd} (h : Gr w) : wFR w 194 47 = some (20, 100, 50) := h.2.2.2.2.2.2.2.2.2.2.2.2.2.2.2.2.2.2.2.1
theorem g_195 {w : MWd} (h : Gr w) : wFR w 195 47 = some (20, 12, 51) := h.2.2.2.2.2.2.2.2.2.2.2.2.2.2.2.2.2.2.2.2.1
theorem g_196 {w : MWd} (h : Gr w) : wFR w 196 47 = some (20, 12, 52) := h.2.2.2.2.2.2.2.2.2.2.2.2.2.2.2.2.2.2.2.2.2.1
theorem g_197 {w : MWd} (h : Gr w) : wFR w 197 47 = some (20, 100, 53) := h.2.2.2.2.2.2.2.2.2.2.2.2.2.2.2.2.2.2.2.2.2.2.1
theorem g_198 {w : MWd} (h : Gr w) : wFR w 198 47 = some (20, 100, 54) := h.2.2.2.2.2.2.2.2.2.2.2.2.2.2.2.2.2.2.2.2.2.2.2.1
theorem g_199 {w : MWd} (h : Gr w) : wFR w 199 47 = some (20, 100, 55) := h.2.2.2.2.2.2.2.2.2.2.2.2.2.2.2.2.2.2.2.2.2.2.2.2.1
theorem g_200 {w : MWd} (h : Gr w) : wFR w 200 47 = some (20, 100, 56) := h.2.2.2.2.2.2.2.2.2.2.2.2.2.2.2.2.2.2.2.2.2.2.2.2.2.1
theorem g_0 {w : MWd} (h : Gr w) : wFR w 0 57 = some (20, 2000, 58) := h.2.2.2.2.2.2.2.2.2.2.2.2.2.2.2.2.2.2.2.2.2.2.2.2.2.2.1
theorem g_1 {w : MWd} (h : Gr w) : wFR w 1 57 = some (22, 1001, 59) := h.2.2.2.2.2.2.2.2.2.2.2.2.2.2.2.2.2.2.2.2.2.2.2.2.2.2.2.1
theorem g_641 {w : MWd} (h : Gr w) : wFR w 641 128 = some (20, 1000, 129) := h.2.2.2.2.2.2.2.2.2.2.2.2.2.2.2.2.2.2.2.2.2.2.2.2.2.2.2.2.1
theorem g_645 {w : MWd} (h : Gr w) : wFR w 645 128 = some (20, 12, 130) := h.2.2.2.2.2.2.2.2.2.2.2.2.2.2.2.2.2.2.2.2.2.2.2.2.2.2.2.2.2.1
theorem g_646 {w : MWd} (h : Gr w) : wFR w 646 128 = some (20, 12, 131) := h.2.2.2.2.2.2.2.2.2.2.2.2.2.2.2.2.2.2.2.2.2.2.2.2.2.2.2.2.2.2.1
theorem g_647 {w : MWd} (h : Gr w) : wFR w 647 128 = some (22, 12, 132) := h.2.2.2.2.2.2.2.2.2.2.2.2.2.2.2.2.2.2.2.2.2.2.2.2.2.2.2.2.2.2.2.1
theorem g_648 {w : MWd} (h : Gr w) : wFR w 648 128 = some (22, 12, 133) := h.2.2.2.2.2.2.2.2.2.2.2.2.2.2.2.2.2.2.2.2.2.2.2.2.2.2.2.2.2.2.2.2.1
theorem g_649 {w : MWd} (h : Gr w) : wFR w 649 128 = some (20, 12, 134) := h.2.2.2.2.2.2.2.2.2.2.2.2.2.2.2.2.2.2.2.2.2.2.2.2.2.2.2.2.2.2.2.2.2.1
theorem g_650 {w : MWd} (h : Gr w) : wFR w 650 128 = some (20, 360, 135) := h.2.2.2.2.2.2.2.2.2.2.2.2.2.2.2.2.2.2.2.2.2.2.2.2.2.2.2.2.2.2.2.2.2.2.1
theorem g_651 {w : MWd} (h : Gr w) : wFR w 651 128 = some (20, 360, 136) := h.2.2.2.2.2.2.2.2.2.2.2.2.2.2.2.2.2.2.2.2.2.2.2.2.2.2.2.2.2.2.2.2.2.2.2.1
theorem g_652 {w : MWd} (h : Gr w) : wFR w 652 128 = some (20, 12, 137) := h.2.2.2.2.2.2.2.2.2.2.2.2.2.2.2.2.2.2.2.2.2.2.2.2.2.2.2.2.2.2.2.2.2.2.2.2.1
theorem g_653 {w : MWd} (h : Gr w) : wFR w 653 128 = some (20, 12, 138) := h.2.2.2.2.2.2.2.2.2.2.2.2.2.2.2.2.2.2.2.2.2.2.2.2.2.2.2.2.2.2.2.2.2.2.2.2.2.1
theorem g_654 {w : MWd} (h : Gr w) : wFR w 654 128 = some (20, 12, 139) := h.2.2.2.2.2.2.2.2.2.2.2.2.2.2.2.2.2.2.2.2.2.2.2.2.2.2.2.2.2.2.2.2.2.2.2.2.2.2.1
theorem g_655 {w : MWd} (h : Gr w) : wFR w 655 128 = some (20, 12, 140) := h.2.2.2.2.2.2.2.2.2.2.2.2.2.2.2.2.2.2.2.2.2.2.2.2.2.2.2.2.2.2.2.2.2.2.2.2.2.2.2.1
theorem g_656 {w : MWd} (h : Gr w) : wFR w 656 128 = some (22, 12, 141) := h.2.2.2.2.2.2.2.2.2.2.2.2.2.2.2.2.2.2.2.2.2.2.2.2.2.2.2.2.2.2.2.2.2.2.2.2.2.2.2.2.1
theorem g_657 {w : MWd} (h : Gr w) : wFR w 657 128 = some (20, 12, 142) := h.2.2.2.2.2.2.2.2.2.2.2.2.2.2.2.2.2.2.2.2.2.2.2.2.2.2.2.2.2.2.2.2.2.2.2.2.2.2.2.2.2.1
theorem g_665 {w : MWd} (h : Gr w) : wFR w 665 128 = some (20, 4, 143) := h.2.2.2.2.2.2.2.2.2.2.2.2.2.2.2.2.2.2.2.2.2.2.2.2.2.2.2.2.2.2.2.2.2.2.2.2.2.2.2.2.2.2.1
theorem g_666 {w : MWd} (h : Gr w) : wFR w 666 128 = some (25, 4, 144) := h.2.2.2.2.2.2.2.2.2.2.2.2.2.2.2.2.2.2.2.2.2.2.2.2.2.2.2.2.2.2.2.2.2.2.2.2.2.2.2.2.2.2.2.1
theorem g_667 {w : MWd} (h : Gr w) : wFR w 667 128 = some (20, 4, 149) := h.2.2.2.2.2.2.2.2.2.2.2.2.2.2.2.2.2.2.2.2.2.2.2.2.2.2.2.2.2.2.2.2.2.2.2.2.2.2.2.2.2.2.2.2.1
theorem g_668 {w : MWd} (h : Gr w) : wFR w 668 128 = some (25, 4, 150) := h.2.2.2.2.2.2.2.2.2.2.2.2.2.2.2.2.2.2.2.2.2.2.2.2.2.2.2.2.2.2.2.2.2.2.2.2.2.2.2.2.2.2.2.2.2.1
theorem g_670 {w : MWd} (h : Gr w) : wFR w 670 128 = some (20, 1212, 155) := h.2.2.2.2.2.2.2.2.2.2.2.2.2.2.2.2.2.2.2.2.2.2.2.2.2.2.2.2.2.2.2.2.2.2.2.2.2.2.2.2.2.2.2.2.2.2.1
theorem g_671 {w : MWd} (h : Gr w) : wFR w 671 128 = some (20, 100, 156) := h.2.2.2.2.2.2.2.2.2.2.2.2.2.2.2.2.2.2.2.2.2.2.2.2.2.2.2.2.2.2.2.2.2.2.2.2.2.2.2.2.2.2.2.2.2.2.2.1
theorem g_672 {w : MWd} (h : Gr w) : wFR w 672 128 = some (20, 800, 157) := h.2.2.2.2.2.2.2.2.2.2.2.2.2.2.2.2.2.2.2.2.2.2.2.2.2.2.2.2.2.2.2.2.2.2.2.2.2.2.2.2.2.2.2.2.2.2.2.2.1
theorem g_673 {w : MWd} (h : Gr w) : wFR w 673 128 = some (20, 101, 158) := h.2.2.2.2.2.2.2.2.2.2.2.2.2.2.2.2.2.2.2.2.2.2.2.2.2.2.2.2.2.2.2.2.2.2.2.2.2.2.2.2.2.2.2.2.2.2.2.2.2.1
theorem g_674 {w : MWd} (h : Gr w) : wFR w 674 128 = some (20, 100, 159) := h.2.2.2.2.2.2.2.2.2.2.2.2.2.2.2.2.2.2.2.2.2.2.2.2.2.2.2.2.2.2.2.2.2.2.2.2.2.2.2.2.2.2.2.2.2.2.2.2.2.2.1
theorem g_675 {w : MWd} (h : Gr w) : wFR w 675 128 = some (21, 100, 160) := h.2.2.2.2.2.2.2.2.2.2.2.2.2.2.2.2.2.2.2.2.2.2.2.2.2.2.2.2.2.2.2.2.2.2.2.2.2.2.2.2.2.2.2.2.2.2.2.2.2.2.2.1
theorem g_676 {w : MWd} (h : Gr w) : wFR w 676 128 = some (21, 100, 161) := h.2.2.2.2.2.2.2.2.2.2.2.2.2.2.2.2.2.2.2.2.2.2.2.2.2.2.2.2.2.2.2.2.2.2.2.2.2.2.2.2.2.2.2.2.2.2.2.2.2.2.2.2.1
theorem g_677 {w : MWd} (h : Gr w) : wFR w 677 128 = some (20, 100, 162) := h.2.2.2.2.2.2.2.2.2.2.2.2.2.2.2.2.2.2.2.2.2.2.2.2.2.2.2.2.2.2.2.2.2.2.2.2.2.2.2.2.2.2.2.2.2.2.2.2.2.2.2.2.2.1
theorem g_679 {w : MWd} (h : Gr w) : wFR w 679 128 = some (20, 2000, 163) := h.2.2.2.2.2.2.2.2.2.2.2.2.2.2.2.2.2.2.2.2.2.2.2.2.2.2.2.2.2.2.2.2.2.2.2.2.2.2.2.2.2.2.2.2.2.2.2.2.2.2.2.2.2.2.1
theorem g_680 {w : MWd} (h : Gr w) : wFR w 680 128 = some (20, 4, 164) := h.2.2.2.2.2.2.2.2.2.2.2.2.2.2.2.2.2.2.2.2.2.2.2.2.2.2.2.2.2.2.2.2.2.2.2.2.2.2.2.2.2.2.2.2.2.2.2.2.2.2.2.2.2.2.2.1
theorem g_681 {w : MWd} (h : Gr w) : wFR w 681 128 = some (22, 1001, 165) := h.2.2.2.2.2.2.2.2.2.2.2.2.2.2.2.2.2.2.2.2.2.2.2.2.2.2.2.2.2.2.2.2.2.2.2.2.2.2.2.2.2.2.2.2.2.2.2.2.2.2.2.2.2.2.2.2
theorem g_row {w : MWd} (h : Gr w) {r : Nat} (hr : r < 12) : wAR w 5 r = some (5, 0, 6 + 3 * r) := (h.2.1 r hr).1
theorem g_320 {w : MWd} (h : Gr w) {r : Nat} (hr : r < 12) : wFR w 320 (6 + 3 * r) = some (20, 30, 7 + 3 * r) := (h.2.1 r hr).2.1
theorem g_321 {w : MWd} (h : Gr w) {r : Nat} (hr : r < 12) : wFR w 321 (6 + 3 * r) = some (20, 8, 8 + 3 * r) := (h.2.1 r hr).2.2
theorem g_mach {w : MWd} (h : Gr w) {m : Nat} (hm : m < 4) : wAR w 144 m = some (20, 900, 145 + m) := h.2.2.2.2.1 m hm
theorem g_made {w : MWd} (h : Gr w) {m : Nat} (hm : m < 4) : wAR w 150 m = some (20, 900, 151 + m) := h.2.2.2.2.2.1 m hm
theorem g_set {w : MWd} (h : Gr w) {c : Nat} (hc : c = 60 ∨ c = 94) : grS w c := by
  rcases hc with rfl | rfl
  · exact h.2.2.1
  · exact h.2.2.2.1
theorem gm_64 {w : MWd} {b : Nat} (h : grM w b) : wFR w 64 b = some (20, 800, b + 1) := h.1
theorem gm_65 {w : MWd} {b : Nat} (h : grM w b) : wFR w 65 b = some (20, 100, b + 2) := h.2.1
theorem gm_66 {w : MWd} {b : Nat} (h : grM w b) : wFR w 66 b = some (20, 100, b + 3) := h.2.2.1
theorem gm_67 {w : MWd} {b : Nat} (h : grM w b) : wFR w 67 b = some (20, 100, b + 4) := h.2.2.2.1
theorem gm_68 {w : MWd} {b : Nat} (h : grM w b) : wFR w 68 b = some (20, 100, b + 5) := h.2.2.2.2.1
theorem gm_69 {w : MWd} {b : Nat} (h : grM w b) : wFR w 69 b = some (21, 100, b + 6) := h.2.2.2.2.2.1
theorem gm_70 {w : MWd} {b : Nat} (h : grM w b) : wFR w 70 b = some (21, 100, b + 7) := h.2.2.2.2.2.2
/-- two stores with one graph -/
def Sg (w w' : MWd) : Prop := wN w ≤ wN w' ∧ (∀ k a, a < wN w → wFR w' k a = wFR w k a) ∧ (∀ a j, a < wN w → wAR w' a j = wAR w a j)
theorem Sg_grM {w w' : MWd} (h : Sg w w') {b : Nat} (hb : b < wN w) (g : grM w b) : grM w' b := by
  unfold grM at g ⊢
  rw [h.2.1 _ _ hb, h.2.1 _ _ hb, h.2.1 _ _ hb, h.2.1 _ _ hb, h.2.1 _ _ hb, h.2.1 _ _ hb, h.2.1 _ _ hb]
  exact g
theorem Sg_grS {w w' : MWd} (h : Sg w w') {c : Nat} (hb : c + 34 ≤ wN w) (g : grS w c) : grS w' c := by
  unfold grS at g ⊢
  rw [h.2.1 _ _ (by omega)]
  refine ⟨g.1, fun m hm => ?_⟩
  rw [h.2.2 _ _ (by omega)]
  exact ⟨(g.2 m hm).1, Sg_grM h (by omega) (g.2 m hm).2⟩
theorem Sg_Gr {w w' : MWd} (h : Sg w w') (g : Gr w) : Gr w' := by
  obtain ⟨h0, h1, h2, h3, h4, h5, h6⟩ := g
  refine ⟨Nat.le_trans h0 h.1, fun r hr => ?_, Sg_grS h (by omega) h2, Sg_grS h (by omega) h3, fun m hm => ?_, fun m hm => ?_, ?_⟩
  · rw [h.2.2 _ _ (by omega), h.2.1 _ _ (by omega), h.2.1 _ _ (by omega)]
    exact h1 r hr
  · rw [h.2.2 _ _ (by omega)]; exact h4 m hm
  · rw [h.2.2 _ _ (by omega)]; exact h5 m hm
  · rw [h.2.1 512 1 (by omega), h.2.1 513 1 (by omega), h.2.1 514 1 (by omega), h.2.1 515 1 (by omega), h.2.1 516 1 (by omega), h.2.1 448 2 (by omega), h.2.1 384 4 (by omega), h.2.1 256 42 (by omega), h.2.1 257 42 (by omega), h.2.1 258 42 (by omega), h.2.1 259 42 (by omega), h.2.1 192 47 (by omega), h.2.1 193 47 (by omega), h.2.1 194 47 (by omega), h.2.1 195 47 (by omega), h.2.1 196 47 (by omega), h.2.1 197 47 (by omega), h.2.1 198 47 (by omega), h.2.1 199 47 (by omega), h.2.1 200 47 (by omega), h.2.1 0 57 (by omega), h.2.1 1 57 (by omega), h.2.1 641 128 (by omega), h.2.1 645 128 (by omega), h.2.1 646 128 (by omega), h.2.1 647 128 (by omega), h.2.1 648 128 (by omega), h.2.1 649 128 (by omega), h.2.1 650 128 (by omega), h.2.1 651 128 (by omega), h.2.1 652 128 (by omega), h.2.1 653 128 (by omega), h.2.1 654 128 (by omega), h.2.1 655 128 (by omega), h.2.1 656 128 (by omega), h.2.1 657 128 (by omega), h.2.1 665 128 (by omega), h.2.1 666 128 (by omega), h.2.1 667 128 (by omega), h.2.1 668 128 (by omega), h.2.1 670 128 (by omega), h.2.1 671 128 (by omega), h.2.1 672 128 (by omega), h.2.1 673 128 (by omega), h.2.1 674 128 (by omega), h.2.1 675 128 (by omega), h.2.1 676 128 (by omega), h.2.1 677 128 (by omega), h.2.1 679 128 (by omega), h.2.1 680 128 (by omega), h.2.1 681 128 (by omega)]
    exact h6
set_option maxRecDepth 100000 in
theorem tStart_N (xs : Nat → Int32) : wN (tStart xs) = 167 ∧ wC (tStart xs) = 166 ∧ wS (tStart xs) ≤ 40000 := ⟨rfl, rfl, Nat.le_of_ble_eq_true rfl⟩
set_option maxRecDepth 100000 in
theorem tStart_Gr (xs : Nat → Int32) : Gr (tStart xs) := by
  refine ⟨Nat.le_refl 167, fun r hr => ?_, ?_, ?_, fun m hm => ?_, fun m hm => ?_, ?_⟩
  · have h : r = 0 ∨ r = 1 ∨ r = 2 ∨ r = 3 ∨ r = 4 ∨ r = 5 ∨ r = 6 ∨ r = 7 ∨ r = 8 ∨ r = 9 ∨ r = 10 ∨ r = 11 := by omega
    rcases h with rfl | rfl | rfl | rfl | rfl | rfl | rfl | rfl | rfl | rfl | rfl | rfl <;> exact ⟨rfl, rfl, rfl⟩
  · refine ⟨rfl, fun m hm => ?_⟩
    have h : m = 0 ∨ m = 1 ∨ m = 2 ∨ m = 3 := by omega
    rcases h with rfl | rfl | rfl | rfl <;> exact ⟨rfl, rfl, rfl, rfl, rfl, rfl, rfl, rfl⟩
  · refine ⟨rfl, fun m hm => ?_⟩
    have h : m = 0 ∨ m = 1 ∨ m = 2 ∨ m = 3 := by omega
    rcases h with rfl | rfl | rfl | rfl <;> exact ⟨rfl, rfl, rfl, rfl, rfl, rfl, rfl, rfl⟩
  · have h : m = 0 ∨ m = 1 ∨ m = 2 ∨ m = 3 := by omega
    rcases h with rfl | rfl | rfl | rfl <;> exact rfl
  · have h : m = 0 ∨ m = 1 ∨ m = 2 ∨ m = 3 := by omega
    rcases h with rfl | rfl | rfl | rfl <;> exact rfl
  · exact ⟨rfl, rfl, rfl, rfl, rfl, rfl, rfl, rfl, rfl, rfl, rfl, rfl, rfl, rfl, rfl, rfl, rfl, rfl, rfl, rfl, rfl, rfl, rfl, rfl, rfl, rfl, rfl, rfl, rfl, rfl, rfl, rfl, rfl, rfl, rfl, rfl, rfl, rfl, rfl, rfl, rfl, rfl, rfl, rfl, rfl, rfl, rfl, rfl, rfl, rfl, rfl⟩
set_option maxRecDepth 100000 in
theorem tStart_sw (xs : Nat → Int32) : wFR (tStart xs) 517 1 = some (2, 0, 60) ∧ wFR (tStart xs) 518 1 = some (2, 0, 94) := ⟨rfl, rfl⟩
