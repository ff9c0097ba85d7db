/-! What a caught throw comes to (made by gen53.py). -/
theorem x_127_53_3 {d : Nat} {rest : List MV} {Q : MRes → MWd → Prop} {w1 : MWd} {q : Ptr} {p0 : Option Ptr} {x1 : Int32} {x2 : Int32} {x3 : Int32} {x4 : Int32} : mK d 127 53 56 [some (vR p0), some (vI x1), some (vI x2), some (vI x3), some (vI x4), none] rest Q (.inr (3, some q)) w1 = mR d w1 127 72 [some (vR p0), some (vI x1), some (vI x2), some (vI x3), some (vI x4), none] [vP q] Q := by
  unfold mK
  dsimp only
  rw [show mj_hs (mj_o 127) 53 3 (mj_h 127) = some 72 by decide +kernel]
theorem x_167_11_0 {d : Nat} {rest : List MV} {Q : MRes → MWd → Prop} {w1 : MWd} {p0 : Option Ptr} {x1 : Int32} {x2 : Int32} {x3 : Int32} {x4 : Int32} {x5 : Int32} {p6 : Option Ptr} : mK d 167 11 14 [some (vR p0), some (vI x1), some (vI x2), some (vI x3), some (vI x4), some (vI x5), some (vR p6), none] rest Q (.inr (0, none)) w1 = mR d w1 167 21 [some (vR p0), some (vI x1), some (vI x2), some (vI x3), some (vI x4), some (vI x5), some (vR p6), none] [] Q := by
  unfold mK
  dsimp only
  rw [show mj_hs (mj_o 167) 11 0 (mj_h 167) = some 19 by decide +kernel]
  dsimp only
  rw [show mj_fetch 167 19 = some (.astore 7, 21) by decide +kernel]
  dsimp only
  exact propext ⟨fun h => h.2.2, fun h => ⟨Nat.le_of_ble_eq_true rfl, rfl, h⟩⟩
theorem x_168_4_1 {d : Nat} {rest : List MV} {Q : MRes → MWd → Prop} {w1 : MWd} {p0 : Option Ptr} {x1 : Int32} {p2 : Option Ptr} : mK d 168 4 7 [some (vR p0), some (vI x1), some (vR p2), none] rest Q (.inr (1, none)) w1 = mR d w1 168 13 [some (vR p0), some (vI x1), some (vR p2), none] [] Q := by
  unfold mK
  dsimp only
  rw [show mj_hs (mj_o 168) 4 1 (mj_h 168) = some 12 by decide +kernel]
  dsimp only
  rw [show mj_fetch 168 12 = some (.astore_n 3, 13) by decide +kernel]
  dsimp only
  exact propext ⟨fun h => h.2.2, fun h => ⟨Nat.le_of_ble_eq_true rfl, rfl, h⟩⟩
theorem x_169_7_1 {d : Nat} {rest : List MV} {Q : MRes → MWd → Prop} {w1 : MWd} {p0 : Option Ptr} {x1 : Int32} {x2 : Int32} {x3 : Int32} {p4 : Option Ptr} : mK d 169 7 10 [some (vR p0), some (vI x1), some (vI x2), some (vI x3), some (vR p4), none] rest Q (.inr (1, none)) w1 = mR d w1 169 17 [some (vR p0), some (vI x1), some (vI x2), some (vI x3), some (vR p4), none] [] Q := by
  unfold mK
  dsimp only
  rw [show mj_hs (mj_o 169) 7 1 (mj_h 169) = some 15 by decide +kernel]
  dsimp only
  rw [show mj_fetch 169 15 = some (.astore 5, 17) by decide +kernel]
  dsimp only
  exact propext ⟨fun h => h.2.2, fun h => ⟨Nat.le_of_ble_eq_true rfl, rfl, h⟩⟩
theorem x_169_7_0 {d : Nat} {rest : List MV} {Q : MRes → MWd → Prop} {w1 : MWd} {p0 : Option Ptr} {x1 : Int32} {x2 : Int32} {x3 : Int32} {p4 : Option Ptr} : mK d 169 7 10 [some (vR p0), some (vI x1), some (vI x2), some (vI x3), some (vR p4), none] rest Q (.inr (0, none)) w1 = mR d w1 169 21 [some (vR p0), some (vI x1), some (vI x2), some (vI x3), some (vR p4), none] [] Q := by
  unfold mK
  dsimp only
  rw [show mj_hs (mj_o 169) 7 0 (mj_h 169) = some 19 by decide +kernel]
  dsimp only
  rw [show mj_fetch 169 19 = some (.astore 5, 21) by decide +kernel]
  dsimp only
  exact propext ⟨fun h => h.2.2, fun h => ⟨Nat.le_of_ble_eq_true rfl, rfl, h⟩⟩
theorem x_170_5_2 {d : Nat} {rest : List MV} {Q : MRes → MWd → Prop} {w1 : MWd} {p0 : Option Ptr} {x1 : Int32} {x2 : Int32} {p3 : Option Ptr} : mK d 170 5 8 [some (vR p0), some (vI x1), some (vI x2), some (vR p3), none] rest Q (.inr (2, none)) w1 = mR d w1 170 15 [some (vR p0), some (vI x1), some (vI x2), some (vR p3), none] [] Q := by
  unfold mK
  dsimp only
  rw [show mj_hs (mj_o 170) 5 2 (mj_h 170) = some 13 by decide +kernel]
  dsimp only
  rw [show mj_fetch 170 13 = some (.astore 4, 15) by decide +kernel]
  dsimp only
  exact propext ⟨fun h => h.2.2, fun h => ⟨Nat.le_of_ble_eq_true rfl, rfl, h⟩⟩
theorem x_171_4_2 {d : Nat} {rest : List MV} {Q : MRes → MWd → Prop} {w1 : MWd} {p0 : Option Ptr} {x1 : Int32} {p2 : Option Ptr} : mK d 171 4 7 [some (vR p0), some (vI x1), some (vR p2), none] rest Q (.inr (2, none)) w1 = mR d w1 171 13 [some (vR p0), some (vI x1), some (vR p2), none] [] Q := by
  unfold mK
  dsimp only
  rw [show mj_hs (mj_o 171) 4 2 (mj_h 171) = some 12 by decide +kernel]
  dsimp only
  rw [show mj_fetch 171 12 = some (.astore_n 3, 13) by decide +kernel]
  dsimp only
  exact propext ⟨fun h => h.2.2, fun h => ⟨Nat.le_of_ble_eq_true rfl, rfl, h⟩⟩
theorem x_172_3_0 {d : Nat} {rest : List MV} {Q : MRes → MWd → Prop} {w1 : MWd} {p0 : Option Ptr} {p1 : Option Ptr} : mK d 172 3 6 [some (vR p0), some (vR p1), none] rest Q (.inr (0, none)) w1 = mR d w1 172 12 [some (vR p0), some (vR p1), none] [] Q := by
  unfold mK
  dsimp only
  rw [show mj_hs (mj_o 172) 3 0 (mj_h 172) = some 11 by decide +kernel]
  dsimp only
  rw [show mj_fetch 172 11 = some (.astore_n 2, 12) by decide +kernel]
  dsimp only
  exact propext ⟨fun h => h.2.2, fun h => ⟨Nat.le_of_ble_eq_true rfl, rfl, h⟩⟩
theorem x_173_4_2 {d : Nat} {rest : List MV} {Q : MRes → MWd → Prop} {w1 : MWd} {p0 : Option Ptr} {x1 : Int32} {p2 : Option Ptr} : mK d 173 4 7 [some (vR p0), some (vI x1), some (vR p2), none] rest Q (.inr (2, none)) w1 = mR d w1 173 13 [some (vR p0), some (vI x1), some (vR p2), none] [] Q := by
  unfold mK
  dsimp only
  rw [show mj_hs (mj_o 173) 4 2 (mj_h 173) = some 12 by decide +kernel]
  dsimp only
  rw [show mj_fetch 173 12 = some (.astore_n 3, 13) by decide +kernel]
  dsimp only
  exact propext ⟨fun h => h.2.2, fun h => ⟨Nat.le_of_ble_eq_true rfl, rfl, h⟩⟩
theorem x_174_7_2 {d : Nat} {rest : List MV} {Q : MRes → MWd → Prop} {w1 : MWd} {p0 : Option Ptr} {x1 : Int32} {x2 : Int32} {x3 : Int32} {p4 : Option Ptr} : mK d 174 7 10 [some (vR p0), some (vI x1), some (vI x2), some (vI x3), some (vR p4), none] rest Q (.inr (2, none)) w1 = mR d w1 174 17 [some (vR p0), some (vI x1), some (vI x2), some (vI x3), some (vR p4), none] [] Q := by
  unfold mK
  dsimp only
  rw [show mj_hs (mj_o 174) 7 2 (mj_h 174) = some 15 by decide +kernel]
  dsimp only
  rw [show mj_fetch 174 15 = some (.astore 5, 17) by decide +kernel]
  dsimp only
  exact propext ⟨fun h => h.2.2, fun h => ⟨Nat.le_of_ble_eq_true rfl, rfl, h⟩⟩
theorem x_175_5_2 {d : Nat} {rest : List MV} {Q : MRes → MWd → Prop} {w1 : MWd} {p0 : Option Ptr} {x1 : Int32} {x2 : Int32} {p3 : Option Ptr} : mK d 175 5 8 [some (vR p0), some (vI x1), some (vI x2), some (vR p3), none] rest Q (.inr (2, none)) w1 = mR d w1 175 15 [some (vR p0), some (vI x1), some (vI x2), some (vR p3), none] [] Q := by
  unfold mK
  dsimp only
  rw [show mj_hs (mj_o 175) 5 2 (mj_h 175) = some 13 by decide +kernel]
  dsimp only
  rw [show mj_fetch 175 13 = some (.astore 4, 15) by decide +kernel]
  dsimp only
  exact propext ⟨fun h => h.2.2, fun h => ⟨Nat.le_of_ble_eq_true rfl, rfl, h⟩⟩
theorem x_176_4_2 {d : Nat} {rest : List MV} {Q : MRes → MWd → Prop} {w1 : MWd} {p0 : Option Ptr} {x1 : Int32} {p2 : Option Ptr} : mK d 176 4 7 [some (vR p0), some (vI x1), some (vR p2), none] rest Q (.inr (2, none)) w1 = mR d w1 176 20 [some (vR p0), some (vI x1), some (vR p2), none] [] Q := by
  unfold mK
  dsimp only
  rw [show mj_hs (mj_o 176) 4 2 (mj_h 176) = some 19 by decide +kernel]
  dsimp only
  rw [show mj_fetch 176 19 = some (.astore_n 3, 20) by decide +kernel]
  dsimp only
  exact propext ⟨fun h => h.2.2, fun h => ⟨Nat.le_of_ble_eq_true rfl, rfl, h⟩⟩
theorem x_177_5_2 {d : Nat} {rest : List MV} {Q : MRes → MWd → Prop} {w1 : MWd} {p0 : Option Ptr} {x1 : Int32} {x2 : Int32} {p3 : Option Ptr} : mK d 177 5 8 [some (vR p0), some (vI x1), some (vI x2), some (vR p3), none] rest Q (.inr (2, none)) w1 = mR d w1 177 14 [some (vR p0), some (vI x1), some (vI x2), some (vR p3), none] [] Q := by
  unfold mK
  dsimp only
  rw [show mj_hs (mj_o 177) 5 2 (mj_h 177) = some 12 by decide +kernel]
  dsimp only
  rw [show mj_fetch 177 12 = some (.astore 4, 14) by decide +kernel]
  dsimp only
  exact propext ⟨fun h => h.2.2, fun h => ⟨Nat.le_of_ble_eq_true rfl, rfl, h⟩⟩
theorem x_177_5_1 {d : Nat} {rest : List MV} {Q : MRes → MWd → Prop} {w1 : MWd} {p0 : Option Ptr} {x1 : Int32} {x2 : Int32} {p3 : Option Ptr} : mK d 177 5 8 [some (vR p0), some (vI x1), some (vI x2), some (vR p3), none] rest Q (.inr (1, none)) w1 = mR d w1 177 18 [some (vR p0), some (vI x1), some (vI x2), some (vR p3), none] [] Q := by
  unfold mK
  dsimp only
  rw [show mj_hs (mj_o 177) 5 1 (mj_h 177) = some 16 by decide +kernel]
  dsimp only
  rw [show mj_fetch 177 16 = some (.astore 4, 18) by decide +kernel]
  dsimp only
  exact propext ⟨fun h => h.2.2, fun h => ⟨Nat.le_of_ble_eq_true rfl, rfl, h⟩⟩
theorem x_178_5_2 {d : Nat} {rest : List MV} {Q : MRes → MWd → Prop} {w1 : MWd} {p0 : Option Ptr} {x1 : Int32} {x2 : Int32} {p3 : Option Ptr} : mK d 178 5 8 [some (vR p0), some (vI x1), some (vI x2), some (vR p3), none] rest Q (.inr (2, none)) w1 = mR d w1 178 15 [some (vR p0), some (vI x1), some (vI x2), some (vR p3), none] [] Q := by
  unfold mK
  dsimp only
  rw [show mj_hs (mj_o 178) 5 2 (mj_h 178) = some 13 by decide +kernel]
  dsimp only
  rw [show mj_fetch 178 13 = some (.astore 4, 15) by decide +kernel]
  dsimp only
  exact propext ⟨fun h => h.2.2, fun h => ⟨Nat.le_of_ble_eq_true rfl, rfl, h⟩⟩
theorem x_179_3_0 {d : Nat} {rest : List MV} {Q : MRes → MWd → Prop} {w1 : MWd} {p0 : Option Ptr} {p1 : Option Ptr} : mK d 179 3 6 [some (vR p0), some (vR p1), none] rest Q (.inr (0, none)) w1 = mR d w1 179 12 [some (vR p0), some (vR p1), none] [] Q := by
  unfold mK
  dsimp only
  rw [show mj_hs (mj_o 179) 3 0 (mj_h 179) = some 11 by decide +kernel]
  dsimp only
  rw [show mj_fetch 179 11 = some (.astore_n 2, 12) by decide +kernel]
  dsimp only
  exact propext ⟨fun h => h.2.2, fun h => ⟨Nat.le_of_ble_eq_true rfl, rfl, h⟩⟩
theorem x_180_5_2 {d : Nat} {rest : List MV} {Q : MRes → MWd → Prop} {w1 : MWd} {p0 : Option Ptr} {x1 : Int32} {x2 : Int32} {p3 : Option Ptr} : mK d 180 5 8 [some (vR p0), some (vI x1), some (vI x2), some (vR p3), none] rest Q (.inr (2, none)) w1 = mR d w1 180 15 [some (vR p0), some (vI x1), some (vI x2), some (vR p3), none] [] Q := by
  unfold mK
  dsimp only
  rw [show mj_hs (mj_o 180) 5 2 (mj_h 180) = some 13 by decide +kernel]
  dsimp only
  rw [show mj_fetch 180 13 = some (.astore 4, 15) by decide +kernel]
  dsimp only
  exact propext ⟨fun h => h.2.2, fun h => ⟨Nat.le_of_ble_eq_true rfl, rfl, h⟩⟩
theorem x_181_4_2 {d : Nat} {rest : List MV} {Q : MRes → MWd → Prop} {w1 : MWd} {p0 : Option Ptr} {x1 : Int32} {p2 : Option Ptr} : mK d 181 4 7 [some (vR p0), some (vI x1), some (vR p2), none] rest Q (.inr (2, none)) w1 = mR d w1 181 13 [some (vR p0), some (vI x1), some (vR p2), none] [] Q := by
  unfold mK
  dsimp only
  rw [show mj_hs (mj_o 181) 4 2 (mj_h 181) = some 12 by decide +kernel]
  dsimp only
  rw [show mj_fetch 181 12 = some (.astore_n 3, 13) by decide +kernel]
  dsimp only
  exact propext ⟨fun h => h.2.2, fun h => ⟨Nat.le_of_ble_eq_true rfl, rfl, h⟩⟩
