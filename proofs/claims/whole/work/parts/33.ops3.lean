/-! stock, has -/
theorem zStB {M : Mm} {B : Nat} (h : Sk M) (hB : isB B) : zSt M (B + 2) (B + 3) := ⟨of_eq_true (bO2 h hB), bR2_0 h hB, of_eq_true (bO3 h hB), bL3 h hB, by omega⟩
theorem xStock_bad {X : List Int32} {d : Nat} {M : Mm} (h : Sk M) (m t n : Int32) (hb : zwt m 0 (mI M nowB 1 - 1) = 0 ∨ zwt t 0 7 = 0 ∨ zwt n 0 99 = 0) : zca X zML (d + 3) 31 [.ref 1, .int m, .int t, .int n] M (some (.int (-1000000001))) M := by
  refine iX11_stock ⟨rfl, Nat.le_of_ble_eq_true rfl⟩ (zgo_in 200 ?_)
  dsimp only [zen, zrep, zw, zLo, zSe, zi1, zi2, zl2, zr1, zj, zsw, zpop, zkd, zLn, zc1, Nat.reduceSub, pX11_stock]
  rcases (zwt01 _ _ _ : zwt m 0 (mI M nowB 1 - 1) = 0 ∨ zwt m 0 (mI M nowB 1 - 1) = 1) with q0 | q0
  · try simp only [kO_1 h, kN h, bO0 h nowB_is, true_and, and_true, zO_wI, mR_wI, mL_wI, one_ne, if_true, if_false, q0]
    repeat' first
      | exact trivial
      | exact rfl
      | assumption
      | exact ⟨Nat.le_of_ble_eq_true rfl, Nat.le_of_ble_eq_true rfl, Nat.le_of_ble_eq_true rfl⟩
      | exact zwt01 _ _ _
      | decide
      | (refine ⟨_, _, xIsModel h _, ?_⟩; try simp only [kO_1 h, kN h, bO0 h nowB_is, true_and, and_true, zO_wI, mR_wI, mL_wI, one_ne, if_true, if_false, q0])
      | (refine ⟨_, xIsModel h _, ?_⟩; try simp only [kO_1 h, kN h, bO0 h nowB_is, true_and, and_true, zO_wI, mR_wI, mL_wI, one_ne, if_true, if_false, q0])
      | (refine ⟨_, _, xIsSort _, ?_⟩; try simp only [kO_1 h, kN h, bO0 h nowB_is, true_and, and_true, zO_wI, mR_wI, mL_wI, one_ne, if_true, if_false, q0])
      | (refine ⟨_, xIsSort _, ?_⟩; try simp only [kO_1 h, kN h, bO0 h nowB_is, true_and, and_true, zO_wI, mR_wI, mL_wI, one_ne, if_true, if_false, q0])
      | (refine ⟨_, _, sWithin _ _ _, ?_⟩; try simp only [kO_1 h, kN h, bO0 h nowB_is, true_and, and_true, zO_wI, mR_wI, mL_wI, one_ne, if_true, if_false, q0])
      | (refine ⟨_, sWithin _ _ _, ?_⟩; try simp only [kO_1 h, kN h, bO0 h nowB_is, true_and, and_true, zO_wI, mR_wI, mL_wI, one_ne, if_true, if_false, q0])
      | apply And.intro
      | split
      | (simp_all only [kO_1 h, kN h, bO0 h nowB_is, true_and, and_true, zO_wI, mR_wI, mL_wI, one_ne, if_true, if_false, q0]; done)
  · have hb := hb.resolve_left (by rw [q0]; decide)
    rcases (zwt01 _ _ _ : zwt t 0 7 = 0 ∨ zwt t 0 7 = 1) with q1 | q1
    · try simp only [kO_1 h, kN h, bO0 h nowB_is, true_and, and_true, zO_wI, mR_wI, mL_wI, one_ne, if_true, if_false, q0, q1]
      repeat' first
        | exact trivial
        | exact rfl
        | assumption
        | exact ⟨Nat.le_of_ble_eq_true rfl, Nat.le_of_ble_eq_true rfl, Nat.le_of_ble_eq_true rfl⟩
        | exact zwt01 _ _ _
        | decide
        | (refine ⟨_, _, xIsModel h _, ?_⟩; try simp only [kO_1 h, kN h, bO0 h nowB_is, true_and, and_true, zO_wI, mR_wI, mL_wI, one_ne, if_true, if_false, q0, q1])
        | (refine ⟨_, xIsModel h _, ?_⟩; try simp only [kO_1 h, kN h, bO0 h nowB_is, true_and, and_true, zO_wI, mR_wI, mL_wI, one_ne, if_true, if_false, q0, q1])
        | (refine ⟨_, _, xIsSort _, ?_⟩; try simp only [kO_1 h, kN h, bO0 h nowB_is, true_and, and_true, zO_wI, mR_wI, mL_wI, one_ne, if_true, if_false, q0, q1])
        | (refine ⟨_, xIsSort _, ?_⟩; try simp only [kO_1 h, kN h, bO0 h nowB_is, true_and, and_true, zO_wI, mR_wI, mL_wI, one_ne, if_true, if_false, q0, q1])
        | (refine ⟨_, _, sWithin _ _ _, ?_⟩; try simp only [kO_1 h, kN h, bO0 h nowB_is, true_and, and_true, zO_wI, mR_wI, mL_wI, one_ne, if_true, if_false, q0, q1])
        | (refine ⟨_, sWithin _ _ _, ?_⟩; try simp only [kO_1 h, kN h, bO0 h nowB_is, true_and, and_true, zO_wI, mR_wI, mL_wI, one_ne, if_true, if_false, q0, q1])
        | apply And.intro
        | split
        | (simp_all only [kO_1 h, kN h, bO0 h nowB_is, true_and, and_true, zO_wI, mR_wI, mL_wI, one_ne, if_true, if_false, q0, q1]; done)
    · have hb := hb.resolve_left (by rw [q1]; decide)
      try simp only [kO_1 h, kN h, bO0 h nowB_is, true_and, and_true, zO_wI, mR_wI, mL_wI, one_ne, if_true, if_false, q0, q1, hb]
      repeat' first
        | exact trivial
        | exact rfl
        | assumption
        | exact ⟨Nat.le_of_ble_eq_true rfl, Nat.le_of_ble_eq_true rfl, Nat.le_of_ble_eq_true rfl⟩
        | exact zwt01 _ _ _
        | decide
        | (refine ⟨_, _, xIsModel h _, ?_⟩; try simp only [kO_1 h, kN h, bO0 h nowB_is, true_and, and_true, zO_wI, mR_wI, mL_wI, one_ne, if_true, if_false, q0, q1, hb])
        | (refine ⟨_, xIsModel h _, ?_⟩; try simp only [kO_1 h, kN h, bO0 h nowB_is, true_and, and_true, zO_wI, mR_wI, mL_wI, one_ne, if_true, if_false, q0, q1, hb])
        | (refine ⟨_, _, xIsSort _, ?_⟩; try simp only [kO_1 h, kN h, bO0 h nowB_is, true_and, and_true, zO_wI, mR_wI, mL_wI, one_ne, if_true, if_false, q0, q1, hb])
        | (refine ⟨_, xIsSort _, ?_⟩; try simp only [kO_1 h, kN h, bO0 h nowB_is, true_and, and_true, zO_wI, mR_wI, mL_wI, one_ne, if_true, if_false, q0, q1, hb])
        | (refine ⟨_, _, sWithin _ _ _, ?_⟩; try simp only [kO_1 h, kN h, bO0 h nowB_is, true_and, and_true, zO_wI, mR_wI, mL_wI, one_ne, if_true, if_false, q0, q1, hb])
        | (refine ⟨_, sWithin _ _ _, ?_⟩; try simp only [kO_1 h, kN h, bO0 h nowB_is, true_and, and_true, zO_wI, mR_wI, mL_wI, one_ne, if_true, if_false, q0, q1, hb])
        | apply And.intro
        | split
        | (simp_all only [kO_1 h, kN h, bO0 h nowB_is, true_and, and_true, zO_wI, mR_wI, mL_wI, one_ne, if_true, if_false, q0, q1, hb]; done)
theorem xStock_ok {X : List Int32} {d : Nat} {M : Mm} (h : Sk M) {i k : Nat} (hi : i < 6) (hk : k < 8) (n : Int32) (g1 : zwt (nI i) 0 (mI M nowB 1 - 1) = 1) (g2 : zwt (nI k) 0 7 = 1) (g3 : zwt n 0 99 = 1) : zca X zML (d + 3) 31 [.ref 1, .int (nI i), .int (nI k), .int n] M (some (.int (mI M (nowB + 3) (zce (mI M (nowB + 2) 1) i k)))) (wI M (nowB + 3) (zce (mI M (nowB + 2) 1) i k) n) := by
  refine iX11_stock ⟨rfl, Nat.le_of_ble_eq_true rfl⟩ (zgo_in 200 ?_)
  dsimp only [zen, zrep, zw, zLo, zSe, zi1, zi2, zl2, zr1, zj, zsw, zpop, zkd, zLn, zc1, Nat.reduceSub, pX11_stock]
  try simp only [kO_1 h, kN h, bO0 h nowB_is, true_and, and_true, zO_wI, mR_wI, mL_wI, one_ne, if_true, if_false, bR0_2 h nowB_is, bO2 h nowB_is, g1, g2, g3]
  repeat' first
    | exact trivial
    | exact rfl
    | assumption
    | exact ⟨Nat.le_of_ble_eq_true rfl, Nat.le_of_ble_eq_true rfl, Nat.le_of_ble_eq_true rfl⟩
    | exact zwt01 _ _ _
    | decide
    | (refine ⟨_, _, xIsModel h _, ?_⟩; try simp only [kO_1 h, kN h, bO0 h nowB_is, true_and, and_true, zO_wI, mR_wI, mL_wI, one_ne, if_true, if_false, bR0_2 h nowB_is, bO2 h nowB_is, g1, g2, g3])
    | (refine ⟨_, xIsModel h _, ?_⟩; try simp only [kO_1 h, kN h, bO0 h nowB_is, true_and, and_true, zO_wI, mR_wI, mL_wI, one_ne, if_true, if_false, bR0_2 h nowB_is, bO2 h nowB_is, g1, g2, g3])
    | (refine ⟨_, _, xIsSort _, ?_⟩; try simp only [kO_1 h, kN h, bO0 h nowB_is, true_and, and_true, zO_wI, mR_wI, mL_wI, one_ne, if_true, if_false, bR0_2 h nowB_is, bO2 h nowB_is, g1, g2, g3])
    | (refine ⟨_, xIsSort _, ?_⟩; try simp only [kO_1 h, kN h, bO0 h nowB_is, true_and, and_true, zO_wI, mR_wI, mL_wI, one_ne, if_true, if_false, bR0_2 h nowB_is, bO2 h nowB_is, g1, g2, g3])
    | (refine ⟨_, _, sWithin _ _ _, ?_⟩; try simp only [kO_1 h, kN h, bO0 h nowB_is, true_and, and_true, zO_wI, mR_wI, mL_wI, one_ne, if_true, if_false, bR0_2 h nowB_is, bO2 h nowB_is, g1, g2, g3])
    | (refine ⟨_, sWithin _ _ _, ?_⟩; try simp only [kO_1 h, kN h, bO0 h nowB_is, true_and, and_true, zO_wI, mR_wI, mL_wI, one_ne, if_true, if_false, bR0_2 h nowB_is, bO2 h nowB_is, g1, g2, g3])
    | (refine ⟨_, _, sSetTo (zStB h nowB_is) hi hk _, ?_⟩; try simp only [kO_1 h, kN h, bO0 h nowB_is, true_and, and_true, zO_wI, mR_wI, mL_wI, one_ne, if_true, if_false, bR0_2 h nowB_is, bO2 h nowB_is, g1, g2, g3])
    | (refine ⟨_, sSetTo (zStB h nowB_is) hi hk _, ?_⟩; try simp only [kO_1 h, kN h, bO0 h nowB_is, true_and, and_true, zO_wI, mR_wI, mL_wI, one_ne, if_true, if_false, bR0_2 h nowB_is, bO2 h nowB_is, g1, g2, g3])
    | apply And.intro
    | split
    | (simp_all only [kO_1 h, kN h, bO0 h nowB_is, true_and, and_true, zO_wI, mR_wI, mL_wI, one_ne, if_true, if_false, bR0_2 h nowB_is, bO2 h nowB_is, g1, g2, g3]; done)
theorem xHas_bad {X : List Int32} {d : Nat} {M : Mm} (h : Sk M) (m t : Int32) (hb : zwt m 0 (mI M nowB 1 - 1) = 0 ∨ zwt t 0 7 = 0) : zca X zML (d + 3) 36 [.ref 1, .int m, .int t] M (some (.int (-1000000001))) M := by
  refine iX11_has ⟨rfl, Nat.le_of_ble_eq_true rfl⟩ (zgo_in 200 ?_)
  dsimp only [zen, zrep, zw, zLo, zSe, zi1, zi2, zl2, zr1, zj, zsw, zpop, zkd, zLn, zc1, Nat.reduceSub, pX11_has]
  rcases (zwt01 _ _ _ : zwt m 0 (mI M nowB 1 - 1) = 0 ∨ zwt m 0 (mI M nowB 1 - 1) = 1) with q0 | q0
  · try simp only [kO_1 h, kN h, bO0 h nowB_is, true_and, and_true, zO_wI, mR_wI, mL_wI, one_ne, if_true, if_false, q0]
    repeat' first
      | exact trivial
      | exact rfl
      | assumption
      | exact ⟨Nat.le_of_ble_eq_true rfl, Nat.le_of_ble_eq_true rfl, Nat.le_of_ble_eq_true rfl⟩
      | exact zwt01 _ _ _
      | decide
      | (refine ⟨_, _, xIsModel h _, ?_⟩; try simp only [kO_1 h, kN h, bO0 h nowB_is, true_and, and_true, zO_wI, mR_wI, mL_wI, one_ne, if_true, if_false, q0])
      | (refine ⟨_, xIsModel h _, ?_⟩; try simp only [kO_1 h, kN h, bO0 h nowB_is, true_and, and_true, zO_wI, mR_wI, mL_wI, one_ne, if_true, if_false, q0])
      | (refine ⟨_, _, xIsSort _, ?_⟩; try simp only [kO_1 h, kN h, bO0 h nowB_is, true_and, and_true, zO_wI, mR_wI, mL_wI, one_ne, if_true, if_false, q0])
      | (refine ⟨_, xIsSort _, ?_⟩; try simp only [kO_1 h, kN h, bO0 h nowB_is, true_and, and_true, zO_wI, mR_wI, mL_wI, one_ne, if_true, if_false, q0])
      | apply And.intro
      | split
      | (simp_all only [kO_1 h, kN h, bO0 h nowB_is, true_and, and_true, zO_wI, mR_wI, mL_wI, one_ne, if_true, if_false, q0]; done)
  · have hb := hb.resolve_left (by rw [q0]; decide)
    try simp only [kO_1 h, kN h, bO0 h nowB_is, true_and, and_true, zO_wI, mR_wI, mL_wI, one_ne, if_true, if_false, q0, hb]
    repeat' first
      | exact trivial
      | exact rfl
      | assumption
      | exact ⟨Nat.le_of_ble_eq_true rfl, Nat.le_of_ble_eq_true rfl, Nat.le_of_ble_eq_true rfl⟩
      | exact zwt01 _ _ _
      | decide
      | (refine ⟨_, _, xIsModel h _, ?_⟩; try simp only [kO_1 h, kN h, bO0 h nowB_is, true_and, and_true, zO_wI, mR_wI, mL_wI, one_ne, if_true, if_false, q0, hb])
      | (refine ⟨_, xIsModel h _, ?_⟩; try simp only [kO_1 h, kN h, bO0 h nowB_is, true_and, and_true, zO_wI, mR_wI, mL_wI, one_ne, if_true, if_false, q0, hb])
      | (refine ⟨_, _, xIsSort _, ?_⟩; try simp only [kO_1 h, kN h, bO0 h nowB_is, true_and, and_true, zO_wI, mR_wI, mL_wI, one_ne, if_true, if_false, q0, hb])
      | (refine ⟨_, xIsSort _, ?_⟩; try simp only [kO_1 h, kN h, bO0 h nowB_is, true_and, and_true, zO_wI, mR_wI, mL_wI, one_ne, if_true, if_false, q0, hb])
      | apply And.intro
      | split
      | (simp_all only [kO_1 h, kN h, bO0 h nowB_is, true_and, and_true, zO_wI, mR_wI, mL_wI, one_ne, if_true, if_false, q0, hb]; done)
theorem xHas_ok {X : List Int32} {d : Nat} {M : Mm} (h : Sk M) {i k : Nat} (hi : i < 6) (hk : k < 8) (g1 : zwt (nI i) 0 (mI M nowB 1 - 1) = 1) (g2 : zwt (nI k) 0 7 = 1) : zca X zML (d + 3) 36 [.ref 1, .int (nI i), .int (nI k)] M (some (.int (mI M (nowB + 3) (zce (mI M (nowB + 2) 1) i k)))) M := by
  refine iX11_has ⟨rfl, Nat.le_of_ble_eq_true rfl⟩ (zgo_in 200 ?_)
  dsimp only [zen, zrep, zw, zLo, zSe, zi1, zi2, zl2, zr1, zj, zsw, zpop, zkd, zLn, zc1, Nat.reduceSub, pX11_has]
  try simp only [kO_1 h, kN h, bO0 h nowB_is, true_and, and_true, zO_wI, mR_wI, mL_wI, one_ne, if_true, if_false, bR0_2 h nowB_is, bO2 h nowB_is, g1, g2]
  repeat' first
    | exact trivial
    | exact rfl
    | assumption
    | exact ⟨Nat.le_of_ble_eq_true rfl, Nat.le_of_ble_eq_true rfl, Nat.le_of_ble_eq_true rfl⟩
    | exact zwt01 _ _ _
    | decide
    | (refine ⟨_, _, xIsModel h _, ?_⟩; try simp only [kO_1 h, kN h, bO0 h nowB_is, true_and, and_true, zO_wI, mR_wI, mL_wI, one_ne, if_true, if_false, bR0_2 h nowB_is, bO2 h nowB_is, g1, g2])
    | (refine ⟨_, xIsModel h _, ?_⟩; try simp only [kO_1 h, kN h, bO0 h nowB_is, true_and, and_true, zO_wI, mR_wI, mL_wI, one_ne, if_true, if_false, bR0_2 h nowB_is, bO2 h nowB_is, g1, g2])
    | (refine ⟨_, _, xIsSort _, ?_⟩; try simp only [kO_1 h, kN h, bO0 h nowB_is, true_and, and_true, zO_wI, mR_wI, mL_wI, one_ne, if_true, if_false, bR0_2 h nowB_is, bO2 h nowB_is, g1, g2])
    | (refine ⟨_, xIsSort _, ?_⟩; try simp only [kO_1 h, kN h, bO0 h nowB_is, true_and, and_true, zO_wI, mR_wI, mL_wI, one_ne, if_true, if_false, bR0_2 h nowB_is, bO2 h nowB_is, g1, g2])
    | (refine ⟨_, _, sOf (zStB h nowB_is) hi hk, ?_⟩; try simp only [kO_1 h, kN h, bO0 h nowB_is, true_and, and_true, zO_wI, mR_wI, mL_wI, one_ne, if_true, if_false, bR0_2 h nowB_is, bO2 h nowB_is, g1, g2])
    | (refine ⟨_, sOf (zStB h nowB_is) hi hk, ?_⟩; try simp only [kO_1 h, kN h, bO0 h nowB_is, true_and, and_true, zO_wI, mR_wI, mL_wI, one_ne, if_true, if_false, bR0_2 h nowB_is, bO2 h nowB_is, g1, g2])
    | apply And.intro
    | split
    | (simp_all only [kO_1 h, kN h, bO0 h nowB_is, true_and, and_true, zO_wI, mR_wI, mL_wI, one_ne, if_true, if_false, bR0_2 h nowB_is, bO2 h nowB_is, g1, g2]; done)
theorem mStockAt {X : List Int32} {d : Nat} {M : Mm} (h : Sk M) (i k : Nat) : zca X zML (d + 1) 33 [.ref 150, .int (nI i), .int (nI k)] M (some (.int (nI (zce (mI M 151 5) i k)))) M := by
  refine iX12_stockAt ⟨rfl, Nat.le_of_ble_eq_true rfl⟩ (zgo_in 200 ?_)
  dsimp only [zen, zrep, zw, zLo, zSe, zi1, zi2, zl2, zr1, zj, zsw, zpop, zkd, zLn, zc1, Nat.reduceSub, pX12_stockAt]
  have e : nI (zce (mI M 151 5) i k) = if mI M 151 5 >>> (nI k &&& 31) &&& 1 = 1 then 8 * 0 + nI k else 8 * nI i + nI k := by
    unfold zce
    split
    · show nI k = nI 8 * nI 0 + nI k
      rw [pk_mul, nI_add]
      congr 1
      omega
    · show nI (i * 8 + k) = nI 8 * nI i + nI k
      rw [pk_mul, nI_add]
      congr 1
      omega
  rw [e]
  try simp only [kO_150 h, kR_150_0 h, kO_151 h, kL_151 h, true_and, and_true, zO_wI, mR_wI, mL_wI, one_ne, if_true, if_false, cN_0, bN_0, cN_1, bN_1, cN_2, bN_2, cN_3, bN_3, cN_4, bN_4, cN_5, bN_5, cN_6, bN_6, cN_7, bN_7, cN_8, bN_8, cN_9, bN_9]
  repeat' first
    | exact trivial
    | exact rfl
    | assumption
    | exact ⟨Nat.le_of_ble_eq_true rfl, Nat.le_of_ble_eq_true rfl, Nat.le_of_ble_eq_true rfl⟩
    | exact zwt01 _ _ _
    | decide
    | apply And.intro
    | split
    | (simp_all only [kO_150 h, kR_150_0 h, kO_151 h, kL_151 h, true_and, and_true, zO_wI, mR_wI, mL_wI, one_ne, if_true, if_false, cN_0, bN_0, cN_1, bN_1, cN_2, bN_2, cN_3, bN_3, cN_4, bN_4, cN_5, bN_5, cN_6, bN_6, cN_7, bN_7, cN_8, bN_8, cN_9, bN_9]; done)
theorem mIsStock {X : List Int32} {d : Nat} {M : Mm} (h : Sk M) (m t : Int32) : zca X zML (d + 3) 32 [.ref 150, .int m, .int t] M (some (.int (if zwt m 0 (mI M 151 0 - 1) = 0 then 0 else zwt t 0 7))) M := by
  refine iX12_isStock ⟨rfl, Nat.le_of_ble_eq_true rfl⟩ (zgo_in 200 ?_)
  dsimp only [zen, zrep, zw, zLo, zSe, zi1, zi2, zl2, zr1, zj, zsw, zpop, zkd, zLn, zc1, Nat.reduceSub, pX12_isStock]
  rcases (zwt01 _ _ _ : zwt m 0 (mI M 151 0 - 1) = 0 ∨ zwt m 0 (mI M 151 0 - 1) = 1) with q | q
  · try simp only [kO_150 h, kR_150_0 h, kO_151 h, kL_151 h, true_and, and_true, zO_wI, mR_wI, mL_wI, one_ne, if_true, if_false, cN_0, bN_0, cN_1, bN_1, cN_2, bN_2, cN_3, bN_3, cN_4, bN_4, cN_5, bN_5, cN_6, bN_6, cN_7, bN_7, cN_8, bN_8, cN_9, bN_9, q]
    repeat' first
      | exact trivial
      | exact rfl
      | assumption
      | exact ⟨Nat.le_of_ble_eq_true rfl, Nat.le_of_ble_eq_true rfl, Nat.le_of_ble_eq_true rfl⟩
      | exact zwt01 _ _ _
      | decide
      | (refine ⟨_, _, mIsModel h _, ?_⟩; try simp only [kO_150 h, kR_150_0 h, kO_151 h, kL_151 h, true_and, and_true, zO_wI, mR_wI, mL_wI, one_ne, if_true, if_false, cN_0, bN_0, cN_1, bN_1, cN_2, bN_2, cN_3, bN_3, cN_4, bN_4, cN_5, bN_5, cN_6, bN_6, cN_7, bN_7, cN_8, bN_8, cN_9, bN_9, q])
      | (refine ⟨_, mIsModel h _, ?_⟩; try simp only [kO_150 h, kR_150_0 h, kO_151 h, kL_151 h, true_and, and_true, zO_wI, mR_wI, mL_wI, one_ne, if_true, if_false, cN_0, bN_0, cN_1, bN_1, cN_2, bN_2, cN_3, bN_3, cN_4, bN_4, cN_5, bN_5, cN_6, bN_6, cN_7, bN_7, cN_8, bN_8, cN_9, bN_9, q])
      | (refine ⟨_, _, sIsIn _ _ _, ?_⟩; try simp only [kO_150 h, kR_150_0 h, kO_151 h, kL_151 h, true_and, and_true, zO_wI, mR_wI, mL_wI, one_ne, if_true, if_false, cN_0, bN_0, cN_1, bN_1, cN_2, bN_2, cN_3, bN_3, cN_4, bN_4, cN_5, bN_5, cN_6, bN_6, cN_7, bN_7, cN_8, bN_8, cN_9, bN_9, q])
      | (refine ⟨_, sIsIn _ _ _, ?_⟩; try simp only [kO_150 h, kR_150_0 h, kO_151 h, kL_151 h, true_and, and_true, zO_wI, mR_wI, mL_wI, one_ne, if_true, if_false, cN_0, bN_0, cN_1, bN_1, cN_2, bN_2, cN_3, bN_3, cN_4, bN_4, cN_5, bN_5, cN_6, bN_6, cN_7, bN_7, cN_8, bN_8, cN_9, bN_9, q])
      | apply And.intro
      | split
      | (simp_all only [kO_150 h, kR_150_0 h, kO_151 h, kL_151 h, true_and, and_true, zO_wI, mR_wI, mL_wI, one_ne, if_true, if_false, cN_0, bN_0, cN_1, bN_1, cN_2, bN_2, cN_3, bN_3, cN_4, bN_4, cN_5, bN_5, cN_6, bN_6, cN_7, bN_7, cN_8, bN_8, cN_9, bN_9, q]; done)
  · rcases (zwt01 _ _ _ : zwt t 0 7 = 0 ∨ zwt t 0 7 = 1) with q2 | q2
    · try simp only [kO_150 h, kR_150_0 h, kO_151 h, kL_151 h, true_and, and_true, zO_wI, mR_wI, mL_wI, one_ne, if_true, if_false, cN_0, bN_0, cN_1, bN_1, cN_2, bN_2, cN_3, bN_3, cN_4, bN_4, cN_5, bN_5, cN_6, bN_6, cN_7, bN_7, cN_8, bN_8, cN_9, bN_9, q, q2]
      repeat' first
        | exact trivial
        | exact rfl
        | assumption
        | exact ⟨Nat.le_of_ble_eq_true rfl, Nat.le_of_ble_eq_true rfl, Nat.le_of_ble_eq_true rfl⟩
        | exact zwt01 _ _ _
        | decide
        | (refine ⟨_, _, mIsModel h _, ?_⟩; try simp only [kO_150 h, kR_150_0 h, kO_151 h, kL_151 h, true_and, and_true, zO_wI, mR_wI, mL_wI, one_ne, if_true, if_false, cN_0, bN_0, cN_1, bN_1, cN_2, bN_2, cN_3, bN_3, cN_4, bN_4, cN_5, bN_5, cN_6, bN_6, cN_7, bN_7, cN_8, bN_8, cN_9, bN_9, q, q2])
        | (refine ⟨_, mIsModel h _, ?_⟩; try simp only [kO_150 h, kR_150_0 h, kO_151 h, kL_151 h, true_and, and_true, zO_wI, mR_wI, mL_wI, one_ne, if_true, if_false, cN_0, bN_0, cN_1, bN_1, cN_2, bN_2, cN_3, bN_3, cN_4, bN_4, cN_5, bN_5, cN_6, bN_6, cN_7, bN_7, cN_8, bN_8, cN_9, bN_9, q, q2])
        | (refine ⟨_, _, sIsIn _ _ _, ?_⟩; try simp only [kO_150 h, kR_150_0 h, kO_151 h, kL_151 h, true_and, and_true, zO_wI, mR_wI, mL_wI, one_ne, if_true, if_false, cN_0, bN_0, cN_1, bN_1, cN_2, bN_2, cN_3, bN_3, cN_4, bN_4, cN_5, bN_5, cN_6, bN_6, cN_7, bN_7, cN_8, bN_8, cN_9, bN_9, q, q2])
        | (refine ⟨_, sIsIn _ _ _, ?_⟩; try simp only [kO_150 h, kR_150_0 h, kO_151 h, kL_151 h, true_and, and_true, zO_wI, mR_wI, mL_wI, one_ne, if_true, if_false, cN_0, bN_0, cN_1, bN_1, cN_2, bN_2, cN_3, bN_3, cN_4, bN_4, cN_5, bN_5, cN_6, bN_6, cN_7, bN_7, cN_8, bN_8, cN_9, bN_9, q, q2])
        | apply And.intro
        | split
        | (simp_all only [kO_150 h, kR_150_0 h, kO_151 h, kL_151 h, true_and, and_true, zO_wI, mR_wI, mL_wI, one_ne, if_true, if_false, cN_0, bN_0, cN_1, bN_1, cN_2, bN_2, cN_3, bN_3, cN_4, bN_4, cN_5, bN_5, cN_6, bN_6, cN_7, bN_7, cN_8, bN_8, cN_9, bN_9, q, q2]; done)
    · try simp only [kO_150 h, kR_150_0 h, kO_151 h, kL_151 h, true_and, and_true, zO_wI, mR_wI, mL_wI, one_ne, if_true, if_false, cN_0, bN_0, cN_1, bN_1, cN_2, bN_2, cN_3, bN_3, cN_4, bN_4, cN_5, bN_5, cN_6, bN_6, cN_7, bN_7, cN_8, bN_8, cN_9, bN_9, q, q2]
      repeat' first
        | exact trivial
        | exact rfl
        | assumption
        | exact ⟨Nat.le_of_ble_eq_true rfl, Nat.le_of_ble_eq_true rfl, Nat.le_of_ble_eq_true rfl⟩
        | exact zwt01 _ _ _
        | decide
        | (refine ⟨_, _, mIsModel h _, ?_⟩; try simp only [kO_150 h, kR_150_0 h, kO_151 h, kL_151 h, true_and, and_true, zO_wI, mR_wI, mL_wI, one_ne, if_true, if_false, cN_0, bN_0, cN_1, bN_1, cN_2, bN_2, cN_3, bN_3, cN_4, bN_4, cN_5, bN_5, cN_6, bN_6, cN_7, bN_7, cN_8, bN_8, cN_9, bN_9, q, q2])
        | (refine ⟨_, mIsModel h _, ?_⟩; try simp only [kO_150 h, kR_150_0 h, kO_151 h, kL_151 h, true_and, and_true, zO_wI, mR_wI, mL_wI, one_ne, if_true, if_false, cN_0, bN_0, cN_1, bN_1, cN_2, bN_2, cN_3, bN_3, cN_4, bN_4, cN_5, bN_5, cN_6, bN_6, cN_7, bN_7, cN_8, bN_8, cN_9, bN_9, q, q2])
        | (refine ⟨_, _, sIsIn _ _ _, ?_⟩; try simp only [kO_150 h, kR_150_0 h, kO_151 h, kL_151 h, true_and, and_true, zO_wI, mR_wI, mL_wI, one_ne, if_true, if_false, cN_0, bN_0, cN_1, bN_1, cN_2, bN_2, cN_3, bN_3, cN_4, bN_4, cN_5, bN_5, cN_6, bN_6, cN_7, bN_7, cN_8, bN_8, cN_9, bN_9, q, q2])
        | (refine ⟨_, sIsIn _ _ _, ?_⟩; try simp only [kO_150 h, kR_150_0 h, kO_151 h, kL_151 h, true_and, and_true, zO_wI, mR_wI, mL_wI, one_ne, if_true, if_false, cN_0, bN_0, cN_1, bN_1, cN_2, bN_2, cN_3, bN_3, cN_4, bN_4, cN_5, bN_5, cN_6, bN_6, cN_7, bN_7, cN_8, bN_8, cN_9, bN_9, q, q2])
        | apply And.intro
        | split
        | (simp_all only [kO_150 h, kR_150_0 h, kO_151 h, kL_151 h, true_and, and_true, zO_wI, mR_wI, mL_wI, one_ne, if_true, if_false, cN_0, bN_0, cN_1, bN_1, cN_2, bN_2, cN_3, bN_3, cN_4, bN_4, cN_5, bN_5, cN_6, bN_6, cN_7, bN_7, cN_8, bN_8, cN_9, bN_9, q, q2]; done)
theorem mStock_bad {X : List Int32} {d : Nat} {M : Mm} (h : Sk M) (m t n : Int32) (hb : zwt m 0 (mI M 151 0 - 1) = 0 ∨ zwt t 0 7 = 0 ∨ zwt n 0 99 = 0) : zca X zML (d + 4) 34 [.ref 150, .int m, .int t, .int n] M (some (.int (-1000000001))) M := by
  refine iX12_stock ⟨rfl, Nat.le_of_ble_eq_true rfl⟩ (zgo_in 200 ?_)
  dsimp only [zen, zrep, zw, zLo, zSe, zi1, zi2, zl2, zr1, zj, zsw, zpop, zkd, zLn, zc1, Nat.reduceSub, pX12_stock]
  rcases (zwt01 _ _ _ : zwt m 0 (mI M 151 0 - 1) = 0 ∨ zwt m 0 (mI M 151 0 - 1) = 1) with q0 | q0
  · try simp only [kO_150 h, kR_150_0 h, kO_151 h, kL_151 h, true_and, and_true, zO_wI, mR_wI, mL_wI, one_ne, if_true, if_false, cN_0, bN_0, cN_1, bN_1, cN_2, bN_2, cN_3, bN_3, cN_4, bN_4, cN_5, bN_5, cN_6, bN_6, cN_7, bN_7, cN_8, bN_8, cN_9, bN_9, q0]
    repeat' first
      | exact trivial
      | exact rfl
      | assumption
      | exact ⟨Nat.le_of_ble_eq_true rfl, Nat.le_of_ble_eq_true rfl, Nat.le_of_ble_eq_true rfl⟩
      | exact zwt01 _ _ _
      | decide
      | (refine ⟨_, _, mIsStock h _ _, ?_⟩; try simp only [kO_150 h, kR_150_0 h, kO_151 h, kL_151 h, true_and, and_true, zO_wI, mR_wI, mL_wI, one_ne, if_true, if_false, cN_0, bN_0, cN_1, bN_1, cN_2, bN_2, cN_3, bN_3, cN_4, bN_4, cN_5, bN_5, cN_6, bN_6, cN_7, bN_7, cN_8, bN_8, cN_9, bN_9, q0])
      | (refine ⟨_, mIsStock h _ _, ?_⟩; try simp only [kO_150 h, kR_150_0 h, kO_151 h, kL_151 h, true_and, and_true, zO_wI, mR_wI, mL_wI, one_ne, if_true, if_false, cN_0, bN_0, cN_1, bN_1, cN_2, bN_2, cN_3, bN_3, cN_4, bN_4, cN_5, bN_5, cN_6, bN_6, cN_7, bN_7, cN_8, bN_8, cN_9, bN_9, q0])
      | (refine ⟨_, _, sIsIn _ _ _, ?_⟩; try simp only [kO_150 h, kR_150_0 h, kO_151 h, kL_151 h, true_and, and_true, zO_wI, mR_wI, mL_wI, one_ne, if_true, if_false, cN_0, bN_0, cN_1, bN_1, cN_2, bN_2, cN_3, bN_3, cN_4, bN_4, cN_5, bN_5, cN_6, bN_6, cN_7, bN_7, cN_8, bN_8, cN_9, bN_9, q0])
      | (refine ⟨_, sIsIn _ _ _, ?_⟩; try simp only [kO_150 h, kR_150_0 h, kO_151 h, kL_151 h, true_and, and_true, zO_wI, mR_wI, mL_wI, one_ne, if_true, if_false, cN_0, bN_0, cN_1, bN_1, cN_2, bN_2, cN_3, bN_3, cN_4, bN_4, cN_5, bN_5, cN_6, bN_6, cN_7, bN_7, cN_8, bN_8, cN_9, bN_9, q0])
      | apply And.intro
      | split
      | (simp_all only [kO_150 h, kR_150_0 h, kO_151 h, kL_151 h, true_and, and_true, zO_wI, mR_wI, mL_wI, one_ne, if_true, if_false, cN_0, bN_0, cN_1, bN_1, cN_2, bN_2, cN_3, bN_3, cN_4, bN_4, cN_5, bN_5, cN_6, bN_6, cN_7, bN_7, cN_8, bN_8, cN_9, bN_9, q0]; done)
  · have hb := hb.resolve_left (by rw [q0]; decide)
    rcases (zwt01 _ _ _ : zwt t 0 7 = 0 ∨ zwt t 0 7 = 1) with q1 | q1
    · try simp only [kO_150 h, kR_150_0 h, kO_151 h, kL_151 h, true_and, and_true, zO_wI, mR_wI, mL_wI, one_ne, if_true, if_false, cN_0, bN_0, cN_1, bN_1, cN_2, bN_2, cN_3, bN_3, cN_4, bN_4, cN_5, bN_5, cN_6, bN_6, cN_7, bN_7, cN_8, bN_8, cN_9, bN_9, q0, q1]
      repeat' first
        | exact trivial
        | exact rfl
        | assumption
        | exact ⟨Nat.le_of_ble_eq_true rfl, Nat.le_of_ble_eq_true rfl, Nat.le_of_ble_eq_true rfl⟩
        | exact zwt01 _ _ _
        | decide
        | (refine ⟨_, _, mIsStock h _ _, ?_⟩; try simp only [kO_150 h, kR_150_0 h, kO_151 h, kL_151 h, true_and, and_true, zO_wI, mR_wI, mL_wI, one_ne, if_true, if_false, cN_0, bN_0, cN_1, bN_1, cN_2, bN_2, cN_3, bN_3, cN_4, bN_4, cN_5, bN_5, cN_6, bN_6, cN_7, bN_7, cN_8, bN_8, cN_9, bN_9, q0, q1])
        | (refine ⟨_, mIsStock h _ _, ?_⟩; try simp only [kO_150 h, kR_150_0 h, kO_151 h, kL_151 h, true_and, and_true, zO_wI, mR_wI, mL_wI, one_ne, if_true, if_false, cN_0, bN_0, cN_1, bN_1, cN_2, bN_2, cN_3, bN_3, cN_4, bN_4, cN_5, bN_5, cN_6, bN_6, cN_7, bN_7, cN_8, bN_8, cN_9, bN_9, q0, q1])
        | (refine ⟨_, _, sIsIn _ _ _, ?_⟩; try simp only [kO_150 h, kR_150_0 h, kO_151 h, kL_151 h, true_and, and_true, zO_wI, mR_wI, mL_wI, one_ne, if_true, if_false, cN_0, bN_0, cN_1, bN_1, cN_2, bN_2, cN_3, bN_3, cN_4, bN_4, cN_5, bN_5, cN_6, bN_6, cN_7, bN_7, cN_8, bN_8, cN_9, bN_9, q0, q1])
        | (refine ⟨_, sIsIn _ _ _, ?_⟩; try simp only [kO_150 h, kR_150_0 h, kO_151 h, kL_151 h, true_and, and_true, zO_wI, mR_wI, mL_wI, one_ne, if_true, if_false, cN_0, bN_0, cN_1, bN_1, cN_2, bN_2, cN_3, bN_3, cN_4, bN_4, cN_5, bN_5, cN_6, bN_6, cN_7, bN_7, cN_8, bN_8, cN_9, bN_9, q0, q1])
        | apply And.intro
        | split
        | (simp_all only [kO_150 h, kR_150_0 h, kO_151 h, kL_151 h, true_and, and_true, zO_wI, mR_wI, mL_wI, one_ne, if_true, if_false, cN_0, bN_0, cN_1, bN_1, cN_2, bN_2, cN_3, bN_3, cN_4, bN_4, cN_5, bN_5, cN_6, bN_6, cN_7, bN_7, cN_8, bN_8, cN_9, bN_9, q0, q1]; done)
    · have hb := hb.resolve_left (by rw [q1]; decide)
      try simp only [kO_150 h, kR_150_0 h, kO_151 h, kL_151 h, true_and, and_true, zO_wI, mR_wI, mL_wI, one_ne, if_true, if_false, cN_0, bN_0, cN_1, bN_1, cN_2, bN_2, cN_3, bN_3, cN_4, bN_4, cN_5, bN_5, cN_6, bN_6, cN_7, bN_7, cN_8, bN_8, cN_9, bN_9, q0, q1, hb]
      repeat' first
        | exact trivial
        | exact rfl
        | assumption
        | exact ⟨Nat.le_of_ble_eq_true rfl, Nat.le_of_ble_eq_true rfl, Nat.le_of_ble_eq_true rfl⟩
        | exact zwt01 _ _ _
        | decide
        | (refine ⟨_, _, mIsStock h _ _, ?_⟩; try simp only [kO_150 h, kR_150_0 h, kO_151 h, kL_151 h, true_and, and_true, zO_wI, mR_wI, mL_wI, one_ne, if_true, if_false, cN_0, bN_0, cN_1, bN_1, cN_2, bN_2, cN_3, bN_3, cN_4, bN_4, cN_5, bN_5, cN_6, bN_6, cN_7, bN_7, cN_8, bN_8, cN_9, bN_9, q0, q1, hb])
        | (refine ⟨_, mIsStock h _ _, ?_⟩; try simp only [kO_150 h, kR_150_0 h, kO_151 h, kL_151 h, true_and, and_true, zO_wI, mR_wI, mL_wI, one_ne, if_true, if_false, cN_0, bN_0, cN_1, bN_1, cN_2, bN_2, cN_3, bN_3, cN_4, bN_4, cN_5, bN_5, cN_6, bN_6, cN_7, bN_7, cN_8, bN_8, cN_9, bN_9, q0, q1, hb])
        | (refine ⟨_, _, sIsIn _ _ _, ?_⟩; try simp only [kO_150 h, kR_150_0 h, kO_151 h, kL_151 h, true_and, and_true, zO_wI, mR_wI, mL_wI, one_ne, if_true, if_false, cN_0, bN_0, cN_1, bN_1, cN_2, bN_2, cN_3, bN_3, cN_4, bN_4, cN_5, bN_5, cN_6, bN_6, cN_7, bN_7, cN_8, bN_8, cN_9, bN_9, q0, q1, hb])
        | (refine ⟨_, sIsIn _ _ _, ?_⟩; try simp only [kO_150 h, kR_150_0 h, kO_151 h, kL_151 h, true_and, and_true, zO_wI, mR_wI, mL_wI, one_ne, if_true, if_false, cN_0, bN_0, cN_1, bN_1, cN_2, bN_2, cN_3, bN_3, cN_4, bN_4, cN_5, bN_5, cN_6, bN_6, cN_7, bN_7, cN_8, bN_8, cN_9, bN_9, q0, q1, hb])
        | apply And.intro
        | split
        | (simp_all only [kO_150 h, kR_150_0 h, kO_151 h, kL_151 h, true_and, and_true, zO_wI, mR_wI, mL_wI, one_ne, if_true, if_false, cN_0, bN_0, cN_1, bN_1, cN_2, bN_2, cN_3, bN_3, cN_4, bN_4, cN_5, bN_5, cN_6, bN_6, cN_7, bN_7, cN_8, bN_8, cN_9, bN_9, q0, q1, hb]; done)
theorem mStock_ok {X : List Int32} {d : Nat} {M : Mm} (h : Sk M) {i k : Nat} (hi : i < 6) (hk : k < 8) (n : Int32) (g1 : zwt (nI i) 0 (mI M 151 0 - 1) = 1) (g2 : zwt (nI k) 0 7 = 1) (g3 : zwt n 0 99 = 1) : zca X zML (d + 4) 34 [.ref 150, .int (nI i), .int (nI k), .int n] M (some (.int (mI M 151 (60 + zce (mI M 151 5) i k)))) (wI M 151 (60 + zce (mI M 151 5) i k) n) := by
  have e60 : (60 : Int32) + nI (zce (mI M 151 5) i k) = nI (60 + zce (mI M 151 5) i k) := nI_add 60 _
  refine iX12_stock ⟨rfl, Nat.le_of_ble_eq_true rfl⟩ (zgo_in 200 ?_)
  dsimp only [zen, zrep, zw, zLo, zSe, zi1, zi2, zl2, zr1, zj, zsw, zpop, zkd, zLn, zc1, Nat.reduceSub, pX12_stock]
  try simp only [kO_150 h, kR_150_0 h, kO_151 h, kL_151 h, true_and, and_true, zO_wI, mR_wI, mL_wI, one_ne, if_true, if_false, cN_0, bN_0, cN_1, bN_1, cN_2, bN_2, cN_3, bN_3, cN_4, bN_4, cN_5, bN_5, cN_6, bN_6, cN_7, bN_7, cN_8, bN_8, cN_9, bN_9, g1, g2, g3, e60]
  repeat' first
    | exact trivial
    | exact rfl
    | assumption
    | exact ⟨Nat.le_of_ble_eq_true rfl, Nat.le_of_ble_eq_true rfl, Nat.le_of_ble_eq_true rfl⟩
    | exact zwt01 _ _ _
    | decide
    | (refine ⟨_, _, mIsStock h _ _, ?_⟩; try simp only [kO_150 h, kR_150_0 h, kO_151 h, kL_151 h, true_and, and_true, zO_wI, mR_wI, mL_wI, one_ne, if_true, if_false, cN_0, bN_0, cN_1, bN_1, cN_2, bN_2, cN_3, bN_3, cN_4, bN_4, cN_5, bN_5, cN_6, bN_6, cN_7, bN_7, cN_8, bN_8, cN_9, bN_9, g1, g2, g3, e60])
    | (refine ⟨_, mIsStock h _ _, ?_⟩; try simp only [kO_150 h, kR_150_0 h, kO_151 h, kL_151 h, true_and, and_true, zO_wI, mR_wI, mL_wI, one_ne, if_true, if_false, cN_0, bN_0, cN_1, bN_1, cN_2, bN_2, cN_3, bN_3, cN_4, bN_4, cN_5, bN_5, cN_6, bN_6, cN_7, bN_7, cN_8, bN_8, cN_9, bN_9, g1, g2, g3, e60])
    | (refine ⟨_, _, sIsIn _ _ _, ?_⟩; try simp only [kO_150 h, kR_150_0 h, kO_151 h, kL_151 h, true_and, and_true, zO_wI, mR_wI, mL_wI, one_ne, if_true, if_false, cN_0, bN_0, cN_1, bN_1, cN_2, bN_2, cN_3, bN_3, cN_4, bN_4, cN_5, bN_5, cN_6, bN_6, cN_7, bN_7, cN_8, bN_8, cN_9, bN_9, g1, g2, g3, e60])
    | (refine ⟨_, sIsIn _ _ _, ?_⟩; try simp only [kO_150 h, kR_150_0 h, kO_151 h, kL_151 h, true_and, and_true, zO_wI, mR_wI, mL_wI, one_ne, if_true, if_false, cN_0, bN_0, cN_1, bN_1, cN_2, bN_2, cN_3, bN_3, cN_4, bN_4, cN_5, bN_5, cN_6, bN_6, cN_7, bN_7, cN_8, bN_8, cN_9, bN_9, g1, g2, g3, e60])
    | (refine ⟨_, _, mStockAt h _ _, ?_⟩; try simp only [kO_150 h, kR_150_0 h, kO_151 h, kL_151 h, true_and, and_true, zO_wI, mR_wI, mL_wI, one_ne, if_true, if_false, cN_0, bN_0, cN_1, bN_1, cN_2, bN_2, cN_3, bN_3, cN_4, bN_4, cN_5, bN_5, cN_6, bN_6, cN_7, bN_7, cN_8, bN_8, cN_9, bN_9, g1, g2, g3, e60])
    | (refine ⟨_, mStockAt h _ _, ?_⟩; try simp only [kO_150 h, kR_150_0 h, kO_151 h, kL_151 h, true_and, and_true, zO_wI, mR_wI, mL_wI, one_ne, if_true, if_false, cN_0, bN_0, cN_1, bN_1, cN_2, bN_2, cN_3, bN_3, cN_4, bN_4, cN_5, bN_5, cN_6, bN_6, cN_7, bN_7, cN_8, bN_8, cN_9, bN_9, g1, g2, g3, e60])
    | (refine ⟨_, _, mBecomes h (k := 60 + zce (mI M 151 5) i k) (by have := zce_lt (c := mI M 151 5) hi hk; omega) n, ?_⟩; try simp only [kO_150 h, kR_150_0 h, kO_151 h, kL_151 h, true_and, and_true, zO_wI, mR_wI, mL_wI, one_ne, if_true, if_false, cN_0, bN_0, cN_1, bN_1, cN_2, bN_2, cN_3, bN_3, cN_4, bN_4, cN_5, bN_5, cN_6, bN_6, cN_7, bN_7, cN_8, bN_8, cN_9, bN_9, g1, g2, g3, e60])
    | (refine ⟨_, mBecomes h (k := 60 + zce (mI M 151 5) i k) (by have := zce_lt (c := mI M 151 5) hi hk; omega) n, ?_⟩; try simp only [kO_150 h, kR_150_0 h, kO_151 h, kL_151 h, true_and, and_true, zO_wI, mR_wI, mL_wI, one_ne, if_true, if_false, cN_0, bN_0, cN_1, bN_1, cN_2, bN_2, cN_3, bN_3, cN_4, bN_4, cN_5, bN_5, cN_6, bN_6, cN_7, bN_7, cN_8, bN_8, cN_9, bN_9, g1, g2, g3, e60])
    | apply And.intro
    | split
    | (simp_all only [kO_150 h, kR_150_0 h, kO_151 h, kL_151 h, true_and, and_true, zO_wI, mR_wI, mL_wI, one_ne, if_true, if_false, cN_0, bN_0, cN_1, bN_1, cN_2, bN_2, cN_3, bN_3, cN_4, bN_4, cN_5, bN_5, cN_6, bN_6, cN_7, bN_7, cN_8, bN_8, cN_9, bN_9, g1, g2, g3, e60]; done)
theorem mHas_bad {X : List Int32} {d : Nat} {M : Mm} (h : Sk M) (m t : Int32) (hb : zwt m 0 (mI M 151 0 - 1) = 0 ∨ zwt t 0 7 = 0) : zca X zML (d + 4) 37 [.ref 150, .int m, .int t] M (some (.int (-1000000001))) M := by
  refine iX12_has ⟨rfl, Nat.le_of_ble_eq_true rfl⟩ (zgo_in 200 ?_)
  dsimp only [zen, zrep, zw, zLo, zSe, zi1, zi2, zl2, zr1, zj, zsw, zpop, zkd, zLn, zc1, Nat.reduceSub, pX12_has]
  rcases (zwt01 _ _ _ : zwt m 0 (mI M 151 0 - 1) = 0 ∨ zwt m 0 (mI M 151 0 - 1) = 1) with q0 | q0
  · try simp only [kO_150 h, kR_150_0 h, kO_151 h, kL_151 h, true_and, and_true, zO_wI, mR_wI, mL_wI, one_ne, if_true, if_false, cN_0, bN_0, cN_1, bN_1, cN_2, bN_2, cN_3, bN_3, cN_4, bN_4, cN_5, bN_5, cN_6, bN_6, cN_7, bN_7, cN_8, bN_8, cN_9, bN_9, q0]
    repeat' first
      | exact trivial
      | exact rfl
      | assumption
      | exact ⟨Nat.le_of_ble_eq_true rfl, Nat.le_of_ble_eq_true rfl, Nat.le_of_ble_eq_true rfl⟩
      | exact zwt01 _ _ _
      | decide
      | (refine ⟨_, _, mIsStock h _ _, ?_⟩; try simp only [kO_150 h, kR_150_0 h, kO_151 h, kL_151 h, true_and, and_true, zO_wI, mR_wI, mL_wI, one_ne, if_true, if_false, cN_0, bN_0, cN_1, bN_1, cN_2, bN_2, cN_3, bN_3, cN_4, bN_4, cN_5, bN_5, cN_6, bN_6, cN_7, bN_7, cN_8, bN_8, cN_9, bN_9, q0])
      | (refine ⟨_, mIsStock h _ _, ?_⟩; try simp only [kO_150 h, kR_150_0 h, kO_151 h, kL_151 h, true_and, and_true, zO_wI, mR_wI, mL_wI, one_ne, if_true, if_false, cN_0, bN_0, cN_1, bN_1, cN_2, bN_2, cN_3, bN_3, cN_4, bN_4, cN_5, bN_5, cN_6, bN_6, cN_7, bN_7, cN_8, bN_8, cN_9, bN_9, q0])
      | apply And.intro
      | split
      | (simp_all only [kO_150 h, kR_150_0 h, kO_151 h, kL_151 h, true_and, and_true, zO_wI, mR_wI, mL_wI, one_ne, if_true, if_false, cN_0, bN_0, cN_1, bN_1, cN_2, bN_2, cN_3, bN_3, cN_4, bN_4, cN_5, bN_5, cN_6, bN_6, cN_7, bN_7, cN_8, bN_8, cN_9, bN_9, q0]; done)
  · have hb := hb.resolve_left (by rw [q0]; decide)
    try simp only [kO_150 h, kR_150_0 h, kO_151 h, kL_151 h, true_and, and_true, zO_wI, mR_wI, mL_wI, one_ne, if_true, if_false, cN_0, bN_0, cN_1, bN_1, cN_2, bN_2, cN_3, bN_3, cN_4, bN_4, cN_5, bN_5, cN_6, bN_6, cN_7, bN_7, cN_8, bN_8, cN_9, bN_9, q0, hb]
    repeat' first
      | exact trivial
      | exact rfl
      | assumption
      | exact ⟨Nat.le_of_ble_eq_true rfl, Nat.le_of_ble_eq_true rfl, Nat.le_of_ble_eq_true rfl⟩
      | exact zwt01 _ _ _
      | decide
      | (refine ⟨_, _, mIsStock h _ _, ?_⟩; try simp only [kO_150 h, kR_150_0 h, kO_151 h, kL_151 h, true_and, and_true, zO_wI, mR_wI, mL_wI, one_ne, if_true, if_false, cN_0, bN_0, cN_1, bN_1, cN_2, bN_2, cN_3, bN_3, cN_4, bN_4, cN_5, bN_5, cN_6, bN_6, cN_7, bN_7, cN_8, bN_8, cN_9, bN_9, q0, hb])
      | (refine ⟨_, mIsStock h _ _, ?_⟩; try simp only [kO_150 h, kR_150_0 h, kO_151 h, kL_151 h, true_and, and_true, zO_wI, mR_wI, mL_wI, one_ne, if_true, if_false, cN_0, bN_0, cN_1, bN_1, cN_2, bN_2, cN_3, bN_3, cN_4, bN_4, cN_5, bN_5, cN_6, bN_6, cN_7, bN_7, cN_8, bN_8, cN_9, bN_9, q0, hb])
      | apply And.intro
      | split
      | (simp_all only [kO_150 h, kR_150_0 h, kO_151 h, kL_151 h, true_and, and_true, zO_wI, mR_wI, mL_wI, one_ne, if_true, if_false, cN_0, bN_0, cN_1, bN_1, cN_2, bN_2, cN_3, bN_3, cN_4, bN_4, cN_5, bN_5, cN_6, bN_6, cN_7, bN_7, cN_8, bN_8, cN_9, bN_9, q0, hb]; done)
theorem mHas_ok {X : List Int32} {d : Nat} {M : Mm} (h : Sk M) {i k : Nat} (hi : i < 6) (hk : k < 8) (g1 : zwt (nI i) 0 (mI M 151 0 - 1) = 1) (g2 : zwt (nI k) 0 7 = 1) : zca X zML (d + 4) 37 [.ref 150, .int (nI i), .int (nI k)] M (some (.int (mI M 151 (60 + zce (mI M 151 5) i k)))) M := by
  have e60 : (60 : Int32) + nI (zce (mI M 151 5) i k) = nI (60 + zce (mI M 151 5) i k) := nI_add 60 _
  have l60 := zce_lt (c := mI M 151 5) hi hk
  have v60 : vp_in (nI (60 + zce (mI M 151 5) i k)) 3332 = True := vN (by omega) (by decide)
  have c60 : (nI (60 + zce (mI M 151 5) i k)).toNatClampNeg = 60 + zce (mI M 151 5) i k := cI (by omega)
  refine iX12_has ⟨rfl, Nat.le_of_ble_eq_true rfl⟩ (zgo_in 200 ?_)
  dsimp only [zen, zrep, zw, zLo, zSe, zi1, zi2, zl2, zr1, zj, zsw, zpop, zkd, zLn, zc1, Nat.reduceSub, pX12_has]
  try simp only [kO_150 h, kR_150_0 h, kO_151 h, kL_151 h, true_and, and_true, zO_wI, mR_wI, mL_wI, one_ne, if_true, if_false, cN_0, bN_0, cN_1, bN_1, cN_2, bN_2, cN_3, bN_3, cN_4, bN_4, cN_5, bN_5, cN_6, bN_6, cN_7, bN_7, cN_8, bN_8, cN_9, bN_9, g1, g2, e60, v60, c60]
  repeat' first
    | exact trivial
    | exact rfl
    | assumption
    | exact ⟨Nat.le_of_ble_eq_true rfl, Nat.le_of_ble_eq_true rfl, Nat.le_of_ble_eq_true rfl⟩
    | exact zwt01 _ _ _
    | decide
    | (refine ⟨_, _, mIsStock h _ _, ?_⟩; try simp only [kO_150 h, kR_150_0 h, kO_151 h, kL_151 h, true_and, and_true, zO_wI, mR_wI, mL_wI, one_ne, if_true, if_false, cN_0, bN_0, cN_1, bN_1, cN_2, bN_2, cN_3, bN_3, cN_4, bN_4, cN_5, bN_5, cN_6, bN_6, cN_7, bN_7, cN_8, bN_8, cN_9, bN_9, g1, g2, e60, v60, c60])
    | (refine ⟨_, mIsStock h _ _, ?_⟩; try simp only [kO_150 h, kR_150_0 h, kO_151 h, kL_151 h, true_and, and_true, zO_wI, mR_wI, mL_wI, one_ne, if_true, if_false, cN_0, bN_0, cN_1, bN_1, cN_2, bN_2, cN_3, bN_3, cN_4, bN_4, cN_5, bN_5, cN_6, bN_6, cN_7, bN_7, cN_8, bN_8, cN_9, bN_9, g1, g2, e60, v60, c60])
    | (refine ⟨_, _, mStockAt h _ _, ?_⟩; try simp only [kO_150 h, kR_150_0 h, kO_151 h, kL_151 h, true_and, and_true, zO_wI, mR_wI, mL_wI, one_ne, if_true, if_false, cN_0, bN_0, cN_1, bN_1, cN_2, bN_2, cN_3, bN_3, cN_4, bN_4, cN_5, bN_5, cN_6, bN_6, cN_7, bN_7, cN_8, bN_8, cN_9, bN_9, g1, g2, e60, v60, c60])
    | (refine ⟨_, mStockAt h _ _, ?_⟩; try simp only [kO_150 h, kR_150_0 h, kO_151 h, kL_151 h, true_and, and_true, zO_wI, mR_wI, mL_wI, one_ne, if_true, if_false, cN_0, bN_0, cN_1, bN_1, cN_2, bN_2, cN_3, bN_3, cN_4, bN_4, cN_5, bN_5, cN_6, bN_6, cN_7, bN_7, cN_8, bN_8, cN_9, bN_9, g1, g2, e60, v60, c60])
    | apply And.intro
    | split
    | (simp_all only [kO_150 h, kR_150_0 h, kO_151 h, kL_151 h, true_and, and_true, zO_wI, mR_wI, mL_wI, one_ne, if_true, if_false, cN_0, bN_0, cN_1, bN_1, cN_2, bN_2, cN_3, bN_3, cN_4, bN_4, cN_5, bN_5, cN_6, bN_6, cN_7, bN_7, cN_8, bN_8, cN_9, bN_9, g1, g2, e60, v60, c60]; done)
theorem opHas {X : List Int32} {M : Mm} (h : Rel M) (m t : Int32) : Opk X 36 37 [.int m, .int t] M := by
  obtain ⟨nM, nP, nT, nK, nC, hS⟩ := h.2.1
  have e1 : mI M nowB 1 = nI nM := hS.1.2.2.1.1
  have e2 : mI M 151 0 = nI nM := hS.1.2.1.1
  have e5 : mI M (nowB + 2) 1 = mI M 151 5 := hS.1.2.2.2.1.1
  have h6 := hS.1.1.1
  by_cases hb : zwt m 0 (nI nM - 1) = 0 ∨ zwt t 0 7 = 0
  · exact Opk.same h (xHas_bad (d := 297) h.1 m t (by rw [e1]; exact hb)) (mHas_bad (d := 296) h.1 m t (by rw [e2]; exact hb)) rfl
  · have g1 : zwt m 0 (nI nM - 1) = 1 := (zwt01 _ _ _).resolve_left (fun q => hb (Or.inl q))
    have g2 : zwt t 0 7 = 1 := (zwt01 _ _ _).resolve_left (fun q => hb (Or.inr q))
    obtain ⟨i, hi, rfl⟩ := zwt_ix (by omega) g1
    obtain ⟨k, hk, rfl⟩ := zwt_c0 (n := 7) (by decide) g2
    refine Opk.same h (xHas_ok (d := 297) h.1 (by omega) hk (by rw [e1]; exact g1) g2) (mHas_ok (d := 296) h.1 (by omega) hk (by rw [e2]; exact g1) g2) ?_
    rw [e5]
    exact (hS.2.2.1 _ (zce_lt (by omega) hk)).1.symm
theorem opStock {X : List Int32} {M : Mm} (h : Rel M) (m t n : Int32) : Opk X 31 34 [.int m, .int t, .int n] M := by
  obtain ⟨nM, nP, nT, nK, nC, hS⟩ := h.2.1
  have e1 : mI M nowB 1 = nI nM := hS.1.2.2.1.1
  have e2 : mI M 151 0 = nI nM := hS.1.2.1.1
  have e5 : mI M (nowB + 2) 1 = mI M 151 5 := hS.1.2.2.2.1.1
  have h6 := hS.1.1.1
  by_cases hb : zwt m 0 (nI nM - 1) = 0 ∨ zwt t 0 7 = 0 ∨ zwt n 0 99 = 0
  · exact Opk.same h (xStock_bad (d := 297) h.1 m t n (by rw [e1]; exact hb)) (mStock_bad (d := 296) h.1 m t n (by rw [e2]; exact hb)) rfl
  · have g1 : zwt m 0 (nI nM - 1) = 1 := (zwt01 _ _ _).resolve_left (fun q => hb (Or.inl q))
    have g2 : zwt t 0 7 = 1 := (zwt01 _ _ _).resolve_left (fun q => hb (Or.inr (Or.inl q)))
    have g3 : zwt n 0 99 = 1 := (zwt01 _ _ _).resolve_left (fun q => hb (Or.inr (Or.inr q)))
    obtain ⟨i, hi, rfl⟩ := zwt_ix (by omega) g1
    obtain ⟨k, hk, rfl⟩ := zwt_c0 (n := 7) (by decide) g2
    have hz := zce_lt (c := mI M 151 5) (show i < 6 by omega) hk
    have hx := xStock_ok (X := X) (d := 297) h.1 (show i < 6 by omega) hk n (by rw [e1]; exact g1) g2 g3
    rw [e5] at hx
    have hm := mStock_ok (X := X) (d := 296) (M := wI M (nowB + 3) (zce (mI M 151 5) i k) n) h.1 (show i < 6 by omega) hk n (by rw [e151 (by decide), e2]; exact g1) g2 g3
    rw [e151 (by decide)] at hm
    refine Opk.mk hx hm ?_ (Rel_op (nM := nM) (nP := nP) (nT := nT) (nK := nK) (nC := nC) h (fX_of (M1 := wI M (nowB + 3) (zce (mI M 151 5) i k) n) h.1 rfl (fun r hr j => mI_wIr (by unfold nowB; omega))) (fM_151 _ _ _) ?_)
    · exact (hS.2.2.1 _ hz).1.symm
    · rw [mI_151, e151 (by decide)]
      refine up_stock hS (fun o ho h3 k => mI_wIr (by omega)) (fun _ => rfl) (Nat.le_refl _) (zTk_wI _ _ _ _ (by unfold nowB; omega)) (fun j hj hk => updn (by omega)) (fun q hq => ?_)
      by_cases e : q = zce (mI M 151 5) i k
      · rw [e, mI_wIs, upds]
        exact ⟨rfl, zwt_c (n := 99) (by decide) g3⟩
      · rw [mI_wIj e, updn (by omega)]
        exact hS.2.2.1 q hq
