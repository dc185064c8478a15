/-! flag, as -/
theorem xFlag_bad {X : List Int32} {d : Nat} {M : Mm} (h : Sk M) (p w y : Int32) (hb : zwt p 0 (mI M nowB 4 - 1) = 0 ∨ zwt w 0 1 = 0) : zca X zML (d + 3) 83 [.ref 1, .int p, .int w, .int y] M (some (.int (-1000000001))) M := by
  refine iX11_flag ⟨rfl, Nat.le_of_ble_eq_true rfl⟩ (zgo_in 200 ?_)
  dsimp only [zen, zrep, zw, zLo, zSe, zi1, zi2, zl2, zr1, zj, zsw, zpop, zkd, zLn, zc1, Nat.reduceSub, pX11_flag]
  rcases (zwt01 _ _ _ : zwt p 0 (mI M nowB 4 - 1) = 0 ∨ zwt p 0 (mI M nowB 4 - 1) = 1) with q0 | q0
  · try simp only [kO_1 h, kN h, bO0 h nowB_is, true_and, and_true, zO_wI, mR_wI, mL_wI, one_ne, if_true, if_false, q0]
    repeat' first
      | exact trivial
      | exact rfl
      | assumption
      | exact ⟨Nat.le_of_ble_eq_true rfl, Nat.le_of_ble_eq_true rfl, Nat.le_of_ble_eq_true rfl⟩
      | exact zwt01 _ _ _
      | decide
      | (refine ⟨_, _, xIsPhone h _, ?_⟩; try simp only [kO_1 h, kN h, bO0 h nowB_is, true_and, and_true, zO_wI, mR_wI, mL_wI, one_ne, if_true, if_false, q0])
      | (refine ⟨_, xIsPhone h _, ?_⟩; try simp only [kO_1 h, kN h, bO0 h nowB_is, true_and, and_true, zO_wI, mR_wI, mL_wI, one_ne, if_true, if_false, q0])
      | (refine ⟨_, _, sWithin _ _ _, ?_⟩; try simp only [kO_1 h, kN h, bO0 h nowB_is, true_and, and_true, zO_wI, mR_wI, mL_wI, one_ne, if_true, if_false, q0])
      | (refine ⟨_, sWithin _ _ _, ?_⟩; try simp only [kO_1 h, kN h, bO0 h nowB_is, true_and, and_true, zO_wI, mR_wI, mL_wI, one_ne, if_true, if_false, q0])
      | apply And.intro
      | split
      | (simp_all only [kO_1 h, kN h, bO0 h nowB_is, true_and, and_true, zO_wI, mR_wI, mL_wI, one_ne, if_true, if_false, q0]; done)
  · have hb := hb.resolve_left (by rw [q0]; decide)
    try simp only [kO_1 h, kN h, bO0 h nowB_is, true_and, and_true, zO_wI, mR_wI, mL_wI, one_ne, if_true, if_false, q0, hb]
    repeat' first
      | exact trivial
      | exact rfl
      | assumption
      | exact ⟨Nat.le_of_ble_eq_true rfl, Nat.le_of_ble_eq_true rfl, Nat.le_of_ble_eq_true rfl⟩
      | exact zwt01 _ _ _
      | decide
      | (refine ⟨_, _, xIsPhone h _, ?_⟩; try simp only [kO_1 h, kN h, bO0 h nowB_is, true_and, and_true, zO_wI, mR_wI, mL_wI, one_ne, if_true, if_false, q0, hb])
      | (refine ⟨_, xIsPhone h _, ?_⟩; try simp only [kO_1 h, kN h, bO0 h nowB_is, true_and, and_true, zO_wI, mR_wI, mL_wI, one_ne, if_true, if_false, q0, hb])
      | (refine ⟨_, _, sWithin _ _ _, ?_⟩; try simp only [kO_1 h, kN h, bO0 h nowB_is, true_and, and_true, zO_wI, mR_wI, mL_wI, one_ne, if_true, if_false, q0, hb])
      | (refine ⟨_, sWithin _ _ _, ?_⟩; try simp only [kO_1 h, kN h, bO0 h nowB_is, true_and, and_true, zO_wI, mR_wI, mL_wI, one_ne, if_true, if_false, q0, hb])
      | apply And.intro
      | split
      | (simp_all only [kO_1 h, kN h, bO0 h nowB_is, true_and, and_true, zO_wI, mR_wI, mL_wI, one_ne, if_true, if_false, q0, hb]; done)
theorem mFlag_bad {X : List Int32} {d : Nat} {M : Mm} (h : Sk M) (p w y : Int32) (hb : zwt p 0 (mI M 151 1 - 1) = 0 ∨ zwt w 0 1 = 0) : zca X zML (d + 3) 84 [.ref 150, .int p, .int w, .int y] M (some (.int (-1000000001))) M := by
  refine iX12_flag ⟨rfl, Nat.le_of_ble_eq_true rfl⟩ (zgo_in 200 ?_)
  dsimp only [zen, zrep, zw, zLo, zSe, zi1, zi2, zl2, zr1, zj, zsw, zpop, zkd, zLn, zc1, Nat.reduceSub, pX12_flag]
  rcases (zwt01 _ _ _ : zwt p 0 (mI M 151 1 - 1) = 0 ∨ zwt p 0 (mI M 151 1 - 1) = 1) with q0 | q0
  · try simp only [kO_150 h, kR_150_0 h, kO_151 h, kL_151 h, true_and, and_true, zO_wI, mR_wI, mL_wI, one_ne, if_true, if_false, cN_0, bN_0, cN_1, bN_1, cN_2, bN_2, cN_3, bN_3, cN_4, bN_4, cN_5, bN_5, cN_6, bN_6, cN_7, bN_7, cN_8, bN_8, cN_9, bN_9, q0]
    repeat' first
      | exact trivial
      | exact rfl
      | assumption
      | exact ⟨Nat.le_of_ble_eq_true rfl, Nat.le_of_ble_eq_true rfl, Nat.le_of_ble_eq_true rfl⟩
      | exact zwt01 _ _ _
      | decide
      | (refine ⟨_, _, mIsPhone h _, ?_⟩; try simp only [kO_150 h, kR_150_0 h, kO_151 h, kL_151 h, true_and, and_true, zO_wI, mR_wI, mL_wI, one_ne, if_true, if_false, cN_0, bN_0, cN_1, bN_1, cN_2, bN_2, cN_3, bN_3, cN_4, bN_4, cN_5, bN_5, cN_6, bN_6, cN_7, bN_7, cN_8, bN_8, cN_9, bN_9, q0])
      | (refine ⟨_, mIsPhone h _, ?_⟩; try simp only [kO_150 h, kR_150_0 h, kO_151 h, kL_151 h, true_and, and_true, zO_wI, mR_wI, mL_wI, one_ne, if_true, if_false, cN_0, bN_0, cN_1, bN_1, cN_2, bN_2, cN_3, bN_3, cN_4, bN_4, cN_5, bN_5, cN_6, bN_6, cN_7, bN_7, cN_8, bN_8, cN_9, bN_9, q0])
      | (refine ⟨_, _, sIsIn _ _ _, ?_⟩; try simp only [kO_150 h, kR_150_0 h, kO_151 h, kL_151 h, true_and, and_true, zO_wI, mR_wI, mL_wI, one_ne, if_true, if_false, cN_0, bN_0, cN_1, bN_1, cN_2, bN_2, cN_3, bN_3, cN_4, bN_4, cN_5, bN_5, cN_6, bN_6, cN_7, bN_7, cN_8, bN_8, cN_9, bN_9, q0])
      | (refine ⟨_, sIsIn _ _ _, ?_⟩; try simp only [kO_150 h, kR_150_0 h, kO_151 h, kL_151 h, true_and, and_true, zO_wI, mR_wI, mL_wI, one_ne, if_true, if_false, cN_0, bN_0, cN_1, bN_1, cN_2, bN_2, cN_3, bN_3, cN_4, bN_4, cN_5, bN_5, cN_6, bN_6, cN_7, bN_7, cN_8, bN_8, cN_9, bN_9, q0])
      | apply And.intro
      | split
      | (simp_all only [kO_150 h, kR_150_0 h, kO_151 h, kL_151 h, true_and, and_true, zO_wI, mR_wI, mL_wI, one_ne, if_true, if_false, cN_0, bN_0, cN_1, bN_1, cN_2, bN_2, cN_3, bN_3, cN_4, bN_4, cN_5, bN_5, cN_6, bN_6, cN_7, bN_7, cN_8, bN_8, cN_9, bN_9, q0]; done)
  · have hb := hb.resolve_left (by rw [q0]; decide)
    try simp only [kO_150 h, kR_150_0 h, kO_151 h, kL_151 h, true_and, and_true, zO_wI, mR_wI, mL_wI, one_ne, if_true, if_false, cN_0, bN_0, cN_1, bN_1, cN_2, bN_2, cN_3, bN_3, cN_4, bN_4, cN_5, bN_5, cN_6, bN_6, cN_7, bN_7, cN_8, bN_8, cN_9, bN_9, q0, hb]
    repeat' first
      | exact trivial
      | exact rfl
      | assumption
      | exact ⟨Nat.le_of_ble_eq_true rfl, Nat.le_of_ble_eq_true rfl, Nat.le_of_ble_eq_true rfl⟩
      | exact zwt01 _ _ _
      | decide
      | (refine ⟨_, _, mIsPhone h _, ?_⟩; try simp only [kO_150 h, kR_150_0 h, kO_151 h, kL_151 h, true_and, and_true, zO_wI, mR_wI, mL_wI, one_ne, if_true, if_false, cN_0, bN_0, cN_1, bN_1, cN_2, bN_2, cN_3, bN_3, cN_4, bN_4, cN_5, bN_5, cN_6, bN_6, cN_7, bN_7, cN_8, bN_8, cN_9, bN_9, q0, hb])
      | (refine ⟨_, mIsPhone h _, ?_⟩; try simp only [kO_150 h, kR_150_0 h, kO_151 h, kL_151 h, true_and, and_true, zO_wI, mR_wI, mL_wI, one_ne, if_true, if_false, cN_0, bN_0, cN_1, bN_1, cN_2, bN_2, cN_3, bN_3, cN_4, bN_4, cN_5, bN_5, cN_6, bN_6, cN_7, bN_7, cN_8, bN_8, cN_9, bN_9, q0, hb])
      | (refine ⟨_, _, sIsIn _ _ _, ?_⟩; try simp only [kO_150 h, kR_150_0 h, kO_151 h, kL_151 h, true_and, and_true, zO_wI, mR_wI, mL_wI, one_ne, if_true, if_false, cN_0, bN_0, cN_1, bN_1, cN_2, bN_2, cN_3, bN_3, cN_4, bN_4, cN_5, bN_5, cN_6, bN_6, cN_7, bN_7, cN_8, bN_8, cN_9, bN_9, q0, hb])
      | (refine ⟨_, sIsIn _ _ _, ?_⟩; try simp only [kO_150 h, kR_150_0 h, kO_151 h, kL_151 h, true_and, and_true, zO_wI, mR_wI, mL_wI, one_ne, if_true, if_false, cN_0, bN_0, cN_1, bN_1, cN_2, bN_2, cN_3, bN_3, cN_4, bN_4, cN_5, bN_5, cN_6, bN_6, cN_7, bN_7, cN_8, bN_8, cN_9, bN_9, q0, hb])
      | apply And.intro
      | split
      | (simp_all only [kO_150 h, kR_150_0 h, kO_151 h, kL_151 h, true_and, and_true, zO_wI, mR_wI, mL_wI, one_ne, if_true, if_false, cN_0, bN_0, cN_1, bN_1, cN_2, bN_2, cN_3, bN_3, cN_4, bN_4, cN_5, bN_5, cN_6, bN_6, cN_7, bN_7, cN_8, bN_8, cN_9, bN_9, q0, hb]; done)
theorem xFlag_0 {X : List Int32} {d : Nat} {M : Mm} (h : Sk M) {i : Nat} (hi : i < 16) (y : Int32) (g1 : zwt (nI i) 0 (mI M nowB 4 - 1) = 1) (hy : y = 0 ∨ y = 1) : zca X zML (d + 3) 83 [.ref 1, .int (nI i), .int 0, .int y] M (some (.int (if mI M (nowB + 19 + i) 6 = y then 0 else 1))) (wI M (nowB + 19 + i) 6 y) := by
  have hv : vp_in (nI i) 16 = True := vN hi (by decide)
  have hc : (nI i).toNatClampNeg = i := cI (by omega)
  have g2 : zwt 0 0 1 = 1 := rfl
  refine iX11_flag ⟨rfl, Nat.le_of_ble_eq_true rfl⟩ (zgo_in 200 ?_)
  dsimp only [zen, zrep, zw, zLo, zSe, zi1, zi2, zl2, zr1, zj, zsw, zpop, zkd, zLn, zc1, Nat.reduceSub, pX11_flag]
  try simp only [kO_1 h, kN h, bO0 h nowB_is, true_and, and_true, zO_wI, mR_wI, mL_wI, one_ne, if_true, if_false, bR0_3 h nowB_is, bA4 h nowB_is, bL4 h nowB_is, hv, hc, bV4 h nowB_is hi, bW4 h nowB_is hi, g1, g2]
  repeat' first
    | exact trivial
    | exact rfl
    | assumption
    | exact ⟨Nat.le_of_ble_eq_true rfl, Nat.le_of_ble_eq_true rfl, Nat.le_of_ble_eq_true rfl⟩
    | exact zwt01 _ _ _
    | decide
    | (refine ⟨_, _, xIsPhone h _, ?_⟩; try simp only [kO_1 h, kN h, bO0 h nowB_is, true_and, and_true, zO_wI, mR_wI, mL_wI, one_ne, if_true, if_false, bR0_3 h nowB_is, bA4 h nowB_is, bL4 h nowB_is, hv, hc, bV4 h nowB_is hi, bW4 h nowB_is hi, g1, g2])
    | (refine ⟨_, xIsPhone h _, ?_⟩; try simp only [kO_1 h, kN h, bO0 h nowB_is, true_and, and_true, zO_wI, mR_wI, mL_wI, one_ne, if_true, if_false, bR0_3 h nowB_is, bA4 h nowB_is, bL4 h nowB_is, hv, hc, bV4 h nowB_is hi, bW4 h nowB_is hi, g1, g2])
    | (refine ⟨_, _, sWithin _ _ _, ?_⟩; try simp only [kO_1 h, kN h, bO0 h nowB_is, true_and, and_true, zO_wI, mR_wI, mL_wI, one_ne, if_true, if_false, bR0_3 h nowB_is, bA4 h nowB_is, bL4 h nowB_is, hv, hc, bV4 h nowB_is hi, bW4 h nowB_is hi, g1, g2])
    | (refine ⟨_, sWithin _ _ _, ?_⟩; try simp only [kO_1 h, kN h, bO0 h nowB_is, true_and, and_true, zO_wI, mR_wI, mL_wI, one_ne, if_true, if_false, bR0_3 h nowB_is, bA4 h nowB_is, bL4 h nowB_is, hv, hc, bV4 h nowB_is hi, bW4 h nowB_is hi, g1, g2])
    | apply And.intro
    | split
    | (simp_all only [kO_1 h, kN h, bO0 h nowB_is, true_and, and_true, zO_wI, mR_wI, mL_wI, one_ne, if_true, if_false, bR0_3 h nowB_is, bA4 h nowB_is, bL4 h nowB_is, hv, hc, bV4 h nowB_is hi, bW4 h nowB_is hi, g1, g2]; done)
theorem mFlag_0 {X : List Int32} {d : Nat} {M : Mm} (h : Sk M) {i : Nat} (hi : i < 16) (y : Int32) (g1 : zwt (nI i) 0 (mI M 151 1 - 1) = 1) (hy : y = 0 ∨ y = 1) : zca X zML (d + 3) 84 [.ref 150, .int (nI i), .int 0, .int y] M (some (.int (if mI M 151 (110 + 14 * i + 6) = y then 0 else 1))) (wI M 151 (110 + 14 * i + 6) y) := by
  have g2 : zwt 0 0 1 = 1 := rfl
  have e6 : (110 : Int32) + 14 * nI i + 6 + 0 = nI (110 + 14 * i + 6) := by rw [phE6]; exact nI_add _ 0
  refine iX12_flag ⟨rfl, Nat.le_of_ble_eq_true rfl⟩ (zgo_in 200 ?_)
  dsimp only [zen, zrep, zw, zLo, zSe, zi1, zi2, zl2, zr1, zj, zsw, zpop, zkd, zLn, zc1, Nat.reduceSub, pX12_flag]
  rcases hy with rfl | rfl
  · try simp only [kO_150 h, kR_150_0 h, kO_151 h, kL_151 h, true_and, and_true, zO_wI, mR_wI, mL_wI, one_ne, if_true, if_false, cN_0, bN_0, cN_1, bN_1, cN_2, bN_2, cN_3, bN_3, cN_4, bN_4, cN_5, bN_5, cN_6, bN_6, cN_7, bN_7, cN_8, bN_8, cN_9, bN_9, g1, g2, e6]
    repeat' first
      | exact trivial
      | exact rfl
      | assumption
      | exact ⟨Nat.le_of_ble_eq_true rfl, Nat.le_of_ble_eq_true rfl, Nat.le_of_ble_eq_true rfl⟩
      | exact zwt01 _ _ _
      | decide
      | (refine ⟨_, _, mIsPhone h _, ?_⟩; try simp only [kO_150 h, kR_150_0 h, kO_151 h, kL_151 h, true_and, and_true, zO_wI, mR_wI, mL_wI, one_ne, if_true, if_false, cN_0, bN_0, cN_1, bN_1, cN_2, bN_2, cN_3, bN_3, cN_4, bN_4, cN_5, bN_5, cN_6, bN_6, cN_7, bN_7, cN_8, bN_8, cN_9, bN_9, g1, g2, e6])
      | (refine ⟨_, mIsPhone h _, ?_⟩; try simp only [kO_150 h, kR_150_0 h, kO_151 h, kL_151 h, true_and, and_true, zO_wI, mR_wI, mL_wI, one_ne, if_true, if_false, cN_0, bN_0, cN_1, bN_1, cN_2, bN_2, cN_3, bN_3, cN_4, bN_4, cN_5, bN_5, cN_6, bN_6, cN_7, bN_7, cN_8, bN_8, cN_9, bN_9, g1, g2, e6])
      | (refine ⟨_, _, sIsIn _ _ _, ?_⟩; try simp only [kO_150 h, kR_150_0 h, kO_151 h, kL_151 h, true_and, and_true, zO_wI, mR_wI, mL_wI, one_ne, if_true, if_false, cN_0, bN_0, cN_1, bN_1, cN_2, bN_2, cN_3, bN_3, cN_4, bN_4, cN_5, bN_5, cN_6, bN_6, cN_7, bN_7, cN_8, bN_8, cN_9, bN_9, g1, g2, e6])
      | (refine ⟨_, sIsIn _ _ _, ?_⟩; try simp only [kO_150 h, kR_150_0 h, kO_151 h, kL_151 h, true_and, and_true, zO_wI, mR_wI, mL_wI, one_ne, if_true, if_false, cN_0, bN_0, cN_1, bN_1, cN_2, bN_2, cN_3, bN_3, cN_4, bN_4, cN_5, bN_5, cN_6, bN_6, cN_7, bN_7, cN_8, bN_8, cN_9, bN_9, g1, g2, e6])
      | (refine ⟨_, _, mPhoneAt _, ?_⟩; try simp only [kO_150 h, kR_150_0 h, kO_151 h, kL_151 h, true_and, and_true, zO_wI, mR_wI, mL_wI, one_ne, if_true, if_false, cN_0, bN_0, cN_1, bN_1, cN_2, bN_2, cN_3, bN_3, cN_4, bN_4, cN_5, bN_5, cN_6, bN_6, cN_7, bN_7, cN_8, bN_8, cN_9, bN_9, g1, g2, e6])
      | (refine ⟨_, mPhoneAt _, ?_⟩; try simp only [kO_150 h, kR_150_0 h, kO_151 h, kL_151 h, true_and, and_true, zO_wI, mR_wI, mL_wI, one_ne, if_true, if_false, cN_0, bN_0, cN_1, bN_1, cN_2, bN_2, cN_3, bN_3, cN_4, bN_4, cN_5, bN_5, cN_6, bN_6, cN_7, bN_7, cN_8, bN_8, cN_9, bN_9, g1, g2, e6])
      | (refine ⟨_, _, mBecomes h (k := 110 + 14 * i + 6) (by omega) _, ?_⟩; try simp only [kO_150 h, kR_150_0 h, kO_151 h, kL_151 h, true_and, and_true, zO_wI, mR_wI, mL_wI, one_ne, if_true, if_false, cN_0, bN_0, cN_1, bN_1, cN_2, bN_2, cN_3, bN_3, cN_4, bN_4, cN_5, bN_5, cN_6, bN_6, cN_7, bN_7, cN_8, bN_8, cN_9, bN_9, g1, g2, e6])
      | (refine ⟨_, mBecomes h (k := 110 + 14 * i + 6) (by omega) _, ?_⟩; try simp only [kO_150 h, kR_150_0 h, kO_151 h, kL_151 h, true_and, and_true, zO_wI, mR_wI, mL_wI, one_ne, if_true, if_false, cN_0, bN_0, cN_1, bN_1, cN_2, bN_2, cN_3, bN_3, cN_4, bN_4, cN_5, bN_5, cN_6, bN_6, cN_7, bN_7, cN_8, bN_8, cN_9, bN_9, g1, g2, e6])
      | apply And.intro
      | split
      | (simp_all only [kO_150 h, kR_150_0 h, kO_151 h, kL_151 h, true_and, and_true, zO_wI, mR_wI, mL_wI, one_ne, if_true, if_false, cN_0, bN_0, cN_1, bN_1, cN_2, bN_2, cN_3, bN_3, cN_4, bN_4, cN_5, bN_5, cN_6, bN_6, cN_7, bN_7, cN_8, bN_8, cN_9, bN_9, g1, g2, e6]; done)
  · try simp only [kO_150 h, kR_150_0 h, kO_151 h, kL_151 h, true_and, and_true, zO_wI, mR_wI, mL_wI, one_ne, if_true, if_false, cN_0, bN_0, cN_1, bN_1, cN_2, bN_2, cN_3, bN_3, cN_4, bN_4, cN_5, bN_5, cN_6, bN_6, cN_7, bN_7, cN_8, bN_8, cN_9, bN_9, g1, g2, e6]
    repeat' first
      | exact trivial
      | exact rfl
      | assumption
      | exact ⟨Nat.le_of_ble_eq_true rfl, Nat.le_of_ble_eq_true rfl, Nat.le_of_ble_eq_true rfl⟩
      | exact zwt01 _ _ _
      | decide
      | (refine ⟨_, _, mIsPhone h _, ?_⟩; try simp only [kO_150 h, kR_150_0 h, kO_151 h, kL_151 h, true_and, and_true, zO_wI, mR_wI, mL_wI, one_ne, if_true, if_false, cN_0, bN_0, cN_1, bN_1, cN_2, bN_2, cN_3, bN_3, cN_4, bN_4, cN_5, bN_5, cN_6, bN_6, cN_7, bN_7, cN_8, bN_8, cN_9, bN_9, g1, g2, e6])
      | (refine ⟨_, mIsPhone h _, ?_⟩; try simp only [kO_150 h, kR_150_0 h, kO_151 h, kL_151 h, true_and, and_true, zO_wI, mR_wI, mL_wI, one_ne, if_true, if_false, cN_0, bN_0, cN_1, bN_1, cN_2, bN_2, cN_3, bN_3, cN_4, bN_4, cN_5, bN_5, cN_6, bN_6, cN_7, bN_7, cN_8, bN_8, cN_9, bN_9, g1, g2, e6])
      | (refine ⟨_, _, sIsIn _ _ _, ?_⟩; try simp only [kO_150 h, kR_150_0 h, kO_151 h, kL_151 h, true_and, and_true, zO_wI, mR_wI, mL_wI, one_ne, if_true, if_false, cN_0, bN_0, cN_1, bN_1, cN_2, bN_2, cN_3, bN_3, cN_4, bN_4, cN_5, bN_5, cN_6, bN_6, cN_7, bN_7, cN_8, bN_8, cN_9, bN_9, g1, g2, e6])
      | (refine ⟨_, sIsIn _ _ _, ?_⟩; try simp only [kO_150 h, kR_150_0 h, kO_151 h, kL_151 h, true_and, and_true, zO_wI, mR_wI, mL_wI, one_ne, if_true, if_false, cN_0, bN_0, cN_1, bN_1, cN_2, bN_2, cN_3, bN_3, cN_4, bN_4, cN_5, bN_5, cN_6, bN_6, cN_7, bN_7, cN_8, bN_8, cN_9, bN_9, g1, g2, e6])
      | (refine ⟨_, _, mPhoneAt _, ?_⟩; try simp only [kO_150 h, kR_150_0 h, kO_151 h, kL_151 h, true_and, and_true, zO_wI, mR_wI, mL_wI, one_ne, if_true, if_false, cN_0, bN_0, cN_1, bN_1, cN_2, bN_2, cN_3, bN_3, cN_4, bN_4, cN_5, bN_5, cN_6, bN_6, cN_7, bN_7, cN_8, bN_8, cN_9, bN_9, g1, g2, e6])
      | (refine ⟨_, mPhoneAt _, ?_⟩; try simp only [kO_150 h, kR_150_0 h, kO_151 h, kL_151 h, true_and, and_true, zO_wI, mR_wI, mL_wI, one_ne, if_true, if_false, cN_0, bN_0, cN_1, bN_1, cN_2, bN_2, cN_3, bN_3, cN_4, bN_4, cN_5, bN_5, cN_6, bN_6, cN_7, bN_7, cN_8, bN_8, cN_9, bN_9, g1, g2, e6])
      | (refine ⟨_, _, mBecomes h (k := 110 + 14 * i + 6) (by omega) _, ?_⟩; try simp only [kO_150 h, kR_150_0 h, kO_151 h, kL_151 h, true_and, and_true, zO_wI, mR_wI, mL_wI, one_ne, if_true, if_false, cN_0, bN_0, cN_1, bN_1, cN_2, bN_2, cN_3, bN_3, cN_4, bN_4, cN_5, bN_5, cN_6, bN_6, cN_7, bN_7, cN_8, bN_8, cN_9, bN_9, g1, g2, e6])
      | (refine ⟨_, mBecomes h (k := 110 + 14 * i + 6) (by omega) _, ?_⟩; try simp only [kO_150 h, kR_150_0 h, kO_151 h, kL_151 h, true_and, and_true, zO_wI, mR_wI, mL_wI, one_ne, if_true, if_false, cN_0, bN_0, cN_1, bN_1, cN_2, bN_2, cN_3, bN_3, cN_4, bN_4, cN_5, bN_5, cN_6, bN_6, cN_7, bN_7, cN_8, bN_8, cN_9, bN_9, g1, g2, e6])
      | apply And.intro
      | split
      | (simp_all only [kO_150 h, kR_150_0 h, kO_151 h, kL_151 h, true_and, and_true, zO_wI, mR_wI, mL_wI, one_ne, if_true, if_false, cN_0, bN_0, cN_1, bN_1, cN_2, bN_2, cN_3, bN_3, cN_4, bN_4, cN_5, bN_5, cN_6, bN_6, cN_7, bN_7, cN_8, bN_8, cN_9, bN_9, g1, g2, e6]; done)
theorem xFlag_1 {X : List Int32} {d : Nat} {M : Mm} (h : Sk M) {i : Nat} (hi : i < 16) (y : Int32) (g1 : zwt (nI i) 0 (mI M nowB 4 - 1) = 1) (hy : y = 0 ∨ y = 1) : zca X zML (d + 3) 83 [.ref 1, .int (nI i), .int 1, .int y] M (some (.int (if mI M (nowB + 19 + i) 7 = y then 0 else 1))) (wI M (nowB + 19 + i) 7 y) := by
  have hv : vp_in (nI i) 16 = True := vN hi (by decide)
  have hc : (nI i).toNatClampNeg = i := cI (by omega)
  have g2 : zwt 1 0 1 = 1 := rfl
  refine iX11_flag ⟨rfl, Nat.le_of_ble_eq_true rfl⟩ (zgo_in 200 ?_)
  dsimp only [zen, zrep, zw, zLo, zSe, zi1, zi2, zl2, zr1, zj, zsw, zpop, zkd, zLn, zc1, Nat.reduceSub, pX11_flag]
  try simp only [kO_1 h, kN h, bO0 h nowB_is, true_and, and_true, zO_wI, mR_wI, mL_wI, one_ne, if_true, if_false, bR0_3 h nowB_is, bA4 h nowB_is, bL4 h nowB_is, hv, hc, bV4 h nowB_is hi, bW4 h nowB_is hi, g1, g2]
  repeat' first
    | exact trivial
    | exact rfl
    | assumption
    | exact ⟨Nat.le_of_ble_eq_true rfl, Nat.le_of_ble_eq_true rfl, Nat.le_of_ble_eq_true rfl⟩
    | exact zwt01 _ _ _
    | decide
    | (refine ⟨_, _, xIsPhone h _, ?_⟩; try simp only [kO_1 h, kN h, bO0 h nowB_is, true_and, and_true, zO_wI, mR_wI, mL_wI, one_ne, if_true, if_false, bR0_3 h nowB_is, bA4 h nowB_is, bL4 h nowB_is, hv, hc, bV4 h nowB_is hi, bW4 h nowB_is hi, g1, g2])
    | (refine ⟨_, xIsPhone h _, ?_⟩; try simp only [kO_1 h, kN h, bO0 h nowB_is, true_and, and_true, zO_wI, mR_wI, mL_wI, one_ne, if_true, if_false, bR0_3 h nowB_is, bA4 h nowB_is, bL4 h nowB_is, hv, hc, bV4 h nowB_is hi, bW4 h nowB_is hi, g1, g2])
    | (refine ⟨_, _, sWithin _ _ _, ?_⟩; try simp only [kO_1 h, kN h, bO0 h nowB_is, true_and, and_true, zO_wI, mR_wI, mL_wI, one_ne, if_true, if_false, bR0_3 h nowB_is, bA4 h nowB_is, bL4 h nowB_is, hv, hc, bV4 h nowB_is hi, bW4 h nowB_is hi, g1, g2])
    | (refine ⟨_, sWithin _ _ _, ?_⟩; try simp only [kO_1 h, kN h, bO0 h nowB_is, true_and, and_true, zO_wI, mR_wI, mL_wI, one_ne, if_true, if_false, bR0_3 h nowB_is, bA4 h nowB_is, bL4 h nowB_is, hv, hc, bV4 h nowB_is hi, bW4 h nowB_is hi, g1, g2])
    | apply And.intro
    | split
    | (simp_all only [kO_1 h, kN h, bO0 h nowB_is, true_and, and_true, zO_wI, mR_wI, mL_wI, one_ne, if_true, if_false, bR0_3 h nowB_is, bA4 h nowB_is, bL4 h nowB_is, hv, hc, bV4 h nowB_is hi, bW4 h nowB_is hi, g1, g2]; done)
theorem mFlag_1 {X : List Int32} {d : Nat} {M : Mm} (h : Sk M) {i : Nat} (hi : i < 16) (y : Int32) (g1 : zwt (nI i) 0 (mI M 151 1 - 1) = 1) (hy : y = 0 ∨ y = 1) : zca X zML (d + 3) 84 [.ref 150, .int (nI i), .int 1, .int y] M (some (.int (if mI M 151 (110 + 14 * i + 7) = y then 0 else 1))) (wI M 151 (110 + 14 * i + 7) y) := by
  have g2 : zwt 1 0 1 = 1 := rfl
  have e6 : (110 : Int32) + 14 * nI i + 6 + 1 = nI (110 + 14 * i + 7) := by rw [phE6]; exact nI_add _ 1
  refine iX12_flag ⟨rfl, Nat.le_of_ble_eq_true rfl⟩ (zgo_in 200 ?_)
  dsimp only [zen, zrep, zw, zLo, zSe, zi1, zi2, zl2, zr1, zj, zsw, zpop, zkd, zLn, zc1, Nat.reduceSub, pX12_flag]
  rcases hy with rfl | rfl
  · try simp only [kO_150 h, kR_150_0 h, kO_151 h, kL_151 h, true_and, and_true, zO_wI, mR_wI, mL_wI, one_ne, if_true, if_false, cN_0, bN_0, cN_1, bN_1, cN_2, bN_2, cN_3, bN_3, cN_4, bN_4, cN_5, bN_5, cN_6, bN_6, cN_7, bN_7, cN_8, bN_8, cN_9, bN_9, g1, g2, e6]
    repeat' first
      | exact trivial
      | exact rfl
      | assumption
      | exact ⟨Nat.le_of_ble_eq_true rfl, Nat.le_of_ble_eq_true rfl, Nat.le_of_ble_eq_true rfl⟩
      | exact zwt01 _ _ _
      | decide
      | (refine ⟨_, _, mIsPhone h _, ?_⟩; try simp only [kO_150 h, kR_150_0 h, kO_151 h, kL_151 h, true_and, and_true, zO_wI, mR_wI, mL_wI, one_ne, if_true, if_false, cN_0, bN_0, cN_1, bN_1, cN_2, bN_2, cN_3, bN_3, cN_4, bN_4, cN_5, bN_5, cN_6, bN_6, cN_7, bN_7, cN_8, bN_8, cN_9, bN_9, g1, g2, e6])
      | (refine ⟨_, mIsPhone h _, ?_⟩; try simp only [kO_150 h, kR_150_0 h, kO_151 h, kL_151 h, true_and, and_true, zO_wI, mR_wI, mL_wI, one_ne, if_true, if_false, cN_0, bN_0, cN_1, bN_1, cN_2, bN_2, cN_3, bN_3, cN_4, bN_4, cN_5, bN_5, cN_6, bN_6, cN_7, bN_7, cN_8, bN_8, cN_9, bN_9, g1, g2, e6])
      | (refine ⟨_, _, sIsIn _ _ _, ?_⟩; try simp only [kO_150 h, kR_150_0 h, kO_151 h, kL_151 h, true_and, and_true, zO_wI, mR_wI, mL_wI, one_ne, if_true, if_false, cN_0, bN_0, cN_1, bN_1, cN_2, bN_2, cN_3, bN_3, cN_4, bN_4, cN_5, bN_5, cN_6, bN_6, cN_7, bN_7, cN_8, bN_8, cN_9, bN_9, g1, g2, e6])
      | (refine ⟨_, sIsIn _ _ _, ?_⟩; try simp only [kO_150 h, kR_150_0 h, kO_151 h, kL_151 h, true_and, and_true, zO_wI, mR_wI, mL_wI, one_ne, if_true, if_false, cN_0, bN_0, cN_1, bN_1, cN_2, bN_2, cN_3, bN_3, cN_4, bN_4, cN_5, bN_5, cN_6, bN_6, cN_7, bN_7, cN_8, bN_8, cN_9, bN_9, g1, g2, e6])
      | (refine ⟨_, _, mPhoneAt _, ?_⟩; try simp only [kO_150 h, kR_150_0 h, kO_151 h, kL_151 h, true_and, and_true, zO_wI, mR_wI, mL_wI, one_ne, if_true, if_false, cN_0, bN_0, cN_1, bN_1, cN_2, bN_2, cN_3, bN_3, cN_4, bN_4, cN_5, bN_5, cN_6, bN_6, cN_7, bN_7, cN_8, bN_8, cN_9, bN_9, g1, g2, e6])
      | (refine ⟨_, mPhoneAt _, ?_⟩; try simp only [kO_150 h, kR_150_0 h, kO_151 h, kL_151 h, true_and, and_true, zO_wI, mR_wI, mL_wI, one_ne, if_true, if_false, cN_0, bN_0, cN_1, bN_1, cN_2, bN_2, cN_3, bN_3, cN_4, bN_4, cN_5, bN_5, cN_6, bN_6, cN_7, bN_7, cN_8, bN_8, cN_9, bN_9, g1, g2, e6])
      | (refine ⟨_, _, mBecomes h (k := 110 + 14 * i + 7) (by omega) _, ?_⟩; try simp only [kO_150 h, kR_150_0 h, kO_151 h, kL_151 h, true_and, and_true, zO_wI, mR_wI, mL_wI, one_ne, if_true, if_false, cN_0, bN_0, cN_1, bN_1, cN_2, bN_2, cN_3, bN_3, cN_4, bN_4, cN_5, bN_5, cN_6, bN_6, cN_7, bN_7, cN_8, bN_8, cN_9, bN_9, g1, g2, e6])
      | (refine ⟨_, mBecomes h (k := 110 + 14 * i + 7) (by omega) _, ?_⟩; try simp only [kO_150 h, kR_150_0 h, kO_151 h, kL_151 h, true_and, and_true, zO_wI, mR_wI, mL_wI, one_ne, if_true, if_false, cN_0, bN_0, cN_1, bN_1, cN_2, bN_2, cN_3, bN_3, cN_4, bN_4, cN_5, bN_5, cN_6, bN_6, cN_7, bN_7, cN_8, bN_8, cN_9, bN_9, g1, g2, e6])
      | apply And.intro
      | split
      | (simp_all only [kO_150 h, kR_150_0 h, kO_151 h, kL_151 h, true_and, and_true, zO_wI, mR_wI, mL_wI, one_ne, if_true, if_false, cN_0, bN_0, cN_1, bN_1, cN_2, bN_2, cN_3, bN_3, cN_4, bN_4, cN_5, bN_5, cN_6, bN_6, cN_7, bN_7, cN_8, bN_8, cN_9, bN_9, g1, g2, e6]; done)
  · try simp only [kO_150 h, kR_150_0 h, kO_151 h, kL_151 h, true_and, and_true, zO_wI, mR_wI, mL_wI, one_ne, if_true, if_false, cN_0, bN_0, cN_1, bN_1, cN_2, bN_2, cN_3, bN_3, cN_4, bN_4, cN_5, bN_5, cN_6, bN_6, cN_7, bN_7, cN_8, bN_8, cN_9, bN_9, g1, g2, e6]
    repeat' first
      | exact trivial
      | exact rfl
      | assumption
      | exact ⟨Nat.le_of_ble_eq_true rfl, Nat.le_of_ble_eq_true rfl, Nat.le_of_ble_eq_true rfl⟩
      | exact zwt01 _ _ _
      | decide
      | (refine ⟨_, _, mIsPhone h _, ?_⟩; try simp only [kO_150 h, kR_150_0 h, kO_151 h, kL_151 h, true_and, and_true, zO_wI, mR_wI, mL_wI, one_ne, if_true, if_false, cN_0, bN_0, cN_1, bN_1, cN_2, bN_2, cN_3, bN_3, cN_4, bN_4, cN_5, bN_5, cN_6, bN_6, cN_7, bN_7, cN_8, bN_8, cN_9, bN_9, g1, g2, e6])
      | (refine ⟨_, mIsPhone h _, ?_⟩; try simp only [kO_150 h, kR_150_0 h, kO_151 h, kL_151 h, true_and, and_true, zO_wI, mR_wI, mL_wI, one_ne, if_true, if_false, cN_0, bN_0, cN_1, bN_1, cN_2, bN_2, cN_3, bN_3, cN_4, bN_4, cN_5, bN_5, cN_6, bN_6, cN_7, bN_7, cN_8, bN_8, cN_9, bN_9, g1, g2, e6])
      | (refine ⟨_, _, sIsIn _ _ _, ?_⟩; try simp only [kO_150 h, kR_150_0 h, kO_151 h, kL_151 h, true_and, and_true, zO_wI, mR_wI, mL_wI, one_ne, if_true, if_false, cN_0, bN_0, cN_1, bN_1, cN_2, bN_2, cN_3, bN_3, cN_4, bN_4, cN_5, bN_5, cN_6, bN_6, cN_7, bN_7, cN_8, bN_8, cN_9, bN_9, g1, g2, e6])
      | (refine ⟨_, sIsIn _ _ _, ?_⟩; try simp only [kO_150 h, kR_150_0 h, kO_151 h, kL_151 h, true_and, and_true, zO_wI, mR_wI, mL_wI, one_ne, if_true, if_false, cN_0, bN_0, cN_1, bN_1, cN_2, bN_2, cN_3, bN_3, cN_4, bN_4, cN_5, bN_5, cN_6, bN_6, cN_7, bN_7, cN_8, bN_8, cN_9, bN_9, g1, g2, e6])
      | (refine ⟨_, _, mPhoneAt _, ?_⟩; try simp only [kO_150 h, kR_150_0 h, kO_151 h, kL_151 h, true_and, and_true, zO_wI, mR_wI, mL_wI, one_ne, if_true, if_false, cN_0, bN_0, cN_1, bN_1, cN_2, bN_2, cN_3, bN_3, cN_4, bN_4, cN_5, bN_5, cN_6, bN_6, cN_7, bN_7, cN_8, bN_8, cN_9, bN_9, g1, g2, e6])
      | (refine ⟨_, mPhoneAt _, ?_⟩; try simp only [kO_150 h, kR_150_0 h, kO_151 h, kL_151 h, true_and, and_true, zO_wI, mR_wI, mL_wI, one_ne, if_true, if_false, cN_0, bN_0, cN_1, bN_1, cN_2, bN_2, cN_3, bN_3, cN_4, bN_4, cN_5, bN_5, cN_6, bN_6, cN_7, bN_7, cN_8, bN_8, cN_9, bN_9, g1, g2, e6])
      | (refine ⟨_, _, mBecomes h (k := 110 + 14 * i + 7) (by omega) _, ?_⟩; try simp only [kO_150 h, kR_150_0 h, kO_151 h, kL_151 h, true_and, and_true, zO_wI, mR_wI, mL_wI, one_ne, if_true, if_false, cN_0, bN_0, cN_1, bN_1, cN_2, bN_2, cN_3, bN_3, cN_4, bN_4, cN_5, bN_5, cN_6, bN_6, cN_7, bN_7, cN_8, bN_8, cN_9, bN_9, g1, g2, e6])
      | (refine ⟨_, mBecomes h (k := 110 + 14 * i + 7) (by omega) _, ?_⟩; try simp only [kO_150 h, kR_150_0 h, kO_151 h, kL_151 h, true_and, and_true, zO_wI, mR_wI, mL_wI, one_ne, if_true, if_false, cN_0, bN_0, cN_1, bN_1, cN_2, bN_2, cN_3, bN_3, cN_4, bN_4, cN_5, bN_5, cN_6, bN_6, cN_7, bN_7, cN_8, bN_8, cN_9, bN_9, g1, g2, e6])
      | apply And.intro
      | split
      | (simp_all only [kO_150 h, kR_150_0 h, kO_151 h, kL_151 h, true_and, and_true, zO_wI, mR_wI, mL_wI, one_ne, if_true, if_false, cN_0, bN_0, cN_1, bN_1, cN_2, bN_2, cN_3, bN_3, cN_4, bN_4, cN_5, bN_5, cN_6, bN_6, cN_7, bN_7, cN_8, bN_8, cN_9, bN_9, g1, g2, e6]; done)
theorem opFlag0 {X : List Int32} {M : Mm} {i nM nP nT nK nC : Nat} (h : Rel M) (hS : Sh M nowB (mI M 151) nM nP nT nK nC) (hi : i < nP) (y : Int32) (hy : y = 0 ∨ y = 1) (g1 : zwt (nI i) 0 (nI nP - 1) = 1) : Opk X 83 84 [.int (nI i), .int 0, .int y] M := by
  have e1 : mI M nowB 4 = nI nP := hS.1.2.2.1.2.1
  have e2 : mI M 151 1 = nI nP := hS.1.2.1.2.1
  have h16 := hS.1.1.2.1
  refine Opk.mk (xFlag_0 (d := 297) h.1 (show i < 16 by omega) y (by rw [e1]; exact g1) hy) (mFlag_0 (d := 297) (M := wI M (nowB + 19 + i) 6 y) h.1 (show i < 16 by omega) y (by rw [e151 (by unfold nowB; omega), e2]; exact g1) hy) ?_ (Rel_op (nM := nM) (nP := nP) (nT := nT) (nK := nK) (nC := nC) h (fX_of (M1 := wI M (nowB + 19 + i) 6 y) h.1 rfl (fun r hr j => mI_wIr (by unfold nowB; omega))) (fM_151 _ _ _) ?_)
  · rw [e151 (by unfold nowB; omega), (hS.2.2.2.1 i hi).1.2.2.2.2.2.2.1]
  · rw [mI_151, e151 (by unfold nowB; omega)]
    exact up_pf (k := 6) nowB_is hS hi (by omega) (ShF_6 (hS.2.2.2.1 i hi) y (by rcases hy with rfl | rfl; exact ⟨0, by omega, rfl⟩; exact ⟨1, by omega, rfl⟩))
theorem opFlag1 {X : List Int32} {M : Mm} {i nM nP nT nK nC : Nat} (h : Rel M) (hS : Sh M nowB (mI M 151) nM nP nT nK nC) (hi : i < nP) (y : Int32) (hy : y = 0 ∨ y = 1) (g1 : zwt (nI i) 0 (nI nP - 1) = 1) : Opk X 83 84 [.int (nI i), .int 1, .int y] M := by
  have e1 : mI M nowB 4 = nI nP := hS.1.2.2.1.2.1
  have e2 : mI M 151 1 = nI nP := hS.1.2.1.2.1
  have h16 := hS.1.1.2.1
  refine Opk.mk (xFlag_1 (d := 297) h.1 (show i < 16 by omega) y (by rw [e1]; exact g1) hy) (mFlag_1 (d := 297) (M := wI M (nowB + 19 + i) 7 y) h.1 (show i < 16 by omega) y (by rw [e151 (by unfold nowB; omega), e2]; exact g1) hy) ?_ (Rel_op (nM := nM) (nP := nP) (nT := nT) (nK := nK) (nC := nC) h (fX_of (M1 := wI M (nowB + 19 + i) 7 y) h.1 rfl (fun r hr j => mI_wIr (by unfold nowB; omega))) (fM_151 _ _ _) ?_)
  · rw [e151 (by unfold nowB; omega), (hS.2.2.2.1 i hi).1.2.2.2.2.2.2.2.1]
  · rw [mI_151, e151 (by unfold nowB; omega)]
    exact up_pf (k := 7) nowB_is hS hi (by omega) (ShF_7 (hS.2.2.2.1 i hi) y (by rcases hy with rfl | rfl; exact ⟨0, by omega, rfl⟩; exact ⟨1, by omega, rfl⟩))
theorem opFlag {X : List Int32} {M : Mm} (h : Rel M) (p w y : Int32) (hy : y = 0 ∨ y = 1) : Opk X 83 84 [.int p, .int w, .int y] M := by
  obtain ⟨nM, nP, nT, nK, nC, hS⟩ := h.2.1
  have e1 : mI M nowB 4 = nI nP := hS.1.2.2.1.2.1
  have e2 : mI M 151 1 = nI nP := hS.1.2.1.2.1
  have h16 := hS.1.1.2.1
  by_cases hb : zwt p 0 (nI nP - 1) = 0 ∨ zwt w 0 1 = 0
  · exact Opk.same h (xFlag_bad (d := 297) h.1 p w y (by rw [e1]; exact hb)) (mFlag_bad (d := 297) h.1 p w y (by rw [e2]; exact hb)) rfl
  · have g1 : zwt p 0 (nI nP - 1) = 1 := (zwt01 _ _ _).resolve_left (fun q => hb (Or.inl q))
    have g2 : zwt w 0 1 = 1 := (zwt01 _ _ _).resolve_left (fun q => hb (Or.inr q))
    obtain ⟨i, hi, rfl⟩ := zwt_ix (by omega) g1
    obtain ⟨k, hk, rfl⟩ := zwt_c0 (n := 1) (by decide) g2
    rcases (show k = 0 ∨ k = 1 by omega) with rfl | rfl
    · exact opFlag0 h hS hi y hy g1
    · exact opFlag1 h hS hi y hy g1
def zof (a : Nat) (w : Int32) : Int32 := match a with
  | 0 => if 0 = w then 1 else 0
  | 1 => if 1 = w then 1 else if 0 = w then 1 else 0
  | 2 => if 2 = w then 1 else if 0 = w then 1 else 0
  | 3 => if 3 = w then 1 else if 2 = w then 1 else if 0 = w then 1 else 0
  | 4 => if 4 = w then 1 else if 1 = w then 1 else if 0 = w then 1 else 0
  | _ => if 5 = w then 1 else if 0 = w then 1 else 0
theorem zof01 (a : Nat) (w : Int32) : zof a w = 0 ∨ zof a w = 1 := by
  unfold zof
  split <;> repeat' first | exact Or.inl rfl | exact Or.inr rfl | split
theorem zxV0 (X : List Int32) : zxV X (UInt32.toNat 0) = [-1, 0, 0, 2, 1, 0] := rfl
theorem lIsOf {X : List Int32} {d : Nat} {M : Mm} {r : Nat} {w b nx k : Int32} {Q : zQt} (h0 : ¬ b < 0) (h1 : ¬ 6 ≤ b) (hin : vp_in b 6) (hx : ([-1, 0, 0, 2, 1, 0] : List Int32).getD b.toNatClampNeg 0 = nx) (hk : ¬ 6 ≤ k) (ht : b = w → Q (some (.int 1)) M) (hf : ¬ b = w → zgo X (zca X zML d) pX3_isOf 0 0 (zj pX3_isOf 6) [.ref r, .int w, .int nx, .int (k + 1)] [] 0 0 M Q) : zgo X (zca X zML d) pX3_isOf 0 0 (zj pX3_isOf 6) [.ref r, .int w, .int b, .int k] [] 0 0 M Q := by
  refine zgo_in 40 ?_
  dsimp only [zen, zrep, zw, zLo, zSe, zi1, zi2, zl2, zr1, zj, zsw, zpop, zkd, zLn, zc1, Nat.reduceSub, pX3_isOf]
  rw [zxV0, if_neg hk, if_neg h0]
  refine ⟨Or.inl (by decide), ?_⟩
  rw [if_neg (show ¬ nI ([-1, 0, 0, 2, 1, 0] : List Int32).length ≤ b from h1)]
  split
  · rename_i q
    exact ⟨Or.inr rfl, ht q⟩
  · rename_i q
    refine ⟨by decide, hin, ?_⟩
    rw [hx]
    exact hf q
theorem lIsOfE {X : List Int32} {d : Nat} {M : Mm} {r : Nat} {w k : Int32} {Q : zQt} (hk : ¬ 6 ≤ k) (ht : Q (some (.int 0)) M) : zgo X (zca X zML d) pX3_isOf 0 0 (zj pX3_isOf 6) [.ref r, .int w, .int (-1), .int k] [] 0 0 M Q := by
  refine zgo_in 40 ?_
  dsimp only [zen, zrep, zw, zLo, zSe, zi1, zi2, zl2, zr1, zj, zsw, zpop, zkd, zLn, zc1, Nat.reduceSub, pX3_isOf]
  rw [if_neg hk, if_pos (by decide)]
  exact ⟨Or.inl rfl, ht⟩
theorem sIsOf {X : List Int32} {d : Nat} {M : Mm} {r a : Nat} (hO : zO M r 3) (ha : a < 6) (e : mI M r 0 = nI a) (w : Int32) : zca X zML (d + 1) 77 [.ref r, .int w] M (some (.int (zof a w))) M := by
  refine iX3_isOf ⟨rfl, Nat.le_of_ble_eq_true rfl⟩ (zgo_in 200 ?_)
  dsimp only [zen, zrep, zw, zLo, zSe, zi1, zi2, zl2, zr1, zj, zsw, zpop, zkd, zLn, zc1, Nat.reduceSub, pX3_isOf]
  refine ⟨hO, ?_⟩
  rw [e]
  rcases (show a = 0 ∨ a = 1 ∨ a = 2 ∨ a = 3 ∨ a = 4 ∨ a = 5 by omega) with rfl | rfl | rfl | rfl | rfl | rfl
  · refine lIsOf (nx := -1) (by decide) (by decide) (by unfold vp_in; decide) rfl (by decide) (fun q => ⟨by subst q; rfl, rfl⟩) (fun q0 => ?_)
    exact lIsOfE (by decide) ⟨by rw [show zof 0 w = 0 from if_neg q0], rfl⟩
  · refine lIsOf (nx := 0) (by decide) (by decide) (by unfold vp_in; decide) rfl (by decide) (fun q => ⟨by subst q; rfl, rfl⟩) (fun q0 => ?_)
    refine lIsOf (nx := -1) (by decide) (by decide) (by unfold vp_in; decide) rfl (by decide) (fun q => ⟨by subst q; rfl, rfl⟩) (fun q1 => ?_)
    exact lIsOfE (by decide) ⟨by rw [show zof 1 w = 0 from (if_neg q0).trans (if_neg q1)], rfl⟩
  · refine lIsOf (nx := 0) (by decide) (by decide) (by unfold vp_in; decide) rfl (by decide) (fun q => ⟨by subst q; rfl, rfl⟩) (fun q0 => ?_)
    refine lIsOf (nx := -1) (by decide) (by decide) (by unfold vp_in; decide) rfl (by decide) (fun q => ⟨by subst q; rfl, rfl⟩) (fun q1 => ?_)
    exact lIsOfE (by decide) ⟨by rw [show zof 2 w = 0 from (if_neg q0).trans (if_neg q1)], rfl⟩
  · refine lIsOf (nx := 2) (by decide) (by decide) (by unfold vp_in; decide) rfl (by decide) (fun q => ⟨by subst q; rfl, rfl⟩) (fun q0 => ?_)
    refine lIsOf (nx := 0) (by decide) (by decide) (by unfold vp_in; decide) rfl (by decide) (fun q => ⟨by subst q; rfl, rfl⟩) (fun q1 => ?_)
    refine lIsOf (nx := -1) (by decide) (by decide) (by unfold vp_in; decide) rfl (by decide) (fun q => ⟨by subst q; rfl, rfl⟩) (fun q2 => ?_)
    exact lIsOfE (by decide) ⟨by rw [show zof 3 w = 0 from (if_neg q0).trans ((if_neg q1).trans (if_neg q2))], rfl⟩
  · refine lIsOf (nx := 1) (by decide) (by decide) (by unfold vp_in; decide) rfl (by decide) (fun q => ⟨by subst q; rfl, rfl⟩) (fun q0 => ?_)
    refine lIsOf (nx := 0) (by decide) (by decide) (by unfold vp_in; decide) rfl (by decide) (fun q => ⟨by subst q; rfl, rfl⟩) (fun q1 => ?_)
    refine lIsOf (nx := -1) (by decide) (by decide) (by unfold vp_in; decide) rfl (by decide) (fun q => ⟨by subst q; rfl, rfl⟩) (fun q2 => ?_)
    exact lIsOfE (by decide) ⟨by rw [show zof 4 w = 0 from (if_neg q0).trans ((if_neg q1).trans (if_neg q2))], rfl⟩
  · refine lIsOf (nx := 0) (by decide) (by decide) (by unfold vp_in; decide) rfl (by decide) (fun q => ⟨by subst q; rfl, rfl⟩) (fun q0 => ?_)
    refine lIsOf (nx := -1) (by decide) (by decide) (by unfold vp_in; decide) rfl (by decide) (fun q => ⟨by subst q; rfl, rfl⟩) (fun q1 => ?_)
    exact lIsOfE (by decide) ⟨by rw [show zof 5 w = 0 from (if_neg q0).trans (if_neg q1)], rfl⟩
theorem mIsOf {X : List Int32} {d : Nat} {M : Mm} {a k : Nat} (ha : a < 6) (hk : k < 6) : zca X zML (d + 1) 79 [.int (nI a), .int (nI k)] M (some (.int (zof a (nI k)))) M := by
  refine iX12_isOf ⟨rfl, Nat.le_of_ble_eq_true rfl⟩ (zgo_in 200 ?_)
  dsimp only [zen, zrep, zw, zLo, zSe, zi1, zi2, zl2, zr1, zj, zsw, zpop, zkd, zLn, zc1, Nat.reduceSub, pX12_isOf]
  rcases (show a = 0 ∨ a = 1 ∨ a = 2 ∨ a = 3 ∨ a = 4 ∨ a = 5 by omega) with rfl | rfl | rfl | rfl | rfl | rfl <;>
    rcases (show k = 0 ∨ k = 1 ∨ k = 2 ∨ k = 3 ∨ k = 4 ∨ k = 5 by omega) with rfl | rfl | rfl | rfl | rfl | rfl
  all_goals
    repeat' first
      | exact rfl
      | exact trivial
      | decide
      | apply And.intro
      | rw [if_pos (by decide)]
      | rw [if_neg (by decide)]
theorem xAs_bad {X : List Int32} {d : Nat} {M : Mm} (h : Sk M) (p k : Int32) (hb : zwt p 0 (mI M nowB 4 - 1) = 0 ∨ zwt k 0 5 = 0) : zca X zML (d + 3) 78 [.ref 1, .int p, .int k] M (some (.int (-1000000001))) M := by
  refine iX11_as ⟨rfl, Nat.le_of_ble_eq_true rfl⟩ (zgo_in 200 ?_)
  dsimp only [zen, zrep, zw, zLo, zSe, zi1, zi2, zl2, zr1, zj, zsw, zpop, zkd, zLn, zc1, Nat.reduceSub, pX11_as]
  rcases (zwt01 _ _ _ : zwt p 0 (mI M nowB 4 - 1) = 0 ∨ zwt p 0 (mI M nowB 4 - 1) = 1) with q0 | q0
  · try simp only [kO_1 h, kN h, bO0 h nowB_is, true_and, and_true, zO_wI, mR_wI, mL_wI, one_ne, if_true, if_false, q0]
    repeat' first
      | exact trivial
      | exact rfl
      | assumption
      | exact ⟨Nat.le_of_ble_eq_true rfl, Nat.le_of_ble_eq_true rfl, Nat.le_of_ble_eq_true rfl⟩
      | exact zwt01 _ _ _
      | decide
      | (refine ⟨_, _, xIsPhone h _, ?_⟩; try simp only [kO_1 h, kN h, bO0 h nowB_is, true_and, and_true, zO_wI, mR_wI, mL_wI, one_ne, if_true, if_false, q0])
      | (refine ⟨_, xIsPhone h _, ?_⟩; try simp only [kO_1 h, kN h, bO0 h nowB_is, true_and, and_true, zO_wI, mR_wI, mL_wI, one_ne, if_true, if_false, q0])
      | (refine ⟨_, _, xIsKind _, ?_⟩; try simp only [kO_1 h, kN h, bO0 h nowB_is, true_and, and_true, zO_wI, mR_wI, mL_wI, one_ne, if_true, if_false, q0])
      | (refine ⟨_, xIsKind _, ?_⟩; try simp only [kO_1 h, kN h, bO0 h nowB_is, true_and, and_true, zO_wI, mR_wI, mL_wI, one_ne, if_true, if_false, q0])
      | apply And.intro
      | split
      | (simp_all only [kO_1 h, kN h, bO0 h nowB_is, true_and, and_true, zO_wI, mR_wI, mL_wI, one_ne, if_true, if_false, q0]; done)
  · have hb := hb.resolve_left (by rw [q0]; decide)
    try simp only [kO_1 h, kN h, bO0 h nowB_is, true_and, and_true, zO_wI, mR_wI, mL_wI, one_ne, if_true, if_false, q0, hb]
    repeat' first
      | exact trivial
      | exact rfl
      | assumption
      | exact ⟨Nat.le_of_ble_eq_true rfl, Nat.le_of_ble_eq_true rfl, Nat.le_of_ble_eq_true rfl⟩
      | exact zwt01 _ _ _
      | decide
      | (refine ⟨_, _, xIsPhone h _, ?_⟩; try simp only [kO_1 h, kN h, bO0 h nowB_is, true_and, and_true, zO_wI, mR_wI, mL_wI, one_ne, if_true, if_false, q0, hb])
      | (refine ⟨_, xIsPhone h _, ?_⟩; try simp only [kO_1 h, kN h, bO0 h nowB_is, true_and, and_true, zO_wI, mR_wI, mL_wI, one_ne, if_true, if_false, q0, hb])
      | (refine ⟨_, _, xIsKind _, ?_⟩; try simp only [kO_1 h, kN h, bO0 h nowB_is, true_and, and_true, zO_wI, mR_wI, mL_wI, one_ne, if_true, if_false, q0, hb])
      | (refine ⟨_, xIsKind _, ?_⟩; try simp only [kO_1 h, kN h, bO0 h nowB_is, true_and, and_true, zO_wI, mR_wI, mL_wI, one_ne, if_true, if_false, q0, hb])
      | apply And.intro
      | split
      | (simp_all only [kO_1 h, kN h, bO0 h nowB_is, true_and, and_true, zO_wI, mR_wI, mL_wI, one_ne, if_true, if_false, q0, hb]; done)
theorem mAs_bad {X : List Int32} {d : Nat} {M : Mm} (h : Sk M) (p k : Int32) (hb : zwt p 0 (mI M 151 1 - 1) = 0 ∨ zwt k 0 5 = 0) : zca X zML (d + 3) 80 [.ref 150, .int p, .int k] M (some (.int (-1000000001))) M := by
  refine iX12_as ⟨rfl, Nat.le_of_ble_eq_true rfl⟩ (zgo_in 200 ?_)
  dsimp only [zen, zrep, zw, zLo, zSe, zi1, zi2, zl2, zr1, zj, zsw, zpop, zkd, zLn, zc1, Nat.reduceSub, pX12_as]
  rcases (zwt01 _ _ _ : zwt p 0 (mI M 151 1 - 1) = 0 ∨ zwt p 0 (mI M 151 1 - 1) = 1) with q0 | q0
  · try simp only [kO_150 h, kR_150_0 h, kO_151 h, kL_151 h, true_and, and_true, zO_wI, mR_wI, mL_wI, one_ne, if_true, if_false, cN_0, bN_0, cN_1, bN_1, cN_2, bN_2, cN_3, bN_3, cN_4, bN_4, cN_5, bN_5, cN_6, bN_6, cN_7, bN_7, cN_8, bN_8, cN_9, bN_9, q0]
    repeat' first
      | exact trivial
      | exact rfl
      | assumption
      | exact ⟨Nat.le_of_ble_eq_true rfl, Nat.le_of_ble_eq_true rfl, Nat.le_of_ble_eq_true rfl⟩
      | exact zwt01 _ _ _
      | decide
      | (refine ⟨_, _, mIsPhone h _, ?_⟩; try simp only [kO_150 h, kR_150_0 h, kO_151 h, kL_151 h, true_and, and_true, zO_wI, mR_wI, mL_wI, one_ne, if_true, if_false, cN_0, bN_0, cN_1, bN_1, cN_2, bN_2, cN_3, bN_3, cN_4, bN_4, cN_5, bN_5, cN_6, bN_6, cN_7, bN_7, cN_8, bN_8, cN_9, bN_9, q0])
      | (refine ⟨_, mIsPhone h _, ?_⟩; try simp only [kO_150 h, kR_150_0 h, kO_151 h, kL_151 h, true_and, and_true, zO_wI, mR_wI, mL_wI, one_ne, if_true, if_false, cN_0, bN_0, cN_1, bN_1, cN_2, bN_2, cN_3, bN_3, cN_4, bN_4, cN_5, bN_5, cN_6, bN_6, cN_7, bN_7, cN_8, bN_8, cN_9, bN_9, q0])
      | (refine ⟨_, _, sIsIn _ _ _, ?_⟩; try simp only [kO_150 h, kR_150_0 h, kO_151 h, kL_151 h, true_and, and_true, zO_wI, mR_wI, mL_wI, one_ne, if_true, if_false, cN_0, bN_0, cN_1, bN_1, cN_2, bN_2, cN_3, bN_3, cN_4, bN_4, cN_5, bN_5, cN_6, bN_6, cN_7, bN_7, cN_8, bN_8, cN_9, bN_9, q0])
      | (refine ⟨_, sIsIn _ _ _, ?_⟩; try simp only [kO_150 h, kR_150_0 h, kO_151 h, kL_151 h, true_and, and_true, zO_wI, mR_wI, mL_wI, one_ne, if_true, if_false, cN_0, bN_0, cN_1, bN_1, cN_2, bN_2, cN_3, bN_3, cN_4, bN_4, cN_5, bN_5, cN_6, bN_6, cN_7, bN_7, cN_8, bN_8, cN_9, bN_9, q0])
      | apply And.intro
      | split
      | (simp_all only [kO_150 h, kR_150_0 h, kO_151 h, kL_151 h, true_and, and_true, zO_wI, mR_wI, mL_wI, one_ne, if_true, if_false, cN_0, bN_0, cN_1, bN_1, cN_2, bN_2, cN_3, bN_3, cN_4, bN_4, cN_5, bN_5, cN_6, bN_6, cN_7, bN_7, cN_8, bN_8, cN_9, bN_9, q0]; done)
  · have hb := hb.resolve_left (by rw [q0]; decide)
    try simp only [kO_150 h, kR_150_0 h, kO_151 h, kL_151 h, true_and, and_true, zO_wI, mR_wI, mL_wI, one_ne, if_true, if_false, cN_0, bN_0, cN_1, bN_1, cN_2, bN_2, cN_3, bN_3, cN_4, bN_4, cN_5, bN_5, cN_6, bN_6, cN_7, bN_7, cN_8, bN_8, cN_9, bN_9, q0, hb]
    repeat' first
      | exact trivial
      | exact rfl
      | assumption
      | exact ⟨Nat.le_of_ble_eq_true rfl, Nat.le_of_ble_eq_true rfl, Nat.le_of_ble_eq_true rfl⟩
      | exact zwt01 _ _ _
      | decide
      | (refine ⟨_, _, mIsPhone h _, ?_⟩; try simp only [kO_150 h, kR_150_0 h, kO_151 h, kL_151 h, true_and, and_true, zO_wI, mR_wI, mL_wI, one_ne, if_true, if_false, cN_0, bN_0, cN_1, bN_1, cN_2, bN_2, cN_3, bN_3, cN_4, bN_4, cN_5, bN_5, cN_6, bN_6, cN_7, bN_7, cN_8, bN_8, cN_9, bN_9, q0, hb])
      | (refine ⟨_, mIsPhone h _, ?_⟩; try simp only [kO_150 h, kR_150_0 h, kO_151 h, kL_151 h, true_and, and_true, zO_wI, mR_wI, mL_wI, one_ne, if_true, if_false, cN_0, bN_0, cN_1, bN_1, cN_2, bN_2, cN_3, bN_3, cN_4, bN_4, cN_5, bN_5, cN_6, bN_6, cN_7, bN_7, cN_8, bN_8, cN_9, bN_9, q0, hb])
      | (refine ⟨_, _, sIsIn _ _ _, ?_⟩; try simp only [kO_150 h, kR_150_0 h, kO_151 h, kL_151 h, true_and, and_true, zO_wI, mR_wI, mL_wI, one_ne, if_true, if_false, cN_0, bN_0, cN_1, bN_1, cN_2, bN_2, cN_3, bN_3, cN_4, bN_4, cN_5, bN_5, cN_6, bN_6, cN_7, bN_7, cN_8, bN_8, cN_9, bN_9, q0, hb])
      | (refine ⟨_, sIsIn _ _ _, ?_⟩; try simp only [kO_150 h, kR_150_0 h, kO_151 h, kL_151 h, true_and, and_true, zO_wI, mR_wI, mL_wI, one_ne, if_true, if_false, cN_0, bN_0, cN_1, bN_1, cN_2, bN_2, cN_3, bN_3, cN_4, bN_4, cN_5, bN_5, cN_6, bN_6, cN_7, bN_7, cN_8, bN_8, cN_9, bN_9, q0, hb])
      | apply And.intro
      | split
      | (simp_all only [kO_150 h, kR_150_0 h, kO_151 h, kL_151 h, true_and, and_true, zO_wI, mR_wI, mL_wI, one_ne, if_true, if_false, cN_0, bN_0, cN_1, bN_1, cN_2, bN_2, cN_3, bN_3, cN_4, bN_4, cN_5, bN_5, cN_6, bN_6, cN_7, bN_7, cN_8, bN_8, cN_9, bN_9, q0, hb]; done)
theorem xAs_ok {X : List Int32} {d : Nat} {M : Mm} (h : Sk M) {i a k : Nat} (hi : i < 16) (ha : a < 6) (e : mI M (nowB + 19 + i) 0 = nI a) (g1 : zwt (nI i) 0 (mI M nowB 4 - 1) = 1) (g2 : zwt (nI k) 0 5 = 1) : zca X zML (d + 3) 78 [.ref 1, .int (nI i), .int (nI k)] M (some (.int (if zof a (nI k) = 0 then -1000000012 else mI M (nowB + 19 + i) 2))) M := by
  have hv : vp_in (nI i) 16 = True := vN hi (by decide)
  have hc : (nI i).toNatClampNeg = i := cI (by omega)
  refine iX11_as ⟨rfl, Nat.le_of_ble_eq_true rfl⟩ (zgo_in 200 ?_)
  dsimp only [zen, zrep, zw, zLo, zSe, zi1, zi2, zl2, zr1, zj, zsw, zpop, zkd, zLn, zc1, Nat.reduceSub, pX11_as]
  by_cases q : zof a (nI k) = 0
  · try simp only [kO_1 h, kN h, bO0 h nowB_is, true_and, and_true, zO_wI, mR_wI, mL_wI, one_ne, if_true, if_false, bR0_3 h nowB_is, bA4 h nowB_is, bL4 h nowB_is, hv, hc, bV4 h nowB_is hi, bW4 h nowB_is hi, g1, g2, q]
    repeat' first
      | exact trivial
      | exact rfl
      | assumption
      | exact ⟨Nat.le_of_ble_eq_true rfl, Nat.le_of_ble_eq_true rfl, Nat.le_of_ble_eq_true rfl⟩
      | exact zwt01 _ _ _
      | decide
      | (refine ⟨_, _, xIsPhone h _, ?_⟩; try simp only [kO_1 h, kN h, bO0 h nowB_is, true_and, and_true, zO_wI, mR_wI, mL_wI, one_ne, if_true, if_false, bR0_3 h nowB_is, bA4 h nowB_is, bL4 h nowB_is, hv, hc, bV4 h nowB_is hi, bW4 h nowB_is hi, g1, g2, q])
      | (refine ⟨_, xIsPhone h _, ?_⟩; try simp only [kO_1 h, kN h, bO0 h nowB_is, true_and, and_true, zO_wI, mR_wI, mL_wI, one_ne, if_true, if_false, bR0_3 h nowB_is, bA4 h nowB_is, bL4 h nowB_is, hv, hc, bV4 h nowB_is hi, bW4 h nowB_is hi, g1, g2, q])
      | (refine ⟨_, _, xIsKind _, ?_⟩; try simp only [kO_1 h, kN h, bO0 h nowB_is, true_and, and_true, zO_wI, mR_wI, mL_wI, one_ne, if_true, if_false, bR0_3 h nowB_is, bA4 h nowB_is, bL4 h nowB_is, hv, hc, bV4 h nowB_is hi, bW4 h nowB_is hi, g1, g2, q])
      | (refine ⟨_, xIsKind _, ?_⟩; try simp only [kO_1 h, kN h, bO0 h nowB_is, true_and, and_true, zO_wI, mR_wI, mL_wI, one_ne, if_true, if_false, bR0_3 h nowB_is, bA4 h nowB_is, bL4 h nowB_is, hv, hc, bV4 h nowB_is hi, bW4 h nowB_is hi, g1, g2, q])
      | (refine ⟨_, _, sIsOf (of_eq_true (bW4 h nowB_is hi)) ha e _, ?_⟩; try simp only [kO_1 h, kN h, bO0 h nowB_is, true_and, and_true, zO_wI, mR_wI, mL_wI, one_ne, if_true, if_false, bR0_3 h nowB_is, bA4 h nowB_is, bL4 h nowB_is, hv, hc, bV4 h nowB_is hi, bW4 h nowB_is hi, g1, g2, q])
      | (refine ⟨_, sIsOf (of_eq_true (bW4 h nowB_is hi)) ha e _, ?_⟩; try simp only [kO_1 h, kN h, bO0 h nowB_is, true_and, and_true, zO_wI, mR_wI, mL_wI, one_ne, if_true, if_false, bR0_3 h nowB_is, bA4 h nowB_is, bL4 h nowB_is, hv, hc, bV4 h nowB_is hi, bW4 h nowB_is hi, g1, g2, q])
      | apply And.intro
      | split
      | (simp_all only [kO_1 h, kN h, bO0 h nowB_is, true_and, and_true, zO_wI, mR_wI, mL_wI, one_ne, if_true, if_false, bR0_3 h nowB_is, bA4 h nowB_is, bL4 h nowB_is, hv, hc, bV4 h nowB_is hi, bW4 h nowB_is hi, g1, g2, q]; done)
  · try simp only [kO_1 h, kN h, bO0 h nowB_is, true_and, and_true, zO_wI, mR_wI, mL_wI, one_ne, if_true, if_false, bR0_3 h nowB_is, bA4 h nowB_is, bL4 h nowB_is, hv, hc, bV4 h nowB_is hi, bW4 h nowB_is hi, g1, g2, q]
    repeat' first
      | exact trivial
      | exact rfl
      | assumption
      | exact ⟨Nat.le_of_ble_eq_true rfl, Nat.le_of_ble_eq_true rfl, Nat.le_of_ble_eq_true rfl⟩
      | exact zwt01 _ _ _
      | decide
      | (refine ⟨_, _, xIsPhone h _, ?_⟩; try simp only [kO_1 h, kN h, bO0 h nowB_is, true_and, and_true, zO_wI, mR_wI, mL_wI, one_ne, if_true, if_false, bR0_3 h nowB_is, bA4 h nowB_is, bL4 h nowB_is, hv, hc, bV4 h nowB_is hi, bW4 h nowB_is hi, g1, g2, q])
      | (refine ⟨_, xIsPhone h _, ?_⟩; try simp only [kO_1 h, kN h, bO0 h nowB_is, true_and, and_true, zO_wI, mR_wI, mL_wI, one_ne, if_true, if_false, bR0_3 h nowB_is, bA4 h nowB_is, bL4 h nowB_is, hv, hc, bV4 h nowB_is hi, bW4 h nowB_is hi, g1, g2, q])
      | (refine ⟨_, _, xIsKind _, ?_⟩; try simp only [kO_1 h, kN h, bO0 h nowB_is, true_and, and_true, zO_wI, mR_wI, mL_wI, one_ne, if_true, if_false, bR0_3 h nowB_is, bA4 h nowB_is, bL4 h nowB_is, hv, hc, bV4 h nowB_is hi, bW4 h nowB_is hi, g1, g2, q])
      | (refine ⟨_, xIsKind _, ?_⟩; try simp only [kO_1 h, kN h, bO0 h nowB_is, true_and, and_true, zO_wI, mR_wI, mL_wI, one_ne, if_true, if_false, bR0_3 h nowB_is, bA4 h nowB_is, bL4 h nowB_is, hv, hc, bV4 h nowB_is hi, bW4 h nowB_is hi, g1, g2, q])
      | (refine ⟨_, _, sIsOf (of_eq_true (bW4 h nowB_is hi)) ha e _, ?_⟩; try simp only [kO_1 h, kN h, bO0 h nowB_is, true_and, and_true, zO_wI, mR_wI, mL_wI, one_ne, if_true, if_false, bR0_3 h nowB_is, bA4 h nowB_is, bL4 h nowB_is, hv, hc, bV4 h nowB_is hi, bW4 h nowB_is hi, g1, g2, q])
      | (refine ⟨_, sIsOf (of_eq_true (bW4 h nowB_is hi)) ha e _, ?_⟩; try simp only [kO_1 h, kN h, bO0 h nowB_is, true_and, and_true, zO_wI, mR_wI, mL_wI, one_ne, if_true, if_false, bR0_3 h nowB_is, bA4 h nowB_is, bL4 h nowB_is, hv, hc, bV4 h nowB_is hi, bW4 h nowB_is hi, g1, g2, q])
      | apply And.intro
      | split
      | (simp_all only [kO_1 h, kN h, bO0 h nowB_is, true_and, and_true, zO_wI, mR_wI, mL_wI, one_ne, if_true, if_false, bR0_3 h nowB_is, bA4 h nowB_is, bL4 h nowB_is, hv, hc, bV4 h nowB_is hi, bW4 h nowB_is hi, g1, g2, q]; done)
theorem mAs_ok {X : List Int32} {d : Nat} {M : Mm} (h : Sk M) {i a k : Nat} (hi : i < 16) (ha : a < 6) (hk : k < 6) (e : mI M 151 (110 + 14 * i) = nI a) (g1 : zwt (nI i) 0 (mI M 151 1 - 1) = 1) (g2 : zwt (nI k) 0 5 = 1) : zca X zML (d + 3) 80 [.ref 150, .int (nI i), .int (nI k)] M (some (.int (if zof a (nI k) = 0 then -1000000012 else mI M 151 (110 + 14 * i + 2)))) M := by
  have v0 : vp_in (nI (110 + 14 * i)) 3332 = True := vN (by omega) (by decide)
  have c0 : (nI (110 + 14 * i)).toNatClampNeg = 110 + 14 * i := cI (by omega)
  have p2 : nI (110 + 14 * i) + 2 = nI (110 + 14 * i + 2) := nI_add _ 2
  have v2 : vp_in (nI (110 + 14 * i + 2)) 3332 = True := vN (by omega) (by decide)
  have c2 : (nI (110 + 14 * i + 2)).toNatClampNeg = 110 + 14 * i + 2 := cI (by omega)
  refine iX12_as ⟨rfl, Nat.le_of_ble_eq_true rfl⟩ (zgo_in 200 ?_)
  dsimp only [zen, zrep, zw, zLo, zSe, zi1, zi2, zl2, zr1, zj, zsw, zpop, zkd, zLn, zc1, Nat.reduceSub, pX12_as]
  by_cases q : zof a (nI k) = 0
  · try simp only [kO_150 h, kR_150_0 h, kO_151 h, kL_151 h, true_and, and_true, zO_wI, mR_wI, mL_wI, one_ne, if_true, if_false, cN_0, bN_0, cN_1, bN_1, cN_2, bN_2, cN_3, bN_3, cN_4, bN_4, cN_5, bN_5, cN_6, bN_6, cN_7, bN_7, cN_8, bN_8, cN_9, bN_9, e, phE0, v0, c0, p2, v2, c2, phX0 hi, phB0 hi, phX2 hi, phB2 hi, g1, g2, q]
    repeat' first
      | exact trivial
      | exact rfl
      | assumption
      | exact ⟨Nat.le_of_ble_eq_true rfl, Nat.le_of_ble_eq_true rfl, Nat.le_of_ble_eq_true rfl⟩
      | exact zwt01 _ _ _
      | decide
      | (refine ⟨_, _, mIsPhone h _, ?_⟩; try simp only [kO_150 h, kR_150_0 h, kO_151 h, kL_151 h, true_and, and_true, zO_wI, mR_wI, mL_wI, one_ne, if_true, if_false, cN_0, bN_0, cN_1, bN_1, cN_2, bN_2, cN_3, bN_3, cN_4, bN_4, cN_5, bN_5, cN_6, bN_6, cN_7, bN_7, cN_8, bN_8, cN_9, bN_9, e, phE0, v0, c0, p2, v2, c2, phX0 hi, phB0 hi, phX2 hi, phB2 hi, g1, g2, q])
      | (refine ⟨_, mIsPhone h _, ?_⟩; try simp only [kO_150 h, kR_150_0 h, kO_151 h, kL_151 h, true_and, and_true, zO_wI, mR_wI, mL_wI, one_ne, if_true, if_false, cN_0, bN_0, cN_1, bN_1, cN_2, bN_2, cN_3, bN_3, cN_4, bN_4, cN_5, bN_5, cN_6, bN_6, cN_7, bN_7, cN_8, bN_8, cN_9, bN_9, e, phE0, v0, c0, p2, v2, c2, phX0 hi, phB0 hi, phX2 hi, phB2 hi, g1, g2, q])
      | (refine ⟨_, _, sIsIn _ _ _, ?_⟩; try simp only [kO_150 h, kR_150_0 h, kO_151 h, kL_151 h, true_and, and_true, zO_wI, mR_wI, mL_wI, one_ne, if_true, if_false, cN_0, bN_0, cN_1, bN_1, cN_2, bN_2, cN_3, bN_3, cN_4, bN_4, cN_5, bN_5, cN_6, bN_6, cN_7, bN_7, cN_8, bN_8, cN_9, bN_9, e, phE0, v0, c0, p2, v2, c2, phX0 hi, phB0 hi, phX2 hi, phB2 hi, g1, g2, q])
      | (refine ⟨_, sIsIn _ _ _, ?_⟩; try simp only [kO_150 h, kR_150_0 h, kO_151 h, kL_151 h, true_and, and_true, zO_wI, mR_wI, mL_wI, one_ne, if_true, if_false, cN_0, bN_0, cN_1, bN_1, cN_2, bN_2, cN_3, bN_3, cN_4, bN_4, cN_5, bN_5, cN_6, bN_6, cN_7, bN_7, cN_8, bN_8, cN_9, bN_9, e, phE0, v0, c0, p2, v2, c2, phX0 hi, phB0 hi, phX2 hi, phB2 hi, g1, g2, q])
      | (refine ⟨_, _, mPhoneAt _, ?_⟩; try simp only [kO_150 h, kR_150_0 h, kO_151 h, kL_151 h, true_and, and_true, zO_wI, mR_wI, mL_wI, one_ne, if_true, if_false, cN_0, bN_0, cN_1, bN_1, cN_2, bN_2, cN_3, bN_3, cN_4, bN_4, cN_5, bN_5, cN_6, bN_6, cN_7, bN_7, cN_8, bN_8, cN_9, bN_9, e, phE0, v0, c0, p2, v2, c2, phX0 hi, phB0 hi, phX2 hi, phB2 hi, g1, g2, q])
      | (refine ⟨_, mPhoneAt _, ?_⟩; try simp only [kO_150 h, kR_150_0 h, kO_151 h, kL_151 h, true_and, and_true, zO_wI, mR_wI, mL_wI, one_ne, if_true, if_false, cN_0, bN_0, cN_1, bN_1, cN_2, bN_2, cN_3, bN_3, cN_4, bN_4, cN_5, bN_5, cN_6, bN_6, cN_7, bN_7, cN_8, bN_8, cN_9, bN_9, e, phE0, v0, c0, p2, v2, c2, phX0 hi, phB0 hi, phX2 hi, phB2 hi, g1, g2, q])
      | (refine ⟨_, _, mIsOf ha hk, ?_⟩; try simp only [kO_150 h, kR_150_0 h, kO_151 h, kL_151 h, true_and, and_true, zO_wI, mR_wI, mL_wI, one_ne, if_true, if_false, cN_0, bN_0, cN_1, bN_1, cN_2, bN_2, cN_3, bN_3, cN_4, bN_4, cN_5, bN_5, cN_6, bN_6, cN_7, bN_7, cN_8, bN_8, cN_9, bN_9, e, phE0, v0, c0, p2, v2, c2, phX0 hi, phB0 hi, phX2 hi, phB2 hi, g1, g2, q])
      | (refine ⟨_, mIsOf ha hk, ?_⟩; try simp only [kO_150 h, kR_150_0 h, kO_151 h, kL_151 h, true_and, and_true, zO_wI, mR_wI, mL_wI, one_ne, if_true, if_false, cN_0, bN_0, cN_1, bN_1, cN_2, bN_2, cN_3, bN_3, cN_4, bN_4, cN_5, bN_5, cN_6, bN_6, cN_7, bN_7, cN_8, bN_8, cN_9, bN_9, e, phE0, v0, c0, p2, v2, c2, phX0 hi, phB0 hi, phX2 hi, phB2 hi, g1, g2, q])
      | apply And.intro
      | split
      | (simp_all only [kO_150 h, kR_150_0 h, kO_151 h, kL_151 h, true_and, and_true, zO_wI, mR_wI, mL_wI, one_ne, if_true, if_false, cN_0, bN_0, cN_1, bN_1, cN_2, bN_2, cN_3, bN_3, cN_4, bN_4, cN_5, bN_5, cN_6, bN_6, cN_7, bN_7, cN_8, bN_8, cN_9, bN_9, e, phE0, v0, c0, p2, v2, c2, phX0 hi, phB0 hi, phX2 hi, phB2 hi, g1, g2, q]; done)
  · try simp only [kO_150 h, kR_150_0 h, kO_151 h, kL_151 h, true_and, and_true, zO_wI, mR_wI, mL_wI, one_ne, if_true, if_false, cN_0, bN_0, cN_1, bN_1, cN_2, bN_2, cN_3, bN_3, cN_4, bN_4, cN_5, bN_5, cN_6, bN_6, cN_7, bN_7, cN_8, bN_8, cN_9, bN_9, e, phE0, v0, c0, p2, v2, c2, phX0 hi, phB0 hi, phX2 hi, phB2 hi, g1, g2, q]
    repeat' first
      | exact trivial
      | exact rfl
      | assumption
      | exact ⟨Nat.le_of_ble_eq_true rfl, Nat.le_of_ble_eq_true rfl, Nat.le_of_ble_eq_true rfl⟩
      | exact zwt01 _ _ _
      | decide
      | (refine ⟨_, _, mIsPhone h _, ?_⟩; try simp only [kO_150 h, kR_150_0 h, kO_151 h, kL_151 h, true_and, and_true, zO_wI, mR_wI, mL_wI, one_ne, if_true, if_false, cN_0, bN_0, cN_1, bN_1, cN_2, bN_2, cN_3, bN_3, cN_4, bN_4, cN_5, bN_5, cN_6, bN_6, cN_7, bN_7, cN_8, bN_8, cN_9, bN_9, e, phE0, v0, c0, p2, v2, c2, phX0 hi, phB0 hi, phX2 hi, phB2 hi, g1, g2, q])
      | (refine ⟨_, mIsPhone h _, ?_⟩; try simp only [kO_150 h, kR_150_0 h, kO_151 h, kL_151 h, true_and, and_true, zO_wI, mR_wI, mL_wI, one_ne, if_true, if_false, cN_0, bN_0, cN_1, bN_1, cN_2, bN_2, cN_3, bN_3, cN_4, bN_4, cN_5, bN_5, cN_6, bN_6, cN_7, bN_7, cN_8, bN_8, cN_9, bN_9, e, phE0, v0, c0, p2, v2, c2, phX0 hi, phB0 hi, phX2 hi, phB2 hi, g1, g2, q])
      | (refine ⟨_, _, sIsIn _ _ _, ?_⟩; try simp only [kO_150 h, kR_150_0 h, kO_151 h, kL_151 h, true_and, and_true, zO_wI, mR_wI, mL_wI, one_ne, if_true, if_false, cN_0, bN_0, cN_1, bN_1, cN_2, bN_2, cN_3, bN_3, cN_4, bN_4, cN_5, bN_5, cN_6, bN_6, cN_7, bN_7, cN_8, bN_8, cN_9, bN_9, e, phE0, v0, c0, p2, v2, c2, phX0 hi, phB0 hi, phX2 hi, phB2 hi, g1, g2, q])
      | (refine ⟨_, sIsIn _ _ _, ?_⟩; try simp only [kO_150 h, kR_150_0 h, kO_151 h, kL_151 h, true_and, and_true, zO_wI, mR_wI, mL_wI, one_ne, if_true, if_false, cN_0, bN_0, cN_1, bN_1, cN_2, bN_2, cN_3, bN_3, cN_4, bN_4, cN_5, bN_5, cN_6, bN_6, cN_7, bN_7, cN_8, bN_8, cN_9, bN_9, e, phE0, v0, c0, p2, v2, c2, phX0 hi, phB0 hi, phX2 hi, phB2 hi, g1, g2, q])
      | (refine ⟨_, _, mPhoneAt _, ?_⟩; try simp only [kO_150 h, kR_150_0 h, kO_151 h, kL_151 h, true_and, and_true, zO_wI, mR_wI, mL_wI, one_ne, if_true, if_false, cN_0, bN_0, cN_1, bN_1, cN_2, bN_2, cN_3, bN_3, cN_4, bN_4, cN_5, bN_5, cN_6, bN_6, cN_7, bN_7, cN_8, bN_8, cN_9, bN_9, e, phE0, v0, c0, p2, v2, c2, phX0 hi, phB0 hi, phX2 hi, phB2 hi, g1, g2, q])
      | (refine ⟨_, mPhoneAt _, ?_⟩; try simp only [kO_150 h, kR_150_0 h, kO_151 h, kL_151 h, true_and, and_true, zO_wI, mR_wI, mL_wI, one_ne, if_true, if_false, cN_0, bN_0, cN_1, bN_1, cN_2, bN_2, cN_3, bN_3, cN_4, bN_4, cN_5, bN_5, cN_6, bN_6, cN_7, bN_7, cN_8, bN_8, cN_9, bN_9, e, phE0, v0, c0, p2, v2, c2, phX0 hi, phB0 hi, phX2 hi, phB2 hi, g1, g2, q])
      | (refine ⟨_, _, mIsOf ha hk, ?_⟩; try simp only [kO_150 h, kR_150_0 h, kO_151 h, kL_151 h, true_and, and_true, zO_wI, mR_wI, mL_wI, one_ne, if_true, if_false, cN_0, bN_0, cN_1, bN_1, cN_2, bN_2, cN_3, bN_3, cN_4, bN_4, cN_5, bN_5, cN_6, bN_6, cN_7, bN_7, cN_8, bN_8, cN_9, bN_9, e, phE0, v0, c0, p2, v2, c2, phX0 hi, phB0 hi, phX2 hi, phB2 hi, g1, g2, q])
      | (refine ⟨_, mIsOf ha hk, ?_⟩; try simp only [kO_150 h, kR_150_0 h, kO_151 h, kL_151 h, true_and, and_true, zO_wI, mR_wI, mL_wI, one_ne, if_true, if_false, cN_0, bN_0, cN_1, bN_1, cN_2, bN_2, cN_3, bN_3, cN_4, bN_4, cN_5, bN_5, cN_6, bN_6, cN_7, bN_7, cN_8, bN_8, cN_9, bN_9, e, phE0, v0, c0, p2, v2, c2, phX0 hi, phB0 hi, phX2 hi, phB2 hi, g1, g2, q])
      | apply And.intro
      | split
      | (simp_all only [kO_150 h, kR_150_0 h, kO_151 h, kL_151 h, true_and, and_true, zO_wI, mR_wI, mL_wI, one_ne, if_true, if_false, cN_0, bN_0, cN_1, bN_1, cN_2, bN_2, cN_3, bN_3, cN_4, bN_4, cN_5, bN_5, cN_6, bN_6, cN_7, bN_7, cN_8, bN_8, cN_9, bN_9, e, phE0, v0, c0, p2, v2, c2, phX0 hi, phB0 hi, phX2 hi, phB2 hi, g1, g2, q]; done)
theorem opAs {X : List Int32} {M : Mm} (h : Rel M) (p k : Int32) : Opk X 78 80 [.int p, .int k] M := by
  obtain ⟨nM, nP, nT, nK, nC, hS⟩ := h.2.1
  have e1 : mI M nowB 4 = nI nP := hS.1.2.2.1.2.1
  have e2 : mI M 151 1 = nI nP := hS.1.2.1.2.1
  have h16 := hS.1.1.2.1
  by_cases hb : zwt p 0 (nI nP - 1) = 0 ∨ zwt k 0 5 = 0
  · exact Opk.same h (xAs_bad (d := 297) h.1 p k (by rw [e1]; exact hb)) (mAs_bad (d := 297) h.1 p k (by rw [e2]; exact hb)) rfl
  · have g1 : zwt p 0 (nI nP - 1) = 1 := (zwt01 _ _ _).resolve_left (fun q => hb (Or.inl q))
    have g2 : zwt k 0 5 = 1 := (zwt01 _ _ _).resolve_left (fun q => hb (Or.inr q))
    obtain ⟨i, hi, rfl⟩ := zwt_ix (by omega) g1
    obtain ⟨k, hk, rfl⟩ := zwt_c0 (n := 5) (by decide) g2
    have hF := hS.2.2.2.1 i hi
    obtain ⟨a, ha, ea⟩ := hF.2.2.1
    have hx := xAs_ok (X := X) (d := 297) h.1 (show i < 16 by omega) ha (hF.1.1.trans ea) (by rw [e1]; exact g1) g2
    have hm := mAs_ok (X := X) (d := 297) h.1 (show i < 16 by omega) ha (show k < 6 by omega) ea (by rw [e2]; exact g1) g2
    exact Opk.same h hx hm (by rw [hF.1.2.2.1])
