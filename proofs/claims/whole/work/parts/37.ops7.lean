/-! turns, promise, hold -/
theorem xTurns_bad {X : List Int32} {d : Nat} {M : Mm} (h : Sk M) (p k : Int32) (hb : zwt p 0 (mI M nowB 4 - 1) = 0 ∨ zwt k 0 5 = 0) : zca X zML (d + 3) 81 [.ref 1, .int p, .int k] M (some (.int (-1000000001))) M := by
  refine iX11_turns ⟨rfl, Nat.le_of_ble_eq_true rfl⟩ (zgo_in 200 ?_)
  dsimp only [zen, zrep, zw, zLo, zSe, zi1, zi2, zl2, zr1, zj, zsw, zpop, zkd, zLn, zc1, Nat.reduceSub, pX11_turns]
  rcases (zwt01 _ _ _ : zwt p 0 (mI M nowB 4 - 1) = 0 ∨ zwt p 0 (mI M nowB 4 - 1) = 1) with q0 | q0
  · try simp only [kO_1 h, kN h, bO0 h nowB_is, true_and, and_true, zO_wI, mR_wI, mL_wI, one_ne, if_true, if_false, q0]
    repeat' first
      | exact trivial
      | exact rfl
      | assumption
      | exact ⟨Nat.le_of_ble_eq_true rfl, Nat.le_of_ble_eq_true rfl, Nat.le_of_ble_eq_true rfl⟩
      | exact zwt01 _ _ _
      | decide
      | (refine ⟨_, _, xIsPhone h _, ?_⟩; try simp only [kO_1 h, kN h, bO0 h nowB_is, true_and, and_true, zO_wI, mR_wI, mL_wI, one_ne, if_true, if_false, q0])
      | (refine ⟨_, xIsPhone h _, ?_⟩; try simp only [kO_1 h, kN h, bO0 h nowB_is, true_and, and_true, zO_wI, mR_wI, mL_wI, one_ne, if_true, if_false, q0])
      | (refine ⟨_, _, xIsKind _, ?_⟩; try simp only [kO_1 h, kN h, bO0 h nowB_is, true_and, and_true, zO_wI, mR_wI, mL_wI, one_ne, if_true, if_false, q0])
      | (refine ⟨_, xIsKind _, ?_⟩; try simp only [kO_1 h, kN h, bO0 h nowB_is, true_and, and_true, zO_wI, mR_wI, mL_wI, one_ne, if_true, if_false, q0])
      | apply And.intro
      | split
      | (simp_all only [kO_1 h, kN h, bO0 h nowB_is, true_and, and_true, zO_wI, mR_wI, mL_wI, one_ne, if_true, if_false, q0]; done)
  · have hb := hb.resolve_left (by rw [q0]; decide)
    try simp only [kO_1 h, kN h, bO0 h nowB_is, true_and, and_true, zO_wI, mR_wI, mL_wI, one_ne, if_true, if_false, q0, hb]
    repeat' first
      | exact trivial
      | exact rfl
      | assumption
      | exact ⟨Nat.le_of_ble_eq_true rfl, Nat.le_of_ble_eq_true rfl, Nat.le_of_ble_eq_true rfl⟩
      | exact zwt01 _ _ _
      | decide
      | (refine ⟨_, _, xIsPhone h _, ?_⟩; try simp only [kO_1 h, kN h, bO0 h nowB_is, true_and, and_true, zO_wI, mR_wI, mL_wI, one_ne, if_true, if_false, q0, hb])
      | (refine ⟨_, xIsPhone h _, ?_⟩; try simp only [kO_1 h, kN h, bO0 h nowB_is, true_and, and_true, zO_wI, mR_wI, mL_wI, one_ne, if_true, if_false, q0, hb])
      | (refine ⟨_, _, xIsKind _, ?_⟩; try simp only [kO_1 h, kN h, bO0 h nowB_is, true_and, and_true, zO_wI, mR_wI, mL_wI, one_ne, if_true, if_false, q0, hb])
      | (refine ⟨_, xIsKind _, ?_⟩; try simp only [kO_1 h, kN h, bO0 h nowB_is, true_and, and_true, zO_wI, mR_wI, mL_wI, one_ne, if_true, if_false, q0, hb])
      | apply And.intro
      | split
      | (simp_all only [kO_1 h, kN h, bO0 h nowB_is, true_and, and_true, zO_wI, mR_wI, mL_wI, one_ne, if_true, if_false, q0, hb]; done)
theorem xTurns_ok {X : List Int32} {d : Nat} {M : Mm} (h : Sk M) {i : Nat} (hi : i < 16) (k : Int32) (g1 : zwt (nI i) 0 (mI M nowB 4 - 1) = 1) (g2 : zwt k 0 5 = 1) : zca X zML (d + 3) 81 [.ref 1, .int (nI i), .int k] M (some (.int (mI M (nowB + 19 + i) 0))) (wI M (nowB + 19 + i) 0 k) := by
  have hv : vp_in (nI i) 16 = True := vN hi (by decide)
  have hc : (nI i).toNatClampNeg = i := cI (by omega)
  refine iX11_turns ⟨rfl, Nat.le_of_ble_eq_true rfl⟩ (zgo_in 200 ?_)
  dsimp only [zen, zrep, zw, zLo, zSe, zi1, zi2, zl2, zr1, zj, zsw, zpop, zkd, zLn, zc1, Nat.reduceSub, pX11_turns]
  try simp only [kO_1 h, kN h, bO0 h nowB_is, true_and, and_true, zO_wI, mR_wI, mL_wI, one_ne, if_true, if_false, bR0_3 h nowB_is, bA4 h nowB_is, bL4 h nowB_is, hv, hc, bV4 h nowB_is hi, bW4 h nowB_is hi, g1, g2]
  repeat' first
    | exact trivial
    | exact rfl
    | assumption
    | exact ⟨Nat.le_of_ble_eq_true rfl, Nat.le_of_ble_eq_true rfl, Nat.le_of_ble_eq_true rfl⟩
    | exact zwt01 _ _ _
    | decide
    | (refine ⟨_, _, xIsPhone h _, ?_⟩; try simp only [kO_1 h, kN h, bO0 h nowB_is, true_and, and_true, zO_wI, mR_wI, mL_wI, one_ne, if_true, if_false, bR0_3 h nowB_is, bA4 h nowB_is, bL4 h nowB_is, hv, hc, bV4 h nowB_is hi, bW4 h nowB_is hi, g1, g2])
    | (refine ⟨_, xIsPhone h _, ?_⟩; try simp only [kO_1 h, kN h, bO0 h nowB_is, true_and, and_true, zO_wI, mR_wI, mL_wI, one_ne, if_true, if_false, bR0_3 h nowB_is, bA4 h nowB_is, bL4 h nowB_is, hv, hc, bV4 h nowB_is hi, bW4 h nowB_is hi, g1, g2])
    | (refine ⟨_, _, xIsKind _, ?_⟩; try simp only [kO_1 h, kN h, bO0 h nowB_is, true_and, and_true, zO_wI, mR_wI, mL_wI, one_ne, if_true, if_false, bR0_3 h nowB_is, bA4 h nowB_is, bL4 h nowB_is, hv, hc, bV4 h nowB_is hi, bW4 h nowB_is hi, g1, g2])
    | (refine ⟨_, xIsKind _, ?_⟩; try simp only [kO_1 h, kN h, bO0 h nowB_is, true_and, and_true, zO_wI, mR_wI, mL_wI, one_ne, if_true, if_false, bR0_3 h nowB_is, bA4 h nowB_is, bL4 h nowB_is, hv, hc, bV4 h nowB_is hi, bW4 h nowB_is hi, g1, g2])
    | apply And.intro
    | split
    | (simp_all only [kO_1 h, kN h, bO0 h nowB_is, true_and, and_true, zO_wI, mR_wI, mL_wI, one_ne, if_true, if_false, bR0_3 h nowB_is, bA4 h nowB_is, bL4 h nowB_is, hv, hc, bV4 h nowB_is hi, bW4 h nowB_is hi, g1, g2]; done)
theorem mTurns_bad {X : List Int32} {d : Nat} {M : Mm} (h : Sk M) (p k : Int32) (hb : zwt p 0 (mI M 151 1 - 1) = 0 ∨ zwt k 0 5 = 0) : zca X zML (d + 3) 82 [.ref 150, .int p, .int k] M (some (.int (-1000000001))) M := by
  refine iX12_turns ⟨rfl, Nat.le_of_ble_eq_true rfl⟩ (zgo_in 200 ?_)
  dsimp only [zen, zrep, zw, zLo, zSe, zi1, zi2, zl2, zr1, zj, zsw, zpop, zkd, zLn, zc1, Nat.reduceSub, pX12_turns]
  rcases (zwt01 _ _ _ : zwt p 0 (mI M 151 1 - 1) = 0 ∨ zwt p 0 (mI M 151 1 - 1) = 1) with q0 | q0
  · try simp only [kO_150 h, kR_150_0 h, kO_151 h, kL_151 h, true_and, and_true, zO_wI, mR_wI, mL_wI, one_ne, if_true, if_false, cN_0, bN_0, cN_1, bN_1, cN_2, bN_2, cN_3, bN_3, cN_4, bN_4, cN_5, bN_5, cN_6, bN_6, cN_7, bN_7, cN_8, bN_8, cN_9, bN_9, q0]
    repeat' first
      | exact trivial
      | exact rfl
      | assumption
      | exact ⟨Nat.le_of_ble_eq_true rfl, Nat.le_of_ble_eq_true rfl, Nat.le_of_ble_eq_true rfl⟩
      | exact zwt01 _ _ _
      | decide
      | (refine ⟨_, _, mIsPhone h _, ?_⟩; try simp only [kO_150 h, kR_150_0 h, kO_151 h, kL_151 h, true_and, and_true, zO_wI, mR_wI, mL_wI, one_ne, if_true, if_false, cN_0, bN_0, cN_1, bN_1, cN_2, bN_2, cN_3, bN_3, cN_4, bN_4, cN_5, bN_5, cN_6, bN_6, cN_7, bN_7, cN_8, bN_8, cN_9, bN_9, q0])
      | (refine ⟨_, mIsPhone h _, ?_⟩; try simp only [kO_150 h, kR_150_0 h, kO_151 h, kL_151 h, true_and, and_true, zO_wI, mR_wI, mL_wI, one_ne, if_true, if_false, cN_0, bN_0, cN_1, bN_1, cN_2, bN_2, cN_3, bN_3, cN_4, bN_4, cN_5, bN_5, cN_6, bN_6, cN_7, bN_7, cN_8, bN_8, cN_9, bN_9, q0])
      | (refine ⟨_, _, sIsIn _ _ _, ?_⟩; try simp only [kO_150 h, kR_150_0 h, kO_151 h, kL_151 h, true_and, and_true, zO_wI, mR_wI, mL_wI, one_ne, if_true, if_false, cN_0, bN_0, cN_1, bN_1, cN_2, bN_2, cN_3, bN_3, cN_4, bN_4, cN_5, bN_5, cN_6, bN_6, cN_7, bN_7, cN_8, bN_8, cN_9, bN_9, q0])
      | (refine ⟨_, sIsIn _ _ _, ?_⟩; try simp only [kO_150 h, kR_150_0 h, kO_151 h, kL_151 h, true_and, and_true, zO_wI, mR_wI, mL_wI, one_ne, if_true, if_false, cN_0, bN_0, cN_1, bN_1, cN_2, bN_2, cN_3, bN_3, cN_4, bN_4, cN_5, bN_5, cN_6, bN_6, cN_7, bN_7, cN_8, bN_8, cN_9, bN_9, q0])
      | apply And.intro
      | split
      | (simp_all only [kO_150 h, kR_150_0 h, kO_151 h, kL_151 h, true_and, and_true, zO_wI, mR_wI, mL_wI, one_ne, if_true, if_false, cN_0, bN_0, cN_1, bN_1, cN_2, bN_2, cN_3, bN_3, cN_4, bN_4, cN_5, bN_5, cN_6, bN_6, cN_7, bN_7, cN_8, bN_8, cN_9, bN_9, q0]; done)
  · have hb := hb.resolve_left (by rw [q0]; decide)
    try simp only [kO_150 h, kR_150_0 h, kO_151 h, kL_151 h, true_and, and_true, zO_wI, mR_wI, mL_wI, one_ne, if_true, if_false, cN_0, bN_0, cN_1, bN_1, cN_2, bN_2, cN_3, bN_3, cN_4, bN_4, cN_5, bN_5, cN_6, bN_6, cN_7, bN_7, cN_8, bN_8, cN_9, bN_9, q0, hb]
    repeat' first
      | exact trivial
      | exact rfl
      | assumption
      | exact ⟨Nat.le_of_ble_eq_true rfl, Nat.le_of_ble_eq_true rfl, Nat.le_of_ble_eq_true rfl⟩
      | exact zwt01 _ _ _
      | decide
      | (refine ⟨_, _, mIsPhone h _, ?_⟩; try simp only [kO_150 h, kR_150_0 h, kO_151 h, kL_151 h, true_and, and_true, zO_wI, mR_wI, mL_wI, one_ne, if_true, if_false, cN_0, bN_0, cN_1, bN_1, cN_2, bN_2, cN_3, bN_3, cN_4, bN_4, cN_5, bN_5, cN_6, bN_6, cN_7, bN_7, cN_8, bN_8, cN_9, bN_9, q0, hb])
      | (refine ⟨_, mIsPhone h _, ?_⟩; try simp only [kO_150 h, kR_150_0 h, kO_151 h, kL_151 h, true_and, and_true, zO_wI, mR_wI, mL_wI, one_ne, if_true, if_false, cN_0, bN_0, cN_1, bN_1, cN_2, bN_2, cN_3, bN_3, cN_4, bN_4, cN_5, bN_5, cN_6, bN_6, cN_7, bN_7, cN_8, bN_8, cN_9, bN_9, q0, hb])
      | (refine ⟨_, _, sIsIn _ _ _, ?_⟩; try simp only [kO_150 h, kR_150_0 h, kO_151 h, kL_151 h, true_and, and_true, zO_wI, mR_wI, mL_wI, one_ne, if_true, if_false, cN_0, bN_0, cN_1, bN_1, cN_2, bN_2, cN_3, bN_3, cN_4, bN_4, cN_5, bN_5, cN_6, bN_6, cN_7, bN_7, cN_8, bN_8, cN_9, bN_9, q0, hb])
      | (refine ⟨_, sIsIn _ _ _, ?_⟩; try simp only [kO_150 h, kR_150_0 h, kO_151 h, kL_151 h, true_and, and_true, zO_wI, mR_wI, mL_wI, one_ne, if_true, if_false, cN_0, bN_0, cN_1, bN_1, cN_2, bN_2, cN_3, bN_3, cN_4, bN_4, cN_5, bN_5, cN_6, bN_6, cN_7, bN_7, cN_8, bN_8, cN_9, bN_9, q0, hb])
      | apply And.intro
      | split
      | (simp_all only [kO_150 h, kR_150_0 h, kO_151 h, kL_151 h, true_and, and_true, zO_wI, mR_wI, mL_wI, one_ne, if_true, if_false, cN_0, bN_0, cN_1, bN_1, cN_2, bN_2, cN_3, bN_3, cN_4, bN_4, cN_5, bN_5, cN_6, bN_6, cN_7, bN_7, cN_8, bN_8, cN_9, bN_9, q0, hb]; done)
theorem mTurns_ok {X : List Int32} {d : Nat} {M : Mm} (h : Sk M) {i : Nat} (hi : i < 16) (k : Int32) (g1 : zwt (nI i) 0 (mI M 151 1 - 1) = 1) (g2 : zwt k 0 5 = 1) : zca X zML (d + 3) 82 [.ref 150, .int (nI i), .int k] M (some (.int (mI M 151 (110 + 14 * i)))) (wI M 151 (110 + 14 * i) k) := by
  refine iX12_turns ⟨rfl, Nat.le_of_ble_eq_true rfl⟩ (zgo_in 200 ?_)
  dsimp only [zen, zrep, zw, zLo, zSe, zi1, zi2, zl2, zr1, zj, zsw, zpop, zkd, zLn, zc1, Nat.reduceSub, pX12_turns]
  try simp only [kO_150 h, kR_150_0 h, kO_151 h, kL_151 h, true_and, and_true, zO_wI, mR_wI, mL_wI, one_ne, if_true, if_false, cN_0, bN_0, cN_1, bN_1, cN_2, bN_2, cN_3, bN_3, cN_4, bN_4, cN_5, bN_5, cN_6, bN_6, cN_7, bN_7, cN_8, bN_8, cN_9, bN_9, g1, g2, phE0]
  repeat' first
    | exact trivial
    | exact rfl
    | assumption
    | exact ⟨Nat.le_of_ble_eq_true rfl, Nat.le_of_ble_eq_true rfl, Nat.le_of_ble_eq_true rfl⟩
    | exact zwt01 _ _ _
    | decide
    | (refine ⟨_, _, mIsPhone h _, ?_⟩; try simp only [kO_150 h, kR_150_0 h, kO_151 h, kL_151 h, true_and, and_true, zO_wI, mR_wI, mL_wI, one_ne, if_true, if_false, cN_0, bN_0, cN_1, bN_1, cN_2, bN_2, cN_3, bN_3, cN_4, bN_4, cN_5, bN_5, cN_6, bN_6, cN_7, bN_7, cN_8, bN_8, cN_9, bN_9, g1, g2, phE0])
    | (refine ⟨_, mIsPhone h _, ?_⟩; try simp only [kO_150 h, kR_150_0 h, kO_151 h, kL_151 h, true_and, and_true, zO_wI, mR_wI, mL_wI, one_ne, if_true, if_false, cN_0, bN_0, cN_1, bN_1, cN_2, bN_2, cN_3, bN_3, cN_4, bN_4, cN_5, bN_5, cN_6, bN_6, cN_7, bN_7, cN_8, bN_8, cN_9, bN_9, g1, g2, phE0])
    | (refine ⟨_, _, sIsIn _ _ _, ?_⟩; try simp only [kO_150 h, kR_150_0 h, kO_151 h, kL_151 h, true_and, and_true, zO_wI, mR_wI, mL_wI, one_ne, if_true, if_false, cN_0, bN_0, cN_1, bN_1, cN_2, bN_2, cN_3, bN_3, cN_4, bN_4, cN_5, bN_5, cN_6, bN_6, cN_7, bN_7, cN_8, bN_8, cN_9, bN_9, g1, g2, phE0])
    | (refine ⟨_, sIsIn _ _ _, ?_⟩; try simp only [kO_150 h, kR_150_0 h, kO_151 h, kL_151 h, true_and, and_true, zO_wI, mR_wI, mL_wI, one_ne, if_true, if_false, cN_0, bN_0, cN_1, bN_1, cN_2, bN_2, cN_3, bN_3, cN_4, bN_4, cN_5, bN_5, cN_6, bN_6, cN_7, bN_7, cN_8, bN_8, cN_9, bN_9, g1, g2, phE0])
    | (refine ⟨_, _, mPhoneAt _, ?_⟩; try simp only [kO_150 h, kR_150_0 h, kO_151 h, kL_151 h, true_and, and_true, zO_wI, mR_wI, mL_wI, one_ne, if_true, if_false, cN_0, bN_0, cN_1, bN_1, cN_2, bN_2, cN_3, bN_3, cN_4, bN_4, cN_5, bN_5, cN_6, bN_6, cN_7, bN_7, cN_8, bN_8, cN_9, bN_9, g1, g2, phE0])
    | (refine ⟨_, mPhoneAt _, ?_⟩; try simp only [kO_150 h, kR_150_0 h, kO_151 h, kL_151 h, true_and, and_true, zO_wI, mR_wI, mL_wI, one_ne, if_true, if_false, cN_0, bN_0, cN_1, bN_1, cN_2, bN_2, cN_3, bN_3, cN_4, bN_4, cN_5, bN_5, cN_6, bN_6, cN_7, bN_7, cN_8, bN_8, cN_9, bN_9, g1, g2, phE0])
    | (refine ⟨_, _, mBecomes h (k := 110 + 14 * i) (by omega) k, ?_⟩; try simp only [kO_150 h, kR_150_0 h, kO_151 h, kL_151 h, true_and, and_true, zO_wI, mR_wI, mL_wI, one_ne, if_true, if_false, cN_0, bN_0, cN_1, bN_1, cN_2, bN_2, cN_3, bN_3, cN_4, bN_4, cN_5, bN_5, cN_6, bN_6, cN_7, bN_7, cN_8, bN_8, cN_9, bN_9, g1, g2, phE0])
    | (refine ⟨_, mBecomes h (k := 110 + 14 * i) (by omega) k, ?_⟩; try simp only [kO_150 h, kR_150_0 h, kO_151 h, kL_151 h, true_and, and_true, zO_wI, mR_wI, mL_wI, one_ne, if_true, if_false, cN_0, bN_0, cN_1, bN_1, cN_2, bN_2, cN_3, bN_3, cN_4, bN_4, cN_5, bN_5, cN_6, bN_6, cN_7, bN_7, cN_8, bN_8, cN_9, bN_9, g1, g2, phE0])
    | apply And.intro
    | split
    | (simp_all only [kO_150 h, kR_150_0 h, kO_151 h, kL_151 h, true_and, and_true, zO_wI, mR_wI, mL_wI, one_ne, if_true, if_false, cN_0, bN_0, cN_1, bN_1, cN_2, bN_2, cN_3, bN_3, cN_4, bN_4, cN_5, bN_5, cN_6, bN_6, cN_7, bN_7, cN_8, bN_8, cN_9, bN_9, g1, g2, phE0]; done)
theorem xPromise_bad {X : List Int32} {d : Nat} {M : Mm} (h : Sk M) (p k : Int32) (hb : zwt p 0 (mI M nowB 4 - 1) = 0 ∨ zwt k 0 999 = 0) : zca X zML (d + 3) 85 [.ref 1, .int p, .int k] M (some (.int (-1000000001))) M := by
  refine iX11_promise ⟨rfl, Nat.le_of_ble_eq_true rfl⟩ (zgo_in 200 ?_)
  dsimp only [zen, zrep, zw, zLo, zSe, zi1, zi2, zl2, zr1, zj, zsw, zpop, zkd, zLn, zc1, Nat.reduceSub, pX11_promise]
  rcases (zwt01 _ _ _ : zwt p 0 (mI M nowB 4 - 1) = 0 ∨ zwt p 0 (mI M nowB 4 - 1) = 1) with q0 | q0
  · try simp only [kO_1 h, kN h, bO0 h nowB_is, true_and, and_true, zO_wI, mR_wI, mL_wI, one_ne, if_true, if_false, q0]
    repeat' first
      | exact trivial
      | exact rfl
      | assumption
      | exact ⟨Nat.le_of_ble_eq_true rfl, Nat.le_of_ble_eq_true rfl, Nat.le_of_ble_eq_true rfl⟩
      | exact zwt01 _ _ _
      | decide
      | (refine ⟨_, _, xIsPhone h _, ?_⟩; try simp only [kO_1 h, kN h, bO0 h nowB_is, true_and, and_true, zO_wI, mR_wI, mL_wI, one_ne, if_true, if_false, q0])
      | (refine ⟨_, xIsPhone h _, ?_⟩; try simp only [kO_1 h, kN h, bO0 h nowB_is, true_and, and_true, zO_wI, mR_wI, mL_wI, one_ne, if_true, if_false, q0])
      | (refine ⟨_, _, sWithin _ _ _, ?_⟩; try simp only [kO_1 h, kN h, bO0 h nowB_is, true_and, and_true, zO_wI, mR_wI, mL_wI, one_ne, if_true, if_false, q0])
      | (refine ⟨_, sWithin _ _ _, ?_⟩; try simp only [kO_1 h, kN h, bO0 h nowB_is, true_and, and_true, zO_wI, mR_wI, mL_wI, one_ne, if_true, if_false, q0])
      | apply And.intro
      | split
      | (simp_all only [kO_1 h, kN h, bO0 h nowB_is, true_and, and_true, zO_wI, mR_wI, mL_wI, one_ne, if_true, if_false, q0]; done)
  · have hb := hb.resolve_left (by rw [q0]; decide)
    try simp only [kO_1 h, kN h, bO0 h nowB_is, true_and, and_true, zO_wI, mR_wI, mL_wI, one_ne, if_true, if_false, q0, hb]
    repeat' first
      | exact trivial
      | exact rfl
      | assumption
      | exact ⟨Nat.le_of_ble_eq_true rfl, Nat.le_of_ble_eq_true rfl, Nat.le_of_ble_eq_true rfl⟩
      | exact zwt01 _ _ _
      | decide
      | (refine ⟨_, _, xIsPhone h _, ?_⟩; try simp only [kO_1 h, kN h, bO0 h nowB_is, true_and, and_true, zO_wI, mR_wI, mL_wI, one_ne, if_true, if_false, q0, hb])
      | (refine ⟨_, xIsPhone h _, ?_⟩; try simp only [kO_1 h, kN h, bO0 h nowB_is, true_and, and_true, zO_wI, mR_wI, mL_wI, one_ne, if_true, if_false, q0, hb])
      | (refine ⟨_, _, sWithin _ _ _, ?_⟩; try simp only [kO_1 h, kN h, bO0 h nowB_is, true_and, and_true, zO_wI, mR_wI, mL_wI, one_ne, if_true, if_false, q0, hb])
      | (refine ⟨_, sWithin _ _ _, ?_⟩; try simp only [kO_1 h, kN h, bO0 h nowB_is, true_and, and_true, zO_wI, mR_wI, mL_wI, one_ne, if_true, if_false, q0, hb])
      | apply And.intro
      | split
      | (simp_all only [kO_1 h, kN h, bO0 h nowB_is, true_and, and_true, zO_wI, mR_wI, mL_wI, one_ne, if_true, if_false, q0, hb]; done)
theorem xPromise_ok {X : List Int32} {d : Nat} {M : Mm} (h : Sk M) {i : Nat} (hi : i < 16) (k : Int32) (g1 : zwt (nI i) 0 (mI M nowB 4 - 1) = 1) (g2 : zwt k 0 999 = 1) : zca X zML (d + 3) 85 [.ref 1, .int (nI i), .int k] M (some (.int (mI M (nowB + 19 + i) 8))) (wI M (nowB + 19 + i) 8 k) := by
  have hv : vp_in (nI i) 16 = True := vN hi (by decide)
  have hc : (nI i).toNatClampNeg = i := cI (by omega)
  refine iX11_promise ⟨rfl, Nat.le_of_ble_eq_true rfl⟩ (zgo_in 200 ?_)
  dsimp only [zen, zrep, zw, zLo, zSe, zi1, zi2, zl2, zr1, zj, zsw, zpop, zkd, zLn, zc1, Nat.reduceSub, pX11_promise]
  try simp only [kO_1 h, kN h, bO0 h nowB_is, true_and, and_true, zO_wI, mR_wI, mL_wI, one_ne, if_true, if_false, bR0_3 h nowB_is, bA4 h nowB_is, bL4 h nowB_is, hv, hc, bV4 h nowB_is hi, bW4 h nowB_is hi, g1, g2]
  repeat' first
    | exact trivial
    | exact rfl
    | assumption
    | exact ⟨Nat.le_of_ble_eq_true rfl, Nat.le_of_ble_eq_true rfl, Nat.le_of_ble_eq_true rfl⟩
    | exact zwt01 _ _ _
    | decide
    | (refine ⟨_, _, xIsPhone h _, ?_⟩; try simp only [kO_1 h, kN h, bO0 h nowB_is, true_and, and_true, zO_wI, mR_wI, mL_wI, one_ne, if_true, if_false, bR0_3 h nowB_is, bA4 h nowB_is, bL4 h nowB_is, hv, hc, bV4 h nowB_is hi, bW4 h nowB_is hi, g1, g2])
    | (refine ⟨_, xIsPhone h _, ?_⟩; try simp only [kO_1 h, kN h, bO0 h nowB_is, true_and, and_true, zO_wI, mR_wI, mL_wI, one_ne, if_true, if_false, bR0_3 h nowB_is, bA4 h nowB_is, bL4 h nowB_is, hv, hc, bV4 h nowB_is hi, bW4 h nowB_is hi, g1, g2])
    | (refine ⟨_, _, sWithin _ _ _, ?_⟩; try simp only [kO_1 h, kN h, bO0 h nowB_is, true_and, and_true, zO_wI, mR_wI, mL_wI, one_ne, if_true, if_false, bR0_3 h nowB_is, bA4 h nowB_is, bL4 h nowB_is, hv, hc, bV4 h nowB_is hi, bW4 h nowB_is hi, g1, g2])
    | (refine ⟨_, sWithin _ _ _, ?_⟩; try simp only [kO_1 h, kN h, bO0 h nowB_is, true_and, and_true, zO_wI, mR_wI, mL_wI, one_ne, if_true, if_false, bR0_3 h nowB_is, bA4 h nowB_is, bL4 h nowB_is, hv, hc, bV4 h nowB_is hi, bW4 h nowB_is hi, g1, g2])
    | apply And.intro
    | split
    | (simp_all only [kO_1 h, kN h, bO0 h nowB_is, true_and, and_true, zO_wI, mR_wI, mL_wI, one_ne, if_true, if_false, bR0_3 h nowB_is, bA4 h nowB_is, bL4 h nowB_is, hv, hc, bV4 h nowB_is hi, bW4 h nowB_is hi, g1, g2]; done)
theorem mPromise_bad {X : List Int32} {d : Nat} {M : Mm} (h : Sk M) (p k : Int32) (hb : zwt p 0 (mI M 151 1 - 1) = 0 ∨ zwt k 0 999 = 0) : zca X zML (d + 3) 86 [.ref 150, .int p, .int k] M (some (.int (-1000000001))) M := by
  refine iX12_promise ⟨rfl, Nat.le_of_ble_eq_true rfl⟩ (zgo_in 200 ?_)
  dsimp only [zen, zrep, zw, zLo, zSe, zi1, zi2, zl2, zr1, zj, zsw, zpop, zkd, zLn, zc1, Nat.reduceSub, pX12_promise]
  rcases (zwt01 _ _ _ : zwt p 0 (mI M 151 1 - 1) = 0 ∨ zwt p 0 (mI M 151 1 - 1) = 1) with q0 | q0
  · try simp only [kO_150 h, kR_150_0 h, kO_151 h, kL_151 h, true_and, and_true, zO_wI, mR_wI, mL_wI, one_ne, if_true, if_false, cN_0, bN_0, cN_1, bN_1, cN_2, bN_2, cN_3, bN_3, cN_4, bN_4, cN_5, bN_5, cN_6, bN_6, cN_7, bN_7, cN_8, bN_8, cN_9, bN_9, q0]
    repeat' first
      | exact trivial
      | exact rfl
      | assumption
      | exact ⟨Nat.le_of_ble_eq_true rfl, Nat.le_of_ble_eq_true rfl, Nat.le_of_ble_eq_true rfl⟩
      | exact zwt01 _ _ _
      | decide
      | (refine ⟨_, _, mIsPhone h _, ?_⟩; try simp only [kO_150 h, kR_150_0 h, kO_151 h, kL_151 h, true_and, and_true, zO_wI, mR_wI, mL_wI, one_ne, if_true, if_false, cN_0, bN_0, cN_1, bN_1, cN_2, bN_2, cN_3, bN_3, cN_4, bN_4, cN_5, bN_5, cN_6, bN_6, cN_7, bN_7, cN_8, bN_8, cN_9, bN_9, q0])
      | (refine ⟨_, mIsPhone h _, ?_⟩; try simp only [kO_150 h, kR_150_0 h, kO_151 h, kL_151 h, true_and, and_true, zO_wI, mR_wI, mL_wI, one_ne, if_true, if_false, cN_0, bN_0, cN_1, bN_1, cN_2, bN_2, cN_3, bN_3, cN_4, bN_4, cN_5, bN_5, cN_6, bN_6, cN_7, bN_7, cN_8, bN_8, cN_9, bN_9, q0])
      | (refine ⟨_, _, sIsIn _ _ _, ?_⟩; try simp only [kO_150 h, kR_150_0 h, kO_151 h, kL_151 h, true_and, and_true, zO_wI, mR_wI, mL_wI, one_ne, if_true, if_false, cN_0, bN_0, cN_1, bN_1, cN_2, bN_2, cN_3, bN_3, cN_4, bN_4, cN_5, bN_5, cN_6, bN_6, cN_7, bN_7, cN_8, bN_8, cN_9, bN_9, q0])
      | (refine ⟨_, sIsIn _ _ _, ?_⟩; try simp only [kO_150 h, kR_150_0 h, kO_151 h, kL_151 h, true_and, and_true, zO_wI, mR_wI, mL_wI, one_ne, if_true, if_false, cN_0, bN_0, cN_1, bN_1, cN_2, bN_2, cN_3, bN_3, cN_4, bN_4, cN_5, bN_5, cN_6, bN_6, cN_7, bN_7, cN_8, bN_8, cN_9, bN_9, q0])
      | apply And.intro
      | split
      | (simp_all only [kO_150 h, kR_150_0 h, kO_151 h, kL_151 h, true_and, and_true, zO_wI, mR_wI, mL_wI, one_ne, if_true, if_false, cN_0, bN_0, cN_1, bN_1, cN_2, bN_2, cN_3, bN_3, cN_4, bN_4, cN_5, bN_5, cN_6, bN_6, cN_7, bN_7, cN_8, bN_8, cN_9, bN_9, q0]; done)
  · have hb := hb.resolve_left (by rw [q0]; decide)
    try simp only [kO_150 h, kR_150_0 h, kO_151 h, kL_151 h, true_and, and_true, zO_wI, mR_wI, mL_wI, one_ne, if_true, if_false, cN_0, bN_0, cN_1, bN_1, cN_2, bN_2, cN_3, bN_3, cN_4, bN_4, cN_5, bN_5, cN_6, bN_6, cN_7, bN_7, cN_8, bN_8, cN_9, bN_9, q0, hb]
    repeat' first
      | exact trivial
      | exact rfl
      | assumption
      | exact ⟨Nat.le_of_ble_eq_true rfl, Nat.le_of_ble_eq_true rfl, Nat.le_of_ble_eq_true rfl⟩
      | exact zwt01 _ _ _
      | decide
      | (refine ⟨_, _, mIsPhone h _, ?_⟩; try simp only [kO_150 h, kR_150_0 h, kO_151 h, kL_151 h, true_and, and_true, zO_wI, mR_wI, mL_wI, one_ne, if_true, if_false, cN_0, bN_0, cN_1, bN_1, cN_2, bN_2, cN_3, bN_3, cN_4, bN_4, cN_5, bN_5, cN_6, bN_6, cN_7, bN_7, cN_8, bN_8, cN_9, bN_9, q0, hb])
      | (refine ⟨_, mIsPhone h _, ?_⟩; try simp only [kO_150 h, kR_150_0 h, kO_151 h, kL_151 h, true_and, and_true, zO_wI, mR_wI, mL_wI, one_ne, if_true, if_false, cN_0, bN_0, cN_1, bN_1, cN_2, bN_2, cN_3, bN_3, cN_4, bN_4, cN_5, bN_5, cN_6, bN_6, cN_7, bN_7, cN_8, bN_8, cN_9, bN_9, q0, hb])
      | (refine ⟨_, _, sIsIn _ _ _, ?_⟩; try simp only [kO_150 h, kR_150_0 h, kO_151 h, kL_151 h, true_and, and_true, zO_wI, mR_wI, mL_wI, one_ne, if_true, if_false, cN_0, bN_0, cN_1, bN_1, cN_2, bN_2, cN_3, bN_3, cN_4, bN_4, cN_5, bN_5, cN_6, bN_6, cN_7, bN_7, cN_8, bN_8, cN_9, bN_9, q0, hb])
      | (refine ⟨_, sIsIn _ _ _, ?_⟩; try simp only [kO_150 h, kR_150_0 h, kO_151 h, kL_151 h, true_and, and_true, zO_wI, mR_wI, mL_wI, one_ne, if_true, if_false, cN_0, bN_0, cN_1, bN_1, cN_2, bN_2, cN_3, bN_3, cN_4, bN_4, cN_5, bN_5, cN_6, bN_6, cN_7, bN_7, cN_8, bN_8, cN_9, bN_9, q0, hb])
      | apply And.intro
      | split
      | (simp_all only [kO_150 h, kR_150_0 h, kO_151 h, kL_151 h, true_and, and_true, zO_wI, mR_wI, mL_wI, one_ne, if_true, if_false, cN_0, bN_0, cN_1, bN_1, cN_2, bN_2, cN_3, bN_3, cN_4, bN_4, cN_5, bN_5, cN_6, bN_6, cN_7, bN_7, cN_8, bN_8, cN_9, bN_9, q0, hb]; done)
theorem mPromise_ok {X : List Int32} {d : Nat} {M : Mm} (h : Sk M) {i : Nat} (hi : i < 16) (k : Int32) (g1 : zwt (nI i) 0 (mI M 151 1 - 1) = 1) (g2 : zwt k 0 999 = 1) : zca X zML (d + 3) 86 [.ref 150, .int (nI i), .int k] M (some (.int (mI M 151 (110 + 14 * i + 8)))) (wI M 151 (110 + 14 * i + 8) k) := by
  refine iX12_promise ⟨rfl, Nat.le_of_ble_eq_true rfl⟩ (zgo_in 200 ?_)
  dsimp only [zen, zrep, zw, zLo, zSe, zi1, zi2, zl2, zr1, zj, zsw, zpop, zkd, zLn, zc1, Nat.reduceSub, pX12_promise]
  try simp only [kO_150 h, kR_150_0 h, kO_151 h, kL_151 h, true_and, and_true, zO_wI, mR_wI, mL_wI, one_ne, if_true, if_false, cN_0, bN_0, cN_1, bN_1, cN_2, bN_2, cN_3, bN_3, cN_4, bN_4, cN_5, bN_5, cN_6, bN_6, cN_7, bN_7, cN_8, bN_8, cN_9, bN_9, g1, g2, phE8]
  repeat' first
    | exact trivial
    | exact rfl
    | assumption
    | exact ⟨Nat.le_of_ble_eq_true rfl, Nat.le_of_ble_eq_true rfl, Nat.le_of_ble_eq_true rfl⟩
    | exact zwt01 _ _ _
    | decide
    | (refine ⟨_, _, mIsPhone h _, ?_⟩; try simp only [kO_150 h, kR_150_0 h, kO_151 h, kL_151 h, true_and, and_true, zO_wI, mR_wI, mL_wI, one_ne, if_true, if_false, cN_0, bN_0, cN_1, bN_1, cN_2, bN_2, cN_3, bN_3, cN_4, bN_4, cN_5, bN_5, cN_6, bN_6, cN_7, bN_7, cN_8, bN_8, cN_9, bN_9, g1, g2, phE8])
    | (refine ⟨_, mIsPhone h _, ?_⟩; try simp only [kO_150 h, kR_150_0 h, kO_151 h, kL_151 h, true_and, and_true, zO_wI, mR_wI, mL_wI, one_ne, if_true, if_false, cN_0, bN_0, cN_1, bN_1, cN_2, bN_2, cN_3, bN_3, cN_4, bN_4, cN_5, bN_5, cN_6, bN_6, cN_7, bN_7, cN_8, bN_8, cN_9, bN_9, g1, g2, phE8])
    | (refine ⟨_, _, sIsIn _ _ _, ?_⟩; try simp only [kO_150 h, kR_150_0 h, kO_151 h, kL_151 h, true_and, and_true, zO_wI, mR_wI, mL_wI, one_ne, if_true, if_false, cN_0, bN_0, cN_1, bN_1, cN_2, bN_2, cN_3, bN_3, cN_4, bN_4, cN_5, bN_5, cN_6, bN_6, cN_7, bN_7, cN_8, bN_8, cN_9, bN_9, g1, g2, phE8])
    | (refine ⟨_, sIsIn _ _ _, ?_⟩; try simp only [kO_150 h, kR_150_0 h, kO_151 h, kL_151 h, true_and, and_true, zO_wI, mR_wI, mL_wI, one_ne, if_true, if_false, cN_0, bN_0, cN_1, bN_1, cN_2, bN_2, cN_3, bN_3, cN_4, bN_4, cN_5, bN_5, cN_6, bN_6, cN_7, bN_7, cN_8, bN_8, cN_9, bN_9, g1, g2, phE8])
    | (refine ⟨_, _, mPhoneAt _, ?_⟩; try simp only [kO_150 h, kR_150_0 h, kO_151 h, kL_151 h, true_and, and_true, zO_wI, mR_wI, mL_wI, one_ne, if_true, if_false, cN_0, bN_0, cN_1, bN_1, cN_2, bN_2, cN_3, bN_3, cN_4, bN_4, cN_5, bN_5, cN_6, bN_6, cN_7, bN_7, cN_8, bN_8, cN_9, bN_9, g1, g2, phE8])
    | (refine ⟨_, mPhoneAt _, ?_⟩; try simp only [kO_150 h, kR_150_0 h, kO_151 h, kL_151 h, true_and, and_true, zO_wI, mR_wI, mL_wI, one_ne, if_true, if_false, cN_0, bN_0, cN_1, bN_1, cN_2, bN_2, cN_3, bN_3, cN_4, bN_4, cN_5, bN_5, cN_6, bN_6, cN_7, bN_7, cN_8, bN_8, cN_9, bN_9, g1, g2, phE8])
    | (refine ⟨_, _, mBecomes h (k := 110 + 14 * i + 8) (by omega) k, ?_⟩; try simp only [kO_150 h, kR_150_0 h, kO_151 h, kL_151 h, true_and, and_true, zO_wI, mR_wI, mL_wI, one_ne, if_true, if_false, cN_0, bN_0, cN_1, bN_1, cN_2, bN_2, cN_3, bN_3, cN_4, bN_4, cN_5, bN_5, cN_6, bN_6, cN_7, bN_7, cN_8, bN_8, cN_9, bN_9, g1, g2, phE8])
    | (refine ⟨_, mBecomes h (k := 110 + 14 * i + 8) (by omega) k, ?_⟩; try simp only [kO_150 h, kR_150_0 h, kO_151 h, kL_151 h, true_and, and_true, zO_wI, mR_wI, mL_wI, one_ne, if_true, if_false, cN_0, bN_0, cN_1, bN_1, cN_2, bN_2, cN_3, bN_3, cN_4, bN_4, cN_5, bN_5, cN_6, bN_6, cN_7, bN_7, cN_8, bN_8, cN_9, bN_9, g1, g2, phE8])
    | apply And.intro
    | split
    | (simp_all only [kO_150 h, kR_150_0 h, kO_151 h, kL_151 h, true_and, and_true, zO_wI, mR_wI, mL_wI, one_ne, if_true, if_false, cN_0, bN_0, cN_1, bN_1, cN_2, bN_2, cN_3, bN_3, cN_4, bN_4, cN_5, bN_5, cN_6, bN_6, cN_7, bN_7, cN_8, bN_8, cN_9, bN_9, g1, g2, phE8]; done)
theorem opTurns {X : List Int32} {M : Mm} (h : Rel M) (p k : Int32) : Opk X 81 82 [.int p, .int k] M := by
  obtain ⟨nM, nP, nT, nK, nC, hS⟩ := h.2.1
  have e1 : mI M nowB 4 = nI nP := hS.1.2.2.1.2.1
  have e2 : mI M 151 1 = nI nP := hS.1.2.1.2.1
  have h16 := hS.1.1.2.1
  by_cases hb : zwt p 0 (nI nP - 1) = 0 ∨ zwt k 0 5 = 0
  · exact Opk.same h (xTurns_bad (d := 297) h.1 p k (by rw [e1]; exact hb)) (mTurns_bad (d := 297) h.1 p k (by rw [e2]; exact hb)) rfl
  · have g1 : zwt p 0 (nI nP - 1) = 1 := (zwt01 _ _ _).resolve_left (fun q => hb (Or.inl q))
    have g2 : zwt k 0 5 = 1 := (zwt01 _ _ _).resolve_left (fun q => hb (Or.inr q))
    obtain ⟨i, hi, rfl⟩ := zwt_ix (by omega) g1
    refine Opk.mk (xTurns_ok (d := 297) h.1 (show i < 16 by omega) k (by rw [e1]; exact g1) g2) (mTurns_ok (d := 297) (M := wI M (nowB + 19 + i) 0 k) h.1 (show i < 16 by omega) k (by rw [e151 (by unfold nowB; omega), e2]; exact g1) g2) ?_ (Rel_op (nM := nM) (nP := nP) (nT := nT) (nK := nK) (nC := nC) h (fX_of (M1 := wI M (nowB + 19 + i) 0 k) h.1 rfl (fun r hr j => mI_wIr (by unfold nowB; omega))) (fM_151 _ _ _) ?_)
    · rw [e151 (by unfold nowB; omega)]; exact (hS.2.2.2.1 i hi).1.1.symm
    · rw [mI_151, e151 (by unfold nowB; omega)]
      exact up_pf (k := 0) nowB_is hS hi (by omega) (ShF_0 (hS.2.2.2.1 i hi) k (zwt_c0 (n := 5) (by decide) g2))
theorem opPromise {X : List Int32} {M : Mm} (h : Rel M) (p k : Int32) : Opk X 85 86 [.int p, .int k] M := by
  obtain ⟨nM, nP, nT, nK, nC, hS⟩ := h.2.1
  have e1 : mI M nowB 4 = nI nP := hS.1.2.2.1.2.1
  have e2 : mI M 151 1 = nI nP := hS.1.2.1.2.1
  have h16 := hS.1.1.2.1
  by_cases hb : zwt p 0 (nI nP - 1) = 0 ∨ zwt k 0 999 = 0
  · exact Opk.same h (xPromise_bad (d := 297) h.1 p k (by rw [e1]; exact hb)) (mPromise_bad (d := 297) h.1 p k (by rw [e2]; exact hb)) rfl
  · have g1 : zwt p 0 (nI nP - 1) = 1 := (zwt01 _ _ _).resolve_left (fun q => hb (Or.inl q))
    have g2 : zwt k 0 999 = 1 := (zwt01 _ _ _).resolve_left (fun q => hb (Or.inr q))
    obtain ⟨i, hi, rfl⟩ := zwt_ix (by omega) g1
    refine Opk.mk (xPromise_ok (d := 297) h.1 (show i < 16 by omega) k (by rw [e1]; exact g1) g2) (mPromise_ok (d := 297) (M := wI M (nowB + 19 + i) 8 k) h.1 (show i < 16 by omega) k (by rw [e151 (by unfold nowB; omega), e2]; exact g1) g2) ?_ (Rel_op (nM := nM) (nP := nP) (nT := nT) (nK := nK) (nC := nC) h (fX_of (M1 := wI M (nowB + 19 + i) 8 k) h.1 rfl (fun r hr j => mI_wIr (by unfold nowB; omega))) (fM_151 _ _ _) ?_)
    · rw [e151 (by unfold nowB; omega)]; exact (hS.2.2.2.1 i hi).1.2.2.2.2.2.2.2.2.1.symm
    · rw [mI_151, e151 (by unfold nowB; omega)]
      exact up_pf (k := 8) nowB_is hS hi (by omega) (ShF_8 (hS.2.2.2.1 i hi) k (zwt_c0 (n := 999) (by decide) g2))
theorem xHold_bad {X : List Int32} {d : Nat} {M : Mm} (h : Sk M) (p : Int32) (hb : zwt p 0 (mI M nowB 4 - 1) = 0) : zca X zML (d + 3) 109 [.ref 1, .int p] M (some (.int (-1000000001))) M := by
  refine iX11_hold ⟨rfl, Nat.le_of_ble_eq_true rfl⟩ (zgo_in 200 ?_)
  dsimp only [zen, zrep, zw, zLo, zSe, zi1, zi2, zl2, zr1, zj, zsw, zpop, zkd, zLn, zc1, Nat.reduceSub, pX11_hold]
  try simp only [kO_1 h, kN h, bO0 h nowB_is, true_and, and_true, zO_wI, mR_wI, mL_wI, one_ne, if_true, if_false, hb]
  repeat' first
    | exact trivial
    | exact rfl
    | assumption
    | exact ⟨Nat.le_of_ble_eq_true rfl, Nat.le_of_ble_eq_true rfl, Nat.le_of_ble_eq_true rfl⟩
    | exact zwt01 _ _ _
    | decide
    | (refine ⟨_, _, xIsPhone h _, ?_⟩; try simp only [kO_1 h, kN h, bO0 h nowB_is, true_and, and_true, zO_wI, mR_wI, mL_wI, one_ne, if_true, if_false, hb])
    | (refine ⟨_, xIsPhone h _, ?_⟩; try simp only [kO_1 h, kN h, bO0 h nowB_is, true_and, and_true, zO_wI, mR_wI, mL_wI, one_ne, if_true, if_false, hb])
    | apply And.intro
    | split
    | (simp_all only [kO_1 h, kN h, bO0 h nowB_is, true_and, and_true, zO_wI, mR_wI, mL_wI, one_ne, if_true, if_false, hb]; done)
theorem xHold_no {X : List Int32} {d : Nat} {M : Mm} (h : Sk M) {i : Nat} (hi : i < 16) (g1 : zwt (nI i) 0 (mI M nowB 4 - 1) = 1) (hn : mI M (nowB + 19 + i) 7 = 0 ∨ (¬ mI M (nowB + 19 + i) 5 = 0 ∧ ¬ mI M (nowB + 19 + i) 5 = 1)) : zca X zML (d + 3) 109 [.ref 1, .int (nI i)] M (some (.int (-1000000002))) M := by
  have hv : vp_in (nI i) 16 = True := vN hi (by decide)
  have hc : (nI i).toNatClampNeg = i := cI (by omega)
  refine iX11_hold ⟨rfl, Nat.le_of_ble_eq_true rfl⟩ (zgo_in 200 ?_)
  dsimp only [zen, zrep, zw, zLo, zSe, zi1, zi2, zl2, zr1, zj, zsw, zpop, zkd, zLn, zc1, Nat.reduceSub, pX11_hold]
  by_cases q : mI M (nowB + 19 + i) 7 = 0
  · try simp only [kO_1 h, kN h, bO0 h nowB_is, true_and, and_true, zO_wI, mR_wI, mL_wI, one_ne, if_true, if_false, bR0_3 h nowB_is, bA4 h nowB_is, bL4 h nowB_is, hv, hc, bV4 h nowB_is hi, bW4 h nowB_is hi, g1, q]
    repeat' first
      | exact trivial
      | exact rfl
      | assumption
      | exact ⟨Nat.le_of_ble_eq_true rfl, Nat.le_of_ble_eq_true rfl, Nat.le_of_ble_eq_true rfl⟩
      | exact zwt01 _ _ _
      | decide
      | (refine ⟨_, _, xIsPhone h _, ?_⟩; try simp only [kO_1 h, kN h, bO0 h nowB_is, true_and, and_true, zO_wI, mR_wI, mL_wI, one_ne, if_true, if_false, bR0_3 h nowB_is, bA4 h nowB_is, bL4 h nowB_is, hv, hc, bV4 h nowB_is hi, bW4 h nowB_is hi, g1, q])
      | (refine ⟨_, xIsPhone h _, ?_⟩; try simp only [kO_1 h, kN h, bO0 h nowB_is, true_and, and_true, zO_wI, mR_wI, mL_wI, one_ne, if_true, if_false, bR0_3 h nowB_is, bA4 h nowB_is, bL4 h nowB_is, hv, hc, bV4 h nowB_is hi, bW4 h nowB_is hi, g1, q])
      | (refine ⟨_, _, sInM (of_eq_true (bW4 h nowB_is hi)), ?_⟩; try simp only [kO_1 h, kN h, bO0 h nowB_is, true_and, and_true, zO_wI, mR_wI, mL_wI, one_ne, if_true, if_false, bR0_3 h nowB_is, bA4 h nowB_is, bL4 h nowB_is, hv, hc, bV4 h nowB_is hi, bW4 h nowB_is hi, g1, q])
      | (refine ⟨_, sInM (of_eq_true (bW4 h nowB_is hi)), ?_⟩; try simp only [kO_1 h, kN h, bO0 h nowB_is, true_and, and_true, zO_wI, mR_wI, mL_wI, one_ne, if_true, if_false, bR0_3 h nowB_is, bA4 h nowB_is, bL4 h nowB_is, hv, hc, bV4 h nowB_is hi, bW4 h nowB_is hi, g1, q])
      | apply And.intro
      | split
      | (simp_all only [kO_1 h, kN h, bO0 h nowB_is, true_and, and_true, zO_wI, mR_wI, mL_wI, one_ne, if_true, if_false, bR0_3 h nowB_is, bA4 h nowB_is, bL4 h nowB_is, hv, hc, bV4 h nowB_is hi, bW4 h nowB_is hi, g1, q]; done)
  · have hn := hn.resolve_left q
    obtain ⟨n1, n2⟩ := hn
    try simp only [kO_1 h, kN h, bO0 h nowB_is, true_and, and_true, zO_wI, mR_wI, mL_wI, one_ne, if_true, if_false, bR0_3 h nowB_is, bA4 h nowB_is, bL4 h nowB_is, hv, hc, bV4 h nowB_is hi, bW4 h nowB_is hi, g1, q, n1, n2]
    repeat' first
      | exact trivial
      | exact rfl
      | assumption
      | exact ⟨Nat.le_of_ble_eq_true rfl, Nat.le_of_ble_eq_true rfl, Nat.le_of_ble_eq_true rfl⟩
      | exact zwt01 _ _ _
      | decide
      | (refine ⟨_, _, xIsPhone h _, ?_⟩; try simp only [kO_1 h, kN h, bO0 h nowB_is, true_and, and_true, zO_wI, mR_wI, mL_wI, one_ne, if_true, if_false, bR0_3 h nowB_is, bA4 h nowB_is, bL4 h nowB_is, hv, hc, bV4 h nowB_is hi, bW4 h nowB_is hi, g1, q, n1, n2])
      | (refine ⟨_, xIsPhone h _, ?_⟩; try simp only [kO_1 h, kN h, bO0 h nowB_is, true_and, and_true, zO_wI, mR_wI, mL_wI, one_ne, if_true, if_false, bR0_3 h nowB_is, bA4 h nowB_is, bL4 h nowB_is, hv, hc, bV4 h nowB_is hi, bW4 h nowB_is hi, g1, q, n1, n2])
      | (refine ⟨_, _, sInM (of_eq_true (bW4 h nowB_is hi)), ?_⟩; try simp only [kO_1 h, kN h, bO0 h nowB_is, true_and, and_true, zO_wI, mR_wI, mL_wI, one_ne, if_true, if_false, bR0_3 h nowB_is, bA4 h nowB_is, bL4 h nowB_is, hv, hc, bV4 h nowB_is hi, bW4 h nowB_is hi, g1, q, n1, n2])
      | (refine ⟨_, sInM (of_eq_true (bW4 h nowB_is hi)), ?_⟩; try simp only [kO_1 h, kN h, bO0 h nowB_is, true_and, and_true, zO_wI, mR_wI, mL_wI, one_ne, if_true, if_false, bR0_3 h nowB_is, bA4 h nowB_is, bL4 h nowB_is, hv, hc, bV4 h nowB_is hi, bW4 h nowB_is hi, g1, q, n1, n2])
      | apply And.intro
      | split
      | (simp_all only [kO_1 h, kN h, bO0 h nowB_is, true_and, and_true, zO_wI, mR_wI, mL_wI, one_ne, if_true, if_false, bR0_3 h nowB_is, bA4 h nowB_is, bL4 h nowB_is, hv, hc, bV4 h nowB_is hi, bW4 h nowB_is hi, g1, q, n1, n2]; done)
theorem xHold_ok {X : List Int32} {d : Nat} {M : Mm} (h : Sk M) {i : Nat} (hi : i < 16) (g1 : zwt (nI i) 0 (mI M nowB 4 - 1) = 1) (h7 : ¬ mI M (nowB + 19 + i) 7 = 0) (hn : mI M (nowB + 19 + i) 5 = 0 ∨ mI M (nowB + 19 + i) 5 = 1) : zca X zML (d + 3) 109 [.ref 1, .int (nI i)] M (some (.int (1))) (wI M (nowB + 19 + i) 5 4) := by
  have hv : vp_in (nI i) 16 = True := vN hi (by decide)
  have hc : (nI i).toNatClampNeg = i := cI (by omega)
  refine iX11_hold ⟨rfl, Nat.le_of_ble_eq_true rfl⟩ (zgo_in 200 ?_)
  dsimp only [zen, zrep, zw, zLo, zSe, zi1, zi2, zl2, zr1, zj, zsw, zpop, zkd, zLn, zc1, Nat.reduceSub, pX11_hold]
  by_cases q : mI M (nowB + 19 + i) 5 = 0
  · try simp only [kO_1 h, kN h, bO0 h nowB_is, true_and, and_true, zO_wI, mR_wI, mL_wI, one_ne, if_true, if_false, bR0_3 h nowB_is, bA4 h nowB_is, bL4 h nowB_is, hv, hc, bV4 h nowB_is hi, bW4 h nowB_is hi, g1, q, h7]
    repeat' first
      | exact trivial
      | exact rfl
      | assumption
      | exact ⟨Nat.le_of_ble_eq_true rfl, Nat.le_of_ble_eq_true rfl, Nat.le_of_ble_eq_true rfl⟩
      | exact zwt01 _ _ _
      | decide
      | (refine ⟨_, _, xIsPhone h _, ?_⟩; try simp only [kO_1 h, kN h, bO0 h nowB_is, true_and, and_true, zO_wI, mR_wI, mL_wI, one_ne, if_true, if_false, bR0_3 h nowB_is, bA4 h nowB_is, bL4 h nowB_is, hv, hc, bV4 h nowB_is hi, bW4 h nowB_is hi, g1, q, h7])
      | (refine ⟨_, xIsPhone h _, ?_⟩; try simp only [kO_1 h, kN h, bO0 h nowB_is, true_and, and_true, zO_wI, mR_wI, mL_wI, one_ne, if_true, if_false, bR0_3 h nowB_is, bA4 h nowB_is, bL4 h nowB_is, hv, hc, bV4 h nowB_is hi, bW4 h nowB_is hi, g1, q, h7])
      | (refine ⟨_, _, sInM (of_eq_true (bW4 h nowB_is hi)), ?_⟩; try simp only [kO_1 h, kN h, bO0 h nowB_is, true_and, and_true, zO_wI, mR_wI, mL_wI, one_ne, if_true, if_false, bR0_3 h nowB_is, bA4 h nowB_is, bL4 h nowB_is, hv, hc, bV4 h nowB_is hi, bW4 h nowB_is hi, g1, q, h7])
      | (refine ⟨_, sInM (of_eq_true (bW4 h nowB_is hi)), ?_⟩; try simp only [kO_1 h, kN h, bO0 h nowB_is, true_and, and_true, zO_wI, mR_wI, mL_wI, one_ne, if_true, if_false, bR0_3 h nowB_is, bA4 h nowB_is, bL4 h nowB_is, hv, hc, bV4 h nowB_is hi, bW4 h nowB_is hi, g1, q, h7])
      | apply And.intro
      | split
      | (simp_all only [kO_1 h, kN h, bO0 h nowB_is, true_and, and_true, zO_wI, mR_wI, mL_wI, one_ne, if_true, if_false, bR0_3 h nowB_is, bA4 h nowB_is, bL4 h nowB_is, hv, hc, bV4 h nowB_is hi, bW4 h nowB_is hi, g1, q, h7]; done)
  · have hn := hn.resolve_left q
    try simp only [kO_1 h, kN h, bO0 h nowB_is, true_and, and_true, zO_wI, mR_wI, mL_wI, one_ne, if_true, if_false, bR0_3 h nowB_is, bA4 h nowB_is, bL4 h nowB_is, hv, hc, bV4 h nowB_is hi, bW4 h nowB_is hi, g1, q, h7, hn]
    repeat' first
      | exact trivial
      | exact rfl
      | assumption
      | exact ⟨Nat.le_of_ble_eq_true rfl, Nat.le_of_ble_eq_true rfl, Nat.le_of_ble_eq_true rfl⟩
      | exact zwt01 _ _ _
      | decide
      | (refine ⟨_, _, xIsPhone h _, ?_⟩; try simp only [kO_1 h, kN h, bO0 h nowB_is, true_and, and_true, zO_wI, mR_wI, mL_wI, one_ne, if_true, if_false, bR0_3 h nowB_is, bA4 h nowB_is, bL4 h nowB_is, hv, hc, bV4 h nowB_is hi, bW4 h nowB_is hi, g1, q, h7, hn])
      | (refine ⟨_, xIsPhone h _, ?_⟩; try simp only [kO_1 h, kN h, bO0 h nowB_is, true_and, and_true, zO_wI, mR_wI, mL_wI, one_ne, if_true, if_false, bR0_3 h nowB_is, bA4 h nowB_is, bL4 h nowB_is, hv, hc, bV4 h nowB_is hi, bW4 h nowB_is hi, g1, q, h7, hn])
      | (refine ⟨_, _, sInM (of_eq_true (bW4 h nowB_is hi)), ?_⟩; try simp only [kO_1 h, kN h, bO0 h nowB_is, true_and, and_true, zO_wI, mR_wI, mL_wI, one_ne, if_true, if_false, bR0_3 h nowB_is, bA4 h nowB_is, bL4 h nowB_is, hv, hc, bV4 h nowB_is hi, bW4 h nowB_is hi, g1, q, h7, hn])
      | (refine ⟨_, sInM (of_eq_true (bW4 h nowB_is hi)), ?_⟩; try simp only [kO_1 h, kN h, bO0 h nowB_is, true_and, and_true, zO_wI, mR_wI, mL_wI, one_ne, if_true, if_false, bR0_3 h nowB_is, bA4 h nowB_is, bL4 h nowB_is, hv, hc, bV4 h nowB_is hi, bW4 h nowB_is hi, g1, q, h7, hn])
      | apply And.intro
      | split
      | (simp_all only [kO_1 h, kN h, bO0 h nowB_is, true_and, and_true, zO_wI, mR_wI, mL_wI, one_ne, if_true, if_false, bR0_3 h nowB_is, bA4 h nowB_is, bL4 h nowB_is, hv, hc, bV4 h nowB_is hi, bW4 h nowB_is hi, g1, q, h7, hn]; done)
theorem mIsAt {X : List Int32} {d : Nat} {M : Mm} (h : Sk M) {i : Nat} (hi : i < 16) (st : Int32) : zca X zML (d + 2) 91 [.ref 150, .int (nI i), .int st] M (some (.int (if mI M 151 (110 + 14 * i + 5) = st then 1 else 0))) M := by
  refine iX12_isAt ⟨rfl, Nat.le_of_ble_eq_true rfl⟩ (zgo_in 200 ?_)
  dsimp only [zen, zrep, zw, zLo, zSe, zi1, zi2, zl2, zr1, zj, zsw, zpop, zkd, zLn, zc1, Nat.reduceSub, pX12_isAt]
  try simp only [kO_150 h, kR_150_0 h, kO_151 h, kL_151 h, true_and, and_true, zO_wI, mR_wI, mL_wI, one_ne, if_true, if_false, cN_0, bN_0, cN_1, bN_1, cN_2, bN_2, cN_3, bN_3, cN_4, bN_4, cN_5, bN_5, cN_6, bN_6, cN_7, bN_7, cN_8, bN_8, cN_9, bN_9, phX5 hi, phB5 hi]
  repeat' first
    | exact trivial
    | exact rfl
    | assumption
    | exact ⟨Nat.le_of_ble_eq_true rfl, Nat.le_of_ble_eq_true rfl, Nat.le_of_ble_eq_true rfl⟩
    | exact zwt01 _ _ _
    | decide
    | (refine ⟨_, _, mPhoneAt _, ?_⟩; try simp only [kO_150 h, kR_150_0 h, kO_151 h, kL_151 h, true_and, and_true, zO_wI, mR_wI, mL_wI, one_ne, if_true, if_false, cN_0, bN_0, cN_1, bN_1, cN_2, bN_2, cN_3, bN_3, cN_4, bN_4, cN_5, bN_5, cN_6, bN_6, cN_7, bN_7, cN_8, bN_8, cN_9, bN_9, phX5 hi, phB5 hi])
    | (refine ⟨_, mPhoneAt _, ?_⟩; try simp only [kO_150 h, kR_150_0 h, kO_151 h, kL_151 h, true_and, and_true, zO_wI, mR_wI, mL_wI, one_ne, if_true, if_false, cN_0, bN_0, cN_1, bN_1, cN_2, bN_2, cN_3, bN_3, cN_4, bN_4, cN_5, bN_5, cN_6, bN_6, cN_7, bN_7, cN_8, bN_8, cN_9, bN_9, phX5 hi, phB5 hi])
    | apply And.intro
    | split
    | (simp_all only [kO_150 h, kR_150_0 h, kO_151 h, kL_151 h, true_and, and_true, zO_wI, mR_wI, mL_wI, one_ne, if_true, if_false, cN_0, bN_0, cN_1, bN_1, cN_2, bN_2, cN_3, bN_3, cN_4, bN_4, cN_5, bN_5, cN_6, bN_6, cN_7, bN_7, cN_8, bN_8, cN_9, bN_9, phX5 hi, phB5 hi]; done)
theorem mHold_bad {X : List Int32} {d : Nat} {M : Mm} (h : Sk M) (p : Int32) (hb : zwt p 0 (mI M 151 1 - 1) = 0) : zca X zML (d + 3) 110 [.ref 150, .int p] M (some (.int (-1000000001))) M := by
  refine iX12_hold ⟨rfl, Nat.le_of_ble_eq_true rfl⟩ (zgo_in 200 ?_)
  dsimp only [zen, zrep, zw, zLo, zSe, zi1, zi2, zl2, zr1, zj, zsw, zpop, zkd, zLn, zc1, Nat.reduceSub, pX12_hold]
  try simp only [kO_150 h, kR_150_0 h, kO_151 h, kL_151 h, true_and, and_true, zO_wI, mR_wI, mL_wI, one_ne, if_true, if_false, cN_0, bN_0, cN_1, bN_1, cN_2, bN_2, cN_3, bN_3, cN_4, bN_4, cN_5, bN_5, cN_6, bN_6, cN_7, bN_7, cN_8, bN_8, cN_9, bN_9, hb]
  repeat' first
    | exact trivial
    | exact rfl
    | assumption
    | exact ⟨Nat.le_of_ble_eq_true rfl, Nat.le_of_ble_eq_true rfl, Nat.le_of_ble_eq_true rfl⟩
    | exact zwt01 _ _ _
    | decide
    | (refine ⟨_, _, mIsPhone h _, ?_⟩; try simp only [kO_150 h, kR_150_0 h, kO_151 h, kL_151 h, true_and, and_true, zO_wI, mR_wI, mL_wI, one_ne, if_true, if_false, cN_0, bN_0, cN_1, bN_1, cN_2, bN_2, cN_3, bN_3, cN_4, bN_4, cN_5, bN_5, cN_6, bN_6, cN_7, bN_7, cN_8, bN_8, cN_9, bN_9, hb])
    | (refine ⟨_, mIsPhone h _, ?_⟩; try simp only [kO_150 h, kR_150_0 h, kO_151 h, kL_151 h, true_and, and_true, zO_wI, mR_wI, mL_wI, one_ne, if_true, if_false, cN_0, bN_0, cN_1, bN_1, cN_2, bN_2, cN_3, bN_3, cN_4, bN_4, cN_5, bN_5, cN_6, bN_6, cN_7, bN_7, cN_8, bN_8, cN_9, bN_9, hb])
    | apply And.intro
    | split
    | (simp_all only [kO_150 h, kR_150_0 h, kO_151 h, kL_151 h, true_and, and_true, zO_wI, mR_wI, mL_wI, one_ne, if_true, if_false, cN_0, bN_0, cN_1, bN_1, cN_2, bN_2, cN_3, bN_3, cN_4, bN_4, cN_5, bN_5, cN_6, bN_6, cN_7, bN_7, cN_8, bN_8, cN_9, bN_9, hb]; done)
theorem mHold_no {X : List Int32} {d : Nat} {M : Mm} (h : Sk M) {i : Nat} (hi : i < 16) (g1 : zwt (nI i) 0 (mI M 151 1 - 1) = 1) (hn : mI M 151 (110 + 14 * i + 7) = 0 ∨ (¬ mI M 151 (110 + 14 * i + 5) = 0 ∧ ¬ mI M 151 (110 + 14 * i + 5) = 1)) : zca X zML (d + 3) 110 [.ref 150, .int (nI i)] M (some (.int (-1000000002))) M := by
  refine iX12_hold ⟨rfl, Nat.le_of_ble_eq_true rfl⟩ (zgo_in 200 ?_)
  dsimp only [zen, zrep, zw, zLo, zSe, zi1, zi2, zl2, zr1, zj, zsw, zpop, zkd, zLn, zc1, Nat.reduceSub, pX12_hold]
  by_cases q : mI M 151 (110 + 14 * i + 7) = 0
  · try simp only [kO_150 h, kR_150_0 h, kO_151 h, kL_151 h, true_and, and_true, zO_wI, mR_wI, mL_wI, one_ne, if_true, if_false, cN_0, bN_0, cN_1, bN_1, cN_2, bN_2, cN_3, bN_3, cN_4, bN_4, cN_5, bN_5, cN_6, bN_6, cN_7, bN_7, cN_8, bN_8, cN_9, bN_9, phX7 hi, phB7 hi, phX5 hi, phB5 hi, g1, q]
    repeat' first
      | exact trivial
      | exact rfl
      | assumption
      | exact ⟨Nat.le_of_ble_eq_true rfl, Nat.le_of_ble_eq_true rfl, Nat.le_of_ble_eq_true rfl⟩
      | exact zwt01 _ _ _
      | decide
      | (refine ⟨_, _, mIsPhone h _, ?_⟩; try simp only [kO_150 h, kR_150_0 h, kO_151 h, kL_151 h, true_and, and_true, zO_wI, mR_wI, mL_wI, one_ne, if_true, if_false, cN_0, bN_0, cN_1, bN_1, cN_2, bN_2, cN_3, bN_3, cN_4, bN_4, cN_5, bN_5, cN_6, bN_6, cN_7, bN_7, cN_8, bN_8, cN_9, bN_9, phX7 hi, phB7 hi, phX5 hi, phB5 hi, g1, q])
      | (refine ⟨_, mIsPhone h _, ?_⟩; try simp only [kO_150 h, kR_150_0 h, kO_151 h, kL_151 h, true_and, and_true, zO_wI, mR_wI, mL_wI, one_ne, if_true, if_false, cN_0, bN_0, cN_1, bN_1, cN_2, bN_2, cN_3, bN_3, cN_4, bN_4, cN_5, bN_5, cN_6, bN_6, cN_7, bN_7, cN_8, bN_8, cN_9, bN_9, phX7 hi, phB7 hi, phX5 hi, phB5 hi, g1, q])
      | (refine ⟨_, _, mPhoneAt _, ?_⟩; try simp only [kO_150 h, kR_150_0 h, kO_151 h, kL_151 h, true_and, and_true, zO_wI, mR_wI, mL_wI, one_ne, if_true, if_false, cN_0, bN_0, cN_1, bN_1, cN_2, bN_2, cN_3, bN_3, cN_4, bN_4, cN_5, bN_5, cN_6, bN_6, cN_7, bN_7, cN_8, bN_8, cN_9, bN_9, phX7 hi, phB7 hi, phX5 hi, phB5 hi, g1, q])
      | (refine ⟨_, mPhoneAt _, ?_⟩; try simp only [kO_150 h, kR_150_0 h, kO_151 h, kL_151 h, true_and, and_true, zO_wI, mR_wI, mL_wI, one_ne, if_true, if_false, cN_0, bN_0, cN_1, bN_1, cN_2, bN_2, cN_3, bN_3, cN_4, bN_4, cN_5, bN_5, cN_6, bN_6, cN_7, bN_7, cN_8, bN_8, cN_9, bN_9, phX7 hi, phB7 hi, phX5 hi, phB5 hi, g1, q])
      | (refine ⟨_, _, mIsAt h hi _, ?_⟩; try simp only [kO_150 h, kR_150_0 h, kO_151 h, kL_151 h, true_and, and_true, zO_wI, mR_wI, mL_wI, one_ne, if_true, if_false, cN_0, bN_0, cN_1, bN_1, cN_2, bN_2, cN_3, bN_3, cN_4, bN_4, cN_5, bN_5, cN_6, bN_6, cN_7, bN_7, cN_8, bN_8, cN_9, bN_9, phX7 hi, phB7 hi, phX5 hi, phB5 hi, g1, q])
      | (refine ⟨_, mIsAt h hi _, ?_⟩; try simp only [kO_150 h, kR_150_0 h, kO_151 h, kL_151 h, true_and, and_true, zO_wI, mR_wI, mL_wI, one_ne, if_true, if_false, cN_0, bN_0, cN_1, bN_1, cN_2, bN_2, cN_3, bN_3, cN_4, bN_4, cN_5, bN_5, cN_6, bN_6, cN_7, bN_7, cN_8, bN_8, cN_9, bN_9, phX7 hi, phB7 hi, phX5 hi, phB5 hi, g1, q])
      | apply And.intro
      | split
      | (simp_all only [kO_150 h, kR_150_0 h, kO_151 h, kL_151 h, true_and, and_true, zO_wI, mR_wI, mL_wI, one_ne, if_true, if_false, cN_0, bN_0, cN_1, bN_1, cN_2, bN_2, cN_3, bN_3, cN_4, bN_4, cN_5, bN_5, cN_6, bN_6, cN_7, bN_7, cN_8, bN_8, cN_9, bN_9, phX7 hi, phB7 hi, phX5 hi, phB5 hi, g1, q]; done)
  · have hn := hn.resolve_left q
    obtain ⟨n1, n2⟩ := hn
    try simp only [kO_150 h, kR_150_0 h, kO_151 h, kL_151 h, true_and, and_true, zO_wI, mR_wI, mL_wI, one_ne, if_true, if_false, cN_0, bN_0, cN_1, bN_1, cN_2, bN_2, cN_3, bN_3, cN_4, bN_4, cN_5, bN_5, cN_6, bN_6, cN_7, bN_7, cN_8, bN_8, cN_9, bN_9, phX7 hi, phB7 hi, phX5 hi, phB5 hi, g1, q, n1, n2]
    repeat' first
      | exact trivial
      | exact rfl
      | assumption
      | exact ⟨Nat.le_of_ble_eq_true rfl, Nat.le_of_ble_eq_true rfl, Nat.le_of_ble_eq_true rfl⟩
      | exact zwt01 _ _ _
      | decide
      | (refine ⟨_, _, mIsPhone h _, ?_⟩; try simp only [kO_150 h, kR_150_0 h, kO_151 h, kL_151 h, true_and, and_true, zO_wI, mR_wI, mL_wI, one_ne, if_true, if_false, cN_0, bN_0, cN_1, bN_1, cN_2, bN_2, cN_3, bN_3, cN_4, bN_4, cN_5, bN_5, cN_6, bN_6, cN_7, bN_7, cN_8, bN_8, cN_9, bN_9, phX7 hi, phB7 hi, phX5 hi, phB5 hi, g1, q, n1, n2])
      | (refine ⟨_, mIsPhone h _, ?_⟩; try simp only [kO_150 h, kR_150_0 h, kO_151 h, kL_151 h, true_and, and_true, zO_wI, mR_wI, mL_wI, one_ne, if_true, if_false, cN_0, bN_0, cN_1, bN_1, cN_2, bN_2, cN_3, bN_3, cN_4, bN_4, cN_5, bN_5, cN_6, bN_6, cN_7, bN_7, cN_8, bN_8, cN_9, bN_9, phX7 hi, phB7 hi, phX5 hi, phB5 hi, g1, q, n1, n2])
      | (refine ⟨_, _, mPhoneAt _, ?_⟩; try simp only [kO_150 h, kR_150_0 h, kO_151 h, kL_151 h, true_and, and_true, zO_wI, mR_wI, mL_wI, one_ne, if_true, if_false, cN_0, bN_0, cN_1, bN_1, cN_2, bN_2, cN_3, bN_3, cN_4, bN_4, cN_5, bN_5, cN_6, bN_6, cN_7, bN_7, cN_8, bN_8, cN_9, bN_9, phX7 hi, phB7 hi, phX5 hi, phB5 hi, g1, q, n1, n2])
      | (refine ⟨_, mPhoneAt _, ?_⟩; try simp only [kO_150 h, kR_150_0 h, kO_151 h, kL_151 h, true_and, and_true, zO_wI, mR_wI, mL_wI, one_ne, if_true, if_false, cN_0, bN_0, cN_1, bN_1, cN_2, bN_2, cN_3, bN_3, cN_4, bN_4, cN_5, bN_5, cN_6, bN_6, cN_7, bN_7, cN_8, bN_8, cN_9, bN_9, phX7 hi, phB7 hi, phX5 hi, phB5 hi, g1, q, n1, n2])
      | (refine ⟨_, _, mIsAt h hi _, ?_⟩; try simp only [kO_150 h, kR_150_0 h, kO_151 h, kL_151 h, true_and, and_true, zO_wI, mR_wI, mL_wI, one_ne, if_true, if_false, cN_0, bN_0, cN_1, bN_1, cN_2, bN_2, cN_3, bN_3, cN_4, bN_4, cN_5, bN_5, cN_6, bN_6, cN_7, bN_7, cN_8, bN_8, cN_9, bN_9, phX7 hi, phB7 hi, phX5 hi, phB5 hi, g1, q, n1, n2])
      | (refine ⟨_, mIsAt h hi _, ?_⟩; try simp only [kO_150 h, kR_150_0 h, kO_151 h, kL_151 h, true_and, and_true, zO_wI, mR_wI, mL_wI, one_ne, if_true, if_false, cN_0, bN_0, cN_1, bN_1, cN_2, bN_2, cN_3, bN_3, cN_4, bN_4, cN_5, bN_5, cN_6, bN_6, cN_7, bN_7, cN_8, bN_8, cN_9, bN_9, phX7 hi, phB7 hi, phX5 hi, phB5 hi, g1, q, n1, n2])
      | apply And.intro
      | split
      | (simp_all only [kO_150 h, kR_150_0 h, kO_151 h, kL_151 h, true_and, and_true, zO_wI, mR_wI, mL_wI, one_ne, if_true, if_false, cN_0, bN_0, cN_1, bN_1, cN_2, bN_2, cN_3, bN_3, cN_4, bN_4, cN_5, bN_5, cN_6, bN_6, cN_7, bN_7, cN_8, bN_8, cN_9, bN_9, phX7 hi, phB7 hi, phX5 hi, phB5 hi, g1, q, n1, n2]; done)
theorem mHold_ok {X : List Int32} {d : Nat} {M : Mm} (h : Sk M) {i : Nat} (hi : i < 16) (g1 : zwt (nI i) 0 (mI M 151 1 - 1) = 1) (h7 : ¬ mI M 151 (110 + 14 * i + 7) = 0) (hn : mI M 151 (110 + 14 * i + 5) = 0 ∨ mI M 151 (110 + 14 * i + 5) = 1) : zca X zML (d + 3) 110 [.ref 150, .int (nI i)] M (some (.int (1))) (wI M 151 (110 + 14 * i + 5) 4) := by
  refine iX12_hold ⟨rfl, Nat.le_of_ble_eq_true rfl⟩ (zgo_in 200 ?_)
  dsimp only [zen, zrep, zw, zLo, zSe, zi1, zi2, zl2, zr1, zj, zsw, zpop, zkd, zLn, zc1, Nat.reduceSub, pX12_hold]
  by_cases q : mI M 151 (110 + 14 * i + 5) = 0
  · try simp only [kO_150 h, kR_150_0 h, kO_151 h, kL_151 h, true_and, and_true, zO_wI, mR_wI, mL_wI, one_ne, if_true, if_false, cN_0, bN_0, cN_1, bN_1, cN_2, bN_2, cN_3, bN_3, cN_4, bN_4, cN_5, bN_5, cN_6, bN_6, cN_7, bN_7, cN_8, bN_8, cN_9, bN_9, phX7 hi, phB7 hi, phX5 hi, phB5 hi, g1, q, h7]
    repeat' first
      | exact trivial
      | exact rfl
      | assumption
      | exact ⟨Nat.le_of_ble_eq_true rfl, Nat.le_of_ble_eq_true rfl, Nat.le_of_ble_eq_true rfl⟩
      | exact zwt01 _ _ _
      | decide
      | (refine ⟨_, _, mIsPhone h _, ?_⟩; try simp only [kO_150 h, kR_150_0 h, kO_151 h, kL_151 h, true_and, and_true, zO_wI, mR_wI, mL_wI, one_ne, if_true, if_false, cN_0, bN_0, cN_1, bN_1, cN_2, bN_2, cN_3, bN_3, cN_4, bN_4, cN_5, bN_5, cN_6, bN_6, cN_7, bN_7, cN_8, bN_8, cN_9, bN_9, phX7 hi, phB7 hi, phX5 hi, phB5 hi, g1, q, h7])
      | (refine ⟨_, mIsPhone h _, ?_⟩; try simp only [kO_150 h, kR_150_0 h, kO_151 h, kL_151 h, true_and, and_true, zO_wI, mR_wI, mL_wI, one_ne, if_true, if_false, cN_0, bN_0, cN_1, bN_1, cN_2, bN_2, cN_3, bN_3, cN_4, bN_4, cN_5, bN_5, cN_6, bN_6, cN_7, bN_7, cN_8, bN_8, cN_9, bN_9, phX7 hi, phB7 hi, phX5 hi, phB5 hi, g1, q, h7])
      | (refine ⟨_, _, mPhoneAt _, ?_⟩; try simp only [kO_150 h, kR_150_0 h, kO_151 h, kL_151 h, true_and, and_true, zO_wI, mR_wI, mL_wI, one_ne, if_true, if_false, cN_0, bN_0, cN_1, bN_1, cN_2, bN_2, cN_3, bN_3, cN_4, bN_4, cN_5, bN_5, cN_6, bN_6, cN_7, bN_7, cN_8, bN_8, cN_9, bN_9, phX7 hi, phB7 hi, phX5 hi, phB5 hi, g1, q, h7])
      | (refine ⟨_, mPhoneAt _, ?_⟩; try simp only [kO_150 h, kR_150_0 h, kO_151 h, kL_151 h, true_and, and_true, zO_wI, mR_wI, mL_wI, one_ne, if_true, if_false, cN_0, bN_0, cN_1, bN_1, cN_2, bN_2, cN_3, bN_3, cN_4, bN_4, cN_5, bN_5, cN_6, bN_6, cN_7, bN_7, cN_8, bN_8, cN_9, bN_9, phX7 hi, phB7 hi, phX5 hi, phB5 hi, g1, q, h7])
      | (refine ⟨_, _, mIsAt h hi _, ?_⟩; try simp only [kO_150 h, kR_150_0 h, kO_151 h, kL_151 h, true_and, and_true, zO_wI, mR_wI, mL_wI, one_ne, if_true, if_false, cN_0, bN_0, cN_1, bN_1, cN_2, bN_2, cN_3, bN_3, cN_4, bN_4, cN_5, bN_5, cN_6, bN_6, cN_7, bN_7, cN_8, bN_8, cN_9, bN_9, phX7 hi, phB7 hi, phX5 hi, phB5 hi, g1, q, h7])
      | (refine ⟨_, mIsAt h hi _, ?_⟩; try simp only [kO_150 h, kR_150_0 h, kO_151 h, kL_151 h, true_and, and_true, zO_wI, mR_wI, mL_wI, one_ne, if_true, if_false, cN_0, bN_0, cN_1, bN_1, cN_2, bN_2, cN_3, bN_3, cN_4, bN_4, cN_5, bN_5, cN_6, bN_6, cN_7, bN_7, cN_8, bN_8, cN_9, bN_9, phX7 hi, phB7 hi, phX5 hi, phB5 hi, g1, q, h7])
      | apply And.intro
      | split
      | (simp_all only [kO_150 h, kR_150_0 h, kO_151 h, kL_151 h, true_and, and_true, zO_wI, mR_wI, mL_wI, one_ne, if_true, if_false, cN_0, bN_0, cN_1, bN_1, cN_2, bN_2, cN_3, bN_3, cN_4, bN_4, cN_5, bN_5, cN_6, bN_6, cN_7, bN_7, cN_8, bN_8, cN_9, bN_9, phX7 hi, phB7 hi, phX5 hi, phB5 hi, g1, q, h7]; done)
  · have hn := hn.resolve_left q
    try simp only [kO_150 h, kR_150_0 h, kO_151 h, kL_151 h, true_and, and_true, zO_wI, mR_wI, mL_wI, one_ne, if_true, if_false, cN_0, bN_0, cN_1, bN_1, cN_2, bN_2, cN_3, bN_3, cN_4, bN_4, cN_5, bN_5, cN_6, bN_6, cN_7, bN_7, cN_8, bN_8, cN_9, bN_9, phX7 hi, phB7 hi, phX5 hi, phB5 hi, g1, q, h7, hn]
    repeat' first
      | exact trivial
      | exact rfl
      | assumption
      | exact ⟨Nat.le_of_ble_eq_true rfl, Nat.le_of_ble_eq_true rfl, Nat.le_of_ble_eq_true rfl⟩
      | exact zwt01 _ _ _
      | decide
      | (refine ⟨_, _, mIsPhone h _, ?_⟩; try simp only [kO_150 h, kR_150_0 h, kO_151 h, kL_151 h, true_and, and_true, zO_wI, mR_wI, mL_wI, one_ne, if_true, if_false, cN_0, bN_0, cN_1, bN_1, cN_2, bN_2, cN_3, bN_3, cN_4, bN_4, cN_5, bN_5, cN_6, bN_6, cN_7, bN_7, cN_8, bN_8, cN_9, bN_9, phX7 hi, phB7 hi, phX5 hi, phB5 hi, g1, q, h7, hn])
      | (refine ⟨_, mIsPhone h _, ?_⟩; try simp only [kO_150 h, kR_150_0 h, kO_151 h, kL_151 h, true_and, and_true, zO_wI, mR_wI, mL_wI, one_ne, if_true, if_false, cN_0, bN_0, cN_1, bN_1, cN_2, bN_2, cN_3, bN_3, cN_4, bN_4, cN_5, bN_5, cN_6, bN_6, cN_7, bN_7, cN_8, bN_8, cN_9, bN_9, phX7 hi, phB7 hi, phX5 hi, phB5 hi, g1, q, h7, hn])
      | (refine ⟨_, _, mPhoneAt _, ?_⟩; try simp only [kO_150 h, kR_150_0 h, kO_151 h, kL_151 h, true_and, and_true, zO_wI, mR_wI, mL_wI, one_ne, if_true, if_false, cN_0, bN_0, cN_1, bN_1, cN_2, bN_2, cN_3, bN_3, cN_4, bN_4, cN_5, bN_5, cN_6, bN_6, cN_7, bN_7, cN_8, bN_8, cN_9, bN_9, phX7 hi, phB7 hi, phX5 hi, phB5 hi, g1, q, h7, hn])
      | (refine ⟨_, mPhoneAt _, ?_⟩; try simp only [kO_150 h, kR_150_0 h, kO_151 h, kL_151 h, true_and, and_true, zO_wI, mR_wI, mL_wI, one_ne, if_true, if_false, cN_0, bN_0, cN_1, bN_1, cN_2, bN_2, cN_3, bN_3, cN_4, bN_4, cN_5, bN_5, cN_6, bN_6, cN_7, bN_7, cN_8, bN_8, cN_9, bN_9, phX7 hi, phB7 hi, phX5 hi, phB5 hi, g1, q, h7, hn])
      | (refine ⟨_, _, mIsAt h hi _, ?_⟩; try simp only [kO_150 h, kR_150_0 h, kO_151 h, kL_151 h, true_and, and_true, zO_wI, mR_wI, mL_wI, one_ne, if_true, if_false, cN_0, bN_0, cN_1, bN_1, cN_2, bN_2, cN_3, bN_3, cN_4, bN_4, cN_5, bN_5, cN_6, bN_6, cN_7, bN_7, cN_8, bN_8, cN_9, bN_9, phX7 hi, phB7 hi, phX5 hi, phB5 hi, g1, q, h7, hn])
      | (refine ⟨_, mIsAt h hi _, ?_⟩; try simp only [kO_150 h, kR_150_0 h, kO_151 h, kL_151 h, true_and, and_true, zO_wI, mR_wI, mL_wI, one_ne, if_true, if_false, cN_0, bN_0, cN_1, bN_1, cN_2, bN_2, cN_3, bN_3, cN_4, bN_4, cN_5, bN_5, cN_6, bN_6, cN_7, bN_7, cN_8, bN_8, cN_9, bN_9, phX7 hi, phB7 hi, phX5 hi, phB5 hi, g1, q, h7, hn])
      | apply And.intro
      | split
      | (simp_all only [kO_150 h, kR_150_0 h, kO_151 h, kL_151 h, true_and, and_true, zO_wI, mR_wI, mL_wI, one_ne, if_true, if_false, cN_0, bN_0, cN_1, bN_1, cN_2, bN_2, cN_3, bN_3, cN_4, bN_4, cN_5, bN_5, cN_6, bN_6, cN_7, bN_7, cN_8, bN_8, cN_9, bN_9, phX7 hi, phB7 hi, phX5 hi, phB5 hi, g1, q, h7, hn]; done)
theorem opHold {X : List Int32} {M : Mm} (h : Rel M) (p : Int32) : Opk X 109 110 [.int p] M := by
  obtain ⟨nM, nP, nT, nK, nC, hS⟩ := h.2.1
  have e1 : mI M nowB 4 = nI nP := hS.1.2.2.1.2.1
  have e2 : mI M 151 1 = nI nP := hS.1.2.1.2.1
  have h16 := hS.1.1.2.1
  rcases zwt01 p 0 (nI nP - 1) with hb | g1
  · exact Opk.same h (xHold_bad (d := 297) h.1 p (by rw [e1]; exact hb)) (mHold_bad (d := 297) h.1 p (by rw [e2]; exact hb)) rfl
  · obtain ⟨i, hi, rfl⟩ := zwt_ix (by omega) g1
    have f7 : mI M (nowB + 19 + i) 7 = mI M 151 (110 + 14 * i + 7) := (hS.2.2.2.1 i hi).1.2.2.2.2.2.2.2.1
    have f5 : mI M (nowB + 19 + i) 5 = mI M 151 (110 + 14 * i + 5) := (hS.2.2.2.1 i hi).1.2.2.2.2.2.1
    by_cases hn : mI M 151 (110 + 14 * i + 7) = 0 ∨ (¬ mI M 151 (110 + 14 * i + 5) = 0 ∧ ¬ mI M 151 (110 + 14 * i + 5) = 1)
    · exact Opk.same h (xHold_no (d := 297) h.1 (show i < 16 by omega) (by rw [e1]; exact g1) (by rw [f7, f5]; exact hn)) (mHold_no (d := 297) h.1 (show i < 16 by omega) (by rw [e2]; exact g1) hn) rfl
    · have h7 : ¬ mI M 151 (110 + 14 * i + 7) = 0 := fun q => hn (Or.inl q)
      have h5 : mI M 151 (110 + 14 * i + 5) = 0 ∨ mI M 151 (110 + 14 * i + 5) = 1 := by
        by_cases q : mI M 151 (110 + 14 * i + 5) = 0
        · exact Or.inl q
        · by_cases q2 : mI M 151 (110 + 14 * i + 5) = 1
          · exact Or.inr q2
          · exact absurd (Or.inr ⟨q, q2⟩) hn
      have hx := xHold_ok (X := X) (d := 297) h.1 (show i < 16 by omega) (by rw [e1]; exact g1) (by rw [f7]; exact h7) (by rw [f5]; exact h5)
      have hm := mHold_ok (X := X) (d := 297) (M := wI M (nowB + 19 + i) 5 4) h.1 (show i < 16 by omega) (by rw [e151 (by unfold nowB; omega), e2]; exact g1) (by rw [e151 (by unfold nowB; omega)]; exact h7) (by rw [e151 (by unfold nowB; omega)]; exact h5)
      refine Opk.mk hx hm rfl (Rel_op (nM := nM) (nP := nP) (nT := nT) (nK := nK) (nC := nC) h (fX_of (M1 := wI M (nowB + 19 + i) 5 4) h.1 rfl (fun r hr j => mI_wIr (by unfold nowB; omega))) (fM_151 _ _ _) ?_)
      rw [mI_151, e151 (by unfold nowB; omega)]
      exact up_pf (k := 5) nowB_is hS hi (by omega) (ShF_5 (hS.2.2.2.1 i hi) 4 ⟨4, by omega, rfl⟩ (Or.inl (ShF_c (hS.2.2.2.1 i hi) (fun q => by rw [q] at h5; revert h5; decide))))
