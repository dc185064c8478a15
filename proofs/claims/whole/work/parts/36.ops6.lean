/-! says; steps of phones -/
def zsl (o c y : Int32) : Int32 := o &&& (if y = 0 then c ^^^ (-1) else c)
theorem xSays_bad {X : List Int32} {d : Nat} {M : Mm} (h : Sk M) (c y : Int32) (hb : zwt c 0 (mI M (nowB + 10) 2 - 1) = 0) : zca X zML (d + 2) 199 [.ref 1, .int c, .int y] M (some (.int (-1000000001))) M := by
  refine iX11_says ⟨rfl, Nat.le_of_ble_eq_true rfl⟩ (zgo_in 200 ?_)
  dsimp only [zen, zrep, zw, zLo, zSe, zi1, zi2, zl2, zr1, zj, zsw, zpop, zkd, zLn, zc1, Nat.reduceSub, pX11_says]
  try simp only [kO_1 h, kN h, bO0 h nowB_is, true_and, and_true, zO_wI, mR_wI, mL_wI, one_ne, if_true, if_false, bR0_8 h nowB_is, bO10 h nowB_is, bR10_1 h nowB_is, bO12 h nowB_is, bL12 h nowB_is, hb]
  repeat' first
    | exact trivial
    | exact rfl
    | assumption
    | exact ⟨Nat.le_of_ble_eq_true rfl, Nat.le_of_ble_eq_true rfl, Nat.le_of_ble_eq_true rfl⟩
    | exact zwt01 _ _ _
    | decide
    | (refine ⟨_, _, sWithin _ _ _, ?_⟩; try simp only [kO_1 h, kN h, bO0 h nowB_is, true_and, and_true, zO_wI, mR_wI, mL_wI, one_ne, if_true, if_false, bR0_8 h nowB_is, bO10 h nowB_is, bR10_1 h nowB_is, bO12 h nowB_is, bL12 h nowB_is, hb])
    | (refine ⟨_, sWithin _ _ _, ?_⟩; try simp only [kO_1 h, kN h, bO0 h nowB_is, true_and, and_true, zO_wI, mR_wI, mL_wI, one_ne, if_true, if_false, bR0_8 h nowB_is, bO10 h nowB_is, bR10_1 h nowB_is, bO12 h nowB_is, bL12 h nowB_is, hb])
    | apply And.intro
    | split
    | (simp_all only [kO_1 h, kN h, bO0 h nowB_is, true_and, and_true, zO_wI, mR_wI, mL_wI, one_ne, if_true, if_false, bR0_8 h nowB_is, bO10 h nowB_is, bR10_1 h nowB_is, bO12 h nowB_is, bL12 h nowB_is, hb]; done)
theorem xSays_no {X : List Int32} {d : Nat} {M : Mm} (h : Sk M) {i : Nat} (hi : i < 8) (y : Int32) (g1 : zwt (nI i) 0 (mI M (nowB + 10) 2 - 1) = 1) (hz : zsl (mI M (nowB + 10) 3) (mI M (nowB + 12) i) y = 0) : zca X zML (d + 2) 199 [.ref 1, .int (nI i), .int y] M (some (.int (-1000000002))) M := by
  have hv : vp_in (nI i) 8 = True := vN hi (by decide)
  have hc : (nI i).toNatClampNeg = i := cI (by omega)
  refine iX11_says ⟨rfl, Nat.le_of_ble_eq_true rfl⟩ (zgo_in 200 ?_)
  dsimp only [zen, zrep, zw, zLo, zSe, zi1, zi2, zl2, zr1, zj, zsw, zpop, zkd, zLn, zc1, Nat.reduceSub, pX11_says]
  by_cases hy : y = 0
  · simp only [zsl, if_pos hy] at hz ⊢
    try simp only [kO_1 h, kN h, bO0 h nowB_is, true_and, and_true, zO_wI, mR_wI, mL_wI, one_ne, if_true, if_false, bR0_8 h nowB_is, bO10 h nowB_is, bR10_1 h nowB_is, bO12 h nowB_is, bL12 h nowB_is, g1, hv, hc, hy, hz]
    repeat' first
      | exact trivial
      | exact rfl
      | assumption
      | exact ⟨Nat.le_of_ble_eq_true rfl, Nat.le_of_ble_eq_true rfl, Nat.le_of_ble_eq_true rfl⟩
      | exact zwt01 _ _ _
      | decide
      | (refine ⟨_, _, sWithin _ _ _, ?_⟩; try simp only [kO_1 h, kN h, bO0 h nowB_is, true_and, and_true, zO_wI, mR_wI, mL_wI, one_ne, if_true, if_false, bR0_8 h nowB_is, bO10 h nowB_is, bR10_1 h nowB_is, bO12 h nowB_is, bL12 h nowB_is, g1, hv, hc, hy, hz])
      | (refine ⟨_, sWithin _ _ _, ?_⟩; try simp only [kO_1 h, kN h, bO0 h nowB_is, true_and, and_true, zO_wI, mR_wI, mL_wI, one_ne, if_true, if_false, bR0_8 h nowB_is, bO10 h nowB_is, bR10_1 h nowB_is, bO12 h nowB_is, bL12 h nowB_is, g1, hv, hc, hy, hz])
      | apply And.intro
      | split
      | (simp_all only [kO_1 h, kN h, bO0 h nowB_is, true_and, and_true, zO_wI, mR_wI, mL_wI, one_ne, if_true, if_false, bR0_8 h nowB_is, bO10 h nowB_is, bR10_1 h nowB_is, bO12 h nowB_is, bL12 h nowB_is, g1, hv, hc, hy, hz]; done)
  · simp only [zsl, if_neg hy] at hz ⊢
    try simp only [kO_1 h, kN h, bO0 h nowB_is, true_and, and_true, zO_wI, mR_wI, mL_wI, one_ne, if_true, if_false, bR0_8 h nowB_is, bO10 h nowB_is, bR10_1 h nowB_is, bO12 h nowB_is, bL12 h nowB_is, g1, hv, hc, hy, hz]
    repeat' first
      | exact trivial
      | exact rfl
      | assumption
      | exact ⟨Nat.le_of_ble_eq_true rfl, Nat.le_of_ble_eq_true rfl, Nat.le_of_ble_eq_true rfl⟩
      | exact zwt01 _ _ _
      | decide
      | (refine ⟨_, _, sWithin _ _ _, ?_⟩; try simp only [kO_1 h, kN h, bO0 h nowB_is, true_and, and_true, zO_wI, mR_wI, mL_wI, one_ne, if_true, if_false, bR0_8 h nowB_is, bO10 h nowB_is, bR10_1 h nowB_is, bO12 h nowB_is, bL12 h nowB_is, g1, hv, hc, hy, hz])
      | (refine ⟨_, sWithin _ _ _, ?_⟩; try simp only [kO_1 h, kN h, bO0 h nowB_is, true_and, and_true, zO_wI, mR_wI, mL_wI, one_ne, if_true, if_false, bR0_8 h nowB_is, bO10 h nowB_is, bR10_1 h nowB_is, bO12 h nowB_is, bL12 h nowB_is, g1, hv, hc, hy, hz])
      | apply And.intro
      | split
      | (simp_all only [kO_1 h, kN h, bO0 h nowB_is, true_and, and_true, zO_wI, mR_wI, mL_wI, one_ne, if_true, if_false, bR0_8 h nowB_is, bO10 h nowB_is, bR10_1 h nowB_is, bO12 h nowB_is, bL12 h nowB_is, g1, hv, hc, hy, hz]; done)
theorem xSays_ok {X : List Int32} {d : Nat} {M : Mm} (h : Sk M) {i : Nat} (hi : i < 8) (y : Int32) (g1 : zwt (nI i) 0 (mI M (nowB + 10) 2 - 1) = 1) (hz : ¬ zsl (mI M (nowB + 10) 3) (mI M (nowB + 12) i) y = 0) : zca X zML (d + 2) 199 [.ref 1, .int (nI i), .int y] M (some (.int (zsl (mI M (nowB + 10) 3) (mI M (nowB + 12) i) y))) (wI M (nowB + 10) 3 (zsl (mI M (nowB + 10) 3) (mI M (nowB + 12) i) y)) := by
  have hv : vp_in (nI i) 8 = True := vN hi (by decide)
  have hc : (nI i).toNatClampNeg = i := cI (by omega)
  refine iX11_says ⟨rfl, Nat.le_of_ble_eq_true rfl⟩ (zgo_in 200 ?_)
  dsimp only [zen, zrep, zw, zLo, zSe, zi1, zi2, zl2, zr1, zj, zsw, zpop, zkd, zLn, zc1, Nat.reduceSub, pX11_says]
  by_cases hy : y = 0
  · simp only [zsl, if_pos hy] at hz ⊢
    try simp only [kO_1 h, kN h, bO0 h nowB_is, true_and, and_true, zO_wI, mR_wI, mL_wI, one_ne, if_true, if_false, bR0_8 h nowB_is, bO10 h nowB_is, bR10_1 h nowB_is, bO12 h nowB_is, bL12 h nowB_is, g1, hv, hc, hy, hz]
    repeat' first
      | exact trivial
      | exact rfl
      | assumption
      | exact ⟨Nat.le_of_ble_eq_true rfl, Nat.le_of_ble_eq_true rfl, Nat.le_of_ble_eq_true rfl⟩
      | exact zwt01 _ _ _
      | decide
      | (refine ⟨_, _, sWithin _ _ _, ?_⟩; try simp only [kO_1 h, kN h, bO0 h nowB_is, true_and, and_true, zO_wI, mR_wI, mL_wI, one_ne, if_true, if_false, bR0_8 h nowB_is, bO10 h nowB_is, bR10_1 h nowB_is, bO12 h nowB_is, bL12 h nowB_is, g1, hv, hc, hy, hz])
      | (refine ⟨_, sWithin _ _ _, ?_⟩; try simp only [kO_1 h, kN h, bO0 h nowB_is, true_and, and_true, zO_wI, mR_wI, mL_wI, one_ne, if_true, if_false, bR0_8 h nowB_is, bO10 h nowB_is, bR10_1 h nowB_is, bO12 h nowB_is, bL12 h nowB_is, g1, hv, hc, hy, hz])
      | apply And.intro
      | split
      | (simp_all only [kO_1 h, kN h, bO0 h nowB_is, true_and, and_true, zO_wI, mR_wI, mL_wI, one_ne, if_true, if_false, bR0_8 h nowB_is, bO10 h nowB_is, bR10_1 h nowB_is, bO12 h nowB_is, bL12 h nowB_is, g1, hv, hc, hy, hz]; done)
  · simp only [zsl, if_neg hy] at hz ⊢
    try simp only [kO_1 h, kN h, bO0 h nowB_is, true_and, and_true, zO_wI, mR_wI, mL_wI, one_ne, if_true, if_false, bR0_8 h nowB_is, bO10 h nowB_is, bR10_1 h nowB_is, bO12 h nowB_is, bL12 h nowB_is, g1, hv, hc, hy, hz]
    repeat' first
      | exact trivial
      | exact rfl
      | assumption
      | exact ⟨Nat.le_of_ble_eq_true rfl, Nat.le_of_ble_eq_true rfl, Nat.le_of_ble_eq_true rfl⟩
      | exact zwt01 _ _ _
      | decide
      | (refine ⟨_, _, sWithin _ _ _, ?_⟩; try simp only [kO_1 h, kN h, bO0 h nowB_is, true_and, and_true, zO_wI, mR_wI, mL_wI, one_ne, if_true, if_false, bR0_8 h nowB_is, bO10 h nowB_is, bR10_1 h nowB_is, bO12 h nowB_is, bL12 h nowB_is, g1, hv, hc, hy, hz])
      | (refine ⟨_, sWithin _ _ _, ?_⟩; try simp only [kO_1 h, kN h, bO0 h nowB_is, true_and, and_true, zO_wI, mR_wI, mL_wI, one_ne, if_true, if_false, bR0_8 h nowB_is, bO10 h nowB_is, bR10_1 h nowB_is, bO12 h nowB_is, bL12 h nowB_is, g1, hv, hc, hy, hz])
      | apply And.intro
      | split
      | (simp_all only [kO_1 h, kN h, bO0 h nowB_is, true_and, and_true, zO_wI, mR_wI, mL_wI, one_ne, if_true, if_false, bR0_8 h nowB_is, bO10 h nowB_is, bR10_1 h nowB_is, bO12 h nowB_is, bL12 h nowB_is, g1, hv, hc, hy, hz]; done)
theorem mSays_bad {X : List Int32} {d : Nat} {M : Mm} (h : Sk M) (c y : Int32) (hb : zwt c 0 (mI M 151 3 - 1) = 0) : zca X zML (d + 2) 200 [.ref 150, .int c, .int y] M (some (.int (-1000000001))) M := by
  refine iX12_says ⟨rfl, Nat.le_of_ble_eq_true rfl⟩ (zgo_in 200 ?_)
  dsimp only [zen, zrep, zw, zLo, zSe, zi1, zi2, zl2, zr1, zj, zsw, zpop, zkd, zLn, zc1, Nat.reduceSub, pX12_says]
  try simp only [kO_150 h, kR_150_0 h, kO_151 h, kL_151 h, true_and, and_true, zO_wI, mR_wI, mL_wI, one_ne, if_true, if_false, cN_0, bN_0, cN_1, bN_1, cN_2, bN_2, cN_3, bN_3, cN_4, bN_4, cN_5, bN_5, cN_6, bN_6, cN_7, bN_7, cN_8, bN_8, cN_9, bN_9, hb]
  repeat' first
    | exact trivial
    | exact rfl
    | assumption
    | exact ⟨Nat.le_of_ble_eq_true rfl, Nat.le_of_ble_eq_true rfl, Nat.le_of_ble_eq_true rfl⟩
    | exact zwt01 _ _ _
    | decide
    | (refine ⟨_, _, sIsIn _ _ _, ?_⟩; try simp only [kO_150 h, kR_150_0 h, kO_151 h, kL_151 h, true_and, and_true, zO_wI, mR_wI, mL_wI, one_ne, if_true, if_false, cN_0, bN_0, cN_1, bN_1, cN_2, bN_2, cN_3, bN_3, cN_4, bN_4, cN_5, bN_5, cN_6, bN_6, cN_7, bN_7, cN_8, bN_8, cN_9, bN_9, hb])
    | (refine ⟨_, sIsIn _ _ _, ?_⟩; try simp only [kO_150 h, kR_150_0 h, kO_151 h, kL_151 h, true_and, and_true, zO_wI, mR_wI, mL_wI, one_ne, if_true, if_false, cN_0, bN_0, cN_1, bN_1, cN_2, bN_2, cN_3, bN_3, cN_4, bN_4, cN_5, bN_5, cN_6, bN_6, cN_7, bN_7, cN_8, bN_8, cN_9, bN_9, hb])
    | apply And.intro
    | split
    | (simp_all only [kO_150 h, kR_150_0 h, kO_151 h, kL_151 h, true_and, and_true, zO_wI, mR_wI, mL_wI, one_ne, if_true, if_false, cN_0, bN_0, cN_1, bN_1, cN_2, bN_2, cN_3, bN_3, cN_4, bN_4, cN_5, bN_5, cN_6, bN_6, cN_7, bN_7, cN_8, bN_8, cN_9, bN_9, hb]; done)
theorem mSays_no {X : List Int32} {d : Nat} {M : Mm} (h : Sk M) {i : Nat} (hi : i < 8) (y : Int32) (g1 : zwt (nI i) 0 (mI M 151 3 - 1) = 1) (hz : zsl (mI M 151 9) (mI M 151 (18 + i)) y = 0) : zca X zML (d + 2) 200 [.ref 150, .int (nI i), .int y] M (some (.int (-1000000002))) M := by
  have e9 : (18 : Int32) + nI i = nI (18 + i) := nI_add 18 _
  have hv : vp_in (nI (18 + i)) 3332 = True := vN (by omega) (by decide)
  have hc : (nI (18 + i)).toNatClampNeg = 18 + i := cI (by omega)
  refine iX12_says ⟨rfl, Nat.le_of_ble_eq_true rfl⟩ (zgo_in 200 ?_)
  dsimp only [zen, zrep, zw, zLo, zSe, zi1, zi2, zl2, zr1, zj, zsw, zpop, zkd, zLn, zc1, Nat.reduceSub, pX12_says]
  by_cases hy : y = 0
  · simp only [zsl, if_pos hy] at hz ⊢
    try simp only [kO_150 h, kR_150_0 h, kO_151 h, kL_151 h, true_and, and_true, zO_wI, mR_wI, mL_wI, one_ne, if_true, if_false, cN_0, bN_0, cN_1, bN_1, cN_2, bN_2, cN_3, bN_3, cN_4, bN_4, cN_5, bN_5, cN_6, bN_6, cN_7, bN_7, cN_8, bN_8, cN_9, bN_9, g1, e9, hv, hc, hy, hz]
    repeat' first
      | exact trivial
      | exact rfl
      | assumption
      | exact ⟨Nat.le_of_ble_eq_true rfl, Nat.le_of_ble_eq_true rfl, Nat.le_of_ble_eq_true rfl⟩
      | exact zwt01 _ _ _
      | decide
      | (refine ⟨_, _, sIsIn _ _ _, ?_⟩; try simp only [kO_150 h, kR_150_0 h, kO_151 h, kL_151 h, true_and, and_true, zO_wI, mR_wI, mL_wI, one_ne, if_true, if_false, cN_0, bN_0, cN_1, bN_1, cN_2, bN_2, cN_3, bN_3, cN_4, bN_4, cN_5, bN_5, cN_6, bN_6, cN_7, bN_7, cN_8, bN_8, cN_9, bN_9, g1, e9, hv, hc, hy, hz])
      | (refine ⟨_, sIsIn _ _ _, ?_⟩; try simp only [kO_150 h, kR_150_0 h, kO_151 h, kL_151 h, true_and, and_true, zO_wI, mR_wI, mL_wI, one_ne, if_true, if_false, cN_0, bN_0, cN_1, bN_1, cN_2, bN_2, cN_3, bN_3, cN_4, bN_4, cN_5, bN_5, cN_6, bN_6, cN_7, bN_7, cN_8, bN_8, cN_9, bN_9, g1, e9, hv, hc, hy, hz])
      | apply And.intro
      | split
      | (simp_all only [kO_150 h, kR_150_0 h, kO_151 h, kL_151 h, true_and, and_true, zO_wI, mR_wI, mL_wI, one_ne, if_true, if_false, cN_0, bN_0, cN_1, bN_1, cN_2, bN_2, cN_3, bN_3, cN_4, bN_4, cN_5, bN_5, cN_6, bN_6, cN_7, bN_7, cN_8, bN_8, cN_9, bN_9, g1, e9, hv, hc, hy, hz]; done)
  · simp only [zsl, if_neg hy] at hz ⊢
    try simp only [kO_150 h, kR_150_0 h, kO_151 h, kL_151 h, true_and, and_true, zO_wI, mR_wI, mL_wI, one_ne, if_true, if_false, cN_0, bN_0, cN_1, bN_1, cN_2, bN_2, cN_3, bN_3, cN_4, bN_4, cN_5, bN_5, cN_6, bN_6, cN_7, bN_7, cN_8, bN_8, cN_9, bN_9, g1, e9, hv, hc, hy, hz]
    repeat' first
      | exact trivial
      | exact rfl
      | assumption
      | exact ⟨Nat.le_of_ble_eq_true rfl, Nat.le_of_ble_eq_true rfl, Nat.le_of_ble_eq_true rfl⟩
      | exact zwt01 _ _ _
      | decide
      | (refine ⟨_, _, sIsIn _ _ _, ?_⟩; try simp only [kO_150 h, kR_150_0 h, kO_151 h, kL_151 h, true_and, and_true, zO_wI, mR_wI, mL_wI, one_ne, if_true, if_false, cN_0, bN_0, cN_1, bN_1, cN_2, bN_2, cN_3, bN_3, cN_4, bN_4, cN_5, bN_5, cN_6, bN_6, cN_7, bN_7, cN_8, bN_8, cN_9, bN_9, g1, e9, hv, hc, hy, hz])
      | (refine ⟨_, sIsIn _ _ _, ?_⟩; try simp only [kO_150 h, kR_150_0 h, kO_151 h, kL_151 h, true_and, and_true, zO_wI, mR_wI, mL_wI, one_ne, if_true, if_false, cN_0, bN_0, cN_1, bN_1, cN_2, bN_2, cN_3, bN_3, cN_4, bN_4, cN_5, bN_5, cN_6, bN_6, cN_7, bN_7, cN_8, bN_8, cN_9, bN_9, g1, e9, hv, hc, hy, hz])
      | apply And.intro
      | split
      | (simp_all only [kO_150 h, kR_150_0 h, kO_151 h, kL_151 h, true_and, and_true, zO_wI, mR_wI, mL_wI, one_ne, if_true, if_false, cN_0, bN_0, cN_1, bN_1, cN_2, bN_2, cN_3, bN_3, cN_4, bN_4, cN_5, bN_5, cN_6, bN_6, cN_7, bN_7, cN_8, bN_8, cN_9, bN_9, g1, e9, hv, hc, hy, hz]; done)
theorem mSays_ok {X : List Int32} {d : Nat} {M : Mm} (h : Sk M) {i : Nat} (hi : i < 8) (y : Int32) (g1 : zwt (nI i) 0 (mI M 151 3 - 1) = 1) (hz : ¬ zsl (mI M 151 9) (mI M 151 (18 + i)) y = 0) : zca X zML (d + 2) 200 [.ref 150, .int (nI i), .int y] M (some (.int (zsl (mI M 151 9) (mI M 151 (18 + i)) y))) (wI M 151 9 (zsl (mI M 151 9) (mI M 151 (18 + i)) y)) := by
  have e9 : (18 : Int32) + nI i = nI (18 + i) := nI_add 18 _
  have hv : vp_in (nI (18 + i)) 3332 = True := vN (by omega) (by decide)
  have hc : (nI (18 + i)).toNatClampNeg = 18 + i := cI (by omega)
  refine iX12_says ⟨rfl, Nat.le_of_ble_eq_true rfl⟩ (zgo_in 200 ?_)
  dsimp only [zen, zrep, zw, zLo, zSe, zi1, zi2, zl2, zr1, zj, zsw, zpop, zkd, zLn, zc1, Nat.reduceSub, pX12_says]
  by_cases hy : y = 0
  · simp only [zsl, if_pos hy] at hz ⊢
    try simp only [kO_150 h, kR_150_0 h, kO_151 h, kL_151 h, true_and, and_true, zO_wI, mR_wI, mL_wI, one_ne, if_true, if_false, cN_0, bN_0, cN_1, bN_1, cN_2, bN_2, cN_3, bN_3, cN_4, bN_4, cN_5, bN_5, cN_6, bN_6, cN_7, bN_7, cN_8, bN_8, cN_9, bN_9, g1, e9, hv, hc, hy, hz]
    repeat' first
      | exact trivial
      | exact rfl
      | assumption
      | exact ⟨Nat.le_of_ble_eq_true rfl, Nat.le_of_ble_eq_true rfl, Nat.le_of_ble_eq_true rfl⟩
      | exact zwt01 _ _ _
      | decide
      | (refine ⟨_, _, sIsIn _ _ _, ?_⟩; try simp only [kO_150 h, kR_150_0 h, kO_151 h, kL_151 h, true_and, and_true, zO_wI, mR_wI, mL_wI, one_ne, if_true, if_false, cN_0, bN_0, cN_1, bN_1, cN_2, bN_2, cN_3, bN_3, cN_4, bN_4, cN_5, bN_5, cN_6, bN_6, cN_7, bN_7, cN_8, bN_8, cN_9, bN_9, g1, e9, hv, hc, hy, hz])
      | (refine ⟨_, sIsIn _ _ _, ?_⟩; try simp only [kO_150 h, kR_150_0 h, kO_151 h, kL_151 h, true_and, and_true, zO_wI, mR_wI, mL_wI, one_ne, if_true, if_false, cN_0, bN_0, cN_1, bN_1, cN_2, bN_2, cN_3, bN_3, cN_4, bN_4, cN_5, bN_5, cN_6, bN_6, cN_7, bN_7, cN_8, bN_8, cN_9, bN_9, g1, e9, hv, hc, hy, hz])
      | apply And.intro
      | split
      | (simp_all only [kO_150 h, kR_150_0 h, kO_151 h, kL_151 h, true_and, and_true, zO_wI, mR_wI, mL_wI, one_ne, if_true, if_false, cN_0, bN_0, cN_1, bN_1, cN_2, bN_2, cN_3, bN_3, cN_4, bN_4, cN_5, bN_5, cN_6, bN_6, cN_7, bN_7, cN_8, bN_8, cN_9, bN_9, g1, e9, hv, hc, hy, hz]; done)
  · simp only [zsl, if_neg hy] at hz ⊢
    try simp only [kO_150 h, kR_150_0 h, kO_151 h, kL_151 h, true_and, and_true, zO_wI, mR_wI, mL_wI, one_ne, if_true, if_false, cN_0, bN_0, cN_1, bN_1, cN_2, bN_2, cN_3, bN_3, cN_4, bN_4, cN_5, bN_5, cN_6, bN_6, cN_7, bN_7, cN_8, bN_8, cN_9, bN_9, g1, e9, hv, hc, hy, hz]
    repeat' first
      | exact trivial
      | exact rfl
      | assumption
      | exact ⟨Nat.le_of_ble_eq_true rfl, Nat.le_of_ble_eq_true rfl, Nat.le_of_ble_eq_true rfl⟩
      | exact zwt01 _ _ _
      | decide
      | (refine ⟨_, _, sIsIn _ _ _, ?_⟩; try simp only [kO_150 h, kR_150_0 h, kO_151 h, kL_151 h, true_and, and_true, zO_wI, mR_wI, mL_wI, one_ne, if_true, if_false, cN_0, bN_0, cN_1, bN_1, cN_2, bN_2, cN_3, bN_3, cN_4, bN_4, cN_5, bN_5, cN_6, bN_6, cN_7, bN_7, cN_8, bN_8, cN_9, bN_9, g1, e9, hv, hc, hy, hz])
      | (refine ⟨_, sIsIn _ _ _, ?_⟩; try simp only [kO_150 h, kR_150_0 h, kO_151 h, kL_151 h, true_and, and_true, zO_wI, mR_wI, mL_wI, one_ne, if_true, if_false, cN_0, bN_0, cN_1, bN_1, cN_2, bN_2, cN_3, bN_3, cN_4, bN_4, cN_5, bN_5, cN_6, bN_6, cN_7, bN_7, cN_8, bN_8, cN_9, bN_9, g1, e9, hv, hc, hy, hz])
      | apply And.intro
      | split
      | (simp_all only [kO_150 h, kR_150_0 h, kO_151 h, kL_151 h, true_and, and_true, zO_wI, mR_wI, mL_wI, one_ne, if_true, if_false, cN_0, bN_0, cN_1, bN_1, cN_2, bN_2, cN_3, bN_3, cN_4, bN_4, cN_5, bN_5, cN_6, bN_6, cN_7, bN_7, cN_8, bN_8, cN_9, bN_9, g1, e9, hv, hc, hy, hz]; done)
theorem zand8 {o : Nat} (ho : o < 256) (x : Int32) : ∃ a, a < 256 ∧ nI o &&& x = nI a := by
  obtain ⟨a, ha, e⟩ := pk_andE (x &&& nI o) (m := 255) 8 rfl
  refine ⟨a, ha, ?_⟩
  rw [← e]
  have h1 : nI o &&& 255 = nI o := by
    have := pk_andN (n := o) (by omega) (m := 255) 8 rfl
    rw [this, Nat.mod_eq_of_lt (by omega)]
  rw [Int32.and_assoc, h1, Int32.and_comm]
theorem opSays {X : List Int32} {M : Mm} (h : Rel M) (c y : Int32) : Opk X 199 200 [.int c, .int y] M := by
  obtain ⟨nM, nP, nT, nK, nC, hS⟩ := h.2.1
  have e1 : mI M (nowB + 10) 2 = nI nK := hS.1.2.2.1.2.2.2.1
  have e2 : mI M 151 3 = nI nK := hS.1.2.1.2.2.2.1
  have e3 : mI M (nowB + 10) 3 = mI M 151 9 := hS.1.2.2.2.1.2.2.2.2
  have h8 := hS.1.1.2.2.2.1
  rcases zwt01 c 0 (nI nK - 1) with hb | g1
  · exact Opk.same h (xSays_bad (d := 298) h.1 c y (by rw [e1]; exact hb)) (mSays_bad (d := 298) h.1 c y (by rw [e2]; exact hb)) rfl
  · obtain ⟨i, hi, rfl⟩ := zwt_ix (by omega) g1
    have e4 : mI M (nowB + 12) i = mI M 151 (18 + i) := (hS.2.2.2.2.1.2 i hi).1
    by_cases hz : zsl (mI M 151 9) (mI M 151 (18 + i)) y = 0
    · exact Opk.same h (xSays_no (d := 298) h.1 (by omega) y (by rw [e1]; exact g1) (by rw [e3, e4]; exact hz)) (mSays_no (d := 298) h.1 (by omega) y (by rw [e2]; exact g1) hz) rfl
    · have hx := xSays_ok (X := X) (d := 298) h.1 (show i < 8 by omega) y (by rw [e1]; exact g1) (by rw [e3, e4]; exact hz)
      rw [e3, e4] at hx
      have hm := mSays_ok (X := X) (d := 298) (M := wI M (nowB + 10) 3 (zsl (mI M 151 9) (mI M 151 (18 + i)) y)) h.1 (show i < 8 by omega) y (by rw [e151 (by decide), e2]; exact g1) (by rw [e151 (by decide)]; exact hz)
      rw [e151 (by decide)] at hm
      refine Opk.mk hx hm rfl (Rel_op (nM := nM) (nP := nP) (nT := nT) (nK := nK) (nC := nC) h (fX_of (M1 := wI M (nowB + 10) 3 (zsl (mI M 151 9) (mI M 151 (18 + i)) y)) h.1 rfl (fun r hr j => mI_wIr (by unfold nowB; omega))) (fM_151 _ _ _) ?_)
      rw [mI_151, e151 (by decide)]
      refine up_open nowB_is hS _ ?_
      obtain ⟨o, ho, eo⟩ := hS.1.2.2.2.2.2.1
      unfold zsl
      rw [eo]
      exact zand8 ho _
theorem ShF_0 {M : Mm} {r o nM : Nat} {s : Nat → Int32} (h : ShF M r s o nM) (v : Int32) (hv : ∃ a, a < 6 ∧ v = nI a) : ShF (wI M r 0 v) r (upd s (o) v) o nM := by
  obtain ⟨⟨a0, a1, a2, a3, a4, a5, a6, a7, a8, a10⟩, h9, b0, b1, b2, b3, b4, b5, b6, b7, b8, b10⟩ := h
  refine ⟨⟨?_, ?_, ?_, ?_, ?_, ?_, ?_, ?_, ?_, ?_⟩, ?_, ?_, ?_, ?_, ?_, ?_, ?_, ?_, ?_, ?_, ?_⟩ <;> first | (rw [mI_wIs, upds]; done) | (rw [upds]; exact hv) | (rw [mI_wIj (by omega), updn (by omega)]; assumption) | (rw [updn (by omega)]; assumption) | (rw [updn (by omega), updn (by omega)]; assumption) | (rw [updn (by omega), mI_wIj (by omega)]; assumption)
theorem ShF_1 {M : Mm} {r o nM : Nat} {s : Nat → Int32} (h : ShF M r s o nM) (v : Int32) (hv : ∃ a, a < nM ∧ v = nI a) : ShF (wI M r 1 v) r (upd s (o + 1) v) o nM := by
  obtain ⟨⟨a0, a1, a2, a3, a4, a5, a6, a7, a8, a10⟩, h9, b0, b1, b2, b3, b4, b5, b6, b7, b8, b10⟩ := h
  refine ⟨⟨?_, ?_, ?_, ?_, ?_, ?_, ?_, ?_, ?_, ?_⟩, ?_, ?_, ?_, ?_, ?_, ?_, ?_, ?_, ?_, ?_, ?_⟩ <;> first | (rw [mI_wIs, upds]; done) | (rw [upds]; exact hv) | (rw [mI_wIj (by omega), updn (by omega)]; assumption) | (rw [updn (by omega)]; assumption) | (rw [updn (by omega), updn (by omega)]; assumption) | (rw [updn (by omega), mI_wIj (by omega)]; assumption)
theorem ShF_2 {M : Mm} {r o nM : Nat} {s : Nat → Int32} (h : ShF M r s o nM) (v : Int32) (hv : ∃ a, a < 1000 ∧ v = nI a) : ShF (wI M r 2 v) r (upd s (o + 2) v) o nM := by
  obtain ⟨⟨a0, a1, a2, a3, a4, a5, a6, a7, a8, a10⟩, h9, b0, b1, b2, b3, b4, b5, b6, b7, b8, b10⟩ := h
  refine ⟨⟨?_, ?_, ?_, ?_, ?_, ?_, ?_, ?_, ?_, ?_⟩, ?_, ?_, ?_, ?_, ?_, ?_, ?_, ?_, ?_, ?_, ?_⟩ <;> first | (rw [mI_wIs, upds]; done) | (rw [upds]; exact hv) | (rw [mI_wIj (by omega), updn (by omega)]; assumption) | (rw [updn (by omega)]; assumption) | (rw [updn (by omega), updn (by omega)]; assumption) | (rw [updn (by omega), mI_wIj (by omega)]; assumption)
theorem ShF_3 {M : Mm} {r o nM : Nat} {s : Nat → Int32} (h : ShF M r s o nM) (v : Int32) (hv : ∃ a, a < 256 ∧ v = nI a) : ShF (wI M r 3 v) r (upd s (o + 3) v) o nM := by
  obtain ⟨⟨a0, a1, a2, a3, a4, a5, a6, a7, a8, a10⟩, h9, b0, b1, b2, b3, b4, b5, b6, b7, b8, b10⟩ := h
  refine ⟨⟨?_, ?_, ?_, ?_, ?_, ?_, ?_, ?_, ?_, ?_⟩, ?_, ?_, ?_, ?_, ?_, ?_, ?_, ?_, ?_, ?_, ?_⟩ <;> first | (rw [mI_wIs, upds]; done) | (rw [upds]; exact hv) | (rw [mI_wIj (by omega), updn (by omega)]; assumption) | (rw [updn (by omega)]; assumption) | (rw [updn (by omega), updn (by omega)]; assumption) | (rw [updn (by omega), mI_wIj (by omega)]; assumption)
theorem ShF_4 {M : Mm} {r o nM : Nat} {s : Nat → Int32} (h : ShF M r s o nM) (v : Int32) (hv : ∃ a, a < 256 ∧ v = nI a) : ShF (wI M r 4 v) r (upd s (o + 4) v) o nM := by
  obtain ⟨⟨a0, a1, a2, a3, a4, a5, a6, a7, a8, a10⟩, h9, b0, b1, b2, b3, b4, b5, b6, b7, b8, b10⟩ := h
  refine ⟨⟨?_, ?_, ?_, ?_, ?_, ?_, ?_, ?_, ?_, ?_⟩, ?_, ?_, ?_, ?_, ?_, ?_, ?_, ?_, ?_, ?_, ?_⟩ <;> first | (rw [mI_wIs, upds]; done) | (rw [upds]; exact hv) | (rw [mI_wIj (by omega), updn (by omega)]; assumption) | (rw [updn (by omega)]; assumption) | (rw [updn (by omega), updn (by omega)]; assumption) | (rw [updn (by omega), mI_wIj (by omega)]; assumption)
theorem ShF_5 {M : Mm} {r o nM : Nat} {s : Nat → Int32} (h : ShF M r s o nM) (v : Int32) (hv : ∃ a, a < 5 ∧ v = nI a) (h10 : s (o + 10) = 0 ∨ v = 3) : ShF (wI M r 5 v) r (upd s (o + 5) v) o nM := by
  obtain ⟨⟨a0, a1, a2, a3, a4, a5, a6, a7, a8, a10⟩, h9, b0, b1, b2, b3, b4, b5, b6, b7, b8, a, ha, hb, hc⟩ := h
  have last : ∃ a, a < 2 ∧ upd s (o + 5) v (o + 10) = nI a ∧ (a = 1 → upd s (o + 5) v (o + 5) = 3) := by
    rw [updn (by omega), upds]
    refine ⟨a, ha, hb, fun e => ?_⟩
    rcases h10 with q | q
    · subst e
      rw [q] at hb
      exact absurd hb (by decide)
    · exact q
  refine ⟨⟨?_, ?_, ?_, ?_, ?_, ?_, ?_, ?_, ?_, ?_⟩, ?_, ?_, ?_, ?_, ?_, ?_, ?_, ?_, ?_, ?_, last⟩ <;> first | (rw [mI_wIs, upds]; done) | (rw [upds]; exact hv) | (rw [mI_wIj (by omega), updn (by omega)]; assumption) | (rw [updn (by omega)]; assumption) | (rw [updn (by omega), mI_wIj (by omega)]; assumption)
theorem ShF_6 {M : Mm} {r o nM : Nat} {s : Nat → Int32} (h : ShF M r s o nM) (v : Int32) (hv : ∃ a, a < 2 ∧ v = nI a) : ShF (wI M r 6 v) r (upd s (o + 6) v) o nM := by
  obtain ⟨⟨a0, a1, a2, a3, a4, a5, a6, a7, a8, a10⟩, h9, b0, b1, b2, b3, b4, b5, b6, b7, b8, b10⟩ := h
  refine ⟨⟨?_, ?_, ?_, ?_, ?_, ?_, ?_, ?_, ?_, ?_⟩, ?_, ?_, ?_, ?_, ?_, ?_, ?_, ?_, ?_, ?_, ?_⟩ <;> first | (rw [mI_wIs, upds]; done) | (rw [upds]; exact hv) | (rw [mI_wIj (by omega), updn (by omega)]; assumption) | (rw [updn (by omega)]; assumption) | (rw [updn (by omega), updn (by omega)]; assumption) | (rw [updn (by omega), mI_wIj (by omega)]; assumption)
theorem ShF_7 {M : Mm} {r o nM : Nat} {s : Nat → Int32} (h : ShF M r s o nM) (v : Int32) (hv : ∃ a, a < 2 ∧ v = nI a) : ShF (wI M r 7 v) r (upd s (o + 7) v) o nM := by
  obtain ⟨⟨a0, a1, a2, a3, a4, a5, a6, a7, a8, a10⟩, h9, b0, b1, b2, b3, b4, b5, b6, b7, b8, b10⟩ := h
  refine ⟨⟨?_, ?_, ?_, ?_, ?_, ?_, ?_, ?_, ?_, ?_⟩, ?_, ?_, ?_, ?_, ?_, ?_, ?_, ?_, ?_, ?_, ?_⟩ <;> first | (rw [mI_wIs, upds]; done) | (rw [upds]; exact hv) | (rw [mI_wIj (by omega), updn (by omega)]; assumption) | (rw [updn (by omega)]; assumption) | (rw [updn (by omega), updn (by omega)]; assumption) | (rw [updn (by omega), mI_wIj (by omega)]; assumption)
theorem ShF_8 {M : Mm} {r o nM : Nat} {s : Nat → Int32} (h : ShF M r s o nM) (v : Int32) (hv : ∃ a, a < 1000 ∧ v = nI a) : ShF (wI M r 8 v) r (upd s (o + 8) v) o nM := by
  obtain ⟨⟨a0, a1, a2, a3, a4, a5, a6, a7, a8, a10⟩, h9, b0, b1, b2, b3, b4, b5, b6, b7, b8, b10⟩ := h
  refine ⟨⟨?_, ?_, ?_, ?_, ?_, ?_, ?_, ?_, ?_, ?_⟩, ?_, ?_, ?_, ?_, ?_, ?_, ?_, ?_, ?_, ?_, ?_⟩ <;> first | (rw [mI_wIs, upds]; done) | (rw [upds]; exact hv) | (rw [mI_wIj (by omega), updn (by omega)]; assumption) | (rw [updn (by omega)]; assumption) | (rw [updn (by omega), updn (by omega)]; assumption) | (rw [updn (by omega), mI_wIj (by omega)]; assumption)
theorem ShF_10 {M : Mm} {r o nM : Nat} {s : Nat → Int32} (h : ShF M r s o nM) (v : Int32) (hv : ∃ a, a < 2 ∧ v = nI a ∧ (a = 1 → s (o + 5) = 3)) : ShF (wI M r 10 v) r (upd s (o + 10) v) o nM := by
  obtain ⟨⟨a0, a1, a2, a3, a4, a5, a6, a7, a8, a10⟩, h9, b0, b1, b2, b3, b4, b5, b6, b7, b8, b10⟩ := h
  have last : ∃ a, a < 2 ∧ upd s (o + 10) v (o + 10) = nI a ∧ (a = 1 → upd s (o + 10) v (o + 5) = 3) := by
    rw [upds, updn (by omega)]
    exact hv
  refine ⟨⟨?_, ?_, ?_, ?_, ?_, ?_, ?_, ?_, ?_, ?_⟩, ?_, ?_, ?_, ?_, ?_, ?_, ?_, ?_, ?_, ?_, last⟩ <;> first | (rw [mI_wIs, upds]; done) | (rw [mI_wIj (by omega), updn (by omega)]; assumption) | (rw [updn (by omega)]; assumption) | (rw [updn (by omega), mI_wIj (by omega)]; assumption)
/-- one that is not sold has not come back -/
theorem ShF_c {M : Mm} {r o nM : Nat} {s : Nat → Int32} (h : ShF M r s o nM) (h3 : ¬ s (o + 5) = 3) : s (o + 10) = 0 := by
  obtain ⟨-, -, -, -, -, -, -, -, -, -, -, a, ha, hb, hc⟩ := h
  rcases (show a = 0 ∨ a = 1 by omega) with rfl | rfl
  · exact hb
  · exact absurd (hc rfl) h3
/-- one field of a phone changes -/
theorem up_pf {M : Mm} {B nM nP nT nK nC p k : Nat} {s : Nat → Int32} {v : Int32} (hB : isB B) (h : Sh M B s nM nP nT nK nC) (hp : p < nP) (hk : k < 14) (hF : ShF (wI M (B + 19 + p) k v) (B + 19 + p) (upd s (110 + 14 * p + k) v) (110 + 14 * p) nM) : Sh (wI M (B + 19 + p) k v) B (upd s (110 + 14 * p + k) v) nM nP nT nK nC :=
  up_phoneF h p hp (fun o ho h1 j => mI_wIr (by omega)) (fun _ => rfl) (Nat.le_refl _) (zTk_wI _ _ _ _ (by have := isB_le hB; have := h.1.1.2.1; omega)) (fun j hj h1 => updn (by omega)) hF
