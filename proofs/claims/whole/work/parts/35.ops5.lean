/-! weigh, check, anew, clear -/
theorem xWeigh_bad {X : List Int32} {d : Nat} {M : Mm} (h : Sk M) (c v : Int32) (hb : zwt c 0 7 = 0 ∨ zwt v 0 99 = 0) : zca X zML (d + 2) 195 [.ref 1, .int c, .int v] M (some (.int (-1000000001))) M := by
  refine iX11_weigh ⟨rfl, Nat.le_of_ble_eq_true rfl⟩ (zgo_in 200 ?_)
  dsimp only [zen, zrep, zw, zLo, zSe, zi1, zi2, zl2, zr1, zj, zsw, zpop, zkd, zLn, zc1, Nat.reduceSub, pX11_weigh]
  rcases (zwt01 _ _ _ : zwt c 0 7 = 0 ∨ zwt c 0 7 = 1) with q0 | q0
  · try simp only [kO_1 h, kN h, bO0 h nowB_is, true_and, and_true, zO_wI, mR_wI, mL_wI, one_ne, if_true, if_false, q0]
    repeat' first
      | exact trivial
      | exact rfl
      | assumption
      | exact ⟨Nat.le_of_ble_eq_true rfl, Nat.le_of_ble_eq_true rfl, Nat.le_of_ble_eq_true rfl⟩
      | exact zwt01 _ _ _
      | decide
      | (refine ⟨_, _, sWithin _ _ _, ?_⟩; try simp only [kO_1 h, kN h, bO0 h nowB_is, true_and, and_true, zO_wI, mR_wI, mL_wI, one_ne, if_true, if_false, q0])
      | (refine ⟨_, sWithin _ _ _, ?_⟩; try simp only [kO_1 h, kN h, bO0 h nowB_is, true_and, and_true, zO_wI, mR_wI, mL_wI, one_ne, if_true, if_false, q0])
      | apply And.intro
      | split
      | (simp_all only [kO_1 h, kN h, bO0 h nowB_is, true_and, and_true, zO_wI, mR_wI, mL_wI, one_ne, if_true, if_false, q0]; done)
  · have hb := hb.resolve_left (by rw [q0]; decide)
    try simp only [kO_1 h, kN h, bO0 h nowB_is, true_and, and_true, zO_wI, mR_wI, mL_wI, one_ne, if_true, if_false, q0, hb]
    repeat' first
      | exact trivial
      | exact rfl
      | assumption
      | exact ⟨Nat.le_of_ble_eq_true rfl, Nat.le_of_ble_eq_true rfl, Nat.le_of_ble_eq_true rfl⟩
      | exact zwt01 _ _ _
      | decide
      | (refine ⟨_, _, sWithin _ _ _, ?_⟩; try simp only [kO_1 h, kN h, bO0 h nowB_is, true_and, and_true, zO_wI, mR_wI, mL_wI, one_ne, if_true, if_false, q0, hb])
      | (refine ⟨_, sWithin _ _ _, ?_⟩; try simp only [kO_1 h, kN h, bO0 h nowB_is, true_and, and_true, zO_wI, mR_wI, mL_wI, one_ne, if_true, if_false, q0, hb])
      | apply And.intro
      | split
      | (simp_all only [kO_1 h, kN h, bO0 h nowB_is, true_and, and_true, zO_wI, mR_wI, mL_wI, one_ne, if_true, if_false, q0, hb]; done)
theorem xWeigh_ok {X : List Int32} {d : Nat} {M : Mm} (h : Sk M) {i : Nat} (hi : i < 8) (v : Int32) (g1 : zwt (nI i) 0 7 = 1) (g2 : zwt v 0 99 = 1) : zca X zML (d + 2) 195 [.ref 1, .int (nI i), .int v] M (some (.int (mI M (nowB + 11) i))) (wI M (nowB + 11) i v) := by
  have hv : vp_in (nI i) 8 = True := vN hi (by decide)
  have hc : (nI i).toNatClampNeg = i := cI (by omega)
  refine iX11_weigh ⟨rfl, Nat.le_of_ble_eq_true rfl⟩ (zgo_in 200 ?_)
  dsimp only [zen, zrep, zw, zLo, zSe, zi1, zi2, zl2, zr1, zj, zsw, zpop, zkd, zLn, zc1, Nat.reduceSub, pX11_weigh]
  try simp only [kO_1 h, kN h, bO0 h nowB_is, true_and, and_true, zO_wI, mR_wI, mL_wI, one_ne, if_true, if_false, bR0_8 h nowB_is, bO10 h nowB_is, bR10_0 h nowB_is, bR10_1 h nowB_is, bO11 h nowB_is, bL11 h nowB_is, bO12 h nowB_is, bL12 h nowB_is, g1, g2, hv, hc]
  repeat' first
    | exact trivial
    | exact rfl
    | assumption
    | exact ⟨Nat.le_of_ble_eq_true rfl, Nat.le_of_ble_eq_true rfl, Nat.le_of_ble_eq_true rfl⟩
    | exact zwt01 _ _ _
    | decide
    | (refine ⟨_, _, sWithin _ _ _, ?_⟩; try simp only [kO_1 h, kN h, bO0 h nowB_is, true_and, and_true, zO_wI, mR_wI, mL_wI, one_ne, if_true, if_false, bR0_8 h nowB_is, bO10 h nowB_is, bR10_0 h nowB_is, bR10_1 h nowB_is, bO11 h nowB_is, bL11 h nowB_is, bO12 h nowB_is, bL12 h nowB_is, g1, g2, hv, hc])
    | (refine ⟨_, sWithin _ _ _, ?_⟩; try simp only [kO_1 h, kN h, bO0 h nowB_is, true_and, and_true, zO_wI, mR_wI, mL_wI, one_ne, if_true, if_false, bR0_8 h nowB_is, bO10 h nowB_is, bR10_0 h nowB_is, bR10_1 h nowB_is, bO11 h nowB_is, bL11 h nowB_is, bO12 h nowB_is, bL12 h nowB_is, g1, g2, hv, hc])
    | apply And.intro
    | split
    | (simp_all only [kO_1 h, kN h, bO0 h nowB_is, true_and, and_true, zO_wI, mR_wI, mL_wI, one_ne, if_true, if_false, bR0_8 h nowB_is, bO10 h nowB_is, bR10_0 h nowB_is, bR10_1 h nowB_is, bO11 h nowB_is, bL11 h nowB_is, bO12 h nowB_is, bL12 h nowB_is, g1, g2, hv, hc]; done)
theorem mWeigh_bad {X : List Int32} {d : Nat} {M : Mm} (h : Sk M) (c v : Int32) (hb : zwt c 0 7 = 0 ∨ zwt v 0 99 = 0) : zca X zML (d + 2) 196 [.ref 150, .int c, .int v] M (some (.int (-1000000001))) M := by
  refine iX12_weigh ⟨rfl, Nat.le_of_ble_eq_true rfl⟩ (zgo_in 200 ?_)
  dsimp only [zen, zrep, zw, zLo, zSe, zi1, zi2, zl2, zr1, zj, zsw, zpop, zkd, zLn, zc1, Nat.reduceSub, pX12_weigh]
  rcases (zwt01 _ _ _ : zwt c 0 7 = 0 ∨ zwt c 0 7 = 1) with q0 | q0
  · try simp only [kO_150 h, kR_150_0 h, kO_151 h, kL_151 h, true_and, and_true, zO_wI, mR_wI, mL_wI, one_ne, if_true, if_false, cN_0, bN_0, cN_1, bN_1, cN_2, bN_2, cN_3, bN_3, cN_4, bN_4, cN_5, bN_5, cN_6, bN_6, cN_7, bN_7, cN_8, bN_8, cN_9, bN_9, q0]
    repeat' first
      | exact trivial
      | exact rfl
      | assumption
      | exact ⟨Nat.le_of_ble_eq_true rfl, Nat.le_of_ble_eq_true rfl, Nat.le_of_ble_eq_true rfl⟩
      | exact zwt01 _ _ _
      | decide
      | (refine ⟨_, _, sIsIn _ _ _, ?_⟩; try simp only [kO_150 h, kR_150_0 h, kO_151 h, kL_151 h, true_and, and_true, zO_wI, mR_wI, mL_wI, one_ne, if_true, if_false, cN_0, bN_0, cN_1, bN_1, cN_2, bN_2, cN_3, bN_3, cN_4, bN_4, cN_5, bN_5, cN_6, bN_6, cN_7, bN_7, cN_8, bN_8, cN_9, bN_9, q0])
      | (refine ⟨_, sIsIn _ _ _, ?_⟩; try simp only [kO_150 h, kR_150_0 h, kO_151 h, kL_151 h, true_and, and_true, zO_wI, mR_wI, mL_wI, one_ne, if_true, if_false, cN_0, bN_0, cN_1, bN_1, cN_2, bN_2, cN_3, bN_3, cN_4, bN_4, cN_5, bN_5, cN_6, bN_6, cN_7, bN_7, cN_8, bN_8, cN_9, bN_9, q0])
      | apply And.intro
      | split
      | (simp_all only [kO_150 h, kR_150_0 h, kO_151 h, kL_151 h, true_and, and_true, zO_wI, mR_wI, mL_wI, one_ne, if_true, if_false, cN_0, bN_0, cN_1, bN_1, cN_2, bN_2, cN_3, bN_3, cN_4, bN_4, cN_5, bN_5, cN_6, bN_6, cN_7, bN_7, cN_8, bN_8, cN_9, bN_9, q0]; done)
  · have hb := hb.resolve_left (by rw [q0]; decide)
    try simp only [kO_150 h, kR_150_0 h, kO_151 h, kL_151 h, true_and, and_true, zO_wI, mR_wI, mL_wI, one_ne, if_true, if_false, cN_0, bN_0, cN_1, bN_1, cN_2, bN_2, cN_3, bN_3, cN_4, bN_4, cN_5, bN_5, cN_6, bN_6, cN_7, bN_7, cN_8, bN_8, cN_9, bN_9, q0, hb]
    repeat' first
      | exact trivial
      | exact rfl
      | assumption
      | exact ⟨Nat.le_of_ble_eq_true rfl, Nat.le_of_ble_eq_true rfl, Nat.le_of_ble_eq_true rfl⟩
      | exact zwt01 _ _ _
      | decide
      | (refine ⟨_, _, sIsIn _ _ _, ?_⟩; try simp only [kO_150 h, kR_150_0 h, kO_151 h, kL_151 h, true_and, and_true, zO_wI, mR_wI, mL_wI, one_ne, if_true, if_false, cN_0, bN_0, cN_1, bN_1, cN_2, bN_2, cN_3, bN_3, cN_4, bN_4, cN_5, bN_5, cN_6, bN_6, cN_7, bN_7, cN_8, bN_8, cN_9, bN_9, q0, hb])
      | (refine ⟨_, sIsIn _ _ _, ?_⟩; try simp only [kO_150 h, kR_150_0 h, kO_151 h, kL_151 h, true_and, and_true, zO_wI, mR_wI, mL_wI, one_ne, if_true, if_false, cN_0, bN_0, cN_1, bN_1, cN_2, bN_2, cN_3, bN_3, cN_4, bN_4, cN_5, bN_5, cN_6, bN_6, cN_7, bN_7, cN_8, bN_8, cN_9, bN_9, q0, hb])
      | apply And.intro
      | split
      | (simp_all only [kO_150 h, kR_150_0 h, kO_151 h, kL_151 h, true_and, and_true, zO_wI, mR_wI, mL_wI, one_ne, if_true, if_false, cN_0, bN_0, cN_1, bN_1, cN_2, bN_2, cN_3, bN_3, cN_4, bN_4, cN_5, bN_5, cN_6, bN_6, cN_7, bN_7, cN_8, bN_8, cN_9, bN_9, q0, hb]; done)
theorem mWeigh_ok {X : List Int32} {d : Nat} {M : Mm} (h : Sk M) {i : Nat} (hi : i < 8) (v : Int32) (g1 : zwt (nI i) 0 7 = 1) (g2 : zwt v 0 99 = 1) : zca X zML (d + 2) 196 [.ref 150, .int (nI i), .int v] M (some (.int (mI M 151 (10 + i)))) (wI M 151 (10 + i) v) := by
  have e9 : (10 : Int32) + nI i = nI (10 + i) := nI_add 10 _
  refine iX12_weigh ⟨rfl, Nat.le_of_ble_eq_true rfl⟩ (zgo_in 200 ?_)
  dsimp only [zen, zrep, zw, zLo, zSe, zi1, zi2, zl2, zr1, zj, zsw, zpop, zkd, zLn, zc1, Nat.reduceSub, pX12_weigh]
  try simp only [kO_150 h, kR_150_0 h, kO_151 h, kL_151 h, true_and, and_true, zO_wI, mR_wI, mL_wI, one_ne, if_true, if_false, cN_0, bN_0, cN_1, bN_1, cN_2, bN_2, cN_3, bN_3, cN_4, bN_4, cN_5, bN_5, cN_6, bN_6, cN_7, bN_7, cN_8, bN_8, cN_9, bN_9, g1, g2, e9]
  repeat' first
    | exact trivial
    | exact rfl
    | assumption
    | exact ⟨Nat.le_of_ble_eq_true rfl, Nat.le_of_ble_eq_true rfl, Nat.le_of_ble_eq_true rfl⟩
    | exact zwt01 _ _ _
    | decide
    | (refine ⟨_, _, sIsIn _ _ _, ?_⟩; try simp only [kO_150 h, kR_150_0 h, kO_151 h, kL_151 h, true_and, and_true, zO_wI, mR_wI, mL_wI, one_ne, if_true, if_false, cN_0, bN_0, cN_1, bN_1, cN_2, bN_2, cN_3, bN_3, cN_4, bN_4, cN_5, bN_5, cN_6, bN_6, cN_7, bN_7, cN_8, bN_8, cN_9, bN_9, g1, g2, e9])
    | (refine ⟨_, sIsIn _ _ _, ?_⟩; try simp only [kO_150 h, kR_150_0 h, kO_151 h, kL_151 h, true_and, and_true, zO_wI, mR_wI, mL_wI, one_ne, if_true, if_false, cN_0, bN_0, cN_1, bN_1, cN_2, bN_2, cN_3, bN_3, cN_4, bN_4, cN_5, bN_5, cN_6, bN_6, cN_7, bN_7, cN_8, bN_8, cN_9, bN_9, g1, g2, e9])
    | (refine ⟨_, _, mBecomes h (k := 10 + i) (by omega) v, ?_⟩; try simp only [kO_150 h, kR_150_0 h, kO_151 h, kL_151 h, true_and, and_true, zO_wI, mR_wI, mL_wI, one_ne, if_true, if_false, cN_0, bN_0, cN_1, bN_1, cN_2, bN_2, cN_3, bN_3, cN_4, bN_4, cN_5, bN_5, cN_6, bN_6, cN_7, bN_7, cN_8, bN_8, cN_9, bN_9, g1, g2, e9])
    | (refine ⟨_, mBecomes h (k := 10 + i) (by omega) v, ?_⟩; try simp only [kO_150 h, kR_150_0 h, kO_151 h, kL_151 h, true_and, and_true, zO_wI, mR_wI, mL_wI, one_ne, if_true, if_false, cN_0, bN_0, cN_1, bN_1, cN_2, bN_2, cN_3, bN_3, cN_4, bN_4, cN_5, bN_5, cN_6, bN_6, cN_7, bN_7, cN_8, bN_8, cN_9, bN_9, g1, g2, e9])
    | apply And.intro
    | split
    | (simp_all only [kO_150 h, kR_150_0 h, kO_151 h, kL_151 h, true_and, and_true, zO_wI, mR_wI, mL_wI, one_ne, if_true, if_false, cN_0, bN_0, cN_1, bN_1, cN_2, bN_2, cN_3, bN_3, cN_4, bN_4, cN_5, bN_5, cN_6, bN_6, cN_7, bN_7, cN_8, bN_8, cN_9, bN_9, g1, g2, e9]; done)
theorem xCheck_bad {X : List Int32} {d : Nat} {M : Mm} (h : Sk M) (v : Int32) (hb : zwt v 1 254 = 0) : zca X zML (d + 2) 197 [.ref 1, .int v] M (some (.int (-1000000001))) M := by
  refine iX11_check ⟨rfl, Nat.le_of_ble_eq_true rfl⟩ (zgo_in 200 ?_)
  dsimp only [zen, zrep, zw, zLo, zSe, zi1, zi2, zl2, zr1, zj, zsw, zpop, zkd, zLn, zc1, Nat.reduceSub, pX11_check]
  try simp only [kO_1 h, kN h, bO0 h nowB_is, true_and, and_true, zO_wI, mR_wI, mL_wI, one_ne, if_true, if_false, hb]
  repeat' first
    | exact trivial
    | exact rfl
    | assumption
    | exact ⟨Nat.le_of_ble_eq_true rfl, Nat.le_of_ble_eq_true rfl, Nat.le_of_ble_eq_true rfl⟩
    | exact zwt01 _ _ _
    | decide
    | (refine ⟨_, _, sWithin _ _ _, ?_⟩; try simp only [kO_1 h, kN h, bO0 h nowB_is, true_and, and_true, zO_wI, mR_wI, mL_wI, one_ne, if_true, if_false, hb])
    | (refine ⟨_, sWithin _ _ _, ?_⟩; try simp only [kO_1 h, kN h, bO0 h nowB_is, true_and, and_true, zO_wI, mR_wI, mL_wI, one_ne, if_true, if_false, hb])
    | apply And.intro
    | split
    | (simp_all only [kO_1 h, kN h, bO0 h nowB_is, true_and, and_true, zO_wI, mR_wI, mL_wI, one_ne, if_true, if_false, hb]; done)
theorem xCheck_full {X : List Int32} {d : Nat} {M : Mm} (h : Sk M) (v : Int32) (g1 : zwt v 1 254 = 1) {n : Nat} (hn : n = 8) (e1 : mI M (nowB + 10) 2 = nI n) : zca X zML (d + 2) 197 [.ref 1, .int v] M (some (.int (-1000000003))) M := by
  have hl : (nI n < 8) = False := nnl (N := 8) (by omega) (by omega)
  refine iX11_check ⟨rfl, Nat.le_of_ble_eq_true rfl⟩ (zgo_in 200 ?_)
  dsimp only [zen, zrep, zw, zLo, zSe, zi1, zi2, zl2, zr1, zj, zsw, zpop, zkd, zLn, zc1, Nat.reduceSub, pX11_check]
  try simp only [kO_1 h, kN h, bO0 h nowB_is, true_and, and_true, zO_wI, mR_wI, mL_wI, one_ne, if_true, if_false, bR0_8 h nowB_is, bO10 h nowB_is, bR10_0 h nowB_is, bR10_1 h nowB_is, bO11 h nowB_is, bL11 h nowB_is, bO12 h nowB_is, bL12 h nowB_is, g1, e1, hl]
  repeat' first
    | exact trivial
    | exact rfl
    | assumption
    | exact ⟨Nat.le_of_ble_eq_true rfl, Nat.le_of_ble_eq_true rfl, Nat.le_of_ble_eq_true rfl⟩
    | exact zwt01 _ _ _
    | decide
    | (refine ⟨_, _, sWithin _ _ _, ?_⟩; try simp only [kO_1 h, kN h, bO0 h nowB_is, true_and, and_true, zO_wI, mR_wI, mL_wI, one_ne, if_true, if_false, bR0_8 h nowB_is, bO10 h nowB_is, bR10_0 h nowB_is, bR10_1 h nowB_is, bO11 h nowB_is, bL11 h nowB_is, bO12 h nowB_is, bL12 h nowB_is, g1, e1, hl])
    | (refine ⟨_, sWithin _ _ _, ?_⟩; try simp only [kO_1 h, kN h, bO0 h nowB_is, true_and, and_true, zO_wI, mR_wI, mL_wI, one_ne, if_true, if_false, bR0_8 h nowB_is, bO10 h nowB_is, bR10_0 h nowB_is, bR10_1 h nowB_is, bO11 h nowB_is, bL11 h nowB_is, bO12 h nowB_is, bL12 h nowB_is, g1, e1, hl])
    | apply And.intro
    | split
    | (simp_all only [kO_1 h, kN h, bO0 h nowB_is, true_and, and_true, zO_wI, mR_wI, mL_wI, one_ne, if_true, if_false, bR0_8 h nowB_is, bO10 h nowB_is, bR10_0 h nowB_is, bR10_1 h nowB_is, bO11 h nowB_is, bL11 h nowB_is, bO12 h nowB_is, bL12 h nowB_is, g1, e1, hl]; done)
theorem xCheck_ok {X : List Int32} {d : Nat} {M : Mm} (h : Sk M) (v : Int32) (g1 : zwt v 1 254 = 1) {i : Nat} (hi : i < 8) (e1 : mI M (nowB + 10) 2 = nI i) : zca X zML (d + 2) 197 [.ref 1, .int v] M (some (.int (nI i))) (wI (wI M (nowB + 12) i v) (nowB + 10) 2 (nI (i + 1))) := by
  have hv : vp_in (nI i) 8 = True := vN hi (by decide)
  have hc : (nI i).toNatClampNeg = i := cI (by omega)
  have hl : (nI i < 8) = True := nlt (N := 8) (by omega) (by omega)
  have r1 : ∀ (M2 : Mm) (j : Nat) (v : Int32), mI (wI M2 (nowB + 12) j v) (nowB + 10) 2 = mI M2 (nowB + 10) 2 := fun M2 j v => mI_wIr (by omega)
  refine iX11_check ⟨rfl, Nat.le_of_ble_eq_true rfl⟩ (zgo_in 200 ?_)
  dsimp only [zen, zrep, zw, zLo, zSe, zi1, zi2, zl2, zr1, zj, zsw, zpop, zkd, zLn, zc1, Nat.reduceSub, pX11_check]
  try simp only [kO_1 h, kN h, bO0 h nowB_is, true_and, and_true, zO_wI, mR_wI, mL_wI, one_ne, if_true, if_false, bR0_8 h nowB_is, bO10 h nowB_is, bR10_0 h nowB_is, bR10_1 h nowB_is, bO11 h nowB_is, bL11 h nowB_is, bO12 h nowB_is, bL12 h nowB_is, g1, e1, hl, hv, hc, r1, nI_1, mI_wIs, nI_pred]
  repeat' first
    | exact trivial
    | exact rfl
    | assumption
    | exact ⟨Nat.le_of_ble_eq_true rfl, Nat.le_of_ble_eq_true rfl, Nat.le_of_ble_eq_true rfl⟩
    | exact zwt01 _ _ _
    | decide
    | (refine ⟨_, _, sWithin _ _ _, ?_⟩; try simp only [kO_1 h, kN h, bO0 h nowB_is, true_and, and_true, zO_wI, mR_wI, mL_wI, one_ne, if_true, if_false, bR0_8 h nowB_is, bO10 h nowB_is, bR10_0 h nowB_is, bR10_1 h nowB_is, bO11 h nowB_is, bL11 h nowB_is, bO12 h nowB_is, bL12 h nowB_is, g1, e1, hl, hv, hc, r1, nI_1, mI_wIs, nI_pred])
    | (refine ⟨_, sWithin _ _ _, ?_⟩; try simp only [kO_1 h, kN h, bO0 h nowB_is, true_and, and_true, zO_wI, mR_wI, mL_wI, one_ne, if_true, if_false, bR0_8 h nowB_is, bO10 h nowB_is, bR10_0 h nowB_is, bR10_1 h nowB_is, bO11 h nowB_is, bL11 h nowB_is, bO12 h nowB_is, bL12 h nowB_is, g1, e1, hl, hv, hc, r1, nI_1, mI_wIs, nI_pred])
    | apply And.intro
    | split
    | (simp_all only [kO_1 h, kN h, bO0 h nowB_is, true_and, and_true, zO_wI, mR_wI, mL_wI, one_ne, if_true, if_false, bR0_8 h nowB_is, bO10 h nowB_is, bR10_0 h nowB_is, bR10_1 h nowB_is, bO11 h nowB_is, bL11 h nowB_is, bO12 h nowB_is, bL12 h nowB_is, g1, e1, hl, hv, hc, r1, nI_1, mI_wIs, nI_pred]; done)
theorem mCheck_bad {X : List Int32} {d : Nat} {M : Mm} (h : Sk M) (v : Int32) (hb : zwt v 1 254 = 0) : zca X zML (d + 2) 198 [.ref 150, .int v] M (some (.int (-1000000001))) M := by
  refine iX12_check ⟨rfl, Nat.le_of_ble_eq_true rfl⟩ (zgo_in 200 ?_)
  dsimp only [zen, zrep, zw, zLo, zSe, zi1, zi2, zl2, zr1, zj, zsw, zpop, zkd, zLn, zc1, Nat.reduceSub, pX12_check]
  try simp only [kO_150 h, kR_150_0 h, kO_151 h, kL_151 h, true_and, and_true, zO_wI, mR_wI, mL_wI, one_ne, if_true, if_false, cN_0, bN_0, cN_1, bN_1, cN_2, bN_2, cN_3, bN_3, cN_4, bN_4, cN_5, bN_5, cN_6, bN_6, cN_7, bN_7, cN_8, bN_8, cN_9, bN_9, hb]
  repeat' first
    | exact trivial
    | exact rfl
    | assumption
    | exact ⟨Nat.le_of_ble_eq_true rfl, Nat.le_of_ble_eq_true rfl, Nat.le_of_ble_eq_true rfl⟩
    | exact zwt01 _ _ _
    | decide
    | (refine ⟨_, _, sIsIn _ _ _, ?_⟩; try simp only [kO_150 h, kR_150_0 h, kO_151 h, kL_151 h, true_and, and_true, zO_wI, mR_wI, mL_wI, one_ne, if_true, if_false, cN_0, bN_0, cN_1, bN_1, cN_2, bN_2, cN_3, bN_3, cN_4, bN_4, cN_5, bN_5, cN_6, bN_6, cN_7, bN_7, cN_8, bN_8, cN_9, bN_9, hb])
    | (refine ⟨_, sIsIn _ _ _, ?_⟩; try simp only [kO_150 h, kR_150_0 h, kO_151 h, kL_151 h, true_and, and_true, zO_wI, mR_wI, mL_wI, one_ne, if_true, if_false, cN_0, bN_0, cN_1, bN_1, cN_2, bN_2, cN_3, bN_3, cN_4, bN_4, cN_5, bN_5, cN_6, bN_6, cN_7, bN_7, cN_8, bN_8, cN_9, bN_9, hb])
    | apply And.intro
    | split
    | (simp_all only [kO_150 h, kR_150_0 h, kO_151 h, kL_151 h, true_and, and_true, zO_wI, mR_wI, mL_wI, one_ne, if_true, if_false, cN_0, bN_0, cN_1, bN_1, cN_2, bN_2, cN_3, bN_3, cN_4, bN_4, cN_5, bN_5, cN_6, bN_6, cN_7, bN_7, cN_8, bN_8, cN_9, bN_9, hb]; done)
theorem mCheck_full {X : List Int32} {d : Nat} {M : Mm} (h : Sk M) (v : Int32) (g1 : zwt v 1 254 = 1) {n : Nat} (hn : n = 8) (e1 : mI M 151 3 = nI n) : zca X zML (d + 2) 198 [.ref 150, .int v] M (some (.int (-1000000003))) M := by
  have hl : (nI n = 8) = True := by rw [hn]; exact eq_true rfl
  refine iX12_check ⟨rfl, Nat.le_of_ble_eq_true rfl⟩ (zgo_in 200 ?_)
  dsimp only [zen, zrep, zw, zLo, zSe, zi1, zi2, zl2, zr1, zj, zsw, zpop, zkd, zLn, zc1, Nat.reduceSub, pX12_check]
  try simp only [kO_150 h, kR_150_0 h, kO_151 h, kL_151 h, true_and, and_true, zO_wI, mR_wI, mL_wI, one_ne, if_true, if_false, cN_0, bN_0, cN_1, bN_1, cN_2, bN_2, cN_3, bN_3, cN_4, bN_4, cN_5, bN_5, cN_6, bN_6, cN_7, bN_7, cN_8, bN_8, cN_9, bN_9, g1, e1, hl]
  repeat' first
    | exact trivial
    | exact rfl
    | assumption
    | exact ⟨Nat.le_of_ble_eq_true rfl, Nat.le_of_ble_eq_true rfl, Nat.le_of_ble_eq_true rfl⟩
    | exact zwt01 _ _ _
    | decide
    | (refine ⟨_, _, sIsIn _ _ _, ?_⟩; try simp only [kO_150 h, kR_150_0 h, kO_151 h, kL_151 h, true_and, and_true, zO_wI, mR_wI, mL_wI, one_ne, if_true, if_false, cN_0, bN_0, cN_1, bN_1, cN_2, bN_2, cN_3, bN_3, cN_4, bN_4, cN_5, bN_5, cN_6, bN_6, cN_7, bN_7, cN_8, bN_8, cN_9, bN_9, g1, e1, hl])
    | (refine ⟨_, sIsIn _ _ _, ?_⟩; try simp only [kO_150 h, kR_150_0 h, kO_151 h, kL_151 h, true_and, and_true, zO_wI, mR_wI, mL_wI, one_ne, if_true, if_false, cN_0, bN_0, cN_1, bN_1, cN_2, bN_2, cN_3, bN_3, cN_4, bN_4, cN_5, bN_5, cN_6, bN_6, cN_7, bN_7, cN_8, bN_8, cN_9, bN_9, g1, e1, hl])
    | apply And.intro
    | split
    | (simp_all only [kO_150 h, kR_150_0 h, kO_151 h, kL_151 h, true_and, and_true, zO_wI, mR_wI, mL_wI, one_ne, if_true, if_false, cN_0, bN_0, cN_1, bN_1, cN_2, bN_2, cN_3, bN_3, cN_4, bN_4, cN_5, bN_5, cN_6, bN_6, cN_7, bN_7, cN_8, bN_8, cN_9, bN_9, g1, e1, hl]; done)
theorem mCheck_ok {X : List Int32} {d : Nat} {M : Mm} (h : Sk M) (v : Int32) (g1 : zwt v 1 254 = 1) {i : Nat} (hi : i < 8) (e1 : mI M 151 3 = nI i) : zca X zML (d + 2) 198 [.ref 150, .int v] M (some (.int (nI i))) (wI (wI M 151 (18 + i) v) 151 3 (nI (i + 1))) := by
  have hl : (nI i = 8) = False := neq (N := 8) (by omega) (by omega) (by omega)
  have e9 : (18 : Int32) + nI i = nI (18 + i) := nI_add 18 _
  have hv : vp_in (nI (18 + i)) 3332 = True := vN (by omega) (by decide)
  have hc : (nI (18 + i)).toNatClampNeg = 18 + i := cI (by omega)
  have r1 : ∀ (M2 : Mm) (v : Int32), mI (wI M2 151 (18 + i) v) 151 3 = mI M2 151 3 := fun M2 v => mI_wIj (by omega)
  refine iX12_check ⟨rfl, Nat.le_of_ble_eq_true rfl⟩ (zgo_in 200 ?_)
  dsimp only [zen, zrep, zw, zLo, zSe, zi1, zi2, zl2, zr1, zj, zsw, zpop, zkd, zLn, zc1, Nat.reduceSub, pX12_check]
  try simp only [kO_150 h, kR_150_0 h, kO_151 h, kL_151 h, true_and, and_true, zO_wI, mR_wI, mL_wI, one_ne, if_true, if_false, cN_0, bN_0, cN_1, bN_1, cN_2, bN_2, cN_3, bN_3, cN_4, bN_4, cN_5, bN_5, cN_6, bN_6, cN_7, bN_7, cN_8, bN_8, cN_9, bN_9, g1, e1, hl, e9, hv, hc, r1, nI_1, mI_wIs, nI_pred]
  repeat' first
    | exact trivial
    | exact rfl
    | assumption
    | exact ⟨Nat.le_of_ble_eq_true rfl, Nat.le_of_ble_eq_true rfl, Nat.le_of_ble_eq_true rfl⟩
    | exact zwt01 _ _ _
    | decide
    | (refine ⟨_, _, sIsIn _ _ _, ?_⟩; try simp only [kO_150 h, kR_150_0 h, kO_151 h, kL_151 h, true_and, and_true, zO_wI, mR_wI, mL_wI, one_ne, if_true, if_false, cN_0, bN_0, cN_1, bN_1, cN_2, bN_2, cN_3, bN_3, cN_4, bN_4, cN_5, bN_5, cN_6, bN_6, cN_7, bN_7, cN_8, bN_8, cN_9, bN_9, g1, e1, hl, e9, hv, hc, r1, nI_1, mI_wIs, nI_pred])
    | (refine ⟨_, sIsIn _ _ _, ?_⟩; try simp only [kO_150 h, kR_150_0 h, kO_151 h, kL_151 h, true_and, and_true, zO_wI, mR_wI, mL_wI, one_ne, if_true, if_false, cN_0, bN_0, cN_1, bN_1, cN_2, bN_2, cN_3, bN_3, cN_4, bN_4, cN_5, bN_5, cN_6, bN_6, cN_7, bN_7, cN_8, bN_8, cN_9, bN_9, g1, e1, hl, e9, hv, hc, r1, nI_1, mI_wIs, nI_pred])
    | apply And.intro
    | split
    | (simp_all only [kO_150 h, kR_150_0 h, kO_151 h, kL_151 h, true_and, and_true, zO_wI, mR_wI, mL_wI, one_ne, if_true, if_false, cN_0, bN_0, cN_1, bN_1, cN_2, bN_2, cN_3, bN_3, cN_4, bN_4, cN_5, bN_5, cN_6, bN_6, cN_7, bN_7, cN_8, bN_8, cN_9, bN_9, g1, e1, hl, e9, hv, hc, r1, nI_1, mI_wIs, nI_pred]; done)
theorem xAnew {X : List Int32} {d : Nat} {M : Mm} (h : Sk M) : zca X zML (d + 1) 201 [.ref 1] M (some (.int (mI M (nowB + 10) 3))) (wI M (nowB + 10) 3 255) := by
  refine iX11_anew ⟨rfl, Nat.le_of_ble_eq_true rfl⟩ (zgo_in 200 ?_)
  dsimp only [zen, zrep, zw, zLo, zSe, zi1, zi2, zl2, zr1, zj, zsw, zpop, zkd, zLn, zc1, Nat.reduceSub, pX11_anew]
  try simp only [kO_1 h, kN h, bO0 h nowB_is, true_and, and_true, zO_wI, mR_wI, mL_wI, one_ne, if_true, if_false, bR0_8 h nowB_is, bO10 h nowB_is, bR10_0 h nowB_is, bR10_1 h nowB_is, bO11 h nowB_is, bL11 h nowB_is, bO12 h nowB_is, bL12 h nowB_is]
  repeat' first
    | exact trivial
    | exact rfl
    | assumption
    | exact ⟨Nat.le_of_ble_eq_true rfl, Nat.le_of_ble_eq_true rfl, Nat.le_of_ble_eq_true rfl⟩
    | exact zwt01 _ _ _
    | decide
    | apply And.intro
    | split
    | (simp_all only [kO_1 h, kN h, bO0 h nowB_is, true_and, and_true, zO_wI, mR_wI, mL_wI, one_ne, if_true, if_false, bR0_8 h nowB_is, bO10 h nowB_is, bR10_0 h nowB_is, bR10_1 h nowB_is, bO11 h nowB_is, bL11 h nowB_is, bO12 h nowB_is, bL12 h nowB_is]; done)
theorem mAnew {X : List Int32} {d : Nat} {M : Mm} (h : Sk M) : zca X zML (d + 2) 202 [.ref 150] M (some (.int (mI M 151 9))) (wI M 151 9 255) := by
  refine iX12_anew ⟨rfl, Nat.le_of_ble_eq_true rfl⟩ (zgo_in 200 ?_)
  dsimp only [zen, zrep, zw, zLo, zSe, zi1, zi2, zl2, zr1, zj, zsw, zpop, zkd, zLn, zc1, Nat.reduceSub, pX12_anew]
  try simp only [kO_150 h, kR_150_0 h, kO_151 h, kL_151 h, true_and, and_true, zO_wI, mR_wI, mL_wI, one_ne, if_true, if_false, cN_0, bN_0, cN_1, bN_1, cN_2, bN_2, cN_3, bN_3, cN_4, bN_4, cN_5, bN_5, cN_6, bN_6, cN_7, bN_7, cN_8, bN_8, cN_9, bN_9]
  repeat' first
    | exact trivial
    | exact rfl
    | assumption
    | exact ⟨Nat.le_of_ble_eq_true rfl, Nat.le_of_ble_eq_true rfl, Nat.le_of_ble_eq_true rfl⟩
    | exact zwt01 _ _ _
    | decide
    | (refine ⟨_, _, mBecomes h (k := 9) (by omega) 255, ?_⟩; try simp only [kO_150 h, kR_150_0 h, kO_151 h, kL_151 h, true_and, and_true, zO_wI, mR_wI, mL_wI, one_ne, if_true, if_false, cN_0, bN_0, cN_1, bN_1, cN_2, bN_2, cN_3, bN_3, cN_4, bN_4, cN_5, bN_5, cN_6, bN_6, cN_7, bN_7, cN_8, bN_8, cN_9, bN_9])
    | (refine ⟨_, mBecomes h (k := 9) (by omega) 255, ?_⟩; try simp only [kO_150 h, kR_150_0 h, kO_151 h, kL_151 h, true_and, and_true, zO_wI, mR_wI, mL_wI, one_ne, if_true, if_false, cN_0, bN_0, cN_1, bN_1, cN_2, bN_2, cN_3, bN_3, cN_4, bN_4, cN_5, bN_5, cN_6, bN_6, cN_7, bN_7, cN_8, bN_8, cN_9, bN_9])
    | apply And.intro
    | split
    | (simp_all only [kO_150 h, kR_150_0 h, kO_151 h, kL_151 h, true_and, and_true, zO_wI, mR_wI, mL_wI, one_ne, if_true, if_false, cN_0, bN_0, cN_1, bN_1, cN_2, bN_2, cN_3, bN_3, cN_4, bN_4, cN_5, bN_5, cN_6, bN_6, cN_7, bN_7, cN_8, bN_8, cN_9, bN_9]; done)
theorem xClear {X : List Int32} {d : Nat} {M : Mm} (h : Sk M) : zca X zML (d + 1) 114 [.ref 1] M (some (.int (mI M nowB 6))) (wI M nowB 6 0) := by
  refine iX11_clear ⟨rfl, Nat.le_of_ble_eq_true rfl⟩ (zgo_in 200 ?_)
  dsimp only [zen, zrep, zw, zLo, zSe, zi1, zi2, zl2, zr1, zj, zsw, zpop, zkd, zLn, zc1, Nat.reduceSub, pX11_clear]
  try simp only [kO_1 h, kN h, bO0 h nowB_is, true_and, and_true, zO_wI, mR_wI, mL_wI, one_ne, if_true, if_false]
  repeat' first
    | exact trivial
    | exact rfl
    | assumption
    | exact ⟨Nat.le_of_ble_eq_true rfl, Nat.le_of_ble_eq_true rfl, Nat.le_of_ble_eq_true rfl⟩
    | exact zwt01 _ _ _
    | decide
    | apply And.intro
    | split
    | (simp_all only [kO_1 h, kN h, bO0 h nowB_is, true_and, and_true, zO_wI, mR_wI, mL_wI, one_ne, if_true, if_false]; done)
theorem mClear {X : List Int32} {d : Nat} {M : Mm} (h : Sk M) : zca X zML (d + 2) 115 [.ref 150] M (some (.int (mI M 151 4))) (wI M 151 4 0) := by
  refine iX12_clear ⟨rfl, Nat.le_of_ble_eq_true rfl⟩ (zgo_in 200 ?_)
  dsimp only [zen, zrep, zw, zLo, zSe, zi1, zi2, zl2, zr1, zj, zsw, zpop, zkd, zLn, zc1, Nat.reduceSub, pX12_clear]
  try simp only [kO_150 h, kR_150_0 h, kO_151 h, kL_151 h, true_and, and_true, zO_wI, mR_wI, mL_wI, one_ne, if_true, if_false, cN_0, bN_0, cN_1, bN_1, cN_2, bN_2, cN_3, bN_3, cN_4, bN_4, cN_5, bN_5, cN_6, bN_6, cN_7, bN_7, cN_8, bN_8, cN_9, bN_9]
  repeat' first
    | exact trivial
    | exact rfl
    | assumption
    | exact ⟨Nat.le_of_ble_eq_true rfl, Nat.le_of_ble_eq_true rfl, Nat.le_of_ble_eq_true rfl⟩
    | exact zwt01 _ _ _
    | decide
    | (refine ⟨_, _, mBecomes h (k := 4) (by omega) 0, ?_⟩; try simp only [kO_150 h, kR_150_0 h, kO_151 h, kL_151 h, true_and, and_true, zO_wI, mR_wI, mL_wI, one_ne, if_true, if_false, cN_0, bN_0, cN_1, bN_1, cN_2, bN_2, cN_3, bN_3, cN_4, bN_4, cN_5, bN_5, cN_6, bN_6, cN_7, bN_7, cN_8, bN_8, cN_9, bN_9])
    | (refine ⟨_, mBecomes h (k := 4) (by omega) 0, ?_⟩; try simp only [kO_150 h, kR_150_0 h, kO_151 h, kL_151 h, true_and, and_true, zO_wI, mR_wI, mL_wI, one_ne, if_true, if_false, cN_0, bN_0, cN_1, bN_1, cN_2, bN_2, cN_3, bN_3, cN_4, bN_4, cN_5, bN_5, cN_6, bN_6, cN_7, bN_7, cN_8, bN_8, cN_9, bN_9])
    | apply And.intro
    | split
    | (simp_all only [kO_150 h, kR_150_0 h, kO_151 h, kL_151 h, true_and, and_true, zO_wI, mR_wI, mL_wI, one_ne, if_true, if_false, cN_0, bN_0, cN_1, bN_1, cN_2, bN_2, cN_3, bN_3, cN_4, bN_4, cN_5, bN_5, cN_6, bN_6, cN_7, bN_7, cN_8, bN_8, cN_9, bN_9]; done)
theorem opAnew {X : List Int32} {M : Mm} (h : Rel M) : Opk X 201 202 [] M := by
  obtain ⟨nM, nP, nT, nK, nC, hS⟩ := h.2.1
  refine Opk.mk (xAnew (d := 299) h.1) (mAnew (d := 298) (M := wI M (nowB + 10) 3 255) h.1) ?_ (Rel_op (nM := nM) (nP := nP) (nT := nT) (nK := nK) (nC := nC) h (fX_of (M1 := wI M (nowB + 10) 3 255) h.1 rfl (fun r hr j => mI_wIr (by unfold nowB; omega))) (fM_151 _ _ _) ?_)
  · rw [e151 (by decide)]; exact hS.1.2.2.2.1.2.2.2.2.symm
  · rw [mI_151, e151 (by decide)]
    exact up_open nowB_is hS 255 ⟨255, by omega, rfl⟩
theorem opClear {X : List Int32} {M : Mm} (h : Rel M) : Opk X 114 115 [] M := by
  obtain ⟨nM, nP, nT, nK, nC, hS⟩ := h.2.1
  refine Opk.mk (xClear (d := 299) h.1) (mClear (d := 298) (M := wI M nowB 6 0) h.1) ?_ (Rel_op (nM := nM) (nP := nP) (nT := nT) (nK := nK) (nC := 0) h (fX_of (M1 := wI M nowB 6 0) h.1 rfl (fun r hr j => mI_wIr (by unfold nowB; omega))) (fM_151 _ _ _) ?_)
  · rw [e151 (by decide), hS.1.2.1.2.2.2.2, hS.1.2.2.1.2.2.2.2]
  · rw [mI_151, e151 (by decide)]
    exact up_chosen 0 (by omega) hS (fun o ho h0 h5 k => mI_wIr (by omega)) (fun k hk => mI_wIj hk) (mI_wIs _ _ _ _) (fun k => rfl) (Nat.le_refl _) (zTk_wI _ _ _ _ (by decide)) (fun j hj j4 j5 => updn j4) upds ⟨fun k hk => by omega, fun i hi => by omega⟩
theorem opWeigh {X : List Int32} {M : Mm} (h : Rel M) (c v : Int32) : Opk X 195 196 [.int c, .int v] M := by
  obtain ⟨nM, nP, nT, nK, nC, hS⟩ := h.2.1
  by_cases hb : zwt c 0 7 = 0 ∨ zwt v 0 99 = 0
  · exact Opk.same h (xWeigh_bad (d := 298) h.1 c v hb) (mWeigh_bad (d := 298) h.1 c v hb) rfl
  · have g1 : zwt c 0 7 = 1 := (zwt01 _ _ _).resolve_left (fun q => hb (Or.inl q))
    have g2 : zwt v 0 99 = 1 := (zwt01 _ _ _).resolve_left (fun q => hb (Or.inr q))
    obtain ⟨i, hi, rfl⟩ := zwt_c0 (n := 7) (by decide) g1
    refine Opk.mk (xWeigh_ok (d := 298) h.1 hi v g1 g2) (mWeigh_ok (d := 298) (M := wI M (nowB + 11) i v) h.1 hi v g1 g2) ?_ (Rel_op (nM := nM) (nP := nP) (nT := nT) (nK := nK) (nC := nC) h (fX_of (M1 := wI M (nowB + 11) i v) h.1 rfl (fun r hr j => mI_wIr (by unfold nowB; omega))) (fM_151 _ _ _) ?_)
    · rw [e151 (by decide)]; exact (hS.2.2.2.2.1.1 i hi).1.symm
    · rw [mI_151, e151 (by decide)]
      refine up_cause nK hS.1.1.2.2.2.1 hS (fun o ho h0 h1 h2 k => mI_wIr (by omega)) (mI_wIr (by omega)) (by rw [mI_wIr (by omega)]; exact hS.1.2.2.1.2.2.2.1) (fun k => rfl) (Nat.le_refl _) (zTk_wI _ _ _ _ (by decide)) (fun j hj j4 j5 => updn (by omega)) (by rw [updn (by omega)]; exact hS.1.2.1.2.2.2.1) ⟨fun k hk => ?_, fun k hk => ?_⟩
      · by_cases e : k = i
        · rw [e, mI_wIs, upds]; exact ⟨rfl, zwt_c (n := 99) (by decide) g2⟩
        · rw [mI_wIj e, updn (by omega)]; exact hS.2.2.2.2.1.1 k hk
      · rw [mI_wIr (by omega), updn (by have := hS.1.1.2.2.2.1; omega)]; exact hS.2.2.2.2.1.2 k hk
theorem opCheck {X : List Int32} {M : Mm} (h : Rel M) (v : Int32) : Opk X 197 198 [.int v] M := by
  obtain ⟨nM, nP, nT, nK, nC, hS⟩ := h.2.1
  have e1 : mI M (nowB + 10) 2 = nI nK := hS.1.2.2.1.2.2.2.1
  have e2 : mI M 151 3 = nI nK := hS.1.2.1.2.2.2.1
  have h8 := hS.1.1.2.2.2.1
  rcases zwt01 v 1 254 with hb | g1
  · exact Opk.same h (xCheck_bad (d := 298) h.1 v hb) (mCheck_bad (d := 298) h.1 v hb) rfl
  · by_cases hn : nK = 8
    · exact Opk.same h (xCheck_full (d := 298) h.1 v g1 hn e1) (mCheck_full (d := 298) h.1 v g1 hn e2) rfl
    · have hi : nK < 8 := by omega
      have hx := xCheck_ok (X := X) (d := 298) h.1 v g1 hi e1
      generalize hM1 : wI (wI M (nowB + 12) nK v) (nowB + 10) 2 (nI (nK + 1)) = M1 at hx
      have e3 : mI M1 151 = mI M 151 := by rw [← hM1, e151 (by decide), e151 (by decide)]
      have hk1 : Sk M1 := by rw [← hM1]; exact h.1
      have hm := mCheck_ok (X := X) (d := 298) (M := M1) hk1 v g1 hi (by rw [e3]; exact e2)
      refine Opk.mk hx hm rfl (Rel_op (nM := nM) (nP := nP) (nT := nT) (nK := nK + 1) (nC := nC) h (fX_of (M1 := M1) h.1 (by rw [← hM1]; rfl) (fun r hr j => by rw [← hM1, mI_wIr (by unfold nowB; omega), mI_wIr (by unfold nowB; omega)])) (fM_tr (fM_151 _ _ _) (fM_151 _ _ _)) ?_)
      rw [mI_151, mI_151, e3]
      refine up_cause (nK + 1) (by omega) hS (fun o ho h0 h1 h2 k => by rw [← hM1, mI_wIr (by omega), mI_wIr (by omega)]) (by rw [← hM1, mI_wIj (by omega), mI_wIr (by omega)]) (by rw [← hM1, mI_wIs]) (fun k => by rw [← hM1]; rfl) (by rw [← hM1]; exact Nat.le_refl _) (fun r r1 r2 => by rw [← hM1]; exact ⟨rfl, rfl, fun k => by rw [mI_wIr (by unfold nowB; omega), mI_wIr (by unfold nowB; omega)], fun k => rfl⟩) (fun j hj j4 j5 => by rw [updn j4, updn (by omega)]) upds ⟨fun k hk => ?_, fun k hk => ?_⟩
      · rw [← hM1, mI_wIr (by omega), mI_wIr (by omega), updn (by omega), updn (by omega)]; exact hS.2.2.2.2.1.1 k hk
      · rw [updn (by omega)]
        by_cases e : k = nK
        · rw [← hM1, e, mI_wIr (by omega), mI_wIs, upds]
          obtain ⟨a, a1, a2, a3⟩ := zwt_r (a := 1) (n := 254) (by decide) (by decide) g1
          exact ⟨rfl, a, ⟨a1, by omega⟩, a3⟩
        · rw [← hM1, mI_wIr (by omega), mI_wIj e, updn (by omega)]; exact hS.2.2.2.2.1.2 k (by omega)
