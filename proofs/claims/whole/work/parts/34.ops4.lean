/-! model -/
theorem nlt {n N : Nat} (h : n < N) (hN : N < 2 ^ 31) : (nI n < nI N) = True := eq_true (nI_lt h hN)
theorem nnl {n N : Nat} (h : N ≤ n) (hN : n < 2 ^ 31) : (nI n < nI N) = False := eq_false (nI_nlt h hN)
theorem nle {n N : Nat} (h : n ≤ N) (hN : N < 2 ^ 31) : (nI n ≤ nI N) = True := eq_true (nI_le h hN)
theorem nnle {n N : Nat} (h : N < n) (hN : n < 2 ^ 31) : (nI n ≤ nI N) = False := eq_false (nI_ge h hN)
theorem neq {n N : Nat} (h : n ≠ N) (h1 : n < 2 ^ 31) (hN : N < 2 ^ 31) : (nI n = nI N) = False := eq_false (fun q => h ((nI_eq h1 hN).mp q))
theorem sAddModel {X : List Int32} {d : Nat} {M : Mm} {B n : Nat} (h : Sk M) (hB : isB B) (hn : n < 6) (e1 : mI M B 1 = nI n) (p f q : Int32) : zca X zML (d + 1) 13 [.ref B, .int p, .int f, .int q] M (some (.int (nI n))) (wI (wI (wI (wI M (B + 13 + n) 0 p) (B + 13 + n) 1 f) (B + 13 + n) 2 q) B 1 (nI (n + 1))) := by
  have r1 : ∀ (M2 : Mm) (j : Nat) (v : Int32), mI (wI M2 (B + 13 + n) j v) B 1 = mI M2 B 1 := fun M2 j v => mI_wIr (by omega)
  have hv : vp_in (nI n) 6 = True := vN hn (by decide)
  have hc : (nI n).toNatClampNeg = n := cI (by omega)
  refine iX6_addModel ⟨rfl, Nat.le_of_ble_eq_true rfl⟩ (zgo_in 200 ?_)
  dsimp only [zen, zrep, zw, zLo, zSe, zi1, zi2, zl2, zr1, zj, zsw, zpop, zkd, zLn, zc1, Nat.reduceSub, pX6_addModel]
  try simp only [bO0 h hB, bR0_0 h hB, bA1 h hB, bL1 h hB, bV1 h hB hn, bW1 h hB hn, e1, r1, hv, hc, zO_wI, zA_wI, mR_wI, mL_wI, nI_1, mI_wIs, nI_pred, true_and, and_true]
  repeat' first
    | exact trivial
    | exact rfl
    | assumption
    | exact ⟨Nat.le_of_ble_eq_true rfl, Nat.le_of_ble_eq_true rfl, Nat.le_of_ble_eq_true rfl⟩
    | exact zwt01 _ _ _
    | decide
    | apply And.intro
    | split
    | (simp_all only [bO0 h hB, bR0_0 h hB, bA1 h hB, bL1 h hB, bV1 h hB hn, bW1 h hB hn, e1, r1, hv, hc, zO_wI, zA_wI, mR_wI, mL_wI, nI_1, mI_wIs, nI_pred, true_and, and_true]; done)
theorem xModel_bad {X : List Int32} {d : Nat} {M : Mm} (h : Sk M) (p q : Int32) (hb : zwt p 10 9999 = 0 ∨ zwt q 0 255 = 0) : zca X zML (d + 2) 14 [.ref 1, .int p, .int q] M (some (.int (-1000000001))) M := by
  refine iX11_model ⟨rfl, Nat.le_of_ble_eq_true rfl⟩ (zgo_in 200 ?_)
  dsimp only [zen, zrep, zw, zLo, zSe, zi1, zi2, zl2, zr1, zj, zsw, zpop, zkd, zLn, zc1, Nat.reduceSub, pX11_model]
  rcases (zwt01 _ _ _ : zwt p 10 9999 = 0 ∨ zwt p 10 9999 = 1) with q0 | q0
  · try simp only [kO_1 h, kN h, bO0 h nowB_is, true_and, and_true, zO_wI, mR_wI, mL_wI, one_ne, if_true, if_false, q0]
    repeat' first
      | exact trivial
      | exact rfl
      | assumption
      | exact ⟨Nat.le_of_ble_eq_true rfl, Nat.le_of_ble_eq_true rfl, Nat.le_of_ble_eq_true rfl⟩
      | exact zwt01 _ _ _
      | decide
      | (refine ⟨_, _, sWithin _ _ _, ?_⟩; try simp only [kO_1 h, kN h, bO0 h nowB_is, true_and, and_true, zO_wI, mR_wI, mL_wI, one_ne, if_true, if_false, q0])
      | (refine ⟨_, sWithin _ _ _, ?_⟩; try simp only [kO_1 h, kN h, bO0 h nowB_is, true_and, and_true, zO_wI, mR_wI, mL_wI, one_ne, if_true, if_false, q0])
      | apply And.intro
      | split
      | (simp_all only [kO_1 h, kN h, bO0 h nowB_is, true_and, and_true, zO_wI, mR_wI, mL_wI, one_ne, if_true, if_false, q0]; done)
  · have hb := hb.resolve_left (by rw [q0]; decide)
    try simp only [kO_1 h, kN h, bO0 h nowB_is, true_and, and_true, zO_wI, mR_wI, mL_wI, one_ne, if_true, if_false, q0, hb]
    repeat' first
      | exact trivial
      | exact rfl
      | assumption
      | exact ⟨Nat.le_of_ble_eq_true rfl, Nat.le_of_ble_eq_true rfl, Nat.le_of_ble_eq_true rfl⟩
      | exact zwt01 _ _ _
      | decide
      | (refine ⟨_, _, sWithin _ _ _, ?_⟩; try simp only [kO_1 h, kN h, bO0 h nowB_is, true_and, and_true, zO_wI, mR_wI, mL_wI, one_ne, if_true, if_false, q0, hb])
      | (refine ⟨_, sWithin _ _ _, ?_⟩; try simp only [kO_1 h, kN h, bO0 h nowB_is, true_and, and_true, zO_wI, mR_wI, mL_wI, one_ne, if_true, if_false, q0, hb])
      | apply And.intro
      | split
      | (simp_all only [kO_1 h, kN h, bO0 h nowB_is, true_and, and_true, zO_wI, mR_wI, mL_wI, one_ne, if_true, if_false, q0, hb]; done)
theorem xModel_full {X : List Int32} {d : Nat} {M : Mm} (h : Sk M) (p q : Int32) (g1 : zwt p 10 9999 = 1) (g2 : zwt q 0 255 = 1) {n : Nat} (hn : n = 6) (e1 : mI M nowB 1 = nI n) : zca X zML (d + 2) 14 [.ref 1, .int p, .int q] M (some (.int (-1000000003))) M := by
  have hl : (nI n < 6) = False := nnl (N := 6) (by omega) (by omega)
  refine iX11_model ⟨rfl, Nat.le_of_ble_eq_true rfl⟩ (zgo_in 200 ?_)
  dsimp only [zen, zrep, zw, zLo, zSe, zi1, zi2, zl2, zr1, zj, zsw, zpop, zkd, zLn, zc1, Nat.reduceSub, pX11_model]
  try simp only [kO_1 h, kN h, bO0 h nowB_is, true_and, and_true, zO_wI, mR_wI, mL_wI, one_ne, if_true, if_false, g1, g2, e1, hl]
  repeat' first
    | exact trivial
    | exact rfl
    | assumption
    | exact ⟨Nat.le_of_ble_eq_true rfl, Nat.le_of_ble_eq_true rfl, Nat.le_of_ble_eq_true rfl⟩
    | exact zwt01 _ _ _
    | decide
    | (refine ⟨_, _, sWithin _ _ _, ?_⟩; try simp only [kO_1 h, kN h, bO0 h nowB_is, true_and, and_true, zO_wI, mR_wI, mL_wI, one_ne, if_true, if_false, g1, g2, e1, hl])
    | (refine ⟨_, sWithin _ _ _, ?_⟩; try simp only [kO_1 h, kN h, bO0 h nowB_is, true_and, and_true, zO_wI, mR_wI, mL_wI, one_ne, if_true, if_false, g1, g2, e1, hl])
    | apply And.intro
    | split
    | (simp_all only [kO_1 h, kN h, bO0 h nowB_is, true_and, and_true, zO_wI, mR_wI, mL_wI, one_ne, if_true, if_false, g1, g2, e1, hl]; done)
theorem xModel_ok {X : List Int32} {d : Nat} {M : Mm} (h : Sk M) (p q : Int32) (g1 : zwt p 10 9999 = 1) (g2 : zwt q 0 255 = 1) {n : Nat} (hn : n < 6) (e1 : mI M nowB 1 = nI n) : zca X zML (d + 2) 14 [.ref 1, .int p, .int q] M (some (.int (nI n))) (wI (wI (wI (wI M (nowB + 13 + n) 0 (p / 10)) (nowB + 13 + n) 1 (p - p / 10 * 10)) (nowB + 13 + n) 2 q) nowB 1 (nI (n + 1))) := by
  have hl : (nI n < 6) = True := nlt (N := 6) (by omega) (by omega)
  refine iX11_model ⟨rfl, Nat.le_of_ble_eq_true rfl⟩ (zgo_in 200 ?_)
  dsimp only [zen, zrep, zw, zLo, zSe, zi1, zi2, zl2, zr1, zj, zsw, zpop, zkd, zLn, zc1, Nat.reduceSub, pX11_model]
  try simp only [kO_1 h, kN h, bO0 h nowB_is, true_and, and_true, zO_wI, mR_wI, mL_wI, one_ne, if_true, if_false, g1, g2, e1, hl]
  repeat' first
    | exact trivial
    | exact rfl
    | assumption
    | exact ⟨Nat.le_of_ble_eq_true rfl, Nat.le_of_ble_eq_true rfl, Nat.le_of_ble_eq_true rfl⟩
    | exact zwt01 _ _ _
    | decide
    | (refine ⟨_, _, sWithin _ _ _, ?_⟩; try simp only [kO_1 h, kN h, bO0 h nowB_is, true_and, and_true, zO_wI, mR_wI, mL_wI, one_ne, if_true, if_false, g1, g2, e1, hl])
    | (refine ⟨_, sWithin _ _ _, ?_⟩; try simp only [kO_1 h, kN h, bO0 h nowB_is, true_and, and_true, zO_wI, mR_wI, mL_wI, one_ne, if_true, if_false, g1, g2, e1, hl])
    | (refine ⟨_, _, sAddModel h nowB_is hn e1 _ _ _, ?_⟩; try simp only [kO_1 h, kN h, bO0 h nowB_is, true_and, and_true, zO_wI, mR_wI, mL_wI, one_ne, if_true, if_false, g1, g2, e1, hl])
    | (refine ⟨_, sAddModel h nowB_is hn e1 _ _ _, ?_⟩; try simp only [kO_1 h, kN h, bO0 h nowB_is, true_and, and_true, zO_wI, mR_wI, mL_wI, one_ne, if_true, if_false, g1, g2, e1, hl])
    | apply And.intro
    | split
    | (simp_all only [kO_1 h, kN h, bO0 h nowB_is, true_and, and_true, zO_wI, mR_wI, mL_wI, one_ne, if_true, if_false, g1, g2, e1, hl]; done)
theorem mModel_bad {X : List Int32} {d : Nat} {M : Mm} (h : Sk M) (p q : Int32) (hb : zwt p 10 9999 = 0 ∨ zwt q 0 255 = 0) : zca X zML (d + 2) 17 [.ref 150, .int p, .int q] M (some (.int (-1000000001))) M := by
  refine iX12_model ⟨rfl, Nat.le_of_ble_eq_true rfl⟩ (zgo_in 200 ?_)
  dsimp only [zen, zrep, zw, zLo, zSe, zi1, zi2, zl2, zr1, zj, zsw, zpop, zkd, zLn, zc1, Nat.reduceSub, pX12_model]
  rcases (zwt01 _ _ _ : zwt p 10 9999 = 0 ∨ zwt p 10 9999 = 1) with q0 | q0
  · try simp only [kO_150 h, kR_150_0 h, kO_151 h, kL_151 h, true_and, and_true, zO_wI, mR_wI, mL_wI, one_ne, if_true, if_false, cN_0, bN_0, cN_1, bN_1, cN_2, bN_2, cN_3, bN_3, cN_4, bN_4, cN_5, bN_5, cN_6, bN_6, cN_7, bN_7, cN_8, bN_8, cN_9, bN_9, q0]
    repeat' first
      | exact trivial
      | exact rfl
      | assumption
      | exact ⟨Nat.le_of_ble_eq_true rfl, Nat.le_of_ble_eq_true rfl, Nat.le_of_ble_eq_true rfl⟩
      | exact zwt01 _ _ _
      | decide
      | (refine ⟨_, _, sIsIn _ _ _, ?_⟩; try simp only [kO_150 h, kR_150_0 h, kO_151 h, kL_151 h, true_and, and_true, zO_wI, mR_wI, mL_wI, one_ne, if_true, if_false, cN_0, bN_0, cN_1, bN_1, cN_2, bN_2, cN_3, bN_3, cN_4, bN_4, cN_5, bN_5, cN_6, bN_6, cN_7, bN_7, cN_8, bN_8, cN_9, bN_9, q0])
      | (refine ⟨_, sIsIn _ _ _, ?_⟩; try simp only [kO_150 h, kR_150_0 h, kO_151 h, kL_151 h, true_and, and_true, zO_wI, mR_wI, mL_wI, one_ne, if_true, if_false, cN_0, bN_0, cN_1, bN_1, cN_2, bN_2, cN_3, bN_3, cN_4, bN_4, cN_5, bN_5, cN_6, bN_6, cN_7, bN_7, cN_8, bN_8, cN_9, bN_9, q0])
      | apply And.intro
      | split
      | (simp_all only [kO_150 h, kR_150_0 h, kO_151 h, kL_151 h, true_and, and_true, zO_wI, mR_wI, mL_wI, one_ne, if_true, if_false, cN_0, bN_0, cN_1, bN_1, cN_2, bN_2, cN_3, bN_3, cN_4, bN_4, cN_5, bN_5, cN_6, bN_6, cN_7, bN_7, cN_8, bN_8, cN_9, bN_9, q0]; done)
  · have hb := hb.resolve_left (by rw [q0]; decide)
    try simp only [kO_150 h, kR_150_0 h, kO_151 h, kL_151 h, true_and, and_true, zO_wI, mR_wI, mL_wI, one_ne, if_true, if_false, cN_0, bN_0, cN_1, bN_1, cN_2, bN_2, cN_3, bN_3, cN_4, bN_4, cN_5, bN_5, cN_6, bN_6, cN_7, bN_7, cN_8, bN_8, cN_9, bN_9, q0, hb]
    repeat' first
      | exact trivial
      | exact rfl
      | assumption
      | exact ⟨Nat.le_of_ble_eq_true rfl, Nat.le_of_ble_eq_true rfl, Nat.le_of_ble_eq_true rfl⟩
      | exact zwt01 _ _ _
      | decide
      | (refine ⟨_, _, sIsIn _ _ _, ?_⟩; try simp only [kO_150 h, kR_150_0 h, kO_151 h, kL_151 h, true_and, and_true, zO_wI, mR_wI, mL_wI, one_ne, if_true, if_false, cN_0, bN_0, cN_1, bN_1, cN_2, bN_2, cN_3, bN_3, cN_4, bN_4, cN_5, bN_5, cN_6, bN_6, cN_7, bN_7, cN_8, bN_8, cN_9, bN_9, q0, hb])
      | (refine ⟨_, sIsIn _ _ _, ?_⟩; try simp only [kO_150 h, kR_150_0 h, kO_151 h, kL_151 h, true_and, and_true, zO_wI, mR_wI, mL_wI, one_ne, if_true, if_false, cN_0, bN_0, cN_1, bN_1, cN_2, bN_2, cN_3, bN_3, cN_4, bN_4, cN_5, bN_5, cN_6, bN_6, cN_7, bN_7, cN_8, bN_8, cN_9, bN_9, q0, hb])
      | apply And.intro
      | split
      | (simp_all only [kO_150 h, kR_150_0 h, kO_151 h, kL_151 h, true_and, and_true, zO_wI, mR_wI, mL_wI, one_ne, if_true, if_false, cN_0, bN_0, cN_1, bN_1, cN_2, bN_2, cN_3, bN_3, cN_4, bN_4, cN_5, bN_5, cN_6, bN_6, cN_7, bN_7, cN_8, bN_8, cN_9, bN_9, q0, hb]; done)
theorem mModel_full {X : List Int32} {d : Nat} {M : Mm} (h : Sk M) (p q : Int32) (g1 : zwt p 10 9999 = 1) (g2 : zwt q 0 255 = 1) {n : Nat} (hn : n = 6) (e1 : mI M 151 0 = nI n) : zca X zML (d + 2) 17 [.ref 150, .int p, .int q] M (some (.int (-1000000003))) M := by
  have hl : (nI n = 6) = True := by rw [hn]; exact eq_true rfl
  refine iX12_model ⟨rfl, Nat.le_of_ble_eq_true rfl⟩ (zgo_in 200 ?_)
  dsimp only [zen, zrep, zw, zLo, zSe, zi1, zi2, zl2, zr1, zj, zsw, zpop, zkd, zLn, zc1, Nat.reduceSub, pX12_model]
  try simp only [kO_150 h, kR_150_0 h, kO_151 h, kL_151 h, true_and, and_true, zO_wI, mR_wI, mL_wI, one_ne, if_true, if_false, cN_0, bN_0, cN_1, bN_1, cN_2, bN_2, cN_3, bN_3, cN_4, bN_4, cN_5, bN_5, cN_6, bN_6, cN_7, bN_7, cN_8, bN_8, cN_9, bN_9, g1, g2, e1, hl]
  repeat' first
    | exact trivial
    | exact rfl
    | assumption
    | exact ⟨Nat.le_of_ble_eq_true rfl, Nat.le_of_ble_eq_true rfl, Nat.le_of_ble_eq_true rfl⟩
    | exact zwt01 _ _ _
    | decide
    | (refine ⟨_, _, sIsIn _ _ _, ?_⟩; try simp only [kO_150 h, kR_150_0 h, kO_151 h, kL_151 h, true_and, and_true, zO_wI, mR_wI, mL_wI, one_ne, if_true, if_false, cN_0, bN_0, cN_1, bN_1, cN_2, bN_2, cN_3, bN_3, cN_4, bN_4, cN_5, bN_5, cN_6, bN_6, cN_7, bN_7, cN_8, bN_8, cN_9, bN_9, g1, g2, e1, hl])
    | (refine ⟨_, sIsIn _ _ _, ?_⟩; try simp only [kO_150 h, kR_150_0 h, kO_151 h, kL_151 h, true_and, and_true, zO_wI, mR_wI, mL_wI, one_ne, if_true, if_false, cN_0, bN_0, cN_1, bN_1, cN_2, bN_2, cN_3, bN_3, cN_4, bN_4, cN_5, bN_5, cN_6, bN_6, cN_7, bN_7, cN_8, bN_8, cN_9, bN_9, g1, g2, e1, hl])
    | apply And.intro
    | split
    | (simp_all only [kO_150 h, kR_150_0 h, kO_151 h, kL_151 h, true_and, and_true, zO_wI, mR_wI, mL_wI, one_ne, if_true, if_false, cN_0, bN_0, cN_1, bN_1, cN_2, bN_2, cN_3, bN_3, cN_4, bN_4, cN_5, bN_5, cN_6, bN_6, cN_7, bN_7, cN_8, bN_8, cN_9, bN_9, g1, g2, e1, hl]; done)
theorem mModel_ok {X : List Int32} {d : Nat} {M : Mm} (h : Sk M) (p q : Int32) (g1 : zwt p 10 9999 = 1) (g2 : zwt q 0 255 = 1) {n : Nat} (hn : n < 6) (e1 : mI M 151 0 = nI n) : zca X zML (d + 2) 17 [.ref 150, .int p, .int q] M (some (.int (nI n))) (wI (wI (wI (wI M 151 (40 + 3 * n) (p / 10)) 151 (40 + 3 * n + 1) (p - p / 10 * 10)) 151 (40 + 3 * n + 2) q) 151 0 (nI (n + 1))) := by
  have hl : (nI n = 6) = False := neq (N := 6) (by omega) (by omega) (by omega)
  have r0 : ∀ (M2 : Mm) (v : Int32), mI (wI M2 151 (40 + 3 * n) v) 151 0 = mI M2 151 0 := fun M2 v => mI_wIj (by omega)
  have r1 : ∀ (M2 : Mm) (v : Int32), mI (wI M2 151 (40 + 3 * n + 1) v) 151 0 = mI M2 151 0 := fun M2 v => mI_wIj (by omega)
  have r2 : ∀ (M2 : Mm) (v : Int32), mI (wI M2 151 (40 + 3 * n + 2) v) 151 0 = mI M2 151 0 := fun M2 v => mI_wIj (by omega)
  refine iX12_model ⟨rfl, Nat.le_of_ble_eq_true rfl⟩ (zgo_in 200 ?_)
  dsimp only [zen, zrep, zw, zLo, zSe, zi1, zi2, zl2, zr1, zj, zsw, zpop, zkd, zLn, zc1, Nat.reduceSub, pX12_model]
  try simp only [kO_150 h, kR_150_0 h, kO_151 h, kL_151 h, true_and, and_true, zO_wI, mR_wI, mL_wI, one_ne, if_true, if_false, cN_0, bN_0, cN_1, bN_1, cN_2, bN_2, cN_3, bN_3, cN_4, bN_4, cN_5, bN_5, cN_6, bN_6, cN_7, bN_7, cN_8, bN_8, cN_9, bN_9, g1, g2, e1, hl, mdX0 hn, mdB0 hn, mdX1 hn, mdB1 hn, mdX2 hn, mdB2 hn, r0, r1, r2, nI_1, mI_wIs, nI_pred]
  repeat' first
    | exact trivial
    | exact rfl
    | assumption
    | exact ⟨Nat.le_of_ble_eq_true rfl, Nat.le_of_ble_eq_true rfl, Nat.le_of_ble_eq_true rfl⟩
    | exact zwt01 _ _ _
    | decide
    | (refine ⟨_, _, sIsIn _ _ _, ?_⟩; try simp only [kO_150 h, kR_150_0 h, kO_151 h, kL_151 h, true_and, and_true, zO_wI, mR_wI, mL_wI, one_ne, if_true, if_false, cN_0, bN_0, cN_1, bN_1, cN_2, bN_2, cN_3, bN_3, cN_4, bN_4, cN_5, bN_5, cN_6, bN_6, cN_7, bN_7, cN_8, bN_8, cN_9, bN_9, g1, g2, e1, hl, mdX0 hn, mdB0 hn, mdX1 hn, mdB1 hn, mdX2 hn, mdB2 hn, r0, r1, r2, nI_1, mI_wIs, nI_pred])
    | (refine ⟨_, sIsIn _ _ _, ?_⟩; try simp only [kO_150 h, kR_150_0 h, kO_151 h, kL_151 h, true_and, and_true, zO_wI, mR_wI, mL_wI, one_ne, if_true, if_false, cN_0, bN_0, cN_1, bN_1, cN_2, bN_2, cN_3, bN_3, cN_4, bN_4, cN_5, bN_5, cN_6, bN_6, cN_7, bN_7, cN_8, bN_8, cN_9, bN_9, g1, g2, e1, hl, mdX0 hn, mdB0 hn, mdX1 hn, mdB1 hn, mdX2 hn, mdB2 hn, r0, r1, r2, nI_1, mI_wIs, nI_pred])
    | (refine ⟨_, _, mModelAt _, ?_⟩; try simp only [kO_150 h, kR_150_0 h, kO_151 h, kL_151 h, true_and, and_true, zO_wI, mR_wI, mL_wI, one_ne, if_true, if_false, cN_0, bN_0, cN_1, bN_1, cN_2, bN_2, cN_3, bN_3, cN_4, bN_4, cN_5, bN_5, cN_6, bN_6, cN_7, bN_7, cN_8, bN_8, cN_9, bN_9, g1, g2, e1, hl, mdX0 hn, mdB0 hn, mdX1 hn, mdB1 hn, mdX2 hn, mdB2 hn, r0, r1, r2, nI_1, mI_wIs, nI_pred])
    | (refine ⟨_, mModelAt _, ?_⟩; try simp only [kO_150 h, kR_150_0 h, kO_151 h, kL_151 h, true_and, and_true, zO_wI, mR_wI, mL_wI, one_ne, if_true, if_false, cN_0, bN_0, cN_1, bN_1, cN_2, bN_2, cN_3, bN_3, cN_4, bN_4, cN_5, bN_5, cN_6, bN_6, cN_7, bN_7, cN_8, bN_8, cN_9, bN_9, g1, g2, e1, hl, mdX0 hn, mdB0 hn, mdX1 hn, mdB1 hn, mdX2 hn, mdB2 hn, r0, r1, r2, nI_1, mI_wIs, nI_pred])
    | apply And.intro
    | split
    | (simp_all only [kO_150 h, kR_150_0 h, kO_151 h, kL_151 h, true_and, and_true, zO_wI, mR_wI, mL_wI, one_ne, if_true, if_false, cN_0, bN_0, cN_1, bN_1, cN_2, bN_2, cN_3, bN_3, cN_4, bN_4, cN_5, bN_5, cN_6, bN_6, cN_7, bN_7, cN_8, bN_8, cN_9, bN_9, g1, g2, e1, hl, mdX0 hn, mdB0 hn, mdX1 hn, mdB1 hn, mdX2 hn, mdB2 hn, r0, r1, r2, nI_1, mI_wIs, nI_pred]; done)
theorem zwt_r {v : Int32} {a n : Nat} (ha : a < 2 ^ 31) (hn : n < 2 ^ 31) (h : zwt v (nI a) (nI n) = 1) : ∃ k, a ≤ k ∧ k ≤ n ∧ v = nI k := by
  unfold zwt at h
  split at h
  · cases h
  · rename_i h1
    split at h
    · cases h
    · rename_i h2
      have h3 : ¬ v < 0 := fun q => h1 (by
        rw [Int32.lt_iff_toInt_lt] at q ⊢
        rw [nI_toInt ha]
        have : (0 : Int32).toInt = 0 := rfl
        omega)
      obtain ⟨j, hj, rfl⟩ := nI_of h3
      rw [nI_ltI hj ha] at h1
      rw [nI_ltI hn hj] at h2
      exact ⟨j, by omega, by omega, rfl⟩
theorem opModel {X : List Int32} {M : Mm} (h : Rel M) (p q : Int32) : Opk X 14 17 [.int p, .int q] M := by
  obtain ⟨nM, nP, nT, nK, nC, hS⟩ := h.2.1
  have e1 : mI M nowB 1 = nI nM := hS.1.2.2.1.1
  have e2 : mI M 151 0 = nI nM := hS.1.2.1.1
  have h6 := hS.1.1.1
  by_cases hb : zwt p 10 9999 = 0 ∨ zwt q 0 255 = 0
  · exact Opk.same h (xModel_bad (d := 298) h.1 p q hb) (mModel_bad (d := 298) h.1 p q hb) rfl
  · have g1 : zwt p 10 9999 = 1 := (zwt01 _ _ _).resolve_left (fun q => hb (Or.inl q))
    have g2 : zwt q 0 255 = 1 := (zwt01 _ _ _).resolve_left (fun q => hb (Or.inr q))
    by_cases hn : nM = 6
    · exact Opk.same h (xModel_full (d := 298) h.1 p q g1 g2 hn e1) (mModel_full (d := 298) h.1 p q g1 g2 hn e2) rfl
    · have hn : nM < 6 := by omega
      have hx := xModel_ok (X := X) (d := 298) h.1 p q g1 g2 hn e1
      generalize hM1 : wI (wI (wI (wI M (nowB + 13 + nM) 0 (p / 10)) (nowB + 13 + nM) 1 (p - p / 10 * 10)) (nowB + 13 + nM) 2 q) nowB 1 (nI (nM + 1)) = M1 at hx
      have e3 : mI M1 151 = mI M 151 := by rw [← hM1, e151 (by decide), e151 (by unfold nowB; omega), e151 (by unfold nowB; omega), e151 (by unfold nowB; omega)]
      have hk1 : Sk M1 := by rw [← hM1]; exact h.1
      have hm := mModel_ok (X := X) (d := 298) (M := M1) hk1 p q g1 g2 hn (by rw [e3]; exact e2)
      refine Opk.mk hx hm rfl (Rel_op (nM := nM + 1) (nP := nP) (nT := nT) (nK := nK) (nC := nC) h (fX_of (M1 := M1) h.1 (by rw [← hM1]; rfl) (fun r hr j => by rw [← hM1, mI_wIr (by unfold nowB; omega), mI_wIr (by unfold nowB; omega), mI_wIr (by unfold nowB; omega), mI_wIr (by unfold nowB; omega)])) (fM_tr (fM_tr (fM_tr (fM_151 _ _ _) (fM_151 _ _ _)) (fM_151 _ _ _)) (fM_151 _ _ _)) ?_)
      rw [mI_151, mI_151, mI_151, mI_151, e3]
      obtain ⟨a, ha1, ha2, rfl⟩ := zwt_r (a := 10) (n := 9999) (by decide) (by decide) g1
      obtain ⟨b, hb2, rfl⟩ := zwt_c0 (n := 255) (by decide) g2
      have d1 : nI a / 10 = nI (a / 10) := pk_div (d := 10) (by omega) (by omega) (by omega)
      have d2 : nI a - nI a / 10 * 10 = nI (a % 10) := pk_rem (d := 10) (by omega) (by omega) (by omega)
      have c0 : ∀ k, k ≠ 1 → mI M1 nowB k = mI M nowB k := fun k hk => by rw [← hM1, mI_wIj hk, mI_wIr (by omega), mI_wIr (by omega), mI_wIr (by omega)]
      refine up_model hS hn (fun o ho h0 h1 k => by rw [← hM1, mI_wIr (by omega), mI_wIr (by omega), mI_wIr (by omega), mI_wIr (by omega)]) c0 (by rw [← hM1, mI_wIs]) (fun k => by rw [← hM1]; rfl) (by rw [← hM1]; exact Nat.le_refl _) (fun r r1 r2 => by rw [← hM1]; exact ⟨rfl, rfl, fun k => by rw [mI_wIr (by unfold nowB; omega), mI_wIr (by unfold nowB; omega), mI_wIr (by unfold nowB; omega), mI_wIr (by unfold nowB; omega)], fun k => rfl⟩) (fun j hj j0 j1 => by rw [updn j0, updn (by omega), updn (by omega), updn (by omega)]) upds ?_
      have u0 : mI M1 (nowB + 13 + nM) 0 = nI a / 10 := by rw [← hM1, mI_wIr (by omega), mI_wIj (by omega), mI_wIj (by omega), mI_wIs]
      have u1 : mI M1 (nowB + 13 + nM) 1 = nI a - nI a / 10 * 10 := by rw [← hM1, mI_wIr (by omega), mI_wIj (by omega), mI_wIs]
      have u2 : mI M1 (nowB + 13 + nM) 2 = nI b := by rw [← hM1, mI_wIr (by omega), mI_wIs]
      generalize hs : upd (upd (upd (upd (mI M 151) (40 + 3 * nM) (nI a / 10)) (40 + 3 * nM + 1) (nI a - nI a / 10 * 10)) (40 + 3 * nM + 2) (nI b)) 0 (nI (nM + 1)) = s9
      have t0 : s9 (40 + 3 * nM) = nI a / 10 := by rw [← hs, updn (by omega), updn (by omega), updn (by omega), upds]
      have t1 : s9 (40 + 3 * nM + 1) = nI a - nI a / 10 * 10 := by rw [← hs, updn (by omega), updn (by omega), upds]
      have t2 : s9 (40 + 3 * nM + 2) = nI b := by rw [← hs, updn (by omega), upds]
      rw [u0, u1, u2, t0, t1, t2]
      exact ⟨⟨rfl, rfl, rfl⟩, ⟨a / 10, by omega, d1⟩, ⟨a % 10, by omega, d2⟩, ⟨b, hb2, rfl⟩⟩
