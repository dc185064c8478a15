/-! guards and small calls -/
theorem one_ne : ((1 : Int32) = 0) = False := by decide
theorem cN_0 : Int32.toNatClampNeg 0 = 0 := rfl
theorem bN_0 : vp_in 0 3332 = True := eq_true (by unfold vp_in; decide)
theorem cN_1 : Int32.toNatClampNeg 1 = 1 := rfl
theorem bN_1 : vp_in 1 3332 = True := eq_true (by unfold vp_in; decide)
theorem cN_2 : Int32.toNatClampNeg 2 = 2 := rfl
theorem bN_2 : vp_in 2 3332 = True := eq_true (by unfold vp_in; decide)
theorem cN_3 : Int32.toNatClampNeg 3 = 3 := rfl
theorem bN_3 : vp_in 3 3332 = True := eq_true (by unfold vp_in; decide)
theorem cN_4 : Int32.toNatClampNeg 4 = 4 := rfl
theorem bN_4 : vp_in 4 3332 = True := eq_true (by unfold vp_in; decide)
theorem cN_5 : Int32.toNatClampNeg 5 = 5 := rfl
theorem bN_5 : vp_in 5 3332 = True := eq_true (by unfold vp_in; decide)
theorem cN_6 : Int32.toNatClampNeg 6 = 6 := rfl
theorem bN_6 : vp_in 6 3332 = True := eq_true (by unfold vp_in; decide)
theorem cN_7 : Int32.toNatClampNeg 7 = 7 := rfl
theorem bN_7 : vp_in 7 3332 = True := eq_true (by unfold vp_in; decide)
theorem cN_8 : Int32.toNatClampNeg 8 = 8 := rfl
theorem bN_8 : vp_in 8 3332 = True := eq_true (by unfold vp_in; decide)
theorem cN_9 : Int32.toNatClampNeg 9 = 9 := rfl
theorem bN_9 : vp_in 9 3332 = True := eq_true (by unfold vp_in; decide)
theorem zwt01 (v lo hi : Int32) : zwt v lo hi = 0 ∨ zwt v lo hi = 1 := by
  unfold zwt
  split
  · exact Or.inl rfl
  · split
    · exact Or.inl rfl
    · exact Or.inr rfl
theorem vN {n : Nat} {N : Nat} (h : n < N) (hN : N < 2 ^ 31) : vp_in (nI n) N = True := eq_true (vp_in_nI h hN)
theorem e151 {M : Mm} {r j : Nat} {v : Int32} (h : r ≠ 151) : mI (wI M r j v) 151 = mI M 151 := funext fun _ => mI_wIr (Ne.symm h)
/-- an index that is within -/
theorem zwt_ix {v : Int32} {n : Nat} (hn : n < 2 ^ 31) (h : zwt v 0 (nI n - 1) = 1) : ∃ k, k < n ∧ v = nI k := by
  unfold zwt at h
  split at h
  · cases h
  · rename_i h1
    split at h
    · cases h
    · rename_i h2
      rcases pk_ix v hn with q | q | q
      · exact absurd q h1
      · exfalso
        apply h2
        cases n with
        | zero =>
          obtain ⟨j, hj, rfl⟩ := nI_of h1
          show nI 0 - 1 < nI j
          rw [Int32.lt_iff_toInt_lt, nI_toInt hj]
          show -1 < (j : Int)
          omega
        | succ n =>
          rw [nI_pred]
          obtain ⟨j, hj, rfl⟩ := nI_of h1
          rw [nI_leI (by omega) hj] at q
          exact nI_lt (by omega) hj
      · exact q
theorem zwt_c {v : Int32} {n : Nat} (hn : n < 2 ^ 31) (h : zwt v 0 (nI n) = 1) : ∃ k, k ≤ n ∧ v = nI k := by
  unfold zwt at h
  split at h
  · cases h
  · rename_i h1
    split at h
    · cases h
    · rename_i h2
      obtain ⟨j, hj, rfl⟩ := nI_of h1
      rw [nI_ltI hn hj] at h2
      exact ⟨j, by omega, rfl⟩
theorem zwt_c0 {v : Int32} {n : Nat} (hn : n < 2 ^ 31) (h : zwt v 0 (nI n) = 1) : ∃ k, k < n + 1 ∧ v = nI k := by
  obtain ⟨k, hk, e⟩ := zwt_c hn h
  exact ⟨k, by omega, e⟩
theorem xIsModel {X : List Int32} {d : Nat} {M : Mm} (h : Sk M) (m : Int32) : zca X zML (d + 2) 18 [.ref 1, .int m] M (some (.int (zwt m 0 (mI M nowB 1 - 1)))) M := by
  refine iX11_isModel ⟨rfl, Nat.le_of_ble_eq_true rfl⟩ (zgo_in 200 ?_)
  dsimp only [zen, zrep, zw, zLo, zSe, zi1, zi2, zl2, zr1, zj, zsw, zpop, zkd, zLn, zc1, Nat.reduceSub, pX11_isModel]
  try simp only [kO_1 h, kN h, bO0 h nowB_is, true_and, and_true, zO_wI, mR_wI, mL_wI, one_ne, if_true, if_false]
  repeat' first
    | exact trivial
    | exact rfl
    | assumption
    | exact ⟨Nat.le_of_ble_eq_true rfl, Nat.le_of_ble_eq_true rfl, Nat.le_of_ble_eq_true rfl⟩
    | exact zwt01 _ _ _
    | decide
    | (refine ⟨_, _, sWithin _ _ _, ?_⟩; try simp only [kO_1 h, kN h, bO0 h nowB_is, true_and, and_true, zO_wI, mR_wI, mL_wI, one_ne, if_true, if_false])
    | (refine ⟨_, sWithin _ _ _, ?_⟩; try simp only [kO_1 h, kN h, bO0 h nowB_is, true_and, and_true, zO_wI, mR_wI, mL_wI, one_ne, if_true, if_false])
    | apply And.intro
    | split
    | (simp_all only [kO_1 h, kN h, bO0 h nowB_is, true_and, and_true, zO_wI, mR_wI, mL_wI, one_ne, if_true, if_false]; done)
theorem xIsPhone {X : List Int32} {d : Nat} {M : Mm} (h : Sk M) (m : Int32) : zca X zML (d + 2) 44 [.ref 1, .int m] M (some (.int (zwt m 0 (mI M nowB 4 - 1)))) M := by
  refine iX11_isPhone ⟨rfl, Nat.le_of_ble_eq_true rfl⟩ (zgo_in 200 ?_)
  dsimp only [zen, zrep, zw, zLo, zSe, zi1, zi2, zl2, zr1, zj, zsw, zpop, zkd, zLn, zc1, Nat.reduceSub, pX11_isPhone]
  try simp only [kO_1 h, kN h, bO0 h nowB_is, true_and, and_true, zO_wI, mR_wI, mL_wI, one_ne, if_true, if_false]
  repeat' first
    | exact trivial
    | exact rfl
    | assumption
    | exact ⟨Nat.le_of_ble_eq_true rfl, Nat.le_of_ble_eq_true rfl, Nat.le_of_ble_eq_true rfl⟩
    | exact zwt01 _ _ _
    | decide
    | (refine ⟨_, _, sWithin _ _ _, ?_⟩; try simp only [kO_1 h, kN h, bO0 h nowB_is, true_and, and_true, zO_wI, mR_wI, mL_wI, one_ne, if_true, if_false])
    | (refine ⟨_, sWithin _ _ _, ?_⟩; try simp only [kO_1 h, kN h, bO0 h nowB_is, true_and, and_true, zO_wI, mR_wI, mL_wI, one_ne, if_true, if_false])
    | apply And.intro
    | split
    | (simp_all only [kO_1 h, kN h, bO0 h nowB_is, true_and, and_true, zO_wI, mR_wI, mL_wI, one_ne, if_true, if_false]; done)
theorem xIsKind {X : List Int32} {d : Nat} {M : Mm} (m : Int32) : zca X zML (d + 2) 38 [.int m] M (some (.int (zwt m 0 5))) M := by
  refine iX11_isKind ⟨rfl, Nat.le_of_ble_eq_true rfl⟩ (zgo_in 200 ?_)
  dsimp only [zen, zrep, zw, zLo, zSe, zi1, zi2, zl2, zr1, zj, zsw, zpop, zkd, zLn, zc1, Nat.reduceSub, pX11_isKind]
  exact ⟨⟨Nat.le_of_ble_eq_true rfl, Nat.le_of_ble_eq_true rfl, Nat.le_of_ble_eq_true rfl⟩, _, _, sWithin _ _ _, zwt01 _ _ _, rfl, rfl⟩
theorem xIsSort {X : List Int32} {d : Nat} {M : Mm} (m : Int32) : zca X zML (d + 2) 28 [.int m] M (some (.int (zwt m 0 7))) M := by
  refine iX11_isSort ⟨rfl, Nat.le_of_ble_eq_true rfl⟩ (zgo_in 200 ?_)
  dsimp only [zen, zrep, zw, zLo, zSe, zi1, zi2, zl2, zr1, zj, zsw, zpop, zkd, zLn, zc1, Nat.reduceSub, pX11_isSort]
  exact ⟨⟨Nat.le_of_ble_eq_true rfl, Nat.le_of_ble_eq_true rfl, Nat.le_of_ble_eq_true rfl⟩, _, _, sWithin _ _ _, zwt01 _ _ _, rfl, rfl⟩
theorem xIsSheet {X : List Int32} {d : Nat} {M : Mm} (m : Int32) : zca X zML (d + 2) 227 [.int m] M (some (.int (zwt m 0 3))) M := by
  refine iX11_isSheet ⟨rfl, Nat.le_of_ble_eq_true rfl⟩ (zgo_in 200 ?_)
  dsimp only [zen, zrep, zw, zLo, zSe, zi1, zi2, zl2, zr1, zj, zsw, zpop, zkd, zLn, zc1, Nat.reduceSub, pX11_isSheet]
  exact ⟨⟨Nat.le_of_ble_eq_true rfl, Nat.le_of_ble_eq_true rfl, Nat.le_of_ble_eq_true rfl⟩, _, _, sWithin _ _ _, zwt01 _ _ _, rfl, rfl⟩
theorem xIsSlot {X : List Int32} {d : Nat} {M : Mm} (m : Int32) : zca X zML (d + 2) 241 [.int m] M (some (.int (zwt m 0 4))) M := by
  refine iX11_isSlot ⟨rfl, Nat.le_of_ble_eq_true rfl⟩ (zgo_in 200 ?_)
  dsimp only [zen, zrep, zw, zLo, zSe, zi1, zi2, zl2, zr1, zj, zsw, zpop, zkd, zLn, zc1, Nat.reduceSub, pX11_isSlot]
  exact ⟨⟨Nat.le_of_ble_eq_true rfl, Nat.le_of_ble_eq_true rfl, Nat.le_of_ble_eq_true rfl⟩, _, _, sWithin _ _ _, zwt01 _ _ _, rfl, rfl⟩
theorem mIsModel {X : List Int32} {d : Nat} {M : Mm} (h : Sk M) (m : Int32) : zca X zML (d + 2) 22 [.ref 150, .int m] M (some (.int (zwt m 0 (mI M 151 0 - 1)))) M := by
  refine iX12_isModel ⟨rfl, Nat.le_of_ble_eq_true rfl⟩ (zgo_in 200 ?_)
  dsimp only [zen, zrep, zw, zLo, zSe, zi1, zi2, zl2, zr1, zj, zsw, zpop, zkd, zLn, zc1, Nat.reduceSub, pX12_isModel]
  try simp only [kO_150 h, kR_150_0 h, kO_151 h, kL_151 h, true_and, and_true, zO_wI, mR_wI, mL_wI, one_ne, if_true, if_false, cN_0, bN_0, cN_1, bN_1, cN_2, bN_2, cN_3, bN_3, cN_4, bN_4, cN_5, bN_5, cN_6, bN_6, cN_7, bN_7, cN_8, bN_8, cN_9, bN_9]
  repeat' first
    | exact trivial
    | exact rfl
    | assumption
    | exact ⟨Nat.le_of_ble_eq_true rfl, Nat.le_of_ble_eq_true rfl, Nat.le_of_ble_eq_true rfl⟩
    | exact zwt01 _ _ _
    | decide
    | (refine ⟨_, _, sIsIn _ _ _, ?_⟩; try simp only [kO_150 h, kR_150_0 h, kO_151 h, kL_151 h, true_and, and_true, zO_wI, mR_wI, mL_wI, one_ne, if_true, if_false, cN_0, bN_0, cN_1, bN_1, cN_2, bN_2, cN_3, bN_3, cN_4, bN_4, cN_5, bN_5, cN_6, bN_6, cN_7, bN_7, cN_8, bN_8, cN_9, bN_9])
    | (refine ⟨_, sIsIn _ _ _, ?_⟩; try simp only [kO_150 h, kR_150_0 h, kO_151 h, kL_151 h, true_and, and_true, zO_wI, mR_wI, mL_wI, one_ne, if_true, if_false, cN_0, bN_0, cN_1, bN_1, cN_2, bN_2, cN_3, bN_3, cN_4, bN_4, cN_5, bN_5, cN_6, bN_6, cN_7, bN_7, cN_8, bN_8, cN_9, bN_9])
    | apply And.intro
    | split
    | (simp_all only [kO_150 h, kR_150_0 h, kO_151 h, kL_151 h, true_and, and_true, zO_wI, mR_wI, mL_wI, one_ne, if_true, if_false, cN_0, bN_0, cN_1, bN_1, cN_2, bN_2, cN_3, bN_3, cN_4, bN_4, cN_5, bN_5, cN_6, bN_6, cN_7, bN_7, cN_8, bN_8, cN_9, bN_9]; done)
theorem mIsPhone {X : List Int32} {d : Nat} {M : Mm} (h : Sk M) (m : Int32) : zca X zML (d + 2) 62 [.ref 150, .int m] M (some (.int (zwt m 0 (mI M 151 1 - 1)))) M := by
  refine iX12_isPhone ⟨rfl, Nat.le_of_ble_eq_true rfl⟩ (zgo_in 200 ?_)
  dsimp only [zen, zrep, zw, zLo, zSe, zi1, zi2, zl2, zr1, zj, zsw, zpop, zkd, zLn, zc1, Nat.reduceSub, pX12_isPhone]
  try simp only [kO_150 h, kR_150_0 h, kO_151 h, kL_151 h, true_and, and_true, zO_wI, mR_wI, mL_wI, one_ne, if_true, if_false, cN_0, bN_0, cN_1, bN_1, cN_2, bN_2, cN_3, bN_3, cN_4, bN_4, cN_5, bN_5, cN_6, bN_6, cN_7, bN_7, cN_8, bN_8, cN_9, bN_9]
  repeat' first
    | exact trivial
    | exact rfl
    | assumption
    | exact ⟨Nat.le_of_ble_eq_true rfl, Nat.le_of_ble_eq_true rfl, Nat.le_of_ble_eq_true rfl⟩
    | exact zwt01 _ _ _
    | decide
    | (refine ⟨_, _, sIsIn _ _ _, ?_⟩; try simp only [kO_150 h, kR_150_0 h, kO_151 h, kL_151 h, true_and, and_true, zO_wI, mR_wI, mL_wI, one_ne, if_true, if_false, cN_0, bN_0, cN_1, bN_1, cN_2, bN_2, cN_3, bN_3, cN_4, bN_4, cN_5, bN_5, cN_6, bN_6, cN_7, bN_7, cN_8, bN_8, cN_9, bN_9])
    | (refine ⟨_, sIsIn _ _ _, ?_⟩; try simp only [kO_150 h, kR_150_0 h, kO_151 h, kL_151 h, true_and, and_true, zO_wI, mR_wI, mL_wI, one_ne, if_true, if_false, cN_0, bN_0, cN_1, bN_1, cN_2, bN_2, cN_3, bN_3, cN_4, bN_4, cN_5, bN_5, cN_6, bN_6, cN_7, bN_7, cN_8, bN_8, cN_9, bN_9])
    | apply And.intro
    | split
    | (simp_all only [kO_150 h, kR_150_0 h, kO_151 h, kL_151 h, true_and, and_true, zO_wI, mR_wI, mL_wI, one_ne, if_true, if_false, cN_0, bN_0, cN_1, bN_1, cN_2, bN_2, cN_3, bN_3, cN_4, bN_4, cN_5, bN_5, cN_6, bN_6, cN_7, bN_7, cN_8, bN_8, cN_9, bN_9]; done)
theorem mIsText {X : List Int32} {d : Nat} {M : Mm} (h : Sk M) (m : Int32) : zca X zML (d + 2) 191 [.ref 150, .int m] M (some (.int (zwt m 0 (mI M 151 2 - 1)))) M := by
  refine iX12_isText ⟨rfl, Nat.le_of_ble_eq_true rfl⟩ (zgo_in 200 ?_)
  dsimp only [zen, zrep, zw, zLo, zSe, zi1, zi2, zl2, zr1, zj, zsw, zpop, zkd, zLn, zc1, Nat.reduceSub, pX12_isText]
  try simp only [kO_150 h, kR_150_0 h, kO_151 h, kL_151 h, true_and, and_true, zO_wI, mR_wI, mL_wI, one_ne, if_true, if_false, cN_0, bN_0, cN_1, bN_1, cN_2, bN_2, cN_3, bN_3, cN_4, bN_4, cN_5, bN_5, cN_6, bN_6, cN_7, bN_7, cN_8, bN_8, cN_9, bN_9]
  repeat' first
    | exact trivial
    | exact rfl
    | assumption
    | exact ⟨Nat.le_of_ble_eq_true rfl, Nat.le_of_ble_eq_true rfl, Nat.le_of_ble_eq_true rfl⟩
    | exact zwt01 _ _ _
    | decide
    | (refine ⟨_, _, sIsIn _ _ _, ?_⟩; try simp only [kO_150 h, kR_150_0 h, kO_151 h, kL_151 h, true_and, and_true, zO_wI, mR_wI, mL_wI, one_ne, if_true, if_false, cN_0, bN_0, cN_1, bN_1, cN_2, bN_2, cN_3, bN_3, cN_4, bN_4, cN_5, bN_5, cN_6, bN_6, cN_7, bN_7, cN_8, bN_8, cN_9, bN_9])
    | (refine ⟨_, sIsIn _ _ _, ?_⟩; try simp only [kO_150 h, kR_150_0 h, kO_151 h, kL_151 h, true_and, and_true, zO_wI, mR_wI, mL_wI, one_ne, if_true, if_false, cN_0, bN_0, cN_1, bN_1, cN_2, bN_2, cN_3, bN_3, cN_4, bN_4, cN_5, bN_5, cN_6, bN_6, cN_7, bN_7, cN_8, bN_8, cN_9, bN_9])
    | apply And.intro
    | split
    | (simp_all only [kO_150 h, kR_150_0 h, kO_151 h, kL_151 h, true_and, and_true, zO_wI, mR_wI, mL_wI, one_ne, if_true, if_false, cN_0, bN_0, cN_1, bN_1, cN_2, bN_2, cN_3, bN_3, cN_4, bN_4, cN_5, bN_5, cN_6, bN_6, cN_7, bN_7, cN_8, bN_8, cN_9, bN_9]; done)
theorem mIsSheet {X : List Int32} {d : Nat} {M : Mm} (m : Int32) : zca X zML (d + 2) 230 [.int m] M (some (.int (zwt m 0 3))) M := by
  refine iX12_isSheet ⟨rfl, Nat.le_of_ble_eq_true rfl⟩ (zgo_in 200 ?_)
  dsimp only [zen, zrep, zw, zLo, zSe, zi1, zi2, zl2, zr1, zj, zsw, zpop, zkd, zLn, zc1, Nat.reduceSub, pX12_isSheet]
  exact ⟨⟨Nat.le_of_ble_eq_true rfl, Nat.le_of_ble_eq_true rfl, Nat.le_of_ble_eq_true rfl⟩, _, _, sIsIn _ _ _, zwt01 _ _ _, rfl, rfl⟩
theorem mIsSlot {X : List Int32} {d : Nat} {M : Mm} (m : Int32) : zca X zML (d + 2) 246 [.int m] M (some (.int (zwt m 0 4))) M := by
  refine iX12_isSlot ⟨rfl, Nat.le_of_ble_eq_true rfl⟩ (zgo_in 200 ?_)
  dsimp only [zen, zrep, zw, zLo, zSe, zi1, zi2, zl2, zr1, zj, zsw, zpop, zkd, zLn, zc1, Nat.reduceSub, pX12_isSlot]
  exact ⟨⟨Nat.le_of_ble_eq_true rfl, Nat.le_of_ble_eq_true rfl, Nat.le_of_ble_eq_true rfl⟩, _, _, sIsIn _ _ _, zwt01 _ _ _, rfl, rfl⟩
theorem xCommon_bad {X : List Int32} {d : Nat} {M : Mm} (h : Sk M) (v : Int32) (hb : zwt v 0 255 = 0) : zca X zML (d + 2) 25 [.ref 1, .int v] M (some (.int (-1000000001))) M := by
  refine iX11_common ⟨rfl, Nat.le_of_ble_eq_true rfl⟩ (zgo_in 200 ?_)
  dsimp only [zen, zrep, zw, zLo, zSe, zi1, zi2, zl2, zr1, zj, zsw, zpop, zkd, zLn, zc1, Nat.reduceSub, pX11_common]
  try simp only [kO_1 h, kN h, bO0 h nowB_is, true_and, and_true, zO_wI, mR_wI, mL_wI, one_ne, if_true, if_false, bR0_2 h nowB_is, bO2 h nowB_is, hb]
  repeat' first
    | exact trivial
    | exact rfl
    | assumption
    | exact ⟨Nat.le_of_ble_eq_true rfl, Nat.le_of_ble_eq_true rfl, Nat.le_of_ble_eq_true rfl⟩
    | exact zwt01 _ _ _
    | decide
    | (refine ⟨_, _, sWithin _ _ _, ?_⟩; try simp only [kO_1 h, kN h, bO0 h nowB_is, true_and, and_true, zO_wI, mR_wI, mL_wI, one_ne, if_true, if_false, bR0_2 h nowB_is, bO2 h nowB_is, hb])
    | (refine ⟨_, sWithin _ _ _, ?_⟩; try simp only [kO_1 h, kN h, bO0 h nowB_is, true_and, and_true, zO_wI, mR_wI, mL_wI, one_ne, if_true, if_false, bR0_2 h nowB_is, bO2 h nowB_is, hb])
    | apply And.intro
    | split
    | (simp_all only [kO_1 h, kN h, bO0 h nowB_is, true_and, and_true, zO_wI, mR_wI, mL_wI, one_ne, if_true, if_false, bR0_2 h nowB_is, bO2 h nowB_is, hb]; done)
theorem xCommon_ok {X : List Int32} {d : Nat} {M : Mm} (h : Sk M) (v : Int32) (hb : zwt v 0 255 = 1) : zca X zML (d + 2) 25 [.ref 1, .int v] M (some (.int (mI M (nowB + 2) 1))) (wI M (nowB + 2) 1 v) := by
  refine iX11_common ⟨rfl, Nat.le_of_ble_eq_true rfl⟩ (zgo_in 200 ?_)
  dsimp only [zen, zrep, zw, zLo, zSe, zi1, zi2, zl2, zr1, zj, zsw, zpop, zkd, zLn, zc1, Nat.reduceSub, pX11_common]
  try simp only [kO_1 h, kN h, bO0 h nowB_is, true_and, and_true, zO_wI, mR_wI, mL_wI, one_ne, if_true, if_false, bR0_2 h nowB_is, bO2 h nowB_is, hb]
  repeat' first
    | exact trivial
    | exact rfl
    | assumption
    | exact ⟨Nat.le_of_ble_eq_true rfl, Nat.le_of_ble_eq_true rfl, Nat.le_of_ble_eq_true rfl⟩
    | exact zwt01 _ _ _
    | decide
    | (refine ⟨_, _, sWithin _ _ _, ?_⟩; try simp only [kO_1 h, kN h, bO0 h nowB_is, true_and, and_true, zO_wI, mR_wI, mL_wI, one_ne, if_true, if_false, bR0_2 h nowB_is, bO2 h nowB_is, hb])
    | (refine ⟨_, sWithin _ _ _, ?_⟩; try simp only [kO_1 h, kN h, bO0 h nowB_is, true_and, and_true, zO_wI, mR_wI, mL_wI, one_ne, if_true, if_false, bR0_2 h nowB_is, bO2 h nowB_is, hb])
    | apply And.intro
    | split
    | (simp_all only [kO_1 h, kN h, bO0 h nowB_is, true_and, and_true, zO_wI, mR_wI, mL_wI, one_ne, if_true, if_false, bR0_2 h nowB_is, bO2 h nowB_is, hb]; done)
theorem mCommon_bad {X : List Int32} {d : Nat} {M : Mm} (h : Sk M) (v : Int32) (hb : zwt v 0 255 = 0) : zca X zML (d + 2) 27 [.ref 150, .int v] M (some (.int (-1000000001))) M := by
  refine iX12_common ⟨rfl, Nat.le_of_ble_eq_true rfl⟩ (zgo_in 200 ?_)
  dsimp only [zen, zrep, zw, zLo, zSe, zi1, zi2, zl2, zr1, zj, zsw, zpop, zkd, zLn, zc1, Nat.reduceSub, pX12_common]
  try simp only [kO_150 h, kR_150_0 h, kO_151 h, kL_151 h, true_and, and_true, zO_wI, mR_wI, mL_wI, one_ne, if_true, if_false, cN_0, bN_0, cN_1, bN_1, cN_2, bN_2, cN_3, bN_3, cN_4, bN_4, cN_5, bN_5, cN_6, bN_6, cN_7, bN_7, cN_8, bN_8, cN_9, bN_9, hb]
  repeat' first
    | exact trivial
    | exact rfl
    | assumption
    | exact ⟨Nat.le_of_ble_eq_true rfl, Nat.le_of_ble_eq_true rfl, Nat.le_of_ble_eq_true rfl⟩
    | exact zwt01 _ _ _
    | decide
    | (refine ⟨_, _, sIsIn _ _ _, ?_⟩; try simp only [kO_150 h, kR_150_0 h, kO_151 h, kL_151 h, true_and, and_true, zO_wI, mR_wI, mL_wI, one_ne, if_true, if_false, cN_0, bN_0, cN_1, bN_1, cN_2, bN_2, cN_3, bN_3, cN_4, bN_4, cN_5, bN_5, cN_6, bN_6, cN_7, bN_7, cN_8, bN_8, cN_9, bN_9, hb])
    | (refine ⟨_, sIsIn _ _ _, ?_⟩; try simp only [kO_150 h, kR_150_0 h, kO_151 h, kL_151 h, true_and, and_true, zO_wI, mR_wI, mL_wI, one_ne, if_true, if_false, cN_0, bN_0, cN_1, bN_1, cN_2, bN_2, cN_3, bN_3, cN_4, bN_4, cN_5, bN_5, cN_6, bN_6, cN_7, bN_7, cN_8, bN_8, cN_9, bN_9, hb])
    | apply And.intro
    | split
    | (simp_all only [kO_150 h, kR_150_0 h, kO_151 h, kL_151 h, true_and, and_true, zO_wI, mR_wI, mL_wI, one_ne, if_true, if_false, cN_0, bN_0, cN_1, bN_1, cN_2, bN_2, cN_3, bN_3, cN_4, bN_4, cN_5, bN_5, cN_6, bN_6, cN_7, bN_7, cN_8, bN_8, cN_9, bN_9, hb]; done)
theorem mCommon_ok {X : List Int32} {d : Nat} {M : Mm} (h : Sk M) (v : Int32) (hb : zwt v 0 255 = 1) : zca X zML (d + 2) 27 [.ref 150, .int v] M (some (.int (mI M 151 5))) (wI M 151 5 v) := by
  refine iX12_common ⟨rfl, Nat.le_of_ble_eq_true rfl⟩ (zgo_in 200 ?_)
  dsimp only [zen, zrep, zw, zLo, zSe, zi1, zi2, zl2, zr1, zj, zsw, zpop, zkd, zLn, zc1, Nat.reduceSub, pX12_common]
  try simp only [kO_150 h, kR_150_0 h, kO_151 h, kL_151 h, true_and, and_true, zO_wI, mR_wI, mL_wI, one_ne, if_true, if_false, cN_0, bN_0, cN_1, bN_1, cN_2, bN_2, cN_3, bN_3, cN_4, bN_4, cN_5, bN_5, cN_6, bN_6, cN_7, bN_7, cN_8, bN_8, cN_9, bN_9, hb]
  repeat' first
    | exact trivial
    | exact rfl
    | assumption
    | exact ⟨Nat.le_of_ble_eq_true rfl, Nat.le_of_ble_eq_true rfl, Nat.le_of_ble_eq_true rfl⟩
    | exact zwt01 _ _ _
    | decide
    | (refine ⟨_, _, sIsIn _ _ _, ?_⟩; try simp only [kO_150 h, kR_150_0 h, kO_151 h, kL_151 h, true_and, and_true, zO_wI, mR_wI, mL_wI, one_ne, if_true, if_false, cN_0, bN_0, cN_1, bN_1, cN_2, bN_2, cN_3, bN_3, cN_4, bN_4, cN_5, bN_5, cN_6, bN_6, cN_7, bN_7, cN_8, bN_8, cN_9, bN_9, hb])
    | (refine ⟨_, sIsIn _ _ _, ?_⟩; try simp only [kO_150 h, kR_150_0 h, kO_151 h, kL_151 h, true_and, and_true, zO_wI, mR_wI, mL_wI, one_ne, if_true, if_false, cN_0, bN_0, cN_1, bN_1, cN_2, bN_2, cN_3, bN_3, cN_4, bN_4, cN_5, bN_5, cN_6, bN_6, cN_7, bN_7, cN_8, bN_8, cN_9, bN_9, hb])
    | (refine ⟨_, _, mBecomes h (k := 5) (by omega) v, ?_⟩; try simp only [kO_150 h, kR_150_0 h, kO_151 h, kL_151 h, true_and, and_true, zO_wI, mR_wI, mL_wI, one_ne, if_true, if_false, cN_0, bN_0, cN_1, bN_1, cN_2, bN_2, cN_3, bN_3, cN_4, bN_4, cN_5, bN_5, cN_6, bN_6, cN_7, bN_7, cN_8, bN_8, cN_9, bN_9, hb])
    | (refine ⟨_, mBecomes h (k := 5) (by omega) v, ?_⟩; try simp only [kO_150 h, kR_150_0 h, kO_151 h, kL_151 h, true_and, and_true, zO_wI, mR_wI, mL_wI, one_ne, if_true, if_false, cN_0, bN_0, cN_1, bN_1, cN_2, bN_2, cN_3, bN_3, cN_4, bN_4, cN_5, bN_5, cN_6, bN_6, cN_7, bN_7, cN_8, bN_8, cN_9, bN_9, hb])
    | apply And.intro
    | split
    | (simp_all only [kO_150 h, kR_150_0 h, kO_151 h, kL_151 h, true_and, and_true, zO_wI, mR_wI, mL_wI, one_ne, if_true, if_false, cN_0, bN_0, cN_1, bN_1, cN_2, bN_2, cN_3, bN_3, cN_4, bN_4, cN_5, bN_5, cN_6, bN_6, cN_7, bN_7, cN_8, bN_8, cN_9, bN_9, hb]; done)
/-- nothing changes, both refuse -/
theorem Opk.same {X : List Int32} {y z : Nat} {a : List Value} {M : Mm} {v w : Int32} (h : Rel M) (hx : zca X zML 300 y (.ref 1 :: a) M (some (.int v)) M) (hm : zca X zML 300 z (.ref 150 :: a) M (some (.int w)) M) (he : w = v) : Opk X y z a M := Opk.mk hx hm he h
theorem opCommon {X : List Int32} {M : Mm} (h : Rel M) (v : Int32) : Opk X 25 27 [.int v] M := by
  obtain ⟨nM, nP, nT, nK, nC, hS⟩ := h.2.1
  rcases zwt01 v 0 255 with hb | hb
  · exact Opk.same h (xCommon_bad (d := 298) h.1 v hb) (mCommon_bad (d := 298) h.1 v hb) rfl
  · refine Opk.mk (xCommon_ok (d := 298) h.1 v hb) (mCommon_ok (d := 298) (M := wI M (nowB + 2) 1 v) h.1 v hb) ?_ (Rel_op (nM := nM) (nP := nP) (nT := nT) (nK := nK) (nC := nC) h (fX_of (M1 := wI M (nowB + 2) 1 v) h.1 rfl (fun r hr j => mI_wIr (by unfold nowB; omega))) (fM_151 _ _ _) ?_)
    · rw [e151 (by decide)]; exact hS.1.2.2.2.1.1.symm
    · rw [mI_151, e151 (by decide)]
      exact up_com nowB_is hS v (zwt_c0 (n := 255) (by decide) hb)
