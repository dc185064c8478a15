/-! leaf methods of both sides -/
theorem sMax {X : List Int32} {d : Nat} {M : Mm} (x y : Int32) : zca X zML (d + 1) 19 [.int x, .int y] M (some (.int (if x < y then y else x))) M := by
  refine iJ9_max_7cf53 ⟨rfl, Nat.le_of_ble_eq_true rfl⟩ (zgo_in 200 ?_)
  dsimp only [zen, zrep, zw, zLo, zSe, zi1, zi2, zl2, zr1, zj, zsw, zpop, zkd, zLn, zc1, Nat.reduceSub, pJ9_max_7cf53]
  split <;> exact ⟨trivial, rfl, rfl⟩
theorem sMin {X : List Int32} {d : Nat} {M : Mm} (x y : Int32) : zca X zML (d + 1) 94 [.int x, .int y] M (some (.int (if y < x then y else x))) M := by
  refine iJ9_min_7cf53 ⟨rfl, Nat.le_of_ble_eq_true rfl⟩ (zgo_in 200 ?_)
  dsimp only [zen, zrep, zw, zLo, zSe, zi1, zi2, zl2, zr1, zj, zsw, zpop, zkd, zLn, zc1, Nat.reduceSub, pJ9_min_7cf53]
  split <;> exact ⟨trivial, rfl, rfl⟩
/-- Integer.bitCount, as its code has it -/
def zbc (x : Int32) : Int32 :=
  let a := x - ((x.toUInt32 >>> (Int32.toUInt32 1 &&& Int32.toUInt32 31)).toInt32 &&& 1431655765)
  let b := (a &&& 858993459) + ((a.toUInt32 >>> (Int32.toUInt32 2 &&& Int32.toUInt32 31)).toInt32 &&& 858993459)
  let c := b + (b.toUInt32 >>> (Int32.toUInt32 4 &&& Int32.toUInt32 31)).toInt32 &&& 252645135
  let e := c + (c.toUInt32 >>> (Int32.toUInt32 8 &&& Int32.toUInt32 31)).toInt32
  let f := e + (e.toUInt32 >>> (Int32.toUInt32 16 &&& Int32.toUInt32 31)).toInt32
  f &&& 63
theorem sBc {X : List Int32} {d : Nat} {M : Mm} (x : Int32) : zca X zML (d + 1) 46 [.int x] M (some (.int (zbc x))) M := by
  refine iJ6_bitCount_0f7a4 ⟨rfl, Nat.le_of_ble_eq_true rfl⟩ (zgo_in 200 ?_)
  dsimp only [zen, zrep, zw, zLo, zSe, zi1, zi2, zl2, zr1, zj, zsw, zpop, zkd, zLn, zc1, Nat.reduceSub, pJ6_bitCount_0f7a4]
  exact ⟨trivial, rfl, rfl⟩
def zwt (v lo hi : Int32) : Int32 := if v < lo then 0 else if hi < v then 0 else 1
theorem z64lt (x y : Int32) : x.toInt64 < y.toInt64 ↔ x < y := by
  rw [Int64.lt_iff_toInt_lt, Int32.lt_iff_toInt_lt, Int32.toInt_toInt64, Int32.toInt_toInt64]
theorem zcmp_lt (x y : Int32) : lg_cmp x.toInt64 y.toInt64 < 0 ↔ x < y := by rw [lg_cmp_lt, z64lt]
theorem zcmp_gt (x y : Int32) : 0 < lg_cmp x.toInt64 y.toInt64 ↔ y < x := by rw [lg_cmp_gt, z64lt]
theorem sWithin {X : List Int32} {d : Nat} {M : Mm} (v lo hi : Int32) : zca X zML (d + 1) 12 [.int v, .int lo, .int hi] M (some (.int (zwt v lo hi))) M := by
  refine iX11_within ⟨rfl, Nat.le_of_ble_eq_true rfl⟩ (zgo_in 200 ?_)
  dsimp only [zen, zrep, zw, zLo, zSe, zi1, zi2, zl2, zr1, zj, zsw, zpop, zkd, zLn, zc1, Nat.reduceSub, pX11_within]
  unfold zwt
  repeat' first
    | assumption
    | exact trivial
    | exact rfl
    | exact ⟨Nat.le_of_ble_eq_true rfl, Nat.le_of_ble_eq_true rfl, Nat.le_of_ble_eq_true rfl⟩
    | decide
    | apply And.intro
    | (simp only [*, if_true, if_false]; done)
    | split
    | (simp_all; done)
theorem sIsIn {X : List Int32} {d : Nat} {M : Mm} (v lo hi : Int32) : zca X zML (d + 1) 15 [.long v.toInt64, .long lo.toInt64, .long hi.toInt64] M (some (.int (zwt v lo hi))) M := by
  refine iX12_isIn ⟨rfl, Nat.le_of_ble_eq_true rfl⟩ (zgo_in 200 ?_)
  dsimp only [zen, zrep, zw, zLo, zSe, zi1, zi2, zl2, zr1, zj, zsw, zpop, zkd, zLn, zc1, Nat.reduceSub, pX12_isIn]
  simp only [zcmp_lt, zcmp_gt]
  unfold zwt
  repeat' first
    | assumption
    | exact trivial
    | exact rfl
    | exact ⟨Nat.le_of_ble_eq_true rfl, Nat.le_of_ble_eq_true rfl, Nat.le_of_ble_eq_true rfl⟩
    | decide
    | apply And.intro
    | (simp only [*, if_true, if_false]; done)
    | split
    | (simp_all; done)
theorem sOrNone {X : List Int32} {d : Nat} {M : Mm} (v : Int32) : zca X zML (d + 1) 70 [.int v] M (some (.int (if 0 ≤ v then v else -1000000005))) M := by
  refine iX12_orNone ⟨rfl, Nat.le_of_ble_eq_true rfl⟩ (zgo_in 200 ?_)
  dsimp only [zen, zrep, zw, zLo, zSe, zi1, zi2, zl2, zr1, zj, zsw, zpop, zkd, zLn, zc1, Nat.reduceSub, pX12_orNone]
  repeat' first
    | assumption
    | exact trivial
    | exact rfl
    | exact ⟨Nat.le_of_ble_eq_true rfl, Nat.le_of_ble_eq_true rfl, Nat.le_of_ble_eq_true rfl⟩
    | decide
    | apply And.intro
    | (simp only [*, if_true, if_false]; done)
    | split
    | (simp_all; done)
theorem sAskedOn {X : List Int32} {d : Nat} {M : Mm} {r : Nat} (hO : zO M r 2) (day : Int32) : zca X zML (d + 2) 20 [.ref r, .int day] M (some (.int (if 1 < mI M r 0 - mI M r 1 * day then mI M r 0 - mI M r 1 * day else 1))) M := by
  refine iX2_askedOn ⟨rfl, Nat.le_of_ble_eq_true rfl⟩ (zgo_in 200 ?_)
  dsimp only [zen, zrep, zw, zLo, zSe, zi1, zi2, zl2, zr1, zj, zsw, zpop, zkd, zLn, zc1, Nat.reduceSub, pX2_askedOn]
  repeat' first
    | assumption
    | exact trivial
    | exact rfl
    | exact ⟨Nat.le_of_ble_eq_true rfl, Nat.le_of_ble_eq_true rfl, Nat.le_of_ble_eq_true rfl⟩
    | decide
    | refine ⟨_, _, sMax _ _, ?_⟩
    | refine ⟨_, sMax _ _, ?_⟩
    | apply And.intro
    | (simp only [*, if_true, if_false]; done)
    | split
    | (simp_all; done)
theorem sCell {X : List Int32} {d : Nat} {M : Mm} {r : Nat} (hO : zO M r 8) (m s : Int32) : zca X zML (d + 1) 29 [.ref r, .int m, .int s] M (some (.int (if mI M r 1 >>> (s &&& 31) &&& 1 = 1 then s else m * 8 + s))) M := by
  refine iX8_cell ⟨rfl, Nat.le_of_ble_eq_true rfl⟩ (zgo_in 200 ?_)
  dsimp only [zen, zrep, zw, zLo, zSe, zi1, zi2, zl2, zr1, zj, zsw, zpop, zkd, zLn, zc1, Nat.reduceSub, pX8_cell]
  repeat' first
    | assumption
    | exact trivial
    | exact rfl
    | exact ⟨Nat.le_of_ble_eq_true rfl, Nat.le_of_ble_eq_true rfl, Nat.le_of_ble_eq_true rfl⟩
    | decide
    | apply And.intro
    | (simp only [*, if_true, if_false]; done)
    | split
    | (simp_all; done)
theorem sLacks {X : List Int32} {d : Nat} {M : Mm} {r : Nat} (hO : zO M r 3) : zca X zML (d + 1) 45 [.ref r] M (some (.int (255 &&& (mI M r 3 ^^^ (-1))))) M := by
  refine iX3_lacks ⟨rfl, Nat.le_of_ble_eq_true rfl⟩ (zgo_in 200 ?_)
  dsimp only [zen, zrep, zw, zLo, zSe, zi1, zi2, zl2, zr1, zj, zsw, zpop, zkd, zLn, zc1, Nat.reduceSub, pX3_lacks]
  repeat' first
    | assumption
    | exact trivial
    | exact rfl
    | exact ⟨Nat.le_of_ble_eq_true rfl, Nat.le_of_ble_eq_true rfl, Nat.le_of_ble_eq_true rfl⟩
    | decide
    | apply And.intro
    | (simp only [*, if_true, if_false]; done)
    | split
    | (simp_all; done)
theorem sDroppedHarm {X : List Int32} {d : Nat} {M : Mm} {r : Nat} (hO : zO M r 3) : zca X zML (d + 2) 47 [.ref r] M (some (.int (5 + 2 * zbc (255 &&& (mI M r 3 ^^^ (-1)))))) M := by
  refine iX3_droppedHarm ⟨rfl, Nat.le_of_ble_eq_true rfl⟩ (zgo_in 200 ?_)
  dsimp only [zen, zrep, zw, zLo, zSe, zi1, zi2, zl2, zr1, zj, zsw, zpop, zkd, zLn, zc1, Nat.reduceSub, pX3_droppedHarm]
  repeat' first
    | assumption
    | exact trivial
    | exact rfl
    | exact ⟨Nat.le_of_ble_eq_true rfl, Nat.le_of_ble_eq_true rfl, Nat.le_of_ble_eq_true rfl⟩
    | decide
    | refine ⟨_, _, sLacks hO, ?_⟩
    | refine ⟨_, sLacks hO, ?_⟩
    | refine ⟨_, _, sBc _, ?_⟩
    | refine ⟨_, sBc _, ?_⟩
    | apply And.intro
    | (simp only [*, if_true, if_false]; done)
    | split
    | (simp_all; done)
def zHm (kind good cycles : Int32) : Int32 := if kind = 1 then 5 + 2 * zbc (255 &&& (good ^^^ (-1))) else if kind = 2 then 10 else if kind = 3 then 10 + cycles / 100 else if kind = 4 then 5 + 2 * zbc (255 &&& (good ^^^ (-1))) + 9 else if kind = 5 then 99 else 5
def zPl (cycles : Int32) : Int32 := if 0 < 100 - cycles / 10 then 100 - cycles / 10 else 0
def zSp (kind cycles : Int32) : Int32 := if kind = 2 then zPl cycles / 2 else if kind = 3 then (if 0 < zPl cycles / 2 - 5 then zPl cycles / 2 - 5 else 0) else zPl cycles
def zFr (kind : Int32) : Int32 := if kind = 1 then 90 else if kind = 2 then 80 else if kind = 3 then 40 else if kind = 4 then 80 else if kind = 5 then 0 else 100
theorem sHarm {X : List Int32} {d : Nat} {M : Mm} {r : Nat} (hO : zO M r 3) : zca X zML (d + 3) 48 [.ref r] M (some (.int (zHm (mI M r 0) (mI M r 3) (mI M r 2)))) M := by
  refine iX3_harm ⟨rfl, Nat.le_of_ble_eq_true rfl⟩ (zgo_in 200 ?_)
  dsimp only [zen, zrep, zw, zLo, zSe, zi1, zi2, zl2, zr1, zj, zsw, zpop, zkd, zLn, zc1, Nat.reduceSub, pX3_harm]
  unfold zHm
  repeat' first
    | assumption
    | exact trivial
    | exact rfl
    | exact ⟨Nat.le_of_ble_eq_true rfl, Nat.le_of_ble_eq_true rfl, Nat.le_of_ble_eq_true rfl⟩
    | decide
    | refine ⟨_, _, sDroppedHarm hO, ?_⟩
    | refine ⟨_, sDroppedHarm hO, ?_⟩
    | apply And.intro
    | (simp only [*, if_true, if_false]; done)
    | split
    | (simp_all; done)
theorem sSpan {X : List Int32} {d : Nat} {M : Mm} {r : Nat} (hO : zO M r 3) : zca X zML (d + 2) 49 [.ref r] M (some (.int (zSp (mI M r 0) (mI M r 2)))) M := by
  refine iX3_span ⟨rfl, Nat.le_of_ble_eq_true rfl⟩ (zgo_in 200 ?_)
  dsimp only [zen, zrep, zw, zLo, zSe, zi1, zi2, zl2, zr1, zj, zsw, zpop, zkd, zLn, zc1, Nat.reduceSub, pX3_span]
  unfold zSp
  change _ ∧ _ ∧ _ ∧ _
  refine ⟨hO, by decide, ⟨Nat.le_of_ble_eq_true rfl, Nat.le_of_ble_eq_true rfl, Nat.le_of_ble_eq_true rfl⟩, zPl (mI M r 2), M, sMax _ _, ?_⟩
  repeat' first
    | assumption
    | exact trivial
    | exact rfl
    | exact ⟨Nat.le_of_ble_eq_true rfl, Nat.le_of_ble_eq_true rfl, Nat.le_of_ble_eq_true rfl⟩
    | decide
    | refine ⟨_, _, sMax _ _, ?_⟩
    | refine ⟨_, sMax _ _, ?_⟩
    | apply And.intro
    | (simp only [*, if_true, if_false]; done)
    | split
    | (simp_all; done)
theorem sFresh {X : List Int32} {d : Nat} {M : Mm} {r : Nat} (hO : zO M r 3) : zca X zML (d + 1) 50 [.ref r] M (some (.int (zFr (mI M r 0)))) M := by
  refine iX3_fresh ⟨rfl, Nat.le_of_ble_eq_true rfl⟩ (zgo_in 200 ?_)
  dsimp only [zen, zrep, zw, zLo, zSe, zi1, zi2, zl2, zr1, zj, zsw, zpop, zkd, zLn, zc1, Nat.reduceSub, pX3_fresh]
  unfold zFr
  repeat' first
    | assumption
    | exact trivial
    | exact rfl
    | exact ⟨Nat.le_of_ble_eq_true rfl, Nat.le_of_ble_eq_true rfl, Nat.le_of_ble_eq_true rfl⟩
    | decide
    | apply And.intro
    | (simp only [*, if_true, if_false]; done)
    | split
    | (simp_all; done)
theorem sInM {X : List Int32} {d : Nat} {M : Mm} {r : Nat} (hO : zO M r 3) : zca X zML (d + 1) 108 [.ref r] M (some (.int (if mI M r 5 = 0 then 1 else if mI M r 5 = 1 then 1 else 0))) M := by
  refine iX3_isInOrMended ⟨rfl, Nat.le_of_ble_eq_true rfl⟩ (zgo_in 200 ?_)
  dsimp only [zen, zrep, zw, zLo, zSe, zi1, zi2, zl2, zr1, zj, zsw, zpop, zkd, zLn, zc1, Nat.reduceSub, pX3_isInOrMended]
  repeat' first
    | assumption
    | exact trivial
    | exact rfl
    | exact ⟨Nat.le_of_ble_eq_true rfl, Nat.le_of_ble_eq_true rfl, Nat.le_of_ble_eq_true rfl⟩
    | decide
    | apply And.intro
    | (simp only [*, if_true, if_false]; done)
    | split
    | (simp_all; done)
theorem mModelAt {X : List Int32} {d : Nat} {M : Mm} (m : Int32) : zca X zML (d + 1) 16 [.ref 150, .int m] M (some (.int (40 + 3 * m))) M := by
  refine iX12_modelAt ⟨rfl, Nat.le_of_ble_eq_true rfl⟩ (zgo_in 200 ?_)
  dsimp only [zen, zrep, zw, zLo, zSe, zi1, zi2, zl2, zr1, zj, zsw, zpop, zkd, zLn, zc1, Nat.reduceSub, pX12_modelAt]
  exact ⟨trivial, rfl, rfl⟩
theorem mPhoneAt {X : List Int32} {d : Nat} {M : Mm} (m : Int32) : zca X zML (d + 1) 42 [.ref 150, .int m] M (some (.int (110 + 14 * m))) M := by
  refine iX12_phoneAt ⟨rfl, Nat.le_of_ble_eq_true rfl⟩ (zgo_in 200 ?_)
  dsimp only [zen, zrep, zw, zLo, zSe, zi1, zi2, zl2, zr1, zj, zsw, zpop, zkd, zLn, zc1, Nat.reduceSub, pX12_phoneAt]
  exact ⟨trivial, rfl, rfl⟩
theorem mTextAt {X : List Int32} {d : Nat} {M : Mm} (m : Int32) : zca X zML (d + 1) 71 [.ref 150, .int m] M (some (.int (340 + 200 * m))) M := by
  refine iX12_textAt ⟨rfl, Nat.le_of_ble_eq_true rfl⟩ (zgo_in 200 ?_)
  dsimp only [zen, zrep, zw, zLo, zSe, zi1, zi2, zl2, zr1, zj, zsw, zpop, zkd, zLn, zc1, Nat.reduceSub, pX12_textAt]
  exact ⟨trivial, rfl, rfl⟩
theorem mBecomes {X : List Int32} {d : Nat} {M : Mm} (h : Sk M) {k : Nat} (hk : k < 3332) (v : Int32) : zca X zML (d + 1) 26 [.ref 150, .int (nI k), .int v] M (some (.int (mI M 151 k))) (wI M 151 k v) := by
  refine iX12_becomes ⟨rfl, Nat.le_of_ble_eq_true rfl⟩ (zgo_in 200 ?_)
  dsimp only [zen, zrep, zw, zLo, zSe, zi1, zi2, zl2, zr1, zj, zsw, zpop, zkd, zLn, zc1, Nat.reduceSub, pX12_becomes]
  simp only [kO_150 h, kR_150_0 h, kO_151 h, kL_151 h, true_and, and_true, zO_wI, mR_wI, mL_wI, vp_in_nI hk (Nat.le_of_ble_eq_true rfl : 3332 < 2 ^ 31), nI_clamp (Nat.lt_trans hk (Nat.le_of_ble_eq_true rfl : 3332 < 2 ^ 31))]
/-- the reference's ones -/
def zon8 (b : Int32) : Int32 := 0 + (b >>> ((0 : Int32) &&& 31) &&& 1) + (b >>> ((1 : Int32) &&& 31) &&& 1) + (b >>> ((2 : Int32) &&& 31) &&& 1) + (b >>> ((3 : Int32) &&& 31) &&& 1) + (b >>> ((4 : Int32) &&& 31) &&& 1) + (b >>> ((5 : Int32) &&& 31) &&& 1) + (b >>> ((6 : Int32) &&& 31) &&& 1) + (b >>> ((7 : Int32) &&& 31) &&& 1)
theorem mOnes {X : List Int32} {d : Nat} {M : Mm} (b : Int32) : zca X zML (d + 1) 63 [.int b] M (some (.int (zon8 b))) M := by
  refine iX12_ones ⟨rfl, Nat.le_of_ble_eq_true rfl⟩ (zgo_in 200 ?_)
  dsimp only [zen, zrep, zw, zLo, zSe, zi1, zi2, zl2, zr1, zj, zsw, zpop, zkd, zLn, zc1, Nat.reduceSub, pX12_ones]
  refine zgo_in 40 ?_
  dsimp only [zen, zrep, zw, zLo, zSe, zi1, zi2, zl2, zr1, zj, zsw, zpop, zkd, zLn, zc1, Nat.reduceSub]
  rw [if_neg (by decide)]
  refine zgo_in 40 ?_
  dsimp only [zen, zrep, zw, zLo, zSe, zi1, zi2, zl2, zr1, zj, zsw, zpop, zkd, zLn, zc1, Nat.reduceSub]
  rw [if_neg (by decide)]
  refine zgo_in 40 ?_
  dsimp only [zen, zrep, zw, zLo, zSe, zi1, zi2, zl2, zr1, zj, zsw, zpop, zkd, zLn, zc1, Nat.reduceSub]
  rw [if_neg (by decide)]
  refine zgo_in 40 ?_
  dsimp only [zen, zrep, zw, zLo, zSe, zi1, zi2, zl2, zr1, zj, zsw, zpop, zkd, zLn, zc1, Nat.reduceSub]
  rw [if_neg (by decide)]
  refine zgo_in 40 ?_
  dsimp only [zen, zrep, zw, zLo, zSe, zi1, zi2, zl2, zr1, zj, zsw, zpop, zkd, zLn, zc1, Nat.reduceSub]
  rw [if_neg (by decide)]
  refine zgo_in 40 ?_
  dsimp only [zen, zrep, zw, zLo, zSe, zi1, zi2, zl2, zr1, zj, zsw, zpop, zkd, zLn, zc1, Nat.reduceSub]
  rw [if_neg (by decide)]
  refine zgo_in 40 ?_
  dsimp only [zen, zrep, zw, zLo, zSe, zi1, zi2, zl2, zr1, zj, zsw, zpop, zkd, zLn, zc1, Nat.reduceSub]
  rw [if_neg (by decide)]
  refine zgo_in 40 ?_
  dsimp only [zen, zrep, zw, zLo, zSe, zi1, zi2, zl2, zr1, zj, zsw, zpop, zkd, zLn, zc1, Nat.reduceSub]
  rw [if_neg (by decide)]
  refine zgo_in 40 ?_
  dsimp only [zen, zrep, zw, zLo, zSe, zi1, zi2, zl2, zr1, zj, zsw, zpop, zkd, zLn, zc1, Nat.reduceSub]
  rw [if_pos (by decide)]
  exact ⟨trivial, rfl, rfl⟩
theorem mHarmOf {X : List Int32} {d : Nat} {M : Mm} (kind good cycles : Int32) : zca X zML (d + 2) 64 [.int kind, .int good, .int cycles] M (some (.int (if kind = 1 then 5 + 2 * (8 - zon8 good) else if kind = 2 then 10 else if kind = 3 then 10 + cycles / 100 else if kind = 4 then 14 + 2 * (8 - zon8 good) else if kind = 5 then 99 else 5))) M := by
  refine iX12_harmOf ⟨rfl, Nat.le_of_ble_eq_true rfl⟩ (zgo_in 200 ?_)
  dsimp only [zen, zrep, zw, zLo, zSe, zi1, zi2, zl2, zr1, zj, zsw, zpop, zkd, zLn, zc1, Nat.reduceSub, pX12_harmOf]
  repeat' first
    | assumption
    | exact trivial
    | exact rfl
    | exact ⟨Nat.le_of_ble_eq_true rfl, Nat.le_of_ble_eq_true rfl, Nat.le_of_ble_eq_true rfl⟩
    | decide
    | refine ⟨_, _, mOnes _, ?_⟩
    | refine ⟨_, mOnes _, ?_⟩
    | apply And.intro
    | (simp only [*, if_true, if_false]; done)
    | split
    | (simp_all; done)
theorem mFreshOf {X : List Int32} {d : Nat} {M : Mm} (kind : Int32) : zca X zML (d + 1) 67 [.int kind] M (some (.int (zFr kind))) M := by
  refine iX12_freshOf ⟨rfl, Nat.le_of_ble_eq_true rfl⟩ (zgo_in 200 ?_)
  dsimp only [zen, zrep, zw, zLo, zSe, zi1, zi2, zl2, zr1, zj, zsw, zpop, zkd, zLn, zc1, Nat.reduceSub, pX12_freshOf]
  unfold zFr
  repeat' first
    | assumption
    | exact trivial
    | exact rfl
    | exact ⟨Nat.le_of_ble_eq_true rfl, Nat.le_of_ble_eq_true rfl, Nat.le_of_ble_eq_true rfl⟩
    | decide
    | apply And.intro
    | (simp only [*, if_true, if_false]; done)
    | split
    | (simp_all; done)
