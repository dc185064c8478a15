/-! phone -/
def zcome (k m c g : Int32) (f : Nat → Int32) : Nat → Int32 := upd (upd (upd (upd (upd (upd (upd (upd (upd (upd (upd f 0 k) 1 m) 2 c) 3 g) 4 0) 5 0) 6 0) 7 0) 8 999) 9 NNN) 10 0
def z14 (s : Nat → Int32) (o n : Nat) : Nat → Int32 := fun j => if o ≤ j ∧ j < o + n then 0 else s j
theorem z14_0 (s : Nat → Int32) (o : Nat) : z14 s o 0 = s := by
  funext j
  exact if_neg (by omega)
theorem z14_s (s : Nat → Int32) (o n : Nat) : upd (z14 s o n) (o + n) 0 = z14 s o (n + 1) := by
  funext j
  unfold upd z14
  by_cases e : j = o + n
  · rw [if_pos e, if_pos (by omega)]
  · rw [if_neg e]
    by_cases q : o ≤ j ∧ j < o + n
    · rw [if_pos q, if_pos (by omega)]
    · rw [if_neg q, if_neg (by omega)]
theorem sComeIn {X : List Int32} {d : Nat} {M : Mm} {r : Nat} (hO : zO M r 3) (k m c g : Int32) : zca X zML (d + 1) 39 [.ref r, .int k, .int m, .int c, .int g] M none (wW M r (zcome k m c g (mI M r))) := by
  refine iX3_comeIn ⟨rfl, Nat.le_of_ble_eq_true rfl⟩ (zgo_in 200 ?_)
  dsimp only [zen, zrep, zw, zLo, zSe, zi1, zi2, zl2, zr1, zj, zsw, zpop, zkd, zLn, zc1, Nat.reduceSub, pX3_comeIn]
  simp only [zO_wI, true_and, and_true, eq_true hO]
  repeat' first
    | exact trivial
    | exact rfl
    | exact hO
    | exact Or.inl rfl
    | exact Or.inr rfl
    | decide
    | apply And.intro
    | (simp only [wI_wW, wW_wW, mI_wWs]; rfl)
theorem sAddPhone {X : List Int32} {d : Nat} {M : Mm} {B n : Nat} (h : Sk M) (hB : isB B) (hn : n < 16) (e1 : mI M B 4 = nI n) (k m c g : Int32) : zca X zML (d + 2) 40 [.ref B, .int k, .int m, .int c, .int g] M (some (.int (nI n))) (wI (wW M (B + 19 + n) (zcome k m c g (mI M (B + 19 + n)))) B 4 (nI (n + 1))) := by
  have r1 : ∀ (f : Nat → Int32), mI (wW M (B + 19 + n) f) B 4 = mI M B 4 := fun f => mI_wWr (by omega)
  have hv : vp_in (nI n) 16 = True := vN hn (by decide)
  have hc : (nI n).toNatClampNeg = n := cI (by omega)
  refine iX6_addPhone ⟨rfl, Nat.le_of_ble_eq_true rfl⟩ (zgo_in 200 ?_)
  dsimp only [zen, zrep, zw, zLo, zSe, zi1, zi2, zl2, zr1, zj, zsw, zpop, zkd, zLn, zc1, Nat.reduceSub, pX6_addPhone]
  try simp only [bO0 h hB, bR0_3 h hB, bA4 h hB, bL4 h hB, bV4 h hB hn, bW4 h hB hn, e1, r1, hv, hc, zO_wI, zA_wI, mR_wI, mL_wI, zO_wW, zA_wW, mR_wW, mL_wW, nI_1, mI_wIs, nI_pred, true_and, and_true]
  repeat' first
    | exact trivial
    | exact rfl
    | assumption
    | exact ⟨Nat.le_of_ble_eq_true rfl, Nat.le_of_ble_eq_true rfl, Nat.le_of_ble_eq_true rfl⟩
    | exact zwt01 _ _ _
    | decide
    | (refine ⟨_, _, sComeIn (of_eq_true (bW4 h hB hn)) k m c g, ?_⟩; try simp only [bO0 h hB, bR0_3 h hB, bA4 h hB, bL4 h hB, bV4 h hB hn, bW4 h hB hn, e1, r1, hv, hc, zO_wI, zA_wI, mR_wI, mL_wI, zO_wW, zA_wW, mR_wW, mL_wW, nI_1, mI_wIs, nI_pred, true_and, and_true])
    | (refine ⟨_, sComeIn (of_eq_true (bW4 h hB hn)) k m c g, ?_⟩; try simp only [bO0 h hB, bR0_3 h hB, bA4 h hB, bL4 h hB, bV4 h hB hn, bW4 h hB hn, e1, r1, hv, hc, zO_wI, zA_wI, mR_wI, mL_wI, zO_wW, zA_wW, mR_wW, mL_wW, nI_1, mI_wIs, nI_pred, true_and, and_true])
    | apply And.intro
    | split
    | (simp_all only [bO0 h hB, bR0_3 h hB, bA4 h hB, bL4 h hB, bV4 h hB hn, bW4 h hB hn, e1, r1, hv, hc, zO_wI, zA_wI, mR_wI, mL_wI, zO_wW, zA_wW, mR_wW, mL_wW, nI_1, mI_wIs, nI_pred, true_and, and_true]; done)
theorem xPhone_bad {X : List Int32} {d : Nat} {M : Mm} (h : Sk M) (k o c : Int32) (hb : zwt k 0 5 = 0 ∨ o < 0 ∨ zwt (o / 1000) 0 (mI M nowB 1 - 1) = 0 ∨ zwt c 0 255 = 0) : zca X zML (d + 3) 41 [.ref 1, .int k, .int o, .int c] M (some (.int (-1000000001))) M := by
  refine iX11_phone ⟨rfl, Nat.le_of_ble_eq_true rfl⟩ (zgo_in 200 ?_)
  dsimp only [zen, zrep, zw, zLo, zSe, zi1, zi2, zl2, zr1, zj, zsw, zpop, zkd, zLn, zc1, Nat.reduceSub, pX11_phone]
  rcases zwt01 k 0 5 with q0 | q0
  · try simp only [kO_1 h, kN h, bO0 h nowB_is, true_and, and_true, zO_wI, mR_wI, mL_wI, one_ne, if_true, if_false, q0]
    repeat' first
      | exact trivial
      | exact rfl
      | assumption
      | exact ⟨Nat.le_of_ble_eq_true rfl, Nat.le_of_ble_eq_true rfl, Nat.le_of_ble_eq_true rfl⟩
      | exact zwt01 _ _ _
      | decide
      | (refine ⟨_, _, xIsKind _, ?_⟩; try simp only [kO_1 h, kN h, bO0 h nowB_is, true_and, and_true, zO_wI, mR_wI, mL_wI, one_ne, if_true, if_false, q0])
      | (refine ⟨_, xIsKind _, ?_⟩; try simp only [kO_1 h, kN h, bO0 h nowB_is, true_and, and_true, zO_wI, mR_wI, mL_wI, one_ne, if_true, if_false, q0])
      | (refine ⟨_, _, xIsModel h _, ?_⟩; try simp only [kO_1 h, kN h, bO0 h nowB_is, true_and, and_true, zO_wI, mR_wI, mL_wI, one_ne, if_true, if_false, q0])
      | (refine ⟨_, xIsModel h _, ?_⟩; try simp only [kO_1 h, kN h, bO0 h nowB_is, true_and, and_true, zO_wI, mR_wI, mL_wI, one_ne, if_true, if_false, q0])
      | (refine ⟨_, _, sWithin _ _ _, ?_⟩; try simp only [kO_1 h, kN h, bO0 h nowB_is, true_and, and_true, zO_wI, mR_wI, mL_wI, one_ne, if_true, if_false, q0])
      | (refine ⟨_, sWithin _ _ _, ?_⟩; try simp only [kO_1 h, kN h, bO0 h nowB_is, true_and, and_true, zO_wI, mR_wI, mL_wI, one_ne, if_true, if_false, q0])
      | apply And.intro
      | split
      | (simp_all only [kO_1 h, kN h, bO0 h nowB_is, true_and, and_true, zO_wI, mR_wI, mL_wI, one_ne, if_true, if_false, q0]; done)
  · by_cases q1 : o < 0
    · try simp only [kO_1 h, kN h, bO0 h nowB_is, true_and, and_true, zO_wI, mR_wI, mL_wI, one_ne, if_true, if_false, q0, q1]
      repeat' first
        | exact trivial
        | exact rfl
        | assumption
        | exact ⟨Nat.le_of_ble_eq_true rfl, Nat.le_of_ble_eq_true rfl, Nat.le_of_ble_eq_true rfl⟩
        | exact zwt01 _ _ _
        | decide
        | (refine ⟨_, _, xIsKind _, ?_⟩; try simp only [kO_1 h, kN h, bO0 h nowB_is, true_and, and_true, zO_wI, mR_wI, mL_wI, one_ne, if_true, if_false, q0, q1])
        | (refine ⟨_, xIsKind _, ?_⟩; try simp only [kO_1 h, kN h, bO0 h nowB_is, true_and, and_true, zO_wI, mR_wI, mL_wI, one_ne, if_true, if_false, q0, q1])
        | (refine ⟨_, _, xIsModel h _, ?_⟩; try simp only [kO_1 h, kN h, bO0 h nowB_is, true_and, and_true, zO_wI, mR_wI, mL_wI, one_ne, if_true, if_false, q0, q1])
        | (refine ⟨_, xIsModel h _, ?_⟩; try simp only [kO_1 h, kN h, bO0 h nowB_is, true_and, and_true, zO_wI, mR_wI, mL_wI, one_ne, if_true, if_false, q0, q1])
        | (refine ⟨_, _, sWithin _ _ _, ?_⟩; try simp only [kO_1 h, kN h, bO0 h nowB_is, true_and, and_true, zO_wI, mR_wI, mL_wI, one_ne, if_true, if_false, q0, q1])
        | (refine ⟨_, sWithin _ _ _, ?_⟩; try simp only [kO_1 h, kN h, bO0 h nowB_is, true_and, and_true, zO_wI, mR_wI, mL_wI, one_ne, if_true, if_false, q0, q1])
        | apply And.intro
        | split
        | (simp_all only [kO_1 h, kN h, bO0 h nowB_is, true_and, and_true, zO_wI, mR_wI, mL_wI, one_ne, if_true, if_false, q0, q1]; done)
    · rcases zwt01 (o / 1000) 0 (mI M nowB 1 - 1) with q2 | q2
      · try simp only [kO_1 h, kN h, bO0 h nowB_is, true_and, and_true, zO_wI, mR_wI, mL_wI, one_ne, if_true, if_false, q0, q1, q2]
        repeat' first
          | exact trivial
          | exact rfl
          | assumption
          | exact ⟨Nat.le_of_ble_eq_true rfl, Nat.le_of_ble_eq_true rfl, Nat.le_of_ble_eq_true rfl⟩
          | exact zwt01 _ _ _
          | decide
          | (refine ⟨_, _, xIsKind _, ?_⟩; try simp only [kO_1 h, kN h, bO0 h nowB_is, true_and, and_true, zO_wI, mR_wI, mL_wI, one_ne, if_true, if_false, q0, q1, q2])
          | (refine ⟨_, xIsKind _, ?_⟩; try simp only [kO_1 h, kN h, bO0 h nowB_is, true_and, and_true, zO_wI, mR_wI, mL_wI, one_ne, if_true, if_false, q0, q1, q2])
          | (refine ⟨_, _, xIsModel h _, ?_⟩; try simp only [kO_1 h, kN h, bO0 h nowB_is, true_and, and_true, zO_wI, mR_wI, mL_wI, one_ne, if_true, if_false, q0, q1, q2])
          | (refine ⟨_, xIsModel h _, ?_⟩; try simp only [kO_1 h, kN h, bO0 h nowB_is, true_and, and_true, zO_wI, mR_wI, mL_wI, one_ne, if_true, if_false, q0, q1, q2])
          | (refine ⟨_, _, sWithin _ _ _, ?_⟩; try simp only [kO_1 h, kN h, bO0 h nowB_is, true_and, and_true, zO_wI, mR_wI, mL_wI, one_ne, if_true, if_false, q0, q1, q2])
          | (refine ⟨_, sWithin _ _ _, ?_⟩; try simp only [kO_1 h, kN h, bO0 h nowB_is, true_and, and_true, zO_wI, mR_wI, mL_wI, one_ne, if_true, if_false, q0, q1, q2])
          | apply And.intro
          | split
          | (simp_all only [kO_1 h, kN h, bO0 h nowB_is, true_and, and_true, zO_wI, mR_wI, mL_wI, one_ne, if_true, if_false, q0, q1, q2]; done)
      · have q3 : zwt c 0 255 = 0 := by
          rcases hb with hb | hb | hb | hb
          · rw [q0] at hb; cases hb
          · exact absurd hb q1
          · rw [q2] at hb; cases hb
          · exact hb
        try simp only [kO_1 h, kN h, bO0 h nowB_is, true_and, and_true, zO_wI, mR_wI, mL_wI, one_ne, if_true, if_false, q0, q1, q2, q3]
        repeat' first
          | exact trivial
          | exact rfl
          | assumption
          | exact ⟨Nat.le_of_ble_eq_true rfl, Nat.le_of_ble_eq_true rfl, Nat.le_of_ble_eq_true rfl⟩
          | exact zwt01 _ _ _
          | decide
          | (refine ⟨_, _, xIsKind _, ?_⟩; try simp only [kO_1 h, kN h, bO0 h nowB_is, true_and, and_true, zO_wI, mR_wI, mL_wI, one_ne, if_true, if_false, q0, q1, q2, q3])
          | (refine ⟨_, xIsKind _, ?_⟩; try simp only [kO_1 h, kN h, bO0 h nowB_is, true_and, and_true, zO_wI, mR_wI, mL_wI, one_ne, if_true, if_false, q0, q1, q2, q3])
          | (refine ⟨_, _, xIsModel h _, ?_⟩; try simp only [kO_1 h, kN h, bO0 h nowB_is, true_and, and_true, zO_wI, mR_wI, mL_wI, one_ne, if_true, if_false, q0, q1, q2, q3])
          | (refine ⟨_, xIsModel h _, ?_⟩; try simp only [kO_1 h, kN h, bO0 h nowB_is, true_and, and_true, zO_wI, mR_wI, mL_wI, one_ne, if_true, if_false, q0, q1, q2, q3])
          | (refine ⟨_, _, sWithin _ _ _, ?_⟩; try simp only [kO_1 h, kN h, bO0 h nowB_is, true_and, and_true, zO_wI, mR_wI, mL_wI, one_ne, if_true, if_false, q0, q1, q2, q3])
          | (refine ⟨_, sWithin _ _ _, ?_⟩; try simp only [kO_1 h, kN h, bO0 h nowB_is, true_and, and_true, zO_wI, mR_wI, mL_wI, one_ne, if_true, if_false, q0, q1, q2, q3])
          | apply And.intro
          | split
          | (simp_all only [kO_1 h, kN h, bO0 h nowB_is, true_and, and_true, zO_wI, mR_wI, mL_wI, one_ne, if_true, if_false, q0, q1, q2, q3]; done)
theorem xPhone_full {X : List Int32} {d : Nat} {M : Mm} (h : Sk M) (k o c : Int32) (q0 : zwt k 0 5 = 1) (q1 : ¬ o < 0) (q2 : zwt (o / 1000) 0 (mI M nowB 1 - 1) = 1) (q3 : zwt c 0 255 = 1) {n : Nat} (hn : n = 16) (e1 : mI M nowB 4 = nI n) : zca X zML (d + 3) 41 [.ref 1, .int k, .int o, .int c] M (some (.int (-1000000003))) M := by
  have hl : (nI n < 16) = False := nnl (N := 16) (by omega) (by omega)
  refine iX11_phone ⟨rfl, Nat.le_of_ble_eq_true rfl⟩ (zgo_in 200 ?_)
  dsimp only [zen, zrep, zw, zLo, zSe, zi1, zi2, zl2, zr1, zj, zsw, zpop, zkd, zLn, zc1, Nat.reduceSub, pX11_phone]
  try simp only [kO_1 h, kN h, bO0 h nowB_is, true_and, and_true, zO_wI, mR_wI, mL_wI, one_ne, if_true, if_false, q0, q1, q2, q3, e1, hl]
  repeat' first
    | exact trivial
    | exact rfl
    | assumption
    | exact ⟨Nat.le_of_ble_eq_true rfl, Nat.le_of_ble_eq_true rfl, Nat.le_of_ble_eq_true rfl⟩
    | exact zwt01 _ _ _
    | decide
    | (refine ⟨_, _, xIsKind _, ?_⟩; try simp only [kO_1 h, kN h, bO0 h nowB_is, true_and, and_true, zO_wI, mR_wI, mL_wI, one_ne, if_true, if_false, q0, q1, q2, q3, e1, hl])
    | (refine ⟨_, xIsKind _, ?_⟩; try simp only [kO_1 h, kN h, bO0 h nowB_is, true_and, and_true, zO_wI, mR_wI, mL_wI, one_ne, if_true, if_false, q0, q1, q2, q3, e1, hl])
    | (refine ⟨_, _, xIsModel h _, ?_⟩; try simp only [kO_1 h, kN h, bO0 h nowB_is, true_and, and_true, zO_wI, mR_wI, mL_wI, one_ne, if_true, if_false, q0, q1, q2, q3, e1, hl])
    | (refine ⟨_, xIsModel h _, ?_⟩; try simp only [kO_1 h, kN h, bO0 h nowB_is, true_and, and_true, zO_wI, mR_wI, mL_wI, one_ne, if_true, if_false, q0, q1, q2, q3, e1, hl])
    | (refine ⟨_, _, sWithin _ _ _, ?_⟩; try simp only [kO_1 h, kN h, bO0 h nowB_is, true_and, and_true, zO_wI, mR_wI, mL_wI, one_ne, if_true, if_false, q0, q1, q2, q3, e1, hl])
    | (refine ⟨_, sWithin _ _ _, ?_⟩; try simp only [kO_1 h, kN h, bO0 h nowB_is, true_and, and_true, zO_wI, mR_wI, mL_wI, one_ne, if_true, if_false, q0, q1, q2, q3, e1, hl])
    | apply And.intro
    | split
    | (simp_all only [kO_1 h, kN h, bO0 h nowB_is, true_and, and_true, zO_wI, mR_wI, mL_wI, one_ne, if_true, if_false, q0, q1, q2, q3, e1, hl]; done)
theorem xPhone_ok {X : List Int32} {d : Nat} {M : Mm} (h : Sk M) (k o c : Int32) (q0 : zwt k 0 5 = 1) (q1 : ¬ o < 0) (q2 : zwt (o / 1000) 0 (mI M nowB 1 - 1) = 1) (q3 : zwt c 0 255 = 1) {n : Nat} (hn : n < 16) (e1 : mI M nowB 4 = nI n) : zca X zML (d + 3) 41 [.ref 1, .int k, .int o, .int c] M (some (.int (nI n))) (wI (wW M (nowB + 19 + n) (zcome k (o / 1000) (o - o / 1000 * 1000) c (mI M (nowB + 19 + n)))) nowB 4 (nI (n + 1))) := by
  have hl : (nI n < 16) = True := nlt (N := 16) (by omega) (by omega)
  refine iX11_phone ⟨rfl, Nat.le_of_ble_eq_true rfl⟩ (zgo_in 200 ?_)
  dsimp only [zen, zrep, zw, zLo, zSe, zi1, zi2, zl2, zr1, zj, zsw, zpop, zkd, zLn, zc1, Nat.reduceSub, pX11_phone]
  try simp only [kO_1 h, kN h, bO0 h nowB_is, true_and, and_true, zO_wI, mR_wI, mL_wI, one_ne, if_true, if_false, q0, q1, q2, q3, e1, hl]
  repeat' first
    | exact trivial
    | exact rfl
    | assumption
    | exact ⟨Nat.le_of_ble_eq_true rfl, Nat.le_of_ble_eq_true rfl, Nat.le_of_ble_eq_true rfl⟩
    | exact zwt01 _ _ _
    | decide
    | (refine ⟨_, _, xIsKind _, ?_⟩; try simp only [kO_1 h, kN h, bO0 h nowB_is, true_and, and_true, zO_wI, mR_wI, mL_wI, one_ne, if_true, if_false, q0, q1, q2, q3, e1, hl])
    | (refine ⟨_, xIsKind _, ?_⟩; try simp only [kO_1 h, kN h, bO0 h nowB_is, true_and, and_true, zO_wI, mR_wI, mL_wI, one_ne, if_true, if_false, q0, q1, q2, q3, e1, hl])
    | (refine ⟨_, _, xIsModel h _, ?_⟩; try simp only [kO_1 h, kN h, bO0 h nowB_is, true_and, and_true, zO_wI, mR_wI, mL_wI, one_ne, if_true, if_false, q0, q1, q2, q3, e1, hl])
    | (refine ⟨_, xIsModel h _, ?_⟩; try simp only [kO_1 h, kN h, bO0 h nowB_is, true_and, and_true, zO_wI, mR_wI, mL_wI, one_ne, if_true, if_false, q0, q1, q2, q3, e1, hl])
    | (refine ⟨_, _, sWithin _ _ _, ?_⟩; try simp only [kO_1 h, kN h, bO0 h nowB_is, true_and, and_true, zO_wI, mR_wI, mL_wI, one_ne, if_true, if_false, q0, q1, q2, q3, e1, hl])
    | (refine ⟨_, sWithin _ _ _, ?_⟩; try simp only [kO_1 h, kN h, bO0 h nowB_is, true_and, and_true, zO_wI, mR_wI, mL_wI, one_ne, if_true, if_false, q0, q1, q2, q3, e1, hl])
    | (refine ⟨_, _, sAddPhone h nowB_is hn e1 _ _ _ _, ?_⟩; try simp only [kO_1 h, kN h, bO0 h nowB_is, true_and, and_true, zO_wI, mR_wI, mL_wI, one_ne, if_true, if_false, q0, q1, q2, q3, e1, hl])
    | (refine ⟨_, sAddPhone h nowB_is hn e1 _ _ _ _, ?_⟩; try simp only [kO_1 h, kN h, bO0 h nowB_is, true_and, and_true, zO_wI, mR_wI, mL_wI, one_ne, if_true, if_false, q0, q1, q2, q3, e1, hl])
    | apply And.intro
    | split
    | (simp_all only [kO_1 h, kN h, bO0 h nowB_is, true_and, and_true, zO_wI, mR_wI, mL_wI, one_ne, if_true, if_false, q0, q1, q2, q3, e1, hl]; done)
theorem mPhone_bad {X : List Int32} {d : Nat} {M : Mm} (h : Sk M) (k o c : Int32) (hb : zwt k 0 5 = 0 ∨ o < 0 ∨ zwt (o / 1000) 0 (mI M 151 0 - 1) = 0 ∨ zwt c 0 255 = 0) : zca X zML (d + 3) 43 [.ref 150, .int k, .int o, .int c] M (some (.int (-1000000001))) M := by
  refine iX12_phone ⟨rfl, Nat.le_of_ble_eq_true rfl⟩ (zgo_in 200 ?_)
  dsimp only [zen, zrep, zw, zLo, zSe, zi1, zi2, zl2, zr1, zj, zsw, zpop, zkd, zLn, zc1, Nat.reduceSub, pX12_phone]
  rcases zwt01 k 0 5 with q0 | q0
  · try simp only [kO_150 h, kR_150_0 h, kO_151 h, kL_151 h, true_and, and_true, zO_wI, mR_wI, mL_wI, one_ne, if_true, if_false, cN_0, bN_0, cN_1, bN_1, cN_2, bN_2, cN_3, bN_3, cN_4, bN_4, cN_5, bN_5, cN_6, bN_6, cN_7, bN_7, cN_8, bN_8, cN_9, bN_9, q0]
    repeat' first
      | exact trivial
      | exact rfl
      | assumption
      | exact ⟨Nat.le_of_ble_eq_true rfl, Nat.le_of_ble_eq_true rfl, Nat.le_of_ble_eq_true rfl⟩
      | exact zwt01 _ _ _
      | decide
      | (refine ⟨_, _, sIsIn _ _ _, ?_⟩; try simp only [kO_150 h, kR_150_0 h, kO_151 h, kL_151 h, true_and, and_true, zO_wI, mR_wI, mL_wI, one_ne, if_true, if_false, cN_0, bN_0, cN_1, bN_1, cN_2, bN_2, cN_3, bN_3, cN_4, bN_4, cN_5, bN_5, cN_6, bN_6, cN_7, bN_7, cN_8, bN_8, cN_9, bN_9, q0])
      | (refine ⟨_, sIsIn _ _ _, ?_⟩; try simp only [kO_150 h, kR_150_0 h, kO_151 h, kL_151 h, true_and, and_true, zO_wI, mR_wI, mL_wI, one_ne, if_true, if_false, cN_0, bN_0, cN_1, bN_1, cN_2, bN_2, cN_3, bN_3, cN_4, bN_4, cN_5, bN_5, cN_6, bN_6, cN_7, bN_7, cN_8, bN_8, cN_9, bN_9, q0])
      | (refine ⟨_, _, mIsModel h _, ?_⟩; try simp only [kO_150 h, kR_150_0 h, kO_151 h, kL_151 h, true_and, and_true, zO_wI, mR_wI, mL_wI, one_ne, if_true, if_false, cN_0, bN_0, cN_1, bN_1, cN_2, bN_2, cN_3, bN_3, cN_4, bN_4, cN_5, bN_5, cN_6, bN_6, cN_7, bN_7, cN_8, bN_8, cN_9, bN_9, q0])
      | (refine ⟨_, mIsModel h _, ?_⟩; try simp only [kO_150 h, kR_150_0 h, kO_151 h, kL_151 h, true_and, and_true, zO_wI, mR_wI, mL_wI, one_ne, if_true, if_false, cN_0, bN_0, cN_1, bN_1, cN_2, bN_2, cN_3, bN_3, cN_4, bN_4, cN_5, bN_5, cN_6, bN_6, cN_7, bN_7, cN_8, bN_8, cN_9, bN_9, q0])
      | apply And.intro
      | split
      | (simp_all only [kO_150 h, kR_150_0 h, kO_151 h, kL_151 h, true_and, and_true, zO_wI, mR_wI, mL_wI, one_ne, if_true, if_false, cN_0, bN_0, cN_1, bN_1, cN_2, bN_2, cN_3, bN_3, cN_4, bN_4, cN_5, bN_5, cN_6, bN_6, cN_7, bN_7, cN_8, bN_8, cN_9, bN_9, q0]; done)
  · by_cases q1 : o < 0
    · try simp only [kO_150 h, kR_150_0 h, kO_151 h, kL_151 h, true_and, and_true, zO_wI, mR_wI, mL_wI, one_ne, if_true, if_false, cN_0, bN_0, cN_1, bN_1, cN_2, bN_2, cN_3, bN_3, cN_4, bN_4, cN_5, bN_5, cN_6, bN_6, cN_7, bN_7, cN_8, bN_8, cN_9, bN_9, q0, q1]
      repeat' first
        | exact trivial
        | exact rfl
        | assumption
        | exact ⟨Nat.le_of_ble_eq_true rfl, Nat.le_of_ble_eq_true rfl, Nat.le_of_ble_eq_true rfl⟩
        | exact zwt01 _ _ _
        | decide
        | (refine ⟨_, _, sIsIn _ _ _, ?_⟩; try simp only [kO_150 h, kR_150_0 h, kO_151 h, kL_151 h, true_and, and_true, zO_wI, mR_wI, mL_wI, one_ne, if_true, if_false, cN_0, bN_0, cN_1, bN_1, cN_2, bN_2, cN_3, bN_3, cN_4, bN_4, cN_5, bN_5, cN_6, bN_6, cN_7, bN_7, cN_8, bN_8, cN_9, bN_9, q0, q1])
        | (refine ⟨_, sIsIn _ _ _, ?_⟩; try simp only [kO_150 h, kR_150_0 h, kO_151 h, kL_151 h, true_and, and_true, zO_wI, mR_wI, mL_wI, one_ne, if_true, if_false, cN_0, bN_0, cN_1, bN_1, cN_2, bN_2, cN_3, bN_3, cN_4, bN_4, cN_5, bN_5, cN_6, bN_6, cN_7, bN_7, cN_8, bN_8, cN_9, bN_9, q0, q1])
        | (refine ⟨_, _, mIsModel h _, ?_⟩; try simp only [kO_150 h, kR_150_0 h, kO_151 h, kL_151 h, true_and, and_true, zO_wI, mR_wI, mL_wI, one_ne, if_true, if_false, cN_0, bN_0, cN_1, bN_1, cN_2, bN_2, cN_3, bN_3, cN_4, bN_4, cN_5, bN_5, cN_6, bN_6, cN_7, bN_7, cN_8, bN_8, cN_9, bN_9, q0, q1])
        | (refine ⟨_, mIsModel h _, ?_⟩; try simp only [kO_150 h, kR_150_0 h, kO_151 h, kL_151 h, true_and, and_true, zO_wI, mR_wI, mL_wI, one_ne, if_true, if_false, cN_0, bN_0, cN_1, bN_1, cN_2, bN_2, cN_3, bN_3, cN_4, bN_4, cN_5, bN_5, cN_6, bN_6, cN_7, bN_7, cN_8, bN_8, cN_9, bN_9, q0, q1])
        | apply And.intro
        | split
        | (simp_all only [kO_150 h, kR_150_0 h, kO_151 h, kL_151 h, true_and, and_true, zO_wI, mR_wI, mL_wI, one_ne, if_true, if_false, cN_0, bN_0, cN_1, bN_1, cN_2, bN_2, cN_3, bN_3, cN_4, bN_4, cN_5, bN_5, cN_6, bN_6, cN_7, bN_7, cN_8, bN_8, cN_9, bN_9, q0, q1]; done)
    · rcases zwt01 (o / 1000) 0 (mI M 151 0 - 1) with q2 | q2
      · try simp only [kO_150 h, kR_150_0 h, kO_151 h, kL_151 h, true_and, and_true, zO_wI, mR_wI, mL_wI, one_ne, if_true, if_false, cN_0, bN_0, cN_1, bN_1, cN_2, bN_2, cN_3, bN_3, cN_4, bN_4, cN_5, bN_5, cN_6, bN_6, cN_7, bN_7, cN_8, bN_8, cN_9, bN_9, q0, q1, q2]
        repeat' first
          | exact trivial
          | exact rfl
          | assumption
          | exact ⟨Nat.le_of_ble_eq_true rfl, Nat.le_of_ble_eq_true rfl, Nat.le_of_ble_eq_true rfl⟩
          | exact zwt01 _ _ _
          | decide
          | (refine ⟨_, _, sIsIn _ _ _, ?_⟩; try simp only [kO_150 h, kR_150_0 h, kO_151 h, kL_151 h, true_and, and_true, zO_wI, mR_wI, mL_wI, one_ne, if_true, if_false, cN_0, bN_0, cN_1, bN_1, cN_2, bN_2, cN_3, bN_3, cN_4, bN_4, cN_5, bN_5, cN_6, bN_6, cN_7, bN_7, cN_8, bN_8, cN_9, bN_9, q0, q1, q2])
          | (refine ⟨_, sIsIn _ _ _, ?_⟩; try simp only [kO_150 h, kR_150_0 h, kO_151 h, kL_151 h, true_and, and_true, zO_wI, mR_wI, mL_wI, one_ne, if_true, if_false, cN_0, bN_0, cN_1, bN_1, cN_2, bN_2, cN_3, bN_3, cN_4, bN_4, cN_5, bN_5, cN_6, bN_6, cN_7, bN_7, cN_8, bN_8, cN_9, bN_9, q0, q1, q2])
          | (refine ⟨_, _, mIsModel h _, ?_⟩; try simp only [kO_150 h, kR_150_0 h, kO_151 h, kL_151 h, true_and, and_true, zO_wI, mR_wI, mL_wI, one_ne, if_true, if_false, cN_0, bN_0, cN_1, bN_1, cN_2, bN_2, cN_3, bN_3, cN_4, bN_4, cN_5, bN_5, cN_6, bN_6, cN_7, bN_7, cN_8, bN_8, cN_9, bN_9, q0, q1, q2])
          | (refine ⟨_, mIsModel h _, ?_⟩; try simp only [kO_150 h, kR_150_0 h, kO_151 h, kL_151 h, true_and, and_true, zO_wI, mR_wI, mL_wI, one_ne, if_true, if_false, cN_0, bN_0, cN_1, bN_1, cN_2, bN_2, cN_3, bN_3, cN_4, bN_4, cN_5, bN_5, cN_6, bN_6, cN_7, bN_7, cN_8, bN_8, cN_9, bN_9, q0, q1, q2])
          | apply And.intro
          | split
          | (simp_all only [kO_150 h, kR_150_0 h, kO_151 h, kL_151 h, true_and, and_true, zO_wI, mR_wI, mL_wI, one_ne, if_true, if_false, cN_0, bN_0, cN_1, bN_1, cN_2, bN_2, cN_3, bN_3, cN_4, bN_4, cN_5, bN_5, cN_6, bN_6, cN_7, bN_7, cN_8, bN_8, cN_9, bN_9, q0, q1, q2]; done)
      · have q3 : zwt c 0 255 = 0 := by
          rcases hb with hb | hb | hb | hb
          · rw [q0] at hb; cases hb
          · exact absurd hb q1
          · rw [q2] at hb; cases hb
          · exact hb
        try simp only [kO_150 h, kR_150_0 h, kO_151 h, kL_151 h, true_and, and_true, zO_wI, mR_wI, mL_wI, one_ne, if_true, if_false, cN_0, bN_0, cN_1, bN_1, cN_2, bN_2, cN_3, bN_3, cN_4, bN_4, cN_5, bN_5, cN_6, bN_6, cN_7, bN_7, cN_8, bN_8, cN_9, bN_9, q0, q1, q2, q3]
        repeat' first
          | exact trivial
          | exact rfl
          | assumption
          | exact ⟨Nat.le_of_ble_eq_true rfl, Nat.le_of_ble_eq_true rfl, Nat.le_of_ble_eq_true rfl⟩
          | exact zwt01 _ _ _
          | decide
          | (refine ⟨_, _, sIsIn _ _ _, ?_⟩; try simp only [kO_150 h, kR_150_0 h, kO_151 h, kL_151 h, true_and, and_true, zO_wI, mR_wI, mL_wI, one_ne, if_true, if_false, cN_0, bN_0, cN_1, bN_1, cN_2, bN_2, cN_3, bN_3, cN_4, bN_4, cN_5, bN_5, cN_6, bN_6, cN_7, bN_7, cN_8, bN_8, cN_9, bN_9, q0, q1, q2, q3])
          | (refine ⟨_, sIsIn _ _ _, ?_⟩; try simp only [kO_150 h, kR_150_0 h, kO_151 h, kL_151 h, true_and, and_true, zO_wI, mR_wI, mL_wI, one_ne, if_true, if_false, cN_0, bN_0, cN_1, bN_1, cN_2, bN_2, cN_3, bN_3, cN_4, bN_4, cN_5, bN_5, cN_6, bN_6, cN_7, bN_7, cN_8, bN_8, cN_9, bN_9, q0, q1, q2, q3])
          | (refine ⟨_, _, mIsModel h _, ?_⟩; try simp only [kO_150 h, kR_150_0 h, kO_151 h, kL_151 h, true_and, and_true, zO_wI, mR_wI, mL_wI, one_ne, if_true, if_false, cN_0, bN_0, cN_1, bN_1, cN_2, bN_2, cN_3, bN_3, cN_4, bN_4, cN_5, bN_5, cN_6, bN_6, cN_7, bN_7, cN_8, bN_8, cN_9, bN_9, q0, q1, q2, q3])
          | (refine ⟨_, mIsModel h _, ?_⟩; try simp only [kO_150 h, kR_150_0 h, kO_151 h, kL_151 h, true_and, and_true, zO_wI, mR_wI, mL_wI, one_ne, if_true, if_false, cN_0, bN_0, cN_1, bN_1, cN_2, bN_2, cN_3, bN_3, cN_4, bN_4, cN_5, bN_5, cN_6, bN_6, cN_7, bN_7, cN_8, bN_8, cN_9, bN_9, q0, q1, q2, q3])
          | apply And.intro
          | split
          | (simp_all only [kO_150 h, kR_150_0 h, kO_151 h, kL_151 h, true_and, and_true, zO_wI, mR_wI, mL_wI, one_ne, if_true, if_false, cN_0, bN_0, cN_1, bN_1, cN_2, bN_2, cN_3, bN_3, cN_4, bN_4, cN_5, bN_5, cN_6, bN_6, cN_7, bN_7, cN_8, bN_8, cN_9, bN_9, q0, q1, q2, q3]; done)
theorem mPhone_full {X : List Int32} {d : Nat} {M : Mm} (h : Sk M) (k o c : Int32) (q0 : zwt k 0 5 = 1) (q1 : ¬ o < 0) (q2 : zwt (o / 1000) 0 (mI M 151 0 - 1) = 1) (q3 : zwt c 0 255 = 1) {n : Nat} (hn : n = 16) (e1 : mI M 151 1 = nI n) : zca X zML (d + 3) 43 [.ref 150, .int k, .int o, .int c] M (some (.int (-1000000003))) M := by
  have hl : (nI n = 16) = True := by rw [hn]; exact eq_true rfl
  refine iX12_phone ⟨rfl, Nat.le_of_ble_eq_true rfl⟩ (zgo_in 200 ?_)
  dsimp only [zen, zrep, zw, zLo, zSe, zi1, zi2, zl2, zr1, zj, zsw, zpop, zkd, zLn, zc1, Nat.reduceSub, pX12_phone]
  try simp only [kO_150 h, kR_150_0 h, kO_151 h, kL_151 h, true_and, and_true, zO_wI, mR_wI, mL_wI, one_ne, if_true, if_false, cN_0, bN_0, cN_1, bN_1, cN_2, bN_2, cN_3, bN_3, cN_4, bN_4, cN_5, bN_5, cN_6, bN_6, cN_7, bN_7, cN_8, bN_8, cN_9, bN_9, q0, q1, q2, q3, e1, hl]
  repeat' first
    | exact trivial
    | exact rfl
    | assumption
    | exact ⟨Nat.le_of_ble_eq_true rfl, Nat.le_of_ble_eq_true rfl, Nat.le_of_ble_eq_true rfl⟩
    | exact zwt01 _ _ _
    | decide
    | (refine ⟨_, _, sIsIn _ _ _, ?_⟩; try simp only [kO_150 h, kR_150_0 h, kO_151 h, kL_151 h, true_and, and_true, zO_wI, mR_wI, mL_wI, one_ne, if_true, if_false, cN_0, bN_0, cN_1, bN_1, cN_2, bN_2, cN_3, bN_3, cN_4, bN_4, cN_5, bN_5, cN_6, bN_6, cN_7, bN_7, cN_8, bN_8, cN_9, bN_9, q0, q1, q2, q3, e1, hl])
    | (refine ⟨_, sIsIn _ _ _, ?_⟩; try simp only [kO_150 h, kR_150_0 h, kO_151 h, kL_151 h, true_and, and_true, zO_wI, mR_wI, mL_wI, one_ne, if_true, if_false, cN_0, bN_0, cN_1, bN_1, cN_2, bN_2, cN_3, bN_3, cN_4, bN_4, cN_5, bN_5, cN_6, bN_6, cN_7, bN_7, cN_8, bN_8, cN_9, bN_9, q0, q1, q2, q3, e1, hl])
    | (refine ⟨_, _, mIsModel h _, ?_⟩; try simp only [kO_150 h, kR_150_0 h, kO_151 h, kL_151 h, true_and, and_true, zO_wI, mR_wI, mL_wI, one_ne, if_true, if_false, cN_0, bN_0, cN_1, bN_1, cN_2, bN_2, cN_3, bN_3, cN_4, bN_4, cN_5, bN_5, cN_6, bN_6, cN_7, bN_7, cN_8, bN_8, cN_9, bN_9, q0, q1, q2, q3, e1, hl])
    | (refine ⟨_, mIsModel h _, ?_⟩; try simp only [kO_150 h, kR_150_0 h, kO_151 h, kL_151 h, true_and, and_true, zO_wI, mR_wI, mL_wI, one_ne, if_true, if_false, cN_0, bN_0, cN_1, bN_1, cN_2, bN_2, cN_3, bN_3, cN_4, bN_4, cN_5, bN_5, cN_6, bN_6, cN_7, bN_7, cN_8, bN_8, cN_9, bN_9, q0, q1, q2, q3, e1, hl])
    | apply And.intro
    | split
    | (simp_all only [kO_150 h, kR_150_0 h, kO_151 h, kL_151 h, true_and, and_true, zO_wI, mR_wI, mL_wI, one_ne, if_true, if_false, cN_0, bN_0, cN_1, bN_1, cN_2, bN_2, cN_3, bN_3, cN_4, bN_4, cN_5, bN_5, cN_6, bN_6, cN_7, bN_7, cN_8, bN_8, cN_9, bN_9, q0, q1, q2, q3, e1, hl]; done)
def zcomeM (k m c g : Int32) (o : Nat) (s : Nat → Int32) (n1 : Int32) : Nat → Int32 := upd (upd (upd (upd (upd (upd (upd (z14 s o 14) o k) (o + 1) m) (o + 2) c) (o + 3) g) (o + 8) 999) (o + 9) (-1)) 1 n1
theorem lPhone {X : List Int32} {d : Nat} {M : Mm} (h : Sk M) {i : Nat} (hi : i < 16) (a b g : Int32) {Q : zQt} (hQ : zgo X (zca X zML d) pX12_phone 0 0 (zj pX12_phone 40) [.ref 150, .int a, .int b, .int g, .int (nI (110 + 14 * i)), .int 14] [] 0 0 (wW M 151 (z14 (mI M 151) (110 + 14 * i) 14)) Q) : ∀ n k, k + n = 14 → zgo X (zca X zML d) pX12_phone 0 0 (zj pX12_phone 40) [.ref 150, .int a, .int b, .int g, .int (nI (110 + 14 * i)), .int (nI k)] [] 0 0 (wW M 151 (z14 (mI M 151) (110 + 14 * i) k)) Q := by
  intro n
  induction n with
  | zero =>
    intro k hk
    obtain rfl : k = 14 := by omega
    exact hQ
  | succ n ih =>
    intro k hk
    have ih := ih (k + 1) (by omega)
    rw [← z14_s] at ih
    refine zgo_in 60 ?_
    dsimp only [zen, zrep, zw, zLo, zSe, zi1, zi2, zl2, zr1, zj, zsw, zpop, zkd, zLn, zc1, Nat.reduceSub, pX12_phone]
    rw [if_neg (nI_ge (n := 14) (by omega) (by omega))]
    trace_state
    sorry
