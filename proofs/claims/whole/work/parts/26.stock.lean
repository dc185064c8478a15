/-! rows laid anew; Stock -/
/-- a row of ints laid anew -/
def wW (M : Mm) (a : Nat) (f : Nat → Int32) : Mm := (fun r j => if r = a then f j else M.1 r j, M.2)
theorem mI_wW (M : Mm) (a : Nat) (f : Nat → Int32) (r j : Nat) : mI (wW M a f) r j = if r = a then f j else mI M r j := rfl
theorem mI_wWs (M : Mm) (a : Nat) (f : Nat → Int32) : mI (wW M a f) a = f := by funext j; rw [mI_wW, if_pos rfl]
theorem mI_wWr {M : Mm} {a : Nat} {f : Nat → Int32} {r j : Nat} (h : r ≠ a) : mI (wW M a f) r j = mI M r j := by rw [mI_wW, if_neg h]
theorem mR_wW (M : Mm) (a : Nat) (f : Nat → Int32) (r j : Nat) : mR (wW M a f) r j = mR M r j := rfl
theorem mT_wW (M : Mm) (a : Nat) (f : Nat → Int32) (r : Nat) : mT (wW M a f) r = mT M r := rfl
theorem mL_wW (M : Mm) (a : Nat) (f : Nat → Int32) (r : Nat) : mL (wW M a f) r = mL M r := rfl
theorem mZ_wW (M : Mm) (a : Nat) (f : Nat → Int32) : mZ (wW M a f) = mZ M := rfl
theorem zO_wW (M : Mm) (a : Nat) (f : Nat → Int32) (r c : Nat) : zO (wW M a f) r c = zO M r c := rfl
theorem zA_wW (M : Mm) (a : Nat) (f : Nat → Int32) (r : Nat) : zA (wW M a f) r = zA M r := rfl
theorem Sk_wW (M : Mm) (a : Nat) (f : Nat → Int32) : Sk (wW M a f) = Sk M := rfl
theorem wI_wW (M : Mm) (a j : Nat) (v : Int32) : wI M a j v = wW M a (upd (mI M a) j v) := by
  unfold wI wW upd
  congr 1
  funext r i
  by_cases h : r = a
  · subst h; rw [if_pos rfl, if_pos rfl]; rfl
  · rw [if_neg h, if_neg h]
theorem wW_wW (M : Mm) (a : Nat) (f g : Nat → Int32) : wW (wW M a f) a g = wW M a g := by
  unfold wW
  congr 1
  funext r i
  by_cases h : r = a
  · rw [if_pos h, if_pos h]
  · rw [if_neg h, if_neg h]
    show (if r = a then f i else M.1 r i) = M.1 r i
    rw [if_neg h]
theorem wW_self (M : Mm) (a : Nat) : wW M a (mI M a) = M := by
  unfold wW
  have : (fun r j => if r = a then mI M a j else M.1 r j) = M.1 := by
    funext r i
    by_cases h : r = a
    · rw [if_pos h, h]; rfl
    · rw [if_neg h]
  rw [this]
theorem wC_wW (M : Mm) (r0 sp r1 dp n : Nat) : wC M r0 sp r1 dp n = wW M r1 (va_cpy (mI M r0) (mI M r1) sp dp n) := rfl
/-! STOCK: a vector of 48 -/
def zce (c : Int32) (m s : Nat) : Nat := if c >>> (nI s &&& 31) &&& 1 = 1 then s else m * 8 + s
theorem zce_lt {c : Int32} {m s : Nat} (hm : m < 6) (hs : s < 8) : zce c m s < 48 := by unfold zce; split <;> omega
theorem zce_in {c : Int32} {m s : Nat} (hm : m < 6) (hs : s < 8) : vp_in (nI (zce c m s)) 48 := vp_in_nI (zce_lt hm hs) (by omega)
theorem zce_cl {c : Int32} {m s : Nat} (hm : m < 6) (hs : s < 8) : (nI (zce c m s)).toNatClampNeg = zce c m s := nI_clamp (by have := zce_lt (c := c) hm hs; omega)
/-- what a Stock object at r with its row a is -/
def zSt (M : Mm) (r a : Nat) : Prop := zO M r 8 ∧ mR M r 0 = a ∧ zO M a 50 ∧ mL M a = 48 ∧ r ≠ a
theorem zSt_wW (M : Mm) (r a b : Nat) (f : Nat → Int32) : zSt (wW M b f) r a = zSt M r a := rfl
theorem zSt_wI (M : Mm) (r a b j : Nat) (v : Int32) : zSt (wI M b j v) r a = zSt M r a := rfl
theorem sCellN {X : List Int32} {d : Nat} {M : Mm} {r a m s : Nat} (hS : zSt M r a) (hm : m < 6) (hs : s < 8) : zca X zML (d + 1) 29 [.ref r, .int (nI m), .int (nI s)] M (some (.int (nI (zce (mI M r 1) m s)))) M := by
  have h1 := sCell (X := X) (d := d) hS.1 (nI m) (nI s)
  have e : (if mI M r 1 >>> (nI s &&& 31) &&& 1 = 1 then nI s else nI m * 8 + nI s) = nI (zce (mI M r 1) m s) := by
    unfold zce
    split
    · rfl
    · show nI m * nI 8 + nI s = _
      rw [pk_mul, nI_add]
  rw [e] at h1
  exact h1
theorem sOf {X : List Int32} {d : Nat} {M : Mm} {r a m s : Nat} (hS : zSt M r a) (hm : m < 6) (hs : s < 8) : zca X zML (d + 2) 35 [.ref r, .int (nI m), .int (nI s)] M (some (.int (mI M a (zce (mI M r 1) m s)))) M := by
  refine iX8_of ⟨rfl, Nat.le_of_ble_eq_true rfl⟩ (zgo_in 200 ?_)
  dsimp only [zen, zrep, zw, zLo, zSe, zi1, zi2, zl2, zr1, zj, zsw, zpop, zkd, zLn, zc1, Nat.reduceSub, pX8_of]
  refine ⟨hS.1, ⟨Nat.le_of_ble_eq_true rfl, Nat.le_of_ble_eq_true rfl, Nat.le_of_ble_eq_true rfl⟩, hS.1, _, _, sCellN hS hm hs, ?_⟩
  simp only [hS.1, hS.2.1, hS.2.2.1, hS.2.2.2.1, true_and, and_true, zO_wW, mR_wW, mL_wW, zO_wI, mR_wI, mL_wI, zce_in hm hs, zce_cl hm hs]
theorem sSetTo {X : List Int32} {d : Nat} {M : Mm} {r a m s : Nat} (hS : zSt M r a) (hm : m < 6) (hs : s < 8) (n : Int32) : zca X zML (d + 2) 30 [.ref r, .int (nI m), .int (nI s), .int n] M (some (.int (mI M a (zce (mI M r 1) m s)))) (wI M a (zce (mI M r 1) m s) n) := by
  refine iX8_setTo ⟨rfl, Nat.le_of_ble_eq_true rfl⟩ (zgo_in 200 ?_)
  dsimp only [zen, zrep, zw, zLo, zSe, zi1, zi2, zl2, zr1, zj, zsw, zpop, zkd, zLn, zc1, Nat.reduceSub, pX8_setTo]
  refine ⟨⟨Nat.le_of_ble_eq_true rfl, Nat.le_of_ble_eq_true rfl, Nat.le_of_ble_eq_true rfl⟩, hS.1, _, _, sCellN hS hm hs, ?_⟩
  simp only [hS.1, hS.2.1, hS.2.2.1, hS.2.2.2.1, true_and, and_true, zO_wW, mR_wW, mL_wW, zO_wI, mR_wI, mL_wI, zce_in hm hs, zce_cl hm hs]
/-- of n parts so many come to a place that has was */ -/
def zcm (n was : Int32) : Int32 := if 99 - was < n then 99 - was else n
theorem sAddUpTo {X : List Int32} {d : Nat} {M : Mm} {r a m s : Nat} (hS : zSt M r a) (hm : m < 6) (hs : s < 8) (n : Int32) : zca X zML (d + 3) 96 [.ref r, .int (nI m), .int (nI s), .int n] M (some (.int (zcm n (mI M a (zce (mI M r 1) m s))))) (wI M a (zce (mI M r 1) m s) (mI M a (zce (mI M r 1) m s) + zcm n (mI M a (zce (mI M r 1) m s)))) := by
  refine iX8_addUpTo ⟨rfl, Nat.le_of_ble_eq_true rfl⟩ (zgo_in 200 ?_)
  dsimp only [zen, zrep, zw, zLo, zSe, zi1, zi2, zl2, zr1, zj, zsw, zpop, zkd, zLn, zc1, Nat.reduceSub, pX8_addUpTo]
  trace_state
  refine ⟨⟨Nat.le_of_ble_eq_true rfl, Nat.le_of_ble_eq_true rfl, Nat.le_of_ble_eq_true rfl⟩, hS.1, _, _, sOf hS hm hs, ?_⟩
  refine ⟨⟨Nat.le_of_ble_eq_true rfl, Nat.le_of_ble_eq_true rfl, Nat.le_of_ble_eq_true rfl⟩, _, _, sMin _ _, ?_⟩
  refine ⟨⟨Nat.le_of_ble_eq_true rfl, Nat.le_of_ble_eq_true rfl, Nat.le_of_ble_eq_true rfl⟩, hS.1, _, _, sSetTo hS hm hs _, ?_⟩
  exact ⟨by decide, trivial, rfl, rfl⟩
/-- parts that come, sort by sort: the vector, how many -/
def vAdd (c : Int32) (m : Nat) (g : Int32) : Nat → (Nat → Int32) → (Nat → Int32) × Int32
  | 0, f => (f, 0)
  | k + 1, f => if g >>> (nI k &&& 31) &&& 1 = 1 then (upd (vAdd c m g k f).1 (zce c m k) ((vAdd c m g k f).1 (zce c m k) + zcm 1 ((vAdd c m g k f).1 (zce c m k))), (vAdd c m g k f).2 + zcm 1 ((vAdd c m g k f).1 (zce c m k))) else vAdd c m g k f
theorem n8_lt {k : Nat} (h : k < 8) : ¬ (8 : Int32) ≤ nI k := show ¬ nI 8 ≤ nI k from nI_ge h (Nat.le_of_ble_eq_true rfl)
set_option maxHeartbeats 4000000 in
theorem lAddEach {X : List Int32} {d : Nat} {M : Mm} {r a m : Nat} (hS : zSt M r a) (hm : m < 6) (g : Int32) : ∀ n k, k + n = 8 → zgo X (zca X zML (d + 3)) pX8_addEach 0 0 (zj pX8_addEach 5) [.ref r, .int (nI m), .int g, .int (vAdd (mI M r 1) m g k (mI M a)).2, .int (nI k)] [] 0 0 (wW M a (vAdd (mI M r 1) m g k (mI M a)).1) (fun v2 M2 => v2 = some (.int (vAdd (mI M r 1) m g 8 (mI M a)).2) ∧ M2 = wW M a (vAdd (mI M r 1) m g 8 (mI M a)).1) := by
  intro n
  induction n with
  | zero =>
    intro k hk
    obtain rfl : k = 8 := by omega
    refine zgo_in 60 ?_
    dsimp only [zen, zrep, zw, zLo, zSe, zi1, zi2, zl2, zr1, zj, zsw, zpop, zkd, zLn, zc1, Nat.reduceSub, pX8_addEach]
    rw [if_pos (by decide)]
    exact ⟨trivial, rfl, rfl⟩
  | succ n ih =>
    intro k hk
    have hk8 : k < 8 := by omega
    have hr := hS.2.2.2.2
    refine zgo_in 60 ?_
    dsimp only [zen, zrep, zw, zLo, zSe, zi1, zi2, zl2, zr1, zj, zsw, zpop, zkd, zLn, zc1, Nat.reduceSub, pX8_addEach]
    rw [if_neg (n8_lt hk8)]
    have ih := ih (k + 1) (by omega)
    rw [vAdd] at ih
    split
    · rename_i hb
      rw [if_pos hb] at ih
      refine ⟨⟨Nat.le_of_ble_eq_true rfl, Nat.le_of_ble_eq_true rfl, Nat.le_of_ble_eq_true rfl⟩, hS.1, _, _, sAddUpTo (M := wW M a (vAdd (mI M r 1) m g k (mI M a)).1) hS hm hk8 1, ?_⟩
      rw [mI_wWr hr, mI_wWs, wI_wW, mI_wWs, wW_wW, nI_1]
      exact ih
    · rename_i hb
      rw [if_neg hb] at ih
      rw [nI_1]
      exact ih
theorem sAddEach {X : List Int32} {d : Nat} {M : Mm} {r a m : Nat} (hS : zSt M r a) (hm : m < 6) (g : Int32) : zca X zML (d + 4) 97 [.ref r, .int (nI m), .int g] M (some (.int ((vAdd (mI M r 1) m g 8 (mI M a)).2))) (wW M a (vAdd (mI M r 1) m g 8 (mI M a)).1) := by
  refine iX8_addEach ⟨rfl, Nat.le_of_ble_eq_true rfl⟩ (zgo_in 200 ?_)
  dsimp only [zen, zrep, zw, zLo, zSe, zi1, zi2, zl2, zr1, zj, zsw, zpop, zkd, zLn, zc1, Nat.reduceSub, pX8_addEach]
  have h := lAddEach (X := X) (d := d) hS hm g 8 0 rfl
  rw [show (vAdd (mI M r 1) m g 0 (mI M a)).1 = mI M a from rfl, wW_self] at h
  exact h
