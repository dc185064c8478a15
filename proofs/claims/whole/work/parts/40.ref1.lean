/-! leaves of the reference -/
def zon (b : Int32) : Nat → Int32
  | 0 => 0
  | k + 1 => zon b k + (b >>> (nI k &&& 31) &&& 1)
theorem lOnes {X : List Int32} {d : Nat} {M : Mm} (b : Int32) : ∀ n k, k + n = 8 → zgo X (zca X zML d) pX12_ones 0 0 (zj pX12_ones 5) [.int b, .int (zon b k), .int (nI k)] [] 0 0 M (fun v2 M2 => v2 = some (.int (zon b 8)) ∧ M2 = M) := by
  intro n
  induction n with
  | zero =>
    intro k hk
    obtain rfl : k = 8 := by omega
    refine zgo_in 60 ?_
    dsimp only [zen, zrep, zw, zLo, zSe, zi1, zi2, zl2, zr1, zj, zsw, zpop, zkd, zLn, zc1, Nat.reduceSub, pX12_ones]
    rw [if_pos (by decide)]
    exact ⟨trivial, rfl, rfl⟩
  | succ n ih =>
    intro k hk
    have ih := ih (k + 1) (by omega)
    refine zgo_in 60 ?_
    dsimp only [zen, zrep, zw, zLo, zSe, zi1, zi2, zl2, zr1, zj, zsw, zpop, zkd, zLn, zc1, Nat.reduceSub, pX12_ones]
    rw [if_neg (n8_lt (by omega)), nI_1]
    exact ih
theorem mOnes {X : List Int32} {d : Nat} {M : Mm} (b : Int32) : zca X zML (d + 1) 63 [.int b] M (some (.int (zon b 8))) M := by
  refine iX12_ones ⟨rfl, Nat.le_of_ble_eq_true rfl⟩ (zgo_in 200 ?_)
  dsimp only [zen, zrep, zw, zLo, zSe, zi1, zi2, zl2, zr1, zj, zsw, zpop, zkd, zLn, zc1, Nat.reduceSub, pX12_ones]
  exact lOnes b 8 0 rfl
def onesOk : Nat → Bool
  | 0 => true
  | a + 1 => decide (zon (nI a) 8 = zbc (nI a)) && decide (8 - zon (nI a) 8 = zbc (255 &&& (nI a ^^^ (-1)))) && onesOk a
theorem onesOk_256 : onesOk 256 = true := by decide +kernel
theorem onesOk_of : ∀ n, onesOk n = true → ∀ a, a < n → zon (nI a) 8 = zbc (nI a) ∧ 8 - zon (nI a) 8 = zbc (255 &&& (nI a ^^^ (-1)))
  | 0, _, a, h => absurd h (Nat.not_lt_zero a)
  | n + 1, h, a, ha => by
    rw [onesOk, Bool.and_eq_true, Bool.and_eq_true] at h
    by_cases e : a = n
    · subst e
      exact ⟨of_decide_eq_true h.1.1, of_decide_eq_true h.1.2⟩
    · exact onesOk_of n h.2 a (by omega)
theorem zon_bc {a : Nat} (h : a < 256) : zon (nI a) 8 = zbc (nI a) := (onesOk_of 256 onesOk_256 a h).1
theorem zon_lk {a : Nat} (h : a < 256) : 8 - zon (nI a) 8 = zbc (255 &&& (nI a ^^^ (-1))) := (onesOk_of 256 onesOk_256 a h).2
def zHmR (kind good cycles : Int32) : Int32 := if kind = 1 then 5 + 2 * (8 - zon good 8) else if kind = 4 then 14 + 2 * (8 - zon good 8) else if kind = 2 then 10 else if kind = 3 then 10 + cycles / 100 else if kind = 5 then 99 else 5
