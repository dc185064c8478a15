/-! A SHOP, wherever it lies: now, image, trial -/
def nowB : Nat := 2
def imgB : Nat := 37
def triB : Nat := 72
def isB (B : Nat) : Prop := B = 2 ∨ B = 37 ∨ B = 72
theorem nowB_is : isB nowB := Or.inl rfl
theorem imgB_is : isB imgB := Or.inr (Or.inl rfl)
theorem triB_is : isB triB := Or.inr (Or.inr rfl)
theorem kN {M : Mm} (h : Sk M) : mR M 1 0 = nowB := kR_1_0 h
theorem kI {M : Mm} (h : Sk M) : mR M 1 1 = imgB := kR_1_1 h
theorem kT {M : Mm} (h : Sk M) : mR M 1 2 = triB := kR_1_2 h
theorem bO0 {M : Mm} {B : Nat} (h : Sk M) (hB : isB B) : zO M (B) 6 = True := eq_true (by rcases hB with rfl | rfl | rfl <;> exact h.O (by decide) (by decide) rfl)
theorem bR0_0 {M : Mm} {B : Nat} (h : Sk M) (hB : isB B) : mR M (B) 0 = B + 1 := by rcases hB with rfl | rfl | rfl <;> exact h.R (by decide) (by decide) rfl
theorem bR0_2 {M : Mm} {B : Nat} (h : Sk M) (hB : isB B) : mR M (B) 2 = B + 2 := by rcases hB with rfl | rfl | rfl <;> exact h.R (by decide) (by decide) rfl
theorem bR0_3 {M : Mm} {B : Nat} (h : Sk M) (hB : isB B) : mR M (B) 3 = B + 4 := by rcases hB with rfl | rfl | rfl <;> exact h.R (by decide) (by decide) rfl
theorem bR0_5 {M : Mm} {B : Nat} (h : Sk M) (hB : isB B) : mR M (B) 5 = B + 5 := by rcases hB with rfl | rfl | rfl <;> exact h.R (by decide) (by decide) rfl
theorem bR0_7 {M : Mm} {B : Nat} (h : Sk M) (hB : isB B) : mR M (B) 7 = B + 6 := by rcases hB with rfl | rfl | rfl <;> exact h.R (by decide) (by decide) rfl
theorem bR0_8 {M : Mm} {B : Nat} (h : Sk M) (hB : isB B) : mR M (B) 8 = B + 10 := by rcases hB with rfl | rfl | rfl <;> exact h.R (by decide) (by decide) rfl
theorem bO1 {M : Mm} {B : Nat} (h : Sk M) (hB : isB B) : zO M (B + 1) 62 = True := eq_true (by rcases hB with rfl | rfl | rfl <;> exact h.O (by decide) (by decide) rfl)
theorem bL1 {M : Mm} {B : Nat} (h : Sk M) (hB : isB B) : mL M (B + 1) = 6 := by rcases hB with rfl | rfl | rfl <;> exact h.L (by decide) rfl
theorem bA1 {M : Mm} {B : Nat} (h : Sk M) (hB : isB B) : zA M (B + 1) = True := eq_true (by rcases hB with rfl | rfl | rfl <;> exact h.A (by decide) (by decide) (by decide))
theorem bO2 {M : Mm} {B : Nat} (h : Sk M) (hB : isB B) : zO M (B + 2) 8 = True := eq_true (by rcases hB with rfl | rfl | rfl <;> exact h.O (by decide) (by decide) rfl)
theorem bR2_0 {M : Mm} {B : Nat} (h : Sk M) (hB : isB B) : mR M (B + 2) 0 = B + 3 := by rcases hB with rfl | rfl | rfl <;> exact h.R (by decide) (by decide) rfl
theorem bO3 {M : Mm} {B : Nat} (h : Sk M) (hB : isB B) : zO M (B + 3) 50 = True := eq_true (by rcases hB with rfl | rfl | rfl <;> exact h.O (by decide) (by decide) rfl)
theorem bL3 {M : Mm} {B : Nat} (h : Sk M) (hB : isB B) : mL M (B + 3) = 48 := by rcases hB with rfl | rfl | rfl <;> exact h.L (by decide) rfl
theorem bO4 {M : Mm} {B : Nat} (h : Sk M) (hB : isB B) : zO M (B + 4) 63 = True := eq_true (by rcases hB with rfl | rfl | rfl <;> exact h.O (by decide) (by decide) rfl)
theorem bL4 {M : Mm} {B : Nat} (h : Sk M) (hB : isB B) : mL M (B + 4) = 16 := by rcases hB with rfl | rfl | rfl <;> exact h.L (by decide) rfl
theorem bA4 {M : Mm} {B : Nat} (h : Sk M) (hB : isB B) : zA M (B + 4) = True := eq_true (by rcases hB with rfl | rfl | rfl <;> exact h.A (by decide) (by decide) (by decide))
theorem bO5 {M : Mm} {B : Nat} (h : Sk M) (hB : isB B) : zO M (B + 5) 50 = True := eq_true (by rcases hB with rfl | rfl | rfl <;> exact h.O (by decide) (by decide) rfl)
theorem bL5 {M : Mm} {B : Nat} (h : Sk M) (hB : isB B) : mL M (B + 5) = 6 := by rcases hB with rfl | rfl | rfl <;> exact h.L (by decide) rfl
theorem bO6 {M : Mm} {B : Nat} (h : Sk M) (hB : isB B) : zO M (B + 6) 1 = True := eq_true (by rcases hB with rfl | rfl | rfl <;> exact h.O (by decide) (by decide) rfl)
theorem bR6_0 {M : Mm} {B : Nat} (h : Sk M) (hB : isB B) : mR M (B + 6) 0 = B + 7 := by rcases hB with rfl | rfl | rfl <;> exact h.R (by decide) (by decide) rfl
theorem bR6_2 {M : Mm} {B : Nat} (h : Sk M) (hB : isB B) : mR M (B + 6) 2 = B + 8 := by rcases hB with rfl | rfl | rfl <;> exact h.R (by decide) (by decide) rfl
theorem bR6_3 {M : Mm} {B : Nat} (h : Sk M) (hB : isB B) : mR M (B + 6) 3 = B + 9 := by rcases hB with rfl | rfl | rfl <;> exact h.R (by decide) (by decide) rfl
theorem bO7 {M : Mm} {B : Nat} (h : Sk M) (hB : isB B) : zO M (B + 7) 69 = True := eq_true (by rcases hB with rfl | rfl | rfl <;> exact h.O (by decide) (by decide) rfl)
theorem bL7 {M : Mm} {B : Nat} (h : Sk M) (hB : isB B) : mL M (B + 7) = 14 := by rcases hB with rfl | rfl | rfl <;> exact h.L (by decide) rfl
theorem bA7 {M : Mm} {B : Nat} (h : Sk M) (hB : isB B) : zA M (B + 7) = True := eq_true (by rcases hB with rfl | rfl | rfl <;> exact h.A (by decide) (by decide) (by decide))
theorem bO8 {M : Mm} {B : Nat} (h : Sk M) (hB : isB B) : zO M (B + 8) 50 = True := eq_true (by rcases hB with rfl | rfl | rfl <;> exact h.O (by decide) (by decide) rfl)
theorem bL8 {M : Mm} {B : Nat} (h : Sk M) (hB : isB B) : mL M (B + 8) = 3 := by rcases hB with rfl | rfl | rfl <;> exact h.L (by decide) rfl
theorem bO9 {M : Mm} {B : Nat} (h : Sk M) (hB : isB B) : zO M (B + 9) 50 = True := eq_true (by rcases hB with rfl | rfl | rfl <;> exact h.O (by decide) (by decide) rfl)
theorem bL9 {M : Mm} {B : Nat} (h : Sk M) (hB : isB B) : mL M (B + 9) = 96 := by rcases hB with rfl | rfl | rfl <;> exact h.L (by decide) rfl
theorem bO10 {M : Mm} {B : Nat} (h : Sk M) (hB : isB B) : zO M (B + 10) 0 = True := eq_true (by rcases hB with rfl | rfl | rfl <;> exact h.O (by decide) (by decide) rfl)
theorem bR10_0 {M : Mm} {B : Nat} (h : Sk M) (hB : isB B) : mR M (B + 10) 0 = B + 11 := by rcases hB with rfl | rfl | rfl <;> exact h.R (by decide) (by decide) rfl
theorem bR10_1 {M : Mm} {B : Nat} (h : Sk M) (hB : isB B) : mR M (B + 10) 1 = B + 12 := by rcases hB with rfl | rfl | rfl <;> exact h.R (by decide) (by decide) rfl
theorem bO11 {M : Mm} {B : Nat} (h : Sk M) (hB : isB B) : zO M (B + 11) 50 = True := eq_true (by rcases hB with rfl | rfl | rfl <;> exact h.O (by decide) (by decide) rfl)
theorem bL11 {M : Mm} {B : Nat} (h : Sk M) (hB : isB B) : mL M (B + 11) = 8 := by rcases hB with rfl | rfl | rfl <;> exact h.L (by decide) rfl
theorem bO12 {M : Mm} {B : Nat} (h : Sk M) (hB : isB B) : zO M (B + 12) 50 = True := eq_true (by rcases hB with rfl | rfl | rfl <;> exact h.O (by decide) (by decide) rfl)
theorem bL12 {M : Mm} {B : Nat} (h : Sk M) (hB : isB B) : mL M (B + 12) = 8 := by rcases hB with rfl | rfl | rfl <;> exact h.L (by decide) rfl
theorem bV10 : ∀ B, (B = 2 ∨ B = 37 ∨ B = 72) → ∀ k, k < 6 → skR (B + 1) k = B + 13 + k ∧ skT (B + 13 + k) = 2 := by
  intro B hB
  rcases hB with rfl | rfl | rfl <;> decide
theorem bV1 {M : Mm} {B : Nat} (h : Sk M) (hB : isB B) {k : Nat} (hk : k < 6) : mR M (B + 1) k = B + 13 + k := h.R (by rcases hB with rfl | rfl | rfl <;> decide) (by rcases hB with rfl | rfl | rfl <;> decide) (bV10 B hB k hk).1
theorem bW1 {M : Mm} {B : Nat} (h : Sk M) (hB : isB B) {k : Nat} (hk : k < 6) : zO M (B + 13 + k) 2 = True := eq_true (h.O (by omega) (by rcases hB with rfl | rfl | rfl <;> omega) (bV10 B hB k hk).2)
theorem bV40 : ∀ B, (B = 2 ∨ B = 37 ∨ B = 72) → ∀ k, k < 16 → skR (B + 4) k = B + 19 + k ∧ skT (B + 19 + k) = 3 := by
  intro B hB
  rcases hB with rfl | rfl | rfl <;> decide
theorem bV4 {M : Mm} {B : Nat} (h : Sk M) (hB : isB B) {k : Nat} (hk : k < 16) : mR M (B + 4) k = B + 19 + k := h.R (by rcases hB with rfl | rfl | rfl <;> decide) (by rcases hB with rfl | rfl | rfl <;> decide) (bV40 B hB k hk).1
theorem bW4 {M : Mm} {B : Nat} (h : Sk M) (hB : isB B) {k : Nat} (hk : k < 16) : zO M (B + 19 + k) 3 = True := eq_true (h.O (by omega) (by rcases hB with rfl | rfl | rfl <;> omega) (bV40 B hB k hk).2)
