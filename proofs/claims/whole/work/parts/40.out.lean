/-! calls that leave the shops as they are -/
theorem ifT {c A B : Prop} {i : Decidable c} (h : c) (a : A) : if c then A else B := by rw [if_pos h]; exact a
theorem ifF {c A B : Prop} {i : Decidable c} (h : ¬ c) (b : B) : if c then A else B := by rw [if_neg h]; exact b
theorem ifS {c c' A B : Prop} {i : Decidable c} (e : c = c') (a : c' → A) (b : ¬ c' → B) : if c then A else B := by
  subst e
  by_cases h : c
  · rw [if_pos h]; exact a h
  · rw [if_neg h]; exact b h
theorem zgo_u {X : List Int32} {C : Nat → List Value → Mm → Option Value → Mm → Prop} {cd : List zEn} {mc ms : Nat} (n : Nat) {cs cs' : List zEn} {L S : List Value} {uc us : Nat} {M : Mm} {Q : zQt} (e : cs = cs') (h : zw X C cd mc ms (zgo X C cd mc ms) n cs' L S uc us M Q) : zgo X C cd mc ms cs L S uc us M Q := e ▸ zgo_in n h
theorem cLt {a b : Nat} (ha : a < 2 ^ 31) (hb : b < 2 ^ 31) : (nI a < nI b) = (a < b) := propext (nI_ltI ha hb)
theorem cLe {a b : Nat} (ha : a < 2 ^ 31) (hb : b < 2 ^ 31) : (nI a ≤ nI b) = (a ≤ b) := propext (nI_leI ha hb)
theorem cEq {a b : Nat} (ha : a < 2 ^ 31) (hb : b < 2 ^ 31) : (nI a = nI b) = (a = b) := propext (nI_eq ha hb)
theorem cN {n : Nat} (h : n < 2 ^ 31) : (nI n).toNatClampNeg = n := nI_clamp h
theorem nI_prd {n : Nat} (h : 0 < n) : nI n - 1 = nI (n - 1) := by
  obtain ⟨k, rfl⟩ : ∃ k, n = k + 1 := ⟨n - 1, by omega⟩
  exact nI_pred k
theorem mI_wWj (M : Mm) (a : Nat) (f : Nat → Int32) (j : Nat) : mI (wW M a f) a j = f j := if_pos rfl
theorem cl0_0 {a : Nat} (h : a < 2 ^ 31) : (nI a < (0 : Int32)) = (a < 0) := cLt (b := 0) h (by decide)
theorem cl1_0 {a : Nat} (h : a < 2 ^ 31) : ((0 : Int32) ≤ nI a) = (0 ≤ a) := cLe (a := 0) (by decide) h
theorem cl2_0 {a : Nat} (h : a < 2 ^ 31) : (nI a = (0 : Int32)) = (a = 0) := cEq (b := 0) h (by decide)
theorem cl3_0 {a : Nat} (h : a < 2 ^ 31) : ((0 : Int32) < nI a) = (0 < a) := cLt (a := 0) (by decide) h
theorem cl4_0 {a : Nat} (h : a < 2 ^ 31) : (nI a ≤ (0 : Int32)) = (a ≤ 0) := cLe (b := 0) h (by decide)
theorem cl5_0 {a : Nat} (h : a < 2 ^ 31) : ((0 : Int32) = nI a) = (0 = a) := cEq (a := 0) (by decide) h
theorem cl0_1 {a : Nat} (h : a < 2 ^ 31) : (nI a < (1 : Int32)) = (a < 1) := cLt (b := 1) h (by decide)
theorem cl1_1 {a : Nat} (h : a < 2 ^ 31) : ((1 : Int32) ≤ nI a) = (1 ≤ a) := cLe (a := 1) (by decide) h
theorem cl2_1 {a : Nat} (h : a < 2 ^ 31) : (nI a = (1 : Int32)) = (a = 1) := cEq (b := 1) h (by decide)
theorem cl3_1 {a : Nat} (h : a < 2 ^ 31) : ((1 : Int32) < nI a) = (1 < a) := cLt (a := 1) (by decide) h
theorem cl4_1 {a : Nat} (h : a < 2 ^ 31) : (nI a ≤ (1 : Int32)) = (a ≤ 1) := cLe (b := 1) h (by decide)
theorem cl5_1 {a : Nat} (h : a < 2 ^ 31) : ((1 : Int32) = nI a) = (1 = a) := cEq (a := 1) (by decide) h
theorem cl0_2 {a : Nat} (h : a < 2 ^ 31) : (nI a < (2 : Int32)) = (a < 2) := cLt (b := 2) h (by decide)
theorem cl1_2 {a : Nat} (h : a < 2 ^ 31) : ((2 : Int32) ≤ nI a) = (2 ≤ a) := cLe (a := 2) (by decide) h
theorem cl2_2 {a : Nat} (h : a < 2 ^ 31) : (nI a = (2 : Int32)) = (a = 2) := cEq (b := 2) h (by decide)
theorem cl3_2 {a : Nat} (h : a < 2 ^ 31) : ((2 : Int32) < nI a) = (2 < a) := cLt (a := 2) (by decide) h
theorem cl4_2 {a : Nat} (h : a < 2 ^ 31) : (nI a ≤ (2 : Int32)) = (a ≤ 2) := cLe (b := 2) h (by decide)
theorem cl5_2 {a : Nat} (h : a < 2 ^ 31) : ((2 : Int32) = nI a) = (2 = a) := cEq (a := 2) (by decide) h
theorem cl0_3 {a : Nat} (h : a < 2 ^ 31) : (nI a < (3 : Int32)) = (a < 3) := cLt (b := 3) h (by decide)
theorem cl1_3 {a : Nat} (h : a < 2 ^ 31) : ((3 : Int32) ≤ nI a) = (3 ≤ a) := cLe (a := 3) (by decide) h
theorem cl2_3 {a : Nat} (h : a < 2 ^ 31) : (nI a = (3 : Int32)) = (a = 3) := cEq (b := 3) h (by decide)
theorem cl3_3 {a : Nat} (h : a < 2 ^ 31) : ((3 : Int32) < nI a) = (3 < a) := cLt (a := 3) (by decide) h
theorem cl4_3 {a : Nat} (h : a < 2 ^ 31) : (nI a ≤ (3 : Int32)) = (a ≤ 3) := cLe (b := 3) h (by decide)
theorem cl5_3 {a : Nat} (h : a < 2 ^ 31) : ((3 : Int32) = nI a) = (3 = a) := cEq (a := 3) (by decide) h
theorem cl0_4 {a : Nat} (h : a < 2 ^ 31) : (nI a < (4 : Int32)) = (a < 4) := cLt (b := 4) h (by decide)
theorem cl1_4 {a : Nat} (h : a < 2 ^ 31) : ((4 : Int32) ≤ nI a) = (4 ≤ a) := cLe (a := 4) (by decide) h
theorem cl2_4 {a : Nat} (h : a < 2 ^ 31) : (nI a = (4 : Int32)) = (a = 4) := cEq (b := 4) h (by decide)
theorem cl3_4 {a : Nat} (h : a < 2 ^ 31) : ((4 : Int32) < nI a) = (4 < a) := cLt (a := 4) (by decide) h
theorem cl4_4 {a : Nat} (h : a < 2 ^ 31) : (nI a ≤ (4 : Int32)) = (a ≤ 4) := cLe (b := 4) h (by decide)
theorem cl5_4 {a : Nat} (h : a < 2 ^ 31) : ((4 : Int32) = nI a) = (4 = a) := cEq (a := 4) (by decide) h
theorem cl0_5 {a : Nat} (h : a < 2 ^ 31) : (nI a < (5 : Int32)) = (a < 5) := cLt (b := 5) h (by decide)
theorem cl1_5 {a : Nat} (h : a < 2 ^ 31) : ((5 : Int32) ≤ nI a) = (5 ≤ a) := cLe (a := 5) (by decide) h
theorem cl2_5 {a : Nat} (h : a < 2 ^ 31) : (nI a = (5 : Int32)) = (a = 5) := cEq (b := 5) h (by decide)
theorem cl3_5 {a : Nat} (h : a < 2 ^ 31) : ((5 : Int32) < nI a) = (5 < a) := cLt (a := 5) (by decide) h
theorem cl4_5 {a : Nat} (h : a < 2 ^ 31) : (nI a ≤ (5 : Int32)) = (a ≤ 5) := cLe (b := 5) h (by decide)
theorem cl5_5 {a : Nat} (h : a < 2 ^ 31) : ((5 : Int32) = nI a) = (5 = a) := cEq (a := 5) (by decide) h
theorem cl0_6 {a : Nat} (h : a < 2 ^ 31) : (nI a < (6 : Int32)) = (a < 6) := cLt (b := 6) h (by decide)
theorem cl1_6 {a : Nat} (h : a < 2 ^ 31) : ((6 : Int32) ≤ nI a) = (6 ≤ a) := cLe (a := 6) (by decide) h
theorem cl2_6 {a : Nat} (h : a < 2 ^ 31) : (nI a = (6 : Int32)) = (a = 6) := cEq (b := 6) h (by decide)
theorem cl3_6 {a : Nat} (h : a < 2 ^ 31) : ((6 : Int32) < nI a) = (6 < a) := cLt (a := 6) (by decide) h
theorem cl4_6 {a : Nat} (h : a < 2 ^ 31) : (nI a ≤ (6 : Int32)) = (a ≤ 6) := cLe (b := 6) h (by decide)
theorem cl5_6 {a : Nat} (h : a < 2 ^ 31) : ((6 : Int32) = nI a) = (6 = a) := cEq (a := 6) (by decide) h
theorem cl0_7 {a : Nat} (h : a < 2 ^ 31) : (nI a < (7 : Int32)) = (a < 7) := cLt (b := 7) h (by decide)
theorem cl1_7 {a : Nat} (h : a < 2 ^ 31) : ((7 : Int32) ≤ nI a) = (7 ≤ a) := cLe (a := 7) (by decide) h
theorem cl2_7 {a : Nat} (h : a < 2 ^ 31) : (nI a = (7 : Int32)) = (a = 7) := cEq (b := 7) h (by decide)
theorem cl3_7 {a : Nat} (h : a < 2 ^ 31) : ((7 : Int32) < nI a) = (7 < a) := cLt (a := 7) (by decide) h
theorem cl4_7 {a : Nat} (h : a < 2 ^ 31) : (nI a ≤ (7 : Int32)) = (a ≤ 7) := cLe (b := 7) h (by decide)
theorem cl5_7 {a : Nat} (h : a < 2 ^ 31) : ((7 : Int32) = nI a) = (7 = a) := cEq (a := 7) (by decide) h
theorem cl0_8 {a : Nat} (h : a < 2 ^ 31) : (nI a < (8 : Int32)) = (a < 8) := cLt (b := 8) h (by decide)
theorem cl1_8 {a : Nat} (h : a < 2 ^ 31) : ((8 : Int32) ≤ nI a) = (8 ≤ a) := cLe (a := 8) (by decide) h
theorem cl2_8 {a : Nat} (h : a < 2 ^ 31) : (nI a = (8 : Int32)) = (a = 8) := cEq (b := 8) h (by decide)
theorem cl3_8 {a : Nat} (h : a < 2 ^ 31) : ((8 : Int32) < nI a) = (8 < a) := cLt (a := 8) (by decide) h
theorem cl4_8 {a : Nat} (h : a < 2 ^ 31) : (nI a ≤ (8 : Int32)) = (a ≤ 8) := cLe (b := 8) h (by decide)
theorem cl5_8 {a : Nat} (h : a < 2 ^ 31) : ((8 : Int32) = nI a) = (8 = a) := cEq (a := 8) (by decide) h
theorem cl0_12 {a : Nat} (h : a < 2 ^ 31) : (nI a < (12 : Int32)) = (a < 12) := cLt (b := 12) h (by decide)
theorem cl1_12 {a : Nat} (h : a < 2 ^ 31) : ((12 : Int32) ≤ nI a) = (12 ≤ a) := cLe (a := 12) (by decide) h
theorem cl2_12 {a : Nat} (h : a < 2 ^ 31) : (nI a = (12 : Int32)) = (a = 12) := cEq (b := 12) h (by decide)
theorem cl3_12 {a : Nat} (h : a < 2 ^ 31) : ((12 : Int32) < nI a) = (12 < a) := cLt (a := 12) (by decide) h
theorem cl4_12 {a : Nat} (h : a < 2 ^ 31) : (nI a ≤ (12 : Int32)) = (a ≤ 12) := cLe (b := 12) h (by decide)
theorem cl5_12 {a : Nat} (h : a < 2 ^ 31) : ((12 : Int32) = nI a) = (12 = a) := cEq (a := 12) (by decide) h
theorem cl0_14 {a : Nat} (h : a < 2 ^ 31) : (nI a < (14 : Int32)) = (a < 14) := cLt (b := 14) h (by decide)
theorem cl1_14 {a : Nat} (h : a < 2 ^ 31) : ((14 : Int32) ≤ nI a) = (14 ≤ a) := cLe (a := 14) (by decide) h
theorem cl2_14 {a : Nat} (h : a < 2 ^ 31) : (nI a = (14 : Int32)) = (a = 14) := cEq (b := 14) h (by decide)
theorem cl3_14 {a : Nat} (h : a < 2 ^ 31) : ((14 : Int32) < nI a) = (14 < a) := cLt (a := 14) (by decide) h
theorem cl4_14 {a : Nat} (h : a < 2 ^ 31) : (nI a ≤ (14 : Int32)) = (a ≤ 14) := cLe (b := 14) h (by decide)
theorem cl5_14 {a : Nat} (h : a < 2 ^ 31) : ((14 : Int32) = nI a) = (14 = a) := cEq (a := 14) (by decide) h
theorem cl0_16 {a : Nat} (h : a < 2 ^ 31) : (nI a < (16 : Int32)) = (a < 16) := cLt (b := 16) h (by decide)
theorem cl1_16 {a : Nat} (h : a < 2 ^ 31) : ((16 : Int32) ≤ nI a) = (16 ≤ a) := cLe (a := 16) (by decide) h
theorem cl2_16 {a : Nat} (h : a < 2 ^ 31) : (nI a = (16 : Int32)) = (a = 16) := cEq (b := 16) h (by decide)
theorem cl3_16 {a : Nat} (h : a < 2 ^ 31) : ((16 : Int32) < nI a) = (16 < a) := cLt (a := 16) (by decide) h
theorem cl4_16 {a : Nat} (h : a < 2 ^ 31) : (nI a ≤ (16 : Int32)) = (a ≤ 16) := cLe (b := 16) h (by decide)
theorem cl5_16 {a : Nat} (h : a < 2 ^ 31) : ((16 : Int32) = nI a) = (16 = a) := cEq (a := 16) (by decide) h
theorem cl0_18 {a : Nat} (h : a < 2 ^ 31) : (nI a < (18 : Int32)) = (a < 18) := cLt (b := 18) h (by decide)
theorem cl1_18 {a : Nat} (h : a < 2 ^ 31) : ((18 : Int32) ≤ nI a) = (18 ≤ a) := cLe (a := 18) (by decide) h
theorem cl2_18 {a : Nat} (h : a < 2 ^ 31) : (nI a = (18 : Int32)) = (a = 18) := cEq (b := 18) h (by decide)
theorem cl3_18 {a : Nat} (h : a < 2 ^ 31) : ((18 : Int32) < nI a) = (18 < a) := cLt (a := 18) (by decide) h
theorem cl4_18 {a : Nat} (h : a < 2 ^ 31) : (nI a ≤ (18 : Int32)) = (a ≤ 18) := cLe (b := 18) h (by decide)
theorem cl5_18 {a : Nat} (h : a < 2 ^ 31) : ((18 : Int32) = nI a) = (18 = a) := cEq (a := 18) (by decide) h
theorem cl0_24 {a : Nat} (h : a < 2 ^ 31) : (nI a < (24 : Int32)) = (a < 24) := cLt (b := 24) h (by decide)
theorem cl1_24 {a : Nat} (h : a < 2 ^ 31) : ((24 : Int32) ≤ nI a) = (24 ≤ a) := cLe (a := 24) (by decide) h
theorem cl2_24 {a : Nat} (h : a < 2 ^ 31) : (nI a = (24 : Int32)) = (a = 24) := cEq (b := 24) h (by decide)
theorem cl3_24 {a : Nat} (h : a < 2 ^ 31) : ((24 : Int32) < nI a) = (24 < a) := cLt (a := 24) (by decide) h
theorem cl4_24 {a : Nat} (h : a < 2 ^ 31) : (nI a ≤ (24 : Int32)) = (a ≤ 24) := cLe (b := 24) h (by decide)
theorem cl5_24 {a : Nat} (h : a < 2 ^ 31) : ((24 : Int32) = nI a) = (24 = a) := cEq (a := 24) (by decide) h
theorem cl0_48 {a : Nat} (h : a < 2 ^ 31) : (nI a < (48 : Int32)) = (a < 48) := cLt (b := 48) h (by decide)
theorem cl1_48 {a : Nat} (h : a < 2 ^ 31) : ((48 : Int32) ≤ nI a) = (48 ≤ a) := cLe (a := 48) (by decide) h
theorem cl2_48 {a : Nat} (h : a < 2 ^ 31) : (nI a = (48 : Int32)) = (a = 48) := cEq (b := 48) h (by decide)
theorem cl3_48 {a : Nat} (h : a < 2 ^ 31) : ((48 : Int32) < nI a) = (48 < a) := cLt (a := 48) (by decide) h
theorem cl4_48 {a : Nat} (h : a < 2 ^ 31) : (nI a ≤ (48 : Int32)) = (a ≤ 48) := cLe (b := 48) h (by decide)
theorem cl5_48 {a : Nat} (h : a < 2 ^ 31) : ((48 : Int32) = nI a) = (48 = a) := cEq (a := 48) (by decide) h
theorem cl0_60 {a : Nat} (h : a < 2 ^ 31) : (nI a < (60 : Int32)) = (a < 60) := cLt (b := 60) h (by decide)
theorem cl1_60 {a : Nat} (h : a < 2 ^ 31) : ((60 : Int32) ≤ nI a) = (60 ≤ a) := cLe (a := 60) (by decide) h
theorem cl2_60 {a : Nat} (h : a < 2 ^ 31) : (nI a = (60 : Int32)) = (a = 60) := cEq (b := 60) h (by decide)
theorem cl3_60 {a : Nat} (h : a < 2 ^ 31) : ((60 : Int32) < nI a) = (60 < a) := cLt (a := 60) (by decide) h
theorem cl4_60 {a : Nat} (h : a < 2 ^ 31) : (nI a ≤ (60 : Int32)) = (a ≤ 60) := cLe (b := 60) h (by decide)
theorem cl5_60 {a : Nat} (h : a < 2 ^ 31) : ((60 : Int32) = nI a) = (60 = a) := cEq (a := 60) (by decide) h
theorem cl0_84 {a : Nat} (h : a < 2 ^ 31) : (nI a < (84 : Int32)) = (a < 84) := cLt (b := 84) h (by decide)
theorem cl1_84 {a : Nat} (h : a < 2 ^ 31) : ((84 : Int32) ≤ nI a) = (84 ≤ a) := cLe (a := 84) (by decide) h
theorem cl2_84 {a : Nat} (h : a < 2 ^ 31) : (nI a = (84 : Int32)) = (a = 84) := cEq (b := 84) h (by decide)
theorem cl3_84 {a : Nat} (h : a < 2 ^ 31) : ((84 : Int32) < nI a) = (84 < a) := cLt (a := 84) (by decide) h
theorem cl4_84 {a : Nat} (h : a < 2 ^ 31) : (nI a ≤ (84 : Int32)) = (a ≤ 84) := cLe (b := 84) h (by decide)
theorem cl5_84 {a : Nat} (h : a < 2 ^ 31) : ((84 : Int32) = nI a) = (84 = a) := cEq (a := 84) (by decide) h
theorem cl0_96 {a : Nat} (h : a < 2 ^ 31) : (nI a < (96 : Int32)) = (a < 96) := cLt (b := 96) h (by decide)
theorem cl1_96 {a : Nat} (h : a < 2 ^ 31) : ((96 : Int32) ≤ nI a) = (96 ≤ a) := cLe (a := 96) (by decide) h
theorem cl2_96 {a : Nat} (h : a < 2 ^ 31) : (nI a = (96 : Int32)) = (a = 96) := cEq (b := 96) h (by decide)
theorem cl3_96 {a : Nat} (h : a < 2 ^ 31) : ((96 : Int32) < nI a) = (96 < a) := cLt (a := 96) (by decide) h
theorem cl4_96 {a : Nat} (h : a < 2 ^ 31) : (nI a ≤ (96 : Int32)) = (a ≤ 96) := cLe (b := 96) h (by decide)
theorem cl5_96 {a : Nat} (h : a < 2 ^ 31) : ((96 : Int32) = nI a) = (96 = a) := cEq (a := 96) (by decide) h
theorem cl0_99 {a : Nat} (h : a < 2 ^ 31) : (nI a < (99 : Int32)) = (a < 99) := cLt (b := 99) h (by decide)
theorem cl1_99 {a : Nat} (h : a < 2 ^ 31) : ((99 : Int32) ≤ nI a) = (99 ≤ a) := cLe (a := 99) (by decide) h
theorem cl2_99 {a : Nat} (h : a < 2 ^ 31) : (nI a = (99 : Int32)) = (a = 99) := cEq (b := 99) h (by decide)
theorem cl3_99 {a : Nat} (h : a < 2 ^ 31) : ((99 : Int32) < nI a) = (99 < a) := cLt (a := 99) (by decide) h
theorem cl4_99 {a : Nat} (h : a < 2 ^ 31) : (nI a ≤ (99 : Int32)) = (a ≤ 99) := cLe (b := 99) h (by decide)
theorem cl5_99 {a : Nat} (h : a < 2 ^ 31) : ((99 : Int32) = nI a) = (99 = a) := cEq (a := 99) (by decide) h
theorem cl0_255 {a : Nat} (h : a < 2 ^ 31) : (nI a < (255 : Int32)) = (a < 255) := cLt (b := 255) h (by decide)
theorem cl1_255 {a : Nat} (h : a < 2 ^ 31) : ((255 : Int32) ≤ nI a) = (255 ≤ a) := cLe (a := 255) (by decide) h
theorem cl2_255 {a : Nat} (h : a < 2 ^ 31) : (nI a = (255 : Int32)) = (a = 255) := cEq (b := 255) h (by decide)
theorem cl3_255 {a : Nat} (h : a < 2 ^ 31) : ((255 : Int32) < nI a) = (255 < a) := cLt (a := 255) (by decide) h
theorem cl4_255 {a : Nat} (h : a < 2 ^ 31) : (nI a ≤ (255 : Int32)) = (a ≤ 255) := cLe (b := 255) h (by decide)
theorem cl5_255 {a : Nat} (h : a < 2 ^ 31) : ((255 : Int32) = nI a) = (255 = a) := cEq (a := 255) (by decide) h
theorem al_1 (a : Nat) : (1 : Int32) + nI a = nI (1 + a) := nI_add 1 a
theorem ar_1 (a : Nat) : nI a + (1 : Int32) = nI (a + 1) := nI_add a 1
theorem ml_1 (a : Nat) : (1 : Int32) * nI a = nI (1 * a) := pk_mul 1 a
theorem mr_1 (a : Nat) : nI a * (1 : Int32) = nI (a * 1) := pk_mul a 1
theorem sr_1 {a : Nat} (h : 1 ≤ a) : nI a - (1 : Int32) = nI (a - 1) := pk_sub h
theorem al_2 (a : Nat) : (2 : Int32) + nI a = nI (2 + a) := nI_add 2 a
theorem ar_2 (a : Nat) : nI a + (2 : Int32) = nI (a + 2) := nI_add a 2
theorem ml_2 (a : Nat) : (2 : Int32) * nI a = nI (2 * a) := pk_mul 2 a
theorem mr_2 (a : Nat) : nI a * (2 : Int32) = nI (a * 2) := pk_mul a 2
theorem sr_2 {a : Nat} (h : 2 ≤ a) : nI a - (2 : Int32) = nI (a - 2) := pk_sub h
theorem al_3 (a : Nat) : (3 : Int32) + nI a = nI (3 + a) := nI_add 3 a
theorem ar_3 (a : Nat) : nI a + (3 : Int32) = nI (a + 3) := nI_add a 3
theorem ml_3 (a : Nat) : (3 : Int32) * nI a = nI (3 * a) := pk_mul 3 a
theorem mr_3 (a : Nat) : nI a * (3 : Int32) = nI (a * 3) := pk_mul a 3
theorem sr_3 {a : Nat} (h : 3 ≤ a) : nI a - (3 : Int32) = nI (a - 3) := pk_sub h
theorem al_4 (a : Nat) : (4 : Int32) + nI a = nI (4 + a) := nI_add 4 a
theorem ar_4 (a : Nat) : nI a + (4 : Int32) = nI (a + 4) := nI_add a 4
theorem ml_4 (a : Nat) : (4 : Int32) * nI a = nI (4 * a) := pk_mul 4 a
theorem mr_4 (a : Nat) : nI a * (4 : Int32) = nI (a * 4) := pk_mul a 4
theorem sr_4 {a : Nat} (h : 4 ≤ a) : nI a - (4 : Int32) = nI (a - 4) := pk_sub h
theorem al_5 (a : Nat) : (5 : Int32) + nI a = nI (5 + a) := nI_add 5 a
theorem ar_5 (a : Nat) : nI a + (5 : Int32) = nI (a + 5) := nI_add a 5
theorem ml_5 (a : Nat) : (5 : Int32) * nI a = nI (5 * a) := pk_mul 5 a
theorem mr_5 (a : Nat) : nI a * (5 : Int32) = nI (a * 5) := pk_mul a 5
theorem sr_5 {a : Nat} (h : 5 ≤ a) : nI a - (5 : Int32) = nI (a - 5) := pk_sub h
theorem al_6 (a : Nat) : (6 : Int32) + nI a = nI (6 + a) := nI_add 6 a
theorem ar_6 (a : Nat) : nI a + (6 : Int32) = nI (a + 6) := nI_add a 6
theorem ml_6 (a : Nat) : (6 : Int32) * nI a = nI (6 * a) := pk_mul 6 a
theorem mr_6 (a : Nat) : nI a * (6 : Int32) = nI (a * 6) := pk_mul a 6
theorem sr_6 {a : Nat} (h : 6 ≤ a) : nI a - (6 : Int32) = nI (a - 6) := pk_sub h
theorem al_7 (a : Nat) : (7 : Int32) + nI a = nI (7 + a) := nI_add 7 a
theorem ar_7 (a : Nat) : nI a + (7 : Int32) = nI (a + 7) := nI_add a 7
theorem ml_7 (a : Nat) : (7 : Int32) * nI a = nI (7 * a) := pk_mul 7 a
theorem mr_7 (a : Nat) : nI a * (7 : Int32) = nI (a * 7) := pk_mul a 7
theorem sr_7 {a : Nat} (h : 7 ≤ a) : nI a - (7 : Int32) = nI (a - 7) := pk_sub h
theorem al_8 (a : Nat) : (8 : Int32) + nI a = nI (8 + a) := nI_add 8 a
theorem ar_8 (a : Nat) : nI a + (8 : Int32) = nI (a + 8) := nI_add a 8
theorem ml_8 (a : Nat) : (8 : Int32) * nI a = nI (8 * a) := pk_mul 8 a
theorem mr_8 (a : Nat) : nI a * (8 : Int32) = nI (a * 8) := pk_mul a 8
theorem sr_8 {a : Nat} (h : 8 ≤ a) : nI a - (8 : Int32) = nI (a - 8) := pk_sub h
theorem al_9 (a : Nat) : (9 : Int32) + nI a = nI (9 + a) := nI_add 9 a
theorem ar_9 (a : Nat) : nI a + (9 : Int32) = nI (a + 9) := nI_add a 9
theorem ml_9 (a : Nat) : (9 : Int32) * nI a = nI (9 * a) := pk_mul 9 a
theorem mr_9 (a : Nat) : nI a * (9 : Int32) = nI (a * 9) := pk_mul a 9
theorem sr_9 {a : Nat} (h : 9 ≤ a) : nI a - (9 : Int32) = nI (a - 9) := pk_sub h
theorem al_10 (a : Nat) : (10 : Int32) + nI a = nI (10 + a) := nI_add 10 a
theorem ar_10 (a : Nat) : nI a + (10 : Int32) = nI (a + 10) := nI_add a 10
theorem ml_10 (a : Nat) : (10 : Int32) * nI a = nI (10 * a) := pk_mul 10 a
theorem mr_10 (a : Nat) : nI a * (10 : Int32) = nI (a * 10) := pk_mul a 10
theorem sr_10 {a : Nat} (h : 10 ≤ a) : nI a - (10 : Int32) = nI (a - 10) := pk_sub h
theorem al_11 (a : Nat) : (11 : Int32) + nI a = nI (11 + a) := nI_add 11 a
theorem ar_11 (a : Nat) : nI a + (11 : Int32) = nI (a + 11) := nI_add a 11
theorem ml_11 (a : Nat) : (11 : Int32) * nI a = nI (11 * a) := pk_mul 11 a
theorem mr_11 (a : Nat) : nI a * (11 : Int32) = nI (a * 11) := pk_mul a 11
theorem sr_11 {a : Nat} (h : 11 ≤ a) : nI a - (11 : Int32) = nI (a - 11) := pk_sub h
theorem al_12 (a : Nat) : (12 : Int32) + nI a = nI (12 + a) := nI_add 12 a
theorem ar_12 (a : Nat) : nI a + (12 : Int32) = nI (a + 12) := nI_add a 12
theorem ml_12 (a : Nat) : (12 : Int32) * nI a = nI (12 * a) := pk_mul 12 a
theorem mr_12 (a : Nat) : nI a * (12 : Int32) = nI (a * 12) := pk_mul a 12
theorem sr_12 {a : Nat} (h : 12 ≤ a) : nI a - (12 : Int32) = nI (a - 12) := pk_sub h
theorem al_13 (a : Nat) : (13 : Int32) + nI a = nI (13 + a) := nI_add 13 a
theorem ar_13 (a : Nat) : nI a + (13 : Int32) = nI (a + 13) := nI_add a 13
theorem ml_13 (a : Nat) : (13 : Int32) * nI a = nI (13 * a) := pk_mul 13 a
theorem mr_13 (a : Nat) : nI a * (13 : Int32) = nI (a * 13) := pk_mul a 13
theorem sr_13 {a : Nat} (h : 13 ≤ a) : nI a - (13 : Int32) = nI (a - 13) := pk_sub h
theorem al_14 (a : Nat) : (14 : Int32) + nI a = nI (14 + a) := nI_add 14 a
theorem ar_14 (a : Nat) : nI a + (14 : Int32) = nI (a + 14) := nI_add a 14
theorem ml_14 (a : Nat) : (14 : Int32) * nI a = nI (14 * a) := pk_mul 14 a
theorem mr_14 (a : Nat) : nI a * (14 : Int32) = nI (a * 14) := pk_mul a 14
theorem sr_14 {a : Nat} (h : 14 ≤ a) : nI a - (14 : Int32) = nI (a - 14) := pk_sub h
theorem al_15 (a : Nat) : (15 : Int32) + nI a = nI (15 + a) := nI_add 15 a
theorem ar_15 (a : Nat) : nI a + (15 : Int32) = nI (a + 15) := nI_add a 15
theorem ml_15 (a : Nat) : (15 : Int32) * nI a = nI (15 * a) := pk_mul 15 a
theorem mr_15 (a : Nat) : nI a * (15 : Int32) = nI (a * 15) := pk_mul a 15
theorem sr_15 {a : Nat} (h : 15 ≤ a) : nI a - (15 : Int32) = nI (a - 15) := pk_sub h
theorem al_16 (a : Nat) : (16 : Int32) + nI a = nI (16 + a) := nI_add 16 a
theorem ar_16 (a : Nat) : nI a + (16 : Int32) = nI (a + 16) := nI_add a 16
theorem ml_16 (a : Nat) : (16 : Int32) * nI a = nI (16 * a) := pk_mul 16 a
theorem mr_16 (a : Nat) : nI a * (16 : Int32) = nI (a * 16) := pk_mul a 16
theorem sr_16 {a : Nat} (h : 16 ≤ a) : nI a - (16 : Int32) = nI (a - 16) := pk_sub h
theorem al_17 (a : Nat) : (17 : Int32) + nI a = nI (17 + a) := nI_add 17 a
theorem ar_17 (a : Nat) : nI a + (17 : Int32) = nI (a + 17) := nI_add a 17
theorem ml_17 (a : Nat) : (17 : Int32) * nI a = nI (17 * a) := pk_mul 17 a
theorem mr_17 (a : Nat) : nI a * (17 : Int32) = nI (a * 17) := pk_mul a 17
theorem sr_17 {a : Nat} (h : 17 ≤ a) : nI a - (17 : Int32) = nI (a - 17) := pk_sub h
theorem al_18 (a : Nat) : (18 : Int32) + nI a = nI (18 + a) := nI_add 18 a
theorem ar_18 (a : Nat) : nI a + (18 : Int32) = nI (a + 18) := nI_add a 18
theorem ml_18 (a : Nat) : (18 : Int32) * nI a = nI (18 * a) := pk_mul 18 a
theorem mr_18 (a : Nat) : nI a * (18 : Int32) = nI (a * 18) := pk_mul a 18
theorem sr_18 {a : Nat} (h : 18 ≤ a) : nI a - (18 : Int32) = nI (a - 18) := pk_sub h
theorem al_19 (a : Nat) : (19 : Int32) + nI a = nI (19 + a) := nI_add 19 a
theorem ar_19 (a : Nat) : nI a + (19 : Int32) = nI (a + 19) := nI_add a 19
theorem ml_19 (a : Nat) : (19 : Int32) * nI a = nI (19 * a) := pk_mul 19 a
theorem mr_19 (a : Nat) : nI a * (19 : Int32) = nI (a * 19) := pk_mul a 19
theorem sr_19 {a : Nat} (h : 19 ≤ a) : nI a - (19 : Int32) = nI (a - 19) := pk_sub h
theorem al_20 (a : Nat) : (20 : Int32) + nI a = nI (20 + a) := nI_add 20 a
theorem ar_20 (a : Nat) : nI a + (20 : Int32) = nI (a + 20) := nI_add a 20
theorem ml_20 (a : Nat) : (20 : Int32) * nI a = nI (20 * a) := pk_mul 20 a
theorem mr_20 (a : Nat) : nI a * (20 : Int32) = nI (a * 20) := pk_mul a 20
theorem sr_20 {a : Nat} (h : 20 ≤ a) : nI a - (20 : Int32) = nI (a - 20) := pk_sub h
theorem al_24 (a : Nat) : (24 : Int32) + nI a = nI (24 + a) := nI_add 24 a
theorem ar_24 (a : Nat) : nI a + (24 : Int32) = nI (a + 24) := nI_add a 24
theorem ml_24 (a : Nat) : (24 : Int32) * nI a = nI (24 * a) := pk_mul 24 a
theorem mr_24 (a : Nat) : nI a * (24 : Int32) = nI (a * 24) := pk_mul a 24
theorem sr_24 {a : Nat} (h : 24 ≤ a) : nI a - (24 : Int32) = nI (a - 24) := pk_sub h
theorem al_26 (a : Nat) : (26 : Int32) + nI a = nI (26 + a) := nI_add 26 a
theorem ar_26 (a : Nat) : nI a + (26 : Int32) = nI (a + 26) := nI_add a 26
theorem ml_26 (a : Nat) : (26 : Int32) * nI a = nI (26 * a) := pk_mul 26 a
theorem mr_26 (a : Nat) : nI a * (26 : Int32) = nI (a * 26) := pk_mul a 26
theorem sr_26 {a : Nat} (h : 26 ≤ a) : nI a - (26 : Int32) = nI (a - 26) := pk_sub h
theorem al_32 (a : Nat) : (32 : Int32) + nI a = nI (32 + a) := nI_add 32 a
theorem ar_32 (a : Nat) : nI a + (32 : Int32) = nI (a + 32) := nI_add a 32
theorem ml_32 (a : Nat) : (32 : Int32) * nI a = nI (32 * a) := pk_mul 32 a
theorem mr_32 (a : Nat) : nI a * (32 : Int32) = nI (a * 32) := pk_mul a 32
theorem sr_32 {a : Nat} (h : 32 ≤ a) : nI a - (32 : Int32) = nI (a - 32) := pk_sub h
theorem al_40 (a : Nat) : (40 : Int32) + nI a = nI (40 + a) := nI_add 40 a
theorem ar_40 (a : Nat) : nI a + (40 : Int32) = nI (a + 40) := nI_add a 40
theorem ml_40 (a : Nat) : (40 : Int32) * nI a = nI (40 * a) := pk_mul 40 a
theorem mr_40 (a : Nat) : nI a * (40 : Int32) = nI (a * 40) := pk_mul a 40
theorem sr_40 {a : Nat} (h : 40 ≤ a) : nI a - (40 : Int32) = nI (a - 40) := pk_sub h
theorem al_60 (a : Nat) : (60 : Int32) + nI a = nI (60 + a) := nI_add 60 a
theorem ar_60 (a : Nat) : nI a + (60 : Int32) = nI (a + 60) := nI_add a 60
theorem ml_60 (a : Nat) : (60 : Int32) * nI a = nI (60 * a) := pk_mul 60 a
theorem mr_60 (a : Nat) : nI a * (60 : Int32) = nI (a * 60) := pk_mul a 60
theorem sr_60 {a : Nat} (h : 60 ≤ a) : nI a - (60 : Int32) = nI (a - 60) := pk_sub h
theorem al_100 (a : Nat) : (100 : Int32) + nI a = nI (100 + a) := nI_add 100 a
theorem ar_100 (a : Nat) : nI a + (100 : Int32) = nI (a + 100) := nI_add a 100
theorem ml_100 (a : Nat) : (100 : Int32) * nI a = nI (100 * a) := pk_mul 100 a
theorem mr_100 (a : Nat) : nI a * (100 : Int32) = nI (a * 100) := pk_mul a 100
theorem sr_100 {a : Nat} (h : 100 ≤ a) : nI a - (100 : Int32) = nI (a - 100) := pk_sub h
theorem al_110 (a : Nat) : (110 : Int32) + nI a = nI (110 + a) := nI_add 110 a
theorem ar_110 (a : Nat) : nI a + (110 : Int32) = nI (a + 110) := nI_add a 110
theorem ml_110 (a : Nat) : (110 : Int32) * nI a = nI (110 * a) := pk_mul 110 a
theorem mr_110 (a : Nat) : nI a * (110 : Int32) = nI (a * 110) := pk_mul a 110
theorem sr_110 {a : Nat} (h : 110 ≤ a) : nI a - (110 : Int32) = nI (a - 110) := pk_sub h
theorem al_200 (a : Nat) : (200 : Int32) + nI a = nI (200 + a) := nI_add 200 a
theorem ar_200 (a : Nat) : nI a + (200 : Int32) = nI (a + 200) := nI_add a 200
theorem ml_200 (a : Nat) : (200 : Int32) * nI a = nI (200 * a) := pk_mul 200 a
theorem mr_200 (a : Nat) : nI a * (200 : Int32) = nI (a * 200) := pk_mul a 200
theorem sr_200 {a : Nat} (h : 200 ≤ a) : nI a - (200 : Int32) = nI (a - 200) := pk_sub h
theorem al_340 (a : Nat) : (340 : Int32) + nI a = nI (340 + a) := nI_add 340 a
theorem ar_340 (a : Nat) : nI a + (340 : Int32) = nI (a + 340) := nI_add a 340
theorem ml_340 (a : Nat) : (340 : Int32) * nI a = nI (340 * a) := pk_mul 340 a
theorem mr_340 (a : Nat) : nI a * (340 : Int32) = nI (a * 340) := pk_mul a 340
theorem sr_340 {a : Nat} (h : 340 ≤ a) : nI a - (340 : Int32) = nI (a - 340) := pk_sub h
theorem am1 {a : Nat} (h : 0 < a) : nI a + (-1) = nI (a - 1) := by
  obtain ⟨k, rfl⟩ : ∃ k, a = k + 1 := ⟨a - 1, by omega⟩
  exact pk_m1 k
theorem ne_m1_0 : ((-1 : Int32) = 0) = False := by decide
theorem ne_m1_1 : ((-1 : Int32) = 1) = False := by decide
theorem ne_m1_2 : ((-1 : Int32) = 2) = False := by decide
theorem ne_m1_3 : ((-1 : Int32) = 3) = False := by decide
theorem ne_m1_4 : ((-1 : Int32) = 4) = False := by decide
theorem ne_m1_5 : ((-1 : Int32) = 5) = False := by decide
theorem ne_0_m1 : ((0 : Int32) = -1) = False := by decide
theorem ne_0_1 : ((0 : Int32) = 1) = False := by decide
theorem ne_0_2 : ((0 : Int32) = 2) = False := by decide
theorem ne_0_3 : ((0 : Int32) = 3) = False := by decide
theorem ne_0_4 : ((0 : Int32) = 4) = False := by decide
theorem ne_0_5 : ((0 : Int32) = 5) = False := by decide
theorem ne_1_m1 : ((1 : Int32) = -1) = False := by decide
theorem ne_1_0 : ((1 : Int32) = 0) = False := by decide
theorem ne_1_2 : ((1 : Int32) = 2) = False := by decide
theorem ne_1_3 : ((1 : Int32) = 3) = False := by decide
theorem ne_1_4 : ((1 : Int32) = 4) = False := by decide
theorem ne_1_5 : ((1 : Int32) = 5) = False := by decide
theorem ne_2_m1 : ((2 : Int32) = -1) = False := by decide
theorem ne_2_0 : ((2 : Int32) = 0) = False := by decide
theorem ne_2_1 : ((2 : Int32) = 1) = False := by decide
theorem ne_2_3 : ((2 : Int32) = 3) = False := by decide
theorem ne_2_4 : ((2 : Int32) = 4) = False := by decide
theorem ne_2_5 : ((2 : Int32) = 5) = False := by decide
theorem ne_3_m1 : ((3 : Int32) = -1) = False := by decide
theorem ne_3_0 : ((3 : Int32) = 0) = False := by decide
theorem ne_3_1 : ((3 : Int32) = 1) = False := by decide
theorem ne_3_2 : ((3 : Int32) = 2) = False := by decide
theorem ne_3_4 : ((3 : Int32) = 4) = False := by decide
theorem ne_3_5 : ((3 : Int32) = 5) = False := by decide
theorem ne_4_m1 : ((4 : Int32) = -1) = False := by decide
theorem ne_4_0 : ((4 : Int32) = 0) = False := by decide
theorem ne_4_1 : ((4 : Int32) = 1) = False := by decide
theorem ne_4_2 : ((4 : Int32) = 2) = False := by decide
theorem ne_4_3 : ((4 : Int32) = 3) = False := by decide
theorem ne_4_5 : ((4 : Int32) = 5) = False := by decide
theorem ne_5_m1 : ((5 : Int32) = -1) = False := by decide
theorem ne_5_0 : ((5 : Int32) = 0) = False := by decide
theorem ne_5_1 : ((5 : Int32) = 1) = False := by decide
theorem ne_5_2 : ((5 : Int32) = 2) = False := by decide
theorem ne_5_3 : ((5 : Int32) = 3) = False := by decide
theorem ne_5_4 : ((5 : Int32) = 4) = False := by decide
/-- calls that leave both shops as they are -/
theorem Rel_out {M M' : Mm} (h : Rel M) (h2 : M'.2 = M.2) (hI : ∀ r, (2 ≤ r ∧ r ≤ 71) ∨ r = 151 ∨ r = 152 ∨ 172 < r → ∀ j, mI M' r j = mI M r j) (h1 : mI M' 1 3 = mI M 1 3) (h3 : mI M' 150 3 = mI M 150 3) (s : RSheet M') (t : RSlot M') (w : RWait M') (p : RTape M') : Rel M' := by
  refine ⟨Sk_of h2 h.1, ?_, RImg_cg h.2.2.1 h1 h3 (fun r hr => hI r (by omega)) (fun k => mR_of h2 _ _) (by rw [mZ_of h2]; exact Nat.le_refl _) (fun r q1 q2 => ⟨mT_of h2 r, mL_of h2 r, fun k => hI r (by omega) k, fun k => mR_of h2 _ _⟩), s, t, w, p⟩
  obtain ⟨nM, nP, nT, nK, nC, hS⟩ := h.2.1
  have e : mI M' 151 = mI M 151 := funext fun j => hI 151 (by omega) j
  refine ⟨nM, nP, nT, nK, nC, ?_⟩
  rw [e]
  exact Sh_M hS (fun o ho k => hI _ (by unfold nowB; omega) k) (fun k => mR_of h2 _ _) (by rw [mZ_of h2]; exact Nat.le_refl _) (fun r q1 q2 => ⟨mT_of h2 r, mL_of h2 r, fun k => hI r (by omega) k, fun k => mR_of h2 _ _⟩)
/-! sheets and slots */ -/
theorem shK : ∀ k, k < 4 → skR 119 k = 122 + 2 * k ∧ skT (122 + 2 * k) = 5 ∧ skR (122 + 2 * k) 2 = 122 + 2 * k + 1 ∧ skT (122 + 2 * k + 1) = 50 ∧ skL (122 + 2 * k + 1) = 24 := by decide
theorem slK : ∀ k, k < 5 → (skR 120 k = 130 + 4 * k ∧ skT (130 + 4 * k) = 7 ∧ skR (130 + 4 * k) 2 = 130 + 4 * k + 1 ∧ skT (130 + 4 * k + 1) = 3) ∧ skR (130 + 4 * k) 3 = 130 + 4 * k + 2 ∧ skT (130 + 4 * k + 2) = 5 ∧ skR (130 + 4 * k + 2) 2 = 130 + 4 * k + 3 ∧ skT (130 + 4 * k + 3) = 50 ∧ skL (130 + 4 * k + 3) = 24 := by decide
theorem shR {M : Mm} (h : Sk M) {k : Nat} (hk : k < 4) : mR M 119 k = 122 + 2 * k := h.R (by decide) (by decide) (shK k hk).1
theorem shO {M : Mm} (h : Sk M) {k : Nat} (hk : k < 4) : zO M (122 + 2 * k) 5 = True := eq_true (h.O (by omega) (by omega) (shK k hk).2.1)
theorem shR2 {M : Mm} (h : Sk M) {k : Nat} (hk : k < 4) : mR M (122 + 2 * k) 2 = 122 + 2 * k + 1 := h.R (by omega) (by omega) (shK k hk).2.2.1
theorem shO1 {M : Mm} (h : Sk M) {k : Nat} (hk : k < 4) : zO M (122 + 2 * k + 1) 50 = True := eq_true (h.O (by omega) (by omega) (shK k hk).2.2.2.1)
theorem shL1 {M : Mm} (h : Sk M) {k : Nat} (hk : k < 4) : mL M (122 + 2 * k + 1) = 24 := h.L (by omega) (shK k hk).2.2.2.2
theorem slR {M : Mm} (h : Sk M) {k : Nat} (hk : k < 5) : mR M 120 k = 130 + 4 * k := h.R (by decide) (by decide) (slK k hk).1.1
theorem slO {M : Mm} (h : Sk M) {k : Nat} (hk : k < 5) : zO M (130 + 4 * k) 7 = True := eq_true (h.O (by omega) (by omega) (slK k hk).1.2.1)
theorem slR2 {M : Mm} (h : Sk M) {k : Nat} (hk : k < 5) : mR M (130 + 4 * k) 2 = 130 + 4 * k + 1 := h.R (by omega) (by omega) (slK k hk).1.2.2.1
theorem slO1 {M : Mm} (h : Sk M) {k : Nat} (hk : k < 5) : zO M (130 + 4 * k + 1) 3 = True := eq_true (h.O (by omega) (by omega) (slK k hk).1.2.2.2)
theorem slR3 {M : Mm} (h : Sk M) {k : Nat} (hk : k < 5) : mR M (130 + 4 * k) 3 = 130 + 4 * k + 2 := h.R (by omega) (by omega) (slK k hk).2.1
theorem slO2 {M : Mm} (h : Sk M) {k : Nat} (hk : k < 5) : zO M (130 + 4 * k + 2) 5 = True := eq_true (h.O (by omega) (by omega) (slK k hk).2.2.1)
theorem slR4 {M : Mm} (h : Sk M) {k : Nat} (hk : k < 5) : mR M (130 + 4 * k + 2) 2 = 130 + 4 * k + 3 := h.R (by omega) (by omega) (slK k hk).2.2.2.1
theorem slO3 {M : Mm} (h : Sk M) {k : Nat} (hk : k < 5) : zO M (130 + 4 * k + 3) 50 = True := eq_true (h.O (by omega) (by omega) (slK k hk).2.2.2.2.1)
theorem slL3 {M : Mm} (h : Sk M) {k : Nat} (hk : k < 5) : mL M (130 + 4 * k + 3) = 24 := h.L (by omega) (slK k hk).2.2.2.2.2
/-- a loop of N turns -/
theorem zloop {X : List Int32} {C : Nat → List Value → Mm → Option Value → Mm → Prop} {cd : List zEn} {mc ms : Nat} {cs : List zEn} {uc us : Nat} {Q : zQt} {σ : Type} (I : Nat → σ → Prop) (L : Nat → σ → List Value) (F : σ → Mm) (N : Nat) (hx : ∀ s, I N s → zgo X C cd mc ms cs (L N s) [] uc us (F s) Q) (hs : ∀ k s, k < N → I k s → (∀ s', I (k + 1) s' → zgo X C cd mc ms cs (L (k + 1) s') [] uc us (F s') Q) → zgo X C cd mc ms cs (L k s) [] uc us (F s) Q) : ∀ n k, k + n = N → ∀ s, I k s → zgo X C cd mc ms cs (L k s) [] uc us (F s) Q := by
  intro n
  induction n with
  | zero =>
    intro k hk s h
    obtain rfl : k = N := by omega
    exact hx s h
  | succ n ih =>
    intro k hk s h
    exact hs k s (by omega) h (fun s' h' => ih (k + 1) (by omega) s' h')
theorem zloop0 {X : List Int32} {C : Nat → List Value → Mm → Option Value → Mm → Prop} {cd : List zEn} {mc ms : Nat} {cs : List zEn} {uc us : Nat} {Q : zQt} {σ : Type} (I : Nat → σ → Prop) (L : Nat → σ → List Value) (F : σ → Mm) (N : Nat) (s : σ) (h0 : I 0 s) (hx : ∀ s, I N s → zgo X C cd mc ms cs (L N s) [] uc us (F s) Q) (hs : ∀ k s, k < N → I k s → (∀ s', I (k + 1) s' → zgo X C cd mc ms cs (L (k + 1) s') [] uc us (F s') Q) → zgo X C cd mc ms cs (L k s) [] uc us (F s) Q) : zgo X C cd mc ms cs (L 0 s) [] uc us (F s) Q := zloop I L F N hx hs N 0 (by omega) s h0
