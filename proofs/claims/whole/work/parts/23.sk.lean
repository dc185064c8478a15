/-! THE SKELETON, cell by cell -/
theorem kO_1 {M : Mm} (h : Sk M) : zO M 1 11 = True := eq_true (h.O (by decide) (by decide) rfl)
theorem kR_1_0 {M : Mm} (h : Sk M) : mR M 1 0 = 2 := h.R (by decide) (by decide) rfl
theorem kR_1_1 {M : Mm} (h : Sk M) : mR M 1 1 = 37 := h.R (by decide) (by decide) rfl
theorem kR_1_2 {M : Mm} (h : Sk M) : mR M 1 2 = 72 := h.R (by decide) (by decide) rfl
theorem kR_1_4 {M : Mm} (h : Sk M) : mR M 1 4 = 107 := h.R (by decide) (by decide) rfl
theorem kR_1_5 {M : Mm} (h : Sk M) : mR M 1 5 = 114 := h.R (by decide) (by decide) rfl
theorem kR_1_6 {M : Mm} (h : Sk M) : mR M 1 6 = 115 := h.R (by decide) (by decide) rfl
theorem kR_1_7 {M : Mm} (h : Sk M) : mR M 1 7 = 119 := h.R (by decide) (by decide) rfl
theorem kR_1_8 {M : Mm} (h : Sk M) : mR M 1 8 = 120 := h.R (by decide) (by decide) rfl
theorem kR_1_9 {M : Mm} (h : Sk M) : mR M 1 9 = 121 := h.R (by decide) (by decide) rfl
theorem kO_2 {M : Mm} (h : Sk M) : zO M 2 6 = True := eq_true (h.O (by decide) (by decide) rfl)
theorem kR_2_0 {M : Mm} (h : Sk M) : mR M 2 0 = 3 := h.R (by decide) (by decide) rfl
theorem kR_2_2 {M : Mm} (h : Sk M) : mR M 2 2 = 4 := h.R (by decide) (by decide) rfl
theorem kR_2_3 {M : Mm} (h : Sk M) : mR M 2 3 = 6 := h.R (by decide) (by decide) rfl
theorem kR_2_5 {M : Mm} (h : Sk M) : mR M 2 5 = 7 := h.R (by decide) (by decide) rfl
theorem kR_2_7 {M : Mm} (h : Sk M) : mR M 2 7 = 8 := h.R (by decide) (by decide) rfl
theorem kR_2_8 {M : Mm} (h : Sk M) : mR M 2 8 = 12 := h.R (by decide) (by decide) rfl
theorem kO_3 {M : Mm} (h : Sk M) : zO M 3 62 = True := eq_true (h.O (by decide) (by decide) rfl)
theorem kA_3 {M : Mm} (h : Sk M) : zA M 3 = True := eq_true (h.A (by decide) (by decide) (by decide))
theorem kL_3 {M : Mm} (h : Sk M) : mL M 3 = 6 := h.L (by decide) rfl
theorem kV_3 : ∀ k, k < 6 → skR 3 k = 15 + 1 * k := by decide
theorem kV_3_ {M : Mm} (h : Sk M) {k : Nat} (hk : k < 6) : mR M 3 k = 15 + 1 * k := h.R (by decide) (by decide) (kV_3 k hk)
theorem kO_4 {M : Mm} (h : Sk M) : zO M 4 8 = True := eq_true (h.O (by decide) (by decide) rfl)
theorem kR_4_0 {M : Mm} (h : Sk M) : mR M 4 0 = 5 := h.R (by decide) (by decide) rfl
theorem kO_5 {M : Mm} (h : Sk M) : zO M 5 50 = True := eq_true (h.O (by decide) (by decide) rfl)
theorem kL_5 {M : Mm} (h : Sk M) : mL M 5 = 48 := h.L (by decide) rfl
theorem kO_6 {M : Mm} (h : Sk M) : zO M 6 63 = True := eq_true (h.O (by decide) (by decide) rfl)
theorem kA_6 {M : Mm} (h : Sk M) : zA M 6 = True := eq_true (h.A (by decide) (by decide) (by decide))
theorem kL_6 {M : Mm} (h : Sk M) : mL M 6 = 16 := h.L (by decide) rfl
theorem kV_6 : ∀ k, k < 16 → skR 6 k = 21 + 1 * k := by decide
theorem kV_6_ {M : Mm} (h : Sk M) {k : Nat} (hk : k < 16) : mR M 6 k = 21 + 1 * k := h.R (by decide) (by decide) (kV_6 k hk)
theorem kO_7 {M : Mm} (h : Sk M) : zO M 7 50 = True := eq_true (h.O (by decide) (by decide) rfl)
theorem kL_7 {M : Mm} (h : Sk M) : mL M 7 = 6 := h.L (by decide) rfl
theorem kO_8 {M : Mm} (h : Sk M) : zO M 8 1 = True := eq_true (h.O (by decide) (by decide) rfl)
theorem kR_8_0 {M : Mm} (h : Sk M) : mR M 8 0 = 9 := h.R (by decide) (by decide) rfl
theorem kR_8_2 {M : Mm} (h : Sk M) : mR M 8 2 = 10 := h.R (by decide) (by decide) rfl
theorem kR_8_3 {M : Mm} (h : Sk M) : mR M 8 3 = 11 := h.R (by decide) (by decide) rfl
theorem kO_9 {M : Mm} (h : Sk M) : zO M 9 69 = True := eq_true (h.O (by decide) (by decide) rfl)
theorem kA_9 {M : Mm} (h : Sk M) : zA M 9 = True := eq_true (h.A (by decide) (by decide) (by decide))
theorem kL_9 {M : Mm} (h : Sk M) : mL M 9 = 14 := h.L (by decide) rfl
theorem kO_10 {M : Mm} (h : Sk M) : zO M 10 50 = True := eq_true (h.O (by decide) (by decide) rfl)
theorem kL_10 {M : Mm} (h : Sk M) : mL M 10 = 3 := h.L (by decide) rfl
theorem kO_11 {M : Mm} (h : Sk M) : zO M 11 50 = True := eq_true (h.O (by decide) (by decide) rfl)
theorem kL_11 {M : Mm} (h : Sk M) : mL M 11 = 96 := h.L (by decide) rfl
theorem kO_12 {M : Mm} (h : Sk M) : zO M 12 0 = True := eq_true (h.O (by decide) (by decide) rfl)
theorem kR_12_0 {M : Mm} (h : Sk M) : mR M 12 0 = 13 := h.R (by decide) (by decide) rfl
theorem kR_12_1 {M : Mm} (h : Sk M) : mR M 12 1 = 14 := h.R (by decide) (by decide) rfl
theorem kO_13 {M : Mm} (h : Sk M) : zO M 13 50 = True := eq_true (h.O (by decide) (by decide) rfl)
theorem kL_13 {M : Mm} (h : Sk M) : mL M 13 = 8 := h.L (by decide) rfl
theorem kO_14 {M : Mm} (h : Sk M) : zO M 14 50 = True := eq_true (h.O (by decide) (by decide) rfl)
theorem kL_14 {M : Mm} (h : Sk M) : mL M 14 = 8 := h.L (by decide) rfl
theorem kO_15 {M : Mm} (h : Sk M) : zO M 15 2 = True := eq_true (h.O (by decide) (by decide) rfl)
theorem kO_16 {M : Mm} (h : Sk M) : zO M 16 2 = True := eq_true (h.O (by decide) (by decide) rfl)
theorem kO_17 {M : Mm} (h : Sk M) : zO M 17 2 = True := eq_true (h.O (by decide) (by decide) rfl)
theorem kO_18 {M : Mm} (h : Sk M) : zO M 18 2 = True := eq_true (h.O (by decide) (by decide) rfl)
theorem kO_19 {M : Mm} (h : Sk M) : zO M 19 2 = True := eq_true (h.O (by decide) (by decide) rfl)
theorem kO_20 {M : Mm} (h : Sk M) : zO M 20 2 = True := eq_true (h.O (by decide) (by decide) rfl)
theorem kO_21 {M : Mm} (h : Sk M) : zO M 21 3 = True := eq_true (h.O (by decide) (by decide) rfl)
theorem kO_22 {M : Mm} (h : Sk M) : zO M 22 3 = True := eq_true (h.O (by decide) (by decide) rfl)
theorem kO_23 {M : Mm} (h : Sk M) : zO M 23 3 = True := eq_true (h.O (by decide) (by decide) rfl)
theorem kO_24 {M : Mm} (h : Sk M) : zO M 24 3 = True := eq_true (h.O (by decide) (by decide) rfl)
theorem kO_25 {M : Mm} (h : Sk M) : zO M 25 3 = True := eq_true (h.O (by decide) (by decide) rfl)
theorem kO_26 {M : Mm} (h : Sk M) : zO M 26 3 = True := eq_true (h.O (by decide) (by decide) rfl)
theorem kO_27 {M : Mm} (h : Sk M) : zO M 27 3 = True := eq_true (h.O (by decide) (by decide) rfl)
theorem kO_28 {M : Mm} (h : Sk M) : zO M 28 3 = True := eq_true (h.O (by decide) (by decide) rfl)
theorem kO_29 {M : Mm} (h : Sk M) : zO M 29 3 = True := eq_true (h.O (by decide) (by decide) rfl)
theorem kO_30 {M : Mm} (h : Sk M) : zO M 30 3 = True := eq_true (h.O (by decide) (by decide) rfl)
theorem kO_31 {M : Mm} (h : Sk M) : zO M 31 3 = True := eq_true (h.O (by decide) (by decide) rfl)
theorem kO_32 {M : Mm} (h : Sk M) : zO M 32 3 = True := eq_true (h.O (by decide) (by decide) rfl)
theorem kO_33 {M : Mm} (h : Sk M) : zO M 33 3 = True := eq_true (h.O (by decide) (by decide) rfl)
theorem kO_34 {M : Mm} (h : Sk M) : zO M 34 3 = True := eq_true (h.O (by decide) (by decide) rfl)
theorem kO_35 {M : Mm} (h : Sk M) : zO M 35 3 = True := eq_true (h.O (by decide) (by decide) rfl)
theorem kO_36 {M : Mm} (h : Sk M) : zO M 36 3 = True := eq_true (h.O (by decide) (by decide) rfl)
theorem kO_37 {M : Mm} (h : Sk M) : zO M 37 6 = True := eq_true (h.O (by decide) (by decide) rfl)
theorem kR_37_0 {M : Mm} (h : Sk M) : mR M 37 0 = 38 := h.R (by decide) (by decide) rfl
theorem kR_37_2 {M : Mm} (h : Sk M) : mR M 37 2 = 39 := h.R (by decide) (by decide) rfl
theorem kR_37_3 {M : Mm} (h : Sk M) : mR M 37 3 = 41 := h.R (by decide) (by decide) rfl
theorem kR_37_5 {M : Mm} (h : Sk M) : mR M 37 5 = 42 := h.R (by decide) (by decide) rfl
theorem kR_37_7 {M : Mm} (h : Sk M) : mR M 37 7 = 43 := h.R (by decide) (by decide) rfl
theorem kR_37_8 {M : Mm} (h : Sk M) : mR M 37 8 = 47 := h.R (by decide) (by decide) rfl
theorem kO_38 {M : Mm} (h : Sk M) : zO M 38 62 = True := eq_true (h.O (by decide) (by decide) rfl)
theorem kA_38 {M : Mm} (h : Sk M) : zA M 38 = True := eq_true (h.A (by decide) (by decide) (by decide))
theorem kL_38 {M : Mm} (h : Sk M) : mL M 38 = 6 := h.L (by decide) rfl
theorem kV_38 : ∀ k, k < 6 → skR 38 k = 50 + 1 * k := by decide
theorem kV_38_ {M : Mm} (h : Sk M) {k : Nat} (hk : k < 6) : mR M 38 k = 50 + 1 * k := h.R (by decide) (by decide) (kV_38 k hk)
theorem kO_39 {M : Mm} (h : Sk M) : zO M 39 8 = True := eq_true (h.O (by decide) (by decide) rfl)
theorem kR_39_0 {M : Mm} (h : Sk M) : mR M 39 0 = 40 := h.R (by decide) (by decide) rfl
theorem kO_40 {M : Mm} (h : Sk M) : zO M 40 50 = True := eq_true (h.O (by decide) (by decide) rfl)
theorem kL_40 {M : Mm} (h : Sk M) : mL M 40 = 48 := h.L (by decide) rfl
theorem kO_41 {M : Mm} (h : Sk M) : zO M 41 63 = True := eq_true (h.O (by decide) (by decide) rfl)
theorem kA_41 {M : Mm} (h : Sk M) : zA M 41 = True := eq_true (h.A (by decide) (by decide) (by decide))
theorem kL_41 {M : Mm} (h : Sk M) : mL M 41 = 16 := h.L (by decide) rfl
theorem kV_41 : ∀ k, k < 16 → skR 41 k = 56 + 1 * k := by decide
theorem kV_41_ {M : Mm} (h : Sk M) {k : Nat} (hk : k < 16) : mR M 41 k = 56 + 1 * k := h.R (by decide) (by decide) (kV_41 k hk)
theorem kO_42 {M : Mm} (h : Sk M) : zO M 42 50 = True := eq_true (h.O (by decide) (by decide) rfl)
theorem kL_42 {M : Mm} (h : Sk M) : mL M 42 = 6 := h.L (by decide) rfl
theorem kO_43 {M : Mm} (h : Sk M) : zO M 43 1 = True := eq_true (h.O (by decide) (by decide) rfl)
theorem kR_43_0 {M : Mm} (h : Sk M) : mR M 43 0 = 44 := h.R (by decide) (by decide) rfl
theorem kR_43_2 {M : Mm} (h : Sk M) : mR M 43 2 = 45 := h.R (by decide) (by decide) rfl
theorem kR_43_3 {M : Mm} (h : Sk M) : mR M 43 3 = 46 := h.R (by decide) (by decide) rfl
theorem kO_44 {M : Mm} (h : Sk M) : zO M 44 69 = True := eq_true (h.O (by decide) (by decide) rfl)
theorem kA_44 {M : Mm} (h : Sk M) : zA M 44 = True := eq_true (h.A (by decide) (by decide) (by decide))
theorem kL_44 {M : Mm} (h : Sk M) : mL M 44 = 14 := h.L (by decide) rfl
theorem kO_45 {M : Mm} (h : Sk M) : zO M 45 50 = True := eq_true (h.O (by decide) (by decide) rfl)
theorem kL_45 {M : Mm} (h : Sk M) : mL M 45 = 3 := h.L (by decide) rfl
theorem kO_46 {M : Mm} (h : Sk M) : zO M 46 50 = True := eq_true (h.O (by decide) (by decide) rfl)
theorem kL_46 {M : Mm} (h : Sk M) : mL M 46 = 96 := h.L (by decide) rfl
theorem kO_47 {M : Mm} (h : Sk M) : zO M 47 0 = True := eq_true (h.O (by decide) (by decide) rfl)
theorem kR_47_0 {M : Mm} (h : Sk M) : mR M 47 0 = 48 := h.R (by decide) (by decide) rfl
theorem kR_47_1 {M : Mm} (h : Sk M) : mR M 47 1 = 49 := h.R (by decide) (by decide) rfl
theorem kO_48 {M : Mm} (h : Sk M) : zO M 48 50 = True := eq_true (h.O (by decide) (by decide) rfl)
theorem kL_48 {M : Mm} (h : Sk M) : mL M 48 = 8 := h.L (by decide) rfl
theorem kO_49 {M : Mm} (h : Sk M) : zO M 49 50 = True := eq_true (h.O (by decide) (by decide) rfl)
theorem kL_49 {M : Mm} (h : Sk M) : mL M 49 = 8 := h.L (by decide) rfl
theorem kO_50 {M : Mm} (h : Sk M) : zO M 50 2 = True := eq_true (h.O (by decide) (by decide) rfl)
theorem kO_51 {M : Mm} (h : Sk M) : zO M 51 2 = True := eq_true (h.O (by decide) (by decide) rfl)
theorem kO_52 {M : Mm} (h : Sk M) : zO M 52 2 = True := eq_true (h.O (by decide) (by decide) rfl)
theorem kO_53 {M : Mm} (h : Sk M) : zO M 53 2 = True := eq_true (h.O (by decide) (by decide) rfl)
theorem kO_54 {M : Mm} (h : Sk M) : zO M 54 2 = True := eq_true (h.O (by decide) (by decide) rfl)
theorem kO_55 {M : Mm} (h : Sk M) : zO M 55 2 = True := eq_true (h.O (by decide) (by decide) rfl)
theorem kO_56 {M : Mm} (h : Sk M) : zO M 56 3 = True := eq_true (h.O (by decide) (by decide) rfl)
theorem kO_57 {M : Mm} (h : Sk M) : zO M 57 3 = True := eq_true (h.O (by decide) (by decide) rfl)
theorem kO_58 {M : Mm} (h : Sk M) : zO M 58 3 = True := eq_true (h.O (by decide) (by decide) rfl)
theorem kO_59 {M : Mm} (h : Sk M) : zO M 59 3 = True := eq_true (h.O (by decide) (by decide) rfl)
theorem kO_60 {M : Mm} (h : Sk M) : zO M 60 3 = True := eq_true (h.O (by decide) (by decide) rfl)
theorem kO_61 {M : Mm} (h : Sk M) : zO M 61 3 = True := eq_true (h.O (by decide) (by decide) rfl)
theorem kO_62 {M : Mm} (h : Sk M) : zO M 62 3 = True := eq_true (h.O (by decide) (by decide) rfl)
theorem kO_63 {M : Mm} (h : Sk M) : zO M 63 3 = True := eq_true (h.O (by decide) (by decide) rfl)
theorem kO_64 {M : Mm} (h : Sk M) : zO M 64 3 = True := eq_true (h.O (by decide) (by decide) rfl)
theorem kO_65 {M : Mm} (h : Sk M) : zO M 65 3 = True := eq_true (h.O (by decide) (by decide) rfl)
theorem kO_66 {M : Mm} (h : Sk M) : zO M 66 3 = True := eq_true (h.O (by decide) (by decide) rfl)
theorem kO_67 {M : Mm} (h : Sk M) : zO M 67 3 = True := eq_true (h.O (by decide) (by decide) rfl)
theorem kO_68 {M : Mm} (h : Sk M) : zO M 68 3 = True := eq_true (h.O (by decide) (by decide) rfl)
theorem kO_69 {M : Mm} (h : Sk M) : zO M 69 3 = True := eq_true (h.O (by decide) (by decide) rfl)
theorem kO_70 {M : Mm} (h : Sk M) : zO M 70 3 = True := eq_true (h.O (by decide) (by decide) rfl)
theorem kO_71 {M : Mm} (h : Sk M) : zO M 71 3 = True := eq_true (h.O (by decide) (by decide) rfl)
theorem kO_72 {M : Mm} (h : Sk M) : zO M 72 6 = True := eq_true (h.O (by decide) (by decide) rfl)
theorem kR_72_0 {M : Mm} (h : Sk M) : mR M 72 0 = 73 := h.R (by decide) (by decide) rfl
theorem kR_72_2 {M : Mm} (h : Sk M) : mR M 72 2 = 74 := h.R (by decide) (by decide) rfl
theorem kR_72_3 {M : Mm} (h : Sk M) : mR M 72 3 = 76 := h.R (by decide) (by decide) rfl
theorem kR_72_5 {M : Mm} (h : Sk M) : mR M 72 5 = 77 := h.R (by decide) (by decide) rfl
theorem kR_72_7 {M : Mm} (h : Sk M) : mR M 72 7 = 78 := h.R (by decide) (by decide) rfl
theorem kR_72_8 {M : Mm} (h : Sk M) : mR M 72 8 = 82 := h.R (by decide) (by decide) rfl
theorem kO_73 {M : Mm} (h : Sk M) : zO M 73 62 = True := eq_true (h.O (by decide) (by decide) rfl)
theorem kA_73 {M : Mm} (h : Sk M) : zA M 73 = True := eq_true (h.A (by decide) (by decide) (by decide))
theorem kL_73 {M : Mm} (h : Sk M) : mL M 73 = 6 := h.L (by decide) rfl
theorem kV_73 : ∀ k, k < 6 → skR 73 k = 85 + 1 * k := by decide
theorem kV_73_ {M : Mm} (h : Sk M) {k : Nat} (hk : k < 6) : mR M 73 k = 85 + 1 * k := h.R (by decide) (by decide) (kV_73 k hk)
theorem kO_74 {M : Mm} (h : Sk M) : zO M 74 8 = True := eq_true (h.O (by decide) (by decide) rfl)
theorem kR_74_0 {M : Mm} (h : Sk M) : mR M 74 0 = 75 := h.R (by decide) (by decide) rfl
theorem kO_75 {M : Mm} (h : Sk M) : zO M 75 50 = True := eq_true (h.O (by decide) (by decide) rfl)
theorem kL_75 {M : Mm} (h : Sk M) : mL M 75 = 48 := h.L (by decide) rfl
theorem kO_76 {M : Mm} (h : Sk M) : zO M 76 63 = True := eq_true (h.O (by decide) (by decide) rfl)
theorem kA_76 {M : Mm} (h : Sk M) : zA M 76 = True := eq_true (h.A (by decide) (by decide) (by decide))
theorem kL_76 {M : Mm} (h : Sk M) : mL M 76 = 16 := h.L (by decide) rfl
theorem kV_76 : ∀ k, k < 16 → skR 76 k = 91 + 1 * k := by decide
theorem kV_76_ {M : Mm} (h : Sk M) {k : Nat} (hk : k < 16) : mR M 76 k = 91 + 1 * k := h.R (by decide) (by decide) (kV_76 k hk)
theorem kO_77 {M : Mm} (h : Sk M) : zO M 77 50 = True := eq_true (h.O (by decide) (by decide) rfl)
theorem kL_77 {M : Mm} (h : Sk M) : mL M 77 = 6 := h.L (by decide) rfl
theorem kO_78 {M : Mm} (h : Sk M) : zO M 78 1 = True := eq_true (h.O (by decide) (by decide) rfl)
theorem kR_78_0 {M : Mm} (h : Sk M) : mR M 78 0 = 79 := h.R (by decide) (by decide) rfl
theorem kR_78_2 {M : Mm} (h : Sk M) : mR M 78 2 = 80 := h.R (by decide) (by decide) rfl
theorem kR_78_3 {M : Mm} (h : Sk M) : mR M 78 3 = 81 := h.R (by decide) (by decide) rfl
theorem kO_79 {M : Mm} (h : Sk M) : zO M 79 69 = True := eq_true (h.O (by decide) (by decide) rfl)
theorem kA_79 {M : Mm} (h : Sk M) : zA M 79 = True := eq_true (h.A (by decide) (by decide) (by decide))
theorem kL_79 {M : Mm} (h : Sk M) : mL M 79 = 14 := h.L (by decide) rfl
theorem kO_80 {M : Mm} (h : Sk M) : zO M 80 50 = True := eq_true (h.O (by decide) (by decide) rfl)
theorem kL_80 {M : Mm} (h : Sk M) : mL M 80 = 3 := h.L (by decide) rfl
theorem kO_81 {M : Mm} (h : Sk M) : zO M 81 50 = True := eq_true (h.O (by decide) (by decide) rfl)
theorem kL_81 {M : Mm} (h : Sk M) : mL M 81 = 96 := h.L (by decide) rfl
theorem kO_82 {M : Mm} (h : Sk M) : zO M 82 0 = True := eq_true (h.O (by decide) (by decide) rfl)
theorem kR_82_0 {M : Mm} (h : Sk M) : mR M 82 0 = 83 := h.R (by decide) (by decide) rfl
theorem kR_82_1 {M : Mm} (h : Sk M) : mR M 82 1 = 84 := h.R (by decide) (by decide) rfl
theorem kO_83 {M : Mm} (h : Sk M) : zO M 83 50 = True := eq_true (h.O (by decide) (by decide) rfl)
theorem kL_83 {M : Mm} (h : Sk M) : mL M 83 = 8 := h.L (by decide) rfl
theorem kO_84 {M : Mm} (h : Sk M) : zO M 84 50 = True := eq_true (h.O (by decide) (by decide) rfl)
theorem kL_84 {M : Mm} (h : Sk M) : mL M 84 = 8 := h.L (by decide) rfl
theorem kO_85 {M : Mm} (h : Sk M) : zO M 85 2 = True := eq_true (h.O (by decide) (by decide) rfl)
theorem kO_86 {M : Mm} (h : Sk M) : zO M 86 2 = True := eq_true (h.O (by decide) (by decide) rfl)
theorem kO_87 {M : Mm} (h : Sk M) : zO M 87 2 = True := eq_true (h.O (by decide) (by decide) rfl)
theorem kO_88 {M : Mm} (h : Sk M) : zO M 88 2 = True := eq_true (h.O (by decide) (by decide) rfl)
theorem kO_89 {M : Mm} (h : Sk M) : zO M 89 2 = True := eq_true (h.O (by decide) (by decide) rfl)
theorem kO_90 {M : Mm} (h : Sk M) : zO M 90 2 = True := eq_true (h.O (by decide) (by decide) rfl)
theorem kO_91 {M : Mm} (h : Sk M) : zO M 91 3 = True := eq_true (h.O (by decide) (by decide) rfl)
theorem kO_92 {M : Mm} (h : Sk M) : zO M 92 3 = True := eq_true (h.O (by decide) (by decide) rfl)
theorem kO_93 {M : Mm} (h : Sk M) : zO M 93 3 = True := eq_true (h.O (by decide) (by decide) rfl)
theorem kO_94 {M : Mm} (h : Sk M) : zO M 94 3 = True := eq_true (h.O (by decide) (by decide) rfl)
theorem kO_95 {M : Mm} (h : Sk M) : zO M 95 3 = True := eq_true (h.O (by decide) (by decide) rfl)
theorem kO_96 {M : Mm} (h : Sk M) : zO M 96 3 = True := eq_true (h.O (by decide) (by decide) rfl)
theorem kO_97 {M : Mm} (h : Sk M) : zO M 97 3 = True := eq_true (h.O (by decide) (by decide) rfl)
theorem kO_98 {M : Mm} (h : Sk M) : zO M 98 3 = True := eq_true (h.O (by decide) (by decide) rfl)
theorem kO_99 {M : Mm} (h : Sk M) : zO M 99 3 = True := eq_true (h.O (by decide) (by decide) rfl)
theorem kO_100 {M : Mm} (h : Sk M) : zO M 100 3 = True := eq_true (h.O (by decide) (by decide) rfl)
theorem kO_101 {M : Mm} (h : Sk M) : zO M 101 3 = True := eq_true (h.O (by decide) (by decide) rfl)
theorem kO_102 {M : Mm} (h : Sk M) : zO M 102 3 = True := eq_true (h.O (by decide) (by decide) rfl)
theorem kO_103 {M : Mm} (h : Sk M) : zO M 103 3 = True := eq_true (h.O (by decide) (by decide) rfl)
theorem kO_104 {M : Mm} (h : Sk M) : zO M 104 3 = True := eq_true (h.O (by decide) (by decide) rfl)
theorem kO_105 {M : Mm} (h : Sk M) : zO M 105 3 = True := eq_true (h.O (by decide) (by decide) rfl)
theorem kO_106 {M : Mm} (h : Sk M) : zO M 106 3 = True := eq_true (h.O (by decide) (by decide) rfl)
theorem kO_107 {M : Mm} (h : Sk M) : zO M 107 4 = True := eq_true (h.O (by decide) (by decide) rfl)
theorem kR_107_2 {M : Mm} (h : Sk M) : mR M 107 2 = 108 := h.R (by decide) (by decide) rfl
theorem kR_107_3 {M : Mm} (h : Sk M) : mR M 107 3 = 109 := h.R (by decide) (by decide) rfl
theorem kR_107_4 {M : Mm} (h : Sk M) : mR M 107 4 = 110 := h.R (by decide) (by decide) rfl
theorem kR_107_5 {M : Mm} (h : Sk M) : mR M 107 5 = 111 := h.R (by decide) (by decide) rfl
theorem kR_107_6 {M : Mm} (h : Sk M) : mR M 107 6 = 112 := h.R (by decide) (by decide) rfl
theorem kO_108 {M : Mm} (h : Sk M) : zO M 108 50 = True := eq_true (h.O (by decide) (by decide) rfl)
theorem kL_108 {M : Mm} (h : Sk M) : mL M 108 = 6 := h.L (by decide) rfl
theorem kO_109 {M : Mm} (h : Sk M) : zO M 109 50 = True := eq_true (h.O (by decide) (by decide) rfl)
theorem kL_109 {M : Mm} (h : Sk M) : mL M 109 = 6 := h.L (by decide) rfl
theorem kO_110 {M : Mm} (h : Sk M) : zO M 110 50 = True := eq_true (h.O (by decide) (by decide) rfl)
theorem kL_110 {M : Mm} (h : Sk M) : mL M 110 = 6 := h.L (by decide) rfl
theorem kO_111 {M : Mm} (h : Sk M) : zO M 111 50 = True := eq_true (h.O (by decide) (by decide) rfl)
theorem kL_111 {M : Mm} (h : Sk M) : mL M 111 = 6 := h.L (by decide) rfl
theorem kO_112 {M : Mm} (h : Sk M) : zO M 112 8 = True := eq_true (h.O (by decide) (by decide) rfl)
theorem kR_112_0 {M : Mm} (h : Sk M) : mR M 112 0 = 113 := h.R (by decide) (by decide) rfl
theorem kO_113 {M : Mm} (h : Sk M) : zO M 113 50 = True := eq_true (h.O (by decide) (by decide) rfl)
theorem kL_113 {M : Mm} (h : Sk M) : mL M 113 = 48 := h.L (by decide) rfl
theorem kO_114 {M : Mm} (h : Sk M) : zO M 114 50 = True := eq_true (h.O (by decide) (by decide) rfl)
theorem kL_114 {M : Mm} (h : Sk M) : mL M 114 = 256 := h.L (by decide) rfl
theorem kO_115 {M : Mm} (h : Sk M) : zO M 115 10 = True := eq_true (h.O (by decide) (by decide) rfl)
theorem kR_115_0 {M : Mm} (h : Sk M) : mR M 115 0 = 116 := h.R (by decide) (by decide) rfl
theorem kR_115_8 {M : Mm} (h : Sk M) : mR M 115 8 = 117 := h.R (by decide) (by decide) rfl
theorem kR_115_12 {M : Mm} (h : Sk M) : mR M 115 12 = 118 := h.R (by decide) (by decide) rfl
theorem kO_116 {M : Mm} (h : Sk M) : zO M 116 50 = True := eq_true (h.O (by decide) (by decide) rfl)
theorem kL_116 {M : Mm} (h : Sk M) : mL M 116 = 96 := h.L (by decide) rfl
theorem kO_117 {M : Mm} (h : Sk M) : zO M 117 50 = True := eq_true (h.O (by decide) (by decide) rfl)
theorem kL_117 {M : Mm} (h : Sk M) : mL M 117 = 96 := h.L (by decide) rfl
theorem kO_118 {M : Mm} (h : Sk M) : zO M 118 50 = True := eq_true (h.O (by decide) (by decide) rfl)
theorem kL_118 {M : Mm} (h : Sk M) : mL M 118 = 96 := h.L (by decide) rfl
theorem kO_119 {M : Mm} (h : Sk M) : zO M 119 65 = True := eq_true (h.O (by decide) (by decide) rfl)
theorem kA_119 {M : Mm} (h : Sk M) : zA M 119 = True := eq_true (h.A (by decide) (by decide) (by decide))
theorem kL_119 {M : Mm} (h : Sk M) : mL M 119 = 4 := h.L (by decide) rfl
theorem kV_119 : ∀ k, k < 4 → skR 119 k = 122 + 2 * k := by decide
theorem kV_119_ {M : Mm} (h : Sk M) {k : Nat} (hk : k < 4) : mR M 119 k = 122 + 2 * k := h.R (by decide) (by decide) (kV_119 k hk)
theorem kO_120 {M : Mm} (h : Sk M) : zO M 120 67 = True := eq_true (h.O (by decide) (by decide) rfl)
theorem kA_120 {M : Mm} (h : Sk M) : zA M 120 = True := eq_true (h.A (by decide) (by decide) (by decide))
theorem kL_120 {M : Mm} (h : Sk M) : mL M 120 = 5 := h.L (by decide) rfl
theorem kV_120 : ∀ k, k < 5 → skR 120 k = 130 + 4 * k := by decide
theorem kV_120_ {M : Mm} (h : Sk M) {k : Nat} (hk : k < 5) : mR M 120 k = 130 + 4 * k := h.R (by decide) (by decide) (kV_120 k hk)
theorem kO_121 {M : Mm} (h : Sk M) : zO M 121 50 = True := eq_true (h.O (by decide) (by decide) rfl)
theorem kL_121 {M : Mm} (h : Sk M) : mL M 121 = 60 := h.L (by decide) rfl
theorem kO_122 {M : Mm} (h : Sk M) : zO M 122 5 = True := eq_true (h.O (by decide) (by decide) rfl)
theorem kR_122_2 {M : Mm} (h : Sk M) : mR M 122 2 = 123 := h.R (by decide) (by decide) rfl
theorem kO_123 {M : Mm} (h : Sk M) : zO M 123 50 = True := eq_true (h.O (by decide) (by decide) rfl)
theorem kL_123 {M : Mm} (h : Sk M) : mL M 123 = 24 := h.L (by decide) rfl
theorem kO_124 {M : Mm} (h : Sk M) : zO M 124 5 = True := eq_true (h.O (by decide) (by decide) rfl)
theorem kR_124_2 {M : Mm} (h : Sk M) : mR M 124 2 = 125 := h.R (by decide) (by decide) rfl
theorem kO_125 {M : Mm} (h : Sk M) : zO M 125 50 = True := eq_true (h.O (by decide) (by decide) rfl)
theorem kL_125 {M : Mm} (h : Sk M) : mL M 125 = 24 := h.L (by decide) rfl
theorem kO_126 {M : Mm} (h : Sk M) : zO M 126 5 = True := eq_true (h.O (by decide) (by decide) rfl)
theorem kR_126_2 {M : Mm} (h : Sk M) : mR M 126 2 = 127 := h.R (by decide) (by decide) rfl
theorem kO_127 {M : Mm} (h : Sk M) : zO M 127 50 = True := eq_true (h.O (by decide) (by decide) rfl)
theorem kL_127 {M : Mm} (h : Sk M) : mL M 127 = 24 := h.L (by decide) rfl
theorem kO_128 {M : Mm} (h : Sk M) : zO M 128 5 = True := eq_true (h.O (by decide) (by decide) rfl)
theorem kR_128_2 {M : Mm} (h : Sk M) : mR M 128 2 = 129 := h.R (by decide) (by decide) rfl
theorem kO_129 {M : Mm} (h : Sk M) : zO M 129 50 = True := eq_true (h.O (by decide) (by decide) rfl)
theorem kL_129 {M : Mm} (h : Sk M) : mL M 129 = 24 := h.L (by decide) rfl
theorem kO_130 {M : Mm} (h : Sk M) : zO M 130 7 = True := eq_true (h.O (by decide) (by decide) rfl)
theorem kR_130_2 {M : Mm} (h : Sk M) : mR M 130 2 = 131 := h.R (by decide) (by decide) rfl
theorem kR_130_3 {M : Mm} (h : Sk M) : mR M 130 3 = 132 := h.R (by decide) (by decide) rfl
theorem kO_131 {M : Mm} (h : Sk M) : zO M 131 3 = True := eq_true (h.O (by decide) (by decide) rfl)
theorem kO_132 {M : Mm} (h : Sk M) : zO M 132 5 = True := eq_true (h.O (by decide) (by decide) rfl)
theorem kR_132_2 {M : Mm} (h : Sk M) : mR M 132 2 = 133 := h.R (by decide) (by decide) rfl
theorem kO_133 {M : Mm} (h : Sk M) : zO M 133 50 = True := eq_true (h.O (by decide) (by decide) rfl)
theorem kL_133 {M : Mm} (h : Sk M) : mL M 133 = 24 := h.L (by decide) rfl
theorem kO_134 {M : Mm} (h : Sk M) : zO M 134 7 = True := eq_true (h.O (by decide) (by decide) rfl)
theorem kR_134_2 {M : Mm} (h : Sk M) : mR M 134 2 = 135 := h.R (by decide) (by decide) rfl
theorem kR_134_3 {M : Mm} (h : Sk M) : mR M 134 3 = 136 := h.R (by decide) (by decide) rfl
theorem kO_135 {M : Mm} (h : Sk M) : zO M 135 3 = True := eq_true (h.O (by decide) (by decide) rfl)
theorem kO_136 {M : Mm} (h : Sk M) : zO M 136 5 = True := eq_true (h.O (by decide) (by decide) rfl)
theorem kR_136_2 {M : Mm} (h : Sk M) : mR M 136 2 = 137 := h.R (by decide) (by decide) rfl
theorem kO_137 {M : Mm} (h : Sk M) : zO M 137 50 = True := eq_true (h.O (by decide) (by decide) rfl)
theorem kL_137 {M : Mm} (h : Sk M) : mL M 137 = 24 := h.L (by decide) rfl
theorem kO_138 {M : Mm} (h : Sk M) : zO M 138 7 = True := eq_true (h.O (by decide) (by decide) rfl)
theorem kR_138_2 {M : Mm} (h : Sk M) : mR M 138 2 = 139 := h.R (by decide) (by decide) rfl
theorem kR_138_3 {M : Mm} (h : Sk M) : mR M 138 3 = 140 := h.R (by decide) (by decide) rfl
theorem kO_139 {M : Mm} (h : Sk M) : zO M 139 3 = True := eq_true (h.O (by decide) (by decide) rfl)
theorem kO_140 {M : Mm} (h : Sk M) : zO M 140 5 = True := eq_true (h.O (by decide) (by decide) rfl)
theorem kR_140_2 {M : Mm} (h : Sk M) : mR M 140 2 = 141 := h.R (by decide) (by decide) rfl
theorem kO_141 {M : Mm} (h : Sk M) : zO M 141 50 = True := eq_true (h.O (by decide) (by decide) rfl)
theorem kL_141 {M : Mm} (h : Sk M) : mL M 141 = 24 := h.L (by decide) rfl
theorem kO_142 {M : Mm} (h : Sk M) : zO M 142 7 = True := eq_true (h.O (by decide) (by decide) rfl)
theorem kR_142_2 {M : Mm} (h : Sk M) : mR M 142 2 = 143 := h.R (by decide) (by decide) rfl
theorem kR_142_3 {M : Mm} (h : Sk M) : mR M 142 3 = 144 := h.R (by decide) (by decide) rfl
theorem kO_143 {M : Mm} (h : Sk M) : zO M 143 3 = True := eq_true (h.O (by decide) (by decide) rfl)
theorem kO_144 {M : Mm} (h : Sk M) : zO M 144 5 = True := eq_true (h.O (by decide) (by decide) rfl)
theorem kR_144_2 {M : Mm} (h : Sk M) : mR M 144 2 = 145 := h.R (by decide) (by decide) rfl
theorem kO_145 {M : Mm} (h : Sk M) : zO M 145 50 = True := eq_true (h.O (by decide) (by decide) rfl)
theorem kL_145 {M : Mm} (h : Sk M) : mL M 145 = 24 := h.L (by decide) rfl
theorem kO_146 {M : Mm} (h : Sk M) : zO M 146 7 = True := eq_true (h.O (by decide) (by decide) rfl)
theorem kR_146_2 {M : Mm} (h : Sk M) : mR M 146 2 = 147 := h.R (by decide) (by decide) rfl
theorem kR_146_3 {M : Mm} (h : Sk M) : mR M 146 3 = 148 := h.R (by decide) (by decide) rfl
theorem kO_147 {M : Mm} (h : Sk M) : zO M 147 3 = True := eq_true (h.O (by decide) (by decide) rfl)
theorem kO_148 {M : Mm} (h : Sk M) : zO M 148 5 = True := eq_true (h.O (by decide) (by decide) rfl)
theorem kR_148_2 {M : Mm} (h : Sk M) : mR M 148 2 = 149 := h.R (by decide) (by decide) rfl
theorem kO_149 {M : Mm} (h : Sk M) : zO M 149 50 = True := eq_true (h.O (by decide) (by decide) rfl)
theorem kL_149 {M : Mm} (h : Sk M) : mL M 149 = 24 := h.L (by decide) rfl
theorem kO_150 {M : Mm} (h : Sk M) : zO M 150 12 = True := eq_true (h.O (by decide) (by decide) rfl)
theorem kR_150_0 {M : Mm} (h : Sk M) : mR M 150 0 = 151 := h.R (by decide) (by decide) rfl
theorem kR_150_1 {M : Mm} (h : Sk M) : mR M 150 1 = 152 := h.R (by decide) (by decide) rfl
theorem kR_150_2 {M : Mm} (h : Sk M) : mR M 150 2 = 153 := h.R (by decide) (by decide) rfl
theorem kR_150_4 {M : Mm} (h : Sk M) : mR M 150 4 = 154 := h.R (by decide) (by decide) rfl
theorem kR_150_5 {M : Mm} (h : Sk M) : mR M 150 5 = 155 := h.R (by decide) (by decide) rfl
theorem kR_150_6 {M : Mm} (h : Sk M) : mR M 150 6 = 156 := h.R (by decide) (by decide) rfl
theorem kR_150_7 {M : Mm} (h : Sk M) : mR M 150 7 = 157 := h.R (by decide) (by decide) rfl
theorem kR_150_8 {M : Mm} (h : Sk M) : mR M 150 8 = 158 := h.R (by decide) (by decide) rfl
theorem kR_150_9 {M : Mm} (h : Sk M) : mR M 150 9 = 159 := h.R (by decide) (by decide) rfl
theorem kR_150_10 {M : Mm} (h : Sk M) : mR M 150 10 = 160 := h.R (by decide) (by decide) rfl
theorem kR_150_11 {M : Mm} (h : Sk M) : mR M 150 11 = 161 := h.R (by decide) (by decide) rfl
theorem kR_150_12 {M : Mm} (h : Sk M) : mR M 150 12 = 162 := h.R (by decide) (by decide) rfl
theorem kR_150_13 {M : Mm} (h : Sk M) : mR M 150 13 = 163 := h.R (by decide) (by decide) rfl
theorem kR_150_14 {M : Mm} (h : Sk M) : mR M 150 14 = 164 := h.R (by decide) (by decide) rfl
theorem kR_150_16 {M : Mm} (h : Sk M) : mR M 150 16 = 165 := h.R (by decide) (by decide) rfl
theorem kR_150_18 {M : Mm} (h : Sk M) : mR M 150 18 = 166 := h.R (by decide) (by decide) rfl
theorem kR_150_30 {M : Mm} (h : Sk M) : mR M 150 30 = 167 := h.R (by decide) (by decide) rfl
theorem kR_150_31 {M : Mm} (h : Sk M) : mR M 150 31 = 168 := h.R (by decide) (by decide) rfl
theorem kR_150_32 {M : Mm} (h : Sk M) : mR M 150 32 = 169 := h.R (by decide) (by decide) rfl
theorem kR_150_33 {M : Mm} (h : Sk M) : mR M 150 33 = 170 := h.R (by decide) (by decide) rfl
theorem kR_150_34 {M : Mm} (h : Sk M) : mR M 150 34 = 171 := h.R (by decide) (by decide) rfl
theorem kR_150_36 {M : Mm} (h : Sk M) : mR M 150 36 = 172 := h.R (by decide) (by decide) rfl
theorem kO_151 {M : Mm} (h : Sk M) : zO M 151 50 = True := eq_true (h.O (by decide) (by decide) rfl)
theorem kL_151 {M : Mm} (h : Sk M) : mL M 151 = 3332 := h.L (by decide) rfl
theorem kO_152 {M : Mm} (h : Sk M) : zO M 152 50 = True := eq_true (h.O (by decide) (by decide) rfl)
theorem kL_152 {M : Mm} (h : Sk M) : mL M 152 = 3332 := h.L (by decide) rfl
theorem kO_153 {M : Mm} (h : Sk M) : zO M 153 50 = True := eq_true (h.O (by decide) (by decide) rfl)
theorem kL_153 {M : Mm} (h : Sk M) : mL M 153 = 3332 := h.L (by decide) rfl
theorem kO_154 {M : Mm} (h : Sk M) : zO M 154 50 = True := eq_true (h.O (by decide) (by decide) rfl)
theorem kL_154 {M : Mm} (h : Sk M) : mL M 154 = 4 := h.L (by decide) rfl
theorem kO_155 {M : Mm} (h : Sk M) : zO M 155 50 = True := eq_true (h.O (by decide) (by decide) rfl)
theorem kL_155 {M : Mm} (h : Sk M) : mL M 155 = 4 := h.L (by decide) rfl
theorem kO_156 {M : Mm} (h : Sk M) : zO M 156 50 = True := eq_true (h.O (by decide) (by decide) rfl)
theorem kL_156 {M : Mm} (h : Sk M) : mL M 156 = 96 := h.L (by decide) rfl
theorem kO_157 {M : Mm} (h : Sk M) : zO M 157 50 = True := eq_true (h.O (by decide) (by decide) rfl)
theorem kL_157 {M : Mm} (h : Sk M) : mL M 157 = 5 := h.L (by decide) rfl
theorem kO_158 {M : Mm} (h : Sk M) : zO M 158 50 = True := eq_true (h.O (by decide) (by decide) rfl)
theorem kL_158 {M : Mm} (h : Sk M) : mL M 158 = 5 := h.L (by decide) rfl
theorem kO_159 {M : Mm} (h : Sk M) : zO M 159 50 = True := eq_true (h.O (by decide) (by decide) rfl)
theorem kL_159 {M : Mm} (h : Sk M) : mL M 159 = 5 := h.L (by decide) rfl
theorem kO_160 {M : Mm} (h : Sk M) : zO M 160 50 = True := eq_true (h.O (by decide) (by decide) rfl)
theorem kL_160 {M : Mm} (h : Sk M) : mL M 160 = 5 := h.L (by decide) rfl
theorem kO_161 {M : Mm} (h : Sk M) : zO M 161 50 = True := eq_true (h.O (by decide) (by decide) rfl)
theorem kL_161 {M : Mm} (h : Sk M) : mL M 161 = 120 := h.L (by decide) rfl
theorem kO_162 {M : Mm} (h : Sk M) : zO M 162 50 = True := eq_true (h.O (by decide) (by decide) rfl)
theorem kL_162 {M : Mm} (h : Sk M) : mL M 162 = 48 := h.L (by decide) rfl
theorem kO_163 {M : Mm} (h : Sk M) : zO M 163 50 = True := eq_true (h.O (by decide) (by decide) rfl)
theorem kL_163 {M : Mm} (h : Sk M) : mL M 163 = 16 := h.L (by decide) rfl
theorem kO_164 {M : Mm} (h : Sk M) : zO M 164 50 = True := eq_true (h.O (by decide) (by decide) rfl)
theorem kL_164 {M : Mm} (h : Sk M) : mL M 164 = 6 := h.L (by decide) rfl
theorem kO_165 {M : Mm} (h : Sk M) : zO M 165 50 = True := eq_true (h.O (by decide) (by decide) rfl)
theorem kL_165 {M : Mm} (h : Sk M) : mL M 165 = 6 := h.L (by decide) rfl
theorem kO_166 {M : Mm} (h : Sk M) : zO M 166 50 = True := eq_true (h.O (by decide) (by decide) rfl)
theorem kL_166 {M : Mm} (h : Sk M) : mL M 166 = 96 := h.L (by decide) rfl
theorem kO_167 {M : Mm} (h : Sk M) : zO M 167 50 = True := eq_true (h.O (by decide) (by decide) rfl)
theorem kL_167 {M : Mm} (h : Sk M) : mL M 167 = 128 := h.L (by decide) rfl
theorem kO_168 {M : Mm} (h : Sk M) : zO M 168 50 = True := eq_true (h.O (by decide) (by decide) rfl)
theorem kL_168 {M : Mm} (h : Sk M) : mL M 168 = 100 := h.L (by decide) rfl
theorem kO_169 {M : Mm} (h : Sk M) : zO M 169 50 = True := eq_true (h.O (by decide) (by decide) rfl)
theorem kL_169 {M : Mm} (h : Sk M) : mL M 169 = 256 := h.L (by decide) rfl
theorem kO_170 {M : Mm} (h : Sk M) : zO M 170 50 = True := eq_true (h.O (by decide) (by decide) rfl)
theorem kL_170 {M : Mm} (h : Sk M) : mL M 170 = 24 := h.L (by decide) rfl
theorem kO_171 {M : Mm} (h : Sk M) : zO M 171 50 = True := eq_true (h.O (by decide) (by decide) rfl)
theorem kL_171 {M : Mm} (h : Sk M) : mL M 171 = 60 := h.L (by decide) rfl
theorem kO_172 {M : Mm} (h : Sk M) : zO M 172 50 = True := eq_true (h.O (by decide) (by decide) rfl)
theorem kL_172 {M : Mm} (h : Sk M) : mL M 172 = 60 := h.L (by decide) rfl
theorem zlt31 {n : Nat} (h : n < 10000) : n < 2 ^ 31 := by omega
theorem phE0 (p : Nat) : (110 : Int32) + 14 * nI p = nI (110 + 14 * p) := by show nI 110 + nI 14 * nI p = _; rw [pk_mul, nI_add]
theorem phX0 {p : Nat} (h : p < 16) : ((110 : Int32) + 14 * nI p).toNatClampNeg = 110 + 14 * p := by rw [phE0]; exact nI_clamp (by omega)
theorem phB0 {p : Nat} (h : p < 16) : vp_in ((110 : Int32) + 14 * nI p) 3332 = True := by rw [phE0]; exact eq_true (vp_in_nI (by omega) (by omega))
theorem phE1 (p : Nat) : (110 : Int32) + 14 * nI p + 1 = nI (110 + 14 * p + 1) := by show nI 110 + nI 14 * nI p + nI 1 = _; rw [pk_mul, nI_add, nI_add]
theorem phX1 {p : Nat} (h : p < 16) : ((110 : Int32) + 14 * nI p + 1).toNatClampNeg = 110 + 14 * p + 1 := by rw [phE1]; exact nI_clamp (by omega)
theorem phB1 {p : Nat} (h : p < 16) : vp_in ((110 : Int32) + 14 * nI p + 1) 3332 = True := by rw [phE1]; exact eq_true (vp_in_nI (by omega) (by omega))
theorem phE2 (p : Nat) : (110 : Int32) + 14 * nI p + 2 = nI (110 + 14 * p + 2) := by show nI 110 + nI 14 * nI p + nI 2 = _; rw [pk_mul, nI_add, nI_add]
theorem phX2 {p : Nat} (h : p < 16) : ((110 : Int32) + 14 * nI p + 2).toNatClampNeg = 110 + 14 * p + 2 := by rw [phE2]; exact nI_clamp (by omega)
theorem phB2 {p : Nat} (h : p < 16) : vp_in ((110 : Int32) + 14 * nI p + 2) 3332 = True := by rw [phE2]; exact eq_true (vp_in_nI (by omega) (by omega))
theorem phE3 (p : Nat) : (110 : Int32) + 14 * nI p + 3 = nI (110 + 14 * p + 3) := by show nI 110 + nI 14 * nI p + nI 3 = _; rw [pk_mul, nI_add, nI_add]
theorem phX3 {p : Nat} (h : p < 16) : ((110 : Int32) + 14 * nI p + 3).toNatClampNeg = 110 + 14 * p + 3 := by rw [phE3]; exact nI_clamp (by omega)
theorem phB3 {p : Nat} (h : p < 16) : vp_in ((110 : Int32) + 14 * nI p + 3) 3332 = True := by rw [phE3]; exact eq_true (vp_in_nI (by omega) (by omega))
theorem phE4 (p : Nat) : (110 : Int32) + 14 * nI p + 4 = nI (110 + 14 * p + 4) := by show nI 110 + nI 14 * nI p + nI 4 = _; rw [pk_mul, nI_add, nI_add]
theorem phX4 {p : Nat} (h : p < 16) : ((110 : Int32) + 14 * nI p + 4).toNatClampNeg = 110 + 14 * p + 4 := by rw [phE4]; exact nI_clamp (by omega)
theorem phB4 {p : Nat} (h : p < 16) : vp_in ((110 : Int32) + 14 * nI p + 4) 3332 = True := by rw [phE4]; exact eq_true (vp_in_nI (by omega) (by omega))
theorem phE5 (p : Nat) : (110 : Int32) + 14 * nI p + 5 = nI (110 + 14 * p + 5) := by show nI 110 + nI 14 * nI p + nI 5 = _; rw [pk_mul, nI_add, nI_add]
theorem phX5 {p : Nat} (h : p < 16) : ((110 : Int32) + 14 * nI p + 5).toNatClampNeg = 110 + 14 * p + 5 := by rw [phE5]; exact nI_clamp (by omega)
theorem phB5 {p : Nat} (h : p < 16) : vp_in ((110 : Int32) + 14 * nI p + 5) 3332 = True := by rw [phE5]; exact eq_true (vp_in_nI (by omega) (by omega))
theorem phE6 (p : Nat) : (110 : Int32) + 14 * nI p + 6 = nI (110 + 14 * p + 6) := by show nI 110 + nI 14 * nI p + nI 6 = _; rw [pk_mul, nI_add, nI_add]
theorem phX6 {p : Nat} (h : p < 16) : ((110 : Int32) + 14 * nI p + 6).toNatClampNeg = 110 + 14 * p + 6 := by rw [phE6]; exact nI_clamp (by omega)
theorem phB6 {p : Nat} (h : p < 16) : vp_in ((110 : Int32) + 14 * nI p + 6) 3332 = True := by rw [phE6]; exact eq_true (vp_in_nI (by omega) (by omega))
theorem phE7 (p : Nat) : (110 : Int32) + 14 * nI p + 7 = nI (110 + 14 * p + 7) := by show nI 110 + nI 14 * nI p + nI 7 = _; rw [pk_mul, nI_add, nI_add]
theorem phX7 {p : Nat} (h : p < 16) : ((110 : Int32) + 14 * nI p + 7).toNatClampNeg = 110 + 14 * p + 7 := by rw [phE7]; exact nI_clamp (by omega)
theorem phB7 {p : Nat} (h : p < 16) : vp_in ((110 : Int32) + 14 * nI p + 7) 3332 = True := by rw [phE7]; exact eq_true (vp_in_nI (by omega) (by omega))
theorem phE8 (p : Nat) : (110 : Int32) + 14 * nI p + 8 = nI (110 + 14 * p + 8) := by show nI 110 + nI 14 * nI p + nI 8 = _; rw [pk_mul, nI_add, nI_add]
theorem phX8 {p : Nat} (h : p < 16) : ((110 : Int32) + 14 * nI p + 8).toNatClampNeg = 110 + 14 * p + 8 := by rw [phE8]; exact nI_clamp (by omega)
theorem phB8 {p : Nat} (h : p < 16) : vp_in ((110 : Int32) + 14 * nI p + 8) 3332 = True := by rw [phE8]; exact eq_true (vp_in_nI (by omega) (by omega))
theorem phE9 (p : Nat) : (110 : Int32) + 14 * nI p + 9 = nI (110 + 14 * p + 9) := by show nI 110 + nI 14 * nI p + nI 9 = _; rw [pk_mul, nI_add, nI_add]
theorem phX9 {p : Nat} (h : p < 16) : ((110 : Int32) + 14 * nI p + 9).toNatClampNeg = 110 + 14 * p + 9 := by rw [phE9]; exact nI_clamp (by omega)
theorem phB9 {p : Nat} (h : p < 16) : vp_in ((110 : Int32) + 14 * nI p + 9) 3332 = True := by rw [phE9]; exact eq_true (vp_in_nI (by omega) (by omega))
theorem phE10 (p : Nat) : (110 : Int32) + 14 * nI p + 10 = nI (110 + 14 * p + 10) := by show nI 110 + nI 14 * nI p + nI 10 = _; rw [pk_mul, nI_add, nI_add]
theorem phX10 {p : Nat} (h : p < 16) : ((110 : Int32) + 14 * nI p + 10).toNatClampNeg = 110 + 14 * p + 10 := by rw [phE10]; exact nI_clamp (by omega)
theorem phB10 {p : Nat} (h : p < 16) : vp_in ((110 : Int32) + 14 * nI p + 10) 3332 = True := by rw [phE10]; exact eq_true (vp_in_nI (by omega) (by omega))
theorem phE11 (p : Nat) : (110 : Int32) + 14 * nI p + 11 = nI (110 + 14 * p + 11) := by show nI 110 + nI 14 * nI p + nI 11 = _; rw [pk_mul, nI_add, nI_add]
theorem phX11 {p : Nat} (h : p < 16) : ((110 : Int32) + 14 * nI p + 11).toNatClampNeg = 110 + 14 * p + 11 := by rw [phE11]; exact nI_clamp (by omega)
theorem phB11 {p : Nat} (h : p < 16) : vp_in ((110 : Int32) + 14 * nI p + 11) 3332 = True := by rw [phE11]; exact eq_true (vp_in_nI (by omega) (by omega))
theorem phE12 (p : Nat) : (110 : Int32) + 14 * nI p + 12 = nI (110 + 14 * p + 12) := by show nI 110 + nI 14 * nI p + nI 12 = _; rw [pk_mul, nI_add, nI_add]
theorem phX12 {p : Nat} (h : p < 16) : ((110 : Int32) + 14 * nI p + 12).toNatClampNeg = 110 + 14 * p + 12 := by rw [phE12]; exact nI_clamp (by omega)
theorem phB12 {p : Nat} (h : p < 16) : vp_in ((110 : Int32) + 14 * nI p + 12) 3332 = True := by rw [phE12]; exact eq_true (vp_in_nI (by omega) (by omega))
theorem phE13 (p : Nat) : (110 : Int32) + 14 * nI p + 13 = nI (110 + 14 * p + 13) := by show nI 110 + nI 14 * nI p + nI 13 = _; rw [pk_mul, nI_add, nI_add]
theorem phX13 {p : Nat} (h : p < 16) : ((110 : Int32) + 14 * nI p + 13).toNatClampNeg = 110 + 14 * p + 13 := by rw [phE13]; exact nI_clamp (by omega)
theorem phB13 {p : Nat} (h : p < 16) : vp_in ((110 : Int32) + 14 * nI p + 13) 3332 = True := by rw [phE13]; exact eq_true (vp_in_nI (by omega) (by omega))
theorem mdE0 (p : Nat) : (40 : Int32) + 3 * nI p = nI (40 + 3 * p) := by show nI 40 + nI 3 * nI p = _; rw [pk_mul, nI_add]
theorem mdX0 {p : Nat} (h : p < 6) : ((40 : Int32) + 3 * nI p).toNatClampNeg = 40 + 3 * p := by rw [mdE0]; exact nI_clamp (by omega)
theorem mdB0 {p : Nat} (h : p < 6) : vp_in ((40 : Int32) + 3 * nI p) 3332 = True := by rw [mdE0]; exact eq_true (vp_in_nI (by omega) (by omega))
theorem mdE1 (p : Nat) : (40 : Int32) + 3 * nI p + 1 = nI (40 + 3 * p + 1) := by show nI 40 + nI 3 * nI p + nI 1 = _; rw [pk_mul, nI_add, nI_add]
theorem mdX1 {p : Nat} (h : p < 6) : ((40 : Int32) + 3 * nI p + 1).toNatClampNeg = 40 + 3 * p + 1 := by rw [mdE1]; exact nI_clamp (by omega)
theorem mdB1 {p : Nat} (h : p < 6) : vp_in ((40 : Int32) + 3 * nI p + 1) 3332 = True := by rw [mdE1]; exact eq_true (vp_in_nI (by omega) (by omega))
theorem mdE2 (p : Nat) : (40 : Int32) + 3 * nI p + 2 = nI (40 + 3 * p + 2) := by show nI 40 + nI 3 * nI p + nI 2 = _; rw [pk_mul, nI_add, nI_add]
theorem mdX2 {p : Nat} (h : p < 6) : ((40 : Int32) + 3 * nI p + 2).toNatClampNeg = 40 + 3 * p + 2 := by rw [mdE2]; exact nI_clamp (by omega)
theorem mdB2 {p : Nat} (h : p < 6) : vp_in ((40 : Int32) + 3 * nI p + 2) 3332 = True := by rw [mdE2]; exact eq_true (vp_in_nI (by omega) (by omega))
theorem txE0 (p : Nat) : (340 : Int32) + 200 * nI p = nI (340 + 200 * p) := by show nI 340 + nI 200 * nI p = _; rw [pk_mul, nI_add]
theorem txX0 {p : Nat} (h : p < 14) : ((340 : Int32) + 200 * nI p).toNatClampNeg = 340 + 200 * p := by rw [txE0]; exact nI_clamp (by omega)
theorem txB0 {p : Nat} (h : p < 14) : vp_in ((340 : Int32) + 200 * nI p) 3332 = True := by rw [txE0]; exact eq_true (vp_in_nI (by omega) (by omega))
theorem txE1 (p : Nat) : (340 : Int32) + 200 * nI p + 1 = nI (340 + 200 * p + 1) := by show nI 340 + nI 200 * nI p + nI 1 = _; rw [pk_mul, nI_add, nI_add]
theorem txX1 {p : Nat} (h : p < 14) : ((340 : Int32) + 200 * nI p + 1).toNatClampNeg = 340 + 200 * p + 1 := by rw [txE1]; exact nI_clamp (by omega)
theorem txB1 {p : Nat} (h : p < 14) : vp_in ((340 : Int32) + 200 * nI p + 1) 3332 = True := by rw [txE1]; exact eq_true (vp_in_nI (by omega) (by omega))
theorem txE2 (p : Nat) : (340 : Int32) + 200 * nI p + 2 = nI (340 + 200 * p + 2) := by show nI 340 + nI 200 * nI p + nI 2 = _; rw [pk_mul, nI_add, nI_add]
theorem txX2 {p : Nat} (h : p < 14) : ((340 : Int32) + 200 * nI p + 2).toNatClampNeg = 340 + 200 * p + 2 := by rw [txE2]; exact nI_clamp (by omega)
theorem txB2 {p : Nat} (h : p < 14) : vp_in ((340 : Int32) + 200 * nI p + 2) 3332 = True := by rw [txE2]; exact eq_true (vp_in_nI (by omega) (by omega))
theorem txE3 (p : Nat) : (340 : Int32) + 200 * nI p + 3 = nI (340 + 200 * p + 3) := by show nI 340 + nI 200 * nI p + nI 3 = _; rw [pk_mul, nI_add, nI_add]
theorem txX3 {p : Nat} (h : p < 14) : ((340 : Int32) + 200 * nI p + 3).toNatClampNeg = 340 + 200 * p + 3 := by rw [txE3]; exact nI_clamp (by omega)
theorem txB3 {p : Nat} (h : p < 14) : vp_in ((340 : Int32) + 200 * nI p + 3) 3332 = True := by rw [txE3]; exact eq_true (vp_in_nI (by omega) (by omega))
