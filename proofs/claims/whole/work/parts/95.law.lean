/-! the law, from two calls -/
set_option maxRecDepth 100000 in
theorem swE : ∀ c, c < 64 → zswT (nI c) [(0, 23), (1, 50), (2, 77), (3, 94), (4, 131), (5, 158), (6, 195), (7, 222), (8, 249), (9, 276), (10, 321), (11, 348), (12, 375), (13, 392), (14, 409), (15, 426), (16, 443), (17, 450), (18, 467), (19, 484), (20, 521), (21, 538), (22, 545), (23, 572), (24, 589), (25, 616), (26, 633), (27, 668), (28, 675), (29, 682), (30, 689), (31, 706), (32, 723), (33, 730), (34, 747), (35, 784), (36, 821), (37, 848), (38, 875), (39, 932), (40, 969), (41, 996), (42, 1023), (43, 1050), (44, 1067), (45, 1084), (46, 1091), (47, 1098)] 1115 = ([23, 50, 77, 94, 131, 158, 195, 222, 249, 276, 321, 348, 375, 392, 409, 426, 443, 450, 467, 484, 521, 538, 545, 572, 589, 616, 633, 668, 675, 682, 689, 706, 723, 730, 747, 784, 821, 848, 875, 932, 969, 996, 1023, 1050, 1067, 1084, 1091, 1098] : List Nat).getD c 1115 := by decide +kernel
theorem lt6 {n k : Nat} (hn : n ≤ 384) (h : n < 6 * k + 6) (hk : k ≤ 100) : (nI n - 6 < nI (6 * k)) = True := by
  apply eq_true
  rcases Nat.lt_or_ge n 6 with c | c
  · rw [Int32.lt_iff_toInt_lt, show (6 : Int32) = nI 6 from rfl, pk_sub_toInt (by omega) (by omega), nI_toInt (by omega)]
    omega
  · rw [sr_6 c, cLt (by omega) (by omega)]
    omega
set_option maxRecDepth 100000 in
set_option maxHeartbeats 4000000 in
theorem lawStep {X : List Int32} {k uc us : Nat} {M : Mm} {Q : zQt} (hPlan : ∀ {M : Mm}, Rel M → ∀ v, Opk X 122 125 [.int v] M) (hText : ∀ {M : Mm}, Rel M → zTp M → Opk X 172 189 [] M) (h : Rel M) (ht : zTp M) (hl : X.length ≤ 384) (c6 : 6 * k + 6 ≤ X.length) (hu : uc + 2 ≤ 600000) (hs : us + 99 ≤ 7302250) (hz : ∀ M2 uc2 us2, Rel M2 → zTp M2 → uc2 ≤ uc + 2 → us2 ≤ us + 99 → zgo X (zca X zML 300) pL_law 600000 7302250 tL_law_11 [.float 1, .ref 1, .ref 150, .int (nI (6 * k + 6))] [] uc2 us2 M2 Q) {c : Nat} (hc : c < 64) : zgo X (zca X zML 300) pL_law 600000 7302250 (zj pL_law (([23, 50, 77, 94, 131, 158, 195, 222, 249, 276, 321, 348, 375, 392, 409, 426, 443, 450, 467, 484, 521, 538, 545, 572, 589, 616, 633, 668, 675, 682, 689, 706, 723, 730, 747, 784, 821, 848, 875, 932, 969, 996, 1023, 1050, 1067, 1084, 1091, 1098] : List Nat).getD c 1115)) [.float 1, .ref 1, .ref 150, .int (nI (6 * k))] [] uc us M Q := by
  rcases (show c = 0 ∨ c = 1 ∨ c = 2 ∨ c = 3 ∨ c = 4 ∨ c = 5 ∨ c = 6 ∨ c = 7 ∨ c = 8 ∨ c = 9 ∨ c = 10 ∨ c = 11 ∨ c = 12 ∨ c = 13 ∨ c = 14 ∨ c = 15 ∨ c = 16 ∨ c = 17 ∨ c = 18 ∨ c = 19 ∨ c = 20 ∨ c = 21 ∨ c = 22 ∨ c = 23 ∨ c = 24 ∨ c = 25 ∨ c = 26 ∨ c = 27 ∨ c = 28 ∨ c = 29 ∨ c = 30 ∨ c = 31 ∨ c = 32 ∨ c = 33 ∨ c = 34 ∨ c = 35 ∨ c = 36 ∨ c = 37 ∨ c = 38 ∨ c = 39 ∨ c = 40 ∨ c = 41 ∨ c = 42 ∨ c = 43 ∨ c = 44 ∨ c = 45 ∨ c = 46 ∨ c = 47 ∨ c = 48 ∨ c = 49 ∨ c = 50 ∨ c = 51 ∨ c = 52 ∨ c = 53 ∨ c = 54 ∨ c = 55 ∨ c = 56 ∨ c = 57 ∨ c = 58 ∨ c = 59 ∨ c = 60 ∨ c = 61 ∨ c = 62 ∨ c = 63 by omega) with rfl | rfl | rfl | rfl | rfl | rfl | rfl | rfl | rfl | rfl | rfl | rfl | rfl | rfl | rfl | rfl | rfl | rfl | rfl | rfl | rfl | rfl | rfl | rfl | rfl | rfl | rfl | rfl | rfl | rfl | rfl | rfl | rfl | rfl | rfl | rfl | rfl | rfl | rfl | rfl | rfl | rfl | rfl | rfl | rfl | rfl | rfl | rfl | rfl | rfl | rfl | rfl | rfl | rfl | rfl | rfl | rfl | rfl | rfl | rfl | rfl | rfl | rfl | rfl
  · show zgo X (zca X zML 300) pL_law 600000 7302250 (zj pL_law 23) _ _ _ _ _ _
    rw [jL_law_23]
    exact lw_model h ht hl c6 (by omega) (by omega) hz
  · show zgo X (zca X zML 300) pL_law 600000 7302250 (zj pL_law 50) _ _ _ _ _ _
    rw [jL_law_50]
    exact lw_asked h ht hl c6 (by omega) (by omega) hz
  · show zgo X (zca X zML 300) pL_law 600000 7302250 (zj pL_law 77) _ _ _ _ _ _
    rw [jL_law_77]
    exact lw_common h ht hl c6 (by omega) (by omega) hz
  · show zgo X (zca X zML 300) pL_law 600000 7302250 (zj pL_law 94) _ _ _ _ _ _
    rw [jL_law_94]
    exact lw_stock h ht hl c6 (by omega) (by omega) hz
  · show zgo X (zca X zML 300) pL_law 600000 7302250 (zj pL_law 131) _ _ _ _ _ _
    rw [jL_law_131]
    exact lw_has h ht hl c6 (by omega) (by omega) hz
  · show zgo X (zca X zML 300) pL_law 600000 7302250 (zj pL_law 158) _ _ _ _ _ _
    rw [jL_law_158]
    exact lw_phone h ht hl c6 (by omega) (by omega) hz
  · show zgo X (zca X zML 300) pL_law 600000 7302250 (zj pL_law 195) _ _ _ _ _ _
    rw [jL_law_195]
    exact lw_told h ht hl c6 (by omega) (by omega) hz
  · show zgo X (zca X zML 300) pL_law 600000 7302250 (zj pL_law 222) _ _ _ _ _ _
    rw [jL_law_222]
    exact lw_as h ht hl c6 (by omega) (by omega) hz
  · show zgo X (zca X zML 300) pL_law 600000 7302250 (zj pL_law 249) _ _ _ _ _ _
    rw [jL_law_249]
    exact lw_turns h ht hl c6 (by omega) (by omega) hz
  · show zgo X (zca X zML 300) pL_law 600000 7302250 (zj pL_law 276) _ _ _ _ _ _
    rw [jL_law_276]
    exact lw_flag h ht hl c6 (by omega) (by omega) hz
  · show zgo X (zca X zML 300) pL_law 600000 7302250 (zj pL_law 321) _ _ _ _ _ _
    rw [jL_law_321]
    exact lw_promise h ht hl c6 (by omega) (by omega) hz
  · show zgo X (zca X zML 300) pL_law 600000 7302250 (zj pL_law 348) _ _ _ _ _ _
    rw [jL_law_348]
    exact lw_mend h ht hl c6 (by omega) (by omega) hz
  · show zgo X (zca X zML 300) pL_law 600000 7302250 (zj pL_law 375) _ _ _ _ _ _
    rw [jL_law_375]
    exact lw_strip h ht hl c6 (by omega) (by omega) hz
  · show zgo X (zca X zML 300) pL_law 600000 7302250 (zj pL_law 392) _ _ _ _ _ _
    rw [jL_law_392]
    exact lw_sell h ht hl c6 (by omega) (by omega) hz
  · show zgo X (zca X zML 300) pL_law 600000 7302250 (zj pL_law 409) _ _ _ _ _ _
    rw [jL_law_409]
    exact lw_hold h ht hl c6 (by omega) (by omega) hz
  · show zgo X (zca X zML 300) pL_law 600000 7302250 (zj pL_law 426) _ _ _ _ _ _
    rw [jL_law_426]
    exact lw_choose h ht hl c6 (by omega) (by omega) hz
  · show zgo X (zca X zML 300) pL_law 600000 7302250 (zj pL_law 443) _ _ _ _ _ _
    rw [jL_law_443]
    exact lw_clear h ht hl c6 (by omega) (by omega) hz
  · show zgo X (zca X zML 300) pL_law 600000 7302250 (zj pL_law 450) _ _ _ _ _ _
    rw [jL_law_450]
    exact lw_plan hPlan h ht hl c6 (by omega) (by omega) hz
  · show zgo X (zca X zML 300) pL_law 600000 7302250 (zj pL_law 467) _ _ _ _ _ _
    rw [jL_law_467]
    exact lw_noon h ht hl c6 (by omega) (by omega) hz
  · show zgo X (zca X zML 300) pL_law 600000 7302250 (zj pL_law 484) _ _ _ _ _ _
    rw [jL_law_484]
    exact lw_feed h ht hl c6 (by omega) (by omega) hz
  · show zgo X (zca X zML 300) pL_law 600000 7302250 (zj pL_law 521) _ _ _ _ _ _
    rw [jL_law_521]
    exact lw_trim h ht hl c6 (by omega) (by omega) hz
  · show zgo X (zca X zML 300) pL_law 600000 7302250 (zj pL_law 538) _ _ _ _ _ _
    rw [jL_law_538]
    exact lw_text hText h ht hl c6 (by omega) (by omega) hz
  · show zgo X (zca X zML 300) pL_law 600000 7302250 (zj pL_law 545) _ _ _ _ _ _
    rw [jL_law_545]
    exact lw_textTold h ht hl c6 (by omega) (by omega) hz
  · show zgo X (zca X zML 300) pL_law 600000 7302250 (zj pL_law 572) _ _ _ _ _ _
    rw [jL_law_572]
    exact lw_why h ht hl c6 (by omega) (by omega) hz
  · show zgo X (zca X zML 300) pL_law 600000 7302250 (zj pL_law 589) _ _ _ _ _ _
    rw [jL_law_589]
    exact lw_weigh h ht hl c6 (by omega) (by omega) hz
  · show zgo X (zca X zML 300) pL_law 600000 7302250 (zj pL_law 616) _ _ _ _ _ _
    rw [jL_law_616]
    exact lw_check h ht hl c6 (by omega) (by omega) hz
  · show zgo X (zca X zML 300) pL_law 600000 7302250 (zj pL_law 633) _ _ _ _ _ _
    rw [jL_law_633]
    exact lw_says h ht hl c6 (by omega) (by omega) hz
  · show zgo X (zca X zML 300) pL_law 600000 7302250 (zj pL_law 668) _ _ _ _ _ _
    rw [jL_law_668]
    exact lw_anew h ht hl c6 (by omega) (by omega) hz
  · show zgo X (zca X zML 300) pL_law 600000 7302250 (zj pL_law 675) _ _ _ _ _ _
    rw [jL_law_675]
    exact lw_next h ht hl c6 (by omega) (by omega) hz
  · show zgo X (zca X zML 300) pL_law 600000 7302250 (zj pL_law 682) _ _ _ _ _ _
    rw [jL_law_682]
    exact lw_deep h ht hl c6 (by omega) (by omega) hz
  · show zgo X (zca X zML 300) pL_law 600000 7302250 (zj pL_law 689) _ _ _ _ _ _
    rw [jL_law_689]
    exact lw_run h ht hl c6 (by omega) (by omega) hz
  · show zgo X (zca X zML 300) pL_law 600000 7302250 (zj pL_law 706) _ _ _ _ _ _
    rw [jL_law_706]
    exact lw_rate h ht hl c6 (by omega) (by omega) hz
  · show zgo X (zca X zML 300) pL_law 600000 7302250 (zj pL_law 723) _ _ _ _ _ _
    rw [jL_law_723]
    exact lw_blamed h ht hl c6 (by omega) (by omega) hz
  · show zgo X (zca X zML 300) pL_law 600000 7302250 (zj pL_law 730) _ _ _ _ _ _
    rw [jL_law_730]
    exact lw_seed h ht hl c6 (by omega) (by omega) hz
  · show zgo X (zca X zML 300) pL_law 600000 7302250 (zj pL_law 747) _ _ _ _ _ _
    rw [jL_law_747]
    exact lw_sheet h ht hl c6 (by omega) (by omega) hz
  · show zgo X (zca X zML 300) pL_law 600000 7302250 (zj pL_law 784) _ _ _ _ _ _
    rw [jL_law_784]
    exact lw_mark h ht hl c6 (by omega) (by omega) hz
  · show zgo X (zca X zML 300) pL_law 600000 7302250 (zj pL_law 821) _ _ _ _ _ _
    rw [jL_law_821]
    exact lw_path h ht hl c6 (by omega) (by omega) hz
  · show zgo X (zca X zML 300) pL_law 600000 7302250 (zj pL_law 848) _ _ _ _ _ _
    rw [jL_law_848]
    exact lw_fill h ht hl c6 (by omega) (by omega) hz
  · show zgo X (zca X zML 300) pL_law 600000 7302250 (zj pL_law 875) _ _ _ _ _ _
    rw [jL_law_875]
    exact lw_copy h ht hl c6 (by omega) (by omega) hz
  · show zgo X (zca X zML 300) pL_law 600000 7302250 (zj pL_law 932) _ _ _ _ _ _
    rw [jL_law_932]
    exact lw_lay h ht hl c6 (by omega) (by omega) hz
  · show zgo X (zca X zML 300) pL_law 600000 7302250 (zj pL_law 969) _ _ _ _ _ _
    rw [jL_law_969]
    exact lw_ask h ht hl c6 (by omega) (by omega) hz
  · show zgo X (zca X zML 300) pL_law 600000 7302250 (zj pL_law 996) _ _ _ _ _ _
    rw [jL_law_996]
    exact lw_item h ht hl c6 (by omega) (by omega) hz
  · show zgo X (zca X zML 300) pL_law 600000 7302250 (zj pL_law 1023) _ _ _ _ _ _
    rw [jL_law_1023]
    exact lw_rest h ht hl c6 (by omega) (by omega) hz
  · show zgo X (zca X zML 300) pL_law 600000 7302250 (zj pL_law 1050) _ _ _ _ _ _
    rw [jL_law_1050]
    exact lw_tell h ht hl c6 (by omega) (by omega) hz
  · show zgo X (zca X zML 300) pL_law 600000 7302250 (zj pL_law 1067) _ _ _ _ _ _
    rw [jL_law_1067]
    exact lw_proves h ht hl c6 (by omega) (by omega) hz
  · show zgo X (zca X zML 300) pL_law 600000 7302250 (zj pL_law 1084) _ _ _ _ _ _
    rw [jL_law_1084]
    exact lw_keep h ht hl c6 (by omega) (by omega) hz
  · show zgo X (zca X zML 300) pL_law 600000 7302250 (zj pL_law 1091) _ _ _ _ _ _
    rw [jL_law_1091]
    exact lw_back h ht hl c6 (by omega) (by omega) hz
  · show zgo X (zca X zML 300) pL_law 600000 7302250 (zj pL_law 1098) _ _ _ _ _ _
    rw [jL_law_1098]
    exact lw_count h ht hl c6 (by omega) (by omega) hz
  · show zgo X (zca X zML 300) pL_law 600000 7302250 (zj pL_law 1115) _ _ _ _ _ _
    rw [jL_law_1115]
    exact lw_dft h ht hl c6 (by omega) (by omega) hz
  · show zgo X (zca X zML 300) pL_law 600000 7302250 (zj pL_law 1115) _ _ _ _ _ _
    rw [jL_law_1115]
    exact lw_dft h ht hl c6 (by omega) (by omega) hz
  · show zgo X (zca X zML 300) pL_law 600000 7302250 (zj pL_law 1115) _ _ _ _ _ _
    rw [jL_law_1115]
    exact lw_dft h ht hl c6 (by omega) (by omega) hz
  · show zgo X (zca X zML 300) pL_law 600000 7302250 (zj pL_law 1115) _ _ _ _ _ _
    rw [jL_law_1115]
    exact lw_dft h ht hl c6 (by omega) (by omega) hz
  · show zgo X (zca X zML 300) pL_law 600000 7302250 (zj pL_law 1115) _ _ _ _ _ _
    rw [jL_law_1115]
    exact lw_dft h ht hl c6 (by omega) (by omega) hz
  · show zgo X (zca X zML 300) pL_law 600000 7302250 (zj pL_law 1115) _ _ _ _ _ _
    rw [jL_law_1115]
    exact lw_dft h ht hl c6 (by omega) (by omega) hz
  · show zgo X (zca X zML 300) pL_law 600000 7302250 (zj pL_law 1115) _ _ _ _ _ _
    rw [jL_law_1115]
    exact lw_dft h ht hl c6 (by omega) (by omega) hz
  · show zgo X (zca X zML 300) pL_law 600000 7302250 (zj pL_law 1115) _ _ _ _ _ _
    rw [jL_law_1115]
    exact lw_dft h ht hl c6 (by omega) (by omega) hz
  · show zgo X (zca X zML 300) pL_law 600000 7302250 (zj pL_law 1115) _ _ _ _ _ _
    rw [jL_law_1115]
    exact lw_dft h ht hl c6 (by omega) (by omega) hz
  · show zgo X (zca X zML 300) pL_law 600000 7302250 (zj pL_law 1115) _ _ _ _ _ _
    rw [jL_law_1115]
    exact lw_dft h ht hl c6 (by omega) (by omega) hz
  · show zgo X (zca X zML 300) pL_law 600000 7302250 (zj pL_law 1115) _ _ _ _ _ _
    rw [jL_law_1115]
    exact lw_dft h ht hl c6 (by omega) (by omega) hz
  · show zgo X (zca X zML 300) pL_law 600000 7302250 (zj pL_law 1115) _ _ _ _ _ _
    rw [jL_law_1115]
    exact lw_dft h ht hl c6 (by omega) (by omega) hz
  · show zgo X (zca X zML 300) pL_law 600000 7302250 (zj pL_law 1115) _ _ _ _ _ _
    rw [jL_law_1115]
    exact lw_dft h ht hl c6 (by omega) (by omega) hz
  · show zgo X (zca X zML 300) pL_law 600000 7302250 (zj pL_law 1115) _ _ _ _ _ _
    rw [jL_law_1115]
    exact lw_dft h ht hl c6 (by omega) (by omega) hz
  · show zgo X (zca X zML 300) pL_law 600000 7302250 (zj pL_law 1115) _ _ _ _ _ _
    rw [jL_law_1115]
    exact lw_dft h ht hl c6 (by omega) (by omega) hz
  · show zgo X (zca X zML 300) pL_law 600000 7302250 (zj pL_law 1115) _ _ _ _ _ _
    rw [jL_law_1115]
    exact lw_dft h ht hl c6 (by omega) (by omega) hz
set_option maxRecDepth 100000 in
set_option maxHeartbeats 4000000 in
theorem lawLoop {X : List Int32} (hl : X.length ≤ 384) (hPlan : ∀ {M : Mm}, Rel M → ∀ v, Opk X 122 125 [.int v] M) (hText : ∀ {M : Mm}, Rel M → zTp M → Opk X 172 189 [] M) : ∀ r k uc us (M : Mm), Rel M → zTp M → k + r ≤ 70 → X.length < 6 * (k + r) + 6 → uc + 2 * r ≤ 600000 → us + 99 * r ≤ 7302250 → zgo X (zca X zML 300) pL_law 600000 7302250 tL_law_11 [.float 1, .ref 1, .ref 150, .int (nI (6 * k))] [] uc us M (fun v _ => v = some (.int 1)) := by
  have ex : ∀ k uc us (M : Mm), k ≤ 100 → X.length < 6 * k + 6 → zgo X (zca X zML 300) pL_law 600000 7302250 tL_law_11 [.float 1, .ref 1, .ref 150, .int (nI (6 * k))] [] uc us M (fun v _ => v = some (.int 1)) := fun k uc us M hk c => by
    have e := lt6 hl c hk
    refine zgo_u 12 (show tL_law_11 = uL_law_11 from rfl) ?_
    dsimp only [zen, zrep, zSe, zLn, zc1, Nat.reduceSub, Nat.reduceAdd, y_nop, y_iconst, y_bipush, y_sipush, y_ldc_w, y_ldc0, y_ldc1, y_ldc2_w, y_lconst, y_iload_n_0, y_aload_n_0, y_aload_nf_0, y_lload_n_0, y_iinc_0, y_istore_n_0, y_astore_n_0, y_iload_n_1, y_aload_n_1, y_aload_nf_1, y_iinc_1, y_istore_n_1, y_astore_n_1, y_iload_n_2, y_aload_n_2, y_aload_nf_2, y_lload_n_2, y_iinc_2, y_istore_n_2, y_astore_n_2, y_iload_n_3, y_aload_n_3, y_iinc_3, y_istore_n_3, y_astore_n_3, y_iload_4, y_aload_4, y_lload_4, y_iinc_4, y_istore_4, y_astore_4, y_iload_5, y_aload_5, y_iinc_5, y_istore_5, y_astore_5, y_iload_6, y_aload_6, y_iinc_6, y_istore_6, y_astore_6, y_iload_7, y_aload_7, y_iinc_7, y_istore_7, y_astore_7, y_iload_8, y_aload_8, y_iinc_8, y_istore_8, y_astore_8, y_iload_9, y_aload_9, y_iinc_9, y_istore_9, y_astore_9, y_iload_10, y_aload_10, y_iinc_10, y_istore_10, y_astore_10, y_iload_11, y_aload_11, y_iinc_11, y_istore_11, y_astore_11, y_iload_12, y_aload_12, y_iinc_12, y_istore_12, y_astore_12, y_iload_13, y_aload_13, y_iinc_13, y_istore_13, y_astore_13, y_iadd, y_isub, y_imul, y_iand, y_ior, y_ixor, y_ishl, y_ishr, y_iushr, y_idiv, y_irem, y_ineg, y_i2s, y_i2c, y_i2b, y_i2l, y_ladd, y_lcmp, y_dup, y_dup2, y_pop, y_goto, y_ic_eq, y_ic_ne, y_ic_lt, y_ic_ge, y_ic_gt, y_ic_le, y_if_eq, y_if_ne, y_if_lt, y_if_ge, y_if_gt, y_if_le, y_ifnn, y_tsw, y_lsw, y_gfn, y_gf0, y_gf1, y_gf2, y_gff0, y_gff1, y_gs0, y_gs1, y_gs2, y_pfn, y_pf0, y_pf1, y_pf2, y_newa, y_anewa, y_new, y_iaload, y_ialoadf, y_baload, y_aaload, y_iastore, y_aastore, y_alen, y_alenf, y_iv_1_0, y_is_1_0, y_iv_1_1, y_ivf_1_1, y_iv_1_2, y_iv_2_0, y_is_2_0, y_iv_2_1, y_ivf_2_1, y_iv_2_2, y_iv_3_0, y_is_3_0, y_iv_3_1, y_ivf_3_1, y_iv_3_2, y_iv_4_0, y_is_4_0, y_iv_4_1, y_iv_4_2, y_iv_5_0, y_is_5_0, y_iv_5_1, y_iv_5_2, y_iv_6_0, y_is_6_0, y_iv_6_1, y_iv_6_2, y_is_n, y_st_0_0, y_st_0_1, y_st_1_0, y_st_1_1, y_st_2_0, y_st_2_1, y_st_3_0, y_st_3_1, y_st_4_0, y_st_4_1, y_cpy, y_iret0, y_iret1, y_iret2, y_iret3, y_aret, y_ret, y_zero, uL_law_11, uL_law_1117, uL_law_10, uL_law_23, jL_law_1117, jL_law_10, jL_law_23]
    refine ⟨Or.inl (by rw [u32_1]; decide), ?_⟩
    rw [u32_1, zxV_1, if_pos (of_eq_true e)]
    exact ⟨Or.inr rfl, rfl⟩
  intro r
  induction r with
  | zero => intro k uc us M h ht hk hx hu hs; exact ex k uc us M (by omega) (by omega)
  | succ r ih =>
    intro k uc us M h ht hk hx hu hs
    rcases Nat.lt_or_ge X.length (6 * k + 6) with c | c6
    · exact ex k uc us M (by omega) c
    have e : ¬ nI X.length - 6 < nI (6 * k) := by
      rw [sr_6 (by omega), cLt (by omega) (by omega)]
      omega
    obtain ⟨c, hc, ec⟩ := pk_andE (X.getD (6 * k) 0) (m := 63) 6 rfl
    have hz := lawStep (k := k) (uc := uc) (us := us) (Q := (fun v _ => v = some (.int 1))) hPlan hText h ht hl c6 (by omega) (by omega) (fun M2 uc2 us2 hR hT b1 b2 => ih (k + 1) uc2 us2 M2 hR hT (by omega) (by omega) (by omega) (by omega)) (c := c) hc
    refine zgo_u 12 (show tL_law_11 = uL_law_11 from rfl) ?_
    dsimp only [zen, zrep, zSe, zLn, zc1, Nat.reduceSub, Nat.reduceAdd, y_nop, y_iconst, y_bipush, y_sipush, y_ldc_w, y_ldc0, y_ldc1, y_ldc2_w, y_lconst, y_iload_n_0, y_aload_n_0, y_aload_nf_0, y_lload_n_0, y_iinc_0, y_istore_n_0, y_astore_n_0, y_iload_n_1, y_aload_n_1, y_aload_nf_1, y_iinc_1, y_istore_n_1, y_astore_n_1, y_iload_n_2, y_aload_n_2, y_aload_nf_2, y_lload_n_2, y_iinc_2, y_istore_n_2, y_astore_n_2, y_iload_n_3, y_aload_n_3, y_iinc_3, y_istore_n_3, y_astore_n_3, y_iload_4, y_aload_4, y_lload_4, y_iinc_4, y_istore_4, y_astore_4, y_iload_5, y_aload_5, y_iinc_5, y_istore_5, y_astore_5, y_iload_6, y_aload_6, y_iinc_6, y_istore_6, y_astore_6, y_iload_7, y_aload_7, y_iinc_7, y_istore_7, y_astore_7, y_iload_8, y_aload_8, y_iinc_8, y_istore_8, y_astore_8, y_iload_9, y_aload_9, y_iinc_9, y_istore_9, y_astore_9, y_iload_10, y_aload_10, y_iinc_10, y_istore_10, y_astore_10, y_iload_11, y_aload_11, y_iinc_11, y_istore_11, y_astore_11, y_iload_12, y_aload_12, y_iinc_12, y_istore_12, y_astore_12, y_iload_13, y_aload_13, y_iinc_13, y_istore_13, y_astore_13, y_iadd, y_isub, y_imul, y_iand, y_ior, y_ixor, y_ishl, y_ishr, y_iushr, y_idiv, y_irem, y_ineg, y_i2s, y_i2c, y_i2b, y_i2l, y_ladd, y_lcmp, y_dup, y_dup2, y_pop, y_goto, y_ic_eq, y_ic_ne, y_ic_lt, y_ic_ge, y_ic_gt, y_ic_le, y_if_eq, y_if_ne, y_if_lt, y_if_ge, y_if_gt, y_if_le, y_ifnn, y_tsw, y_lsw, y_gfn, y_gf0, y_gf1, y_gf2, y_gff0, y_gff1, y_gs0, y_gs1, y_gs2, y_pfn, y_pf0, y_pf1, y_pf2, y_newa, y_anewa, y_new, y_iaload, y_ialoadf, y_baload, y_aaload, y_iastore, y_aastore, y_alen, y_alenf, y_iv_1_0, y_is_1_0, y_iv_1_1, y_ivf_1_1, y_iv_1_2, y_iv_2_0, y_is_2_0, y_iv_2_1, y_ivf_2_1, y_iv_2_2, y_iv_3_0, y_is_3_0, y_iv_3_1, y_ivf_3_1, y_iv_3_2, y_iv_4_0, y_is_4_0, y_iv_4_1, y_iv_4_2, y_iv_5_0, y_is_5_0, y_iv_5_1, y_iv_5_2, y_iv_6_0, y_is_6_0, y_iv_6_1, y_iv_6_2, y_is_n, y_st_0_0, y_st_0_1, y_st_1_0, y_st_1_1, y_st_2_0, y_st_2_1, y_st_3_0, y_st_3_1, y_st_4_0, y_st_4_1, y_cpy, y_iret0, y_iret1, y_iret2, y_iret3, y_aret, y_ret, y_zero, uL_law_11, uL_law_1117, uL_law_10, uL_law_23, jL_law_1117, jL_law_10, jL_law_23]
    refine ⟨Or.inl (by rw [u32_1]; decide), ?_⟩
    rw [u32_1, zxV_1, if_neg e]
    refine ⟨by decide, vp_in_nI (by omega) (by omega), ?_⟩
    rw [nI_clamp (by omega), ec]
    refine zsw_of _ _ ?_
    rw [swE c hc]
    exact hz
set_option maxRecDepth 100000 in
set_option maxHeartbeats 2000000 in
theorem zlaw_of (hPlan : ∀ {X : List Int32} {M : Mm}, Rel M → ∀ v, Opk X 122 125 [.int v] M) (hText : ∀ {X : List Int32} {M : Mm}, Rel M → zTp M → Opk X 172 189 [] M) : zLaw := by
  intro X hl
  refine ⟨300, by omega, ?_⟩
  obtain ⟨M1, M2, c1, e1, c2, hR, hT⟩ := beg (X := X)
  refine zgo_in 11 ?_
  dsimp only [zen, zrep, zSe, zsw, zLn, zc1, Nat.reduceSub, Nat.reduceAdd, y_nop, y_iconst, y_bipush, y_sipush, y_ldc_w, y_ldc0, y_ldc1, y_ldc2_w, y_lconst, y_iload_n_0, y_aload_n_0, y_aload_nf_0, y_lload_n_0, y_iinc_0, y_istore_n_0, y_astore_n_0, y_iload_n_1, y_aload_n_1, y_aload_nf_1, y_iinc_1, y_istore_n_1, y_astore_n_1, y_iload_n_2, y_aload_n_2, y_aload_nf_2, y_lload_n_2, y_iinc_2, y_istore_n_2, y_astore_n_2, y_iload_n_3, y_aload_n_3, y_iinc_3, y_istore_n_3, y_astore_n_3, y_iload_4, y_aload_4, y_lload_4, y_iinc_4, y_istore_4, y_astore_4, y_iload_5, y_aload_5, y_iinc_5, y_istore_5, y_astore_5, y_iload_6, y_aload_6, y_iinc_6, y_istore_6, y_astore_6, y_iload_7, y_aload_7, y_iinc_7, y_istore_7, y_astore_7, y_iload_8, y_aload_8, y_iinc_8, y_istore_8, y_astore_8, y_iload_9, y_aload_9, y_iinc_9, y_istore_9, y_astore_9, y_iload_10, y_aload_10, y_iinc_10, y_istore_10, y_astore_10, y_iload_11, y_aload_11, y_iinc_11, y_istore_11, y_astore_11, y_iload_12, y_aload_12, y_iinc_12, y_istore_12, y_astore_12, y_iload_13, y_aload_13, y_iinc_13, y_istore_13, y_astore_13, y_iadd, y_isub, y_imul, y_iand, y_ior, y_ixor, y_ishl, y_ishr, y_iushr, y_idiv, y_irem, y_ineg, y_i2s, y_i2c, y_i2b, y_i2l, y_ladd, y_lcmp, y_dup, y_dup2, y_pop, y_goto, y_ic_eq, y_ic_ne, y_ic_lt, y_ic_ge, y_ic_gt, y_ic_le, y_if_eq, y_if_ne, y_if_lt, y_if_ge, y_if_gt, y_if_le, y_ifnn, y_tsw, y_lsw, y_gfn, y_gf0, y_gf1, y_gf2, y_gff0, y_gff1, y_gs0, y_gs1, y_gs2, y_pfn, y_pf0, y_pf1, y_pf2, y_newa, y_anewa, y_new, y_iaload, y_ialoadf, y_baload, y_aaload, y_iastore, y_aastore, y_alen, y_alenf, y_iv_1_0, y_is_1_0, y_iv_1_1, y_ivf_1_1, y_iv_1_2, y_iv_2_0, y_is_2_0, y_iv_2_1, y_ivf_2_1, y_iv_2_2, y_iv_3_0, y_is_3_0, y_iv_3_1, y_ivf_3_1, y_iv_3_2, y_iv_4_0, y_is_4_0, y_iv_4_1, y_iv_4_2, y_iv_5_0, y_is_5_0, y_iv_5_1, y_iv_5_2, y_iv_6_0, y_is_6_0, y_iv_6_1, y_iv_6_2, y_is_n, y_st_0_0, y_st_0_1, y_st_1_0, y_st_1_1, y_st_2_0, y_st_2_1, y_st_3_0, y_st_3_1, y_st_4_0, y_st_4_1, y_cpy, y_iret0, y_iret1, y_iret2, y_iret3, y_aret, y_ret, y_zero, pL_law]
  refine ⟨⟨by decide, by decide⟩, rfl, ⟨by decide, by decide, by decide⟩, by decide, M1, c1, ⟨by decide, by decide⟩, rfl, ⟨by decide, by decide, by decide⟩, by omega, M2, ?_, ?_⟩
  · rw [e1]
    exact c2
  · rw [e1]
    exact lawLoop hl hPlan hText 65 0 _ _ M2 hR hT (by omega) (by omega) (by decide) (by decide)
