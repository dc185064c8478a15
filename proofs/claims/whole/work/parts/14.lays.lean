/-! the classes' own words among the tables' -/
theorem zlay0 : u_ws RX0 TX0 4 = [178, 180, 182, 184].filterMap (fun i => lw_tbl[i]?) ∧ (u_ws RX0 TX0 4).all goodWord = true := by decide +kernel
theorem zins0 : (zat 165 (.instantiable RX0 4) && zat 89 (.initialized RX0)) = true := by decide +kernel
theorem zlay1 : u_ws RX1 TX1 4 = [155, 157, 159, 161].filterMap (fun i => lw_tbl[i]?) ∧ (u_ws RX1 TX1 4).all goodWord = true := by decide +kernel
theorem zins1 : (zat 140 (.instantiable RX1 4) && zat 88 (.initialized RX1)) = true := by decide +kernel
theorem zlay2 : u_ws RX2 TX2 3 = [198, 200, 202].filterMap (fun i => lw_tbl[i]?) ∧ (u_ws RX2 TX2 3).all goodWord = true := by decide +kernel
theorem zins2 : (zat 187 (.instantiable RX2 3) && zat 90 (.initialized RX2)) = true := by decide +kernel
theorem zlay3 : u_ws RX3 TX3 11 = [247, 249, 251, 253, 255, 257, 259, 261, 263, 265, 267].filterMap (fun i => lw_tbl[i]?) ∧ (u_ws RX3 TX3 11).all goodWord = true := by decide +kernel
theorem zins3 : (zat 205 (.instantiable RX3 11) && zat 91 (.initialized RX3)) = true := by decide +kernel
theorem zlay4 : u_ws RX4 TX4 7 = [341, 343, 345, 347, 349, 351, 353].filterMap (fun i => lw_tbl[i]?) ∧ (u_ws RX4 TX4 7).all goodWord = true := by decide +kernel
theorem zins4 : (zat 324 (.instantiable RX4 7) && zat 92 (.initialized RX4)) = true := by decide +kernel
theorem zlay5 : u_ws RX5 TX5 3 = [424, 426, 428].filterMap (fun i => lw_tbl[i]?) ∧ (u_ws RX5 TX5 3).all goodWord = true := by decide +kernel
theorem zins5 : (zat 413 (.instantiable RX5 3) && zat 94 (.initialized RX5)) = true := by decide +kernel
theorem zlay6 : u_ws RX6 TX6 12 = [298, 300, 302, 304, 306, 308, 310, 312, 314, 316, 318, 320].filterMap (fun i => lw_tbl[i]?) ∧ (u_ws RX6 TX6 12).all goodWord = true := by decide +kernel
theorem zins6 : (zat 115 (.instantiable RX6 12) && zat 86 (.initialized RX6)) = true := by decide +kernel
theorem zlay7 : u_ws RX7 TX7 4 = [448, 450, 452, 454].filterMap (fun i => lw_tbl[i]?) ∧ (u_ws RX7 TX7 4).all goodWord = true := by decide +kernel
theorem zins7 : (zat 431 (.instantiable RX7 4) && zat 95 (.initialized RX7)) = true := by decide +kernel
theorem zlay8 : u_ws RX8 TX8 2 = [131, 133].filterMap (fun i => lw_tbl[i]?) ∧ (u_ws RX8 TX8 2).all goodWord = true := by decide +kernel
theorem zins8 : (zat 123 (.instantiable RX8 2) && zat 87 (.initialized RX8)) = true := by decide +kernel
theorem zlay9 : u_ws RX9 TX9 3 = [1014, 1016, 1018].filterMap (fun i => lw_tbl[i]?) ∧ (u_ws RX9 TX9 3).all goodWord = true := by decide +kernel
theorem zins9 : (zat 1002 (.instantiable RX9 3) && zat 105 (.initialized RX9)) = true := by decide +kernel
theorem zlay10 : u_ws RX10 TX10 15 = [378, 380, 382, 384, 386, 388, 390, 392, 394, 396, 398, 400, 402, 404, 406].filterMap (fun i => lw_tbl[i]?) ∧ (u_ws RX10 TX10 15).all goodWord = true := by decide +kernel
theorem zins10 : (zat 357 (.instantiable RX10 15) && zat 93 (.initialized RX10)) = true := by decide +kernel
theorem zlay11 : u_ws RX11 TX11 11 = [468, 470, 472, 474, 476, 478, 480, 482, 484, 486, 488].filterMap (fun i => lw_tbl[i]?) ∧ (u_ws RX11 TX11 11).all goodWord = true := by decide +kernel
theorem zins11 : (zat 107 (.instantiable RX11 11) && zat 85 (.initialized RX11)) = true := by decide +kernel
theorem zlay12 : u_ws RX12 TX12 37 = [1287, 1289, 1291, 1293, 1295, 1297, 1299, 1301, 1303, 1305, 1307, 1309, 1311, 1313, 1315, 1317, 1319, 1321, 1323, 1325, 1327, 1329, 1331, 1333, 1335, 1337, 1339, 1341, 1343, 1345, 1347, 1349, 1351, 1353, 1355, 1357, 1359].filterMap (fun i => lw_tbl[i]?) ∧ (u_ws RX12 TX12 37).all goodWord = true := by decide +kernel
theorem zins12 : (zat 1245 (.instantiable RX12 37) && zat 96 (.initialized RX12)) = true := by decide +kernel
theorem zlay_in {ws : List Cond} {ps : List Nat} (h : ws = ps.filterMap (fun i => lw_tbl[i]?) ∧ ws.all goodWord = true) : ∀ w ∈ ws, w ∈ zws := by
  intro w hw
  have h2 := List.all_eq_true.mp h.2 w hw
  rw [h.1] at hw
  obtain ⟨i, -, hi⟩ := List.mem_filterMap.mp hw
  exact List.mem_filter.mpr ⟨List.mem_of_getElem? hi, h2⟩
theorem zin {c : Nat} (h : c < 13) : ∀ w ∈ u_ws (zRC c) (zTC c) (zNC c), w ∈ zws := by
  rcases z13 h with rfl | rfl | rfl | rfl | rfl | rfl | rfl | rfl | rfl | rfl | rfl | rfl | rfl
  · exact zlay_in zlay0
  · exact zlay_in zlay1
  · exact zlay_in zlay2
  · exact zlay_in zlay3
  · exact zlay_in zlay4
  · exact zlay_in zlay5
  · exact zlay_in zlay6
  · exact zlay_in zlay7
  · exact zlay_in zlay8
  · exact zlay_in zlay9
  · exact zlay_in zlay10
  · exact zlay_in zlay11
  · exact zlay_in zlay12
theorem zinst {c : Nat} (h : c < 13) : Cond.instantiable (zRC c) (zNC c) ∈ zws ∧ Cond.initialized (zRC c) ∈ zws := by
  rcases z13 h with rfl | rfl | rfl | rfl | rfl | rfl | rfl | rfl | rfl | rfl | rfl | rfl | rfl
  · exact ⟨zat_in (Bool.and_eq_true _ _ ▸ zins0).1, zat_in (Bool.and_eq_true _ _ ▸ zins0).2⟩
  · exact ⟨zat_in (Bool.and_eq_true _ _ ▸ zins1).1, zat_in (Bool.and_eq_true _ _ ▸ zins1).2⟩
  · exact ⟨zat_in (Bool.and_eq_true _ _ ▸ zins2).1, zat_in (Bool.and_eq_true _ _ ▸ zins2).2⟩
  · exact ⟨zat_in (Bool.and_eq_true _ _ ▸ zins3).1, zat_in (Bool.and_eq_true _ _ ▸ zins3).2⟩
  · exact ⟨zat_in (Bool.and_eq_true _ _ ▸ zins4).1, zat_in (Bool.and_eq_true _ _ ▸ zins4).2⟩
  · exact ⟨zat_in (Bool.and_eq_true _ _ ▸ zins5).1, zat_in (Bool.and_eq_true _ _ ▸ zins5).2⟩
  · exact ⟨zat_in (Bool.and_eq_true _ _ ▸ zins6).1, zat_in (Bool.and_eq_true _ _ ▸ zins6).2⟩
  · exact ⟨zat_in (Bool.and_eq_true _ _ ▸ zins7).1, zat_in (Bool.and_eq_true _ _ ▸ zins7).2⟩
  · exact ⟨zat_in (Bool.and_eq_true _ _ ▸ zins8).1, zat_in (Bool.and_eq_true _ _ ▸ zins8).2⟩
  · exact ⟨zat_in (Bool.and_eq_true _ _ ▸ zins9).1, zat_in (Bool.and_eq_true _ _ ▸ zins9).2⟩
  · exact ⟨zat_in (Bool.and_eq_true _ _ ▸ zins10).1, zat_in (Bool.and_eq_true _ _ ▸ zins10).2⟩
  · exact ⟨zat_in (Bool.and_eq_true _ _ ▸ zins11).1, zat_in (Bool.and_eq_true _ _ ▸ zins11).2⟩
  · exact ⟨zat_in (Bool.and_eq_true _ _ ▸ zins12).1, zat_in (Bool.and_eq_true _ _ ▸ zins12).2⟩
theorem zobj : (zat 112 (.instanceMethod objectInit) && zat 113 (.code objectInit ⟨#[0xb1]⟩ 1 none)) = true := by decide +kernel
theorem zacp : (zat 769 (.native arraycopyName) && zat 768 (.static arraycopyName) && zat 99 (.initialized "java/lang/System")) = true := by decide +kernel
theorem zaci : zat 136 (.arrayClass .int) = true := by decide +kernel
