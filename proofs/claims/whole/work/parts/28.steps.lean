/-! elementary steps of a shop -/
/-- the cells of a shop and of texts stay as they are, but for ints of cell r -/
theorem updn {f : Nat → Int32} {k j : Nat} {v : Int32} (h : j ≠ k) : upd f k v j = f j := if_neg h
theorem upds {f : Nat → Int32} {k : Nat} {v : Int32} : upd f k v k = v := if_pos rfl
theorem zTk_wI (M : Mm) (q j : Nat) (v : Int32) (hq : q ≤ 172) : ∀ r, 172 < r → r ≤ mZ M → mT (wI M q j v) r = mT M r ∧ mL (wI M q j v) r = mL M r ∧ (∀ k, mI (wI M q j v) r k = mI M r k) ∧ ∀ k, mR (wI M q j v) r k = mR M r k := fun r h1 h2 => ⟨rfl, rfl, fun k => mI_wIr (by omega), fun k => rfl⟩
theorem zTk_wW (M : Mm) (q : Nat) (f : Nat → Int32) (hq : q ≤ 172) : ∀ r, 172 < r → r ≤ mZ M → mT (wW M q f) r = mT M r ∧ mL (wW M q f) r = mL M r ∧ (∀ k, mI (wW M q f) r k = mI M r k) ∧ ∀ k, mR (wW M q f) r k = mR M r k := fun r h1 h2 => ⟨rfl, rfl, fun k => mI_wWr (by omega), fun k => rfl⟩
theorem isB_le {B : Nat} (h : isB B) : B ≤ 72 := by rcases h with rfl | rfl | rfl <;> decide
/-- another vector that is alike -/
theorem Sh_s {M : Mm} {B nM nP nT nK nC : Nat} {s s' : Nat → Int32} (h : Sh M B s nM nP nT nK nC) (hs : ∀ j, j < 3140 → s' j = s j) : Sh M B s' nM nP nT nK nC := by
  obtain ⟨hA, hM, hS, hP, hG, hC, hT⟩ := h
  refine ⟨?_, ShM_cg hA.1.1 hM (fun _ _ _ => rfl) (fun j _ _ => hs j (by omega)), ShS_cg hS (fun _ _ => rfl) (fun j _ _ => hs j (by omega)), ShP_cg hA.1.2.1 hP (fun _ _ _ => rfl) (fun j _ _ => hs j (by omega)), ShG_cg hA.1.2.2.2.1 hG (fun _ => rfl) (fun _ => rfl) (fun j _ _ => hs j (by omega)), ShC_cg hA.1.2.2.2.2 hC (fun _ => rfl) (fun j _ _ => hs j (by omega)), ShT_cg hT (Nat.le_refl _) (fun _ _ _ => ⟨rfl, rfl, fun _ => rfl, fun _ => rfl⟩) (fun _ => rfl) (fun _ => rfl) (fun j _ _ => hs j (by have := hA.1.2.2.1; omega))⟩
  unfold ShA
  rw [hs 0 (by omega), hs 1 (by omega), hs 2 (by omega), hs 3 (by omega), hs 4 (by omega), hs 5 (by omega), hs 6 (by omega), hs 7 (by omega), hs 8 (by omega), hs 9 (by omega)]
  exact hA
/-- another memory that is alike in the shop's cells -/
theorem Sh_M {M M' : Mm} {B nM nP nT nK nC : Nat} {s : Nat → Int32} (h : Sh M B s nM nP nT nK nC) (hI : ∀ o, o < 35 → ∀ k, mI M' (B + o) k = mI M (B + o) k) (hR : ∀ k, mR M' (B + 7) k = mR M (B + 7) k) (hZ : mZ M ≤ mZ M') (hT : ∀ r, 172 < r → r ≤ mZ M → mT M' r = mT M r ∧ mL M' r = mL M r ∧ (∀ k, mI M' r k = mI M r k) ∧ ∀ k, mR M' r k = mR M r k) : Sh M' B s nM nP nT nK nC := by
  obtain ⟨hA, hM, hS, hP, hG, hC, hTx⟩ := h
  refine ⟨?_, ShM_cg hA.1.1 hM (fun i hi k => ?_) (fun _ _ _ => rfl), ShS_cg hS (fun k _ => hI 3 (by omega) k) (fun _ _ _ => rfl), ShP_cg hA.1.2.1 hP (fun i hi k => ?_) (fun _ _ _ => rfl), ShG_cg hA.1.2.2.2.1 hG (fun k => hI 11 (by omega) k) (fun k => hI 12 (by omega) k) (fun _ _ _ => rfl), ShC_cg hA.1.2.2.2.2 hC (fun k => hI 5 (by omega) k) (fun _ _ _ => rfl), ShT_cg hTx hZ hT hR (fun k => hI 8 (by omega) k) (fun _ _ _ => rfl)⟩
  · unfold ShA
    have h0 := hI 0 (by omega)
    rw [Nat.add_zero] at h0
    rw [h0 1, h0 4, h0 6, h0 10, h0 9, h0 11, hI 6 (by omega), hI 10 (by omega), hI 10 (by omega), hI 2 (by omega)]
    exact hA
  · rw [Nat.add_assoc]; exact hI (13 + i) (by omega) k
  · rw [Nat.add_assoc]; exact hI (19 + i) (by omega) k
theorem up_z {M : Mm} {B nM nP nT nK nC : Nat} {s : Nat → Int32} (hB : isB B) (h : Sh M B s nM nP nT nK nC) (v : Int32)  : Sh (wI M (B) 11 v) B (upd s 8 v) nM nP nT nK nC := by
  have hb := isB_le hB
  obtain ⟨hA, hM, hS, hP, hG, hC, hT⟩ := h
  refine ⟨?_, ShM_cg hA.1.1 hM (fun i hi k => mI_wIr (by omega)) (fun j h1 h2 => updn (by omega)), ShS_cg hS (fun k hk => mI_wIr (by omega)) (fun j h1 h2 => updn (by omega)), ShP_cg hA.1.2.1 hP (fun i hi k => mI_wIr (by omega)) (fun j h1 h2 => updn (by omega)), ShG_cg hA.1.2.2.2.1 hG (fun k => mI_wIr (by omega)) (fun k => mI_wIr (by omega)) (fun j h1 h2 => updn (by omega)), ShC_cg hA.1.2.2.2.2 hC (fun k => mI_wIr (by omega)) (fun j h1 h2 => updn (by omega)), ShT_cg hT (Nat.le_refl _) (zTk_wI _ _ _ _ (by omega)) (fun k => rfl) (fun k => mI_wIr (by omega)) (fun j h1 h2 => updn (by omega))⟩
  obtain ⟨h1, h2, ⟨a1, a2, a3, a4, a5⟩, ⟨b1, b2, b3, b4, b5⟩, c1, c2, c3⟩ := hA
  refine ⟨h1, h2, ⟨?_, ?_, ?_, ?_, ?_⟩, ⟨?_, ?_, ?_, ?_, ?_⟩, ?_, ?_, ?_⟩ <;> first | exact mI_wIs _ _ _ _ | exact hv | assumption | (rw [mI_wI, if_neg (by omega)]; assumption) | (rw [mI_wI, if_pos rfl, if_neg (by omega)]; assumption)
theorem up_till {M : Mm} {B nM nP nT nK nC : Nat} {s : Nat → Int32} (hB : isB B) (h : Sh M B s nM nP nT nK nC) (v : Int32)  : Sh (wI M (B) 10 v) B (upd s 6 v) nM nP nT nK nC := by
  have hb := isB_le hB
  obtain ⟨hA, hM, hS, hP, hG, hC, hT⟩ := h
  refine ⟨?_, ShM_cg hA.1.1 hM (fun i hi k => mI_wIr (by omega)) (fun j h1 h2 => updn (by omega)), ShS_cg hS (fun k hk => mI_wIr (by omega)) (fun j h1 h2 => updn (by omega)), ShP_cg hA.1.2.1 hP (fun i hi k => mI_wIr (by omega)) (fun j h1 h2 => updn (by omega)), ShG_cg hA.1.2.2.2.1 hG (fun k => mI_wIr (by omega)) (fun k => mI_wIr (by omega)) (fun j h1 h2 => updn (by omega)), ShC_cg hA.1.2.2.2.2 hC (fun k => mI_wIr (by omega)) (fun j h1 h2 => updn (by omega)), ShT_cg hT (Nat.le_refl _) (zTk_wI _ _ _ _ (by omega)) (fun k => rfl) (fun k => mI_wIr (by omega)) (fun j h1 h2 => updn (by omega))⟩
  obtain ⟨h1, h2, ⟨a1, a2, a3, a4, a5⟩, ⟨b1, b2, b3, b4, b5⟩, c1, c2, c3⟩ := hA
  refine ⟨h1, h2, ⟨?_, ?_, ?_, ?_, ?_⟩, ⟨?_, ?_, ?_, ?_, ?_⟩, ?_, ?_, ?_⟩ <;> first | exact mI_wIs _ _ _ _ | exact hv | assumption | (rw [mI_wI, if_neg (by omega)]; assumption) | (rw [mI_wI, if_pos rfl, if_neg (by omega)]; assumption)
theorem up_day {M : Mm} {B nM nP nT nK nC : Nat} {s : Nat → Int32} (hB : isB B) (h : Sh M B s nM nP nT nK nC) (v : Int32) (hv : ∃ y, y < 2 ^ 32 ∧ v = nI y) : Sh (wI M (B) 9 v) B (upd s 7 v) nM nP nT nK nC := by
  have hb := isB_le hB
  obtain ⟨hA, hM, hS, hP, hG, hC, hT⟩ := h
  refine ⟨?_, ShM_cg hA.1.1 hM (fun i hi k => mI_wIr (by omega)) (fun j h1 h2 => updn (by omega)), ShS_cg hS (fun k hk => mI_wIr (by omega)) (fun j h1 h2 => updn (by omega)), ShP_cg hA.1.2.1 hP (fun i hi k => mI_wIr (by omega)) (fun j h1 h2 => updn (by omega)), ShG_cg hA.1.2.2.2.1 hG (fun k => mI_wIr (by omega)) (fun k => mI_wIr (by omega)) (fun j h1 h2 => updn (by omega)), ShC_cg hA.1.2.2.2.2 hC (fun k => mI_wIr (by omega)) (fun j h1 h2 => updn (by omega)), ShT_cg hT (Nat.le_refl _) (zTk_wI _ _ _ _ (by omega)) (fun k => rfl) (fun k => mI_wIr (by omega)) (fun j h1 h2 => updn (by omega))⟩
  obtain ⟨h1, h2, ⟨a1, a2, a3, a4, a5⟩, ⟨b1, b2, b3, b4, b5⟩, c1, c2, c3⟩ := hA
  refine ⟨h1, h2, ⟨?_, ?_, ?_, ?_, ?_⟩, ⟨?_, ?_, ?_, ?_, ?_⟩, ?_, ?_, ?_⟩ <;> first | exact mI_wIs _ _ _ _ | exact hv | assumption | (rw [mI_wI, if_neg (by omega)]; assumption) | (rw [mI_wI, if_pos rfl, if_neg (by omega)]; assumption)
theorem up_com {M : Mm} {B nM nP nT nK nC : Nat} {s : Nat → Int32} (hB : isB B) (h : Sh M B s nM nP nT nK nC) (v : Int32) (hv : ∃ c, c < 256 ∧ v = nI c) : Sh (wI M (B + 2) 1 v) B (upd s 5 v) nM nP nT nK nC := by
  have hb := isB_le hB
  obtain ⟨hA, hM, hS, hP, hG, hC, hT⟩ := h
  refine ⟨?_, ShM_cg hA.1.1 hM (fun i hi k => mI_wIr (by omega)) (fun j h1 h2 => updn (by omega)), ShS_cg hS (fun k hk => mI_wIr (by omega)) (fun j h1 h2 => updn (by omega)), ShP_cg hA.1.2.1 hP (fun i hi k => mI_wIr (by omega)) (fun j h1 h2 => updn (by omega)), ShG_cg hA.1.2.2.2.1 hG (fun k => mI_wIr (by omega)) (fun k => mI_wIr (by omega)) (fun j h1 h2 => updn (by omega)), ShC_cg hA.1.2.2.2.2 hC (fun k => mI_wIr (by omega)) (fun j h1 h2 => updn (by omega)), ShT_cg hT (Nat.le_refl _) (zTk_wI _ _ _ _ (by omega)) (fun k => rfl) (fun k => mI_wIr (by omega)) (fun j h1 h2 => updn (by omega))⟩
  obtain ⟨h1, h2, ⟨a1, a2, a3, a4, a5⟩, ⟨b1, b2, b3, b4, b5⟩, c1, c2, c3⟩ := hA
  refine ⟨h1, h2, ⟨?_, ?_, ?_, ?_, ?_⟩, ⟨?_, ?_, ?_, ?_, ?_⟩, ?_, ?_, ?_⟩ <;> first | exact mI_wIs _ _ _ _ | exact hv | assumption | (rw [mI_wI, if_neg (by omega)]; assumption) | (rw [mI_wI, if_pos rfl, if_neg (by omega)]; assumption)
theorem up_open {M : Mm} {B nM nP nT nK nC : Nat} {s : Nat → Int32} (hB : isB B) (h : Sh M B s nM nP nT nK nC) (v : Int32) (hv : ∃ c, c < 256 ∧ v = nI c) : Sh (wI M (B + 10) 3 v) B (upd s 9 v) nM nP nT nK nC := by
  have hb := isB_le hB
  obtain ⟨hA, hM, hS, hP, hG, hC, hT⟩ := h
  refine ⟨?_, ShM_cg hA.1.1 hM (fun i hi k => mI_wIr (by omega)) (fun j h1 h2 => updn (by omega)), ShS_cg hS (fun k hk => mI_wIr (by omega)) (fun j h1 h2 => updn (by omega)), ShP_cg hA.1.2.1 hP (fun i hi k => mI_wIr (by omega)) (fun j h1 h2 => updn (by omega)), ShG_cg hA.1.2.2.2.1 hG (fun k => mI_wIr (by omega)) (fun k => mI_wIr (by omega)) (fun j h1 h2 => updn (by omega)), ShC_cg hA.1.2.2.2.2 hC (fun k => mI_wIr (by omega)) (fun j h1 h2 => updn (by omega)), ShT_cg hT (Nat.le_refl _) (zTk_wI _ _ _ _ (by omega)) (fun k => rfl) (fun k => mI_wIr (by omega)) (fun j h1 h2 => updn (by omega))⟩
  obtain ⟨h1, h2, ⟨a1, a2, a3, a4, a5⟩, ⟨b1, b2, b3, b4, b5⟩, c1, c2, c3⟩ := hA
  refine ⟨h1, h2, ⟨?_, ?_, ?_, ?_, ?_⟩, ⟨?_, ?_, ?_, ?_, ?_⟩, ?_, ?_, ?_⟩ <;> first | exact mI_wIs _ _ _ _ | exact hv | assumption | (rw [mI_wI, if_neg (by omega)]; assumption) | (rw [mI_wI, if_pos rfl, if_neg (by omega)]; assumption)
