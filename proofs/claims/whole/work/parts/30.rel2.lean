/-! the whole relation; calls -/
def RSheet (M : Mm) : Prop := ∀ i, i < 4 → mI M (122 + 2 * i) 0 = mI M 154 i ∧ (mI M 154 i = -1 ∨ mI M 154 i = 0 ∨ mI M 154 i = 1) ∧ (∃ n, n ≤ 24 ∧ mI M (122 + 2 * i) 1 = nI n ∧ mI M 155 i = nI n) ∧ ∀ j, j < 24 → mI M (122 + 2 * i + 1) j = mI M 156 (24 * i + j)
def RSlot (M : Mm) : Prop := ∀ i, i < 5 → (∃ a, a < 4 ∧ mI M (130 + 4 * i) 0 = nI a ∧ mI M 157 i = nI a) ∧ (mI M (130 + 4 * i) 0 = 3 → mI M (130 + 4 * i) 1 = mI M 158 i) ∧ (mI M (130 + 4 * i) 0 = 1 → (∃ a, a < 6 ∧ mI M (130 + 4 * i + 1) 0 = nI a ∧ mI M 158 i = nI a) ∧ zHm (mI M (130 + 4 * i + 1) 0) (mI M (130 + 4 * i + 1) 3) (mI M (130 + 4 * i + 1) 2) = mI M 159 i) ∧ (mI M (130 + 4 * i) 0 = 2 → (∃ n, n ≤ 24 ∧ mI M (130 + 4 * i + 2) 1 = nI n ∧ mI M 160 i = nI n) ∧ ∀ j, j < 24 → mI M (130 + 4 * i + 3) j = mI M 161 (24 * i + j))
def RWait (M : Mm) : Prop := ∃ w, w ≤ 60 ∧ mI M 1 10 = nI w ∧ mI M 150 35 = nI w ∧ ∀ k, k < w → mI M 121 k = mI M 171 k
def RTape (M : Mm) : Prop := ∃ t, t ≤ 96 ∧ mI M 115 1 = nI t ∧ mI M 150 19 = nI t ∧ ∀ k, k < t → mI M 116 k = mI M 166 k ∧ ∃ a, a < 256 ∧ mI M 166 k = nI a
def RImg (M : Mm) : Prop := (mI M 1 3 = 0 ∧ mI M 150 3 = 0) ∨ (mI M 1 3 = 1 ∧ mI M 150 3 = 1 ∧ ∃ nM nP nT nK nC, Sh M imgB (mI M 152) nM nP nT nK nC)
def RNow (M : Mm) : Prop := ∃ nM nP nT nK nC, Sh M nowB (mI M 151) nM nP nT nK nC
def Rel (M : Mm) : Prop := Sk M ∧ RNow M ∧ RImg M ∧ RSheet M ∧ RSlot M ∧ RWait M ∧ RTape M
/-- the depth at which the law calls -/
def DD : Nat := 300
/-- a call on both objects: alike answers, the relation stays -/
def Opk (X : List Int32) (y z : Nat) (a : List Value) (M : Mm) : Prop := ∃ v M1 M2, zca X zML 300 y (.ref 1 :: a) M (some (.int v)) M1 ∧ zca X zML 300 z (.ref 150 :: a) M1 (some (.int v)) M2 ∧ Rel M2
/-- cells that a call on the present shop leaves as they are -/
def zkp (M : Mm) (r : Nat) : Prop := (37 ≤ r ∧ r ≤ 71) ∨ r = 116 ∨ (121 ≤ r ∧ r ≤ 149) ∨ r = 152 ∨ (154 ≤ r ∧ r ≤ 161) ∨ r = 166 ∨ r = 171 ∨ (172 < r ∧ r ≤ mZ M)
theorem RSheet_cg {M M' : Mm} (h : RSheet M) (hI : ∀ r, (121 ≤ r ∧ r ≤ 149) ∨ (154 ≤ r ∧ r ≤ 156) → ∀ j, mI M' r j = mI M r j) : RSheet M' := by
  intro i hi
  have h1 := h i hi
  rw [hI 154 (by omega), hI (122 + 2 * i) (by omega), hI (122 + 2 * i) (by omega), hI 155 (by omega)]
  refine ⟨h1.1, h1.2.1, h1.2.2.1, fun j hj => ?_⟩
  rw [hI (122 + 2 * i + 1) (by omega), hI 156 (by omega)]
  exact h1.2.2.2 j hj
theorem RSlot_cg {M M' : Mm} (h : RSlot M) (hI : ∀ r, (130 ≤ r ∧ r ≤ 149) ∨ (157 ≤ r ∧ r ≤ 161) → ∀ j, mI M' r j = mI M r j) : RSlot M' := by
  intro i hi
  have h1 := h i hi
  rw [hI (130 + 4 * i) (by omega), hI (130 + 4 * i) (by omega), hI 157 (by omega), hI 158 (by omega), hI (130 + 4 * i + 1) (by omega), hI (130 + 4 * i + 1) (by omega), hI (130 + 4 * i + 1) (by omega), hI 159 (by omega), hI (130 + 4 * i + 2) (by omega), hI 160 (by omega)]
  refine ⟨h1.1, h1.2.1, h1.2.2.1, fun hj => ⟨(h1.2.2.2 hj).1, fun j hk => ?_⟩⟩
  rw [hI (130 + 4 * i + 3) (by omega), hI 161 (by omega)]
  exact (h1.2.2.2 hj).2 j hk
theorem RWait_cg {M M' : Mm} (h : RWait M) (h1 : mI M' 1 10 = mI M 1 10) (h2 : mI M' 150 35 = mI M 150 35) (h3 : ∀ j, mI M' 121 j = mI M 121 j) (h4 : ∀ j, mI M' 171 j = mI M 171 j) : RWait M' := by
  obtain ⟨w, a1, a2, a3, a4⟩ := h
  exact ⟨w, a1, by rw [h1]; exact a2, by rw [h2]; exact a3, fun k hk => by rw [h3, h4]; exact a4 k hk⟩
theorem RTape_cg {M M' : Mm} (h : RTape M) (h1 : mI M' 115 1 = mI M 115 1) (h2 : mI M' 150 19 = mI M 150 19) (h3 : ∀ j, mI M' 116 j = mI M 116 j) (h4 : ∀ j, mI M' 166 j = mI M 166 j) : RTape M' := by
  obtain ⟨w, a1, a2, a3, a4⟩ := h
  exact ⟨w, a1, by rw [h1]; exact a2, by rw [h2]; exact a3, fun k hk => by rw [h3, h4]; exact a4 k hk⟩
theorem RImg_cg {M M' : Mm} (h : RImg M) (h1 : mI M' 1 3 = mI M 1 3) (h2 : mI M' 150 3 = mI M 150 3) (hI : ∀ r, (37 ≤ r ∧ r ≤ 71) ∨ r = 152 → ∀ j, mI M' r j = mI M r j) (hR : ∀ k, mR M' 44 k = mR M 44 k) (hZ : mZ M ≤ mZ M') (hT : ∀ r, 172 < r → r ≤ mZ M → mT M' r = mT M r ∧ mL M' r = mL M r ∧ (∀ k, mI M' r k = mI M r k) ∧ ∀ k, mR M' r k = mR M r k) : RImg M' := by
  rcases h with ⟨a1, a2⟩ | ⟨a1, a2, nM, nP, nT, nK, nC, h⟩
  · exact Or.inl ⟨by rw [h1]; exact a1, by rw [h2]; exact a2⟩
  · refine Or.inr ⟨by rw [h1]; exact a1, by rw [h2]; exact a2, nM, nP, nT, nK, nC, ?_⟩
    have e : mI M' 152 = mI M 152 := funext fun j => hI 152 (by omega) j
    rw [e]
    exact Sh_M h (fun o ho k => hI (imgB + o) (by unfold imgB; omega) k) hR hZ hT
/-- calls that touch the present shop alone -/
theorem Rel_now {M M' : Mm} (h : Rel M) (hk : Sk M') (hN : RNow M') (h1 : ∀ j, j = 3 ∨ j = 10 → mI M' 1 j = mI M 1 j) (h150 : ∀ j, j = 3 ∨ j = 19 ∨ j = 35 → mI M' 150 j = mI M 150 j) (h115 : mI M' 115 1 = mI M 115 1) (hI : ∀ r, zkp M r → ∀ j, mI M' r j = mI M r j) (hR : ∀ k, mR M' 44 k = mR M 44 k) (hZ : mZ M ≤ mZ M') (hT : ∀ r, 172 < r → r ≤ mZ M → mT M' r = mT M r ∧ mL M' r = mL M r ∧ ∀ k, mR M' r k = mR M r k) : Rel M' := by
  obtain ⟨-, -, r3, r4, r5, r6, r7⟩ := h
  exact ⟨hk, hN, RImg_cg r3 (h1 3 (by omega)) (h150 3 (by omega)) (fun r hr => hI r (by unfold zkp; omega)) hR hZ (fun r q1 q2 => ⟨(hT r q1 q2).1, (hT r q1 q2).2.1, fun k => hI r (by unfold zkp; omega) k, (hT r q1 q2).2.2⟩), RSheet_cg r4 (fun r hr => hI r (by unfold zkp; omega)), RSlot_cg r5 (fun r hr => hI r (by unfold zkp; omega)), RWait_cg r6 (h1 10 (by omega)) (h150 35 (by omega)) (fun j => hI 121 (by unfold zkp; omega) j) (fun j => hI 171 (by unfold zkp; omega) j), RTape_cg r7 h115 (h150 19 (by omega)) (fun j => hI 116 (by unfold zkp; omega) j) (fun j => hI 166 (by unfold zkp; omega) j)⟩
theorem Opk.mk {X : List Int32} {y z : Nat} {a : List Value} {M M1 M2 : Mm} {v w : Int32} (hx : zca X zML 300 y (.ref 1 :: a) M (some (.int v)) M1) (hm : zca X zML 300 z (.ref 150 :: a) M1 (some (.int w)) M2) (he : w = v) (hr : Rel M2) : Opk X y z a M := ⟨v, M1, M2, hx, he ▸ hm, hr⟩
/-- what the class's call leaves: all but the present shop, the planner, the reader's own numbers -/
def fX (M M1 : Mm) : Prop := Sk M1 ∧ mZ M ≤ mZ M1 ∧ (∀ r, zkp M r ∨ (150 ≤ r ∧ r ≤ 172) → ∀ j, mI M1 r j = mI M r j) ∧ (∀ j, j = 3 ∨ j = 10 → mI M1 1 j = mI M 1 j) ∧ mI M1 115 1 = mI M 115 1 ∧ (∀ k, mR M1 44 k = mR M 44 k) ∧ ∀ r, 172 < r → r ≤ mZ M → mT M1 r = mT M r ∧ mL M1 r = mL M r ∧ ∀ k, mR M1 r k = mR M r k
/-- what the reference's call leaves -/
def fM (M1 M2 : Mm) : Prop := M2.2 = M1.2 ∧ (∀ r, (r < 150 ∨ r = 152 ∨ (154 ≤ r ∧ r ≤ 161) ∨ r = 166 ∨ r = 171 ∨ 172 < r) → ∀ j, mI M2 r j = mI M1 r j) ∧ ∀ j, j = 3 ∨ j = 19 ∨ j = 35 → mI M2 150 j = mI M1 150 j
theorem fM_rf (M : Mm) : fM M M := ⟨rfl, fun _ _ _ => rfl, fun _ _ => rfl⟩
theorem fX_rf {M : Mm} (h : Sk M) : fX M M := ⟨h, Nat.le_refl _, fun _ _ _ => rfl, fun _ _ => rfl, rfl, fun _ => rfl, fun _ _ _ => ⟨rfl, rfl, fun _ => rfl⟩⟩
theorem mR_of {M M' : Mm} (h : M'.2 = M.2) (r k : Nat) : mR M' r k = mR M r k := by unfold mR; rw [h]
theorem mT_of {M M' : Mm} (h : M'.2 = M.2) (r : Nat) : mT M' r = mT M r := by unfold mT; rw [h]
theorem mL_of {M M' : Mm} (h : M'.2 = M.2) (r : Nat) : mL M' r = mL M r := by unfold mL; rw [h]
theorem mZ_of {M M' : Mm} (h : M'.2 = M.2) : mZ M' = mZ M := by unfold mZ; rw [h]
theorem Sk_of {M M' : Mm} (h : M'.2 = M.2) (hk : Sk M) : Sk M' := by
  unfold Sk
  refine ⟨by rw [mZ_of h]; exact hk.1, fun r hr => by rw [mT_of h, mL_of h]; exact hk.2.1 r hr, fun r hr a1 a2 a3 j => by rw [mR_of h]; exact hk.2.2 r hr a1 a2 a3 j⟩
/-- ints of the present shop, the planner, scratch alone -/
theorem fX_of {M M1 : Mm} (hk : Sk M) (h2 : M1.2 = M.2) (hI : ∀ r, r = 1 ∨ (37 ≤ r ∧ r ≤ 71) ∨ r = 115 ∨ r = 116 ∨ 121 ≤ r → ∀ j, mI M1 r j = mI M r j) : fX M M1 := by
  refine ⟨Sk_of h2 hk, by rw [mZ_of h2]; exact Nat.le_refl _, fun r hr => hI r ?_, fun j _ => hI 1 (by omega) j, hI 115 (by omega) 1, fun k => mR_of h2 _ _, fun r _ _ => ⟨mT_of h2 r, mL_of h2 r, fun k => mR_of h2 _ _⟩⟩
  unfold zkp at hr
  omega
theorem fX_tr {M M1 M2 : Mm} (h1 : fX M M1) (h2 : fX M1 M2) : fX M M2 := by
  obtain ⟨a1, a2, a3, a4, a5, a6, a7⟩ := h1
  obtain ⟨b1, b2, b3, b4, b5, b6, b7⟩ := h2
  refine ⟨b1, Nat.le_trans a2 b2, fun r hr j => ?_, fun j hj => by rw [b4 j hj, a4 j hj], by rw [b5, a5], fun k => by rw [b6, a6], fun r q1 q2 => ?_⟩
  · rw [b3 r (by unfold zkp at *; omega), a3 r hr]
  · obtain ⟨c1, c2, c3⟩ := a7 r q1 q2
    obtain ⟨e1, e2, e3⟩ := b7 r q1 (by omega)
    exact ⟨by rw [e1, c1], by rw [e2, c2], fun k => by rw [e3, c3]⟩
theorem fM_tr {M M1 M2 : Mm} (h1 : fM M M1) (h2 : fM M1 M2) : fM M M2 := ⟨by rw [h2.1, h1.1], fun r hr j => by rw [h2.2.1 r hr, h1.2.1 r hr], fun j hj => by rw [h2.2.2 j hj, h1.2.2 j hj]⟩
/-- the relation behind both calls -/
theorem Rel_op {M M1 M2 : Mm} {nM nP nT nK nC : Nat} (h : Rel M) (hx : fX M M1) (hm : fM M1 M2) (hS : Sh M1 nowB (mI M2 151) nM nP nT nK nC) : Rel M2 := by
  obtain ⟨a1, a2, a3, a4, a5, a6, a7⟩ := hx
  obtain ⟨b1, b2, b3⟩ := hm
  refine Rel_now h (Sk_of b1 a1) ⟨nM, nP, nT, nK, nC, Sh_M hS (fun o ho k => b2 _ (by unfold nowB; omega) k) (fun k => mR_of b1 _ _) (by rw [mZ_of b1]; exact Nat.le_refl _) (fun r q1 q2 => ⟨mT_of b1 r, mL_of b1 r, fun k => b2 r (by omega) k, fun k => mR_of b1 _ _⟩)⟩ (fun j hj => by rw [b2 1 (by omega), a4 j hj]) (fun j hj => by rw [b3 j hj, a3 150 (by omega)]) (by rw [b2 115 (by omega), a5]) (fun r hr j => ?_) (fun k => by rw [mR_of b1, a6]) (by rw [mZ_of b1]; exact a2) (fun r q1 q2 => ⟨by rw [mT_of b1]; exact (a7 r q1 q2).1, by rw [mL_of b1]; exact (a7 r q1 q2).2.1, fun k => by rw [mR_of b1]; exact (a7 r q1 q2).2.2 k⟩)
  rw [b2 r (by unfold zkp at hr; omega), a3 r (Or.inl hr)]
theorem mI_151 (M : Mm) (k : Nat) (v : Int32) : mI (wI M 151 k v) 151 = upd (mI M 151) k v := by
  funext j
  unfold upd
  rw [mI_wI, if_pos rfl]
theorem fM_151 (M : Mm) (k : Nat) (v : Int32) : fM M (wI M 151 k v) := ⟨rfl, fun r hr j => mI_wIr (by omega), fun j hj => mI_wIr (by omega)⟩
theorem xSeed {X : List Int32} {d : Nat} {M : Mm} (h : Sk M) (v : Int32) : zca X zML (d + 1) 225 [.ref 1, .int v] M (some (.int (mI M nowB 11))) (wI M nowB 11 v) := by
  refine iX11_seed ⟨rfl, Nat.le_of_ble_eq_true rfl⟩ (zgo_in 200 ?_)
  dsimp only [zen, zrep, zw, zLo, zSe, zi1, zi2, zl2, zr1, zj, zsw, zpop, zkd, zLn, zc1, Nat.reduceSub, pX11_seed]
  simp only [kO_1 h, kN h, bO0 h nowB_is, true_and, and_true, zO_wI, mR_wI, mL_wI]
theorem mSeed {X : List Int32} {d : Nat} {M : Mm} (h : Sk M) (v : Int32) : zca X zML (d + 2) 226 [.ref 150, .int v] M (some (.int (mI M 151 8))) (wI M 151 8 v) := by
  refine iX12_seed ⟨rfl, Nat.le_of_ble_eq_true rfl⟩ (zgo_in 200 ?_)
  dsimp only [zen, zrep, zw, zLo, zSe, zi1, zi2, zl2, zr1, zj, zsw, zpop, zkd, zLn, zc1, Nat.reduceSub, pX12_seed]
  refine ⟨⟨Nat.le_of_ble_eq_true rfl, Nat.le_of_ble_eq_true rfl, Nat.le_of_ble_eq_true rfl⟩, ?_⟩
  simp only [kO_150 h, kR_150_0 h, kO_151 h, kL_151 h, true_and, and_true]
  exact ⟨_, _, mBecomes h (k := 8) (by omega) v, rfl, rfl⟩
theorem opSeed {X : List Int32} {M : Mm} (h : Rel M) (v : Int32) : Opk X 225 226 [.int v] M := by
  obtain ⟨nM, nP, nT, nK, nC, hS⟩ := h.2.1
  refine Opk.mk (xSeed (d := 299) h.1 v) (mSeed (d := 298) (M := wI M nowB 11 v) h.1 v) ?_ (Rel_op (nM := nM) (nP := nP) (nT := nT) (nK := nK) (nC := nC) h (fX_of (M1 := wI M nowB 11 v) h.1 rfl (fun r hr j => mI_wIr (by unfold nowB; omega))) (fM_151 _ _ _) ?_)
  · rw [mI_wIr (by decide)]; exact hS.1.2.2.2.1.2.2.2.1.symm
  · rw [mI_151]
    have e : mI (wI M nowB 11 v) 151 = mI M 151 := funext fun j => mI_wIr (by decide)
    rw [e]
    exact up_z nowB_is hS v
