/-! text: both -/
theorem Sh_s2 {M : Mm} {B nM nP nT nK nC : Nat} {s s' : Nat → Int32} (h : Sh M B s nM nP nT nK nC) (hs : ∀ j, j < 340 + 200 * nT → s' j = s j) : Sh M B s' nM nP nT nK nC := by
  obtain ⟨hA, hM, hS, hP, hG, hC, hTx⟩ := h
  exact ⟨ShA_cg hA (fun k => rfl) (fun k => rfl) (fun k => rfl) (fun k => rfl) (fun j hj => hs j (by omega)), ShM_cg hA.1.1 hM (fun i hi k => rfl) (fun j h1 h2 => hs j (by omega)), ShS_cg hS (fun k _ => rfl) (fun j h1 h2 => hs j (by omega)), ShP_cg hA.1.2.1 hP (fun i hi k => rfl) (fun j h1 h2 => hs j (by omega)), ShG_cg hA.1.2.2.2.1 hG (fun k => rfl) (fun k => rfl) (fun j h1 h2 => hs j (by omega)), ShC_cg hA.1.2.2.2.2 hC (fun k => rfl) (fun j h1 h2 => hs j (by omega)), ShT_cg hTx (Nat.le_refl _) (fun r _ _ => ⟨rfl, rfl, fun _ => rfl, fun _ => rfl⟩) (fun k => rfl) (fun k => rfl) (fun j h1 h2 => hs j h2)⟩
/-- a text more -/
theorem up_text {M M' : Mm} {B nM nP nT nK nC k : Nat} {s s' : Nat → Int32} (h : Sh M B s nM nP nT nK nC) (hT14 : nT < 14) (hI : ∀ o, o < 35 → o ≠ 6 → o ≠ 8 → ∀ k, mI M' (B + o) k = mI M (B + o) k) (h6 : mI M' (B + 6) 1 = nI (nT + 1)) (hk : k < 3) (h8 : ∀ j, j < 3 → mI M' (B + 8) j = if j = k then nI nT else mI M (B + 8) j) (hR : ∀ j, j < nT → mR M' (B + 7) j = mR M (B + 7) j) (hZ : mZ M ≤ mZ M') (hT : ∀ r, 172 < r → r ≤ mZ M → mT M' r = mT M r ∧ mL M' r = mL M r ∧ (∀ k, mI M' r k = mI M r k) ∧ ∀ k, mR M' r k = mR M r k) (hs : ∀ j, j < 340 + 200 * nT → j ≠ 2 → s' j = s j) (hs2 : s' 2 = nI (nT + 1)) (hsk : s' (340 + 200 * nT) = nI k) (hX : ShX M' (mR M' (B + 7) nT) s' (340 + 200 * nT)) : Sh M' B s' nM nP (nT + 1) nK nC := by
  obtain ⟨hA, hM, hS, hP, hG, hC, hTx⟩ := h
  refine ⟨?_, ShM_cg hA.1.1 hM (fun i hi k => by rw [Nat.add_assoc]; exact hI (13 + i) (by omega) (by omega) (by omega) k) (fun j h1 h2 => hs j (by omega) (by omega)), ShS_cg hS (fun k _ => hI 3 (by omega) (by omega) (by omega) k) (fun j h1 h2 => hs j (by omega) (by omega)), ShP_cg hA.1.2.1 hP (fun i hi k => by rw [Nat.add_assoc]; exact hI (19 + i) (by omega) (by omega) (by omega) k) (fun j h1 h2 => hs j (by omega) (by omega)), ShG_cg hA.1.2.2.2.1 hG (fun k => hI 11 (by omega) (by omega) (by omega) k) (fun k => hI 12 (by omega) (by omega) (by omega) k) (fun j h1 h2 => hs j (by omega) (by omega)), ShC_cg hA.1.2.2.2.2 hC (fun k => hI 5 (by omega) (by omega) (by omega) k) (fun j h1 h2 => hs j (by omega) (by omega)), fun t ht => ?_, fun j hj => ?_⟩
  · obtain ⟨⟨n1, n2, n3, n4, n5⟩, ⟨s0, s1, s2, s3, s4⟩, ⟨a1, a2, a3, a4, a5⟩, ⟨b1, b2, b3, b4, b5⟩, c1, c2, c3⟩ := hA
    have e0 : ∀ k, mI M' B k = mI M B k := fun k => hI 0 (by omega) (by omega) (by omega) k
    unfold ShA
    rw [hs 0 (by omega) (by omega), hs 1 (by omega) (by omega), hs 3 (by omega) (by omega), hs 4 (by omega) (by omega), hs 5 (by omega) (by omega), hs 6 (by omega) (by omega), hs 7 (by omega) (by omega), hs 8 (by omega) (by omega), hs 9 (by omega) (by omega), hs2, h6, e0 1, e0 4, e0 6, e0 10, e0 9, e0 11, hI 10 (by omega) (by omega) (by omega), hI 10 (by omega) (by omega) (by omega), hI 2 (by omega) (by omega) (by omega)]
    exact ⟨⟨n1, n2, hT14, n4, n5⟩, ⟨s0, s1, rfl, s3, s4⟩, ⟨a1, a2, rfl, a4, a5⟩, ⟨b1, b2, b3, b4, b5⟩, c1, c2, c3⟩
  · by_cases e : t = nT
    · rw [e]; exact hX
    · rw [hR t (by omega)]
      exact ShX_cg (hTx.1 t (by omega)) hZ hT (fun j h1 h2 => hs j (by omega) (by omega))
  · rw [h8 j hj]
    have hz : zlast s' (nI j) nT = zlast s (nI j) nT := zlast_cg nT (fun t ht => hs _ (by omega) (by omega))
    show _ = zon1 (if s' (340 + 200 * nT) = nI j then nI nT else zlast s' (nI j) nT)
    rw [hsk, hz]
    by_cases e : j = k
    · rw [if_pos e, e, if_pos rfl]
      unfold zon1
      rw [if_pos]
      rw [show (0 : Int32) = nI 0 from rfl, cLe (by decide) (by omega)]
      omega
    · rw [if_neg e, if_neg]
      · exact hTx.2 j hj
      · intro q
        exact e ((nI_eq (by omega) (by omega)).mp q).symm
theorem zh_hg {S : Ss} {f : Nat → Int32} : ∀ m, m ≤ S.length → (∀ j w v, S[j]? = some (w, v) → f (2 * j) = w ∧ f (2 * j + 1) = v) → zhgt f m = hg (S.take m)
  | 0, _, _ => rfl
  | m + 1, hm, h => by
    have ih := zh_hg (S := S) (f := f) m (by omega) h
    obtain ⟨⟨w, v⟩, hp⟩ : ∃ p, S[m]? = some p := ⟨S[m], List.getElem?_eq_getElem (by omega)⟩
    have ht : S.take (m + 1) = S.take m ++ [(w, v)] := by
      rw [List.take_add_one, hp]
      rfl
    obtain ⟨f1, f2⟩ := h m w v hp
    rw [ht, hg_snoc, ← ih, zhgt, f1, f2]
    cases zhgt f m with
    | none => rfl
    | some a => rfl
theorem zh_all {S : Ss} {f : Nat → Int32} (h : ∀ j w v, S[j]? = some (w, v) → f (2 * j) = w ∧ f (2 * j + 1) = v) : zhgt f S.length = hg S := by
  have := zh_hg (S := S) (f := f) S.length (Nat.le_refl _) h
  rw [List.take_length] at this
  exact this
/-- both tapes empty -/
theorem Rel_e {M : Mm} (h : Rel M) : Rel (wI (wI M 115 1 0) 150 19 0) := by
  obtain ⟨h1, h2, h3, h4, h5, h6, h7⟩ := h
  have f : ∀ r j, (r ≠ 115 ∨ j ≠ 1) → (r ≠ 150 ∨ j ≠ 19) → mI (wI (wI M 115 1 0) 150 19 0) r j = mI M r j := fun r j q1 q2 => by
    rw [mI_wI, mI_wI]
    by_cases c : r = 150
    · rw [if_pos c, if_neg (by omega), if_neg (by omega)]
    · rw [if_neg c]
      by_cases c2 : r = 115
      · rw [if_pos c2, if_neg (by omega)]
      · rw [if_neg c2]
  refine ⟨h1, ?_, RImg_cg h3 (f 1 3 (by omega) (by omega)) (f 150 3 (by omega) (by omega)) (fun r hr j => f r j (by omega) (by omega)) (fun k => rfl) (Nat.le_refl _) (fun r q1 q2 => ⟨rfl, rfl, fun k => f r k (by omega) (by omega), fun k => rfl⟩), RSheet_cg h4 (fun r hr j => f r j (by omega) (by omega)), RSlot_cg h5 (fun r hr j => f r j (by omega) (by omega)), RWait_cg h6 (f 1 10 (by omega) (by omega)) (f 150 35 (by omega) (by omega)) (fun j => f 121 j (by omega) (by omega)) (fun j => f 171 j (by omega) (by omega)), ⟨0, by omega, ?_, ?_, fun k hk => absurd hk (by omega)⟩⟩
  · obtain ⟨nM, nP, nT, nK, nC, hS⟩ := h2
    refine ⟨nM, nP, nT, nK, nC, ?_⟩
    have e : mI (wI (wI M 115 1 0) 150 19 0) 151 = mI M 151 := funext fun j => f 151 j (by omega) (by omega)
    rw [e]
    exact Sh_M hS (fun o ho k => f _ k (by unfold nowB; omega) (by unfold nowB; omega)) (fun k => rfl) (Nat.le_refl _) (fun r q1 q2 => ⟨rfl, rfl, fun k => f r k (by omega) (by omega), fun k => rfl⟩)
  · rw [mI_wIr (by decide), mI_wIs]; rfl
  · rw [mI_wIs]; rfl
/-- the tape as a function */ -/
theorem tape_g {M : Mm} (h : RTape M) : ∃ n g, n ≤ 96 ∧ mI M 115 1 = nI n ∧ mI M 150 19 = nI n ∧ tpB M 116 n g ∧ tpB M 166 n g := by
  obtain ⟨n, a1, a2, a3, a4⟩ := h
  have : ∀ i, ∃ a : Nat, i < n → mI M 166 i = nI a ∧ a < 256 := fun i => by
    by_cases c : i < n
    · obtain ⟨a, ha, hb⟩ := (a4 i c).2
      exact ⟨a, fun _ => ⟨hb, ha⟩⟩
    · exact ⟨0, fun q => absurd q c⟩
  exact ⟨n, fun i => Classical.choose (this i), a1, a2, a3, fun i hi => ⟨(a4 i hi).1.trans (Classical.choose_spec (this i) hi).1, (Classical.choose_spec (this i) hi).2⟩, fun i hi => Classical.choose_spec (this i) hi⟩
theorem fX_e {M M1 : Mm} (h : Sk M1) (hZ : mZ M ≤ mZ M1) (hI : ∀ r, (r = 1 ∨ (37 ≤ r ∧ r ≤ 71) ∨ r = 116 ∨ (121 ≤ r ∧ r ≤ mZ M)) → ∀ j, mI M1 r j = mI M r j) (h0 : mI M1 115 1 = 0) (hR : ∀ k, mR M1 44 k = mR M 44 k) (hT : ∀ r, 172 < r → r ≤ mZ M → mT M1 r = mT M r ∧ mL M1 r = mL M r ∧ ∀ k, mR M1 r k = mR M r k) (h172 : 172 ≤ mZ M) : fX (wI (wI M 115 1 0) 150 19 0) (wI M1 150 19 0) := by
  have f : ∀ r, (r = 1 ∨ (37 ≤ r ∧ r ≤ 71) ∨ r = 116 ∨ (121 ≤ r ∧ r ≤ mZ M)) → ∀ j, mI (wI M1 150 19 0) r j = mI (wI (wI M 115 1 0) 150 19 0) r j := fun r hr j => by
    rw [mI_wI, mI_wI, mI_wI, if_neg (c := r = 115) (by omega)]
    by_cases c : r = 150
    · rw [if_pos c, if_pos c, hI r hr j]
    · rw [if_neg c, if_neg c, hI r hr j]
  refine ⟨h, hZ, fun r hr j => f r ?_ j, fun j _ => f 1 (by omega) j, ?_, hR, hT⟩
  · unfold zkp at hr
    have e : mZ (wI (wI M 115 1 0) 150 19 0) = mZ M := rfl
    rw [e] at hr
    omega
  · rw [mI_wIr (by decide), mI_wIr (by decide), mI_wIs]
    exact h0
theorem fM_e {la : Nat} {M1 N : Mm} (h : frP la M1 N) : fM (wI M1 150 19 0) N := by
  obtain ⟨a1, a2, a3, a4, a5⟩ := h
  refine ⟨a1, fun r hr j => ?_, fun j hj => ?_⟩
  · rw [mI_wIr (by omega)]
    exact a2 r (by omega) (by omega) j
  · rcases hj with rfl | rfl | rfl
    · rw [mI_wIj (by decide)]; exact a3 3 (by omega)
    · rw [mI_wIs]; exact a4
    · rw [mI_wIj (by decide)]; exact a3 35 (by omega)
/-- nothing but the tapes -/
theorem Rel_b {M N N2 : Mm} {nM nP nT nK nC : Nat} (h : Rel M) (hS : Sh M nowB (mI M 151) nM nP nT nK nC) (hf : qFx M N) (hm : frP (laO nT) (wI N 115 1 0) N2) : Rel N2 := by
  have h172 := h.1.1
  have hx : fX (wI (wI M 115 1 0) 150 19 0) (wI (wI N 115 1 0) 150 19 0) := fX_e (M1 := wI N 115 1 0) (Sk_of hf.1 h.1) (by rw [mZ_wI, mZ_of hf.1]; exact Nat.le_refl _) (fun r hr j => by rw [mI_wIr (by omega)]; exact hf.2.1 r (by omega) (by omega) (by omega) j) (mI_wIs ..) (fun k => mR_of hf.1 _ _) (fun r q1 q2 => ⟨mT_of hf.1 r, mL_of hf.1 r, fun k => mR_of hf.1 _ _⟩) h172
  refine Rel_op (nM := nM) (nP := nP) (nT := nT) (nK := nK) (nC := nC) (Rel_e h) hx (fM_e hm) ?_
  have hla := laO_b hS.1.1.2.2.1
  have e : ∀ j, j < 340 + 200 * nT → mI N2 151 j = mI M 151 j := fun j hj => by
    rw [hm.2.2.2.2 j (by omega), mI_wIr (by decide)]
    exact hf.2.1 151 (by decide) (by decide) (by decide) j
  refine Sh_s2 (s := mI M 151) (Sh_M hS (fun o ho k => ?_) (fun k => mR_of hf.1 _ _) (by rw [mZ_wI, mZ_wI, mZ_of hf.1]; exact Nat.le_refl _) (fun r q1 q2 => ⟨mT_of hf.1 r, mL_of hf.1 r, fun k => ?_, fun k => mR_of hf.1 _ _⟩)) e
  · rw [mI_wIr (by unfold nowB; omega), mI_wIr (by unfold nowB; omega)]
    exact hf.2.1 _ (by unfold nowB; omega) (by unfold nowB; omega) (by unfold nowB; omega) k
  · rw [mI_wIr (by omega), mI_wIr (by omega)]
    exact hf.2.1 r (by omega) (by omega) (by omega) k
