/-! text -/
theorem adM_i {K : Mm} {L nT k r j : Nat} (h1 : r ≤ mZ K) (h8 : r ≠ 8) (h10 : r ≠ 10) : mI (adM K L nT k) r j = mI K r j := by
  unfold adM txM txA
  rw [mI_wIr h8, mI_wIr h10, mI_wR, mI_wR, mI_wIr (by omega), mI_wIr (by omega), mI_wN (by rw [mZ_wC, mZ_wN]; omega), mI_wCr (by omega), mI_wN (by omega)]
theorem txM_i {K : Mm} {L r j : Nat} (h1 : r ≤ mZ K) : mI (txM K L) r j = mI K r j := by
  unfold txM txA
  rw [mI_wR, mI_wIr (by omega), mI_wIr (by omega), mI_wN (by rw [mZ_wC, mZ_wN]; omega), mI_wCr (by omega), mI_wN (by omega)]
theorem txM_R {K : Mm} {L r j : Nat} (h1 : r ≤ mZ K) : mR (txM K L) r j = mR K r j := by
  unfold txM txA
  rw [mR_wR, if_neg (by omega), mR_wI, mR_wI, mR_wN (by rw [mZ_wC, mZ_wN]; omega), mR_wC, mR_wN (by omega)]
theorem adM_R {K : Mm} {L nT k r j : Nat} (h1 : r ≤ mZ K) (h : r ≠ 9 ∨ j ≠ nT) : mR (adM K L nT k) r j = mR K r j := by
  unfold adM
  rw [mR_wI, mR_wI, mR_wR]
  by_cases c : r = 9
  · rw [if_pos c, if_neg (by omega), txM_R h1]
  · rw [if_neg c, txM_R h1]
theorem adM_T {K : Mm} {L nT k r : Nat} (h1 : r ≤ mZ K) : mT (adM K L nT k) r = mT K r ∧ mL (adM K L nT k) r = mL K r := by
  unfold adM txM txA
  rw [mT_wI, mT_wI, mT_wR, mT_wR, mT_wI, mT_wI, mL_wI, mL_wI, mL_wR, mL_wR, mL_wI, mL_wI, mT_wN (by rw [mZ_wC, mZ_wN]; omega), mT_wC, mT_wN (by omega), mL_wN (by rw [mZ_wC, mZ_wN]; omega), mL_wC, mL_wN (by omega)]
  exact ⟨rfl, rfl⟩
theorem adM_Z {K : Mm} {L nT k : Nat} : mZ (adM K L nT k) = mZ K + 1 + 1 := rfl
theorem adM_a {K : Mm} {L nT k : Nat} : mT (adM K L nT k) (mZ K + 1) = 50 ∧ mL (adM K L nT k) (mZ K + 1) = L := by
  unfold adM txM txA
  rw [mT_wI, mT_wI, mT_wR, mT_wR, mT_wI, mT_wI, mL_wI, mL_wI, mL_wR, mL_wR, mL_wI, mL_wI, mT_wN (by rw [mZ_wC, mZ_wN]; omega), mT_wC, mT_wNs, mL_wN (by rw [mZ_wC, mZ_wN]; omega), mL_wC, mL_wNs]
  exact ⟨rfl, rfl⟩
theorem adM_q {K : Mm} {L nT k : Nat} : mT (adM K L nT k) (mZ K + 1 + 1) = 9 := mT_wNs (M := wC (wN K 50 L) 118 0 (mZ K + 1) 0 L) (t := 9) (n := 3)
theorem adM_9 {K : Mm} {L nT k : Nat} : mR (adM K L nT k) 9 nT = mZ K + 1 + 1 := by
  unfold adM
  rw [mR_wI, mR_wI, mR_wR, if_pos rfl, if_pos rfl]
theorem adM_2 {K : Mm} {L nT k : Nat} (h : 172 ≤ mZ K) : mR (adM K L nT k) (mZ K + 1 + 1) 2 = mZ K + 1 := by
  unfold adM txM
  rw [mR_wI, mR_wI, mR_wR, if_neg (by omega), mR_wR, if_pos rfl, if_pos rfl]
theorem adM_0 {K : Mm} {L nT k : Nat} (h : 172 ≤ mZ K) : mI (adM K L nT k) (mZ K + 1 + 1) 0 = mI K 115 6 ∧ mI (adM K L nT k) (mZ K + 1 + 1) 1 = mI K 115 14 := by
  refine ⟨?_, ?_⟩
  · unfold adM txM
    rw [mI_wIr (by omega), mI_wIr (by omega), mI_wR, mI_wR, mI_wIj (by decide), mI_wIs]
  · unfold adM txM
    rw [mI_wIr (by omega), mI_wIr (by omega), mI_wR, mI_wR, mI_wIs]
theorem adM_s {K : Mm} {L nT k j : Nat} (h : 172 ≤ mZ K) (hj : j < L) : mI (adM K L nT k) (mZ K + 1) j = mI K 118 j := by
  unfold adM txM txA
  rw [mI_wIr (by omega), mI_wIr (by omega), mI_wR, mI_wR, mI_wIr (by omega), mI_wIr (by omega), mI_wN (by rw [mZ_wC, mZ_wN]; omega), mI_wC, if_pos rfl, pk_cpy_in (by omega) (by omega), show 0 + (j - 0) = j by omega, mI_wN (by omega)]
theorem adM_k {K : Mm} {L nT k : Nat} (h : Sk K) : Sk (adM K L nT k) := by
  have h0 := h.1
  refine ⟨by rw [adM_Z]; omega, fun r hr => ?_, fun r hr a b c j => ?_⟩
  · obtain ⟨q1, q2⟩ := adM_T (K := K) (L := L) (nT := nT) (k := k) (r := r) (by omega)
    rw [q1, q2]
    exact h.2.1 r hr
  · rw [adM_R (by omega) (Or.inl a)]
    exact h.2.2 r hr a b c j
theorem adM_8 {K : Mm} {L nT k : Nat} : mI (adM K L nT k) 8 1 = nI (nT + 1) := mI_wIs ..
theorem adM_10 {K : Mm} {L nT k j : Nat} (h : 172 ≤ mZ K) : mI (adM K L nT k) 10 j = if j = k then nI nT else mI K 10 j := by
  unfold adM
  rw [mI_wIr (by decide), mI_wI, if_pos rfl, mI_wR, txM_i (by omega)]
/-- what a text that was read adds -/
theorem Rel_t {M N N2 : Mm} {nM nP nT nK nC n e k : Nat} {g : Nat → Nat} {ke : Int32} {r : Ts} {S : Ss} (h : Rel M) (hS : Sh M nowB (mI M 151) nM nP nT nK nC) (hn : n ≤ 96) (he : e ≤ n) (hru : ru (tks (nmB ke) g n 97 e true) true 0 0 [] [] = (true, r, S)) (hf : qFx M N) (hT14 : nT < 14) (hk : k < 3) (hke : ke = nI k) (hc : mI N 115 6 = ke ∧ (mI N 115 13 = nI S.length ∧ qSt N S) ∧ mI N 115 14 = nI (lfs S)) (hm : frP (laO nT) (adM (wI N 115 1 0) S.length nT k) N2) (hst : rSt N2 (laO nT) S) : Rel (tR nT N2 ke S) := by
  obtain ⟨K, hK⟩ : ∃ K, K = wI N 115 1 0 := ⟨_, rfl⟩
  rw [← hK] at hm
  have kK : Sk K := by rw [hK]; exact Sk_of hf.1 h.1
  have h172 := h.1.1
  have zK : mZ K = mZ M := by rw [hK, mZ_wI]; exact mZ_of hf.1
  have K115 : mI K 115 1 = 0 := by rw [hK, mI_wIs]
  have Ki : ∀ a, a ≠ 115 → a ≠ 117 → a ≠ 118 → ∀ j, mI K a j = mI M a j := fun a q1 q2 q3 j => by
    rw [hK, mI_wIr q1]
    exact hf.2.1 a q1 q2 q3 j
  have KR : ∀ a j, mR K a j = mR M a j := fun a j => by rw [hK, mR_wI]; exact mR_of hf.1 _ _
  have KT : ∀ a, mT K a = mT M a ∧ mL K a = mL M a := fun a => by rw [hK, mT_wI, mL_wI]; exact ⟨mT_of hf.1 _, mL_of hf.1 _⟩
  have K6 : mI K 115 6 = ke := by rw [hK, mI_wIj (by decide)]; exact hc.1
  have K14 : mI K 115 14 = nI (lfs S) := by rw [hK, mI_wIj (by decide)]; exact hc.2.2
  have Ks : qSt K S := qSt_cg hc.2.1.2 (fun j _ => by rw [hK, mI_wIr (by decide)])
  obtain ⟨hS96, hh1, hok⟩ := ru_good hn he hru
  have hlo : laO nT = 340 + 200 * nT + 4 := by unfold laO; rw [if_pos hT14]; omega
  have aI : ∀ a, a ≤ mZ M → a ≠ 8 → a ≠ 10 → a ≠ 115 → a ≠ 117 → a ≠ 118 → ∀ j, mI (adM K S.length nT k) a j = mI M a j := fun a q1 q2 q3 q4 q5 q6 j => by
    rw [adM_i (by omega) q2 q3]
    exact Ki a q4 q5 q6 j
  have hx : fX (wI (wI M 115 1 0) 150 19 0) (wI (adM K S.length nT k) 150 19 0) := fX_e (M1 := adM K S.length nT k) (adM_k kK) (by rw [adM_Z]; omega) (fun r hr j => aI r (by omega) (by omega) (by omega) (by omega) (by omega) (by omega) j) (by rw [adM_i (by omega) (by decide) (by decide)]; exact K115) (fun j => by rw [adM_R (by omega) (Or.inl (by decide))]; exact KR _ _) (fun r q1 q2 => ⟨by rw [(adM_T (by omega)).1]; exact (KT r).1, by rw [(adM_T (by omega)).2]; exact (KT r).2, fun j => by rw [adM_R (by omega) (Or.inl (by omega))]; exact KR _ _⟩) h172
  have hm2 : fM N2 (tR nT N2 ke S) := fM_tr (fM_tr (fM_tr (fM_151 _ _ _) (fM_151 _ _ _)) (fM_151 _ _ _)) (fM_151 _ _ _)
  refine Rel_op (nM := nM) (nP := nP) (nT := nT + 1) (nK := nK) (nC := nC) (Rel_e h) hx (fM_tr (fM_e hm) hm2) ?_
  have sj : ∀ j, j ≠ 2 → j ≠ 340 + 200 * nT → j ≠ 340 + 200 * nT + 1 → j ≠ 340 + 200 * nT + 2 → mI (tR nT N2 ke S) 151 j = mI N2 151 j := fun j q1 q2 q3 q4 => by
    unfold tR
    rw [mI_wIj q1, mI_wIj q4, mI_wIj q3, mI_wIj q2]
  have s0 : mI (tR nT N2 ke S) 151 (340 + 200 * nT) = ke := by
    unfold tR
    rw [mI_wIj (by omega), mI_wIj (by omega), mI_wIj (by omega), mI_wIs]
  have s1 : mI (tR nT N2 ke S) 151 (340 + 200 * nT + 1) = nI (lfs S) := by
    unfold tR
    rw [mI_wIj (by omega), mI_wIj (by omega), mI_wIs]
  have s2 : mI (tR nT N2 ke S) 151 (340 + 200 * nT + 2) = nI S.length := by
    unfold tR
    rw [mI_wIj (by omega), mI_wIs]
  have sq : ∀ j w v, S[j]? = some (w, v) → mI (tR nT N2 ke S) 151 (340 + 200 * nT + 4 + 2 * j) = w ∧ mI (tR nT N2 ke S) 151 (340 + 200 * nT + 4 + 2 * j + 1) = v := fun j w v q => by
    rw [sj _ (by omega) (by omega) (by omega) (by omega), sj _ (by omega) (by omega) (by omega) (by omega), ← hlo]
    exact hst.2 j w v q
  have w0 : ∀ a j, a ≠ 150 → mI (wI (adM K S.length nT k) 150 19 0) a j = mI (adM K S.length nT k) a j := fun a j q => mI_wIr q
  refine up_text (k := k) hS hT14 (fun o ho q6 q8 j => ?_) ?_ hk (fun j hj => ?_) (fun j hj => ?_) (by rw [mZ_wI, adM_Z]; omega) (fun r q1 q2 => ⟨?_, ?_, fun j => ?_, fun j => ?_⟩) (fun j hj q2 => ?_) (mI_wIs ..) (by rw [s0]; exact hke) ?_
  · rw [w0 _ _ (by unfold nowB; omega)]
    exact aI _ (by unfold nowB; omega) (by unfold nowB; omega) (by unfold nowB; omega) (by unfold nowB; omega) (by unfold nowB; omega) (by unfold nowB; omega) j
  · rw [w0 _ _ (by decide)]
    exact adM_8
  · rw [w0 _ _ (by decide)]
    show mI (adM K S.length nT k) 10 j = if j = k then nI nT else mI M 10 j
    rw [adM_10 (by omega), Ki 10 (by decide) (by decide) (by decide)]
  · rw [mR_wI]
    show mR (adM K S.length nT k) 9 j = mR M 9 j
    rw [adM_R (by omega) (Or.inr (by omega))]
    exact KR _ _
  · rw [mT_wI, (adM_T (by omega)).1]
    exact (KT r).1
  · rw [mL_wI, (adM_T (by omega)).2]
    exact (KT r).2
  · rw [w0 _ _ (by omega)]
    exact aI r q2 (by omega) (by omega) (by omega) (by omega) (by omega) j
  · rw [mR_wI, adM_R (by omega) (Or.inl (by omega))]
    exact KR _ _
  · rw [sj j q2 (by omega) (by omega) (by omega), hm.2.2.2.2 j (by omega)]
    exact aI 151 (by omega) (by decide) (by decide) (by decide) (by decide) (by decide) j
  · have e9 : mR (wI (adM K S.length nT k) 150 19 0) (nowB + 7) nT = mZ K + 1 + 1 := adM_9 (k := k)
    rw [e9]
    have e2 : mR (wI (adM K S.length nT k) 150 19 0) (mZ K + 1 + 1) 2 = mZ K + 1 := adM_2 (k := k) (by omega)
    have eL : mL (wI (adM K S.length nT k) 150 19 0) (mZ K + 1) = S.length := (adM_a (k := k)).2
    unfold ShX
    rw [e2, eL, w0 _ _ (by omega), w0 _ _ (by omega), (adM_0 (by omega)).1, (adM_0 (by omega)).2, s0, s1, s2, K6, K14]
    refine ⟨⟨⟨by omega, by rw [mZ_wI, adM_Z]; omega, adM_q (k := k)⟩, by omega, ⟨by omega, by rw [mZ_wI, adM_Z]; omega, (adM_a (k := k)).1⟩, by omega⟩, ⟨rfl, rfl, rfl, hS96, k, hk, hke⟩, fun j hj => ?_, ?_⟩
    · obtain ⟨⟨w, v⟩, hp⟩ : ∃ p, S[j]? = some p := ⟨S[j], List.getElem?_eq_getElem hj⟩
      obtain ⟨q1, q2⟩ := sq j w v hp
      rw [w0 _ _ (by omega), adM_s (by omega) hj, Ks j w v hp, q1, q2]
      exact ⟨rfl, hok (w, v) (List.mem_of_getElem? hp)⟩
    · rw [← hh1]
      exact zh_all (fun j w v hp => sq j w v hp)
theorem opText {X : List Int32} {M : Mm} (h : Rel M) : Opk X 172 189 [] M := by
  obtain ⟨nM, nP, nT, nK, nC, hS⟩ := h.2.1
  have hN : nT ≤ 14 := hS.1.1.2.2.1
  obtain ⟨n, g, hn, e1, e19, t1, t2⟩ := tape_g h.2.2.2.2.2.2
  have eT8 : mI M 8 1 = nI nT := hS.1.2.2.1.2.2.1
  have eTs : mI M 151 2 = nI nT := hS.1.2.1.2.2.1
  obtain ⟨b, hb⟩ : ∃ b, b = fw (isSp g) n 0 := ⟨_, rfl⟩
  obtain ⟨e, hE⟩ : ∃ e, e = if b < n then tkE g n b else b := ⟨_, rfl⟩
  have h172 := h.1.1
  obtain ⟨x, M1, ⟨N, f, ke, hky, hm1, hm2⟩, hz⟩ := xText (X := X) (d := 291) h.1 hn t1 e1 hN eT8 hb hE
  have gb : ∀ i, i < n → g i < 256 := fun i hi => (t1 i hi).2
  -- the reference, behind what leaves its cells
  have rf : Sk M1 → (∀ r j, 150 ≤ r → r ≤ 172 → mI M1 r j = mI M r j) → ∃ w M2, (∃ N2, frP (laO nT) M1 N2 ∧ (ke = -1 → w = -100 - nI b ∧ M2 = N2) ∧ (ke ≠ -1 → mPo n nT N2 M2 ke w (ru (tks (nmB ke) g n 97 e true) true 0 0 [] []))) ∧ zca X zML 300 189 [.ref 150] M1 (some (.int w)) M2 := fun k1 i1 => by
    obtain ⟨w, M2, ⟨N2, f2, ke2, hky2, a1, a2⟩, hz2⟩ := mText (X := X) (d := 232) k1 hn (tpB_cg t2 (fun j => i1 166 j (by decide) (by decide))) ((i1 150 19 (by decide) (by decide)).trans e19) hN ((i1 151 2 (by decide) (by decide)).trans eTs) hb hE
    have := kyR_u hky2 hky
    subst this
    exact ⟨w, M2, ⟨N2, f2, a1, a2⟩, hz2⟩
  have same : M1 = wI N 115 1 0 → Sk M1 ∧ ∀ r j, 150 ≤ r → r ≤ 172 → mI M1 r j = mI M r j := fun q => by
    rw [q]
    exact ⟨Sk_of f.1 h.1, fun r j q1 q2 => by rw [mI_wIr (by omega)]; exact f.2.1 r (by omega) (by omega) (by omega) j⟩
  by_cases hm : ke = -1
  · obtain ⟨hx, hM1⟩ := hm1 hm
    obtain ⟨k1, i1⟩ := same hM1
    obtain ⟨w, M2, ⟨N2, f2, a1, -⟩, hz2⟩ := rf k1 i1
    obtain ⟨hw, hM2⟩ := a1 hm
    rw [hM1] at f2
    exact Opk.mk hz hz2 (hw.trans hx.symm) (by rw [hM2]; exact Rel_b h hS f f2)
  · have hp := hm2 hm
    obtain ⟨hbn, hEe, hs1, hke, hb4⟩ := ky_1 gb hky hE hm
    have hen : e ≤ n := by rw [hEe]; exact (tkE_lt (g := g) hbn).2
    obtain ⟨rr, hrr⟩ : ∃ rr, rr = ru (tks (nmB ke) g n 97 e true) true 0 0 [] [] := ⟨_, rfl⟩
    rw [← hrr] at hp rf
    obtain ⟨rb, rt, rS'⟩ := rr
    cases rb with
    | false =>
      obtain ⟨hx, hM1⟩ := hp
      obtain ⟨k1, i1⟩ := same hM1
      obtain ⟨w, M2, ⟨N2, f2, -, a2⟩, hz2⟩ := rf k1 i1
      obtain ⟨hw, hM2⟩ := a2 hm
      rw [hM1] at f2
      exact Opk.mk hz hz2 (hw.trans hx.symm) (by rw [hM2]; exact Rel_b h hS f f2)
    | true =>
      obtain ⟨hc, hp⟩ := hp
      rcases hp with ⟨c14, hx, hM1⟩ | ⟨c14, hx, k, hk, hkk, hM1⟩
      · obtain ⟨k1, i1⟩ := same hM1
        obtain ⟨w, M2, ⟨N2, f2, -, a2⟩, hz2⟩ := rf k1 i1
        obtain ⟨-, a2⟩ := a2 hm
        rcases a2 with ⟨-, hw, hM2⟩ | ⟨q, -⟩
        · rw [hM1] at f2
          exact Opk.mk hz hz2 (hw.trans hx.symm) (by rw [hM2]; exact Rel_b h hS f f2)
        · exact absurd q (by omega)
      · have kK : Sk (wI N 115 1 0) := Sk_of f.1 h.1
        have zK : mZ (wI N 115 1 0) = mZ M := by rw [mZ_wI]; exact mZ_of f.1
        obtain ⟨w, M2, ⟨N2, f2, -, a2⟩, hz2⟩ := rf (by rw [hM1]; exact adM_k kK) (fun r j q1 q2 => by
          rw [hM1, adM_i (by omega) (by omega) (by omega), mI_wIr (by omega)]
          exact f.2.1 r (by omega) (by omega) (by omega) j)
        obtain ⟨hst, a2⟩ := a2 hm
        rcases a2 with ⟨q, -⟩ | ⟨-, hw, hM2⟩
        · exact absurd q (by omega)
        · rw [hM1] at f2
          exact Opk.mk hz hz2 (hw.trans hx.symm) (by rw [hM2]; exact Rel_t h hS hn hen hrr.symm f c14 hk hkk hc f2 hst)
