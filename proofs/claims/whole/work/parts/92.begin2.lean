/-! the relation at the beginning -/
theorem iniOn_of {D : Dm} (e : iniRun = some D) {f : Dm → Bool} (h : iniOn f = true) : f D = true := by
  unfold iniOn at h
  rw [e] at h
  exact h
theorem iniD : ∃ D, iniRun = some D := by
  have h := ini_z
  unfold iniOn at h
  cases e : iniRun with
  | none => rw [e] at h; cases h
  | some D => exact ⟨D, rfl⟩
theorem iniRow_of {k n i : Nat} {D : Dm} (h : iniRow k n D = true) (hi : i < n) : ∀ j, j < (skRl.getD (k + i) []).length → dlR D.2.1 (k + i) j = skR (k + i) j := fun j hj => by
  unfold iniRow at h
  exact of_decide_eq_true (List.all_eq_true.mp (List.all_eq_true.mp h i (List.mem_range.mpr hi)) j (List.mem_range.mpr hj))
theorem skR_0 {r j : Nat} (h : (skRl.getD r []).length ≤ j) : skR r j = 0 := by
  unfold skR
  rw [List.getD_eq_getElem?_getD, List.getElem?_eq_none h]
  rfl
theorem iniR_all {D : Dm} (e : iniRun = some D) {r : Nat} (hr : r ≤ 172) : ∀ j, dlR D.2.1 r j = skR r j := fun j => by
  have on : ∀ {f : Dm → Bool}, iniOn f = true → f D = true := fun h => iniOn_of e h
  have hz := on ini_z
  rw [Bool.and_eq_true, Bool.and_eq_true] at hz
  rcases Nat.lt_or_ge j (skRl.getD r []).length with hj | hj
  case inr =>
    rw [skR_0 hj]
    exact dlR_0 hj _ hz.1.2
  rcases (show (0 ≤ r ∧ r < 20) ∨ (20 ≤ r ∧ r < 40) ∨ (40 ≤ r ∧ r < 60) ∨ (60 ≤ r ∧ r < 80) ∨ (80 ≤ r ∧ r < 100) ∨ (100 ≤ r ∧ r < 120) ∨ (120 ≤ r ∧ r < 140) ∨ (140 ≤ r ∧ r < 151) ∨ (151 ≤ r ∧ r < 173) by omega) with q | q | q | q | q | q | q | q | q
  · obtain ⟨i, rfl⟩ : ∃ i, r = 0 + i := ⟨r - 0, by omega⟩
    exact iniRow_of (on ini_r0) (by omega) j hj
  · obtain ⟨i, rfl⟩ : ∃ i, r = 20 + i := ⟨r - 20, by omega⟩
    exact iniRow_of (on ini_r1) (by omega) j hj
  · obtain ⟨i, rfl⟩ : ∃ i, r = 40 + i := ⟨r - 40, by omega⟩
    exact iniRow_of (on ini_r2) (by omega) j hj
  · obtain ⟨i, rfl⟩ : ∃ i, r = 60 + i := ⟨r - 60, by omega⟩
    exact iniRow_of (on ini_r3) (by omega) j hj
  · obtain ⟨i, rfl⟩ : ∃ i, r = 80 + i := ⟨r - 80, by omega⟩
    exact iniRow_of (on ini_r4) (by omega) j hj
  · obtain ⟨i, rfl⟩ : ∃ i, r = 100 + i := ⟨r - 100, by omega⟩
    exact iniRow_of (on ini_r5) (by omega) j hj
  · obtain ⟨i, rfl⟩ : ∃ i, r = 120 + i := ⟨r - 120, by omega⟩
    exact iniRow_of (on ini_r6) (by omega) j hj
  · obtain ⟨i, rfl⟩ : ∃ i, r = 140 + i := ⟨r - 140, by omega⟩
    exact iniRow_of (on ini_r7) (by omega) j hj
  · obtain ⟨i, rfl⟩ : ∃ i, r = 151 + i := ⟨r - 151, by omega⟩
    exact iniRow_of (on ini_r8) (by omega) j hj
theorem beg_Sk {D : Dm} (e : iniRun = some D) : Sk (vwD D) := by
  have on : ∀ {f : Dm → Bool}, iniOn f = true → f D = true := fun h => iniOn_of e h
  have hz := on ini_z
  rw [Bool.and_eq_true, Bool.and_eq_true, decide_eq_true_eq] at hz
  have ht := on ini_t
  refine ⟨?_, fun r hr => ?_, fun r hr _ _ _ j => iniR_all e hr j⟩
  · show 172 ≤ D.2.2.2
    omega
  · have := List.all_eq_true.mp ht r (List.mem_range.mpr (by omega))
    rw [Bool.and_eq_true, decide_eq_true_eq, decide_eq_true_eq] at this
    exact this
theorem beg_0 {D : Dm} (e : iniRun = some D) {r j : Nat} (h : nzP r j = false) : mI (vwD D) r j = 0 := by
  have hz := iniOn_of e ini_z
  rw [Bool.and_eq_true, Bool.and_eq_true] at hz
  exact dlI_0 h _ hz.2
theorem nz3 : ∀ r, r ≤ 172 → skT r = 3 → nzP r 6 = false ∧ nzP r 7 = false ∧ nzP r 10 = false := by decide +kernel
theorem nz69 : ∀ r, r ≤ 172 → skT r = 69 → r = 9 ∨ r = 44 ∨ r = 79 := by decide +kernel
theorem nz48 : ∀ k, k < 48 → nzP 5 k = false ∧ nzP 151 (60 + k) = false := by decide +kernel
theorem nz24 : ∀ i, i < 4 → (nzP (122 + 2 * i) 1 = false ∧ nzP 155 i = false) ∧ ∀ j, j < 24 → nzP (122 + 2 * i + 1) j = false ∧ nzP 156 (24 * i + j) = false := by decide +kernel
theorem nz5 : ∀ i, i < 5 → nzP (130 + 4 * i) 0 = false ∧ nzP 157 i = false := by decide +kernel
theorem beg_Tp {D : Dm} (e : iniRun = some D) : zTp (vwD D) := by
  have hk := beg_Sk e
  have hz := iniOn_of e ini_z
  rw [Bool.and_eq_true, Bool.and_eq_true, decide_eq_true_eq] at hz
  have hs : mZ (vwD D) = 172 := hz.1.1
  refine ⟨fun r h1 h2 j hj => Or.inl ?_, fun r h1 h2 k => Or.inl ?_⟩
  · rw [hs] at h1
    rw [(hk.2.1 r h1).1] at h2
    obtain ⟨a, b, c⟩ := nz3 r h1 h2
    rcases hj with rfl | rfl | rfl
    · exact beg_0 e a
    · exact beg_0 e b
    · exact beg_0 e c
  · rw [hs] at h1
    rw [(hk.2.1 r h1).1] at h2
    have q : mR (vwD D) r k = skR r k := iniR_all e h1 k
    rw [q]
    have h0 : ∀ a, a = 9 ∨ a = 44 ∨ a = 79 → skR a k = 0 := fun a ha => by
      rcases Nat.lt_or_ge k 14 with c | c
      · have all : ∀ k, k < 14 → skR 9 k = 0 ∧ skR 44 k = 0 ∧ skR 79 k = 0 := by decide +kernel
        rcases ha with rfl | rfl | rfl
        · exact (all k c).1
        · exact (all k c).2.1
        · exact (all k c).2.2
      · refine skR_0 ?_
        rcases ha with rfl | rfl | rfl <;> exact c
    exact h0 r (nz69 r h1 h2)
theorem beg_Rel {D : Dm} (e : iniRun = some D) : Rel (vwD D) := by
  have hn := iniOn_of e ini_n
  rw [Bool.and_eq_true, Bool.and_eq_true, Bool.and_eq_true, Bool.and_eq_true, Bool.and_eq_true, Bool.and_eq_true, decide_eq_true_eq, decide_eq_true_eq, decide_eq_true_eq, decide_eq_true_eq] at hn
  obtain ⟨⟨⟨⟨⟨⟨n1, n2⟩, n3⟩, n4⟩, n5⟩, n6⟩, n7⟩ := hn
  have n1 : mI (vwD D) 2 11 = 1 := n1
  have n2 : mI (vwD D) 151 8 = 1 := n2
  have n3 : mI (vwD D) 12 3 = 255 := n3
  have n4 : mI (vwD D) 151 9 = 255 := n4
  have n5 : ∀ k, k < 8 → mI (vwD D) 13 k = 1 ∧ mI (vwD D) 151 (10 + k) = 1 := fun k hk => by
    have := List.all_eq_true.mp n5 k (List.mem_range.mpr hk)
    rw [Bool.and_eq_true, decide_eq_true_eq, decide_eq_true_eq] at this
    exact this
  have n6 : ∀ k, k < 3 → mI (vwD D) 10 k = -1000000005 := fun k hk => of_decide_eq_true (List.all_eq_true.mp n6 k (List.mem_range.mpr hk))
  have n7 : ∀ i, i < 4 → mI (vwD D) (122 + 2 * i) 0 = -1 ∧ mI (vwD D) 154 i = -1 := fun k hk => by
    have := List.all_eq_true.mp n7 k (List.mem_range.mpr hk)
    rw [Bool.and_eq_true, decide_eq_true_eq, decide_eq_true_eq] at this
    exact this
  have z : ∀ r j, nzP r j = false → mI (vwD D) r j = 0 := fun r j h => beg_0 e h
  refine ⟨beg_Sk e, ⟨0, 0, 0, 0, 0, ?_⟩, Or.inl ⟨z 1 3 (by decide +kernel), z 150 3 (by decide +kernel)⟩, fun i hi => ?_, fun i hi => ?_, ⟨0, by omega, z 1 10 (by decide +kernel), z 150 35 (by decide +kernel), fun k hk => absurd hk (Nat.not_lt_zero k)⟩, ⟨0, by omega, z 115 1 (by decide +kernel), z 150 19 (by decide +kernel), fun k hk => absurd hk (Nat.not_lt_zero k)⟩⟩
  · have s5 := z 151 5 (by decide +kernel)
    have s6 := z 151 6 (by decide +kernel)
    have s7 := z 151 7 (by decide +kernel)
    refine ⟨⟨⟨by omega, by omega, by omega, by omega, by omega⟩, ⟨z 151 0 (by decide +kernel), z 151 1 (by decide +kernel), z 151 2 (by decide +kernel), z 151 3 (by decide +kernel), z 151 4 (by decide +kernel)⟩, ⟨z 2 1 (by decide +kernel), z 2 4 (by decide +kernel), z 8 1 (by decide +kernel), z 12 2 (by decide +kernel), z 2 6 (by decide +kernel)⟩, ⟨(z 4 1 (by decide +kernel)).trans s5.symm, (z 2 10 (by decide +kernel)).trans s6.symm, (z 2 9 (by decide +kernel)).trans s7.symm, n1.trans n2.symm, n3.trans n4.symm⟩, ⟨0, by omega, s5⟩, ⟨255, by omega, n4⟩, ⟨0, by omega, s7⟩⟩, fun i hi => absurd hi (Nat.not_lt_zero i), fun k hk => ?_, fun i hi => absurd hi (Nat.not_lt_zero i), ⟨fun k hk => ?_, fun i hi => absurd hi (Nat.not_lt_zero i)⟩, ⟨fun i hi => absurd hi (Nat.not_lt_zero i), fun i hi => absurd hi (Nat.not_lt_zero i)⟩, ⟨fun i hi => absurd hi (Nat.not_lt_zero i), fun k hk => ?_⟩⟩
    · obtain ⟨a, b⟩ := nz48 k hk
      exact ⟨(z 5 k a).trans (z 151 _ b).symm, 0, by omega, z 151 _ b⟩
    · exact ⟨(n5 k hk).1.trans (n5 k hk).2.symm, 1, by omega, (n5 k hk).2⟩
    · exact n6 k hk
  · obtain ⟨⟨a, b⟩, c⟩ := nz24 i hi
    obtain ⟨d1, d2⟩ := n7 i hi
    exact ⟨d1.trans d2.symm, Or.inl d2, ⟨0, by omega, z _ _ a, z _ _ b⟩, fun j hj => (z _ _ (c j hj).1).trans (z _ _ (c j hj).2).symm⟩
  · obtain ⟨a, b⟩ := nz5 i hi
    have q := z _ _ a
    exact ⟨⟨0, by omega, q, z _ _ b⟩, fun c => absurd (q.symm.trans c) (by decide), fun c => absurd (q.symm.trans c) (by decide), fun c => absurd (q.symm.trans c) (by decide)⟩
/-- both constructors */ -/
theorem beg {X : List Int32} : ∃ M1 M2 : Mm, zca X zML 300 10 [.ref 1] (wN zM0 11 11) none M1 ∧ mZ M1 = 149 ∧ zca X zML 300 11 [.ref 150] (wN M1 12 37) none M2 ∧ Rel M2 ∧ zTp M2 := by
  obtain ⟨D, e⟩ := iniD
  have e' := e
  unfold iniRun at e'
  split at e'
  · cases e'
  · rename_i I R T z e1
    split at e'
    · rename_i hz
      subst hz
      have c1 := zcr_ok (X := X) _ _ _ _ _ e1
      have c2 := zcr_ok (X := X) _ _ _ _ _ e'
      exact ⟨_, _, c1, rfl, c2, beg_Rel e, beg_Tp e⟩
    · cases e'
