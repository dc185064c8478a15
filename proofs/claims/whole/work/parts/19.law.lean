theorem zao2 : lw_tbl[121]? = some (.arrayOver (.object (zRC 2))) := by decide +kernel
theorem zao3 : lw_tbl[138]? = some (.arrayOver (.object (zRC 3))) := by decide +kernel
theorem zao5 : lw_tbl[410]? = some (.arrayOver (.object (zRC 5))) := by decide +kernel
theorem zao7 : lw_tbl[412]? = some (.arrayOver (.object (zRC 7))) := by decide +kernel
theorem zao9 : lw_tbl[146]? = some (.arrayOver (.object (zRC 9))) := by decide +kernel
theorem zls0 : lw_tbl[650]? = some (.laysStatic "PhoneBench" "ABOVE" "[I") := by decide +kernel
theorem zls1 : lw_tbl[843]? = some (.laysStatic "java/lang/String" "COMPACT_STRINGS" "Z") := by decide +kernel
theorem zls2 : lw_tbl[859]? = some (.laysStatic "jdk/internal/util/Preconditions" "SIOOBE_FORMATTER" "Ljava/util/function/BiFunction;") := by decide +kernel
theorem zii0 : lw_tbl[85]? = some (.initialized "PhoneBench") := by decide +kernel
theorem zii1 : lw_tbl[100]? = some (.initialized "java/lang/String") := by decide +kernel
theorem zii2 : lw_tbl[102]? = some (.initialized "jdk/internal/util/Preconditions") := by decide +kernel
theorem zsr0 : lw_tbl[829]? = some (.stringRef "PhoneBench$TextReader" 95 "sale") := by decide +kernel
theorem zsr1 : lw_tbl[882]? = some (.stringRef "PhoneBench$TextReader" 101 "scrap") := by decide +kernel
theorem zsr2 : lw_tbl[883]? = some (.stringRef "PhoneBench$TextReader" 103 "back") := by decide +kernel
theorem zsr3 : lw_tbl[912]? = some (.stringRef "PhoneBench$TextReader" 132 "kfsd") := by decide +kernel
theorem zsr4 : lw_tbl[968]? = some (.stringRef "PhoneBench$TextReader" 137 "kgd") := by decide +kernel
theorem zsr5 : lw_tbl[969]? = some (.stringRef "PhoneBench$TextReader" 139 "bsf") := by decide +kernel
/-! THE LAW'S START: from the Statement's premises to the abstract machine's -/
def zM0 : Mm := (fun _ _ => 0, fun _ _ => 0, fun _ => 0, fun _ => 0, 0)
def ztm (i : Nat) : Term := .string "PhoneBench$TextReader" (zstr.getD i ("", 0, "")).2.1
theorem z6 {i : Nat} (h : i < 6) : i = 0 ∨ i = 1 ∨ i = 2 ∨ i = 3 ∨ i = 4 ∨ i = 5 := by omega
theorem zeq_ev {args : Array Value} {s : State} {t : Term} {v : Int32} (h : (Cond.eq t (.int v)).before args s = true) : t.eval args s none [] s = some (.int v) := by
  obtain ⟨y, h1, h2⟩ := Cond.eq_one h
  rw [h1, ← h2]
  rfl
theorem znarr : ∀ (l : List Cond), (l.all fun c => decide (c ∈ flatC (Jvm.Cond.and given_1 narrow_1))) = true → ∀ {args : Array Value} {s : State}, (Jvm.Cond.and given_1 narrow_1).before args s = true → ∀ c ∈ l, c.before args s = true := by
  intro l h args s hs c hc
  have h1 := of_decide_eq_true (List.all_eq_true.mp h c hc)
  exact flat_of_before _ hs c h1
def zsA : Term := .static "PhoneBench" "ABOVE" "[I"
def zsw1 : List Cond := [.arrayOf zsA .int, .eq (.length zsA) (.int 6), .eq (.elem zsA (.int 0)) (.int (-1)), .eq (.elem zsA (.int 1)) (.int 0), .eq (.elem zsA (.int 2)) (.int 0), .eq (.elem zsA (.int 3)) (.int 2), .eq (.elem zsA (.int 4)) (.int 1), .eq (.elem zsA (.int 5)) (.int 0), .eq (.static "java/lang/String" "COMPACT_STRINGS" "Z") (.int 1), .isRef (.static "jdk/internal/util/Preconditions" "SIOOBE_FORMATTER" "Ljava/util/function/BiFunction;")]
theorem zsw1_in : (zsw1.all fun c => decide (c ∈ flatC (Jvm.Cond.and given_1 narrow_1))) = true := by decide +kernel
def zval (i : Nat) : Term := .field (ztm i) "java/lang/String" "value" "[B"
def zsw2 (i : Nat) : List Cond := [.exactly (ztm i) "java/lang/String", .eq (.field (ztm i) "java/lang/String" "coder" "B") (.int 0), .arrayOf (zval i) .byte, .eq (.length (zval i)) (.int (Int32.ofNat ((zxB.map List.length).getD i 0)))] ++ (List.range ((zxB.map List.length).getD i 0)).map (fun j => .eq (.elem (zval i) (.int (Int32.ofNat j))) (.int ((zxB.getD i []).getD j 0)))
theorem zsw2_in : ∀ i, i < 6 → ((zsw2 i).all fun c => decide (c ∈ flatC (Jvm.Cond.and given_1 narrow_1))) = true := by decide +kernel
theorem zsw3_in : ∀ i, i < 6 → ∀ j, j < 6 → i ≠ j → (Cond.not (Cond.eq (ztm i) (ztm j)) ∈ flatC (Jvm.Cond.and given_1 narrow_1) ∨ Cond.not (Cond.eq (ztm j) (ztm i)) ∈ flatC (Jvm.Cond.and given_1 narrow_1)) := by decide +kernel
theorem zsr_at : ∀ i, i < 6 → ∀ {args : Array Value} {s : State}, (∀ w ∈ lw_tbl, w.before args s = true) → (Cond.stringRef (zstr.getD i ("", 0, "")).1 (zstr.getD i ("", 0, "")).2.1 (zstr.getD i ("", 0, "")).2.2).before args s = true := by
  intro i hi args s hts
  rcases z6 hi with rfl | rfl | rfl | rfl | rfl | rfl
  · exact hts _ (List.mem_of_getElem? zsr0)
  · exact hts _ (List.mem_of_getElem? zsr1)
  · exact hts _ (List.mem_of_getElem? zsr2)
  · exact hts _ (List.mem_of_getElem? zsr3)
  · exact hts _ (List.mem_of_getElem? zsr4)
  · exact hts _ (List.mem_of_getElem? zsr5)
theorem zao_at : ∀ ci, zok5 ci → ∀ {args : Array Value} {s : State}, (∀ w ∈ lw_tbl, w.before args s = true) → (Cond.arrayOver (.object (zRC ci))).before args s = true := by
  intro ci h args s hts
  rcases h with rfl | rfl | rfl | rfl | rfl
  · exact hts _ (List.mem_of_getElem? zao2)
  · exact hts _ (List.mem_of_getElem? zao3)
  · exact hts _ (List.mem_of_getElem? zao5)
  · exact hts _ (List.mem_of_getElem? zao7)
  · exact hts _ (List.mem_of_getElem? zao9)
set_option maxHeartbeats 4000000 in
theorem zworld {s : State} {b L : Nat} {xs : Nat → Int32} (hts : ∀ w ∈ lw_tbl, w.before #[Value.ref b] s = true) (hX : va_X b L xs s s.heap) (hbl : b < s.heap.size) (hL : L ≤ 384) (hgv : (Jvm.Cond.and given_1 narrow_1).before #[Value.ref b] s = true) :
    ∃ (dC : Nat → ClassId) (dI : Nat → Nat → Nat) (cI : ClassId) (cA : Nat → ClassId) (ev : Nat → Value), zev ev ∧ ev 1 = .ref b ∧ zKx dC dI cI cA (s.heap.size - 1) ev ((List.range L).map xs) s ∧ zRep dC dI cI cA (s.heap.size - 1) zM0 s.heap := by
  have hws : ∀ w ∈ zws, w.before #[Value.ref b] s = true := fun w hw => hts w (List.mem_filter.mp hw).1
  have hA : ∀ a : Nat, a < s.heap.size → ¬ (fun q => s.heap.size - 1 < q) a := fun a ha q => by
    have q : s.heap.size - 1 < a := q
    omega
  have hkn : ∀ ci : Nat, ∃ q : ClassId × (Nat → Nat), ci < 13 → u_Kn s (zRC ci) (zTC ci) (zNC ci) q.1 q.2 := by
    intro ci
    by_cases h : ci < 13
    · obtain ⟨c, iS, hk⟩ := u_known (n := zNC ci) hws (zin h) (hws _ (zinst h).1)
      exact ⟨(c, iS), fun _ => hk⟩
    · exact ⟨(0, fun _ => 0), fun q => absurd q h⟩
  obtain ⟨cI, kI, compI, i1, i2, i3⟩ := Cond.arrayClass_spec (hws _ (zat_in zaci))
  have hca : ∀ ci : Nat, ∃ c : ClassId, zok5 ci → ArrOfT s c (.object (zRC ci)) ∧ va_RA s c (.object (zRC ci)) := by
    intro ci
    by_cases h : zok5 ci
    · obtain ⟨comp, c, k, h1, -, h3, h4, h5⟩ := Cond.arrayOver_spec (zao_at ci h hts)
      exact ⟨c, fun _ => ⟨fun n z => ⟨fun k h => (by cases h), k, h3, comp, h4⟩, k, comp, h3, h4, h1, h5⟩⟩
    · exact ⟨0, fun q => absurd q h⟩
  have hn1 := znarr zsw1 zsw1_in hgv
  obtain ⟨tA, a1, a2⟩ := va_Tof (tm := zsA) (ty := .int) (N := 6) (f := fun j => .int (([-1, 0, 0, 2, 1, 0] : List Int32).getD j 0)) (A := fun q => s.heap.size - 1 < q) (by decide) (hn1 _ (by simp [zsw1])) (zeq_ev (hn1 _ (by simp [zsw1]))) (fun j hj => by
    rcases z6 hj with rfl | rfl | rfl | rfl | rfl | rfl <;> exact zeq_ev (hn1 _ (by simp [zsw1]))) hA
  have hz0 := va_Zof (C := "PhoneBench") (n := "ABOVE") (d := "[I") (A := fun q => s.heap.size - 1 < q) (hts _ (List.mem_of_getElem? zls0)) (hts _ (List.mem_of_getElem? zii0)) a1 hA
  have hz1 := va_Zof (C := "java/lang/String") (n := "COMPACT_STRINGS") (d := "Z") (A := fun q => s.heap.size - 1 < q) (hts _ (List.mem_of_getElem? zls1)) (hts _ (List.mem_of_getElem? zii1)) (zeq_ev (v := 1) (hn1 _ (by simp [zsw1]))) hA
  obtain ⟨v2, b1, b2⟩ := Cond.isRef_spec (hn1 (.isRef (.static "jdk/internal/util/Preconditions" "SIOOBE_FORMATTER" "Ljava/util/function/BiFunction;")) (by simp [zsw1]))
  have hv2 : v2 = .null ∨ ∃ t : Nat, v2 = .ref t := by
    cases v2 <;> first | exact Or.inl rfl | exact Or.inr ⟨_, rfl⟩ | (simp [Value.isRef] at b2)
  have hz2 := va_Zof (C := "jdk/internal/util/Preconditions") (n := "SIOOBE_FORMATTER") (d := "Ljava/util/function/BiFunction;") (A := fun q => s.heap.size - 1 < q) (hts _ (List.mem_of_getElem? zls2)) (hts _ (List.mem_of_getElem? zii2)) b1 hA
  have hn2 : ∀ i, i < 6 → ∀ c ∈ zsw2 i, c.before #[Value.ref b] s = true := fun i hi => znarr (zsw2 i) (zsw2_in i hi) hgv
  obtain ⟨adK, adV, s1, s2⟩ := vk_Sof (s := s) (args := #[Value.ref b]) (N := 6) (tm := ztm) (len := zxB.map List.length) (byt := zxB) (A := fun q => s.heap.size - 1 < q) (by decide) (fun i hi => hn2 i hi _ (by simp [zsw2])) (fun i hi => hn2 i hi _ (by simp [zsw2])) (fun i hi => hn2 i hi _ (by simp [zsw2, zval])) (fun i hi => hn2 i hi _ (by simp [zsw2, zval]))
    (fun i hi j hj => hn2 i hi _ (List.mem_append.mpr (Or.inr (List.mem_map.mpr ⟨j, List.mem_range.mpr hj, rfl⟩)))) (fun i j hi hj hne => (zsw3_in i hi j hj hne).imp (fun q => flat_of_before _ hgv _ q) (fun q => flat_of_before _ hgv _ q)) hA
  refine ⟨fun ci => (Classical.choose (hkn ci)).1, fun ci => (Classical.choose (hkn ci)).2, cI, fun ci => Classical.choose (hca ci), fun e => if e = 0 then .ref tA else if e = 1 then .ref b else if e = 2 then v2 else if e < 16 then .ref (adK (e - 10)) else .ref (adV (e - 20)), ?_, rfl, ⟨?_, ⟨⟨fun n z => ⟨fun k h => (by cases h), kI, i2, compI, i3⟩, i1⟩, fun ci h1 h2 => Classical.choose_spec (hca ci) h2⟩, ?_, fun ci hc => va_AO.of (zao_at ci hc hts), hz0, hz1, hz2, ?_, adK, adV, s1, ?_⟩, ?_⟩
  · intro e
    show (if e = 0 then _ else _) = _ ∨ ∃ t : Nat, (if e = 0 then _ else _) = _
    split
    · exact Or.inr ⟨_, rfl⟩
    · split
      · exact Or.inr ⟨_, rfl⟩
      · split
        · exact hv2
        · split
          · exact Or.inr ⟨_, rfl⟩
          · exact Or.inr ⟨_, rfl⟩
  · refine ⟨fun k q hq => ?_, fun k q h => by simp at h⟩
    have hk : k < 13 := (List.getElem?_eq_some_iff.mp hq).1
    rw [zcl_at hk] at hq
    cases hq
    exact Classical.choose_spec (hkn k) hk
  · intro w hw
    obtain ⟨h1, h2⟩ := List.mem_filter.mp hw
    refine va_Nw.of ?_ (hts w h1)
    cases w <;> first | rfl | (simp [zisN] at h2)
  · intro e he
    rcases (show e = 0 ∨ e = 1 by omega) with rfl | rfl
    · exact ⟨tA, rfl, a2⟩
    · obtain ⟨scr, x1, x2, x3, x4, x5⟩ := hX
      refine ⟨b, rfl, scr, x1, x2, x3, ?_, ?_, fun j hj => ?_, hA b hbl⟩
      · rw [x4]; simp [zxV]
      · rw [x4]; simp [zxV]
      · have hj' : j < L := by simpa [zxV] using hj
        rw [x5 j hj']
        simp [zxV, hj']
  · intro i hi
    refine ⟨?_, ?_, ?_⟩
    · show (if 10 + i = 0 then _ else if 10 + i = 1 then _ else if 10 + i = 2 then _ else if 10 + i < 16 then _ else _) = _
      rw [if_neg (by omega), if_neg (by omega), if_neg (by omega), if_pos (by omega), show 10 + i - 10 = i by omega]
    · show (if 20 + i = 0 then _ else if 20 + i = 1 then _ else if 20 + i = 2 then _ else if 20 + i < 16 then _ else _) = _
      rw [if_neg (by omega), if_neg (by omega), if_neg (by omega), if_neg (by omega), show 20 + i - 20 = i by omega]
    · have e9 : (zstr.getD i ("", 0, "")).1 = "PhoneBench$TextReader" := by rcases z6 hi with rfl | rfl | rfl | rfl | rfl | rfl <;> rfl
      refine vk_R.of (zsr_at i hi hts) ?_
      rw [e9]
      exact s2 i hi
  · refine ⟨?_, fun r h1 h2 => ?_⟩
    · show s.heap.size = s.heap.size - 1 + 0 + 1
      omega
    · have : r ≤ 0 := h2
      omega
