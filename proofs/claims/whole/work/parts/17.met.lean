/-! SOUNDNESS OF METHODS: what the abstract machine says of a method is a contract of the machine's -/
theorem znl_rep : ∀ n, znl (zrep n) = true
  | 0 => rfl
  | n + 1 => by
    show (true && znl (zrep n)) = true
    rw [znl_rep n]; rfl
theorem znl_en : ∀ (a : List Value) (n : Nat), znl a = true → znl (zen n a) = true
  | [], n, _ => znl_rep n
  | v :: a, 0, _ => rfl
  | v :: a, n + 1, h => by
    unfold znl at h
    rw [Bool.and_eq_true] at h
    cases v with
    | long x => cases h.1
    | double x => cases h.1
    | _ => exact Bool.and_eq_true_iff.mpr ⟨rfl, znl_en a n h.2⟩
theorem zS_old {dC : Nat → ClassId} {dI : Nat → Nat → Nat} {cI : ClassId} {cA : Nat → ClassId} {b : Nat} {M : Mm} {H0 H : Heap} {locs : List Loc} {q : Nat} (hS : va_S (fun q => b < q) H0 H locs) (hR : zRep dC dI cI cA b M H0) (hq : q ≤ b) : H[q]? = H0[q]? := hS.2.1 q (by rw [hR.1]; omega) (Nat.not_lt.mpr hq)
set_option maxHeartbeats 4000000 in
theorem zmet {l : Launch} {dC : Nat → ClassId} {dI : Nat → Nat → Nat} {cI : ClassId} {cA : Nat → ClassId} {b : Nat} {ev : Nat → Value} {X : List Int32} {ML : List zMe} (hev : zev ev) (hML : ∀ me ∈ ML, zmok ML me) : ∀ (d y : Nat) (a : List Value) (M : Mm) (v : Option Value) (M' : Mm), zca X ML d y a M v M' → zCon l dC dI cI cA b ev X ML d y a M v M' := by
  intro d
  induction d with
  | zero => intro y a M v M' h; exact h.elim
  | succ d ih =>
    intro y a M v M' h me hme
    obtain ⟨yn, cc, nL, rt, mc, ms, cd, p1, p2, p3, p4⟩ := me
    unfold zca at h
    rw [hme] at h
    obtain ⟨⟨hnl, has⟩, h⟩ := h
    obtain ⟨hpl, hcode, h20⟩ := hML _ (List.mem_of_getElem? hme)
    refine va_MetF (cc := cc) (maxL := nL) (ret := rt) hpl rfl ?_
    intro p e s m args below meth c s₁ B hml hv
    obtain ⟨rfl, hR, hK⟩ := hv
    have hR0 := hR
    have hx := B.exec
    have hb := B.bytes
    have hr := B.returns
    have hts0 := atoms_spec (ws := Cond.code yn cc nL rt :: zws) B.pre
    have hts : ∀ w ∈ zws, w.before (a.map (zv b ev)).toArray s = true := fun w hw => hts0 w (List.mem_cons_of_mem _ hw)
    have hown : s.vm.findClass yn.cls = some m.cls := findClass_of_methodNamed B.named
    have hmn : meth.name = yn.name := (name_of_methodNamed B.named B.method).1
    have hlocks := B.notSynchronized
    have hl := lv_entry (a.map (zv b ev)) (n := nL) (Nat.le_trans (zas_sl (b := b) hev a) has)
    rw [lg_entry_eq]
    generalize (lg_sl (a.map (zv b ev)) ++ List.replicate (nL - (lg_sl (a.map (zv b ev))).length) Slot.unset).toArray = ls at hl ⊢
    have hl2 : lv_has ls nL (zlv b ev 0 (zen nL a)) := ⟨hl.1, hl.2.1, fun q hq => hl.2.2 q (zen_lv hev a nL 0 q hq)⟩
    have hnl2 : (znl (zen nL a) || zns cd) = true := by
      rw [Bool.or_eq_true] at hnl ⊢
      exact hnl.imp (fun q => znl_en a nL q) id
    have hon : zon cd cd 0 := by
      refine ⟨⟨0, by cases cd <;> rfl⟩, ?_⟩
      have hc0 : zcode yn.cls yn.name cc nL rt ML cd = true := hcode
      unfold zcode at hc0
      rw [Bool.and_eq_true] at hc0
      cases cd with
      | nil => trivial
      | cons e0 cs => exact of_decide_eq_true hc0.2
    refine h _ (zsound (p := p) (l := l) (e := e) (R := zrm (d + 1) mc ms) (s := s) (m := m) (args := (a.map (zv b ev)).toArray) (below := below) (meth := meth) (c := c) (Z := MQ below (fun _ st o t => o = .returned (v.map (zv b ev)) ∧ zRep dC dI cI cA b M' t.heap ∧ st.heap.size ≤ t.heap.size ∧ ∀ q, q ≤ b → t.heap[q]? = st.heap[q]?) (a.map (zv b ev)).toArray s mc ms (fun q => b < q)) (cc := cc) (own := yn.cls) (mn := yn.name) (nL := nL) (rt := rt) (cd := cd) (ML := ML) (mc := mc) (ms := ms) (d := d) (dC := dC) (dI := dI) (cI := cI) (cA := cA) (b := b) (ev := ev) (X := X) (C := zca X ML d) hx hb hml hown hts (fun _ => hmn) hK hev hcode rfl rfl (Nat.le_refl _) (by show 40 * d + 40 ≤ 40 * (d + 1); omega) (fun me hm => (hML me hm).2.2) ih ?_ ?_ ?_) s.heap [] ls 0 hon hR va_S.rf hl2 hnl2 (Nat.zero_le _) (Nat.zero_le _)
    · intro x M1 H locs ls pc uc us hQ hR hS huc hus hd hty
      obtain ⟨ty, hrt, hn⟩ := hty
      obtain ⟨hv, hM⟩ := hQ
      refine W.widen (k := mc) (n := ms) huc hus ?_
      exact W.zret (ty := ty) hx hb (by rw [hr, hrt]) hn (fun t ht hW => ⟨by rw [← hv]; rfl, by rw [ht, ← hM]; exact hR, by rw [ht]; exact hS.1, fun q hq => by rw [ht]; exact zS_old hS hR0 hq⟩) hS.2.2 hd
    · intro x M1 H locs ls pc uc us hQ hR hS huc hus hd hty
      obtain ⟨hv, hM⟩ := hQ
      refine W.widen (k := mc) (n := ms) huc hus ?_
      have hq : ∀ t : State, t.heap = H → s.WarmedH t.vm → (fun _ st o t => o = .returned (v.map (zv b ev)) ∧ zRep dC dI cI cA b M' t.heap ∧ st.heap.size ≤ t.heap.size ∧ ∀ q, q ≤ b → t.heap[q]? = st.heap[q]? : Array Value → State → Outcome → State → Prop) (a.map (zv b ev)).toArray s (.returned (some (zrv b x))) t := fun t ht hW => ⟨by rw [← hv]; rfl, by rw [ht, ← hM]; exact hR, by rw [ht]; exact hS.1, fun q hq => by rw [ht]; exact zS_old hS hR0 hq⟩
      rcases hty with ⟨n, hn⟩ | ⟨t, hn⟩
      · exact W.aret hx hb (by rw [hr, hn]) (Or.inl ⟨n, rfl⟩) (zrv_nr b x) hq hS.2.2 hd
      · exact W.aret hx hb (by rw [hr, hn]) (Or.inr ⟨t, rfl⟩) (zrv_nr b x) hq hS.2.2 hd
    · intro M1 H locs ls pc uc us hQ hR hS huc hus hd hty
      obtain ⟨hv, hM⟩ := hQ
      refine W.widen (k := mc) (n := ms) huc hus ?_
      exact W.vret hx hb (by rw [hr, hty]) (fun t ht hW => ⟨by rw [← hv]; rfl, by rw [ht, ← hM]; exact hR, by rw [ht]; exact hS.1, fun q hq => by rw [ht]; exact zS_old hS hR0 hq⟩) hS.2.2 hd
