/-! THE CLAIM OUT OF THE ABSTRACT MACHINE'S LAW */ -/
def zLaw : Prop := ∀ X : List Int32, X.length ≤ 384 → ∃ d, d ≤ 1000 ∧ zgo X (zca X zML d) pL_law 600000 7302250 pL_law (zen 4 [.float 1]) [] 0 0 zM0 (fun v _ => v = some (.int 1))
set_option maxHeartbeats 4000000 in
theorem start_of {p : Program} {e : Env} {s : State} {m : MethodId} {below : List Frame} {meth : Method} {c : Code} (hlaw : zLaw) (l : Launch) (hflags : l.flags = flags0) {b L : Nat} {xs : Nat → Int32} (hL : L ≤ 384) (C0 : lw_At p s m meth c b L xs) : W p l e room_1 s m #[Value.ref b] below meth c s.heap [] 0 0 (lw_Z below #[Value.ref b] s) (entryFrame m ([Value.ref b] : List Value).toArray 4) := by
  obtain ⟨hx, hb, hr, hml, hown, hts, hX, hbl, hlocks, hgv⟩ := C0
  obtain ⟨dC, dI, cI, cA, ev, hev, hev1, hK, hR⟩ := zworld hts hX hbl hL hgv
  obtain ⟨d, hd, h⟩ := hlaw ((List.range L).map xs) (by simpa using hL)
  have hws : ∀ w ∈ zws, w.before #[Value.ref b] s = true := fun w hw => hts w (List.mem_filter.mp hw).1
  have e1 : zv (s.heap.size - 1) ev (.float 1) = .ref b := hev1
  have hl := lv_entry ([.ref b]) (n := 4) (Nat.le_of_ble_eq_true rfl)
  rw [lg_entry_eq]
  generalize (lg_sl ([.ref b]) ++ List.replicate (4 - (lg_sl ([.ref b])).length) Slot.unset).toArray = ls at hl ⊢
  have hl2 : lv_has ls 4 (zlv (s.heap.size - 1) ev 0 (zen 4 [.float 1])) := by
    refine ⟨hl.1, hl.2.1, fun q hq => hl.2.2 q ?_⟩
    have := zen_lv hev [.float 1] 4 0 q hq
    rw [List.map_cons, List.map_nil, e1] at this
    exact this
  have hon : zon pL_law pL_law 0 := ⟨⟨0, rfl⟩, rfl⟩
  refine h _ (zsound (p := p) (l := l) (e := e) (R := room_1) (s := s) (m := m) (args := #[Value.ref b]) (below := below) (meth := meth) (c := c) (Z := lw_Z below #[Value.ref b] s) (cc := code) (own := "PhoneBenchLaw") (mn := "law") (nL := 4) (rt := ret) (cd := pL_law) (ML := zML) (mc := 600000) (ms := 7302250) (d := d) (dC := dC) (dI := dI) (cI := cI) (cA := cA) (b := s.heap.size - 1) (ev := ev) (X := (List.range L).map xs) (C := zca ((List.range L).map xs) zML d) hx hb hml hown hws (fun q => by rw [zputL] at q; cases q) hK hev zcodeL rfl rfl (by show d + 1 ≤ 2048; omega) (by show 40 * d + 40 ≤ 84000; omega) (fun me hm => (zML_ok me hm).2.2) (zmet hev zML_ok d) ?_ ?_ ?_) s.heap [] ls 0 hon hR va_S.rf hl2 rfl (Nat.zero_le _) (Nat.zero_le _)
  · intro x M1 H locs ls pc uc us hQ hR1 hS huc hus hd9 hty
    have hx1 : x = 1 := by cases hQ; rfl
    subst hx1
    refine va_forget (fun q hq => by have h9 : s.heap.size - 1 < q.base := hS.2.2 q hq; omega) ?_
    refine W.widen (k := 600000) (n := 7302250) huc hus ?_
    exact lw_ret hx hb hr hlocks hd9
  · intro x M1 H locs ls pc uc us hQ
    cases hQ
  · intro M1 H locs ls pc uc us hQ
    cases hQ
