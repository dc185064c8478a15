/-! ARRAYS, NEW CELLS, COPIES -/
section ZW2
variable {p : Program} {l : Launch} {e : Env} {R : Room} {s : State} {m : MethodId} {args : Array Value} {below : List Frame} {meth : Method} {c : Code} {H : Heap} {locs : List Loc} {cells slots : Nat} {Q : State → Prop} {cc : ByteArray} {pc : Nat} {ls : Array Slot} {rest : List Value}
variable {dC : Nat → ClassId} {dI : Nat → Nat → Nat} {cI : ClassId} {cA : Nat → ClassId} {b : Nat} {M : Mm} {tys : List (ClassId × FieldType)} {Ts : List Cond}
/-- array classes: 'ints' and, by the class of the elements, 'references' -/
def zarr (cI : ClassId) (cA : Nat → ClassId) (s : State) : Prop := (ArrOfT s cI .int ∧ va_RA s cI .int) ∧ ∀ ci, ci < 13 → (ci = 2 ∨ ci = 3 ∨ ci = 5 ∨ ci = 7 ∨ ci = 9) → ArrOfT s (cA ci) (.object (zRC ci)) ∧ va_RA s (cA ci) (.object (zRC ci))
theorem zcellI {r : Nat} (hR : zRep dC dI cI cA b M H) (hO : zO M r 50) : H[b + r]? = some (arrV cI (mL M r) (fun j => .int (mI M r j))) := (hR.2 r hO.1 hO.2.1).2.1 hO.2.2
theorem zcellA {r : Nat} (hR : zRep dC dI cI cA b M H) (hO : zA M r) : H[b + r]? = some (arrV (cA (mT M r - 60)) (mL M r) (fun j => zrv b (mR M r j))) := ((hR.2 r hO.1 hO.2.1).2.2 hO.2.2).2
theorem zcell5 {r : Nat} (hR : zRep dC dI cI cA b M H) (hO : zA M r) : zok5 (mT M r - 60) := ((hR.2 r hO.1 hO.2.1).2.2 hO.2.2).1
theorem zw_iald (hx : p.tables.exec = Jvm.exec) (hb : c.code = cc) (hz : zarr cI cA s) (hR : zRep dC dI cI cA b M H) {r : Nat} (hO : zO M r 50) {i : Int32} (hin : vp_in i (mL M r)) (hdg : decode cc pc = .ok (.iaload, 1))
    (kk : W p l e R s m args below meth c H locs cells slots Q (F0 m (pc + 1) ls (.int (mI M r i.toNatClampNeg) :: rest))) : W p l e R s m args below meth c H locs cells slots Q (F0 m pc ls (.int i :: zrv b r :: rest)) := by
  rw [zrv_ref hO.1]
  refine W.iald (v := .int (mI M r i.toNatClampNeg)) hx hb (zcellI hR hO) (hz.1.1 _ _) (fun h => by cases h) (by rw [arrV_size]; exact hin) ?_ rfl rfl hdg kk
  have hlt : i.toNatClampNeg < mL M r := Nat.not_le.mp fun q => hin (Or.inr q)
  rw [arrV_read _ _ hlt]
theorem zw_iast (hx : p.tables.exec = Jvm.exec) (hb : c.code = cc) (hz : zarr cI cA s) (hR : zRep dC dI cI cA b M H) (hS : va_S (fun q => b < q) s.heap H locs) {r : Nat} (hO : zO M r 50) {i x : Int32} (hin : vp_in i (mL M r)) (hdg : decode cc pc = .ok (.iastore, 1))
    (kk : ∀ (H1 : Heap) (locs1 : List Loc), zRep dC dI cI cA b (wI M r i.toNatClampNeg x) H1 → va_S (fun q => b < q) s.heap H1 locs1 → W p l e R s m args below meth c H1 locs1 cells slots Q (F0 m (pc + 1) ls rest)) : W p l e R s m args below meth c H locs cells slots Q (F0 m pc ls (.int x :: .int i :: zrv b r :: rest)) := by
  rw [zrv_ref hO.1]
  refine W.iast hx hb (zcellI hR hO) (hz.1.1 _ _) (fun h => by cases h) (by rw [arrV_size]; exact hin) rfl rfl hdg fun H1 e1 z1 o1 => ?_
  refine kk H1 _ (zRep_set hR (zag_wI M r _ x) z1 o1 ⟨fun h => ?_, fun h => ?_, fun h => ?_⟩) (hS.put z1 o1 (show b < b + r by have := hO.1; omega))
  · have : mT M r < 13 := h
    rw [hO.2.2] at this; omega
  · rw [e1, arrV_store]
    show some (arrV cI (mL M r) _) = some (arrV cI (mL M r) _)
    congr 2
    funext q
    show updV _ _ _ q = Value.int (if r = r then (if q = i.toNatClampNeg then x else mI M r q) else _)
    rw [if_pos rfl]
    by_cases hq : q = i.toNatClampNeg
    · simp [updV, hq]
    · simp [updV, hq]
  · have : 60 ≤ mT M r := h
    rw [hO.2.2] at this; omega
theorem zw_aald (hx : p.tables.exec = Jvm.exec) (hb : c.code = cc) (hz : zarr cI cA s) (hR : zRep dC dI cI cA b M H) {r : Nat} (hO : zA M r) (h5 : zok5 (mT M r - 60)) {i : Int32} (hin : vp_in i (mL M r)) (hK : va_K (dC, dI) vwCl tys s) (hdg : decode cc pc = .ok (.aaload, 1))
    (kk : W p l e R s m args below meth c H locs cells slots Q (F0 m (pc + 1) ls (zrv b (mR M r i.toNatClampNeg) :: rest))) : W p l e R s m args below meth c H locs cells slots Q (F0 m pc ls (.int i :: zrv b r :: rest)) := by
  rw [zrv_ref hO.1]
  have h13 : mT M r - 60 < 13 := by rcases h5 with h | h | h | h | h <;> omega
  have hP : va_P (dC, dI) vwCl [(b + r, .inl (cA (mT M r - 60), mL M r, .inr (.inr (.inr (.inr (fun j => zro b (mR M r j)))))))] H := by
    intro q x hq
    have hq0 : q = 0 := by
      have := (List.getElem?_eq_some_iff.mp hq).1
      simp at this
      exact this
    subst hq0
    cases hq
    show H[b + r]? = some (vp_cell _ _)
    rw [vp_cell_q, zcellA hR hO]
    congr 2
    funext j
    exact (zrv_ro b _).symm
  refine va_aldq (D := (dC, dI)) (tys := [(cA (mT M r - 60), .object (zRC (mT M r - 60)))]) hx hb ⟨hK.1, fun k q hq => ?_⟩ hP 0 0 rfl rfl hin hdg ?_
  · have hq0 : k = 0 := by
      have := (List.getElem?_eq_some_iff.mp hq).1
      simp at this
      exact this
    subst hq0
    cases hq
    exact hz.2 _ h13 h5
  · rw [zrv_ro]
    exact kk
theorem zA_cell {H1 : Heap} {r k v : Nat} {cell : Cell} (hO : zA M r) (h5 : zok5 (mT M r - 60)) (hc : cell = arrV (cA (mT M r - 60)) (mL M r) (fun j => zrv b (mR M r j))) (e1 : H1[b + r]? = some (cell.setSlot k (zrv b v))) : zcell dC dI cI cA b (wR M r k v) r H1 := by
  refine ⟨fun h => ?_, fun h => ?_, fun h => ?_⟩
  · have : mT M r < 13 := h
    have := hO.2.2; omega
  · have : mT M r = 50 := h
    have := hO.2.2; omega
  · refine ⟨h5, ?_⟩
    rw [e1, hc, arrV_store]
    show some (arrV (cA (mT M r - 60)) (mL M r) _) = some (arrV (cA (mT M r - 60)) (mL M r) _)
    congr 2
    funext q
    show updV _ _ _ q = zrv b (if r = r then (if q = k then v else mR M r q) else _)
    rw [if_pos rfl]
    by_cases hq : q = k
    · simp [updV, hq]
    · simp [updV, hq]
theorem zw_aast (hx : p.tables.exec = Jvm.exec) (hb : c.code = cc) (hz : zarr cI cA s) (hR : zRep dC dI cI cA b M H) (hS : va_S (fun q => b < q) s.heap H locs) {r v : Nat} (hO : zA M r) (h5 : zok5 (mT M r - 60)) (hv : v = 0 ∨ zO M v (mT M r - 60)) {i : Int32} (hin : vp_in i (mL M r)) (hK : va_K (dC, dI) vwCl tys s) (hdg : decode cc pc = .ok (.aastore, 1))
    (kk : ∀ (H1 : Heap) (locs1 : List Loc), zRep dC dI cI cA b (wR M r i.toNatClampNeg v) H1 → va_S (fun q => b < q) s.heap H1 locs1 → W p l e R s m args below meth c H1 locs1 cells slots Q (F0 m (pc + 1) ls rest)) : W p l e R s m args below meth c H locs cells slots Q (F0 m pc ls (zrv b v :: .int i :: zrv b r :: rest)) := by
  rw [zrv_ref hO.1]
  have h13 : mT M r - 60 < 13 := by rcases h5 with h | h | h | h | h <;> omega
  have hlt : i.toNatClampNeg < mL M r := Nat.not_le.mp fun q => hin (Or.inr q)
  have h0 : ¬ i < 0 := fun q => hin (Or.inl q)
  have hba : b < b + r := by have := hO.1; omega
  rcases hv with hv | hv
  · subst hv
    show W p l e R s m args below meth c H locs cells slots Q (F0 m pc ls (.null :: .int i :: .ref (b + r) :: rest))
    refine va_WaastN (C := zRC (mT M r - 60)) hx hb (zcellA hR hO) ((hz.2 _ h13 h5).1 _ _) (fun h => by cases h) (by rw [arrV_size]; exact hin) rfl rfl hdg fun H1 e1 z1 o1 => ?_
    exact kk H1 _ (zRep_set hR (zag_wR M r _ 0) z1 o1 (zA_cell hO h5 rfl e1)) (hS.put z1 o1 hba)
  · rw [zrv_ref hv.1]
    obtain ⟨cellV, g1, g2, g3, -⟩ := (hR.2 v hv.1 hv.2.1).1 (by rw [hv.2.2]; exact h13)
    rw [hv.2.2] at g2
    have hcls := (hK.1 _ _ (zcl_at h13)).2
    obtain ⟨kA, comp, k1, k2, k3, -⟩ := (hz.2 _ h13 h5).2
    have hcomp : comp = dC (mT M r - 60) := Option.some.inj (k3.symm.trans hcls.1)
    subst hcomp
    obtain ⟨kC, hkC, -⟩ := id hcls.2
    refine W.aast hx hb (zcellA hR hO) (fun q h => by cases h) (fun h => by cases h) k1 k2 rfl hkC ⟨h0, by rw [arrV_size]; exact hlt⟩ g1 (fun q h => by rw [g3] at h; cases h) (by rw [g2]; exact hkC) (by rw [g2]; exact va_assign hcls) rfl rfl hdg fun H1 e1 z1 o1 => ?_
    exact kk H1 _ (zRep_set hR (zag_wR M r _ v) z1 o1 (zA_cell hO h5 rfl (by rw [zrv_ref hv.1]; exact e1))) (hS.put z1 o1 hba)
theorem zw_alen (hx : p.tables.exec = Jvm.exec) (hb : c.code = cc) (hz : zarr cI cA s) (hR : zRep dC dI cI cA b M H) {r : Nat} (hO : zO M r 50) (hdg : decode cc pc = .ok (.arraylength, 1))
    (kk : W p l e R s m args below meth c H locs cells slots Q (F0 m (pc + 1) ls (.int (nI (mL M r)) :: rest))) : W p l e R s m args below meth c H locs cells slots Q (F0 m pc ls (zrv b r :: rest)) := by
  rw [zrv_ref hO.1]
  exact W.alen hx hb (zcellI hR hO) (hz.1.1 _ _) (by rw [arrV_size]; rfl) rfl rfl hdg kk
theorem zw_newI (hx : p.tables.exec = Jvm.exec) (hb : c.code = cc) (harr : (Cond.arrayClass .int).before args s = true) (hz : zarr cI cA s) (hR : zRep dC dI cI cA b M H) (hS : va_S (fun q => b < q) s.heap H locs) {n : Int32} (hn : ¬ n < 0) (hn2 : n.toNatClampNeg ≤ 100000) (hcells : cells + 1 ≤ R.cells) (hslots : slots + n.toNatClampNeg ≤ R.slots) (hdg : decode cc pc = .ok (.newarray .int, 2))
    (kk : ∀ H1 : Heap, zRep dC dI cI cA b (wN M 50 n.toNatClampNeg) H1 → va_S (fun q => b < q) s.heap H1 locs → W p l e R s m args below meth c H1 locs (cells + 1) (slots + n.toNatClampNeg) Q (F0 m (pc + 2) ls (zrv b (mZ M + 1) :: rest))) : W p l e R s m args below meth c H locs cells slots Q (F0 m pc ls (.int n :: rest)) := by
  refine va_newaK (atype := .int) hx hb harr rfl hdg rfl hn rfl (by show _ * 4 ≤ _; omega) hcells hslots (h := b + (mZ M + 1)) (by rw [hR.1]; omega) fun H1 cX e1 z1 o1 hAr hNm => ?_
  have hc : cX = cI := Option.some.inj (hNm.symm.trans hz.1.2)
  subst hc
  have hz' : H1.size = H.size + 1 := by rw [z1, hR.1]; omega
  have ho' : ∀ q : Nat, q < H.size → H1[q]? = H[q]? := fun q hq => o1 q (by rw [hR.1] at hq; omega)
  have := kk H1 (zRep_new hR hz' ho' ⟨fun h => ?_, fun _ => ?_, fun h => ?_⟩) ⟨Nat.le_trans hS.1 (by omega), fun x h1 h2 => (ho' x (Nat.lt_of_lt_of_le h1 hS.1)).trans (hS.2.1 x h1 h2), hS.2.2⟩
  · rw [zrv_ref (by omega)] at this
    exact this
  · exact absurd (show (50 : Nat) < 13 by simpa [mT, wN] using h) (by decide)
  · rw [e1]
    congr 1
    have hL : mL (wN M 50 n.toNatClampNeg) (mZ M + 1) = n.toNatClampNeg := if_pos rfl
    rw [hL]
    congr 1
    funext j
    show defaultValue .int = Value.int (if mZ M + 1 = mZ M + 1 then 0 else _)
    rw [if_pos rfl]
    rfl
  · exact absurd (show (60 : Nat) ≤ 50 by simpa [mT, wN] using h) (by decide)
theorem zw_newA (hx : p.tables.exec = Jvm.exec) (hb : c.code = cc) {own : String} {index ci : Nat} (hown : s.vm.findClass own = some m.cls) (h13 : ci < 13) (h5 : zok5 ci) (hclink : (Cond.classLink own index (zRC ci)).before args s = true) (hover : va_AO (zRC ci) s) (hz : zarr cI cA s) (hR : zRep dC dI cI cA b M H) (hS : va_S (fun q => b < q) s.heap H locs) {n : Int32} (hn : ¬ n < 0) (hn2 : n.toNatClampNeg ≤ 100000) (hcells : cells + 1 ≤ R.cells) (hslots : slots + n.toNatClampNeg ≤ R.slots) (hdg : decode cc pc = .ok (.anewarray index, 3))
    (kk : ∀ H1 : Heap, zRep dC dI cI cA b (wN M (60 + ci) n.toNatClampNeg) H1 → va_S (fun q => b < q) s.heap H1 locs → W p l e R s m args below meth c H1 locs (cells + 1) (slots + n.toNatClampNeg) Q (F0 m (pc + 3) ls (zrv b (mZ M + 1) :: rest))) : W p l e R s m args below meth c H locs cells slots Q (F0 m pc ls (.int n :: rest)) := by
  refine W.anew hx hb hown hclink (va_AO.use hover) rfl hdg rfl hn (by omega) hcells hslots fun cX kA comp f1 f2 f3 f4 => ?_
  have hc : cX = cA ci := by
    obtain ⟨_, _, -, -, -, g⟩ := (hz.2 _ h13 h5).2
    exact Option.some.inj (f1.symm.trans g)
  subst hc
  generalize hH1 : H.push ({ cls := cA ci, slots := Array.replicate n.toNatClampNeg .null, vm := .none } : Cell) = H1
  have z1 : H1.size = H.size + 1 := by rw [← hH1, Array.size_push]
  have e1 : H1[b + (mZ M + 1)]? = some (arrV (cA ci) n.toNatClampNeg (fun _ => .null)) := by rw [show b + (mZ M + 1) = H.size by rw [hR.1]; omega, ← hH1, Array.getElem?_push_size, ← arrV_new]
  have o1 : ∀ q : Nat, q < H.size → H1[q]? = H[q]? := fun q hq => by rw [← hH1, Array.getElem?_push, if_neg (Nat.ne_of_lt hq)]
  have hT : mT (wN M (60 + ci) n.toNatClampNeg) (mZ M + 1) = 60 + ci := if_pos rfl
  have := kk H1 (zRep_new hR z1 o1 ⟨fun h => ?_, fun h => ?_, fun h => ?_⟩) ⟨Nat.le_trans hS.1 (by omega), fun x h1 h2 => (o1 x (Nat.lt_of_lt_of_le h1 hS.1)).trans (hS.2.1 x h1 h2), hS.2.2⟩
  · rw [zrv_ref (by omega)] at this
    rw [show (.ref H.size : Value) = .ref (b + (mZ M + 1)) by rw [hR.1]; congr 1]
    exact this
  · rw [hT] at h; omega
  · rw [hT] at h; omega
  · refine ⟨by rw [hT, show 60 + ci - 60 = ci by omega]; exact h5, ?_⟩
    rw [e1, hT]
    have hL : mL (wN M (60 + ci) n.toNatClampNeg) (mZ M + 1) = n.toNatClampNeg := if_pos rfl
    rw [hL, show 60 + ci - 60 = ci by omega]
    congr 2
    funext j
    show Value.null = zrv b (if mZ M + 1 = mZ M + 1 then 0 else _)
    rw [if_pos rfl]
    rfl
theorem zw_new (hx : p.tables.exec = Jvm.exec) (hb : c.code = cc) {own : String} {ci index : Nat} (hts : ∀ w ∈ Ts, w.before args s = true) (hin : ∀ w ∈ u_ws (zRC ci) (zTC ci) (zNC ci), w ∈ Ts) (hown : s.vm.findClass own = some m.cls) (hcl : (Cond.classLink own index (zRC ci)).before args s = true) (hinst : (Cond.instantiable (zRC ci) (zNC ci)).before args s = true) (hini : (Cond.initialized (zRC ci)).before args s = true) (hK : va_K (dC, dI) vwCl tys s) (hR : zRep dC dI cI cA b M H) (hS : va_S (fun q => b < q) s.heap H locs) (hc : ci < 13) (hcells : cells + 1 ≤ R.cells) (hslots : slots + zNC ci ≤ R.slots) (hdg : decode cc pc = .ok (.new index, 3))
    (kk : ∀ H1 : Heap, zRep dC dI cI cA b (wN M ci (zNC ci)) H1 → va_S (fun q => b < q) s.heap H1 locs → W p l e R s m args below meth c H1 locs (cells + 1) (slots + zNC ci) Q (F0 m (pc + 3) ls (zrv b (mZ M + 1) :: rest))) : W p l e R s m args below meth c H locs cells slots Q (F0 m pc ls rest) := by
  have hKn := hK.1 ci _ (zcl_at hc)
  refine W.newcK hx hb hown hcl hinst hini rfl hdg hcells hslots hKn.2.1 (h := b + (mZ M + 1)) (by rw [hR.1]; omega) fun H1 kC hkC e1 z1 o1 => ?_
  have hz' : H1.size = H.size + 1 := by rw [z1, hR.1]; omega
  have ho' : ∀ q : Nat, q < H.size → H1[q]? = H[q]? := fun q hq => o1 q (by rw [hR.1] at hq; omega)
  have hT : mT (wN M ci (zNC ci)) (mZ M + 1) = ci := if_pos rfl
  have := kk H1 (zRep_new hR hz' ho' ⟨fun _ => ?_, fun h => ?_, fun h => ?_⟩) ⟨Nat.le_trans hS.1 (by omega), fun x h1 h2 => (ho' x (Nat.lt_of_lt_of_le h1 hS.1)).trans (hS.2.1 x h1 h2), hS.2.2⟩
  · rw [zrv_ref (by omega)] at this
    exact this
  · rw [hT]
    refine (u_born (zTy ci) hts hin hKn hkC e1 (zty_ok hc)).to fun k hk => ?_
    rw [zdef_ok ci hc k hk]
    show _ = if zfk (zTy ci k) = 2 then zrv b (if mZ M + 1 = mZ M + 1 then 0 else _) else .int (if mZ M + 1 = mZ M + 1 then 0 else _)
    rw [if_pos rfl, if_pos rfl]
    rfl
  · rw [hT] at h; omega
  · rw [hT] at h; omega
end ZW2
