/-! CLASS TABLES BY NUMBER -/
def zRC : Nat → String := fun c => match c with
  | 0 => RX0 | 1 => RX1 | 2 => RX2 | 3 => RX3 | 4 => RX4 | 5 => RX5 | 6 => RX6 | 7 => RX7 | 8 => RX8 | 9 => RX9 | 10 => RX10 | 11 => RX11 | _ => RX12
def zTC : Nat → u_T := fun c => match c with
  | 0 => TX0 | 1 => TX1 | 2 => TX2 | 3 => TX3 | 4 => TX4 | 5 => TX5 | 6 => TX6 | 7 => TX7 | 8 => TX8 | 9 => TX9 | 10 => TX10 | 11 => TX11 | _ => TX12
def zNC : Nat → Nat := fun c => match c with
  | 0 => 4 | 1 => 4 | 2 => 3 | 3 => 11 | 4 => 7 | 5 => 3 | 6 => 12 | 7 => 4 | 8 => 2 | 9 => 3 | 10 => 15 | 11 => 11 | _ => 37
def zTy : Nat → Nat → FieldType := fun c => match c with
  | 0 => tyX0 | 1 => tyX1 | 2 => tyX2 | 3 => tyX3 | 4 => tyX4 | 5 => tyX5 | 6 => tyX6 | 7 => tyX7 | 8 => tyX8 | 9 => tyX9 | 10 => tyX10 | 11 => tyX11 | _ => tyX12
theorem z13 {c : Nat} (h : c < 13) : c = 0 ∨ c = 1 ∨ c = 2 ∨ c = 3 ∨ c = 4 ∨ c = 5 ∨ c = 6 ∨ c = 7 ∨ c = 8 ∨ c = 9 ∨ c = 10 ∨ c = 11 ∨ c = 12 := by omega
theorem zcl_at {c : Nat} (h : c < 13) : vwCl[c]? = some (zRC c, zTC c, zNC c) := by
  rcases z13 h with rfl | rfl | rfl | rfl | rfl | rfl | rfl | rfl | rfl | rfl | rfl | rfl | rfl <;> rfl
theorem zty_ok {c : Nat} (h : c < 13) : ∀ k, k < zNC c → parseFieldDescriptor (zTC c k).2.2.1 = some (zTy c k) := by
  rcases z13 h with rfl | rfl | rfl | rfl | rfl | rfl | rfl | rfl | rfl | rfl | rfl | rfl | rfl
  · exact tyX0_ok
  · exact tyX1_ok
  · exact tyX2_ok
  · exact tyX3_ok
  · exact tyX4_ok
  · exact tyX5_ok
  · exact tyX6_ok
  · exact tyX7_ok
  · exact tyX8_ok
  · exact tyX9_ok
  · exact tyX10_ok
  · exact tyX11_ok
  · exact tyX12_ok
theorem znm_ok {c : Nat} (h : c < 13) : ∀ a, a < zNC c → ∀ b, b < zNC c → a ≠ b → (zTC c a).2.1 ≠ (zTC c b).2.1 := by
  rcases z13 h with rfl | rfl | rfl | rfl | rfl | rfl | rfl | rfl | rfl | rfl | rfl | rfl | rfl
  · exact nmX0
  · exact nmX1
  · exact nmX2
  · exact nmX3
  · exact nmX4
  · exact nmX5
  · exact nmX6
  · exact nmX7
  · exact nmX8
  · exact nmX9
  · exact nmX10
  · exact nmX11
  · exact nmX12
def zfk : FieldType → Nat
  | .int => 0
  | .boolean => 1
  | _ => 2
def zrv (b r : Nat) : Value := if r = 0 then .null else .ref (b + r)
def zro (b r : Nat) : Option Nat := if r = 0 then none else some (b + r)
theorem zrv_ro (b r : Nat) : va_rf (zro b r) = zrv b r := by
  unfold zro zrv
  by_cases h : r = 0
  · simp [h, va_rf]
  · simp [h, va_rf]
def zv (b : Nat) (ev : Nat → Value) : Value → Value
  | .ref r => zrv b r
  | .float x => ev x.toNat
  | v => v
def zfv (b : Nat) (M : Mm) (r c j : Nat) : Value := if zfk (zTy c j) = 2 then zrv b (mR M r j) else .int (mI M r j)
theorem zdef_ok : ∀ c, c < 13 → ∀ j, j < zNC c → defaultValue (zTy c j) = if zfk (zTy c j) = 2 then .null else .int 0 := by decide +kernel
/-- the classes of which there are arrays of references -/
def zok5 (t : Nat) : Prop := t = 2 ∨ t = 3 ∨ t = 5 ∨ t = 7 ∨ t = 9
/-- the cell of number r, at b + r -/
def zcell (dC : Nat → ClassId) (dI : Nat → Nat → Nat) (cI : ClassId) (cA : Nat → ClassId) (b : Nat) (M : Mm) (r : Nat) (H : Heap) : Prop :=
  (mT M r < 13 → t_OB (b + r) (dC (mT M r)) (zNC (mT M r)) (dI (mT M r)) H (zfv b M r (mT M r))) ∧ (mT M r = 50 → H[b + r]? = some (arrV cI (mL M r) (fun j => .int (mI M r j)))) ∧ (60 ≤ mT M r → zok5 (mT M r - 60) ∧ H[b + r]? = some (arrV (cA (mT M r - 60)) (mL M r) (fun j => zrv b (mR M r j))))
def zRep (dC : Nat → ClassId) (dI : Nat → Nat → Nat) (cI : ClassId) (cA : Nat → ClassId) (b : Nat) (M : Mm) (H : Heap) : Prop :=
  H.size = b + mZ M + 1 ∧ ∀ r, 0 < r → r ≤ mZ M → zcell dC dI cI cA b M r H
def zag (M M' : Mm) (r : Nat) : Prop := mZ M' = mZ M ∧ (∀ q, mT M' q = mT M q) ∧ (∀ q, mL M' q = mL M q) ∧ ∀ q, q ≠ r → (∀ j, mI M' q j = mI M q j) ∧ ∀ j, mR M' q j = mR M q j
theorem zag_wI (M : Mm) (r j : Nat) (v : Int32) : zag M (wI M r j v) r := ⟨rfl, fun _ => rfl, fun _ => rfl, fun q hq => ⟨fun j' => by show (if q = r then _ else _) = _; rw [if_neg hq]; rfl, fun _ => rfl⟩⟩
theorem zag_wR (M : Mm) (r j v : Nat) : zag M (wR M r j v) r := ⟨rfl, fun _ => rfl, fun _ => rfl, fun q hq => ⟨fun _ => rfl, fun j' => by show (if q = r then _ else _) = _; rw [if_neg hq]; rfl⟩⟩
theorem zag_wC (M : Mm) (r0 sp r dp n : Nat) : zag M (wC M r0 sp r dp n) r := ⟨rfl, fun _ => rfl, fun _ => rfl, fun q hq => ⟨fun j' => by show (if q = r then _ else _) = _; rw [if_neg hq]; rfl, fun _ => rfl⟩⟩
section ZRows
variable {dC : Nat → ClassId} {dI : Nat → Nat → Nat} {cI : ClassId} {cA : Nat → ClassId} {b : Nat}
theorem zcell_to {M M' : Mm} {r : Nat} {H H1 : Heap} (h : zcell dC dI cI cA b M r H) (hH : H1[b + r]? = H[b + r]?) (hT : mT M' r = mT M r) (hL : mL M' r = mL M r) (hi : ∀ j, mI M' r j = mI M r j) (hr : ∀ j, mR M' r j = mR M r j) : zcell dC dI cI cA b M' r H1 := by
  obtain ⟨h1, h2, h3⟩ := h
  have e1 : (fun j => Value.int (mI M' r j)) = (fun j => Value.int (mI M r j)) := funext fun j => by rw [hi]
  have e2 : (fun j => zrv b (mR M' r j)) = (fun j => zrv b (mR M r j)) := funext fun j => by rw [hr]
  have e3 : ∀ c, zfv b M' r c = zfv b M r c := fun c => funext fun j => by unfold zfv; rw [hi, hr]
  refine ⟨fun h => ?_, fun h => ?_, fun h => ?_⟩
  · rw [hT] at h ⊢
    rw [e3]
    exact (h1 h).kept hH
  · rw [hT] at h
    rw [hL, e1, hH]
    exact h2 h
  · rw [hT] at h ⊢
    rw [hL, e2, hH]
    exact h3 h
theorem zRep_set {M M' : Mm} {r : Nat} {H H1 : Heap} (h : zRep dC dI cI cA b M H) (ha : zag M M' r) (hz : H1.size = H.size) (ho : ∀ q : Nat, q ≠ b + r → H1[q]? = H[q]?) (hc : zcell dC dI cI cA b M' r H1) : zRep dC dI cI cA b M' H1 := by
  obtain ⟨h1, h2⟩ := h
  obtain ⟨a1, a2, a3, a4⟩ := ha
  refine ⟨by rw [hz, a1]; exact h1, fun q q0 q1 => ?_⟩
  rw [a1] at q1
  by_cases e : q = r
  · rw [e]; exact hc
  · exact zcell_to (h2 q q0 q1) (ho _ (by omega)) (a2 q) (a3 q) (a4 q e).1 (a4 q e).2
theorem zRep_new {M : Mm} {t n : Nat} {H H1 : Heap} (h : zRep dC dI cI cA b M H) (hz : H1.size = H.size + 1) (ho : ∀ q : Nat, q < H.size → H1[q]? = H[q]?) (hc : zcell dC dI cI cA b (wN M t n) (mZ M + 1) H1) : zRep dC dI cI cA b (wN M t n) H1 := by
  obtain ⟨h1, h2⟩ := h
  have e0 : mZ (wN M t n) = mZ M + 1 := rfl
  refine ⟨by rw [hz, h1, e0]; omega, fun q q0 q1 => ?_⟩
  rw [e0] at q1
  by_cases e : q = mZ M + 1
  · rw [e]; exact hc
  · exact zcell_to (h2 q q0 (by omega)) (ho _ (by omega)) (if_neg e) (if_neg e) (fun _ => if_neg e) (fun _ => if_neg e)
end ZRows
/-! ROWS OVER THE HEAP THAT HOLDS A MEMORY -/
section ZW
variable {p : Program} {l : Launch} {e : Env} {R : Room} {s : State} {m : MethodId} {args : Array Value} {below : List Frame} {meth : Method} {c : Code} {H : Heap} {locs : List Loc} {cells slots : Nat} {Q : State → Prop} {cc : ByteArray} {pc : Nat} {ls : Array Slot} {rest : List Value}
variable {dC : Nat → ClassId} {dI : Nat → Nat → Nat} {cI : ClassId} {cA : Nat → ClassId} {b : Nat} {M : Mm} {tys : List (ClassId × FieldType)} {Ts : List Cond}
theorem zrv_ref {r : Nat} (h : 0 < r) : zrv b r = .ref (b + r) := if_neg (by omega)
theorem zw_get (hx : p.tables.exec = Jvm.exec) (hb : c.code = cc) {own : String} {ci k r index : Nat} (hts : ∀ w ∈ Ts, w.before args s = true) (hin : ∀ w ∈ u_ws (zRC ci) (zTC ci) (zNC ci), w ∈ Ts) (hown : s.vm.findClass own = some m.cls) (hK : va_K (dC, dI) vwCl tys s) (hR : zRep dC dI cI cA b M H) (hO : zO M r ci) (hc : ci < 13) (hk : k < zNC ci)
    (hlink : (Cond.fieldLink own index (zTC ci k).1 (zTC ci k).2.1 (zTC ci k).2.2.1).before args s = true) (hdg : decode cc pc = .ok (.getfield index, 3))
    (kk : W p l e R s m args below meth c H locs cells slots Q (F0 m (pc + 3) ls (zfv b M r ci k :: rest))) : W p l e R s m args below meth c H locs cells slots Q (F0 m pc ls (zrv b r :: rest)) := by
  obtain ⟨h0, h1, h2⟩ := hO
  rw [zrv_ref h0]
  have hT : t_OB (b + r) (dC ci) (zNC ci) (dI ci) H (zfv b M r ci) := by have := (hR.2 r h0 h1).1; rw [h2] at this; exact this hc
  have hP : va_P (dC, dI) vwCl [(b + r, .inr (ci, (List.range (zNC ci)).map (zfv b M r ci)))] H := by
    intro q x hq
    have hq0 : q = 0 := by
      have := (List.getElem?_eq_some_iff.mp hq).1
      simp at this
      exact this
    subst hq0
    cases hq
    refine ⟨_, zcl_at hc, hT.to fun j hj => ?_⟩
    have hj' : j < zNC ci := hj
    simp [vp_V, hj']
  exact va_get (D := (dC, dI)) (ci := ci) (v := zfv b M r ci k) hx hb hts hin hown hK hP 0 rfl (zcl_at hc) k hk hlink (fun _ h9 => h9) (by simp [hk]) hdg kk
theorem zput_cell {H1 : Heap} {cell : Cell} {ci k r : Nat} {v : Value} {M' : Mm} (hx : zO M r ci) (hc : ci < 13) (hk : k < zNC ci) (q2 : cell.cls = dC ci) (q3 : cell.vm = .none) (q4 : ∀ j, j < zNC ci → cell.slots[dI ci j]? = some (zfv b M r ci j)) (hap : ∀ x y, x < zNC ci → y < zNC ci → x ≠ y → dI ci x ≠ dI ci y) (e1 : H1[b + r]? = some (cell.setSlot (dI ci k) v)) (hT : mT M' r = mT M r) (hv : zfv b M' r ci k = v) (ho : ∀ j, j ≠ k → zfv b M' r ci j = zfv b M r ci j) : zcell dC dI cI cA b M' r H1 := by
  obtain ⟨-, -, h2⟩ := hx
  refine ⟨fun _ => ?_, fun h => ?_, fun h => ?_⟩
  · rw [hT, h2]
    refine t_OB.to (V := updV (zfv b M r ci) k v) ⟨_, e1, q2, q3, t_set q4 hap hk v⟩ (fun j _ => ?_)
    unfold updV
    by_cases hj : j = k
    · rw [if_pos hj, hj, hv]
    · rw [if_neg hj, ho j hj]
  · rw [hT, h2] at h; omega
  · rw [hT, h2] at h; omega
/-- a store into a field, by what the new memory is -/
theorem zw_put (hx : p.tables.exec = Jvm.exec) (hb : c.code = cc) {own : String} {ci k r index : Nat} (hts : ∀ w ∈ Ts, w.before args s = true) (hin : ∀ w ∈ u_ws (zRC ci) (zTC ci) (zNC ci), w ∈ Ts) (hown : s.vm.findClass own = some m.cls) (hK : va_K (dC, dI) vwCl tys s) (hR : zRep dC dI cI cA b M H) (hS : va_S (fun q => b < q) s.heap H locs) (hO : zO M r ci) (hc : ci < 13) (hk : k < zNC ci)
    (hlink : (Cond.fieldLink own index (zTC ci k).1 (zTC ci k).2.1 (zTC ci k).2.2.1).before args s = true) (hfin : (zTC ci k).2.2.2 = true → meth.name = "<init>" ∧ (zTC ci k).1 = own) {v : Value} (hn : narrow (zTy ci k) v = v) (hfit : fits (zTy ci k) v = true) {M' : Mm} (hag : zag M M' r) (hv : zfv b M' r ci k = v) (ho : ∀ j, j ≠ k → zfv b M' r ci j = zfv b M r ci j) (hdg : decode cc pc = .ok (.putfield index, 3))
    (kk : ∀ (H1 : Heap) (locs1 : List Loc), zRep dC dI cI cA b M' H1 → va_S (fun q => b < q) s.heap H1 locs1 → W p l e R s m args below meth c H1 locs1 cells slots Q (F0 m (pc + 3) ls rest)) : W p l e R s m args below meth c H locs cells slots Q (F0 m pc ls (v :: zrv b r :: rest)) := by
  have hO' := hO
  obtain ⟨h0, h1, h2⟩ := hO
  rw [zrv_ref h0]
  have hT : t_OB (b + r) (dC ci) (zNC ci) (dI ci) H (zfv b M r ci) := by have := (hR.2 r h0 h1).1; rw [h2] at this; exact this hc
  have hap := va_apart (D := (dC, dI)) (own := own) hts hin (zTy ci) (zty_ok hc) (znm_ok hc) hK (zcl_at hc)
  obtain ⟨cell, q1, q2, q3, q4⟩ := hT
  obtain ⟨hSl, hfc, kC, hkC, hkind⟩ := hK.1 ci _ (zcl_at hc)
  obtain ⟨cf, kf, fi, f, hi, hsl⟩ := hSl k hk
  have hst := (u_facts hfc hkC (u_lays hts hin hk) hi).1
  have hlay := hts _ (hin _ (u_in_lay hk))
  unfold u_lay at hlay
  by_cases hfl : (zTC ci k).2.2.2 = true
  · rw [if_pos hfl] at hlay
    obtain ⟨hname, hdecl⟩ := hfin hfl
    have hcf : m.cls = cf := by
      obtain ⟨_, _, c', _, _, _, -, -, hf', -, -, -, hown2, -⟩ := Cond.laysFinal_spec hlay
      have e1 : c' = cf := by have := hi.symm.trans hf'; simp at this; exact this.1.symm
      rw [hdecl] at hown2
      rw [← e1]; exact Option.some.inj (hown.symm.trans hown2)
    have h6 := u_fits hfc hkC hkind (Or.inr hlay) hi (zty_ok hc k hk) hn hfit
    refine W.putFinK hx hb hown hlink hi hst hcf hname (by rw [q2]; exact h6) q1 q3 (by rw [hsl]; exact k2_hasslot (q4 k hk)) rfl rfl hdg fun H' e1 e2 e3 => ?_
    rw [hsl] at e1 ⊢
    exact kk H' _ (zRep_set hR hag e2 e3 (zput_cell hO' hc hk q2 q3 q4 hap e1 (hag.2.1 r) hv ho)) (hS.put e2 e3 (show b < b + r by omega))
  · rw [if_neg hfl] at hlay
    have h6 := u_store hfc hkC hkind hlay hi (zty_ok hc k hk) hn hfit
    refine W.putK hx hb (f := f) ⟨hown, hlink, ⟨_, _, _, hi⟩, hst⟩ (by rw [q2]; exact h6) q1 q3 (by rw [hsl]; exact k2_hasslot (q4 k hk)) rfl rfl hdg fun H' e1 e2 e3 => ?_
    rw [hsl] at e1 ⊢
    exact kk H' _ (zRep_set hR hag e2 e3 (zput_cell hO' hc hk q2 q3 q4 hap e1 (hag.2.1 r) hv ho)) (hS.put e2 e3 (show b < b + r by omega))
end ZW
