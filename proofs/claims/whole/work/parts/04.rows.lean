/-! CLASS TABLES BY NUMBER -/
def zRC : Nat → String := fun c => match c with
  | 0 => RX0 | 1 => RX1 | 2 => RX2 | 3 => RX3 | 4 => RX4 | 5 => RX5 | 6 => RX6 | 7 => RX7 | 8 => RX8 | 9 => RX9 | 10 => RX10 | 11 => RX11 | _ => RX12
def zTC : Nat → u_T := fun c => match c with
  | 0 => TX0 | 1 => TX1 | 2 => TX2 | 3 => TX3 | 4 => TX4 | 5 => TX5 | 6 => TX6 | 7 => TX7 | 8 => TX8 | 9 => TX9 | 10 => TX10 | 11 => TX11 | _ => TX12
def zNC : Nat → Nat := fun c => match c with
  | 0 => 4 | 1 => 4 | 2 => 3 | 3 => 11 | 4 => 7 | 5 => 3 | 6 => 12 | 7 => 4 | 8 => 2 | 9 => 3 | 10 => 15 | 11 => 11 | _ => 37
def zTy : Nat → Nat → FieldType := fun c => match c with
  | 0 => tyX0 | 1 => tyX1 | 2 => tyX2 | 3 => tyX3 | 4 => tyX4 | 5 => tyX5 | 6 => tyX6 | 7 => tyX7 | 8 => tyX8 | 9 => tyX9 | 10 => tyX10 | 11 => tyX11 | _ => tyX12
theorem z13 {c : Nat} (h : c < 13) : c = 0 ∨ c = 1 ∨ c = 2 ∨ c = 3 ∨ c = 4 ∨ c = 5 ∨ c = 6 ∨ c = 7 ∨ c = 8 ∨ c = 9 ∨ c = 10 ∨ c = 11 ∨ c = 12 := by omega
theorem zcl_at {c : Nat} (h : c < 13) : vwCl[c]? = some (zRC c, zTC c, zNC c) := by
  rcases z13 h with rfl | rfl | rfl | rfl | rfl | rfl | rfl | rfl | rfl | rfl | rfl | rfl | rfl <;> rfl
theorem zty_ok {c : Nat} (h : c < 13) : ∀ k, k < zNC c → parseFieldDescriptor (zTC c k).2.2.1 = some (zTy c k) := by
  rcases z13 h with rfl | rfl | rfl | rfl | rfl | rfl | rfl | rfl | rfl | rfl | rfl | rfl | rfl
  · exact tyX0_ok
  · exact tyX1_ok
  · exact tyX2_ok
  · exact tyX3_ok
  · exact tyX4_ok
  · exact tyX5_ok
  · exact tyX6_ok
  · exact tyX7_ok
  · exact tyX8_ok
  · exact tyX9_ok
  · exact tyX10_ok
  · exact tyX11_ok
  · exact tyX12_ok
theorem znm_ok {c : Nat} (h : c < 13) : ∀ a, a < zNC c → ∀ b, b < zNC c → a ≠ b → (zTC c a).2.1 ≠ (zTC c b).2.1 := by
  rcases z13 h with rfl | rfl | rfl | rfl | rfl | rfl | rfl | rfl | rfl | rfl | rfl | rfl | rfl
  · exact nmX0
  · exact nmX1
  · exact nmX2
  · exact nmX3
  · exact nmX4
  · exact nmX5
  · exact nmX6
  · exact nmX7
  · exact nmX8
  · exact nmX9
  · exact nmX10
  · exact nmX11
  · exact nmX12
def zfk : FieldType → Nat
  | .int => 0
  | .boolean => 1
  | _ => 2
def zrv (b r : Nat) : Value := if r = 0 then .null else .ref (b + r)
def zro (b r : Nat) : Option Nat := if r = 0 then none else some (b + r)
theorem zrv_ro (b r : Nat) : va_rf (zro b r) = zrv b r := by
  unfold zro zrv
  by_cases h : r = 0
  · simp [h, va_rf]
  · simp [h, va_rf]
def zv (b : Nat) (ev : Nat → Value) : Value → Value
  | .ref r => zrv b r
  | .float x => ev x.toNat
  | v => v
def zfv (b : Nat) (M : Mm) (r c j : Nat) : Value := if zfk (zTy c j) = 2 then zrv b (mR M r j) else .int (mI M r j)
theorem zdef_ok : ∀ c, c < 13 → ∀ j, j < zNC c → defaultValue (zTy c j) = if zfk (zTy c j) = 2 then .null else .int 0 := by decide +kernel
/-- the cell of number r, at b + r -/
def zcell (dC : Nat → ClassId) (dI : Nat → Nat → Nat) (cI : ClassId) (cA : Nat → ClassId) (b : Nat) (M : Mm) (r : Nat) (H : Heap) : Prop :=
  (mT M r < 13 → t_OB (b + r) (dC (mT M r)) (zNC (mT M r)) (dI (mT M r)) H (zfv b M r (mT M r))) ∧ (mT M r = 50 → H[b + r]? = some (arrV cI (mL M r) (fun j => .int (mI M r j)))) ∧ (60 ≤ mT M r → H[b + r]? = some (arrV (cA (mT M r - 60)) (mL M r) (fun j => zrv b (mR M r j))))
def zRep (dC : Nat → ClassId) (dI : Nat → Nat → Nat) (cI : ClassId) (cA : Nat → ClassId) (b : Nat) (M : Mm) (H : Heap) : Prop :=
  H.size = b + mZ M + 1 ∧ ∀ r, 0 < r → r ≤ mZ M → zcell dC dI cI cA b M r H
def zag (M M' : Mm) (r : Nat) : Prop := mZ M' = mZ M ∧ (∀ q, mT M' q = mT M q) ∧ (∀ q, mL M' q = mL M q) ∧ ∀ q, q ≠ r → (∀ j, mI M' q j = mI M q j) ∧ ∀ j, mR M' q j = mR M q j
theorem zag_wI (M : Mm) (r j : Nat) (v : Int32) : zag M (wI M r j v) r := ⟨rfl, fun _ => rfl, fun _ => rfl, fun q hq => ⟨fun j' => by show (if q = r then _ else _) = _; rw [if_neg hq]; rfl, fun _ => rfl⟩⟩
theorem zag_wR (M : Mm) (r j v : Nat) : zag M (wR M r j v) r := ⟨rfl, fun _ => rfl, fun _ => rfl, fun q hq => ⟨fun _ => rfl, fun j' => by show (if q = r then _ else _) = _; rw [if_neg hq]; rfl⟩⟩
theorem zag_wC (M : Mm) (r0 sp r dp n : Nat) : zag M (wC M r0 sp r dp n) r := ⟨rfl, fun _ => rfl, fun _ => rfl, fun q hq => ⟨fun j' => by show (if q = r then _ else _) = _; rw [if_neg hq]; rfl, fun _ => rfl⟩⟩
section ZRows
variable {dC : Nat → ClassId} {dI : Nat → Nat → Nat} {cI : ClassId} {cA : Nat → ClassId} {b : Nat}
theorem zcell_to {M M' : Mm} {r : Nat} {H H1 : Heap} (h : zcell dC dI cI cA b M r H) (hH : H1[b + r]? = H[b + r]?) (hT : mT M' r = mT M r) (hL : mL M' r = mL M r) (hi : ∀ j, mI M' r j = mI M r j) (hr : ∀ j, mR M' r j = mR M r j) : zcell dC dI cI cA b M' r H1 := by
  obtain ⟨h1, h2, h3⟩ := h
  have e1 : (fun j => Value.int (mI M' r j)) = (fun j => Value.int (mI M r j)) := funext fun j => by rw [hi]
  have e2 : (fun j => zrv b (mR M' r j)) = (fun j => zrv b (mR M r j)) := funext fun j => by rw [hr]
  have e3 : ∀ c, zfv b M' r c = zfv b M r c := fun c => funext fun j => by unfold zfv; rw [hi, hr]
  refine ⟨fun h => ?_, fun h => ?_, fun h => ?_⟩
  · rw [hT] at h ⊢
    rw [e3]
    exact (h1 h).kept hH
  · rw [hT] at h
    rw [hL, e1, hH]
    exact h2 h
  · rw [hT] at h ⊢
    rw [hL, e2, hH]
    exact h3 h
theorem zRep_set {M M' : Mm} {r : Nat} {H H1 : Heap} (h : zRep dC dI cI cA b M H) (ha : zag M M' r) (hz : H1.size = H.size) (ho : ∀ q : Nat, q ≠ b + r → H1[q]? = H[q]?) (hc : zcell dC dI cI cA b M' r H1) : zRep dC dI cI cA b M' H1 := by
  obtain ⟨h1, h2⟩ := h
  obtain ⟨a1, a2, a3, a4⟩ := ha
  refine ⟨by rw [hz, a1]; exact h1, fun q q0 q1 => ?_⟩
  rw [a1] at q1
  by_cases e : q = r
  · rw [e]; exact hc
  · exact zcell_to (h2 q q0 q1) (ho _ (by omega)) (a2 q) (a3 q) (a4 q e).1 (a4 q e).2
theorem zRep_new {M : Mm} {t n : Nat} {H H1 : Heap} (h : zRep dC dI cI cA b M H) (hz : H1.size = H.size + 1) (ho : ∀ q : Nat, q < H.size → H1[q]? = H[q]?) (hc : zcell dC dI cI cA b (wN M t n) (mZ M + 1) H1) : zRep dC dI cI cA b (wN M t n) H1 := by
  obtain ⟨h1, h2⟩ := h
  have e0 : mZ (wN M t n) = mZ M + 1 := rfl
  refine ⟨by rw [hz, h1, e0]; omega, fun q q0 q1 => ?_⟩
  rw [e0] at q1
  by_cases e : q = mZ M + 1
  · rw [e]; exact hc
  · exact zcell_to (h2 q q0 (by omega)) (ho _ (by omega)) (if_neg e) (if_neg e) (fun _ => if_neg e) (fun _ => if_neg e)
end ZRows
