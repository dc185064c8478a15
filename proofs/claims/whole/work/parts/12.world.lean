/-! WHAT LIES OUTSIDE THE MEMORY: class tables, the static array, the script, text constants -/
def zKx (dC : Nat → ClassId) (dI : Nat → Nat → Nat) (cI : ClassId) (cA : Nat → ClassId) (b : Nat) (ev : Nat → Value) (X : List Int32) (U : State) : Prop :=
  va_K (dC, dI) vwCl [] U ∧ zarr cI cA U ∧ (∀ w ∈ zNw, va_Nw w U) ∧ (∀ ci, zok5 ci → va_AO (zRC ci) U) ∧ va_Z "PhoneBench" "ABOVE" "[I" (ev 0) (fun q => b < q) U U.heap ∧ va_Z "java/lang/String" "COMPACT_STRINGS" "Z" (.int 1) (fun q => b < q) U U.heap ∧ va_Z "jdk/internal/util/Preconditions" "SIOOBE_FORMATTER" "Ljava/util/function/BiFunction;" (ev 2) (fun q => b < q) U U.heap ∧
  (∀ e, e < 2 → ∃ t : Nat, ev e = .ref t ∧ va_T .int t (zxV X e).length (fun j => .int ((zxV X e).getD j 0)) (fun q => b < q) U U.heap) ∧
  (∃ adK adV : Nat → Nat, vk_S 6 (zxB.map List.length) zxB adK adV (fun q => b < q) U U.heap ∧ ∀ i, i < 6 → ev (10 + i) = .ref (adK i) ∧ ev (20 + i) = .ref (adV i) ∧ vk_R (zstr.getD i ("", 0, "")).1 (zstr.getD i ("", 0, "")).2.1 (zstr.getD i ("", 0, "")).2.2 (adK i) U)
def zev (ev : Nat → Value) : Prop := ∀ e, ev e = .null ∨ ∃ t : Nat, ev e = .ref t
theorem zarr_moved {cI : ClassId} {cA : Nat → ClassId} {u U : State} (hvm : u.vm.Alike U.vm) (h : zarr cI cA u) : zarr cI cA U := ⟨⟨arrOfT_moved hvm h.1.1, h.1.2.moved hvm⟩, fun ci h1 h2 => ⟨arrOfT_moved hvm (h.2 ci h1 h2).1, (h.2 ci h1 h2).2.moved hvm⟩⟩
theorem zNw_moved {u U : State} (hW : u.WarmedH U.vm) (h : ∀ w ∈ zNw, va_Nw w u) : ∀ w ∈ zNw, va_Nw w U := by
  intro w hw
  have h1 := h w hw
  have h2 := (List.mem_filter.mp hw).2
  cases w <;> first | exact va_Nw.warmM hW h1 | exact va_Nw.warmF hW h1 | (simp [zisN] at h2)
theorem zKx_moved {dC : Nat → ClassId} {dI : Nat → Nat → Nat} {cI : ClassId} {cA : Nat → ClassId} {b : Nat} {ev : Nat → Value} {X : List Int32} {u U : State} (hW : u.WarmedH U.vm) (hq : ∀ a : Nat, a < u.heap.size → ¬ b < a → U.heap[a]? = u.heap[a]?) (h : zKx dC dI cI cA b ev X u) : zKx dC dI cI cA b ev X U := by
  obtain ⟨h1, h2, h3, h4, h5, h6, h7, h8, adK, adV, h9, h10⟩ := h
  have hv := hW.alike
  refine ⟨va_K.moved hv h1, zarr_moved hv h2, zNw_moved hW h3, fun ci hc => (h4 ci hc).moved hv, (h5.moved hv).kept hq, (h6.moved hv).kept hq, (h7.moved hv).kept hq, fun e he => ?_, adK, adV, (h9.moved hv).kept hq, fun i hi => ⟨(h10 i hi).1, (h10 i hi).2.1, (h10 i hi).2.2.warm hW⟩⟩
  obtain ⟨t, g1, g2⟩ := h8 e he
  exact ⟨t, g1, (g2.moved hv).kept hq⟩
theorem zv_cat {b : Nat} {ev : Nat → Value} (hev : zev ev) (v : Value) : (zv b ev v).category ≤ 2 := by
  cases v with
  | float x => rcases hev x.toNat with h | ⟨t, h⟩ <;> (show (ev x.toNat).category ≤ 2; rw [h]; exact Nat.le_succ 1)
  | ref r => show (zrv b r).category ≤ 2; unfold zrv; split <;> exact Nat.le_succ 1
  | _ => first | decide | exact Nat.le_refl _ | exact Nat.le_succ _
theorem zv_cat1 {b : Nat} {ev : Nat → Value} (hev : zev ev) (v : Value) : (∀ x, v ≠ .long x) → (∀ x, v ≠ .double x) → (zv b ev v).category ≤ 1 := by
  intro n1 n2
  cases v with
  | float x => rcases hev x.toNat with h | ⟨t, h⟩ <;> (show (ev x.toNat).category ≤ 1; rw [h]; exact Nat.le_refl 1)
  | ref r => show (zrv b r).category ≤ 1; unfold zrv; split <;> exact Nat.le_refl 1
  | long x => exact absurd rfl (n1 x)
  | double x => exact absurd rfl (n2 x)
  | _ => first | decide | exact Nat.le_refl _
theorem zcats {b : Nat} {ev : Nat → Value} (hev : zev ev) : ∀ S : List Value, ((S.map (zv b ev)).map fun v => v.category).sum ≤ zLn S
  | [] => Nat.le_refl _
  | v :: S => by
    have h1 := zcats (b := b) hev S
    have h2 := zv_cat (b := b) hev v
    have h3 := zv_cat1 (b := b) hev v
    rw [List.map_cons, List.map_cons, List.sum_cons]
    cases v with
    | long x => show _ ≤ zLn S + 2; omega
    | double x => show _ ≤ zLn S + 2; omega
    | _ => have h3 := h3 (fun _ => by intro q; cases q) (fun _ => by intro q; cases q); show _ ≤ zLn S + 1; omega
/-! LOCALS -/
def zlv (b : Nat) (ev : Nat → Value) : Nat → List Value → List (Nat × Value)
  | _, [] => []
  | i, v :: L => match v with
    | .retAddr _ => zlv b ev (i + 1) L
    | v => (i, zv b ev v) :: zlv b ev (i + 1) L
theorem zlv_in {b : Nat} {ev : Nat → Value} : ∀ (L : List Value) (i j : Nat) (v : Value), zLo L j = v → (∀ q, v ≠ .retAddr q) → (i + j, zv b ev v) ∈ zlv b ev i L
  | [], i, j, v, h, hn => absurd h.symm (hn 0)
  | w :: L, i, 0, v, h, hn => by
    have h : w = v := h
    subst h
    cases w <;> first | exact List.mem_cons_self | exact absurd rfl (hn _)
  | w :: L, i, j + 1, v, h, hn => by
    have h1 := zlv_in (b := b) (ev := ev) L (i + 1) j v h hn
    rw [show i + 1 + j = i + (j + 1) by omega] at h1
    cases w <;> first | exact List.mem_cons_of_mem _ h1 | exact h1
theorem zlv_ge {b : Nat} {ev : Nat → Value} : ∀ (L : List Value) (i : Nat) (q : Nat × Value), q ∈ zlv b ev i L → i ≤ q.1
  | [], i, q, h => by cases h
  | w :: L, i, q, h => by
    have h2 : q = (i, zv b ev w) ∨ q ∈ zlv b ev (i + 1) L := by
      cases w <;> first | exact List.mem_cons.mp h | exact Or.inr h
    rcases h2 with h2 | h2
    · rw [h2]; exact Nat.le_refl _
    · have := zlv_ge L (i + 1) q h2; omega
theorem zlv_set {b : Nat} {ev : Nat → Value} : ∀ (L : List Value) (i j : Nat) (v : Value) (q : Nat × Value), q ∈ zlv b ev i (zSe L j v) → q = (i + j, zv b ev v) ∨ (q ∈ zlv b ev i L ∧ q.1 ≠ i + j ∧ i ≤ q.1)
  | [], i, j, v, q, h => by cases h
  | w :: L, i, 0, v, q, h => by
    have h2 : q = (i, zv b ev v) ∨ q ∈ zlv b ev (i + 1) L := by
      have h : q ∈ zlv b ev i (v :: L) := h
      cases v <;> first | exact List.mem_cons.mp h | exact Or.inr h
    rcases h2 with h2 | h2
    · exact Or.inl h2
    · have h3 : i + 1 ≤ q.1 := zlv_ge L (i + 1) q h2
      refine Or.inr ⟨?_, by omega, by omega⟩
      cases w <;> first | exact List.mem_cons_of_mem _ h2 | exact h2
  | w :: L, i, j + 1, v, q, h => by
    have h : q ∈ zlv b ev i (w :: zSe L j v) := h
    have h2 : (q = (i, zv b ev w) ∧ ∀ z, w ≠ .retAddr z) ∨ q ∈ zlv b ev (i + 1) (zSe L j v) := by
      cases w <;> first | exact (List.mem_cons.mp h).imp (fun e => ⟨e, fun _ z => by cases z⟩) id | exact Or.inr h
    rcases h2 with ⟨h2, h3⟩ | h2
    · refine Or.inr ⟨?_, by rw [h2]; show i ≠ _; omega, by rw [h2]; exact Nat.le_refl _⟩
      rw [h2]
      cases w <;> first | exact List.mem_cons_self | exact absurd rfl (h3 _)
    · rcases zlv_set L (i + 1) j v q h2 with h3 | ⟨h3, h4, h5⟩
      · left; rw [h3, show i + 1 + j = i + (j + 1) by omega]
      · refine Or.inr ⟨?_, by omega, by omega⟩
        cases w <;> first | exact List.mem_cons_of_mem _ h3 | exact h3
theorem zlv_cat {b : Nat} {ev : Nat → Value} (hev : zev ev) : ∀ (L : List Value) (i : Nat) (q : Nat × Value), znl L = true → q ∈ zlv b ev i L → q.2.category = 1
  | [], i, q, _, h => by cases h
  | w :: L, i, q, hn, h => by
    have hn2 : znl L = true := by unfold znl at hn; rw [Bool.and_eq_true] at hn; exact hn.2
    have h2 : (q = (i, zv b ev w) ∧ ∀ z, w ≠ .retAddr z) ∨ q ∈ zlv b ev (i + 1) L := by
      cases w <;> first | exact (List.mem_cons.mp h).imp (fun e => ⟨e, fun _ z => by cases z⟩) id | exact Or.inr h
    rcases h2 with ⟨h2, -⟩ | h2
    · rw [h2]
      cases w with
      | long x => cases hn
      | double x => cases hn
      | float x => rcases hev x.toNat with h | ⟨t, h⟩ <;> (show (ev x.toNat).category = 1; rw [h]; rfl)
      | ref r => show (zrv b r).category = 1; unfold zrv; split <;> rfl
      | _ => rfl
    · exact zlv_cat hev L (i + 1) q hn2 h2
