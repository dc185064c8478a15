/-! INVERSIONS, ENTRY, CALLS -/
theorem zi1_inv {S : List Value} {f : Int32 → List Value → Prop} (h : zi1 S f) : ∃ x S', S = .int x :: S' ∧ f x S' := by
  unfold zi1 at h; split at h
  · exact ⟨_, _, rfl, h⟩
  · exact h.elim
theorem zi2_inv {S : List Value} {f : Int32 → Int32 → List Value → Prop} (h : zi2 S f) : ∃ x y S', S = .int y :: .int x :: S' ∧ f x y S' := by
  unfold zi2 at h; split at h
  · exact ⟨_, _, _, rfl, h⟩
  · exact h.elim
theorem zl2_inv {S : List Value} {f : Int64 → Int64 → List Value → Prop} (h : zl2 S f) : ∃ x y S', S = .long y :: .long x :: S' ∧ f x y S' := by
  unfold zl2 at h; split at h
  · exact ⟨_, _, _, rfl, h⟩
  · exact h.elim
theorem zr1_inv {S : List Value} {f g : Nat → List Value → Prop} (h : zr1 S f g) : (∃ r S', S = .ref r :: S' ∧ f r S') ∨ ∃ x S', S = .float x :: S' ∧ g x.toNat S' := by
  unfold zr1 at h; split at h
  · exact Or.inl ⟨_, _, rfl, h⟩
  · exact Or.inr ⟨_, _, rfl, h⟩
  · exact h.elim
theorem zpop_inv {f : List Value → List Value → Prop} : ∀ (n : Nat) (a S : List Value), zpop n a S f → ∃ xs rest, xs.length = n ∧ S = xs.reverse ++ rest ∧ f (xs ++ a) rest
  | 0, a, S, h => ⟨[], S, rfl, rfl, h⟩
  | _ + 1, _, [], h => h.elim
  | n + 1, a, v :: S, h => by
    obtain ⟨xs, rest, h1, h2, h3⟩ := zpop_inv n (v :: a) S h
    refine ⟨xs ++ [v], rest, by simp [h1], by simp [h2], ?_⟩
    rw [List.append_assoc]
    exact h3
theorem zrep_lv {b : Nat} {ev : Nat → Value} : ∀ (n i : Nat) (q : Nat × Value), q ∉ zlv b ev i (zrep n)
  | 0, i, q => fun h => by cases h
  | n + 1, i, q => fun h => zrep_lv n (i + 1) q h
theorem zen_lv {b : Nat} {ev : Nat → Value} (hev : zev ev) : ∀ (a : List Value) (n i : Nat) (q : Nat × Value), q ∈ zlv b ev i (zen n a) → q ∈ lv_args i (a.map (zv b ev))
  | [], n, i, q, h => absurd h (zrep_lv n i q)
  | v :: a, 0, i, q, h => by cases h
  | v :: a, n + 1, i, q, h => by
    cases v with
    | long x =>
      have h : q ∈ (i, Value.long x) :: zlv b ev (i + 1 + 1) (zen (n - 1) a) := h
      rcases List.mem_cons.mp h with h | h
      · rw [h]; exact List.mem_cons_self
      · exact List.mem_cons_of_mem _ (zen_lv hev a (n - 1) (i + 2) q h)
    | double x =>
      have h : q ∈ (i, Value.double x) :: zlv b ev (i + 1 + 1) (zen (n - 1) a) := h
      rcases List.mem_cons.mp h with h | h
      · rw [h]; exact List.mem_cons_self
      · exact List.mem_cons_of_mem _ (zen_lv hev a (n - 1) (i + 2) q h)
    | retAddr x => exact List.mem_cons_of_mem _ (zen_lv hev a n (i + 1) q h)
    | float x =>
      have h : q ∈ (i, ev x.toNat) :: zlv b ev (i + 1) (zen n a) := h
      have hc : (ev x.toNat).category = 1 := by rcases hev x.toNat with h | ⟨t, h⟩ <;> (rw [h]; rfl)
      show q ∈ (i, ev x.toNat) :: lv_args (if (ev x.toNat).category = 2 then i + 2 else i + 1) (a.map (zv b ev))
      rw [if_neg (by omega)]
      rcases List.mem_cons.mp h with h | h
      · rw [h]; exact List.mem_cons_self
      · exact List.mem_cons_of_mem _ (zen_lv hev a n (i + 1) q h)
    | ref r =>
      have h : q ∈ (i, zrv b r) :: zlv b ev (i + 1) (zen n a) := h
      have hc : (zrv b r).category = 1 := by unfold zrv; split <;> rfl
      show q ∈ (i, zrv b r) :: lv_args (if (zrv b r).category = 2 then i + 2 else i + 1) (a.map (zv b ev))
      rw [if_neg (by omega)]
      rcases List.mem_cons.mp h with h | h
      · rw [h]; exact List.mem_cons_self
      · exact List.mem_cons_of_mem _ (zen_lv hev a n (i + 1) q h)
    | _ =>
      rcases List.mem_cons.mp h with h | h
      · rw [h]; exact List.mem_cons_self
      · exact List.mem_cons_of_mem _ (zen_lv hev a n (i + 1) q h)
theorem zas_sl {b : Nat} {ev : Nat → Value} (hev : zev ev) : ∀ a : List Value, (lg_sl (a.map (zv b ev))).length ≤ zas a
  | [] => Nat.le_refl _
  | v :: a => by
    have h := zas_sl (b := b) hev a
    have e : lg_sl ((v :: a).map (zv b ev)) = (if (zv b ev v).category = 2 then [Slot.val (zv b ev v), .second] else [Slot.val (zv b ev v)]) ++ lg_sl (a.map (zv b ev)) := rfl
    rw [e, List.length_append]
    cases v with
    | float x =>
      have hc : (ev x.toNat).category = 1 := by rcases hev x.toNat with h | ⟨t, h⟩ <;> (rw [h]; rfl)
      rw [if_neg (by show ¬ (ev x.toNat).category = 2; omega)]
      show 1 + _ ≤ 1 + zas a; omega
    | ref r =>
      have hc : (zrv b r).category = 1 := by unfold zrv; split <;> rfl
      rw [if_neg (by show ¬ (zrv b r).category = 2; omega)]
      show 1 + _ ≤ 1 + zas a; omega
    | long x => show 2 + _ ≤ 2 + zas a; omega
    | double x => show 2 + _ ≤ 2 + zas a; omega
    | _ => show 1 + _ ≤ 1 + zas a; omega
def zrm (d mc ms : Nat) : Room := { frames := d, cells := mc, slots := ms, locals := 40 * d }
/-- a method's contract over the machine, at depth d -/
def zCon (l : Launch) (dC : Nat → ClassId) (dI : Nat → Nat → Nat) (cI : ClassId) (cA : Nat → ClassId) (b : Nat) (ev : Nat → Value) (X : List Int32) (ML : List zMe) (d y : Nat) (a : List Value) (M : Mm) (v : Option Value) (M' : Mm) : Prop :=
  ∀ me, ML[y]? = some me → Met l me.1 (Cond.code me.1 me.2.1 me.2.2.1 me.2.2.2.1 :: zws) (zrm d me.2.2.2.2.1 me.2.2.2.2.2.1) (va_Pc (a.map (zv b ev)) (fun U => zRep dC dI cI cA b M U.heap ∧ zKx dC dI cI cA b ev X U)) (fun _ st o t => o = .returned (v.map (zv b ev)) ∧ zRep dC dI cI cA b M' t.heap ∧ st.heap.size ≤ t.heap.size ∧ ∀ q, q ≤ b → t.heap[q]? = st.heap[q]?) me.2.2.2.2.1 me.2.2.2.2.2.1 (fun q => b < q)
section ZCalls
variable {p : Program} {l : Launch} {e : Env} {R : Room} {s : State} {m : MethodId} {args : Array Value} {below : List Frame} {meth : Method} {c : Code} {H : Heap} {locs : List Loc} {cells slots : Nat} {Q : State → Prop} {cc : ByteArray} {pc : Nat} {ls : Array Slot} {rest st0 : List Value}
variable {dC : Nat → ClassId} {dI : Nat → Nat → Nat} {cI : ClassId} {cA : Nat → ClassId} {b : Nat} {M M' : Mm} {ev : Nat → Value} {X : List Int32} {v : Option Value} {mc ms : Nat}
theorem zcall (hr : va_Run p l e R s m args below meth c H locs cells slots mc ms (F0 m pc ls st0) rest (fun st o t => o = .returned (v.map (zv b ev)) ∧ zRep dC dI cI cA b M' t.heap ∧ st.heap.size ≤ t.heap.size ∧ ∀ q, q ≤ b → t.heap[q]? = st.heap[q]?) (fun q => b < q)) (hS : va_S (fun q => b < q) s.heap H locs)
    (kk : ∀ (H1 : Heap) (locs1 : List Loc), zRep dC dI cI cA b M' H1 → va_S (fun q => b < q) s.heap H1 locs1 → W p l e R s m args below meth c H1 locs1 (cells + mc) (slots + ms) Q (F0 m (pc + 3) ls ((v.map (zv b ev)).toList ++ rest))) : W p l e R s m args below meth c H locs cells slots Q (F0 m pc ls st0) := by
  intro T hT X
  obtain ⟨w, st₀, t, T', L, h0, X', hL, e1, e2, ⟨hv, hR1, hz, hk⟩, st⟩ := hr T hT X
  cases hv
  rw [h0] at hz hk
  obtain ⟨t2, a1, b1⟩ := kk T'.heap (locs ++ L) (by rw [e1]; exact hR1) ⟨Nat.le_trans hS.1 (by rw [e1]; exact hz), fun q h1 h2 => by rw [e1, hk q (Nat.le_of_not_lt h2)]; exact hS.2.1 q h1 h2, fun q hq => by
      rcases List.mem_append.mp hq with h | h
      · exact hS.2.2 q h
      · exact hL q h⟩ T' rfl X'
  exact ⟨t2, st t2 a1, b1⟩
theorem zKx_same {u U : State} (hvm : U.vm = u.vm) (hh : U.heap = u.heap) (h : zKx dC dI cI cA b ev X u) : zKx dC dI cI cA b ev X U := by
  obtain ⟨h1, h2, h3, h4, h5, h6, h7, h8, adK, adV, h9, h10⟩ := h
  have hv : u.vm.Alike U.vm := by rw [hvm]; exact Vm.Alike.refl _
  unfold zKx
  rw [hh]
  refine ⟨va_K.moved hv h1, zarr_moved hv h2, fun w hw => va_Nw.same ?_ hvm.symm (h3 w hw), fun ci hc => (h4 ci hc).moved hv, h5.moved hv, h6.moved hv, h7.moved hv, fun e he => ?_, adK, adV, h9.moved hv, fun i hi => ⟨(h10 i hi).1, (h10 i hi).2.1, (h10 i hi).2.2.same hvm⟩⟩
  · have h2 := (List.mem_filter.mp hw).2
    cases w <;> first | rfl | (simp [zisN] at h2)
  · obtain ⟨t, g1, g2⟩ := h8 e he
    exact ⟨t, g1, g2.moved hv⟩
theorem zpre (hS : va_S (fun q => b < q) s.heap H locs) (hR : zRep dC dI cI cA b M H) (hK : zKx dC dI cI cA b ev X s) (a : List Value) : PreS s H (va_Pc (a.map (zv b ev)) (fun U => zRep dC dI cI cA b M U.heap ∧ zKx dC dI cI cA b ev X U)) (a.map (zv b ev)) := by
  refine ⟨fun a U g mk q => ?_, fun U hU hW => ?_⟩
  · obtain ⟨q0, q1, q2⟩ := q
    exact ⟨q0, q1, zKx_same (u := U) (U := U.calling g mk a) rfl rfl q2⟩
  · exact ⟨rfl, by rw [hU]; exact hR, zKx_moved hW (fun q h1 h2 => by rw [hU]; exact hS.2.1 q h1 h2) hK⟩
end ZCalls
theorem zgood {y : MethodName} {bytes : ByteArray} {maxL : Nat} {ret : Option FieldType} (h : Cond.code y bytes maxL ret ∈ zws) : GoodIn zws (Cond.code y bytes maxL ret :: zws) := by
  intro w hw
  have : w ∈ zws := by
    rcases List.mem_cons.mp hw with h1 | h1
    · rw [h1]; exact h
    · exact h1
  exact ⟨this, good_of_word (List.mem_filter.mp this).2⟩
