/-! System.arraycopy over int arrays of the memory */ -/
section ZW3
variable {p : Program} {l : Launch} {e : Env} {R : Room} {s : State} {m : MethodId} {args : Array Value} {below : List Frame} {meth : Method} {c : Code} {H : Heap} {locs : List Loc} {cells slots : Nat} {Q : State → Prop} {cc : ByteArray} {pc : Nat} {ls : Array Slot} {rest : List Value}
variable {dC : Nat → ClassId} {dI : Nat → Nat → Nat} {cI : ClassId} {cA : Nat → ClassId} {b : Nat} {M : Mm}
theorem znn {z : Int32} (hz : ¬ z < 0) : z.toInt = (z.toNatClampNeg : Int) := by
  have hz0 : (0 : Int) ≤ z.toInt := by
    have := Int32.not_lt.mp hz
    simpa using Int32.le_iff_toInt_le.mp this
  show z.toInt = ((z.toInt.toNat : Nat) : Int)
  omega
theorem zw_copy (hx : p.tables.exec = Jvm.exec) (hb : c.code = cc) (hml : c.maxLocals = ls.size) {own : String} {index : Nat} (hown : s.vm.findClass own = some m.cls) (hlink : (Cond.methodLink own index arraycopyName).before args s = true) (hnat : (Cond.native arraycopyName).before args s = true) (hstat : (Cond.static arraycopyName).before args s = true) (hini : (Cond.initialized "java/lang/System").before args s = true)
    (hz : zarr cI cA s) (hR : zRep dC dI cI cA b M H) (hS : va_S (fun q => b < q) s.heap H locs) {r0 r1 : Nat} (hO0 : zO M r0 50) (hO1 : zO M r1 50)
    {sp dp n : Int32} (h1 : ¬ sp < 0) (h2 : ¬ dp < 0) (h3 : ¬ n < 0) (h4 : sp.toNatClampNeg + n.toNatClampNeg ≤ mL M r0) (h5 : dp.toNatClampNeg + n.toNatClampNeg ≤ mL M r1)
    (hframes : 1 ≤ R.frames) (hlocals : (rest.map fun v => v.category).sum + (nativeFrameWords "java/lang/System" "arraycopy" 5 + 11) ≤ R.locals) (hdg : decode cc pc = .ok (.invokestatic index, 3))
    (kk : ∀ (H1 : Heap) (locs1 : List Loc), zRep dC dI cI cA b (wC M r0 sp.toNatClampNeg r1 dp.toNatClampNeg n.toNatClampNeg) H1 → va_S (fun q => b < q) s.heap H1 locs1 → W p l e R s m args below meth c H1 locs1 cells slots Q (F0 m (pc + 3) ls rest)) : W p l e R s m args below meth c H locs cells slots Q (F0 m pc ls (.int n :: .int dp :: zrv b r1 :: .int sp :: zrv b r0 :: rest)) := by
  rw [zrv_ref hO0.1, zrv_ref hO1.1]
  intro T hT X
  have hc0 : H[b + r0]? = some (vp_cell cI (mL M r0, .inl (mI M r0))) := zcellI hR hO0
  have hc1 : H[b + r1]? = some (vp_cell cI (mL M r1, .inl (mI M r1))) := zcellI hR hO1
  obtain ⟨-, k0, hk0, cm0, hkk0⟩ := hz.1.1 (mL M r0) (fun j => .int (mI M r0 j))
  obtain ⟨-, k1, hk1, cm1, hkk1⟩ := hz.1.1 (mL M r1) (fun j => .int (mI M r1 j))
  obtain ⟨vm', X', step⟩ := X.arraycopy hx hown hlink hnat hstat hini (src := b + r0) (dst := b + r1) (cs := vp_cell cI (mL M r0, .inl (mI M r0))) (cd := vp_cell cI (mL M r1, .inl (mI M r1))) (srcPos := sp) (destPos := dp) (n := n) (by rw [hT]; exact hc0) (by rw [hT]; exact hc1)
    (fun _ h => by cases h) (fun _ h => by cases h) (fun h => by cases h) (fun h => by cases h) hk0 hk1 hkk0 hkk1 (by rfl) h1 h2 h3
    (by rw [znn h1, znn h3]; show ¬ _ > ((arrV cI (mL M r0) (fun j => .int (mI M r0 j))).slots.size : Int); rw [arrV_size]; omega)
    (by rw [znn h2, znn h3]; show ¬ _ > ((arrV cI (mL M r1) (fun j => .int (mI M r1 j))).slots.size : Int); rw [arrV_size]; omega)
    (fun vm₁ _ i hi => by
      have e : (vp_cell cI (mL M r0, .inl (mI M r0))).slots.getD (sp.toNatClampNeg + i) .null = .int (mI M r0 (sp.toNatClampNeg + i)) := by
        show (arrV cI (mL M r0) (fun j => .int (mI M r0 j))).slots.getD _ _ = _
        rw [Array.getD_eq_getD_getElem?, arrV_read _ _ (by omega)]
        rfl
      refine ⟨?_, ?_⟩
      · rw [e]
        rfl
      · rw [e]
        exact trivial)
    (g := F0 m pc ls (.int n :: .int dp :: .ref (b + r1) :: .int sp :: .ref (b + r0) :: rest)) rfl (by rw [hml]) (rest := rest) rfl (by rw [hb]; exact hdg) hframes (by show 2 * 0 + _ + _ ≤ _; omega)
  have e1 : copied (vp_cell cI (mL M r0, .inl (mI M r0))) (vp_cell cI (mL M r1, .inl (mI M r1))) sp dp n = vp_cell cI (mL M r1, .inl (va_cpy (mI M r0) (mI M r1) sp.toNatClampNeg dp.toNatClampNeg n.toNatClampNeg)) := va_copied (fun z => .int z) cI cI (mI M r0) (mI M r1) h4
  rw [e1] at X' step
  have hl : b + r1 < H.size := (Array.getElem?_eq_some_iff.mp hc1).1
  generalize hcl : vp_cell cI (mL M r1, .inl (va_cpy (mI M r0) (mI M r1) sp.toNatClampNeg dp.toNatClampNeg n.toNatClampNeg)) = cell at X' step
  have hheap : ((T.setVm vm').setCell (b + r1) cell).heap = H.setIfInBounds (b + r1) cell := by rw [← hT]; rfl
  have oq : ∀ q : Nat, q ≠ b + r1 → (H.setIfInBounds (b + r1) cell)[q]? = H[q]? := fun q hq => by simp [Array.getElem?_setIfInBounds, Ne.symm hq]
  have eq : (H.setIfInBounds (b + r1) cell)[b + r1]? = some cell := by simp [Array.getElem?_setIfInBounds, hl]
  have hba : b < b + r1 := by have := hO1.1; omega
  obtain ⟨t, a1, b1⟩ := kk _ _ (zRep_set hR (zag_wC M r0 sp.toNatClampNeg r1 dp.toNatClampNeg n.toNatClampNeg) (by simp) oq ⟨fun h => absurd (show mT M r1 < 13 from h) (by rw [hO1.2.2]; omega), fun _ => by
      rw [eq, ← hcl, vp_cell_i]
      show some (arrV cI (mL M r1) _) = some (arrV cI (mL M r1) _)
      congr 2
      funext j
      show _ = Value.int (if r1 = r1 then _ else _)
      rw [if_pos rfl]
      rfl, fun h => absurd (show 60 ≤ mT M r1 from h) (by rw [hO1.2.2]; omega)⟩) ⟨by simp; exact hS.1, fun q g1 g2 => by
      rw [oq q (fun e => g2 (by rw [e]; exact hba))]
      exact hS.2.1 q g1 g2, fun q hq => by
      rcases List.mem_append.mp hq with h | h
      · exact hS.2.2 q h
      · obtain ⟨z, -, hz⟩ := List.mem_map.mp h
        rw [← hz]
        exact hba⟩ _ hheap X'
  exact ⟨t, step t a1, b1⟩
end ZW3
/-! THE STRETCHES ARE MONOTONE IN THEIR TAIL -/
theorem zi1_mono {S : List Value} {f g : Int32 → List Value → Prop} (h : ∀ x S, f x S → g x S) (hf : zi1 S f) : zi1 S g := by
  unfold zi1 at hf ⊢; split at hf
  · exact h _ _ hf
  · exact hf.elim
theorem zi2_mono {S : List Value} {f g : Int32 → Int32 → List Value → Prop} (h : ∀ x y S, f x y S → g x y S) (hf : zi2 S f) : zi2 S g := by
  unfold zi2 at hf ⊢; split at hf
  · exact h _ _ _ hf
  · exact hf.elim
theorem zl2_mono {S : List Value} {f g : Int64 → Int64 → List Value → Prop} (h : ∀ x y S, f x y S → g x y S) (hf : zl2 S f) : zl2 S g := by
  unfold zl2 at hf ⊢; split at hf
  · exact h _ _ _ hf
  · exact hf.elim
theorem zr1_mono {S : List Value} {f g f' g' : Nat → List Value → Prop} (h : ∀ x S, f x S → g x S) (h' : ∀ x S, f' x S → g' x S) (hf : zr1 S f f') : zr1 S g g' := by
  unfold zr1 at hf ⊢; split at hf
  · exact h _ _ hf
  · exact h' _ _ hf
  · exact hf.elim
theorem zpop_mono {f g : List Value → List Value → Prop} (h : ∀ a S, f a S → g a S) : ∀ (n : Nat) (a S : List Value), zpop n a S f → zpop n a S g
  | 0, a, S, hf => h a S hf
  | _ + 1, _, [], hf => hf
  | n + 1, a, v :: S, hf => zpop_mono h n (v :: a) S hf
theorem zsw_mono {x : Int32} {f g : Nat → Prop} (h : ∀ t, f t → g t) : ∀ (l : List (Int32 × Nat)) (d : Nat), zsw x l d f → zsw x l d g
  | [], d, hf => h d hf
  | (k, t) :: l, d, hf => by
    unfold zsw at hf ⊢
    split at hf
    · rename_i hk; rw [if_pos hk]; exact h _ hf
    · rename_i hk; rw [if_neg hk]; exact zsw_mono h l d hf
set_option maxHeartbeats 4000000 in
theorem zw_mono {X : List Int32} {C : Nat → List Value → Mm → Option Value → Mm → Prop} {cd : List zEn} {mc ms : Nat} {T T' : List zEn → List Value → List Value → Nat → Nat → Mm → zQt → Prop} {Q : zQt} (hT : ∀ cs L S uc us M, T cs L S uc us M Q → T' cs L S uc us M Q) : ∀ (n : Nat) (cs : List zEn) (L S : List Value) (uc us : Nat) (M : Mm), zw X C cd mc ms T n cs L S uc us M Q → zw X C cd mc ms T' n cs L S uc us M Q := by
  intro n
  induction n with
  | zero => intro cs L S uc us M h; exact hT _ _ _ _ _ _ h
  | succ n ih =>
    intro cs L S uc us M h
    cases cs with
    | nil => exact h
    | cons en cs =>
      obtain ⟨pc, ins, len, r1, r2, aux, k⟩ := en
      cases ins with
      | nop => exact hT _ _ _ _ _ _ h
      | ldc _ => cases r1 <;> exact ih _ _ _ _ _ _ h
      | iload_n _ => cases hz : zLo L r1 <;> simp only [zw, hz] at h ⊢ <;> first | exact h.elim | exact ih _ _ _ _ _ _ h
      | iload _ => cases hz : zLo L r1 <;> simp only [zw, hz] at h ⊢ <;> first | exact h.elim | exact ih _ _ _ _ _ _ h
      | lload_n _ => cases hz : zLo L r1 <;> simp only [zw, hz] at h ⊢ <;> first | exact h.elim | exact ih _ _ _ _ _ _ h
      | lload _ => cases hz : zLo L r1 <;> simp only [zw, hz] at h ⊢ <;> first | exact h.elim | exact ih _ _ _ _ _ _ h
      | aload_n _ => cases hz : zLo L r1 <;> simp only [zw, hz] at h ⊢ <;> first | exact h.elim | exact ih _ _ _ _ _ _ h
      | aload _ => cases hz : zLo L r1 <;> simp only [zw, hz] at h ⊢ <;> first | exact h.elim | exact ih _ _ _ _ _ _ h
      | iinc _ _ => cases hz : zLo L r1 <;> simp only [zw, hz] at h ⊢ <;> first | exact h.elim | exact ih _ _ _ _ _ _ h
      | astore_n _ => simp only [zw] at h ⊢; exact zr1_mono (fun _ _ h => ih _ _ _ _ _ _ h) (fun _ _ h => h) h
      | astore _ => simp only [zw] at h ⊢; exact zr1_mono (fun _ _ h => ih _ _ _ _ _ _ h) (fun _ _ h => h) h
      | dup => cases S with
        | nil => exact h
        | cons v S => exact ⟨h.1, ih _ _ _ _ _ _ h.2⟩
      | pop => cases S with
        | nil => exact h
        | cons v S => exact ⟨h.1, ih _ _ _ _ _ _ h.2⟩
      | dup2 => cases S with
        | nil => exact h
        | cons v S => cases S with
          | nil => exact h
          | cons w S => exact ⟨h.1, ih _ _ _ _ _ _ h.2⟩
      | if_icmp c _ =>
        refine zi2_mono (fun x y S h => ?_) h
        cases c <;> dsimp only at h ⊢ <;> split at h <;> rename_i hc <;> first | (rw [if_pos hc]; exact ih _ _ _ _ _ _ h) | (rw [if_neg hc]; exact ih _ _ _ _ _ _ h)
      | ifCond c _ =>
        refine zi1_mono (fun x S h => ?_) h
        cases c <;> dsimp only at h ⊢ <;> split at h <;> rename_i hc <;> first | (rw [if_pos hc]; exact ih _ _ _ _ _ _ h) | (rw [if_neg hc]; exact ih _ _ _ _ _ _ h)
      | ifnonnull _ =>
        simp only [zw] at h ⊢
        refine zr1_mono (fun x S h => ?_) (fun _ _ h => h) h
        split at h <;> rename_i hc <;> first | (rw [if_pos hc]; exact ih _ _ _ _ _ _ h) | (rw [if_neg hc]; exact ih _ _ _ _ _ _ h)
      | tableswitch _ _ _ _ => exact zi1_mono (fun x S h => zsw_mono (fun t h => ih _ _ _ _ _ _ h) _ _ h) h
      | lookupswitch _ _ => exact zi1_mono (fun x S h => zsw_mono (fun t h => ih _ _ _ _ _ _ h) _ _ h) h
      | getfield _ =>
        simp only [zw] at h ⊢
        refine zr1_mono (fun r S h => ⟨h.1, ?_⟩) (fun e S h => ⟨h.1, h.2.1, ?_⟩) h
        · have h := h.2
          cases hk : zkd aux with
          | zero => simp only [hk] at h ⊢; exact ih _ _ _ _ _ _ h
          | succ q => cases q <;> simp only [hk] at h ⊢ <;> exact ih _ _ _ _ _ _ h
        · have h := h.2.2
          cases r2 <;> exact ih _ _ _ _ _ _ h
      | getstatic _ => cases r1 with
        | zero => exact ih _ _ _ _ _ _ h
        | succ q => cases q <;> exact ih _ _ _ _ _ _ h
      | putfield _ =>
        cases hk : zkd aux with
        | zero => simp only [zw, hk] at h ⊢; exact zi1_mono (fun x S h => zr1_mono (fun r S h => ⟨h.1, ih _ _ _ _ _ _ h.2⟩) (fun _ _ h => h) h) h
        | succ q => cases q with
          | zero => simp only [zw, hk] at h ⊢; exact zi1_mono (fun x S h => zr1_mono (fun r S h => ⟨h.1, h.2.1, ih _ _ _ _ _ _ h.2.2⟩) (fun _ _ h => h) h) h
          | succ q => simp only [zw, hk] at h ⊢; exact zr1_mono (fun x S h => zr1_mono (fun r S h => ⟨h.1, ih _ _ _ _ _ _ h.2⟩) (fun _ _ h => h) h) (fun _ _ h => h) h
      | newarray _ => exact zi1_mono (fun x S h => ⟨h.1, ih _ _ _ _ _ _ h.2⟩) h
      | anewarray _ => exact zi1_mono (fun x S h => ⟨h.1, ih _ _ _ _ _ _ h.2⟩) h
      | new _ => exact ⟨h.1, ih _ _ _ _ _ _ h.2⟩
      | iaload => simp only [zw] at h ⊢; exact zi1_mono (fun x S h => zr1_mono (fun r S h => ⟨h.1, h.2.1, ih _ _ _ _ _ _ h.2.2⟩) (fun r S h => ⟨h.1, h.2.1, ih _ _ _ _ _ _ h.2.2⟩) h) h
      | baload => simp only [zw] at h ⊢; exact zi1_mono (fun x S h => zr1_mono (fun _ _ h => h) (fun r S h => ⟨h.1, h.2.1, ih _ _ _ _ _ _ h.2.2⟩) h) h
      | aaload => simp only [zw] at h ⊢; exact zi1_mono (fun x S h => zr1_mono (fun r S h => ⟨h.1, h.2.1, ih _ _ _ _ _ _ h.2.2⟩) (fun _ _ h => h) h) h
      | iastore => simp only [zw] at h ⊢; exact zi2_mono (fun x y S h => zr1_mono (fun r S h => ⟨h.1, h.2.1, ih _ _ _ _ _ _ h.2.2⟩) (fun _ _ h => h) h) h
      | aastore => simp only [zw] at h ⊢; exact zr1_mono (fun v S h => zi1_mono (fun i S h => zr1_mono (fun r S h => ⟨h.1, h.2.1, h.2.2.1, ih _ _ _ _ _ _ h.2.2.2⟩) (fun _ _ h => h) h) h) (fun _ _ h => h) h
      | arraylength => simp only [zw] at h ⊢; exact zr1_mono (fun r S h => ⟨h.1, ih _ _ _ _ _ _ h.2⟩) (fun r S h => ⟨h.1, ih _ _ _ _ _ _ h.2⟩) h
      | invokespecial _ =>
        match aux, h with
        | [], h => simp only [zw] at h ⊢; exact zr1_mono (fun r S h => ⟨h.1, h.2.1, ih _ _ _ _ _ _ h.2.2⟩) (fun _ _ h => h) h
        | [_], h => exact h
        | [_, _], h => exact h
        | (_, rk) :: (_, ac) :: (_, as) :: _, h =>
          refine zpop_mono (fun a S h => ⟨h.1, h.2.1, ?_⟩) _ _ _ h
          have h := h.2.2
          match rk, h with
          | 0, ⟨M', h1, h2⟩ => exact ⟨M', h1, ih _ _ _ _ _ _ h2⟩
          | 1, ⟨x, M', h1, h2⟩ => exact ⟨x, M', h1, ih _ _ _ _ _ _ h2⟩
          | _ + 2, ⟨x, M', h1, h2⟩ => exact ⟨x, M', h1, ih _ _ _ _ _ _ h2⟩
      | invokevirtual _ =>
        match aux, h with
        | [], h => exact h
        | [_], h => exact h
        | [_, _], h => exact h
        | [_, _, _], h => exact h
        | (_, rk) :: (_, ac) :: (_, as) :: (_, ci) :: _, h =>
          refine zpop_mono (fun a S h => ⟨h.1, h.2.1, ?_⟩) _ _ _ h
          have h := h.2.2
          match rk, h with
          | 0, ⟨M', h1, h2⟩ => exact ⟨M', h1, ih _ _ _ _ _ _ h2⟩
          | 1, ⟨x, M', h1, h2⟩ => exact ⟨x, M', h1, ih _ _ _ _ _ _ h2⟩
          | _ + 2, ⟨x, M', h1, h2⟩ => exact ⟨x, M', h1, ih _ _ _ _ _ _ h2⟩
      | invokestatic _ =>
        match aux, h with
        | [], h =>
          simp only [zw] at h ⊢
          split at h
          · exact ⟨h.1, ih _ _ _ _ _ _ h.2⟩
          · exact h.elim
        | [_], h => exact h
        | [_, _], h => exact h
        | (_, rk) :: (_, ac) :: (_, as) :: _, h =>
          refine zpop_mono (fun a S h => ⟨h.1, ?_⟩) _ _ _ h
          have h := h.2
          match rk, h with
          | 0, ⟨M', h1, h2⟩ => exact ⟨M', h1, ih _ _ _ _ _ _ h2⟩
          | 1, ⟨x, M', h1, h2⟩ => exact ⟨x, M', h1, ih _ _ _ _ _ _ h2⟩
          | _ + 2, ⟨x, M', h1, h2⟩ => exact ⟨x, M', h1, ih _ _ _ _ _ _ h2⟩
      | ireturn => exact h
      | areturn => exact h
      | return_ => exact h
      | _ =>
        first
          | exact h.elim
          | exact ih _ _ _ _ _ _ h
          | exact zi2_mono (fun _ _ _ h => ih _ _ _ _ _ _ h) h
          | exact zi1_mono (fun _ _ h => ih _ _ _ _ _ _ h) h
          | exact zl2_mono (fun _ _ _ h => ih _ _ _ _ _ _ h) h
          | exact zi2_mono (fun _ _ _ h => ⟨h.1, ih _ _ _ _ _ _ h.2⟩) h
theorem zgo_in {X : List Int32} {C : Nat → List Value → Mm → Option Value → Mm → Prop} {cd : List zEn} {mc ms : Nat} (n : Nat) {cs : List zEn} {L S : List Value} {uc us : Nat} {M : Mm} {Q : zQt} (h : zw X C cd mc ms (zgo X C cd mc ms) n cs L S uc us M Q) : zgo X C cd mc ms cs L S uc us M Q :=
  fun T hT => hT n _ _ _ _ _ _ (zw_mono (fun _ _ _ _ _ _ h => h T hT) n _ _ _ _ _ _ h)
