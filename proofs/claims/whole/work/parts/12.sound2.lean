/-! SOUNDNESS: a stretch of the abstract machine is one of the machine's */ -/
/-- the machine comes to its end from here, whatever heap holds the memory -/
def zTW (p : Program) (l : Launch) (e : Env) (R : Room) (s : State) (m : MethodId) (args : Array Value) (below : List Frame) (meth : Method) (c : Code) (Z : State → Prop) (nL : Nat) (cd : List zEn) (mc ms : Nat) (dC : Nat → ClassId) (dI : Nat → Nat → Nat) (cI : ClassId) (cA : Nat → ClassId) (b : Nat) (ev : Nat → Value) (cs : List zEn) (L S : List Value) (uc us : Nat) (M : Mm) (_ : zQt) : Prop :=
  ∀ (H : Heap) (locs : List Loc) (ls : Array Slot) (pc : Nat), zon cd cs pc → zRep dC dI cI cA b M H → va_S (fun q => b < q) s.heap H locs → lv_has ls nL (zlv b ev 0 L) → (znl L || zns cd) = true → uc ≤ mc → us ≤ ms → W p l e R s m args below meth c H locs uc us Z (F0 m pc ls (S.map (zv b ev)))
set_option maxHeartbeats 8000000 in
theorem zsound {p : Program} {l : Launch} {e : Env} {R : Room} {s : State} {m : MethodId} {args : Array Value} {below : List Frame} {meth : Method} {c : Code} {Z : State → Prop} {cc : ByteArray} {own mn : String} {nL : Nat} {rt : Option FieldType} {cd : List zEn} {ML : List zMe} {mc ms d : Nat} {dC : Nat → ClassId} {dI : Nat → Nat → Nat} {cI : ClassId} {cA : Nat → ClassId} {b : Nat} {ev : Nat → Value} {X : List Int32} {Q : zQt} {C : Nat → List Value → Mm → Option Value → Mm → Prop}
    (hx : p.tables.exec = Jvm.exec) (hb : c.code = cc) (hml : c.maxLocals = nL) (hown : s.vm.findClass own = some m.cls) (hts : ∀ w ∈ zws, w.before args s = true) (hmn : meth.name = mn) (hK : zKx dC dI cI cA b ev X s) (hev : zev ev) (hcd : zcode own mn cc nL rt ML cd = true) (hRc : R.cells = mc) (hRs : R.slots = ms) (hRf : d + 1 ≤ R.frames) (hRl : 40 * d + 40 ≤ R.locals) (hMp : ∀ me ∈ ML, me.2.2.1 ≤ 20)
    (hC : ∀ y a M v M', C y a M v M' → zCon l dC dI cI cA b ev X ML d y a M v M')
    (hri : ∀ (x : Int32) (M' : Mm) (H : Heap) (locs : List Loc) (ls : Array Slot) (pc uc us : Nat), Q (some (.int x)) M' → zRep dC dI cI cA b M' H → va_S (fun q => b < q) s.heap H locs → uc ≤ mc → us ≤ ms → decode cc pc = .ok (.ireturn, 1) → (∃ ty, rt = some ty ∧ narrow ty (.int x) = .int x) → W p l e R s m args below meth c H locs uc us Z (F0 m pc ls [.int x]))
    (hra : ∀ (x : Nat) (M' : Mm) (H : Heap) (locs : List Loc) (ls : Array Slot) (pc uc us : Nat), Q (some (.ref x)) M' → zRep dC dI cI cA b M' H → va_S (fun q => b < q) s.heap H locs → uc ≤ mc → us ≤ ms → decode cc pc = .ok (.areturn, 1) → ((∃ n, rt = some (.object n)) ∨ ∃ t, rt = some (.array t)) → W p l e R s m args below meth c H locs uc us Z (F0 m pc ls [zrv b x]))
    (hrv : ∀ (M' : Mm) (H : Heap) (locs : List Loc) (ls : Array Slot) (pc uc us : Nat), Q none M' → zRep dC dI cI cA b M' H → va_S (fun q => b < q) s.heap H locs → uc ≤ mc → us ≤ ms → decode cc pc = .ok (.return_, 1) → rt = none → W p l e R s m args below meth c H locs uc us Z (F0 m pc ls [])) :
    ∀ (n : Nat) (cs : List zEn) (L S : List Value) (uc us : Nat) (M : Mm), zw X C cd mc ms (zTW p l e R s m args below meth c Z nL cd mc ms dC dI cI cA b ev) n cs L S uc us M Q → zTW p l e R s m args below meth c Z nL cd mc ms dC dI cI cA b ev cs L S uc us M Q := by
  have hcd' := hcd
  unfold zcode at hcd
  rw [Bool.and_eq_true, Bool.and_eq_true] at hcd
  obtain ⟨⟨hall, hch⟩, -⟩ := hcd
  obtain ⟨hK1, hK2, hK3, hK4, hK5, hK6, hK7, hK8, adK, adV, hK9, hK10⟩ := id hK
  intro n
  induction n with
  | zero => intro cs L S uc us M h; exact h
  | succ n ih =>
    intro cs L S uc us M h
    cases cs with
    | nil => exact h.elim
    | cons en cs =>
      obtain ⟨pc0, ins, len, r1, r2, aux, k⟩ := en
      intro H locs ls pc hon hR hS hl hnl huc hus
      have hpc : pc0 = pc := hon.2
      subst hpc
      have hmem : (pc0, ins, len, r1, r2, aux, k) ∈ cd := by obtain ⟨⟨i, hi⟩, -⟩ := hon; exact zj_mem _ _ _ _ hi
      have hck := List.all_eq_true.mp hall _ hmem
      have hnx : zon cd cs (pc0 + len) := zon_next hch hon
      clear hon
      cases ins with
      | nop =>
        simp only [zck, zck2, Bool.and_eq_true, decide_eq_true_eq] at hck
        obtain ⟨-, rfl⟩ := hck
        exact h _ _ _ _ hnx hR hS hl hnl huc hus
      | iconst i =>
        simp only [zck, zck2, Bool.and_eq_true, decide_eq_true_eq] at hck
        obtain ⟨hd, rfl, hk⟩ := hck
        exact lv_iconst hx hb hd hk (ih _ _ _ _ _ _ h _ _ _ _ hnx hR hS hl hnl huc hus)
      | bipush i =>
        simp only [zck, zck2, Bool.and_eq_true, decide_eq_true_eq] at hck
        obtain ⟨hd, rfl, hk⟩ := hck
        exact lv_bipush hx hb hd hk (ih _ _ _ _ _ _ h _ _ _ _ hnx hR hS hl hnl huc hus)
      | sipush i =>
        simp only [zck, zck2, Bool.and_eq_true, decide_eq_true_eq] at hck
        obtain ⟨hd, rfl, hk⟩ := hck
        exact lv_sipush hx hb hd hk (ih _ _ _ _ _ _ h _ _ _ _ hnx hR hS hl hnl huc hus)
      | lconst i =>
        simp only [zck, zck2, Bool.and_eq_true, decide_eq_true_eq] at hck
        obtain ⟨hd, rfl, hk⟩ := hck
        exact lv_lconst hx hb hd hk (ih _ _ _ _ _ _ h _ _ _ _ hnx hR hS hl hnl huc hus)
      | ldc i =>
        cases r1 with
        | zero =>
          simp only [zck, zck2, Bool.and_eq_true, decide_eq_true_eq] at hck
          obtain ⟨hd, rfl, hk⟩ := hck
          exact lv_ldc hx hb hown (hts _ (zat_in hk)) hd (ih _ _ _ _ _ _ h _ _ _ _ hnx hR hS hl hnl huc hus)
        | succ t =>
          simp only [zck, zck2, Bool.and_eq_true, decide_eq_true_eq] at hck
          obtain ⟨hd, rfl, ⟨h6, ho⟩, hi⟩ := hck
          obtain ⟨g1, g2, g3⟩ := hK10 t h6
          rw [ho, hi] at g3
          refine va_ldcS hx hb hown g3 hd ?_
          have := ih _ _ _ _ _ _ h _ _ _ _ hnx hR hS hl hnl huc hus
          have e9 : zv b ev (.float (UInt32.ofNat (10 + t))) = .ref (adK t) := by show ev (UInt32.ofNat (10 + t)).toNat = _; rw [zu32 (by omega)]; exact g1
          rw [List.map_cons, e9] at this
          exact this
      | ldc_w i =>
        simp only [zck, zck2, Bool.and_eq_true, decide_eq_true_eq] at hck
        obtain ⟨hd, rfl, hk⟩ := hck
        exact lv_ldcw hx hb hown (hts _ (zat_in hk)) hd (ih _ _ _ _ _ _ h _ _ _ _ hnx hR hS hl hnl huc hus)
      | ldc2_w i =>
        simp only [zck, zck2, Bool.and_eq_true, decide_eq_true_eq] at hck
        obtain ⟨hd, rfl, hk⟩ := hck
        exact lv_ldc2 hx hb hown (hts _ (zat_in hk)) hd (ih _ _ _ _ _ _ h _ _ _ _ hnx hR hS hl hnl huc hus)
      | iload_n i =>
        simp only [zck, zck2, Bool.and_eq_true, decide_eq_true_eq] at hck
        obtain ⟨hd, rfl, hi⟩ := hck
        cases hz : zLo L r1 <;> simp only [zw, hz] at h <;> first | exact h.elim | skip
        exact lv_iload_n hx hb hd hi (zlo_at hl hz (fun _ q => by cases q)) (ih _ _ _ _ _ _ h _ _ _ _ hnx hR hS hl hnl huc hus)
      | iload i =>
        simp only [zck, zck2, Bool.and_eq_true, decide_eq_true_eq] at hck
        obtain ⟨hd, rfl, rfl⟩ := hck
        cases hz : zLo L i <;> simp only [zw, hz] at h <;> first | exact h.elim | skip
        exact lv_iload hx hb hd (zlo_at hl hz (fun _ q => by cases q)) (ih _ _ _ _ _ _ h _ _ _ _ hnx hR hS hl hnl huc hus)
      | lload_n i =>
        simp only [zck, zck2, Bool.and_eq_true, decide_eq_true_eq] at hck
        obtain ⟨hd, rfl, hi⟩ := hck
        cases hz : zLo L r1 <;> simp only [zw, hz] at h <;> first | exact h.elim | skip
        exact lv_lload_n hx hb hd hi (zlo_at hl hz (fun _ q => by cases q)) (ih _ _ _ _ _ _ h _ _ _ _ hnx hR hS hl hnl huc hus)
      | lload i =>
        simp only [zck, zck2, Bool.and_eq_true, decide_eq_true_eq] at hck
        obtain ⟨hd, rfl, rfl⟩ := hck
        cases hz : zLo L i <;> simp only [zw, hz] at h <;> first | exact h.elim | skip
        exact lv_lload hx hb hd (zlo_at hl hz (fun _ q => by cases q)) (ih _ _ _ _ _ _ h _ _ _ _ hnx hR hS hl hnl huc hus)
      | aload_n i =>
        simp only [zck, zck2, Bool.and_eq_true, decide_eq_true_eq] at hck
        obtain ⟨hd, rfl, hi⟩ := hck
        cases hz : zLo L r1 with
        | ref x => simp only [zw, hz] at h; exact zw_aload_n hx hb (zrv_nr b x) hd hi (zlo_at hl hz (fun _ q => by cases q)) (ih _ _ _ _ _ _ h _ _ _ _ hnx hR hS hl hnl huc hus)
        | float x => simp only [zw, hz] at h; exact zw_aload_n hx hb (hev x.toNat) hd hi (zlo_at hl hz (fun _ q => by cases q)) (ih _ _ _ _ _ _ h _ _ _ _ hnx hR hS hl hnl huc hus)
        | _ => simp only [zw, hz] at h
      | aload i =>
        simp only [zck, zck2, Bool.and_eq_true, decide_eq_true_eq] at hck
        obtain ⟨hd, rfl, rfl⟩ := hck
        cases hz : zLo L i with
        | ref x => simp only [zw, hz] at h; exact zw_aload hx hb (zrv_nr b x) hd (zlo_at hl hz (fun _ q => by cases q)) (ih _ _ _ _ _ _ h _ _ _ _ hnx hR hS hl hnl huc hus)
        | float x => simp only [zw, hz] at h; exact zw_aload hx hb (hev x.toNat) hd (zlo_at hl hz (fun _ q => by cases q)) (ih _ _ _ _ _ _ h _ _ _ _ hnx hR hS hl hnl huc hus)
        | _ => simp only [zw, hz] at h
      | istore_n i =>
        simp only [zck, zck2, Bool.and_eq_true, decide_eq_true_eq] at hck
        obtain ⟨hd, ⟨rfl, hi⟩, hlt⟩ := hck
        obtain ⟨x, S, rfl, h⟩ := zi1_inv h
        have hz := zns_no hmem rfl hnl
        exact lv_istore_n hx hb hd hi hl hlt rfl (fun ls hl => ih _ _ _ _ _ _ h _ _ _ _ hnx hR hS (zst_has (v := .int x) hev hz hl) (by rw [znl_set _ _ _ hz rfl]; rfl) huc hus)
      | istore i =>
        simp only [zck, zck2, Bool.and_eq_true, decide_eq_true_eq] at hck
        obtain ⟨hd, ⟨rfl, rfl⟩, hlt⟩ := hck
        obtain ⟨x, S, rfl, h⟩ := zi1_inv h
        have hz := zns_no hmem rfl hnl
        exact lv_istore hx hb hd hl hlt rfl (fun ls hl => ih _ _ _ _ _ _ h _ _ _ _ hnx hR hS (zst_has (v := .int x) hev hz hl) (by rw [znl_set _ _ _ hz rfl]; rfl) huc hus)
      | astore_n i =>
        simp only [zck, zck2, Bool.and_eq_true, decide_eq_true_eq] at hck
        obtain ⟨hd, ⟨rfl, hi⟩, hlt⟩ := hck
        simp only [zw] at h
        rcases zr1_inv h with ⟨x, S, rfl, h⟩ | ⟨x, S, rfl, h⟩
        · have hz := zns_no hmem rfl hnl
          exact zw_astore_n hx hb (zrv_nr b x) hd hi hl hlt (fun ls hl => ih _ _ _ _ _ _ h _ _ _ _ hnx hR hS (zst_has (v := .ref x) hev hz hl) (by rw [znl_set _ _ _ hz rfl]; rfl) huc hus)
        · exact h.elim
      | astore i =>
        simp only [zck, zck2, Bool.and_eq_true, decide_eq_true_eq] at hck
        obtain ⟨hd, ⟨rfl, rfl⟩, hlt⟩ := hck
        simp only [zw] at h
        rcases zr1_inv h with ⟨x, S, rfl, h⟩ | ⟨x, S, rfl, h⟩
        · have hz := zns_no hmem rfl hnl
          exact zw_astore hx hb (zrv_nr b x) hd hl hlt (fun ls hl => ih _ _ _ _ _ _ h _ _ _ _ hnx hR hS (zst_has (v := .ref x) hev hz hl) (by rw [znl_set _ _ _ hz rfl]; rfl) huc hus)
        · exact h.elim
      | iinc i a =>
        simp only [zck, zck2, Bool.and_eq_true, decide_eq_true_eq] at hck
        obtain ⟨hd, ⟨⟨rfl, rfl⟩, hlt⟩, hk⟩ := hck
        cases hz : zLo L i <;> simp only [zw, hz] at h <;> first | exact h.elim | skip
        rename_i x
        have hz2 := zns_no hmem rfl hnl
        have hin := zlv_in (b := b) (ev := ev) L 0 i _ hz (fun _ q => by cases q)
        rw [Nat.zero_add] at hin
        obtain ⟨j, hj⟩ := List.getElem?_of_mem hin
        exact lv_iinc hx hb hd hl hj (by rw [hk]) hlt rfl (fun ls hl => ih _ _ _ _ _ _ h _ _ _ _ hnx hR hS (zst_has (v := .int (x + k)) hev hz2 hl) (by rw [znl_set _ _ _ hz2 rfl]; rfl) huc hus)
      | iadd => simp only [zck, zck2, Bool.and_eq_true, decide_eq_true_eq] at hck; obtain ⟨hd, rfl⟩ := hck; obtain ⟨x, y, S, rfl, h⟩ := zi2_inv h; exact lv_iadd hx hb hd (ih _ _ _ _ _ _ h _ _ _ _ hnx hR hS hl hnl huc hus)
      | isub => simp only [zck, zck2, Bool.and_eq_true, decide_eq_true_eq] at hck; obtain ⟨hd, rfl⟩ := hck; obtain ⟨x, y, S, rfl, h⟩ := zi2_inv h; exact lv_isub hx hb hd (ih _ _ _ _ _ _ h _ _ _ _ hnx hR hS hl hnl huc hus)
      | imul => simp only [zck, zck2, Bool.and_eq_true, decide_eq_true_eq] at hck; obtain ⟨hd, rfl⟩ := hck; obtain ⟨x, y, S, rfl, h⟩ := zi2_inv h; exact lv_imul hx hb hd (ih _ _ _ _ _ _ h _ _ _ _ hnx hR hS hl hnl huc hus)
      | iand => simp only [zck, zck2, Bool.and_eq_true, decide_eq_true_eq] at hck; obtain ⟨hd, rfl⟩ := hck; obtain ⟨x, y, S, rfl, h⟩ := zi2_inv h; exact lv_iand hx hb hd (ih _ _ _ _ _ _ h _ _ _ _ hnx hR hS hl hnl huc hus)
      | ior => simp only [zck, zck2, Bool.and_eq_true, decide_eq_true_eq] at hck; obtain ⟨hd, rfl⟩ := hck; obtain ⟨x, y, S, rfl, h⟩ := zi2_inv h; exact lv_ior hx hb hd (ih _ _ _ _ _ _ h _ _ _ _ hnx hR hS hl hnl huc hus)
      | ixor => simp only [zck, zck2, Bool.and_eq_true, decide_eq_true_eq] at hck; obtain ⟨hd, rfl⟩ := hck; obtain ⟨x, y, S, rfl, h⟩ := zi2_inv h; exact lv_ixor hx hb hd (ih _ _ _ _ _ _ h _ _ _ _ hnx hR hS hl hnl huc hus)
      | ishl => simp only [zck, zck2, Bool.and_eq_true, decide_eq_true_eq] at hck; obtain ⟨hd, rfl⟩ := hck; obtain ⟨x, y, S, rfl, h⟩ := zi2_inv h; exact lv_ishl hx hb hd (ih _ _ _ _ _ _ h _ _ _ _ hnx hR hS hl hnl huc hus)
      | ishr => simp only [zck, zck2, Bool.and_eq_true, decide_eq_true_eq] at hck; obtain ⟨hd, rfl⟩ := hck; obtain ⟨x, y, S, rfl, h⟩ := zi2_inv h; exact lv_ishr hx hb hd (ih _ _ _ _ _ _ h _ _ _ _ hnx hR hS hl hnl huc hus)
      | iushr => simp only [zck, zck2, Bool.and_eq_true, decide_eq_true_eq] at hck; obtain ⟨hd, rfl⟩ := hck; obtain ⟨x, y, S, rfl, h⟩ := zi2_inv h; exact lv_iushr hx hb hd rfl (ih _ _ _ _ _ _ h _ _ _ _ hnx hR hS hl hnl huc hus)
      | idiv => simp only [zck, zck2, Bool.and_eq_true, decide_eq_true_eq] at hck; obtain ⟨hd, rfl⟩ := hck; obtain ⟨x, y, S, rfl, h0, h⟩ := zi2_inv h; exact lv_idiv hx hb hd h0 (ih _ _ _ _ _ _ h _ _ _ _ hnx hR hS hl hnl huc hus)
      | irem => simp only [zck, zck2, Bool.and_eq_true, decide_eq_true_eq] at hck; obtain ⟨hd, rfl⟩ := hck; obtain ⟨x, y, S, rfl, h0, h⟩ := zi2_inv h; exact lv_irem hx hb hd h0 (ih _ _ _ _ _ _ h _ _ _ _ hnx hR hS hl hnl huc hus)
      | ineg => simp only [zck, zck2, Bool.and_eq_true, decide_eq_true_eq] at hck; obtain ⟨hd, rfl⟩ := hck; obtain ⟨x, S, rfl, h⟩ := zi1_inv h; exact lv_ineg hx hb hd (ih _ _ _ _ _ _ h _ _ _ _ hnx hR hS hl hnl huc hus)
      | i2s => simp only [zck, zck2, Bool.and_eq_true, decide_eq_true_eq] at hck; obtain ⟨hd, rfl⟩ := hck; obtain ⟨x, S, rfl, h⟩ := zi1_inv h; exact lv_i2s hx hb hd rfl (ih _ _ _ _ _ _ h _ _ _ _ hnx hR hS hl hnl huc hus)
      | i2c => simp only [zck, zck2, Bool.and_eq_true, decide_eq_true_eq] at hck; obtain ⟨hd, rfl⟩ := hck; obtain ⟨x, S, rfl, h⟩ := zi1_inv h; exact lv_i2c hx hb hd rfl (ih _ _ _ _ _ _ h _ _ _ _ hnx hR hS hl hnl huc hus)
      | i2b => simp only [zck, zck2, Bool.and_eq_true, decide_eq_true_eq] at hck; obtain ⟨hd, rfl⟩ := hck; obtain ⟨x, S, rfl, h⟩ := zi1_inv h; exact lv_i2b hx hb hd rfl (ih _ _ _ _ _ _ h _ _ _ _ hnx hR hS hl hnl huc hus)
      | i2l => simp only [zck, zck2, Bool.and_eq_true, decide_eq_true_eq] at hck; obtain ⟨hd, rfl⟩ := hck; obtain ⟨x, S, rfl, h⟩ := zi1_inv h; exact lv_i2l hx hb hd rfl (ih _ _ _ _ _ _ h _ _ _ _ hnx hR hS hl hnl huc hus)
      | ladd => simp only [zck, zck2, Bool.and_eq_true, decide_eq_true_eq] at hck; obtain ⟨hd, rfl⟩ := hck; obtain ⟨x, y, S, rfl, h⟩ := zl2_inv h; exact lv_ladd hx hb hd (ih _ _ _ _ _ _ h _ _ _ _ hnx hR hS hl hnl huc hus)
      | lcmp => simp only [zck, zck2, Bool.and_eq_true, decide_eq_true_eq] at hck; obtain ⟨hd, rfl⟩ := hck; obtain ⟨x, y, S, rfl, h⟩ := zl2_inv h; exact W.lcmp hx hb hd (ih _ _ _ _ _ _ h _ _ _ _ hnx hR hS hl hnl huc hus)
      | _ => sorry
