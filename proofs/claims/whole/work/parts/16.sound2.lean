/-! SOUNDNESS: a stretch of the abstract machine is one of the machine's */ -/
theorem zc1_cat {b : Nat} {ev : Nat → Value} {v : Value} (hev : zev ev) (h : zc1 v = true) : (zv b ev v).category = 1 := by
  cases v with
  | int x => rfl
  | ref r => show (zrv b r).category = 1; unfold zrv; split <;> rfl
  | float x => rcases hev x.toNat with h | ⟨t, h⟩ <;> (show (ev x.toNat).category = 1; rw [h]; rfl)
  | _ => cases h
theorem zfk3 (t : FieldType) : zfk t = 0 ∨ zfk t = 1 ∨ zfk t = 2 := by
  cases t <;> first | exact Or.inl rfl | exact Or.inr (Or.inl rfl) | exact Or.inr (Or.inr rfl)
theorem zfk_int {t : FieldType} (h : zfk t = 0) : t = .int := by
  cases t <;> first | rfl | cases h
theorem zfk_bool {t : FieldType} (h : zfk t = 1) : t = .boolean := by
  cases t <;> first | rfl | cases h
def zisr : FieldType → Bool
  | .object _ => true
  | .array _ => true
  | _ => false
theorem zref_ok : ∀ c, c < 13 → ∀ j, j < zNC c → zfk (zTy c j) = 2 → zisr (zTy c j) = true := by decide +kernel
theorem zfk_ref {t : FieldType} {w : Value} (h : zisr t = true) (hw : w = .null ∨ ∃ a : Nat, w = .ref a) : narrow t w = w ∧ fits t w = true := by
  cases t <;> first | (rcases hw with rfl | ⟨a, rfl⟩ <;> exact ⟨rfl, rfl⟩) | cases h
theorem zfv_wI {b r c k : Nat} {M : Mm} {x : Int32} (h : ¬ zfk (zTy c k) = 2) : zfv b (wI M r k x) r c k = .int x := by
  unfold zfv
  rw [if_neg h]
  show Value.int (if r = r then (if k = k then x else _) else _) = _
  rw [if_pos rfl, if_pos rfl]
theorem zfv_wIo {b r c k j : Nat} {M : Mm} {x : Int32} (h : j ≠ k) : zfv b (wI M r k x) r c j = zfv b M r c j := by
  unfold zfv
  have : mI (wI M r k x) r j = mI M r j := by
    show (if r = r then (if j = k then x else M.1 r j) else _) = _
    rw [if_pos rfl, if_neg h]
    rfl
  rw [this]
  rfl
theorem zfv_wR {b r c k x : Nat} {M : Mm} (h : zfk (zTy c k) = 2) : zfv b (wR M r k x) r c k = zrv b x := by
  unfold zfv
  rw [if_pos h]
  show zrv b (if r = r then (if k = k then x else _) else _) = _
  rw [if_pos rfl, if_pos rfl]
theorem zfv_wRo {b r c k j x : Nat} {M : Mm} (h : j ≠ k) : zfv b (wR M r k x) r c j = zfv b M r c j := by
  unfold zfv
  have : mR (wR M r k x) r j = mR M r j := by
    show (if r = r then (if j = k then x else M.2.1 r j) else _) = _
    rw [if_pos rfl, if_neg h]
    rfl
  rw [this]
  rfl
theorem zxV_b {X : List Int32} {q : Nat} (h : q < 6) : zxV X (20 + q) = zxB.getD q [] := by
  unfold zxV
  rw [if_neg (by omega), if_neg (by omega), show 20 + q - 20 = q by omega]
theorem zxB_len {q : Nat} (h : q < 6) : (zxB.map List.length).getD q 0 = (zxB.getD q []).length := by
  rcases (show q = 0 ∨ q = 1 ∨ q = 2 ∨ q = 3 ∨ q = 4 ∨ q = 5 by omega) with rfl | rfl | rfl | rfl | rfl | rfl <;> rfl
theorem zcal_spec {own : String} {ML : List zMe} {i r1 n ac as pos : Nat} {special : Bool} {ci : Option Nat} {stat : Bool} (h : zcal own ML i r1 n ac as pos special ci stat = true) : ∃ (y : MethodName) (bytes : ByteArray) (maxL : Nat) (ret : Option FieldType) (cd : List zEn) (pc pk ps pi : Nat), ML[r1]? = some (y, bytes, maxL, ret, ac, as, cd, pc, pk, ps, pi) ∧ maxL ≤ 20 ∧ Cond.code y bytes maxL ret ∈ zws ∧ Cond.initialized y.cls ∈ zws ∧ (y.cls ≠ "java/lang/invoke/MethodHandle" ∧ y.cls ≠ "java/lang/invoke/VarHandle") ∧ (parseMethodDescriptor y.desc).map (fun d => d.parameters.length) = some n ∧
    (Cond.methodLink own i y ∈ zws ∨ (special = true ∧ Cond.methodLinkNest own i y "PhoneBench" ∈ zNw)) ∧ (stat = true → Cond.static y ∈ zws) ∧ (stat = false → Cond.instanceMethod y ∈ zws) ∧ (special = true → y.name = "<init>" ∧ ret = none) ∧ (∀ c, ci = some c → Cond.selects y.cls y y ∈ zws ∧ ((c = 100 ∧ y.cls = "java/lang/String") ∨ (c < 13 ∧ zRC c = y.cls))) := by
  unfold zcal at h
  split at h
  · cases h
  · rename_i y bytes maxL ret mc ms cd pc pk ps pi he
    simp only [Bool.and_eq_true, decide_eq_true_eq, Bool.or_eq_true] at h
    obtain ⟨⟨⟨⟨⟨⟨⟨⟨⟨⟨h1, h2⟩, h3⟩, h4⟩, h5⟩, h6⟩, h7⟩, h8⟩, h9⟩, h10⟩, h11⟩ := h
    subst h1
    subst h2
    refine ⟨y, bytes, maxL, ret, cd, pc, pk, ps, pi, he, h3, zat_in h4, zat_in h5, h6, h7, ?_, fun q => ?_, fun q => ?_, fun q => ?_, fun c q => ?_⟩
    · rcases h8 with h8 | h8
      · exact Or.inl (zat_in h8)
      · exact Or.inr ⟨h8.1, znat_in h8.2⟩
    · subst q; exact zat_in h9
    · subst q; exact zat_in h9
    · subst q; exact of_decide_eq_true h10
    · subst q
      dsimp only at h11
      rw [Bool.and_eq_true] at h11
      refine ⟨zat_in h11.1, ?_⟩
      have h12 := h11.2
      by_cases hc : c = 100
      · subst hc
        exact Or.inl ⟨rfl, of_decide_eq_true h12⟩
      · have e9 : (c == 100) = false := by simp [hc]
        rw [e9] at h12
        simp only [cond_false, Bool.and_eq_true, decide_eq_true_eq] at h12
        exact Or.inr h12
/-- the machine comes to its end from here, whatever heap holds the memory -/
def zTW (p : Program) (l : Launch) (e : Env) (R : Room) (s : State) (m : MethodId) (args : Array Value) (below : List Frame) (meth : Method) (c : Code) (Z : State → Prop) (nL : Nat) (cd : List zEn) (mc ms : Nat) (dC : Nat → ClassId) (dI : Nat → Nat → Nat) (cI : ClassId) (cA : Nat → ClassId) (b : Nat) (ev : Nat → Value) (cs : List zEn) (L S : List Value) (uc us : Nat) (M : Mm) (_ : zQt) : Prop :=
  ∀ (H : Heap) (locs : List Loc) (ls : Array Slot) (pc : Nat), zon cd cs pc → zRep dC dI cI cA b M H → va_S (fun q => b < q) s.heap H locs → lv_has ls nL (zlv b ev 0 L) → (znl L || zns cd) = true → uc ≤ mc → us ≤ ms → W p l e R s m args below meth c H locs uc us Z (F0 m pc ls (S.map (zv b ev)))
set_option maxHeartbeats 8000000 in
theorem zsound {p : Program} {l : Launch} {e : Env} {R : Room} {s : State} {m : MethodId} {args : Array Value} {below : List Frame} {meth : Method} {c : Code} {Z : State → Prop} {cc : ByteArray} {own mn : String} {nL : Nat} {rt : Option FieldType} {cd : List zEn} {ML : List zMe} {mc ms d : Nat} {dC : Nat → ClassId} {dI : Nat → Nat → Nat} {cI : ClassId} {cA : Nat → ClassId} {b : Nat} {ev : Nat → Value} {X : List Int32} {Q : zQt} {C : Nat → List Value → Mm → Option Value → Mm → Prop}
    (hx : p.tables.exec = Jvm.exec) (hb : c.code = cc) (hml : c.maxLocals = nL) (hown : s.vm.findClass own = some m.cls) (hts : ∀ w ∈ zws, w.before args s = true) (hmn : (cd.any fun e => zisp e.2.1) = true → meth.name = mn) (hK : zKx dC dI cI cA b ev X s) (hev : zev ev) (hcd : zcode own mn cc nL rt ML cd = true) (hRc : R.cells = mc) (hRs : R.slots = ms) (hRf : d + 1 ≤ R.frames) (hRl : 40 * d + 40 ≤ R.locals) (hMp : ∀ me ∈ ML, me.2.2.1 ≤ 20)
    (hC : ∀ y a M v M', C y a M v M' → zCon l dC dI cI cA b ev X ML d y a M v M')
    (hri : ∀ (x : Int32) (M' : Mm) (H : Heap) (locs : List Loc) (ls : Array Slot) (pc uc us : Nat), Q (some (.int x)) M' → zRep dC dI cI cA b M' H → va_S (fun q => b < q) s.heap H locs → uc ≤ mc → us ≤ ms → decode cc pc = .ok (.ireturn, 1) → (∃ ty, rt = some ty ∧ narrow ty (.int x) = .int x) → W p l e R s m args below meth c H locs uc us Z (F0 m pc ls [.int x]))
    (hra : ∀ (x : Nat) (M' : Mm) (H : Heap) (locs : List Loc) (ls : Array Slot) (pc uc us : Nat), Q (some (.ref x)) M' → zRep dC dI cI cA b M' H → va_S (fun q => b < q) s.heap H locs → uc ≤ mc → us ≤ ms → decode cc pc = .ok (.areturn, 1) → ((∃ n, rt = some (.object n)) ∨ ∃ t, rt = some (.array t)) → W p l e R s m args below meth c H locs uc us Z (F0 m pc ls [zrv b x]))
    (hrv : ∀ (M' : Mm) (H : Heap) (locs : List Loc) (ls : Array Slot) (pc uc us : Nat), Q none M' → zRep dC dI cI cA b M' H → va_S (fun q => b < q) s.heap H locs → uc ≤ mc → us ≤ ms → decode cc pc = .ok (.return_, 1) → rt = none → W p l e R s m args below meth c H locs uc us Z (F0 m pc ls [])) :
    ∀ (n : Nat) (cs : List zEn) (L S : List Value) (uc us : Nat) (M : Mm), zw X C cd mc ms (zTW p l e R s m args below meth c Z nL cd mc ms dC dI cI cA b ev) n cs L S uc us M Q → zTW p l e R s m args below meth c Z nL cd mc ms dC dI cI cA b ev cs L S uc us M Q := by
  have hcd' := hcd
  unfold zcode at hcd
  rw [Bool.and_eq_true, Bool.and_eq_true] at hcd
  obtain ⟨⟨hall, hch⟩, -⟩ := hcd
  obtain ⟨hK1, hK2, hK3, hK4, hK5, hK6, hK7, hK8, adK, adV, hK9, hK10⟩ := id hK
  intro n
  induction n with
  | zero => intro cs L S uc us M h; exact h
  | succ n ih =>
    intro cs L S uc us M h
    cases cs with
    | nil => exact h.elim
    | cons en cs =>
      obtain ⟨pc0, ins, len, r1, r2, aux, k⟩ := en
      intro H locs ls pc hon hR hS hl hnl huc hus
      have hpc : pc0 = pc := hon.2
      subst hpc
      have hmem : (pc0, ins, len, r1, r2, aux, k) ∈ cd := by obtain ⟨⟨i, hi⟩, -⟩ := hon; exact zj_mem _ _ _ _ hi
      have hck := List.all_eq_true.mp hall _ hmem
      have hnx : zon cd cs (pc0 + len) := zon_next hch hon
      clear hon
      cases ins with
      | nop =>
        simp only [zck, zck2, Bool.and_eq_true, decide_eq_true_eq] at hck
        obtain ⟨-, rfl⟩ := hck
        exact h _ _ _ _ hnx hR hS hl hnl huc hus
      | iconst i =>
        simp only [zck, zck2, Bool.and_eq_true, decide_eq_true_eq] at hck
        obtain ⟨hd, rfl, hk⟩ := hck
        exact lv_iconst hx hb hd hk (ih _ _ _ _ _ _ h _ _ _ _ hnx hR hS hl hnl huc hus)
      | bipush i =>
        simp only [zck, zck2, Bool.and_eq_true, decide_eq_true_eq] at hck
        obtain ⟨hd, rfl, hk⟩ := hck
        exact lv_bipush hx hb hd hk (ih _ _ _ _ _ _ h _ _ _ _ hnx hR hS hl hnl huc hus)
      | sipush i =>
        simp only [zck, zck2, Bool.and_eq_true, decide_eq_true_eq] at hck
        obtain ⟨hd, rfl, hk⟩ := hck
        exact lv_sipush hx hb hd hk (ih _ _ _ _ _ _ h _ _ _ _ hnx hR hS hl hnl huc hus)
      | lconst i =>
        simp only [zck, zck2, Bool.and_eq_true, decide_eq_true_eq] at hck
        obtain ⟨hd, rfl, hk⟩ := hck
        exact lv_lconst hx hb hd hk (ih _ _ _ _ _ _ h _ _ _ _ hnx hR hS hl hnl huc hus)
      | ldc i =>
        cases r1 with
        | zero =>
          simp only [zck, zck2, Bool.and_eq_true, decide_eq_true_eq] at hck
          obtain ⟨hd, rfl, hk⟩ := hck
          exact lv_ldc hx hb hown (hts _ (zat_in hk)) hd (ih _ _ _ _ _ _ h _ _ _ _ hnx hR hS hl hnl huc hus)
        | succ t =>
          simp only [zck, zck2, Bool.and_eq_true, decide_eq_true_eq] at hck
          obtain ⟨hd, rfl, ⟨h6, ho⟩, hi⟩ := hck
          obtain ⟨g1, g2, g3⟩ := hK10 t h6
          rw [ho, hi] at g3
          refine va_ldcS hx hb hown g3 hd ?_
          have := ih _ _ _ _ _ _ h _ _ _ _ hnx hR hS hl hnl huc hus
          have e9 : zv b ev (.float (UInt32.ofNat (10 + t))) = .ref (adK t) := by show ev (UInt32.ofNat (10 + t)).toNat = _; rw [zu32 (by omega)]; exact g1
          rw [List.map_cons, e9] at this
          exact this
      | ldc_w i =>
        simp only [zck, zck2, Bool.and_eq_true, decide_eq_true_eq] at hck
        obtain ⟨hd, rfl, hk⟩ := hck
        exact lv_ldcw hx hb hown (hts _ (zat_in hk)) hd (ih _ _ _ _ _ _ h _ _ _ _ hnx hR hS hl hnl huc hus)
      | ldc2_w i =>
        simp only [zck, zck2, Bool.and_eq_true, decide_eq_true_eq] at hck
        obtain ⟨hd, rfl, hk⟩ := hck
        exact lv_ldc2 hx hb hown (hts _ (zat_in hk)) hd (ih _ _ _ _ _ _ h _ _ _ _ hnx hR hS hl hnl huc hus)
      | iload_n i =>
        simp only [zck, zck2, Bool.and_eq_true, decide_eq_true_eq] at hck
        obtain ⟨hd, rfl, hi⟩ := hck
        cases hz : zLo L r1 <;> simp only [zw, hz] at h <;> first | exact h.elim | skip
        exact lv_iload_n hx hb hd hi (zlo_at hl hz (fun _ q => by cases q)) (ih _ _ _ _ _ _ h _ _ _ _ hnx hR hS hl hnl huc hus)
      | iload i =>
        simp only [zck, zck2, Bool.and_eq_true, decide_eq_true_eq] at hck
        obtain ⟨hd, rfl, rfl⟩ := hck
        cases hz : zLo L i <;> simp only [zw, hz] at h <;> first | exact h.elim | skip
        exact lv_iload hx hb hd (zlo_at hl hz (fun _ q => by cases q)) (ih _ _ _ _ _ _ h _ _ _ _ hnx hR hS hl hnl huc hus)
      | lload_n i =>
        simp only [zck, zck2, Bool.and_eq_true, decide_eq_true_eq] at hck
        obtain ⟨hd, rfl, hi⟩ := hck
        cases hz : zLo L r1 <;> simp only [zw, hz] at h <;> first | exact h.elim | skip
        exact lv_lload_n hx hb hd hi (zlo_at hl hz (fun _ q => by cases q)) (ih _ _ _ _ _ _ h _ _ _ _ hnx hR hS hl hnl huc hus)
      | lload i =>
        simp only [zck, zck2, Bool.and_eq_true, decide_eq_true_eq] at hck
        obtain ⟨hd, rfl, rfl⟩ := hck
        cases hz : zLo L i <;> simp only [zw, hz] at h <;> first | exact h.elim | skip
        exact lv_lload hx hb hd (zlo_at hl hz (fun _ q => by cases q)) (ih _ _ _ _ _ _ h _ _ _ _ hnx hR hS hl hnl huc hus)
      | aload_n i =>
        simp only [zck, zck2, Bool.and_eq_true, decide_eq_true_eq] at hck
        obtain ⟨hd, rfl, hi⟩ := hck
        cases hz : zLo L r1 with
        | ref x => simp only [zw, hz] at h; exact zw_aload_n hx hb (zrv_nr b x) hd hi (zlo_at hl hz (fun _ q => by cases q)) (ih _ _ _ _ _ _ h _ _ _ _ hnx hR hS hl hnl huc hus)
        | float x => simp only [zw, hz] at h; exact zw_aload_n hx hb (hev x.toNat) hd hi (zlo_at hl hz (fun _ q => by cases q)) (ih _ _ _ _ _ _ h _ _ _ _ hnx hR hS hl hnl huc hus)
        | _ => simp only [zw, hz] at h
      | aload i =>
        simp only [zck, zck2, Bool.and_eq_true, decide_eq_true_eq] at hck
        obtain ⟨hd, rfl, rfl⟩ := hck
        cases hz : zLo L i with
        | ref x => simp only [zw, hz] at h; exact zw_aload hx hb (zrv_nr b x) hd (zlo_at hl hz (fun _ q => by cases q)) (ih _ _ _ _ _ _ h _ _ _ _ hnx hR hS hl hnl huc hus)
        | float x => simp only [zw, hz] at h; exact zw_aload hx hb (hev x.toNat) hd (zlo_at hl hz (fun _ q => by cases q)) (ih _ _ _ _ _ _ h _ _ _ _ hnx hR hS hl hnl huc hus)
        | _ => simp only [zw, hz] at h
      | istore_n i =>
        simp only [zck, zck2, Bool.and_eq_true, decide_eq_true_eq] at hck
        obtain ⟨hd, ⟨rfl, hi⟩, hlt⟩ := hck
        have h0 := zi1_inv h; clear h; obtain ⟨x, S, rfl, h⟩ := h0
        have hz := zns_no hmem rfl hnl
        exact lv_istore_n hx hb hd hi hl hlt rfl (fun ls hl => ih _ _ _ _ _ _ h _ _ _ _ hnx hR hS (zst_has (v := .int x) hev hz hl) (by rw [znl_set _ _ _ hz rfl]; rfl) huc hus)
      | istore i =>
        simp only [zck, zck2, Bool.and_eq_true, decide_eq_true_eq] at hck
        obtain ⟨hd, ⟨rfl, rfl⟩, hlt⟩ := hck
        have h0 := zi1_inv h; clear h; obtain ⟨x, S, rfl, h⟩ := h0
        have hz := zns_no hmem rfl hnl
        exact lv_istore hx hb hd hl hlt rfl (fun ls hl => ih _ _ _ _ _ _ h _ _ _ _ hnx hR hS (zst_has (v := .int x) hev hz hl) (by rw [znl_set _ _ _ hz rfl]; rfl) huc hus)
      | astore_n i =>
        simp only [zck, zck2, Bool.and_eq_true, decide_eq_true_eq] at hck
        obtain ⟨hd, ⟨rfl, hi⟩, hlt⟩ := hck
        simp only [zw] at h
        have h0 := zr1_inv h; clear h; rcases h0 with ⟨x, S, rfl, h⟩ | ⟨x, S, rfl, h⟩
        · have hz := zns_no hmem rfl hnl
          exact zw_astore_n hx hb (zrv_nr b x) hd hi hl hlt (fun ls hl => ih _ _ _ _ _ _ h _ _ _ _ hnx hR hS (zst_has (v := .ref x) hev hz hl) (by rw [znl_set _ _ _ hz rfl]; rfl) huc hus)
        · exact h.elim
      | astore i =>
        simp only [zck, zck2, Bool.and_eq_true, decide_eq_true_eq] at hck
        obtain ⟨hd, ⟨rfl, rfl⟩, hlt⟩ := hck
        simp only [zw] at h
        have h0 := zr1_inv h; clear h; rcases h0 with ⟨x, S, rfl, h⟩ | ⟨x, S, rfl, h⟩
        · have hz := zns_no hmem rfl hnl
          exact zw_astore hx hb (zrv_nr b x) hd hl hlt (fun ls hl => ih _ _ _ _ _ _ h _ _ _ _ hnx hR hS (zst_has (v := .ref x) hev hz hl) (by rw [znl_set _ _ _ hz rfl]; rfl) huc hus)
        · exact h.elim
      | iinc i a =>
        simp only [zck, zck2, Bool.and_eq_true, decide_eq_true_eq] at hck
        obtain ⟨hd, ⟨⟨rfl, rfl⟩, hlt⟩, hk⟩ := hck
        cases hz : zLo L i <;> simp only [zw, hz] at h <;> first | exact h.elim | skip
        rename_i x
        have hz2 := zns_no hmem rfl hnl
        have hin := zlv_in (b := b) (ev := ev) L 0 i _ hz (fun _ q => by cases q)
        rw [Nat.zero_add] at hin
        obtain ⟨j, hj⟩ := List.getElem?_of_mem hin
        exact lv_iinc hx hb hd hl hj (by rw [hk]) hlt rfl (fun ls hl => ih _ _ _ _ _ _ h _ _ _ _ hnx hR hS (zst_has (v := .int (x + k)) hev hz2 hl) (by rw [znl_set _ _ _ hz2 rfl]; rfl) huc hus)
      | iadd => simp only [zck, zck2, Bool.and_eq_true, decide_eq_true_eq] at hck; obtain ⟨hd, rfl⟩ := hck; have h0 := zi2_inv h; clear h; obtain ⟨x, y, S, rfl, h⟩ := h0; exact lv_iadd hx hb hd (ih _ _ _ _ _ _ h _ _ _ _ hnx hR hS hl hnl huc hus)
      | isub => simp only [zck, zck2, Bool.and_eq_true, decide_eq_true_eq] at hck; obtain ⟨hd, rfl⟩ := hck; have h0 := zi2_inv h; clear h; obtain ⟨x, y, S, rfl, h⟩ := h0; exact lv_isub hx hb hd (ih _ _ _ _ _ _ h _ _ _ _ hnx hR hS hl hnl huc hus)
      | imul => simp only [zck, zck2, Bool.and_eq_true, decide_eq_true_eq] at hck; obtain ⟨hd, rfl⟩ := hck; have h0 := zi2_inv h; clear h; obtain ⟨x, y, S, rfl, h⟩ := h0; exact lv_imul hx hb hd (ih _ _ _ _ _ _ h _ _ _ _ hnx hR hS hl hnl huc hus)
      | iand => simp only [zck, zck2, Bool.and_eq_true, decide_eq_true_eq] at hck; obtain ⟨hd, rfl⟩ := hck; have h0 := zi2_inv h; clear h; obtain ⟨x, y, S, rfl, h⟩ := h0; exact lv_iand hx hb hd (ih _ _ _ _ _ _ h _ _ _ _ hnx hR hS hl hnl huc hus)
      | ior => simp only [zck, zck2, Bool.and_eq_true, decide_eq_true_eq] at hck; obtain ⟨hd, rfl⟩ := hck; have h0 := zi2_inv h; clear h; obtain ⟨x, y, S, rfl, h⟩ := h0; exact lv_ior hx hb hd (ih _ _ _ _ _ _ h _ _ _ _ hnx hR hS hl hnl huc hus)
      | ixor => simp only [zck, zck2, Bool.and_eq_true, decide_eq_true_eq] at hck; obtain ⟨hd, rfl⟩ := hck; have h0 := zi2_inv h; clear h; obtain ⟨x, y, S, rfl, h⟩ := h0; exact lv_ixor hx hb hd (ih _ _ _ _ _ _ h _ _ _ _ hnx hR hS hl hnl huc hus)
      | ishl => simp only [zck, zck2, Bool.and_eq_true, decide_eq_true_eq] at hck; obtain ⟨hd, rfl⟩ := hck; have h0 := zi2_inv h; clear h; obtain ⟨x, y, S, rfl, h⟩ := h0; exact lv_ishl hx hb hd (ih _ _ _ _ _ _ h _ _ _ _ hnx hR hS hl hnl huc hus)
      | ishr => simp only [zck, zck2, Bool.and_eq_true, decide_eq_true_eq] at hck; obtain ⟨hd, rfl⟩ := hck; have h0 := zi2_inv h; clear h; obtain ⟨x, y, S, rfl, h⟩ := h0; exact lv_ishr hx hb hd (ih _ _ _ _ _ _ h _ _ _ _ hnx hR hS hl hnl huc hus)
      | iushr => simp only [zck, zck2, Bool.and_eq_true, decide_eq_true_eq] at hck; obtain ⟨hd, rfl⟩ := hck; have h0 := zi2_inv h; clear h; obtain ⟨x, y, S, rfl, h⟩ := h0; exact lv_iushr hx hb hd rfl (ih _ _ _ _ _ _ h _ _ _ _ hnx hR hS hl hnl huc hus)
      | idiv => simp only [zck, zck2, Bool.and_eq_true, decide_eq_true_eq] at hck; obtain ⟨hd, rfl⟩ := hck; have h0 := zi2_inv h; clear h; obtain ⟨x, y, S, rfl, h0, h⟩ := h0; exact lv_idiv hx hb hd h0 (ih _ _ _ _ _ _ h _ _ _ _ hnx hR hS hl hnl huc hus)
      | irem => simp only [zck, zck2, Bool.and_eq_true, decide_eq_true_eq] at hck; obtain ⟨hd, rfl⟩ := hck; have h0 := zi2_inv h; clear h; obtain ⟨x, y, S, rfl, h0, h⟩ := h0; exact lv_irem hx hb hd h0 (ih _ _ _ _ _ _ h _ _ _ _ hnx hR hS hl hnl huc hus)
      | ineg => simp only [zck, zck2, Bool.and_eq_true, decide_eq_true_eq] at hck; obtain ⟨hd, rfl⟩ := hck; have h0 := zi1_inv h; clear h; obtain ⟨x, S, rfl, h⟩ := h0; exact lv_ineg hx hb hd (ih _ _ _ _ _ _ h _ _ _ _ hnx hR hS hl hnl huc hus)
      | i2s => simp only [zck, zck2, Bool.and_eq_true, decide_eq_true_eq] at hck; obtain ⟨hd, rfl⟩ := hck; have h0 := zi1_inv h; clear h; obtain ⟨x, S, rfl, h⟩ := h0; exact lv_i2s hx hb hd rfl (ih _ _ _ _ _ _ h _ _ _ _ hnx hR hS hl hnl huc hus)
      | i2c => simp only [zck, zck2, Bool.and_eq_true, decide_eq_true_eq] at hck; obtain ⟨hd, rfl⟩ := hck; have h0 := zi1_inv h; clear h; obtain ⟨x, S, rfl, h⟩ := h0; exact lv_i2c hx hb hd rfl (ih _ _ _ _ _ _ h _ _ _ _ hnx hR hS hl hnl huc hus)
      | i2b => simp only [zck, zck2, Bool.and_eq_true, decide_eq_true_eq] at hck; obtain ⟨hd, rfl⟩ := hck; have h0 := zi1_inv h; clear h; obtain ⟨x, S, rfl, h⟩ := h0; exact lv_i2b hx hb hd rfl (ih _ _ _ _ _ _ h _ _ _ _ hnx hR hS hl hnl huc hus)
      | i2l => simp only [zck, zck2, Bool.and_eq_true, decide_eq_true_eq] at hck; obtain ⟨hd, rfl⟩ := hck; have h0 := zi1_inv h; clear h; obtain ⟨x, S, rfl, h⟩ := h0; exact lv_i2l hx hb hd rfl (ih _ _ _ _ _ _ h _ _ _ _ hnx hR hS hl hnl huc hus)
      | ladd => simp only [zck, zck2, Bool.and_eq_true, decide_eq_true_eq] at hck; obtain ⟨hd, rfl⟩ := hck; have h0 := zl2_inv h; clear h; obtain ⟨x, y, S, rfl, h⟩ := h0; exact lv_ladd hx hb hd (ih _ _ _ _ _ _ h _ _ _ _ hnx hR hS hl hnl huc hus)
      | lcmp => simp only [zck, zck2, Bool.and_eq_true, decide_eq_true_eq] at hck; obtain ⟨hd, rfl⟩ := hck; have h0 := zl2_inv h; clear h; obtain ⟨x, y, S, rfl, h⟩ := h0; exact W.lcmp hx hb hd (ih _ _ _ _ _ _ h _ _ _ _ hnx hR hS hl hnl huc hus)
      | dup =>
        simp only [zck, zck2, Bool.and_eq_true, decide_eq_true_eq] at hck
        obtain ⟨hd, rfl⟩ := hck
        cases S with
        | nil => exact h.elim
        | cons v S => exact lv_dup hx hb hd (zc1_cat hev h.1) (ih _ _ _ _ _ _ h.2 _ _ _ _ hnx hR hS hl hnl huc hus)
      | pop =>
        simp only [zck, zck2, Bool.and_eq_true, decide_eq_true_eq] at hck
        obtain ⟨hd, rfl⟩ := hck
        cases S with
        | nil => exact h.elim
        | cons v S => exact lv_pop hx hb hd (zc1_cat hev h.1) (ih _ _ _ _ _ _ h.2 _ _ _ _ hnx hR hS hl hnl huc hus)
      | dup2 =>
        simp only [zck, zck2, Bool.and_eq_true, decide_eq_true_eq] at hck
        obtain ⟨hd, rfl⟩ := hck
        cases S with
        | nil => exact h.elim
        | cons v S => cases S with
          | nil => exact h.elim
          | cons w S => exact lv_dup2_11 hx hb hd (zc1_cat hev h.1.1) (zc1_cat hev h.1.2) (ih _ _ _ _ _ _ h.2 _ _ _ _ hnx hR hS hl hnl huc hus)
      | goto o =>
        simp only [zck, zck2, Bool.and_eq_true, decide_eq_true_eq] at hck
        obtain ⟨hd, rfl, ht⟩ := hck
        obtain ⟨tgt, ht, hon⟩ := zon_jump ht
        exact lv_goto hx hb hd ht.symm (ih _ _ _ _ _ _ h _ _ _ _ hon hR hS hl hnl huc hus)
      | if_icmp cnd o =>
        simp only [zck, zck2, Bool.and_eq_true, decide_eq_true_eq] at hck
        obtain ⟨hd, rfl, ht⟩ := hck
        obtain ⟨tgt, ht, hon⟩ := zon_jump ht
        have h0 := zi2_inv h; clear h; obtain ⟨x, y, S, rfl, h⟩ := h0
        cases cnd with
        | eq => exact lv_icmp_eq hx hb hd ht.symm (fun q => by dsimp only at h; rw [if_pos q] at h; exact ih _ _ _ _ _ _ h _ _ _ _ hon hR hS hl hnl huc hus) (fun q => by dsimp only at h; rw [if_neg q] at h; exact ih _ _ _ _ _ _ h _ _ _ _ hnx hR hS hl hnl huc hus)
        | ne => exact lv_icmp_ne hx hb hd ht.symm (fun q => by dsimp only at h; rw [if_neg q] at h; exact ih _ _ _ _ _ _ h _ _ _ _ hon hR hS hl hnl huc hus) (fun q => by dsimp only at h; rw [if_pos q] at h; exact ih _ _ _ _ _ _ h _ _ _ _ hnx hR hS hl hnl huc hus)
        | lt => exact lv_icmp_lt hx hb hd ht.symm (fun q => by dsimp only at h; rw [if_pos q] at h; exact ih _ _ _ _ _ _ h _ _ _ _ hon hR hS hl hnl huc hus) (fun q => by dsimp only at h; rw [if_neg q] at h; exact ih _ _ _ _ _ _ h _ _ _ _ hnx hR hS hl hnl huc hus)
        | ge => exact lv_icmp_ge hx hb hd ht.symm (fun q => by dsimp only at h; rw [if_pos q] at h; exact ih _ _ _ _ _ _ h _ _ _ _ hon hR hS hl hnl huc hus) (fun q => by dsimp only at h; rw [if_neg q] at h; exact ih _ _ _ _ _ _ h _ _ _ _ hnx hR hS hl hnl huc hus)
        | gt => exact lv_icmp_gt hx hb hd ht.symm (fun q => by dsimp only at h; rw [if_pos q] at h; exact ih _ _ _ _ _ _ h _ _ _ _ hon hR hS hl hnl huc hus) (fun q => by dsimp only at h; rw [if_neg q] at h; exact ih _ _ _ _ _ _ h _ _ _ _ hnx hR hS hl hnl huc hus)
        | le => exact lv_icmp_le hx hb hd ht.symm (fun q => by dsimp only at h; rw [if_pos q] at h; exact ih _ _ _ _ _ _ h _ _ _ _ hon hR hS hl hnl huc hus) (fun q => by dsimp only at h; rw [if_neg q] at h; exact ih _ _ _ _ _ _ h _ _ _ _ hnx hR hS hl hnl huc hus)
      | ifCond cnd o =>
        simp only [zck, zck2, Bool.and_eq_true, decide_eq_true_eq] at hck
        obtain ⟨hd, rfl, ht⟩ := hck
        obtain ⟨tgt, ht, hon⟩ := zon_jump ht
        have h0 := zi1_inv h; clear h; obtain ⟨x, S, rfl, h⟩ := h0
        cases cnd with
        | eq => exact lv_if_eq hx hb hd ht.symm (fun q => by dsimp only at h; rw [if_pos q] at h; exact ih _ _ _ _ _ _ h _ _ _ _ hon hR hS hl hnl huc hus) (fun q => by dsimp only at h; rw [if_neg q] at h; exact ih _ _ _ _ _ _ h _ _ _ _ hnx hR hS hl hnl huc hus)
        | ne => exact lv_if_ne hx hb hd ht.symm (fun q => by dsimp only at h; rw [if_neg q] at h; exact ih _ _ _ _ _ _ h _ _ _ _ hon hR hS hl hnl huc hus) (fun q => by dsimp only at h; rw [if_pos q] at h; exact ih _ _ _ _ _ _ h _ _ _ _ hnx hR hS hl hnl huc hus)
        | lt => exact lv_if_lt hx hb hd ht.symm (fun q => by dsimp only at h; rw [if_pos q] at h; exact ih _ _ _ _ _ _ h _ _ _ _ hon hR hS hl hnl huc hus) (fun q => by dsimp only at h; rw [if_neg q] at h; exact ih _ _ _ _ _ _ h _ _ _ _ hnx hR hS hl hnl huc hus)
        | ge => exact lv_if_ge hx hb hd ht.symm (fun q => by dsimp only at h; rw [if_pos q] at h; exact ih _ _ _ _ _ _ h _ _ _ _ hon hR hS hl hnl huc hus) (fun q => by dsimp only at h; rw [if_neg q] at h; exact ih _ _ _ _ _ _ h _ _ _ _ hnx hR hS hl hnl huc hus)
        | gt => exact lv_if_gt hx hb hd ht.symm (fun q => by dsimp only at h; rw [if_pos q] at h; exact ih _ _ _ _ _ _ h _ _ _ _ hon hR hS hl hnl huc hus) (fun q => by dsimp only at h; rw [if_neg q] at h; exact ih _ _ _ _ _ _ h _ _ _ _ hnx hR hS hl hnl huc hus)
        | le => exact lv_if_le hx hb hd ht.symm (fun q => by dsimp only at h; rw [if_pos q] at h; exact ih _ _ _ _ _ _ h _ _ _ _ hon hR hS hl hnl huc hus) (fun q => by dsimp only at h; rw [if_neg q] at h; exact ih _ _ _ _ _ _ h _ _ _ _ hnx hR hS hl hnl huc hus)
      | ifnonnull o =>
        simp only [zck, zck2, Bool.and_eq_true, decide_eq_true_eq] at hck
        obtain ⟨hd, rfl, ht⟩ := hck
        obtain ⟨tgt, ht, hon⟩ := zon_jump ht
        simp only [zw] at h
        have h0 := zr1_inv h; clear h; rcases h0 with ⟨x, S, rfl, h⟩ | ⟨x, S, rfl, h⟩
        · exact zw_ifnonnull hx hb hd ht.symm (fun q => by rw [if_pos q] at h; exact ih _ _ _ _ _ _ h _ _ _ _ hnx hR hS hl hnl huc hus) (fun q => by rw [if_neg q] at h; exact ih _ _ _ _ _ _ h _ _ _ _ hon hR hS hl hnl huc hus)
        · exact h.elim
      | tableswitch dflt lo hi offs =>
        simp only [zck, zck2, Bool.and_eq_true, decide_eq_true_eq] at hck
        obtain ⟨hd, ⟨hdf, htb⟩, hhi⟩ := hck
        have h0 := zi1_inv h; clear h; obtain ⟨x, S, rfl, h⟩ := h0
        rcases ztb_sw _ _ _ _ htb h with ⟨j, o, t, g1, g2, g3, h⟩ | ⟨g1, h⟩
        · obtain ⟨tgt, ht, hon⟩ := zon_jump g3
          have hjl : j < offs.toList.length := (List.getElem?_eq_some_iff.mp g1).1
          refine lv_tableIn hx hb hd (by omega) (by omega) (off := o) ?_ ht.symm (ih _ _ _ _ _ _ h _ _ _ _ hon hR hS hl hnl huc hus)
          rw [g2, show (lo + (j : Int) - lo).toNat = j by omega, ← Array.getElem?_toList]
          exact g1
        · obtain ⟨tgt, ht, hon⟩ := zon_jump hdf
          exact lv_tableOut hx hb hd (by omega) ht.symm (ih _ _ _ _ _ _ h _ _ _ _ hon hR hS hl hnl huc hus)
      | lookupswitch dflt ps =>
        simp only [zck, zck2, Bool.and_eq_true, decide_eq_true_eq] at hck
        obtain ⟨hd, ⟨hdf, hlk⟩, hso⟩ := hck
        have h0 := zi1_inv h; clear h; obtain ⟨x, S, rfl, h⟩ := h0
        obtain ⟨o, t, g1, g2, h⟩ := zlk_sw _ _ _ hlk hdf h
        obtain ⟨tgt, ht, hon⟩ := zon_jump g2
        exact lv_lookup hx hb hd hso g1 ht.symm (ih _ _ _ _ _ _ h _ _ _ _ hon hR hS hl hnl huc hus)
      | getfield i =>
        simp only [zw] at h
        simp only [zck, zck2, Bool.and_eq_true, decide_eq_true_eq] at hck
        obtain ⟨hd, rfl, hck⟩ := hck
        have h0 := zr1_inv h; clear h; rcases h0 with ⟨r, S, rfl, hO, h⟩ | ⟨x, S, rfl, h10, hr1, h⟩
        · have h100 : ¬ r1 = 100 := fun q => by
            rw [q] at hO
            have h9 := ((hR.2 r hO.1 hO.2.1).2.2 (by rw [hO.2.2]; decide)).1
            rw [hO.2.2] at h9
            rcases h9 with h9 | h9 | h9 | h9 | h9 <;> omega
          simp only [h100, decide_false, cond_false, Bool.and_eq_true, decide_eq_true_eq] at hck
          obtain ⟨⟨⟨h13, hk⟩, hkd⟩, hpos⟩ := hck
          refine zw_get hx hb hts (zin h13) hown hK1 hR hO h13 hk (hts _ (zat_in hpos)) hd ?_
          unfold zfv
          by_cases h2 : zfk (zTy r1 r2) = 2
          · rw [if_pos h2]
            rw [hkd, h2] at h
            exact ih _ _ _ _ _ _ h _ _ _ _ hnx hR hS hl hnl huc hus
          · rw [if_neg h2]
            rcases zfk3 (zTy r1 r2) with h3 | h3 | h3
            · rw [hkd, h3] at h
              exact ih _ _ _ _ _ _ h _ _ _ _ hnx hR hS hl hnl huc hus
            · rw [hkd, h3] at h
              exact ih _ _ _ _ _ _ h _ _ _ _ hnx hR hS hl hnl huc hus
            · exact absurd h3 h2
        · simp only [hr1, decide_true, cond_true] at hck
          obtain ⟨g1, g2, -⟩ := hK10 (x.toNat - 10) (by omega)
          rw [show 10 + (x.toNat - 10) = x.toNat by omega] at g1
          rw [show 20 + (x.toNat - 10) = x.toNat + 10 by omega] at g2
          obtain ⟨-, q1, q2, -⟩ := hK9.1 (x.toNat - 10) (by omega)
          have e9 : zv b ev (.float x) = .ref (adK (x.toNat - 10)) := g1
          rw [List.map_cons, e9]
          cases r2 with
          | zero =>
            refine vk_getf hx hb q2 hS hown (hts _ (zat_in hck)) (fun _ q => q) hd ?_
            have := ih _ _ _ _ _ _ h _ _ _ _ hnx hR hS hl hnl huc hus
            have e8 : zv b ev (.float (UInt32.ofNat (x.toNat + 10))) = .ref (adV (x.toNat - 10)) := by show ev (UInt32.ofNat (x.toNat + 10)).toNat = _; rw [zu32 (by omega)]; exact g2
            rw [List.map_cons, e8] at this
            exact this
          | succ q => exact vk_getf hx hb q1 hS hown (hts _ (zat_in hck)) (fun _ q => q) hd (ih _ _ _ _ _ _ h _ _ _ _ hnx hR hS hl hnl huc hus)
      | getstatic i =>
        match r1, hck, h with
        | 0, hck, h =>
          simp only [zck, zck2, Bool.and_eq_true, decide_eq_true_eq] at hck
          obtain ⟨hd, rfl, hpos⟩ := hck
          exact va_getsN hx hb hK5 hS hown (va_Nw.use rfl (hK3 _ (znat_in hpos))) (fun _ q => q) hd (ih _ _ _ _ _ _ h _ _ _ _ hnx hR hS hl hnl huc hus)
        | 1, hck, h =>
          simp only [zck, zck2, Bool.and_eq_true, decide_eq_true_eq] at hck
          obtain ⟨hd, rfl, hpos⟩ := hck
          exact va_gets hx hb hK6 hS hown (hts _ (zat_in hpos)) (fun _ q => q) hd (ih _ _ _ _ _ _ h _ _ _ _ hnx hR hS hl hnl huc hus)
        | _ + 2, hck, h =>
          simp only [zck, zck2, Bool.and_eq_true, decide_eq_true_eq] at hck
          obtain ⟨hd, rfl, hpos⟩ := hck
          exact va_gets hx hb hK7 hS hown (hts _ (zat_in hpos)) (fun _ q => q) hd (ih _ _ _ _ _ _ h _ _ _ _ hnx hR hS hl hnl huc hus)
      | putfield i =>
        simp only [zck, zck2, Bool.and_eq_true, decide_eq_true_eq] at hck
        obtain ⟨hd, ⟨⟨⟨⟨rfl, h13⟩, hk⟩, hkd⟩, hpos⟩, hfin⟩ := hck
        simp only [zw, hkd] at h
        have hfin' : (zTC r1 r2).2.2.2 = true → meth.name = "<init>" ∧ (zTC r1 r2).1 = own := fun q => ⟨by rw [hmn (List.any_eq_true.mpr ⟨_, hmem, rfl⟩)]; exact (hfin q).1, (hfin q).2⟩
        rcases zfk3 (zTy r1 r2) with h3 | h3 | h3
        · rw [h3] at h
          have h0 := zi1_inv h; clear h; obtain ⟨x, S, rfl, h⟩ := h0
          have h0 := zr1_inv h; clear h; rcases h0 with ⟨r, S, rfl, hO, h⟩ | ⟨x, S, rfl, h⟩
          · have hty := zfk_int h3
            exact zw_put (v := .int x) hx hb hts (zin h13) hown hK1 hR hS hO h13 hk (hts _ (zat_in hpos)) hfin' (by rw [hty]; rfl) (by rw [hty]; rfl) (zag_wI M r r2 x) (zfv_wI (by rw [h3]; decide)) (fun j hj => zfv_wIo hj) hd (fun H1 locs1 hR hS => ih _ _ _ _ _ _ h _ _ _ _ hnx hR hS hl hnl huc hus)
          · exact h.elim
        · rw [h3] at h
          have h0 := zi1_inv h; clear h; obtain ⟨x, S, rfl, h⟩ := h0
          have h0 := zr1_inv h; clear h; rcases h0 with ⟨r, S, rfl, h01, hO, h⟩ | ⟨x, S, rfl, h⟩
          · have hty := zfk_bool h3
            exact zw_put (v := .int x) hx hb hts (zin h13) hown hK1 hR hS hO h13 hk (hts _ (zat_in hpos)) hfin' (by rw [hty]; rcases h01 with rfl | rfl <;> rfl) (by rw [hty]; rcases h01 with rfl | rfl <;> rfl) (zag_wI M r r2 x) (zfv_wI (by rw [h3]; decide)) (fun j hj => zfv_wIo hj) hd (fun H1 locs1 hR hS => ih _ _ _ _ _ _ h _ _ _ _ hnx hR hS hl hnl huc hus)
          · exact h.elim
        · rw [h3] at h
          have h0 := zr1_inv h; clear h; rcases h0 with ⟨x, S, rfl, h⟩ | ⟨x, S, rfl, h⟩
          · have h0 := zr1_inv h; clear h; rcases h0 with ⟨r, S, rfl, hO, h⟩ | ⟨x, S, rfl, h⟩
            · obtain ⟨hn1, hn2⟩ := zfk_ref (zref_ok r1 h13 r2 hk h3) (zrv_nr b x)
              exact zw_put (v := zrv b x) hx hb hts (zin h13) hown hK1 hR hS hO h13 hk (hts _ (zat_in hpos)) hfin' hn1 hn2 (zag_wR M r r2 x) (zfv_wR h3) (fun j hj => zfv_wRo hj) hd (fun H1 locs1 hR hS => ih _ _ _ _ _ _ h _ _ _ _ hnx hR hS hl hnl huc hus)
            · exact h.elim
          · exact h.elim
      | newarray t =>
        simp only [zck, zck2, Bool.and_eq_true, decide_eq_true_eq] at hck
        obtain ⟨hd, rfl, rfl⟩ := hck
        have h0 := zi1_inv h; clear h; obtain ⟨x, S, rfl, ⟨h1, h2, h3, h4⟩, h⟩ := h0
        exact zw_newI hx hb (hts _ (zat_in zaci)) hK2 hR hS h1 h2 (by rw [hRc]; exact h3) (by rw [hRs]; exact h4) hd (fun H1 hR hS => ih _ _ _ _ _ _ h _ _ _ _ hnx hR hS hl hnl h3 h4)
      | anewarray i =>
        simp only [zck, zck2, Bool.and_eq_true, decide_eq_true_eq] at hck
        obtain ⟨hd, ⟨⟨rfl, h60⟩, h5⟩, hpos⟩ := hck
        have h0 := zi1_inv h; clear h; obtain ⟨x, S, rfl, ⟨h1, h2, h3, h4⟩, h⟩ := h0
        obtain ⟨ci, rfl⟩ : ∃ ci, r1 = 60 + ci := ⟨r1 - 60, by omega⟩
        rw [show 60 + ci - 60 = ci by omega] at h5 hpos
        exact zw_newA hx hb hown (by omega) h5 (hts _ (zat_in hpos)) (hK4 ci h5) hK2 hR hS h1 h2 (by rw [hRc]; exact h3) (by rw [hRs]; exact h4) hd (fun H1 hR hS => ih _ _ _ _ _ _ h _ _ _ _ hnx hR hS hl hnl h3 h4)
      | new i =>
        simp only [zck, zck2, Bool.and_eq_true, decide_eq_true_eq] at hck
        obtain ⟨hd, ⟨⟨rfl, h13⟩, rfl⟩, hpos⟩ := hck
        obtain ⟨⟨h3, h4⟩, h⟩ := h
        exact zw_new hx hb hts (zin h13) hown (hts _ (zat_in hpos)) (hts _ (zinst h13).1) (hts _ (zinst h13).2) hK1 hR hS h13 (by rw [hRc]; exact h3) (by rw [hRs]; exact h4) hd (fun H1 hR hS => ih _ _ _ _ _ _ h _ _ _ _ hnx hR hS hl hnl h3 h4)
      | iaload =>
        simp only [zck, zck2, Bool.and_eq_true, decide_eq_true_eq] at hck
        obtain ⟨hd, rfl⟩ := hck
        simp only [zw] at h
        have h0 := zi1_inv h; clear h; obtain ⟨i, S, rfl, h⟩ := h0
        have h0 := zr1_inv h; clear h; rcases h0 with ⟨r, S, rfl, hO, hin, h⟩ | ⟨x, S, rfl, h2, hin, h⟩
        · exact zw_iald hx hb hK2 hR hO hin hd (ih _ _ _ _ _ _ h _ _ _ _ hnx hR hS hl hnl huc hus)
        · obtain ⟨t, g1, g2⟩ := hK8 x.toNat h2
          have e9 : zv b ev (.float x) = .ref t := g1
          rw [List.map_cons, List.map_cons, e9]
          exact va_ti hx hb g2 hS hin rfl hd (ih _ _ _ _ _ _ h _ _ _ _ hnx hR hS hl hnl huc hus)
      | baload =>
        simp only [zck, zck2, Bool.and_eq_true, decide_eq_true_eq] at hck
        obtain ⟨hd, rfl⟩ := hck
        simp only [zw] at h
        have h0 := zi1_inv h; clear h; obtain ⟨i, S, rfl, h⟩ := h0
        have h0 := zr1_inv h; clear h; rcases h0 with ⟨r, S, rfl, h⟩ | ⟨x, S, rfl, h2, hin, h⟩
        · exact h.elim
        · obtain ⟨q, hq6, hq⟩ : ∃ q, q < 6 ∧ x.toNat = 20 + q := ⟨x.toNat - 20, by omega, by omega⟩
          rw [hq] at hin h
          rw [zxV_b hq6] at hin h
          have e9 : zv b ev (.float x) = .ref (adV q) := by show ev x.toNat = _; rw [hq]; exact (hK10 q hq6).2.1
          rw [List.map_cons, List.map_cons, e9]
          have hT := (hK9.1 q hq6).2.2.2
          rw [zxB_len hq6] at hT
          exact va_tb hx hb hT hS hin rfl hd (ih _ _ _ _ _ _ h _ _ _ _ hnx hR hS hl hnl huc hus)
      | aaload =>
        simp only [zck, zck2, Bool.and_eq_true, decide_eq_true_eq] at hck
        obtain ⟨hd, rfl⟩ := hck
        simp only [zw] at h
        have h0 := zi1_inv h; clear h; obtain ⟨i, S, rfl, h⟩ := h0
        have h0 := zr1_inv h; clear h; rcases h0 with ⟨r, S, rfl, hO, hin, h⟩ | ⟨x, S, rfl, h⟩
        · exact zw_aald hx hb hK2 hR hO (zcell5 hR hO) hin hK1 hd (ih _ _ _ _ _ _ h _ _ _ _ hnx hR hS hl hnl huc hus)
        · exact h.elim
      | iastore =>
        simp only [zck, zck2, Bool.and_eq_true, decide_eq_true_eq] at hck
        obtain ⟨hd, rfl⟩ := hck
        simp only [zw] at h
        have h0 := zi2_inv h; clear h; obtain ⟨i, x, S, rfl, h⟩ := h0
        have h0 := zr1_inv h; clear h; rcases h0 with ⟨r, S, rfl, hO, hin, h⟩ | ⟨x, S, rfl, h⟩
        · exact zw_iast hx hb hK2 hR hS hO hin hd (fun H1 locs1 hR hS => ih _ _ _ _ _ _ h _ _ _ _ hnx hR hS hl hnl huc hus)
        · exact h.elim
      | aastore =>
        simp only [zck, zck2, Bool.and_eq_true, decide_eq_true_eq] at hck
        obtain ⟨hd, rfl⟩ := hck
        simp only [zw] at h
        have h0 := zr1_inv h; clear h; rcases h0 with ⟨v, S, rfl, h⟩ | ⟨x, S, rfl, h⟩
        · have h0 := zi1_inv h; clear h; obtain ⟨i, S, rfl, h⟩ := h0
          have h0 := zr1_inv h; clear h; rcases h0 with ⟨r, S, rfl, hO, hv, hin, h⟩ | ⟨x, S, rfl, h⟩
          · exact zw_aast hx hb hK2 hR hS hO (zcell5 hR hO) hv hin hK1 hd (fun H1 locs1 hR hS => ih _ _ _ _ _ _ h _ _ _ _ hnx hR hS hl hnl huc hus)
          · exact h.elim
        · exact h.elim
      | arraylength =>
        simp only [zck, zck2, Bool.and_eq_true, decide_eq_true_eq] at hck
        obtain ⟨hd, rfl⟩ := hck
        simp only [zw] at h
        have h0 := zr1_inv h; clear h; rcases h0 with ⟨r, S, rfl, hO, h⟩ | ⟨x, S, rfl, h2, h⟩
        · exact zw_alen hx hb hK2 hR hO hd (ih _ _ _ _ _ _ h _ _ _ _ hnx hR hS hl hnl huc hus)
        · rcases h2 with h2 | h2
          · obtain ⟨t, g1, g2⟩ := hK8 x.toNat h2
            have e9 : zv b ev (.float x) = .ref t := g1
            rw [List.map_cons, e9]
            exact va_tlen hx hb g2 hS rfl hd (ih _ _ _ _ _ _ h _ _ _ _ hnx hR hS hl hnl huc hus)
          · obtain ⟨q, hq6, hq⟩ : ∃ q, q < 6 ∧ x.toNat = 20 + q := ⟨x.toNat - 20, by omega, by omega⟩
            rw [hq, zxV_b hq6] at h
            have e9 : zv b ev (.float x) = .ref (adV q) := by show ev x.toNat = _; rw [hq]; exact (hK10 q hq6).2.1
            rw [List.map_cons, e9]
            have hT := (hK9.1 q hq6).2.2.2
            rw [zxB_len hq6] at hT
            exact va_tlen hx hb hT hS rfl hd (ih _ _ _ _ _ _ h _ _ _ _ hnx hR hS hl hnl huc hus)
      | ireturn =>
        simp only [zw] at h
        split at h
        · obtain ⟨h1, h2⟩ := h
          match r1, hck, h1 with
          | 0, hck, _ =>
            simp only [zck, zck2, Bool.and_eq_true, decide_eq_true_eq] at hck
            obtain ⟨hd, rfl, hrt⟩ := hck
            exact hri _ _ _ _ _ _ _ _ h2 hR hS huc hus hd ⟨_, hrt, rfl⟩
          | 1, hck, h1 =>
            simp only [zck, zck2, Bool.and_eq_true, decide_eq_true_eq] at hck
            obtain ⟨hd, rfl, hrt⟩ := hck
            exact hri _ _ _ _ _ _ _ _ h2 hR hS huc hus hd ⟨_, hrt, by rcases h1 with h1 | h1 <;> (rw [h1]; rfl)⟩
          | 2, hck, h1 =>
            simp only [zck, zck2, Bool.and_eq_true, decide_eq_true_eq] at hck
            obtain ⟨hd, rfl, hrt⟩ := hck
            have h1 : _ = _ := h1
            exact hri _ _ _ _ _ _ _ _ h2 hR hS huc hus hd ⟨_, hrt, by rw [← h1]; exact pk_nc _⟩
          | _ + 3, hck, h1 =>
            simp only [zck, zck2, Bool.and_eq_true, decide_eq_true_eq] at hck
            obtain ⟨hd, rfl, hrt⟩ := hck
            have h1 : _ = _ := h1
            exact hri _ _ _ _ _ _ _ _ h2 hR hS huc hus hd ⟨_, hrt, by rw [← h1]; exact pk_nb _⟩
        · exact h.elim
      | areturn =>
        simp only [zck, zck2, Bool.and_eq_true, decide_eq_true_eq] at hck
        obtain ⟨hd, rfl, hrt⟩ := hck
        simp only [zw] at h
        split at h
        · refine hra _ _ _ _ _ _ _ _ h hR hS huc hus hd ?_
          split at hrt
          · exact Or.inl ⟨_, rfl⟩
          · exact Or.inr ⟨_, rfl⟩
          · cases hrt
        · exact h.elim
      | return_ =>
        simp only [zck, zck2, Bool.and_eq_true, decide_eq_true_eq] at hck
        obtain ⟨hd, rfl, hrt⟩ := hck
        simp only [zw] at h
        split at h
        · exact hrv _ _ _ _ _ _ _ h hR hS huc hus hd hrt
        · exact h.elim
      | invokespecial i =>
        rcases aux with _ | ⟨⟨k0, rk⟩, _ | ⟨⟨k1, ac⟩, _ | ⟨⟨k2, as⟩, _ | ⟨⟨k3, pos⟩, aux⟩⟩⟩⟩
        · simp only [zck, zck2, Bool.and_eq_true, decide_eq_true_eq] at hck
          obtain ⟨hd, rfl, hpos⟩ := hck
          simp only [zw] at h
          have ho := zobj
          rw [Bool.and_eq_true] at ho
          have h0 := zr1_inv h
          clear h
          rcases h0 with ⟨r, S, rfl, hs4, h0, h⟩ | ⟨x, S, rfl, h⟩
          · show W p l e R s m args below meth c H locs uc us Z (F0 m pc0 ls (zrv b r :: S.map (zv b ev)))
            rw [zrv_ref h0]
            exact W.objInit hx hb hown (hts _ (zat_in hpos)) (hts _ (zat_in ho.1)) (hts _ (zat_in ho.2)) rfl (by rw [hml]; exact hl.1) rfl hd (by omega) (by have := zcats (b := b) hev S; show 2 * 0 + _ + 12 ≤ _; omega) (ih _ _ _ _ _ _ h _ _ _ _ hnx hR hS hl hnl huc hus)
          · exact h.elim
        · exact h.elim
        · exact h.elim
        · simp [zck, zck2] at hck
        · simp only [zck, zck2, Bool.and_eq_true, decide_eq_true_eq] at hck
          obtain ⟨hd, rfl, h1r, hcal⟩ := hck
          obtain ⟨y, bytes, maxL, ret, cdy, pc, pk, ps, pi, he, hm20, hcode, hini, hne, hpar, hlink, hst, hnst, hspec, hcis⟩ := zcal_spec hcal
          have h0 := zpop_inv _ _ _ h
          clear h
          obtain ⟨a, S, han, rfl, h⟩ := h0
          rw [List.append_nil] at h
          obtain ⟨⟨hs4, hc1, hc2⟩, hrc, h⟩ := h
          have hrc := zr1_inv hrc
          obtain ⟨hnm, rfl⟩ := hspec rfl
          rcases hrc with ⟨r, As, rfl, hr0⟩ | ⟨x, As, rfl, hf⟩
          · obtain ⟨ad, hphys⟩ : ∃ ad : Nat, zv b ev (.ref r) = .ref ad := ⟨_, zrv_ref hr0⟩
            have kk : ∀ (v : Option Value) (M' : Mm), C r1 (.ref r :: As) M v M' → (∀ (H1 : Heap) (locs1 : List Loc), zRep dC dI cI cA b M' H1 → va_S (fun q => b < q) s.heap H1 locs1 → W p l e R s m args below meth c H1 locs1 (uc + ac) (us + as) Z (F0 m (pc0 + 3) ls ((v.map (zv b ev)).toList ++ S.map (zv b ev)))) → W p l e R s m args below meth c H locs uc us Z (F0 m pc0 ls (((.ref r :: As).reverse ++ S).map (zv b ev))) := by
              intro v M' hcl hkk
              have hM := hC _ _ _ _ _ hcl _ he
              have hp := zpre hS hR hK (.ref r :: As)
              have han' : (As.map (zv b ev)).length = r2 - 1 := by simp at han ⊢; omega
              rw [List.map_cons, hphys] at hp hM
              have hstk : (F0 m pc0 ls (((.ref r :: As).reverse ++ S).map (zv b ev))).stack = (As.map (zv b ev)).reverse ++ .ref ad :: S.map (zv b ev) := by simp [hphys]
              refine zcall (v := v) (M' := M') ?_ hS hkk
              rcases hlink with hlk | ⟨-, hlk⟩
              · exact va_runI (As := As.map (zv b ev)) (rest := S.map (zv b ev)) ⟨hx, hb, hml, hown, hts⟩ hM (cwI (r2 - 1) hts (zgood hcode) rfl rfl rfl (hts _ hini) (hts _ hlk) (hts _ (hnst rfl)) hnm ⟨hne.1, hne.2, hpar⟩ ⟨by show d + 1 ≤ _; exact hRf, by show 8 + (maxL + 11) + 40 * d ≤ _; omega⟩) hp rfl han' hl.1 hstk (by have := zcats (b := b) hev S; show 2 * 0 + _ ≤ 8; omega) hd ⟨by rw [hRc]; exact hc1, by rw [hRs]; exact hc2⟩
              · exact va_runIN (As := As.map (zv b ev)) (rest := S.map (zv b ev)) ⟨hx, hb, hml, hown, hts⟩ hM ⟨va_cnB (r2 - 1) hts (zgood hcode) rfl rfl rfl (hK3 _ hlk) (hts _ hini) ⟨hne.1, hne.2, hpar⟩ ⟨by show d + 1 ≤ _; exact hRf, by show 8 + (maxL + 11) + 40 * d ≤ _; omega⟩, hnm, hts _ (hnst rfl)⟩ hp rfl han' hl.1 hstk (by have := zcats (b := b) hev S; show 2 * 0 + _ ≤ 8; omega) hd ⟨by rw [hRc]; exact hc1, by rw [hRs]; exact hc2⟩
            rcases rk with _ | _ | rk
            · obtain ⟨M', hcl, h⟩ := h
              exact kk none M' hcl (fun H1 locs1 hR hS => ih _ _ _ _ _ _ h _ _ _ _ hnx hR hS hl hnl hc1 hc2)
            · obtain ⟨x, M', hcl, h⟩ := h
              exact kk (some (.int x)) M' hcl (fun H1 locs1 hR hS => ih _ _ _ _ _ _ h _ _ _ _ hnx hR hS hl hnl hc1 hc2)
            · obtain ⟨x, M', hcl, h⟩ := h
              exact kk (some (.ref x)) M' hcl (fun H1 locs1 hR hS => ih _ _ _ _ _ _ h _ _ _ _ hnx hR hS hl hnl hc1 hc2)
          · exact hf.elim
      | invokevirtual i =>
        rcases aux with _ | ⟨⟨k0, rk⟩, _ | ⟨⟨k1, ac⟩, _ | ⟨⟨k2, as⟩, _ | ⟨⟨k3, ci⟩, _ | ⟨⟨k4, pos⟩, aux⟩⟩⟩⟩⟩
        · exact h.elim
        · exact h.elim
        · exact h.elim
        · exact h.elim
        · simp [zck, zck2] at hck
        · simp only [zck, zck2, Bool.and_eq_true, decide_eq_true_eq] at hck
          obtain ⟨hd, rfl, h1r, hcal⟩ := hck
          obtain ⟨y, bytes, maxL, ret, cdy, pc, pk, ps, pi, he, hm20, hcode, hini, hne, hpar, hlink, hst, hnst, hspec, hcis⟩ := zcal_spec hcal
          have h0 := zpop_inv _ _ _ h
          clear h
          obtain ⟨a, S, han, rfl, h⟩ := h0
          rw [List.append_nil] at h
          obtain ⟨⟨hs4, hc1, hc2⟩, hrc, h⟩ := h
          have hrc := zr1_inv hrc
          have hlk : Cond.methodLink own i y ∈ zws := hlink.resolve_right (fun q => by cases q.1)
          obtain ⟨hsel, hcis⟩ := hcis ci rfl
          rcases hrc with ⟨r, As, rfl, hO⟩ | ⟨x, As, rfl, hc100, hx10, hx16⟩
          · obtain ⟨ad, hphys, hcell⟩ : ∃ ad : Nat, zv b ev (.ref r) = .ref ad ∧ ∃ cellB : Cell, H[ad]? = some cellB ∧ cellB.vm.isStatics = false ∧ s.vm.findClass y.cls = some cellB.cls := by
              refine ⟨_, zrv_ref hO.1, ?_⟩
              rcases hcis with ⟨q, -⟩ | ⟨h13, hcl⟩
              · rw [q] at hO
                have h9 := ((hR.2 r hO.1 hO.2.1).2.2 (by rw [hO.2.2]; decide)).1
                rw [hO.2.2] at h9
                rcases h9 with h9 | h9 | h9 | h9 | h9 <;> omega
              · obtain ⟨cell, q1, q2, q3, -⟩ := (hR.2 r hO.1 hO.2.1).1 (by rw [hO.2.2]; exact h13)
                rw [hO.2.2] at q2
                exact ⟨cell, q1, by rw [q3]; rfl, by rw [← hcl, q2]; exact (hK1.1 ci _ (zcl_at h13)).2.1⟩
            have kk : ∀ (v : Option Value) (M' : Mm), C r1 (.ref r :: As) M v M' → (∀ (H1 : Heap) (locs1 : List Loc), zRep dC dI cI cA b M' H1 → va_S (fun q => b < q) s.heap H1 locs1 → W p l e R s m args below meth c H1 locs1 (uc + ac) (us + as) Z (F0 m (pc0 + 3) ls ((v.map (zv b ev)).toList ++ S.map (zv b ev)))) → W p l e R s m args below meth c H locs uc us Z (F0 m pc0 ls (((.ref r :: As).reverse ++ S).map (zv b ev))) := by
              intro v M' hcl hkk
              have hM := hC _ _ _ _ _ hcl _ he
              have hp := zpre hS hR hK (.ref r :: As)
              have han' : (As.map (zv b ev)).length = r2 - 1 := by simp at han ⊢; omega
              rw [List.map_cons, hphys] at hp hM
              have hstk : (F0 m pc0 ls (((.ref r :: As).reverse ++ S).map (zv b ev))).stack = (As.map (zv b ev)).reverse ++ .ref ad :: S.map (zv b ev) := by simp [hphys]
              refine zcall (v := v) (M' := M') ?_ hS hkk
              exact va_runV (C := y.cls) (As := As.map (zv b ev)) (rest := S.map (zv b ev)) ⟨hx, hb, hml, hown, hts⟩ hM ⟨callB_of (r2 - 1) hts (zgood hcode) rfl rfl rfl (hts _ hini) (hts _ hlk) ⟨hne.1, hne.2, hpar⟩ ⟨by show d + 1 ≤ _; exact hRf, by show 8 + (maxL + 11) + 40 * d ≤ _; omega⟩, hts _ (hnst rfl), hts _ hsel⟩ ⟨hp.1, hcell, hp.2⟩ rfl han' hl.1 hstk (by have := zcats (b := b) hev S; show 2 * 0 + _ ≤ 8; omega) hd ⟨by rw [hRc]; exact hc1, by rw [hRs]; exact hc2⟩
            rcases rk with _ | _ | rk
            · obtain ⟨M', hcl, h⟩ := h
              exact kk none M' hcl (fun H1 locs1 hR hS => ih _ _ _ _ _ _ h _ _ _ _ hnx hR hS hl hnl hc1 hc2)
            · obtain ⟨x, M', hcl, h⟩ := h
              exact kk (some (.int x)) M' hcl (fun H1 locs1 hR hS => ih _ _ _ _ _ _ h _ _ _ _ hnx hR hS hl hnl hc1 hc2)
            · obtain ⟨x, M', hcl, h⟩ := h
              exact kk (some (.ref x)) M' hcl (fun H1 locs1 hR hS => ih _ _ _ _ _ _ h _ _ _ _ hnx hR hS hl hnl hc1 hc2)
          · obtain ⟨ad, hphys, hcell⟩ : ∃ ad : Nat, zv b ev (.float x) = .ref ad ∧ ∃ cellB : Cell, H[ad]? = some cellB ∧ cellB.vm.isStatics = false ∧ s.vm.findClass y.cls = some cellB.cls := by
              have g1 := (hK10 (x.toNat - 10) (by omega)).1
              rw [show 10 + (x.toNat - 10) = x.toNat by omega] at g1
              refine ⟨_, g1, ?_⟩
              rcases hcis with ⟨-, hcl⟩ | ⟨h13, -⟩
              · rw [hcl]
                exact vk_recv hK9 (by omega) hS
              · omega
            have kk : ∀ (v : Option Value) (M' : Mm), C r1 (.float x :: As) M v M' → (∀ (H1 : Heap) (locs1 : List Loc), zRep dC dI cI cA b M' H1 → va_S (fun q => b < q) s.heap H1 locs1 → W p l e R s m args below meth c H1 locs1 (uc + ac) (us + as) Z (F0 m (pc0 + 3) ls ((v.map (zv b ev)).toList ++ S.map (zv b ev)))) → W p l e R s m args below meth c H locs uc us Z (F0 m pc0 ls (((.float x :: As).reverse ++ S).map (zv b ev))) := by
              intro v M' hcl hkk
              have hM := hC _ _ _ _ _ hcl _ he
              have hp := zpre hS hR hK (.float x :: As)
              have han' : (As.map (zv b ev)).length = r2 - 1 := by simp at han ⊢; omega
              rw [List.map_cons, hphys] at hp hM
              have hstk : (F0 m pc0 ls (((.float x :: As).reverse ++ S).map (zv b ev))).stack = (As.map (zv b ev)).reverse ++ .ref ad :: S.map (zv b ev) := by simp [hphys]
              refine zcall (v := v) (M' := M') ?_ hS hkk
              exact va_runV (C := y.cls) (As := As.map (zv b ev)) (rest := S.map (zv b ev)) ⟨hx, hb, hml, hown, hts⟩ hM ⟨callB_of (r2 - 1) hts (zgood hcode) rfl rfl rfl (hts _ hini) (hts _ hlk) ⟨hne.1, hne.2, hpar⟩ ⟨by show d + 1 ≤ _; exact hRf, by show 8 + (maxL + 11) + 40 * d ≤ _; omega⟩, hts _ (hnst rfl), hts _ hsel⟩ ⟨hp.1, hcell, hp.2⟩ rfl han' hl.1 hstk (by have := zcats (b := b) hev S; show 2 * 0 + _ ≤ 8; omega) hd ⟨by rw [hRc]; exact hc1, by rw [hRs]; exact hc2⟩
            rcases rk with _ | _ | rk
            · obtain ⟨M', hcl, h⟩ := h
              exact kk none M' hcl (fun H1 locs1 hR hS => ih _ _ _ _ _ _ h _ _ _ _ hnx hR hS hl hnl hc1 hc2)
            · obtain ⟨x, M', hcl, h⟩ := h
              exact kk (some (.int x)) M' hcl (fun H1 locs1 hR hS => ih _ _ _ _ _ _ h _ _ _ _ hnx hR hS hl hnl hc1 hc2)
            · obtain ⟨x, M', hcl, h⟩ := h
              exact kk (some (.ref x)) M' hcl (fun H1 locs1 hR hS => ih _ _ _ _ _ _ h _ _ _ _ hnx hR hS hl hnl hc1 hc2)
      | invokestatic i =>
        rcases aux with _ | ⟨⟨k0, rk⟩, _ | ⟨⟨k1, ac⟩, _ | ⟨⟨k2, as⟩, _ | ⟨⟨k3, pos⟩, aux⟩⟩⟩⟩
        · simp only [zck, zck2, Bool.and_eq_true, decide_eq_true_eq] at hck
          obtain ⟨hd, rfl, hpos⟩ := hck
          simp only [zw] at h
          have ha := zacp
          simp only [Bool.and_eq_true] at ha
          have e9 : nativeFrameWords "java/lang/System" "arraycopy" 5 ≤ 20 := by decide +kernel
          split at h
          · obtain ⟨⟨g0, g1, g2, g3, g4, g5, g6, g7⟩, h⟩ := h
            exact zw_copy hx hb (by rw [hml]; exact hl.1.symm) hown (hts _ (zat_in hpos)) (hts _ (zat_in ha.1.1)) (hts _ (zat_in ha.1.2)) (hts _ (zat_in ha.2)) hK2 hR hS g1 g2 g3 g4 g5 g6 g7 (by omega) (Nat.le_trans (Nat.add_le_add_right (zcats (b := b) hev _) _) (by omega)) hd (fun H1 locs1 hR hS => ih _ _ _ _ _ _ h _ _ _ _ hnx hR hS hl hnl huc hus)
          · exact h.elim
        · exact h.elim
        · exact h.elim
        · simp [zck, zck2] at hck
        · simp only [zck, zck2, Bool.and_eq_true, decide_eq_true_eq] at hck
          obtain ⟨hd, rfl, hcal⟩ := hck
          obtain ⟨y, bytes, maxL, ret, cdy, pc, pk, ps, pi, he, hm20, hcode, hini, hne, hpar, hlink, hst, hnst, hspec, hcis⟩ := zcal_spec hcal
          have h0 := zpop_inv _ _ _ h
          clear h
          obtain ⟨a, S, han, rfl, h⟩ := h0
          rw [List.append_nil] at h
          obtain ⟨⟨hs4, hc1, hc2⟩, h⟩ := h
          have hlk : Cond.methodLink own i y ∈ zws := hlink.resolve_right (fun q => by cases q.1)
          have kk : ∀ (v : Option Value) (M' : Mm), C r1 a M v M' → (∀ (H1 : Heap) (locs1 : List Loc), zRep dC dI cI cA b M' H1 → va_S (fun q => b < q) s.heap H1 locs1 → W p l e R s m args below meth c H1 locs1 (uc + ac) (us + as) Z (F0 m (pc0 + 3) ls ((v.map (zv b ev)).toList ++ S.map (zv b ev)))) → W p l e R s m args below meth c H locs uc us Z (F0 m pc0 ls ((a.reverse ++ S).map (zv b ev))) := by
            intro v M' hcl hkk
            have hM := hC _ _ _ _ _ hcl _ he
            refine zcall (v := v) (M' := M') ?_ hS hkk
            exact va_runS (As := a.map (zv b ev)) (rest := S.map (zv b ev)) ⟨hx, hb, hml, hown, hts⟩ hM ⟨callB_of r2 hts (zgood hcode) rfl rfl rfl (hts _ hini) (hts _ hlk) ⟨hne.1, hne.2, hpar⟩ ⟨by show d + 1 ≤ _; exact hRf, by show 8 + (maxL + 11) + 40 * d ≤ _; omega⟩, hts _ (hst rfl)⟩ (zpre hS hR hK a) rfl (by simp [han]) hl.1 (by simp) (by have := zcats (b := b) hev S; show 2 * 0 + _ ≤ 8; omega) hd ⟨by rw [hRc]; exact hc1, by rw [hRs]; exact hc2⟩
          rcases rk with _ | _ | rk
          · obtain ⟨M', hcl, h⟩ := h
            exact kk none M' hcl (fun H1 locs1 hR hS => ih _ _ _ _ _ _ h _ _ _ _ hnx hR hS hl hnl hc1 hc2)
          · obtain ⟨x, M', hcl, h⟩ := h
            exact kk (some (.int x)) M' hcl (fun H1 locs1 hR hS => ih _ _ _ _ _ _ h _ _ _ _ hnx hR hS hl hnl hc1 hc2)
          · obtain ⟨x, M', hcl, h⟩ := h
            exact kk (some (.ref x)) M' hcl (fun H1 locs1 hR hS => ih _ _ _ _ _ _ h _ _ _ _ hnx hR hS hl hnl hc1 hc2)
      | _ => exact h.elim
