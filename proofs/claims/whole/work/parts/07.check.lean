/-! WHAT A CODE LIST MUST BE: the bytes' own instructions, the tables' own words */ -/
def zws : List Cond := lw_tbl.filter goodWord
def zisN : Cond → Bool
  | .methodLinkNest .. => true
  | .fieldLinkNest .. => true
  | _ => false
def zNw : List Cond := lw_tbl.filter zisN
def zat (i : Nat) (w : Cond) : Bool := decide (lw_tbl[i]? = some w) && goodWord w
def znat (i : Nat) (w : Cond) : Bool := decide (lw_tbl[i]? = some w) && zisN w
theorem zat_in {i : Nat} {w : Cond} (h : zat i w = true) : w ∈ zws := by
  simp only [zat, Bool.and_eq_true, decide_eq_true_eq] at h
  exact List.mem_filter.mpr ⟨List.mem_of_getElem? h.1, h.2⟩
theorem znat_in {i : Nat} {w : Cond} (h : znat i w = true) : w ∈ zNw := by
  simp only [znat, Bool.and_eq_true, decide_eq_true_eq] at h
  exact List.mem_filter.mpr ⟨List.mem_of_getElem? h.1, h.2⟩
/-- a method: name, bytes, locals, answer's type, new cells, new slots, code, positions of its words (code, static or instance, selects, initialized) -/
abbrev zMe : Type := MethodName × ByteArray × Nat × Option FieldType × Nat × Nat × List zEn × Nat × Nat × Nat × Nat
def zstr : List (String × Nat × String) := [("PhoneBench$TextReader", 95, "sale"), ("PhoneBench$TextReader", 101, "scrap"), ("PhoneBench$TextReader", 103, "back"), ("PhoneBench$TextReader", 132, "kfsd"), ("PhoneBench$TextReader", 137, "kgd"), ("PhoneBench$TextReader", 139, "bsf")]
def zpo : List (Int32 × Nat) → Nat
  | _ :: q :: _ => q.2
  | _ => 0
/-- the t-th instruction stands at z -/
def ztg (cd : List zEn) (t : Nat) (z : Int) : Bool := match zj cd t with
  | e :: _ => decide ((e.1 : Int) = z)
  | [] => false
def ztb (cd : List zEn) (pc : Nat) : Int → List Int → List (Int32 × Nat) → Bool
  | lo, o :: os, (k, t) :: l => decide (k.toInt = lo) && ztg cd t (pc + o) && ztb cd pc (lo + 1) os l
  | _, [], [] => true
  | _, _, _ => false
def zlk (cd : List zEn) (pc : Nat) : List (Int × Int) → List (Int32 × Nat) → Bool
  | (a, o) :: os, (k, t) :: l => decide (k.toInt = a) && ztg cd t (pc + o) && zlk cd pc os l
  | [], [] => true
  | _, _ => false
/-- a callee's own words, and the link to it -/
def zcal (own : String) (ML : List zMe) (i r1 n ac as pos : Nat) (special : Bool) (ci : Option Nat) (stat : Bool) : Bool := match ML[r1]? with
  | none => false
  | some (y, bytes, maxL, ret, mc, ms, _, pc, pk, ps, pi) => decide (ac = mc) && decide (as = ms) && decide (maxL ≤ 20) && zat pc (.code y bytes maxL ret) && zat pi (.initialized y.cls) && decide (y.cls ≠ "java/lang/invoke/MethodHandle" ∧ y.cls ≠ "java/lang/invoke/VarHandle") && decide ((parseMethodDescriptor y.desc).map (fun d => d.parameters.length) = some n) &&
    (zat pos (.methodLink own i y) || (special && znat pos (.methodLinkNest own i y "PhoneBench"))) && (bif stat then zat pk (.static y) else zat pk (.instanceMethod y)) && (bif special then decide (y.name = "<init>" ∧ ret = none) else true) &&
    (match ci with
      | none => true
      | some c => zat ps (.selects y.cls y y) && (bif c == 100 then decide (y.cls = "java/lang/String") else decide (c < 13) && decide (zRC c = y.cls)))
def zck2 (own mn : String) (nL : Nat) (rt : Option FieldType) (ML : List zMe) (cd : List zEn) (pc : Nat) (ins : Instr) (len r1 r2 : Nat) (aux : List (Int32 × Nat)) (k : Int32) : Bool := match ins with
  | .nop => decide (len = 0)
  | .iconst i => decide (len = 1) && decide (Int32.ofInt i = k)
  | .bipush i => decide (len = 2) && decide ((Int8.ofInt i).toInt32 = k)
  | .sipush i => decide (len = 3) && decide ((Int16.ofInt i).toInt32 = k)
  | .ldc i => decide (len = 2) && (match r1 with
    | 0 => zat (zkd aux) (.constant own i k)
    | t + 1 => decide (t < 6) && decide ((zstr.getD t ("", 0, "")).1 = own) && decide ((zstr.getD t ("", 0, "")).2.1 = i))
  | .ldc_w i => decide (len = 3) && zat (zkd aux) (.constant own i k)
  | .ldc2_w i => decide (len = 3) && zat (zkd aux) (.constantLong own i k.toInt64)
  | .lconst i => decide (len = 1) && decide (Int64.ofNat (i : Nat) = k.toInt64)
  | .iload_n i => decide (len = 1) && decide ((i : Nat) = r1)
  | .lload_n i => decide (len = 1) && decide ((i : Nat) = r1)
  | .aload_n i => decide (len = 1) && decide ((i : Nat) = r1)
  | .iload i => decide (len = 2) && decide (i = r1)
  | .lload i => decide (len = 2) && decide (i = r1)
  | .aload i => decide (len = 2) && decide (i = r1)
  | .istore_n i => decide (len = 1) && decide ((i : Nat) = r1) && decide (r1 < nL)
  | .astore_n i => decide (len = 1) && decide ((i : Nat) = r1) && decide (r1 < nL)
  | .istore i => decide (len = 2) && decide (i = r1) && decide (r1 < nL)
  | .astore i => decide (len = 2) && decide (i = r1) && decide (r1 < nL)
  | .iinc i n => decide (len = 3) && decide (i = r1) && decide (r1 < nL) && decide (Int32.ofInt n = k)
  | .goto o => decide (len = 3) && ztg cd r1 (pc + o)
  | .if_icmp _ o => decide (len = 3) && ztg cd r1 (pc + o)
  | .ifCond _ o => decide (len = 3) && ztg cd r1 (pc + o)
  | .ifnonnull o => decide (len = 3) && ztg cd r1 (pc + o)
  | .tableswitch d lo hi offs => ztg cd r1 (pc + d) && ztb cd pc lo offs.toList aux && decide (hi = lo + (offs.toList.length : Int) - 1)
  | .lookupswitch d ps => ztg cd r1 (pc + d) && zlk cd pc ps.toList aux && (ps.toList.zip (ps.toList.drop 1)).all (fun (a, next) => a.1 < next.1)
  | .getfield i => decide (len = 3) && (bif decide (r1 = 100) then zat (zpo aux) (.fieldLink own i "java/lang/String" (bif decide (r2 = 0) then "value" else "coder") (bif decide (r2 = 0) then "[B" else "B")) else decide (r1 < 13) && decide (r2 < zNC r1) && decide (zkd aux = zfk (zTy r1 r2)) && zat (zpo aux) (.fieldLink own i (zTC r1 r2).1 (zTC r1 r2).2.1 (zTC r1 r2).2.2.1))
  | .putfield i => decide (len = 3) && decide (r1 < 13) && decide (r2 < zNC r1) && decide (zkd aux = zfk (zTy r1 r2)) && zat (zpo aux) (.fieldLink own i (zTC r1 r2).1 (zTC r1 r2).2.1 (zTC r1 r2).2.2.1) && decide ((zTC r1 r2).2.2.2 = true → mn = "<init>" ∧ (zTC r1 r2).1 = own)
  | .getstatic i => decide (len = 3) && (match r1 with
    | 0 => znat (zkd aux) (.fieldLinkNest own i "PhoneBench" "ABOVE" "[I" "PhoneBench")
    | 1 => zat (zkd aux) (.fieldLink own i "java/lang/String" "COMPACT_STRINGS" "Z")
    | _ + 2 => zat (zkd aux) (.fieldLink own i "jdk/internal/util/Preconditions" "SIOOBE_FORMATTER" "Ljava/util/function/BiFunction;"))
  | .newarray t => decide (len = 2) && decide (t = .int)
  | .anewarray i => decide (len = 3) && decide (60 ≤ r1) && decide (r1 - 60 = 2 ∨ r1 - 60 = 3 ∨ r1 - 60 = 5 ∨ r1 - 60 = 7 ∨ r1 - 60 = 9) && zat (zkd aux) (.classLink own i (zRC (r1 - 60)))
  | .new i => decide (len = 3) && decide (r1 < 13) && decide (r2 = zNC r1) && zat (zkd aux) (.classLink own i (zRC r1))
  | .invokespecial i => decide (len = 3) && (match aux with
    | [] => zat r1 (.methodLink own i objectInit)
    | (_, _) :: (_, ac) :: (_, as) :: (_, pos) :: _ => decide (1 ≤ r2) && zcal own ML i r1 (r2 - 1) ac as pos true none false
    | [_] => true
    | _ => false)
  | .invokevirtual i => decide (len = 3) && (match aux with
    | (_, _) :: (_, ac) :: (_, as) :: (_, ci) :: (_, pos) :: _ => decide (1 ≤ r2) && zcal own ML i r1 (r2 - 1) ac as pos false (some ci) false
    | [_] => true
    | _ => false)
  | .invokestatic i => decide (len = 3) && (match aux with
    | [] => zat r1 (.methodLink own i arraycopyName)
    | (_, _) :: (_, ac) :: (_, as) :: (_, pos) :: _ => zcal own ML i r1 r2 ac as pos false none true
    | [_] => true
    | _ => false)
  | .ireturn => decide (len = 1) && (match r1 with
    | 0 => decide (rt = some .int)
    | 1 => decide (rt = some .boolean)
    | 2 => decide (rt = some .char)
    | _ + 3 => decide (rt = some .byte))
  | .areturn => decide (len = 1) && (match rt with
    | some (.object _) => true
    | some (.array _) => true
    | _ => false)
  | .return_ => decide (len = 1) && decide (rt = none)
  | _ => decide (len = 1)
def zck (own mn : String) (cc : ByteArray) (nL : Nat) (rt : Option FieldType) (ML : List zMe) (cd : List zEn) (e : zEn) : Bool :=
  (match e.2.1 with
    | .nop => true
    | _ => decide (decode cc e.1 = .ok (e.2.1, e.2.2.1))) && zck2 own mn nL rt ML cd e.1 e.2.1 e.2.2.1 e.2.2.2.1 e.2.2.2.2.1 e.2.2.2.2.2.1 e.2.2.2.2.2.2
def zchain : List zEn → Bool
  | [] => true
  | e :: cs => (match cs with
    | [] => true
    | e2 :: _ => decide (e2.1 = e.1 + e.2.2.1)) && zchain cs
def zcode (own mn : String) (cc : ByteArray) (nL : Nat) (rt : Option FieldType) (ML : List zMe) (cd : List zEn) : Bool := cd.all (zck own mn cc nL rt ML cd) && zchain cd && (match cd with
  | [] => false
  | e :: _ => decide (e.1 = 0))
theorem zj_mem : ∀ (cd : List zEn) (i : Nat) (e : zEn) (cs : List zEn), zj cd i = e :: cs → e ∈ cd
  | cd, 0, e, cs, h => by
    have : cd = e :: cs := by cases cd <;> exact h
    rw [this]; exact List.mem_cons_self
  | [], _ + 1, e, cs, h => by cases h
  | _ :: cd, i + 1, e, cs, h => List.mem_cons_of_mem _ (zj_mem cd i e cs h)
theorem zj_next : ∀ (cd : List zEn) (i : Nat) (e : zEn) (cs : List zEn), zj cd i = e :: cs → zj cd (i + 1) = cs
  | cd, 0, e, cs, h => by
    have : cd = e :: cs := by cases cd <;> exact h
    rw [this]; cases cs <;> rfl
  | [], _ + 1, e, cs, h => by cases h
  | _ :: cd, i + 1, e, cs, h => zj_next cd i e cs h
theorem zj_chain : ∀ (cd : List zEn) (i : Nat), zchain cd = true → zchain (zj cd i) = true
  | cd, 0, h => by cases cd <;> exact h
  | [], _ + 1, h => rfl
  | e :: cd, i + 1, h => by
    unfold zchain at h
    rw [Bool.and_eq_true] at h
    exact zj_chain cd i h.2
/-- the code goes on with cs, which begins at pc -/
def zon (cd cs : List zEn) (pc : Nat) : Prop := (∃ i, zj cd i = cs) ∧ match cs with
  | [] => True
  | e :: _ => e.1 = pc
theorem zon_next {cd cs : List zEn} {e : zEn} {pc : Nat} (hch : zchain cd = true) (h : zon cd (e :: cs) pc) : zon cd cs (pc + e.2.2.1) := by
  obtain ⟨⟨i, hi⟩, h2⟩ := h
  refine ⟨⟨i + 1, zj_next _ _ _ _ hi⟩, ?_⟩
  have h3 := zj_chain cd i hch
  rw [hi] at h3
  unfold zchain at h3
  rw [Bool.and_eq_true] at h3
  cases cs with
  | nil => trivial
  | cons e2 cs =>
    have h4 := of_decide_eq_true h3.1
    show e2.1 = _
    rw [h4]
    have h2 : e.1 = pc := h2
    rw [h2]
theorem zon_jump {cd : List zEn} {t : Nat} {z : Int} (h : ztg cd t z = true) : ∃ tgt : Nat, (tgt : Int) = z ∧ zon cd (zj cd t) tgt := by
  unfold ztg at h
  split at h
  · rename_i e cs he
    refine ⟨e.1, of_decide_eq_true h, ⟨t, rfl⟩, ?_⟩
    rw [he]
  · cases h
def zmok (ML : List zMe) (me : zMe) : Prop := plainFor me.1 = true ∧ zcode me.1.cls me.1.name me.2.1 me.2.2.1 me.2.2.2.1 ML me.2.2.2.2.2.2.1 = true ∧ me.2.2.1 ≤ 20
def zisp : Instr → Bool
  | .putfield _ => true
  | _ => false
