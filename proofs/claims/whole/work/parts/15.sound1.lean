/-! SMALL ROWS FOR THE SOUNDNESS -/
theorem zrv_nr (b r : Nat) : zrv b r = .null ∨ ∃ t : Nat, zrv b r = .ref t := by
  unfold zrv
  split
  · exact Or.inl rfl
  · exact Or.inr ⟨_, rfl⟩
theorem zu32 {n : Nat} (h : n < 1000) : (UInt32.ofNat n).toNat = n := by
  have h1 : (UInt32.ofNat n).toNat = n % 2 ^ 32 := by simp
  rw [h1]
  omega
theorem zlo_at {ls : Array Slot} {nL b i : Nat} {ev : Nat → Value} {L : List Value} {v : Value} (hl : lv_has ls nL (zlv b ev 0 L)) (h : zLo L i = v) (hn : ∀ q, v ≠ .retAddr q) : ls[i]? = some (.val (zv b ev v)) := by
  have h1 := zlv_in (b := b) (ev := ev) L 0 i v h hn
  rw [Nat.zero_add] at h1
  exact hl.2.2 _ h1
theorem zst_has {ls : Array Slot} {nL b i : Nat} {ev : Nat → Value} {L : List Value} {v : Value} (hev : zev ev) (hnl : znl L = true) (h : lv_has ls nL ((i, zv b ev v) :: (zlv b ev 0 L).filter (fun q => !(q.1 == i) && !(q.1 + 1 == i && q.2.category == 2)))) : lv_has ls nL (zlv b ev 0 (zSe L i v)) := by
  refine ⟨h.1, h.2.1, fun q hq => h.2.2 q ?_⟩
  rcases zlv_set L 0 i v q hq with h1 | ⟨h1, h2, -⟩
  · rw [h1, Nat.zero_add]; exact List.mem_cons_self
  · refine List.mem_cons_of_mem _ (List.mem_filter.mpr ⟨h1, ?_⟩)
    have h3 := zlv_cat (b := b) hev L 0 q hnl h1
    rw [Nat.zero_add] at h2
    simp [h2, h3]
theorem znl_set : ∀ (L : List Value) (i : Nat) (v : Value), znl L = true → znl [v] = true → znl (zSe L i v) = true
  | [], _, _, _, _ => rfl
  | w :: L, 0, v, h, hv => by
    unfold znl at h hv
    rw [Bool.and_eq_true] at h hv
    show (_ && znl L) = true
    rw [Bool.and_eq_true]
    exact ⟨hv.1, h.2⟩
  | w :: L, i + 1, v, h, hv => by
    unfold znl at h
    rw [Bool.and_eq_true] at h
    show (_ && znl (zSe L i v)) = true
    rw [Bool.and_eq_true]
    exact ⟨h.1, znl_set L i v h.2 hv⟩
theorem zns_no {cd : List zEn} {e : zEn} {L : List Value} (hm : e ∈ cd) (he : zsti e.2.1 = true) (h : (znl L || zns cd) = true) : znl L = true := by
  rw [Bool.or_eq_true] at h
  rcases h with h | h
  · exact h
  · have h2 := List.all_eq_true.mp h e hm
    simp [he] at h2
section ZS1
variable {p : Program} {l : Launch} {e : Env} {R : Room} {s : State} {m : MethodId} {args : Array Value} {below : List Frame} {meth : Method} {c : Code} {H : Heap} {locs : List Loc} {cells slots : Nat} {Q : State → Prop} {cc : ByteArray} {pc : Nat} {ls : Array Slot} {rest : List Value}
theorem zw_aload_n (hx : p.tables.exec = Jvm.exec) (hb : c.code = cc) {k : Fin 4} {i : Nat} {w : Value} (hw : w = .null ∨ ∃ t : Nat, w = .ref t) (hdg : decode cc pc = .ok (.aload_n k, 1)) (hi : (k : Nat) = i) (hl : ls[i]? = some (.val w))
    (kk : W p l e R s m args below meth c H locs cells slots Q (F0 m (pc + 1) ls (w :: rest))) : W p l e R s m args below meth c H locs cells slots Q (F0 m pc ls rest) := by
  rcases hw with rfl | ⟨t, rfl⟩
  · exact lv_aload_nN hx hb hdg hi hl kk
  · exact lv_aload_n hx hb hdg hi hl kk
theorem zw_aload (hx : p.tables.exec = Jvm.exec) (hb : c.code = cc) {i : Nat} {w : Value} (hw : w = .null ∨ ∃ t : Nat, w = .ref t) (hdg : decode cc pc = .ok (.aload i, 2)) (hl : ls[i]? = some (.val w))
    (kk : W p l e R s m args below meth c H locs cells slots Q (F0 m (pc + 2) ls (w :: rest))) : W p l e R s m args below meth c H locs cells slots Q (F0 m pc ls rest) := by
  rcases hw with rfl | ⟨t, rfl⟩
  · exact lv_aloadN hx hb hdg hl kk
  · exact lv_aload hx hb hdg hl kk
theorem zw_astore_n (hx : p.tables.exec = Jvm.exec) (hb : c.code = cc) {k : Fin 4} {i nL : Nat} {w : Value} {lv : List (Nat × Value)} (hw : w = .null ∨ ∃ t : Nat, w = .ref t) (hdg : decode cc pc = .ok (.astore_n k, 1)) (hi : (k : Nat) = i) (h : lv_has ls nL lv) (hn : i < nL)
    (kk : ∀ ls' : Array Slot, lv_has ls' nL ((i, w) :: lv.filter (fun q => !(q.1 == i) && !(q.1 + 1 == i && q.2.category == 2))) → W p l e R s m args below meth c H locs cells slots Q (F0 m (pc + 1) ls' rest)) : W p l e R s m args below meth c H locs cells slots Q (F0 m pc ls (w :: rest)) := by
  rcases hw with rfl | ⟨t, rfl⟩
  · exact lv_astore_nN hx hb hdg hi h hn rfl kk
  · exact lv_astore_n hx hb hdg hi h hn rfl kk
theorem zw_astore (hx : p.tables.exec = Jvm.exec) (hb : c.code = cc) {i nL : Nat} {w : Value} {lv : List (Nat × Value)} (hw : w = .null ∨ ∃ t : Nat, w = .ref t) (hdg : decode cc pc = .ok (.astore i, 2)) (h : lv_has ls nL lv) (hn : i < nL)
    (kk : ∀ ls' : Array Slot, lv_has ls' nL ((i, w) :: lv.filter (fun q => !(q.1 == i) && !(q.1 + 1 == i && q.2.category == 2))) → W p l e R s m args below meth c H locs cells slots Q (F0 m (pc + 2) ls' rest)) : W p l e R s m args below meth c H locs cells slots Q (F0 m pc ls (w :: rest)) := by
  rcases hw with rfl | ⟨t, rfl⟩
  · exact lv_astoreN hx hb hdg h hn rfl kk
  · exact lv_astore hx hb hdg h hn rfl kk
theorem zw_ifnonnull (hx : p.tables.exec = Jvm.exec) (hb : c.code = cc) {off : Int} {tgt b r : Nat} (hdg : decode cc pc = .ok (.ifnonnull off, 3)) (ht : (pc : Int) + off = (tgt : Int)) (k1 : r = 0 → W p l e R s m args below meth c H locs cells slots Q (F0 m (pc + 3) ls rest)) (k2 : ¬ r = 0 → W p l e R s m args below meth c H locs cells slots Q (F0 m tgt ls rest)) : W p l e R s m args below meth c H locs cells slots Q (F0 m pc ls (zrv b r :: rest)) := by
  by_cases h : r = 0
  · subst h
    exact lv_ifnonnullN hx hb hdg (k1 rfl)
  · rw [zrv_ref (by omega)]
    exact lv_ifnonnull hx hb hdg ht (k2 h)
end ZS1
/-- a table's row: the place of the key, or none -/
theorem ztb_sw {cd : List zEn} {pc : Nat} {x : Int32} {f : Nat → Prop} : ∀ (os : List Int) (l : List (Int32 × Nat)) (lo : Int) (d : Nat), ztb cd pc lo os l = true → zsw x l d f → (∃ (j : Nat) (o : Int) (t : Nat), os[j]? = some o ∧ x.toInt = lo + j ∧ ztg cd t (pc + o) = true ∧ f t) ∨ ((x.toInt < lo ∨ lo + (os.length : Int) ≤ x.toInt) ∧ f d)
  | [], [], lo, d, _, hf => Or.inr ⟨by simp; omega, hf⟩
  | [], _ :: _, lo, d, h, _ => by simp [ztb] at h
  | _ :: _, [], lo, d, h, _ => by simp [ztb] at h
  | o :: os, (k, t) :: l, lo, d, h, hf => by
    simp only [ztb, Bool.and_eq_true, decide_eq_true_eq] at h
    obtain ⟨⟨h1, h2⟩, h3⟩ := h
    unfold zsw at hf
    split at hf
    · rename_i hk
      exact Or.inl ⟨0, o, t, rfl, by rw [hk, h1]; simp, h2, hf⟩
    · rename_i hk
      have hne : x.toInt ≠ lo := fun q => hk (Int32.toInt_inj.mp (by rw [h1]; exact q))
      rcases ztb_sw os l (lo + 1) d h3 hf with ⟨j, o', t', g1, g2, g3⟩ | ⟨g1, g2⟩
      · exact Or.inl ⟨j + 1, o', t', g1, by rw [g2]; push_cast; omega, g3⟩
      · refine Or.inr ⟨?_, g2⟩
        simp only [List.length_cons]
        push_cast
        omega
theorem zlk_sw {cd : List zEn} {pc : Nat} {x : Int32} {f : Nat → Prop} {dflt : Int} : ∀ (os : List (Int × Int)) (l : List (Int32 × Nat)) (d : Nat), zlk cd pc os l = true → ztg cd d (pc + dflt) = true → zsw x l d f → ∃ (o : Int) (t : Nat), Op.lookupswitch.offset os dflt x.toInt = o ∧ ztg cd t (pc + o) = true ∧ f t
  | [], [], d, _, hd, hf => ⟨dflt, d, rfl, hd, hf⟩
  | [], _ :: _, d, h, _, _ => by simp [zlk] at h
  | _ :: _, [], d, h, _, _ => by simp [zlk] at h
  | (a, o) :: os, (k, t) :: l, d, h, hd, hf => by
    simp only [zlk, Bool.and_eq_true, decide_eq_true_eq] at h
    obtain ⟨⟨h1, h2⟩, h3⟩ := h
    unfold zsw at hf
    split at hf
    · rename_i hk
      refine ⟨o, t, ?_, h2, hf⟩
      rw [Op.lookupswitch.offset_cons, if_pos (by rw [hk, h1])]
    · rename_i hk
      obtain ⟨o', t', g1, g2⟩ := zlk_sw os l d h3 hd hf
      exact ⟨o', t', by rw [lv_osw hk h1]; exact g1, g2⟩
