/-! booleans and texts stay what they are -/
/-- booleans are booleans, rows of texts hold texts -/
def zTp (M : Mm) : Prop := (∀ r, r ≤ mZ M → mT M r = 3 → ∀ j, (j = 6 ∨ j = 7 ∨ j = 10) → mI M r j = 0 ∨ mI M r j = 1) ∧ (∀ r, r ≤ mZ M → mT M r = 69 → ∀ k, mR M r k = 0 ∨ zO M (mR M r k) 9)
def zte (e : zEn) : Bool := match e.2.1 with
  | .putfield _ => !(e.2.2.2.1 == 69) && ((zkd e.2.2.2.2.2.1 == 1) || !(e.2.2.2.1 == 3 && (e.2.2.2.2.1 == 6 || e.2.2.2.2.1 == 7 || e.2.2.2.2.1 == 10)))
  | _ => true
def okc (cs : List zEn) : Prop := ∀ e, e ∈ cs → zte e = true
theorem okj {cd : List zEn} (h : okc cd) : ∀ t, okc (zj cd t) := by
  intro t
  induction t generalizing cd with
  | zero => cases cd <;> exact h
  | succ t ih =>
    cases cd with
    | nil => exact h
    | cons e cd => exact ih (fun x hx => h x (List.mem_cons_of_mem _ hx))
theorem okt {e : zEn} {cs : List zEn} (h : okc (e :: cs)) : okc cs := fun x hx => h x (List.mem_cons_of_mem _ hx)
theorem zTp_wI {M : Mm} {r j : Nat} {v : Int32} (h : zTp M) (hr : mT M r = 3 → (j = 6 ∨ j = 7 ∨ j = 10) → v = 0 ∨ v = 1) : zTp (wI M r j v) := by
  refine ⟨fun r' h1 h2 j' h3 => ?_, h.2⟩
  rw [mI_wI]
  split
  · rename_i e
    subst e
    split
    · rename_i e2
      subst e2
      exact hr h2 h3
    · exact h.1 _ h1 h2 _ h3
  · exact h.1 _ h1 h2 _ h3
theorem zTp_wC {M : Mm} {r0 sp r1 dp n : Nat} (h : zTp M) (hr : mT M r1 = 50) : zTp (wC M r0 sp r1 dp n) := by
  refine ⟨fun r' h1 h2 j' h3 => ?_, h.2⟩
  rw [mI_wC]
  split
  · rename_i e
    subst e
    have h2 : mT M r' = 3 := h2
    omega
  · exact h.1 _ h1 h2 _ h3
theorem zTp_wR {M : Mm} {r j v : Nat} (h : zTp M) (hr : mT M r = 69 → v = 0 ∨ zO M v 9) : zTp (wR M r j v) := by
  refine ⟨h.1, fun r' h1 h2 k => ?_⟩
  show mR (wR M r j v) r' k = 0 ∨ zO M (mR (wR M r j v) r' k) 9
  have e : mR (wR M r j v) r' k = if r' = r then (if k = j then v else mR M r' k) else mR M r' k := rfl
  rw [e]
  split
  · rename_i q
    subst q
    split
    · exact hr h2
    · exact h.2 _ h1 h2 _
  · exact h.2 _ h1 h2 _
theorem zTp_wN {M : Mm} {t n : Nat} (h : zTp M) : zTp (wN M t n) := by
  have eZ : mZ (wN M t n) = mZ M + 1 := rfl
  have eI : ∀ r k, mI (wN M t n) r k = if r = mZ M + 1 then 0 else mI M r k := fun _ _ => rfl
  have eR : ∀ r k, mR (wN M t n) r k = if r = mZ M + 1 then 0 else mR M r k := fun _ _ => rfl
  have eT : ∀ r, mT (wN M t n) r = if r = mZ M + 1 then t else mT M r := fun _ => rfl
  refine ⟨fun r h1 h2 j h3 => ?_, fun r h1 h2 k => ?_⟩
  · rw [eI]
    rw [eT] at h2
    split
    · exact Or.inl rfl
    · rename_i q
      rw [if_neg q] at h2
      exact h.1 r (by omega) h2 j h3
  · rw [eR]
    rw [eT] at h2
    split
    · exact Or.inl rfl
    · rename_i q
      rw [if_neg q] at h2
      rcases h.2 r (by omega) h2 k with c | c
      · exact Or.inl c
      · refine Or.inr ⟨c.1, by have := c.2.1; omega, ?_⟩
        rw [eT, if_neg (by have := c.2.1; omega)]
        exact c.2.2
def zY (p : zQt) (A : Prop) : Prop := A → ∃ v M', p v M' ∧ zTp M'
theorem zY_f {p : zQt} : zY p False := fun h => h.elim
theorem zY_ret {p : zQt} {v0 : Option Value} {M0 : Mm} (hM : zTp M0) : zY p (p v0 M0) := fun h => ⟨v0, M0, h, hM⟩
theorem zY_and {p : zQt} {c A : Prop} (h : c → zY p A) : zY p (c ∧ A) := fun ⟨h1, h2⟩ => h h1 h2
theorem zY_ite {p : zQt} {c : Prop} [Decidable c] {A A' : Prop} (h : zY p A) (h' : zY p A') : zY p (if c then A else A') := by
  split
  · exact h
  · exact h'
theorem zY_ex {α : Type} {p : zQt} {A : α → Prop} (h : ∀ x, zY p (A x)) : zY p (∃ x, A x) := fun ⟨x, q⟩ => h x q
theorem zY_i1 {p : zQt} {S : List Value} {f : Int32 → List Value → Prop} (h : ∀ x S, zY p (f x S)) : zY p (zi1 S f) := by
  match S with
  | .int x :: S => exact h x S
  | [] => exact zY_f
  | .ref _ :: _ => exact zY_f
  | .null :: _ => exact zY_f
  | .long _ :: _ => exact zY_f
  | .float _ :: _ => exact zY_f
  | .double _ :: _ => exact zY_f
  | .retAddr _ :: _ => exact zY_f
theorem zY_i2 {p : zQt} {S : List Value} {f : Int32 → Int32 → List Value → Prop} (h : ∀ x y S, zY p (f x y S)) : zY p (zi2 S f) := by
  match S with
  | [] => exact zY_f
  | [v] => cases v <;> exact zY_f
  | v :: w :: S => cases v <;> cases w <;> first | exact h _ _ _ | exact zY_f
theorem zY_l2 {p : zQt} {S : List Value} {f : Int64 → Int64 → List Value → Prop} (h : ∀ x y S, zY p (f x y S)) : zY p (zl2 S f) := by
  match S with
  | [] => exact zY_f
  | [v] => cases v <;> exact zY_f
  | v :: w :: S => cases v <;> cases w <;> first | exact h _ _ _ | exact zY_f
theorem zY_r1 {p : zQt} {S : List Value} {f g : Nat → List Value → Prop} (h : ∀ x S, zY p (f x S)) (h2 : ∀ x S, zY p (g x S)) : zY p (zr1 S f g) := by
  match S with
  | [] => exact zY_f
  | v :: S => cases v <;> first | exact h _ _ | exact h2 _ _ | exact zY_f
theorem zY_sw {p : zQt} {x : Int32} {f : Nat → Prop} (h : ∀ t, zY p (f t)) : ∀ l d, zY p (zsw x l d f)
  | [], d => h d
  | (k, t) :: l, d => zY_ite (h t) (zY_sw h l d)
theorem zY_pop {p : zQt} {f : List Value → List Value → Prop} (h : ∀ a S, zY p (f a S)) : ∀ n a S, zY p (zpop n a S f)
  | 0, a, S => h a S
  | _ + 1, _, [] => zY_f
  | n + 1, a, v :: S => zY_pop h n (v :: a) S
set_option maxHeartbeats 4000000 in
theorem zw_ty {X : List Int32} {C : Nat → List Value → Mm → Option Value → Mm → Prop} {cd : List zEn} {mc ms : Nat} {T : List zEn → List Value → List Value → Nat → Nat → Mm → zQt → Prop} {P : zQt} (hC : ∀ y a M v M', C y a M v M' → zTp M → zTp M') (hcd : okc cd) (hT : ∀ cs L S uc us M, okc cs → zTp M → zY P (T cs L S uc us M P)) : ∀ n cs L S uc us M, okc cs → zTp M → zY P (zw X C cd mc ms T n cs L S uc us M P) := by
  intro n
  induction n with
  | zero => intro cs L S uc us M hcs hM; exact hT _ _ _ _ _ _ hcs hM
  | succ n ih =>
    intro cs L S uc us M hcs0 hM
    cases cs with
    | nil => exact zY_f
    | cons en cs =>
      have hen := hcs0 en (List.mem_cons_self ..)
      have hcs := okt hcs0
      clear hcs0
      obtain ⟨pc, ins, len, r1, r2, aux, k⟩ := en
      cases ins with
      | nop => exact hT _ _ _ _ _ _ hcs hM
      | ldc _ => cases r1 <;> exact ih _ _ _ _ _ _ hcs hM
      | iload_n _ => cases hz : zLo L r1 <;> simp only [zw, hz] <;> first | exact zY_f | exact ih _ _ _ _ _ _ hcs hM
      | iload _ => cases hz : zLo L r1 <;> simp only [zw, hz] <;> first | exact zY_f | exact ih _ _ _ _ _ _ hcs hM
      | lload_n _ => cases hz : zLo L r1 <;> simp only [zw, hz] <;> first | exact zY_f | exact ih _ _ _ _ _ _ hcs hM
      | lload _ => cases hz : zLo L r1 <;> simp only [zw, hz] <;> first | exact zY_f | exact ih _ _ _ _ _ _ hcs hM
      | aload_n _ => cases hz : zLo L r1 <;> simp only [zw, hz] <;> first | exact zY_f | exact ih _ _ _ _ _ _ hcs hM
      | aload _ => cases hz : zLo L r1 <;> simp only [zw, hz] <;> first | exact zY_f | exact ih _ _ _ _ _ _ hcs hM
      | iinc _ _ => cases hz : zLo L r1 <;> simp only [zw, hz] <;> first | exact zY_f | exact ih _ _ _ _ _ _ hcs hM
      | astore_n _ => simp only [zw]; exact zY_r1 (fun _ _ => ih _ _ _ _ _ _ hcs hM) (fun _ _ => zY_f)
      | astore _ => simp only [zw]; exact zY_r1 (fun _ _ => ih _ _ _ _ _ _ hcs hM) (fun _ _ => zY_f)
      | dup => cases S with
        | nil => exact zY_f
        | cons v S => exact zY_and (fun _ => ih _ _ _ _ _ _ hcs hM)
      | pop => cases S with
        | nil => exact zY_f
        | cons v S => exact zY_and (fun _ => ih _ _ _ _ _ _ hcs hM)
      | dup2 => cases S with
        | nil => exact zY_f
        | cons v S => cases S with
          | nil => exact zY_f
          | cons w S => exact zY_and (fun _ => ih _ _ _ _ _ _ hcs hM)
      | goto _ => exact ih _ _ _ _ _ _ (okj hcd _) hM
      | if_icmp c _ => exact zY_i2 (fun x y S => by cases c <;> first | exact zY_ite (ih _ _ _ _ _ _ (okj hcd _) hM) (ih _ _ _ _ _ _ hcs hM) | exact zY_ite (ih _ _ _ _ _ _ hcs hM) (ih _ _ _ _ _ _ (okj hcd _) hM))
      | ifCond c _ => exact zY_i1 (fun x S => by cases c <;> first | exact zY_ite (ih _ _ _ _ _ _ (okj hcd _) hM) (ih _ _ _ _ _ _ hcs hM) | exact zY_ite (ih _ _ _ _ _ _ hcs hM) (ih _ _ _ _ _ _ (okj hcd _) hM))
      | ifnonnull _ => simp only [zw]; exact zY_r1 (fun x S => zY_ite (ih _ _ _ _ _ _ hcs hM) (ih _ _ _ _ _ _ (okj hcd _) hM)) (fun _ _ => zY_f)
      | tableswitch _ _ _ _ => exact zY_i1 (fun x S => zY_sw (fun t => ih _ _ _ _ _ _ (okj hcd _) hM) _ _)
      | lookupswitch _ _ => exact zY_i1 (fun x S => zY_sw (fun t => ih _ _ _ _ _ _ (okj hcd _) hM) _ _)
      | getfield _ =>
        simp only [zw]
        refine zY_r1 (fun r S => zY_and (fun _ => ?_)) (fun e S => zY_and (fun _ => zY_and (fun _ => ?_)))
        · cases hk : zkd aux with
          | zero => exact ih _ _ _ _ _ _ hcs hM
          | succ q => cases q <;> exact ih _ _ _ _ _ _ hcs hM
        · cases r2 <;> exact ih _ _ _ _ _ _ hcs hM
      | getstatic _ => cases r1 with
        | zero => exact ih _ _ _ _ _ _ hcs hM
        | succ q => cases q <;> exact ih _ _ _ _ _ _ hcs hM
      | putfield _ =>
        have hen : (!(r1 == 69) && ((zkd aux == 1) || !(r1 == 3 && (r2 == 6 || r2 == 7 || r2 == 10)))) = true := hen
        rw [Bool.and_eq_true] at hen
        cases hk : zkd aux with
        | zero =>
          rw [hk] at hen
          simp only [zw, hk]
          refine zY_i1 (fun x S => zY_r1 (fun r S => zY_and (fun ho => ih _ _ _ _ _ _ hcs (zTp_wI hM (fun q1 q2 => ?_)))) (fun _ _ => zY_f))
          have h3 : r1 = 3 := ho.2.2.symm.trans q1
          subst h3
          rcases q2 with rfl | rfl | rfl <;> exact absurd hen.2 (by decide)
        | succ q => cases q with
          | zero => simp only [zw, hk]; exact zY_i1 (fun x S => zY_r1 (fun r S => zY_and (fun hx => zY_and (fun ho => ih _ _ _ _ _ _ hcs (zTp_wI hM (fun _ _ => hx))))) (fun _ _ => zY_f))
          | succ q =>
            simp only [zw, hk]
            refine zY_r1 (fun x S => zY_r1 (fun r S => zY_and (fun ho => ih _ _ _ _ _ _ hcs (zTp_wR hM (fun q1 => ?_)))) (fun _ _ => zY_f)) (fun _ _ => zY_f)
            have h3 : r1 = 69 := ho.2.2.symm.trans q1
            subst h3
            exact absurd hen.1 (by decide)
      | newarray _ => exact zY_i1 (fun x S => zY_and (fun _ => ih _ _ _ _ _ _ hcs (zTp_wN hM)))
      | anewarray _ => exact zY_i1 (fun x S => zY_and (fun _ => ih _ _ _ _ _ _ hcs (zTp_wN hM)))
      | new _ => exact zY_and (fun _ => ih _ _ _ _ _ _ hcs (zTp_wN hM))
      | iaload => simp only [zw]; exact zY_i1 (fun x S => zY_r1 (fun r S => zY_and (fun _ => zY_and (fun _ => ih _ _ _ _ _ _ hcs hM))) (fun r S => zY_and (fun _ => zY_and (fun _ => ih _ _ _ _ _ _ hcs hM))))
      | baload => simp only [zw]; exact zY_i1 (fun x S => zY_r1 (fun _ _ => zY_f) (fun r S => zY_and (fun _ => zY_and (fun _ => ih _ _ _ _ _ _ hcs hM))))
      | aaload => simp only [zw]; exact zY_i1 (fun x S => zY_r1 (fun r S => zY_and (fun _ => zY_and (fun _ => ih _ _ _ _ _ _ hcs hM))) (fun _ _ => zY_f))
      | iastore =>
        simp only [zw]
        refine zY_i2 (fun x y S => zY_r1 (fun r S => zY_and (fun ho => zY_and (fun _ => ih _ _ _ _ _ _ hcs (zTp_wI hM (fun q1 _ => ?_))))) (fun _ _ => zY_f))
        have := ho.2.2
        omega
      | aastore =>
        simp only [zw]
        refine zY_r1 (fun v S => zY_i1 (fun i S => zY_r1 (fun r S => zY_and (fun _ => zY_and (fun hv => zY_and (fun _ => ih _ _ _ _ _ _ hcs (zTp_wR hM (fun q1 => ?_)))))) (fun _ _ => zY_f))) (fun _ _ => zY_f)
        rw [q1] at hv
        exact hv
      | arraylength => simp only [zw]; exact zY_r1 (fun r S => zY_and (fun _ => ih _ _ _ _ _ _ hcs hM)) (fun r S => zY_and (fun _ => ih _ _ _ _ _ _ hcs hM))
      | invokespecial _ =>
        match aux with
        | [] => simp only [zw]; exact zY_r1 (fun r S => zY_and (fun _ => zY_and (fun _ => ih _ _ _ _ _ _ hcs hM))) (fun _ _ => zY_f)
        | [_] => exact zY_f
        | [_, _] => exact zY_f
        | (_, rk) :: (_, ac) :: (_, as) :: _ =>
          refine zY_pop (fun a S => zY_and (fun _ => zY_and (fun _ => ?_))) _ _ _
          match rk with
          | 0 => exact zY_ex (fun _ => zY_and (fun hc => ih _ _ _ _ _ _ hcs (hC _ _ _ _ _ hc hM)))
          | 1 => exact zY_ex (fun _ => zY_ex (fun _ => zY_and (fun hc => ih _ _ _ _ _ _ hcs (hC _ _ _ _ _ hc hM))))
          | _ + 2 => exact zY_ex (fun _ => zY_ex (fun _ => zY_and (fun hc => ih _ _ _ _ _ _ hcs (hC _ _ _ _ _ hc hM))))
      | invokevirtual _ =>
        match aux with
        | [] => exact zY_f
        | [_] => exact zY_f
        | [_, _] => exact zY_f
        | [_, _, _] => exact zY_f
        | (_, rk) :: (_, ac) :: (_, as) :: (_, ci) :: _ =>
          refine zY_pop (fun a S => zY_and (fun _ => zY_and (fun _ => ?_))) _ _ _
          match rk with
          | 0 => exact zY_ex (fun _ => zY_and (fun hc => ih _ _ _ _ _ _ hcs (hC _ _ _ _ _ hc hM)))
          | 1 => exact zY_ex (fun _ => zY_ex (fun _ => zY_and (fun hc => ih _ _ _ _ _ _ hcs (hC _ _ _ _ _ hc hM))))
          | _ + 2 => exact zY_ex (fun _ => zY_ex (fun _ => zY_and (fun hc => ih _ _ _ _ _ _ hcs (hC _ _ _ _ _ hc hM))))
      | invokestatic _ =>
        match aux with
        | [] =>
          match S with
          | .int c :: .int dp :: .ref r1 :: .int sp :: .ref r0 :: S => exact zY_and (fun ho => ih _ _ _ _ _ _ hcs (zTp_wC hM ho.2.2.1.2.2))
          | S =>
            intro h
            simp only [zw] at h
            split at h
            · exact ih _ _ _ _ _ _ hcs (zTp_wC hM h.1.2.2.1.2.2) h.2
            · exact h.elim
        | [_] => exact zY_f
        | [_, _] => exact zY_f
        | (_, rk) :: (_, ac) :: (_, as) :: _ =>
          refine zY_pop (fun a S => zY_and (fun _ => ?_)) _ _ _
          match rk with
          | 0 => exact zY_ex (fun _ => zY_and (fun hc => ih _ _ _ _ _ _ hcs (hC _ _ _ _ _ hc hM)))
          | 1 => exact zY_ex (fun _ => zY_ex (fun _ => zY_and (fun hc => ih _ _ _ _ _ _ hcs (hC _ _ _ _ _ hc hM))))
          | _ + 2 => exact zY_ex (fun _ => zY_ex (fun _ => zY_and (fun hc => ih _ _ _ _ _ _ hcs (hC _ _ _ _ _ hc hM))))
      | ireturn =>
        match S with
        | [] => exact zY_f
        | [v] => cases v <;> first | exact zY_and (fun _ => zY_ret hM) | exact zY_f
        | v :: w :: S => cases v <;> exact zY_f
      | areturn =>
        match S with
        | [] => exact zY_f
        | [v] => cases v <;> first | exact zY_ret hM | exact zY_f
        | v :: w :: S => cases v <;> exact zY_f
      | return_ =>
        match S with
        | [] => exact zY_ret hM
        | _ :: _ => exact zY_f
      | _ =>
        first
          | exact zY_f
          | exact ih _ _ _ _ _ _ hcs hM
          | exact zY_i2 (fun _ _ _ => ih _ _ _ _ _ _ hcs hM)
          | exact zY_i1 (fun _ _ => ih _ _ _ _ _ _ hcs hM)
          | exact zY_l2 (fun _ _ _ => ih _ _ _ _ _ _ hcs hM)
          | exact zY_i2 (fun _ _ _ => zY_and (fun _ => ih _ _ _ _ _ _ hcs hM))
def okML : List (MethodName × ByteArray × Nat × Option FieldType × Nat × Nat × List zEn × Nat × Nat × Nat × Nat) → Bool
  | [] => true
  | m :: l => m.2.2.2.2.2.2.1.all zte && okML l
set_option maxRecDepth 1000000 in
theorem okML_z : okML zML = true := by decide +kernel
theorem okML_of {m : MethodName × ByteArray × Nat × Option FieldType × Nat × Nat × List zEn × Nat × Nat × Nat × Nat} : ∀ l, okML l = true → m ∈ l → okc m.2.2.2.2.2.2.1
  | [], _, h => by cases h
  | n :: l, q, h => by
    rw [okML, Bool.and_eq_true] at q
    rcases List.mem_cons.mp h with e | e
    · subst e
      intro x hx
      exact List.all_eq_true.mp q.1 x hx
    · exact okML_of l q.2 e
theorem zca_tp {X : List Int32} : ∀ d y a M v M', zca X zML d y a M v M' → zTp M → zTp M' := by
  intro d
  induction d with
  | zero => intro y a M v M' h; exact h.elim
  | succ d ih =>
    intro y a M v M' h hM
    unfold zca at h
    cases e : zML[y]? with
    | none => rw [e] at h; exact h.elim
    | some m =>
      rw [e] at h
      obtain ⟨m1, m2, m3, m4, m5, m6, cd, m8⟩ := m
      have hcd : okc cd := okML_of zML okML_z (List.mem_of_getElem? e)
      obtain ⟨v2, M2, ⟨-, h2⟩, h3⟩ := h.2 (fun cs L S uc us M Q => okc cs → zTp M → ∃ v M', Q v M' ∧ zTp M') (fun n cs L S uc us M hw hcs hM => zw_ty ih hcd (fun cs L S uc us M h1 h2 h3 => h3 h1 h2) n cs L S uc us M hcs hM hw) hcd hM
      rw [← h2]
      exact h3
theorem Opk_ty {X : List Int32} {y z : Nat} {a : List Value} {M : Mm} (ht : zTp M) (h : Opk X y z a M) : ∃ v M1 M2, zca X zML 300 y (.ref 1 :: a) M (some (.int v)) M1 ∧ zca X zML 300 z (.ref 150 :: a) M1 (some (.int v)) M2 ∧ Rel M2 ∧ zTp M2 := by
  obtain ⟨v, M1, M2, h1, h2, h3⟩ := h
  exact ⟨v, M1, M2, h1, h2, h3, zca_tp _ _ _ _ _ _ h2 (zca_tp _ _ _ _ _ _ h1 ht)⟩
