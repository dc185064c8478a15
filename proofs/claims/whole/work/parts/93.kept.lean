/-! what every method keeps -/
def zK (J : Mm → Prop) (p : zQt) (A : Prop) : Prop := A → ∃ v M', p v M' ∧ J M'
theorem zK_f {J : Mm → Prop} {p : zQt} : zK J p False := fun h => h.elim
theorem zK_ret {J : Mm → Prop} {p : zQt} {v0 : Option Value} {M0 : Mm} (hM : J M0) : zK J p (p v0 M0) := fun h => ⟨v0, M0, h, hM⟩
theorem zK_and {J : Mm → Prop} {p : zQt} {c A : Prop} (h : c → zK J p A) : zK J p (c ∧ A) := fun ⟨h1, h2⟩ => h h1 h2
theorem zK_ite {J : Mm → Prop} {p : zQt} {c : Prop} [Decidable c] {A A' : Prop} (h : zK J p A) (h' : zK J p A') : zK J p (if c then A else A') := by
  split
  · exact h
  · exact h'
theorem zK_ex {α : Type} {J : Mm → Prop} {p : zQt} {A : α → Prop} (h : ∀ x, zK J p (A x)) : zK J p (∃ x, A x) := fun ⟨x, q⟩ => h x q
theorem zK_i1 {J : Mm → Prop} {p : zQt} {S : List Value} {f : Int32 → List Value → Prop} (h : ∀ x S, zK J p (f x S)) : zK J p (zi1 S f) := by
  match S with
  | .int x :: S => exact h x S
  | [] => exact zK_f
  | .ref _ :: _ => exact zK_f
  | .null :: _ => exact zK_f
  | .long _ :: _ => exact zK_f
  | .float _ :: _ => exact zK_f
  | .double _ :: _ => exact zK_f
  | .retAddr _ :: _ => exact zK_f
theorem zK_i2 {J : Mm → Prop} {p : zQt} {S : List Value} {f : Int32 → Int32 → List Value → Prop} (h : ∀ x y S, zK J p (f x y S)) : zK J p (zi2 S f) := by
  match S with
  | [] => exact zK_f
  | [v] => cases v <;> exact zK_f
  | v :: w :: S => cases v <;> cases w <;> first | exact h _ _ _ | exact zK_f
theorem zK_l2 {J : Mm → Prop} {p : zQt} {S : List Value} {f : Int64 → Int64 → List Value → Prop} (h : ∀ x y S, zK J p (f x y S)) : zK J p (zl2 S f) := by
  match S with
  | [] => exact zK_f
  | [v] => cases v <;> exact zK_f
  | v :: w :: S => cases v <;> cases w <;> first | exact h _ _ _ | exact zK_f
theorem zK_r1 {J : Mm → Prop} {p : zQt} {S : List Value} {f g : Nat → List Value → Prop} (h : ∀ x S, zK J p (f x S)) (h2 : ∀ x S, zK J p (g x S)) : zK J p (zr1 S f g) := by
  match S with
  | [] => exact zK_f
  | v :: S => cases v <;> first | exact h _ _ | exact h2 _ _ | exact zK_f
theorem zK_sw {J : Mm → Prop} {p : zQt} {x : Int32} {f : Nat → Prop} (h : ∀ t, zK J p (f t)) : ∀ l d, zK J p (zsw x l d f)
  | [], d => h d
  | (k, t) :: l, d => zK_ite (h t) (zK_sw h l d)
theorem zK_pop {J : Mm → Prop} {p : zQt} {f : List Value → List Value → Prop} (h : ∀ a S, zK J p (f a S)) : ∀ n a S, zK J p (zpop n a S f)
  | 0, a, S => h a S
  | _ + 1, _, [] => zK_f
  | n + 1, a, v :: S => zK_pop h n (v :: a) S
set_option maxHeartbeats 4000000 in
theorem zw_kp {X : List Int32} {C : Nat → List Value → Mm → Option Value → Mm → Prop} {cd : List zEn} {mc ms : Nat} {T : List zEn → List Value → List Value → Nat → Nat → Mm → zQt → Prop} {P : zQt} {J : Mm → Prop} (jI : ∀ M r j v, J M → J (wI M r j v)) (jR : ∀ M r j v, J M → J (wR M r j v)) (jC : ∀ M a b c d e, J M → J (wC M a b c d e)) (jN : ∀ M t n, J M → J (wN M t n)) (hC : ∀ y a M v M', C y a M v M' → J M → J M') (hT : ∀ cs L S uc us M, J M → zK J P (T cs L S uc us M P)) : ∀ n cs L S uc us M, J M → zK J P (zw X C cd mc ms T n cs L S uc us M P) := by
  intro n
  induction n with
  | zero => intro cs L S uc us M hM; exact hT _ _ _ _ _ _ hM
  | succ n ih =>
    intro cs L S uc us M hM
    cases cs with
    | nil => exact zK_f
    | cons en cs =>
      obtain ⟨pc, ins, len, r1, r2, aux, k⟩ := en
      cases ins with
      | nop => exact hT _ _ _ _ _ _ hM
      | ldc _ => cases r1 <;> exact ih _ _ _ _ _ _ hM
      | iload_n _ => cases hz : zLo L r1 <;> simp only [zw, hz] <;> first | exact zK_f | exact ih _ _ _ _ _ _ hM
      | iload _ => cases hz : zLo L r1 <;> simp only [zw, hz] <;> first | exact zK_f | exact ih _ _ _ _ _ _ hM
      | lload_n _ => cases hz : zLo L r1 <;> simp only [zw, hz] <;> first | exact zK_f | exact ih _ _ _ _ _ _ hM
      | lload _ => cases hz : zLo L r1 <;> simp only [zw, hz] <;> first | exact zK_f | exact ih _ _ _ _ _ _ hM
      | aload_n _ => cases hz : zLo L r1 <;> simp only [zw, hz] <;> first | exact zK_f | exact ih _ _ _ _ _ _ hM
      | aload _ => cases hz : zLo L r1 <;> simp only [zw, hz] <;> first | exact zK_f | exact ih _ _ _ _ _ _ hM
      | iinc _ _ => cases hz : zLo L r1 <;> simp only [zw, hz] <;> first | exact zK_f | exact ih _ _ _ _ _ _ hM
      | astore_n _ => simp only [zw]; exact zK_r1 (fun _ _ => ih _ _ _ _ _ _ hM) (fun _ _ => zK_f)
      | astore _ => simp only [zw]; exact zK_r1 (fun _ _ => ih _ _ _ _ _ _ hM) (fun _ _ => zK_f)
      | dup => cases S with
        | nil => exact zK_f
        | cons v S => exact zK_and (fun _ => ih _ _ _ _ _ _ hM)
      | pop => cases S with
        | nil => exact zK_f
        | cons v S => exact zK_and (fun _ => ih _ _ _ _ _ _ hM)
      | dup2 => cases S with
        | nil => exact zK_f
        | cons v S => cases S with
          | nil => exact zK_f
          | cons w S => exact zK_and (fun _ => ih _ _ _ _ _ _ hM)
      | goto _ => exact ih _ _ _ _ _ _ hM
      | if_icmp c _ => exact zK_i2 (fun x y S => by cases c <;> first | exact zK_ite (ih _ _ _ _ _ _ hM) (ih _ _ _ _ _ _ hM) | exact zK_ite (ih _ _ _ _ _ _ hM) (ih _ _ _ _ _ _ hM))
      | ifCond c _ => exact zK_i1 (fun x S => by cases c <;> first | exact zK_ite (ih _ _ _ _ _ _ hM) (ih _ _ _ _ _ _ hM) | exact zK_ite (ih _ _ _ _ _ _ hM) (ih _ _ _ _ _ _ hM))
      | ifnonnull _ => simp only [zw]; exact zK_r1 (fun x S => zK_ite (ih _ _ _ _ _ _ hM) (ih _ _ _ _ _ _ hM)) (fun _ _ => zK_f)
      | tableswitch _ _ _ _ => exact zK_i1 (fun x S => zK_sw (fun t => ih _ _ _ _ _ _ hM) _ _)
      | lookupswitch _ _ => exact zK_i1 (fun x S => zK_sw (fun t => ih _ _ _ _ _ _ hM) _ _)
      | getfield _ =>
        simp only [zw]
        refine zK_r1 (fun r S => zK_and (fun _ => ?_)) (fun e S => zK_and (fun _ => zK_and (fun _ => ?_)))
        · cases hk : zkd aux with
          | zero => exact ih _ _ _ _ _ _ hM
          | succ q => cases q <;> exact ih _ _ _ _ _ _ hM
        · cases r2 <;> exact ih _ _ _ _ _ _ hM
      | getstatic _ => cases r1 with
        | zero => exact ih _ _ _ _ _ _ hM
        | succ q => cases q <;> exact ih _ _ _ _ _ _ hM
      | putfield _ =>
        cases hk : zkd aux with
        | zero => simp only [zw, hk]; exact zK_i1 (fun x S => zK_r1 (fun r S => zK_and (fun ho => ih _ _ _ _ _ _ (jI _ _ _ _ hM))) (fun _ _ => zK_f))
        | succ q => cases q with
          | zero => simp only [zw, hk]; exact zK_i1 (fun x S => zK_r1 (fun r S => zK_and (fun hx => zK_and (fun ho => ih _ _ _ _ _ _ (jI _ _ _ _ hM)))) (fun _ _ => zK_f))
          | succ q => simp only [zw, hk]; exact zK_r1 (fun x S => zK_r1 (fun r S => zK_and (fun ho => ih _ _ _ _ _ _ (jR _ _ _ _ hM))) (fun _ _ => zK_f)) (fun _ _ => zK_f)
      | newarray _ => exact zK_i1 (fun x S => zK_and (fun _ => ih _ _ _ _ _ _ (jN _ _ _ hM)))
      | anewarray _ => exact zK_i1 (fun x S => zK_and (fun _ => ih _ _ _ _ _ _ (jN _ _ _ hM)))
      | new _ => exact zK_and (fun _ => ih _ _ _ _ _ _ (jN _ _ _ hM))
      | iaload => simp only [zw]; exact zK_i1 (fun x S => zK_r1 (fun r S => zK_and (fun _ => zK_and (fun _ => ih _ _ _ _ _ _ hM))) (fun r S => zK_and (fun _ => zK_and (fun _ => ih _ _ _ _ _ _ hM))))
      | baload => simp only [zw]; exact zK_i1 (fun x S => zK_r1 (fun _ _ => zK_f) (fun r S => zK_and (fun _ => zK_and (fun _ => ih _ _ _ _ _ _ hM))))
      | aaload => simp only [zw]; exact zK_i1 (fun x S => zK_r1 (fun r S => zK_and (fun _ => zK_and (fun _ => ih _ _ _ _ _ _ hM))) (fun _ _ => zK_f))
      | iastore => simp only [zw]; exact zK_i2 (fun x y S => zK_r1 (fun r S => zK_and (fun ho => zK_and (fun _ => ih _ _ _ _ _ _ (jI _ _ _ _ hM)))) (fun _ _ => zK_f))
      | aastore => simp only [zw]; exact zK_r1 (fun v S => zK_i1 (fun i S => zK_r1 (fun r S => zK_and (fun _ => zK_and (fun hv => zK_and (fun _ => ih _ _ _ _ _ _ (jR _ _ _ _ hM))))) (fun _ _ => zK_f))) (fun _ _ => zK_f)
      | arraylength => simp only [zw]; exact zK_r1 (fun r S => zK_and (fun _ => ih _ _ _ _ _ _ hM)) (fun r S => zK_and (fun _ => ih _ _ _ _ _ _ hM))
      | invokespecial _ =>
        match aux with
        | [] => simp only [zw]; exact zK_r1 (fun r S => zK_and (fun _ => zK_and (fun _ => ih _ _ _ _ _ _ hM))) (fun _ _ => zK_f)
        | [_] => exact zK_f
        | [_, _] => exact zK_f
        | (_, rk) :: (_, ac) :: (_, as) :: _ =>
          refine zK_pop (fun a S => zK_and (fun _ => zK_and (fun _ => ?_))) _ _ _
          match rk with
          | 0 => exact zK_ex (fun _ => zK_and (fun hc => ih _ _ _ _ _ _ (hC _ _ _ _ _ hc hM)))
          | 1 => exact zK_ex (fun _ => zK_ex (fun _ => zK_and (fun hc => ih _ _ _ _ _ _ (hC _ _ _ _ _ hc hM))))
          | _ + 2 => exact zK_ex (fun _ => zK_ex (fun _ => zK_and (fun hc => ih _ _ _ _ _ _ (hC _ _ _ _ _ hc hM))))
      | invokevirtual _ =>
        match aux with
        | [] => exact zK_f
        | [_] => exact zK_f
        | [_, _] => exact zK_f
        | [_, _, _] => exact zK_f
        | (_, rk) :: (_, ac) :: (_, as) :: (_, ci) :: _ =>
          refine zK_pop (fun a S => zK_and (fun _ => zK_and (fun _ => ?_))) _ _ _
          match rk with
          | 0 => exact zK_ex (fun _ => zK_and (fun hc => ih _ _ _ _ _ _ (hC _ _ _ _ _ hc hM)))
          | 1 => exact zK_ex (fun _ => zK_ex (fun _ => zK_and (fun hc => ih _ _ _ _ _ _ (hC _ _ _ _ _ hc hM))))
          | _ + 2 => exact zK_ex (fun _ => zK_ex (fun _ => zK_and (fun hc => ih _ _ _ _ _ _ (hC _ _ _ _ _ hc hM))))
      | invokestatic _ =>
        match aux with
        | [] =>
          match S with
          | .int c :: .int dp :: .ref r1 :: .int sp :: .ref r0 :: S => exact zK_and (fun ho => ih _ _ _ _ _ _ (jC _ _ _ _ _ _ hM))
          | S =>
            intro h
            simp only [zw] at h
            split at h
            · exact ih _ _ _ _ _ _ (jC _ _ _ _ _ _ hM) h.2
            · exact h.elim
        | [_] => exact zK_f
        | [_, _] => exact zK_f
        | (_, rk) :: (_, ac) :: (_, as) :: _ =>
          refine zK_pop (fun a S => zK_and (fun _ => ?_)) _ _ _
          match rk with
          | 0 => exact zK_ex (fun _ => zK_and (fun hc => ih _ _ _ _ _ _ (hC _ _ _ _ _ hc hM)))
          | 1 => exact zK_ex (fun _ => zK_ex (fun _ => zK_and (fun hc => ih _ _ _ _ _ _ (hC _ _ _ _ _ hc hM))))
          | _ + 2 => exact zK_ex (fun _ => zK_ex (fun _ => zK_and (fun hc => ih _ _ _ _ _ _ (hC _ _ _ _ _ hc hM))))
      | ireturn =>
        match S with
        | [] => exact zK_f
        | [v] => cases v <;> first | exact zK_and (fun _ => zK_ret hM) | exact zK_f
        | v :: w :: S => cases v <;> exact zK_f
      | areturn =>
        match S with
        | [] => exact zK_f
        | [v] => cases v <;> first | exact zK_ret hM | exact zK_f
        | v :: w :: S => cases v <;> exact zK_f
      | return_ =>
        match S with
        | [] => exact zK_ret hM
        | _ :: _ => exact zK_f
      | _ =>
        first
          | exact zK_f
          | exact ih _ _ _ _ _ _ hM
          | exact zK_i2 (fun _ _ _ => ih _ _ _ _ _ _ hM)
          | exact zK_i1 (fun _ _ => ih _ _ _ _ _ _ hM)
          | exact zK_l2 (fun _ _ _ => ih _ _ _ _ _ _ hM)
          | exact zK_i2 (fun _ _ _ => zK_and (fun _ => ih _ _ _ _ _ _ hM))
theorem zca_kp {X : List Int32} {J : Mm → Prop} (jI : ∀ M r j v, J M → J (wI M r j v)) (jR : ∀ M r j v, J M → J (wR M r j v)) (jC : ∀ M a b c d e, J M → J (wC M a b c d e)) (jN : ∀ M t n, J M → J (wN M t n)) : ∀ d y a M v M', zca X zML d y a M v M' → J M → J M' := by
  intro d
  induction d with
  | zero => intro y a M v M' h; exact h.elim
  | succ d ih =>
    intro y a M v M' h hM
    unfold zca at h
    cases e : zML[y]? with
    | none => rw [e] at h; exact h.elim
    | some m =>
      rw [e] at h
      obtain ⟨m1, m2, m3, m4, m5, m6, cd, m8⟩ := m
      obtain ⟨v2, M2, ⟨-, h2⟩, h3⟩ := h.2 (fun cs L S uc us M Q => J M → ∃ v M', Q v M' ∧ J M') (fun n cs L S uc us M hw hM => zw_kp jI jR jC jN ih (fun cs L S uc us M h2 h3 => h3 h2) n cs L S uc us M hM hw) hM
      rw [← h2]
      exact h3
/-- an object stays what it is */ -/
theorem zca_zO {X : List Int32} {d y : Nat} {a : List Value} {M M' : Mm} {v : Option Value} (h : zca X zML d y a M v M') {r c : Nat} (ho : zO M r c) : zO M' r c := by
  refine zca_kp (J := fun N => zO N r c) (fun N r2 j v h => h) (fun N r2 j v h => h) (fun N a b c d e h => h) (fun N t n h => ?_) d y a M v M' h ho
  refine ⟨h.1, ?_, ?_⟩
  · show r ≤ mZ N + 1
    have := h.2.1
    omega
  · show (if r = mZ N + 1 then t else mT N r) = c
    rw [if_neg (by have := h.2.1; omega)]
    exact h.2.2
