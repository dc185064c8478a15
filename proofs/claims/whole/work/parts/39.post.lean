/-! POSTCONDITIONS: a method that ends with P ends with some value and memory of which P holds -/
def zX (p : zQt) (A : Prop) (B : Option Value → Mm → Prop) : Prop := A → ∃ v M', p v M' ∧ B v M'
theorem zX_f {p : zQt} {B : Option Value → Mm → Prop} : zX p False B := fun h => h.elim
theorem zX_ret {p : zQt} {v0 : Option Value} {M0 : Mm} : zX p (p v0 M0) (fun v M' => v0 = v ∧ M0 = M') := fun h => ⟨v0, M0, h, rfl, rfl⟩
theorem zX_and {p : zQt} {c A : Prop} {B : Option Value → Mm → Prop} (h : zX p A B) : zX p (c ∧ A) (fun v M' => c ∧ B v M') := fun ⟨h1, h2⟩ => by
  obtain ⟨v, M', hp, hb⟩ := h h2
  exact ⟨v, M', hp, h1, hb⟩
theorem zX_ite {p : zQt} {c : Prop} [Decidable c] {A A' : Prop} {B B' : Option Value → Mm → Prop} (h : zX p A B) (h' : zX p A' B') : zX p (if c then A else A') (fun v M' => if c then B v M' else B' v M') := by
  by_cases hc : c
  · intro q
    rw [if_pos hc] at q
    obtain ⟨v, M', hp, hb⟩ := h q
    exact ⟨v, M', hp, by dsimp only; rw [if_pos hc]; exact hb⟩
  · intro q
    rw [if_neg hc] at q
    obtain ⟨v, M', hp, hb⟩ := h' q
    exact ⟨v, M', hp, by dsimp only; rw [if_neg hc]; exact hb⟩
theorem zX_ex {α : Type} {p : zQt} {A : α → Prop} {B : α → Option Value → Mm → Prop} (h : ∀ x, zX p (A x) (B x)) : zX p (∃ x, A x) (fun v M' => ∃ x, B x v M') := fun ⟨x, q⟩ => by
  obtain ⟨v, M', hp, hb⟩ := h x q
  exact ⟨v, M', hp, x, hb⟩
theorem zX_i1 {p : zQt} {S : List Value} {f : Int32 → List Value → Prop} {g : Option Value → Mm → Int32 → List Value → Prop} (h : ∀ x S, zX p (f x S) (fun v M' => g v M' x S)) : zX p (zi1 S f) (fun v M' => zi1 S (g v M')) := by
  match S with
  | .int x :: S => exact h x S
  | [] => exact zX_f
  | .ref _ :: _ => exact zX_f
  | .null :: _ => exact zX_f
  | .long _ :: _ => exact zX_f
  | .float _ :: _ => exact zX_f
  | .double _ :: _ => exact zX_f
  | .retAddr _ :: _ => exact zX_f
theorem zX_i2 {p : zQt} {S : List Value} {f : Int32 → Int32 → List Value → Prop} {g : Option Value → Mm → Int32 → Int32 → List Value → Prop} (h : ∀ x y S, zX p (f x y S) (fun v M' => g v M' x y S)) : zX p (zi2 S f) (fun v M' => zi2 S (g v M')) := by
  match S with
  | [] => exact zX_f
  | [v] => cases v <;> exact zX_f
  | v :: w :: S => cases v <;> cases w <;> first | exact h _ _ _ | exact zX_f
theorem zX_l2 {p : zQt} {S : List Value} {f : Int64 → Int64 → List Value → Prop} {g : Option Value → Mm → Int64 → Int64 → List Value → Prop} (h : ∀ x y S, zX p (f x y S) (fun v M' => g v M' x y S)) : zX p (zl2 S f) (fun v M' => zl2 S (g v M')) := by
  match S with
  | [] => exact zX_f
  | [v] => cases v <;> exact zX_f
  | v :: w :: S => cases v <;> cases w <;> first | exact h _ _ _ | exact zX_f
theorem zX_r1 {p : zQt} {S : List Value} {f g : Nat → List Value → Prop} {f' g' : Option Value → Mm → Nat → List Value → Prop} (h : ∀ x S, zX p (f x S) (fun v M' => f' v M' x S)) (h2 : ∀ x S, zX p (g x S) (fun v M' => g' v M' x S)) : zX p (zr1 S f g) (fun v M' => zr1 S (f' v M') (g' v M')) := by
  match S with
  | [] => exact zX_f
  | v :: S => cases v <;> first | exact h _ _ | exact h2 _ _ | exact zX_f
theorem zX_sw {p : zQt} {x : Int32} {f : Nat → Prop} {f' : Option Value → Mm → Nat → Prop} (h : ∀ t, zX p (f t) (fun v M' => f' v M' t)) : ∀ l d, zX p (zsw x l d f) (fun v M' => zsw x l d (f' v M'))
  | [], d => h d
  | (k, t) :: l, d => zX_ite (h t) (zX_sw h l d)
theorem zX_pop {p : zQt} {f : List Value → List Value → Prop} {f' : Option Value → Mm → List Value → List Value → Prop} (h : ∀ a S, zX p (f a S) (fun v M' => f' v M' a S)) : ∀ n a S, zX p (zpop n a S f) (fun v M' => zpop n a S (f' v M'))
  | 0, a, S => h a S
  | _ + 1, _, [] => zX_f
  | n + 1, a, v :: S => zX_pop h n (v :: a) S
set_option maxHeartbeats 4000000 in
theorem zw_ex {X : List Int32} {C : Nat → List Value → Mm → Option Value → Mm → Prop} {cd : List zEn} {mc ms : Nat} {T T' : List zEn → List Value → List Value → Nat → Nat → Mm → zQt → Prop} {P : zQt} (hT : ∀ cs L S uc us M, zX P (T cs L S uc us M P) (fun v M' => T' cs L S uc us M (fun v2 M2 => v2 = v ∧ M2 = M'))) : ∀ n cs L S uc us M, zX P (zw X C cd mc ms T n cs L S uc us M P) (fun v M' => zw X C cd mc ms T' n cs L S uc us M (fun v2 M2 => v2 = v ∧ M2 = M')) := by
  intro n
  induction n with
  | zero => intro cs L S uc us M; exact hT _ _ _ _ _ _
  | succ n ih =>
    intro cs L S uc us M
    cases cs with
    | nil => exact zX_f
    | cons en cs =>
      obtain ⟨pc, ins, len, r1, r2, aux, k⟩ := en
      cases ins with
      | nop => exact hT _ _ _ _ _ _
      | ldc _ => cases r1 <;> exact ih _ _ _ _ _ _
      | iload_n _ => cases hz : zLo L r1 <;> simp only [zw, hz] <;> first | exact zX_f | exact ih _ _ _ _ _ _
      | iload _ => cases hz : zLo L r1 <;> simp only [zw, hz] <;> first | exact zX_f | exact ih _ _ _ _ _ _
      | lload_n _ => cases hz : zLo L r1 <;> simp only [zw, hz] <;> first | exact zX_f | exact ih _ _ _ _ _ _
      | lload _ => cases hz : zLo L r1 <;> simp only [zw, hz] <;> first | exact zX_f | exact ih _ _ _ _ _ _
      | aload_n _ => cases hz : zLo L r1 <;> simp only [zw, hz] <;> first | exact zX_f | exact ih _ _ _ _ _ _
      | aload _ => cases hz : zLo L r1 <;> simp only [zw, hz] <;> first | exact zX_f | exact ih _ _ _ _ _ _
      | iinc _ _ => cases hz : zLo L r1 <;> simp only [zw, hz] <;> first | exact zX_f | exact ih _ _ _ _ _ _
      | astore_n _ => simp only [zw]; exact zX_r1 (fun _ _ => ih _ _ _ _ _ _) (fun _ _ => zX_f)
      | astore _ => simp only [zw]; exact zX_r1 (fun _ _ => ih _ _ _ _ _ _) (fun _ _ => zX_f)
      | dup => cases S with
        | nil => exact zX_f
        | cons v S => exact zX_and (ih _ _ _ _ _ _)
      | pop => cases S with
        | nil => exact zX_f
        | cons v S => exact zX_and (ih _ _ _ _ _ _)
      | dup2 => cases S with
        | nil => exact zX_f
        | cons v S => cases S with
          | nil => exact zX_f
          | cons w S => exact zX_and (ih _ _ _ _ _ _)
      | if_icmp c _ => exact zX_i2 (fun x y S => by cases c <;> exact zX_ite (ih _ _ _ _ _ _) (ih _ _ _ _ _ _))
      | ifCond c _ => exact zX_i1 (fun x S => by cases c <;> exact zX_ite (ih _ _ _ _ _ _) (ih _ _ _ _ _ _))
      | ifnonnull _ => simp only [zw]; exact zX_r1 (fun x S => zX_ite (ih _ _ _ _ _ _) (ih _ _ _ _ _ _)) (fun _ _ => zX_f)
      | tableswitch _ _ _ _ => exact zX_i1 (fun x S => zX_sw (fun t => ih _ _ _ _ _ _) _ _)
      | lookupswitch _ _ => exact zX_i1 (fun x S => zX_sw (fun t => ih _ _ _ _ _ _) _ _)
      | getfield _ =>
        simp only [zw]
        refine zX_r1 (fun r S => zX_and ?_) (fun e S => zX_and (zX_and ?_))
        · cases hk : zkd aux with
          | zero => exact ih _ _ _ _ _ _
          | succ q => cases q <;> exact ih _ _ _ _ _ _
        · cases r2 <;> exact ih _ _ _ _ _ _
      | getstatic _ => cases r1 with
        | zero => exact ih _ _ _ _ _ _
        | succ q => cases q <;> exact ih _ _ _ _ _ _
      | putfield _ =>
        cases hk : zkd aux with
        | zero => simp only [zw, hk]; exact zX_i1 (fun x S => zX_r1 (fun r S => zX_and (ih _ _ _ _ _ _)) (fun _ _ => zX_f))
        | succ q => cases q with
          | zero => simp only [zw, hk]; exact zX_i1 (fun x S => zX_r1 (fun r S => zX_and (zX_and (ih _ _ _ _ _ _))) (fun _ _ => zX_f))
          | succ q => simp only [zw, hk]; exact zX_r1 (fun x S => zX_r1 (fun r S => zX_and (ih _ _ _ _ _ _)) (fun _ _ => zX_f)) (fun _ _ => zX_f)
      | newarray _ => exact zX_i1 (fun x S => zX_and (ih _ _ _ _ _ _))
      | anewarray _ => exact zX_i1 (fun x S => zX_and (ih _ _ _ _ _ _))
      | new _ => exact zX_and (ih _ _ _ _ _ _)
      | iaload => simp only [zw]; exact zX_i1 (fun x S => zX_r1 (fun r S => zX_and (zX_and (ih _ _ _ _ _ _))) (fun r S => zX_and (zX_and (ih _ _ _ _ _ _))))
      | baload => simp only [zw]; exact zX_i1 (fun x S => zX_r1 (fun _ _ => zX_f) (fun r S => zX_and (zX_and (ih _ _ _ _ _ _))))
      | aaload => simp only [zw]; exact zX_i1 (fun x S => zX_r1 (fun r S => zX_and (zX_and (ih _ _ _ _ _ _))) (fun _ _ => zX_f))
      | iastore => simp only [zw]; exact zX_i2 (fun x y S => zX_r1 (fun r S => zX_and (zX_and (ih _ _ _ _ _ _))) (fun _ _ => zX_f))
      | aastore => simp only [zw]; exact zX_r1 (fun v S => zX_i1 (fun i S => zX_r1 (fun r S => zX_and (zX_and (zX_and (ih _ _ _ _ _ _)))) (fun _ _ => zX_f))) (fun _ _ => zX_f)
      | arraylength => simp only [zw]; exact zX_r1 (fun r S => zX_and (ih _ _ _ _ _ _)) (fun r S => zX_and (ih _ _ _ _ _ _))
      | invokespecial _ =>
        match aux with
        | [] => simp only [zw]; exact zX_r1 (fun r S => zX_and (zX_and (ih _ _ _ _ _ _))) (fun _ _ => zX_f)
        | [_] => exact zX_f
        | [_, _] => exact zX_f
        | (_, rk) :: (_, ac) :: (_, as) :: _ =>
          refine zX_pop (fun a S => zX_and (zX_and ?_)) _ _ _
          match rk with
          | 0 => exact zX_ex (fun _ => zX_and (ih _ _ _ _ _ _))
          | 1 => exact zX_ex (fun _ => zX_ex (fun _ => zX_and (ih _ _ _ _ _ _)))
          | _ + 2 => exact zX_ex (fun _ => zX_ex (fun _ => zX_and (ih _ _ _ _ _ _)))
      | invokevirtual _ =>
        match aux with
        | [] => exact zX_f
        | [_] => exact zX_f
        | [_, _] => exact zX_f
        | [_, _, _] => exact zX_f
        | (_, rk) :: (_, ac) :: (_, as) :: (_, ci) :: _ =>
          refine zX_pop (fun a S => zX_and (zX_and ?_)) _ _ _
          match rk with
          | 0 => exact zX_ex (fun _ => zX_and (ih _ _ _ _ _ _))
          | 1 => exact zX_ex (fun _ => zX_ex (fun _ => zX_and (ih _ _ _ _ _ _)))
          | _ + 2 => exact zX_ex (fun _ => zX_ex (fun _ => zX_and (ih _ _ _ _ _ _)))
      | invokestatic _ =>
        match aux with
        | [] =>
          match S with
          | .int c :: .int dp :: .ref r1 :: .int sp :: .ref r0 :: S => exact zX_and (ih _ _ _ _ _ _)
          | S =>
            intro h
            simp only [zw] at h ⊢
            split at h
            · obtain ⟨v, M', hp, hb⟩ := ih _ _ _ _ _ _ h.2
              exact ⟨v, M', hp, h.1, hb⟩
            · exact h.elim
        | [_] => exact zX_f
        | [_, _] => exact zX_f
        | (_, rk) :: (_, ac) :: (_, as) :: _ =>
          refine zX_pop (fun a S => zX_and ?_) _ _ _
          match rk with
          | 0 => exact zX_ex (fun _ => zX_and (ih _ _ _ _ _ _))
          | 1 => exact zX_ex (fun _ => zX_ex (fun _ => zX_and (ih _ _ _ _ _ _)))
          | _ + 2 => exact zX_ex (fun _ => zX_ex (fun _ => zX_and (ih _ _ _ _ _ _)))
      | ireturn =>
        match S with
        | [] => exact zX_f
        | [v] => cases v <;> first | exact zX_and zX_ret | exact zX_f
        | v :: w :: S => cases v <;> exact zX_f
      | areturn =>
        match S with
        | [] => exact zX_f
        | [v] => cases v <;> first | exact zX_ret | exact zX_f
        | v :: w :: S => cases v <;> exact zX_f
      | return_ =>
        match S with
        | [] => exact zX_ret
        | _ :: _ => exact zX_f
      | _ =>
        first
          | exact zX_f
          | exact ih _ _ _ _ _ _
          | exact zX_i2 (fun _ _ _ => ih _ _ _ _ _ _)
          | exact zX_i1 (fun _ _ => ih _ _ _ _ _ _)
          | exact zX_l2 (fun _ _ _ => ih _ _ _ _ _ _)
          | exact zX_i2 (fun _ _ _ => zX_and (ih _ _ _ _ _ _))
theorem zgo_ex {X : List Int32} {C : Nat → List Value → Mm → Option Value → Mm → Prop} {cd : List zEn} {mc ms : Nat} {cs : List zEn} {L S : List Value} {uc us : Nat} {M : Mm} {P : zQt} (h : zgo X C cd mc ms cs L S uc us M P) : ∃ v M', P v M' ∧ zgo X C cd mc ms cs L S uc us M (fun v2 M2 => v2 = v ∧ M2 = M') := by
  refine h (fun cs L S uc us M _ => ∃ v M', P v M' ∧ zgo X C cd mc ms cs L S uc us M (fun v2 M2 => v2 = v ∧ M2 = M')) (fun n cs L S uc us M hw => ?_)
  obtain ⟨v, M', hp, hz⟩ := zw_ex (T := fun cs L S uc us M _ => ∃ v M', P v M' ∧ zgo X C cd mc ms cs L S uc us M (fun v2 M2 => v2 = v ∧ M2 = M')) (T' := zgo X C cd mc ms) (P := P) (fun cs L S uc us M q => q) n cs L S uc us M hw
  exact ⟨v, M', hp, zgo_in n hz⟩
/-- into a method with a postcondition -/
theorem zpoA {X : List Int32} {C : Nat → List Value → Mm → Option Value → Mm → Prop} {cd : List zEn} {mc ms : Nat} {cs : List zEn} {L S : List Value} {uc us : Nat} {M : Mm} {P : zQt} {D : Option Value → Mm → Prop} (hi : ∀ v M', zgo X C cd mc ms cs L S uc us M (fun v2 M2 => v2 = v ∧ M2 = M') → D v M') (h : zgo X C cd mc ms cs L S uc us M P) : ∃ v M', P v M' ∧ D v M' := by
  obtain ⟨v, M', hp, hz⟩ := zgo_ex h
  exact ⟨v, M', hp, hi v M' hz⟩
/-- .. that answers an int -/
theorem zpoI {X : List Int32} {C : Nat → List Value → Mm → Option Value → Mm → Prop} {cd : List zEn} {mc ms : Nat} {cs : List zEn} {L S : List Value} {uc us : Nat} {M : Mm} {P : Int32 → Mm → Prop} {D : Option Value → Mm → Prop} (hi : ∀ v M', zgo X C cd mc ms cs L S uc us M (fun v2 M2 => v2 = v ∧ M2 = M') → D v M') (h : zgo X C cd mc ms cs L S uc us M (fun v M' => ∃ x, v = some (.int x) ∧ P x M')) : ∃ x M', P x M' ∧ D (some (.int x)) M' := by
  obtain ⟨v, M', ⟨x, rfl, hp⟩, hz⟩ := zgo_ex h
  exact ⟨x, M', hp, hi _ M' hz⟩
/-- .. that answers nothing -/
theorem zpoV {X : List Int32} {C : Nat → List Value → Mm → Option Value → Mm → Prop} {cd : List zEn} {mc ms : Nat} {cs : List zEn} {L S : List Value} {uc us : Nat} {M : Mm} {P : Mm → Prop} {D : Option Value → Mm → Prop} (hi : ∀ v M', zgo X C cd mc ms cs L S uc us M (fun v2 M2 => v2 = v ∧ M2 = M') → D v M') (h : zgo X C cd mc ms cs L S uc us M (fun v M' => v = none ∧ P M')) : ∃ M', P M' ∧ D none M' := by
  obtain ⟨v, M', ⟨rfl, hp⟩, hz⟩ := zgo_ex h
  exact ⟨M', hp, hi _ M' hz⟩
/-- both calls of an operation, one behind the other -/
theorem zOp {X : List Int32} {y z : Nat} {a : List Value} {M : Mm} {C C2 : Nat → List Value → Mm → Option Value → Mm → Prop} {cd cd2 : List zEn} {mc ms mc2 ms2 : Nat} {L L2 : List Value} (hi : ∀ v M', zgo X C cd mc ms cd L [] 0 0 M (fun v2 M2 => v2 = v ∧ M2 = M') → zca X zML 300 y (.ref 1 :: a) M v M') (hi2 : ∀ M1 v M', zgo X C2 cd2 mc2 ms2 cd2 L2 [] 0 0 M1 (fun v2 M2 => v2 = v ∧ M2 = M') → zca X zML 300 z (.ref 150 :: a) M1 v M') (h : zgo X C cd mc ms cd L [] 0 0 M (fun v M1 => ∃ x, v = some (.int x) ∧ zgo X C2 cd2 mc2 ms2 cd2 L2 [] 0 0 M1 (fun w M2 => w = some (.int x) ∧ Rel M2))) : Opk X y z a M := by
  obtain ⟨x, M1, hp, h1⟩ := zpoI hi h
  obtain ⟨w, M2, ⟨rfl, hr⟩, h2⟩ := zpoA (hi2 M1) hp
  exact ⟨x, M1, M2, h1, h2, hr⟩
