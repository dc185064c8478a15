/-! constructors worked out -/
/-! A RUN OF CONSTRUCTORS, worked out: memory as lists of writes -/
abbrev Dm : Type := List (Nat × Option Nat × Int32) × List (Nat × Option Nat × Nat) × List (Nat × Nat × Nat) × Nat
def dlI : List (Nat × Option Nat × Int32) → Nat → Nat → Int32
  | [], _, _ => 0
  | (a, none, v) :: l, r, j => if r = a then v else dlI l r j
  | (a, some k, v) :: l, r, j => if r = a then (if j = k then v else dlI l r j) else dlI l r j
def dlR : List (Nat × Option Nat × Nat) → Nat → Nat → Nat
  | [], _, _ => 0
  | (a, none, v) :: l, r, j => if r = a then v else dlR l r j
  | (a, some k, v) :: l, r, j => if r = a then (if j = k then v else dlR l r j) else dlR l r j
def dlT : List (Nat × Nat × Nat) → Nat → Nat
  | [], _ => 0
  | (a, t, _) :: l, r => if r = a then t else dlT l r
def dlL : List (Nat × Nat × Nat) → Nat → Nat
  | [], _ => 0
  | (a, _, n) :: l, r => if r = a then n else dlL l r
def vwD (D : Dm) : Mm := (dlI D.1, dlR D.2.1, dlT D.2.2.1, dlL D.2.2.1, D.2.2.2)
def dI (D : Dm) (r j : Nat) (v : Int32) : Dm := ((r, some j, v) :: D.1, D.2)
def dR (D : Dm) (r j v : Nat) : Dm := (D.1, (r, some j, v) :: D.2.1, D.2.2)
def dN (D : Dm) (t n : Nat) : Dm := ((D.2.2.2 + 1, none, 0) :: D.1, (D.2.2.2 + 1, none, 0) :: D.2.1, (D.2.2.2 + 1, t, n) :: D.2.2.1, D.2.2.2 + 1)
theorem vw_dI (D : Dm) (r j : Nat) (v : Int32) : vwD (dI D r j v) = wI (vwD D) r j v := rfl
theorem vw_dR (D : Dm) (r j v : Nat) : vwD (dR D r j v) = wR (vwD D) r j v := rfl
theorem vw_dN (D : Dm) (t n : Nat) : vwD (dN D t n) = wN (vwD D) t n := rfl
def dO (D : Dm) (r c : Nat) : Bool := decide (0 < r) && decide (r ≤ D.2.2.2) && decide (dlT D.2.2.1 r = c)
theorem dO_of {D : Dm} {r c : Nat} (h : dO D r c = true) : zO (vwD D) r c := by
  unfold dO at h
  rw [Bool.and_eq_true, Bool.and_eq_true] at h
  exact ⟨of_decide_eq_true h.1.1, of_decide_eq_true h.1.2, of_decide_eq_true h.2⟩
def dV (i : Int32) (n : Nat) : Bool := decide (i = nI i.toNatClampNeg) && decide (i.toNatClampNeg < n) && decide (n < 2 ^ 31)
theorem dV_of {i : Int32} {n : Nat} (h : dV i n = true) : vp_in i n := by
  unfold dV at h
  rw [Bool.and_eq_true, Bool.and_eq_true] at h
  have e := of_decide_eq_true h.1.1
  rw [e]
  exact vp_in_nI (of_decide_eq_true h.1.2) (of_decide_eq_true h.2)
def zrn (C : Nat → List Value → Dm → Option Dm) (cd : List zEn) (mc ms : Nat) : Nat → List zEn → List Value → List Value → Nat → Nat → Dm → Option Dm
  | 0, _, _, _, _, _, _ => none
  | _ + 1, [], _, _, _, _, _ => none
  | n + 1, (_, ins, _, r1, r2, aux, k) :: cs, L, S, uc, us, (I, R, T, z) =>
    match ins with
    | .nop => zrn C cd mc ms n cs L S uc us (I, R, T, z)
    | .iconst _ => zrn C cd mc ms n cs L (.int k :: S) uc us (I, R, T, z)
    | .bipush _ => zrn C cd mc ms n cs L (.int k :: S) uc us (I, R, T, z)
    | .sipush _ => zrn C cd mc ms n cs L (.int k :: S) uc us (I, R, T, z)
    | .ldc _ => match r1 with
      | 0 => zrn C cd mc ms n cs L (.int k :: S) uc us (I, R, T, z)
      | _ + 1 => none
    | .aload_n _ => match zLo L r1 with
      | .ref x => zrn C cd mc ms n cs L (.ref x :: S) uc us (I, R, T, z)
      | _ => none
    | .iload_n _ => match zLo L r1 with
      | .int x => zrn C cd mc ms n cs L (.int x :: S) uc us (I, R, T, z)
      | _ => none
    | .istore_n _ => match S with
      | .int x :: S => zrn C cd mc ms n cs (zSe L r1 (.int x)) S uc us (I, R, T, z)
      | _ => none
    | .iinc _ _ => match zLo L r1 with
      | .int x => zrn C cd mc ms n cs (zSe L r1 (.int (x + k))) S uc us (I, R, T, z)
      | _ => none
    | .iadd => match S with
      | .int y :: .int x :: S => zrn C cd mc ms n cs L (.int (x + y) :: S) uc us (I, R, T, z)
      | _ => none
    | .dup => match S with
      | .ref v :: S => zrn C cd mc ms n cs L (.ref v :: .ref v :: S) uc us (I, R, T, z)
      | _ => none
    | .goto _ => zrn C cd mc ms n (zj cd r1) L S uc us (I, R, T, z)
    | .if_icmp .ge _ => match S with
      | .int y :: .int x :: S => if y ≤ x then zrn C cd mc ms n (zj cd r1) L S uc us (I, R, T, z) else zrn C cd mc ms n cs L S uc us (I, R, T, z)
      | _ => none
    | .new _ => if decide (uc + 1 ≤ mc) && decide (us + r2 ≤ ms) then (match z + 1 with
      | 0 => none
      | q + 1 => zrn C cd mc ms n cs L (.ref (q + 1) :: S) (uc + 1) (us + r2) ((q + 1, none, 0) :: I, (q + 1, none, 0) :: R, (q + 1, r1, r2) :: T, q + 1)) else none
    | .newarray _ => match S with
      | .int x :: S => if decide (¬ x < 0) && decide (x.toNatClampNeg ≤ 100000) && decide (uc + 1 ≤ mc) && decide (us + x.toNatClampNeg ≤ ms) then (match z + 1 with
        | 0 => none
        | q + 1 => zrn C cd mc ms n cs L (.ref (q + 1) :: S) (uc + 1) (us + x.toNatClampNeg) ((q + 1, none, 0) :: I, (q + 1, none, 0) :: R, (q + 1, 50, x.toNatClampNeg) :: T, q + 1)) else none
      | _ => none
    | .anewarray _ => match S with
      | .int x :: S => if decide (¬ x < 0) && decide (x.toNatClampNeg ≤ 100000) && decide (uc + 1 ≤ mc) && decide (us + x.toNatClampNeg ≤ ms) then (match z + 1 with
        | 0 => none
        | q + 1 => zrn C cd mc ms n cs L (.ref (q + 1) :: S) (uc + 1) (us + x.toNatClampNeg) ((q + 1, none, 0) :: I, (q + 1, none, 0) :: R, (q + 1, r1, x.toNatClampNeg) :: T, q + 1)) else none
      | _ => none
    | .putfield _ => match zkd aux, S with
      | 0, .int x :: .ref r :: S => if dO (I, R, T, z) r r1 then zrn C cd mc ms n cs L S uc us ((r, some r2, x) :: I, R, T, z) else none
      | 1, .int x :: .ref r :: S => if (decide (x = 0) || decide (x = 1)) && dO (I, R, T, z) r r1 then zrn C cd mc ms n cs L S uc us ((r, some r2, x) :: I, R, T, z) else none
      | _ + 2, .ref x :: .ref r :: S => if dO (I, R, T, z) r r1 then zrn C cd mc ms n cs L S uc us (I, (r, some r2, x) :: R, T, z) else none
      | _, _ => none
    | .getfield _ => match zkd aux, S with
      | _ + 2, .ref r :: S => if dO (I, R, T, z) r r1 then zrn C cd mc ms n cs L (.ref (dlR R r r2) :: S) uc us (I, R, T, z) else none
      | _, _ => none
    | .iastore => match S with
      | .int x :: .int i :: .ref r :: S => if dO (I, R, T, z) r 50 && dV i (dlL T r) then zrn C cd mc ms n cs L S uc us ((r, some i.toNatClampNeg, x) :: I, R, T, z) else none
      | _ => none
    | .aastore => match S with
      | .ref v :: .int i :: .ref r :: S => if decide (0 < r) && decide (r ≤ z) && decide (60 ≤ dlT T r) && dO (I, R, T, z) v (dlT T r - 60) && dV i (dlL T r) then zrn C cd mc ms n cs L S uc us (I, (r, some i.toNatClampNeg, v) :: R, T, z) else none
      | _ => none
    | .invokespecial _ => match aux, r2, S with
      | [], _, .ref r :: S => if decide (zLn S ≤ 8) && decide (0 < r) then zrn C cd mc ms n cs L S uc us (I, R, T, z) else none
      | (_, 0) :: (_, ac) :: (_, as) :: _, 1, .ref r :: S => if decide (zLn S ≤ 8) && decide (uc + ac ≤ mc) && decide (us + as ≤ ms) && decide (0 < r) then (match C r1 [.ref r] (I, R, T, z) with
        | none => none
        | some D9 => zrn C cd mc ms n cs L S (uc + ac) (us + as) D9) else none
      | _, _, _ => none
    | .return_ => match S with
      | [] => some (I, R, T, z)
      | _ => none
    | _ => none
set_option maxHeartbeats 2000000 in
theorem zrn_ok {X : List Int32} {C : Nat → List Value → Dm → Option Dm} {C2 : Nat → List Value → Mm → Option Value → Mm → Prop} (hC : ∀ y a D D', C y a D = some D' → C2 y a (vwD D) none (vwD D')) {cd : List zEn} {mc ms : Nat} {Q : zQt} : ∀ n cs L S uc us D D', zrn C cd mc ms n cs L S uc us D = some D' → Q none (vwD D') → zgo X C2 cd mc ms cs L S uc us (vwD D) Q := by
  intro n
  induction n with
  | zero => intro cs L S uc us D D' h; cases h
  | succ n ih =>
    intro cs L S uc us D D' h hQ
    obtain ⟨I, R, T, z⟩ := D
    cases cs with
    | nil => cases h
    | cons en cs =>
      obtain ⟨pc, ins, len, r1, r2, aux, k⟩ := en
      refine zgo_in 1 ?_
      cases ins with
      | nop => exact ih _ _ _ _ _ _ _ h hQ
      | iconst _ => exact ih _ _ _ _ _ _ _ h hQ
      | bipush _ => exact ih _ _ _ _ _ _ _ h hQ
      | sipush _ => exact ih _ _ _ _ _ _ _ h hQ
      | ldc _ => cases r1 with
        | zero => exact ih _ _ _ _ _ _ _ h hQ
        | succ _ => cases h
      | aload_n _ =>
        simp only [zrn] at h
        simp only [zw]
        split at h
        · rename_i e
          rw [e]
          exact ih _ _ _ _ _ _ _ h hQ
        · cases h
      | iload_n _ =>
        simp only [zrn] at h
        simp only [zw]
        split at h
        · rename_i e
          rw [e]
          exact ih _ _ _ _ _ _ _ h hQ
        · cases h
      | istore_n _ =>
        simp only [zrn] at h
        split at h
        · exact ih _ _ _ _ _ _ _ h hQ
        · cases h
      | iinc _ _ =>
        simp only [zrn] at h
        simp only [zw]
        split at h
        · rename_i e
          rw [e]
          exact ih _ _ _ _ _ _ _ h hQ
        · cases h
      | iadd =>
        simp only [zrn] at h
        split at h
        · exact ih _ _ _ _ _ _ _ h hQ
        · cases h
      | dup =>
        simp only [zrn] at h
        split at h
        · exact ⟨rfl, ih _ _ _ _ _ _ _ h hQ⟩
        · cases h
      | goto _ => exact ih _ _ _ _ _ _ _ h hQ
      | if_icmp c _ =>
        cases c with
        | ge =>
          simp only [zrn] at h
          split at h
          · rename_i y x S
            show if y ≤ x then _ else _
            split at h
            · rename_i e
              rw [if_pos e]
              exact ih _ _ _ _ _ _ _ h hQ
            · rename_i e
              rw [if_neg e]
              exact ih _ _ _ _ _ _ _ h hQ
          · cases h
        | _ => cases h
      | new _ =>
        simp only [zrn] at h
        split at h
        · rename_i e
          rw [Bool.and_eq_true, decide_eq_true_eq, decide_eq_true_eq] at e
          exact ⟨e, ih _ _ _ _ _ _ _ h hQ⟩
        · cases h
      | newarray _ =>
        simp only [zrn] at h
        split at h
        · split at h
          · rename_i e
            rw [Bool.and_eq_true, Bool.and_eq_true, Bool.and_eq_true, decide_eq_true_eq, decide_eq_true_eq, decide_eq_true_eq, decide_eq_true_eq] at e
            exact ⟨⟨e.1.1.1, e.1.1.2, e.1.2, e.2⟩, ih _ _ _ _ _ _ _ h hQ⟩
          · cases h
        · cases h
      | anewarray _ =>
        simp only [zrn] at h
        split at h
        · split at h
          · rename_i e
            rw [Bool.and_eq_true, Bool.and_eq_true, Bool.and_eq_true, decide_eq_true_eq, decide_eq_true_eq, decide_eq_true_eq, decide_eq_true_eq] at e
            exact ⟨⟨e.1.1.1, e.1.1.2, e.1.2, e.2⟩, ih _ _ _ _ _ _ _ h hQ⟩
          · cases h
        · cases h
      | putfield _ =>
        simp only [zrn] at h
        simp only [zw]
        split at h
        · rename_i e
          split at h
          · rename_i ho
            rw [e]
            exact ⟨dO_of ho, ih _ _ _ _ _ _ _ h hQ⟩
          · cases h
        · rename_i e
          split at h
          · rename_i ho
            rw [Bool.and_eq_true, Bool.or_eq_true, decide_eq_true_eq, decide_eq_true_eq] at ho
            rw [e]
            exact ⟨ho.1, dO_of ho.2, ih _ _ _ _ _ _ _ h hQ⟩
          · cases h
        · rename_i e
          split at h
          · rename_i ho
            rw [e]
            exact ⟨dO_of ho, ih _ _ _ _ _ _ _ h hQ⟩
          · cases h
        · cases h
      | getfield _ =>
        simp only [zrn] at h
        simp only [zw]
        split at h
        · rename_i e
          split at h
          · rename_i ho
            rw [e]
            exact ⟨dO_of ho, ih _ _ _ _ _ _ _ h hQ⟩
          · cases h
        · cases h
      | iastore =>
        simp only [zrn] at h
        split at h
        · split at h
          · rename_i ho
            rw [Bool.and_eq_true] at ho
            exact ⟨dO_of ho.1, dV_of ho.2, ih _ _ _ _ _ _ _ h hQ⟩
          · cases h
        · cases h
      | aastore =>
        simp only [zrn] at h
        split at h
        · split at h
          · rename_i ho
            rw [Bool.and_eq_true, Bool.and_eq_true, Bool.and_eq_true, Bool.and_eq_true, decide_eq_true_eq, decide_eq_true_eq, decide_eq_true_eq] at ho
            exact ⟨⟨ho.1.1.1.1, ho.1.1.1.2, ho.1.1.2⟩, Or.inr (dO_of ho.1.2), dV_of ho.2, ih _ _ _ _ _ _ _ h hQ⟩
          · cases h
        · cases h
      | invokespecial _ =>
        simp only [zrn] at h
        split at h
        · split at h
          · rename_i ho
            rw [Bool.and_eq_true, decide_eq_true_eq, decide_eq_true_eq] at ho
            exact ⟨ho.1, ho.2, ih _ _ _ _ _ _ _ h hQ⟩
          · cases h
        · split at h
          · rename_i ho
            rw [Bool.and_eq_true, Bool.and_eq_true, Bool.and_eq_true, decide_eq_true_eq, decide_eq_true_eq, decide_eq_true_eq, decide_eq_true_eq] at ho
            split at h
            · cases h
            · rename_i D2 e
              exact ⟨⟨ho.1.1.1, ho.1.1.2, ho.1.2⟩, ho.2, vwD D2, hC _ _ _ _ e, ih _ _ _ _ _ _ _ h hQ⟩
          · cases h
        · cases h
      | return_ =>
        simp only [zrn] at h
        split at h
        · cases h
          exact hQ
        · cases h
      | _ => cases h
def zcr : Nat → Nat → List Value → Dm → Option Dm
  | 0, _, _, _ => none
  | d + 1, y, a, D => match zML[y]? with
    | none => none
    | some (_, _, nL, _, mc, ms, cd, _) => if (znl a || zns cd) && decide (zas a ≤ nL) then zrn (zcr d) cd mc ms 4000 cd (zen nL a) [] 0 0 D else none
theorem zcr_ok {X : List Int32} : ∀ d y a D D', zcr d y a D = some D' → zca X zML d y a (vwD D) none (vwD D') := by
  intro d
  induction d with
  | zero => intro y a D D' h; cases h
  | succ d ih =>
    intro y a D D' h
    unfold zcr at h
    unfold zca
    split at h
    · cases h
    · rename_i e
      rw [e]
      split at h
      · rename_i ho
        rw [Bool.and_eq_true, decide_eq_true_eq] at ho
        exact ⟨ho, zrn_ok ih _ _ _ _ _ _ _ _ h ⟨rfl, rfl⟩⟩
      · cases h
