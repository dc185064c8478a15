/-! the beginning, worked out -/
def iniR (R : List (Nat × Option Nat × Nat)) : Bool := R.all fun e => match e.2.1 with
  | none => decide (e.2.2 = 0)
  | some j => decide (j < (skRl.getD e.1 []).length)
theorem dlR_0 {r j : Nat} (hj : (skRl.getD r []).length ≤ j) : ∀ R, iniR R = true → dlR R r j = 0
  | [], _ => rfl
  | (a, none, v) :: R, h => by
    unfold iniR at h
    rw [List.all_cons, Bool.and_eq_true] at h
    have h1 : v = 0 := of_decide_eq_true h.1
    show (if r = a then v else dlR R r j) = 0
    rw [h1, dlR_0 hj R h.2, ite_self]
  | (a, some k, v) :: R, h => by
    unfold iniR at h
    rw [List.all_cons, Bool.and_eq_true] at h
    have h1 : k < (skRl.getD a []).length := of_decide_eq_true h.1
    show (if r = a then (if j = k then v else dlR R r j) else dlR R r j) = 0
    rw [dlR_0 hj R h.2]
    split
    · rename_i e
      subst e
      rw [if_neg (by omega)]
    · rfl
/-- where something else than 0 may stand at the beginning: the time, open causes, weights, keys, promises and benches of phones, prices, what is missing */ -/
def nzP (a j : Nat) : Bool := (skT a == 6 && j == 11) || (skT a == 0 && j == 3) || (skT a == 3 && (j == 8 || j == 9)) || (skT a == 2 && j == 0) || (skT a == 5 && j == 0) || (skT a == 10 && j == 7) || a == 10 || a == 45 || a == 80 || a == 13 || a == 48 || a == 83 || (a == 151 && 8 ≤ j && j ≤ 17) || a == 154
def iniZ (I : List (Nat × Option Nat × Int32)) : Bool := I.all fun e => decide (e.2.2 = 0) || (match e.2.1 with
  | none => false
  | some j => nzP e.1 j)
theorem dlI_0 {r j : Nat} (hj : nzP r j = false) : ∀ I, iniZ I = true → dlI I r j = 0
  | [], _ => rfl
  | (a, none, v) :: I, h => by
    unfold iniZ at h
    rw [List.all_cons, Bool.and_eq_true] at h
    have h1 : v = 0 := by
      rcases Bool.or_eq_true _ _ ▸ h.1 with q | q
      · exact of_decide_eq_true q
      · cases q
    show (if r = a then v else dlI I r j) = 0
    rw [h1, dlI_0 hj I h.2, ite_self]
  | (a, some k, v) :: I, h => by
    unfold iniZ at h
    rw [List.all_cons, Bool.and_eq_true] at h
    show (if r = a then (if j = k then v else dlI I r j) else dlI I r j) = 0
    rw [dlI_0 hj I h.2]
    split
    · rename_i e
      subst e
      split
      · rename_i e2
        subst e2
        have h1 := h.1
        dsimp only at h1
        rw [hj, Bool.or_false] at h1
        exact of_decide_eq_true h1
      · rfl
    · rfl
def iniRun : Option Dm := match zcr 300 10 [.ref 1] ([(1, none, 0)], [(1, none, 0)], [(1, 11, 11)], 1) with
  | none => none
  | some (I, R, T, z) => if z = 149 then zcr 300 11 [.ref 150] ((150, none, 0) :: I, (150, none, 0) :: R, (150, 12, 37) :: T, 150) else none
def iniOn (f : Dm → Bool) : Bool := match iniRun with
  | none => false
  | some D => f D
def iniRow (k n : Nat) (D : Dm) : Bool := (List.range n).all fun i => (List.range (skRl.getD (k + i) []).length).all fun j => decide (dlR D.2.1 (k + i) j = skR (k + i) j)
set_option maxRecDepth 1000000 in
theorem ini_z : iniOn (fun D => decide (D.2.2.2 = 172) && iniR D.2.1 && iniZ D.1) = true := by decide +kernel
set_option maxRecDepth 1000000 in
theorem ini_t : iniOn (fun D => (List.range 173).all fun r => decide (dlT D.2.2.1 r = skT r) && decide (dlL D.2.2.1 r = skL r)) = true := by decide +kernel
set_option maxRecDepth 1000000 in
theorem ini_r0 : iniOn (iniRow 0 20) = true := by decide +kernel
set_option maxRecDepth 1000000 in
theorem ini_r1 : iniOn (iniRow 20 20) = true := by decide +kernel
set_option maxRecDepth 1000000 in
theorem ini_r2 : iniOn (iniRow 40 20) = true := by decide +kernel
set_option maxRecDepth 1000000 in
theorem ini_r3 : iniOn (iniRow 60 20) = true := by decide +kernel
set_option maxRecDepth 1000000 in
theorem ini_r4 : iniOn (iniRow 80 20) = true := by decide +kernel
set_option maxRecDepth 1000000 in
theorem ini_r5 : iniOn (iniRow 100 20) = true := by decide +kernel
set_option maxRecDepth 1000000 in
theorem ini_r6 : iniOn (iniRow 120 20) = true := by decide +kernel
set_option maxRecDepth 1000000 in
theorem ini_r7 : iniOn (iniRow 140 11) = true := by decide +kernel
set_option maxRecDepth 1000000 in
theorem ini_r8 : iniOn (iniRow 151 22) = true := by decide +kernel
set_option maxRecDepth 1000000 in
theorem ini_n : iniOn (fun D => decide (dlI D.1 2 11 = 1) && decide (dlI D.1 151 8 = 1) && decide (dlI D.1 12 3 = 255) && decide (dlI D.1 151 9 = 255) && (List.range 8).all (fun k => decide (dlI D.1 13 k = 1) && decide (dlI D.1 151 (10 + k) = 1)) && (List.range 3).all (fun k => decide (dlI D.1 10 k = -1000000005)) && (List.range 4).all (fun i => decide (dlI D.1 (122 + 2 * i) 0 = -1) && decide (dlI D.1 154 i = -1))) = true := by decide +kernel
