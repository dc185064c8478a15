/-! two ways of reading -/
/-! TWO WAYS OF READING A ROW OF TOKENS: the reference's way down, the class's pile. A token: what (0 a number, 1 a name, 2 a sign, 3 nothing good), its value, its place. -/
abbrev Ts : Type := List ((Nat × Int32) × Nat)
abbrev Ss : Type := List (Int32 × Int32)
abbrev Re : Type := Bool × Ts × Ss
def unp (l : Nat) : List Int32 → Ss → List Int32 × Ss
  | [], S => ([], S)
  | c :: P, S => if l ≤ tg c then unp l P (S ++ [(2, c)]) else (c :: P, S)
def unn : List Int32 → Nat → Ss → List Int32 × Nat × Ss
  | [], T, S => ([], T, S)
  | c :: P, T, S => if c = 33 then unn P (T - 1) (S ++ [(2, 33)]) else (c :: P, T, S)
def tp3 : List Int32 → Bool
  | [] => false
  | x :: _ => decide (tg x = 3)
/-- what may open a piece: goes on with what stands behind it -/
def rdB (x : Option Re) (f : Ts → Ss → Option Re) : Option Re := match x with
  | none => none
  | some (false, e, _) => some (false, e, [])
  | some (true, ts, S) => f ts S
def is41 : Ts → Bool
  | ((k, v), _) :: _ => decide (k = 2 ∧ v = 41)
  | [] => false
def isLv (l : Nat) : Ts → Bool
  | ((k, v), _) :: _ => decide (k = 2 ∧ tg v = l)
  | [] => false
/-- the reference's way down (levels 1 either .. 5 term, 6 a part; lp: in the loop of a level), with fuel -/
def rd : Nat → Bool → Nat → Nat → Nat → Ts → Ss → Option Re
  | 0, _, _, _, _, _, _ => none
  | n + 1, false, D, T, l, ts, S => if l = 6 then (match ts with
      | [] => some (false, [], [])
      | ((k, v), b) :: r => if k = 0 then some (true, r, S ++ [(0, v)]) else if k = 1 then some (true, r, S ++ [(1, v)]) else if k = 2 ∧ v = 33 then (if T < 8 then rdB (rd n false D (T + 1) 6 r S) (fun r' S' => some (true, r', S' ++ [(2, 33)])) else some (false, ((k, v), b) :: r, [])) else if k = 2 ∧ v = 40 then (if D < 8 then rdB (rd n false (D + 1) T 1 r S) (fun r' S' => if is41 r' = true then some (true, r'.tail, S') else some (false, r', [])) else some (false, ((k, v), b) :: r, [])) else some (false, ((k, v), b) :: r, [])) else rdB (rd n false D T (l + 1) ts S) (fun ts' S' => rd n true D T l ts' S')
  | n + 1, true, D, T, l, ts, S => match ts with
      | [] => some (true, [], S)
      | ((k, v), b) :: r => if k = 2 ∧ tg v = l then rdB (rd n false D T (l + 1) r S) (fun ts' S' => if l = 3 then some (true, ts', S' ++ [(2, v)]) else rd n true D T l ts' (S' ++ [(2, v)])) else some (true, ((k, v), b) :: r, S)
theorem rd_f {n D T l : Nat} {ts : Ts} {S : Ss} : rd (n + 1) false D T l ts S = (if l = 6 then (match ts with
      | [] => some (false, [], [])
      | ((k, v), b) :: r => if k = 0 then some (true, r, S ++ [(0, v)]) else if k = 1 then some (true, r, S ++ [(1, v)]) else if k = 2 ∧ v = 33 then (if T < 8 then rdB (rd n false D (T + 1) 6 r S) (fun r' S' => some (true, r', S' ++ [(2, 33)])) else some (false, ((k, v), b) :: r, [])) else if k = 2 ∧ v = 40 then (if D < 8 then rdB (rd n false (D + 1) T 1 r S) (fun r' S' => if is41 r' = true then some (true, r'.tail, S') else some (false, r', [])) else some (false, ((k, v), b) :: r, [])) else some (false, ((k, v), b) :: r, [])) else rdB (rd n false D T (l + 1) ts S) (fun ts' S' => rd n true D T l ts' S')) := rfl
/-- the class's way with a pile -/
def ru : Ts → Bool → Nat → Nat → List Int32 → Ss → Re
  | [], true, _, _, _, _ => (false, [], [])
  | [], false, D, _, P, S => if D = 0 then (true, [], (unp 1 P S).2) else (false, [], [])
  | ((k, v), b) :: r, true, D, T, P, S => if k = 0 then ru r false D (unn P T (S ++ [(0, v)])).2.1 (unn P T (S ++ [(0, v)])).1 (unn P T (S ++ [(0, v)])).2.2 else if k = 1 then ru r false D (unn P T (S ++ [(1, v)])).2.1 (unn P T (S ++ [(1, v)])).1 (unn P T (S ++ [(1, v)])).2.2 else if k = 2 ∧ v = 40 then (if D < 8 then ru r true (D + 1) T (40 :: P) S else (false, ((k, v), b) :: r, [])) else if k = 2 ∧ v = 33 then (if T < 8 then ru r true D (T + 1) (33 :: P) S else (false, ((k, v), b) :: r, [])) else (false, ((k, v), b) :: r, [])
  | ((k, v), b) :: r, false, D, T, P, S => if k = 2 ∧ v = 41 then (if D = 0 then (false, ((k, v), b) :: r, []) else ru r false (D - 1) (unn (unp 1 P S).1.tail T (unp 1 P S).2).2.1 (unn (unp 1 P S).1.tail T (unp 1 P S).2).1 (unn (unp 1 P S).1.tail T (unp 1 P S).2).2.2) else if k = 2 ∧ tg v ≠ 0 then (if tg v = 3 ∧ tp3 (unp 4 P S).1 = true then (false, ((k, v), b) :: r, []) else ru r true D T (v :: (unp (if tg v = 3 then 4 else tg v) P S).1) (unp (if tg v = 3 then 4 else tg v) P S).2) else (false, ((k, v), b) :: r, [])
def en (O : List Int32) : Ss := O.map fun c => (2, c)
def Tp (l : Nat) (P : List Int32) : Prop := ∀ c Q, P = c :: Q → tg c < l ∧ c ≠ 33
def Al (l : Nat) (O : List Int32) : Prop := ∀ c, c ∈ O → l ≤ tg c
theorem unp_al {l : Nat} {P : List Int32} (hP : Tp l P) : ∀ O S, Al l O → unp l (O ++ P) S = (P, S ++ en O)
  | [], S, _ => by
    cases P with
    | nil => simp [unp, en]
    | cons c Q => simp [unp, en, Nat.not_le.mpr (hP c Q rfl).1]
  | c :: O, S, h => by
    rw [List.cons_append, unp, if_pos (h c (List.mem_cons_self ..)), unp_al hP O _ (fun x hx => h x (List.mem_cons_of_mem _ hx))]
    simp [en]
def nts (j : Nat) (P : List Int32) : List Int32 := List.replicate j 33 ++ P
theorem unn_nts {P : List Int32} (hP : ∀ Q, P ≠ 33 :: Q) : ∀ j T S, unn (nts j P) T S = (P, T - j, S ++ en (List.replicate j 33))
  | 0, T, S => by
    cases P with
    | nil => simp [nts, unn, en]
    | cons c Q =>
      have : c ≠ 33 := fun e => hP Q (by rw [e])
      simp [nts, unn, en, this]
  | j + 1, T, S => by
    have := unn_nts hP j (T - 1) (S ++ [(2, 33)])
    simp only [nts, List.replicate_succ, List.cons_append, unn, if_true] at this ⊢
    rw [this]
    simp [en]
    omega
def Ex (l : Nat) (O : List Int32) (ts : Ts) : Prop := ∀ c b r, ts = ((2, c), b) :: r → l ≤ tg c → tg c = 3 ∧ ∃ O1 x O2, O = O1 ++ x :: O2 ∧ Al 4 O1 ∧ tg x = 3
theorem tg_le (c : Int32) : tg c ≤ 5 := by unfold tg; repeat' first | decide | split
theorem tg33 : tg 33 = 0 := by decide
theorem tg40 : tg 40 = 0 := by decide
theorem tg41 : tg 41 = 0 := by decide
theorem Tp_mono {l m : Nat} {P : List Int32} (h : l ≤ m) (hP : Tp l P) : Tp m P := fun c Q e => ⟨Nat.lt_of_lt_of_le (hP c Q e).1 h, (hP c Q e).2⟩
theorem Tp_cons {l : Nat} {c : Int32} {P : List Int32} (h : tg c < l) (h3 : c ≠ 33) : Tp l (c :: P) := fun x Q e => by
  cases e
  exact ⟨h, h3⟩
theorem Tp_ne {l : Nat} {P : List Int32} (hP : Tp l P) : ∀ Q, P ≠ 33 :: Q := fun Q e => (hP 33 Q e).2 rfl
def Lpp (D T : Nat) (j : Nat) (P : List Int32) (ts : Ts) (S : Ss) : Re → Prop
  | (false, e, _) => ru ts true D T (nts j P) S = (false, e, [])
  | (true, ts', S') => ru ts true D T (nts j P) S = ru ts' false D (T - j) P (S' ++ en (List.replicate j 33))
def Lvv (D T l : Nat) (P : List Int32) (ts : Ts) (S : Ss) : Re → Prop
  | (false, e, _) => ru ts true D T P S = (false, e, [])
  | (true, ts', S') => ∃ O S1, S' = S1 ++ en O ∧ Al l O ∧ Ex l O ts' ∧ ru ts true D T P S = ru ts' false D T (O ++ P) S1
def Lll (D T l : Nat) (P O : List Int32) (ts : Ts) (S1 : Ss) : Re → Prop
  | (false, e, _) => ru ts false D T (O ++ P) S1 = (false, e, [])
  | (true, ts', S') => ∃ O' S1', S' = S1' ++ en O' ∧ Al l O' ∧ Ex l O' ts' ∧ ru ts false D T (O ++ P) S1 = ru ts' false D T (O' ++ P) S1'
theorem Lvv_of {D T : Nat} {P : List Int32} {ts : Ts} {S : Ss} {res : Re} (h : Lpp D T 0 P ts S res) : Lvv D T 6 P ts S res := by
  obtain ⟨b, ts', S'⟩ := res
  cases b with
  | false => exact h
  | true =>
    refine ⟨[], S', by simp [en], fun c hc => absurd hc (by simp), fun c b r _ hc => absurd hc (by have := tg_le c; omega), ?_⟩
    have h : ru ts true D T (nts 0 P) S = ru ts' false D (T - 0) P (S' ++ en (List.replicate 0 33)) := h
    simpa [en, nts] using h
theorem bad_end {D T : Nat} {P O : List Int32} {ts : Ts} {S1 : Ss} (hE : Ex 1 O ts) (h0 : ts = [] → D ≠ 0) (h41 : is41 ts = true → D = 0) : ru ts false D T (O ++ P) S1 = (false, ts, []) := by
  cases ts with
  | nil =>
    show (if D = 0 then _ else _) = _
    rw [if_neg (h0 rfl)]
  | cons t r =>
    obtain ⟨⟨k, v⟩, b⟩ := t
    rw [ru]
    by_cases h : k = 2 ∧ v = 41
    · rw [if_pos h, if_pos (h41 (decide_eq_true h))]
    · rw [if_neg h]
      by_cases h2 : k = 2 ∧ tg v ≠ 0
      · obtain ⟨rfl, ht⟩ := h2
        rw [if_pos ⟨rfl, ht⟩]
        obtain ⟨h3, O1, x, O2, rfl, hO, hx⟩ := hE v b r rfl (by omega)
        have hx3 : x ≠ 33 := fun e => by rw [e, tg33] at hx; cases hx
        have hu := unp_al (l := 4) (P := x :: O2 ++ P) (Tp_cons (by omega) hx3) O1 S1 hO
        rw [List.append_assoc, hu, if_pos ⟨h3, decide_eq_true hx⟩]
      · rw [if_neg h2]
theorem rdB_s {x : Option Re} {f : Ts → Ss → Option Re} {res : Re} (h : rdB x f = some res) : (∃ e S, x = some (false, e, S) ∧ res = (false, e, [])) ∨ ∃ ts S, x = some (true, ts, S) ∧ f ts S = some res := by
  cases x with
  | none => cases h
  | some y =>
    obtain ⟨b, ts, S⟩ := y
    cases b with
    | false =>
      left
      cases h
      exact ⟨ts, S, rfl, rfl⟩
    | true => exact Or.inr ⟨ts, S, rfl, h⟩
theorem sim : ∀ n lp D T l ts S res, rd n lp D T l ts S = some res →
    (lp = false → l = 6 → ∀ j P, (∀ Q, P ≠ 33 :: Q) → Lpp D T j P ts S res) ∧
    (lp = false → 1 ≤ l → l ≤ 5 → ∀ P, Tp l P → Lvv D T l P ts S res) ∧
    (lp = true → 1 ≤ l → l ≤ 5 → ∀ P O S1, Tp l P → S = S1 ++ en O → Al (if l = 3 then 4 else l) O → Ex (l + 1) O ts → Lll D T l P O ts S1 res) := by
  intro n
  induction n with
  | zero => intro lp D T l ts S res h; cases lp <;> cases h
  | succ n ih =>
    intro lp D T l ts S res h
    have lv : ∀ {D T l : Nat} {ts : Ts} {S : Ss} {res : Re}, 1 ≤ l → l ≤ 5 → rd n false D T (l + 1) ts S = some res → ∀ P, Tp (l + 1) P → Lvv D T (l + 1) P ts S res := fun {D T l ts S res} h1 h5 hr P hP => by
      by_cases e : l = 5
      · subst e
        exact Lvv_of ((ih _ _ _ _ _ _ _ hr).1 rfl rfl 0 P (Tp_ne hP))
      · exact (ih _ _ _ _ _ _ _ hr).2.1 rfl (by omega) (by omega) P hP
    cases lp with
    | false =>
      rw [rd_f] at h
      by_cases h6 : l = 6
      · subst h6
        rw [if_pos rfl] at h
        refine ⟨fun _ _ j P hP => ?_, fun _ _ q => absurd q (by decide), fun q => (by cases q)⟩
        cases ts with
        | nil =>
          cases h
          rfl
        | cons t r =>
          obtain ⟨⟨k, v⟩, b⟩ := t
          dsimp only at h
          by_cases k0 : k = 0
          · rw [if_pos k0] at h
            cases h
            show ru _ true D T (nts j P) S = _
            rw [ru, if_pos k0, unn_nts hP]
          rw [if_neg k0] at h
          by_cases k1 : k = 1
          · rw [if_pos k1] at h
            cases h
            show ru _ true D T (nts j P) S = _
            rw [ru, if_neg k0, if_pos k1, unn_nts hP]
          rw [if_neg k1] at h
          by_cases k33 : k = 2 ∧ v = 33
          · rw [if_pos k33] at h
            have n40 : ¬ (k = 2 ∧ v = 40) := fun q => by rw [k33.2] at q; exact absurd q.2 (by decide)
            by_cases hT : T < 8
            · rw [if_pos hT] at h
              rcases rdB_s h with ⟨e, S2, hx, rfl⟩ | ⟨r', S', hx, hf⟩
              · have q := (ih _ _ _ _ _ _ _ hx).1 rfl rfl (j + 1) P hP
                show ru _ true D T (nts j P) S = _
                rw [ru, if_neg k0, if_neg k1, if_neg n40, if_pos k33, if_pos hT]
                exact q
              · cases hf
                have q := (ih _ _ _ _ _ _ _ hx).1 rfl rfl (j + 1) P hP
                have q : ru r true D (T + 1) (nts (j + 1) P) S = ru r' false D (T + 1 - (j + 1)) P (S' ++ en (List.replicate (j + 1) 33)) := q
                show ru _ true D T (nts j P) S = ru r' false D (T - j) P (S' ++ [(2, 33)] ++ en (List.replicate j 33))
                rw [ru, if_neg k0, if_neg k1, if_neg n40, if_pos k33, if_pos hT]
                rw [Nat.add_sub_add_right] at q
                have e2 : S' ++ [(2, 33)] ++ en (List.replicate j 33) = S' ++ en (List.replicate (j + 1) 33) := by simp [en, List.replicate_succ]
                rw [e2]
                exact q
            · rw [if_neg hT] at h
              cases h
              show ru _ true D T (nts j P) S = _
              rw [ru, if_neg k0, if_neg k1, if_neg n40, if_pos k33, if_neg hT]
          rw [if_neg k33] at h
          by_cases k40 : k = 2 ∧ v = 40
          · rw [if_pos k40] at h
            by_cases hD : D < 8
            · rw [if_pos hD] at h
              rcases rdB_s h with ⟨e, S2, hx, rfl⟩ | ⟨r', S', hx, hf⟩
              · have q := (ih _ _ _ _ _ _ _ hx).2.1 rfl (by decide) (by decide) (40 :: nts j P) (Tp_cons (by decide) (by decide))
                show ru _ true D T (nts j P) S = _
                rw [ru, if_neg k0, if_neg k1, if_pos k40, if_pos hD]
                exact q
              · obtain ⟨O, S1, rfl, hA, hE, hq⟩ := (ih _ _ _ _ _ _ _ hx).2.1 rfl (by decide) (by decide) (40 :: nts j P) (Tp_cons (by decide) (by decide))
                by_cases h41 : is41 r' = true
                · rw [if_pos h41] at hf
                  cases hf
                  show ru _ true D T (nts j P) S = ru r'.tail false D (T - j) P (S1 ++ en O ++ en (List.replicate j 33))
                  rw [ru, if_neg k0, if_neg k1, if_pos k40, if_pos hD, hq]
                  cases r' with
                  | nil => cases h41
                  | cons t2 r2 =>
                    obtain ⟨⟨k2, v2⟩, b2⟩ := t2
                    have h41 := of_decide_eq_true h41
                    rw [ru, if_pos h41, if_neg (by omega), unp_al (Tp_cons (by decide) (by decide)) O S1 hA]
                    show ru r2 false (D + 1 - 1) (unn (nts j P) T (S1 ++ en O)).2.1 (unn (nts j P) T (S1 ++ en O)).1 (unn (nts j P) T (S1 ++ en O)).2.2 = _
                    rw [unn_nts hP]
                    rfl
                · rw [if_neg h41] at hf
                  cases hf
                  show ru _ true D T (nts j P) S = _
                  rw [ru, if_neg k0, if_neg k1, if_pos k40, if_pos hD, hq]
                  exact bad_end hE (fun _ => by omega) (fun q => absurd q h41)
            · rw [if_neg hD] at h
              cases h
              show ru _ true D T (nts j P) S = _
              rw [ru, if_neg k0, if_neg k1, if_pos k40, if_neg hD]
          · rw [if_neg k40] at h
            cases h
            show ru _ true D T (nts j P) S = _
            rw [ru, if_neg k0, if_neg k1, if_neg k40, if_neg k33]
      · rw [if_neg h6] at h
        refine ⟨fun _ q => absurd q h6, fun _ h1 h5 P hP => ?_, fun q => (by cases q)⟩
        rcases rdB_s h with ⟨e, S2, hx, rfl⟩ | ⟨ts', S', hx, hf⟩
        · exact lv h1 h5 hx P (Tp_mono (by omega) hP)
        · obtain ⟨O, S1, rfl, hA, hE, hq⟩ := lv h1 h5 hx P (Tp_mono (by omega) hP)
          have := (ih _ _ _ _ _ _ _ hf).2.2 rfl h1 h5 P O S1 hP rfl (fun c hc => by have := hA c hc; split <;> omega) hE
          obtain ⟨rb, rt, rS⟩ := res
          cases rb with
          | false => exact hq.trans this
          | true =>
            obtain ⟨O', S1', e', hA', hE', hq'⟩ := this
            exact ⟨O', S1', e', hA', hE', hq.trans hq'⟩
    | true =>
      refine ⟨fun q => (by cases q), fun q => (by cases q), fun _ h1 h5 P O S1 hP e hA hE => ?_⟩
      have stay : ∀ ts, (∀ c b r, ts = ((2, c), b) :: r → tg c ≠ l) → Ex (l + 1) O ts → Lll D T l P O ts S1 (true, ts, S) := fun ts hn hE => by
        refine ⟨O, S1, e, fun c hc => ?_, fun c b r et hc => ?_, rfl⟩
        · have := hA c hc
          split at this <;> omega
        · exact hE c b r et (by have := hn c b r et; omega)
      cases ts with
      | nil =>
        cases h
        exact stay [] (fun c b r q => by cases q) hE
      | cons t r =>
        obtain ⟨⟨k, v⟩, b⟩ := t
        rw [rd] at h
        try dsimp only at h
        by_cases hk : k = 2 ∧ tg v = l
        · rw [if_pos hk] at h
          obtain ⟨rfl, ht⟩ := hk
          have hc : v ≠ 33 := fun e => by rw [e, tg33] at ht; omega
          have n41 : ¬ ((2 : Nat) = 2 ∧ v = 41) := fun q => by rw [q.2, tg41] at ht; omega
          subst e
          have hu := unp_al (Tp_mono (m := if l = 3 then 4 else l) (by split <;> omega) hP) O S1 hA
          have nC : ¬ (tg v = 3 ∧ tp3 (unp 4 (O ++ P) S1).1 = true) := fun q => by
            have l3 : l = 3 := by omega
            rw [if_pos l3] at hu
            rw [hu] at q
            cases P with
            | nil => cases q.2
            | cons x Q =>
              have := (hP x Q rfl).1
              have := of_decide_eq_true q.2
              omega
          have key : ru (((2, v), b) :: r) false D T (O ++ P) S1 = ru r true D T (v :: P) (S1 ++ en O) := by
            rw [ru, if_neg n41, if_pos ⟨rfl, by omega⟩, if_neg nC, ht, hu]
          rcases rdB_s h with ⟨e, S2, hx, rfl⟩ | ⟨ts', S', hx, hf⟩
          · have := lv h1 h5 hx (v :: P) (Tp_cons (by omega) hc)
            exact key.trans this
          · obtain ⟨O2, S2, rfl, hA2, hE2, hq2⟩ := lv h1 h5 hx (v :: P) (Tp_cons (by omega) hc)
            by_cases l3 : l = 3
            · rw [if_pos l3] at hf
              cases hf
              refine ⟨O2 ++ [v], S2, by simp [en], fun x hx => ?_, fun c' b' r' e' h' => ?_, ?_⟩
              · rcases List.mem_append.mp hx with hx | hx
                · have := hA2 x hx; omega
                · rw [List.mem_singleton.mp hx]; omega
              · by_cases h4 : 4 ≤ tg c'
                · have := (hE2 c' b' r' e' (by omega)).1
                  omega
                · exact ⟨by omega, O2, v, [], rfl, fun x hx => by have := hA2 x hx; omega, by omega⟩
              · rw [key, hq2]
                simp
            · rw [if_neg l3] at hf
              have := (ih _ _ _ _ _ _ _ hf).2.2 rfl h1 h5 P (O2 ++ [v]) S2 hP (by simp [en]) (fun x hx => by
                rw [if_neg l3]
                rcases List.mem_append.mp hx with hx | hx
                · have := hA2 x hx; omega
                · rw [List.mem_singleton.mp hx]; omega) (fun c' b' r' e' h' => by
                  obtain ⟨h3, O1, x, O3, rfl, hO, hx⟩ := hE2 c' b' r' e' h'
                  exact ⟨h3, O1, x, O3 ++ [v], by simp, hO, hx⟩)
              have k2 : ru (((2, v), b) :: r) false D T (O ++ P) S1 = ru ts' false D T (O2 ++ [v] ++ P) S2 := by
                rw [key, hq2]
                simp
              obtain ⟨rb, rt, rS⟩ := res
              cases rb with
              | false => exact k2.trans this
              | true =>
                obtain ⟨O', S1', e', hA', hE', hq'⟩ := this
                exact ⟨O', S1', e', hA', hE', k2.trans hq'⟩
        · rw [if_neg hk] at h
          cases h
          exact stay _ (fun c b' r' q => by
            cases q
            exact fun q => hk ⟨rfl, q⟩) hE
/-- from the top: both ways say the same */ -/
theorem sim_top {n : Nat} {ts : Ts} {res : Re} (h : rd n false 0 0 1 ts [] = some res) : ru ts true 0 0 [] [] = if res.1 = true ∧ res.2.1 = [] then (true, [], res.2.2) else (false, res.2.1, []) := by
  have := (sim n _ _ _ _ _ _ _ h).2.1 rfl (by decide) (by decide) [] (fun c Q e => by cases e)
  obtain ⟨rb, rt, rS⟩ := res
  cases rb with
  | false => exact this
  | true =>
    obtain ⟨O, S1, rfl, hA, hE, hq⟩ := this
    rw [hq]
    cases rt with
    | nil =>
      have hu := unp_al (l := 1) (P := []) (fun c Q e => by cases e) O S1 hA
      show (if (0 : Nat) = 0 then ((true, [], (unp 1 (O ++ []) S1).2) : Re) else _) = _
      rw [if_pos rfl, hu]
      rfl
    | cons t r =>
      rw [bad_end hE (fun q => by cases q) (fun _ => rfl)]
      rfl
