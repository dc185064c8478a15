/-! plans: what is pure -/
/-! plans: what is pure -/
def cbB (c : Int32) (m : Nat) (g : Int32) : Nat → Nat → Bool
  | 0, _ => false
  | k + 1, q => cbB c m g k q || (decide (g >>> (nI k &&& 31) &&& 1 = 1) && decide (zce c m k = q))
theorem cbB_s {c g : Int32} {m k q : Nat} : cbB c m g (k + 1) q = (cbB c m g k q || (decide (g >>> (nI k &&& 31) &&& 1 = 1) && decide (zce c m k = q))) := rfl
theorem cbB_f {c g : Int32} {m t : Nat} (ht : t < 8) : ∀ k, k ≤ t → cbB c m g k (zce c m t) = false
  | 0, _ => rfl
  | k + 1, h => by
    rw [cbB_s, cbB_f ht k (by omega), Bool.false_or, decide_eq_false (zce_ne (by omega) ht (by omega)), Bool.and_false]
theorem cbB_iff {c g : Int32} {m q : Nat} : ∀ k, cbB c m g k q = true ↔ ∃ t, t < k ∧ g >>> (nI t &&& 31) &&& 1 = 1 ∧ zce c m t = q
  | 0 => ⟨fun h => (by cases h), fun ⟨t, h, _⟩ => absurd h (Nat.not_lt_zero t)⟩
  | k + 1 => by
    rw [cbB_s, Bool.or_eq_true, cbB_iff k, Bool.and_eq_true, decide_eq_true_eq, decide_eq_true_eq]
    constructor
    · rintro (⟨t, h1, h2⟩ | ⟨h1, h2⟩)
      · exact ⟨t, by omega, h2⟩
      · exact ⟨k, by omega, h1, h2⟩
    · rintro ⟨t, h1, h2, h3⟩
      by_cases e : t = k
      · subst e
        exact Or.inr ⟨h2, h3⟩
      · exact Or.inl ⟨t, by omega, h2, h3⟩
theorem vAdd_q {c g : Int32} {m : Nat} {f : Nat → Int32} {q : Nat} : ∀ k, k ≤ 8 → (vAdd c m g k f).1 q = if cbB c m g k q = true then f q + zcm 1 (f q) else f q
  | 0, _ => rfl
  | k + 1, hk => by
    have ih := vAdd_q (c := c) (g := g) (m := m) (f := f) (q := q) k (by omega)
    have i2 := vAdd_q (c := c) (g := g) (m := m) (f := f) (q := zce c m k) k (by omega)
    rw [cbB_f (by omega) k (Nat.le_refl _), if_neg (by decide)] at i2
    rw [vAdd_s, cbB_s]
    by_cases b : g >>> (nI k &&& 31) &&& 1 = 1
    · rw [if_pos b, decide_eq_true b, Bool.true_and, i2]
      by_cases e : zce c m k = q
      · rw [decide_eq_true e, Bool.or_true, if_pos rfl, ← e]
        exact upds
      · rw [decide_eq_false e, Bool.or_false]
        show upd _ _ _ q = _
        rw [updn (Ne.symm e)]
        exact ih
    · rw [if_neg b, decide_eq_false b, Bool.false_and, Bool.or_false]
      exact ih
theorem vTk_q {c g : Int32} {m : Nat} {f : Nat → Int32} {q : Nat} : ∀ k, k ≤ 8 → vTk c m g k f q = if cbB c m g k q = true then f q - 1 else f q
  | 0, _ => rfl
  | k + 1, hk => by
    have ih := vTk_q (c := c) (g := g) (m := m) (f := f) (q := q) k (by omega)
    have i2 := vTk_q (c := c) (g := g) (m := m) (f := f) (q := zce c m k) k (by omega)
    rw [cbB_f (by omega) k (Nat.le_refl _), if_neg (by decide)] at i2
    rw [vTk_s, cbB_s]
    by_cases b : g >>> (nI k &&& 31) &&& 1 = 1
    · rw [if_pos b, decide_eq_true b, Bool.true_and, i2]
      by_cases e : zce c m k = q
      · rw [decide_eq_true e, Bool.or_true, if_pos rfl, ← e]
        exact upds
      · rw [decide_eq_false e, Bool.or_false, updn (Ne.symm e)]
        exact ih
    · rw [if_neg b, decide_eq_false b, Bool.false_and, Bool.or_false]
      exact ih
theorem tkH_q {c g : Int32} {m : Nat} {f : Nat → Int32} : tkH c m g f 8 ↔ ∀ q, cbB c m g 8 q = true → ¬ f q = 0 := by
  constructor
  · intro h q hq
    obtain ⟨t, h1, h2, h3⟩ := (cbB_iff 8).mp hq
    rw [← h3]
    exact h t h1 h2
  · intro h t h1 h2
    exact h _ ((cbB_iff 8).mpr ⟨t, h1, h2, rfl⟩)
def tkB (c : Int32) (m : Nat) (g : Int32) (f : Nat → Int32) : Bool := (List.range 8).all fun t => decide (g >>> (nI t &&& 31) &&& 1 = 1 → ¬ f (zce c m t) = 0)
theorem tkB_iff {c g : Int32} {m : Nat} {f : Nat → Int32} : tkB c m g f = true ↔ tkH c m g f 8 := by
  unfold tkB
  rw [List.all_eq_true]
  exact ⟨fun h t ht => of_decide_eq_true (h t (List.mem_range.mpr ht)), fun h t ht => decide_eq_true (h t (List.mem_range.mp ht))⟩
def aS (c : Int32) (m : Nat → Nat) (g : Nat → Int32) (f : Nat → Int32) (p : Nat) : Nat → Int32 := (vAdd c (m p) (g p) 8 f).1
def tS (c : Int32) (m : Nat → Nat) (g : Nat → Int32) (st : Option (Nat → Int32)) (p : Nat) : Option (Nat → Int32) := match st with
  | none => none
  | some f => if tkB c (m p) (g p) f = true then some (vTk c (m p) (g p) 8 f) else none
theorem aS_comm {c : Int32} {m : Nat → Nat} {g : Nat → Int32} (f : Nat → Int32) (p r : Nat) : aS c m g (aS c m g f p) r = aS c m g (aS c m g f r) p := by
  funext q
  unfold aS
  rw [vAdd_q 8 (Nat.le_refl _), vAdd_q 8 (Nat.le_refl _), vAdd_q 8 (Nat.le_refl _), vAdd_q 8 (Nat.le_refl _)]
  by_cases h1 : cbB c (m p) (g p) 8 q = true
  · by_cases h2 : cbB c (m r) (g r) 8 q = true
    · simp only [h1, h2, if_true, if_false, Bool.false_eq_true]
    · simp only [h1, h2, if_true, if_false, Bool.false_eq_true]
  · by_cases h2 : cbB c (m r) (g r) 8 q = true
    · simp only [h1, h2, if_true, if_false, Bool.false_eq_true]
    · simp only [h1, h2, if_true, if_false, Bool.false_eq_true]
theorem tS_comm {c : Int32} {m : Nat → Nat} {g : Nat → Int32} (st : Option (Nat → Int32)) (p r : Nat) : tS c m g (tS c m g st p) r = tS c m g (tS c m g st r) p := by
  cases st with
  | none => rfl
  | some f =>
    have cond : (tkB c (m p) (g p) f = true ∧ tkB c (m r) (g r) (vTk c (m p) (g p) 8 f) = true) ↔ (tkB c (m r) (g r) f = true ∧ tkB c (m p) (g p) (vTk c (m r) (g r) 8 f) = true) := by
      rw [tkB_iff, tkB_iff, tkB_iff, tkB_iff, tkH_q, tkH_q, tkH_q, tkH_q]
      constructor
      · rintro ⟨a1, a2⟩
        refine ⟨fun q hq => ?_, fun q hq => ?_⟩
        · have := a2 q hq
          rw [vTk_q 8 (Nat.le_refl _)] at this
          by_cases e : cbB c (m p) (g p) 8 q = true
          · exact a1 q e
          · rw [if_neg e] at this
            exact this
        · rw [vTk_q 8 (Nat.le_refl _)]
          by_cases e : cbB c (m r) (g r) 8 q = true
          · have := a2 q e
            rw [vTk_q 8 (Nat.le_refl _), if_pos hq] at this
            rw [if_pos e]
            exact this
          · rw [if_neg e]
            exact a1 q hq
      · rintro ⟨a1, a2⟩
        refine ⟨fun q hq => ?_, fun q hq => ?_⟩
        · have := a2 q hq
          rw [vTk_q 8 (Nat.le_refl _)] at this
          by_cases e : cbB c (m r) (g r) 8 q = true
          · exact a1 q e
          · rw [if_neg e] at this
            exact this
        · rw [vTk_q 8 (Nat.le_refl _)]
          by_cases e : cbB c (m p) (g p) 8 q = true
          · have := a2 q e
            rw [vTk_q 8 (Nat.le_refl _), if_pos hq] at this
            rw [if_pos e]
            exact this
          · rw [if_neg e]
            exact a1 q hq
    have res : vTk c (m r) (g r) 8 (vTk c (m p) (g p) 8 f) = vTk c (m p) (g p) 8 (vTk c (m r) (g r) 8 f) := by
      funext q
      rw [vTk_q 8 (Nat.le_refl _), vTk_q 8 (Nat.le_refl _), vTk_q 8 (Nat.le_refl _), vTk_q 8 (Nat.le_refl _)]
      by_cases h1 : cbB c (m p) (g p) 8 q = true
      · by_cases h2 : cbB c (m r) (g r) 8 q = true
        · simp only [h1, h2, if_true, if_false, Bool.false_eq_true]
        · simp only [h1, h2, if_true, if_false, Bool.false_eq_true]
      · by_cases h2 : cbB c (m r) (g r) 8 q = true
        · simp only [h1, h2, if_true, if_false, Bool.false_eq_true]
        · simp only [h1, h2, if_true, if_false, Bool.false_eq_true]
    have two : ∀ a b : Nat, tS c m g (tS c m g (some f) a) b = if tkB c (m a) (g a) f = true ∧ tkB c (m b) (g b) (vTk c (m a) (g a) 8 f) = true then some (vTk c (m b) (g b) 8 (vTk c (m a) (g a) 8 f)) else none := fun a b => by
      by_cases h1 : tkB c (m a) (g a) f = true
      · have e1 : tS c m g (some f) a = some (vTk c (m a) (g a) 8 f) := if_pos h1
        rw [e1]
        by_cases h2 : tkB c (m b) (g b) (vTk c (m a) (g a) 8 f) = true
        · rw [if_pos ⟨h1, h2⟩]
          exact if_pos h2
        · rw [if_neg (fun q => h2 q.2)]
          exact if_neg h2
      · have e1 : tS c m g (some f) a = none := if_neg h1
        rw [e1, if_neg (fun q => h1 q.1)]
        rfl
    rw [two, two]
    by_cases h : tkB c (m p) (g p) f = true ∧ tkB c (m r) (g r) (vTk c (m p) (g p) 8 f) = true
    · rw [if_pos h, if_pos (cond.mp h), res]
    · rw [if_neg h, if_neg (fun q => h (cond.mpr q))]
/-! lists of who is meant */ -/
def Lt (t c : Nat → Nat) (j : Nat) : Nat → List Nat
  | 0 => []
  | k + 1 => if t k = j then Lt t c j k ++ [c k] else Lt t c j k
theorem Lt_s {t c : Nat → Nat} {j k : Nat} : Lt t c j (k + 1) = if t k = j then Lt t c j k ++ [c k] else Lt t c j k := rfl
theorem Lt_mem {t c : Nat → Nat} {j x : Nat} : ∀ k, x ∈ Lt t c j k ↔ ∃ i, i < k ∧ t i = j ∧ c i = x
  | 0 => ⟨fun h => (by cases h), fun ⟨i, h, _⟩ => absurd h (Nat.not_lt_zero i)⟩
  | k + 1 => by
    rw [Lt_s]
    by_cases e : t k = j
    · rw [if_pos e, List.mem_append, Lt_mem k, List.mem_singleton]
      constructor
      · rintro (⟨i, h1, h2⟩ | h1)
        · exact ⟨i, by omega, h2⟩
        · exact ⟨k, by omega, e, h1.symm⟩
      · rintro ⟨i, h1, h2, h3⟩
        by_cases q : i = k
        · exact Or.inr (by rw [← h3, q])
        · exact Or.inl ⟨i, by omega, h2, h3⟩
    · rw [if_neg e, Lt_mem k]
      constructor
      · rintro ⟨i, h1, h2⟩
        exact ⟨i, by omega, h2⟩
      · rintro ⟨i, h1, h2, h3⟩
        by_cases q : i = k
        · rw [q] at h2
          exact absurd h2 e
        · exact ⟨i, by omega, h2, h3⟩
theorem Lt_nd {t c : Nat → Nat} {j : Nat} : ∀ k, (∀ a, a < k → ∀ b, b < k → c a = c b → a = b) → (Lt t c j k).Nodup
  | 0, _ => List.nodup_nil
  | k + 1, h => by
    have ih := Lt_nd (t := t) (c := c) (j := j) k (fun a ha b hb => h a (by omega) b (by omega))
    rw [Lt_s]
    split
    · rw [List.nodup_append]
      refine ⟨ih, List.nodup_cons.mpr ⟨List.not_mem_nil, List.nodup_nil⟩, fun a ha b hb e => ?_⟩
      rw [List.mem_singleton.mp hb] at e
      obtain ⟨i, h1, h2, h3⟩ := (Lt_mem k).mp ha
      have := h i (by omega) k (by omega) (h3.trans e)
      omega
    · exact ih
/-- chosen ones in their order, and phones in theirs */ -/
theorem Lt_perm {t c w : Nat → Nat} {j n nP : Nat} (hj : j ≠ 0) (hc : ∀ i, i < n → c i < nP) (hinj : ∀ a, a < n → ∀ b, b < n → c a = c b → a = b) (hw : ∀ i, i < n → w (c i) = t i) (h0 : ∀ x, x < nP → (∀ i, i < n → c i ≠ x) → w x = 0) : (Lt t c j n).Perm (Lt w (fun x => x) j nP) := by
  refine (List.perm_ext_iff_of_nodup (Lt_nd n hinj) (Lt_nd nP (fun a _ b _ e => e))).mpr (fun x => ?_)
  rw [Lt_mem, Lt_mem]
  constructor
  · rintro ⟨i, h1, h2, h3⟩
    exact ⟨c i, hc i h1, by rw [hw i h1]; exact h2, h3⟩
  · rintro ⟨i, h1, h2, h3⟩
    have h3 : i = x := h3
    subst h3
    have q : ¬ ∀ a, a < n → c a ≠ i := fun q => hj (by rw [← h2]; exact h0 i h1 q)
    obtain ⟨a, ha, e⟩ : ∃ a, a < n ∧ c a = i := by
      by_cases z : ∃ a, a < n ∧ c a = i
      · exact z
      · exact absurd (fun a ha e => z ⟨a, ha, e⟩) q
    exact ⟨a, ha, by rw [← hw a ha, e]; exact h2, e⟩
def sm (w : Nat → Int32) (x : Int32) (l : List Nat) : Int32 := l.foldl (fun a p => a + w p) x
theorem sm_sh {w : Nat → Int32} : ∀ (l : List Nat) (x : Int32), sm w x l = x + sm w 0 l
  | [], x => (Int32.add_zero x).symm
  | p :: l, x => by
    show sm w (x + w p) l = x + sm w (0 + w p) l
    rw [sm_sh l (x + w p), sm_sh l (0 + w p), Int32.zero_add, Int32.add_assoc]
theorem sm_a {w : Nat → Int32} {x : Int32} {l : List Nat} {p : Nat} : sm w x (l ++ [p]) = sm w x l + w p := by
  unfold sm
  rw [List.foldl_append]
  rfl
theorem sm_p {w : Nat → Int32} {x : Int32} {l l' : List Nat} (h : l.Perm l') : sm w x l = sm w x l' := List.Perm.foldl_eq' h (fun a _ b _ z => by rw [Int32.add_assoc, Int32.add_comm (w a), ← Int32.add_assoc]) x
def gV (A B : Nat → Int32) (t c : Nat → Nat) : Nat → Int32
  | 0 => 0
  | k + 1 => if t k = 1 then gV A B t c k + A (c k) else if t k = 2 then gV A B t c k + B (c k) else gV A B t c k
theorem gV_s {A B : Nat → Int32} {t c : Nat → Nat} {k : Nat} : gV A B t c (k + 1) = if t k = 1 then gV A B t c k + A (c k) else if t k = 2 then gV A B t c k + B (c k) else gV A B t c k := rfl
theorem gV_e {A B : Nat → Int32} {t c : Nat → Nat} : ∀ k, gV A B t c k = sm A (sm B 0 (Lt t c 2 k)) (Lt t c 1 k)
  | 0 => rfl
  | k + 1 => by
    have ih := gV_e (A := A) (B := B) (t := t) (c := c) k
    rw [gV_s, Lt_s, Lt_s]
    by_cases e1 : t k = 1
    · rw [if_pos e1, if_pos e1, if_neg (by omega), sm_a, ih]
    · rw [if_neg e1, if_neg e1]
      by_cases e2 : t k = 2
      · rw [if_pos e2, if_pos e2, sm_a, sm_sh _ (_ + _), ih, sm_sh, Int32.add_assoc, Int32.add_assoc, Int32.add_comm (B (c k))]
      · rw [if_neg e2, if_neg e2, ih]
/-- the plan's parts: who gives, then who takes */ -/
def ptS (c : Int32) (m : Nat → Nat) (g lk : Nat → Int32) (f : Nat → Int32) (l2 l1 : List Nat) : Option (Nat → Int32) := l1.foldl (tS c m lk) (some (l2.foldl (aS c m g) f))
theorem ptS_p {c : Int32} {m : Nat → Nat} {g lk : Nat → Int32} {f : Nat → Int32} {l2 l1 k2 k1 : List Nat} (h2 : l2.Perm k2) (h1 : l1.Perm k1) : ptS c m g lk f l2 l1 = ptS c m g lk f k2 k1 := by
  unfold ptS
  rw [List.Perm.foldl_eq' h2 (fun a _ b _ z => aS_comm z a b) f]
  exact List.Perm.foldl_eq' h1 (fun a _ b _ z => tS_comm z a b) _
theorem tS_none {c : Int32} {m : Nat → Nat} {lk : Nat → Int32} : ∀ l : List Nat, l.foldl (tS c m lk) none = none
  | [] => rfl
  | _ :: l => tS_none l
/-- the i-th digit of a way */ -/
def dgt (n way i : Nat) : Nat := way / 3 ^ (n - 1 - i) % 3
theorem dgt_lt {n way i : Nat} : dgt n way i < 3 := Nat.mod_lt _ (by decide)
theorem dgt_0 {n i : Nat} : dgt n 0 i = 0 := by
  unfold dgt
  rw [Nat.zero_div]
def fitB (kd st : Nat → Int32) (t c : Nat → Nat) : Nat → Bool
  | 0 => true
  | k + 1 => fitB kd st t c k && (decide (t k = 0) || (decide (st (c k) = 0) && !(decide (t k = 1) && decide (kd (c k) = 5))))
/-- what a way gives, if it can be */ -/
def pvS (kd st A B : Nat → Int32) (c5 : Int32) (m : Nat → Nat) (g lk f : Nat → Int32) (c : Nat → Nat) (n way : Nat) : Bool := fitB kd st (dgt n way) c n && (ptS c5 m g lk f (Lt (dgt n way) c 2 n) (Lt (dgt n way) c 1 n)).isSome
def plS (ok : Nat → Bool) (gn : Nat → Int32) : Nat → Int32 × Nat
  | 0 => (0, 0)
  | k + 1 => if ok (k + 1) = true ∧ (plS ok gn k).1 < gn (k + 1) then (gn (k + 1), k + 1) else plS ok gn k
theorem plS_s {ok : Nat → Bool} {gn : Nat → Int32} {k : Nat} : plS ok gn (k + 1) = if ok (k + 1) = true ∧ (plS ok gn k).1 < gn (k + 1) then (gn (k + 1), k + 1) else plS ok gn k := rfl
