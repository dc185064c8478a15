/-! what reading keeps -/
def hst (o : Option Nat) (p : Int32 × Int32) : Option Nat := match o with
  | none => none
  | some h => if p.1 = 2 then (if p.2 = 33 then (if 1 ≤ h then some h else none) else (if 2 ≤ h then some (h - 1) else none)) else some (h + 1)
def hg (S : Ss) : Option Nat := S.foldl hst (some 0)
theorem hg_snoc (S : Ss) (p : Int32 × Int32) : hg (S ++ [p]) = hst (hg S) p := by simp [hg]
theorem hg_2 {S : Ss} {c : Int32} {k : Nat} (hc : tg c ≠ 0) (hk : 2 ≤ k) (hS : hg S = some k) : hg (S ++ [(2, c)]) = some (k - 1) := by
  have : c ≠ 33 := fun e => hc (by rw [e]; decide)
  rw [hg_snoc, hS]
  simp [hst, this, hk]
/-- what a key may have as tokens, as steps */ -/
def Tok (nm : Int32 → Prop) (t : (Nat × Int32) × Nat) : Prop := (t.1.1 = 0 → ∃ a : Nat, a < 10000 ∧ t.1.2 = nI a) ∧ (t.1.1 = 1 → nm t.1.2)
def Sok (nm : Int32 → Prop) (p : Int32 × Int32) : Prop := (p.1 = 0 ∧ ∃ a : Nat, a < 10000 ∧ p.2 = nI a) ∨ (p.1 = 1 ∧ nm p.2) ∨ (p.1 = 2 ∧ (p.2 = 33 ∨ tg p.2 ≠ 0))
def rdI (nm : Int32 → Prop) (lp : Bool) (ts : Ts) (S : Ss) (ts' : Ts) (S' : Ss) : Prop := (S'.length + ts'.length ≤ S.length + ts.length ∧ ts'.length ≤ ts.length ∧ (lp = false → ts'.length < ts.length)) ∧ (∀ k, hg S = some k → (lp = false → hg S' = some (k + 1)) ∧ (lp = true → 1 ≤ k → hg S' = some k)) ∧ ((∀ t, t ∈ ts → Tok nm t) → (∀ p, p ∈ S → Sok nm p) → (∀ t, t ∈ ts' → Tok nm t) ∧ ∀ p, p ∈ S' → Sok nm p)
theorem Sok_sn {nm : Int32 → Prop} {S : Ss} {p : Int32 × Int32} (hS : ∀ p, p ∈ S → Sok nm p) (hp : Sok nm p) : ∀ q, q ∈ S ++ [p] → Sok nm q := fun q hq => by
  rcases List.mem_append.mp hq with hq | hq
  · exact hS q hq
  · rw [List.mem_singleton.mp hq]; exact hp
theorem rd_inv {nm : Int32 → Prop} : ∀ n lp D T l ts S ts' S', 1 ≤ l → l ≤ 6 → rd n lp D T l ts S = some (true, ts', S') → rdI nm lp ts S ts' S' := by
  intro n
  induction n with
  | zero => intro lp D T l ts S ts' S' _ _ h; cases lp <;> cases h
  | succ n ih =>
    intro lp D T l ts S ts' S' h1 h6 h
    cases lp with
    | false =>
      rw [rd_f] at h
      by_cases e6 : l = 6
      · subst e6
        rw [if_pos rfl] at h
        cases ts with
        | nil => cases h
        | cons t r =>
          obtain ⟨⟨k, v⟩, b⟩ := t
          dsimp only at h
          by_cases k0 : k = 0
          · rw [if_pos k0] at h
            cases h
            refine ⟨⟨by simp; omega, by simp, fun _ => by simp⟩, fun k hk => ⟨fun _ => by rw [hg_snoc, hk]; rfl, fun q => by cases q⟩, fun hT hS => ⟨fun t ht => hT t (List.mem_cons_of_mem _ ht), Sok_sn hS (Or.inl ⟨rfl, (hT _ (List.mem_cons_self ..)).1 k0⟩)⟩⟩
          rw [if_neg k0] at h
          by_cases k1 : k = 1
          · rw [if_pos k1] at h
            cases h
            refine ⟨⟨by simp; omega, by simp, fun _ => by simp⟩, fun k hk => ⟨fun _ => by rw [hg_snoc, hk]; rfl, fun q => by cases q⟩, fun hT hS => ⟨fun t ht => hT t (List.mem_cons_of_mem _ ht), Sok_sn hS (Or.inr (Or.inl ⟨rfl, (hT _ (List.mem_cons_self ..)).2 k1⟩))⟩⟩
          rw [if_neg k1] at h
          by_cases k33 : k = 2 ∧ v = 33
          · rw [if_pos k33] at h
            by_cases hT : T < 8
            · rw [if_pos hT] at h
              rcases rdB_s h with ⟨e, S2, hx, q⟩ | ⟨r', S2, hx, hf⟩
              · cases q
              · cases hf
                obtain ⟨⟨a1, a2, a3⟩, a4, a5⟩ := ih _ _ _ _ _ _ _ _ (by decide) (by decide) hx
                have a3 := a3 rfl
                refine ⟨⟨by simp; omega, by simp; omega, fun _ => by simp; omega⟩, fun k hk => ⟨fun _ => by rw [hg_snoc, (a4 k hk).1 rfl]; simp [hst], fun q => by cases q⟩, fun hT hS => ?_⟩
                obtain ⟨b1, b2⟩ := a5 (fun t ht => hT t (List.mem_cons_of_mem _ ht)) hS
                exact ⟨b1, Sok_sn b2 (Or.inr (Or.inr ⟨rfl, Or.inl rfl⟩))⟩
            · rw [if_neg hT] at h
              cases h
          rw [if_neg k33] at h
          by_cases k40 : k = 2 ∧ v = 40
          · rw [if_pos k40] at h
            by_cases hD : D < 8
            · rw [if_pos hD] at h
              rcases rdB_s h with ⟨e, S2, hx, q⟩ | ⟨r', S2, hx, hf⟩
              · cases q
              · by_cases h41 : is41 r' = true
                · rw [if_pos h41] at hf
                  cases hf
                  obtain ⟨⟨a1, a2, a3⟩, a4, a5⟩ := ih _ _ _ _ _ _ _ _ (by decide) (by decide) hx
                  have a3 := a3 rfl
                  refine ⟨⟨by simp; omega, by simp; omega, fun _ => by simp; omega⟩, fun k hk => ⟨fun _ => (a4 k hk).1 rfl, fun q => by cases q⟩, fun hT hS => ?_⟩
                  obtain ⟨b1, b2⟩ := a5 (fun t ht => hT t (List.mem_cons_of_mem _ ht)) hS
                  exact ⟨fun t ht => b1 t (List.mem_of_mem_tail ht), b2⟩
                · rw [if_neg h41] at hf
                  cases hf
            · rw [if_neg hD] at h
              cases h
          · rw [if_neg k40] at h
            cases h
      · rw [if_neg e6] at h
        rcases rdB_s h with ⟨e, S2, hx, q⟩ | ⟨t2, S2, hx, hf⟩
        · cases q
        · obtain ⟨⟨a1, a2, a3⟩, a4, a5⟩ := ih _ _ _ _ _ _ _ _ (by omega) (by omega) hx
          obtain ⟨⟨b1, b2, -⟩, b4, b5⟩ := ih _ _ _ _ _ _ _ _ h1 h6 hf
          have a3 := a3 rfl
          refine ⟨⟨by omega, by omega, fun _ => by omega⟩, fun k hk => ⟨fun _ => (b4 (k + 1) ((a4 k hk).1 rfl)).2 rfl (by omega), fun q => by cases q⟩, fun hT hS => ?_⟩
          obtain ⟨c1, c2⟩ := a5 hT hS
          exact b5 c1 c2
    | true =>
      cases ts with
      | nil =>
        cases h
        exact ⟨⟨Nat.le_refl _, Nat.le_refl _, fun q => by cases q⟩, fun k hk => ⟨fun q => (by cases q), fun _ _ => hk⟩, fun hT hS => ⟨hT, hS⟩⟩
      | cons t r =>
        obtain ⟨⟨k, v⟩, b⟩ := t
        rw [rd] at h
        try dsimp only at h
        by_cases hk : k = 2 ∧ tg v = l
        · rw [if_pos hk] at h
          rcases rdB_s h with ⟨e, S2, hx, q⟩ | ⟨t2, S2, hx, hf⟩
          · cases q
          · have l6 : l ≤ 5 := by have := tg_le v; omega
            obtain ⟨⟨a1, a2, a3⟩, a4, a5⟩ := ih _ _ _ _ _ _ _ _ (by omega) (by omega) hx
            have a3 := a3 rfl
            have sv : Sok nm (2, v) := Or.inr (Or.inr ⟨rfl, Or.inr (by show tg v ≠ 0; omega)⟩)
            by_cases l3 : l = 3
            · rw [if_pos l3] at hf
              cases hf
              refine ⟨⟨by simp at *; omega, by simp at *; omega, fun q => by cases q⟩, fun k hk => ⟨fun q => (by cases q), fun _ h => by have := hg_2 (c := v) (by omega) (by omega) ((a4 k hk).1 rfl); simpa using this⟩, fun hT hS => ?_⟩
              obtain ⟨c1, c2⟩ := a5 (fun t ht => hT t (List.mem_cons_of_mem _ ht)) hS
              exact ⟨c1, Sok_sn c2 sv⟩
            · rw [if_neg l3] at hf
              obtain ⟨⟨b1, b2, -⟩, b4, b5⟩ := ih _ _ _ _ _ _ _ _ h1 h6 hf
              refine ⟨⟨by simp at *; omega, by simp at *; omega, fun q => by cases q⟩, fun k hk => ⟨fun q => (by cases q), fun _ h => (b4 k (by have := hg_2 (c := v) (by omega) (by omega) ((a4 k hk).1 rfl); simpa using this)).2 rfl h⟩, fun hT hS => ?_⟩
              obtain ⟨c1, c2⟩ := a5 (fun t ht => hT t (List.mem_cons_of_mem _ ht)) hS
              exact b5 c1 (Sok_sn c2 sv)
        · rw [if_neg hk] at h
          cases h
          exact ⟨⟨Nat.le_refl _, Nat.le_refl _, fun q => by cases q⟩, fun k hk => ⟨fun q => (by cases q), fun _ _ => hk⟩, fun hT hS => ⟨hT, hS⟩⟩
/-- so much fuel is enough */ -/
theorem rd_tot : ∀ n lp D T l ts S, 1 ≤ l → l ≤ 6 → (lp = false → 8 * ts.length + 8 ≤ n + l) → (lp = true → l ≤ 5 ∧ 8 * ts.length + 7 ≤ n) → ∃ res, rd n lp D T l ts S = some res := by
  intro n
  induction n with
  | zero =>
    intro lp D T l ts S h1 h6 hf ht
    cases lp with
    | false => have := hf rfl; omega
    | true => have := (ht rfl).2; omega
  | succ n ih =>
    intro lp D T l ts S h1 h6 hf ht
    have bind : ∀ {x : Option Re} {f : Ts → Ss → Option Re}, (∃ r, x = some r) → (∀ t S, x = some (true, t, S) → ∃ r, f t S = some r) → ∃ r, rdB x f = some r := fun {x f} hx hg => by
      obtain ⟨⟨b, t, S⟩, rfl⟩ := hx
      cases b with
      | false => exact ⟨_, rfl⟩
      | true => exact hg t S rfl
    cases lp with
    | false =>
      have hf := hf rfl
      rw [rd_f]
      by_cases e6 : l = 6
      · rw [if_pos e6]
        cases ts with
        | nil => exact ⟨_, rfl⟩
        | cons t r =>
          obtain ⟨⟨k, v⟩, b⟩ := t
          rw [List.length_cons] at hf
          dsimp only
          split
          · exact ⟨_, rfl⟩
          split
          · exact ⟨_, rfl⟩
          split
          · split
            · exact bind (ih _ _ _ _ _ _ (by decide) (by decide) (fun _ => by omega) (fun q => by cases q)) (fun t S _ => ⟨_, rfl⟩)
            · exact ⟨_, rfl⟩
          split
          · split
            · exact bind (ih _ _ _ _ _ _ (by decide) (by decide) (fun _ => by omega) (fun q => by cases q)) (fun t S _ => by split <;> exact ⟨_, rfl⟩)
            · exact ⟨_, rfl⟩
          · exact ⟨_, rfl⟩
      · rw [if_neg e6]
        refine bind (ih _ _ _ _ _ _ (by omega) (by omega) (fun _ => by omega) (fun q => by cases q)) (fun t S hx => ?_)
        have := (rd_inv (nm := fun _ => True) _ _ _ _ _ _ _ _ _ (by omega) (by omega) hx).1.2.2 rfl
        exact ih _ _ _ _ _ _ h1 h6 (fun q => by cases q) (fun _ => ⟨by omega, by omega⟩)
    | true =>
      obtain ⟨l5, ht⟩ := ht rfl
      cases ts with
      | nil => exact ⟨_, rfl⟩
      | cons t r =>
        obtain ⟨⟨k, v⟩, b⟩ := t
        rw [List.length_cons] at ht
        rw [rd]
        try dsimp only
        split
        · refine bind (ih _ _ _ _ _ _ (by omega) (by omega) (fun _ => by omega) (fun q => by cases q)) (fun t S hx => ?_)
          have := (rd_inv (nm := fun _ => True) _ _ _ _ _ _ _ _ _ (by omega) (by omega) hx).1.2.2 rfl
          split
          · exact ⟨_, rfl⟩
          · exact ih _ _ _ _ _ _ h1 h6 (fun q => by cases q) (fun _ => ⟨l5, by omega⟩)
        · exact ⟨_, rfl⟩
