/-- the formula told so far, units counted -/
def FO_ (t u : Nat) (st : List (Int × Int)) (σ : am_S) : Prop := σ.1 (t + 28) 4 = (u : Int) ∧ σ.1 (t + 28) 3 = ((st.length : Nat) : Int) ∧ ∀ (k : Nat) (h : k < st.length), σ.1 (t + 29) k = fk_ (st[k]).1 (st[k]).2 ∧ ((st[k]).1 = 0 → σ.1 (t + 30) k = (st[k]).2)
theorem FO_.fr {t u : Nat} {st : List (Int × Int)} {σ σ' : am_S} {A B K : List Nat} (h : FO_ t u st σ) (hf : gx_ A B K σ σ') (ht : t = 2 ∨ t = 34) (hA : ∀ a, a ∈ A → a < t + 28 ∨ t + 30 < a) : FO_ t u st σ' := by
  unfold FO_
  rw [hf.1 (t + 28) (fun q => by have := hA _ q; omega) (by omega), hf.1 (t + 29) (fun q => by have := hA _ q; omega) (by omega), hf.1 (t + 30) (fun q => by have := hA _ q; omega) (by omega)]
  exact h
theorem x_fo_add {d : Nat} (hd : 1 ≤ d) {σ : am_S} {t u : Nat} (ht : t = 2 ∨ t = 34) {st : List (Int × Int)} (hF : FO_ t u st σ) (hl : st.length < 300) {x y a b : Int} (ha : a = fk_ x y) (hb : x = 0 → b = y) {Q : Option am_V → am_S → Prop} (hQ : ∀ σ', fr_ [t + 28, t + 29, t + 30] σ σ' → FO_ t u (st ++ [(x, y)]) σ' → Q none σ') : am_Ev d 1 [am_R (t + 28), am_I a, am_I b] σ Q := by
  refine x_fadd hd ht hF.2.1 (by omega) (fun h => absurd h (by omega)) (fun _ σ' hf e1 e2 e3 => hQ σ' hf ⟨?_, ?_, ?_⟩)
  · rw [e1, am_up_ne (by decide)]
    exact hF.1
  · rw [e1, am_up_same, List.length_append]
    rfl
  · intro k hk
    by_cases e : k = st.length
    · have e4 : (st ++ [(x, y)])[k] = (x, y) := by
        subst e
        simp
      rw [e4, e2, e3, e, am_up_same, am_up_same]
      exact ⟨ha, hb⟩
    · have hk2 : k < st.length := by
        rw [List.length_append] at hk
        have : [(x, y)].length = 1 := rfl
        omega
      have e4 : (st ++ [(x, y)])[k] = st[k] := List.getElem_append_left hk2
      rw [e4, e2, e3, am_up_ne e, am_up_ne e]
      exact hF.2.2 k hk2
/-- what a method of the formula's reading comes to -/
def CX_ (tp : Nat → Int) (n t meth w D0 : Nat) (X : Nat → Nat → sp_E) : Prop := ∀ (d : Nat) (σ : am_S) (p u : Nat) (st : List (Int × Int)) (Q : Option am_V → am_S → Prop), D0 ≤ d → RC_ tp n t p σ → FO_ t u st σ → st.length ≤ 10 * u → u ≤ 30 → (∀ e, X p u = Sum.inl e → ∀ σ', gx_ [t + 28, t + 29, t + 30] [] [0, 1, 5, 6, 7, 9] σ σ' → FX_ tp n e σ' → Q (some (am_I 0)) σ') → (∀ p' u' s, X p u = Sum.inr (p', u', s) → ∀ σ', gx_ [t + 28, t + 29, t + 30] [] [0, 1, 5, 6, 7, 9] σ σ' → RC_ tp n t p' σ' → FO_ t u' (st ++ s) σ' → Q (some (am_I 1)) σ') → am_Ev d meth [am_R 66, am_I ((w : Nat) : Int)] σ Q
theorem CX_.le {tp : Nat → Int} {n t meth w D0 D1 : Nat} {X : Nat → Nat → sp_E} (h : CX_ tp n t meth w D0 X) (hD : D0 ≤ D1) : CX_ tp n t meth w D1 X := fun d σ p u st Q hd => h d σ p u st Q (by omega)
theorem sg2_c (tp : Nat → Int) (n p : Nat) : (sg2_ tp n p = 0 ∧ kx_ tp n p ≠ 16 ∧ kx_ tp n p ≠ 15 ∧ kx_ tp n p ≠ 60 ∧ kx_ tp n p ≠ 62 ∧ kx_ tp n p ≠ 61 ∧ kx_ tp n p ≠ 43 ∧ kx_ tp n p ≠ 45 ∧ kx_ tp n p ≠ 42 ∧ kx_ tp n p ≠ 47 ∧ kx_ tp n p ≠ 37) ∨ (sg2_ tp n p = 38 ∧ kx_ tp n p = 16) ∨ (sg2_ tp n p = 124 ∧ kx_ tp n p = 15) ∨ (sg2_ tp n p = kx_ tp n p ∧ (kx_ tp n p = 60 ∨ kx_ tp n p = 62 ∨ kx_ tp n p = 61 ∨ kx_ tp n p = 43 ∨ kx_ tp n p = 45 ∨ kx_ tp n p = 42 ∨ kx_ tp n p = 47 ∨ kx_ tp n p = 37)) := by
  have s : ∀ z : Int, 37 ≤ z → z ≤ 62 → (kx_ tp n p = z ↔ tks_ tp n p = z) := fun z a b => kx_s ⟨a, b⟩
  unfold sg2_ sgh_
  by_cases h1 : tks_ tp n p = 1 ∧ tkw_ tp n p = 6385252
  · rw [if_pos h1]
    exact Or.inr (Or.inl ⟨rfl, (kx_w (i := 16) (by omega)).mpr h1⟩)
  rw [if_neg h1]
  by_cases h2 : tks_ tp n p = 1 ∧ tkw_ tp n p = 28530
  · rw [if_pos h2]
    exact Or.inr (Or.inr (Or.inl ⟨rfl, (kx_w (i := 15) (by omega)).mpr h2⟩))
  rw [if_neg h2]
  have k16 : kx_ tp n p ≠ 16 := fun e => h1 ((kx_w (i := 16) (by omega)).mp e)
  have k15 : kx_ tp n p ≠ 15 := fun e => h2 ((kx_w (i := 15) (by omega)).mp e)
  have s60 := s 60 (by omega) (by omega)
  have s62 := s 62 (by omega) (by omega)
  have s61 := s 61 (by omega) (by omega)
  have s43 := s 43 (by omega) (by omega)
  have s45 := s 45 (by omega) (by omega)
  have s42 := s 42 (by omega) (by omega)
  have s47 := s 47 (by omega) (by omega)
  have s37 := s 37 (by omega) (by omega)
  by_cases h3 : tks_ tp n p = 60 ∨ tks_ tp n p = 62 ∨ tks_ tp n p = 61 ∨ tks_ tp n p = 43 ∨ tks_ tp n p = 45 ∨ tks_ tp n p = 42 ∨ tks_ tp n p = 47 ∨ tks_ tp n p = 37
  · rw [if_pos h3]
    refine Or.inr (Or.inr (Or.inr ?_))
    omega
  · rw [if_neg h3]
    refine Or.inl ⟨rfl, k16, k15, ?_⟩
    omega
theorem sgy6 {tp : Nat → Int} {n p : Nat} (h : kx_ tp n p = 42 ∨ kx_ tp n p = 47 ∨ kx_ tp n p = 37) : sg2_ tp n p ≠ 0 ∧ ti_ (sg2_ tp n p) = 6 ∧ kx_ tp n p = fk_ 3 (sg2_ tp n p) := by
  rcases sg2_c tp n p with h0 | h0 | h0 | ⟨h0, _⟩
  · omega
  · omega
  · omega
  · rw [h0]
    rcases h with h | h | h <;> rw [h] <;> decide
theorem sgn6 {tp : Nat → Int} {n p : Nat} (h : ¬ (kx_ tp n p = 42 ∨ kx_ tp n p = 47 ∨ kx_ tp n p = 37)) : ¬ (sg2_ tp n p ≠ 0 ∧ ti_ (sg2_ tp n p) = 6) := by
  rcases sg2_c tp n p with h0 | h0 | h0 | ⟨h0, h1⟩
  · exact fun q => q.1 h0.1
  · rw [h0.1]; decide
  · rw [h0.1]; decide
  · rw [h0]
    rcases h1 with h1 | h1 | h1 | h1 | h1 | h1 | h1 | h1 <;> first | (rw [h1]; decide) | omega
theorem sgy5 {tp : Nat → Int} {n p : Nat} (h : kx_ tp n p = 43 ∨ kx_ tp n p = 45) : sg2_ tp n p ≠ 0 ∧ ti_ (sg2_ tp n p) = 5 ∧ kx_ tp n p = fk_ 3 (sg2_ tp n p) := by
  rcases sg2_c tp n p with h0 | h0 | h0 | ⟨h0, _⟩
  · omega
  · omega
  · omega
  · rw [h0]
    rcases h with h | h <;> rw [h] <;> decide
theorem sgn5 {tp : Nat → Int} {n p : Nat} (h : ¬ (kx_ tp n p = 43 ∨ kx_ tp n p = 45)) : ¬ (sg2_ tp n p ≠ 0 ∧ ti_ (sg2_ tp n p) = 5) := by
  rcases sg2_c tp n p with h0 | h0 | h0 | ⟨h0, h1⟩
  · exact fun q => q.1 h0.1
  · rw [h0.1]; decide
  · rw [h0.1]; decide
  · rw [h0]
    rcases h1 with h1 | h1 | h1 | h1 | h1 | h1 | h1 | h1 <;> first | (rw [h1]; decide) | omega
theorem sgy4 {tp : Nat → Int} {n p : Nat} (h : kx_ tp n p = 60 ∨ kx_ tp n p = 62 ∨ kx_ tp n p = 61) : sg2_ tp n p ≠ 0 ∧ ti_ (sg2_ tp n p) = 4 ∧ kx_ tp n p = fk_ 3 (sg2_ tp n p) := by
  rcases sg2_c tp n p with h0 | h0 | h0 | ⟨h0, _⟩
  · omega
  · omega
  · omega
  · rw [h0]
    rcases h with h | h | h <;> rw [h] <;> decide
theorem sgn4 {tp : Nat → Int} {n p : Nat} (h : ¬ (kx_ tp n p = 60 ∨ kx_ tp n p = 62 ∨ kx_ tp n p = 61)) : ¬ (sg2_ tp n p ≠ 0 ∧ ti_ (sg2_ tp n p) = 4) := by
  rcases sg2_c tp n p with h0 | h0 | h0 | ⟨h0, h1⟩
  · exact fun q => q.1 h0.1
  · rw [h0.1]; decide
  · rw [h0.1]; decide
  · rw [h0]
    rcases h1 with h1 | h1 | h1 | h1 | h1 | h1 | h1 | h1 <;> first | (rw [h1]; decide) | omega
theorem sgy2 {tp : Nat → Int} {n p : Nat} (h : kx_ tp n p = 16) : sg2_ tp n p ≠ 0 ∧ ti_ (sg2_ tp n p) = 2 ∧ kx_ tp n p = fk_ 3 (sg2_ tp n p) := by
  rcases sg2_c tp n p with h0 | h0 | h0 | ⟨h0, _⟩
  · omega
  · rw [h0.1, h0.2]; decide
  · omega
  · omega
theorem sgn2 {tp : Nat → Int} {n p : Nat} (h : ¬ kx_ tp n p = 16) : ¬ (sg2_ tp n p ≠ 0 ∧ ti_ (sg2_ tp n p) = 2) := by
  rcases sg2_c tp n p with h0 | h0 | h0 | ⟨h0, h1⟩
  · exact fun q => q.1 h0.1
  · omega
  · rw [h0.1]; decide
  · rw [h0]
    rcases h1 with h1 | h1 | h1 | h1 | h1 | h1 | h1 | h1 <;> first | (rw [h1]; decide) | omega
theorem sgy1 {tp : Nat → Int} {n p : Nat} (h : kx_ tp n p = 15) : sg2_ tp n p ≠ 0 ∧ ti_ (sg2_ tp n p) = 1 ∧ kx_ tp n p = fk_ 3 (sg2_ tp n p) := by
  rcases sg2_c tp n p with h0 | h0 | h0 | ⟨h0, _⟩
  · omega
  · omega
  · rw [h0.1, h0.2]; decide
  · omega
theorem sgn1 {tp : Nat → Int} {n p : Nat} (h : ¬ kx_ tp n p = 15) : ¬ (sg2_ tp n p ≠ 0 ∧ ti_ (sg2_ tp n p) = 1) := by
  rcases sg2_c tp n p with h0 | h0 | h0 | ⟨h0, h1⟩
  · exact fun q => q.1 h0.1
  · rw [h0.1]; decide
  · omega
  · rw [h0]
    rcases h1 with h1 | h1 | h1 | h1 | h1 | h1 | h1 | h1 <;> first | (rw [h1]; decide) | omega
theorem RW_.le {n c c' : Nat} {X : Nat → Nat → sp_E} (h : RW_ n c X) (hc : c' ≤ c) : RW_ n c' X := fun p u p' u' s hp hu he => by
  obtain ⟨a1, a2, a3, a4, a5, a6⟩ := h p u p' u' s hp hu he
  exact ⟨a1, a2, a3, a4, a5, by omega⟩
