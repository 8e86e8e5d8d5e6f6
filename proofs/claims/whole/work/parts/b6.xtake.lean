/-- the class's reader at the token p of its text, telling the town t -/
structure RC_ (tp : Nat → Int) (n t p : Nat) (σ : am_S) : Prop where
  tx : TP_ (σ.1 1) tp n
  ln : σ.1 66 4 = (n : Int)
  n9 : n ≤ 1600
  pn : p ≤ n
  kx : KX_ tp n p σ
  wt : WT_ σ
  tn : σ.2.2.1 66 10 = some t
  ht : t = 2 ∨ t = 34
theorem RC_.fr {tp : Nat → Int} {n t p : Nat} {σ σ' : am_S} {A B K : List Nat} (h : RC_ tp n t p σ) (hf : gx_ A B K σ σ') (h1 : 1 ∉ A) (h67 : 67 ∉ B) (hK : ∀ k, k ∈ K → k < 4 ∨ 10 ≤ k) (hJ : σ'.2.1 66 8 = σ.2.1 66 8) : RC_ tp n t p σ' := by
  have e : ∀ k, 4 ≤ k → k < 10 → σ'.1 66 k = σ.1 66 k := fun k a b => hf.2.1 k (fun q => by have := hK k q; omega)
  refine ⟨by rw [hf.1 1 h1 (by decide)]; exact h.tx, by rw [e 4 (by decide) (by decide)]; exact h.ln, h.n9, h.pn, ?_, fun i hi => by rw [hf.2.2.1 67 h67 (by decide)]; exact h.wt i hi, by rw [hf.2.2.2.2]; exact h.tn, h.ht⟩
  obtain ⟨k1, k2, k3, k4, k5⟩ := h.kx
  exact ⟨by rw [e 7 (by decide) (by decide)]; exact k1, by rw [e 6 (by decide) (by decide)]; exact k2, by rw [hJ]; exact k3, by rw [e 9 (by decide) (by decide)]; exact k4, by rw [e 5 (by decide) (by decide)]; exact k5⟩
/-- the fault that the class tells -/
def FX_ (tp : Nat → Int) (n : Nat) (e : Int × Nat) (σ : am_S) : Prop := σ.1 66 0 = (if tks_ tp n e.2 = 3 then 1 else e.1) ∧ σ.1 66 1 = (e.2 : Int)
theorem kf_bd (w : Int) : ∀ m i, i + m ≤ 21 → (0 ≤ kf_ w m i ∧ kf_ w m i ≤ 20) ∨ kf_ w m i = 100
  | 0, _, _ => Or.inr rfl
  | m + 1, i, h => by
    show (0 ≤ (if (wc_ i : Int) = w then (i : Int) else kf_ w m (i + 1)) ∧ (if (wc_ i : Int) = w then (i : Int) else kf_ w m (i + 1)) ≤ 20) ∨ (if (wc_ i : Int) = w then (i : Int) else kf_ w m (i + 1)) = 100
    split
    · exact Or.inl ⟨by omega, by omega⟩
    · exact kf_bd w m (i + 1) (by omega)
theorem tks_bd (tp : Nat → Int) (n p : Nat) : tks_ tp n p = 0 ∨ tks_ tp n p = 1 ∨ tks_ tp n p = 2 ∨ tks_ tp n p = 3 ∨ (37 ≤ tks_ tp n p ∧ tks_ tp n p ≤ 62) := by
  unfold tks_
  split
  · exact Or.inl rfl
  · split
    · split
      · exact Or.inr (Or.inr (Or.inr (Or.inl rfl)))
      · exact Or.inr (Or.inl rfl)
    · split
      · split
        · exact Or.inr (Or.inr (Or.inr (Or.inl rfl)))
        · exact Or.inr (Or.inr (Or.inl rfl))
      · split
        · next q => unfold si_ at q; rw [decide_eq_true_eq] at q; omega
        · exact Or.inr (Or.inr (Or.inr (Or.inl rfl)))
theorem kx_3 {tp : Nat → Int} {n p : Nat} : kx_ tp n p = 103 ↔ tks_ tp n p = 3 := by
  have h1 := tks_bd tp n p
  have h2 := kf_bd (tkw_ tp n p) 21 0 (by decide)
  unfold kx_
  split
  · omega
  · split
    · omega
    · split
      · omega
      · split <;> omega
theorem kx_2 {tp : Nat → Int} {n p : Nat} : kx_ tp n p = 101 ↔ tks_ tp n p = 2 := by
  have h1 := tks_bd tp n p
  have h2 := kf_bd (tkw_ tp n p) 21 0 (by decide)
  unfold kx_
  split
  · omega
  · split
    · omega
    · split
      · omega
      · split <;> omega
theorem kx_0 {tp : Nat → Int} {n p : Nat} : kx_ tp n p = 102 ↔ tks_ tp n p = 0 := by
  have h1 := tks_bd tp n p
  have h2 := kf_bd (tkw_ tp n p) 21 0 (by decide)
  unfold kx_
  split
  · omega
  · split
    · omega
    · split
      · omega
      · split <;> omega
/-- a sign -/
theorem kx_s {tp : Nat → Int} {n p : Nat} {z : Int} (hz : 37 ≤ z ∧ z ≤ 62) : kx_ tp n p = z ↔ tks_ tp n p = z := by
  have h1 := tks_bd tp n p
  have h2 := kf_bd (tkw_ tp n p) 21 0 (by decide)
  unfold kx_
  split
  · omega
  · split
    · omega
    · split
      · omega
      · split <;> omega
theorem x_nextT {d : Nat} (hd : 3 ≤ d) {σ : am_S} {tp : Nat → Int} {n t p : Nat} (hC : RC_ tp n t p σ) (h3 : tks_ tp n p ≠ 3) {Q : Option am_V → am_S → Prop} (hQ : ∀ σ', gx_ [] [] [5, 6, 7, 9] σ σ' → RC_ tp n t (nxp_ tp n p) σ' → Q none σ') : am_Ev d 65 [am_R 66] σ Q := by
  have hle := tka_le (tp := tp) hC.pn
  have hsk := skp_le tp n (n - tka_ tp n p) (tka_ tp n p)
  refine x_next (q := p) (a := tka_ tp n p) hd hC.wt ⟨hC.tx, hC.ln, hC.n9, hC.kx.2.2.2.2 h3, hC.kx.1⟩ hle.2 (fun σ' hf hk => hQ σ' hf ⟨by rw [hf.1 1 (by simp) (by decide)]; exact hC.tx, by rw [hf.2.1 4 (by simp)]; exact hC.ln, hC.n9, by unfold nxp_; omega, hk, fun i hi => by rw [hf.2.2.1 67 (by simp) (by decide)]; exact hC.wt i hi, by rw [hf.2.2.2.2]; exact hC.tn, hC.ht⟩)

theorem x_refuse {d : Nat} (hd : 1 ≤ d) {σ : am_S} {p : Nat} (h7 : σ.1 66 7 = (p : Int)) {f : Int} {Q : Option am_V → am_S → Prop} (hQ : ∀ σ', gx_ [] [] [0, 1] σ σ' → σ'.1 66 0 = f → σ'.1 66 1 = (p : Int) → σ'.2.1 = σ.2.1 → Q (some (am_I 0)) σ') : am_Ev d 64 [am_R 66, am_I f] σ Q := by
  obtain ⟨d, rfl⟩ : ∃ e, d = e + 1 := ⟨d - 1, by omega⟩
  refine ev_in (m := 64) (c := k_X4_refuse) (L := [some (am_R 66), some (am_I f)]) rfl rfl rfl rfl rfl rfl ?_
  refine ax_load (q := 1) rfl rfl rfl rfl rfl ?_
  refine ax_load (q := 2) rfl rfl rfl rfl rfl ?_
  refine ax_putf (q := 5) rfl rfl rfl ?_
  refine ax_load (q := 6) rfl rfl rfl rfl rfl ?_
  refine ax_load (q := 7) rfl rfl rfl rfl rfl ?_
  refine ax_getf (q := 10) (v := am_I ((p : Nat) : Int)) rfl rfl (am_fg rfl (by rw [sI_at, am_up_ne (by decide)]; exact h7)) ?_
  refine ax_putf (q := 13) rfl rfl rfl ?_
  refine ax_const (q := 14) (v := am_I 0) rfl rfl rfl ?_
  refine ax_ret (r := some (am_I 0)) rfl ⟨rfl, Or.inl rfl⟩ ?_
  exact hQ _ (gx_s (gx_s (gx_rf _ _ _ _) (by simp)) (by simp)) (by rw [sI_at, am_up_ne (by decide), sI_at, am_up_same]) (by rw [sI_at, am_up_same]) rfl

