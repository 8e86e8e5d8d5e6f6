/-- what reading a text may change -/
def gw_ (t : Nat) (σ σ' : am_S) : Prop := (∀ b, (b < t ∨ t + 30 < b) → b ≠ 66 → σ'.1 b = σ.1 b) ∧ (∀ b, (b < t ∨ t + 30 < b) → b ≠ 66 → σ'.2.1 b = σ.2.1 b) ∧ (∀ b, b ≠ 66 → σ'.2.2.1 b = σ.2.2.1 b) ∧ σ'.2.2.2 = σ.2.2.2
theorem gw_gl {t : Nat} {σ σ1 σ2 : am_S} (h1 : gw_ t σ σ1) (h2 : gl_ t σ1 σ2) : gw_ t σ σ2 := ⟨fun b hb h6 => by rw [h2.1 b hb h6, h1.1 b hb h6], fun b hb h6 => by rw [h2.2.2.1 b hb h6, h1.2.1 b hb h6], fun b h6 => by rw [h2.2.2.2.2, h1.2.2.1 b h6], by rw [h2.2.2.2.2, h1.2.2.2]⟩
theorem tks_end {tp : Nat → Int} {n p : Nat} (h : n ≤ p) : tks_ tp n p = 0 := by
  unfold tks_
  rw [hr_out (by omega)]
  exact if_pos (by decide)
theorem all_e {tp : Nat → Int} {n k p : Nat} {D : sp_T} (h : tks_ tp n p = 0) : all_ tp n (k + 1) D p = Sum.inr (D, p) := if_pos h
theorem all_l {tp : Nat → Int} {n k p : Nat} {D : sp_T} (h : ¬ tks_ tp n p = 0) : all_ tp n (k + 1) D p = sb_ (line_ tp n D p) fun r => all_ tp n k r.1 r.2 := if_neg h
theorem xd_zero {t : Nat} {D : sp_T} (hZ : Z0_ D) {σ : am_S} (h1 : CA_ t 5 σ) (h2 : CB_ t 8 σ) (h3 : σ.1 (t + 28) 3 = 0) (h4 : σ.1 (t + 28) 4 = 0) (h5 : σ.1 t 10 = 40) (h6 : σ.1 t 11 = 0) (h7 : σ.1 66 11 = 0) : XD_ t D σ := by
  obtain ⟨z1, z2, z3, z4, z5, z6, z7, z8, z9, z10, z11, z12⟩ := hZ
  have nm : ∀ a s b, s < 5 → NM_ a (t + 1) s (D 137) b 0 σ := fun a s b hs => ⟨h1 s hs, by omega, fun i hi => absurd hi (by omega), fun i j hi => absurd hi (by omega)⟩
  refine ⟨⟨?_, ?_, ?_, ?_⟩, ?_, ?_, ?_, ⟨?_, ?_, ?_⟩, ⟨?_, ?_, ?_⟩, ?_⟩
  · rw [z1]; exact nm _ _ _ (by decide)
  · rw [z2]; exact nm _ _ _ (by decide)
  · rw [z3]; exact nm _ _ _ (by decide)
  · rw [z4]; exact nm _ _ _ (by decide)
  · intro o ho
    have h0 := h2 o ho
    rw [z2]
    exact ⟨fun q => absurd q (by simp), fun _ => h0.1, h0.2.1⟩
  · intro r o hr ho
    have h0 := h2 o ho
    rw [z3, if_neg (by simp)]
    rcases (by omega : r = 0 ∨ r = 1 ∨ r = 2) with rfl | rfl | rfl
    · exact h0.2.2.1
    · exact h0.2.2.2.1
    · exact h0.2.2.2.2
  · intro p hp
    rw [z4] at hp
    exact absurd hp (by simp)
  · rw [h5, z6]
  · rw [h6, z7]
  · rw [h1 4 (by decide), z5]
  · rw [h4, z11]
  · rw [h3, z8, if_pos rfl]
  · intro q
    rw [z8] at q
    exact absurd q (by decide)
  · exact ⟨0, h7, by decide, by rw [z8]; decide, by rw [z9]; decide, by rw [z10]; decide⟩

theorem xl_town {d : Nat} (hd : 64 ≤ d) {σ : am_S} {tp : Nat → Int} {n t : Nat} {Q : Option am_V → am_S → Prop} : ∀ (k i p : Nat) (D : sp_T) (σ' : am_S), i ≤ p → n < p + k → (∃ mS mO mR mP mU, DW_ D mS mO mR mP mU) → gl_ t σ σ' → RC_ tp n t p σ' → XD_ t D σ' → (∀ e, all_ tp n k D p = Sum.inl e → ∀ σ2, gl_ t σ σ2 → FX_ tp n e σ2 → Q (some (am_I 0)) σ2) → (∀ D' p', all_ tp n k D p = Sum.inr (D', p') → ∀ σ2, gl_ t σ σ2 → RC_ tp n t p' σ2 → XD_ t D' σ2 → Q (some (am_I 1)) σ2) → aW d 1 k_X4_readsTown Q 48 [some (am_R 66), some (am_I ((n : Nat) : Int)), some (am_R t), some (am_I ((i : Nat) : Int))] [] σ' := by
  intro k
  induction k with
  | zero =>
    intro i p D σ' hi hk hDW hf hC hX hE hY
    exact absurd hC.pn (by omega)
  | succ k ih =>
    intro i p D σ' hi hk hDW hf hC hX hE hY
    have ht := hC.ht
    have hX7 : PT_ t := ht
    have hn9 := hC.n9
    have hpn := hC.pn
    obtain ⟨mS, mO, mR, mP, mU, hV⟩ := hDW
    refine ax_load (q := 49) rfl rfl rfl rfl rfl ?_
    refine ax_const (q := 52) (v := am_I 1600) rfl rfl rfl ?_
    refine ax_icmp_ge (q := 55) (x := 79) rfl rfl (fun h52 => ?_) (fun h52 => ?_)
    · refine ax_const (q := 80) (v := am_I 1) rfl rfl rfl ?_
      refine ax_ret (r := some (am_I 1)) rfl ⟨rfl, Or.inr rfl⟩ ?_
      exact hY D p (all_e (tks_end (by omega))) _ hf hC hX
    · refine ax_load (q := 56) rfl rfl rfl rfl rfl ?_
      refine ax_getf (q := 59) (v := am_I (kx_ tp n p)) rfl rfl (am_fg rfl hC.kx.2.1) ?_
      refine ax_const (q := 61) (v := am_I 102) rfl rfl rfl ?_
      refine ax_icmp_eq (q := 64) (x := 79) rfl rfl (fun h61 => ?_) (fun h61 => ?_)
      · refine ax_const (q := 80) (v := am_I 1) rfl rfl rfl ?_
        refine ax_ret (r := some (am_I 1)) rfl ⟨rfl, Or.inr rfl⟩ ?_
        exact hY D p (all_e (kx_0.mp h61)) _ hf hC hX
      · refine ax_load (q := 65) rfl rfl rfl rfl rfl ?_
        refine ax_callv (q := 68) rfl rfl rfl rfl rfl rfl ?_
        have h0 : ¬ tks_ tp n p = 0 := fun e => h61 (kx_0.mpr e)
        rw [all_l h0] at hE hY
        refine x_readsLine (by omega) hC hV hX ⟨fun e he σe hge g0 => ?_, fun D' p' he σ2 hg2 hC2 hX2 => ?_⟩
        · rw [he] at hE
          simp only [sbl_] at hE
          refine ax_if_ne (q := 71) (x := 73) rfl rfl (fun h => absurd h (by omega)) (fun h68 => ?_)
          refine ax_const (q := 72) (v := am_I 0) rfl rfl rfl ?_
          refine ax_ret (r := some (am_I 0)) rfl ⟨rfl, Or.inl rfl⟩ ?_
          exact hE _ rfl _ (gl_tr hf hge) g0
        · rw [he] at hE hY
          simp only [sbr_] at hE hY
          have hli := line_in hV hpn he
          refine ax_if_ne (q := 71) (x := 73) rfl rfl (fun h68 => ?_) (fun h => absurd h (by omega))
          refine ax_iinc (q := 76) (z' := ((i + 1 : Nat) : Int)) (L' := [some (am_R 66), some (am_I ((n : Nat) : Int)), some (am_R t), some (am_I ((i + 1 : Nat) : Int))]) rfl rfl rfl rfl (am_we (by omega) (by omega) (by omega)) rfl ?_
          refine ax_goto (x := 48) rfl ?_
          exact ih (i + 1) p' D' σ2 (by have := hli.1; show i + 1 ≤ p'; have h1 : p < p' := hli.1; omega) (by have h1 : p < p' := hli.1; omega) hli.2.2 (gl_tr hf hg2) hC2 hX2 hE hY

theorem x_readsTown {d : Nat} (hd : 66 ≤ d) {σ : am_S} {tp : Nat → Int} {n t : Nat} (ht : t = 2 ∨ t = 34) (hTP : TP_ (σ.1 1) tp n) (hn9 : n ≤ 1600) (hW : WT_ σ) {D : sp_T} (hZ : Z0_ D) {Q : Option am_V → am_S → Prop} (hE : ∀ e, rall_ tp n D = Sum.inl e → ∀ σ', gw_ t σ σ' → FX_ tp n e σ' → Q (some (am_I 0)) σ') (hY : ∀ D' p', rall_ tp n D = Sum.inr (D', p') → ∀ σ', gw_ t σ σ' → σ'.1 66 0 = 0 → σ'.1 66 1 = -1 → XD_ t D' σ' → Q (some (am_I 1)) σ') : am_Ev d 40 [am_R 66, am_I ((n : Nat) : Int), am_R t] σ Q := by
  obtain ⟨d, rfl⟩ : ∃ e, d = e + 1 := ⟨d - 1, by omega⟩
  have hX7 : PT_ t := ht
  refine ev_in (m := 40) (c := k_X4_readsTown) (L := [some (am_R 66), some (am_I ((n : Nat) : Int)), some (am_R t), none]) rfl rfl rfl rfl rfl rfl ?_
  refine ax_load (q := 1) rfl rfl rfl rfl rfl ?_
  refine ax_load (q := 2) rfl rfl rfl rfl rfl ?_
  refine ax_load (q := 3) rfl rfl rfl rfl rfl ?_
  refine ax_getf (q := 6) (v := am_R 1) rfl rfl (rfl) ?_
  refine ax_alen (q := 7) (m := 1600) rfl rfl (rfl) (by decide) ?_
  refine ax_min (q := 10) (z := ((n : Nat) : Int)) rfl rfl rfl (if_neg (by omega)) ?_
  refine ax_putf (q := 13) rfl rfl rfl ?_
  refine ax_load (q := 14) rfl rfl rfl rfl rfl ?_
  refine ax_const (q := 15) (v := am_I 0) rfl rfl rfl ?_
  refine ax_putf (q := 18) rfl rfl rfl ?_
  refine ax_load (q := 19) rfl rfl rfl rfl rfl ?_
  refine ax_load (q := 20) rfl rfl rfl rfl rfl ?_
  refine ax_putf (q := 23) rfl rfl rfl ?_
  refine ax_load (q := 24) rfl rfl rfl rfl rfl ?_
  refine ax_const (q := 25) (v := am_I 0) rfl rfl rfl ?_
  refine ax_putf (q := 28) rfl rfl rfl ?_
  refine ax_load (q := 29) rfl rfl rfl rfl rfl ?_
  refine ax_const (q := 30) (v := am_I 0) rfl rfl rfl ?_
  refine ax_putf (q := 33) rfl rfl rfl ?_
  refine ax_load (q := 34) rfl rfl rfl rfl rfl ?_
  refine ax_const (q := 35) (v := am_I (-1)) rfl rfl rfl ?_
  refine ax_putf (q := 38) rfl rfl rfl ?_
  refine ax_load (q := 39) rfl rfl rfl rfl rfl ?_
  refine ax_callv (q := 42) rfl rfl rfl rfl rfl (kd_0 hX7.ht) ?_
  obtain ⟨σ1, e1⟩ : ∃ u, u = (am_sI (am_sI (am_sI (am_sR (am_sI (am_sI σ 66 (am_up (σ.1 66) 4 ((n : Nat) : Int))) 66 (am_up ((am_sI σ 66 (am_up (σ.1 66) 4 ((n : Nat) : Int))).1 66) 5 0)) 66 (am_up ((am_sI (am_sI σ 66 (am_up (σ.1 66) 4 ((n : Nat) : Int))) 66 (am_up ((am_sI σ 66 (am_up (σ.1 66) 4 ((n : Nat) : Int))).1 66) 5 0)).2.2.1 66) 10 (some t))) 66 (am_up ((am_sR (am_sI (am_sI σ 66 (am_up (σ.1 66) 4 ((n : Nat) : Int))) 66 (am_up ((am_sI σ 66 (am_up (σ.1 66) 4 ((n : Nat) : Int))).1 66) 5 0)) 66 (am_up ((am_sI (am_sI σ 66 (am_up (σ.1 66) 4 ((n : Nat) : Int))) 66 (am_up ((am_sI σ 66 (am_up (σ.1 66) 4 ((n : Nat) : Int))).1 66) 5 0)).2.2.1 66) 10 (some t))).1 66) 11 0)) 66 (am_up ((am_sI (am_sR (am_sI (am_sI σ 66 (am_up (σ.1 66) 4 ((n : Nat) : Int))) 66 (am_up ((am_sI σ 66 (am_up (σ.1 66) 4 ((n : Nat) : Int))).1 66) 5 0)) 66 (am_up ((am_sI (am_sI σ 66 (am_up (σ.1 66) 4 ((n : Nat) : Int))) 66 (am_up ((am_sI σ 66 (am_up (σ.1 66) 4 ((n : Nat) : Int))).1 66) 5 0)).2.2.1 66) 10 (some t))) 66 (am_up ((am_sR (am_sI (am_sI σ 66 (am_up (σ.1 66) 4 ((n : Nat) : Int))) 66 (am_up ((am_sI σ 66 (am_up (σ.1 66) 4 ((n : Nat) : Int))).1 66) 5 0)) 66 (am_up ((am_sI (am_sI σ 66 (am_up (σ.1 66) 4 ((n : Nat) : Int))) 66 (am_up ((am_sI σ 66 (am_up (σ.1 66) 4 ((n : Nat) : Int))).1 66) 5 0)).2.2.1 66) 10 (some t))).1 66) 11 0)).1 66) 0 0)) 66 (am_up ((am_sI (am_sI (am_sR (am_sI (am_sI σ 66 (am_up (σ.1 66) 4 ((n : Nat) : Int))) 66 (am_up ((am_sI σ 66 (am_up (σ.1 66) 4 ((n : Nat) : Int))).1 66) 5 0)) 66 (am_up ((am_sI (am_sI σ 66 (am_up (σ.1 66) 4 ((n : Nat) : Int))) 66 (am_up ((am_sI σ 66 (am_up (σ.1 66) 4 ((n : Nat) : Int))).1 66) 5 0)).2.2.1 66) 10 (some t))) 66 (am_up ((am_sR (am_sI (am_sI σ 66 (am_up (σ.1 66) 4 ((n : Nat) : Int))) 66 (am_up ((am_sI σ 66 (am_up (σ.1 66) 4 ((n : Nat) : Int))).1 66) 5 0)) 66 (am_up ((am_sI (am_sI σ 66 (am_up (σ.1 66) 4 ((n : Nat) : Int))) 66 (am_up ((am_sI σ 66 (am_up (σ.1 66) 4 ((n : Nat) : Int))).1 66) 5 0)).2.2.1 66) 10 (some t))).1 66) 11 0)) 66 (am_up ((am_sI (am_sR (am_sI (am_sI σ 66 (am_up (σ.1 66) 4 ((n : Nat) : Int))) 66 (am_up ((am_sI σ 66 (am_up (σ.1 66) 4 ((n : Nat) : Int))).1 66) 5 0)) 66 (am_up ((am_sI (am_sI σ 66 (am_up (σ.1 66) 4 ((n : Nat) : Int))) 66 (am_up ((am_sI σ 66 (am_up (σ.1 66) 4 ((n : Nat) : Int))).1 66) 5 0)).2.2.1 66) 10 (some t))) 66 (am_up ((am_sR (am_sI (am_sI σ 66 (am_up (σ.1 66) 4 ((n : Nat) : Int))) 66 (am_up ((am_sI σ 66 (am_up (σ.1 66) 4 ((n : Nat) : Int))).1 66) 5 0)) 66 (am_up ((am_sI (am_sI σ 66 (am_up (σ.1 66) 4 ((n : Nat) : Int))) 66 (am_up ((am_sI σ 66 (am_up (σ.1 66) 4 ((n : Nat) : Int))).1 66) 5 0)).2.2.1 66) 10 (some t))).1 66) 11 0)).1 66) 0 0)).1 66) 1 (-1))) := ⟨_, rfl⟩
  show am_Ev _ _ _ (am_sI (am_sI (am_sI (am_sR (am_sI (am_sI σ 66 (am_up (σ.1 66) 4 ((n : Nat) : Int))) 66 (am_up ((am_sI σ 66 (am_up (σ.1 66) 4 ((n : Nat) : Int))).1 66) 5 0)) 66 (am_up ((am_sI (am_sI σ 66 (am_up (σ.1 66) 4 ((n : Nat) : Int))) 66 (am_up ((am_sI σ 66 (am_up (σ.1 66) 4 ((n : Nat) : Int))).1 66) 5 0)).2.2.1 66) 10 (some t))) 66 (am_up ((am_sR (am_sI (am_sI σ 66 (am_up (σ.1 66) 4 ((n : Nat) : Int))) 66 (am_up ((am_sI σ 66 (am_up (σ.1 66) 4 ((n : Nat) : Int))).1 66) 5 0)) 66 (am_up ((am_sI (am_sI σ 66 (am_up (σ.1 66) 4 ((n : Nat) : Int))) 66 (am_up ((am_sI σ 66 (am_up (σ.1 66) 4 ((n : Nat) : Int))).1 66) 5 0)).2.2.1 66) 10 (some t))).1 66) 11 0)) 66 (am_up ((am_sI (am_sR (am_sI (am_sI σ 66 (am_up (σ.1 66) 4 ((n : Nat) : Int))) 66 (am_up ((am_sI σ 66 (am_up (σ.1 66) 4 ((n : Nat) : Int))).1 66) 5 0)) 66 (am_up ((am_sI (am_sI σ 66 (am_up (σ.1 66) 4 ((n : Nat) : Int))) 66 (am_up ((am_sI σ 66 (am_up (σ.1 66) 4 ((n : Nat) : Int))).1 66) 5 0)).2.2.1 66) 10 (some t))) 66 (am_up ((am_sR (am_sI (am_sI σ 66 (am_up (σ.1 66) 4 ((n : Nat) : Int))) 66 (am_up ((am_sI σ 66 (am_up (σ.1 66) 4 ((n : Nat) : Int))).1 66) 5 0)) 66 (am_up ((am_sI (am_sI σ 66 (am_up (σ.1 66) 4 ((n : Nat) : Int))) 66 (am_up ((am_sI σ 66 (am_up (σ.1 66) 4 ((n : Nat) : Int))).1 66) 5 0)).2.2.1 66) 10 (some t))).1 66) 11 0)).1 66) 0 0)) 66 (am_up ((am_sI (am_sI (am_sR (am_sI (am_sI σ 66 (am_up (σ.1 66) 4 ((n : Nat) : Int))) 66 (am_up ((am_sI σ 66 (am_up (σ.1 66) 4 ((n : Nat) : Int))).1 66) 5 0)) 66 (am_up ((am_sI (am_sI σ 66 (am_up (σ.1 66) 4 ((n : Nat) : Int))) 66 (am_up ((am_sI σ 66 (am_up (σ.1 66) 4 ((n : Nat) : Int))).1 66) 5 0)).2.2.1 66) 10 (some t))) 66 (am_up ((am_sR (am_sI (am_sI σ 66 (am_up (σ.1 66) 4 ((n : Nat) : Int))) 66 (am_up ((am_sI σ 66 (am_up (σ.1 66) 4 ((n : Nat) : Int))).1 66) 5 0)) 66 (am_up ((am_sI (am_sI σ 66 (am_up (σ.1 66) 4 ((n : Nat) : Int))) 66 (am_up ((am_sI σ 66 (am_up (σ.1 66) 4 ((n : Nat) : Int))).1 66) 5 0)).2.2.1 66) 10 (some t))).1 66) 11 0)) 66 (am_up ((am_sI (am_sR (am_sI (am_sI σ 66 (am_up (σ.1 66) 4 ((n : Nat) : Int))) 66 (am_up ((am_sI σ 66 (am_up (σ.1 66) 4 ((n : Nat) : Int))).1 66) 5 0)) 66 (am_up ((am_sI (am_sI σ 66 (am_up (σ.1 66) 4 ((n : Nat) : Int))) 66 (am_up ((am_sI σ 66 (am_up (σ.1 66) 4 ((n : Nat) : Int))).1 66) 5 0)).2.2.1 66) 10 (some t))) 66 (am_up ((am_sR (am_sI (am_sI σ 66 (am_up (σ.1 66) 4 ((n : Nat) : Int))) 66 (am_up ((am_sI σ 66 (am_up (σ.1 66) 4 ((n : Nat) : Int))).1 66) 5 0)) 66 (am_up ((am_sI (am_sI σ 66 (am_up (σ.1 66) 4 ((n : Nat) : Int))) 66 (am_up ((am_sI σ 66 (am_up (σ.1 66) 4 ((n : Nat) : Int))).1 66) 5 0)).2.2.1 66) 10 (some t))).1 66) 11 0)).1 66) 0 0)).1 66) 1 (-1))) _
  rw [← e1]
  have a0 : σ1.1 66 0 = 0 := by rw [e1]; rfl
  have a1 : σ1.1 66 1 = -1 := by rw [e1]; rfl
  have a4 : σ1.1 66 4 = (n : Int) := by rw [e1]; rfl
  have a5 : σ1.1 66 5 = ((0 : Nat) : Int) := by rw [e1]; rfl
  have a11 : σ1.1 66 11 = 0 := by rw [e1]; rfl
  have at_ : σ1.2.2.1 66 10 = some t := by rw [e1]; rfl
  have al : σ1.2.1 = σ.2.1 := by rw [e1]; rfl
  have as_ : σ1.2.2.2 = σ.2.2.2 := by rw [e1]; rfl
  have ab : ∀ b, b ≠ 66 → σ1.1 b = σ.1 b := fun b hb => by rw [e1]; simp only [am_sI, am_sR, am_up, if_neg hb]
  have ar : ∀ b, b ≠ 66 → σ1.2.2.1 b = σ.2.2.1 b := fun b hb => by rw [e1]; simp only [am_sI, am_sR, am_up, if_neg hb]
  clear e1
  refine x_tclear (by omega) ht (fun σ2 hf2 c1 c2 c3 c4 c5 c6 => ?_)
  have b66 : σ2.1 66 = σ1.1 66 := hf2.1 66 (by simp; omega)
  have b1 : σ2.1 1 = σ.1 1 := by rw [hf2.1 1 (by simp; omega), ab 1 (by decide)]
  refine ax_load (q := 43) rfl rfl rfl rfl rfl ?_
  refine ax_callv (q := 46) rfl rfl rfl rfl rfl rfl ?_
  have hW2 : WT_ σ2 := fun i hi => by rw [hf2.2, al]; exact hW i hi
  refine x_next (q := σ2.1 66 7) (a := 0) (by omega) hW2 ⟨by rw [b1]; exact hTP, by rw [b66]; exact a4, hn9, by rw [b66]; exact a5, rfl⟩ (Nat.zero_le _) (fun σ3 hf3 hk3 => ?_)
  rw [Nat.sub_zero] at hk3
  have hsl := skp_le tp n n 0
  have hC3 : RC_ tp n t (skp_ tp n n 0) σ3 := ⟨by rw [hf3.1 1 (by simp) (by decide), b1]; exact hTP, by rw [hf3.2.1 4 (by simp), b66]; exact a4, hn9, by omega, hk3, fun i hi => by rw [hf3.2.2.1 67 (by simp) (by decide)]; exact hW2 i hi, by rw [hf3.2.2.2.2, hf2.2]; exact at_, ht, by rw [hf3.2.1 0 (by simp), b66]; exact a0, by rw [hf3.2.1 1 (by simp), b66]; exact a1⟩
  have hgw : gw_ t σ σ3 := ⟨fun b hb h6 => by rw [hf3.1 b (by simp) h6, hf2.1 b (by simp; omega), ab b h6], fun b hb h6 => by rw [hf3.2.2.1 b (by simp) h6, hf2.2, al], fun b h6 => by rw [hf3.2.2.2.2, hf2.2]; exact ar b h6, by rw [hf3.2.2.2.2, hf2.2]; exact as_⟩
  have q : ∀ b, b ≠ 66 → σ3.1 b = σ2.1 b := fun b h6 => hf3.1 b (by simp) h6
  have hX3 : XD_ t D σ3 := xd_zero hZ (fun j hj => by rw [q _ (by omega)]; exact c1 j hj) (fun j hj => by rw [q _ (by omega), q _ (by omega), q _ (by omega), q _ (by omega), q _ (by omega)]; exact c2 j hj) (by rw [q _ (by omega)]; exact c3) (by rw [q _ (by omega)]; exact c4) (by rw [q _ (by omega)]; exact c5) (by rw [q _ (by omega)]; exact c6) (by rw [hf3.2.1 11 (by simp), b66]; exact a11)
  refine ax_const (q := 47) (v := am_I 0) rfl rfl rfl ?_
  refine ax_store (q := 48) (L' := [some (am_R 66), some (am_I ((n : Nat) : Int)), some (am_R t), some (am_I 0)]) rfl rfl rfl rfl rfl rfl ?_
  exact xl_town (by omega) (n + 1) 0 (skp_ tp n n 0) D σ3 (by omega) (by omega) ⟨_, _, _, _, _, hZ.dw⟩ (gl_rf _ _) hC3 hX3 (fun e he σ4 hg4 g0 => hE e he _ (gw_gl hgw hg4) g0) (fun D' p' he σ4 hg4 hC4 hX4 => hY D' p' he _ (gw_gl hgw hg4) hC4.f0 hC4.f1 hX4)

