theorem xl_lvZ {d : Nat} (hd : 1 ≤ d) {σ : am_S} {t q : Nat} (ht : t = 2 ∨ t = 34) (hq6 : q < 6) {x4 x5 x6 : Option am_V} {Q : Option am_V → am_S → Prop} (hQ : ∀ σ', fr_ [t + 22 + q] σ σ' → (∀ s, s < 4 → σ'.1 (t + 22 + q) s = 0) → aW d 1 k_X4_readsLevels Q 27 [some (am_R 66), some (am_I ((q : Nat) : Int)), some (am_R (t + 22 + q)), some (am_I ((4 : Nat) : Int)), x4, x5, x6] [] σ') : ∀ (m k : Nat), k + m = 4 → ∀ σ', fr_ [t + 22 + q] σ σ' → (∀ s, s < k → σ'.1 (t + 22 + q) s = 0) → aW d 1 k_X4_readsLevels Q 12 [some (am_R 66), some (am_I ((q : Nat) : Int)), some (am_R (t + 22 + q)), some (am_I ((k : Nat) : Int)), x4, x5, x6] [] σ' := by
  have hX : PT_ t := ht
  intro m
  induction m with
  | zero =>
    intro k hk σ' hf hz
    obtain rfl : k = 4 := by omega
    refine ax_load (q := 13) rfl rfl rfl rfl rfl ?_
    refine ax_const (q := 14) (v := am_I 4) rfl rfl rfl ?_
    refine ax_icmp_ge (q := 17) (x := 27) rfl rfl (fun h14 => ?_) (fun h => absurd h (by omega))
    exact hQ _ hf hz
  | succ m ih =>
    intro k hk σ' hf hz
    refine ax_load (q := 13) rfl rfl rfl rfl rfl ?_
    refine ax_const (q := 14) (v := am_I 4) rfl rfl rfl ?_
    refine ax_icmp_ge (q := 17) (x := 27) rfl rfl (fun h => absurd h (by omega)) (fun h14 => ?_)
    refine ax_load (q := 18) rfl rfl rfl rfl rfl ?_
    refine ax_load (q := 19) rfl rfl rfl rfl rfl ?_
    refine ax_const (q := 20) (v := am_I 0) rfl rfl rfl ?_
    refine bx_iast (q := 21) (k := k) rfl rfl (kd_lv hX.ht (by omega)) (by omega) (by omega) ?_
    refine ax_iinc (q := 24) (z' := ((k + 1 : Nat) : Int)) (L' := [some (am_R 66), some (am_I ((q : Nat) : Int)), some (am_R (t + 22 + q)), some (am_I ((k + 1 : Nat) : Int)), x4, x5, x6]) rfl rfl rfl rfl (am_we (by omega) (by omega) (by omega)) rfl ?_
    refine ax_goto (x := 12) rfl ?_
    refine ih (k + 1) (by omega) _ (fr_sI hf (by simp)) (fun s hs => ?_)
    rw [sI_at]
    by_cases e : s = k
    · rw [e, am_up_same]
    · rw [am_up_ne e]; exact hz s (by omega)

theorem xl_lev {d : Nat} (hd : 5 ≤ d) {σ : am_S} {tp : Nat → Int} {n t q nS : Nat} (ht : t = 2 ∨ t = 34) (hq6 : q < 6) (hS4 : nS ≤ 4) {g : Nat → Int} {Q : Option am_V → am_S → Prop} : ∀ (m i p h : Nat) (D : sp_T) (x5 x6 : Option am_V) (σ' : am_S), i + m = 5 → hb_ h = i → h < 16 → D 137 = g → gx_ [t + 22 + q] [] [0, 1, 5, 6, 7, 9] σ σ' → RC_ tp n t p σ' → NM_ (t + 4) (t + 1) 1 g 0 nS σ' → (∀ s, s < 4 → σ'.1 (t + 22 + q) s = D 161 (4 * q + s)) → (∀ e, lev_ tp n nS q m D p h = Sum.inl e → ∀ σ2, gx_ [t + 22 + q] [] [0, 1, 5, 6, 7, 9] σ σ2 → FX_ tp n e σ2 → Q (some (am_I 0)) σ2) → (∀ p', lev_ tp n nS q m D p h = Sum.inl (2, p') → ¬ tks_ tp n p' = 59 → ∀ σ2, gx_ [t + 22 + q] [] [0, 1, 5, 6, 7, 9] σ σ2 → RC_ tp n t p' σ2 → Q (some (am_I 1)) σ2) → (∀ D' p', lev_ tp n nS q m D p h = Sum.inr (D', p') → tks_ tp n p' = 59 → ∀ σ2, gx_ [t + 22 + q] [] [0, 1, 5, 6, 7, 9] σ σ2 → RC_ tp n t p' σ2 → (∀ s, s < 4 → σ2.1 (t + 22 + q) s = D' 161 (4 * q + s)) → Q (some (am_I 1)) σ2) → aW d 1 k_X4_readsLevels Q 32 [some (am_R 66), some (am_I ((q : Nat) : Int)), some (am_R (t + 22 + q)), some (am_I ((h : Nat) : Int)), some (am_I ((i : Nat) : Int)), x5, x6] [] σ' := by
  intro m
  induction m with
  | zero =>
    intro i p h D x5 x6 σ' hi hh
    have := hb_le h
    exact absurd hh (by omega)
  | succ m ih =>
    intro i p h D x5 x6 σ' hi hh h16 hg hf hC hN hv hE hM hY
    have hX : PT_ t := ht
    refine ax_load (q := 34) rfl rfl rfl rfl rfl ?_
    refine ax_const (q := 35) (v := am_I 4) rfl rfl rfl ?_
    refine ax_icmp_gt (q := 38) (x := 121) rfl rfl (fun h => absurd h (by omega)) (fun h35 => ?_)
    refine ax_load (q := 39) rfl rfl rfl rfl rfl ?_
    refine ax_getf (q := 42) (v := am_I (kx_ tp n p)) rfl rfl (am_fg rfl hC.kx.2.1) ?_
    refine ax_const (q := 44) (v := am_I 100) rfl rfl rfl ?_
    refine ax_icmp_ne (q := 47) (x := 121) rfl rfl (fun h44 => ?_) (fun h44 => ?_)
    · refine ax_const (q := 122) (v := am_I 1) rfl rfl rfl ?_
      refine ax_ret (r := some (am_I 1)) rfl ⟨rfl, Or.inr rfl⟩ ?_
      have hkn : ¬ (tks_ tp n p = 1 ∧ own_ (tkw_ tp n p) = false) := fun e => h44 (kx_n.mpr e)
      by_cases h59 : tks_ tp n p = 59
      · exact hY D p (if_pos h59) h59 σ' hf hC hv
      · exact hM p (by show (if tks_ tp n p = 59 then _ else _) = _; rw [if_neg h59, old_k hkn]; rfl) h59 σ' hf hC
    · refine ax_load (q := 48) rfl rfl rfl rfl rfl ?_
      refine ax_const (q := 49) (v := am_I 1) rfl rfl rfl ?_
      refine ax_callv (q := 52) rfl rfl rfl rfl rfl rfl ?_
      have hkn := kx_n.mp (show kx_ tp n p = 100 from h44)
      have h59 : ¬ tks_ tp n p = 59 := fun e => by have e2 := hkn.1; omega
      have hlev : lev_ tp n nS q (m + 1) D p h = sb_ (old_ tp n (D 137) 0 nS p) fun a => if h.testBit a.1.toNat then Sum.inl (3, p) else sb_ (num_ tp n 0 20 (nxp_ tp n p)) fun b => lev_ tp n nS q m (du_ D 161 (4 * q + a.1.toNat) b.1) b.2 (h ||| 2 ^ a.1.toNat) := if_neg h59
      rw [hlev, hg] at hE hM hY
      refine x_old1 (by omega) hC hN (fun e he σd hg_σd g0 => ?_) (fun a he ha hs1 => ?_)
      · rw [he] at hE
        simp only [sbr_, sbl_] at hE
        refine ax_store (q := 54) (L' := [some (am_R 66), some (am_I ((q : Nat) : Int)), some (am_R (t + 22 + q)), some (am_I ((h : Nat) : Int)), some (am_I ((i : Nat) : Int)), some (am_I (-1)), x6]) rfl rfl rfl rfl rfl rfl ?_
        refine ax_load (q := 56) rfl rfl rfl rfl rfl ?_
        refine ax_const (q := 57) (v := am_I (-1)) rfl rfl rfl ?_
        refine ax_icmp_ne (q := 60) (x := 62) rfl rfl (fun h => absurd rfl h) (fun h57 => ?_)
        refine ax_const (q := 61) (v := am_I 0) rfl rfl rfl ?_
        refine ax_ret (r := some (am_I 0)) rfl ⟨rfl, Or.inl rfl⟩ ?_
        exact hE _ rfl _ (gx_tr2 hf (gx_su hg_σd (by intro x hx; simp at hx ⊢ <;> omega) (by intro x hx; simp at hx ⊢ <;> omega) (by intro x hx; simp at hx ⊢ <;> omega))) g0
      · rw [he] at hE hM hY
        simp only [sbr_, sbl_, Int.toNat_natCast] at hE hM hY
        have hp2 : 2 ^ a < 2 ^ 4 := Nat.pow_lt_pow_right (by decide) (by omega)
        have hor : h ||| 2 ^ a < 2 ^ 4 := Nat.or_lt_two_pow h16 hp2
        refine ax_store (q := 54) (L' := [some (am_R 66), some (am_I ((q : Nat) : Int)), some (am_R (t + 22 + q)), some (am_I ((h : Nat) : Int)), some (am_I ((i : Nat) : Int)), some (am_I ((a : Nat) : Int)), x6]) rfl rfl rfl rfl rfl rfl ?_
        refine ax_load (q := 56) rfl rfl rfl rfl rfl ?_
        refine ax_const (q := 57) (v := am_I (-1)) rfl rfl rfl ?_
        refine ax_icmp_ne (q := 60) (x := 62) rfl rfl (fun h57 => ?_) (fun h => absurd h (by omega))
        refine ax_load (q := 63) rfl rfl rfl rfl rfl ?_
        refine ax_const (q := 64) (v := am_I 1) rfl rfl rfl ?_
        refine ax_load (q := 66) rfl rfl rfl rfl rfl ?_
        refine ax_ishl (q := 67) (z := ((2 ^ a : Nat) : Int)) rfl rfl (am_shl1 a (by omega)) ?_
        refine ax_iand (q := 68) (z := ((h &&& 2 ^ a : Nat) : Int)) rfl rfl (am_and_nat (by omega) (by omega)) ?_
        refine ax_if_eq (q := 71) (x := 77) rfl rfl (fun h68 => ?_) (fun h68 => ?_)
        · rw [and_2k] at h68
          have hb : h.testBit a = false := by
            cases w : h.testBit a with
            | false => rfl
            | true => rw [w, if_pos rfl] at h68; have := Nat.one_le_two_pow (n := a); omega
          rw [hb] at hE hM hY
          simp only [Bool.false_eq_true, if_false] at hE hM hY
          refine ax_load (q := 78) rfl rfl rfl rfl rfl ?_
          refine ax_const (q := 79) (v := am_I 1) rfl rfl rfl ?_
          refine ax_load (q := 81) rfl rfl rfl rfl rfl ?_
          refine ax_ishl (q := 82) (z := ((2 ^ a : Nat) : Int)) rfl rfl (am_shl1 a (by omega)) ?_
          refine ax_ior (q := 83) (z := ((h ||| 2 ^ a : Nat) : Int)) rfl rfl (am_or_nat (by omega) (by omega)) ?_
          refine ax_store (q := 84) (L' := [some (am_R 66), some (am_I ((q : Nat) : Int)), some (am_R (t + 22 + q)), some (am_I ((h ||| 2 ^ a : Nat) : Int)), some (am_I ((i : Nat) : Int)), some (am_I ((a : Nat) : Int)), x6]) rfl rfl rfl rfl rfl rfl ?_
          refine ax_load (q := 85) rfl rfl rfl rfl rfl ?_
          refine ax_callv (q := 88) rfl rfl rfl rfl rfl rfl ?_
          refine x_nextT (by omega) hC (fun e => by rw [hs1] at e; exact absurd e (by decide)) (fun σ1 hg_σ1 hC1 => ?_)
          have hf1 : gx_ [t + 22 + q] [] [0, 1, 5, 6, 7, 9] σ σ1 := gx_tr2 hf (gx_su hg_σ1 (by intro x hx; simp at hx ⊢ <;> omega) (by intro x hx; simp at hx ⊢ <;> omega) (by intro x hx; simp at hx ⊢ <;> omega))
          refine ax_load (q := 89) rfl rfl rfl rfl rfl ?_
          refine ax_const (q := 90) (v := am_I 0) rfl rfl rfl ?_
          refine ax_const (q := 92) (v := am_I 20) rfl rfl rfl ?_
          refine ax_callv (q := 95) rfl rfl rfl rfl rfl rfl ?_
          refine x_num (by omega) hC1 (fun e he σe hg_σe g0 => ?_) (fun b he hb1 hb2 hs2 => ?_)
          · rw [he] at hE
            simp only [sbr_, sbl_] at hE
            refine ax_store (q := 97) (L' := [some (am_R 66), some (am_I ((q : Nat) : Int)), some (am_R (t + 22 + q)), some (am_I ((h ||| 2 ^ a : Nat) : Int)), some (am_I ((i : Nat) : Int)), some (am_I ((a : Nat) : Int)), some (am_I (-1))]) rfl rfl rfl rfl rfl rfl ?_
            refine ax_load (q := 99) rfl rfl rfl rfl rfl ?_
            refine ax_const (q := 100) (v := am_I (-1)) rfl rfl rfl ?_
            refine ax_icmp_ne (q := 103) (x := 105) rfl rfl (fun h => absurd rfl h) (fun h100 => ?_)
            refine ax_const (q := 104) (v := am_I 0) rfl rfl rfl ?_
            refine ax_ret (r := some (am_I 0)) rfl ⟨rfl, Or.inl rfl⟩ ?_
            exact hE _ rfl _ (gx_tr2 hf1 (gx_su hg_σe (by intro x hx; simp at hx ⊢ <;> omega) (by intro x hx; simp at hx ⊢ <;> omega) (by intro x hx; simp at hx ⊢ <;> omega))) g0
          · rw [he] at hE hM hY
            simp only [sbr_, sbl_] at hE hM hY
            refine ax_store (q := 97) (L' := [some (am_R 66), some (am_I ((q : Nat) : Int)), some (am_R (t + 22 + q)), some (am_I ((h ||| 2 ^ a : Nat) : Int)), some (am_I ((i : Nat) : Int)), some (am_I ((a : Nat) : Int)), some (am_I b)]) rfl rfl rfl rfl rfl rfl ?_
            refine ax_load (q := 99) rfl rfl rfl rfl rfl ?_
            refine ax_const (q := 100) (v := am_I (-1)) rfl rfl rfl ?_
            refine ax_icmp_ne (q := 103) (x := 105) rfl rfl (fun h100 => ?_) (fun h => absurd h (by omega))
            refine ax_load (q := 106) rfl rfl rfl rfl rfl ?_
            refine ax_load (q := 108) rfl rfl rfl rfl rfl ?_
            refine ax_load (q := 110) rfl rfl rfl rfl rfl ?_
            refine bx_iast (q := 111) (k := a) rfl rfl (kd_lv hX.ht (by omega)) (by omega) (by omega) ?_
            refine ax_load (q := 112) rfl rfl rfl rfl rfl ?_
            refine ax_callv (q := 115) rfl rfl rfl rfl rfl rfl ?_
            obtain ⟨σ3, e3⟩ : ∃ u, u = (am_sI σ1 (t + 22 + q) (am_up (σ1.1 (t + 22 + q)) a b)) := ⟨_, rfl⟩
            show am_Ev _ _ _ (am_sI σ1 (t + 22 + q) (am_up (σ1.1 (t + 22 + q)) a b)) _
            rw [← e3]
            have hg3 : gx_ [t + 22 + q] [] [] σ1 σ3 := by rw [e3]; exact gx_A (gx_rf _ _ _ _) (by simp) (by omega)
            have hf3 : gx_ [t + 22 + q] [] [0, 1, 5, 6, 7, 9] σ σ3 := gx_tr2 hf1 (gx_su hg3 (by intro x hx; simp at hx ⊢ <;> omega) (by intro x hx; simp at hx ⊢ <;> omega) (by intro x hx; simp at hx ⊢ <;> omega))
            have hC3 := hC1.fr hg3 (by simp <;> omega) (by simp) (by simp) (by rw [e3]; rfl)
            have v3 : σ3.1 (t + 22 + q) = am_up (σ'.1 (t + 22 + q)) a b := by rw [e3, sI_at, hg_σ1.1 _ (by simp) (by omega)]
            refine x_nextT (by omega) hC3 (fun e => by rw [hs2] at e; exact absurd e (by decide)) (fun σ4 hg_σ4 hC4 => ?_)
            have hf4 : gx_ [t + 22 + q] [] [0, 1, 5, 6, 7, 9] σ σ4 := gx_tr2 hf3 (gx_su hg_σ4 (by intro x hx; simp at hx ⊢ <;> omega) (by intro x hx; simp at hx ⊢ <;> omega) (by intro x hx; simp at hx ⊢ <;> omega))
            refine ax_iinc (q := 118) (z' := ((i + 1 : Nat) : Int)) (L' := [some (am_R 66), some (am_I ((q : Nat) : Int)), some (am_R (t + 22 + q)), some (am_I ((h ||| 2 ^ a : Nat) : Int)), some (am_I ((i + 1 : Nat) : Int)), some (am_I ((a : Nat) : Int)), some (am_I b)]) rfl rfl rfl rfl (am_we (by omega) (by omega) (by omega)) rfl ?_
            refine ax_goto (x := 32) rfl ?_
            have hu := hb_up h h16 a (by omega) hb
            refine ih (i + 1) _ _ _ _ _ σ4 (by omega) (by rw [hu.2, hh]) hu.1 (by rw [du_o (by decide)]; exact hg) hf4 hC4 ?_ (fun s hs => ?_) hE hM hY
            · exact (hN.fr hg_σ1 (by simp) (by simp) (by omega) (by omega)).fr (hg3) (by simp) (by simp; omega) (by omega) (by omega) |>.fr hg_σ4 (by simp) (by simp) (by omega) (by omega)
            · rw [hg_σ4.1 _ (by simp) (by omega), v3, du_s]
              by_cases e : s = a
              · rw [e, am_up_same, am_up_same]
              · rw [am_up_ne e, am_up_ne (by omega)]
                exact hv s hs
        · rw [and_2k] at h68
          have hb : h.testBit a = true := by
            cases w : h.testBit a with
            | true => rfl
            | false => rw [w, if_neg (by decide)] at h68; exact absurd rfl h68
          rw [hb] at hE
          simp only [if_true] at hE
          refine ax_load (q := 72) rfl rfl rfl rfl rfl ?_
          refine ax_const (q := 73) (v := am_I 3) rfl rfl rfl ?_
          refine ax_callv (q := 76) rfl rfl rfl rfl rfl rfl ?_
          refine x_refuse (by omega) hC.kx.1 (fun σr hg_σr g0 g1 gJ => ?_)
          refine ax_ret (r := some (am_I 0)) rfl ⟨rfl, Or.inl rfl⟩ ?_
          exact hE _ rfl _ (gx_tr2 hf (gx_su hg_σr (by intro x hx; simp at hx ⊢ <;> omega) (by intro x hx; simp at hx ⊢ <;> omega) (by intro x hx; simp at hx ⊢ <;> omega))) ⟨by rw [g0]; exact (if_neg (fun e => by have e2 : tks_ tp n p = 3 := e; rw [hs1] at e2; exact absurd e2 (by decide))).symm, g1⟩

theorem x_readsLevels {d : Nat} (hd : 6 ≤ d) {σ : am_S} {tp : Nat → Int} {n t p q nS : Nat} (hC : RC_ tp n t p σ) (hq6 : q < 6) (hS4 : nS ≤ 4) {D : sp_T} (hN : NM_ (t + 4) (t + 1) 1 (D 137) 0 nS σ) (hz : ∀ s, s < 4 → D 161 (4 * q + s) = 0) {Q : Option am_V → am_S → Prop} (hE : ∀ e, lev_ tp n nS q 5 D p 0 = Sum.inl e → ∀ σ2, gx_ [t + 22 + q] [] [0, 1, 5, 6, 7, 9] σ σ2 → FX_ tp n e σ2 → Q (some (am_I 0)) σ2) (hM : ∀ p', lev_ tp n nS q 5 D p 0 = Sum.inl (2, p') → ¬ tks_ tp n p' = 59 → ∀ σ2, gx_ [t + 22 + q] [] [0, 1, 5, 6, 7, 9] σ σ2 → RC_ tp n t p' σ2 → Q (some (am_I 1)) σ2) (hY : ∀ D' p', lev_ tp n nS q 5 D p 0 = Sum.inr (D', p') → tks_ tp n p' = 59 → ∀ σ2, gx_ [t + 22 + q] [] [0, 1, 5, 6, 7, 9] σ σ2 → RC_ tp n t p' σ2 → (∀ s, s < 4 → σ2.1 (t + 22 + q) s = D' 161 (4 * q + s)) → Q (some (am_I 1)) σ2) : am_Ev d 47 [am_R 66, am_I ((q : Nat) : Int)] σ Q := by
  obtain ⟨d, rfl⟩ : ∃ e, d = e + 1 := ⟨d - 1, by omega⟩
  have ht := hC.ht
  have hX : PT_ t := ht
  refine ev_in (m := 47) (c := k_X4_readsLevels) (L := [some (am_R 66), some (am_I ((q : Nat) : Int)), none, none, none, none, none]) rfl rfl rfl rfl rfl rfl ?_
  refine ax_load (q := 1) rfl rfl rfl rfl rfl ?_
  refine ax_getf (q := 4) (v := am_R t) rfl rfl (am_fgR rfl hC.tn) ?_
  refine ax_getf (q := 7) (v := am_R (t + 21)) rfl rfl (xg7_8 hX.ht) ?_
  refine ax_load (q := 8) rfl rfl rfl rfl rfl ?_
  refine bx_aald (q := 9) (k := q) (z := t + 22 + q) rfl rfl (Or.inl (kd_21 hX.ht)) (by omega) (by omega) (by omega) ?_
  refine ax_store (q := 10) (L' := [some (am_R 66), some (am_I ((q : Nat) : Int)), some (am_R (t + 22 + q)), none, none, none, none]) rfl rfl rfl rfl rfl rfl ?_
  refine ax_const (q := 11) (v := am_I 0) rfl rfl rfl ?_
  refine ax_store (q := 12) (L' := [some (am_R 66), some (am_I ((q : Nat) : Int)), some (am_R (t + 22 + q)), some (am_I 0), none, none, none]) rfl rfl rfl rfl rfl rfl ?_
  refine xl_lvZ (by omega) hC.ht hq6 (fun σ1 hf1 hz1 => ?_) 4 0 (by omega) σ (fr_rf _ _) (fun s hs => absurd hs (by omega))
  refine ax_const (q := 28) (v := am_I 0) rfl rfl rfl ?_
  refine ax_store (q := 29) (L' := [some (am_R 66), some (am_I ((q : Nat) : Int)), some (am_R (t + 22 + q)), some (am_I 0), none, none, none]) rfl rfl rfl rfl rfl rfl ?_
  refine ax_const (q := 30) (v := am_I 0) rfl rfl rfl ?_
  refine ax_store (q := 32) (L' := [some (am_R 66), some (am_I ((q : Nat) : Int)), some (am_R (t + 22 + q)), some (am_I 0), some (am_I 0), none, none]) rfl rfl rfl rfl rfl rfl ?_
  exact xl_lev (g := D 137) (by omega) hC.ht hq6 hS4 5 0 p 0 D none none σ1 (by omega) (by decide) (by decide) rfl (gx_su (gx_fr hf1 (by simp; omega)) (by intro x hx; simp at hx ⊢ <;> omega) (by intro x hx; simp at hx ⊢ <;> omega) (by intro x hx; simp at hx ⊢ <;> omega)) (hC.fr (gx_fr hf1 (by simp; omega)) (by simp <;> omega) (by simp) (by simp) (by rw [hf1.2])) (hN.fr (gx_fr hf1 (by simp; omega)) (by simp) (by simp; omega) (by omega) (by omega)) (fun s hs => by rw [hz1 s hs, hz s hs]) hE hM hY

