theorem gx_A {A B K : List Nat} {σ σ' : am_S} (h : gx_ A B K σ σ') {a : Nat} {f : Nat → Int} (ha : a ∈ A) (h6 : a ≠ 66) : gx_ A B K σ (am_sI σ' a f) :=
  ⟨fun b hb hb6 => by rw [sI_ne (show b ≠ a from fun q => hb (by rw [q]; exact ha))]; exact h.1 b hb hb6, fun k hk => by rw [sI_ne (fun q => h6 q.symm)]; exact h.2.1 k hk, h.2.2.1, h.2.2.2.1, h.2.2.2.2⟩
theorem gx_B {A B K : List Nat} {σ σ' : am_S} (h : gx_ A B K σ σ') {a : Nat} {f : Nat → Int} (ha : a ∈ B) (h6 : a ≠ 66) : gx_ A B K σ (am_sL σ' a f) :=
  ⟨h.1, h.2.1, fun b hb hb6 => by show am_up σ'.2.1 a f b = _; rw [am_up_ne (show b ≠ a from fun q => hb (by rw [q]; exact ha))]; exact h.2.2.1 b hb hb6, fun j hj => by show am_up σ'.2.1 a f 66 j = _; rw [am_up_ne (fun q => h6 q.symm)]; exact h.2.2.2.1 j hj, h.2.2.2.2⟩
theorem NM_.fr {a c s : Nat} {g : Nat → Int} {b m : Nat} {σ σ' : am_S} {A B K : List Nat} (h : NM_ a c s g b m σ) (hf : gx_ A B K σ σ') (ha : a ∉ B) (hc : c ∉ A) (ha6 : a ≠ 66) (hc6 : c ≠ 66) : NM_ a c s g b m σ' :=
  ⟨by rw [hf.1 c hc hc6]; exact h.1, h.2.1, fun i hi => by rw [hf.2.2.1 a ha ha6]; exact h.2.2.1 i hi, h.2.2.2⟩

theorem x_readsNamed0 {d : Nat} (hd : 5 ≤ d) {σ : am_S} {tp : Nat → Int} {n t p : Nat} (hC : RC_ tp n t p σ) (h3 : tks_ tp n p ≠ 3) {g : Nat → Int} {b m : Nat} (hN : NM_ (t + 3) (t + 1) 0 g b m σ) {Q : Option am_V → am_S → Prop} (hF : 6 ≤ m → ∀ σ', gx_ [] [] [0, 1, 5, 6, 7, 9] σ σ' → FX_ tp n (2, p) σ' → Q (some (am_I 0)) σ') (hK : m < 6 → ¬ (tks_ tp n (nxp_ tp n p) = 1 ∧ own_ (tkw_ tp n (nxp_ tp n p)) = false) → ∀ σ', gx_ [] [] [0, 1, 5, 6, 7, 9] σ σ' → FX_ tp n (2, nxp_ tp n p) σ' → Q (some (am_I 0)) σ') (hD : m < 6 → tks_ tp n (nxp_ tp n p) = 1 ∧ own_ (tkw_ tp n (nxp_ tp n p)) = false → 0 ≤ fi_ g (tkw_ tp n (nxp_ tp n p)) b m → ∀ σ', gx_ [] [] [0, 1, 5, 6, 7, 9] σ σ' → FX_ tp n (3, nxp_ tp n p) σ' → Q (some (am_I 0)) σ') (hY : m < 6 → tks_ tp n (nxp_ tp n p) = 1 ∧ own_ (tkw_ tp n (nxp_ tp n p)) = false → fi_ g (tkw_ tp n (nxp_ tp n p)) b m < 0 → ∀ σ', gx_ [t + 1] [t + 3] [5, 6, 7, 9] σ σ' → σ'.1 (t + 1) = am_up (σ.1 (t + 1)) 0 ((m + 1 : Nat) : Int) → σ'.2.1 (t + 3) = am_up (σ.2.1 (t + 3)) m (n5_ (tkw_ tp n (nxp_ tp n p))) → RC_ tp n t (nxp_ tp n (nxp_ tp n p)) σ' → Q (some (am_I 1)) σ') : am_Ev d 42 [am_R 66, am_I 0] σ Q := by
  obtain ⟨d, rfl⟩ : ∃ e, d = e + 1 := ⟨d - 1, by omega⟩
  have ht := hC.ht
  have hm8 := hN.2.1
  refine ev_in (m := 42) (c := k_X4_readsNamed) (L := [some (am_R 66), some (am_I 0), none]) rfl rfl rfl rfl rfl rfl ?_
  refine ax_load (q := 1) rfl rfl rfl rfl rfl ?_
  refine ax_getf (q := 4) (v := am_R t) rfl rfl (am_fgR rfl hC.tn) ?_
  refine ax_getf (q := 7) (v := am_R (t + 1)) rfl rfl (xg7_0 hC.ht) ?_
  refine ax_load (q := 8) rfl rfl rfl rfl rfl ?_
  refine bx_iald (q := 9) (k := 0) (z := ((m : Nat) : Int)) rfl rfl (kd_1 hC.ht) (by omega) (by omega) (hN.1) ?_
  refine ax_store (q := 10) (L' := [some (am_R 66), some (am_I 0), some (am_I ((m : Nat) : Int))]) rfl rfl rfl rfl rfl rfl ?_
  refine ax_load (q := 11) rfl rfl rfl rfl rfl ?_
  refine ax_gets (q := 14) rfl rfl ?_
  refine ax_load (q := 15) rfl rfl rfl rfl rfl ?_
  refine bx_tld (q := 16) (k := 0) (z := 6) rfl rfl (by omega) (by omega) (rfl) ?_
  refine ax_icmp_lt (q := 19) (x := 25) rfl rfl (fun h16 => ?_) (fun h16 => ?_)
  · refine ax_load (q := 26) rfl rfl rfl rfl rfl ?_
    refine ax_callv (q := 29) rfl rfl rfl rfl rfl rfl ?_
    refine x_nextT (by omega) hC h3 (fun σ1 hf1 hC1 => ?_)
    have hN1 := hN.fr hf1 (by simp) (by simp) (by omega) (by omega)
    refine ax_load (q := 30) rfl rfl rfl rfl rfl ?_
    refine ax_getf (q := 33) (v := am_I (kx_ tp n (nxp_ tp n p))) rfl rfl (am_fg rfl hC1.kx.2.1) ?_
    refine ax_const (q := 35) (v := am_I 100) rfl rfl rfl ?_
    refine ax_icmp_eq (q := 38) (x := 43) rfl rfl (fun h35 => ?_) (fun h35 => ?_)
    · refine ax_load (q := 44) rfl rfl rfl rfl rfl ?_
      refine ax_load (q := 45) rfl rfl rfl rfl rfl ?_
      refine ax_callv (q := 48) rfl rfl rfl rfl rfl rfl ?_
      have hkn := kx_n.mp (show kx_ tp n (nxp_ tp n p) = 100 by omega)
      have hnm := hC1.kx.2.2.1 hkn.1
      have hfb := fi_bd g (tkw_ tp n (nxp_ tp n p)) b m
      refine x_find0 (by omega) hC1 hN1 hnm.1 hnm.2 ?_
      refine ax_const (q := 49) (v := am_I (-1)) rfl rfl rfl ?_
      refine ax_icmp_eq (q := 52) (x := 58) rfl rfl (fun h49 => ?_) (fun h49 => ?_)
      · refine ax_load (q := 59) rfl rfl rfl rfl rfl ?_
        refine ax_getf (q := 62) (v := am_R t) rfl rfl (am_fgR rfl hC1.tn) ?_
        refine ax_getf (q := 65) (v := am_R (t + 2)) rfl rfl (xg7_1 hC.ht) ?_
        refine ax_load (q := 66) rfl rfl rfl rfl rfl ?_
        refine bx_aald (q := 67) (k := 0) (z := t + 3) rfl rfl (Or.inr (kd_2 hC.ht)) (by omega) (by omega) (by omega) ?_
        refine ax_load (q := 68) rfl rfl rfl rfl rfl ?_
        refine ax_load (q := 69) rfl rfl rfl rfl rfl ?_
        refine ax_getf (q := 72) (v := am_J (n5_ (tkw_ tp n (nxp_ tp n p)))) rfl rfl (am_fgJ rfl hnm.1) ?_
        refine bx_last (q := 73) (k := m) rfl rfl (kd_3 hC.ht) (by omega) (by omega) ?_
        refine ax_load (q := 74) rfl rfl rfl rfl rfl ?_
        refine ax_getf (q := 77) (v := am_R t) rfl rfl (am_fgR rfl hC1.tn) ?_
        refine ax_getf (q := 80) (v := am_R (t + 1)) rfl rfl (xg7_0 hC.ht) ?_
        refine ax_load (q := 81) rfl rfl rfl rfl rfl ?_
        refine ax_load (q := 82) rfl rfl rfl rfl rfl ?_
        refine ax_const (q := 83) (v := am_I 1) rfl rfl rfl ?_
        refine ax_iadd (q := 84) (z := ((m + 1 : Nat) : Int)) rfl rfl (am_we (by omega) (by omega) (by omega)) ?_
        refine bx_iast (q := 85) (k := 0) rfl rfl (kd_1 hC.ht) (by omega) (by omega) ?_
        refine ax_load (q := 86) rfl rfl rfl rfl rfl ?_
        refine ax_callv (q := 89) rfl rfl rfl rfl rfl rfl ?_
        have e1 : am_sI (am_sL σ1 (t + 3) (am_up (σ1.2.1 (t + 3)) m (n5_ (tkw_ tp n (nxp_ tp n p))))) (t + 1) (am_up (σ1.1 (t + 1)) 0 ((m + 1 : Nat) : Int)) = (am_sI (am_sL σ1 (t + 3) (am_up (σ1.2.1 (t + 3)) m (n5_ (tkw_ tp n (nxp_ tp n p))))) (t + 1) (am_up ((am_sL σ1 (t + 3) (am_up (σ1.2.1 (t + 3)) m (n5_ (tkw_ tp n (nxp_ tp n p))))).1 (t + 1)) 0 ((m + 1 : Nat) : Int))) := rfl
        have hfw2 : gx_ [t + 1] [t + 3] [] σ1 (am_sI (am_sL σ1 (t + 3) (am_up (σ1.2.1 (t + 3)) m (n5_ (tkw_ tp n (nxp_ tp n p))))) (t + 1) (am_up ((am_sL σ1 (t + 3) (am_up (σ1.2.1 (t + 3)) m (n5_ (tkw_ tp n (nxp_ tp n p))))).1 (t + 1)) 0 ((m + 1 : Nat) : Int))) := gx_A (gx_B (gx_rf _ _ _ _) (by simp) (by omega)) (by simp) (by omega)
        have hCw : RC_ tp n t (nxp_ tp n p) (am_sI (am_sL σ1 (t + 3) (am_up (σ1.2.1 (t + 3)) m (n5_ (tkw_ tp n (nxp_ tp n p))))) (t + 1) (am_up ((am_sL σ1 (t + 3) (am_up (σ1.2.1 (t + 3)) m (n5_ (tkw_ tp n (nxp_ tp n p))))).1 (t + 1)) 0 ((m + 1 : Nat) : Int))) := hC1.fr hfw2 (by simp <;> omega) (by simp <;> omega) (by simp) (by show am_up σ1.2.1 (t + 3) _ 66 8 = _; rw [am_up_ne (by omega)])
        refine x_nextT (by omega) hCw (fun e => by rw [hkn.1] at e; exact absurd e (by decide)) (fun σ2 hf2 hC2 => ?_)
        refine ax_const (q := 90) (v := am_I 1) rfl rfl rfl ?_
        refine ax_ret (r := some (am_I 1)) rfl ⟨rfl, Or.inr rfl⟩ ?_
        have hfa : gx_ [t + 1] [t + 3] [5, 6, 7, 9] σ _ := gx_tr hf1 hfw2 (by simp) (by simp) (by simp) (by simp) (by simp) (by simp)
        refine hY (by omega) hkn (by omega) _ (gx_tr hfa hf2 (by simp) (by simp) (by simp) (by simp) (by simp) (by simp)) ?_ ?_ hC2
        · rw [hf2.1 (t + 1) (by simp) (by omega), sI_at]; show am_up (σ1.1 (t + 1)) _ _ = _; rw [hf1.1 (t + 1) (by simp) (by omega)]
        · rw [hf2.2.2.1 (t + 3) (by simp) (by omega)]; show am_up σ1.2.1 (t + 3) _ (t + 3) = _; rw [am_up_same, hf1.2.2.1 (t + 3) (by simp) (by omega)]
      · refine ax_load (q := 53) rfl rfl rfl rfl rfl ?_
        refine ax_const (q := 54) (v := am_I 3) rfl rfl rfl ?_
        refine ax_callv (q := 57) rfl rfl rfl rfl rfl rfl ?_
        refine x_refuse (by omega) hC1.kx.1 (fun σ5 hf5 g0 g1 gJ => ?_)
        refine ax_ret (r := some (am_I 0)) rfl ⟨rfl, Or.inl rfl⟩ ?_
        exact hD (by omega) hkn (by omega) _ (gx_tr hf1 hf5 (fun _ q => q) (fun _ q => q) (fun _ q => q) (fun _ q => q) (by intro x hx; simp at hx ⊢ <;> omega) (by intro x hx; simp at hx ⊢ <;> omega)) ⟨by rw [g0]; exact (if_neg (fun e => by have e2 : tks_ tp n (nxp_ tp n p) = 3 := e; rw [hkn.1] at e2; exact absurd e2 (by decide))).symm, g1⟩
    · refine ax_load (q := 39) rfl rfl rfl rfl rfl ?_
      refine ax_callv (q := 42) rfl rfl rfl rfl rfl rfl ?_
      refine x_misplaced (by omega) hC1 (fun σ3 hf3 gJ g0 => ?_)
      refine ax_ret (r := some (am_I 0)) rfl ⟨rfl, Or.inl rfl⟩ ?_
      exact hK (by omega) (fun e => by have := kx_n.mpr e; omega) _ (gx_tr hf1 hf3 (fun _ q => q) (fun _ q => q) (fun _ q => q) (fun _ q => q) (by intro x hx; simp at hx ⊢ <;> omega) (by intro x hx; simp at hx ⊢ <;> omega)) g0
  · refine ax_load (q := 20) rfl rfl rfl rfl rfl ?_
    refine ax_const (q := 21) (v := am_I 2) rfl rfl rfl ?_
    refine ax_callv (q := 24) rfl rfl rfl rfl rfl rfl ?_
    refine x_refuse (by omega) hC.kx.1 (fun σ4 hf4 g0 g1 gJ => ?_)
    refine ax_ret (r := some (am_I 0)) rfl ⟨rfl, Or.inl rfl⟩ ?_
    exact hF (by omega) _ (gx_tr (gx_rf [] [] [] σ) hf4 (fun _ q => q) (fun _ q => q) (fun _ q => q) (fun _ q => q) (by intro x hx; simp at hx ⊢ <;> omega) (by intro x hx; simp at hx ⊢ <;> omega)) ⟨by rw [g0]; exact (if_neg h3).symm, g1⟩

theorem x_readsNamed1 {d : Nat} (hd : 5 ≤ d) {σ : am_S} {tp : Nat → Int} {n t p : Nat} (hC : RC_ tp n t p σ) (h3 : tks_ tp n p ≠ 3) {g : Nat → Int} {b m : Nat} (hN : NM_ (t + 4) (t + 1) 1 g b m σ) {Q : Option am_V → am_S → Prop} (hF : 4 ≤ m → ∀ σ', gx_ [] [] [0, 1, 5, 6, 7, 9] σ σ' → FX_ tp n (2, p) σ' → Q (some (am_I 0)) σ') (hK : m < 4 → ¬ (tks_ tp n (nxp_ tp n p) = 1 ∧ own_ (tkw_ tp n (nxp_ tp n p)) = false) → ∀ σ', gx_ [] [] [0, 1, 5, 6, 7, 9] σ σ' → FX_ tp n (2, nxp_ tp n p) σ' → Q (some (am_I 0)) σ') (hD : m < 4 → tks_ tp n (nxp_ tp n p) = 1 ∧ own_ (tkw_ tp n (nxp_ tp n p)) = false → 0 ≤ fi_ g (tkw_ tp n (nxp_ tp n p)) b m → ∀ σ', gx_ [] [] [0, 1, 5, 6, 7, 9] σ σ' → FX_ tp n (3, nxp_ tp n p) σ' → Q (some (am_I 0)) σ') (hY : m < 4 → tks_ tp n (nxp_ tp n p) = 1 ∧ own_ (tkw_ tp n (nxp_ tp n p)) = false → fi_ g (tkw_ tp n (nxp_ tp n p)) b m < 0 → ∀ σ', gx_ [t + 1] [t + 4] [5, 6, 7, 9] σ σ' → σ'.1 (t + 1) = am_up (σ.1 (t + 1)) 1 ((m + 1 : Nat) : Int) → σ'.2.1 (t + 4) = am_up (σ.2.1 (t + 4)) m (n5_ (tkw_ tp n (nxp_ tp n p))) → RC_ tp n t (nxp_ tp n (nxp_ tp n p)) σ' → Q (some (am_I 1)) σ') : am_Ev d 42 [am_R 66, am_I 1] σ Q := by
  obtain ⟨d, rfl⟩ : ∃ e, d = e + 1 := ⟨d - 1, by omega⟩
  have ht := hC.ht
  have hm8 := hN.2.1
  refine ev_in (m := 42) (c := k_X4_readsNamed) (L := [some (am_R 66), some (am_I 1), none]) rfl rfl rfl rfl rfl rfl ?_
  refine ax_load (q := 1) rfl rfl rfl rfl rfl ?_
  refine ax_getf (q := 4) (v := am_R t) rfl rfl (am_fgR rfl hC.tn) ?_
  refine ax_getf (q := 7) (v := am_R (t + 1)) rfl rfl (xg7_0 hC.ht) ?_
  refine ax_load (q := 8) rfl rfl rfl rfl rfl ?_
  refine bx_iald (q := 9) (k := 1) (z := ((m : Nat) : Int)) rfl rfl (kd_1 hC.ht) (by omega) (by omega) (hN.1) ?_
  refine ax_store (q := 10) (L' := [some (am_R 66), some (am_I 1), some (am_I ((m : Nat) : Int))]) rfl rfl rfl rfl rfl rfl ?_
  refine ax_load (q := 11) rfl rfl rfl rfl rfl ?_
  refine ax_gets (q := 14) rfl rfl ?_
  refine ax_load (q := 15) rfl rfl rfl rfl rfl ?_
  refine bx_tld (q := 16) (k := 1) (z := 4) rfl rfl (by omega) (by omega) (rfl) ?_
  refine ax_icmp_lt (q := 19) (x := 25) rfl rfl (fun h16 => ?_) (fun h16 => ?_)
  · refine ax_load (q := 26) rfl rfl rfl rfl rfl ?_
    refine ax_callv (q := 29) rfl rfl rfl rfl rfl rfl ?_
    refine x_nextT (by omega) hC h3 (fun σ1 hf1 hC1 => ?_)
    have hN1 := hN.fr hf1 (by simp) (by simp) (by omega) (by omega)
    refine ax_load (q := 30) rfl rfl rfl rfl rfl ?_
    refine ax_getf (q := 33) (v := am_I (kx_ tp n (nxp_ tp n p))) rfl rfl (am_fg rfl hC1.kx.2.1) ?_
    refine ax_const (q := 35) (v := am_I 100) rfl rfl rfl ?_
    refine ax_icmp_eq (q := 38) (x := 43) rfl rfl (fun h35 => ?_) (fun h35 => ?_)
    · refine ax_load (q := 44) rfl rfl rfl rfl rfl ?_
      refine ax_load (q := 45) rfl rfl rfl rfl rfl ?_
      refine ax_callv (q := 48) rfl rfl rfl rfl rfl rfl ?_
      have hkn := kx_n.mp (show kx_ tp n (nxp_ tp n p) = 100 by omega)
      have hnm := hC1.kx.2.2.1 hkn.1
      have hfb := fi_bd g (tkw_ tp n (nxp_ tp n p)) b m
      refine x_find1 (by omega) hC1 hN1 hnm.1 hnm.2 ?_
      refine ax_const (q := 49) (v := am_I (-1)) rfl rfl rfl ?_
      refine ax_icmp_eq (q := 52) (x := 58) rfl rfl (fun h49 => ?_) (fun h49 => ?_)
      · refine ax_load (q := 59) rfl rfl rfl rfl rfl ?_
        refine ax_getf (q := 62) (v := am_R t) rfl rfl (am_fgR rfl hC1.tn) ?_
        refine ax_getf (q := 65) (v := am_R (t + 2)) rfl rfl (xg7_1 hC.ht) ?_
        refine ax_load (q := 66) rfl rfl rfl rfl rfl ?_
        refine bx_aald (q := 67) (k := 1) (z := t + 4) rfl rfl (Or.inr (kd_2 hC.ht)) (by omega) (by omega) (by omega) ?_
        refine ax_load (q := 68) rfl rfl rfl rfl rfl ?_
        refine ax_load (q := 69) rfl rfl rfl rfl rfl ?_
        refine ax_getf (q := 72) (v := am_J (n5_ (tkw_ tp n (nxp_ tp n p)))) rfl rfl (am_fgJ rfl hnm.1) ?_
        refine bx_last (q := 73) (k := m) rfl rfl (kd_4 hC.ht) (by omega) (by omega) ?_
        refine ax_load (q := 74) rfl rfl rfl rfl rfl ?_
        refine ax_getf (q := 77) (v := am_R t) rfl rfl (am_fgR rfl hC1.tn) ?_
        refine ax_getf (q := 80) (v := am_R (t + 1)) rfl rfl (xg7_0 hC.ht) ?_
        refine ax_load (q := 81) rfl rfl rfl rfl rfl ?_
        refine ax_load (q := 82) rfl rfl rfl rfl rfl ?_
        refine ax_const (q := 83) (v := am_I 1) rfl rfl rfl ?_
        refine ax_iadd (q := 84) (z := ((m + 1 : Nat) : Int)) rfl rfl (am_we (by omega) (by omega) (by omega)) ?_
        refine bx_iast (q := 85) (k := 1) rfl rfl (kd_1 hC.ht) (by omega) (by omega) ?_
        refine ax_load (q := 86) rfl rfl rfl rfl rfl ?_
        refine ax_callv (q := 89) rfl rfl rfl rfl rfl rfl ?_
        have e1 : am_sI (am_sL σ1 (t + 4) (am_up (σ1.2.1 (t + 4)) m (n5_ (tkw_ tp n (nxp_ tp n p))))) (t + 1) (am_up (σ1.1 (t + 1)) 1 ((m + 1 : Nat) : Int)) = (am_sI (am_sL σ1 (t + 4) (am_up (σ1.2.1 (t + 4)) m (n5_ (tkw_ tp n (nxp_ tp n p))))) (t + 1) (am_up ((am_sL σ1 (t + 4) (am_up (σ1.2.1 (t + 4)) m (n5_ (tkw_ tp n (nxp_ tp n p))))).1 (t + 1)) 1 ((m + 1 : Nat) : Int))) := rfl
        have hfw2 : gx_ [t + 1] [t + 4] [] σ1 (am_sI (am_sL σ1 (t + 4) (am_up (σ1.2.1 (t + 4)) m (n5_ (tkw_ tp n (nxp_ tp n p))))) (t + 1) (am_up ((am_sL σ1 (t + 4) (am_up (σ1.2.1 (t + 4)) m (n5_ (tkw_ tp n (nxp_ tp n p))))).1 (t + 1)) 1 ((m + 1 : Nat) : Int))) := gx_A (gx_B (gx_rf _ _ _ _) (by simp) (by omega)) (by simp) (by omega)
        have hCw : RC_ tp n t (nxp_ tp n p) (am_sI (am_sL σ1 (t + 4) (am_up (σ1.2.1 (t + 4)) m (n5_ (tkw_ tp n (nxp_ tp n p))))) (t + 1) (am_up ((am_sL σ1 (t + 4) (am_up (σ1.2.1 (t + 4)) m (n5_ (tkw_ tp n (nxp_ tp n p))))).1 (t + 1)) 1 ((m + 1 : Nat) : Int))) := hC1.fr hfw2 (by simp <;> omega) (by simp <;> omega) (by simp) (by show am_up σ1.2.1 (t + 4) _ 66 8 = _; rw [am_up_ne (by omega)])
        refine x_nextT (by omega) hCw (fun e => by rw [hkn.1] at e; exact absurd e (by decide)) (fun σ2 hf2 hC2 => ?_)
        refine ax_const (q := 90) (v := am_I 1) rfl rfl rfl ?_
        refine ax_ret (r := some (am_I 1)) rfl ⟨rfl, Or.inr rfl⟩ ?_
        have hfa : gx_ [t + 1] [t + 4] [5, 6, 7, 9] σ _ := gx_tr hf1 hfw2 (by simp) (by simp) (by simp) (by simp) (by simp) (by simp)
        refine hY (by omega) hkn (by omega) _ (gx_tr hfa hf2 (by simp) (by simp) (by simp) (by simp) (by simp) (by simp)) ?_ ?_ hC2
        · rw [hf2.1 (t + 1) (by simp) (by omega), sI_at]; show am_up (σ1.1 (t + 1)) _ _ = _; rw [hf1.1 (t + 1) (by simp) (by omega)]
        · rw [hf2.2.2.1 (t + 4) (by simp) (by omega)]; show am_up σ1.2.1 (t + 4) _ (t + 4) = _; rw [am_up_same, hf1.2.2.1 (t + 4) (by simp) (by omega)]
      · refine ax_load (q := 53) rfl rfl rfl rfl rfl ?_
        refine ax_const (q := 54) (v := am_I 3) rfl rfl rfl ?_
        refine ax_callv (q := 57) rfl rfl rfl rfl rfl rfl ?_
        refine x_refuse (by omega) hC1.kx.1 (fun σ5 hf5 g0 g1 gJ => ?_)
        refine ax_ret (r := some (am_I 0)) rfl ⟨rfl, Or.inl rfl⟩ ?_
        exact hD (by omega) hkn (by omega) _ (gx_tr hf1 hf5 (fun _ q => q) (fun _ q => q) (fun _ q => q) (fun _ q => q) (by intro x hx; simp at hx ⊢ <;> omega) (by intro x hx; simp at hx ⊢ <;> omega)) ⟨by rw [g0]; exact (if_neg (fun e => by have e2 : tks_ tp n (nxp_ tp n p) = 3 := e; rw [hkn.1] at e2; exact absurd e2 (by decide))).symm, g1⟩
    · refine ax_load (q := 39) rfl rfl rfl rfl rfl ?_
      refine ax_callv (q := 42) rfl rfl rfl rfl rfl rfl ?_
      refine x_misplaced (by omega) hC1 (fun σ3 hf3 gJ g0 => ?_)
      refine ax_ret (r := some (am_I 0)) rfl ⟨rfl, Or.inl rfl⟩ ?_
      exact hK (by omega) (fun e => by have := kx_n.mpr e; omega) _ (gx_tr hf1 hf3 (fun _ q => q) (fun _ q => q) (fun _ q => q) (fun _ q => q) (by intro x hx; simp at hx ⊢ <;> omega) (by intro x hx; simp at hx ⊢ <;> omega)) g0
  · refine ax_load (q := 20) rfl rfl rfl rfl rfl ?_
    refine ax_const (q := 21) (v := am_I 2) rfl rfl rfl ?_
    refine ax_callv (q := 24) rfl rfl rfl rfl rfl rfl ?_
    refine x_refuse (by omega) hC.kx.1 (fun σ4 hf4 g0 g1 gJ => ?_)
    refine ax_ret (r := some (am_I 0)) rfl ⟨rfl, Or.inl rfl⟩ ?_
    exact hF (by omega) _ (gx_tr (gx_rf [] [] [] σ) hf4 (fun _ q => q) (fun _ q => q) (fun _ q => q) (fun _ q => q) (by intro x hx; simp at hx ⊢ <;> omega) (by intro x hx; simp at hx ⊢ <;> omega)) ⟨by rw [g0]; exact (if_neg h3).symm, g1⟩

theorem x_readsNamed2 {d : Nat} (hd : 5 ≤ d) {σ : am_S} {tp : Nat → Int} {n t p : Nat} (hC : RC_ tp n t p σ) (h3 : tks_ tp n p ≠ 3) {g : Nat → Int} {b m : Nat} (hN : NM_ (t + 5) (t + 1) 2 g b m σ) {Q : Option am_V → am_S → Prop} (hF : 8 ≤ m → ∀ σ', gx_ [] [] [0, 1, 5, 6, 7, 9] σ σ' → FX_ tp n (2, p) σ' → Q (some (am_I 0)) σ') (hK : m < 8 → ¬ (tks_ tp n (nxp_ tp n p) = 1 ∧ own_ (tkw_ tp n (nxp_ tp n p)) = false) → ∀ σ', gx_ [] [] [0, 1, 5, 6, 7, 9] σ σ' → FX_ tp n (2, nxp_ tp n p) σ' → Q (some (am_I 0)) σ') (hD : m < 8 → tks_ tp n (nxp_ tp n p) = 1 ∧ own_ (tkw_ tp n (nxp_ tp n p)) = false → 0 ≤ fi_ g (tkw_ tp n (nxp_ tp n p)) b m → ∀ σ', gx_ [] [] [0, 1, 5, 6, 7, 9] σ σ' → FX_ tp n (3, nxp_ tp n p) σ' → Q (some (am_I 0)) σ') (hY : m < 8 → tks_ tp n (nxp_ tp n p) = 1 ∧ own_ (tkw_ tp n (nxp_ tp n p)) = false → fi_ g (tkw_ tp n (nxp_ tp n p)) b m < 0 → ∀ σ', gx_ [t + 1] [t + 5] [5, 6, 7, 9] σ σ' → σ'.1 (t + 1) = am_up (σ.1 (t + 1)) 2 ((m + 1 : Nat) : Int) → σ'.2.1 (t + 5) = am_up (σ.2.1 (t + 5)) m (n5_ (tkw_ tp n (nxp_ tp n p))) → RC_ tp n t (nxp_ tp n (nxp_ tp n p)) σ' → Q (some (am_I 1)) σ') : am_Ev d 42 [am_R 66, am_I 2] σ Q := by
  obtain ⟨d, rfl⟩ : ∃ e, d = e + 1 := ⟨d - 1, by omega⟩
  have ht := hC.ht
  have hm8 := hN.2.1
  refine ev_in (m := 42) (c := k_X4_readsNamed) (L := [some (am_R 66), some (am_I 2), none]) rfl rfl rfl rfl rfl rfl ?_
  refine ax_load (q := 1) rfl rfl rfl rfl rfl ?_
  refine ax_getf (q := 4) (v := am_R t) rfl rfl (am_fgR rfl hC.tn) ?_
  refine ax_getf (q := 7) (v := am_R (t + 1)) rfl rfl (xg7_0 hC.ht) ?_
  refine ax_load (q := 8) rfl rfl rfl rfl rfl ?_
  refine bx_iald (q := 9) (k := 2) (z := ((m : Nat) : Int)) rfl rfl (kd_1 hC.ht) (by omega) (by omega) (hN.1) ?_
  refine ax_store (q := 10) (L' := [some (am_R 66), some (am_I 2), some (am_I ((m : Nat) : Int))]) rfl rfl rfl rfl rfl rfl ?_
  refine ax_load (q := 11) rfl rfl rfl rfl rfl ?_
  refine ax_gets (q := 14) rfl rfl ?_
  refine ax_load (q := 15) rfl rfl rfl rfl rfl ?_
  refine bx_tld (q := 16) (k := 2) (z := 8) rfl rfl (by omega) (by omega) (rfl) ?_
  refine ax_icmp_lt (q := 19) (x := 25) rfl rfl (fun h16 => ?_) (fun h16 => ?_)
  · refine ax_load (q := 26) rfl rfl rfl rfl rfl ?_
    refine ax_callv (q := 29) rfl rfl rfl rfl rfl rfl ?_
    refine x_nextT (by omega) hC h3 (fun σ1 hf1 hC1 => ?_)
    have hN1 := hN.fr hf1 (by simp) (by simp) (by omega) (by omega)
    refine ax_load (q := 30) rfl rfl rfl rfl rfl ?_
    refine ax_getf (q := 33) (v := am_I (kx_ tp n (nxp_ tp n p))) rfl rfl (am_fg rfl hC1.kx.2.1) ?_
    refine ax_const (q := 35) (v := am_I 100) rfl rfl rfl ?_
    refine ax_icmp_eq (q := 38) (x := 43) rfl rfl (fun h35 => ?_) (fun h35 => ?_)
    · refine ax_load (q := 44) rfl rfl rfl rfl rfl ?_
      refine ax_load (q := 45) rfl rfl rfl rfl rfl ?_
      refine ax_callv (q := 48) rfl rfl rfl rfl rfl rfl ?_
      have hkn := kx_n.mp (show kx_ tp n (nxp_ tp n p) = 100 by omega)
      have hnm := hC1.kx.2.2.1 hkn.1
      have hfb := fi_bd g (tkw_ tp n (nxp_ tp n p)) b m
      refine x_find2 (by omega) hC1 hN1 hnm.1 hnm.2 ?_
      refine ax_const (q := 49) (v := am_I (-1)) rfl rfl rfl ?_
      refine ax_icmp_eq (q := 52) (x := 58) rfl rfl (fun h49 => ?_) (fun h49 => ?_)
      · refine ax_load (q := 59) rfl rfl rfl rfl rfl ?_
        refine ax_getf (q := 62) (v := am_R t) rfl rfl (am_fgR rfl hC1.tn) ?_
        refine ax_getf (q := 65) (v := am_R (t + 2)) rfl rfl (xg7_1 hC.ht) ?_
        refine ax_load (q := 66) rfl rfl rfl rfl rfl ?_
        refine bx_aald (q := 67) (k := 2) (z := t + 5) rfl rfl (Or.inr (kd_2 hC.ht)) (by omega) (by omega) (by omega) ?_
        refine ax_load (q := 68) rfl rfl rfl rfl rfl ?_
        refine ax_load (q := 69) rfl rfl rfl rfl rfl ?_
        refine ax_getf (q := 72) (v := am_J (n5_ (tkw_ tp n (nxp_ tp n p)))) rfl rfl (am_fgJ rfl hnm.1) ?_
        refine bx_last (q := 73) (k := m) rfl rfl (kd_5 hC.ht) (by omega) (by omega) ?_
        refine ax_load (q := 74) rfl rfl rfl rfl rfl ?_
        refine ax_getf (q := 77) (v := am_R t) rfl rfl (am_fgR rfl hC1.tn) ?_
        refine ax_getf (q := 80) (v := am_R (t + 1)) rfl rfl (xg7_0 hC.ht) ?_
        refine ax_load (q := 81) rfl rfl rfl rfl rfl ?_
        refine ax_load (q := 82) rfl rfl rfl rfl rfl ?_
        refine ax_const (q := 83) (v := am_I 1) rfl rfl rfl ?_
        refine ax_iadd (q := 84) (z := ((m + 1 : Nat) : Int)) rfl rfl (am_we (by omega) (by omega) (by omega)) ?_
        refine bx_iast (q := 85) (k := 2) rfl rfl (kd_1 hC.ht) (by omega) (by omega) ?_
        refine ax_load (q := 86) rfl rfl rfl rfl rfl ?_
        refine ax_callv (q := 89) rfl rfl rfl rfl rfl rfl ?_
        have e1 : am_sI (am_sL σ1 (t + 5) (am_up (σ1.2.1 (t + 5)) m (n5_ (tkw_ tp n (nxp_ tp n p))))) (t + 1) (am_up (σ1.1 (t + 1)) 2 ((m + 1 : Nat) : Int)) = (am_sI (am_sL σ1 (t + 5) (am_up (σ1.2.1 (t + 5)) m (n5_ (tkw_ tp n (nxp_ tp n p))))) (t + 1) (am_up ((am_sL σ1 (t + 5) (am_up (σ1.2.1 (t + 5)) m (n5_ (tkw_ tp n (nxp_ tp n p))))).1 (t + 1)) 2 ((m + 1 : Nat) : Int))) := rfl
        have hfw2 : gx_ [t + 1] [t + 5] [] σ1 (am_sI (am_sL σ1 (t + 5) (am_up (σ1.2.1 (t + 5)) m (n5_ (tkw_ tp n (nxp_ tp n p))))) (t + 1) (am_up ((am_sL σ1 (t + 5) (am_up (σ1.2.1 (t + 5)) m (n5_ (tkw_ tp n (nxp_ tp n p))))).1 (t + 1)) 2 ((m + 1 : Nat) : Int))) := gx_A (gx_B (gx_rf _ _ _ _) (by simp) (by omega)) (by simp) (by omega)
        have hCw : RC_ tp n t (nxp_ tp n p) (am_sI (am_sL σ1 (t + 5) (am_up (σ1.2.1 (t + 5)) m (n5_ (tkw_ tp n (nxp_ tp n p))))) (t + 1) (am_up ((am_sL σ1 (t + 5) (am_up (σ1.2.1 (t + 5)) m (n5_ (tkw_ tp n (nxp_ tp n p))))).1 (t + 1)) 2 ((m + 1 : Nat) : Int))) := hC1.fr hfw2 (by simp <;> omega) (by simp <;> omega) (by simp) (by show am_up σ1.2.1 (t + 5) _ 66 8 = _; rw [am_up_ne (by omega)])
        refine x_nextT (by omega) hCw (fun e => by rw [hkn.1] at e; exact absurd e (by decide)) (fun σ2 hf2 hC2 => ?_)
        refine ax_const (q := 90) (v := am_I 1) rfl rfl rfl ?_
        refine ax_ret (r := some (am_I 1)) rfl ⟨rfl, Or.inr rfl⟩ ?_
        have hfa : gx_ [t + 1] [t + 5] [5, 6, 7, 9] σ _ := gx_tr hf1 hfw2 (by simp) (by simp) (by simp) (by simp) (by simp) (by simp)
        refine hY (by omega) hkn (by omega) _ (gx_tr hfa hf2 (by simp) (by simp) (by simp) (by simp) (by simp) (by simp)) ?_ ?_ hC2
        · rw [hf2.1 (t + 1) (by simp) (by omega), sI_at]; show am_up (σ1.1 (t + 1)) _ _ = _; rw [hf1.1 (t + 1) (by simp) (by omega)]
        · rw [hf2.2.2.1 (t + 5) (by simp) (by omega)]; show am_up σ1.2.1 (t + 5) _ (t + 5) = _; rw [am_up_same, hf1.2.2.1 (t + 5) (by simp) (by omega)]
      · refine ax_load (q := 53) rfl rfl rfl rfl rfl ?_
        refine ax_const (q := 54) (v := am_I 3) rfl rfl rfl ?_
        refine ax_callv (q := 57) rfl rfl rfl rfl rfl rfl ?_
        refine x_refuse (by omega) hC1.kx.1 (fun σ5 hf5 g0 g1 gJ => ?_)
        refine ax_ret (r := some (am_I 0)) rfl ⟨rfl, Or.inl rfl⟩ ?_
        exact hD (by omega) hkn (by omega) _ (gx_tr hf1 hf5 (fun _ q => q) (fun _ q => q) (fun _ q => q) (fun _ q => q) (by intro x hx; simp at hx ⊢ <;> omega) (by intro x hx; simp at hx ⊢ <;> omega)) ⟨by rw [g0]; exact (if_neg (fun e => by have e2 : tks_ tp n (nxp_ tp n p) = 3 := e; rw [hkn.1] at e2; exact absurd e2 (by decide))).symm, g1⟩
    · refine ax_load (q := 39) rfl rfl rfl rfl rfl ?_
      refine ax_callv (q := 42) rfl rfl rfl rfl rfl rfl ?_
      refine x_misplaced (by omega) hC1 (fun σ3 hf3 gJ g0 => ?_)
      refine ax_ret (r := some (am_I 0)) rfl ⟨rfl, Or.inl rfl⟩ ?_
      exact hK (by omega) (fun e => by have := kx_n.mpr e; omega) _ (gx_tr hf1 hf3 (fun _ q => q) (fun _ q => q) (fun _ q => q) (fun _ q => q) (by intro x hx; simp at hx ⊢ <;> omega) (by intro x hx; simp at hx ⊢ <;> omega)) g0
  · refine ax_load (q := 20) rfl rfl rfl rfl rfl ?_
    refine ax_const (q := 21) (v := am_I 2) rfl rfl rfl ?_
    refine ax_callv (q := 24) rfl rfl rfl rfl rfl rfl ?_
    refine x_refuse (by omega) hC.kx.1 (fun σ4 hf4 g0 g1 gJ => ?_)
    refine ax_ret (r := some (am_I 0)) rfl ⟨rfl, Or.inl rfl⟩ ?_
    exact hF (by omega) _ (gx_tr (gx_rf [] [] [] σ) hf4 (fun _ q => q) (fun _ q => q) (fun _ q => q) (fun _ q => q) (by intro x hx; simp at hx ⊢ <;> omega) (by intro x hx; simp at hx ⊢ <;> omega)) ⟨by rw [g0]; exact (if_neg h3).symm, g1⟩

theorem x_readsNamed3 {d : Nat} (hd : 5 ≤ d) {σ : am_S} {tp : Nat → Int} {n t p : Nat} (hC : RC_ tp n t p σ) (h3 : tks_ tp n p ≠ 3) {g : Nat → Int} {b m : Nat} (hN : NM_ (t + 6) (t + 1) 3 g b m σ) {Q : Option am_V → am_S → Prop} (hF : 3 ≤ m → ∀ σ', gx_ [] [] [0, 1, 5, 6, 7, 9] σ σ' → FX_ tp n (2, p) σ' → Q (some (am_I 0)) σ') (hK : m < 3 → ¬ (tks_ tp n (nxp_ tp n p) = 1 ∧ own_ (tkw_ tp n (nxp_ tp n p)) = false) → ∀ σ', gx_ [] [] [0, 1, 5, 6, 7, 9] σ σ' → FX_ tp n (2, nxp_ tp n p) σ' → Q (some (am_I 0)) σ') (hD : m < 3 → tks_ tp n (nxp_ tp n p) = 1 ∧ own_ (tkw_ tp n (nxp_ tp n p)) = false → 0 ≤ fi_ g (tkw_ tp n (nxp_ tp n p)) b m → ∀ σ', gx_ [] [] [0, 1, 5, 6, 7, 9] σ σ' → FX_ tp n (3, nxp_ tp n p) σ' → Q (some (am_I 0)) σ') (hY : m < 3 → tks_ tp n (nxp_ tp n p) = 1 ∧ own_ (tkw_ tp n (nxp_ tp n p)) = false → fi_ g (tkw_ tp n (nxp_ tp n p)) b m < 0 → ∀ σ', gx_ [t + 1] [t + 6] [5, 6, 7, 9] σ σ' → σ'.1 (t + 1) = am_up (σ.1 (t + 1)) 3 ((m + 1 : Nat) : Int) → σ'.2.1 (t + 6) = am_up (σ.2.1 (t + 6)) m (n5_ (tkw_ tp n (nxp_ tp n p))) → RC_ tp n t (nxp_ tp n (nxp_ tp n p)) σ' → Q (some (am_I 1)) σ') : am_Ev d 42 [am_R 66, am_I 3] σ Q := by
  obtain ⟨d, rfl⟩ : ∃ e, d = e + 1 := ⟨d - 1, by omega⟩
  have ht := hC.ht
  have hm8 := hN.2.1
  refine ev_in (m := 42) (c := k_X4_readsNamed) (L := [some (am_R 66), some (am_I 3), none]) rfl rfl rfl rfl rfl rfl ?_
  refine ax_load (q := 1) rfl rfl rfl rfl rfl ?_
  refine ax_getf (q := 4) (v := am_R t) rfl rfl (am_fgR rfl hC.tn) ?_
  refine ax_getf (q := 7) (v := am_R (t + 1)) rfl rfl (xg7_0 hC.ht) ?_
  refine ax_load (q := 8) rfl rfl rfl rfl rfl ?_
  refine bx_iald (q := 9) (k := 3) (z := ((m : Nat) : Int)) rfl rfl (kd_1 hC.ht) (by omega) (by omega) (hN.1) ?_
  refine ax_store (q := 10) (L' := [some (am_R 66), some (am_I 3), some (am_I ((m : Nat) : Int))]) rfl rfl rfl rfl rfl rfl ?_
  refine ax_load (q := 11) rfl rfl rfl rfl rfl ?_
  refine ax_gets (q := 14) rfl rfl ?_
  refine ax_load (q := 15) rfl rfl rfl rfl rfl ?_
  refine bx_tld (q := 16) (k := 3) (z := 3) rfl rfl (by omega) (by omega) (rfl) ?_
  refine ax_icmp_lt (q := 19) (x := 25) rfl rfl (fun h16 => ?_) (fun h16 => ?_)
  · refine ax_load (q := 26) rfl rfl rfl rfl rfl ?_
    refine ax_callv (q := 29) rfl rfl rfl rfl rfl rfl ?_
    refine x_nextT (by omega) hC h3 (fun σ1 hf1 hC1 => ?_)
    have hN1 := hN.fr hf1 (by simp) (by simp) (by omega) (by omega)
    refine ax_load (q := 30) rfl rfl rfl rfl rfl ?_
    refine ax_getf (q := 33) (v := am_I (kx_ tp n (nxp_ tp n p))) rfl rfl (am_fg rfl hC1.kx.2.1) ?_
    refine ax_const (q := 35) (v := am_I 100) rfl rfl rfl ?_
    refine ax_icmp_eq (q := 38) (x := 43) rfl rfl (fun h35 => ?_) (fun h35 => ?_)
    · refine ax_load (q := 44) rfl rfl rfl rfl rfl ?_
      refine ax_load (q := 45) rfl rfl rfl rfl rfl ?_
      refine ax_callv (q := 48) rfl rfl rfl rfl rfl rfl ?_
      have hkn := kx_n.mp (show kx_ tp n (nxp_ tp n p) = 100 by omega)
      have hnm := hC1.kx.2.2.1 hkn.1
      have hfb := fi_bd g (tkw_ tp n (nxp_ tp n p)) b m
      refine x_find3 (by omega) hC1 hN1 hnm.1 hnm.2 ?_
      refine ax_const (q := 49) (v := am_I (-1)) rfl rfl rfl ?_
      refine ax_icmp_eq (q := 52) (x := 58) rfl rfl (fun h49 => ?_) (fun h49 => ?_)
      · refine ax_load (q := 59) rfl rfl rfl rfl rfl ?_
        refine ax_getf (q := 62) (v := am_R t) rfl rfl (am_fgR rfl hC1.tn) ?_
        refine ax_getf (q := 65) (v := am_R (t + 2)) rfl rfl (xg7_1 hC.ht) ?_
        refine ax_load (q := 66) rfl rfl rfl rfl rfl ?_
        refine bx_aald (q := 67) (k := 3) (z := t + 6) rfl rfl (Or.inr (kd_2 hC.ht)) (by omega) (by omega) (by omega) ?_
        refine ax_load (q := 68) rfl rfl rfl rfl rfl ?_
        refine ax_load (q := 69) rfl rfl rfl rfl rfl ?_
        refine ax_getf (q := 72) (v := am_J (n5_ (tkw_ tp n (nxp_ tp n p)))) rfl rfl (am_fgJ rfl hnm.1) ?_
        refine bx_last (q := 73) (k := m) rfl rfl (kd_6 hC.ht) (by omega) (by omega) ?_
        refine ax_load (q := 74) rfl rfl rfl rfl rfl ?_
        refine ax_getf (q := 77) (v := am_R t) rfl rfl (am_fgR rfl hC1.tn) ?_
        refine ax_getf (q := 80) (v := am_R (t + 1)) rfl rfl (xg7_0 hC.ht) ?_
        refine ax_load (q := 81) rfl rfl rfl rfl rfl ?_
        refine ax_load (q := 82) rfl rfl rfl rfl rfl ?_
        refine ax_const (q := 83) (v := am_I 1) rfl rfl rfl ?_
        refine ax_iadd (q := 84) (z := ((m + 1 : Nat) : Int)) rfl rfl (am_we (by omega) (by omega) (by omega)) ?_
        refine bx_iast (q := 85) (k := 3) rfl rfl (kd_1 hC.ht) (by omega) (by omega) ?_
        refine ax_load (q := 86) rfl rfl rfl rfl rfl ?_
        refine ax_callv (q := 89) rfl rfl rfl rfl rfl rfl ?_
        have e1 : am_sI (am_sL σ1 (t + 6) (am_up (σ1.2.1 (t + 6)) m (n5_ (tkw_ tp n (nxp_ tp n p))))) (t + 1) (am_up (σ1.1 (t + 1)) 3 ((m + 1 : Nat) : Int)) = (am_sI (am_sL σ1 (t + 6) (am_up (σ1.2.1 (t + 6)) m (n5_ (tkw_ tp n (nxp_ tp n p))))) (t + 1) (am_up ((am_sL σ1 (t + 6) (am_up (σ1.2.1 (t + 6)) m (n5_ (tkw_ tp n (nxp_ tp n p))))).1 (t + 1)) 3 ((m + 1 : Nat) : Int))) := rfl
        have hfw2 : gx_ [t + 1] [t + 6] [] σ1 (am_sI (am_sL σ1 (t + 6) (am_up (σ1.2.1 (t + 6)) m (n5_ (tkw_ tp n (nxp_ tp n p))))) (t + 1) (am_up ((am_sL σ1 (t + 6) (am_up (σ1.2.1 (t + 6)) m (n5_ (tkw_ tp n (nxp_ tp n p))))).1 (t + 1)) 3 ((m + 1 : Nat) : Int))) := gx_A (gx_B (gx_rf _ _ _ _) (by simp) (by omega)) (by simp) (by omega)
        have hCw : RC_ tp n t (nxp_ tp n p) (am_sI (am_sL σ1 (t + 6) (am_up (σ1.2.1 (t + 6)) m (n5_ (tkw_ tp n (nxp_ tp n p))))) (t + 1) (am_up ((am_sL σ1 (t + 6) (am_up (σ1.2.1 (t + 6)) m (n5_ (tkw_ tp n (nxp_ tp n p))))).1 (t + 1)) 3 ((m + 1 : Nat) : Int))) := hC1.fr hfw2 (by simp <;> omega) (by simp <;> omega) (by simp) (by show am_up σ1.2.1 (t + 6) _ 66 8 = _; rw [am_up_ne (by omega)])
        refine x_nextT (by omega) hCw (fun e => by rw [hkn.1] at e; exact absurd e (by decide)) (fun σ2 hf2 hC2 => ?_)
        refine ax_const (q := 90) (v := am_I 1) rfl rfl rfl ?_
        refine ax_ret (r := some (am_I 1)) rfl ⟨rfl, Or.inr rfl⟩ ?_
        have hfa : gx_ [t + 1] [t + 6] [5, 6, 7, 9] σ _ := gx_tr hf1 hfw2 (by simp) (by simp) (by simp) (by simp) (by simp) (by simp)
        refine hY (by omega) hkn (by omega) _ (gx_tr hfa hf2 (by simp) (by simp) (by simp) (by simp) (by simp) (by simp)) ?_ ?_ hC2
        · rw [hf2.1 (t + 1) (by simp) (by omega), sI_at]; show am_up (σ1.1 (t + 1)) _ _ = _; rw [hf1.1 (t + 1) (by simp) (by omega)]
        · rw [hf2.2.2.1 (t + 6) (by simp) (by omega)]; show am_up σ1.2.1 (t + 6) _ (t + 6) = _; rw [am_up_same, hf1.2.2.1 (t + 6) (by simp) (by omega)]
      · refine ax_load (q := 53) rfl rfl rfl rfl rfl ?_
        refine ax_const (q := 54) (v := am_I 3) rfl rfl rfl ?_
        refine ax_callv (q := 57) rfl rfl rfl rfl rfl rfl ?_
        refine x_refuse (by omega) hC1.kx.1 (fun σ5 hf5 g0 g1 gJ => ?_)
        refine ax_ret (r := some (am_I 0)) rfl ⟨rfl, Or.inl rfl⟩ ?_
        exact hD (by omega) hkn (by omega) _ (gx_tr hf1 hf5 (fun _ q => q) (fun _ q => q) (fun _ q => q) (fun _ q => q) (by intro x hx; simp at hx ⊢ <;> omega) (by intro x hx; simp at hx ⊢ <;> omega)) ⟨by rw [g0]; exact (if_neg (fun e => by have e2 : tks_ tp n (nxp_ tp n p) = 3 := e; rw [hkn.1] at e2; exact absurd e2 (by decide))).symm, g1⟩
    · refine ax_load (q := 39) rfl rfl rfl rfl rfl ?_
      refine ax_callv (q := 42) rfl rfl rfl rfl rfl rfl ?_
      refine x_misplaced (by omega) hC1 (fun σ3 hf3 gJ g0 => ?_)
      refine ax_ret (r := some (am_I 0)) rfl ⟨rfl, Or.inl rfl⟩ ?_
      exact hK (by omega) (fun e => by have := kx_n.mpr e; omega) _ (gx_tr hf1 hf3 (fun _ q => q) (fun _ q => q) (fun _ q => q) (fun _ q => q) (by intro x hx; simp at hx ⊢ <;> omega) (by intro x hx; simp at hx ⊢ <;> omega)) g0
  · refine ax_load (q := 20) rfl rfl rfl rfl rfl ?_
    refine ax_const (q := 21) (v := am_I 2) rfl rfl rfl ?_
    refine ax_callv (q := 24) rfl rfl rfl rfl rfl rfl ?_
    refine x_refuse (by omega) hC.kx.1 (fun σ4 hf4 g0 g1 gJ => ?_)
    refine ax_ret (r := some (am_I 0)) rfl ⟨rfl, Or.inl rfl⟩ ?_
    exact hF (by omega) _ (gx_tr (gx_rf [] [] [] σ) hf4 (fun _ q => q) (fun _ q => q) (fun _ q => q) (fun _ q => q) (by intro x hx; simp at hx ⊢ <;> omega) (by intro x hx; simp at hx ⊢ <;> omega)) ⟨by rw [g0]; exact (if_neg h3).symm, g1⟩

