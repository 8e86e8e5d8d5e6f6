theorem cx_unit {tp : Nat → Int} {n t w m D0 : Nat} (hD : 5 ≤ D0) (hwm : w + m = 7) {ei : Option (Nat → Nat → sp_E)} (he : (m = 0 ∧ ei = none) ∨ ∃ f, ei = some f ∧ 1 ≤ m ∧ CX_ tp n t 52 (w + 1) D0 f) : CX_ tp n t 58 w (D0 + 1) (rdu_ tp n ei) := by
  intro d σ p u st Q hd hC hF hl hu hE hY
  obtain ⟨d, rfl⟩ : ∃ e, d = e + 1 := ⟨d - 1, by omega⟩
  have ht := hC.ht
  have hX7 : PT_ t := ht
  have k40 : kx_ tp n p = 40 ↔ tks_ tp n p = 40 := kx_s (by omega)
  have k101 := kx_2 (tp := tp) (n := n) (p := p)
  have hac := as2_c tp n p
  refine ev_in (m := 58) (c := k_X4_unit) (L := [some (am_R 66), some (am_I ((w : Nat) : Int)), none]) rfl rfl rfl rfl rfl rfl ?_
  refine ax_load (q := 1) rfl rfl rfl rfl rfl ?_
  refine ax_getf (q := 4) (v := am_I (kx_ tp n p)) rfl rfl (am_fg rfl hC.kx.2.1) ?_
  refine ax_const (q := 6) (v := am_I 40) rfl rfl rfl ?_
  refine ax_icmp_ne (q := 9) (x := 13) rfl rfl (fun h6 => ?_) (fun h6 => ?_)
  · refine ax_const (q := 14) (v := am_I 0) rfl rfl rfl ?_
    refine ax_store (q := 15) (L' := [some (am_R 66), some (am_I ((w : Nat) : Int)), some (am_I 0)]) rfl rfl rfl rfl rfl rfl ?_
    refine ax_load (q := 16) rfl rfl rfl rfl rfl ?_
    refine ax_if_ne (q := 19) (x := 34) rfl rfl (fun h => absurd h (by omega)) (fun h16 => ?_)
    refine ax_load (q := 20) rfl rfl rfl rfl rfl ?_
    refine ax_getf (q := 23) (v := am_I (kx_ tp n p)) rfl rfl (am_fg rfl hC.kx.2.1) ?_
    refine ax_calls (q := 26) rfl rfl rfl rfl rfl ?_
    by_cases hu5 : kx_ tp n p = 10 ∨ kx_ tp n p = 18 ∨ kx_ tp n p = 19 ∨ kx_ tp n p = 20 ∨ kx_ tp n p = 101
    · refine x_isUnitT (by omega) hu5 ?_
      refine ax_if_ne (q := 29) (x := 34) rfl rfl (fun h26 => ?_) (fun h => absurd h (by omega))
      refine ax_load (q := 35) rfl rfl rfl rfl rfl ?_
      refine ax_getf (q := 38) (v := am_R t) rfl rfl (am_fgR rfl hC.tn) ?_
      refine ax_getf (q := 41) (v := am_R (t + 28)) rfl rfl (xg7_9 hX7.ht) ?_
      refine ax_getf (q := 44) (v := am_I ((u : Nat) : Int)) rfl rfl (am_fg (xg0_4 ht) hF.1) ?_
      refine ax_const (q := 46) (v := am_I 30) rfl rfl rfl ?_
      refine ax_icmp_ge (q := 49) (x := 59) rfl rfl (fun h46 => ?_) (fun h46 => ?_)
      · refine ax_load (q := 60) rfl rfl rfl rfl rfl ?_
        refine ax_const (q := 61) (v := am_I 2) rfl rfl rfl ?_
        refine ax_callv (q := 64) rfl rfl rfl rfl rfl rfl ?_
        refine x_refuse (by omega) hC.kx.1 (fun σr hgr g0 g1 gJ => ?_)
        refine ax_ret (r := some (am_I 0)) rfl ⟨rfl, Or.inl rfl⟩ ?_
        exact hE _ (by unfold rdu_; rw [if_neg (fun e => h6 (k40.mpr e))]; exact if_pos (Or.inr (by omega))) _ (gx_su hgr (by intro x hx; simp at hx ⊢ <;> omega) (by intro x hx; simp at hx ⊢ <;> omega) (by intro x hx; simp at hx ⊢ <;> omega)) ⟨by rw [g0]; exact (if_neg (fun e => by have e2 := kx_3.mpr (show tks_ tp n p = 3 from e); omega)).symm, g1⟩
      · refine ax_load (q := 50) rfl rfl rfl rfl rfl ?_
        refine ax_if_eq (q := 53) (x := 65) rfl rfl (fun h50 => ?_) (fun h => absurd h (by omega))
        refine ax_load (q := 66) rfl rfl rfl rfl rfl ?_
        refine ax_getf (q := 69) (v := am_R t) rfl rfl (am_fgR rfl hC.tn) ?_
        refine ax_getf (q := 72) (v := am_R (t + 28)) rfl rfl (xg7_9 hX7.ht) ?_
        refine ax_dup (q := 73) rfl rfl rfl ?_
        refine ax_getf (q := 76) (v := am_I ((u : Nat) : Int)) rfl rfl (am_fg (xg0_4 ht) hF.1) ?_
        refine ax_const (q := 77) (v := am_I 1) rfl rfl rfl ?_
        refine ax_iadd (q := 78) (z := ((u + 1 : Nat) : Int)) rfl rfl (am_we (by omega) (by omega) (by omega)) ?_
        refine ax_putf (q := 81) rfl rfl (xp0_4 hX7.ht) ?_
        obtain ⟨σ1, e1⟩ : ∃ v, v = (am_sI σ (t + 28) (am_up (σ.1 (t + 28)) 4 ((u + 1 : Nat) : Int))) := ⟨_, rfl⟩
        rw [← e1]
        have hg1 : gx_ [t + 28] [] [] σ σ1 := by rw [e1]; exact gx_A (gx_rf _ _ _ _) (by simp) (by omega)
        have hf1 : gx_ [t + 28, t + 29, t + 30] [] [0, 1, 5, 6, 7, 9] σ σ1 := gx_su hg1 (by intro x hx; simp at hx ⊢ <;> omega) (by intro x hx; simp at hx ⊢ <;> omega) (by intro x hx; simp at hx ⊢ <;> omega)
        have hC1 := hC.fr hg1 (by simp <;> omega) (by simp) (by simp) (by rw [e1]; rfl)
        have hF1 : FO_ t (u + 1) st σ1 := ⟨by rw [e1, sI_at, am_up_same], by rw [e1, sI_at, am_up_ne (by decide)]; exact hF.2.1, fun k hk => by rw [e1, sI_ne (by omega), sI_ne (by omega)]; exact hF.2.2 k hk⟩
        refine ax_load (q := 82) rfl rfl rfl rfl rfl ?_
        refine ax_if_ne (q := 85) (x := 103) rfl rfl (fun h => absurd h (by omega)) (fun h82 => ?_)
        refine ax_load (q := 86) rfl rfl rfl rfl rfl ?_
        refine ax_getf (q := 89) (v := am_R t) rfl rfl (am_fgR rfl hC1.tn) ?_
        refine ax_getf (q := 92) (v := am_R (t + 28)) rfl rfl (xg7_9 hX7.ht) ?_
        refine ax_load (q := 93) rfl rfl rfl rfl rfl ?_
        refine ax_getf (q := 96) (v := am_I (kx_ tp n p)) rfl rfl (am_fg rfl hC1.kx.2.1) ?_
        refine ax_load (q := 97) rfl rfl rfl rfl rfl ?_
        refine ax_getf (q := 100) (v := am_I (σ1.1 66 9)) rfl rfl (rfl) ?_
        refine ax_callv (q := 103) rfl rfl rfl rfl rfl (kd_28 hX7.ht) ?_
        have hsp : kx_ tp n p = fk_ (sp1_ tp n p).1 (sp1_ tp n p).2 := by
          unfold sp1_
          rcases hac with q | q | q | q | q
          · rw [q.1, q.2]; rfl
          · rw [q.1, q.2]; rfl
          · rw [q.1, q.2]; rfl
          · rw [q.1, q.2]; rfl
          · rw [q.1, show kx_ tp n p = 101 by omega]; rfl
        have hsn : (sp1_ tp n p).1 = 0 → σ1.1 66 9 = (sp1_ tp n p).2 := by
          unfold sp1_
          intro q0
          rcases hac with q | q | q | q | q
          · rw [q.1] at q0; exact absurd (show (1 : Int) = 0 from q0) (by decide)
          · rw [q.1] at q0; exact absurd (show (1 : Int) = 0 from q0) (by decide)
          · rw [q.1] at q0; exact absurd (show (1 : Int) = 0 from q0) (by decide)
          · rw [q.1] at q0; exact absurd (show (1 : Int) = 0 from q0) (by decide)
          · rw [q.1]; exact hC1.kx.2.2.2.1 (k101.mp (by omega))
        refine x_fo_add (x := (sp1_ tp n p).1) (y := (sp1_ tp n p).2) (by omega) ht hF1 (by omega) hsp hsn (fun σ3 hg3 hF3 => ?_)
        have hg3x := gx_fr hg3 (by simp; omega)
        have hC3 := hC1.fr hg3x (by simp <;> omega) (by simp) (by simp) (by rw [hg3.2])
        have hf3 : gx_ [t + 28, t + 29, t + 30] [] [0, 1, 5, 6, 7, 9] σ σ3 := gx_tr2 hf1 (gx_su hg3x (by intro x hx; simp at hx ⊢ <;> omega) (by intro x hx; simp at hx ⊢ <;> omega) (by intro x hx; simp at hx ⊢ <;> omega))
        refine ax_load (q := 104) rfl rfl rfl rfl rfl ?_
        refine ax_callv (q := 107) rfl rfl rfl rfl rfl rfl ?_
        refine x_nextT (by omega) hC3 (fun e => by have e2 := kx_3.mpr e; omega) (fun σ4 hg4 hC4 => ?_)
        have hf4 : gx_ [t + 28, t + 29, t + 30] [] [0, 1, 5, 6, 7, 9] σ σ4 := gx_tr2 hf3 (gx_su hg4 (by intro x hx; simp at hx ⊢ <;> omega) (by intro x hx; simp at hx ⊢ <;> omega) (by intro x hx; simp at hx ⊢ <;> omega))
        have hF4 := hF3.fr hg4 ht (by intro a ha; cases ha)
        refine ax_load (q := 108) rfl rfl rfl rfl rfl ?_
        refine ax_if_eq (q := 111) (x := 130) rfl rfl (fun h108 => ?_) (fun h => absurd h (by omega))
        refine ax_const (q := 131) (v := am_I 1) rfl rfl rfl ?_
        refine ax_goto (x := 135) rfl ?_
        refine ax_ret (r := some (am_I 1)) rfl ⟨rfl, Or.inr rfl⟩ ?_
        exact hY _ _ _ (by unfold rdu_; rw [if_neg (fun e => h6 (k40.mpr e))]; exact if_neg (by omega)) _ hf4 hC4 hF4
    · refine x_isUnitF (by omega) hu5 ?_
      refine ax_if_ne (q := 29) (x := 34) rfl rfl (fun h => absurd h (by omega)) (fun h26 => ?_)
      refine ax_load (q := 30) rfl rfl rfl rfl rfl ?_
      refine ax_callv (q := 33) rfl rfl rfl rfl rfl rfl ?_
      refine x_misplaced (by omega) hC (fun σm hgm gJ g0 => ?_)
      refine ax_ret (r := some (am_I 0)) rfl ⟨rfl, Or.inl rfl⟩ ?_
      exact hE _ (by unfold rdu_; rw [if_neg (fun e => h6 (k40.mpr e))]; exact if_pos (Or.inl ⟨fun e => hu5 (Or.inr (Or.inr (Or.inr (Or.inr (k101.mpr e))))), by omega⟩)) _ (gx_su hgm (by intro x hx; simp at hx ⊢ <;> omega) (by intro x hx; simp at hx ⊢ <;> omega) (by intro x hx; simp at hx ⊢ <;> omega)) g0
  · refine ax_const (q := 10) (v := am_I 1) rfl rfl rfl ?_
    refine ax_goto (x := 14) rfl ?_
    refine ax_store (q := 15) (L' := [some (am_R 66), some (am_I ((w : Nat) : Int)), some (am_I 1)]) rfl rfl rfl rfl rfl rfl ?_
    refine ax_load (q := 16) rfl rfl rfl rfl rfl ?_
    refine ax_if_ne (q := 19) (x := 34) rfl rfl (fun h16 => ?_) (fun h => absurd h (by omega))
    refine ax_load (q := 35) rfl rfl rfl rfl rfl ?_
    refine ax_getf (q := 38) (v := am_R t) rfl rfl (am_fgR rfl hC.tn) ?_
    refine ax_getf (q := 41) (v := am_R (t + 28)) rfl rfl (xg7_9 hX7.ht) ?_
    refine ax_getf (q := 44) (v := am_I ((u : Nat) : Int)) rfl rfl (am_fg (xg0_4 ht) hF.1) ?_
    refine ax_const (q := 46) (v := am_I 30) rfl rfl rfl ?_
    refine ax_icmp_ge (q := 49) (x := 59) rfl rfl (fun h46 => ?_) (fun h46 => ?_)
    · refine ax_load (q := 60) rfl rfl rfl rfl rfl ?_
      refine ax_const (q := 61) (v := am_I 2) rfl rfl rfl ?_
      refine ax_callv (q := 64) rfl rfl rfl rfl rfl rfl ?_
      refine x_refuse (by omega) hC.kx.1 (fun σr hgr g0 g1 gJ => ?_)
      refine ax_ret (r := some (am_I 0)) rfl ⟨rfl, Or.inl rfl⟩ ?_
      have hbr : rdu_ tp n ei p u = Sum.inl (2, p) := by
        unfold rdu_
        rw [if_pos (k40.mp h6)]
        rcases he with ⟨hm0, he0⟩ | ⟨f, hef, hm1, hcx⟩
        · rw [he0]
        · rw [hef]; exact if_pos (by omega)
      exact hE _ hbr _ (gx_su hgr (by intro x hx; simp at hx ⊢ <;> omega) (by intro x hx; simp at hx ⊢ <;> omega) (by intro x hx; simp at hx ⊢ <;> omega)) ⟨by rw [g0]; exact (if_neg (fun e => by have e2 := kx_3.mpr (show tks_ tp n p = 3 from e); omega)).symm, g1⟩
    · refine ax_load (q := 50) rfl rfl rfl rfl rfl ?_
      refine ax_if_eq (q := 53) (x := 65) rfl rfl (fun h => absurd h (by omega)) (fun h50 => ?_)
      refine ax_load (q := 54) rfl rfl rfl rfl rfl ?_
      refine ax_const (q := 56) (v := am_I 6) rfl rfl rfl ?_
      refine ax_icmp_le (q := 59) (x := 65) rfl rfl (fun h56 => ?_) (fun h56 => ?_)
      · refine ax_load (q := 66) rfl rfl rfl rfl rfl ?_
        refine ax_getf (q := 69) (v := am_R t) rfl rfl (am_fgR rfl hC.tn) ?_
        refine ax_getf (q := 72) (v := am_R (t + 28)) rfl rfl (xg7_9 hX7.ht) ?_
        refine ax_dup (q := 73) rfl rfl rfl ?_
        refine ax_getf (q := 76) (v := am_I ((u : Nat) : Int)) rfl rfl (am_fg (xg0_4 ht) hF.1) ?_
        refine ax_const (q := 77) (v := am_I 1) rfl rfl rfl ?_
        refine ax_iadd (q := 78) (z := ((u + 1 : Nat) : Int)) rfl rfl (am_we (by omega) (by omega) (by omega)) ?_
        refine ax_putf (q := 81) rfl rfl (xp0_4 hX7.ht) ?_
        obtain ⟨σ1, e1⟩ : ∃ v, v = (am_sI σ (t + 28) (am_up (σ.1 (t + 28)) 4 ((u + 1 : Nat) : Int))) := ⟨_, rfl⟩
        rw [← e1]
        have hg1 : gx_ [t + 28] [] [] σ σ1 := by rw [e1]; exact gx_A (gx_rf _ _ _ _) (by simp) (by omega)
        have hf1 : gx_ [t + 28, t + 29, t + 30] [] [0, 1, 5, 6, 7, 9] σ σ1 := gx_su hg1 (by intro x hx; simp at hx ⊢ <;> omega) (by intro x hx; simp at hx ⊢ <;> omega) (by intro x hx; simp at hx ⊢ <;> omega)
        have hC1 := hC.fr hg1 (by simp <;> omega) (by simp) (by simp) (by rw [e1]; rfl)
        have hF1 : FO_ t (u + 1) st σ1 := ⟨by rw [e1, sI_at, am_up_same], by rw [e1, sI_at, am_up_ne (by decide)]; exact hF.2.1, fun k hk => by rw [e1, sI_ne (by omega), sI_ne (by omega)]; exact hF.2.2 k hk⟩
        refine ax_load (q := 82) rfl rfl rfl rfl rfl ?_
        refine ax_if_ne (q := 85) (x := 103) rfl rfl (fun h82 => ?_) (fun h => absurd h (by omega))
        refine ax_load (q := 104) rfl rfl rfl rfl rfl ?_
        refine ax_callv (q := 107) rfl rfl rfl rfl rfl rfl ?_
        refine x_nextT (by omega) hC1 (fun e => by have e2 := kx_3.mpr e; omega) (fun σ4 hg4 hC4 => ?_)
        have hf4 : gx_ [t + 28, t + 29, t + 30] [] [0, 1, 5, 6, 7, 9] σ σ4 := gx_tr2 hf1 (gx_su hg4 (by intro x hx; simp at hx ⊢ <;> omega) (by intro x hx; simp at hx ⊢ <;> omega) (by intro x hx; simp at hx ⊢ <;> omega))
        have hF4 := hF1.fr hg4 ht (by intro a ha; cases ha)
        refine ax_load (q := 108) rfl rfl rfl rfl rfl ?_
        refine ax_if_eq (q := 111) (x := 130) rfl rfl (fun h => absurd h (by omega)) (fun h108 => ?_)
        refine ax_load (q := 112) rfl rfl rfl rfl rfl ?_
        refine ax_load (q := 113) rfl rfl rfl rfl rfl ?_
        refine ax_const (q := 114) (v := am_I 1) rfl rfl rfl ?_
        refine ax_iadd (q := 115) (z := ((w + 1 : Nat) : Int)) rfl rfl (am_we (by omega) (by omega) (by omega)) ?_
        refine ax_callv (q := 118) rfl rfl rfl rfl rfl rfl ?_
        rcases he with ⟨hm0, he0⟩ | ⟨f, hef, hm1, hcx⟩
        · exact absurd hm0 (by omega)
        rw [hef] at hE hY
        have hru : rdu_ tp n (some f) p u = sb_ (f (nxp_ tp n p) (u + 1)) fun r => if tks_ tp n r.1 = 41 then Sum.inr (nxp_ tp n r.1, r.2.1, r.2.2) else Sum.inl (2, r.1) := by
          unfold rdu_
          rw [if_pos (k40.mp h6)]
          exact if_neg (by omega)
        rw [hru] at hE hY
        refine hcx d σ4 (nxp_ tp n p) (u + 1) st _ (by omega) hC4 hF4 (by omega) (by omega) (fun e he σe hge g0 => ?_) (fun p2 u2 s2 he σ5 hg5 hC5 hF5 => ?_)
        · rw [he] at hE
          simp only [sbl_] at hE
          refine ax_if_eq (q := 121) (x := 134) rfl rfl (fun h118 => ?_) (fun h => absurd h (by omega))
          refine ax_const (q := 135) (v := am_I 0) rfl rfl rfl ?_
          refine ax_ret (r := some (am_I 0)) rfl ⟨rfl, Or.inl rfl⟩ ?_
          exact hE _ rfl _ (gx_tr2 hf4 hge) g0
        · rw [he] at hE hY
          simp only [sbr_] at hE hY
          have hf5 := gx_tr2 hf4 hg5
          refine ax_if_eq (q := 121) (x := 134) rfl rfl (fun h => absurd h (by omega)) (fun h118 => ?_)
          refine ax_load (q := 122) rfl rfl rfl rfl rfl ?_
          refine ax_const (q := 124) (v := am_I 41) rfl rfl rfl ?_
          refine ax_callv (q := 127) rfl rfl rfl rfl rfl rfl ?_
          refine x_take (w := 41) (by omega) hC5 (by decide) (fun hk σs hgs _ g0 => ?_) (fun hk σ6 hg6 hC6 => ?_)
          · rw [if_neg (fun e => hk ((kx_s (by omega)).mpr e))] at hE
            refine ax_if_eq (q := 130) (x := 134) rfl rfl (fun h127 => ?_) (fun h => absurd h (by omega))
            refine ax_const (q := 135) (v := am_I 0) rfl rfl rfl ?_
            refine ax_ret (r := some (am_I 0)) rfl ⟨rfl, Or.inl rfl⟩ ?_
            exact hE _ rfl _ (gx_tr2 hf5 (gx_su hgs (by intro x hx; simp at hx ⊢ <;> omega) (by intro x hx; simp at hx ⊢ <;> omega) (by intro x hx; simp at hx ⊢ <;> omega))) g0
          · rw [if_pos ((kx_s (by omega)).mp hk)] at hY
            have hF6 := hF5.fr hg6 ht (by intro a ha; cases ha)
            refine ax_if_eq (q := 130) (x := 134) rfl rfl (fun h => absurd h (by omega)) (fun h127 => ?_)
            refine ax_const (q := 131) (v := am_I 1) rfl rfl rfl ?_
            refine ax_goto (x := 135) rfl ?_
            refine ax_ret (r := some (am_I 1)) rfl ⟨rfl, Or.inr rfl⟩ ?_
            exact hY _ _ _ rfl _ (gx_tr2 hf5 (gx_su hg6 (by intro x hx; simp at hx ⊢ <;> omega) (by intro x hx; simp at hx ⊢ <;> omega) (by intro x hx; simp at hx ⊢ <;> omega))) hC6 hF6
      · refine ax_load (q := 60) rfl rfl rfl rfl rfl ?_
        refine ax_const (q := 61) (v := am_I 2) rfl rfl rfl ?_
        refine ax_callv (q := 64) rfl rfl rfl rfl rfl rfl ?_
        refine x_refuse (by omega) hC.kx.1 (fun σr hgr g0 g1 gJ => ?_)
        refine ax_ret (r := some (am_I 0)) rfl ⟨rfl, Or.inl rfl⟩ ?_
        have hbr : rdu_ tp n ei p u = Sum.inl (2, p) := by
          unfold rdu_
          rw [if_pos (k40.mp h6)]
          rcases he with ⟨hm0, he0⟩ | ⟨f, hef, hm1, hcx⟩
          · rw [he0]
          · rw [hef]; exact if_pos (by omega)
        exact hE _ hbr _ (gx_su hgr (by intro x hx; simp at hx ⊢ <;> omega) (by intro x hx; simp at hx ⊢ <;> omega) (by intro x hx; simp at hx ⊢ <;> omega)) ⟨by rw [g0]; exact (if_neg (fun e => by have e2 := kx_3.mpr (show tks_ tp n p = 3 from e); omega)).symm, g1⟩

/-- the whole formula: each level of nesting -/
theorem cx_all (tp : Nat → Int) (n t : Nat) : ∀ m, m ≤ 7 → (∀ m', m' ≤ m → CX_ tp n t 55 (7 - m') (9 + 7 * m) (rdr_ tp n (eix_ tp n m'))) ∧ CX_ tp n t 52 (7 - m) (12 + 7 * m) (rdl_ tp n m).2 := by
  have hWE : ∀ m, m ≤ 7 → ∀ f, eix_ tp n m = some f → RW_ n 1 f := fun m hm f he => by
    cases m with
    | zero => cases he
    | succ m => cases he; exact (rw_all tp n m (by omega)).2
  have hWU : ∀ m, m ≤ 7 → RW_ n 8 (rdu_ tp n (eix_ tp n m)) := fun m hm => rw_unit (hWE m hm)
  have hWT : ∀ m, m ≤ 7 → RW_ n 8 (rdt_ tp n (eix_ tp n m)) := fun m hm => rw_loop (hWU m hm) (by decide)
  have hWS : ∀ m, m ≤ 7 → RW_ n 8 (rds_ tp n (eix_ tp n m)) := fun m hm => rw_loop (hWT m hm) (by decide)
  have hWR : ∀ m, m ≤ 7 → RW_ n 8 (rdr_ tp n (eix_ tp n m)) := fun m hm => rw_rel (hWS m hm)
  have hWO : ∀ m, m ≤ 7 → RW_ n 1 (rdl_ tp n m).1 := fun m hm p u p' u' s hp hu he => by
    obtain ⟨a1, a2, a3, a4, a5, a6⟩ := (rw_all tp n m hm).1 p u p' u' s hp hu he
    exact ⟨a1, a2, a3, a4, a5, by omega⟩
  have step : ∀ m D0, m ≤ 7 → 5 ≤ D0 → ((m = 0 ∧ eix_ tp n m = none) ∨ ∃ f, eix_ tp n m = some f ∧ 1 ≤ m ∧ CX_ tp n t 52 (7 - m + 1) D0 f) → CX_ tp n t 55 (7 - m) (D0 + 4) (rdr_ tp n (eix_ tp n m)) := fun m D0 hm hD he => by
    have h1 : CX_ tp n t 58 (7 - m) (D0 + 1) (rdu_ tp n (eix_ tp n m)) := cx_unit hD (show 7 - m + m = 7 by omega) he
    have h2 : CX_ tp n t 57 (7 - m) (D0 + 2) (rdt_ tp n (eix_ tp n m)) := cx_term (by omega) h1 ((hWU m hm).le (by decide))
    have h3 : CX_ tp n t 56 (7 - m) (D0 + 3) (rds_ tp n (eix_ tp n m)) := cx_sum (by omega) h2 ((hWT m hm).le (by decide))
    exact cx_related (by omega) h3 ((hWS m hm).le (by decide))
  have fin : ∀ m D0, m ≤ 7 → 5 ≤ D0 → (∀ m', m' ≤ m → CX_ tp n t 55 (7 - m') D0 (rdr_ tp n (eix_ tp n m'))) → CX_ tp n t 52 (7 - m) (D0 + 3) (rdl_ tp n m).2 := fun m D0 hm hD hR => by
    have h1 : CX_ tp n t 54 (7 - m) (D0 + 1) (rdl_ tp n m).1 := cx_one (by omega) (show 7 - m + m = 7 by omega) hR hWR
    have h2 : CX_ tp n t 53 (7 - m) (D0 + 2) (rdb_ tp n (rdl_ tp n m).1) := cx_both (by omega) h1 (hWO m hm)
    have h3 : CX_ tp n t 52 (7 - m) (D0 + 3) (rde_ tp n (rdl_ tp n m).1) := cx_either (by omega) h2 (rw_loop (hWO m hm) (by decide))
    have e : (rdl_ tp n m).2 = rde_ tp n (rdl_ tp n m).1 := by cases m <;> rfl
    rw [e]
    exact h3
  intro m
  induction m with
  | zero =>
    intro hm
    have hR : ∀ m', m' ≤ 0 → CX_ tp n t 55 (7 - m') (9 + 7 * 0) (rdr_ tp n (eix_ tp n m')) := fun m' hm' => by
      obtain rfl : m' = 0 := by omega
      exact step 0 5 (by omega) (by omega) (Or.inl ⟨rfl, rfl⟩)
    exact ⟨hR, fin 0 9 (by omega) (by omega) hR⟩
  | succ m ih =>
    intro hm
    obtain ⟨i1, i2⟩ := ih (by omega)
    have hR : ∀ m', m' ≤ m + 1 → CX_ tp n t 55 (7 - m') (9 + 7 * (m + 1)) (rdr_ tp n (eix_ tp n m')) := fun m' hm' => by
      by_cases q : m' = m + 1
      · subst q
        refine (step (m + 1) (12 + 7 * m) (by omega) (by omega) (Or.inr ⟨(rdl_ tp n m).2, rfl, by omega, ?_⟩)).le (by omega)
        rw [show 7 - (m + 1) + 1 = 7 - m by omega]
        exact i2
      · exact (i1 m' (by omega)).le (by omega)
    exact ⟨hR, (fin (m + 1) (9 + 7 * (m + 1)) (by omega) (by omega) hR).le (by omega)⟩

