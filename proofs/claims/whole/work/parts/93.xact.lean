theorem XH_.cg {T : sp_T} {a e : Nat} {hs : Nat → sp_V} {σ σ' : am_S} (h : XH_ T a e hs σ) (hf : ∀ b, (b = 72 ∨ (74 ≤ b ∧ b ≤ 114)) → σ'.1 b = σ.1 b) : XH_ T a e hs σ' := by
  obtain ⟨h0, h1, h2, old, h3, h4, h5⟩ := h
  exact ⟨by rw [hf 72 (Or.inl rfl)]; exact h0, by rw [hf 72 (Or.inl rfl)]; exact h1, h2, old, h3, by rw [hf 72 (Or.inl rfl)]; exact h4, fun i hi => by rw [hf _ (Or.inr (by omega))]; exact h5 i hi⟩
def hz_ (t : Nat) (σ σ' : am_S) : Prop := (∀ a, a ≠ 69 → a ≠ 72 → a ≠ t + 31 → (a < 74 ∨ 114 < a) → σ'.1 a = σ.1 a) ∧ σ'.2 = σ.2
theorem PL_.hz {t : Nat} {T : sp_T} {v w : sp_V} {σ σ' : am_S} (h : PL_ 68 t T v σ) (hf : hz_ t σ σ') (hr : RW_x T w (σ'.1 69)) : PL_ 68 t T w σ' :=
  ⟨h.hq, by rw [hf.2]; exact h.to, h.xt.fr (fun a h1 h2 => hf.1 a (by have := h.ht; omega) (by have := h.ht; omega) (by omega) (by have := h.ht; omega)), hr⟩

theorem x_keepAct {d : Nat} (hd : 3 ≤ d) {σ : am_S} {T : sp_T} {a e : Nat} {hs : Nat → sp_V} (hH : XH_ T a e hs σ) {r : sp_V} (hr : RW_x T r (σ.1 69)) (h6 : nP_ T ≤ 6) {Q : Option am_V → am_S → Prop} (hQ : ∀ σ', hf_ σ σ' → XH_ T (ha_ a) 0 (hk_ a hs r) σ' → Q none σ') : am_Ev d 104 [am_R 0] σ Q := by
  obtain ⟨d, rfl⟩ : ∃ e, d = e + 1 := ⟨d - 1, by omega⟩
  refine ev_in (m := 104) (c := k_X8_keepAct) (L := [some (am_R 0)]) rfl rfl rfl rfl rfl rfl ?_
  refine ax_load (q := 1) rfl rfl rfl rfl rfl ?_
  refine ax_getf (q := 4) (v := am_R 72) rfl rfl (rfl) ?_
  refine ax_load (q := 5) rfl rfl rfl rfl rfl ?_
  refine ax_getf (q := 8) (v := am_R 68) rfl rfl (rfl) ?_
  refine ax_getf (q := 11) (v := am_R 69) rfl rfl (rfl) ?_
  refine ax_callv (q := 14) rfl rfl rfl rfl rfl rfl ?_
  refine x_hkeep (by omega) hH hr h6 (fun σ1 hf1 hH1 => ?_)
  refine ax_ret (r := none) rfl rfl ?_
  exact hQ _ hf1 hH1

theorem x_prepare {d : Nat} (hd : 5 ≤ d) {σ : am_S} {t : Nat} {T : sp_T} {v : sp_V} (hL : PL_ 68 t T v σ) (hV : TV_ T) {b : Int} (hW : VV_ T b v) (hb9 : b < 900000) (hD : DN_ T v) {a e : Nat} {hs : Nat → sp_V} (hH : XH_ T a e hs σ) {x s : Int} {Q : Option am_V → am_S → Prop} (hN : (sn_ T v x && (decide (s = -1) || inr_ (nS_ T) s)) = false → Q (some (am_I (-2))) σ) (hY : (sn_ T v x && (decide (s = -1) || inr_ (nS_ T) s)) = true → ∀ σ', hz_ t σ σ' → PL_ 68 t T (am_up v (18 + x.toNat) s) σ' → XH_ T (ha_ a) 0 (hk_ a hs (am_up v (18 + x.toNat) s)) σ' → Q (some (am_I (v (18 + x.toNat)))) σ') : am_Ev d 105 [am_R 0, am_I x, am_I s] σ Q := by
  obtain ⟨d, rfl⟩ : ∃ e, d = e + 1 := ⟨d - 1, by omega⟩
  have h6 := hV.nP
  have hO8 := hV.nO
  have hS4 := hV.nS
  have hR3 := hV.nR
  refine ev_in (m := 105) (c := k_X8_prepare) (L := [some (am_R 0), some (am_I x), some (am_I s), none]) rfl rfl rfl rfl rfl rfl ?_
  refine ax_load (q := 1) rfl rfl rfl rfl rfl ?_
  refine ax_load (q := 2) rfl rfl rfl rfl rfl ?_
  refine ax_callv (q := 5) rfl rfl rfl rfl rfl rfl ?_
  refine x_isUnopened (by omega) hL hV ?_
  refine ax_if_eq (q := 8) (x := 28) rfl rfl (fun h5 => ?_) (fun h5 => ?_)
  · have hb5 := it_0 h5
    refine ax_const (q := 30) (v := am_I (-2)) rfl rfl rfl ?_
    refine ax_ret (r := some (am_I (-2))) rfl rfl ?_
    refine hN ?_
    first | simp [*] | (simp only [hb5, hb25, Bool.true_and, Bool.or_false]; exact decide_eq_false (by omega))
  · have hb5 := it_n0 h5
    obtain ⟨p, rfl, hp, hsh⟩ := sn_t hb5
    refine ax_load (q := 9) rfl rfl rfl rfl rfl ?_
    refine ax_const (q := 10) (v := am_I (-1)) rfl rfl rfl ?_
    refine ax_icmp_eq (q := 13) (x := 31) rfl rfl (fun h10 => ?_) (fun h10 => ?_)
    · refine ax_load (q := 32) rfl rfl rfl rfl rfl ?_
      refine ax_getf (q := 35) (v := am_R 68) rfl rfl (rfl) ?_
      refine ax_getf (q := 38) (v := am_R 69) rfl rfl (rfl) ?_
      refine ax_const (q := 40) (v := am_I 12) rfl rfl rfl ?_
      refine ax_load (q := 41) rfl rfl rfl rfl rfl ?_
      refine ax_iadd (q := 42) (z := ((12 + p : Nat) : Int)) rfl rfl (am_we (by omega) (by omega) (by omega)) ?_
      refine bx_iald (q := 43) (k := 12 + p) (z := v (18 + p)) rfl rfl (rfl) (by omega) (by omega) (hL.rw.pr _ (by omega)) ?_
      refine ax_store (q := 44) (L' := [some (am_R 0), some (am_I ((p : Nat) : Int)), some (am_I s), some (am_I (v (18 + p)))]) rfl rfl rfl rfl rfl rfl ?_
      refine ax_load (q := 45) rfl rfl rfl rfl rfl ?_
      refine ax_getf (q := 48) (v := am_R 68) rfl rfl (rfl) ?_
      refine ax_getf (q := 51) (v := am_R 69) rfl rfl (rfl) ?_
      refine ax_const (q := 53) (v := am_I 12) rfl rfl rfl ?_
      refine ax_load (q := 54) rfl rfl rfl rfl rfl ?_
      refine ax_iadd (q := 55) (z := ((12 + p : Nat) : Int)) rfl rfl (am_we (by omega) (by omega) (by omega)) ?_
      refine ax_load (q := 56) rfl rfl rfl rfl rfl ?_
      refine bx_iast (q := 57) (k := 12 + p) rfl rfl (rfl) (by omega) (by omega) ?_
      refine ax_load (q := 58) rfl rfl rfl rfl rfl ?_
      refine ax_callv (q := 61) rfl rfl rfl rfl rfl rfl ?_
      obtain ⟨σ1, h1⟩ : ∃ s9, s9 = (am_sI σ 69 (am_up (σ.1 69) (12 + p) s)) := ⟨_, rfl⟩
      rw [← h1]
      have hfa : hz_ t σ σ1 := ⟨fun b b1 _ _ _ => by rw [h1]; simp only [sI_ne b1], by rw [h1]; rfl⟩
      have hr1 : RW_x T (am_up v (18 + p) s) (σ1.1 69) := by rw [h1]; simp only [sI_at]; exact hL.rw.pr_ h6.2 hp
      have hH1 : XH_ T a e hs σ1 := hH.cg (fun b hb => by rw [h1]; simp only [sI_ne (show b ≠ 69 by omega)])
      refine x_keepAct (by omega) hH1 hr1 h6.2 (fun σ2 hf2 hH2 => ?_)
      have hfb : hz_ t σ σ2 := ⟨fun b b1 b2 b3 b4 => (hf2.1 b b2 b4).trans (hfa.1 b b1 b2 b3 b4), hf2.2.trans hfa.2⟩
      have hr2 : RW_x T (am_up v (18 + p) s) (σ2.1 69) := by rw [hf2.1 69 (by decide) (by decide)]; exact hr1
      have hL2 := hL.hz hfb hr2
      refine ax_load (q := 62) rfl rfl rfl rfl rfl ?_
      refine ax_ret (r := some (am_I (v (18 + p)))) rfl rfl ?_
      have hY2 := hY (by first | (simp only [hb5, hb25, Bool.true_and, Bool.or_true]) | (rw [hb5, decide_eq_true (by omega)]; rfl))
      simp only [Int.toNat_natCast] at hY2
      exact hY2 _ hfb hL2 hH2
    · refine ax_load (q := 14) rfl rfl rfl rfl rfl ?_
      refine ax_getf (q := 17) (v := am_R 68) rfl rfl (rfl) ?_
      refine ax_getf (q := 20) (v := am_R t) rfl rfl (am_fgR rfl hL.to) ?_
      refine ax_const (q := 21) (v := am_I 1) rfl rfl rfl ?_
      refine ax_load (q := 22) rfl rfl rfl rfl rfl ?_
      refine ax_callv (q := 25) rfl rfl rfl rfl rfl (kd_0 hL.ht) ?_
      refine x_has1 (by omega) hL.xt hV ?_
      rw [hs_i]
      refine ax_if_ne (q := 28) (x := 31) rfl rfl (fun h25 => ?_) (fun h25 => ?_)
      · have hb25 := it_n0 h25
        refine ax_load (q := 32) rfl rfl rfl rfl rfl ?_
        refine ax_getf (q := 35) (v := am_R 68) rfl rfl (rfl) ?_
        refine ax_getf (q := 38) (v := am_R 69) rfl rfl (rfl) ?_
        refine ax_const (q := 40) (v := am_I 12) rfl rfl rfl ?_
        refine ax_load (q := 41) rfl rfl rfl rfl rfl ?_
        refine ax_iadd (q := 42) (z := ((12 + p : Nat) : Int)) rfl rfl (am_we (by omega) (by omega) (by omega)) ?_
        refine bx_iald (q := 43) (k := 12 + p) (z := v (18 + p)) rfl rfl (rfl) (by omega) (by omega) (hL.rw.pr _ (by omega)) ?_
        refine ax_store (q := 44) (L' := [some (am_R 0), some (am_I ((p : Nat) : Int)), some (am_I s), some (am_I (v (18 + p)))]) rfl rfl rfl rfl rfl rfl ?_
        refine ax_load (q := 45) rfl rfl rfl rfl rfl ?_
        refine ax_getf (q := 48) (v := am_R 68) rfl rfl (rfl) ?_
        refine ax_getf (q := 51) (v := am_R 69) rfl rfl (rfl) ?_
        refine ax_const (q := 53) (v := am_I 12) rfl rfl rfl ?_
        refine ax_load (q := 54) rfl rfl rfl rfl rfl ?_
        refine ax_iadd (q := 55) (z := ((12 + p : Nat) : Int)) rfl rfl (am_we (by omega) (by omega) (by omega)) ?_
        refine ax_load (q := 56) rfl rfl rfl rfl rfl ?_
        refine bx_iast (q := 57) (k := 12 + p) rfl rfl (rfl) (by omega) (by omega) ?_
        refine ax_load (q := 58) rfl rfl rfl rfl rfl ?_
        refine ax_callv (q := 61) rfl rfl rfl rfl rfl rfl ?_
        obtain ⟨σ1, h1⟩ : ∃ s9, s9 = (am_sI σ 69 (am_up (σ.1 69) (12 + p) s)) := ⟨_, rfl⟩
        rw [← h1]
        have hfa : hz_ t σ σ1 := ⟨fun b b1 _ _ _ => by rw [h1]; simp only [sI_ne b1], by rw [h1]; rfl⟩
        have hr1 : RW_x T (am_up v (18 + p) s) (σ1.1 69) := by rw [h1]; simp only [sI_at]; exact hL.rw.pr_ h6.2 hp
        have hH1 : XH_ T a e hs σ1 := hH.cg (fun b hb => by rw [h1]; simp only [sI_ne (show b ≠ 69 by omega)])
        refine x_keepAct (by omega) hH1 hr1 h6.2 (fun σ2 hf2 hH2 => ?_)
        have hfb : hz_ t σ σ2 := ⟨fun b b1 b2 b3 b4 => (hf2.1 b b2 b4).trans (hfa.1 b b1 b2 b3 b4), hf2.2.trans hfa.2⟩
        have hr2 : RW_x T (am_up v (18 + p) s) (σ2.1 69) := by rw [hf2.1 69 (by decide) (by decide)]; exact hr1
        have hL2 := hL.hz hfb hr2
        refine ax_load (q := 62) rfl rfl rfl rfl rfl ?_
        refine ax_ret (r := some (am_I (v (18 + p)))) rfl rfl ?_
        have hY2 := hY (by first | (simp only [hb5, hb25, Bool.true_and, Bool.or_true]) | (rw [hb5, decide_eq_true (by omega)]; rfl))
        simp only [Int.toNat_natCast] at hY2
        exact hY2 _ hfb hL2 hH2
      · have hb25 := it_0 h25
        refine ax_const (q := 30) (v := am_I (-2)) rfl rfl rfl ?_
        refine ax_ret (r := some (am_I (-2))) rfl rfl ?_
        refine hN ?_
        first | simp [*] | (simp only [hb5, hb25, Bool.true_and, Bool.or_false]; exact decide_eq_false (by omega))

theorem x_steam {d : Nat} (hd : 5 ≤ d) {σ : am_S} {t : Nat} {T : sp_T} {v : sp_V} (hL : PL_ 68 t T v σ) (hV : TV_ T) {b : Int} (hW : VV_ T b v) (hb9 : b < 900000) (hD : DN_ T v) {a e : Nat} {hs : Nat → sp_V} (hH : XH_ T a e hs σ) {x : Int} {Q : Option am_V → am_S → Prop} (hN : (inr_ (nP_ T) x && decide (v (12 + x.toNat) = 0)) = false → Q (some (am_I (-2))) σ) (hY : (inr_ (nP_ T) x && decide (v (12 + x.toNat) = 0)) = true → ∀ σ', hz_ t σ σ' → PL_ 68 t T (am_up v (12 + x.toNat) 1) σ' → XH_ T (ha_ a) 0 (hk_ a hs (am_up v (12 + x.toNat) 1)) σ' → Q (some (am_I (v (6 + x.toNat)))) σ') : am_Ev d 106 [am_R 0, am_I x] σ Q := by
  obtain ⟨d, rfl⟩ : ∃ e, d = e + 1 := ⟨d - 1, by omega⟩
  have h6 := hV.nP
  have hO8 := hV.nO
  have hS4 := hV.nS
  have hR3 := hV.nR
  refine ev_in (m := 106) (c := k_X8_steam) (L := [some (am_R 0), some (am_I x)]) rfl rfl rfl rfl rfl rfl ?_
  refine ax_load (q := 1) rfl rfl rfl rfl rfl ?_
  refine ax_getf (q := 4) (v := am_R 68) rfl rfl (rfl) ?_
  refine ax_getf (q := 7) (v := am_R t) rfl rfl (am_fgR rfl hL.to) ?_
  refine ax_const (q := 8) (v := am_I 0) rfl rfl rfl ?_
  refine ax_load (q := 9) rfl rfl rfl rfl rfl ?_
  refine ax_callv (q := 12) rfl rfl rfl rfl rfl (kd_0 hL.ht) ?_
  refine x_has0 (by omega) hL.xt hV ?_
  rw [hs_i]
  refine ax_if_eq (q := 15) (x := 30) rfl rfl (fun h12 => ?_) (fun h12 => ?_)
  · have hb12 := it_0 h12
    refine ax_const (q := 32) (v := am_I (-2)) rfl rfl rfl ?_
    refine ax_ret (r := some (am_I (-2))) rfl rfl ?_
    refine hN ?_
    first | (rw [hb12]; rfl) | (rw [Int.toNat_natCast, decide_eq_false (by omega), Bool.and_false])
  · have hb12 := it_n0 h12
    obtain ⟨p, rfl, hp⟩ := inr_t hb12
    refine ax_load (q := 16) rfl rfl rfl rfl rfl ?_
    refine ax_getf (q := 19) (v := am_R 68) rfl rfl (rfl) ?_
    refine ax_getf (q := 22) (v := am_R 69) rfl rfl (rfl) ?_
    refine ax_const (q := 24) (v := am_I 6) rfl rfl rfl ?_
    refine ax_load (q := 25) rfl rfl rfl rfl rfl ?_
    refine ax_iadd (q := 26) (z := ((6 + p : Nat) : Int)) rfl rfl (am_we (by omega) (by omega) (by omega)) ?_
    refine bx_iald (q := 27) (k := 6 + p) (z := v (12 + p)) rfl rfl (rfl) (by omega) (by omega) (hL.rw.hw _ (by omega)) ?_
    refine ax_if_eq (q := 30) (x := 33) rfl rfl (fun h27 => ?_) (fun h27 => ?_)
    · refine ax_load (q := 34) rfl rfl rfl rfl rfl ?_
      refine ax_getf (q := 37) (v := am_R 68) rfl rfl (rfl) ?_
      refine ax_getf (q := 40) (v := am_R 69) rfl rfl (rfl) ?_
      refine ax_const (q := 42) (v := am_I 6) rfl rfl rfl ?_
      refine ax_load (q := 43) rfl rfl rfl rfl rfl ?_
      refine ax_iadd (q := 44) (z := ((6 + p : Nat) : Int)) rfl rfl (am_we (by omega) (by omega) (by omega)) ?_
      refine ax_const (q := 45) (v := am_I 1) rfl rfl rfl ?_
      refine bx_iast (q := 46) (k := 6 + p) rfl rfl (rfl) (by omega) (by omega) ?_
      refine ax_load (q := 47) rfl rfl rfl rfl rfl ?_
      refine ax_callv (q := 50) rfl rfl rfl rfl rfl rfl ?_
      obtain ⟨σ1, h1⟩ : ∃ s9, s9 = (am_sI σ 69 (am_up (σ.1 69) (6 + p) 1)) := ⟨_, rfl⟩
      rw [← h1]
      have hfa : hz_ t σ σ1 := ⟨fun b b1 _ _ _ => by rw [h1]; simp only [sI_ne b1], by rw [h1]; rfl⟩
      have hr1 : RW_x T (am_up v (12 + p) 1) (σ1.1 69) := by rw [h1]; simp only [sI_at]; exact hL.rw.hw_ h6.2 hp
      have hH1 : XH_ T a e hs σ1 := hH.cg (fun b hb => by rw [h1]; simp only [sI_ne (show b ≠ 69 by omega)])
      refine x_keepAct (by omega) hH1 hr1 h6.2 (fun σ2 hf2 hH2 => ?_)
      have hfb : hz_ t σ σ2 := ⟨fun b b1 b2 b3 b4 => (hf2.1 b b2 b4).trans (hfa.1 b b1 b2 b3 b4), hf2.2.trans hfa.2⟩
      have hr2 : RW_x T (am_up v (12 + p) 1) (σ2.1 69) := by rw [hf2.1 69 (by decide) (by decide)]; exact hr1
      have hL2 := hL.hz hfb hr2
      refine ax_load (q := 51) rfl rfl rfl rfl rfl ?_
      refine ax_getf (q := 54) (v := am_R 68) rfl rfl (rfl) ?_
      refine ax_getf (q := 57) (v := am_R 69) rfl rfl (rfl) ?_
      refine ax_const (q := 59) (v := am_I 18) rfl rfl rfl ?_
      refine ax_load (q := 60) rfl rfl rfl rfl rfl ?_
      refine ax_iadd (q := 61) (z := ((18 + p : Nat) : Int)) rfl rfl (am_we (by omega) (by omega) (by omega)) ?_
      refine bx_iald (q := 62) (k := 18 + p) (z := v (6 + p)) rfl rfl (rfl) (by omega) (by omega) ((hL2.rw.hd _ hp).trans (am_up_ne (by omega))) ?_
      refine ax_ret (r := some (am_I (v (6 + p)))) rfl rfl ?_
      have hY2 := hY (by rw [hb12, Int.toNat_natCast, decide_eq_true (by omega)]; rfl)
      simp only [Int.toNat_natCast] at hY2
      exact hY2 _ hfb hL2 hH2
    · refine ax_const (q := 32) (v := am_I (-2)) rfl rfl rfl ?_
      refine ax_ret (r := some (am_I (-2))) rfl rfl ?_
      refine hN ?_
      first | (rw [hb12]; rfl) | (rw [Int.toNat_natCast, decide_eq_false (by omega), Bool.and_false])

theorem x_forge {d : Nat} (hd : 5 ≤ d) {σ : am_S} {t : Nat} {T : sp_T} {v : sp_V} (hL : PL_ 68 t T v σ) (hV : TV_ T) {b : Int} (hW : VV_ T b v) (hb9 : b < 900000) (hD : DN_ T v) {a e : Nat} {hs : Nat → sp_V} (hH : XH_ T a e hs σ) {x o : Int} {Q : Option am_V → am_S → Prop} (hN : (sn_ T v x && inr_ (nO_ T) o) = false → Q (some (am_I (-2))) σ) (hY : (sn_ T v x && inr_ (nO_ T) o) = true → ∀ σ', hz_ t σ σ' → PL_ 68 t T (am_up (am_up v (6 + x.toNat) o) (12 + x.toNat) 1) σ' → XH_ T (ha_ a) 0 (hk_ a hs (am_up (am_up v (6 + x.toNat) o) (12 + x.toNat) 1)) σ' → Q (some (am_I (v (6 + x.toNat)))) σ') : am_Ev d 108 [am_R 0, am_I x, am_I o] σ Q := by
  obtain ⟨d, rfl⟩ : ∃ e, d = e + 1 := ⟨d - 1, by omega⟩
  have h6 := hV.nP
  have hO8 := hV.nO
  have hS4 := hV.nS
  have hR3 := hV.nR
  refine ev_in (m := 108) (c := k_X8_forge) (L := [some (am_R 0), some (am_I x), some (am_I o), none]) rfl rfl rfl rfl rfl rfl ?_
  refine ax_load (q := 1) rfl rfl rfl rfl rfl ?_
  refine ax_load (q := 2) rfl rfl rfl rfl rfl ?_
  refine ax_callv (q := 5) rfl rfl rfl rfl rfl rfl ?_
  refine x_isUnopened (by omega) hL hV ?_
  refine ax_if_eq (q := 8) (x := 23) rfl rfl (fun h5 => ?_) (fun h5 => ?_)
  · have hb5 := it_0 h5
    refine ax_const (q := 25) (v := am_I (-2)) rfl rfl rfl ?_
    refine ax_ret (r := some (am_I (-2))) rfl rfl ?_
    refine hN ?_
    simp [*]
  · have hb5 := it_n0 h5
    obtain ⟨p, rfl, hp, hsh⟩ := sn_t hb5
    refine ax_load (q := 9) rfl rfl rfl rfl rfl ?_
    refine ax_getf (q := 12) (v := am_R 68) rfl rfl (rfl) ?_
    refine ax_getf (q := 15) (v := am_R t) rfl rfl (am_fgR rfl hL.to) ?_
    refine ax_const (q := 16) (v := am_I 2) rfl rfl rfl ?_
    refine ax_load (q := 17) rfl rfl rfl rfl rfl ?_
    refine ax_callv (q := 20) rfl rfl rfl rfl rfl (kd_0 hL.ht) ?_
    refine x_has2 (by omega) hL.xt hV ?_
    rw [hs_i]
    refine ax_if_ne (q := 23) (x := 26) rfl rfl (fun h20 => ?_) (fun h20 => ?_)
    · have hb20 := it_n0 h20
      refine ax_load (q := 27) rfl rfl rfl rfl rfl ?_
      refine ax_getf (q := 30) (v := am_R 68) rfl rfl (rfl) ?_
      refine ax_getf (q := 33) (v := am_R 69) rfl rfl (rfl) ?_
      refine ax_const (q := 35) (v := am_I 18) rfl rfl rfl ?_
      refine ax_load (q := 36) rfl rfl rfl rfl rfl ?_
      refine ax_iadd (q := 37) (z := ((18 + p : Nat) : Int)) rfl rfl (am_we (by omega) (by omega) (by omega)) ?_
      refine bx_iald (q := 38) (k := 18 + p) (z := v (6 + p)) rfl rfl (rfl) (by omega) (by omega) (hL.rw.hd _ (by omega)) ?_
      refine ax_store (q := 39) (L' := [some (am_R 0), some (am_I ((p : Nat) : Int)), some (am_I o), some (am_I (v (6 + p)))]) rfl rfl rfl rfl rfl rfl ?_
      refine ax_load (q := 40) rfl rfl rfl rfl rfl ?_
      refine ax_getf (q := 43) (v := am_R 68) rfl rfl (rfl) ?_
      refine ax_getf (q := 46) (v := am_R 69) rfl rfl (rfl) ?_
      refine ax_const (q := 48) (v := am_I 18) rfl rfl rfl ?_
      refine ax_load (q := 49) rfl rfl rfl rfl rfl ?_
      refine ax_iadd (q := 50) (z := ((18 + p : Nat) : Int)) rfl rfl (am_we (by omega) (by omega) (by omega)) ?_
      refine ax_load (q := 51) rfl rfl rfl rfl rfl ?_
      refine bx_iast (q := 52) (k := 18 + p) rfl rfl (rfl) (by omega) (by omega) ?_
      refine ax_load (q := 53) rfl rfl rfl rfl rfl ?_
      refine ax_getf (q := 56) (v := am_R 68) rfl rfl (rfl) ?_
      refine ax_getf (q := 59) (v := am_R 69) rfl rfl (rfl) ?_
      refine ax_const (q := 61) (v := am_I 6) rfl rfl rfl ?_
      refine ax_load (q := 62) rfl rfl rfl rfl rfl ?_
      refine ax_iadd (q := 63) (z := ((6 + p : Nat) : Int)) rfl rfl (am_we (by omega) (by omega) (by omega)) ?_
      refine ax_const (q := 64) (v := am_I 1) rfl rfl rfl ?_
      refine bx_iast (q := 65) (k := 6 + p) rfl rfl (rfl) (by omega) (by omega) ?_
      refine ax_load (q := 66) rfl rfl rfl rfl rfl ?_
      refine ax_callv (q := 69) rfl rfl rfl rfl rfl rfl ?_
      obtain ⟨σ1, h1⟩ : ∃ s9, s9 = (am_sI (am_sI σ 69 (am_up (σ.1 69) (18 + p) o)) 69 (am_up ((am_sI σ 69 (am_up (σ.1 69) (18 + p) o)).1 69) (6 + p) 1)) := ⟨_, rfl⟩
      rw [← h1]
      have hfa : hz_ t σ σ1 := ⟨fun b b1 _ _ _ => by rw [h1]; simp only [sI_ne b1], by rw [h1]; rfl⟩
      have hr1 : RW_x T (am_up (am_up v (6 + p) o) (12 + p) 1) (σ1.1 69) := by rw [h1]; simp only [sI_at]; exact (hL.rw.hd_ h6.2 hp).hw_ h6.2 hp
      have hH1 : XH_ T a e hs σ1 := hH.cg (fun b hb => by rw [h1]; simp only [sI_ne (show b ≠ 69 by omega)])
      refine x_keepAct (by omega) hH1 hr1 h6.2 (fun σ2 hf2 hH2 => ?_)
      have hfb : hz_ t σ σ2 := ⟨fun b b1 b2 b3 b4 => (hf2.1 b b2 b4).trans (hfa.1 b b1 b2 b3 b4), hf2.2.trans hfa.2⟩
      have hr2 : RW_x T (am_up (am_up v (6 + p) o) (12 + p) 1) (σ2.1 69) := by rw [hf2.1 69 (by decide) (by decide)]; exact hr1
      have hL2 := hL.hz hfb hr2
      refine ax_load (q := 70) rfl rfl rfl rfl rfl ?_
      refine ax_ret (r := some (am_I (v (6 + p)))) rfl rfl ?_
      have hY2 := hY (by rw [hb5, hb20]; rfl)
      simp only [Int.toNat_natCast] at hY2
      exact hY2 _ hfb hL2 hH2
    · have hb20 := it_0 h20
      refine ax_const (q := 25) (v := am_I (-2)) rfl rfl rfl ?_
      refine ax_ret (r := some (am_I (-2))) rfl rfl ?_
      refine hN ?_
      simp [*]

theorem x_opens {d : Nat} (hd : 6 ≤ d) {σ : am_S} {t : Nat} {T : sp_T} {v : sp_V} (hL : PL_ 68 t T v σ) (hV : TV_ T) {b : Int} (hW : VV_ T b v) (hb9 : b < 900000) (hD : DN_ T v) {a e : Nat} {hs : Nat → sp_V} (hH : XH_ T a e hs σ) {x : Int} {Q : Option am_V → am_S → Prop} (hN : (sn_ T v x) = false → Q (some (am_I (-1))) σ) (hY : (sn_ T v x) = true → ∀ σ', hz_ t σ σ' → PL_ 68 t T (op_ T v x.toNat) σ' → XH_ T (ha_ a) 0 (hk_ a hs (op_ T v x.toNat)) σ' → Q (some (am_I (op_ T v x.toNat (12 + x.toNat)))) σ') : am_Ev d 109 [am_R 0, am_I x] σ Q := by
  obtain ⟨d, rfl⟩ : ∃ e, d = e + 1 := ⟨d - 1, by omega⟩
  have h6 := hV.nP
  have hO8 := hV.nO
  have hS4 := hV.nS
  have hR3 := hV.nR
  refine ev_in (m := 109) (c := k_X8_opens) (L := [some (am_R 0), some (am_I x)]) rfl rfl rfl rfl rfl rfl ?_
  refine ax_load (q := 1) rfl rfl rfl rfl rfl ?_
  refine ax_load (q := 2) rfl rfl rfl rfl rfl ?_
  refine ax_callv (q := 5) rfl rfl rfl rfl rfl rfl ?_
  refine x_isUnopened (by omega) hL hV ?_
  refine ax_if_ne (q := 8) (x := 10) rfl rfl (fun h5 => ?_) (fun h5 => ?_)
  · have hb5 := it_n0 h5
    obtain ⟨p, rfl, hp, hsh⟩ := sn_t hb5
    refine ax_load (q := 11) rfl rfl rfl rfl rfl ?_
    refine ax_getf (q := 14) (v := am_R 68) rfl rfl (rfl) ?_
    refine ax_load (q := 15) rfl rfl rfl rfl rfl ?_
    refine ax_callv (q := 18) rfl rfl rfl rfl rfl rfl ?_
    refine x_openLetter (by omega) hL hV hW hD hp (fun x9 hx9 => ?_)
    refine ax_load (q := 19) rfl rfl rfl rfl rfl ?_
    refine ax_callv (q := 22) rfl rfl rfl rfl rfl rfl ?_
    obtain ⟨σ1, h1⟩ : ∃ s9, s9 = (am_sI σ 69 x9) := ⟨_, rfl⟩
    rw [← h1]
    have hfa : hz_ t σ σ1 := ⟨fun b b1 _ _ _ => by rw [h1]; simp only [sI_ne b1], by rw [h1]; rfl⟩
    have hr1 : RW_x T (op_ T v p) (σ1.1 69) := by rw [h1]; simp only [sI_at]; exact hx9
    have hH1 : XH_ T a e hs σ1 := hH.cg (fun b hb => by rw [h1]; simp only [sI_ne (show b ≠ 69 by omega)])
    refine x_keepAct (by omega) hH1 hr1 h6.2 (fun σ2 hf2 hH2 => ?_)
    have hfb : hz_ t σ σ2 := ⟨fun b b1 b2 b3 b4 => (hf2.1 b b2 b4).trans (hfa.1 b b1 b2 b3 b4), hf2.2.trans hfa.2⟩
    have hr2 : RW_x T (op_ T v p) (σ2.1 69) := by rw [hf2.1 69 (by decide) (by decide)]; exact hr1
    have hL2 := hL.hz hfb hr2
    refine ax_load (q := 23) rfl rfl rfl rfl rfl ?_
    refine ax_getf (q := 26) (v := am_R 68) rfl rfl (rfl) ?_
    refine ax_getf (q := 29) (v := am_R 69) rfl rfl (rfl) ?_
    refine ax_const (q := 31) (v := am_I 6) rfl rfl rfl ?_
    refine ax_load (q := 32) rfl rfl rfl rfl rfl ?_
    refine ax_iadd (q := 33) (z := ((6 + p : Nat) : Int)) rfl rfl (am_we (by omega) (by omega) (by omega)) ?_
    refine bx_iald (q := 34) (k := 6 + p) (z := op_ T v p (12 + p)) rfl rfl (rfl) (by omega) (by omega) (hL2.rw.hw _ hp) ?_
    refine ax_ret (r := some (am_I (op_ T v p (12 + p)))) rfl rfl ?_
    have hY2 := hY (hb5)
    simp only [Int.toNat_natCast] at hY2
    exact hY2 _ hfb hL2 hH2
  · have hb5 := it_0 h5
    refine ax_const (q := 9) (v := am_I (-1)) rfl rfl rfl ?_
    refine ax_ret (r := some (am_I (-1))) rfl rfl ?_
    refine hN ?_
    first | exact hb5 | simp [*]

theorem x_swap {d : Nat} (hd : 5 ≤ d) {σ : am_S} {t : Nat} {T : sp_T} {v : sp_V} (hL : PL_ 68 t T v σ) (hV : TV_ T) {b : Int} (hW : VV_ T b v) (hb9 : b < 900000) (hD : DN_ T v) {a e : Nat} {hs : Nat → sp_V} (hH : XH_ T a e hs σ) {x y : Int} {Q : Option am_V → am_S → Prop} (hN : (sn_ T v x && (sn_ T v y && decide (¬ x = y))) = false → Q (some (am_I (0))) σ) (hY : (sn_ T v x && (sn_ T v y && decide (¬ x = y))) = true → ∀ σ', hz_ t σ σ' → PL_ 68 t T (am_up (am_up (am_up (am_up v (6 + x.toNat) (v (6 + y.toNat))) (6 + y.toNat) (v (6 + x.toNat))) (12 + x.toNat) 0) (12 + y.toNat) 0) σ' → XH_ T (ha_ a) 0 (hk_ a hs (am_up (am_up (am_up (am_up v (6 + x.toNat) (v (6 + y.toNat))) (6 + y.toNat) (v (6 + x.toNat))) (12 + x.toNat) 0) (12 + y.toNat) 0)) σ' → Q (some (am_I (1))) σ') : am_Ev d 107 [am_R 0, am_I x, am_I y] σ Q := by
  obtain ⟨d, rfl⟩ : ∃ e, d = e + 1 := ⟨d - 1, by omega⟩
  have h6 := hV.nP
  have hO8 := hV.nO
  have hS4 := hV.nS
  have hR3 := hV.nR
  refine ev_in (m := 107) (c := k_X8_swap) (L := [some (am_R 0), some (am_I x), some (am_I y), none]) rfl rfl rfl rfl rfl rfl ?_
  refine ax_load (q := 1) rfl rfl rfl rfl rfl ?_
  refine ax_load (q := 2) rfl rfl rfl rfl rfl ?_
  refine ax_icmp_eq (q := 5) (x := 21) rfl rfl (fun h2 => ?_) (fun h2 => ?_)
  · refine ax_const (q := 22) (v := am_I 0) rfl rfl rfl ?_
    refine ax_ret (r := some (am_I 0)) rfl ⟨rfl, Or.inl rfl⟩ ?_
    refine hN ?_
    first | (simp only [hb10, hb18, Bool.false_and, Bool.and_false]) | (rw [hb10]; rfl) | (rw [show decide (¬ x = y) = false from decide_eq_false (by omega), Bool.and_false, Bool.and_false])
  · refine ax_load (q := 6) rfl rfl rfl rfl rfl ?_
    refine ax_load (q := 7) rfl rfl rfl rfl rfl ?_
    refine ax_callv (q := 10) rfl rfl rfl rfl rfl rfl ?_
    refine x_isUnopened (by omega) hL hV ?_
    refine ax_if_eq (q := 13) (x := 21) rfl rfl (fun h10 => ?_) (fun h10 => ?_)
    · have hb10 := it_0 h10
      refine ax_const (q := 22) (v := am_I 0) rfl rfl rfl ?_
      refine ax_ret (r := some (am_I 0)) rfl ⟨rfl, Or.inl rfl⟩ ?_
      refine hN ?_
      first | (simp only [hb10, hb18, Bool.false_and, Bool.and_false]) | (rw [hb10]; rfl) | (rw [show decide (¬ x = y) = false from decide_eq_false (by omega), Bool.and_false, Bool.and_false])
    · have hb10 := it_n0 h10
      obtain ⟨p, rfl, hp, hsh⟩ := sn_t hb10
      refine ax_load (q := 14) rfl rfl rfl rfl rfl ?_
      refine ax_load (q := 15) rfl rfl rfl rfl rfl ?_
      refine ax_callv (q := 18) rfl rfl rfl rfl rfl rfl ?_
      refine x_isUnopened (by omega) hL hV ?_
      refine ax_if_ne (q := 21) (x := 23) rfl rfl (fun h18 => ?_) (fun h18 => ?_)
      · have hb18 := it_n0 h18
        obtain ⟨r, rfl, hr, hsh2⟩ := sn_t hb18
        refine ax_load (q := 24) rfl rfl rfl rfl rfl ?_
        refine ax_getf (q := 27) (v := am_R 68) rfl rfl (rfl) ?_
        refine ax_getf (q := 30) (v := am_R 69) rfl rfl (rfl) ?_
        refine ax_const (q := 32) (v := am_I 18) rfl rfl rfl ?_
        refine ax_load (q := 33) rfl rfl rfl rfl rfl ?_
        refine ax_iadd (q := 34) (z := ((18 + p : Nat) : Int)) rfl rfl (am_we (by omega) (by omega) (by omega)) ?_
        refine bx_iald (q := 35) (k := 18 + p) (z := v (6 + p)) rfl rfl (rfl) (by omega) (by omega) (hL.rw.hd _ (by omega)) ?_
        refine ax_store (q := 36) (L' := [some (am_R 0), some (am_I ((p : Nat) : Int)), some (am_I ((r : Nat) : Int)), some (am_I (v (6 + p)))]) rfl rfl rfl rfl rfl rfl ?_
        refine ax_load (q := 37) rfl rfl rfl rfl rfl ?_
        refine ax_getf (q := 40) (v := am_R 68) rfl rfl (rfl) ?_
        refine ax_getf (q := 43) (v := am_R 69) rfl rfl (rfl) ?_
        refine ax_const (q := 45) (v := am_I 18) rfl rfl rfl ?_
        refine ax_load (q := 46) rfl rfl rfl rfl rfl ?_
        refine ax_iadd (q := 47) (z := ((18 + p : Nat) : Int)) rfl rfl (am_we (by omega) (by omega) (by omega)) ?_
        refine ax_load (q := 48) rfl rfl rfl rfl rfl ?_
        refine ax_getf (q := 51) (v := am_R 68) rfl rfl (rfl) ?_
        refine ax_getf (q := 54) (v := am_R 69) rfl rfl (rfl) ?_
        refine ax_const (q := 56) (v := am_I 18) rfl rfl rfl ?_
        refine ax_load (q := 57) rfl rfl rfl rfl rfl ?_
        refine ax_iadd (q := 58) (z := ((18 + r : Nat) : Int)) rfl rfl (am_we (by omega) (by omega) (by omega)) ?_
        refine bx_iald (q := 59) (k := 18 + r) (z := v (6 + r)) rfl rfl (rfl) (by omega) (by omega) (hL.rw.hd _ (by omega)) ?_
        refine bx_iast (q := 60) (k := 18 + p) rfl rfl (rfl) (by omega) (by omega) ?_
        refine ax_load (q := 61) rfl rfl rfl rfl rfl ?_
        refine ax_getf (q := 64) (v := am_R 68) rfl rfl (rfl) ?_
        refine ax_getf (q := 67) (v := am_R 69) rfl rfl (rfl) ?_
        refine ax_const (q := 69) (v := am_I 18) rfl rfl rfl ?_
        refine ax_load (q := 70) rfl rfl rfl rfl rfl ?_
        refine ax_iadd (q := 71) (z := ((18 + r : Nat) : Int)) rfl rfl (am_we (by omega) (by omega) (by omega)) ?_
        refine ax_load (q := 72) rfl rfl rfl rfl rfl ?_
        refine bx_iast (q := 73) (k := 18 + r) rfl rfl (rfl) (by omega) (by omega) ?_
        refine ax_load (q := 74) rfl rfl rfl rfl rfl ?_
        refine ax_getf (q := 77) (v := am_R 68) rfl rfl (rfl) ?_
        refine ax_getf (q := 80) (v := am_R 69) rfl rfl (rfl) ?_
        refine ax_const (q := 82) (v := am_I 6) rfl rfl rfl ?_
        refine ax_load (q := 83) rfl rfl rfl rfl rfl ?_
        refine ax_iadd (q := 84) (z := ((6 + p : Nat) : Int)) rfl rfl (am_we (by omega) (by omega) (by omega)) ?_
        refine ax_const (q := 85) (v := am_I 0) rfl rfl rfl ?_
        refine bx_iast (q := 86) (k := 6 + p) rfl rfl (rfl) (by omega) (by omega) ?_
        refine ax_load (q := 87) rfl rfl rfl rfl rfl ?_
        refine ax_getf (q := 90) (v := am_R 68) rfl rfl (rfl) ?_
        refine ax_getf (q := 93) (v := am_R 69) rfl rfl (rfl) ?_
        refine ax_const (q := 95) (v := am_I 6) rfl rfl rfl ?_
        refine ax_load (q := 96) rfl rfl rfl rfl rfl ?_
        refine ax_iadd (q := 97) (z := ((6 + r : Nat) : Int)) rfl rfl (am_we (by omega) (by omega) (by omega)) ?_
        refine ax_const (q := 98) (v := am_I 0) rfl rfl rfl ?_
        refine bx_iast (q := 99) (k := 6 + r) rfl rfl (rfl) (by omega) (by omega) ?_
        refine ax_load (q := 100) rfl rfl rfl rfl rfl ?_
        refine ax_callv (q := 103) rfl rfl rfl rfl rfl rfl ?_
        obtain ⟨σ1, h1⟩ : ∃ s9, s9 = (am_sI (am_sI (am_sI (am_sI σ 69 (am_up (σ.1 69) (18 + p) (v (6 + r)))) 69 (am_up ((am_sI σ 69 (am_up (σ.1 69) (18 + p) (v (6 + r)))).1 69) (18 + r) (v (6 + p)))) 69 (am_up ((am_sI (am_sI σ 69 (am_up (σ.1 69) (18 + p) (v (6 + r)))) 69 (am_up ((am_sI σ 69 (am_up (σ.1 69) (18 + p) (v (6 + r)))).1 69) (18 + r) (v (6 + p)))).1 69) (6 + p) 0)) 69 (am_up ((am_sI (am_sI (am_sI σ 69 (am_up (σ.1 69) (18 + p) (v (6 + r)))) 69 (am_up ((am_sI σ 69 (am_up (σ.1 69) (18 + p) (v (6 + r)))).1 69) (18 + r) (v (6 + p)))) 69 (am_up ((am_sI (am_sI σ 69 (am_up (σ.1 69) (18 + p) (v (6 + r)))) 69 (am_up ((am_sI σ 69 (am_up (σ.1 69) (18 + p) (v (6 + r)))).1 69) (18 + r) (v (6 + p)))).1 69) (6 + p) 0)).1 69) (6 + r) 0)) := ⟨_, rfl⟩
        rw [← h1]
        have hfa : hz_ t σ σ1 := ⟨fun b b1 _ _ _ => by rw [h1]; simp only [sI_ne b1], by rw [h1]; rfl⟩
        have hr1 : RW_x T (am_up (am_up (am_up (am_up v (6 + p) (v (6 + r))) (6 + r) (v (6 + p))) (12 + p) 0) (12 + r) 0) (σ1.1 69) := by rw [h1]; simp only [sI_at]; exact (((hL.rw.hd_ h6.2 hp).hd_ h6.2 hr).hw_ h6.2 hp).hw_ h6.2 hr
        have hH1 : XH_ T a e hs σ1 := hH.cg (fun b hb => by rw [h1]; simp only [sI_ne (show b ≠ 69 by omega)])
        refine x_keepAct (by omega) hH1 hr1 h6.2 (fun σ2 hf2 hH2 => ?_)
        have hfb : hz_ t σ σ2 := ⟨fun b b1 b2 b3 b4 => (hf2.1 b b2 b4).trans (hfa.1 b b1 b2 b3 b4), hf2.2.trans hfa.2⟩
        have hr2 : RW_x T (am_up (am_up (am_up (am_up v (6 + p) (v (6 + r))) (6 + r) (v (6 + p))) (12 + p) 0) (12 + r) 0) (σ2.1 69) := by rw [hf2.1 69 (by decide) (by decide)]; exact hr1
        have hL2 := hL.hz hfb hr2
        refine ax_const (q := 104) (v := am_I 1) rfl rfl rfl ?_
        refine ax_ret (r := some (am_I 1)) rfl ⟨rfl, Or.inr rfl⟩ ?_
        have hY2 := hY (by rw [hb10, hb18, decide_eq_true h2]; rfl)
        simp only [Int.toNat_natCast] at hY2
        exact hY2 _ hfb hL2 hH2
      · have hb18 := it_0 h18
        refine ax_const (q := 22) (v := am_I 0) rfl rfl rfl ?_
        refine ax_ret (r := some (am_I 0)) rfl ⟨rfl, Or.inl rfl⟩ ?_
        refine hN ?_
        first | (simp only [hb10, hb18, Bool.false_and, Bool.and_false]) | (rw [hb10]; rfl) | (rw [show decide (¬ x = y) = false from decide_eq_false (by omega), Bool.and_false, Bool.and_false])

theorem x_year {d : Nat} (hd : 6 ≤ d) {σ : am_S} {t : Nat} {T : sp_T} {v : sp_V} (hL : PL_ 68 t T v σ) (hV : TV_ T) {b : Int} (hW : VV_ T b v) (hb9 : b < 900000) (hD : DN_ T v) {a e : Nat} {hs : Nat → sp_V} (hH : XH_ T a e hs σ) (h999 : v 49 ≤ 999) {Q : Option am_V → am_S → Prop} (hN : (decide (¬ v 49 = 999)) = false → Q (some (am_I (-1))) σ) (hY : (decide (¬ v 49 = 999)) = true → ∀ σ', hz_ t σ σ' → PL_ 68 t T (yr_ T v) σ' → DN_ T (yr_ T v) → XH_ T (ha_ a) 0 (hk_ a hs (yr_ T v)) σ' → Q (some (am_I (((yo_ T v : Nat) : Int)))) σ') : am_Ev d 110 [am_R 0] σ Q := by
  obtain ⟨d, rfl⟩ : ∃ e, d = e + 1 := ⟨d - 1, by omega⟩
  have h6 := hV.nP
  have hO8 := hV.nO
  have hS4 := hV.nS
  have hR3 := hV.nR
  have ht := hL.ht
  refine ev_in (m := 110) (c := k_X8_year) (L := [some (am_R 0), none]) rfl rfl rfl rfl rfl rfl ?_
  refine ax_load (q := 1) rfl rfl rfl rfl rfl ?_
  refine ax_getf (q := 4) (v := am_R 68) rfl rfl (rfl) ?_
  refine ax_getf (q := 7) (v := am_R 69) rfl rfl (rfl) ?_
  refine ax_const (q := 9) (v := am_I 48) rfl rfl rfl ?_
  refine bx_iald (q := 10) (k := 48) (z := v 49) rfl rfl (rfl) (by omega) (by omega) (hL.rw.yr) ?_
  refine ax_const (q := 13) (v := am_I 999) rfl rfl rfl ?_
  refine ax_icmp_lt (q := 16) (x := 18) rfl rfl (fun h13 => ?_) (fun h13 => ?_)
  · refine ax_load (q := 19) rfl rfl rfl rfl rfl ?_
    refine ax_getf (q := 22) (v := am_R 68) rfl rfl (rfl) ?_
    refine ax_callv (q := 25) rfl rfl rfl rfl rfl rfl ?_
    refine x_passYear (by omega) hL hV hW (by omega) hD (fun σ1 hf1 hL1 hD1 => ?_)
    refine ax_store (q := 26) (L' := [some (am_R 0), some (am_I ((yo_ T v : Nat) : Int))]) rfl rfl rfl rfl rfl rfl ?_
    refine ax_load (q := 27) rfl rfl rfl rfl rfl ?_
    refine ax_callv (q := 30) rfl rfl rfl rfl rfl rfl ?_
    have hr1 : RW_x T (yr_ T v) (σ1.1 69) := hL1.rw
    have hH1 : XH_ T a e hs σ1 := hH.cg (fun b hb => hf1.1 b (by simp; omega))
    refine x_keepAct (by omega) hH1 hr1 h6.2 (fun σ2 hf2 hH2 => ?_)
    have hfb : hz_ t σ σ2 := ⟨fun b b1 b2 b3 b4 => (hf2.1 b b2 b4).trans (hf1.1 b (by simp; omega)), hf2.2.trans hf1.2⟩
    have hL2 := hL.hz hfb (by rw [hf2.1 69 (by decide) (by decide)]; exact hr1)
    refine ax_load (q := 31) rfl rfl rfl rfl rfl ?_
    refine ax_ret (r := some (am_I ((yo_ T v : Nat) : Int))) rfl rfl ?_
    exact hY (decide_eq_true (by omega)) _ hfb hL2 hD1 hH2
  · refine ax_const (q := 17) (v := am_I (-1)) rfl rfl rfl ?_
    refine ax_ret (r := some (am_I (-1))) rfl rfl ?_
    exact hN (decide_eq_false (by omega))

theorem x_undo {d : Nat} (hd : 3 ≤ d) {σ : am_S} {t : Nat} {T : sp_T} {v : sp_V} (hL : PL_ 68 t T v σ) (hV : TV_ T) {a e : Nat} {hs : Nat → sp_V} (hH : XH_ T a e hs σ) {Q : Option am_V → am_S → Prop} (hN : a = 0 → Q (some (am_I 0)) σ) (hY : 0 < a → ∀ σ', hz_ t σ σ' → PL_ 68 t T (hs (a - 1)) σ' → XH_ T (a - 1) (e + 1) hs σ' → Q (some (am_I 1)) σ') : am_Ev d 111 [am_R 0] σ Q := by
  obtain ⟨d, rfl⟩ : ∃ e, d = e + 1 := ⟨d - 1, by omega⟩
  have h6 := hV.nP
  refine ev_in (m := 111) (c := k_X8_undo) (L := [some (am_R 0)]) rfl rfl rfl rfl rfl rfl ?_
  refine ax_load (q := 1) rfl rfl rfl rfl rfl ?_
  refine ax_getf (q := 4) (v := am_R 72) rfl rfl (rfl) ?_
  refine ax_load (q := 5) rfl rfl rfl rfl rfl ?_
  refine ax_getf (q := 8) (v := am_R 68) rfl rfl (rfl) ?_
  refine ax_getf (q := 11) (v := am_R 69) rfl rfl (rfl) ?_
  refine ax_callv (q := 14) rfl rfl rfl rfl rfl rfl ?_
  refine x_hback (by omega) hH h6.2 (fun h0 => ?_) (fun h0 σ1 hf1 hH1 hr1 => ?_)
  · refine ax_ret (r := some (am_I 0)) rfl ⟨rfl, Or.inl rfl⟩ ?_
    exact hN h0
  · refine ax_ret (r := some (am_I 1)) rfl ⟨rfl, Or.inr rfl⟩ ?_
    have hfz : hz_ t σ σ1 := ⟨fun b b1 b2 _ _ => hf1.1 b b1 b2, hf1.2⟩
    exact hY h0 _ hfz (hL.hz hfz hr1) hH1

theorem x_redo {d : Nat} (hd : 3 ≤ d) {σ : am_S} {t : Nat} {T : sp_T} {v : sp_V} (hL : PL_ 68 t T v σ) (hV : TV_ T) {a e : Nat} {hs : Nat → sp_V} (hH : XH_ T a e hs σ) {Q : Option am_V → am_S → Prop} (hN : e = 0 → Q (some (am_I 0)) σ) (hY : 0 < e → ∀ σ', hz_ t σ σ' → PL_ 68 t T (hs (a + 1)) σ' → XH_ T (a + 1) (e - 1) hs σ' → Q (some (am_I 1)) σ') : am_Ev d 112 [am_R 0] σ Q := by
  obtain ⟨d, rfl⟩ : ∃ e, d = e + 1 := ⟨d - 1, by omega⟩
  have h6 := hV.nP
  refine ev_in (m := 112) (c := k_X8_redo) (L := [some (am_R 0)]) rfl rfl rfl rfl rfl rfl ?_
  refine ax_load (q := 1) rfl rfl rfl rfl rfl ?_
  refine ax_getf (q := 4) (v := am_R 72) rfl rfl (rfl) ?_
  refine ax_load (q := 5) rfl rfl rfl rfl rfl ?_
  refine ax_getf (q := 8) (v := am_R 68) rfl rfl (rfl) ?_
  refine ax_getf (q := 11) (v := am_R 69) rfl rfl (rfl) ?_
  refine ax_callv (q := 14) rfl rfl rfl rfl rfl rfl ?_
  refine x_hon (by omega) hH h6.2 (fun h0 => ?_) (fun h0 σ1 hf1 hH1 hr1 => ?_)
  · refine ax_ret (r := some (am_I 0)) rfl ⟨rfl, Or.inl rfl⟩ ?_
    exact hN h0
  · refine ax_ret (r := some (am_I 1)) rfl ⟨rfl, Or.inr rfl⟩ ?_
    have hfz : hz_ t σ σ1 := ⟨fun b b1 b2 _ _ => hf1.1 b b1 b2, hf1.2⟩
    exact hY h0 _ hfz (hL.hz hfz hr1) hH1

