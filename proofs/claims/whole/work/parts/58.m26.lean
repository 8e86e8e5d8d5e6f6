theorem up_id {α : Type} (f : Nat → α) (k : Nat) : am_up f k (f k) = f := by
  funext j
  by_cases h : j = k
  · subst h; rw [am_up_same]
  · rw [am_up_ne h]

theorem m_token {d : Nat} (hd : 2 ≤ d) {σ : am_S} {tp : Nat → Int} (h136 : σ.1 136 = tp) {n : Nat} (hn : σ.1 135 5 = (n : Int)) (hn9 : n ≤ 1600) {a : Nat} (ha : σ.1 135 4 = (a : Int)) (han : a ≤ n) {Q : Option am_V → am_S → Prop} (hQ : ∀ σ', fp_ [] [4, 6, 7, 8, 9] [] σ σ' → TK_ tp n (skp_ tp n (n - a) a) σ' → Q none σ') : am_Ev d 146 [am_R 135] σ Q := by
  obtain ⟨d, rfl⟩ : ∃ e, d = e + 1 := ⟨d - 1, by omega⟩
  obtain ⟨p, hp⟩ : ∃ p, p = skp_ tp n (n - a) a := ⟨_, rfl⟩
  have hpl := skp_le tp n (n - a) a
  rw [← hp] at hQ hpl
  have hpn : p ≤ n := by omega
  have e0 : am_sI σ 135 (am_up (σ.1 135) 4 (a : Int)) = σ := by rw [← ha, up_id, sI_id]
  refine ev_in (m := 146) (c := k_X9_token) (L := [some (am_R 135), none, none]) rfl rfl rfl rfl rfl rfl ?_
  have g := l_tok1 (d := d) (by omega) h136 hn hn9 (Q := Q) (n - a) a (by omega) ?_
  · rw [e0] at g
    exact g
  rw [← hp]
  obtain ⟨σ1, hσ1⟩ : ∃ s, s = am_sI σ 135 (am_up (σ.1 135) 4 (p : Int)) := ⟨_, rfl⟩
  rw [← hσ1]
  have hf1 : fp_ [] [4, 6, 7, 8, 9] [] σ σ1 := by rw [hσ1]; exact fp_s5 (fp_rf _ _ _ _) (by decide)
  have h4 : σ1.1 135 4 = (p : Int) := by rw [hσ1, sI_at, am_up_same]
  have h51 : σ1.1 135 5 = (n : Int) := (hf1.2.1 5 (by decide)).trans hn
  have h361 : σ1.1 136 = tp := (hf1.1 136 (by decide) (by decide)).trans h136
  refine ax_load (q := 34) rfl rfl rfl rfl rfl ?_
  refine ax_load (q := 35) rfl rfl rfl rfl rfl ?_
  refine ax_getf (q := 38) (v := am_I ((p : Nat) : Int)) rfl rfl (am_fg rfl h4) ?_
  refine ax_putf (q := 41) rfl rfl rfl ?_
  refine ax_load (q := 42) rfl rfl rfl rfl rfl ?_
  refine ax_const (q := 43) (v := am_I 0) rfl rfl rfl ?_
  refine ax_callv (q := 46) rfl rfl rfl rfl rfl rfl ?_
  refine m_here0 (σ := (am_sI σ1 135 (am_up (σ1.1 135) 7 ((p : Nat) : Int)))) (tp := tp) (n := n) (a := p) (by omega) ((sI_ne (by decide)).trans h361) (by rw [sI_at, am_up_ne (by decide)]; exact h51) (by rw [sI_at, am_up_ne (by decide)]; exact h4) hn9 (by omega) ?_
  obtain ⟨c, hc⟩ : ∃ c, c = hr_ tp n p := ⟨_, rfl⟩
  rw [← hc]
  refine ax_store (q := 47) (L' := [some (am_R 135), some (am_I c), none]) rfl rfl rfl rfl rfl rfl ?_
  refine ax_const (q := 48) (v := am_I 0) rfl rfl rfl ?_
  refine ax_store (q := 49) (L' := [some (am_R 135), some (am_I c), some (am_I 0)]) rfl rfl rfl rfl rfl rfl ?_
  refine ax_load (q := 50) rfl rfl rfl rfl rfl ?_
  refine ax_const (q := 51) (v := am_J 0) rfl rfl rfl ?_
  refine ax_putf (q := 54) rfl rfl rfl ?_
  refine ax_load (q := 55) rfl rfl rfl rfl rfl ?_
  refine ax_const (q := 56) (v := am_I 0) rfl rfl rfl ?_
  refine ax_putf (q := 59) rfl rfl rfl ?_
  obtain ⟨σ2, hσ2⟩ : ∃ s, s = (am_sI (am_sL (am_sI σ1 135 (am_up (σ1.1 135) 7 ((p : Nat) : Int))) 135 (am_up ((am_sI σ1 135 (am_up (σ1.1 135) 7 ((p : Nat) : Int))).2.1 135) 9 0)) 135 (am_up ((am_sL (am_sI σ1 135 (am_up (σ1.1 135) 7 ((p : Nat) : Int))) 135 (am_up ((am_sI σ1 135 (am_up (σ1.1 135) 7 ((p : Nat) : Int))).2.1 135) 9 0)).1 135) 8 0)) := ⟨_, rfl⟩
  rw [← hσ2]
  have hf2 : fp_ [] [4, 6, 7, 8, 9] [] σ σ2 := by rw [hσ2]; exact fp_s5 (fp_l5 (fp_s5 hf1 (by decide)) (by decide)) (by decide)
  have h42 : σ2.1 135 4 = (p : Int) := by rw [hσ2]; simp [am_sI, am_sL, am_up, h4]
  have h52 : σ2.1 135 5 = (n : Int) := (hf2.2.1 5 (by decide)).trans hn
  have h362 : σ2.1 136 = tp := (hf2.1 136 (by decide) (by decide)).trans h136
  have h72 : σ2.1 135 7 = (p : Int) := by rw [hσ2]; simp [am_sI, am_sL, am_up]
  have h82 : σ2.1 135 8 = 0 := by rw [hσ2]; simp [am_sI, am_sL, am_up]
  have h92 : σ2.2.1 135 9 = 0 := by rw [hσ2]; simp [am_sI, am_sL, am_up]
  clear hσ2
  refine ax_load (q := 60) rfl rfl rfl rfl rfl ?_
  refine ax_if_ge (q := 63) (x := 71) rfl rfl (fun h60 => ?_) (fun h60 => ?_)
  · refine ax_load (q := 72) rfl rfl rfl rfl rfl ?_
    refine ax_calls (q := 75) rfl rfl rfl rfl rfl ?_
    refine m_isLetter (by omega) ?_
    refine ax_if_eq (q := 78) (x := 137) rfl rfl (fun h75 => ?_) (fun h75 => ?_)
    · have hb75 := it_0 h75
      refine ax_load (q := 138) rfl rfl rfl rfl rfl ?_
      refine ax_calls (q := 141) rfl rfl rfl rfl rfl ?_
      refine m_isDigit (by omega) ?_
      refine ax_if_eq (q := 144) (x := 214) rfl rfl (fun h141 => ?_) (fun h141 => ?_)
      · have hb141 := it_0 h141
        refine ax_const (q := 215) (v := am_I 1) rfl rfl rfl ?_
        refine ax_store (q := 216) (L' := [some (am_R 135), some (am_I c), some (am_I 1)]) rfl rfl rfl rfl rfl rfl ?_
        refine ax_load (q := 217) rfl rfl rfl rfl rfl ?_
        refine ax_load (q := 218) rfl rfl rfl rfl rfl ?_
        refine ax_calls (q := 221) rfl rfl rfl rfl rfl ?_
        refine m_isSign (by omega) ?_
        refine ax_if_eq (q := 224) (x := 228) rfl rfl (fun h221 => ?_) (fun h221 => ?_)
        · have hb221 := it_0 h221
          refine ax_const (q := 229) (v := am_I 3) rfl rfl rfl ?_
          refine ax_putf (q := 232) rfl rfl rfl ?_
          refine ax_load (q := 233) rfl rfl rfl rfl rfl ?_
          refine ax_getf (q := 236) (v := am_I 3) rfl rfl (am_fg rfl (by rw [sI_at, am_up_same])) ?_
          refine ax_const (q := 237) (v := am_I 3) rfl rfl rfl ?_
          refine ax_icmp_eq (q := 240) (x := 250) rfl rfl (fun h237 => ?_) (fun h => absurd h (by omega))
          refine ax_ret (r := none) rfl rfl ?_
          have hn75 : ¬ lt_ c = true := by rw [hb75]; decide
          have hn141 : ¬ dt_ c = true := by rw [hb141]; decide
          have kl : tkl_ tp n p = 1 := by unfold tkl_; rw [← hc, if_neg (by omega), if_neg hn75, if_neg hn141]
          have ks : tks_ tp n p = 3 := by unfold tks_; rw [← hc, if_neg (by omega), if_neg hn75, if_neg hn141]; first | exact if_pos hb221 | exact if_neg (by rw [hb221]; decide)
          have kn : tkn_ tp n p = 0 := by unfold tkn_; rw [← hc, if_neg (by omega), if_neg hn75, if_neg hn141]
          have kw : tkw_ tp n p = 0 := by unfold tkw_; rw [← hc, if_neg (by omega), if_neg hn75]
          have ka : tka_ tp n p = p := by unfold tka_; rw [ks, kl]; first | exact if_pos rfl | exact if_neg (by omega) | exact if_neg (by have := of_decide_eq_true hb221; omega)
          refine hQ _ (fp_s5 hf2 (by decide)) ⟨?_, ?_, ?_, ?_, ?_⟩
          · rw [ka]; simp [am_sI, am_sL, am_up, h42, h72, h82, h92]
          · rw [ks]; simp [am_sI, am_sL, am_up, h42, h72, h82, h92]
          · simp [am_sI, am_sL, am_up, h42, h72, h82, h92]
          · rw [kn]; simp [am_sI, am_sL, am_up, h42, h72, h82, h92]
          · rw [kw]; simp [am_sI, am_sL, am_up, h42, h72, h82, h92]
        · have hb221 := it_n0 h221
          refine ax_load (q := 225) rfl rfl rfl rfl rfl ?_
          refine ax_goto (x := 229) rfl ?_
          refine ax_putf (q := 232) rfl rfl rfl ?_
          refine ax_load (q := 233) rfl rfl rfl rfl rfl ?_
          refine ax_getf (q := 236) (v := am_I c) rfl rfl (am_fg rfl (by rw [sI_at, am_up_same])) ?_
          refine ax_const (q := 237) (v := am_I 3) rfl rfl rfl ?_
          refine ax_icmp_eq (q := 240) (x := 250) rfl rfl (fun h => absurd h (by have := of_decide_eq_true hb221; omega)) (fun h237 => ?_)
          refine ax_load (q := 241) rfl rfl rfl rfl rfl ?_
          refine ax_dup (q := 242) rfl rfl rfl ?_
          refine ax_getf (q := 245) (v := am_I ((p : Nat) : Int)) rfl rfl (am_fg rfl (by simp [am_sI, am_sL, am_up, h42])) ?_
          refine ax_load (q := 246) rfl rfl rfl rfl rfl ?_
          refine ax_iadd (q := 247) (z := ((p + 1 : Nat) : Int)) rfl rfl (am_we (by omega) (by omega) (by omega)) ?_
          refine ax_putf (q := 250) rfl rfl rfl ?_
          refine ax_ret (r := none) rfl rfl ?_
          have hn75 : ¬ lt_ c = true := by rw [hb75]; decide
          have hn141 : ¬ dt_ c = true := by rw [hb141]; decide
          have kl : tkl_ tp n p = 1 := by unfold tkl_; rw [← hc, if_neg (by omega), if_neg hn75, if_neg hn141]
          have ks : tks_ tp n p = c := by unfold tks_; rw [← hc, if_neg (by omega), if_neg hn75, if_neg hn141]; first | exact if_pos hb221 | exact if_neg (by rw [hb221]; decide)
          have kn : tkn_ tp n p = 0 := by unfold tkn_; rw [← hc, if_neg (by omega), if_neg hn75, if_neg hn141]
          have kw : tkw_ tp n p = 0 := by unfold tkw_; rw [← hc, if_neg (by omega), if_neg hn75]
          have ka : tka_ tp n p = p + 1 := by unfold tka_; rw [ks, kl]; first | exact if_pos rfl | exact if_neg (by omega) | exact if_neg (by have := of_decide_eq_true hb221; omega)
          refine hQ _ (fp_s5 (fp_s5 hf2 (by decide)) (by decide)) ⟨?_, ?_, ?_, ?_, ?_⟩
          · rw [ka]; simp [am_sI, am_sL, am_up, h42, h72, h82, h92]
          · rw [ks]; simp [am_sI, am_sL, am_up, h42, h72, h82, h92]
          · simp [am_sI, am_sL, am_up, h42, h72, h82, h92]
          · rw [kn]; simp [am_sI, am_sL, am_up, h42, h72, h82, h92]
          · rw [kw]; simp [am_sI, am_sL, am_up, h42, h72, h82, h92]
      · have hb141 := it_n0 h141
        have e2 : am_sI σ2 135 (am_up (σ2.1 135) 8 (nv_ tp n p 0)) = σ2 := by rw [show nv_ tp n p 0 = σ2.1 135 8 from h82.symm, up_id, sI_id]
        have g := l_tok3 (σ := σ2) (d := d) (by omega) h362 h52 hn9 h42 hpn (c := c) (Q := Q) (n - p) 0 (by omega) (fun j hj => absurd hj (by omega))
        simp only [Nat.zero_add, Nat.add_zero] at g
        rw [e2] at g
        refine g ?_
        obtain ⟨len, hlen⟩ : ∃ x, x = rl_ dt_ tp n (n - p) p := ⟨_, rfl⟩
        have hll := rl_le dt_ tp n (n - p) p
        rw [← hlen] at hll ⊢
        clear g e2
        refine ax_load (q := 187) rfl rfl rfl rfl rfl ?_
        refine ax_load (q := 188) rfl rfl rfl rfl rfl ?_
        refine ax_const (q := 189) (v := am_I 4) rfl rfl rfl ?_
        refine ax_icmp_gt (q := 192) (x := 203) rfl rfl (fun h189 => ?_) (fun h189 => ?_)
        · refine ax_const (q := 204) (v := am_I 3) rfl rfl rfl ?_
          refine ax_goto (x := 208) rfl ?_
          refine ax_putf (q := 211) rfl rfl rfl ?_
          refine ax_goto (x := 232) rfl ?_
          refine ax_load (q := 233) rfl rfl rfl rfl rfl ?_
          refine ax_getf (q := 236) (v := am_I 3) rfl rfl (am_fg rfl (by rw [sI_at, am_up_same])) ?_
          refine ax_const (q := 237) (v := am_I 3) rfl rfl rfl ?_
          refine ax_icmp_eq (q := 240) (x := 250) rfl rfl (fun h237 => ?_) (fun h => absurd h (by omega))
          refine ax_ret (r := none) rfl rfl ?_
          have hn75 : ¬ lt_ c = true := by rw [hb75]; decide
          have kl : tkl_ tp n p = len := by unfold tkl_; rw [← hc, if_neg (by omega), if_neg hn75, if_pos hb141, hlen]
          have ks : tks_ tp n p = 3 := by unfold tks_; rw [kl, ← hc, if_neg (by omega), if_neg hn75, if_pos hb141]; first | exact if_pos (by rw [decide_eq_true (show 4 < len by omega)]; rfl) | exact if_pos (by rw [hb200]; simp) | exact if_neg (by rw [decide_eq_false (show ¬ 4 < len by omega), hb200]; decide)
          have kn : tkn_ tp n p = nv_ tp n p len := by unfold tkn_; rw [kl, ← hc, if_neg (by omega), if_neg hn75, if_pos hb141]
          have kw : tkw_ tp n p = 0 := by unfold tkw_; rw [← hc, if_neg (by omega), if_neg hn75]
          have ka : tka_ tp n p = p := by unfold tka_; rw [ks, kl]; first | exact if_pos rfl | exact if_neg (by omega) | exact if_neg (by have := of_decide_eq_true hb221; omega)
          refine hQ _ (fp_s5 (fp_s5 hf2 (by decide)) (by decide)) ⟨?_, ?_, ?_, ?_, ?_⟩
          · rw [ka]; simp [am_sI, am_sL, am_up, h42, h72, h82, h92]
          · rw [ks]; simp [am_sI, am_sL, am_up, h42, h72, h82, h92]
          · simp [am_sI, am_sL, am_up, h42, h72, h82, h92]
          · rw [kn]; simp [am_sI, am_sL, am_up, h42, h72, h82, h92]
          · rw [kw]; simp [am_sI, am_sL, am_up, h42, h72, h82, h92]
        · refine ax_load (q := 193) rfl rfl rfl rfl rfl ?_
          refine ax_load (q := 194) rfl rfl rfl rfl rfl ?_
          refine ax_callv (q := 197) rfl rfl rfl rfl rfl rfl ?_
          refine m_here (σ := (am_sI σ2 135 (am_up (σ2.1 135) 8 (nv_ tp n p len)))) (tp := tp) (n := n) (a := p) (k := len) (by omega) ((sI_ne (by decide)).trans h362) (by rw [sI_at, am_up_ne (by decide)]; exact h52) (by rw [sI_at, am_up_ne (by decide)]; exact h42) hn9 (by omega) ?_
          refine ax_calls (q := 200) rfl rfl rfl rfl rfl ?_
          refine m_isLetter (by omega) ?_
          refine ax_if_eq (q := 203) (x := 207) rfl rfl (fun h200 => ?_) (fun h200 => ?_)
          · have hb200 := it_0 h200
            refine ax_const (q := 208) (v := am_I 2) rfl rfl rfl ?_
            refine ax_putf (q := 211) rfl rfl rfl ?_
            refine ax_goto (x := 232) rfl ?_
            refine ax_load (q := 233) rfl rfl rfl rfl rfl ?_
            refine ax_getf (q := 236) (v := am_I 2) rfl rfl (am_fg rfl (by rw [sI_at, am_up_same])) ?_
            refine ax_const (q := 237) (v := am_I 3) rfl rfl rfl ?_
            refine ax_icmp_eq (q := 240) (x := 250) rfl rfl (fun h => absurd h (by omega)) (fun h237 => ?_)
            refine ax_load (q := 241) rfl rfl rfl rfl rfl ?_
            refine ax_dup (q := 242) rfl rfl rfl ?_
            refine ax_getf (q := 245) (v := am_I ((p : Nat) : Int)) rfl rfl (am_fg rfl (by simp [am_sI, am_sL, am_up, h42])) ?_
            refine ax_load (q := 246) rfl rfl rfl rfl rfl ?_
            refine ax_iadd (q := 247) (z := ((p + len : Nat) : Int)) rfl rfl (am_we (by omega) (by omega) (by omega)) ?_
            refine ax_putf (q := 250) rfl rfl rfl ?_
            refine ax_ret (r := none) rfl rfl ?_
            have hn75 : ¬ lt_ c = true := by rw [hb75]; decide
            have kl : tkl_ tp n p = len := by unfold tkl_; rw [← hc, if_neg (by omega), if_neg hn75, if_pos hb141, hlen]
            have ks : tks_ tp n p = 2 := by unfold tks_; rw [kl, ← hc, if_neg (by omega), if_neg hn75, if_pos hb141]; first | exact if_pos (by rw [decide_eq_true (show 4 < len by omega)]; rfl) | exact if_pos (by rw [hb200]; simp) | exact if_neg (by rw [decide_eq_false (show ¬ 4 < len by omega), hb200]; decide)
            have kn : tkn_ tp n p = nv_ tp n p len := by unfold tkn_; rw [kl, ← hc, if_neg (by omega), if_neg hn75, if_pos hb141]
            have kw : tkw_ tp n p = 0 := by unfold tkw_; rw [← hc, if_neg (by omega), if_neg hn75]
            have ka : tka_ tp n p = p + len := by unfold tka_; rw [ks, kl]; first | exact if_pos rfl | exact if_neg (by omega) | exact if_neg (by have := of_decide_eq_true hb221; omega)
            refine hQ _ (fp_s5 (fp_s5 (fp_s5 hf2 (by decide)) (by decide)) (by decide)) ⟨?_, ?_, ?_, ?_, ?_⟩
            · rw [ka]; simp [am_sI, am_sL, am_up, h42, h72, h82, h92]
            · rw [ks]; simp [am_sI, am_sL, am_up, h42, h72, h82, h92]
            · simp [am_sI, am_sL, am_up, h42, h72, h82, h92]
            · rw [kn]; simp [am_sI, am_sL, am_up, h42, h72, h82, h92]
            · rw [kw]; simp [am_sI, am_sL, am_up, h42, h72, h82, h92]
          · have hb200 := it_n0 h200
            refine ax_const (q := 204) (v := am_I 3) rfl rfl rfl ?_
            refine ax_goto (x := 208) rfl ?_
            refine ax_putf (q := 211) rfl rfl rfl ?_
            refine ax_goto (x := 232) rfl ?_
            refine ax_load (q := 233) rfl rfl rfl rfl rfl ?_
            refine ax_getf (q := 236) (v := am_I 3) rfl rfl (am_fg rfl (by rw [sI_at, am_up_same])) ?_
            refine ax_const (q := 237) (v := am_I 3) rfl rfl rfl ?_
            refine ax_icmp_eq (q := 240) (x := 250) rfl rfl (fun h237 => ?_) (fun h => absurd h (by omega))
            refine ax_ret (r := none) rfl rfl ?_
            have hn75 : ¬ lt_ c = true := by rw [hb75]; decide
            have kl : tkl_ tp n p = len := by unfold tkl_; rw [← hc, if_neg (by omega), if_neg hn75, if_pos hb141, hlen]
            have ks : tks_ tp n p = 3 := by unfold tks_; rw [kl, ← hc, if_neg (by omega), if_neg hn75, if_pos hb141]; first | exact if_pos (by rw [decide_eq_true (show 4 < len by omega)]; rfl) | exact if_pos (by rw [hb200]; simp) | exact if_neg (by rw [decide_eq_false (show ¬ 4 < len by omega), hb200]; decide)
            have kn : tkn_ tp n p = nv_ tp n p len := by unfold tkn_; rw [kl, ← hc, if_neg (by omega), if_neg hn75, if_pos hb141]
            have kw : tkw_ tp n p = 0 := by unfold tkw_; rw [← hc, if_neg (by omega), if_neg hn75]
            have ka : tka_ tp n p = p := by unfold tka_; rw [ks, kl]; first | exact if_pos rfl | exact if_neg (by omega) | exact if_neg (by have := of_decide_eq_true hb221; omega)
            refine hQ _ (fp_s5 (fp_s5 hf2 (by decide)) (by decide)) ⟨?_, ?_, ?_, ?_, ?_⟩
            · rw [ka]; simp [am_sI, am_sL, am_up, h42, h72, h82, h92]
            · rw [ks]; simp [am_sI, am_sL, am_up, h42, h72, h82, h92]
            · simp [am_sI, am_sL, am_up, h42, h72, h82, h92]
            · rw [kn]; simp [am_sI, am_sL, am_up, h42, h72, h82, h92]
            · rw [kw]; simp [am_sI, am_sL, am_up, h42, h72, h82, h92]
    · have hb75 := it_n0 h75
      have e2 : am_sL σ2 135 (am_up (σ2.2.1 135) 9 (wdv_ tp n p 0)) = σ2 := by rw [show wdv_ tp n p 0 = σ2.2.1 135 9 from h92.symm, up_id, sL_id]
      have g := l_tok2 (σ := σ2) (d := d) (by omega) h362 h52 hn9 h42 hpn (c := c) (Q := Q) (n - p) 0 (by omega)
      simp only [Nat.zero_add, Nat.add_zero] at g
      rw [e2] at g
      refine g ?_
      obtain ⟨len, hlen⟩ : ∃ x, x = rl_ lt_ tp n (n - p) p := ⟨_, rfl⟩
      have hll := rl_le lt_ tp n (n - p) p
      rw [← hlen] at hll ⊢
      clear g e2
      refine ax_load (q := 120) rfl rfl rfl rfl rfl ?_
      refine ax_load (q := 121) rfl rfl rfl rfl rfl ?_
      refine ax_const (q := 123) (v := am_I 8) rfl rfl rfl ?_
      refine ax_icmp_le (q := 126) (x := 130) rfl rfl (fun h123 => ?_) (fun h123 => ?_)
      · refine ax_const (q := 131) (v := am_I 1) rfl rfl rfl ?_
        refine ax_putf (q := 134) rfl rfl rfl ?_
        refine ax_goto (x := 232) rfl ?_
        refine ax_load (q := 233) rfl rfl rfl rfl rfl ?_
        refine ax_getf (q := 236) (v := am_I 1) rfl rfl (am_fg rfl (by rw [sI_at, am_up_same])) ?_
        refine ax_const (q := 237) (v := am_I 3) rfl rfl rfl ?_
        refine ax_icmp_eq (q := 240) (x := 250) rfl rfl (fun h => absurd h (by omega)) (fun h237 => ?_)
        refine ax_load (q := 241) rfl rfl rfl rfl rfl ?_
        refine ax_dup (q := 242) rfl rfl rfl ?_
        refine ax_getf (q := 245) (v := am_I ((p : Nat) : Int)) rfl rfl (am_fg rfl (by simp [am_sI, am_sL, am_up, h42])) ?_
        refine ax_load (q := 246) rfl rfl rfl rfl rfl ?_
        refine ax_iadd (q := 247) (z := ((p + len : Nat) : Int)) rfl rfl (am_we (by omega) (by omega) (by omega)) ?_
        refine ax_putf (q := 250) rfl rfl rfl ?_
        refine ax_ret (r := none) rfl rfl ?_
        have kl : tkl_ tp n p = len := by unfold tkl_; rw [← hc, if_neg (by omega), if_pos hb75, hlen]
        have ks : tks_ tp n p = 1 := by unfold tks_; rw [kl, ← hc, if_neg (by omega), if_pos hb75]; first | exact if_pos (by omega) | exact if_neg (by omega)
        have kn : tkn_ tp n p = 0 := by unfold tkn_; rw [← hc, if_neg (by omega), if_pos hb75]
        have kw : tkw_ tp n p = wdv_ tp n p len := by unfold tkw_; rw [kl, ← hc, if_neg (by omega), if_pos hb75]
        have ka : tka_ tp n p = p + len := by unfold tka_; rw [ks, kl]; first | exact if_pos rfl | exact if_neg (by omega) | exact if_neg (by have := of_decide_eq_true hb221; omega)
        refine hQ _ (fp_s5 (fp_s5 (fp_l5 hf2 (by decide)) (by decide)) (by decide)) ⟨?_, ?_, ?_, ?_, ?_⟩
        · rw [ka]; simp [am_sI, am_sL, am_up, h42, h72, h82, h92]
        · rw [ks]; simp [am_sI, am_sL, am_up, h42, h72, h82, h92]
        · simp [am_sI, am_sL, am_up, h42, h72, h82, h92]
        · rw [kn]; simp [am_sI, am_sL, am_up, h42, h72, h82, h92]
        · rw [kw]; simp [am_sI, am_sL, am_up, h42, h72, h82, h92]
      · refine ax_const (q := 127) (v := am_I 3) rfl rfl rfl ?_
        refine ax_goto (x := 131) rfl ?_
        refine ax_putf (q := 134) rfl rfl rfl ?_
        refine ax_goto (x := 232) rfl ?_
        refine ax_load (q := 233) rfl rfl rfl rfl rfl ?_
        refine ax_getf (q := 236) (v := am_I 3) rfl rfl (am_fg rfl (by rw [sI_at, am_up_same])) ?_
        refine ax_const (q := 237) (v := am_I 3) rfl rfl rfl ?_
        refine ax_icmp_eq (q := 240) (x := 250) rfl rfl (fun h237 => ?_) (fun h => absurd h (by omega))
        refine ax_ret (r := none) rfl rfl ?_
        have kl : tkl_ tp n p = len := by unfold tkl_; rw [← hc, if_neg (by omega), if_pos hb75, hlen]
        have ks : tks_ tp n p = 3 := by unfold tks_; rw [kl, ← hc, if_neg (by omega), if_pos hb75]; first | exact if_pos (by omega) | exact if_neg (by omega)
        have kn : tkn_ tp n p = 0 := by unfold tkn_; rw [← hc, if_neg (by omega), if_pos hb75]
        have kw : tkw_ tp n p = wdv_ tp n p len := by unfold tkw_; rw [kl, ← hc, if_neg (by omega), if_pos hb75]
        have ka : tka_ tp n p = p := by unfold tka_; rw [ks, kl]; first | exact if_pos rfl | exact if_neg (by omega) | exact if_neg (by have := of_decide_eq_true hb221; omega)
        refine hQ _ (fp_s5 (fp_l5 hf2 (by decide)) (by decide)) ⟨?_, ?_, ?_, ?_, ?_⟩
        · rw [ka]; simp [am_sI, am_sL, am_up, h42, h72, h82, h92]
        · rw [ks]; simp [am_sI, am_sL, am_up, h42, h72, h82, h92]
        · simp [am_sI, am_sL, am_up, h42, h72, h82, h92]
        · rw [kn]; simp [am_sI, am_sL, am_up, h42, h72, h82, h92]
        · rw [kw]; simp [am_sI, am_sL, am_up, h42, h72, h82, h92]
  · refine ax_load (q := 64) rfl rfl rfl rfl rfl ?_
    refine ax_const (q := 65) (v := am_I 0) rfl rfl rfl ?_
    refine ax_putf (q := 68) rfl rfl rfl ?_
    refine ax_goto (x := 232) rfl ?_
    refine ax_load (q := 233) rfl rfl rfl rfl rfl ?_
    refine ax_getf (q := 236) (v := am_I 0) rfl rfl (am_fg rfl (by rw [sI_at, am_up_same])) ?_
    refine ax_const (q := 237) (v := am_I 3) rfl rfl rfl ?_
    refine ax_icmp_eq (q := 240) (x := 250) rfl rfl (fun h => absurd h (by omega)) (fun h237 => ?_)
    refine ax_load (q := 241) rfl rfl rfl rfl rfl ?_
    refine ax_dup (q := 242) rfl rfl rfl ?_
    refine ax_getf (q := 245) (v := am_I ((p : Nat) : Int)) rfl rfl (am_fg rfl (by simp [am_sI, am_sL, am_up, h42])) ?_
    refine ax_load (q := 246) rfl rfl rfl rfl rfl ?_
    refine ax_iadd (q := 247) (z := ((p + 0 : Nat) : Int)) rfl rfl (am_we (by omega) (by omega) (by omega)) ?_
    refine ax_putf (q := 250) rfl rfl rfl ?_
    refine ax_ret (r := none) rfl rfl ?_
    have kl : tkl_ tp n p = 0 := by unfold tkl_; rw [← hc, if_pos (by omega)]
    have ks : tks_ tp n p = 0 := by unfold tks_; rw [← hc, if_pos (by omega)]
    have kn : tkn_ tp n p = 0 := by unfold tkn_; rw [← hc, if_pos (by omega)]
    have kw : tkw_ tp n p = 0 := by unfold tkw_; rw [← hc, if_pos (by omega)]
    have ka : tka_ tp n p = p + 0 := by unfold tka_; rw [ks, kl]; first | exact if_pos rfl | exact if_neg (by omega) | exact if_neg (by have := of_decide_eq_true hb221; omega)
    refine hQ _ (fp_s5 (fp_s5 hf2 (by decide)) (by decide)) ⟨?_, ?_, ?_, ?_, ?_⟩
    · rw [ka]; simp [am_sI, am_sL, am_up, h42, h72, h82, h92]
    · rw [ks]; simp [am_sI, am_sL, am_up, h42, h72, h82, h92]
    · simp [am_sI, am_sL, am_up, h42, h72, h82, h92]
    · rw [kn]; simp [am_sI, am_sL, am_up, h42, h72, h82, h92]
    · rw [kw]; simp [am_sI, am_sL, am_up, h42, h72, h82, h92]

