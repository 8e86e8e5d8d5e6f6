theorem up_id {α : Type} (f : Nat → α) (k : Nat) : am_up f k (f k) = f := by
  funext j
  by_cases h : j = k
  · subst h; rw [am_up_same]
  · rw [am_up_ne h]

theorem m_token {d : Nat} (hd : 2 ≤ d) {σ : am_S} {tp : Nat → Int} (h136 : σ.1 136 = tp) {n : Nat} (hn : σ.1 135 5 = (n : Int)) (hn9 : n ≤ 1600) {a : Nat} (ha : σ.1 135 4 = (a : Int)) (han : a ≤ n) {Q : Option am_V → am_S → Prop} (hQ : ∀ σ', fp_ [] [4, 6, 7, 8, 9] [] σ σ' → TK_ tp n (skp_ tp n (n - a) a) σ' → Q none σ') : am_Ev d 146 [am_R 135] σ Q := by
  obtain ⟨d, rfl⟩ : ∃ e, d = e + 1 := ⟨d - 1, by omega⟩
  obtain ⟨p, hp⟩ : ∃ p, p = skp_ tp n (n - a) a := ⟨_, rfl⟩
  have hpl := skp_le tp n (n - a) a
  rw [← hp] at hQ hpl
  have hpn : p ≤ n := by omega
  have e0 : am_sI σ 135 (am_up (σ.1 135) 4 (a : Int)) = σ := by rw [← ha, up_id, sI_id]
  refine ev_in (m := 146) (c := k_X9_token) (L := [some (am_R 135), none, none]) rfl rfl rfl rfl rfl rfl ?_
  have g := l_tok1 (d := d) (by omega) h136 hn hn9 (Q := Q) (n - a) a (by omega) ?_
  · rw [e0] at g
    exact g
  rw [← hp]
  obtain ⟨σ1, hσ1⟩ : ∃ s, s = am_sI σ 135 (am_up (σ.1 135) 4 (p : Int)) := ⟨_, rfl⟩
  rw [← hσ1]
  have hf1 : fp_ [] [4, 6, 7, 8, 9] [] σ σ1 := by rw [hσ1]; exact fp_s5 (fp_rf _ _ _ _) (by decide)
  have h4 : σ1.1 135 4 = (p : Int) := by rw [hσ1, sI_at, am_up_same]
  have h51 : σ1.1 135 5 = (n : Int) := (hf1.2.1 5 (by decide)).trans hn
  have h361 : σ1.1 136 = tp := (hf1.1 136 (by decide) (by decide)).trans h136
  refine ax_load (q := 34) rfl rfl rfl rfl rfl ?_
  refine ax_load (q := 35) rfl rfl rfl rfl rfl ?_
  refine ax_getf (q := 38) (v := am_I ((p : Nat) : Int)) rfl rfl (am_fg rfl h4) ?_
  refine ax_putf (q := 41) rfl rfl rfl ?_
  refine ax_load (q := 42) rfl rfl rfl rfl rfl ?_
  refine ax_const (q := 43) (v := am_I 0) rfl rfl rfl ?_
  refine ax_callv (q := 46) rfl rfl rfl rfl rfl rfl ?_
  refine m_here0 (σ := (am_sI σ1 135 (am_up (σ1.1 135) 7 ((p : Nat) : Int)))) (tp := tp) (n := n) (a := p) (by omega) ((sI_ne (by decide)).trans h361) (by rw [sI_at, am_up_ne (by decide)]; exact h51) (by rw [sI_at, am_up_ne (by decide)]; exact h4) hn9 (by omega) ?_
  obtain ⟨c, hc⟩ : ∃ c, c = hr_ tp n p := ⟨_, rfl⟩
  rw [← hc]
  refine ax_store (q := 47) (L' := [some (am_R 135), some (am_I c), none]) rfl rfl rfl rfl rfl rfl ?_
  refine ax_const (q := 48) (v := am_I 0) rfl rfl rfl ?_
  refine ax_store (q := 49) (L' := [some (am_R 135), some (am_I c), some (am_I 0)]) rfl rfl rfl rfl rfl rfl ?_
  refine ax_load (q := 50) rfl rfl rfl rfl rfl ?_
  refine ax_const (q := 51) (v := am_J 0) rfl rfl rfl ?_
  refine ax_putf (q := 54) rfl rfl rfl ?_
  refine ax_load (q := 55) rfl rfl rfl rfl rfl ?_
  refine ax_const (q := 56) (v := am_I 0) rfl rfl rfl ?_
  refine ax_putf (q := 59) rfl rfl rfl ?_
  obtain ⟨σ2, hσ2⟩ : ∃ s, s = (am_sI (am_sL (am_sI σ1 135 (am_up (σ1.1 135) 7 ((p : Nat) : Int))) 135 (am_up ((am_sI σ1 135 (am_up (σ1.1 135) 7 ((p : Nat) : Int))).2.1 135) 9 0)) 135 (am_up ((am_sL (am_sI σ1 135 (am_up (σ1.1 135) 7 ((p : Nat) : Int))) 135 (am_up ((am_sI σ1 135 (am_up (σ1.1 135) 7 ((p : Nat) : Int))).2.1 135) 9 0)).1 135) 8 0)) := ⟨_, rfl⟩
  rw [← hσ2]
  have hf2 : fp_ [] [4, 6, 7, 8, 9] [] σ σ2 := by rw [hσ2]; exact fp_s5 (fp_l5 (fp_s5 hf1 (by decide)) (by decide)) (by decide)
  have h42 : σ2.1 135 4 = (p : Int) := by rw [hσ2]; simp [am_sI, am_sL, am_up, h4]
  have h52 : σ2.1 135 5 = (n : Int) := (hf2.2.1 5 (by decide)).trans hn
  have h362 : σ2.1 136 = tp := (hf2.1 136 (by decide) (by decide)).trans h136
  have h72 : σ2.1 135 7 = (p : Int) := by rw [hσ2]; simp [am_sI, am_sL, am_up]
  have h82 : σ2.1 135 8 = 0 := by rw [hσ2]; simp [am_sI, am_sL, am_up]
  have h92 : σ2.2.1 135 9 = 0 := by rw [hσ2]; simp [am_sI, am_sL, am_up]
  clear hσ2
  refine ax_load (q := 60) rfl rfl rfl rfl rfl ?_
  refine ax_if_ge (q := 63) (x := 71) rfl rfl (fun h60 => ?_) (fun h60 => ?_)
  · refine ax_load (q := 72) rfl rfl rfl rfl rfl ?_
    refine ax_calls (q := 75) rfl rfl rfl rfl rfl ?_
    refine m_isLetter (by omega) ?_
    refine ax_if_eq (q := 78) (x := 137) rfl rfl (fun h75 => ?_) (fun h75 => ?_)
    · have hb75 := it_0 h75
      refine ax_load (q := 138) rfl rfl rfl rfl rfl ?_
      refine ax_calls (q := 141) rfl rfl rfl rfl rfl ?_
      refine m_isDigit (by omega) ?_
      refine ax_if_eq (q := 144) (x := 214) rfl rfl (fun h141 => ?_) (fun h141 => ?_)
      · have hb141 := it_0 h141
        refine ax_const (q := 215) (v := am_I 1) rfl rfl rfl ?_
        refine ax_store (q := 216) (L' := [some (am_R 135), some (am_I c), some (am_I 1)]) rfl rfl rfl rfl rfl rfl ?_
        refine ax_load (q := 217) rfl rfl rfl rfl rfl ?_
        refine ax_load (q := 218) rfl rfl rfl rfl rfl ?_
        refine ax_calls (q := 221) rfl rfl rfl rfl rfl ?_
        refine m_isSign (by omega) ?_
        refine ax_if_eq (q := 224) (x := 228) rfl rfl (fun h221 => ?_) (fun h221 => ?_)
        · have hb221 := it_0 h221
          refine ax_const (q := 229) (v := am_I 3) rfl rfl rfl ?_
          refine ax_putf (q := 232) rfl rfl rfl ?_
          refine ax_load (q := 233) rfl rfl rfl rfl rfl ?_
          refine ax_getf (q := 236) (v := am_I 3) rfl rfl (am_fg rfl (by rw [sI_at, am_up_same])) ?_
          refine ax_const (q := 237) (v := am_I 3) rfl rfl rfl ?_
          refine ax_icmp_eq (q := 240) (x := 250) rfl rfl (fun h237 => ?_) (fun h => absurd h (by omega))
          refine ax_ret (r := none) rfl rfl ?_
          have hn75 : ¬ lt_ c = true := by rw [hb75]; decide
          have hn141 : ¬ dt_ c = true := by rw [hb141]; decide
          have kl : tkl_ tp n p = 1 := by unfold tkl_; rw [← hc, if_neg (by omega), if_neg hn75, if_neg hn141]
          have ks : tks_ tp n p = 3 := by unfold tks_; rw [← hc, if_neg (by omega), if_neg hn75, if_neg hn141]; first | exact if_pos hb221 | exact if_neg (by rw [hb221]; decide)
          have kn : tkn_ tp n p = 0 := by unfold tkn_; rw [← hc, if_neg (by omega), if_neg hn75, if_neg hn141]
          have kw : tkw_ tp n p = 0 := by unfold tkw_; rw [← hc, if_neg (by omega), if_neg hn75]
          have ka : tka_ tp n p = p := by unfold tka_; rw [ks, kl]; first | exact if_pos rfl | exact if_neg (by omega) | exact if_neg (by have := of_decide_eq_true hb221; omega)
          refine hQ _ (fp_s5 hf2 (by decide)) ⟨?_, ?_, ?_, ?_, ?_⟩
          · rw [ka]; simp [am_sI, am_sL, am_up, h42, h72, h82, h92]
          · rw [ks]; simp [am_sI, am_sL, am_up, h42, h72, h82, h92]
          · simp [am_sI, am_sL, am_up, h42, h72, h82, h92]
          · rw [kn]; simp [am_sI, am_sL, am_up, h42, h72, h82, h92]
          · rw [kw]; simp [am_sI, am_sL, am_up, h42, h72, h82, h92]
        · have hb221 := it_n0 h221
          refine ax_load (q := 225) rfl rfl rfl rfl rfl ?_
          refine ax_goto (x := 229) rfl ?_
          refine ax_putf (q := 232) rfl rfl rfl ?_
          refine ax_load (q := 233) rfl rfl rfl rfl rfl ?_
          refine ax_getf (q := 236) (v := am_I c) rfl rfl (am_fg rfl (by rw [sI_at, am_up_same])) ?_
          refine ax_const (q := 237) (v := am_I 3) rfl rfl rfl ?_
          refine ax_icmp_eq (q := 240) (x := 250) rfl rfl (fun h => absurd h (by have := of_decide_eq_true hb221; omega)) (fun h237 => ?_)
          refine ax_load (q := 241) rfl rfl rfl rfl rfl ?_
          refine ax_dup (q := 242) rfl rfl rfl ?_
          refine ax_getf (q := 245) (v := am_I ((p : Nat) : Int)) rfl rfl (am_fg rfl (by simp [am_sI, am_sL, am_up, h42])) ?_
          refine ax_load (q := 246) rfl rfl rfl rfl rfl ?_
          refine ax_iadd (q := 247) (z := ((p + 1 : Nat) : Int)) rfl rfl (am_we (by omega) (by omega) (by omega)) ?_
          refine ax_putf (q := 250) rfl rfl rfl ?_
          refine ax_ret (r := none) rfl rfl ?_
          have hn75 : ¬ lt_ c = true := by rw [hb75]; decide
          have hn141 : ¬ dt_ c = true := by rw [hb141]; decide
          have kl : tkl_ tp n p = 1 := by unfold tkl_; rw [← hc, if_neg (by omega), if_neg hn75, if_neg hn141]
          have ks : tks_ tp n p = c := by unfold tks_; rw [← hc, if_neg (by omega), if_neg hn75, if_neg hn141]; first | exact if_pos hb221 | exact if_neg (by rw [hb221]; decide)
          have kn : tkn_ tp n p = 0 := by unfold tkn_; rw [← hc, if_neg (by omega), if_neg hn75, if_neg hn141]
          have kw : tkw_ tp n p = 0 := by unfold tkw_; rw [← hc, if_neg (by omega), if_neg hn75]
          have ka : tka_ tp n p = p + 1 := by unfold tka_; rw [ks, kl]; first | exact if_pos rfl | exact if_neg (by omega) | exact if_neg (by have := of_decide_eq_true hb221; omega)
          refine hQ _ (fp_s5 (fp_s5 hf2 (by decide)) (by decide)) ⟨?_, ?_, ?_, ?_, ?_⟩
          · rw [ka]; simp [am_sI, am_sL, am_up, h42, h72, h82, h92]
          · rw [ks]; simp [am_sI, am_sL, am_up, h42, h72, h82, h92]
          · simp [am_sI, am_sL, am_up, h42, h72, h82, h92]
          · rw [kn]; simp [am_sI, am_sL, am_up, h42, h72, h82, h92]
          · rw [kw]; simp [am_sI, am_sL, am_up, h42, h72, h82, h92]
      · have hb141 := it_n0 h141
        have e2 : am_sI σ2 135 (am_up (σ2.1 135) 8 (nv_ tp n p 0)) = σ2 := by rw [show nv_ tp n p 0 = σ2.1 135 8 from h82.symm, up_id, sI_id]
        have g := l_tok3 (σ := σ2) (d := d) (by omega) h362 h52 hn9 h42 hpn (c := c) (Q := Q) (n - p) 0 (by omega) (fun j hj => absurd hj (by omega))
        simp only [Nat.zero_add, Nat.add_zero] at g
        rw [e2] at g
        refine g ?_
        obtain ⟨len, hlen⟩ : ∃ x, x = rl_ dt_ tp n (n - p) p := ⟨_, rfl⟩
        have hll := rl_le dt_ tp n (n - p) p
        rw [← hlen] at hll ⊢
        clear g e2
        refine ax_load (q := 187) rfl rfl rfl rfl rfl ?_
        refine ax_load (q := 188) rfl rfl rfl rfl rfl ?_
        refine ax_const (q := 189) (v := am_I 4) rfl rfl rfl ?_
        refine ax_icmp_gt (q := 192) (x := 203) rfl rfl (fun h189 => ?_) (fun h189 => ?_)
        · refine ax_const (q := 204) (v := am_I 3) rfl rfl rfl ?_
          refine ax_goto (x := 208) rfl ?_
          refine ax_putf (q := 211) rfl rfl rfl ?_
          refine ax_goto (x := 232) rfl ?_
          refine ax_load (q := 233) rfl rfl rfl rfl rfl ?_
          refine ax_getf (q := 236) (v := am_I 3) rfl rfl (am_fg rfl (by rw [sI_at, am_up_same])) ?_
          refine ax_const (q := 237) (v := am_I 3) rfl rfl rfl ?_
          refine ax_icmp_eq (q := 240) (x := 250) rfl rfl (fun h237 => ?_) (fun h => absurd h (by omega))
          refine ax_ret (r := none) rfl rfl ?_
          have hn75 : ¬ lt_ c = true := by rw [hb75]; decide
          have kl : tkl_ tp n p = len := by unfold tkl_; rw [← hc, if_neg (by omega), if_neg hn75, if_pos hb141, hlen]
          have ks : tks_ tp n p = 3 := by unfold tks_; rw [kl, ← hc, if_neg (by omega), if_neg hn75, if_pos hb141]; first | exact if_pos (by rw [decide_eq_true (show 4 < len by omega)]; rfl) | exact if_pos (by rw [hb200]; simp) | exact if_neg (by rw [decide_eq_false (show ¬ 4 < len by omega), hb200]; decide)
          have kn : tkn_ tp n p = nv_ tp n p len := by unfold tkn_; rw [kl, ← hc, if_neg (by omega), if_neg hn75, if_pos hb141]
          have kw : tkw_ tp n p = 0 := by unfold tkw_; rw [← hc, if_neg (by omega), if_neg hn75]
          have ka : tka_ tp n p = p := by unfold tka_; rw [ks, kl]; first | exact if_pos rfl | exact if_neg (by omega) | exact if_neg (by have := of_decide_eq_true hb221; omega)
          refine hQ _ (fp_s5 (fp_s5 hf2 (by decide)) (by decide)) ⟨?_, ?_, ?_, ?_, ?_⟩
          · rw [ka]; simp [am_sI, am_sL, am_up, h42, h72, h82, h92]
          · rw [ks]; simp [am_sI, am_sL, am_up, h42, h72, h82, h92]
          · simp [am_sI, am_sL, am_up, h42, h72, h82, h92]
          · rw [kn]; simp [am_sI, am_sL, am_up, h42, h72, h82, h92]
          · rw [kw]; simp [am_sI, am_sL, am_up, h42, h72, h82, h92]
        · refine ax_load (q := 193) rfl rfl rfl rfl rfl ?_
          refine ax_load (q := 194) rfl rfl rfl rfl rfl ?_
          refine ax_callv (q := 197) rfl rfl rfl rfl rfl rfl ?_
          refine m_here (σ := (am_sI σ2 135 (am_up (σ2.1 135) 8 (nv_ tp n p len)))) (tp := tp) (n := n) (a := p) (k := len) (by omega) ((sI_ne (by decide)).trans h362) (by rw [sI_at, am_up_ne (by decide)]; exact h52) (by rw [sI_at, am_up_ne (by decide)]; exact h42) hn9 (by omega) ?_
          refine ax_calls (q := 200) rfl rfl rfl rfl rfl ?_
          refine m_isLetter (by omega) ?_
          refine ax_if_eq (q := 203) (x := 207) rfl rfl (fun h200 => ?_) (fun h200 => ?_)
          · have hb200 := it_0 h200
            refine ax_const (q := 208) (v := am_I 2) rfl rfl rfl ?_
            refine ax_putf (q := 211) rfl rfl rfl ?_
            refine ax_goto (x := 232) rfl ?_
            refine ax_load (q := 233) rfl rfl rfl rfl rfl ?_
            refine ax_getf (q := 236) (v := am_I 2) rfl rfl (am_fg rfl (by rw [sI_at, am_up_same])) ?_
            refine ax_const (q := 237) (v := am_I 3) rfl rfl rfl ?_
            refine ax_icmp_eq (q := 240) (x := 250) rfl rfl (fun h => absurd h (by omega)) (fun h237 => ?_)
            refine ax_load (q := 241) rfl rfl rfl rfl rfl ?_
            refine ax_dup (q := 242) rfl rfl rfl ?_
            refine ax_getf (q := 245) (v := am_I ((p : Nat) : Int)) rfl rfl (am_fg rfl (by simp [am_sI, am_sL, am_up, h42])) ?_
            refine ax_load (q := 246) rfl rfl rfl rfl rfl ?_
            refine ax_iadd (q := 247) (z := ((p + len : Nat) : Int)) rfl rfl (am_we (by omega) (by omega) (by omega)) ?_
            refine ax_putf (q := 250) rfl rfl rfl ?_
            refine ax_ret (r := none) rfl rfl ?_
            have hn75 : ¬ lt_ c = true := by rw [hb75]; decide
            have kl : tkl_ tp n p = len := by unfold tkl_; rw [← hc, if_neg (by omega), if_neg hn75, if_pos hb141, hlen]
            have ks : tks_ tp n p = 2 := by unfold tks_; rw [kl, ← hc, if_neg (by omega), if_neg hn75, if_pos hb141]; first | exact if_pos (by rw [decide_eq_true (show 4 < len by omega)]; rfl) | exact if_pos (by rw [hb200]; simp) | exact if_neg (by rw [decide_eq_false (show ¬ 4 < len by omega), hb200]; decide)
            have kn : tkn_ tp n p = nv_ tp n p len := by unfold tkn_; rw [kl, ← hc, if_neg (by omega), if_neg hn75, if_pos hb141]
            have kw : tkw_ tp n p = 0 := by unfold tkw_; rw [← hc, if_neg (by omega), if_neg hn75]
            have ka : tka_ tp n p = p + len := by unfold tka_; rw [ks, kl]; first | exact if_pos rfl | exact if_neg (by omega) | exact if_neg (by have := of_decide_eq_true hb221; omega)
            refine hQ _ (fp_s5 (fp_s5 (fp_s5 hf2 (by decide)) (by decide)) (by decide)) ⟨?_, ?_, ?_, ?_, ?_⟩
            · rw [ka]; simp [am_sI, am_sL, am_up, h42, h72, h82, h92]
            · rw [ks]; simp [am_sI, am_sL, am_up, h42, h72, h82, h92]
            · simp [am_sI, am_sL, am_up, h42, h72, h82, h92]
            · rw [kn]; simp [am_sI, am_sL, am_up, h42, h72, h82, h92]
            · rw [kw]; simp [am_sI, am_sL, am_up, h42, h72, h82, h92]
          · have hb200 := it_n0 h200
            refine ax_const (q := 204) (v := am_I 3) rfl rfl rfl ?_
            refine ax_goto (x := 208) rfl ?_
            refine ax_putf (q := 211) rfl rfl rfl ?_
            refine ax_goto (x := 232) rfl ?_
            refine ax_load (q := 233) rfl rfl rfl rfl rfl ?_
            refine ax_getf (q := 236) (v := am_I 3) rfl rfl (am_fg rfl (by rw [sI_at, am_up_same])) ?_
            refine ax_const (q := 237) (v := am_I 3) rfl rfl rfl ?_
            refine ax_icmp_eq (q := 240) (x := 250) rfl rfl (fun h237 => ?_) (fun h => absurd h (by omega))
            refine ax_ret (r := none) rfl rfl ?_
            have hn75 : ¬ lt_ c = true := by rw [hb75]; decide
            have kl : tkl_ tp n p = len := by unfold tkl_; rw [← hc, if_neg (by omega), if_neg hn75, if_pos hb141, hlen]
            have ks : tks_ tp n p = 3 := by unfold tks_; rw [kl, ← hc, if_neg (by omega), if_neg hn75, if_pos hb141]; first | exact if_pos (by rw [decide_eq_true (show 4 < len by omega)]; rfl) | exact if_pos (by rw [hb200]; simp) | exact if_neg (by rw [decide_eq_false (show ¬ 4 < len by omega), hb200]; decide)
            have kn : tkn_ tp n p = nv_ tp n p len := by unfold tkn_; rw [kl, ← hc, if_neg (by omega), if_neg hn75, if_pos hb141]
            have kw : tkw_ tp n p = 0 := by unfold tkw_; rw [← hc, if_neg (by omega), if_neg hn75]
            have ka : tka_ tp n p = p := by unfold tka_; rw [ks, kl]; first | exact if_pos rfl | exact if_neg (by omega) | exact if_neg (by have := of_decide_eq_true hb221; omega)
            refine hQ _ (fp_s5 (fp_s5 hf2 (by decide)) (by decide)) ⟨?_, ?_, ?_, ?_, ?_⟩
            · rw [ka]; simp [am_sI, am_sL, am_up, h42, h72, h82, h92]
            · rw [ks]; simp [am_sI, am_sL, am_up, h42, h72, h82, h92]
            · simp [am_sI, am_sL, am_up, h42, h72, h82, h92]
            · rw [kn]; simp [am_sI, am_sL, am_up, h42, h72, h82, h92]
            · rw [kw]; simp [am_sI, am_sL, am_up, h42, h72, h82, h92]
    · have hb75 := it_n0 h75
      have e2 : am_sL σ2 135 (am_up (σ2.2.1 135) 9 (wdv_ tp n p 0)) = σ2 := by rw [show wdv_ tp n p 0 = σ2.2.1 135 9 from h92.symm, up_id, sL_id]
      have g := l_tok2 (σ := σ2) (d := d) (by omega) h362 h52 hn9 h42 hpn (c := c) (Q := Q) (n - p) 0 (by omega)
      simp only [Nat.zero_add, Nat.add_zero] at g
      rw [e2] at g
      refine g ?_
      obtain ⟨len, hlen⟩ : ∃ x, x = rl_ lt_ tp n (n - p) p := ⟨_, rfl⟩
      have hll := rl_le lt_ tp n (n - p) p
      rw [← hlen] at hll ⊢
      clear g e2
      refine ax_load (q := 120) rfl rfl rfl rfl rfl ?_
      refine ax_load (q := 121) rfl rfl rfl rfl rfl ?_
      refine ax_const (q := 123) (v := am_I 8) rfl rfl rfl ?_
      refine ax_icmp_le (q := 126) (x := 130) rfl rfl (fun h123 => ?_) (fun h123 => ?_)
      · refine ax_const (q := 131) (v := am_I 1) rfl rfl rfl ?_
        refine ax_putf (q := 134) rfl rfl rfl ?_
        refine ax_goto (x := 232) rfl ?_
        refine ax_load (q := 233) rfl rfl rfl rfl rfl ?_
        refine ax_getf (q := 236) (v := am_I 1) rfl rfl (am_fg rfl (by rw [sI_at, am_up_same])) ?_
        refine ax_const (q := 237) (v := am_I 3) rfl rfl rfl ?_
        refine ax_icmp_eq (q := 240) (x := 250) rfl rfl (fun h => absurd h (by omega)) (fun h237 => ?_)
        refine ax_load (q := 241) rfl rfl rfl rfl rfl ?_
        refine ax_dup (q := 242) rfl rfl rfl ?_
        refine ax_getf (q := 245) (v := am_I ((p : Nat) : Int)) rfl rfl (am_fg rfl (by simp [am_sI, am_sL, am_up, h42])) ?_
        refine ax_load (q := 246) rfl rfl rfl rfl rfl ?_
        refine ax_iadd (q := 247) (z := ((p + len : Nat) : Int)) rfl rfl (am_we (by omega) (by omega) (by omega)) ?_
        refine ax_putf (q := 250) rfl rfl rfl ?_
        refine ax_ret (r := none) rfl rfl ?_
        have kl : tkl_ tp n p = len := by unfold tkl_; rw [← hc, if_neg (by omega), if_pos hb75, hlen]
        have ks : tks_ tp n p = 1 := by unfold tks_; rw [kl, ← hc, if_neg (by omega), if_pos hb75]; first | exact if_pos (by omega) | exact if_neg (by omega)
        have kn : tkn_ tp n p = 0 := by unfold tkn_; rw [← hc, if_neg (by omega), if_pos hb75]
        have kw : tkw_ tp n p = wdv_ tp n p len := by unfold tkw_; rw [kl, ← hc, if_neg (by omega), if_pos hb75]
        have ka : tka_ tp n p = p + len := by unfold tka_; rw [ks, kl]; first | exact if_pos rfl | exact if_neg (by omega) | exact if_neg (by have := of_decide_eq_true hb221; omega)
        refine hQ _ (fp_s5 (fp_s5 (fp_l5 hf2 (by decide)) (by decide)) (by decide)) ⟨?_, ?_, ?_, ?_, ?_⟩
        · rw [ka]; simp [am_sI, am_sL, am_up, h42, h72, h82, h92]
        · rw [ks]; simp [am_sI, am_sL, am_up, h42, h72, h82, h92]
        · simp [am_sI, am_sL, am_up, h42, h72, h82, h92]
        · rw [kn]; simp [am_sI, am_sL, am_up, h42, h72, h82, h92]
        · rw [kw]; simp [am_sI, am_sL, am_up, h42, h72, h82, h92]
      · refine ax_const (q := 127) (v := am_I 3) rfl rfl rfl ?_
        refine ax_goto (x := 131) rfl ?_
        refine ax_putf (q := 134) rfl rfl rfl ?_
        refine ax_goto (x := 232) rfl ?_
        refine ax_load (q := 233) rfl rfl rfl rfl rfl ?_
        refine ax_getf (q := 236) (v := am_I 3) rfl rfl (am_fg rfl (by rw [sI_at, am_up_same])) ?_
        refine ax_const (q := 237) (v := am_I 3) rfl rfl rfl ?_
        refine ax_icmp_eq (q := 240) (x := 250) rfl rfl (fun h237 => ?_) (fun h => absurd h (by omega))
        refine ax_ret (r := none) rfl rfl ?_
        have kl : tkl_ tp n p = len := by unfold tkl_; rw [← hc, if_neg (by omega), if_pos hb75, hlen]
        have ks : tks_ tp n p = 3 := by unfold tks_; rw [kl, ← hc, if_neg (by omega), if_pos hb75]; first | exact if_pos (by omega) | exact if_neg (by omega)
        have kn : tkn_ tp n p = 0 := by unfold tkn_; rw [← hc, if_neg (by omega), if_pos hb75]
        have kw : tkw_ tp n p = wdv_ tp n p len := by unfold tkw_; rw [kl, ← hc, if_neg (by omega), if_pos hb75]
        have ka : tka_ tp n p = p := by unfold tka_; rw [ks, kl]; first | exact if_pos rfl | exact if_neg (by omega) | exact if_neg (by have := of_decide_eq_true hb221; omega)
        refine hQ _ (fp_s5 (fp_l5 hf2 (by decide)) (by decide)) ⟨?_, ?_, ?_, ?_, ?_⟩
        · rw [ka]; simp [am_sI, am_sL, am_up, h42, h72, h82, h92]
        · rw [ks]; simp [am_sI, am_sL, am_up, h42, h72, h82, h92]
        · simp [am_sI, am_sL, am_up, h42, h72, h82, h92]
        · rw [kn]; simp [am_sI, am_sL, am_up, h42, h72, h82, h92]
        · rw [kw]; simp [am_sI, am_sL, am_up, h42, h72, h82, h92]
  · refine ax_load (q := 64) rfl rfl rfl rfl rfl ?_
    refine ax_const (q := 65) (v := am_I 0) rfl rfl rfl ?_
    refine ax_putf (q := 68) rfl rfl rfl ?_
    refine ax_goto (x := 232) rfl ?_
    refine ax_load (q := 233) rfl rfl rfl rfl rfl ?_
    refine ax_getf (q := 236) (v := am_I 0) rfl rfl (am_fg rfl (by rw [sI_at, am_up_same])) ?_
    refine ax_const (q := 237) (v := am_I 3) rfl rfl rfl ?_
    refine ax_icmp_eq (q := 240) (x := 250) rfl rfl (fun h => absurd h (by omega)) (fun h237 => ?_)
    refine ax_load (q := 241) rfl rfl rfl rfl rfl ?_
    refine ax_dup (q := 242) rfl rfl rfl ?_
    refine ax_getf (q := 245) (v := am_I ((p : Nat) : Int)) rfl rfl (am_fg rfl (by simp [am_sI, am_sL, am_up, h42])) ?_
    refine ax_load (q := 246) rfl rfl rfl rfl rfl ?_
    refine ax_iadd (q := 247) (z := ((p + 0 : Nat) : Int)) rfl rfl (am_we (by omega) (by omega) (by omega)) ?_
    refine ax_putf (q := 250) rfl rfl rfl ?_
    refine ax_ret (r := none) rfl rfl ?_
    have kl : tkl_ tp n p = 0 := by unfold tkl_; rw [← hc, if_pos (by omega)]
    have ks : tks_ tp n p = 0 := by unfold tks_; rw [← hc, if_pos (by omega)]
    have kn : tkn_ tp n p = 0 := by unfold tkn_; rw [← hc, if_pos (by omega)]
    have kw : tkw_ tp n p = 0 := by unfold tkw_; rw [← hc, if_pos (by omega)]
    have ka : tka_ tp n p = p + 0 := by unfold tka_; rw [ks, kl]; first | exact if_pos rfl | exact if_neg (by omega) | exact if_neg (by have := of_decide_eq_true hb221; omega)
    refine hQ _ (fp_s5 (fp_s5 hf2 (by decide)) (by decide)) ⟨?_, ?_, ?_, ?_, ?_⟩
    · rw [ka]; simp [am_sI, am_sL, am_up, h42, h72, h82, h92]
    · rw [ks]; simp [am_sI, am_sL, am_up, h42, h72, h82, h92]
    · simp [am_sI, am_sL, am_up, h42, h72, h82, h92]
    · rw [kn]; simp [am_sI, am_sL, am_up, h42, h72, h82, h92]
    · rw [kw]; simp [am_sI, am_sL, am_up, h42, h72, h82, h92]

/-! the parser's small words -/
theorem lc_0 {a b : Int} : am_lcmp a b = 0 ↔ a = b := by
  unfold am_lcmp
  split
  · constructor <;> intro h <;> omega
  · split
    · constructor <;> intro h
      · assumption
      · rfl
    · constructor <;> intro h <;> omega
def own_ (w : Int) : Bool := decide (w = 495723310188 ∨ w = 478660552050 ∨ w = 1634954099 ∨ w = 1936023916 ∨ w = 131277443786868 ∨ w = 512970880104 ∨ w = 123563833652072 ∨ w = 1868850291 ∨ w = 123581014175598 ∨ w = 28518 ∨ w = 6383461 ∨ w = 129116991874419 ∨ w = 499917087592 ∨ w = 1869636974 ∨ w = 1685217655 ∨ w = 465558725996 ∨ w = 2036687218 ∨ w = 512852845416 ∨ w = 6385252 ∨ w = 28530 ∨ w = 7237492)
/-- what wrong leaves -/
def wr_ (σ : am_S) (z : Int) : am_S := am_sI (am_sI σ 135 (am_up (σ.1 135) 2 (if σ.1 135 6 = 3 then 1 else z))) 135 (am_up (am_up (σ.1 135) 2 (if σ.1 135 6 = 3 then 1 else z)) 3 (σ.1 135 7))
def ti_ (z : Int) : Nat := if z = 124 then 1 else if z = 38 then 2 else if z = 21 then 3 else if z = 60 ∨ z = 62 ∨ z = 61 then 4 else if z = 43 ∨ z = 45 then 5 else 6
def as_ (so w : Int) : Int := if ¬ so = 1 then -1 else if w = 465558725996 then 0 else if w = 6383461 then 1 else if w = 2036687218 then 2 else if w = 512852845416 then 3 else -1
/-- where a name stands -/
def fi_ (g : Nat → Int) (w : Int) (b : Nat) : Nat → Int
  | 0 => -1
  | k + 1 => if g (b + k) = w then (k : Int) else fi_ g w b k
theorem fi_bd (g : Nat → Int) (w : Int) (b : Nat) : ∀ k, -1 ≤ fi_ g w b k ∧ fi_ g w b k < k
  | 0 => ⟨Int.le_refl _, by show (-1 : Int) < ((0 : Nat) : Int); decide⟩
  | k + 1 => by
    have := fi_bd g w b k
    unfold fi_
    split <;> omega

theorem m_wrong {d : Nat} (hd : 1 ≤ d) {σ : am_S} {z : Int} {Q : Option am_V → am_S → Prop} (hQ : Q none (if 0 < σ.1 135 2 then σ else wr_ σ z)) : am_Ev d 147 [am_R 135, am_I z] σ Q := by
  obtain ⟨d, rfl⟩ : ∃ e, d = e + 1 := ⟨d - 1, by omega⟩
  refine ev_in (m := 147) (c := k_X9_wrong) (L := [some (am_R 135), some (am_I z)]) rfl rfl rfl rfl rfl rfl ?_
  refine ax_load (q := 1) rfl rfl rfl rfl rfl ?_
  refine ax_getf (q := 4) (v := am_I (σ.1 135 2)) rfl rfl (rfl) ?_
  refine ax_if_le (q := 7) (x := 8) rfl rfl (fun h4 => ?_) (fun h4 => ?_)
  · refine ax_load (q := 9) rfl rfl rfl rfl rfl ?_
    refine ax_load (q := 10) rfl rfl rfl rfl rfl ?_
    refine ax_getf (q := 13) (v := am_I (σ.1 135 6)) rfl rfl (rfl) ?_
    refine ax_const (q := 14) (v := am_I 3) rfl rfl rfl ?_
    refine ax_icmp_ne (q := 17) (x := 21) rfl rfl (fun h14 => ?_) (fun h14 => ?_)
    · refine ax_load (q := 22) rfl rfl rfl rfl rfl ?_
      refine ax_putf (q := 25) rfl rfl rfl ?_
      refine ax_load (q := 26) rfl rfl rfl rfl rfl ?_
      refine ax_load (q := 27) rfl rfl rfl rfl rfl ?_
      refine ax_getf (q := 30) (v := am_I (σ.1 135 7)) rfl rfl (am_fg rfl (by first | rfl | (rw [sI_at, am_up_ne (by decide)]))) ?_
      refine ax_putf (q := 33) rfl rfl rfl ?_
      refine ax_ret (r := none) rfl rfl ?_
      rw [if_neg (by omega)] at hQ
      refine Eq.mp (congrArg (fun s => Q none s) ?_) hQ
      unfold wr_
      first | rw [if_pos (by omega)] | rw [if_neg (by omega)]
      all_goals (try simp only [sI_sI, sI_at])
      all_goals (try first | rfl | (rw [am_up_ne (by decide)]))
    · refine ax_const (q := 18) (v := am_I 1) rfl rfl rfl ?_
      refine ax_goto (x := 22) rfl ?_
      refine ax_putf (q := 25) rfl rfl rfl ?_
      refine ax_load (q := 26) rfl rfl rfl rfl rfl ?_
      refine ax_load (q := 27) rfl rfl rfl rfl rfl ?_
      refine ax_getf (q := 30) (v := am_I (σ.1 135 7)) rfl rfl (am_fg rfl (by first | rfl | (rw [sI_at, am_up_ne (by decide)]))) ?_
      refine ax_putf (q := 33) rfl rfl rfl ?_
      refine ax_ret (r := none) rfl rfl ?_
      rw [if_neg (by omega)] at hQ
      refine Eq.mp (congrArg (fun s => Q none s) ?_) hQ
      unfold wr_
      first | rw [if_pos (by omega)] | rw [if_neg (by omega)]
      all_goals (try simp only [sI_sI, sI_at])
      all_goals (try first | rfl | (rw [am_up_ne (by decide)]))
  · refine ax_ret (r := none) rfl rfl ?_
    rw [if_pos (by omega)] at hQ
    exact hQ

theorem m_isWord {d : Nat} (hd : 1 ≤ d) {σ : am_S} {w : Int} {Q : Option am_V → am_S → Prop} (hQ : Q (some (am_I (if decide (σ.1 135 6 = 1 ∧ σ.2.1 135 9 = w) then 1 else 0))) σ) : am_Ev d 148 [am_R 135, am_J w] σ Q := by
  obtain ⟨d, rfl⟩ : ∃ e, d = e + 1 := ⟨d - 1, by omega⟩
  refine ev_in (m := 148) (c := k_X9_isWord) (L := [some (am_R 135), some (am_J w), none]) rfl rfl rfl rfl rfl rfl ?_
  refine ax_load (q := 1) rfl rfl rfl rfl rfl ?_
  refine ax_getf (q := 4) (v := am_I (σ.1 135 6)) rfl rfl (rfl) ?_
  refine ax_const (q := 5) (v := am_I 1) rfl rfl rfl ?_
  refine ax_icmp_ne (q := 8) (x := 21) rfl rfl (fun h5 => ?_) (fun h5 => ?_)
  · refine ax_const (q := 22) (v := am_I 0) rfl rfl rfl ?_
    refine ax_ret (r := some (am_I 0)) rfl ⟨rfl, Or.inl rfl⟩ ?_
    have e : decide (σ.1 135 6 = 1 ∧ σ.2.1 135 9 = w) = false := by first | exact decide_eq_true ⟨by assumption, by assumption⟩ | exact decide_eq_false (fun q => by first | exact absurd q.1 (by assumption) | exact absurd q.2 (by assumption))
    rw [e] at hQ
    exact hQ
  · refine ax_load (q := 9) rfl rfl rfl rfl rfl ?_
    refine ax_getf (q := 12) (v := am_J (σ.2.1 135 9)) rfl rfl (rfl) ?_
    refine ax_load (q := 13) rfl rfl rfl rfl rfl ?_
    refine ax_lcmp (q := 14) rfl rfl ?_
    refine ax_if_ne (q := 17) (x := 21) rfl rfl (fun h14 => ?_) (fun h14 => ?_)
    · have hb14 := mt lc_0.mpr h14
      refine ax_const (q := 22) (v := am_I 0) rfl rfl rfl ?_
      refine ax_ret (r := some (am_I 0)) rfl ⟨rfl, Or.inl rfl⟩ ?_
      have e : decide (σ.1 135 6 = 1 ∧ σ.2.1 135 9 = w) = false := by first | exact decide_eq_true ⟨by assumption, by assumption⟩ | exact decide_eq_false (fun q => by first | exact absurd q.1 (by assumption) | exact absurd q.2 (by assumption))
      rw [e] at hQ
      exact hQ
    · have hb14 := lc_0.mp h14
      refine ax_const (q := 18) (v := am_I 1) rfl rfl rfl ?_
      refine ax_goto (x := 22) rfl ?_
      refine ax_ret (r := some (am_I 1)) rfl ⟨rfl, Or.inr rfl⟩ ?_
      have e : decide (σ.1 135 6 = 1 ∧ σ.2.1 135 9 = w) = true := by first | exact decide_eq_true ⟨by assumption, by assumption⟩ | exact decide_eq_false (fun q => by first | exact absurd q.1 (by assumption) | exact absurd q.2 (by assumption))
      rw [e] at hQ
      exact hQ

theorem m_isOwn {d : Nat} (hd : 1 ≤ d) {σ : am_S}  {Q : Option am_V → am_S → Prop} (hQ : Q (some (am_I (if own_ (σ.2.1 135 9) then 1 else 0))) σ) : am_Ev d 149 [am_R 135] σ Q := by
  obtain ⟨d, rfl⟩ : ∃ e, d = e + 1 := ⟨d - 1, by omega⟩
  refine ev_in (m := 149) (c := k_X9_isOwn) (L := [some (am_R 135)]) rfl rfl rfl rfl rfl rfl ?_
  refine ax_load (q := 1) rfl rfl rfl rfl rfl ?_
  refine ax_getf (q := 4) (v := am_J (σ.2.1 135 9)) rfl rfl (rfl) ?_
  refine ax_const (q := 7) (v := am_J 495723310188) rfl rfl rfl ?_
  refine ax_lcmp (q := 8) rfl rfl ?_
  refine ax_if_eq (q := 11) (x := 231) rfl rfl (fun h8 => ?_) (fun h8 => ?_)
  · have hb8 := lc_0.mp h8
    refine ax_const (q := 232) (v := am_I 1) rfl rfl rfl ?_
    refine ax_goto (x := 236) rfl ?_
    refine ax_ret (r := some (am_I 1)) rfl ⟨rfl, Or.inr rfl⟩ ?_
    have e : own_ (σ.2.1 135 9) = true := by unfold own_; rw [hb8]; decide
    rw [e] at hQ
    exact hQ
  · have hb8 := mt lc_0.mpr h8
    refine ax_load (q := 12) rfl rfl rfl rfl rfl ?_
    refine ax_getf (q := 15) (v := am_J (σ.2.1 135 9)) rfl rfl (rfl) ?_
    refine ax_const (q := 18) (v := am_J 478660552050) rfl rfl rfl ?_
    refine ax_lcmp (q := 19) rfl rfl ?_
    refine ax_if_eq (q := 22) (x := 231) rfl rfl (fun h19 => ?_) (fun h19 => ?_)
    · have hb19 := lc_0.mp h19
      refine ax_const (q := 232) (v := am_I 1) rfl rfl rfl ?_
      refine ax_goto (x := 236) rfl ?_
      refine ax_ret (r := some (am_I 1)) rfl ⟨rfl, Or.inr rfl⟩ ?_
      have e : own_ (σ.2.1 135 9) = true := by unfold own_; rw [hb19]; decide
      rw [e] at hQ
      exact hQ
    · have hb19 := mt lc_0.mpr h19
      refine ax_load (q := 23) rfl rfl rfl rfl rfl ?_
      refine ax_getf (q := 26) (v := am_J (σ.2.1 135 9)) rfl rfl (rfl) ?_
      refine ax_const (q := 29) (v := am_J 1634954099) rfl rfl rfl ?_
      refine ax_lcmp (q := 30) rfl rfl ?_
      refine ax_if_eq (q := 33) (x := 231) rfl rfl (fun h30 => ?_) (fun h30 => ?_)
      · have hb30 := lc_0.mp h30
        refine ax_const (q := 232) (v := am_I 1) rfl rfl rfl ?_
        refine ax_goto (x := 236) rfl ?_
        refine ax_ret (r := some (am_I 1)) rfl ⟨rfl, Or.inr rfl⟩ ?_
        have e : own_ (σ.2.1 135 9) = true := by unfold own_; rw [hb30]; decide
        rw [e] at hQ
        exact hQ
      · have hb30 := mt lc_0.mpr h30
        refine ax_load (q := 34) rfl rfl rfl rfl rfl ?_
        refine ax_getf (q := 37) (v := am_J (σ.2.1 135 9)) rfl rfl (rfl) ?_
        refine ax_const (q := 40) (v := am_J 1936023916) rfl rfl rfl ?_
        refine ax_lcmp (q := 41) rfl rfl ?_
        refine ax_if_eq (q := 44) (x := 231) rfl rfl (fun h41 => ?_) (fun h41 => ?_)
        · have hb41 := lc_0.mp h41
          refine ax_const (q := 232) (v := am_I 1) rfl rfl rfl ?_
          refine ax_goto (x := 236) rfl ?_
          refine ax_ret (r := some (am_I 1)) rfl ⟨rfl, Or.inr rfl⟩ ?_
          have e : own_ (σ.2.1 135 9) = true := by unfold own_; rw [hb41]; decide
          rw [e] at hQ
          exact hQ
        · have hb41 := mt lc_0.mpr h41
          refine ax_load (q := 45) rfl rfl rfl rfl rfl ?_
          refine ax_getf (q := 48) (v := am_J (σ.2.1 135 9)) rfl rfl (rfl) ?_
          refine ax_const (q := 51) (v := am_J 131277443786868) rfl rfl rfl ?_
          refine ax_lcmp (q := 52) rfl rfl ?_
          refine ax_if_eq (q := 55) (x := 231) rfl rfl (fun h52 => ?_) (fun h52 => ?_)
          · have hb52 := lc_0.mp h52
            refine ax_const (q := 232) (v := am_I 1) rfl rfl rfl ?_
            refine ax_goto (x := 236) rfl ?_
            refine ax_ret (r := some (am_I 1)) rfl ⟨rfl, Or.inr rfl⟩ ?_
            have e : own_ (σ.2.1 135 9) = true := by unfold own_; rw [hb52]; decide
            rw [e] at hQ
            exact hQ
          · have hb52 := mt lc_0.mpr h52
            refine ax_load (q := 56) rfl rfl rfl rfl rfl ?_
            refine ax_getf (q := 59) (v := am_J (σ.2.1 135 9)) rfl rfl (rfl) ?_
            refine ax_const (q := 62) (v := am_J 512970880104) rfl rfl rfl ?_
            refine ax_lcmp (q := 63) rfl rfl ?_
            refine ax_if_eq (q := 66) (x := 231) rfl rfl (fun h63 => ?_) (fun h63 => ?_)
            · have hb63 := lc_0.mp h63
              refine ax_const (q := 232) (v := am_I 1) rfl rfl rfl ?_
              refine ax_goto (x := 236) rfl ?_
              refine ax_ret (r := some (am_I 1)) rfl ⟨rfl, Or.inr rfl⟩ ?_
              have e : own_ (σ.2.1 135 9) = true := by unfold own_; rw [hb63]; decide
              rw [e] at hQ
              exact hQ
            · have hb63 := mt lc_0.mpr h63
              refine ax_load (q := 67) rfl rfl rfl rfl rfl ?_
              refine ax_getf (q := 70) (v := am_J (σ.2.1 135 9)) rfl rfl (rfl) ?_
              refine ax_const (q := 73) (v := am_J 123563833652072) rfl rfl rfl ?_
              refine ax_lcmp (q := 74) rfl rfl ?_
              refine ax_if_eq (q := 77) (x := 231) rfl rfl (fun h74 => ?_) (fun h74 => ?_)
              · have hb74 := lc_0.mp h74
                refine ax_const (q := 232) (v := am_I 1) rfl rfl rfl ?_
                refine ax_goto (x := 236) rfl ?_
                refine ax_ret (r := some (am_I 1)) rfl ⟨rfl, Or.inr rfl⟩ ?_
                have e : own_ (σ.2.1 135 9) = true := by unfold own_; rw [hb74]; decide
                rw [e] at hQ
                exact hQ
              · have hb74 := mt lc_0.mpr h74
                refine ax_load (q := 78) rfl rfl rfl rfl rfl ?_
                refine ax_getf (q := 81) (v := am_J (σ.2.1 135 9)) rfl rfl (rfl) ?_
                refine ax_const (q := 84) (v := am_J 1868850291) rfl rfl rfl ?_
                refine ax_lcmp (q := 85) rfl rfl ?_
                refine ax_if_eq (q := 88) (x := 231) rfl rfl (fun h85 => ?_) (fun h85 => ?_)
                · have hb85 := lc_0.mp h85
                  refine ax_const (q := 232) (v := am_I 1) rfl rfl rfl ?_
                  refine ax_goto (x := 236) rfl ?_
                  refine ax_ret (r := some (am_I 1)) rfl ⟨rfl, Or.inr rfl⟩ ?_
                  have e : own_ (σ.2.1 135 9) = true := by unfold own_; rw [hb85]; decide
                  rw [e] at hQ
                  exact hQ
                · have hb85 := mt lc_0.mpr h85
                  refine ax_load (q := 89) rfl rfl rfl rfl rfl ?_
                  refine ax_getf (q := 92) (v := am_J (σ.2.1 135 9)) rfl rfl (rfl) ?_
                  refine ax_const (q := 95) (v := am_J 123581014175598) rfl rfl rfl ?_
                  refine ax_lcmp (q := 96) rfl rfl ?_
                  refine ax_if_eq (q := 99) (x := 231) rfl rfl (fun h96 => ?_) (fun h96 => ?_)
                  · have hb96 := lc_0.mp h96
                    refine ax_const (q := 232) (v := am_I 1) rfl rfl rfl ?_
                    refine ax_goto (x := 236) rfl ?_
                    refine ax_ret (r := some (am_I 1)) rfl ⟨rfl, Or.inr rfl⟩ ?_
                    have e : own_ (σ.2.1 135 9) = true := by unfold own_; rw [hb96]; decide
                    rw [e] at hQ
                    exact hQ
                  · have hb96 := mt lc_0.mpr h96
                    refine ax_load (q := 100) rfl rfl rfl rfl rfl ?_
                    refine ax_getf (q := 103) (v := am_J (σ.2.1 135 9)) rfl rfl (rfl) ?_
                    refine ax_const (q := 106) (v := am_J 28518) rfl rfl rfl ?_
                    refine ax_lcmp (q := 107) rfl rfl ?_
                    refine ax_if_eq (q := 110) (x := 231) rfl rfl (fun h107 => ?_) (fun h107 => ?_)
                    · have hb107 := lc_0.mp h107
                      refine ax_const (q := 232) (v := am_I 1) rfl rfl rfl ?_
                      refine ax_goto (x := 236) rfl ?_
                      refine ax_ret (r := some (am_I 1)) rfl ⟨rfl, Or.inr rfl⟩ ?_
                      have e : own_ (σ.2.1 135 9) = true := by unfold own_; rw [hb107]; decide
                      rw [e] at hQ
                      exact hQ
                    · have hb107 := mt lc_0.mpr h107
                      refine ax_load (q := 111) rfl rfl rfl rfl rfl ?_
                      refine ax_getf (q := 114) (v := am_J (σ.2.1 135 9)) rfl rfl (rfl) ?_
                      refine ax_const (q := 117) (v := am_J 6383461) rfl rfl rfl ?_
                      refine ax_lcmp (q := 118) rfl rfl ?_
                      refine ax_if_eq (q := 121) (x := 231) rfl rfl (fun h118 => ?_) (fun h118 => ?_)
                      · have hb118 := lc_0.mp h118
                        refine ax_const (q := 232) (v := am_I 1) rfl rfl rfl ?_
                        refine ax_goto (x := 236) rfl ?_
                        refine ax_ret (r := some (am_I 1)) rfl ⟨rfl, Or.inr rfl⟩ ?_
                        have e : own_ (σ.2.1 135 9) = true := by unfold own_; rw [hb118]; decide
                        rw [e] at hQ
                        exact hQ
                      · have hb118 := mt lc_0.mpr h118
                        refine ax_load (q := 122) rfl rfl rfl rfl rfl ?_
                        refine ax_getf (q := 125) (v := am_J (σ.2.1 135 9)) rfl rfl (rfl) ?_
                        refine ax_const (q := 128) (v := am_J 129116991874419) rfl rfl rfl ?_
                        refine ax_lcmp (q := 129) rfl rfl ?_
                        refine ax_if_eq (q := 132) (x := 231) rfl rfl (fun h129 => ?_) (fun h129 => ?_)
                        · have hb129 := lc_0.mp h129
                          refine ax_const (q := 232) (v := am_I 1) rfl rfl rfl ?_
                          refine ax_goto (x := 236) rfl ?_
                          refine ax_ret (r := some (am_I 1)) rfl ⟨rfl, Or.inr rfl⟩ ?_
                          have e : own_ (σ.2.1 135 9) = true := by unfold own_; rw [hb129]; decide
                          rw [e] at hQ
                          exact hQ
                        · have hb129 := mt lc_0.mpr h129
                          refine ax_load (q := 133) rfl rfl rfl rfl rfl ?_
                          refine ax_getf (q := 136) (v := am_J (σ.2.1 135 9)) rfl rfl (rfl) ?_
                          refine ax_const (q := 139) (v := am_J 499917087592) rfl rfl rfl ?_
                          refine ax_lcmp (q := 140) rfl rfl ?_
                          refine ax_if_eq (q := 143) (x := 231) rfl rfl (fun h140 => ?_) (fun h140 => ?_)
                          · have hb140 := lc_0.mp h140
                            refine ax_const (q := 232) (v := am_I 1) rfl rfl rfl ?_
                            refine ax_goto (x := 236) rfl ?_
                            refine ax_ret (r := some (am_I 1)) rfl ⟨rfl, Or.inr rfl⟩ ?_
                            have e : own_ (σ.2.1 135 9) = true := by unfold own_; rw [hb140]; decide
                            rw [e] at hQ
                            exact hQ
                          · have hb140 := mt lc_0.mpr h140
                            refine ax_load (q := 144) rfl rfl rfl rfl rfl ?_
                            refine ax_getf (q := 147) (v := am_J (σ.2.1 135 9)) rfl rfl (rfl) ?_
                            refine ax_const (q := 150) (v := am_J 1869636974) rfl rfl rfl ?_
                            refine ax_lcmp (q := 151) rfl rfl ?_
                            refine ax_if_eq (q := 154) (x := 231) rfl rfl (fun h151 => ?_) (fun h151 => ?_)
                            · have hb151 := lc_0.mp h151
                              refine ax_const (q := 232) (v := am_I 1) rfl rfl rfl ?_
                              refine ax_goto (x := 236) rfl ?_
                              refine ax_ret (r := some (am_I 1)) rfl ⟨rfl, Or.inr rfl⟩ ?_
                              have e : own_ (σ.2.1 135 9) = true := by unfold own_; rw [hb151]; decide
                              rw [e] at hQ
                              exact hQ
                            · have hb151 := mt lc_0.mpr h151
                              refine ax_load (q := 155) rfl rfl rfl rfl rfl ?_
                              refine ax_getf (q := 158) (v := am_J (σ.2.1 135 9)) rfl rfl (rfl) ?_
                              refine ax_const (q := 161) (v := am_J 1685217655) rfl rfl rfl ?_
                              refine ax_lcmp (q := 162) rfl rfl ?_
                              refine ax_if_eq (q := 165) (x := 231) rfl rfl (fun h162 => ?_) (fun h162 => ?_)
                              · have hb162 := lc_0.mp h162
                                refine ax_const (q := 232) (v := am_I 1) rfl rfl rfl ?_
                                refine ax_goto (x := 236) rfl ?_
                                refine ax_ret (r := some (am_I 1)) rfl ⟨rfl, Or.inr rfl⟩ ?_
                                have e : own_ (σ.2.1 135 9) = true := by unfold own_; rw [hb162]; decide
                                rw [e] at hQ
                                exact hQ
                              · have hb162 := mt lc_0.mpr h162
                                refine ax_load (q := 166) rfl rfl rfl rfl rfl ?_
                                refine ax_getf (q := 169) (v := am_J (σ.2.1 135 9)) rfl rfl (rfl) ?_
                                refine ax_const (q := 172) (v := am_J 465558725996) rfl rfl rfl ?_
                                refine ax_lcmp (q := 173) rfl rfl ?_
                                refine ax_if_eq (q := 176) (x := 231) rfl rfl (fun h173 => ?_) (fun h173 => ?_)
                                · have hb173 := lc_0.mp h173
                                  refine ax_const (q := 232) (v := am_I 1) rfl rfl rfl ?_
                                  refine ax_goto (x := 236) rfl ?_
                                  refine ax_ret (r := some (am_I 1)) rfl ⟨rfl, Or.inr rfl⟩ ?_
                                  have e : own_ (σ.2.1 135 9) = true := by unfold own_; rw [hb173]; decide
                                  rw [e] at hQ
                                  exact hQ
                                · have hb173 := mt lc_0.mpr h173
                                  refine ax_load (q := 177) rfl rfl rfl rfl rfl ?_
                                  refine ax_getf (q := 180) (v := am_J (σ.2.1 135 9)) rfl rfl (rfl) ?_
                                  refine ax_const (q := 183) (v := am_J 2036687218) rfl rfl rfl ?_
                                  refine ax_lcmp (q := 184) rfl rfl ?_
                                  refine ax_if_eq (q := 187) (x := 231) rfl rfl (fun h184 => ?_) (fun h184 => ?_)
                                  · have hb184 := lc_0.mp h184
                                    refine ax_const (q := 232) (v := am_I 1) rfl rfl rfl ?_
                                    refine ax_goto (x := 236) rfl ?_
                                    refine ax_ret (r := some (am_I 1)) rfl ⟨rfl, Or.inr rfl⟩ ?_
                                    have e : own_ (σ.2.1 135 9) = true := by unfold own_; rw [hb184]; decide
                                    rw [e] at hQ
                                    exact hQ
                                  · have hb184 := mt lc_0.mpr h184
                                    refine ax_load (q := 188) rfl rfl rfl rfl rfl ?_
                                    refine ax_getf (q := 191) (v := am_J (σ.2.1 135 9)) rfl rfl (rfl) ?_
                                    refine ax_const (q := 194) (v := am_J 512852845416) rfl rfl rfl ?_
                                    refine ax_lcmp (q := 195) rfl rfl ?_
                                    refine ax_if_eq (q := 198) (x := 231) rfl rfl (fun h195 => ?_) (fun h195 => ?_)
                                    · have hb195 := lc_0.mp h195
                                      refine ax_const (q := 232) (v := am_I 1) rfl rfl rfl ?_
                                      refine ax_goto (x := 236) rfl ?_
                                      refine ax_ret (r := some (am_I 1)) rfl ⟨rfl, Or.inr rfl⟩ ?_
                                      have e : own_ (σ.2.1 135 9) = true := by unfold own_; rw [hb195]; decide
                                      rw [e] at hQ
                                      exact hQ
                                    · have hb195 := mt lc_0.mpr h195
                                      refine ax_load (q := 199) rfl rfl rfl rfl rfl ?_
                                      refine ax_getf (q := 202) (v := am_J (σ.2.1 135 9)) rfl rfl (rfl) ?_
                                      refine ax_const (q := 205) (v := am_J 6385252) rfl rfl rfl ?_
                                      refine ax_lcmp (q := 206) rfl rfl ?_
                                      refine ax_if_eq (q := 209) (x := 231) rfl rfl (fun h206 => ?_) (fun h206 => ?_)
                                      · have hb206 := lc_0.mp h206
                                        refine ax_const (q := 232) (v := am_I 1) rfl rfl rfl ?_
                                        refine ax_goto (x := 236) rfl ?_
                                        refine ax_ret (r := some (am_I 1)) rfl ⟨rfl, Or.inr rfl⟩ ?_
                                        have e : own_ (σ.2.1 135 9) = true := by unfold own_; rw [hb206]; decide
                                        rw [e] at hQ
                                        exact hQ
                                      · have hb206 := mt lc_0.mpr h206
                                        refine ax_load (q := 210) rfl rfl rfl rfl rfl ?_
                                        refine ax_getf (q := 213) (v := am_J (σ.2.1 135 9)) rfl rfl (rfl) ?_
                                        refine ax_const (q := 216) (v := am_J 28530) rfl rfl rfl ?_
                                        refine ax_lcmp (q := 217) rfl rfl ?_
                                        refine ax_if_eq (q := 220) (x := 231) rfl rfl (fun h217 => ?_) (fun h217 => ?_)
                                        · have hb217 := lc_0.mp h217
                                          refine ax_const (q := 232) (v := am_I 1) rfl rfl rfl ?_
                                          refine ax_goto (x := 236) rfl ?_
                                          refine ax_ret (r := some (am_I 1)) rfl ⟨rfl, Or.inr rfl⟩ ?_
                                          have e : own_ (σ.2.1 135 9) = true := by unfold own_; rw [hb217]; decide
                                          rw [e] at hQ
                                          exact hQ
                                        · have hb217 := mt lc_0.mpr h217
                                          refine ax_load (q := 221) rfl rfl rfl rfl rfl ?_
                                          refine ax_getf (q := 224) (v := am_J (σ.2.1 135 9)) rfl rfl (rfl) ?_
                                          refine ax_const (q := 227) (v := am_J 7237492) rfl rfl rfl ?_
                                          refine ax_lcmp (q := 228) rfl rfl ?_
                                          refine ax_if_ne (q := 231) (x := 235) rfl rfl (fun h228 => ?_) (fun h228 => ?_)
                                          · have hb228 := mt lc_0.mpr h228
                                            refine ax_const (q := 236) (v := am_I 0) rfl rfl rfl ?_
                                            refine ax_ret (r := some (am_I 0)) rfl ⟨rfl, Or.inl rfl⟩ ?_
                                            have e : own_ (σ.2.1 135 9) = false := by refine decide_eq_false (fun q => ?_); rcases q with q | q | q | q | q | q | q | q | q | q | q | q | q | q | q | q | q | q | q | q | q <;> exact absurd q (by assumption)
                                            rw [e] at hQ
                                            exact hQ
                                          · have hb228 := lc_0.mp h228
                                            refine ax_const (q := 232) (v := am_I 1) rfl rfl rfl ?_
                                            refine ax_goto (x := 236) rfl ?_
                                            refine ax_ret (r := some (am_I 1)) rfl ⟨rfl, Or.inr rfl⟩ ?_
                                            have e : own_ (σ.2.1 135 9) = true := by unfold own_; rw [hb228]; decide
                                            rw [e] at hQ
                                            exact hQ

theorem m_isName {d : Nat} (hd : 2 ≤ d) {σ : am_S}  {Q : Option am_V → am_S → Prop} (hQ : Q (some (am_I (if decide (σ.1 135 6 = 1) && !own_ (σ.2.1 135 9) then 1 else 0))) σ) : am_Ev d 150 [am_R 135] σ Q := by
  obtain ⟨d, rfl⟩ : ∃ e, d = e + 1 := ⟨d - 1, by omega⟩
  refine ev_in (m := 150) (c := k_X9_isName) (L := [some (am_R 135)]) rfl rfl rfl rfl rfl rfl ?_
  refine ax_load (q := 1) rfl rfl rfl rfl rfl ?_
  refine ax_getf (q := 4) (v := am_I (σ.1 135 6)) rfl rfl (rfl) ?_
  refine ax_const (q := 5) (v := am_I 1) rfl rfl rfl ?_
  refine ax_icmp_ne (q := 8) (x := 19) rfl rfl (fun h5 => ?_) (fun h5 => ?_)
  · refine ax_const (q := 20) (v := am_I 0) rfl rfl rfl ?_
    refine ax_ret (r := some (am_I 0)) rfl ⟨rfl, Or.inl rfl⟩ ?_
    have e : (decide (σ.1 135 6 = 1) && !own_ (σ.2.1 135 9)) = false := by first | (rw [decide_eq_true h5, hb12]; rfl) | (rw [decide_eq_false h5]; rfl)
    rw [e] at hQ
    exact hQ
  · refine ax_load (q := 9) rfl rfl rfl rfl rfl ?_
    refine ax_callv (q := 12) rfl rfl rfl rfl rfl rfl ?_
    refine m_isOwn (by omega) ?_
    refine ax_if_ne (q := 15) (x := 19) rfl rfl (fun h12 => ?_) (fun h12 => ?_)
    · have hb12 := it_n0 h12
      refine ax_const (q := 20) (v := am_I 0) rfl rfl rfl ?_
      refine ax_ret (r := some (am_I 0)) rfl ⟨rfl, Or.inl rfl⟩ ?_
      have e : (decide (σ.1 135 6 = 1) && !own_ (σ.2.1 135 9)) = false := by first | (rw [decide_eq_true h5, hb12]; rfl) | (rw [decide_eq_false h5]; rfl)
      rw [e] at hQ
      exact hQ
    · have hb12 := it_0 h12
      refine ax_const (q := 16) (v := am_I 1) rfl rfl rfl ?_
      refine ax_goto (x := 20) rfl ?_
      refine ax_ret (r := some (am_I 1)) rfl ⟨rfl, Or.inr rfl⟩ ?_
      have e : (decide (σ.1 135 6 = 1) && !own_ (σ.2.1 135 9)) = true := by first | (rw [decide_eq_true h5, hb12]; rfl) | (rw [decide_eq_false h5]; rfl)
      rw [e] at hQ
      exact hQ

theorem m_tight {d : Nat} (hd : 1 ≤ d) {σ : am_S} {z : Int} {Q : Option am_V → am_S → Prop} (hQ : Q (some (am_I ((ti_ z : Nat) : Int))) σ) : am_Ev d 159 [am_I z] σ Q := by
  obtain ⟨d, rfl⟩ : ∃ e, d = e + 1 := ⟨d - 1, by omega⟩
  refine ev_in (m := 159) (c := k_X9_tight) (L := [some (am_I z)]) rfl rfl rfl rfl rfl rfl ?_
  refine ax_load (q := 1) rfl rfl rfl rfl rfl ?_
  by_cases hk : z = 124 ∨ z = 38 ∨ z = 21 ∨ z = 60 ∨ z = 61 ∨ z = 62 ∨ z = 43 ∨ z = 45
  rcases hk with rfl | rfl | rfl | rfl | rfl | rfl | rfl | rfl
  · refine ax_lsw (q := 76) rfl (by decide) ?_
    refine ax_const (q := 77) (v := am_I 1) rfl rfl rfl ?_
    refine ax_ret (r := some (am_I 1)) rfl rfl ?_
    refine Eq.mp (congrArg (fun z => Q (some (am_I z)) σ) ?_) hQ
    first | rfl | (unfold ti_; simp [*])
  · refine ax_lsw (q := 78) rfl (by decide) ?_
    refine ax_const (q := 79) (v := am_I 2) rfl rfl rfl ?_
    refine ax_ret (r := some (am_I 2)) rfl rfl ?_
    refine Eq.mp (congrArg (fun z => Q (some (am_I z)) σ) ?_) hQ
    first | rfl | (unfold ti_; simp [*])
  · refine ax_lsw (q := 80) rfl (by decide) ?_
    refine ax_const (q := 81) (v := am_I 3) rfl rfl rfl ?_
    refine ax_ret (r := some (am_I 3)) rfl rfl ?_
    refine Eq.mp (congrArg (fun z => Q (some (am_I z)) σ) ?_) hQ
    first | rfl | (unfold ti_; simp [*])
  · refine ax_lsw (q := 82) rfl (by decide) ?_
    refine ax_const (q := 83) (v := am_I 4) rfl rfl rfl ?_
    refine ax_ret (r := some (am_I 4)) rfl rfl ?_
    refine Eq.mp (congrArg (fun z => Q (some (am_I z)) σ) ?_) hQ
    first | rfl | (unfold ti_; simp [*])
  · refine ax_lsw (q := 82) rfl (by decide) ?_
    refine ax_const (q := 83) (v := am_I 4) rfl rfl rfl ?_
    refine ax_ret (r := some (am_I 4)) rfl rfl ?_
    refine Eq.mp (congrArg (fun z => Q (some (am_I z)) σ) ?_) hQ
    first | rfl | (unfold ti_; simp [*])
  · refine ax_lsw (q := 82) rfl (by decide) ?_
    refine ax_const (q := 83) (v := am_I 4) rfl rfl rfl ?_
    refine ax_ret (r := some (am_I 4)) rfl rfl ?_
    refine Eq.mp (congrArg (fun z => Q (some (am_I z)) σ) ?_) hQ
    first | rfl | (unfold ti_; simp [*])
  · refine ax_lsw (q := 84) rfl (by decide) ?_
    refine ax_const (q := 85) (v := am_I 5) rfl rfl rfl ?_
    refine ax_ret (r := some (am_I 5)) rfl rfl ?_
    refine Eq.mp (congrArg (fun z => Q (some (am_I z)) σ) ?_) hQ
    first | rfl | (unfold ti_; simp [*])
  · refine ax_lsw (q := 84) rfl (by decide) ?_
    refine ax_const (q := 85) (v := am_I 5) rfl rfl rfl ?_
    refine ax_ret (r := some (am_I 5)) rfl rfl ?_
    refine Eq.mp (congrArg (fun z => Q (some (am_I z)) σ) ?_) hQ
    first | rfl | (unfold ti_; simp [*])
  · simp only [not_or] at hk
    obtain ⟨k1, k2, k3, k4, k5, k6, k7, k8⟩ := hk
    refine ax_lsw (q := 86) rfl (by unfold am_lsw; simp [Op.lookupswitch.offset, Ne.symm k1, Ne.symm k2, Ne.symm k3, Ne.symm k4, Ne.symm k5, Ne.symm k6, Ne.symm k7, Ne.symm k8]) ?_
    refine ax_const (q := 88) (v := am_I 6) rfl rfl rfl ?_
    refine ax_ret (r := some (am_I 6)) rfl rfl ?_
    refine Eq.mp (congrArg (fun z => Q (some (am_I z)) σ) ?_) hQ
    first | rfl | (unfold ti_; simp [*])

theorem m_asked {d : Nat} (hd : 1 ≤ d) {σ : am_S}  {Q : Option am_V → am_S → Prop} (hQ : Q (some (am_I (as_ (σ.1 135 6) (σ.2.1 135 9)))) σ) : am_Ev d 163 [am_R 135] σ Q := by
  obtain ⟨d, rfl⟩ : ∃ e, d = e + 1 := ⟨d - 1, by omega⟩
  refine ev_in (m := 163) (c := k_X9_asked) (L := [some (am_R 135)]) rfl rfl rfl rfl rfl rfl ?_
  refine ax_load (q := 1) rfl rfl rfl rfl rfl ?_
  refine ax_getf (q := 4) (v := am_I (σ.1 135 6)) rfl rfl (rfl) ?_
  refine ax_const (q := 5) (v := am_I 1) rfl rfl rfl ?_
  refine ax_icmp_eq (q := 8) (x := 10) rfl rfl (fun h5 => ?_) (fun h5 => ?_)
  · refine ax_load (q := 11) rfl rfl rfl rfl rfl ?_
    refine ax_getf (q := 14) (v := am_J (σ.2.1 135 9)) rfl rfl (rfl) ?_
    refine ax_const (q := 17) (v := am_J 465558725996) rfl rfl rfl ?_
    refine ax_lcmp (q := 18) rfl rfl ?_
    refine ax_if_ne (q := 21) (x := 23) rfl rfl (fun h18 => ?_) (fun h18 => ?_)
    · have hb18 := mt lc_0.mpr h18
      refine ax_load (q := 24) rfl rfl rfl rfl rfl ?_
      refine ax_getf (q := 27) (v := am_J (σ.2.1 135 9)) rfl rfl (rfl) ?_
      refine ax_const (q := 30) (v := am_J 6383461) rfl rfl rfl ?_
      refine ax_lcmp (q := 31) rfl rfl ?_
      refine ax_if_ne (q := 34) (x := 36) rfl rfl (fun h31 => ?_) (fun h31 => ?_)
      · have hb31 := mt lc_0.mpr h31
        refine ax_load (q := 37) rfl rfl rfl rfl rfl ?_
        refine ax_getf (q := 40) (v := am_J (σ.2.1 135 9)) rfl rfl (rfl) ?_
        refine ax_const (q := 43) (v := am_J 2036687218) rfl rfl rfl ?_
        refine ax_lcmp (q := 44) rfl rfl ?_
        refine ax_if_ne (q := 47) (x := 49) rfl rfl (fun h44 => ?_) (fun h44 => ?_)
        · have hb44 := mt lc_0.mpr h44
          refine ax_load (q := 50) rfl rfl rfl rfl rfl ?_
          refine ax_getf (q := 53) (v := am_J (σ.2.1 135 9)) rfl rfl (rfl) ?_
          refine ax_const (q := 56) (v := am_J 512852845416) rfl rfl rfl ?_
          refine ax_lcmp (q := 57) rfl rfl ?_
          refine ax_if_ne (q := 60) (x := 64) rfl rfl (fun h57 => ?_) (fun h57 => ?_)
          · have hb57 := mt lc_0.mpr h57
            refine ax_const (q := 65) (v := am_I (-1)) rfl rfl rfl ?_
            refine ax_ret (r := some (am_I (-1))) rfl rfl ?_
            have e : as_ (σ.1 135 6) (σ.2.1 135 9) = (-1) := by unfold as_; simp [*]
            rw [e] at hQ
            exact hQ
          · have hb57 := lc_0.mp h57
            refine ax_const (q := 61) (v := am_I 3) rfl rfl rfl ?_
            refine ax_goto (x := 65) rfl ?_
            refine ax_ret (r := some (am_I 3)) rfl rfl ?_
            have e : as_ (σ.1 135 6) (σ.2.1 135 9) = 3 := by unfold as_; simp [*]
            rw [e] at hQ
            exact hQ
        · have hb44 := lc_0.mp h44
          refine ax_const (q := 48) (v := am_I 2) rfl rfl rfl ?_
          refine ax_ret (r := some (am_I 2)) rfl rfl ?_
          have e : as_ (σ.1 135 6) (σ.2.1 135 9) = 2 := by unfold as_; simp [*]
          rw [e] at hQ
          exact hQ
      · have hb31 := lc_0.mp h31
        refine ax_const (q := 35) (v := am_I 1) rfl rfl rfl ?_
        refine ax_ret (r := some (am_I 1)) rfl rfl ?_
        have e : as_ (σ.1 135 6) (σ.2.1 135 9) = 1 := by unfold as_; simp [*]
        rw [e] at hQ
        exact hQ
    · have hb18 := lc_0.mp h18
      refine ax_const (q := 22) (v := am_I 0) rfl rfl rfl ?_
      refine ax_ret (r := some (am_I 0)) rfl rfl ?_
      have e : as_ (σ.1 135 6) (σ.2.1 135 9) = 0 := by unfold as_; simp [*]
      rw [e] at hQ
      exact hQ
  · refine ax_const (q := 9) (v := am_I (-1)) rfl rfl rfl ?_
    refine ax_ret (r := some (am_I (-1))) rfl rfl ?_
    have e : as_ (σ.1 135 6) (σ.2.1 135 9) = (-1) := by unfold as_; simp [*]
    rw [e] at hQ
    exact hQ

theorem m_isFull {d : Nat} (hd : 1 ≤ d) {σ : am_S}  {Q : Option am_V → am_S → Prop} (hQ : Q (some (am_I (if decide (σ.1 135 20 = 60 ∨ σ.1 135 22 = 30) then 1 else 0))) σ) : am_Ev d 164 [am_R 135] σ Q := by
  obtain ⟨d, rfl⟩ : ∃ e, d = e + 1 := ⟨d - 1, by omega⟩
  refine ev_in (m := 164) (c := k_X9_isFull) (L := [some (am_R 135)]) rfl rfl rfl rfl rfl rfl ?_
  refine ax_load (q := 1) rfl rfl rfl rfl rfl ?_
  refine ax_getf (q := 4) (v := am_I (σ.1 135 20)) rfl rfl (rfl) ?_
  refine ax_const (q := 6) (v := am_I 60) rfl rfl rfl ?_
  refine ax_icmp_eq (q := 9) (x := 18) rfl rfl (fun h6 => ?_) (fun h6 => ?_)
  · refine ax_const (q := 19) (v := am_I 1) rfl rfl rfl ?_
    refine ax_goto (x := 23) rfl ?_
    refine ax_ret (r := some (am_I 1)) rfl ⟨rfl, Or.inr rfl⟩ ?_
    have e : decide (σ.1 135 20 = 60 ∨ σ.1 135 22 = 30) = true := by first | exact decide_eq_true (by omega) | exact decide_eq_false (by omega)
    rw [e] at hQ
    exact hQ
  · refine ax_load (q := 10) rfl rfl rfl rfl rfl ?_
    refine ax_getf (q := 13) (v := am_I (σ.1 135 22)) rfl rfl (rfl) ?_
    refine ax_const (q := 15) (v := am_I 30) rfl rfl rfl ?_
    refine ax_icmp_ne (q := 18) (x := 22) rfl rfl (fun h15 => ?_) (fun h15 => ?_)
    · refine ax_const (q := 23) (v := am_I 0) rfl rfl rfl ?_
      refine ax_ret (r := some (am_I 0)) rfl ⟨rfl, Or.inl rfl⟩ ?_
      have e : decide (σ.1 135 20 = 60 ∨ σ.1 135 22 = 30) = false := by first | exact decide_eq_true (by omega) | exact decide_eq_false (by omega)
      rw [e] at hQ
      exact hQ
    · refine ax_const (q := 19) (v := am_I 1) rfl rfl rfl ?_
      refine ax_goto (x := 23) rfl ?_
      refine ax_ret (r := some (am_I 1)) rfl ⟨rfl, Or.inr rfl⟩ ?_
      have e : decide (σ.1 135 20 = 60 ∨ σ.1 135 22 = 30) = true := by first | exact decide_eq_true (by omega) | exact decide_eq_false (by omega)
      rw [e] at hQ
      exact hQ

theorem l_find {d : Nat} {σ : am_S} {g : Nat → Int} {w : Int} (hg : σ.2.1 137 = g) (hw : σ.2.1 135 9 = w) {b n : Nat} (hbn : b + n ≤ 21) {Q : Option am_V → am_S → Prop} (hQ : Q (some (am_I (fi_ g w b n))) σ) : ∀ (m k : Nat), k + m = n → aW d 0 k_X9_find Q 5 [some (am_R 135), some (am_I ((b : Nat) : Int)), some (am_I ((n : Nat) : Int)), some (am_I (fi_ g w b k)), some (am_I ((k : Nat) : Int))] [] σ := by
  intro m
  induction m with
  | zero =>
    intro k hk
    obtain rfl : k = n := by omega
    refine ax_load (q := 7) rfl rfl rfl rfl rfl ?_
    refine ax_load (q := 8) rfl rfl rfl rfl rfl ?_
    refine ax_icmp_ge (q := 11) (x := 41) rfl rfl (fun h8 => ?_) (fun h => absurd h (by omega))
    refine ax_load (q := 42) rfl rfl rfl rfl rfl ?_
    refine ax_ret (r := some (am_I (fi_ g w b k))) rfl rfl ?_
    exact hQ
  | succ m ih =>
    intro k hk
    refine ax_load (q := 7) rfl rfl rfl rfl rfl ?_
    refine ax_load (q := 8) rfl rfl rfl rfl rfl ?_
    refine ax_icmp_ge (q := 11) (x := 41) rfl rfl (fun h => absurd h (by omega)) (fun h8 => ?_)
    refine ax_load (q := 12) rfl rfl rfl rfl rfl ?_
    refine ax_getf (q := 15) (v := am_R 137) rfl rfl (rfl) ?_
    refine ax_load (q := 16) rfl rfl rfl rfl rfl ?_
    refine ax_load (q := 18) rfl rfl rfl rfl rfl ?_
    refine ax_iadd (q := 19) (z := ((b + k : Nat) : Int)) rfl rfl (am_we (by omega) (by omega) (by omega)) ?_
    refine bx_lald (q := 20) (k := b + k) (z := g (b + k)) rfl rfl (rfl) (by omega) (by omega) (congrFun hg _) ?_
    refine ax_load (q := 21) rfl rfl rfl rfl rfl ?_
    refine ax_getf (q := 24) (v := am_J w) rfl rfl (am_fgJ rfl hw) ?_
    refine ax_lcmp (q := 25) rfl rfl ?_
    refine ax_if_ne (q := 28) (x := 33) rfl rfl (fun h25 => ?_) (fun h25 => ?_)
    · have hb25 := mt lc_0.mpr h25
      refine ax_load (q := 34) rfl rfl rfl rfl rfl ?_
      refine ax_store (q := 35) (L' := [some (am_R 135), some (am_I ((b : Nat) : Int)), some (am_I ((n : Nat) : Int)), some (am_I (fi_ g w b k)), some (am_I ((k : Nat) : Int))]) rfl rfl rfl rfl rfl rfl ?_
      refine ax_iinc (q := 38) (z' := ((k + 1 : Nat) : Int)) (L' := [some (am_R 135), some (am_I ((b : Nat) : Int)), some (am_I ((n : Nat) : Int)), some (am_I (fi_ g w b k)), some (am_I ((k + 1 : Nat) : Int))]) rfl rfl rfl rfl (am_we (by omega) (by omega) (by omega)) rfl ?_
      refine ax_goto (x := 5) rfl ?_
      have e : fi_ g w b (k + 1) = fi_ g w b k := if_neg hb25
      have g := ih (k + 1) (by omega)
      rw [e] at g
      exact g
    · have hb25 := lc_0.mp h25
      refine ax_load (q := 30) rfl rfl rfl rfl rfl ?_
      refine ax_goto (x := 34) rfl ?_
      refine ax_store (q := 35) (L' := [some (am_R 135), some (am_I ((b : Nat) : Int)), some (am_I ((n : Nat) : Int)), some (am_I ((k : Nat) : Int)), some (am_I ((k : Nat) : Int))]) rfl rfl rfl rfl rfl rfl ?_
      refine ax_iinc (q := 38) (z' := ((k + 1 : Nat) : Int)) (L' := [some (am_R 135), some (am_I ((b : Nat) : Int)), some (am_I ((n : Nat) : Int)), some (am_I ((k : Nat) : Int)), some (am_I ((k + 1 : Nat) : Int))]) rfl rfl rfl rfl (am_we (by omega) (by omega) (by omega)) rfl ?_
      refine ax_goto (x := 5) rfl ?_
      have e : fi_ g w b (k + 1) = ((k : Nat) : Int) := if_pos hb25
      have g := ih (k + 1) (by omega)
      rw [e] at g
      exact g

theorem m_find {d : Nat} (hd : 1 ≤ d) {σ : am_S} {g : Nat → Int} {w : Int} (hg : σ.2.1 137 = g) (hw : σ.2.1 135 9 = w) {b n : Nat} (hbn : b + n ≤ 21) {Q : Option am_V → am_S → Prop} (hQ : Q (some (am_I (fi_ g w b n))) σ) : am_Ev d 155 [am_R 135, am_I ((b : Nat) : Int), am_I ((n : Nat) : Int)] σ Q := by
  obtain ⟨d, rfl⟩ : ∃ e, d = e + 1 := ⟨d - 1, by omega⟩
  refine ev_in (m := 155) (c := k_X9_find) (L := [some (am_R 135), some (am_I ((b : Nat) : Int)), some (am_I ((n : Nat) : Int)), none, none]) rfl rfl rfl rfl rfl rfl ?_
  refine ax_const (q := 1) (v := am_I (-1)) rfl rfl rfl ?_
  refine ax_store (q := 2) (L' := [some (am_R 135), some (am_I ((b : Nat) : Int)), some (am_I ((n : Nat) : Int)), some (am_I (-1)), none]) rfl rfl rfl rfl rfl rfl ?_
  refine ax_const (q := 3) (v := am_I 0) rfl rfl rfl ?_
  refine ax_store (q := 5) (L' := [some (am_R 135), some (am_I ((b : Nat) : Int)), some (am_I ((n : Nat) : Int)), some (am_I (-1)), some (am_I 0)]) rfl rfl rfl rfl rfl rfl ?_
  exact l_find hg hw hbn hQ n 0 (by omega)

def sgh_ (so w : Int) : Int := if so = 1 ∧ w = 6385252 then 38 else if so = 1 ∧ w = 28530 then 124 else if so = 60 ∨ so = 62 ∨ so = 61 ∨ so = 43 ∨ so = 45 ∨ so = 42 ∨ so = 47 ∨ so = 37 then so else 0
def ad_ (σ : am_S) (s : Nat) (x y : Int) : am_S := am_sI (am_sI (am_sI σ 138 (am_up (σ.1 138) s x)) 139 (am_up (σ.1 139) s y)) 135 (am_up (σ.1 135) 17 ((s + 1 : Nat) : Int))
def cu_ (σ : am_S) (u o : Nat) : am_S := am_sI σ 135 (am_up (am_up (σ.1 135) 20 ((u + 1 : Nat) : Int)) 22 ((o + 1 : Nat) : Int))
def mn_ (g : Nat → Int) (n : Nat) : Bool := decide (n = 0 ∨ g (n - 1) = 20 ∨ ti_ (g (n - 1)) < 4)
def hrl_ (g : Nat → Int) : Nat → Bool
  | 0 => false
  | k + 1 => if g k = 20 then false else if 4 < ti_ (g k) then hrl_ g k else decide (ti_ (g k) = 4)
theorem ti_bd (z : Int) : 1 ≤ ti_ z ∧ ti_ z ≤ 6 := by
  unfold ti_
  (repeat' split) <;> omega

theorem m_add {d : Nat} (hd : 1 ≤ d) {σ : am_S} {s : Nat} (hs : σ.1 135 17 = (s : Int)) (hs9 : s < 320) {x y : Int} {Q : Option am_V → am_S → Prop} (hQ : Q (none) (ad_ σ s x y)) : am_Ev d 158 [am_R 135, am_I x, am_I y] σ Q := by
  obtain ⟨d, rfl⟩ : ∃ e, d = e + 1 := ⟨d - 1, by omega⟩
  refine ev_in (m := 158) (c := k_X9_add) (L := [some (am_R 135), some (am_I x), some (am_I y)]) rfl rfl rfl rfl rfl rfl ?_
  refine ax_load (q := 1) rfl rfl rfl rfl rfl ?_
  refine ax_getf (q := 4) (v := am_R 138) rfl rfl (rfl) ?_
  refine ax_load (q := 5) rfl rfl rfl rfl rfl ?_
  refine ax_getf (q := 8) (v := am_I ((s : Nat) : Int)) rfl rfl (am_fg rfl (by first | exact hs | (rw [sI_ne (by decide)]; exact hs) | (rw [sI_ne (by decide), sI_ne (by decide)]; exact hs))) ?_
  refine ax_load (q := 9) rfl rfl rfl rfl rfl ?_
  refine bx_iast (q := 10) (k := s) rfl rfl (rfl) (by omega) (by omega) ?_
  refine ax_load (q := 11) rfl rfl rfl rfl rfl ?_
  refine ax_getf (q := 14) (v := am_R 139) rfl rfl (rfl) ?_
  refine ax_load (q := 15) rfl rfl rfl rfl rfl ?_
  refine ax_getf (q := 18) (v := am_I ((s : Nat) : Int)) rfl rfl (am_fg rfl (by first | exact hs | (rw [sI_ne (by decide)]; exact hs) | (rw [sI_ne (by decide), sI_ne (by decide)]; exact hs))) ?_
  refine ax_load (q := 19) rfl rfl rfl rfl rfl ?_
  refine bx_iast (q := 20) (k := s) rfl rfl (rfl) (by omega) (by omega) ?_
  refine ax_load (q := 21) rfl rfl rfl rfl rfl ?_
  refine ax_dup (q := 22) rfl rfl rfl ?_
  refine ax_getf (q := 25) (v := am_I ((s : Nat) : Int)) rfl rfl (am_fg rfl (by first | exact hs | (rw [sI_ne (by decide)]; exact hs) | (rw [sI_ne (by decide), sI_ne (by decide)]; exact hs))) ?_
  refine ax_const (q := 26) (v := am_I 1) rfl rfl rfl ?_
  refine ax_iadd (q := 27) (z := ((s + 1 : Nat) : Int)) rfl rfl (am_we (by omega) (by omega) (by omega)) ?_
  refine ax_putf (q := 30) rfl rfl rfl ?_
  refine ax_ret (r := none) rfl rfl ?_
  exact hQ

theorem m_countUnit {d : Nat} (hd : 1 ≤ d) {σ : am_S} {u o : Nat} (hu : σ.1 135 20 = (u : Int)) (ho : σ.1 135 22 = (o : Int)) (hu9 : u < 1000) (ho9 : o < 1000) {Q : Option am_V → am_S → Prop} (hQ : Q (none) (cu_ σ u o)) : am_Ev d 165 [am_R 135] σ Q := by
  obtain ⟨d, rfl⟩ : ∃ e, d = e + 1 := ⟨d - 1, by omega⟩
  refine ev_in (m := 165) (c := k_X9_countUnit) (L := [some (am_R 135)]) rfl rfl rfl rfl rfl rfl ?_
  refine ax_load (q := 1) rfl rfl rfl rfl rfl ?_
  refine ax_dup (q := 2) rfl rfl rfl ?_
  refine ax_getf (q := 5) (v := am_I ((u : Nat) : Int)) rfl rfl (am_fg rfl hu) ?_
  refine ax_const (q := 6) (v := am_I 1) rfl rfl rfl ?_
  refine ax_iadd (q := 7) (z := ((u + 1 : Nat) : Int)) rfl rfl (am_we (by omega) (by omega) (by omega)) ?_
  refine ax_putf (q := 10) rfl rfl rfl ?_
  refine ax_load (q := 11) rfl rfl rfl rfl rfl ?_
  refine ax_dup (q := 12) rfl rfl rfl ?_
  refine ax_getf (q := 15) (v := am_I ((o : Nat) : Int)) rfl rfl (am_fg rfl (by rw [sI_at, am_up_ne (by decide)]; exact ho)) ?_
  refine ax_const (q := 16) (v := am_I 1) rfl rfl rfl ?_
  refine ax_iadd (q := 17) (z := ((o + 1 : Nat) : Int)) rfl rfl (am_we (by omega) (by omega) (by omega)) ?_
  refine ax_putf (q := 20) rfl rfl rfl ?_
  refine ax_ret (r := none) rfl rfl ?_
  unfold cu_ at hQ
  rw [sI_sI, sI_at]
  exact hQ

theorem m_signHere {d : Nat} (hd : 2 ≤ d) {σ : am_S}  {Q : Option am_V → am_S → Prop} (hQ : Q (some (am_I (sgh_ (σ.1 135 6) (σ.2.1 135 9)))) σ) : am_Ev d 168 [am_R 135] σ Q := by
  obtain ⟨d, rfl⟩ : ∃ e, d = e + 1 := ⟨d - 1, by omega⟩
  refine ev_in (m := 168) (c := k_X9_signHere) (L := [some (am_R 135)]) rfl rfl rfl rfl rfl rfl ?_
  refine ax_load (q := 1) rfl rfl rfl rfl rfl ?_
  refine ax_const (q := 4) (v := am_J 6385252) rfl rfl rfl ?_
  refine ax_callv (q := 7) rfl rfl rfl rfl rfl rfl ?_
  refine m_isWord (by omega) ?_
  refine ax_if_eq (q := 10) (x := 13) rfl rfl (fun h7 => ?_) (fun h7 => ?_)
  · have hb7 := of_decide_eq_false (it_0 h7)
    refine ax_load (q := 14) rfl rfl rfl rfl rfl ?_
    refine ax_const (q := 17) (v := am_J 28530) rfl rfl rfl ?_
    refine ax_callv (q := 20) rfl rfl rfl rfl rfl rfl ?_
    refine m_isWord (by omega) ?_
    refine ax_if_eq (q := 23) (x := 26) rfl rfl (fun h20 => ?_) (fun h20 => ?_)
    · have hb20 := of_decide_eq_false (it_0 h20)
      refine ax_load (q := 27) rfl rfl rfl rfl rfl ?_
      refine ax_getf (q := 30) (v := am_I (σ.1 135 6)) rfl rfl (rfl) ?_
      refine ax_const (q := 32) (v := am_I 60) rfl rfl rfl ?_
      refine ax_icmp_eq (q := 35) (x := 98) rfl rfl (fun h32 => ?_) (fun h32 => ?_)
      · refine ax_load (q := 99) rfl rfl rfl rfl rfl ?_
        refine ax_getf (q := 102) (v := am_I (σ.1 135 6)) rfl rfl (rfl) ?_
        refine ax_goto (x := 106) rfl ?_
        refine ax_ret (r := some (am_I (σ.1 135 6))) rfl rfl ?_
        have e : sgh_ (σ.1 135 6) (σ.2.1 135 9) = σ.1 135 6 := by unfold sgh_; first | (rw [if_pos hb7]; done) | (rw [if_neg hb7, if_pos hb20]; done) | (rw [if_neg hb7, if_neg hb20, if_pos (by omega)]; done) | (rw [if_neg hb7, if_neg hb20, if_neg (by omega)]; done)
        rw [e] at hQ
        exact hQ
      · refine ax_load (q := 36) rfl rfl rfl rfl rfl ?_
        refine ax_getf (q := 39) (v := am_I (σ.1 135 6)) rfl rfl (rfl) ?_
        refine ax_const (q := 41) (v := am_I 62) rfl rfl rfl ?_
        refine ax_icmp_eq (q := 44) (x := 98) rfl rfl (fun h41 => ?_) (fun h41 => ?_)
        · refine ax_load (q := 99) rfl rfl rfl rfl rfl ?_
          refine ax_getf (q := 102) (v := am_I (σ.1 135 6)) rfl rfl (rfl) ?_
          refine ax_goto (x := 106) rfl ?_
          refine ax_ret (r := some (am_I (σ.1 135 6))) rfl rfl ?_
          have e : sgh_ (σ.1 135 6) (σ.2.1 135 9) = σ.1 135 6 := by unfold sgh_; first | (rw [if_pos hb7]; done) | (rw [if_neg hb7, if_pos hb20]; done) | (rw [if_neg hb7, if_neg hb20, if_pos (by omega)]; done) | (rw [if_neg hb7, if_neg hb20, if_neg (by omega)]; done)
          rw [e] at hQ
          exact hQ
        · refine ax_load (q := 45) rfl rfl rfl rfl rfl ?_
          refine ax_getf (q := 48) (v := am_I (σ.1 135 6)) rfl rfl (rfl) ?_
          refine ax_const (q := 50) (v := am_I 61) rfl rfl rfl ?_
          refine ax_icmp_eq (q := 53) (x := 98) rfl rfl (fun h50 => ?_) (fun h50 => ?_)
          · refine ax_load (q := 99) rfl rfl rfl rfl rfl ?_
            refine ax_getf (q := 102) (v := am_I (σ.1 135 6)) rfl rfl (rfl) ?_
            refine ax_goto (x := 106) rfl ?_
            refine ax_ret (r := some (am_I (σ.1 135 6))) rfl rfl ?_
            have e : sgh_ (σ.1 135 6) (σ.2.1 135 9) = σ.1 135 6 := by unfold sgh_; first | (rw [if_pos hb7]; done) | (rw [if_neg hb7, if_pos hb20]; done) | (rw [if_neg hb7, if_neg hb20, if_pos (by omega)]; done) | (rw [if_neg hb7, if_neg hb20, if_neg (by omega)]; done)
            rw [e] at hQ
            exact hQ
          · refine ax_load (q := 54) rfl rfl rfl rfl rfl ?_
            refine ax_getf (q := 57) (v := am_I (σ.1 135 6)) rfl rfl (rfl) ?_
            refine ax_const (q := 59) (v := am_I 43) rfl rfl rfl ?_
            refine ax_icmp_eq (q := 62) (x := 98) rfl rfl (fun h59 => ?_) (fun h59 => ?_)
            · refine ax_load (q := 99) rfl rfl rfl rfl rfl ?_
              refine ax_getf (q := 102) (v := am_I (σ.1 135 6)) rfl rfl (rfl) ?_
              refine ax_goto (x := 106) rfl ?_
              refine ax_ret (r := some (am_I (σ.1 135 6))) rfl rfl ?_
              have e : sgh_ (σ.1 135 6) (σ.2.1 135 9) = σ.1 135 6 := by unfold sgh_; first | (rw [if_pos hb7]; done) | (rw [if_neg hb7, if_pos hb20]; done) | (rw [if_neg hb7, if_neg hb20, if_pos (by omega)]; done) | (rw [if_neg hb7, if_neg hb20, if_neg (by omega)]; done)
              rw [e] at hQ
              exact hQ
            · refine ax_load (q := 63) rfl rfl rfl rfl rfl ?_
              refine ax_getf (q := 66) (v := am_I (σ.1 135 6)) rfl rfl (rfl) ?_
              refine ax_const (q := 68) (v := am_I 45) rfl rfl rfl ?_
              refine ax_icmp_eq (q := 71) (x := 98) rfl rfl (fun h68 => ?_) (fun h68 => ?_)
              · refine ax_load (q := 99) rfl rfl rfl rfl rfl ?_
                refine ax_getf (q := 102) (v := am_I (σ.1 135 6)) rfl rfl (rfl) ?_
                refine ax_goto (x := 106) rfl ?_
                refine ax_ret (r := some (am_I (σ.1 135 6))) rfl rfl ?_
                have e : sgh_ (σ.1 135 6) (σ.2.1 135 9) = σ.1 135 6 := by unfold sgh_; first | (rw [if_pos hb7]; done) | (rw [if_neg hb7, if_pos hb20]; done) | (rw [if_neg hb7, if_neg hb20, if_pos (by omega)]; done) | (rw [if_neg hb7, if_neg hb20, if_neg (by omega)]; done)
                rw [e] at hQ
                exact hQ
              · refine ax_load (q := 72) rfl rfl rfl rfl rfl ?_
                refine ax_getf (q := 75) (v := am_I (σ.1 135 6)) rfl rfl (rfl) ?_
                refine ax_const (q := 77) (v := am_I 42) rfl rfl rfl ?_
                refine ax_icmp_eq (q := 80) (x := 98) rfl rfl (fun h77 => ?_) (fun h77 => ?_)
                · refine ax_load (q := 99) rfl rfl rfl rfl rfl ?_
                  refine ax_getf (q := 102) (v := am_I (σ.1 135 6)) rfl rfl (rfl) ?_
                  refine ax_goto (x := 106) rfl ?_
                  refine ax_ret (r := some (am_I (σ.1 135 6))) rfl rfl ?_
                  have e : sgh_ (σ.1 135 6) (σ.2.1 135 9) = σ.1 135 6 := by unfold sgh_; first | (rw [if_pos hb7]; done) | (rw [if_neg hb7, if_pos hb20]; done) | (rw [if_neg hb7, if_neg hb20, if_pos (by omega)]; done) | (rw [if_neg hb7, if_neg hb20, if_neg (by omega)]; done)
                  rw [e] at hQ
                  exact hQ
                · refine ax_load (q := 81) rfl rfl rfl rfl rfl ?_
                  refine ax_getf (q := 84) (v := am_I (σ.1 135 6)) rfl rfl (rfl) ?_
                  refine ax_const (q := 86) (v := am_I 47) rfl rfl rfl ?_
                  refine ax_icmp_eq (q := 89) (x := 98) rfl rfl (fun h86 => ?_) (fun h86 => ?_)
                  · refine ax_load (q := 99) rfl rfl rfl rfl rfl ?_
                    refine ax_getf (q := 102) (v := am_I (σ.1 135 6)) rfl rfl (rfl) ?_
                    refine ax_goto (x := 106) rfl ?_
                    refine ax_ret (r := some (am_I (σ.1 135 6))) rfl rfl ?_
                    have e : sgh_ (σ.1 135 6) (σ.2.1 135 9) = σ.1 135 6 := by unfold sgh_; first | (rw [if_pos hb7]; done) | (rw [if_neg hb7, if_pos hb20]; done) | (rw [if_neg hb7, if_neg hb20, if_pos (by omega)]; done) | (rw [if_neg hb7, if_neg hb20, if_neg (by omega)]; done)
                    rw [e] at hQ
                    exact hQ
                  · refine ax_load (q := 90) rfl rfl rfl rfl rfl ?_
                    refine ax_getf (q := 93) (v := am_I (σ.1 135 6)) rfl rfl (rfl) ?_
                    refine ax_const (q := 95) (v := am_I 37) rfl rfl rfl ?_
                    refine ax_icmp_ne (q := 98) (x := 105) rfl rfl (fun h95 => ?_) (fun h95 => ?_)
                    · refine ax_const (q := 106) (v := am_I 0) rfl rfl rfl ?_
                      refine ax_ret (r := some (am_I 0)) rfl rfl ?_
                      have e : sgh_ (σ.1 135 6) (σ.2.1 135 9) = 0 := by unfold sgh_; first | (rw [if_pos hb7]; done) | (rw [if_neg hb7, if_pos hb20]; done) | (rw [if_neg hb7, if_neg hb20, if_pos (by omega)]; done) | (rw [if_neg hb7, if_neg hb20, if_neg (by omega)]; done)
                      rw [e] at hQ
                      exact hQ
                    · refine ax_load (q := 99) rfl rfl rfl rfl rfl ?_
                      refine ax_getf (q := 102) (v := am_I (σ.1 135 6)) rfl rfl (rfl) ?_
                      refine ax_goto (x := 106) rfl ?_
                      refine ax_ret (r := some (am_I (σ.1 135 6))) rfl rfl ?_
                      have e : sgh_ (σ.1 135 6) (σ.2.1 135 9) = σ.1 135 6 := by unfold sgh_; first | (rw [if_pos hb7]; done) | (rw [if_neg hb7, if_pos hb20]; done) | (rw [if_neg hb7, if_neg hb20, if_pos (by omega)]; done) | (rw [if_neg hb7, if_neg hb20, if_neg (by omega)]; done)
                      rw [e] at hQ
                      exact hQ
    · have hb20 := of_decide_eq_true (it_n0 h20)
      refine ax_const (q := 25) (v := am_I 124) rfl rfl rfl ?_
      refine ax_ret (r := some (am_I 124)) rfl rfl ?_
      have e : sgh_ (σ.1 135 6) (σ.2.1 135 9) = 124 := by unfold sgh_; first | (rw [if_pos hb7]; done) | (rw [if_neg hb7, if_pos hb20]; done) | (rw [if_neg hb7, if_neg hb20, if_pos (by omega)]; done) | (rw [if_neg hb7, if_neg hb20, if_neg (by omega)]; done)
      rw [e] at hQ
      exact hQ
  · have hb7 := of_decide_eq_true (it_n0 h7)
    refine ax_const (q := 12) (v := am_I 38) rfl rfl rfl ?_
    refine ax_ret (r := some (am_I 38)) rfl rfl ?_
    have e : sgh_ (σ.1 135 6) (σ.2.1 135 9) = 38 := by unfold sgh_; first | (rw [if_pos hb7]; done) | (rw [if_neg hb7, if_pos hb20]; done) | (rw [if_neg hb7, if_neg hb20, if_pos (by omega)]; done) | (rw [if_neg hb7, if_neg hb20, if_neg (by omega)]; done)
    rw [e] at hQ
    exact hQ

theorem m_mayNot {d : Nat} (hd : 2 ≤ d) {σ : am_S} {g : Nat → Int} {n : Nat} (hg : σ.1 142 = g) (hn : σ.1 135 19 = (n : Int)) (hn9 : n ≤ 160) {Q : Option am_V → am_S → Prop} (hQ : Q (some (am_I (if mn_ g n then 1 else 0))) σ) : am_Ev d 162 [am_R 135] σ Q := by
  obtain ⟨d, rfl⟩ : ∃ e, d = e + 1 := ⟨d - 1, by omega⟩
  refine ev_in (m := 162) (c := k_X9_mayNot) (L := [some (am_R 135)]) rfl rfl rfl rfl rfl rfl ?_
  refine ax_load (q := 1) rfl rfl rfl rfl rfl ?_
  refine ax_getf (q := 4) (v := am_I ((n : Nat) : Int)) rfl rfl (am_fg rfl hn) ?_
  refine ax_if_eq (q := 7) (x := 41) rfl rfl (fun h4 => ?_) (fun h4 => ?_)
  · refine ax_const (q := 42) (v := am_I 1) rfl rfl rfl ?_
    refine ax_goto (x := 46) rfl ?_
    refine ax_ret (r := some (am_I 1)) rfl ⟨rfl, Or.inr rfl⟩ ?_
    have e : mn_ g n = true := by unfold mn_; first | exact decide_eq_true (by omega) | exact decide_eq_false (by omega)
    rw [e] at hQ
    exact hQ
  · refine ax_load (q := 8) rfl rfl rfl rfl rfl ?_
    refine ax_getf (q := 11) (v := am_R 142) rfl rfl (rfl) ?_
    refine ax_load (q := 12) rfl rfl rfl rfl rfl ?_
    refine ax_getf (q := 15) (v := am_I ((n : Nat) : Int)) rfl rfl (am_fg rfl hn) ?_
    refine ax_const (q := 16) (v := am_I 1) rfl rfl rfl ?_
    refine ax_isub (q := 17) (z := (((n - 1) : Nat) : Int)) rfl rfl (am_we (by omega) (by omega) (by omega)) ?_
    refine bx_iald (q := 18) (k := (n - 1)) (z := g (n - 1)) rfl rfl (rfl) (by omega) (by omega) (congrFun hg _) ?_
    refine ax_const (q := 20) (v := am_I 20) rfl rfl rfl ?_
    refine ax_icmp_eq (q := 23) (x := 41) rfl rfl (fun h20 => ?_) (fun h20 => ?_)
    · refine ax_const (q := 42) (v := am_I 1) rfl rfl rfl ?_
      refine ax_goto (x := 46) rfl ?_
      refine ax_ret (r := some (am_I 1)) rfl ⟨rfl, Or.inr rfl⟩ ?_
      have e : mn_ g n = true := by unfold mn_; first | exact decide_eq_true (by omega) | exact decide_eq_false (by omega)
      rw [e] at hQ
      exact hQ
    · refine ax_load (q := 24) rfl rfl rfl rfl rfl ?_
      refine ax_getf (q := 27) (v := am_R 142) rfl rfl (rfl) ?_
      refine ax_load (q := 28) rfl rfl rfl rfl rfl ?_
      refine ax_getf (q := 31) (v := am_I ((n : Nat) : Int)) rfl rfl (am_fg rfl hn) ?_
      refine ax_const (q := 32) (v := am_I 1) rfl rfl rfl ?_
      refine ax_isub (q := 33) (z := (((n - 1) : Nat) : Int)) rfl rfl (am_we (by omega) (by omega) (by omega)) ?_
      refine bx_iald (q := 34) (k := (n - 1)) (z := g (n - 1)) rfl rfl (rfl) (by omega) (by omega) (congrFun hg _) ?_
      refine ax_calls (q := 37) rfl rfl rfl rfl rfl ?_
      refine m_tight (by omega) ?_
      refine ax_const (q := 38) (v := am_I 4) rfl rfl rfl ?_
      refine ax_icmp_ge (q := 41) (x := 45) rfl rfl (fun h38 => ?_) (fun h38 => ?_)
      · refine ax_const (q := 46) (v := am_I 0) rfl rfl rfl ?_
        refine ax_ret (r := some (am_I 0)) rfl ⟨rfl, Or.inl rfl⟩ ?_
        have e : mn_ g n = false := by unfold mn_; first | exact decide_eq_true (by omega) | exact decide_eq_false (by omega)
        rw [e] at hQ
        exact hQ
      · refine ax_const (q := 42) (v := am_I 1) rfl rfl rfl ?_
        refine ax_goto (x := 46) rfl ?_
        refine ax_ret (r := some (am_I 1)) rfl ⟨rfl, Or.inr rfl⟩ ?_
        have e : mn_ g n = true := by unfold mn_; first | exact decide_eq_true (by omega) | exact decide_eq_false (by omega)
        rw [e] at hQ
        exact hQ

theorem l_hasBracket {d : Nat} {σ : am_S} {g : Nat → Int} {n : Nat} (hg : σ.1 142 = g) (hn : σ.1 135 19 = (n : Int)) (hn9 : n ≤ 160) {Q : Option am_V → am_S → Prop} (hQ : Q (some (am_I (if an_ n (fun k => decide (g k = 20)) then 1 else 0))) σ) : ∀ (m k : Nat), k + m = n → aW d 1 k_X9_hasBracket Q 4 [some (am_R 135), some (am_I (if an_ k (fun k => decide (g k = 20)) then 1 else 0)), some (am_I ((k : Nat) : Int))] [] σ := by
  intro m
  induction m with
  | zero =>
    intro k hk
    obtain rfl : k = n := by omega
    refine ax_load (q := 5) rfl rfl rfl rfl rfl ?_
    refine ax_load (q := 6) rfl rfl rfl rfl rfl ?_
    refine ax_getf (q := 9) (v := am_I ((k : Nat) : Int)) rfl rfl (am_fg rfl hn) ?_
    refine ax_icmp_ge (q := 12) (x := 39) rfl rfl (fun h9 => ?_) (fun h => absurd h (by omega))
    refine ax_load (q := 40) rfl rfl rfl rfl rfl ?_
    refine ax_ret (r := some (am_I (if an_ k (fun k => decide (g k = 20)) then 1 else 0))) rfl ⟨rfl, by split <;> simp⟩ ?_
    exact hQ
  | succ m ih =>
    intro k hk
    refine ax_load (q := 5) rfl rfl rfl rfl rfl ?_
    refine ax_load (q := 6) rfl rfl rfl rfl rfl ?_
    refine ax_getf (q := 9) (v := am_I ((n : Nat) : Int)) rfl rfl (am_fg rfl hn) ?_
    refine ax_icmp_ge (q := 12) (x := 39) rfl rfl (fun h => absurd h (by omega)) (fun h9 => ?_)
    refine ax_load (q := 13) rfl rfl rfl rfl rfl ?_
    refine ax_if_ne (q := 16) (x := 27) rfl rfl (fun h13 => ?_) (fun h13 => ?_)
    · have hb13 := it_n0 h13
      refine ax_const (q := 28) (v := am_I 1) rfl rfl rfl ?_
      refine ax_goto (x := 32) rfl ?_
      refine ax_store (q := 33) (L' := [some (am_R 135), some (am_I 1), some (am_I ((k : Nat) : Int))]) rfl rfl rfl rfl rfl rfl ?_
      refine ax_iinc (q := 36) (z' := ((k + 1 : Nat) : Int)) (L' := [some (am_R 135), some (am_I 1), some (am_I ((k + 1 : Nat) : Int))]) rfl rfl rfl rfl (am_we (by omega) (by omega) (by omega)) rfl ?_
      refine ax_goto (x := 4) rfl ?_
      have e : an_ (k + 1) (fun k => decide (g k = 20)) = true := by show (an_ k _ || decide (g k = 20)) = _; first | (rw [hb13]; rfl) | (rw [decide_eq_true (by assumption), Bool.or_true]; done) | (rw [hb13, decide_eq_false (by assumption)]; rfl)
      have q := ih (k + 1) (by omega)
      rw [e] at q
      exact q
    · have hb13 := it_0 h13
      refine ax_load (q := 17) rfl rfl rfl rfl rfl ?_
      refine ax_getf (q := 20) (v := am_R 142) rfl rfl (rfl) ?_
      refine ax_load (q := 21) rfl rfl rfl rfl rfl ?_
      refine bx_iald (q := 22) (k := k) (z := g k) rfl rfl (rfl) (by omega) (by omega) (congrFun hg _) ?_
      refine ax_const (q := 24) (v := am_I 20) rfl rfl rfl ?_
      refine ax_icmp_ne (q := 27) (x := 31) rfl rfl (fun h24 => ?_) (fun h24 => ?_)
      · refine ax_const (q := 32) (v := am_I 0) rfl rfl rfl ?_
        refine ax_store (q := 33) (L' := [some (am_R 135), some (am_I 0), some (am_I ((k : Nat) : Int))]) rfl rfl rfl rfl rfl rfl ?_
        refine ax_iinc (q := 36) (z' := ((k + 1 : Nat) : Int)) (L' := [some (am_R 135), some (am_I 0), some (am_I ((k + 1 : Nat) : Int))]) rfl rfl rfl rfl (am_we (by omega) (by omega) (by omega)) rfl ?_
        refine ax_goto (x := 4) rfl ?_
        have e : an_ (k + 1) (fun k => decide (g k = 20)) = false := by show (an_ k _ || decide (g k = 20)) = _; first | (rw [hb13]; rfl) | (rw [decide_eq_true (by assumption), Bool.or_true]; done) | (rw [hb13, decide_eq_false (by assumption)]; rfl)
        have q := ih (k + 1) (by omega)
        rw [e] at q
        exact q
      · refine ax_const (q := 28) (v := am_I 1) rfl rfl rfl ?_
        refine ax_goto (x := 32) rfl ?_
        refine ax_store (q := 33) (L' := [some (am_R 135), some (am_I 1), some (am_I ((k : Nat) : Int))]) rfl rfl rfl rfl rfl rfl ?_
        refine ax_iinc (q := 36) (z' := ((k + 1 : Nat) : Int)) (L' := [some (am_R 135), some (am_I 1), some (am_I ((k + 1 : Nat) : Int))]) rfl rfl rfl rfl (am_we (by omega) (by omega) (by omega)) rfl ?_
        refine ax_goto (x := 4) rfl ?_
        have e : an_ (k + 1) (fun k => decide (g k = 20)) = true := by show (an_ k _ || decide (g k = 20)) = _; first | (rw [hb13]; rfl) | (rw [decide_eq_true (by assumption), Bool.or_true]; done) | (rw [hb13, decide_eq_false (by assumption)]; rfl)
        have q := ih (k + 1) (by omega)
        rw [e] at q
        exact q

theorem m_hasBracket {d : Nat} (hd : 1 ≤ d) {σ : am_S} {g : Nat → Int} {n : Nat} (hg : σ.1 142 = g) (hn : σ.1 135 19 = (n : Int)) (hn9 : n ≤ 160) {Q : Option am_V → am_S → Prop} (hQ : Q (some (am_I (if an_ n (fun k => decide (g k = 20)) then 1 else 0))) σ) : am_Ev d 169 [am_R 135] σ Q := by
  obtain ⟨d, rfl⟩ : ∃ e, d = e + 1 := ⟨d - 1, by omega⟩
  refine ev_in (m := 169) (c := k_X9_hasBracket) (L := [some (am_R 135), none, none]) rfl rfl rfl rfl rfl rfl ?_
  refine ax_const (q := 1) (v := am_I 0) rfl rfl rfl ?_
  refine ax_store (q := 2) (L' := [some (am_R 135), some (am_I 0), none]) rfl rfl rfl rfl rfl rfl ?_
  refine ax_const (q := 3) (v := am_I 0) rfl rfl rfl ?_
  refine ax_store (q := 4) (L' := [some (am_R 135), some (am_I 0), some (am_I 0)]) rfl rfl rfl rfl rfl rfl ?_
  exact l_hasBracket hg hn hn9 hQ n 0 (by omega)

theorem l_hasRelation {d : Nat} (hd : 1 ≤ d) {σ : am_S} {g : Nat → Int} (hg : σ.1 142 = g) {Q : Option am_V → am_S → Prop} : ∀ k : Nat, k ≤ 160 → (hQ : Q (some (am_I (if hrl_ g k then 1 else 0))) σ) → aW d 1 k_X9_hasRelation Q 7 [some (am_R 135), some (am_I (((k : Nat) : Int) - 1))] [] σ := by
  intro k
  induction k with
  | zero =>
    intro hk hQ
    rw [show (((0 : Nat) : Int) - 1) = -1 from rfl]
    refine ax_load (q := 8) rfl rfl rfl rfl rfl ?_
    refine ax_if_lt (q := 11) (x := 41) rfl rfl (fun h8 => ?_) (fun h => absurd h (by omega))
    refine ax_load (q := 42) rfl rfl rfl rfl rfl ?_
    refine ax_if_lt (q := 45) (x := 73) rfl rfl (fun h42 => ?_) (fun h => absurd h (by omega))
    refine ax_const (q := 74) (v := am_I 0) rfl rfl rfl ?_
    refine ax_ret (r := some (am_I 0)) rfl ⟨rfl, Or.inl rfl⟩ ?_
    exact hQ
  | succ k ih =>
    intro hk hQ
    have htb := ti_bd (g k)
    rw [show (((k + 1 : Nat) : Int) - 1) = ((k : Nat) : Int) by omega]
    refine ax_load (q := 8) rfl rfl rfl rfl rfl ?_
    refine ax_if_lt (q := 11) (x := 41) rfl rfl (fun h => absurd h (by omega)) (fun h8 => ?_)
    refine ax_load (q := 12) rfl rfl rfl rfl rfl ?_
    refine ax_getf (q := 15) (v := am_R 142) rfl rfl (rfl) ?_
    refine ax_load (q := 16) rfl rfl rfl rfl rfl ?_
    refine bx_iald (q := 17) (k := k) (z := g k) rfl rfl (rfl) (by omega) (by omega) (congrFun hg _) ?_
    refine ax_const (q := 19) (v := am_I 20) rfl rfl rfl ?_
    refine ax_icmp_eq (q := 22) (x := 41) rfl rfl (fun h19 => ?_) (fun h19 => ?_)
    · refine ax_load (q := 42) rfl rfl rfl rfl rfl ?_
      refine ax_if_lt (q := 45) (x := 73) rfl rfl (fun h => absurd h (by omega)) (fun h42 => ?_)
      refine ax_load (q := 46) rfl rfl rfl rfl rfl ?_
      refine ax_getf (q := 49) (v := am_R 142) rfl rfl (rfl) ?_
      refine ax_load (q := 50) rfl rfl rfl rfl rfl ?_
      refine bx_iald (q := 51) (k := k) (z := g k) rfl rfl (rfl) (by omega) (by omega) (congrFun hg _) ?_
      refine ax_const (q := 53) (v := am_I 20) rfl rfl rfl ?_
      refine ax_icmp_eq (q := 56) (x := 73) rfl rfl (fun h53 => ?_) (fun h53 => ?_)
      · refine ax_const (q := 74) (v := am_I 0) rfl rfl rfl ?_
        refine ax_ret (r := some (am_I 0)) rfl ⟨rfl, Or.inl rfl⟩ ?_
        have e : hrl_ g (k + 1) = false := by
          unfold hrl_
          first | (rw [if_pos (by assumption)]; done) | (rw [if_neg (by assumption), if_neg (by omega)]; first | exact decide_eq_true (by omega) | exact decide_eq_false (by omega))
        rw [e] at hQ
        exact hQ
      · refine ax_load (q := 57) rfl rfl rfl rfl rfl ?_
        refine ax_getf (q := 60) (v := am_R 142) rfl rfl (rfl) ?_
        refine ax_load (q := 61) rfl rfl rfl rfl rfl ?_
        refine bx_iald (q := 62) (k := k) (z := g k) rfl rfl (rfl) (by omega) (by omega) (congrFun hg _) ?_
        refine ax_calls (q := 65) rfl rfl rfl rfl rfl ?_
        refine m_tight (by omega) ?_
        refine ax_const (q := 66) (v := am_I 4) rfl rfl rfl ?_
        refine ax_icmp_ne (q := 69) (x := 73) rfl rfl (fun h66 => ?_) (fun h66 => ?_)
        · refine ax_const (q := 74) (v := am_I 0) rfl rfl rfl ?_
          refine ax_ret (r := some (am_I 0)) rfl ⟨rfl, Or.inl rfl⟩ ?_
          have e : hrl_ g (k + 1) = false := by
            unfold hrl_
            first | (rw [if_pos (by assumption)]; done) | (rw [if_neg (by assumption), if_neg (by omega)]; first | exact decide_eq_true (by omega) | exact decide_eq_false (by omega))
          rw [e] at hQ
          exact hQ
        · refine ax_const (q := 70) (v := am_I 1) rfl rfl rfl ?_
          refine ax_goto (x := 74) rfl ?_
          refine ax_ret (r := some (am_I 1)) rfl ⟨rfl, Or.inr rfl⟩ ?_
          have e : hrl_ g (k + 1) = true := by
            unfold hrl_
            first | (rw [if_pos (by assumption)]; done) | (rw [if_neg (by assumption), if_neg (by omega)]; first | exact decide_eq_true (by omega) | exact decide_eq_false (by omega))
          rw [e] at hQ
          exact hQ
    · refine ax_load (q := 23) rfl rfl rfl rfl rfl ?_
      refine ax_getf (q := 26) (v := am_R 142) rfl rfl (rfl) ?_
      refine ax_load (q := 27) rfl rfl rfl rfl rfl ?_
      refine bx_iald (q := 28) (k := k) (z := g k) rfl rfl (rfl) (by omega) (by omega) (congrFun hg _) ?_
      refine ax_calls (q := 31) rfl rfl rfl rfl rfl ?_
      refine m_tight (by omega) ?_
      refine ax_const (q := 32) (v := am_I 4) rfl rfl rfl ?_
      refine ax_icmp_le (q := 35) (x := 41) rfl rfl (fun h32 => ?_) (fun h32 => ?_)
      · refine ax_load (q := 42) rfl rfl rfl rfl rfl ?_
        refine ax_if_lt (q := 45) (x := 73) rfl rfl (fun h => absurd h (by omega)) (fun h42 => ?_)
        refine ax_load (q := 46) rfl rfl rfl rfl rfl ?_
        refine ax_getf (q := 49) (v := am_R 142) rfl rfl (rfl) ?_
        refine ax_load (q := 50) rfl rfl rfl rfl rfl ?_
        refine bx_iald (q := 51) (k := k) (z := g k) rfl rfl (rfl) (by omega) (by omega) (congrFun hg _) ?_
        refine ax_const (q := 53) (v := am_I 20) rfl rfl rfl ?_
        refine ax_icmp_eq (q := 56) (x := 73) rfl rfl (fun h53 => ?_) (fun h53 => ?_)
        · refine ax_const (q := 74) (v := am_I 0) rfl rfl rfl ?_
          refine ax_ret (r := some (am_I 0)) rfl ⟨rfl, Or.inl rfl⟩ ?_
          have e : hrl_ g (k + 1) = false := by
            unfold hrl_
            first | (rw [if_pos (by assumption)]; done) | (rw [if_neg (by assumption), if_neg (by omega)]; first | exact decide_eq_true (by omega) | exact decide_eq_false (by omega))
          rw [e] at hQ
          exact hQ
        · refine ax_load (q := 57) rfl rfl rfl rfl rfl ?_
          refine ax_getf (q := 60) (v := am_R 142) rfl rfl (rfl) ?_
          refine ax_load (q := 61) rfl rfl rfl rfl rfl ?_
          refine bx_iald (q := 62) (k := k) (z := g k) rfl rfl (rfl) (by omega) (by omega) (congrFun hg _) ?_
          refine ax_calls (q := 65) rfl rfl rfl rfl rfl ?_
          refine m_tight (by omega) ?_
          refine ax_const (q := 66) (v := am_I 4) rfl rfl rfl ?_
          refine ax_icmp_ne (q := 69) (x := 73) rfl rfl (fun h66 => ?_) (fun h66 => ?_)
          · refine ax_const (q := 74) (v := am_I 0) rfl rfl rfl ?_
            refine ax_ret (r := some (am_I 0)) rfl ⟨rfl, Or.inl rfl⟩ ?_
            have e : hrl_ g (k + 1) = false := by
              unfold hrl_
              first | (rw [if_pos (by assumption)]; done) | (rw [if_neg (by assumption), if_neg (by omega)]; first | exact decide_eq_true (by omega) | exact decide_eq_false (by omega))
            rw [e] at hQ
            exact hQ
          · refine ax_const (q := 70) (v := am_I 1) rfl rfl rfl ?_
            refine ax_goto (x := 74) rfl ?_
            refine ax_ret (r := some (am_I 1)) rfl ⟨rfl, Or.inr rfl⟩ ?_
            have e : hrl_ g (k + 1) = true := by
              unfold hrl_
              first | (rw [if_pos (by assumption)]; done) | (rw [if_neg (by assumption), if_neg (by omega)]; first | exact decide_eq_true (by omega) | exact decide_eq_false (by omega))
            rw [e] at hQ
            exact hQ
      · refine ax_iinc (q := 38) (z' := ((k : Nat) : Int) - 1) (L' := [some (am_R 135), some (am_I (((k : Nat) : Int) - 1))]) rfl rfl rfl rfl (am_we (by omega) (by omega) (by omega)) rfl ?_
        refine ax_goto (x := 7) rfl ?_
        exact ih (by omega) (by rw [show hrl_ g (k + 1) = hrl_ g k by show (if _ then _ else if _ then _ else _) = _; rw [if_neg (by assumption), if_pos (by omega)]] at hQ; exact hQ)

theorem m_hasRelation {d : Nat} (hd : 2 ≤ d) {σ : am_S} {g : Nat → Int} {n : Nat} (hg : σ.1 142 = g) (hn : σ.1 135 19 = (n : Int)) (hn9 : n ≤ 160) {Q : Option am_V → am_S → Prop} (hQ : Q (some (am_I (if hrl_ g n then 1 else 0))) σ) : am_Ev d 161 [am_R 135] σ Q := by
  obtain ⟨d, rfl⟩ : ∃ e, d = e + 1 := ⟨d - 1, by omega⟩
  refine ev_in (m := 161) (c := k_X9_hasRelation) (L := [some (am_R 135), none]) rfl rfl rfl rfl rfl rfl ?_
  refine ax_load (q := 1) rfl rfl rfl rfl rfl ?_
  refine ax_getf (q := 4) (v := am_I ((n : Nat) : Int)) rfl rfl (am_fg rfl hn) ?_
  refine ax_const (q := 5) (v := am_I 1) rfl rfl rfl ?_
  refine ax_isub (q := 6) (z := ((n : Nat) : Int) - 1) rfl rfl (am_we (by omega) (by omega) (by omega)) ?_
  refine ax_store (q := 7) (L' := [some (am_R 135), some (am_I (((n : Nat) : Int) - 1))]) rfl rfl rfl rfl rfl rfl ?_
  exact l_hasRelation (by omega) hg n hn9 hQ

def cz_ (g : Nat → Int) (t : Int) : Nat → Nat
  | 0 => 0
  | n + 1 => if g n = 20 ∨ (ti_ (g n) : Int) < t then n + 1 else cz_ g t n
/-- what close adds -/
def ce_ (g : Nat → Int) (t : Int) : Nat → List (Int × Int)
  | 0 => []
  | n + 1 => if g n = 20 ∨ (ti_ (g n) : Int) < t then [] else (if g n = 21 then ((2 : Int), (0 : Int)) else (3, g n)) :: ce_ g t n
def cq_ (g : Nat → Int) (t : Int) : Nat → Nat
  | 0 => 0
  | n + 1 => if g n = 20 ∨ (ti_ (g n) : Int) < t then 0 else (if g n = 21 then 1 else 0) + cq_ g t n
def pe_ (f : Nat → Int) (s : Nat) : List Int → Nat → Int
  | [] => f
  | x :: l => pe_ (am_up f s x) (s + 1) l
theorem fp_ad {A F B : List Nat} {σ σ' : am_S} {s : Nat} {x y : Int} (h : fp_ A F B σ σ') (h1 : 138 ∈ A) (h2 : 139 ∈ A) (h3 : 17 ∈ F) : fp_ A F B σ (ad_ σ' s x y) := by
  have h5 := fp_s5 (z := ((s + 1 : Nat) : Int)) (fp_sI (fp_sI (f := am_up (σ'.1 138) s x) h h1 (by decide)) (a := 139) (f := am_up (σ'.1 139) s y) h2 (by decide)) h3
  rw [sI_ne (by decide), sI_ne (by decide)] at h5
  exact h5
def CL_ (σ σ' : am_S) (s n : Nat) (dp : Int) (l : List (Int × Int)) : Prop := fp_ [138, 139] [17, 19, 23] [] σ σ' ∧ σ'.1 135 17 = ((s + l.length : Nat) : Int) ∧ σ'.1 135 19 = (n : Int) ∧ σ'.1 135 23 = dp ∧ σ'.1 138 = pe_ (σ.1 138) s (l.map (·.1)) ∧ σ'.1 139 = pe_ (σ.1 139) s (l.map (·.2))

theorem l_close {d : Nat} (hd : 2 ≤ d) {g : Nat → Int} {t : Int} {Q : Option am_V → am_S → Prop} : ∀ (n s : Nat) (dp : Int) (σ : am_S), σ.1 142 = g → σ.1 135 19 = (n : Int) → σ.1 135 17 = (s : Int) → σ.1 135 23 = dp → n ≤ 160 → s + n ≤ 320 → (n : Int) - 1000 ≤ dp → dp ≤ 1000 → (hQ : ∀ σ', CL_ σ σ' s (cz_ g t n) (dp - (cq_ g t n : Nat)) (ce_ g t n) → Q none σ') → aW d 4 k_X9_close Q 0 [some (am_R 135), some (am_I t)] [] σ := by
  intro n
  induction n with
  | zero =>
    intro s dp σ hg hn hs hdp hn9 hsn hd1 hd2 hQ
    refine ax_load (q := 1) rfl rfl rfl rfl rfl ?_
    refine ax_getf (q := 4) (v := am_I ((0 : Nat) : Int)) rfl rfl (am_fg rfl hn) ?_
    refine ax_if_le (q := 7) (x := 101) rfl rfl (fun h4 => ?_) (fun h => absurd h (by omega))
    refine ax_ret (r := none) rfl rfl ?_
    exact hQ σ ⟨fp_rf _ _ _ _, by rw [hs]; rfl, hn, by rw [hdp]; show dp = dp - 0; omega, rfl, rfl⟩
  | succ n ih =>
    intro s dp σ hg hn hs hdp hn9 hsn hd1 hd2 hQ
    refine ax_load (q := 1) rfl rfl rfl rfl rfl ?_
    refine ax_getf (q := 4) (v := am_I ((n + 1 : Nat) : Int)) rfl rfl (am_fg rfl hn) ?_
    refine ax_if_le (q := 7) (x := 101) rfl rfl (fun h => absurd h (by omega)) (fun h4 => ?_)
    refine ax_load (q := 8) rfl rfl rfl rfl rfl ?_
    refine ax_getf (q := 11) (v := am_R 142) rfl rfl (rfl) ?_
    refine ax_load (q := 12) rfl rfl rfl rfl rfl ?_
    refine ax_getf (q := 15) (v := am_I ((n + 1 : Nat) : Int)) rfl rfl (am_fg rfl hn) ?_
    refine ax_const (q := 16) (v := am_I 1) rfl rfl rfl ?_
    refine ax_isub (q := 17) (z := ((n : Nat) : Int)) rfl rfl (am_we (by omega) (by omega) (by omega)) ?_
    refine bx_iald (q := 18) (k := n) (z := g n) rfl rfl (rfl) (by omega) (by omega) ((congrFun (by first | exact hg | (rw [sI_ne (by decide)]; exact hg)) _)) ?_
    refine ax_const (q := 20) (v := am_I 20) rfl rfl rfl ?_
    refine ax_icmp_eq (q := 23) (x := 101) rfl rfl (fun h20 => ?_) (fun h20 => ?_)
    · refine ax_ret (r := none) rfl rfl ?_
      have c : g n = 20 ∨ (ti_ (g n) : Int) < t := by first | exact Or.inl (by assumption) | exact Or.inr (by omega)
      exact hQ σ ⟨fp_rf _ _ _ _, by rw [hs]; unfold ce_; rw [if_pos c]; rfl, by unfold cz_; rw [if_pos c]; exact hn, by unfold cq_; rw [if_pos c, hdp]; show dp = dp - 0; omega, by unfold ce_; rw [if_pos c]; rfl, by unfold ce_; rw [if_pos c]; rfl⟩
    · refine ax_load (q := 24) rfl rfl rfl rfl rfl ?_
      refine ax_getf (q := 27) (v := am_R 142) rfl rfl (rfl) ?_
      refine ax_load (q := 28) rfl rfl rfl rfl rfl ?_
      refine ax_getf (q := 31) (v := am_I ((n + 1 : Nat) : Int)) rfl rfl (am_fg rfl hn) ?_
      refine ax_const (q := 32) (v := am_I 1) rfl rfl rfl ?_
      refine ax_isub (q := 33) (z := ((n : Nat) : Int)) rfl rfl (am_we (by omega) (by omega) (by omega)) ?_
      refine bx_iald (q := 34) (k := n) (z := g n) rfl rfl (rfl) (by omega) (by omega) ((congrFun (by first | exact hg | (rw [sI_ne (by decide)]; exact hg)) _)) ?_
      refine ax_calls (q := 37) rfl rfl rfl rfl rfl ?_
      refine m_tight (by omega) ?_
      refine ax_load (q := 38) rfl rfl rfl rfl rfl ?_
      refine ax_icmp_lt (q := 41) (x := 101) rfl rfl (fun h38 => ?_) (fun h38 => ?_)
      · refine ax_ret (r := none) rfl rfl ?_
        have c : g n = 20 ∨ (ti_ (g n) : Int) < t := by first | exact Or.inl (by assumption) | exact Or.inr (by omega)
        exact hQ σ ⟨fp_rf _ _ _ _, by rw [hs]; unfold ce_; rw [if_pos c]; rfl, by unfold cz_; rw [if_pos c]; exact hn, by unfold cq_; rw [if_pos c, hdp]; show dp = dp - 0; omega, by unfold ce_; rw [if_pos c]; rfl, by unfold ce_; rw [if_pos c]; rfl⟩
      · refine ax_load (q := 42) rfl rfl rfl rfl rfl ?_
        refine ax_dup (q := 43) rfl rfl rfl ?_
        refine ax_getf (q := 46) (v := am_I ((n + 1 : Nat) : Int)) rfl rfl (am_fg rfl hn) ?_
        refine ax_const (q := 47) (v := am_I 1) rfl rfl rfl ?_
        refine ax_isub (q := 48) (z := ((n : Nat) : Int)) rfl rfl (am_we (by omega) (by omega) (by omega)) ?_
        refine ax_putf (q := 51) rfl rfl rfl ?_
        refine ax_load (q := 52) rfl rfl rfl rfl rfl ?_
        refine ax_getf (q := 55) (v := am_R 142) rfl rfl (rfl) ?_
        refine ax_load (q := 56) rfl rfl rfl rfl rfl ?_
        refine ax_getf (q := 59) (v := am_I ((n : Nat) : Int)) rfl rfl (am_fg rfl (by first | (rw [sI_at, am_up_same]) | (simp [ad_, am_sI, am_up]))) ?_
        refine bx_iald (q := 60) (k := n) (z := g n) rfl rfl (rfl) (by omega) (by omega) ((congrFun (by first | exact hg | (rw [sI_ne (by decide)]; exact hg)) _)) ?_
        refine ax_const (q := 62) (v := am_I 21) rfl rfl rfl ?_
        refine ax_icmp_ne (q := 65) (x := 84) rfl rfl (fun h62 => ?_) (fun h62 => ?_)
        · refine ax_load (q := 85) rfl rfl rfl rfl rfl ?_
          refine ax_const (q := 86) (v := am_I 3) rfl rfl rfl ?_
          refine ax_load (q := 87) rfl rfl rfl rfl rfl ?_
          refine ax_getf (q := 90) (v := am_R 142) rfl rfl (rfl) ?_
          refine ax_load (q := 91) rfl rfl rfl rfl rfl ?_
          refine ax_getf (q := 94) (v := am_I ((n : Nat) : Int)) rfl rfl (am_fg rfl (by first | (rw [sI_at, am_up_same]) | (simp [ad_, am_sI, am_up]))) ?_
          refine bx_iald (q := 95) (k := n) (z := g n) rfl rfl (rfl) (by omega) (by omega) ((congrFun (by first | exact hg | (rw [sI_ne (by decide)]; exact hg)) _)) ?_
          refine ax_callv (q := 98) rfl rfl rfl rfl rfl rfl ?_
          refine m_add (s := s) (by omega) (by rw [sI_at, am_up_ne (by decide)]; exact hs) (by omega) ?_
          refine ax_goto (x := 0) rfl ?_
          have c : ¬ (g n = 20 ∨ (ti_ (g n) : Int) < t) := by rintro (q | q); (first | exact absurd q (by assumption) | omega); omega
          have e1 : cz_ g t (n + 1) = cz_ g t n := if_neg c
          have e2 : ce_ g t (n + 1) = ((3, (g n)) : Int × Int) :: ce_ g t n := by show (if _ then _ else (if _ then _ else _) :: _) = _; rw [if_neg c, if_neg (by assumption)]
          have e3 : cq_ g t (n + 1) = 0 + cq_ g t n := by show (if _ then _ else (if _ then _ else _) + _) = _; rw [if_neg c, if_neg (by assumption)]
          rw [e1, e2, e3] at hQ
          refine ih (s + 1) (dp - 0) _ (by simp [ad_, am_sI, am_up, hg]) (by simp [ad_, am_sI, am_up]) (by simp [ad_, am_sI, am_up]) (by simp [ad_, am_sI, am_up, hdp]) (by omega) (by omega) (by omega) (by omega) (fun σ' h => hQ σ' ?_)
          obtain ⟨f1, f2, f3, f4, f5, f6⟩ := h
          refine ⟨fp_tr (fp_ad (fp_s5 (fp_rf _ _ _ _) (by decide)) (by decide) (by decide) (by decide)) f1 (fun _ q => q) (fun _ q => q) (fun _ q => q), ?_, f3, ?_, ?_, ?_⟩
          · rw [f2, List.length_cons]; congr 1; omega
          · rw [f4]; omega
          · rw [f5]; simp [ad_, am_sI, am_up, pe_]
          · rw [f6]; simp [ad_, am_sI, am_up, pe_]
        · refine ax_load (q := 66) rfl rfl rfl rfl rfl ?_
          refine ax_const (q := 67) (v := am_I 2) rfl rfl rfl ?_
          refine ax_const (q := 68) (v := am_I 0) rfl rfl rfl ?_
          refine ax_callv (q := 71) rfl rfl rfl rfl rfl rfl ?_
          refine m_add (s := s) (by omega) (by rw [sI_at, am_up_ne (by decide)]; exact hs) (by omega) ?_
          refine ax_load (q := 72) rfl rfl rfl rfl rfl ?_
          refine ax_dup (q := 73) rfl rfl rfl ?_
          refine ax_getf (q := 76) (v := am_I dp) rfl rfl (am_fg rfl (by simp [ad_, am_sI, am_up, hdp])) ?_
          refine ax_const (q := 77) (v := am_I 1) rfl rfl rfl ?_
          refine ax_isub (q := 78) (z := dp - 1) rfl rfl (am_we (by omega) (by omega) (by omega)) ?_
          refine ax_putf (q := 81) rfl rfl rfl ?_
          refine ax_goto (x := 0) rfl ?_
          have c : ¬ (g n = 20 ∨ (ti_ (g n) : Int) < t) := by rintro (q | q); (first | exact absurd q (by assumption) | omega); omega
          have e1 : cz_ g t (n + 1) = cz_ g t n := if_neg c
          have e2 : ce_ g t (n + 1) = ((2, 0) : Int × Int) :: ce_ g t n := by show (if _ then _ else (if _ then _ else _) :: _) = _; rw [if_neg c, if_pos (by assumption)]
          have e3 : cq_ g t (n + 1) = 1 + cq_ g t n := by show (if _ then _ else (if _ then _ else _) + _) = _; rw [if_neg c, if_pos (by assumption)]
          rw [e1, e2, e3] at hQ
          refine ih (s + 1) (dp - 1) _ (by simp [ad_, am_sI, am_up, hg]) (by simp [ad_, am_sI, am_up]) (by simp [ad_, am_sI, am_up]) (by simp [ad_, am_sI, am_up, hdp]) (by omega) (by omega) (by omega) (by omega) (fun σ' h => hQ σ' ?_)
          obtain ⟨f1, f2, f3, f4, f5, f6⟩ := h
          refine ⟨fp_tr (fp_s5 (fp_ad (fp_s5 (fp_rf _ _ _ _) (by decide)) (by decide) (by decide) (by decide)) (by decide)) f1 (fun _ q => q) (fun _ q => q) (fun _ q => q), ?_, f3, ?_, ?_, ?_⟩
          · rw [f2, List.length_cons]; congr 1; omega
          · rw [f4]; omega
          · rw [f5]; simp [ad_, am_sI, am_up, pe_]
          · rw [f6]; simp [ad_, am_sI, am_up, pe_]

theorem m_close {d : Nat} (hd : 3 ≤ d) {σ : am_S} {g : Nat → Int} {t : Int} {n s : Nat} {dp : Int} (hg : σ.1 142 = g) (hn : σ.1 135 19 = (n : Int)) (hs : σ.1 135 17 = (s : Int)) (hdp : σ.1 135 23 = dp) (hn9 : n ≤ 160) (hsn : s + n ≤ 320) (hd1 : (n : Int) - 1000 ≤ dp) (hd2 : dp ≤ 1000) {Q : Option am_V → am_S → Prop} (hQ : ∀ σ', CL_ σ σ' s (cz_ g t n) (dp - (cq_ g t n : Nat)) (ce_ g t n) → Q none σ') : am_Ev d 160 [am_R 135, am_I t] σ Q := by
  obtain ⟨d, rfl⟩ : ∃ e, d = e + 1 := ⟨d - 1, by omega⟩
  refine ev_in (m := 160) (c := k_X9_close) (L := [some (am_R 135), some (am_I t)]) rfl rfl rfl rfl rfl rfl ?_
  exact l_close (by omega) n s dp σ hg hn hs hdp hn9 hsn hd1 hd2 hQ

/-! steps of the parser -/
def nxp_ (tp : Nat → Int) (n p : Nat) : Nat := skp_ tp n (n - tka_ tp n p) (tka_ tp n p)
theorem tka_le {tp : Nat → Int} {n p : Nat} (h : p ≤ n) : p ≤ tka_ tp n p ∧ tka_ tp n p ≤ n := by
  have h1 := rl_le lt_ tp n (n - p) p
  have h2 := rl_le dt_ tp n (n - p) p
  have hl : tkl_ tp n p ≤ n - p := by
    unfold tkl_
    split
    · omega
    · next q =>
      have : p < n := by
        unfold hr_ at q
        split at q
        · assumption
        · omega
      split
      · exact h1
      · split
        · exact h2
        · omega
  unfold tka_
  split <;> omega
def PS_ (tp : Nat → Int) (n p : Nat) (σ : am_S) : Prop := TK_ tp n p σ ∧ σ.1 136 = tp ∧ σ.1 135 5 = (n : Int) ∧ n ≤ 1600 ∧ p ≤ n ∧ σ.1 135 3 = -1
theorem nxp_le {tp : Nat → Int} {n p : Nat} (h : p ≤ n) : p ≤ nxp_ tp n p ∧ nxp_ tp n p ≤ n := by
  have h1 := tka_le (tp := tp) h
  have h2 := skp_le tp n (n - tka_ tp n p) (tka_ tp n p)
  unfold nxp_
  omega
theorem m_tokenN {d : Nat} (hd : 2 ≤ d) {σ : am_S} {tp : Nat → Int} {n p : Nat} (hP : PS_ tp n p σ) {Q : Option am_V → am_S → Prop} (hQ : ∀ σ', fp_ [] [4, 6, 7, 8, 9] [] σ σ' → PS_ tp n (nxp_ tp n p) σ' → Q none σ') : am_Ev d 146 [am_R 135] σ Q := by
  obtain ⟨h1, h2, h3, h4, h5, h6⟩ := hP
  have ht := tka_le (tp := tp) h5
  refine m_token hd h2 h3 h4 h1.1 ht.2 (fun σ' hf hk => hQ σ' hf ⟨hk, ?_, ?_, h4, (nxp_le h5).2, ?_⟩)
  · rw [hf.1 136 (by decide) (by decide)]; exact h2
  · rw [hf.2.1 5 (by decide)]; exact h3
  · rw [hf.2.1 3 (by decide)]; exact h6
theorem wr_2 (σ : am_S) {z : Int} (hz : 0 < z) : 0 < (wr_ σ z).1 135 2 := by
  unfold wr_
  rw [sI_at, am_up_ne (by decide), am_up_same]
  split <;> omega
theorem fp_wr {A F B : List Nat} {σ σ' : am_S} {z : Int} (h : fp_ A F B σ σ') (h2 : 2 ∈ F) (h3 : 3 ∈ F) : fp_ A F B σ (wr_ σ' z) := by
  unfold wr_
  rw [sI_sI]
  exact ⟨fun b hb h9 => by rw [sI_ne h9]; exact h.1 b hb h9, fun j hj => by rw [sI_at, am_up_ne (fun q => hj (by rw [q]; exact h3)), am_up_ne (fun q => hj (by rw [q]; exact h2))]; exact h.2.1 j hj, h.2.2.1, h.2.2.2.1, h.2.2.2.2⟩

theorem m_want {d : Nat} (hd : 3 ≤ d) {σ : am_S} {tp : Nat → Int} {n p : Nat} (hP : PS_ tp n p σ) (h02 : σ.1 135 2 = 0) {w : Int} {Q : Option am_V → am_S → Prop} (hN : ¬ (tks_ tp n p = 1 ∧ tkw_ tp n p = w) → Q none (wr_ σ 2)) (hY : tks_ tp n p = 1 ∧ tkw_ tp n p = w → ∀ σ', fp_ [] [4, 6, 7, 8, 9] [] σ σ' → PS_ tp n (nxp_ tp n p) σ' → Q none σ') : am_Ev d 151 [am_R 135, am_J w] σ Q := by
  obtain ⟨d, rfl⟩ : ∃ e, d = e + 1 := ⟨d - 1, by omega⟩
  have k6 := hP.1.2.1
  have k9 := hP.1.2.2.2.2
  refine ev_in (m := 151) (c := k_X9_want) (L := [some (am_R 135), some (am_J w), none]) rfl rfl rfl rfl rfl rfl ?_
  refine ax_load (q := 1) rfl rfl rfl rfl rfl ?_
  refine ax_getf (q := 4) (v := am_I 0) rfl rfl (am_fg rfl h02) ?_
  refine ax_if_le (q := 7) (x := 8) rfl rfl (fun h4 => ?_) (fun h => absurd h (by omega))
  refine ax_load (q := 9) rfl rfl rfl rfl rfl ?_
  refine ax_load (q := 10) rfl rfl rfl rfl rfl ?_
  refine ax_callv (q := 13) rfl rfl rfl rfl rfl rfl ?_
  refine m_isWord (by omega) ?_
  rw [k6, k9]
  refine ax_if_ne (q := 16) (x := 24) rfl rfl (fun h13 => ?_) (fun h13 => ?_)
  · have hb13 := it_n0 h13
    refine ax_load (q := 25) rfl rfl rfl rfl rfl ?_
    refine ax_callv (q := 28) rfl rfl rfl rfl rfl rfl ?_
    refine m_tokenN (by omega) hP (fun σ1 hf1 hP1 => ?_)
    refine ax_ret (r := none) rfl rfl ?_
    exact hY (of_decide_eq_true hb13) _ hf1 hP1
  · have hb13 := it_0 h13
    refine ax_load (q := 17) rfl rfl rfl rfl rfl ?_
    refine ax_const (q := 18) (v := am_I 2) rfl rfl rfl ?_
    refine ax_callv (q := 21) rfl rfl rfl rfl rfl rfl ?_
    refine m_wrong (by omega) ?_
    rw [if_neg (by rw [h02]; decide)]
    refine ax_goto (x := 28) rfl ?_
    refine ax_ret (r := none) rfl rfl ?_
    exact hN (of_decide_eq_false hb13)

theorem m_toldNumber {d : Nat} (hd : 3 ≤ d) {σ : am_S} {tp : Nat → Int} {n p : Nat} (hP : PS_ tp n p σ) (h02 : σ.1 135 2 = 0) {x y : Int} {Q : Option am_V → am_S → Prop} (hN : ∀ z v, (tks_ tp n p ≠ 2 ∧ z = 2) ∨ (tks_ tp n p = 2 ∧ ¬ (x ≤ tkn_ tp n p ∧ tkn_ tp n p ≤ y) ∧ z = 4) → Q (some (am_I v)) (wr_ σ z)) (hY : tks_ tp n p = 2 ∧ x ≤ tkn_ tp n p ∧ tkn_ tp n p ≤ y → ∀ σ', fp_ [] [4, 6, 7, 8, 9] [] σ σ' → PS_ tp n (nxp_ tp n p) σ' → Q (some (am_I (tkn_ tp n p))) σ') : am_Ev d 152 [am_R 135, am_I x, am_I y] σ Q := by
  obtain ⟨d, rfl⟩ : ∃ e, d = e + 1 := ⟨d - 1, by omega⟩
  have k6 := hP.1.2.1
  have k8 := hP.1.2.2.2.1
  refine ev_in (m := 152) (c := k_X9_toldNumber) (L := [some (am_R 135), some (am_I x), some (am_I y), none]) rfl rfl rfl rfl rfl rfl ?_
  refine ax_load (q := 1) rfl rfl rfl rfl rfl ?_
  refine ax_getf (q := 4) (v := am_I 0) rfl rfl (am_fg rfl h02) ?_
  refine ax_if_le (q := 7) (x := 9) rfl rfl (fun h4 => ?_) (fun h => absurd h (by omega))
  refine ax_load (q := 10) rfl rfl rfl rfl rfl ?_
  refine ax_getf (q := 13) (v := am_I (tks_ tp n p)) rfl rfl (am_fg rfl k6) ?_
  refine ax_const (q := 14) (v := am_I 2) rfl rfl rfl ?_
  refine ax_icmp_eq (q := 17) (x := 25) rfl rfl (fun h14 => ?_) (fun h14 => ?_)
  · refine ax_load (q := 26) rfl rfl rfl rfl rfl ?_
    refine ax_getf (q := 29) (v := am_I (tkn_ tp n p)) rfl rfl (am_fg rfl k8) ?_
    refine ax_load (q := 30) rfl rfl rfl rfl rfl ?_
    refine ax_icmp_lt (q := 33) (x := 41) rfl rfl (fun h30 => ?_) (fun h30 => ?_)
    · refine ax_load (q := 42) rfl rfl rfl rfl rfl ?_
      refine ax_const (q := 43) (v := am_I 4) rfl rfl rfl ?_
      refine ax_callv (q := 46) rfl rfl rfl rfl rfl rfl ?_
      refine m_wrong (by omega) ?_
      rw [if_neg (by rw [h02]; decide)]
      refine ax_load (q := 47) rfl rfl rfl rfl rfl ?_
      refine ax_getf (q := 50) (v := am_I ((wr_ σ 4).1 135 8)) rfl rfl (rfl) ?_
      refine ax_store (q := 51) (L' := [some (am_R 135), some (am_I x), some (am_I y), some (am_I ((wr_ σ 4).1 135 8))]) rfl rfl rfl rfl rfl rfl ?_
      refine ax_load (q := 52) rfl rfl rfl rfl rfl ?_
      refine ax_getf (q := 55) (v := am_I ((wr_ σ 4).1 135 2)) rfl rfl (rfl) ?_
      refine ax_if_ne (q := 58) (x := 62) rfl rfl (fun h55 => ?_) (fun h => absurd h (by have := wr_2 σ (z := 4) (by decide); omega))
      refine ax_load (q := 63) rfl rfl rfl rfl rfl ?_
      refine ax_ret (r := some (am_I ((wr_ σ 4).1 135 8))) rfl rfl ?_
      exact hN 4 _ (Or.inr ⟨by assumption, by omega, rfl⟩)
    · refine ax_load (q := 34) rfl rfl rfl rfl rfl ?_
      refine ax_getf (q := 37) (v := am_I (tkn_ tp n p)) rfl rfl (am_fg rfl k8) ?_
      refine ax_load (q := 38) rfl rfl rfl rfl rfl ?_
      refine ax_icmp_le (q := 41) (x := 46) rfl rfl (fun h38 => ?_) (fun h38 => ?_)
      · refine ax_load (q := 47) rfl rfl rfl rfl rfl ?_
        refine ax_getf (q := 50) (v := am_I (tkn_ tp n p)) rfl rfl (am_fg rfl k8) ?_
        refine ax_store (q := 51) (L' := [some (am_R 135), some (am_I x), some (am_I y), some (am_I (tkn_ tp n p))]) rfl rfl rfl rfl rfl rfl ?_
        refine ax_load (q := 52) rfl rfl rfl rfl rfl ?_
        refine ax_getf (q := 55) (v := am_I 0) rfl rfl (am_fg rfl h02) ?_
        refine ax_if_ne (q := 58) (x := 62) rfl rfl (fun h => absurd h (by omega)) (fun h55 => ?_)
        refine ax_load (q := 59) rfl rfl rfl rfl rfl ?_
        refine ax_callv (q := 62) rfl rfl rfl rfl rfl rfl ?_
        refine m_tokenN (by omega) hP (fun σ1 hf1 hP1 => ?_)
        refine ax_load (q := 63) rfl rfl rfl rfl rfl ?_
        refine ax_ret (r := some (am_I (tkn_ tp n p))) rfl rfl ?_
        exact hY ⟨by assumption, by omega, by omega⟩ _ hf1 hP1
      · refine ax_load (q := 42) rfl rfl rfl rfl rfl ?_
        refine ax_const (q := 43) (v := am_I 4) rfl rfl rfl ?_
        refine ax_callv (q := 46) rfl rfl rfl rfl rfl rfl ?_
        refine m_wrong (by omega) ?_
        rw [if_neg (by rw [h02]; decide)]
        refine ax_load (q := 47) rfl rfl rfl rfl rfl ?_
        refine ax_getf (q := 50) (v := am_I ((wr_ σ 4).1 135 8)) rfl rfl (rfl) ?_
        refine ax_store (q := 51) (L' := [some (am_R 135), some (am_I x), some (am_I y), some (am_I ((wr_ σ 4).1 135 8))]) rfl rfl rfl rfl rfl rfl ?_
        refine ax_load (q := 52) rfl rfl rfl rfl rfl ?_
        refine ax_getf (q := 55) (v := am_I ((wr_ σ 4).1 135 2)) rfl rfl (rfl) ?_
        refine ax_if_ne (q := 58) (x := 62) rfl rfl (fun h55 => ?_) (fun h => absurd h (by have := wr_2 σ (z := 4) (by decide); omega))
        refine ax_load (q := 63) rfl rfl rfl rfl rfl ?_
        refine ax_ret (r := some (am_I ((wr_ σ 4).1 135 8))) rfl rfl ?_
        exact hN 4 _ (Or.inr ⟨by assumption, by omega, rfl⟩)
  · refine ax_load (q := 18) rfl rfl rfl rfl rfl ?_
    refine ax_const (q := 19) (v := am_I 2) rfl rfl rfl ?_
    refine ax_callv (q := 22) rfl rfl rfl rfl rfl rfl ?_
    refine m_wrong (by omega) ?_
    rw [if_neg (by rw [h02]; decide)]
    refine ax_goto (x := 46) rfl ?_
    refine ax_load (q := 47) rfl rfl rfl rfl rfl ?_
    refine ax_getf (q := 50) (v := am_I ((wr_ σ 2).1 135 8)) rfl rfl (rfl) ?_
    refine ax_store (q := 51) (L' := [some (am_R 135), some (am_I x), some (am_I y), some (am_I ((wr_ σ 2).1 135 8))]) rfl rfl rfl rfl rfl rfl ?_
    refine ax_load (q := 52) rfl rfl rfl rfl rfl ?_
    refine ax_getf (q := 55) (v := am_I ((wr_ σ 2).1 135 2)) rfl rfl (rfl) ?_
    refine ax_if_ne (q := 58) (x := 62) rfl rfl (fun h55 => ?_) (fun h => absurd h (by have := wr_2 σ (z := 2) (by decide); omega))
    refine ax_load (q := 63) rfl rfl rfl rfl rfl ?_
    refine ax_ret (r := some (am_I ((wr_ σ 2).1 135 8))) rfl rfl ?_
    exact hN 2 _ (Or.inl ⟨by assumption, rfl⟩)

theorem z_want {d : Nat} (hd : 1 ≤ d) {σ : am_S} {w : Int} (h2 : 0 < σ.1 135 2) {Q : Option am_V → am_S → Prop} (hQ : Q (none) σ) : am_Ev d 151 [am_R 135, am_J w] σ Q := by
  obtain ⟨d, rfl⟩ : ∃ e, d = e + 1 := ⟨d - 1, by omega⟩
  refine ev_in (m := 151) (c := k_X9_want) (L := [some (am_R 135), some (am_J w), none]) rfl rfl rfl rfl rfl rfl ?_
  refine ax_load (q := 1) rfl rfl rfl rfl rfl ?_
  refine ax_getf (q := 4) (v := am_I (σ.1 135 2)) rfl rfl (rfl) ?_
  refine ax_if_le (q := 7) (x := 8) rfl rfl (fun h => absurd h (by omega)) (fun h4 => ?_)
  refine ax_ret (r := none) rfl rfl ?_
  exact hQ

theorem z_toldNumber {d : Nat} (hd : 1 ≤ d) {σ : am_S} {x y : Int} (h2 : 0 < σ.1 135 2) {Q : Option am_V → am_S → Prop} (hQ : Q (some (am_I 0)) σ) : am_Ev d 152 [am_R 135, am_I x, am_I y] σ Q := by
  obtain ⟨d, rfl⟩ : ∃ e, d = e + 1 := ⟨d - 1, by omega⟩
  refine ev_in (m := 152) (c := k_X9_toldNumber) (L := [some (am_R 135), some (am_I x), some (am_I y), none]) rfl rfl rfl rfl rfl rfl ?_
  refine ax_load (q := 1) rfl rfl rfl rfl rfl ?_
  refine ax_getf (q := 4) (v := am_I (σ.1 135 2)) rfl rfl (rfl) ?_
  refine ax_if_le (q := 7) (x := 9) rfl rfl (fun h => absurd h (by omega)) (fun h4 => ?_)
  refine ax_const (q := 8) (v := am_I 0) rfl rfl rfl ?_
  refine ax_ret (r := some (am_I 0)) rfl rfl ?_
  exact hQ

theorem z_oldName {d : Nat} (hd : 1 ≤ d) {σ : am_S} {x y : Int} (h2 : 0 < σ.1 135 2) {Q : Option am_V → am_S → Prop} (hQ : Q (some (am_I 0)) σ) : am_Ev d 157 [am_R 135, am_I x, am_I y] σ Q := by
  obtain ⟨d, rfl⟩ : ∃ e, d = e + 1 := ⟨d - 1, by omega⟩
  refine ev_in (m := 157) (c := k_X9_oldName) (L := [some (am_R 135), some (am_I x), some (am_I y)]) rfl rfl rfl rfl rfl rfl ?_
  refine ax_load (q := 1) rfl rfl rfl rfl rfl ?_
  refine ax_getf (q := 4) (v := am_I (σ.1 135 2)) rfl rfl (rfl) ?_
  refine ax_if_le (q := 7) (x := 9) rfl rfl (fun h => absurd h (by omega)) (fun h4 => ?_)
  refine ax_const (q := 8) (v := am_I 0) rfl rfl rfl ?_
  refine ax_ret (r := some (am_I 0)) rfl rfl ?_
  exact hQ

/-! what the parser's steps give: a fault (its number, its token's place), or a value and the next token -/
def FT_ (tp : Nat → Int) (n : Nat) (e : Int × Nat) (σ : am_S) : Prop := σ.1 135 2 = (if tks_ tp n e.2 = 3 then 1 else e.1) ∧ σ.1 135 3 = (e.2 : Int)
def pf_ : List Nat := [2, 3, 4, 6, 7, 8, 9]
abbrev sp_R : Type := Sum (Int × Nat) (Int × Nat)
def RI_ (tp : Nat → Int) (n : Nat) (r : sp_R) (σ : am_S) (Q : Option am_V → am_S → Prop) : Prop := (∀ e, r = Sum.inl e → ∀ σ' v, fp_ [] pf_ [] σ σ' → 0 < e.1 → FT_ tp n e σ' → Q (some (am_I v)) σ') ∧ ∀ a p', r = Sum.inr (a, p') → ∀ σ', fp_ [] pf_ [] σ σ' → σ'.1 135 2 = 0 → PS_ tp n p' σ' → Q (some (am_I a)) σ'
def num_ (tp : Nat → Int) (n : Nat) (x y : Int) (p : Nat) : sp_R := if tks_ tp n p ≠ 2 then Sum.inl (2, p) else if x ≤ tkn_ tp n p ∧ tkn_ tp n p ≤ y then Sum.inr (tkn_ tp n p, nxp_ tp n p) else Sum.inl (4, p)
def tol_ (tp : Nat → Int) (n : Nat) (w x y : Int) (p : Nat) : sp_R := if tks_ tp n p = 1 ∧ tkw_ tp n p = w then num_ tp n x y (nxp_ tp n p) else Sum.inl (2, p)
def opt_ (tp : Nat → Int) (n : Nat) (w x y z : Int) (p : Nat) : sp_R := if tks_ tp n p = 1 ∧ tkw_ tp n p = w then num_ tp n x y (nxp_ tp n p) else Sum.inr (z, p)
def old_ (tp : Nat → Int) (n : Nat) (g : Nat → Int) (b m : Nat) (p : Nat) : sp_R := if ¬ (tks_ tp n p = 1 ∧ own_ (tkw_ tp n p) = false) then Sum.inl (2, p) else if fi_ g (tkw_ tp n p) b m < 0 then Sum.inl (5, p) else Sum.inr (fi_ g (tkw_ tp n p) b m, p)
theorem FT_wr {tp : Nat → Int} {n p : Nat} {σ : am_S} (hP : PS_ tp n p σ) (z : Int) : FT_ tp n (z, p) (wr_ σ z) := by
  unfold FT_ wr_
  rw [sI_at, am_up_same, am_up_ne (by decide), am_up_same, hP.1.2.1, hP.1.2.2.1]
  exact ⟨rfl, rfl⟩
theorem FT_pos {tp : Nat → Int} {n : Nat} {e : Int × Nat} {σ : am_S} (h : FT_ tp n e σ) (he : 0 < e.1) : 0 < σ.1 135 2 := by
  rw [h.1]
  split <;> omega
theorem r_toldNumber {d : Nat} (hd : 3 ≤ d) {σ : am_S} {tp : Nat → Int} {n p : Nat} (hP : PS_ tp n p σ) (h02 : σ.1 135 2 = 0) {x y : Int} {Q : Option am_V → am_S → Prop} (hQ : RI_ tp n (num_ tp n x y p) σ Q) : am_Ev d 152 [am_R 135, am_I x, am_I y] σ Q := by
  refine m_toldNumber hd hP h02 (fun z v h => ?_) (fun h σ' hf hP' => ?_)
  · rcases h with ⟨h1, rfl⟩ | ⟨h1, h2, rfl⟩
    · exact hQ.1 (2, p) (if_pos h1) _ v (fp_wr (fp_rf _ _ _ _) (by decide) (by decide)) (by show (0 : Int) < 2; decide) (FT_wr hP 2)
    · exact hQ.1 (4, p) (by unfold num_; rw [if_neg (by omega), if_neg h2]) _ v (fp_wr (fp_rf _ _ _ _) (by decide) (by decide)) (by show (0 : Int) < 4; decide) (FT_wr hP 4)
  · exact hQ.2 _ _ (by unfold num_; rw [if_neg (by omega), if_pos h.2]) σ' (fp_tr (fp_rf _ _ _ _) hf (by decide) (by decide) (by decide)) (by rw [hf.2.1 2 (by decide)]; exact h02) hP'

theorem r_told {d : Nat} (hd : 4 ≤ d) {σ : am_S} {tp : Nat → Int} {n p : Nat} (hP : PS_ tp n p σ) (h02 : σ.1 135 2 = 0) {w x y : Int} {Q : Option am_V → am_S → Prop} (hQ : RI_ tp n (tol_ tp n w x y p) σ Q) : am_Ev d 153 [am_R 135, am_J w, am_I x, am_I y] σ Q := by
  obtain ⟨d, rfl⟩ : ∃ e, d = e + 1 := ⟨d - 1, by omega⟩
  refine ev_in (m := 153) (c := k_X9_told) (L := [some (am_R 135), some (am_J w), none, some (am_I x), some (am_I y)]) rfl rfl rfl rfl rfl rfl ?_
  refine ax_load (q := 1) rfl rfl rfl rfl rfl ?_
  refine ax_load (q := 2) rfl rfl rfl rfl rfl ?_
  refine ax_callv (q := 5) rfl rfl rfl rfl rfl rfl ?_
  refine m_want (by omega) hP h02 (fun h => ?_) (fun h σ1 hf1 hP1 => ?_)
  · refine ax_load (q := 6) rfl rfl rfl rfl rfl ?_
    refine ax_load (q := 7) rfl rfl rfl rfl rfl ?_
    refine ax_load (q := 9) rfl rfl rfl rfl rfl ?_
    refine ax_callv (q := 12) rfl rfl rfl rfl rfl rfl ?_
    refine z_toldNumber (by omega) (wr_2 σ (by decide)) ?_
    refine ax_ret (r := some (am_I 0)) rfl rfl ?_
    exact hQ.1 (2, p) (if_neg h) _ _ (fp_wr (fp_rf _ _ _ _) (by decide) (by decide)) (by show (0 : Int) < 2; decide) (FT_wr hP 2)
  · refine ax_load (q := 6) rfl rfl rfl rfl rfl ?_
    refine ax_load (q := 7) rfl rfl rfl rfl rfl ?_
    refine ax_load (q := 9) rfl rfl rfl rfl rfl ?_
    refine ax_callv (q := 12) rfl rfl rfl rfl rfl rfl ?_
    have h021 : σ1.1 135 2 = 0 := by rw [hf1.2.1 2 (by decide)]; exact h02
    refine r_toldNumber (by omega) hP1 h021 ⟨fun e he σ2 v hf2 h0 hF => ?_, fun a p2 ha σ2 hf2 h22 hP2 => ?_⟩
    · refine ax_ret (r := some (am_I v)) rfl rfl ?_
      exact hQ.1 e ((if_pos h).trans he) σ2 v (fp_tr (fp_tr (fp_rf _ _ _ _) hf1 (by decide) (by decide) (by decide)) hf2 (by decide) (by decide) (by decide)) h0 hF
    · refine ax_ret (r := some (am_I a)) rfl rfl ?_
      exact hQ.2 a p2 ((if_pos h).trans ha) σ2 (fp_tr (fp_tr (fp_rf _ _ _ _) hf1 (by decide) (by decide) (by decide)) hf2 (by decide) (by decide) (by decide)) h22 hP2

theorem r_oldName {d : Nat} (hd : 3 ≤ d) {σ : am_S} {tp : Nat → Int} {n p : Nat} (hP : PS_ tp n p σ) (h02 : σ.1 135 2 = 0) {g : Nat → Int} (hg : σ.2.1 137 = g) {b m : Nat} (hbm : b + m ≤ 21) {Q : Option am_V → am_S → Prop} (hQ : RI_ tp n (old_ tp n g b m p) σ Q) : am_Ev d 157 [am_R 135, am_I ((b : Nat) : Int), am_I ((m : Nat) : Int)] σ Q := by
  obtain ⟨d, rfl⟩ : ∃ e, d = e + 1 := ⟨d - 1, by omega⟩
  have k6 := hP.1.2.1
  have k9 := hP.1.2.2.2.2
  have hfb := fi_bd g (tkw_ tp n p) b m
  refine ev_in (m := 157) (c := k_X9_oldName) (L := [some (am_R 135), some (am_I ((b : Nat) : Int)), some (am_I ((m : Nat) : Int))]) rfl rfl rfl rfl rfl rfl ?_
  refine ax_load (q := 1) rfl rfl rfl rfl rfl ?_
  refine ax_getf (q := 4) (v := am_I 0) rfl rfl (am_fg rfl h02) ?_
  refine ax_if_le (q := 7) (x := 9) rfl rfl (fun h4 => ?_) (fun h => absurd h (by omega))
  refine ax_load (q := 10) rfl rfl rfl rfl rfl ?_
  refine ax_callv (q := 13) rfl rfl rfl rfl rfl rfl ?_
  refine m_isName (by omega) ?_
  rw [k6, k9]
  refine ax_if_ne (q := 16) (x := 24) rfl rfl (fun h13 => ?_) (fun h13 => ?_)
  · have hb13 := it_n0 h13
    refine ax_load (q := 25) rfl rfl rfl rfl rfl ?_
    refine ax_load (q := 26) rfl rfl rfl rfl rfl ?_
    refine ax_load (q := 27) rfl rfl rfl rfl rfl ?_
    refine ax_callv (q := 30) rfl rfl rfl rfl rfl rfl ?_
    refine m_find (by omega) hg k9 hbm ?_
    refine ax_if_ge (q := 33) (x := 38) rfl rfl (fun h30 => ?_) (fun h30 => ?_)
    · refine ax_load (q := 39) rfl rfl rfl rfl rfl ?_
      refine ax_getf (q := 42) (v := am_I 0) rfl rfl (am_fg rfl h02) ?_
      refine ax_if_le (q := 45) (x := 49) rfl rfl (fun h42 => ?_) (fun h => absurd h (by omega))
      refine ax_load (q := 50) rfl rfl rfl rfl rfl ?_
      refine ax_load (q := 51) rfl rfl rfl rfl rfl ?_
      refine ax_load (q := 52) rfl rfl rfl rfl rfl ?_
      refine ax_callv (q := 55) rfl rfl rfl rfl rfl rfl ?_
      refine m_find (by omega) hg k9 hbm ?_
      refine ax_ret (r := some (am_I (fi_ g (tkw_ tp n p) b m))) rfl rfl ?_
      have hnm : tks_ tp n p = 1 ∧ own_ (tkw_ tp n p) = false := by simpa using hb13
      exact hQ.2 _ p (by unfold old_; rw [if_neg (fun q => q hnm), if_neg (by omega)]) σ (fp_rf _ _ _ _) h02 hP
    · refine ax_load (q := 34) rfl rfl rfl rfl rfl ?_
      refine ax_const (q := 35) (v := am_I 5) rfl rfl rfl ?_
      refine ax_callv (q := 38) rfl rfl rfl rfl rfl rfl ?_
      refine m_wrong (by omega) ?_
      rw [if_neg (by rw [h02]; decide)]
      refine ax_load (q := 39) rfl rfl rfl rfl rfl ?_
      refine ax_getf (q := 42) (v := am_I ((wr_ σ 5).1 135 2)) rfl rfl (rfl) ?_
      refine ax_if_le (q := 45) (x := 49) rfl rfl (fun h => absurd h (by have := wr_2 σ (z := 5) (by decide); omega)) (fun h42 => ?_)
      refine ax_const (q := 46) (v := am_I 0) rfl rfl rfl ?_
      refine ax_goto (x := 55) rfl ?_
      refine ax_ret (r := some (am_I 0)) rfl rfl ?_
      have hnm : tks_ tp n p = 1 ∧ own_ (tkw_ tp n p) = false := by simpa using hb13
      exact hQ.1 (5, p) (by unfold old_; rw [if_neg (fun q => q hnm), if_pos (by omega)]) _ _ (fp_wr (fp_rf _ _ _ _) (by decide) (by decide)) (by show (0 : Int) < 5; decide) (FT_wr hP 5)
  · have hb13 := it_0 h13
    refine ax_load (q := 17) rfl rfl rfl rfl rfl ?_
    refine ax_const (q := 18) (v := am_I 2) rfl rfl rfl ?_
    refine ax_callv (q := 21) rfl rfl rfl rfl rfl rfl ?_
    refine m_wrong (by omega) ?_
    rw [if_neg (by rw [h02]; decide)]
    refine ax_goto (x := 38) rfl ?_
    refine ax_load (q := 39) rfl rfl rfl rfl rfl ?_
    refine ax_getf (q := 42) (v := am_I ((wr_ σ 2).1 135 2)) rfl rfl (rfl) ?_
    refine ax_if_le (q := 45) (x := 49) rfl rfl (fun h => absurd h (by have := wr_2 σ (z := 2) (by decide); omega)) (fun h42 => ?_)
    refine ax_const (q := 46) (v := am_I 0) rfl rfl rfl ?_
    refine ax_goto (x := 55) rfl ?_
    refine ax_ret (r := some (am_I 0)) rfl rfl ?_
    exact hQ.1 (2, p) (if_pos (fun q => by rw [decide_eq_true q.1, q.2] at hb13; cases hb13)) _ _ (fp_wr (fp_rf _ _ _ _) (by decide) (by decide)) (by show (0 : Int) < 2; decide) (FT_wr hP 2)

def nwn_ (tp : Nat → Int) (n : Nat) (g : Nat → Int) (b m : Nat) (p : Nat) : Sum (Int × Nat) Nat := if ¬ (tks_ tp n (nxp_ tp n p) = 1 ∧ own_ (tkw_ tp n (nxp_ tp n p)) = false) then Sum.inl (2, nxp_ tp n p) else if fi_ g (tkw_ tp n (nxp_ tp n p)) b m < 0 then Sum.inr (nxp_ tp n (nxp_ tp n p)) else Sum.inl (3, nxp_ tp n p)
theorem PS_sL {tp : Nat → Int} {n p : Nat} {σ : am_S} (h : PS_ tp n p σ) (f : Nat → Int) : PS_ tp n p (am_sL σ 137 f) :=
  ⟨⟨h.1.1, h.1.2.1, h.1.2.2.1, h.1.2.2.2.1, by rw [sL_ne (by decide)]; exact h.1.2.2.2.2⟩, h.2.1, h.2.2.1, h.2.2.2⟩

theorem r_option {d : Nat} (hd : 5 ≤ d) {σ : am_S} {tp : Nat → Int} {n p : Nat} (hP : PS_ tp n p σ) (h02 : σ.1 135 2 = 0) {w x y z : Int} {Q : Option am_V → am_S → Prop} (hQ : RI_ tp n (opt_ tp n w x y z p) σ Q) : am_Ev d 154 [am_R 135, am_J w, am_I x, am_I y, am_I z] σ Q := by
  obtain ⟨d, rfl⟩ : ∃ e, d = e + 1 := ⟨d - 1, by omega⟩
  have k6 := hP.1.2.1
  have k9 := hP.1.2.2.2.2
  refine ev_in (m := 154) (c := k_X9_option) (L := [some (am_R 135), some (am_J w), none, some (am_I x), some (am_I y), some (am_I z)]) rfl rfl rfl rfl rfl rfl ?_
  refine ax_load (q := 1) rfl rfl rfl rfl rfl ?_
  refine ax_getf (q := 4) (v := am_I 0) rfl rfl (am_fg rfl h02) ?_
  refine ax_if_ne (q := 7) (x := 26) rfl rfl (fun h => absurd h (by omega)) (fun h4 => ?_)
  refine ax_load (q := 8) rfl rfl rfl rfl rfl ?_
  refine ax_load (q := 9) rfl rfl rfl rfl rfl ?_
  refine ax_callv (q := 12) rfl rfl rfl rfl rfl rfl ?_
  refine m_isWord (by omega) ?_
  rw [k6, k9]
  refine ax_if_eq (q := 15) (x := 26) rfl rfl (fun h12 => ?_) (fun h12 => ?_)
  · have hb12 := it_0 h12
    refine ax_load (q := 28) rfl rfl rfl rfl rfl ?_
    refine ax_ret (r := some (am_I z)) rfl rfl ?_
    exact hQ.2 z p (if_neg (of_decide_eq_false hb12)) σ (fp_rf _ _ _ _) h02 hP
  · have hb12 := it_n0 h12
    refine ax_load (q := 16) rfl rfl rfl rfl rfl ?_
    refine ax_load (q := 17) rfl rfl rfl rfl rfl ?_
    refine ax_load (q := 18) rfl rfl rfl rfl rfl ?_
    refine ax_load (q := 20) rfl rfl rfl rfl rfl ?_
    refine ax_callv (q := 23) rfl rfl rfl rfl rfl rfl ?_
    have hw := of_decide_eq_true hb12
    have e : tol_ tp n w x y p = opt_ tp n w x y z p := (if_pos hw).trans (if_pos hw).symm
    rw [← e] at hQ
    refine r_told (by omega) hP h02 ⟨fun e he σ2 v hf2 h0 hF => ?_, fun a p2 ha σ2 hf2 h22 hP2 => ?_⟩
    · refine ax_goto (x := 28) rfl ?_
      refine ax_ret (r := some (am_I v)) rfl rfl ?_
      exact hQ.1 e he σ2 v hf2 h0 hF
    · refine ax_goto (x := 28) rfl ?_
      refine ax_ret (r := some (am_I a)) rfl rfl ?_
      exact hQ.2 a p2 ha σ2 hf2 h22 hP2

theorem r_newName {d : Nat} (hd : 3 ≤ d) {σ : am_S} {tp : Nat → Int} {n p : Nat} (hP : PS_ tp n p σ) (h02 : σ.1 135 2 = 0) {g : Nat → Int} (hg : σ.2.1 137 = g) {b m : Nat} (hbm : b + m < 21) {Q : Option am_V → am_S → Prop} (hN : ∀ e, nwn_ tp n g b m p = Sum.inl e → ∀ σ', fp_ [] pf_ [] σ σ' → 0 < e.1 → FT_ tp n e σ' → Q none σ') (hY : ∀ p', nwn_ tp n g b m p = Sum.inr p' → ∀ σ', fp_ [] pf_ [137] σ σ' → σ'.1 135 2 = 0 → PS_ tp n p' σ' → σ'.2.1 137 = am_up g (b + m) (tkw_ tp n (nxp_ tp n p)) → Q none σ') : am_Ev d 156 [am_R 135, am_I ((b : Nat) : Int), am_I ((m : Nat) : Int)] σ Q := by
  obtain ⟨d, rfl⟩ : ∃ e, d = e + 1 := ⟨d - 1, by omega⟩
  obtain ⟨p1, hp1⟩ : ∃ q, q = nxp_ tp n p := ⟨_, rfl⟩
  unfold nwn_ at hN hY
  rw [← hp1] at hN hY
  have hfb := fi_bd g (tkw_ tp n p1) b m
  refine ev_in (m := 156) (c := k_X9_newName) (L := [some (am_R 135), some (am_I ((b : Nat) : Int)), some (am_I ((m : Nat) : Int))]) rfl rfl rfl rfl rfl rfl ?_
  refine ax_load (q := 1) rfl rfl rfl rfl rfl ?_
  refine ax_callv (q := 4) rfl rfl rfl rfl rfl rfl ?_
  refine m_tokenN (by omega) hP (fun σ1 hf1 hP1 => ?_)
  rw [← hp1] at hP1
  have h021 : σ1.1 135 2 = 0 := by rw [hf1.2.1 2 (by decide)]; exact h02
  have hg1 : σ1.2.1 137 = g := by rw [hf1.2.2.1 137 (by decide) (by decide)]; exact hg
  have k6 := hP1.1.2.1
  have k9 := hP1.1.2.2.2.2
  have hff : fp_ [] pf_ [] σ σ1 := fp_tr (fp_rf _ _ _ _) hf1 (by decide) (by decide) (by decide)
  refine ax_load (q := 5) rfl rfl rfl rfl rfl ?_
  refine ax_callv (q := 8) rfl rfl rfl rfl rfl rfl ?_
  refine m_isName (by omega) ?_
  rw [k6, k9]
  refine ax_if_ne (q := 11) (x := 19) rfl rfl (fun h8 => ?_) (fun h8 => ?_)
  · have hb8 := it_n0 h8
    refine ax_load (q := 20) rfl rfl rfl rfl rfl ?_
    refine ax_load (q := 21) rfl rfl rfl rfl rfl ?_
    refine ax_load (q := 22) rfl rfl rfl rfl rfl ?_
    refine ax_callv (q := 25) rfl rfl rfl rfl rfl rfl ?_
    refine m_find (by omega) hg1 k9 (by omega) ?_
    refine ax_if_lt (q := 28) (x := 33) rfl rfl (fun h25 => ?_) (fun h25 => ?_)
    · refine ax_load (q := 34) rfl rfl rfl rfl rfl ?_
      refine ax_getf (q := 37) (v := am_I 0) rfl rfl (am_fg rfl h021) ?_
      refine ax_if_le (q := 40) (x := 41) rfl rfl (fun h37 => ?_) (fun h => absurd h (by omega))
      refine ax_load (q := 42) rfl rfl rfl rfl rfl ?_
      refine ax_getf (q := 45) (v := am_R 137) rfl rfl (rfl) ?_
      refine ax_load (q := 46) rfl rfl rfl rfl rfl ?_
      refine ax_load (q := 47) rfl rfl rfl rfl rfl ?_
      refine ax_iadd (q := 48) (z := ((b + m : Nat) : Int)) rfl rfl (am_we (by omega) (by omega) (by omega)) ?_
      refine ax_load (q := 49) rfl rfl rfl rfl rfl ?_
      refine ax_getf (q := 52) (v := am_J (tkw_ tp n p1)) rfl rfl (am_fgJ rfl k9) ?_
      refine bx_last (q := 53) (k := b + m) rfl rfl (rfl) (by omega) (by omega) ?_
      refine ax_load (q := 54) rfl rfl rfl rfl rfl ?_
      refine ax_callv (q := 57) rfl rfl rfl rfl rfl rfl ?_
      refine m_tokenN (by omega) (PS_sL hP1 _) (fun σ2 hf2 hP2 => ?_)
      refine ax_ret (r := none) rfl rfl ?_
      have hnm : tks_ tp n p1 = 1 ∧ own_ (tkw_ tp n p1) = false := by simpa using hb8
      exact hY _ (by rw [if_neg (fun q => q hnm), if_pos (by omega)]) σ2 (fp_tr (fp_sL (fp_tr (fp_rf _ _ _ _) hff (by decide) (by decide) (by decide)) (by decide) (by decide)) hf2 (by decide) (by decide) (by decide)) (by rw [hf2.2.1 2 (by decide)]; exact h021) hP2 (by rw [hf2.2.2.1 137 (by decide) (by decide), sL_at, hg1])
    · refine ax_load (q := 29) rfl rfl rfl rfl rfl ?_
      refine ax_const (q := 30) (v := am_I 3) rfl rfl rfl ?_
      refine ax_callv (q := 33) rfl rfl rfl rfl rfl rfl ?_
      refine m_wrong (by omega) ?_
      rw [if_neg (by rw [h021]; decide)]
      refine ax_load (q := 34) rfl rfl rfl rfl rfl ?_
      refine ax_getf (q := 37) (v := am_I ((wr_ σ1 3).1 135 2)) rfl rfl (rfl) ?_
      refine ax_if_le (q := 40) (x := 41) rfl rfl (fun h => absurd h (by have := wr_2 σ1 (z := 3) (by decide); omega)) (fun h37 => ?_)
      refine ax_ret (r := none) rfl rfl ?_
      have hnm : tks_ tp n p1 = 1 ∧ own_ (tkw_ tp n p1) = false := by simpa using hb8
      exact hN (3, p1) (by rw [if_neg (fun q => q hnm), if_neg (by omega)]) _ (fp_wr hff (by decide) (by decide)) (by show (0 : Int) < 3; decide) (FT_wr hP1 3)
  · have hb8 := it_0 h8
    refine ax_load (q := 12) rfl rfl rfl rfl rfl ?_
    refine ax_const (q := 13) (v := am_I 2) rfl rfl rfl ?_
    refine ax_callv (q := 16) rfl rfl rfl rfl rfl rfl ?_
    refine m_wrong (by omega) ?_
    rw [if_neg (by rw [h021]; decide)]
    refine ax_goto (x := 33) rfl ?_
    refine ax_load (q := 34) rfl rfl rfl rfl rfl ?_
    refine ax_getf (q := 37) (v := am_I ((wr_ σ1 2).1 135 2)) rfl rfl (rfl) ?_
    refine ax_if_le (q := 40) (x := 41) rfl rfl (fun h => absurd h (by have := wr_2 σ1 (z := 2) (by decide); omega)) (fun h37 => ?_)
    refine ax_ret (r := none) rfl rfl ?_
    exact hN (2, p1) (if_pos (fun q => by rw [decide_eq_true q.1, q.2] at hb8; cases hb8)) _ (fp_wr hff (by decide) (by decide)) (by show (0 : Int) < 2; decide) (FT_wr hP1 2)

theorem PS_s5 {tp : Nat → Int} {n p : Nat} {σ : am_S} (h : PS_ tp n p σ) {k : Nat} {z : Int} (hk : k ∉ [3, 4, 5, 6, 7, 8]) : PS_ tp n p (am_sI σ 135 (am_up (σ.1 135) k z)) := by
  have h3 : (3 : Nat) ≠ k := fun q => hk (by simp [← q])
  have h4 : (4 : Nat) ≠ k := fun q => hk (by simp [← q])
  have h5 : (5 : Nat) ≠ k := fun q => hk (by simp [← q])
  have h6 : (6 : Nat) ≠ k := fun q => hk (by simp [← q])
  have h7 : (7 : Nat) ≠ k := fun q => hk (by simp [← q])
  have h8 : (8 : Nat) ≠ k := fun q => hk (by simp [← q])
  obtain ⟨⟨a1, a2, a3, a4, a5⟩, b1, b2, b3, b4, b5⟩ := h
  exact ⟨⟨by rw [sI_at, am_up_ne h4]; exact a1, by rw [sI_at, am_up_ne h6]; exact a2, by rw [sI_at, am_up_ne h7]; exact a3, by rw [sI_at, am_up_ne h8]; exact a4, a5⟩, by rw [sI_ne (by decide)]; exact b1, by rw [sI_at, am_up_ne h5]; exact b2, b3, b4, by rw [sI_at, am_up_ne h3]; exact b5⟩

theorem r_readSkill {d : Nat} (hd : 4 ≤ d) {σ : am_S} {tp : Nat → Int} {n p : Nat} (hP : PS_ tp n p σ) (h02 : σ.1 135 2 = 0) {g : Nat → Int} (hg : σ.2.1 137 = g) {k : Nat} (hk : σ.1 135 43 = (k : Int)) (hk4 : k < 4) {Q : Option am_V → am_S → Prop} (hN : ∀ e, nwn_ tp n g 0 k p = Sum.inl e → ∀ σ', fp_ [] pf_ [] σ σ' → 0 < e.1 → FT_ tp n e σ' → Q none σ') (hY : ∀ p', nwn_ tp n g 0 k p = Sum.inr p' → ∀ σ', fp_ [] (43 :: pf_) [137] σ σ' → σ'.1 135 2 = 0 → PS_ tp n p' σ' → σ'.2.1 137 = am_up g (0 + k) (tkw_ tp n (nxp_ tp n p)) → σ'.1 135 43 = ((k + 1 : Nat) : Int) → Q none σ') : am_Ev d 174 [am_R 135] σ Q := by
  obtain ⟨d, rfl⟩ : ∃ e, d = e + 1 := ⟨d - 1, by omega⟩
  refine ev_in (m := 174) (c := k_X9_readSkill) (L := [some (am_R 135)]) rfl rfl rfl rfl rfl rfl ?_
  refine ax_load (q := 1) rfl rfl rfl rfl rfl ?_
  refine ax_const (q := 2) (v := am_I 0) rfl rfl rfl ?_
  refine ax_load (q := 3) rfl rfl rfl rfl rfl ?_
  refine ax_getf (q := 6) (v := am_I ((k : Nat) : Int)) rfl rfl (am_fg rfl hk) ?_
  refine ax_callv (q := 9) rfl rfl rfl rfl rfl rfl ?_
  refine r_newName (b := 0) (by omega) hP h02 hg (by omega) (fun e he σ1 hf1 h0 hF => ?_) (fun p2 he σ1 hf1 h21 hP1 hg1 => ?_)
  · refine ax_load (q := 10) rfl rfl rfl rfl rfl ?_
    refine ax_getf (q := 13) (v := am_I (σ1.1 135 2)) rfl rfl (rfl) ?_
    refine ax_if_ne (q := 16) (x := 26) rfl rfl (fun h13 => ?_) (fun h => absurd h (by have := FT_pos hF h0; omega))
    refine ax_ret (r := none) rfl rfl ?_
    exact hN e he σ1 hf1 h0 hF
  · refine ax_load (q := 10) rfl rfl rfl rfl rfl ?_
    refine ax_getf (q := 13) (v := am_I (σ1.1 135 2)) rfl rfl (rfl) ?_
    refine ax_if_ne (q := 16) (x := 26) rfl rfl (fun h => absurd h (by omega)) (fun h13 => ?_)
    refine ax_load (q := 17) rfl rfl rfl rfl rfl ?_
    refine ax_dup (q := 18) rfl rfl rfl ?_
    refine ax_getf (q := 21) (v := am_I ((k : Nat) : Int)) rfl rfl (am_fg rfl (by rw [hf1.2.1 43 (by decide)]; exact hk)) ?_
    refine ax_const (q := 22) (v := am_I 1) rfl rfl rfl ?_
    refine ax_iadd (q := 23) (z := ((k + 1 : Nat) : Int)) rfl rfl (am_we (by omega) (by omega) (by omega)) ?_
    refine ax_putf (q := 26) rfl rfl rfl ?_
    refine ax_ret (r := none) rfl rfl ?_
    exact hY p2 he _ (fp_s5 (fp_tr (fp_rf _ _ _ _) hf1 (by decide) (by decide) (by decide)) (by decide)) (by rw [sI_at, am_up_ne (by decide)]; exact h21) (PS_s5 hP1 (by decide)) hg1 (by rw [sI_at, am_up_same])

