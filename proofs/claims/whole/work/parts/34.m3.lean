theorem l_taught {d : Nat} (hd : 3 ≤ d) {σ : am_S} {T : sp_T} (hT : TM_ T σ) (hV : TV_ T) {ask : Nat → Int} (hask : ∀ i, i < 4 → σ.1 144 i = ask i) (h60 : ¬ T 135 60 = 0) {Q : Option am_V → am_S → Prop} (hQ : ∀ σ', fr_ [143] σ σ' → Q (some (am_I (gn_ T ask))) σ') : ∀ (m k : Nat), k + m = nF_ T → ∀ σ', fr_ [143] σ σ' → vr_ (σ'.1 143) (ru_ T ask k) → aW d 0 k_X9_taught Q 13 [some (am_R 135), some (am_I (((ru_ T ask k).length : Nat) : Int)), some (am_I ((k : Nat) : Int))] [] σ' := by
  have hF := hV.fv
  have hn : T 135 18 = (nF_ T : Int) ∧ nF_ T ≤ 300 := by have := hF.1; unfold nF_; omega
  obtain ⟨hn, hn3⟩ := hn
  have h1 : 0 < nF_ T := by have := hF.2.1; have := hF.2.2.1; omega
  intro m
  induction m with
  | zero =>
    intro k hk σ' hf hv
    obtain rfl : k = nF_ T := by omega
    have hne : ru_ T ask (nF_ T) ≠ [] := by
      intro q
      have l1 := ru_len hF ask (nF_ T) (Nat.le_refl _)
      rw [q] at l1
      have l2 := de_pos hF (nF_ T - 1) (by omega)
      rw [show nF_ T - 1 + 1 = nF_ T by omega, ← l1] at l2
      exact absurd l2 (by decide)
    refine ax_load (q := 14) rfl rfl rfl rfl rfl ?_
    refine ax_load (q := 15) rfl rfl rfl rfl rfl ?_
    refine ax_getf (q := 18) (v := am_I ((nF_ T : Nat) : Int)) rfl rfl (am_fg rfl ((congrFun (hf.1 135 (by decide)) _).trans (hT.s18.trans hn))) ?_
    refine ax_icmp_ge (q := 21) (x := 161) rfl rfl (fun h18 => ?_) (fun h => absurd h (by omega))
    refine ax_load (q := 162) rfl rfl rfl rfl rfl ?_
    refine ax_getf (q := 165) (v := am_R 143) rfl rfl (rfl) ?_
    refine ax_const (q := 166) (v := am_I 0) rfl rfl rfl ?_
    refine bx_iald (q := 167) (k := 0) (z := ((ru_ T ask (nF_ T)).getLastD 1)) rfl rfl (rfl) (by omega) (by omega) (vr_last hne hv) ?_
    refine ax_if_ge (q := 170) (x := 174) rfl rfl (fun h167 => ?_) (fun h167 => ?_)
    · refine ax_load (q := 175) rfl rfl rfl rfl rfl ?_
      refine ax_getf (q := 178) (v := am_R 143) rfl rfl (rfl) ?_
      refine ax_const (q := 179) (v := am_I 0) rfl rfl rfl ?_
      refine bx_iald (q := 180) (k := 0) (z := ((ru_ T ask (nF_ T)).getLastD 1)) rfl rfl (rfl) (by omega) (by omega) (vr_last hne hv) ?_
      refine ax_const (q := 182) (v := am_I 9) rfl rfl rfl ?_
      refine ax_icmp_le (q := 185) (x := 190) rfl rfl (fun h182 => ?_) (fun h182 => ?_)
      · refine ax_load (q := 191) rfl rfl rfl rfl rfl ?_
        refine ax_getf (q := 194) (v := am_R 143) rfl rfl (rfl) ?_
        refine ax_const (q := 195) (v := am_I 0) rfl rfl rfl ?_
        refine bx_iald (q := 196) (k := 0) (z := ((ru_ T ask (nF_ T)).getLastD 1)) rfl rfl (rfl) (by omega) (by omega) (vr_last hne hv) ?_
        refine ax_ret (r := some (am_I ((ru_ T ask (nF_ T)).getLastD 1))) rfl rfl ?_
        have e : gn_ T ask = ((ru_ T ask (nF_ T)).getLastD 1) := by unfold gn_ cl_; rw [if_neg h60]; split <;> (try split) <;> omega
        rw [← e]
        exact hQ _ hf
      · refine ax_const (q := 187) (v := am_I 9) rfl rfl rfl ?_
        refine ax_goto (x := 196) rfl ?_
        refine ax_ret (r := some (am_I 9)) rfl rfl ?_
        have e : gn_ T ask = 9 := by unfold gn_ cl_; rw [if_neg h60]; split <;> (try split) <;> omega
        rw [← e]
        exact hQ _ hf
    · refine ax_const (q := 171) (v := am_I 0) rfl rfl rfl ?_
      refine ax_goto (x := 196) rfl ?_
      refine ax_ret (r := some (am_I 0)) rfl rfl ?_
      have e : gn_ T ask = 0 := by unfold gn_ cl_; rw [if_neg h60]; split <;> (try split) <;> omega
      rw [← e]
      exact hQ _ hf
  | succ m ih =>
    intro k hk σ' hf hv
    have hlen := ru_len hF ask k (by omega)
    have hk1 := hF.2.2.2 k (by omega)
    have hd1 : de_ T k ≤ 30 := by
      cases k with
      | zero => exact Nat.zero_le _
      | succ k => exact (hF.2.2.2 k (by omega)).1
    have hd2 := hk1.1
    rcases hk1.2 with h0 | ⟨h0, h2⟩ | ⟨h0, h2⟩ | ⟨h0, h3, h2⟩
    · have hd3 : de_ T (k + 1) = de_ T k + 1 := by show (if _ then _ else _) = _; rw [if_pos (Or.inl h0)]
      refine ax_load (q := 14) rfl rfl rfl rfl rfl ?_
      refine ax_load (q := 15) rfl rfl rfl rfl rfl ?_
      refine ax_getf (q := 18) (v := am_I ((nF_ T : Nat) : Int)) rfl rfl (am_fg rfl ((congrFun (hf.1 135 (by decide)) _).trans (hT.s18.trans hn))) ?_
      refine ax_icmp_ge (q := 21) (x := 161) rfl rfl (fun h => absurd h (by omega)) (fun h18 => ?_)
      refine ax_load (q := 22) rfl rfl rfl rfl rfl ?_
      refine ax_getf (q := 25) (v := am_R 140) rfl rfl (rfl) ?_
      refine ax_load (q := 26) rfl rfl rfl rfl rfl ?_
      refine bx_iald (q := 27) (k := k) (z := T 140 k) rfl rfl (rfl) (by omega) (by omega) ((congrFun (hf.1 140 (by decide)) _).trans (congrFun hT.a140 _)) ?_
      refine ax_if_eq (q := 30) (x := 40) rfl rfl (fun h27 => ?_) (fun h => absurd h (by omega))
      refine ax_load (q := 41) rfl rfl rfl rfl rfl ?_
      refine ax_getf (q := 44) (v := am_R 143) rfl rfl (rfl) ?_
      refine ax_load (q := 45) rfl rfl rfl rfl rfl ?_
      refine ax_load (q := 46) rfl rfl rfl rfl rfl ?_
      refine ax_getf (q := 49) (v := am_R 140) rfl rfl (rfl) ?_
      refine ax_load (q := 50) rfl rfl rfl rfl rfl ?_
      refine bx_iald (q := 51) (k := k) (z := T 140 k) rfl rfl (rfl) (by omega) (by omega) ((congrFun (hf.1 140 (by decide)) _).trans (congrFun hT.a140 _)) ?_
      refine ax_if_ne (q := 54) (x := 63) rfl rfl (fun h => absurd h (by omega)) (fun h51 => ?_)
      refine ax_load (q := 55) rfl rfl rfl rfl rfl ?_
      refine ax_getf (q := 58) (v := am_R 141) rfl rfl (rfl) ?_
      refine ax_load (q := 59) rfl rfl rfl rfl rfl ?_
      refine bx_iald (q := 60) (k := k) (z := T 141 k) rfl rfl (rfl) (by omega) (by omega) ((congrFun (hf.1 141 (by decide)) _).trans (congrFun hT.a141 _)) ?_
      refine ax_goto (x := 74) rfl ?_
      refine bx_iast (q := 75) (k := (ru_ T ask k).length) rfl rfl (rfl) (by omega) (by omega) ?_
      refine ax_iinc (q := 78) (z' := ((((ru_ T ask k).length) + 1 : Nat) : Int)) (L' := [some (am_R 135), some (am_I ((((ru_ T ask k).length) + 1 : Nat) : Int)), some (am_I ((k : Nat) : Int))]) rfl rfl rfl rfl (am_we (by omega) (by omega) (by omega)) rfl ?_
      refine ax_goto (x := 155) rfl ?_
      refine ax_iinc (q := 158) (z' := ((k + 1 : Nat) : Int)) (L' := [some (am_R 135), some (am_I ((((ru_ T ask k).length) + 1 : Nat) : Int)), some (am_I ((k + 1 : Nat) : Int))]) rfl rfl rfl rfl (am_we (by omega) (by omega) (by omega)) rfl ?_
      refine ax_goto (x := 13) rfl ?_
      have e : ru_ T ask (k + 1) = T 141 k :: ru_ T ask k := by show st_ T ask k _ = _; simp [st_, h0]
      have g := ih (k + 1) (by omega) (am_sI σ' 143 (am_up (σ'.1 143) ((ru_ T ask k).length) (T 141 k))) (fr_sI hf (by decide)) (by rw [sI_at, e]; exact vr_push hv _)
      rw [e] at g
      exact g
    · have hd3 : de_ T (k + 1) = de_ T k + 1 := by show (if _ then _ else _) = _; rw [if_pos (Or.inr h0)]
      refine ax_load (q := 14) rfl rfl rfl rfl rfl ?_
      refine ax_load (q := 15) rfl rfl rfl rfl rfl ?_
      refine ax_getf (q := 18) (v := am_I ((nF_ T : Nat) : Int)) rfl rfl (am_fg rfl ((congrFun (hf.1 135 (by decide)) _).trans (hT.s18.trans hn))) ?_
      refine ax_icmp_ge (q := 21) (x := 161) rfl rfl (fun h => absurd h (by omega)) (fun h18 => ?_)
      refine ax_load (q := 22) rfl rfl rfl rfl rfl ?_
      refine ax_getf (q := 25) (v := am_R 140) rfl rfl (rfl) ?_
      refine ax_load (q := 26) rfl rfl rfl rfl rfl ?_
      refine bx_iald (q := 27) (k := k) (z := T 140 k) rfl rfl (rfl) (by omega) (by omega) ((congrFun (hf.1 140 (by decide)) _).trans (congrFun hT.a140 _)) ?_
      refine ax_if_eq (q := 30) (x := 40) rfl rfl (fun h => absurd h (by omega)) (fun h27 => ?_)
      refine ax_load (q := 31) rfl rfl rfl rfl rfl ?_
      refine ax_getf (q := 34) (v := am_R 140) rfl rfl (rfl) ?_
      refine ax_load (q := 35) rfl rfl rfl rfl rfl ?_
      refine bx_iald (q := 36) (k := k) (z := T 140 k) rfl rfl (rfl) (by omega) (by omega) ((congrFun (hf.1 140 (by decide)) _).trans (congrFun hT.a140 _)) ?_
      refine ax_const (q := 37) (v := am_I 1) rfl rfl rfl ?_
      refine ax_icmp_ne (q := 40) (x := 81) rfl rfl (fun h => absurd h (by omega)) (fun h37 => ?_)
      refine ax_load (q := 41) rfl rfl rfl rfl rfl ?_
      refine ax_getf (q := 44) (v := am_R 143) rfl rfl (rfl) ?_
      refine ax_load (q := 45) rfl rfl rfl rfl rfl ?_
      refine ax_load (q := 46) rfl rfl rfl rfl rfl ?_
      refine ax_getf (q := 49) (v := am_R 140) rfl rfl (rfl) ?_
      refine ax_load (q := 50) rfl rfl rfl rfl rfl ?_
      refine bx_iald (q := 51) (k := k) (z := T 140 k) rfl rfl (rfl) (by omega) (by omega) ((congrFun (hf.1 140 (by decide)) _).trans (congrFun hT.a140 _)) ?_
      refine ax_if_ne (q := 54) (x := 63) rfl rfl (fun h51 => ?_) (fun h => absurd h (by omega))
      refine ax_load (q := 64) rfl rfl rfl rfl rfl ?_
      refine ax_getf (q := 67) (v := am_R 144) rfl rfl (rfl) ?_
      refine ax_load (q := 68) rfl rfl rfl rfl rfl ?_
      refine ax_getf (q := 71) (v := am_R 141) rfl rfl (rfl) ?_
      refine ax_load (q := 72) rfl rfl rfl rfl rfl ?_
      refine bx_iald (q := 73) (k := k) (z := T 141 k) rfl rfl (rfl) (by omega) (by omega) ((congrFun (hf.1 141 (by decide)) _).trans (congrFun hT.a141 _)) ?_
      refine bx_iald (q := 74) (k := (T 141 k).toNat) (z := ask (T 141 k).toNat) rfl rfl (rfl) (by omega) (by omega) ((congrFun (hf.1 144 (by decide)) _).trans (hask _ (by omega))) ?_
      refine bx_iast (q := 75) (k := (ru_ T ask k).length) rfl rfl (rfl) (by omega) (by omega) ?_
      refine ax_iinc (q := 78) (z' := ((((ru_ T ask k).length) + 1 : Nat) : Int)) (L' := [some (am_R 135), some (am_I ((((ru_ T ask k).length) + 1 : Nat) : Int)), some (am_I ((k : Nat) : Int))]) rfl rfl rfl rfl (am_we (by omega) (by omega) (by omega)) rfl ?_
      refine ax_goto (x := 155) rfl ?_
      refine ax_iinc (q := 158) (z' := ((k + 1 : Nat) : Int)) (L' := [some (am_R 135), some (am_I ((((ru_ T ask k).length) + 1 : Nat) : Int)), some (am_I ((k + 1 : Nat) : Int))]) rfl rfl rfl rfl (am_we (by omega) (by omega) (by omega)) rfl ?_
      refine ax_goto (x := 13) rfl ?_
      have e : ru_ T ask (k + 1) = ask (T 141 k).toNat :: ru_ T ask k := by show st_ T ask k _ = _; simp [st_, h0]
      have g := ih (k + 1) (by omega) (am_sI σ' 143 (am_up (σ'.1 143) ((ru_ T ask k).length) (ask (T 141 k).toNat))) (fr_sI hf (by decide)) (by rw [sI_at, e]; exact vr_push hv _)
      rw [e] at g
      exact g
    · rw [← hlen] at h2
      obtain ⟨x, r, hr⟩ : ∃ x r, ru_ T ask k = x :: r := by
        cases q : ru_ T ask k with
        | nil => rw [q] at h2; simp at h2
        | cons x r => exact ⟨x, r, rfl⟩
      rw [hr] at hv hlen ⊢
      rw [List.length_cons] at hlen
      show aW d 0 k_X9_taught Q 13 [some (am_R 135), some (am_I ((r.length + 1 : Nat) : Int)), some (am_I ((k : Nat) : Int))] [] σ'
      refine ax_load (q := 14) rfl rfl rfl rfl rfl ?_
      refine ax_load (q := 15) rfl rfl rfl rfl rfl ?_
      refine ax_getf (q := 18) (v := am_I ((nF_ T : Nat) : Int)) rfl rfl (am_fg rfl ((congrFun (hf.1 135 (by decide)) _).trans (hT.s18.trans hn))) ?_
      refine ax_icmp_ge (q := 21) (x := 161) rfl rfl (fun h => absurd h (by omega)) (fun h18 => ?_)
      refine ax_load (q := 22) rfl rfl rfl rfl rfl ?_
      refine ax_getf (q := 25) (v := am_R 140) rfl rfl (rfl) ?_
      refine ax_load (q := 26) rfl rfl rfl rfl rfl ?_
      refine bx_iald (q := 27) (k := k) (z := T 140 k) rfl rfl (rfl) (by omega) (by omega) ((congrFun (hf.1 140 (by decide)) _).trans (congrFun hT.a140 _)) ?_
      refine ax_if_eq (q := 30) (x := 40) rfl rfl (fun h => absurd h (by omega)) (fun h27 => ?_)
      refine ax_load (q := 31) rfl rfl rfl rfl rfl ?_
      refine ax_getf (q := 34) (v := am_R 140) rfl rfl (rfl) ?_
      refine ax_load (q := 35) rfl rfl rfl rfl rfl ?_
      refine bx_iald (q := 36) (k := k) (z := T 140 k) rfl rfl (rfl) (by omega) (by omega) ((congrFun (hf.1 140 (by decide)) _).trans (congrFun hT.a140 _)) ?_
      refine ax_const (q := 37) (v := am_I 1) rfl rfl rfl ?_
      refine ax_icmp_ne (q := 40) (x := 81) rfl rfl (fun h37 => ?_) (fun h => absurd h (by omega))
      refine ax_load (q := 82) rfl rfl rfl rfl rfl ?_
      refine ax_getf (q := 85) (v := am_R 140) rfl rfl (rfl) ?_
      refine ax_load (q := 86) rfl rfl rfl rfl rfl ?_
      refine bx_iald (q := 87) (k := k) (z := T 140 k) rfl rfl (rfl) (by omega) (by omega) ((congrFun (hf.1 140 (by decide)) _).trans (congrFun hT.a140 _)) ?_
      refine ax_const (q := 88) (v := am_I 2) rfl rfl rfl ?_
      refine ax_icmp_ne (q := 91) (x := 121) rfl rfl (fun h => absurd h (by omega)) (fun h88 => ?_)
      refine ax_load (q := 92) rfl rfl rfl rfl rfl ?_
      refine ax_getf (q := 95) (v := am_R 143) rfl rfl (rfl) ?_
      refine ax_load (q := 96) rfl rfl rfl rfl rfl ?_
      refine ax_const (q := 97) (v := am_I 1) rfl rfl rfl ?_
      refine ax_isub (q := 98) (z := ((r.length : Nat) : Int)) rfl rfl (am_we (by omega) (by omega) (by omega)) ?_
      refine ax_load (q := 99) rfl rfl rfl rfl rfl ?_
      refine ax_getf (q := 102) (v := am_R 143) rfl rfl (rfl) ?_
      refine ax_load (q := 103) rfl rfl rfl rfl rfl ?_
      refine ax_const (q := 104) (v := am_I 1) rfl rfl rfl ?_
      refine ax_isub (q := 105) (z := ((r.length : Nat) : Int)) rfl rfl (am_we (by omega) (by omega) (by omega)) ?_
      refine bx_iald (q := 106) (k := r.length) (z := x) rfl rfl (rfl) (by omega) (by omega) (vr_top hv) ?_
      refine ax_if_ne (q := 109) (x := 113) rfl rfl (fun h106 => ?_) (fun h106 => ?_)
      · refine ax_const (q := 114) (v := am_I 0) rfl rfl rfl ?_
        refine ax_calls (q := 117) rfl rfl rfl rfl rfl ?_
        refine m_truthz (by omega) (Or.inl rfl) ?_
        refine bx_iast (q := 118) (k := r.length) rfl rfl (rfl) (by omega) (by omega) ?_
        refine ax_goto (x := 155) rfl ?_
        refine ax_iinc (q := 158) (z' := ((k + 1 : Nat) : Int)) (L' := [some (am_R 135), some (am_I ((r.length + 1 : Nat) : Int)), some (am_I ((k + 1 : Nat) : Int))]) rfl rfl rfl rfl (am_we (by omega) (by omega) (by omega)) rfl ?_
        refine ax_goto (x := 13) rfl ?_
        have e : ru_ T ask (k + 1) = (if x = 0 then 1 else 0) :: r := by show st_ T ask k _ = _; simp [st_, h0, hr]
        simp only [h106, if_true, if_false] at e
        have g := ih (k + 1) (by omega) (am_sI σ' 143 (am_up (σ'.1 143) r.length 0)) (fr_sI hf (by decide)) (by rw [sI_at, e]; exact vr_set hv _)
        rw [e] at g
        exact g
      · refine ax_const (q := 110) (v := am_I 1) rfl rfl rfl ?_
        refine ax_goto (x := 114) rfl ?_
        refine ax_calls (q := 117) rfl rfl rfl rfl rfl ?_
        refine m_truthz (by omega) (Or.inr rfl) ?_
        refine bx_iast (q := 118) (k := r.length) rfl rfl (rfl) (by omega) (by omega) ?_
        refine ax_goto (x := 155) rfl ?_
        refine ax_iinc (q := 158) (z' := ((k + 1 : Nat) : Int)) (L' := [some (am_R 135), some (am_I ((r.length + 1 : Nat) : Int)), some (am_I ((k + 1 : Nat) : Int))]) rfl rfl rfl rfl (am_we (by omega) (by omega) (by omega)) rfl ?_
        refine ax_goto (x := 13) rfl ?_
        have e : ru_ T ask (k + 1) = (if x = 0 then 1 else 0) :: r := by show st_ T ask k _ = _; simp [st_, h0, hr]
        simp only [h106, if_true, if_false] at e
        have g := ih (k + 1) (by omega) (am_sI σ' 143 (am_up (σ'.1 143) r.length 1)) (fr_sI hf (by decide)) (by rw [sI_at, e]; exact vr_set hv _)
        rw [e] at g
        exact g
    · rw [← hlen] at h3
      obtain ⟨y, x, r, hr⟩ : ∃ y x r, ru_ T ask k = y :: x :: r := by
        match q : ru_ T ask k with
        | [] => rw [q] at h3; simp at h3
        | [y] => rw [q] at h3; simp at h3
        | y :: x :: r => exact ⟨y, x, r, rfl⟩
      rw [hr] at hv hlen ⊢
      rw [List.length_cons, List.length_cons] at hlen
      show aW d 0 k_X9_taught Q 13 [some (am_R 135), some (am_I ((r.length + 2 : Nat) : Int)), some (am_I ((k : Nat) : Int))] [] σ'
      refine ax_load (q := 14) rfl rfl rfl rfl rfl ?_
      refine ax_load (q := 15) rfl rfl rfl rfl rfl ?_
      refine ax_getf (q := 18) (v := am_I ((nF_ T : Nat) : Int)) rfl rfl (am_fg rfl ((congrFun (hf.1 135 (by decide)) _).trans (hT.s18.trans hn))) ?_
      refine ax_icmp_ge (q := 21) (x := 161) rfl rfl (fun h => absurd h (by omega)) (fun h18 => ?_)
      refine ax_load (q := 22) rfl rfl rfl rfl rfl ?_
      refine ax_getf (q := 25) (v := am_R 140) rfl rfl (rfl) ?_
      refine ax_load (q := 26) rfl rfl rfl rfl rfl ?_
      refine bx_iald (q := 27) (k := k) (z := T 140 k) rfl rfl (rfl) (by omega) (by omega) ((congrFun (hf.1 140 (by decide)) _).trans (congrFun hT.a140 _)) ?_
      refine ax_if_eq (q := 30) (x := 40) rfl rfl (fun h => absurd h (by omega)) (fun h27 => ?_)
      refine ax_load (q := 31) rfl rfl rfl rfl rfl ?_
      refine ax_getf (q := 34) (v := am_R 140) rfl rfl (rfl) ?_
      refine ax_load (q := 35) rfl rfl rfl rfl rfl ?_
      refine bx_iald (q := 36) (k := k) (z := T 140 k) rfl rfl (rfl) (by omega) (by omega) ((congrFun (hf.1 140 (by decide)) _).trans (congrFun hT.a140 _)) ?_
      refine ax_const (q := 37) (v := am_I 1) rfl rfl rfl ?_
      refine ax_icmp_ne (q := 40) (x := 81) rfl rfl (fun h37 => ?_) (fun h => absurd h (by omega))
      refine ax_load (q := 82) rfl rfl rfl rfl rfl ?_
      refine ax_getf (q := 85) (v := am_R 140) rfl rfl (rfl) ?_
      refine ax_load (q := 86) rfl rfl rfl rfl rfl ?_
      refine bx_iald (q := 87) (k := k) (z := T 140 k) rfl rfl (rfl) (by omega) (by omega) ((congrFun (hf.1 140 (by decide)) _).trans (congrFun hT.a140 _)) ?_
      refine ax_const (q := 88) (v := am_I 2) rfl rfl rfl ?_
      refine ax_icmp_ne (q := 91) (x := 121) rfl rfl (fun h88 => ?_) (fun h => absurd h (by omega))
      refine ax_iinc (q := 124) (z' := ((r.length + 1 : Nat) : Int)) (L' := [some (am_R 135), some (am_I ((r.length + 1 : Nat) : Int)), some (am_I ((k : Nat) : Int))]) rfl rfl rfl rfl (am_we (by omega) (by omega) (by omega)) rfl ?_
      refine ax_load (q := 125) rfl rfl rfl rfl rfl ?_
      refine ax_getf (q := 128) (v := am_R 143) rfl rfl (rfl) ?_
      refine ax_load (q := 129) rfl rfl rfl rfl rfl ?_
      refine ax_const (q := 130) (v := am_I 1) rfl rfl rfl ?_
      refine ax_isub (q := 131) (z := ((r.length : Nat) : Int)) rfl rfl (am_we (by omega) (by omega) (by omega)) ?_
      refine ax_load (q := 132) rfl rfl rfl rfl rfl ?_
      refine ax_getf (q := 135) (v := am_R 141) rfl rfl (rfl) ?_
      refine ax_load (q := 136) rfl rfl rfl rfl rfl ?_
      refine bx_iald (q := 137) (k := k) (z := T 141 k) rfl rfl (rfl) (by omega) (by omega) ((congrFun (hf.1 141 (by decide)) _).trans (congrFun hT.a141 _)) ?_
      refine ax_load (q := 138) rfl rfl rfl rfl rfl ?_
      refine ax_getf (q := 141) (v := am_R 143) rfl rfl (rfl) ?_
      refine ax_load (q := 142) rfl rfl rfl rfl rfl ?_
      refine ax_const (q := 143) (v := am_I 1) rfl rfl rfl ?_
      refine ax_isub (q := 144) (z := ((r.length : Nat) : Int)) rfl rfl (am_we (by omega) (by omega) (by omega)) ?_
      refine bx_iald (q := 145) (k := r.length) (z := x) rfl rfl (rfl) (by omega) (by omega) (vr_top (vr_pop hv)) ?_
      refine ax_load (q := 146) rfl rfl rfl rfl rfl ?_
      refine ax_getf (q := 149) (v := am_R 143) rfl rfl (rfl) ?_
      refine ax_load (q := 150) rfl rfl rfl rfl rfl ?_
      refine bx_iald (q := 151) (k := r.length + 1) (z := y) rfl rfl (rfl) (by omega) (by omega) (vr_top hv) ?_
      refine ax_calls (q := 154) rfl rfl rfl rfl rfl ?_
      refine m_worked (by omega) h2 ?_
      refine bx_iast (q := 155) (k := r.length) rfl rfl (rfl) (by omega) (by omega) ?_
      refine ax_iinc (q := 158) (z' := ((k + 1 : Nat) : Int)) (L' := [some (am_R 135), some (am_I ((r.length + 1 : Nat) : Int)), some (am_I ((k + 1 : Nat) : Int))]) rfl rfl rfl rfl (am_we (by omega) (by omega) (by omega)) rfl ?_
      refine ax_goto (x := 13) rfl ?_
      have e : ru_ T ask (k + 1) = wk_ (T 141 k) x y :: r := by show st_ T ask k _ = _; simp [st_, h0, hr]
      have g := ih (k + 1) (by omega) (am_sI σ' 143 (am_up (σ'.1 143) r.length (wk_ (T 141 k) x y))) (fr_sI hf (by decide)) (by rw [sI_at, e]; exact vr_set (vr_pop hv) _)
      rw [e] at g
      exact g

theorem m_taught {d : Nat} (hd : 4 ≤ d) {σ : am_S} {T : sp_T} (hT : TM_ T σ) (hV : TV_ T) {ask : Nat → Int} (hask : ∀ i, i < 4 → σ.1 144 i = ask i) {Q : Option am_V → am_S → Prop} (hQ : ∀ σ', fr_ [143] σ σ' → Q (some (am_I (gn_ T ask))) σ') : am_Ev d 173 [am_R 135] σ Q := by
  obtain ⟨d, rfl⟩ : ∃ e, d = e + 1 := ⟨d - 1, by omega⟩
  refine ev_in (m := 173) (c := k_X9_taught) (L := [some (am_R 135), none, none]) rfl rfl rfl rfl rfl rfl ?_
  refine ax_load (q := 1) rfl rfl rfl rfl rfl ?_
  refine ax_getf (q := 4) (v := am_I (T 135 60)) rfl rfl (am_fg rfl hT.s60) ?_
  refine ax_if_ne (q := 7) (x := 9) rfl rfl (fun h4 => ?_) (fun h4 => ?_)
  · refine ax_const (q := 10) (v := am_I 0) rfl rfl rfl ?_
    refine ax_store (q := 11) (L' := [some (am_R 135), some (am_I 0), none]) rfl rfl rfl rfl rfl rfl ?_
    refine ax_const (q := 12) (v := am_I 0) rfl rfl rfl ?_
    refine ax_store (q := 13) (L' := [some (am_R 135), some (am_I 0), some (am_I 0)]) rfl rfl rfl rfl rfl rfl ?_
    exact l_taught (by omega) hT hV hask h4 hQ (nF_ T) 0 (by omega) _ (fr_rf _ _) (fun i x h => by simp [ru_] at h)
  · refine ax_const (q := 8) (v := am_I 1) rfl rfl rfl ?_
    refine ax_ret (r := some (am_I 1)) rfl rfl ?_
    have e : gn_ T ask = 1 := by unfold gn_; rw [if_pos h4]
    rw [← e]
    exact hQ _ (fr_rf _ _)
