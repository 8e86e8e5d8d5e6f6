theorem l_doneIf {d : Nat} (hd : 1 ≤ d) {σ : am_S} {T : sp_T} (hT : TM_ T σ) (hV : TV_ T) {b : Int} {v : sp_V} (hW : VV_ T b v) (hb9 : b ≤ 100000) {x1 x2 : Int} (hz : -1 ≤ x2 ∧ x2 < T 135 51) {o4 : Option am_V} {Q : Option am_V → am_S → Prop} (hQ : aW d 0 k_X9_doneIf Q 51 [some (am_R 135), some (am_I x1), some (am_I x2), some (am_I ((nP_ T : Nat) : Int))] [] (am_sI σ 164 (rp_ v x1 x2 (nP_ T)))) : ∀ (m k : Nat), k + m = nP_ T → aW d 0 k_X9_doneIf Q 6 [some (am_R 135), some (am_I x1), some (am_I x2), some (am_I ((k : Nat) : Int))] [] (am_sI σ 164 (rp_ v x1 x2 k)) := by
  have h6 := hV.nP
  intro m
  induction m with
  | zero =>
    intro k hk
    obtain rfl : k = nP_ T := by omega
    refine ax_load (q := 7) rfl rfl rfl rfl rfl ?_
    refine ax_load (q := 8) rfl rfl rfl rfl rfl ?_
    refine ax_getf (q := 11) (v := am_I ((nP_ T : Nat) : Int)) rfl rfl (am_fg rfl ((congrFun (sI_ne (by decide)) _).trans (hT.s53.trans hV.nP.1))) ?_
    refine ax_icmp_ge (q := 14) (x := 51) rfl rfl (fun h11 => ?_) (fun h => absurd h (by omega))
    exact hQ
  | succ m ih =>
    intro k hk
    refine ax_load (q := 7) rfl rfl rfl rfl rfl ?_
    refine ax_load (q := 8) rfl rfl rfl rfl rfl ?_
    refine ax_getf (q := 11) (v := am_I ((nP_ T : Nat) : Int)) rfl rfl (am_fg rfl ((congrFun (sI_ne (by decide)) _).trans (hT.s53.trans hV.nP.1))) ?_
    refine ax_icmp_ge (q := 14) (x := 51) rfl rfl (fun h => absurd h (by omega)) (fun h11 => ?_)
    refine ax_load (q := 15) rfl rfl rfl rfl rfl ?_
    refine ax_load (q := 16) rfl rfl rfl rfl rfl ?_
    refine ax_callv (q := 19) rfl rfl rfl rfl rfl rfl ?_
    refine m_isShut (by omega) (sI_at _ _ _) (by omega) ?_
    refine ax_if_eq (q := 22) (x := 45) rfl rfl (fun h19 => ?_) (fun h19 => ?_)
    · have hb19 := it_0 h19
      refine ax_iinc (q := 48) (z' := ((k + 1 : Nat) : Int)) (L' := [some (am_R 135), some (am_I x1), some (am_I x2), some (am_I ((k + 1 : Nat) : Int))]) rfl rfl rfl rfl (am_we (by omega) (by omega) (by omega)) rfl ?_
      refine ax_goto (x := 6) rfl ?_
      have e : rp_ v x1 x2 (k + 1) = rp_ v x1 x2 k := by show (if sh_ (rp_ v x1 x2 k) k && decide (rp_ v x1 x2 k (6 + k) = x1) then am_up (rp_ v x1 x2 k) (6 + k) x2 else rp_ v x1 x2 k) = _; first | (rw [hb19, Bool.false_and]; rfl) | (rw [decide_eq_false h32, Bool.and_false]; rfl)
      rw [← e]
      exact ih (k + 1) (by omega)
    · have hb19 := it_n0 h19
      refine ax_load (q := 23) rfl rfl rfl rfl rfl ?_
      refine ax_getf (q := 26) (v := am_R 164) rfl rfl (rfl) ?_
      refine ax_const (q := 28) (v := am_I 6) rfl rfl rfl ?_
      refine ax_load (q := 29) rfl rfl rfl rfl rfl ?_
      refine ax_iadd (q := 30) (z := ((6 + k : Nat) : Int)) rfl rfl (am_we (by omega) (by omega) (by omega)) ?_
      refine bx_iald (q := 31) (k := 6 + k) (z := rp_ v x1 x2 k (6 + k)) rfl rfl (rfl) (by omega) (by omega) (congrFun (sI_at _ _ _) _) ?_
      refine ax_load (q := 32) rfl rfl rfl rfl rfl ?_
      refine ax_icmp_ne (q := 35) (x := 45) rfl rfl (fun h32 => ?_) (fun h32 => ?_)
      · refine ax_iinc (q := 48) (z' := ((k + 1 : Nat) : Int)) (L' := [some (am_R 135), some (am_I x1), some (am_I x2), some (am_I ((k + 1 : Nat) : Int))]) rfl rfl rfl rfl (am_we (by omega) (by omega) (by omega)) rfl ?_
        refine ax_goto (x := 6) rfl ?_
        have e : rp_ v x1 x2 (k + 1) = rp_ v x1 x2 k := by show (if sh_ (rp_ v x1 x2 k) k && decide (rp_ v x1 x2 k (6 + k) = x1) then am_up (rp_ v x1 x2 k) (6 + k) x2 else rp_ v x1 x2 k) = _; first | (rw [hb19, Bool.false_and]; rfl) | (rw [decide_eq_false h32, Bool.and_false]; rfl)
        rw [← e]
        exact ih (k + 1) (by omega)
      · refine ax_load (q := 36) rfl rfl rfl rfl rfl ?_
        refine ax_getf (q := 39) (v := am_R 164) rfl rfl (rfl) ?_
        refine ax_const (q := 41) (v := am_I 6) rfl rfl rfl ?_
        refine ax_load (q := 42) rfl rfl rfl rfl rfl ?_
        refine ax_iadd (q := 43) (z := ((6 + k : Nat) : Int)) rfl rfl (am_we (by omega) (by omega) (by omega)) ?_
        refine ax_load (q := 44) rfl rfl rfl rfl rfl ?_
        refine bx_iast (q := 45) (k := 6 + k) rfl rfl (rfl) (by omega) (by omega) ?_
        refine ax_iinc (q := 48) (z' := ((k + 1 : Nat) : Int)) (L' := [some (am_R 135), some (am_I x1), some (am_I x2), some (am_I ((k + 1 : Nat) : Int))]) rfl rfl rfl rfl (am_we (by omega) (by omega) (by omega)) rfl ?_
        refine ax_goto (x := 6) rfl ?_
        rw [sI_at, sI_sI]
        have e : rp_ v x1 x2 (k + 1) = am_up (rp_ v x1 x2 k) (6 + k) x2 := by show (if sh_ (rp_ v x1 x2 k) k && decide (rp_ v x1 x2 k (6 + k) = x1) then am_up (rp_ v x1 x2 k) (6 + k) x2 else rp_ v x1 x2 k) = _; rw [hb19, decide_eq_true h32]; rfl
        rw [← e]
        exact ih (k + 1) (by omega)

theorem l_doneIf2 {d : Nat} (hd : 7 ≤ d) {σ : am_S} {T : sp_T} (hT : TM_ T σ) (hV : TV_ T) {b : Int} {v : sp_V} (hW : VV_ T b v) (hb9 : b ≤ 100000) {x1 x2 : Int} {N : Nat} (hN : N = 60) {Q : Option am_V → am_S → Prop} (hQ : ∀ σ', fr_ [143, 144, 164] σ σ' → σ'.1 164 = ys_ T v N → aW d 0 k_X9_doneIf Q 70 [some (am_R 135), some (am_I x1), some (am_I x2), some (am_I ((N : Nat) : Int))] [] σ') : ∀ (m k : Nat) σ', k + m = N → fr_ [143, 144, 164] σ σ' → σ'.1 164 = ys_ T v k → aW d 0 k_X9_doneIf Q 53 [some (am_R 135), some (am_I x1), some (am_I x2), some (am_I ((k : Nat) : Int))] [] σ' := by
  have h6 := hV.nP
  intro m
  induction m with
  | zero =>
    intro k σ' hk hf hx
    obtain rfl : k = N := by omega
    refine ax_load (q := 54) rfl rfl rfl rfl rfl ?_
    refine ax_const (q := 56) (v := am_I 60) rfl rfl rfl ?_
    refine ax_icmp_ge (q := 59) (x := 70) rfl rfl (fun h56 => ?_) (fun h => absurd h (by omega))
    exact hQ σ' hf hx
  | succ m ih =>
    intro k σ' hk hf hx
    refine ax_load (q := 54) rfl rfl rfl rfl rfl ?_
    refine ax_const (q := 56) (v := am_I 60) rfl rfl rfl ?_
    refine ax_icmp_ge (q := 59) (x := 70) rfl rfl (fun h => absurd h (by omega)) (fun h56 => ?_)
    refine ax_load (q := 60) rfl rfl rfl rfl rfl ?_
    refine ax_callv (q := 63) rfl rfl rfl rfl rfl rfl ?_
    refine m_goYear (by omega) (hT.fr hf (by decide)) hV hx (hW.ys hV k) (by omega) (fun σ1 hf1 hx1 => ?_)
    refine ax_pop (q := 64) rfl rfl rfl ?_
    refine ax_iinc (q := 67) (z' := ((k + 1 : Nat) : Int)) (L' := [some (am_R 135), some (am_I x1), some (am_I x2), some (am_I ((k + 1 : Nat) : Int))]) rfl rfl rfl rfl (am_we (by omega) (by omega) (by omega)) rfl ?_
    refine ax_goto (x := 53) rfl ?_
    exact ih (k + 1) σ1 (by omega) (fr_tr hf hf1 (fun a h => h)) hx1

theorem m_doneIf {d : Nat} (hd : 8 ≤ d) {σ : am_S} {T : sp_T} (hT : TM_ T σ) (hV : TV_ T) {b : Int} {w v : sp_V} (hw : σ.1 163 = w) (hv : v = cp_ w (σ.1 164) 50) (hW : VV_ T b w) (hb9 : b ≤ 100000) {x1 x2 : Int} (hz : -1 ≤ x2 ∧ x2 < T 135 51) {Q : Option am_V → am_S → Prop} (hQ : ∀ σ', fr_ [143, 144, 164] σ σ' → tl_ (σ'.1 164) (σ.1 164) → Q (some (am_I (((di_ T v x1 x2 : Nat) : Int)))) σ') : am_Ev d 246 [am_R 135, am_I x1, am_I x2] σ Q := by
  obtain ⟨d, rfl⟩ : ∃ e, d = e + 1 := ⟨d - 1, by omega⟩
  have h6 := hV.nP
  have hO := hV.nO
  have hS := hV.nS
  have hR := hV.nR
  have hvw : ∀ j, j < 50 → v j = w j := fun j hj => by rw [hv]; exact cp_at hj
  have hW2 : VV_ T b v := hW.cg hV hvw
  refine ev_in (m := 246) (c := k_X9_doneIf) (L := [some (am_R 135), some (am_I x1), some (am_I x2), none]) rfl rfl rfl rfl rfl rfl ?_
  refine ax_load (q := 1) rfl rfl rfl rfl rfl ?_
  refine ax_callv (q := 4) rfl rfl rfl rfl rfl rfl ?_
  refine m_load (by omega) ?_
  rw [hw, ← hv]
  refine ax_const (q := 5) (v := am_I 0) rfl rfl rfl ?_
  refine ax_store (q := 6) (L' := [some (am_R 135), some (am_I x1), some (am_I x2), some (am_I 0)]) rfl rfl rfl rfl rfl rfl ?_
  refine l_doneIf (σ := σ) (o4 := none) (by omega) hT hV hW2 hb9 hz ?_ (nP_ T) 0 (by omega)
  refine ax_const (q := 52) (v := am_I 0) rfl rfl rfl ?_
  refine ax_store (q := 53) (L' := [some (am_R 135), some (am_I x1), some (am_I x2), some (am_I 0)]) rfl rfl rfl rfl rfl rfl ?_
  have hWr := hW2.rp (o := x1) hz (nP_ T) (Nat.le_refl _) (by omega)
  refine l_doneIf2 (by omega) (hT.sI (by decide)) hV hWr hb9 (N := 60) rfl (fun σ1 hf1 hx1 => ?_) 60 0 _ (by omega) (fr_rf _ _) (sI_at _ _ _)
  have hT1 : TM_ T σ1 := TM_.fr (hT.sI (a := 164) (by decide)) hf1 (by decide)
  refine ax_load (q := 71) rfl rfl rfl rfl rfl ?_
  refine ax_const (q := 72) (v := am_I 2) rfl rfl rfl ?_
  refine ax_callv (q := 75) rfl rfl rfl rfl rfl rfl ?_
  refine m_manyOf (by omega) hT1 hV hx1 ?_
  refine ax_ret (r := some (am_I ((di_ T v x1 x2 : Nat) : Int))) rfl rfl ?_
  exact hQ _ (fr_tr (l := [143, 144, 164]) (fr_sI (fr_rf _ _) (by decide)) hf1 (fun a h => h)) (tl_tr (hx1 ▸ tl_ys hV hWr 60) (tl_tr (tl_rp v x1 x2 _ (by omega)) (hv ▸ tl_cpg _ _)))

theorem m_law {d : Nat} (hd : 9 ≤ d) {σ : am_S} {T : sp_T} (hT : TM_ T σ) (hV : TV_ T) {b : Int} {w v : sp_V} (hw : σ.1 163 = w) (hv : v = cp_ w (σ.1 164) 50) (hW : VV_ T b w) (hb9 : b ≤ 100000) {a c : Int} {Q : Option am_V → am_S → Prop} (hQ : ∀ σ', fr_ [143, 144, 164] σ σ' → Q (some (am_I (F_law T v a c))) σ') : am_Ev d 247 [am_R 135, am_I a, am_I c] σ Q := by
  obtain ⟨d, rfl⟩ : ∃ e, d = e + 1 := ⟨d - 1, by omega⟩
  have h6 := hV.nP
  have hO := hV.nO
  have hS := hV.nS
  have hR := hV.nR
  have hvw : ∀ j, j < 50 → v j = w j := fun j hj => by rw [hv]; exact cp_at hj
  have hW2 : VV_ T b v := hW.cg hV hvw
  refine ev_in (m := 247) (c := k_X9_law) (L := [some (am_R 135), some (am_I a), some (am_I c)]) rfl rfl rfl rfl rfl rfl ?_
  refine ax_load (q := 1) rfl rfl rfl rfl rfl ?_
  refine ax_load (q := 2) rfl rfl rfl rfl rfl ?_
  refine ax_callv (q := 5) rfl rfl rfl rfl rfl rfl ?_
  refine m_isOrder (by omega) hT hV ?_
  refine ax_if_eq (q := 8) (x := 21) rfl rfl (fun h5 => ?_) (fun h5 => ?_)
  · have hb5 := it_0 h5
    refine ax_const (q := 23) (v := am_I (-100)) rfl rfl rfl ?_
    refine ax_goto (x := 39) rfl ?_
    refine ax_ret (r := some (am_I (-100))) rfl rfl ?_
    have e : F_law T v a c = -100 := by unfold F_law inr_; first | (rw [hb5, Bool.false_and]; rfl) | (rw [hb13, Bool.false_and, Bool.and_false]; rfl) | (rw [show decide (¬ a = c) = false from decide_eq_false (fun n => n h18), Bool.and_false, Bool.and_false]; rfl)
    rw [← e]
    exact hQ _ (fr_rf _ _)
  · have hb5 := it_n0 h5
    obtain ⟨o, rfl, ho⟩ := inr_t hb5
    refine ax_load (q := 9) rfl rfl rfl rfl rfl ?_
    refine ax_load (q := 10) rfl rfl rfl rfl rfl ?_
    refine ax_callv (q := 13) rfl rfl rfl rfl rfl rfl ?_
    refine m_isOrder (by omega) hT hV ?_
    refine ax_if_eq (q := 16) (x := 21) rfl rfl (fun h13 => ?_) (fun h13 => ?_)
    · have hb13 := it_0 h13
      refine ax_const (q := 23) (v := am_I (-100)) rfl rfl rfl ?_
      refine ax_goto (x := 39) rfl ?_
      refine ax_ret (r := some (am_I (-100))) rfl rfl ?_
      have e : F_law T v ((o : Nat) : Int) c = -100 := by unfold F_law inr_; first | (rw [hb5, Bool.false_and]; rfl) | (rw [hb13, Bool.false_and, Bool.and_false]; rfl) | (rw [show decide (¬ ((o : Nat) : Int) = c) = false from decide_eq_false (fun n => n h18), Bool.and_false, Bool.and_false]; rfl)
      rw [← e]
      exact hQ _ (fr_rf _ _)
    · have hb13 := it_n0 h13
      obtain ⟨q, rfl, hq⟩ := inr_t hb13
      refine ax_load (q := 17) rfl rfl rfl rfl rfl ?_
      refine ax_load (q := 18) rfl rfl rfl rfl rfl ?_
      refine ax_icmp_ne (q := 21) (x := 26) rfl rfl (fun h18 => ?_) (fun h18 => ?_)
      · have g1 := ct_le (fun p => decide (ys_ T (rp_ v (o : Int) (q : Int) (nP_ T)) 60 (12 + p) = 2)) (nP_ T)
        have g2 := ct_le (fun p => decide (ys_ T (rp_ v (o : Int) (o : Int) (nP_ T)) 60 (12 + p) = 2)) (nP_ T)
        have g3 : di_ T v (o : Int) (q : Int) ≤ nP_ T := g1
        have g4 : di_ T v (o : Int) (o : Int) ≤ nP_ T := g2
        refine ax_load (q := 27) rfl rfl rfl rfl rfl ?_
        refine ax_load (q := 28) rfl rfl rfl rfl rfl ?_
        refine ax_load (q := 29) rfl rfl rfl rfl rfl ?_
        refine ax_callv (q := 32) rfl rfl rfl rfl rfl rfl ?_
        refine m_doneIf (by omega) hT hV hw hv hW hb9 (x1 := ((o : Nat) : Int)) (x2 := ((q : Nat) : Int)) (by omega) (fun σ1 hf1 ht1 => ?_)
        have hv1 : v = cp_ w (σ1.1 164) 50 := by rw [hv]; exact (tl_cp ht1).symm
        have hT1 := hT.fr hf1 (by decide)
        have hw1 : σ1.1 163 = w := (hf1.1 163 (by decide)).trans hw
        refine ax_load (q := 33) rfl rfl rfl rfl rfl ?_
        refine ax_load (q := 34) rfl rfl rfl rfl rfl ?_
        refine ax_load (q := 35) rfl rfl rfl rfl rfl ?_
        refine ax_callv (q := 38) rfl rfl rfl rfl rfl rfl ?_
        refine m_doneIf (by omega) hT1 hV hw1 hv1 hW hb9 (x1 := ((o : Nat) : Int)) (x2 := ((o : Nat) : Int)) (by omega) (fun σ2 hf2 ht2 => ?_)
        refine ax_isub (q := 39) (z := ((di_ T v ((o : Nat) : Int) ((q : Nat) : Int) : Nat) : Int) - ((di_ T v ((o : Nat) : Int) ((o : Nat) : Int) : Nat) : Int)) rfl rfl (am_we (by omega) (by omega) (by omega)) ?_
        refine ax_ret (r := some (am_I (((di_ T v ((o : Nat) : Int) ((q : Nat) : Int) : Nat) : Int) - ((di_ T v ((o : Nat) : Int) ((o : Nat) : Int) : Nat) : Int)))) rfl rfl ?_
        have e : F_law T v (o : Int) (q : Int) = ((di_ T v ((o : Nat) : Int) ((q : Nat) : Int) : Nat) : Int) - ((di_ T v ((o : Nat) : Int) ((o : Nat) : Int) : Nat) : Int) := by unfold F_law inr_; rw [hb5, hb13, decide_eq_true h18]; rfl
        rw [← e]
        exact hQ _ (fr_tr hf1 hf2 (fun a h => h))
      · refine ax_const (q := 23) (v := am_I (-100)) rfl rfl rfl ?_
        refine ax_goto (x := 39) rfl ?_
        refine ax_ret (r := some (am_I (-100))) rfl rfl ?_
        have e : F_law T v ((o : Nat) : Int) ((q : Nat) : Int) = -100 := by unfold F_law inr_; first | (rw [hb5, Bool.false_and]; rfl) | (rw [hb13, Bool.false_and, Bool.and_false]; rfl) | (rw [show decide (¬ ((o : Nat) : Int) = ((q : Nat) : Int)) = false from decide_eq_false (fun n => n h18), Bool.and_false, Bool.and_false]; rfl)
        rw [← e]
        exact hQ _ (fr_rf _ _)

