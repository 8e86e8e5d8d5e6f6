theorem l_ready {d : Nat} (hd : 6 ≤ d) {σ : am_S} {T : sp_T} (hT : TM_ T σ) (hV : TV_ T) {p o : Nat} (hp : p < nP_ T) (ho : o < nO_ T) {Q : Option am_V → am_S → Prop} : ∀ (m k : Nat) σ' (u : sp_V) (b : Int), fr_ [143, 144, 164] σ σ' → σ'.1 164 = u → VV_ T b u → k + m = 61 → b ≤ 100000 + k → (hQ : ∀ σ', fr_ [143, 144, 164] σ σ' → Q (some (am_I (rd_ T p o m k u))) σ') → aW d 0 k_X9_ready Q 24 [some (am_R 135), some (am_I ((p : Nat) : Int)), some (am_I ((o : Nat) : Int)), some (am_I ((k : Nat) : Int))] [] σ' := by
  have h6 := hV.nP
  have hsk := hV.sk ho
  have hnO := hV.nO
  have hnS := hV.nS
  have hz : T 151 o < T 135 50 := by omega
  intro m
  induction m with
  | zero =>
    intro k σ' u b hf hx hWu hk hbk hQ
    obtain rfl : k = 61 := by omega
    refine ax_load (q := 25) rfl rfl rfl rfl rfl ?_
    refine ax_const (q := 27) (v := am_I 60) rfl rfl rfl ?_
    refine ax_icmp_gt (q := 30) (x := 58) rfl rfl (fun h27 => ?_) (fun h => absurd h (by omega))
    refine ax_const (q := 59) (v := am_I (-1)) rfl rfl rfl ?_
    refine ax_ret (r := some (am_I (-1))) rfl rfl ?_
    exact hQ _ hf
  | succ m ih =>
    intro k σ' u b hf hx hWu hk hbk hQ
    refine ax_load (q := 25) rfl rfl rfl rfl rfl ?_
    refine ax_const (q := 27) (v := am_I 60) rfl rfl rfl ?_
    refine ax_icmp_gt (q := 30) (x := 58) rfl rfl (fun h => absurd h (by omega)) (fun h27 => ?_)
    refine ax_load (q := 31) rfl rfl rfl rfl rfl ?_
    refine ax_load (q := 32) rfl rfl rfl rfl rfl ?_
    refine ax_load (q := 33) rfl rfl rfl rfl rfl ?_
    refine ax_callv (q := 36) rfl rfl rfl rfl rfl rfl ?_
    refine m_can (by omega) (hT.fr hf (by decide)) hV hx (by omega) ho ?_
    refine ax_if_eq (q := 39) (x := 41) rfl rfl (fun h36 => ?_) (fun h36 => ?_)
    · have hb36 := it_0 h36
      refine ax_load (q := 42) rfl rfl rfl rfl rfl ?_
      refine ax_load (q := 43) rfl rfl rfl rfl rfl ?_
      refine ax_load (q := 44) rfl rfl rfl rfl rfl ?_
      refine ax_getf (q := 47) (v := am_R 151) rfl rfl (rfl) ?_
      refine ax_load (q := 48) rfl rfl rfl rfl rfl ?_
      refine bx_iald (q := 49) (k := o) (z := T 151 o) rfl rfl (rfl) (by omega) (by omega) (congrFun ((hf.1 151 (by decide)).trans hT.a151) _) ?_
      refine ax_callv (q := 52) rfl rfl rfl rfl rfl rfl ?_
      refine m_goAlone (by omega) (hT.fr hf (by decide)) hV hx hWu hp hz (by omega) (fun σ1 hf1 hx1 => ?_)
      refine ax_iinc (q := 55) (z' := ((k + 1 : Nat) : Int)) (L' := [some (am_R 135), some (am_I ((p : Nat) : Int)), some (am_I ((o : Nat) : Int)), some (am_I ((k + 1 : Nat) : Int))]) rfl rfl rfl rfl (am_we (by omega) (by omega) (by omega)) rfl ?_
      refine ax_goto (x := 24) rfl ?_
      rw [show rd_ T p o (m + 1) k u = rd_ T p o m (k + 1) (ga_ T u p (T 151 o)) by show (if _ then _ else _) = _; rw [hb36]; rfl] at hQ
      exact ih (k + 1) σ1 _ (b + 1) (fr_tr hf hf1 (fun a h => h)) hx1 (hWu.ga hV hp hz) (by omega) (by omega) hQ
    · have hb36 := it_n0 h36
      refine ax_load (q := 40) rfl rfl rfl rfl rfl ?_
      refine ax_ret (r := some (am_I ((k : Nat) : Int))) rfl rfl ?_
      rw [show rd_ T p o (m + 1) k u = (k : Int) by show (if _ then _ else _) = _; rw [if_pos hb36]] at hQ
      exact hQ _ hf

theorem m_ready {d : Nat} (hd : 7 ≤ d) {σ : am_S} {T : sp_T} (hT : TM_ T σ) (hV : TV_ T) {b : Int} {w v : sp_V} (hw : σ.1 163 = w) (hv : v = cp_ w (σ.1 164) 50) (hW : VV_ T b w) (hb9 : b ≤ 100000) {a c : Int} {Q : Option am_V → am_S → Prop} (hQ : ∀ σ', fr_ [143, 144, 164] σ σ' → Q (some (am_I (F_ready T v a c))) σ') : am_Ev d 229 [am_R 135, am_I a, am_I c] σ Q := by
  obtain ⟨d, rfl⟩ : ∃ e, d = e + 1 := ⟨d - 1, by omega⟩
  have h6 := hV.nP
  have hO := hV.nO
  have hS := hV.nS
  have hR := hV.nR
  have hvw : ∀ j, j < 50 → v j = w j := fun j hj => by rw [hv]; exact cp_at hj
  have hW2 : VV_ T b v := hW.cg hV hvw
  refine ev_in (m := 229) (c := k_X9_ready) (L := [some (am_R 135), some (am_I a), some (am_I c), none]) rfl rfl rfl rfl rfl rfl ?_
  refine ax_load (q := 1) rfl rfl rfl rfl rfl ?_
  refine ax_load (q := 2) rfl rfl rfl rfl rfl ?_
  refine ax_callv (q := 5) rfl rfl rfl rfl rfl rfl ?_
  refine m_isShutNow (by omega) hT hV hw ?_
  rw [← sn_cg hV hvw]
  refine ax_if_eq (q := 8) (x := 16) rfl rfl (fun h5 => ?_) (fun h5 => ?_)
  · have hb5 := it_0 h5
    refine ax_const (q := 17) (v := am_I (-1)) rfl rfl rfl ?_
    refine ax_ret (r := some (am_I (-1))) rfl rfl ?_
    have e : F_ready T v a c = -1 := by unfold F_ready inr_; first | (rw [hb5, Bool.false_and]; rfl) | (rw [hb13, Bool.and_false]; rfl)
    rw [← e]
    exact hQ _ (fr_rf _ _)
  · have hb5 := it_n0 h5
    obtain ⟨p, rfl, hp, hsp⟩ := sn_t hb5
    refine ax_load (q := 9) rfl rfl rfl rfl rfl ?_
    refine ax_load (q := 10) rfl rfl rfl rfl rfl ?_
    refine ax_callv (q := 13) rfl rfl rfl rfl rfl rfl ?_
    refine m_isOrder (by omega) hT hV ?_
    refine ax_if_ne (q := 16) (x := 18) rfl rfl (fun h13 => ?_) (fun h13 => ?_)
    · have hb13 := it_n0 h13
      obtain ⟨o, rfl, ho⟩ := inr_t hb13
      refine ax_load (q := 19) rfl rfl rfl rfl rfl ?_
      refine ax_callv (q := 22) rfl rfl rfl rfl rfl rfl ?_
      refine m_load (by omega) ?_
      rw [hw, ← hv]
      refine ax_const (q := 23) (v := am_I 0) rfl rfl rfl ?_
      refine ax_store (q := 24) (L' := [some (am_R 135), some (am_I ((p : Nat) : Int)), some (am_I ((o : Nat) : Int)), some (am_I 0)]) rfl rfl rfl rfl rfl rfl ?_
      have e : F_ready T v (p : Int) (o : Int) = rd_ T p o 61 0 v := by unfold F_ready inr_; rw [hb5, hb13]; rfl
      rw [e] at hQ
      exact l_ready (by omega) (hT.sI (by decide)) hV hp ho 61 0 _ v b (fr_rf _ _) (sI_at _ _ _) hW2 (by omega) (by omega) (fun σ' hf => hQ σ' (fr_tr (l := [143, 144, 164]) (fr_sI (fr_rf _ _) (by decide)) hf (fun a h => h)))
    · have hb13 := it_0 h13
      refine ax_const (q := 17) (v := am_I (-1)) rfl rfl rfl ?_
      refine ax_ret (r := some (am_I (-1))) rfl rfl ?_
      have e : F_ready T v ((p : Nat) : Int) c = -1 := by unfold F_ready inr_; first | (rw [hb5, Bool.false_and]; rfl) | (rw [hb13, Bool.and_false]; rfl)
      rw [← e]
      exact hQ _ (fr_rf _ _)

theorem l_will {d : Nat} (hd : 7 ≤ d) {σ : am_S} {T : sp_T} (hT : TM_ T σ) (hV : TV_ T) {b : Int} {v : sp_V} (hW : VV_ T b v) (hb9 : b ≤ 100000) {x1 x2 : Int} {N : Nat} (hN : N ≤ 100) {Q : Option am_V → am_S → Prop} (hQ : ∀ σ', fr_ [143, 144, 164] σ σ' → σ'.1 164 = ys_ T v N → aW d 0 k_X9_will Q 42 [some (am_R 135), some (am_I x1), some (am_I ((N : Nat) : Int)), some (am_I ((N : Nat) : Int))] [] σ') : ∀ (m k : Nat) σ', k + m = N → fr_ [143, 144, 164] σ σ' → σ'.1 164 = ys_ T v k → aW d 0 k_X9_will Q 26 [some (am_R 135), some (am_I x1), some (am_I ((N : Nat) : Int)), some (am_I ((k : Nat) : Int))] [] σ' := by
  have h6 := hV.nP
  intro m
  induction m with
  | zero =>
    intro k σ' hk hf hx
    obtain rfl : k = N := by omega
    refine ax_load (q := 27) rfl rfl rfl rfl rfl ?_
    refine ax_load (q := 28) rfl rfl rfl rfl rfl ?_
    refine ax_icmp_ge (q := 31) (x := 42) rfl rfl (fun h28 => ?_) (fun h => absurd h (by omega))
    exact hQ σ' hf hx
  | succ m ih =>
    intro k σ' hk hf hx
    refine ax_load (q := 27) rfl rfl rfl rfl rfl ?_
    refine ax_load (q := 28) rfl rfl rfl rfl rfl ?_
    refine ax_icmp_ge (q := 31) (x := 42) rfl rfl (fun h => absurd h (by omega)) (fun h28 => ?_)
    refine ax_load (q := 32) rfl rfl rfl rfl rfl ?_
    refine ax_callv (q := 35) rfl rfl rfl rfl rfl rfl ?_
    refine m_goYear (by omega) (hT.fr hf (by decide)) hV hx (hW.ys hV k) (by omega) (fun σ1 hf1 hx1 => ?_)
    refine ax_pop (q := 36) rfl rfl rfl ?_
    refine ax_iinc (q := 39) (z' := ((k + 1 : Nat) : Int)) (L' := [some (am_R 135), some (am_I x1), some (am_I ((N : Nat) : Int)), some (am_I ((k + 1 : Nat) : Int))]) rfl rfl rfl rfl (am_we (by omega) (by omega) (by omega)) rfl ?_
    refine ax_goto (x := 26) rfl ?_
    exact ih (k + 1) σ1 (by omega) (fr_tr hf hf1 (fun a h => h)) hx1

theorem m_will {d : Nat} (hd : 8 ≤ d) {σ : am_S} {T : sp_T} (hT : TM_ T σ) (hV : TV_ T) {b : Int} {w v : sp_V} (hw : σ.1 163 = w) (hv : v = cp_ w (σ.1 164) 50) (hW : VV_ T b w) (hb9 : b ≤ 100000) {a c : Int} {Q : Option am_V → am_S → Prop} (hQ : ∀ σ', fr_ [143, 144, 164] σ σ' → Q (some (am_I (F_will T v a c))) σ') : am_Ev d 234 [am_R 135, am_I a, am_I c] σ Q := by
  obtain ⟨d, rfl⟩ : ∃ e, d = e + 1 := ⟨d - 1, by omega⟩
  have h6 := hV.nP
  have hO := hV.nO
  have hS := hV.nS
  have hR := hV.nR
  have hvw : ∀ j, j < 50 → v j = w j := fun j hj => by rw [hv]; exact cp_at hj
  have hW2 : VV_ T b v := hW.cg hV hvw
  refine ev_in (m := 234) (c := k_X9_will) (L := [some (am_R 135), some (am_I a), some (am_I c), none]) rfl rfl rfl rfl rfl rfl ?_
  refine ax_load (q := 1) rfl rfl rfl rfl rfl ?_
  refine ax_load (q := 2) rfl rfl rfl rfl rfl ?_
  refine ax_callv (q := 5) rfl rfl rfl rfl rfl rfl ?_
  refine m_isPerson (by omega) hT hV ?_
  refine ax_if_eq (q := 8) (x := 18) rfl rfl (fun h5 => ?_) (fun h5 => ?_)
  · have hb5 := it_0 h5
    refine ax_const (q := 19) (v := am_I (-1)) rfl rfl rfl ?_
    refine ax_ret (r := some (am_I (-1))) rfl rfl ?_
    have e : F_will T v a c = -1 := by unfold F_will inr_; first | (rw [hb5, Bool.false_and]; rfl) | (rw [hb15, Bool.and_false]; rfl)
    rw [← e]
    exact hQ _ (fr_rf _ _)
  · have hb5 := it_n0 h5
    obtain ⟨p, rfl, hp⟩ := inr_t hb5
    refine ax_load (q := 9) rfl rfl rfl rfl rfl ?_
    refine ax_const (q := 10) (v := am_I 0) rfl rfl rfl ?_
    refine ax_const (q := 12) (v := am_I 60) rfl rfl rfl ?_
    refine ax_calls (q := 15) rfl rfl rfl rfl rfl ?_
    refine m_isIn (by omega) ?_
    refine ax_if_ne (q := 18) (x := 20) rfl rfl (fun h15 => ?_) (fun h15 => ?_)
    · have hb15 := it_n0 h15
      refine ax_load (q := 21) rfl rfl rfl rfl rfl ?_
      refine ax_callv (q := 24) rfl rfl rfl rfl rfl rfl ?_
      refine m_load (by omega) ?_
      rw [hw, ← hv]
      refine ax_const (q := 25) (v := am_I 0) rfl rfl rfl ?_
      refine ax_store (q := 26) (L' := [some (am_R 135), some (am_I ((p : Nat) : Int)), some (am_I c), some (am_I 0)]) rfl rfl rfl rfl rfl rfl ?_
      obtain ⟨n, rfl⟩ : ∃ n : Nat, c = (n : Int) := ⟨c.toNat, by simp at hb15; omega⟩
      have hn60 : n ≤ 60 := by simp at hb15; omega
      refine l_will (by omega) (hT.sI (by decide)) hV hW2 hb9 (x2 := 0) (N := n) (by omega) (fun σ1 hf1 hx1 => ?_) n 0 _ (by omega) (fr_rf _ _) (sI_at _ _ _)
      refine ax_load (q := 43) rfl rfl rfl rfl rfl ?_
      refine ax_getf (q := 46) (v := am_R 164) rfl rfl (rfl) ?_
      refine ax_const (q := 48) (v := am_I 12) rfl rfl rfl ?_
      refine ax_load (q := 49) rfl rfl rfl rfl rfl ?_
      refine ax_iadd (q := 50) (z := ((12 + p : Nat) : Int)) rfl rfl (am_we (by omega) (by omega) (by omega)) ?_
      refine bx_iald (q := 51) (k := 12 + p) (z := ys_ T v n (12 + p)) rfl rfl (rfl) (by omega) (by omega) (congrFun hx1 _) ?_
      refine ax_ret (r := some (am_I (ys_ T v n (12 + p)))) rfl rfl ?_
      have e : F_will T v (p : Int) (n : Int) = ys_ T v n (12 + p) := by unfold F_will inr_; rw [hb5, hb15]; simp
      rw [← e]
      exact hQ _ (fr_tr (l := [143, 144, 164]) (fr_sI (fr_rf _ _) (by decide)) hf1 (fun a h => h))
    · have hb15 := it_0 h15
      refine ax_const (q := 19) (v := am_I (-1)) rfl rfl rfl ?_
      refine ax_ret (r := some (am_I (-1))) rfl rfl ?_
      have e : F_will T v ((p : Nat) : Int) c = -1 := by unfold F_will inr_; first | (rw [hb5, Bool.false_and]; rfl) | (rw [hb15, Bool.and_false]; rfl)
      rw [← e]
      exact hQ _ (fr_rf _ _)

theorem l_failedFirst {d : Nat} {σ : am_S} {T : sp_T} (hT : TM_ T σ) (hV : TV_ T) {v w : sp_V} (ha : σ.1 164 = v) (hw : σ.1 163 = w) {Q : Option am_V → am_S → Prop} : ∀ (m k : Nat), k + m = nP_ T → (hQ : Q (some (am_I (ff_ T v w m k))) σ) → aW d 0 k_X9_failedFirst Q 2 [some (am_R 135), some (am_I ((k : Nat) : Int))] [] σ := by
  have h6 := hV.nP
  intro m
  induction m with
  | zero =>
    intro k hk hQ
    obtain rfl : k = nP_ T := by omega
    refine ax_load (q := 3) rfl rfl rfl rfl rfl ?_
    refine ax_load (q := 4) rfl rfl rfl rfl rfl ?_
    refine ax_getf (q := 7) (v := am_I ((nP_ T : Nat) : Int)) rfl rfl (am_fg rfl (hT.s53.trans hV.nP.1)) ?_
    refine ax_icmp_ge (q := 10) (x := 44) rfl rfl (fun h7 => ?_) (fun h => absurd h (by omega))
    refine ax_const (q := 45) (v := am_I (-1)) rfl rfl rfl ?_
    refine ax_ret (r := some (am_I (-1))) rfl rfl ?_
    exact hQ
  | succ m ih =>
    intro k hk hQ
    refine ax_load (q := 3) rfl rfl rfl rfl rfl ?_
    refine ax_load (q := 4) rfl rfl rfl rfl rfl ?_
    refine ax_getf (q := 7) (v := am_I ((nP_ T : Nat) : Int)) rfl rfl (am_fg rfl (hT.s53.trans hV.nP.1)) ?_
    refine ax_icmp_ge (q := 10) (x := 44) rfl rfl (fun h => absurd h (by omega)) (fun h7 => ?_)
    refine ax_load (q := 11) rfl rfl rfl rfl rfl ?_
    refine ax_getf (q := 14) (v := am_R 164) rfl rfl (rfl) ?_
    refine ax_const (q := 16) (v := am_I 12) rfl rfl rfl ?_
    refine ax_load (q := 17) rfl rfl rfl rfl rfl ?_
    refine ax_iadd (q := 18) (z := ((12 + k : Nat) : Int)) rfl rfl (am_we (by omega) (by omega) (by omega)) ?_
    refine bx_iald (q := 19) (k := 12 + k) (z := v (12 + k)) rfl rfl (rfl) (by omega) (by omega) (congrFun ha _) ?_
    refine ax_const (q := 20) (v := am_I 3) rfl rfl rfl ?_
    refine ax_icmp_ne (q := 23) (x := 38) rfl rfl (fun h20 => ?_) (fun h20 => ?_)
    · refine ax_iinc (q := 41) (z' := ((k + 1 : Nat) : Int)) (L' := [some (am_R 135), some (am_I ((k + 1 : Nat) : Int))]) rfl rfl rfl rfl (am_we (by omega) (by omega) (by omega)) rfl ?_
      refine ax_goto (x := 2) rfl ?_
      rw [show ff_ T v w (m + 1) k = ff_ T v w m (k + 1) by show (if _ then _ else _) = _; rw [if_neg (by rintro ⟨q1, q2⟩; first | exact q2 h33 | exact h20 q1)]] at hQ
      exact ih (k + 1) (by omega) hQ
    · refine ax_load (q := 24) rfl rfl rfl rfl rfl ?_
      refine ax_getf (q := 27) (v := am_R 163) rfl rfl (rfl) ?_
      refine ax_const (q := 29) (v := am_I 12) rfl rfl rfl ?_
      refine ax_load (q := 30) rfl rfl rfl rfl rfl ?_
      refine ax_iadd (q := 31) (z := ((12 + k : Nat) : Int)) rfl rfl (am_we (by omega) (by omega) (by omega)) ?_
      refine bx_iald (q := 32) (k := 12 + k) (z := w (12 + k)) rfl rfl (rfl) (by omega) (by omega) (congrFun hw _) ?_
      refine ax_const (q := 33) (v := am_I 3) rfl rfl rfl ?_
      refine ax_icmp_eq (q := 36) (x := 38) rfl rfl (fun h33 => ?_) (fun h33 => ?_)
      · refine ax_iinc (q := 41) (z' := ((k + 1 : Nat) : Int)) (L' := [some (am_R 135), some (am_I ((k + 1 : Nat) : Int))]) rfl rfl rfl rfl (am_we (by omega) (by omega) (by omega)) rfl ?_
        refine ax_goto (x := 2) rfl ?_
        rw [show ff_ T v w (m + 1) k = ff_ T v w m (k + 1) by show (if _ then _ else _) = _; rw [if_neg (by rintro ⟨q1, q2⟩; first | exact q2 h33 | exact h20 q1)]] at hQ
        exact ih (k + 1) (by omega) hQ
      · refine ax_load (q := 37) rfl rfl rfl rfl rfl ?_
        refine ax_ret (r := some (am_I ((k : Nat) : Int))) rfl rfl ?_
        rw [show ff_ T v w (m + 1) k = (k : Int) by show (if _ then _ else _) = _; rw [if_pos ⟨h20, h33⟩]] at hQ
        exact hQ

theorem m_failedFirst {d : Nat} (hd : 1 ≤ d) {σ : am_S} {T : sp_T} (hT : TM_ T σ) (hV : TV_ T) {v w : sp_V} (ha : σ.1 164 = v) (hw : σ.1 163 = w) {Q : Option am_V → am_S → Prop} (hQ : Q (some (am_I (ff_ T v w (nP_ T) 0))) σ) : am_Ev d 235 [am_R 135] σ Q := by
  obtain ⟨d, rfl⟩ : ∃ e, d = e + 1 := ⟨d - 1, by omega⟩
  refine ev_in (m := 235) (c := k_X9_failedFirst) (L := [some (am_R 135), none]) rfl rfl rfl rfl rfl rfl ?_
  refine ax_const (q := 1) (v := am_I 0) rfl rfl rfl ?_
  refine ax_store (q := 2) (L' := [some (am_R 135), some (am_I 0)]) rfl rfl rfl rfl rfl rfl ?_
  exact l_failedFirst hT hV ha hw (nP_ T) 0 (by omega) hQ

theorem l_first {d : Nat} (hd : 7 ≤ d) {σ : am_S} {T : sp_T} (hT : TM_ T σ) (hV : TV_ T) {w : sp_V} (hw : σ.1 163 = w) {c : Int} {Q : Option am_V → am_S → Prop} : ∀ (m k : Nat) σ' (u : sp_V) (b : Int), fr_ [143, 144, 164] σ σ' → σ'.1 164 = u → VV_ T b u → k + m = 61 → b ≤ 100000 + k → (hQ : ∀ σ', fr_ [143, 144, 164] σ σ' → Q (some (am_I (fs_ T w c m k u))) σ') → aW d 0 k_X9_first Q 17 [some (am_R 135), some (am_I c), some (am_I ((k : Nat) : Int))] [] σ' := by
  have h6 := hV.nP
  intro m
  induction m with
  | zero =>
    intro k σ' u b hf hx hWu hk hbk hQ
    obtain rfl : k = 61 := by omega
    refine ax_load (q := 18) rfl rfl rfl rfl rfl ?_
    refine ax_const (q := 20) (v := am_I 60) rfl rfl rfl ?_
    refine ax_icmp_gt (q := 23) (x := 54) rfl rfl (fun h20 => ?_) (fun h => absurd h (by omega))
    refine ax_const (q := 55) (v := am_I (-1)) rfl rfl rfl ?_
    refine ax_ret (r := some (am_I (-1))) rfl rfl ?_
    exact hQ _ hf
  | succ m ih =>
    intro k σ' u b hf hx hWu hk hbk hQ
    refine ax_load (q := 18) rfl rfl rfl rfl rfl ?_
    refine ax_const (q := 20) (v := am_I 60) rfl rfl rfl ?_
    refine ax_icmp_gt (q := 23) (x := 54) rfl rfl (fun h => absurd h (by omega)) (fun h20 => ?_)
    refine ax_load (q := 24) rfl rfl rfl rfl rfl ?_
    refine ax_callv (q := 27) rfl rfl rfl rfl rfl rfl ?_
    refine m_goYear (by omega) (hT.fr hf (by decide)) hV hx hWu (by omega) (fun σ1 hf1 hx1 => ?_)
    have hT1 : TM_ T σ1 := (hT.fr hf (by decide)).fr hf1 (by decide)
    have hw1 : σ1.1 163 = w := (hf1.1 163 (by decide)).trans ((hf.1 163 (by decide)).trans hw)
    refine ax_pop (q := 28) rfl rfl rfl ?_
    refine ax_load (q := 29) rfl rfl rfl rfl rfl ?_
    refine ax_callv (q := 32) rfl rfl rfl rfl rfl rfl ?_
    refine m_failedFirst (by omega) hT1 hV hx1 hw1 ?_
    refine ax_if_lt (q := 35) (x := 48) rfl rfl (fun h32 => ?_) (fun h32 => ?_)
    · refine ax_iinc (q := 51) (z' := ((k + 1 : Nat) : Int)) (L' := [some (am_R 135), some (am_I c), some (am_I ((k + 1 : Nat) : Int))]) rfl rfl rfl rfl (am_we (by omega) (by omega) (by omega)) rfl ?_
      refine ax_goto (x := 17) rfl ?_
      rw [show fs_ T w c (m + 1) k u = fs_ T w c m (k + 1) (yr_ T u) by show (if _ then _ else _) = _; rw [if_neg (by omega)]] at hQ
      exact ih (k + 1) σ1 _ (b + 1) (fr_tr hf hf1 (fun a h => h)) hx1 (hWu.yr hV) (by omega) (by omega) hQ
    · refine ax_load (q := 36) rfl rfl rfl rfl rfl ?_
      refine ax_if_ne (q := 39) (x := 46) rfl rfl (fun h36 => ?_) (fun h36 => ?_)
      · refine ax_load (q := 47) rfl rfl rfl rfl rfl ?_
        refine ax_ret (r := some (am_I ((k : Nat) : Int))) rfl rfl ?_
        rw [show fs_ T w c (m + 1) k u = ((k : Nat) : Int) by show (if _ then _ else _) = _; rw [if_pos (by omega)]; first | rw [if_pos h36] | rw [if_neg h36]] at hQ
        exact hQ _ (fr_tr hf hf1 (fun a h => h))
      · refine ax_load (q := 40) rfl rfl rfl rfl rfl ?_
        refine ax_callv (q := 43) rfl rfl rfl rfl rfl rfl ?_
        refine m_failedFirst (by omega) hT1 hV hx1 hw1 ?_
        refine ax_goto (x := 47) rfl ?_
        refine ax_ret (r := some (am_I (ff_ T (yr_ T u) w (nP_ T) 0))) rfl rfl ?_
        rw [show fs_ T w c (m + 1) k u = ff_ T (yr_ T u) w (nP_ T) 0 by show (if _ then _ else _) = _; rw [if_pos (by omega)]; first | rw [if_pos h36] | rw [if_neg h36]] at hQ
        exact hQ _ (fr_tr hf hf1 (fun a h => h))

theorem ff_cg {T : sp_T} {u v w : sp_V} (h : ∀ j, j < 50 → v j = w j) : ∀ m k, k + m ≤ 6 → ff_ T u v m k = ff_ T u w m k
  | 0, _, _ => rfl
  | m + 1, k, hk => by
    show (if _ then _ else _) = (if _ then _ else _)
    rw [h (12 + k) (by omega), ff_cg h m (k + 1) (by omega)]
theorem fs_cg {T : sp_T} (hV : TV_ T) {v w : sp_V} {c : Int} (h : ∀ j, j < 50 → v j = w j) : ∀ m k u, fs_ T v c m k u = fs_ T w c m k u
  | 0, _, _ => rfl
  | m + 1, k, u => by
    have := hV.nP
    show (if _ then _ else _) = (if _ then _ else _)
    rw [ff_cg h (nP_ T) 0 (by omega), fs_cg hV h m (k + 1)]

theorem m_first {d : Nat} (hd : 8 ≤ d) {σ : am_S} {T : sp_T} (hT : TM_ T σ) (hV : TV_ T) {b : Int} {w v : sp_V} (hw : σ.1 163 = w) (hv : v = cp_ w (σ.1 164) 50) (hW : VV_ T b w) (hb9 : b ≤ 100000) {c : Int} {Q : Option am_V → am_S → Prop} (hQ : ∀ σ', fr_ [143, 144, 164] σ σ' → Q (some (am_I (F_first T v c))) σ') : am_Ev d 236 [am_R 135, am_I c] σ Q := by
  obtain ⟨d, rfl⟩ : ∃ e, d = e + 1 := ⟨d - 1, by omega⟩
  have h66 := hV.nP
  have hO := hV.nO
  have hS := hV.nS
  have hR := hV.nR
  have hvw : ∀ j, j < 50 → v j = w j := fun j hj => by rw [hv]; exact cp_at hj
  have hW2 : VV_ T b v := hW.cg hV hvw
  refine ev_in (m := 236) (c := k_X9_first) (L := [some (am_R 135), some (am_I c), none]) rfl rfl rfl rfl rfl rfl ?_
  refine ax_load (q := 1) rfl rfl rfl rfl rfl ?_
  refine ax_const (q := 2) (v := am_I 0) rfl rfl rfl ?_
  refine ax_const (q := 3) (v := am_I 1) rfl rfl rfl ?_
  refine ax_calls (q := 6) rfl rfl rfl rfl rfl ?_
  refine m_isIn (by omega) ?_
  refine ax_if_ne (q := 9) (x := 11) rfl rfl (fun h6 => ?_) (fun h6 => ?_)
  · have hb6 := it_n0 h6
    refine ax_load (q := 12) rfl rfl rfl rfl rfl ?_
    refine ax_callv (q := 15) rfl rfl rfl rfl rfl rfl ?_
    refine m_load (by omega) ?_
    rw [hw, ← hv]
    refine ax_const (q := 16) (v := am_I 1) rfl rfl rfl ?_
    refine ax_store (q := 17) (L' := [some (am_R 135), some (am_I c), some (am_I 1)]) rfl rfl rfl rfl rfl rfl ?_
    have e : F_first T v c = fs_ T w c 60 1 v := by unfold F_first; rw [hb6, if_pos rfl, fs_cg hV hvw]
    rw [e] at hQ
    exact l_first (by omega) (hT.sI (by decide)) hV (w := w) ((sI_ne (by decide)).trans hw) 60 1 _ v b (fr_rf _ _) (sI_at _ _ _) hW2 (by omega) (by omega) (fun σ' hf => hQ σ' (fr_tr (l := [143, 144, 164]) (fr_sI (fr_rf _ _) (by decide)) hf (fun a h => h)))
  · have hb6 := it_0 h6
    refine ax_const (q := 10) (v := am_I (-1)) rfl rfl rfl ?_
    refine ax_ret (r := some (am_I (-1))) rfl rfl ?_
    have e : F_first T v c = -1 := by unfold F_first; rw [hb6]; rfl
    rw [← e]
    exact hQ _ (fr_rf _ _)

