theorem m_learn {d : Nat} (hd : 5 ≤ d) {σ : am_S} {T : sp_T} (hT : TM_ T σ) (hV : TV_ T) {b : Int} {v : sp_V} (ha : σ.1 164 = v) (hW : VV_ T b v) {p : Nat} (hp : p < nP_ T) {z : Int} (hz : z < T 135 50) {Q : Option am_V → am_S → Prop} (hQ : ∀ σ', fr_ [143, 144, 164] σ σ' → σ'.1 164 = ln_ T v p z → Q none σ') : am_Ev d 197 [am_R 135, am_I ((p : Nat) : Int), am_I z] σ Q := by
  obtain ⟨d, rfl⟩ : ∃ e, d = e + 1 := ⟨d - 1, by omega⟩
  have h6 := hV.nP
  have hS := hV.nS
  refine ev_in (m := 197) (c := k_X9_learn) (L := [some (am_R 135), some (am_I ((p : Nat) : Int)), some (am_I z), none]) rfl rfl rfl rfl rfl rfl ?_
  by_cases hz0 : z < 0
  · refine ax_load (q := 1) rfl rfl rfl rfl rfl ?_
    refine ax_if_ge (q := 4) (x := 5) rfl rfl (fun h => absurd h (by omega)) (fun h1 => ?_)
    refine ax_ret (r := none) rfl rfl ?_
    exact hQ _ (fr_rf _ _) (by unfold ln_; rw [if_pos hz0]; exact ha)
  · obtain ⟨s, rfl⟩ : ∃ s : Nat, z = (s : Int) := ⟨z.toNat, by omega⟩
    have hs : s < 4 := by omega
    have hlv := (hW.2.2 p hp).2.2.2.2 s hs
    have hgn := gn_bd T (ak_ (v (24 + 4 * p + s)) (v p) (v 49) s)
    refine ax_load (q := 1) rfl rfl rfl rfl rfl ?_
    refine ax_if_ge (q := 4) (x := 5) rfl rfl (fun h1 => ?_) (fun h => absurd h (by omega))
    refine ax_const (q := 7) (v := am_I 24) rfl rfl rfl ?_
    refine ax_const (q := 8) (v := am_I 4) rfl rfl rfl ?_
    refine ax_load (q := 9) rfl rfl rfl rfl rfl ?_
    refine ax_imul (q := 10) (z := ((4 * p : Nat) : Int)) rfl rfl (am_we (by omega) (by omega) (by omega)) ?_
    refine ax_iadd (q := 11) (z := ((24 + (4 * p) : Nat) : Int)) rfl rfl (am_we (by omega) (by omega) (by omega)) ?_
    refine ax_load (q := 12) rfl rfl rfl rfl rfl ?_
    refine ax_iadd (q := 13) (z := (((24 + (4 * p)) + s : Nat) : Int)) rfl rfl (am_we (by omega) (by omega) (by omega)) ?_
    refine ax_store (q := 14) (L' := [some (am_R 135), some (am_I ((p : Nat) : Int)), some (am_I ((s : Nat) : Int)), some (am_I (((24 + (4 * p)) + s : Nat) : Int))]) rfl rfl rfl rfl rfl rfl ?_
    refine ax_load (q := 15) rfl rfl rfl rfl rfl ?_
    refine ax_getf (q := 18) (v := am_R 144) rfl rfl (rfl) ?_
    refine ax_const (q := 19) (v := am_I 0) rfl rfl rfl ?_
    refine ax_load (q := 20) rfl rfl rfl rfl rfl ?_
    refine ax_getf (q := 23) (v := am_R 164) rfl rfl (rfl) ?_
    refine ax_load (q := 24) rfl rfl rfl rfl rfl ?_
    refine bx_iald (q := 25) (k := (24 + (4 * p)) + s) (z := v ((24 + (4 * p)) + s)) rfl rfl (rfl) (by omega) (by omega) (congrFun ha _) ?_
    refine bx_iast (q := 26) (k := 0) rfl rfl (rfl) (by omega) (by omega) ?_
    refine ax_load (q := 27) rfl rfl rfl rfl rfl ?_
    refine ax_getf (q := 30) (v := am_R 144) rfl rfl (rfl) ?_
    refine ax_const (q := 31) (v := am_I 1) rfl rfl rfl ?_
    refine ax_load (q := 32) rfl rfl rfl rfl rfl ?_
    refine ax_getf (q := 35) (v := am_R 164) rfl rfl (rfl) ?_
    refine ax_load (q := 36) rfl rfl rfl rfl rfl ?_
    refine bx_iald (q := 37) (k := p) (z := v p) rfl rfl (rfl) (by omega) (by omega) (congrFun ha _) ?_
    refine bx_iast (q := 38) (k := 1) rfl rfl (rfl) (by omega) (by omega) ?_
    refine ax_load (q := 39) rfl rfl rfl rfl rfl ?_
    refine ax_getf (q := 42) (v := am_R 144) rfl rfl (rfl) ?_
    refine ax_const (q := 43) (v := am_I 2) rfl rfl rfl ?_
    refine ax_load (q := 44) rfl rfl rfl rfl rfl ?_
    refine ax_getf (q := 47) (v := am_R 164) rfl rfl (rfl) ?_
    refine ax_const (q := 49) (v := am_I 49) rfl rfl rfl ?_
    refine bx_iald (q := 50) (k := 49) (z := v 49) rfl rfl (rfl) (by omega) (by omega) (congrFun ha _) ?_
    refine bx_iast (q := 51) (k := 2) rfl rfl (rfl) (by omega) (by omega) ?_
    refine ax_load (q := 52) rfl rfl rfl rfl rfl ?_
    refine ax_getf (q := 55) (v := am_R 144) rfl rfl (rfl) ?_
    refine ax_const (q := 56) (v := am_I 3) rfl rfl rfl ?_
    refine ax_load (q := 57) rfl rfl rfl rfl rfl ?_
    refine bx_iast (q := 58) (k := 3) rfl rfl (rfl) (by omega) (by omega) ?_
    refine ax_load (q := 59) rfl rfl rfl rfl rfl ?_
    refine ax_getf (q := 62) (v := am_R 164) rfl rfl (rfl) ?_
    refine ax_load (q := 63) rfl rfl rfl rfl rfl ?_
    refine ax_dup2 (q := 64) rfl rfl rfl rfl ?_
    refine bx_iald (q := 65) (k := (24 + (4 * p)) + s) (z := v ((24 + (4 * p)) + s)) rfl rfl (rfl) (by omega) (by omega) (congrFun ha _) ?_
    refine ax_load (q := 66) rfl rfl rfl rfl rfl ?_
    refine ax_callv (q := 69) rfl rfl rfl rfl rfl rfl ?_
    refine m_taught (by omega) (hT.sI (by decide) |>.sI (by decide) |>.sI (by decide) |>.sI (by decide)) hV (ask := ak_ (v (24 + 4 * p + s)) (v p) (v 49) s) (fun i hi => by match i, hi with
      | 0, _ => rfl
      | 1, _ => rfl
      | 2, _ => rfl
      | 3, _ => rfl) (fun σ1 hf1 => ?_)
    have ha1 : σ1.1 164 = v := by rw [hf1.1 164 (by decide)]; exact ha
    refine ax_iadd (q := 70) (z := v ((24 + (4 * p)) + s) + (gn_ T (ak_ (v (24 + 4 * p + s)) (v p) (v 49) s))) rfl rfl (am_we (by omega) (by omega) (by omega)) ?_
    refine bx_iast (q := 71) (k := (24 + (4 * p)) + s) rfl rfl (rfl) (by omega) (by omega) ?_
    refine ax_load (q := 72) rfl rfl rfl rfl rfl ?_
    refine ax_getf (q := 75) (v := am_R 164) rfl rfl (rfl) ?_
    refine ax_load (q := 76) rfl rfl rfl rfl rfl ?_
    refine bx_iald (q := 77) (k := (24 + (4 * p)) + s) (z := v (24 + 4 * p + s) + gn_ T (ak_ (v (24 + 4 * p + s)) (v p) (v 49) s)) rfl rfl (rfl) (by omega) (by omega) (by rw [sI_at, am_up_same]) ?_
    refine ax_const (q := 79) (v := am_I 20) rfl rfl rfl ?_
    refine ax_icmp_le (q := 82) (x := 90) rfl rfl (fun h79 => ?_) (fun h79 => ?_)
    · refine ax_ret (r := none) rfl rfl ?_
      refine hQ _ (fr_tr (l := [143, 144, 164]) (fr_sI (fr_sI (fr_sI (fr_sI (fr_rf _ _) (by decide)) (by decide)) (by decide)) (by decide)) (fr_sI (fr_sub hf1 (by decide)) (by decide)) (fun a h => h)) ?_
      rw [sI_at, ha1]
      unfold ln_ lv_n
      rw [if_neg (by omega), show ((s : Nat) : Int).toNat = s by omega]
      first | rw [if_pos (by omega)] | rw [if_neg (by omega)]
    · refine ax_load (q := 83) rfl rfl rfl rfl rfl ?_
      refine ax_getf (q := 86) (v := am_R 164) rfl rfl (rfl) ?_
      refine ax_load (q := 87) rfl rfl rfl rfl rfl ?_
      refine ax_const (q := 89) (v := am_I 20) rfl rfl rfl ?_
      refine bx_iast (q := 90) (k := (24 + (4 * p)) + s) rfl rfl (rfl) (by omega) (by omega) ?_
      refine ax_ret (r := none) rfl rfl ?_
      refine hQ _ (fr_tr (l := [143, 144, 164]) (fr_sI (fr_sI (fr_sI (fr_sI (fr_rf _ _) (by decide)) (by decide)) (by decide)) (by decide)) (fr_sI (fr_sI (fr_sub hf1 (by decide)) (by decide)) (by decide)) (fun a h => h)) ?_
      rw [sI_at, sI_at, up_up, ha1]
      unfold ln_ lv_n
      rw [if_neg (by omega), show ((s : Nat) : Int).toNat = s by omega]
      first | rw [if_pos (by omega)] | rw [if_neg (by omega)]

theorem l_goYear {d : Nat} (hd : 6 ≤ d) {σ : am_S} {T : sp_T} (hT : TM_ T σ) (hV : TV_ T) {b : Int} {v : sp_V} (ha : σ.1 164 = v) (hW : VV_ T b v) (hb9 : b < 1000000) {Q : Option am_V → am_S → Prop} (hQ : ∀ σ', fr_ [143, 144, 164] σ σ' → σ'.1 164 = yr_ T v → Q (some (am_I ((yo_ T v : Nat) : Int))) σ') : ∀ (m k : Nat), k + m = nP_ T → ∀ σ' (x : sp_V × Nat), fr_ [143, 144, 164] σ σ' → σ'.1 164 = x.1 → x = yl_ T v k → aW d 0 k_X9_goYear Q 4 [some (am_R 135), some (am_I ((x.2 : Nat) : Int)), some (am_I ((k : Nat) : Int))] [] σ' := by
  have h6 := hV.nP
  have hS := hV.nS
  intro m
  induction m with
  | zero =>
    intro k hk σ' x hf hx hxe
    obtain rfl : k = nP_ T := by omega
    have hin := yl_in hW hV (nP_ T) (Nat.le_refl _)
    have h49 := hW.1
    have h49b : x.1 49 = v 49 := by rw [hxe]; exact hin.2.2.1
    refine ax_load (q := 5) rfl rfl rfl rfl rfl ?_
    refine ax_load (q := 6) rfl rfl rfl rfl rfl ?_
    refine ax_getf (q := 9) (v := am_I ((nP_ T : Nat) : Int)) rfl rfl (am_fg rfl ((congrFun (hf.1 135 (by decide)) _).trans (hT.s53.trans hV.nP.1))) ?_
    refine ax_icmp_ge (q := 12) (x := 77) rfl rfl (fun h9 => ?_) (fun h => absurd h (by omega))
    refine ax_load (q := 78) rfl rfl rfl rfl rfl ?_
    refine ax_getf (q := 81) (v := am_R 164) rfl rfl (rfl) ?_
    refine ax_const (q := 83) (v := am_I 49) rfl rfl rfl ?_
    refine ax_dup2 (q := 84) rfl rfl rfl rfl ?_
    refine bx_iald (q := 85) (k := 49) (z := x.1 49) rfl rfl (rfl) (by omega) (by omega) (congrFun hx _) ?_
    refine ax_const (q := 86) (v := am_I 1) rfl rfl rfl ?_
    refine ax_iadd (q := 87) (z := x.1 49 + 1) rfl rfl (am_we (by omega) (by omega) (by omega)) ?_
    refine bx_iast (q := 88) (k := 49) rfl rfl (rfl) (by omega) (by omega) ?_
    refine ax_load (q := 89) rfl rfl rfl rfl rfl ?_
    refine ax_ret (r := some (am_I ((x.2 : Nat) : Int))) rfl rfl ?_
    have e : x = yl_ T v (nP_ T) := hxe
    subst e
    rw [hin.2.2.1, hx]
    exact hQ _ (fr_sI hf (by decide)) (sI_at _ _ _)
  | succ m ih =>
    intro k hk σ' x hf hx hxe
    have hin := yl_in hW hV k (by omega)
    rw [← hxe] at hin
    have hW1 := hin.1
    have h18 := (hW1.2.2 k (by omega)).2.2.2.1
    have hag := hin.2.2.2 k (Nat.le_refl _) (by omega)
    have hvk := (hW.2.2 k (by omega)).1
    have hlk : ln_ T x.1 k (x.1 (18 + k)) k = x.1 k := ln_ne (by omega) (by omega) (by omega)
    have hW2 : VV_ T (b + 1) (am_up (ln_ T x.1 k (x.1 (18 + k))) k (ln_ T x.1 k (x.1 (18 + k)) k + 1)) := by
      rw [hlk]
      exact (hW1.ln hV (by omega) h18.2).up (by omega) (by omega) (by omega) (by omega) (by omega) (by omega) (by omega)
    refine ax_load (q := 5) rfl rfl rfl rfl rfl ?_
    refine ax_load (q := 6) rfl rfl rfl rfl rfl ?_
    refine ax_getf (q := 9) (v := am_I ((nP_ T : Nat) : Int)) rfl rfl (am_fg rfl ((congrFun (hf.1 135 (by decide)) _).trans (hT.s53.trans hV.nP.1))) ?_
    refine ax_icmp_ge (q := 12) (x := 77) rfl rfl (fun h => absurd h (by omega)) (fun h9 => ?_)
    refine ax_load (q := 13) rfl rfl rfl rfl rfl ?_
    refine ax_load (q := 14) rfl rfl rfl rfl rfl ?_
    refine ax_callv (q := 17) rfl rfl rfl rfl rfl rfl ?_
    refine m_isShut (by omega) hx (by omega) ?_
    refine ax_if_ne (q := 20) (x := 23) rfl rfl (fun h17 => ?_) (fun h17 => ?_)
    · have hb17 := it_n0 h17
      refine ax_load (q := 24) rfl rfl rfl rfl rfl ?_
      refine ax_load (q := 25) rfl rfl rfl rfl rfl ?_
      refine ax_load (q := 26) rfl rfl rfl rfl rfl ?_
      refine ax_getf (q := 29) (v := am_R 164) rfl rfl (rfl) ?_
      refine ax_const (q := 31) (v := am_I 18) rfl rfl rfl ?_
      refine ax_load (q := 32) rfl rfl rfl rfl rfl ?_
      refine ax_iadd (q := 33) (z := ((18 + k : Nat) : Int)) rfl rfl (am_we (by omega) (by omega) (by omega)) ?_
      refine bx_iald (q := 34) (k := 18 + k) (z := x.1 (18 + k)) rfl rfl (rfl) (by omega) (by omega) (congrFun hx _) ?_
      refine ax_callv (q := 37) rfl rfl rfl rfl rfl rfl ?_
      refine m_learn (by omega) (hT.fr hf (by decide)) hV hx hW1 (by omega) (by omega) (fun σ1 hf1 hx1 => ?_)
      refine ax_load (q := 38) rfl rfl rfl rfl rfl ?_
      refine ax_getf (q := 41) (v := am_R 164) rfl rfl (rfl) ?_
      refine ax_load (q := 42) rfl rfl rfl rfl rfl ?_
      refine ax_dup2 (q := 43) rfl rfl rfl rfl ?_
      refine bx_iald (q := 44) (k := k) (z := ln_ T x.1 k (x.1 (18 + k)) k) rfl rfl (rfl) (by omega) (by omega) (congrFun hx1 _) ?_
      refine ax_const (q := 45) (v := am_I 1) rfl rfl rfl ?_
      refine ax_iadd (q := 46) (z := ln_ T x.1 k (x.1 (18 + k)) k + 1) rfl rfl (am_we (by omega) (by omega) (by omega)) ?_
      refine bx_iast (q := 47) (k := k) rfl rfl (rfl) (by omega) (by omega) ?_
      refine ax_load (q := 48) rfl rfl rfl rfl rfl ?_
      refine ax_getf (q := 51) (v := am_R 164) rfl rfl (rfl) ?_
      refine ax_load (q := 52) rfl rfl rfl rfl rfl ?_
      refine bx_iald (q := 53) (k := k) (z := ln_ T x.1 k (x.1 (18 + k)) k + 1) rfl rfl (rfl) (by omega) (by omega) (by rw [sI_at, am_up_same]) ?_
      refine ax_load (q := 54) rfl rfl rfl rfl rfl ?_
      refine ax_getf (q := 57) (v := am_I (T 135 55)) rfl rfl (am_fg rfl ((congrFun ((sI_ne (by decide)).trans ((hf1.1 135 (by decide)).trans (hf.1 135 (by decide)))) _).trans hT.s55)) ?_
      refine ax_icmp_ge (q := 60) (x := 63) rfl rfl (fun h57 => ?_) (fun h57 => ?_)
      · refine ax_load (q := 64) rfl rfl rfl rfl rfl ?_
        refine ax_load (q := 65) rfl rfl rfl rfl rfl ?_
        refine ax_callv (q := 68) rfl rfl rfl rfl rfl rfl ?_
        refine m_openOf (by omega) ((hT.fr hf (by decide)).fr hf1 (by decide) |>.sI (by decide)) hV (sI_at _ _ _) (v := am_up (σ1.1 164) k (ln_ T x.1 k (x.1 (18 + k)) k + 1)) (b := b + 1) (by rw [hx1]; exact hW2) (by omega) ?_
        rw [sI_sI]
        refine ax_iinc (q := 71) (z' := (((x.2) + 1 : Nat) : Int)) (L' := [some (am_R 135), some (am_I (((x.2) + 1 : Nat) : Int)), some (am_I ((k : Nat) : Int))]) rfl rfl rfl rfl (am_we (by omega) (by omega) (by omega)) rfl ?_
        refine ax_iinc (q := 74) (z' := ((k + 1 : Nat) : Int)) (L' := [some (am_R 135), some (am_I (((x.2) + 1 : Nat) : Int)), some (am_I ((k + 1 : Nat) : Int))]) rfl rfl rfl rfl (am_we (by omega) (by omega) (by omega)) rfl ?_
        refine ax_goto (x := 4) rfl ?_
        have e : yp_ T k x = (op_ T (am_up (ln_ T x.1 k (x.1 (18 + k))) k (ln_ T x.1 k (x.1 (18 + k)) k + 1)) k, x.2 + 1) := by unfold yp_; rw [if_pos hb17, if_neg (by rw [am_up_same]; omega)]
        exact ih (k + 1) (by omega) _ (op_ T (am_up (ln_ T x.1 k (x.1 (18 + k))) k (ln_ T x.1 k (x.1 (18 + k)) k + 1)) k, x.2 + 1) (fr_sI (fr_tr hf hf1 (fun a h => h)) (by decide)) (by rw [sI_at, hx1]) (by rw [show yl_ T v (k + 1) = yp_ T k (yl_ T v k) from rfl, ← hxe, e])
      · refine ax_goto (x := 71) rfl ?_
        refine ax_iinc (q := 74) (z' := ((k + 1 : Nat) : Int)) (L' := [some (am_R 135), some (am_I ((x.2 : Nat) : Int)), some (am_I ((k + 1 : Nat) : Int))]) rfl rfl rfl rfl (am_we (by omega) (by omega) (by omega)) rfl ?_
        refine ax_goto (x := 4) rfl ?_
        have e : yp_ T k x = ((am_up (ln_ T x.1 k (x.1 (18 + k))) k (ln_ T x.1 k (x.1 (18 + k)) k + 1)), x.2) := by unfold yp_; rw [if_pos hb17, if_pos (by rw [am_up_same]; omega)]
        exact ih (k + 1) (by omega) _ ((am_up (ln_ T x.1 k (x.1 (18 + k))) k (ln_ T x.1 k (x.1 (18 + k)) k + 1)), x.2) (fr_sI (fr_tr hf hf1 (fun a h => h)) (by decide)) (by rw [sI_at, hx1]) (by rw [show yl_ T v (k + 1) = yp_ T k (yl_ T v k) from rfl, ← hxe, e])
    · have hb17 := it_0 h17
      refine ax_goto (x := 71) rfl ?_
      refine ax_iinc (q := 74) (z' := ((k + 1 : Nat) : Int)) (L' := [some (am_R 135), some (am_I ((x.2 : Nat) : Int)), some (am_I ((k + 1 : Nat) : Int))]) rfl rfl rfl rfl (am_we (by omega) (by omega) (by omega)) rfl ?_
      refine ax_goto (x := 4) rfl ?_
      have e : yp_ T k x = x := by unfold yp_; rw [if_neg (by simp [hb17])]
      exact ih (k + 1) (by omega) σ' x hf hx (by rw [show yl_ T v (k + 1) = yp_ T k (yl_ T v k) from rfl, ← hxe, e])

theorem m_goYear {d : Nat} (hd : 7 ≤ d) {σ : am_S} {T : sp_T} (hT : TM_ T σ) (hV : TV_ T) {b : Int} {v : sp_V} (ha : σ.1 164 = v) (hW : VV_ T b v) (hb9 : b < 1000000) {Q : Option am_V → am_S → Prop} (hQ : ∀ σ', fr_ [143, 144, 164] σ σ' → σ'.1 164 = yr_ T v → Q (some (am_I ((yo_ T v : Nat) : Int))) σ') : am_Ev d 198 [am_R 135] σ Q := by
  obtain ⟨d, rfl⟩ : ∃ e, d = e + 1 := ⟨d - 1, by omega⟩
  refine ev_in (m := 198) (c := k_X9_goYear) (L := [some (am_R 135), none, none]) rfl rfl rfl rfl rfl rfl ?_
  refine ax_const (q := 1) (v := am_I 0) rfl rfl rfl ?_
  refine ax_store (q := 2) (L' := [some (am_R 135), some (am_I 0), none]) rfl rfl rfl rfl rfl rfl ?_
  refine ax_const (q := 3) (v := am_I 0) rfl rfl rfl ?_
  refine ax_store (q := 4) (L' := [some (am_R 135), some (am_I 0), some (am_I 0)]) rfl rfl rfl rfl rfl rfl ?_
  exact l_goYear (by omega) hT hV ha hW hb9 hQ (nP_ T) 0 (by omega) _ (v, 0) (fr_rf _ _) ha rfl
