theorem m_learn {d : Nat} (hd : 5 ≤ d) {σ : am_S} {T : sp_T} (hT : TM_ T σ) (hV : TV_ T) {b : Int} {v : sp_V} (ha : σ.1 164 = v) (hW : VV_ T b v) {p : Nat} (hp : p < nP_ T) {z : Int} (hz : z < T 135 50) {Q : Option am_V → am_S → Prop} (hQ : ∀ σ', fr_ [143, 144, 164] σ σ' → σ'.1 164 = ln_ T v p z → Q none σ') : am_Ev d 197 [am_R 135, am_I ((p : Nat) : Int), am_I z] σ Q := by
  obtain ⟨d, rfl⟩ : ∃ e, d = e + 1 := ⟨d - 1, by omega⟩
  have h6 := hV.nP
  have hS := hV.nS
  refine ev_in (m := 197) (c := k_X9_learn) (L := [some (am_R 135), some (am_I ((p : Nat) : Int)), some (am_I z), none]) rfl rfl rfl rfl rfl rfl ?_
  by_cases hz0 : z < 0
  · refine ax_load (q := 1) rfl rfl rfl rfl rfl ?_
    refine ax_if_ge (q := 4) (x := 5) rfl rfl (fun h => absurd h (by omega)) (fun h1 => ?_)
    refine ax_ret (r := none) rfl rfl ?_
    exact hQ _ (fr_rf _ _) (by unfold ln_; rw [if_pos hz0]; exact ha)
  · obtain ⟨s, rfl⟩ : ∃ s : Nat, z = (s : Int) := ⟨z.toNat, by omega⟩
    have hs : s < 4 := by omega
    have hlv := (hW.2.2 p hp).2.2.2.2 s hs
    have hgn := gn_bd T (ak_ (v (24 + 4 * p + s)) (v p) (v 49) s)
    refine ax_load (q := 1) rfl rfl rfl rfl rfl ?_
    refine ax_if_ge (q := 4) (x := 5) rfl rfl (fun h1 => ?_) (fun h => absurd h (by omega))
    refine ax_const (q := 7) (v := am_I 24) rfl rfl rfl ?_
    refine ax_const (q := 8) (v := am_I 4) rfl rfl rfl ?_
    refine ax_load (q := 9) rfl rfl rfl rfl rfl ?_
    refine ax_imul (q := 10) (z := ((4 * p : Nat) : Int)) rfl rfl (am_we (by omega) (by omega) (by omega)) ?_
    refine ax_iadd (q := 11) (z := ((24 + (4 * p) : Nat) : Int)) rfl rfl (am_we (by omega) (by omega) (by omega)) ?_
    refine ax_load (q := 12) rfl rfl rfl rfl rfl ?_
    refine ax_iadd (q := 13) (z := (((24 + (4 * p)) + s : Nat) : Int)) rfl rfl (am_we (by omega) (by omega) (by omega)) ?_
    refine ax_store (q := 14) (L' := [some (am_R 135), some (am_I ((p : Nat) : Int)), some (am_I ((s : Nat) : Int)), some (am_I (((24 + (4 * p)) + s : Nat) : Int))]) rfl rfl rfl rfl rfl rfl ?_
    refine ax_load (q := 15) rfl rfl rfl rfl rfl ?_
    refine ax_getf (q := 18) (v := am_R 144) rfl rfl (rfl) ?_
    refine ax_const (q := 19) (v := am_I 0) rfl rfl rfl ?_
    refine ax_load (q := 20) rfl rfl rfl rfl rfl ?_
    refine ax_getf (q := 23) (v := am_R 164) rfl rfl (rfl) ?_
    refine ax_load (q := 24) rfl rfl rfl rfl rfl ?_
    refine bx_iald (q := 25) (k := (24 + (4 * p)) + s) (z := v ((24 + (4 * p)) + s)) rfl rfl (rfl) (by omega) (by omega) (congrFun ha _) ?_
    refine bx_iast (q := 26) (k := 0) rfl rfl (rfl) (by omega) (by omega) ?_
    refine ax_load (q := 27) rfl rfl rfl rfl rfl ?_
    refine ax_getf (q := 30) (v := am_R 144) rfl rfl (rfl) ?_
    refine ax_const (q := 31) (v := am_I 1) rfl rfl rfl ?_
    refine ax_load (q := 32) rfl rfl rfl rfl rfl ?_
    refine ax_getf (q := 35) (v := am_R 164) rfl rfl (rfl) ?_
    refine ax_load (q := 36) rfl rfl rfl rfl rfl ?_
    refine bx_iald (q := 37) (k := p) (z := v p) rfl rfl (rfl) (by omega) (by omega) (congrFun ha _) ?_
    refine bx_iast (q := 38) (k := 1) rfl rfl (rfl) (by omega) (by omega) ?_
    refine ax_load (q := 39) rfl rfl rfl rfl rfl ?_
    refine ax_getf (q := 42) (v := am_R 144) rfl rfl (rfl) ?_
    refine ax_const (q := 43) (v := am_I 2) rfl rfl rfl ?_
    refine ax_load (q := 44) rfl rfl rfl rfl rfl ?_
    refine ax_getf (q := 47) (v := am_R 164) rfl rfl (rfl) ?_
    refine ax_const (q := 49) (v := am_I 49) rfl rfl rfl ?_
    refine bx_iald (q := 50) (k := 49) (z := v 49) rfl rfl (rfl) (by omega) (by omega) (congrFun ha _) ?_
    refine bx_iast (q := 51) (k := 2) rfl rfl (rfl) (by omega) (by omega) ?_
    refine ax_load (q := 52) rfl rfl rfl rfl rfl ?_
    refine ax_getf (q := 55) (v := am_R 144) rfl rfl (rfl) ?_
    refine ax_const (q := 56) (v := am_I 3) rfl rfl rfl ?_
    refine ax_load (q := 57) rfl rfl rfl rfl rfl ?_
    refine bx_iast (q := 58) (k := 3) rfl rfl (rfl) (by omega) (by omega) ?_
    refine ax_load (q := 59) rfl rfl rfl rfl rfl ?_
    refine ax_getf (q := 62) (v := am_R 164) rfl rfl (rfl) ?_
    refine ax_load (q := 63) rfl rfl rfl rfl rfl ?_
    refine ax_dup2 (q := 64) rfl rfl rfl rfl ?_
    refine bx_iald (q := 65) (k := (24 + (4 * p)) + s) (z := v ((24 + (4 * p)) + s)) rfl rfl (rfl) (by omega) (by omega) (congrFun ha _) ?_
    refine ax_load (q := 66) rfl rfl rfl rfl rfl ?_
    refine ax_callv (q := 69) rfl rfl rfl rfl rfl rfl ?_
    refine m_taught (by omega) (hT.sI (by decide) |>.sI (by decide) |>.sI (by decide) |>.sI (by decide)) hV (ask := ak_ (v (24 + 4 * p + s)) (v p) (v 49) s) (fun i hi => by match i, hi with
      | 0, _ => rfl
      | 1, _ => rfl
      | 2, _ => rfl
      | 3, _ => rfl) (fun σ1 hf1 => ?_)
    have ha1 : σ1.1 164 = v := by rw [hf1.1 164 (by decide)]; exact ha
    refine ax_iadd (q := 70) (z := v ((24 + (4 * p)) + s) + (gn_ T (ak_ (v (24 + 4 * p + s)) (v p) (v 49) s))) rfl rfl (am_we (by omega) (by omega) (by omega)) ?_
    refine bx_iast (q := 71) (k := (24 + (4 * p)) + s) rfl rfl (rfl) (by omega) (by omega) ?_
    refine ax_load (q := 72) rfl rfl rfl rfl rfl ?_
    refine ax_getf (q := 75) (v := am_R 164) rfl rfl (rfl) ?_
    refine ax_load (q := 76) rfl rfl rfl rfl rfl ?_
    refine bx_iald (q := 77) (k := (24 + (4 * p)) + s) (z := v (24 + 4 * p + s) + gn_ T (ak_ (v (24 + 4 * p + s)) (v p) (v 49) s)) rfl rfl (rfl) (by omega) (by omega) (by rw [sI_at, am_up_same]) ?_
    refine ax_const (q := 79) (v := am_I 20) rfl rfl rfl ?_
    refine ax_icmp_le (q := 82) (x := 90) rfl rfl (fun h79 => ?_) (fun h79 => ?_)
    · refine ax_ret (r := none) rfl rfl ?_
      refine hQ _ (fr_tr (l := [143, 144, 164]) (fr_sI (fr_sI (fr_sI (fr_sI (fr_rf _ _) (by decide)) (by decide)) (by decide)) (by decide)) (fr_sI (fr_sub hf1 (by decide)) (by decide)) (fun a h => h)) ?_
      rw [sI_at, ha1]
      unfold ln_ lv_n
      rw [if_neg (by omega), show ((s : Nat) : Int).toNat = s by omega]
      first | rw [if_pos (by omega)] | rw [if_neg (by omega)]
    · refine ax_load (q := 83) rfl rfl rfl rfl rfl ?_
      refine ax_getf (q := 86) (v := am_R 164) rfl rfl (rfl) ?_
      refine ax_load (q := 87) rfl rfl rfl rfl rfl ?_
      refine ax_const (q := 89) (v := am_I 20) rfl rfl rfl ?_
      refine bx_iast (q := 90) (k := (24 + (4 * p)) + s) rfl rfl (rfl) (by omega) (by omega) ?_
      refine ax_ret (r := none) rfl rfl ?_
      refine hQ _ (fr_tr (l := [143, 144, 164]) (fr_sI (fr_sI (fr_sI (fr_sI (fr_rf _ _) (by decide)) (by decide)) (by decide)) (by decide)) (fr_sI (fr_sI (fr_sub hf1 (by decide)) (by decide)) (by decide)) (fun a h => h)) ?_
      rw [sI_at, sI_at, up_up, ha1]
      unfold ln_ lv_n
      rw [if_neg (by omega), show ((s : Nat) : Int).toNat = s by omega]
      first | rw [if_pos (by omega)] | rw [if_neg (by omega)]

theorem l_goYear {d : Nat} (hd : 6 ≤ d) {σ : am_S} {T : sp_T} (hT : TM_ T σ) (hV : TV_ T) {b : Int} {v : sp_V} (ha : σ.1 164 = v) (hW : VV_ T b v) (hb9 : b < 1000000) {Q : Option am_V → am_S → Prop} (hQ : ∀ σ', fr_ [143, 144, 164] σ σ' → σ'.1 164 = yr_ T v → Q (some (am_I ((yo_ T v : Nat) : Int))) σ') : ∀ (m k : Nat), k + m = nP_ T → ∀ σ' (x : sp_V × Nat), fr_ [143, 144, 164] σ σ' → σ'.1 164 = x.1 → x = yl_ T v k → aW d 0 k_X9_goYear Q 4 [some (am_R 135), some (am_I ((x.2 : Nat) : Int)), some (am_I ((k : Nat) : Int))] [] σ' := by
  have h6 := hV.nP
  have hS := hV.nS
  intro m
  induction m with
  | zero =>
    intro k hk σ' x hf hx hxe
    obtain rfl : k = nP_ T := by omega
    have hin := yl_in hW hV (nP_ T) (Nat.le_refl _)
    have h49 := hW.1
    have h49b : x.1 49 = v 49 := by rw [hxe]; exact hin.2.2.1
    refine ax_load (q := 5) rfl rfl rfl rfl rfl ?_
    refine ax_load (q := 6) rfl rfl rfl rfl rfl ?_
    refine ax_getf (q := 9) (v := am_I ((nP_ T : Nat) : Int)) rfl rfl (am_fg rfl ((congrFun (hf.1 135 (by decide)) _).trans (hT.s53.trans hV.nP.1))) ?_
    refine ax_icmp_ge (q := 12) (x := 77) rfl rfl (fun h9 => ?_) (fun h => absurd h (by omega))
    refine ax_load (q := 78) rfl rfl rfl rfl rfl ?_
    refine ax_getf (q := 81) (v := am_R 164) rfl rfl (rfl) ?_
    refine ax_const (q := 83) (v := am_I 49) rfl rfl rfl ?_
    refine ax_dup2 (q := 84) rfl rfl rfl rfl ?_
    refine bx_iald (q := 85) (k := 49) (z := x.1 49) rfl rfl (rfl) (by omega) (by omega) (congrFun hx _) ?_
    refine ax_const (q := 86) (v := am_I 1) rfl rfl rfl ?_
    refine ax_iadd (q := 87) (z := x.1 49 + 1) rfl rfl (am_we (by omega) (by omega) (by omega)) ?_
    refine bx_iast (q := 88) (k := 49) rfl rfl (rfl) (by omega) (by omega) ?_
    refine ax_load (q := 89) rfl rfl rfl rfl rfl ?_
    refine ax_ret (r := some (am_I ((x.2 : Nat) : Int))) rfl rfl ?_
    have e : x = yl_ T v (nP_ T) := hxe
    subst e
    rw [hin.2.2.1, hx]
    exact hQ _ (fr_sI hf (by decide)) (sI_at _ _ _)
  | succ m ih =>
    intro k hk σ' x hf hx hxe
    have hin := yl_in hW hV k (by omega)
    rw [← hxe] at hin
    have hW1 := hin.1
    have h18 := (hW1.2.2 k (by omega)).2.2.2.1
    have hag := hin.2.2.2 k (Nat.le_refl _) (by omega)
    have hvk := (hW.2.2 k (by omega)).1
    have hlk : ln_ T x.1 k (x.1 (18 + k)) k = x.1 k := ln_ne (by omega) (by omega) (by omega)
    have hW2 : VV_ T (b + 1) (am_up (ln_ T x.1 k (x.1 (18 + k))) k (ln_ T x.1 k (x.1 (18 + k)) k + 1)) := by
      rw [hlk]
      exact (hW1.ln hV (by omega) h18.2).up (by omega) (by omega) (by omega) (by omega) (by omega) (by omega) (by omega)
    refine ax_load (q := 5) rfl rfl rfl rfl rfl ?_
    refine ax_load (q := 6) rfl rfl rfl rfl rfl ?_
    refine ax_getf (q := 9) (v := am_I ((nP_ T : Nat) : Int)) rfl rfl (am_fg rfl ((congrFun (hf.1 135 (by decide)) _).trans (hT.s53.trans hV.nP.1))) ?_
    refine ax_icmp_ge (q := 12) (x := 77) rfl rfl (fun h => absurd h (by omega)) (fun h9 => ?_)
    refine ax_load (q := 13) rfl rfl rfl rfl rfl ?_
    refine ax_load (q := 14) rfl rfl rfl rfl rfl ?_
    refine ax_callv (q := 17) rfl rfl rfl rfl rfl rfl ?_
    refine m_isShut (by omega) hx (by omega) ?_
    refine ax_if_ne (q := 20) (x := 23) rfl rfl (fun h17 => ?_) (fun h17 => ?_)
    · have hb17 := it_n0 h17
      refine ax_load (q := 24) rfl rfl rfl rfl rfl ?_
      refine ax_load (q := 25) rfl rfl rfl rfl rfl ?_
      refine ax_load (q := 26) rfl rfl rfl rfl rfl ?_
      refine ax_getf (q := 29) (v := am_R 164) rfl rfl (rfl) ?_
      refine ax_const (q := 31) (v := am_I 18) rfl rfl rfl ?_
      refine ax_load (q := 32) rfl rfl rfl rfl rfl ?_
      refine ax_iadd (q := 33) (z := ((18 + k : Nat) : Int)) rfl rfl (am_we (by omega) (by omega) (by omega)) ?_
      refine bx_iald (q := 34) (k := 18 + k) (z := x.1 (18 + k)) rfl rfl (rfl) (by omega) (by omega) (congrFun hx _) ?_
      refine ax_callv (q := 37) rfl rfl rfl rfl rfl rfl ?_
      refine m_learn (by omega) (hT.fr hf (by decide)) hV hx hW1 (by omega) (by omega) (fun σ1 hf1 hx1 => ?_)
      refine ax_load (q := 38) rfl rfl rfl rfl rfl ?_
      refine ax_getf (q := 41) (v := am_R 164) rfl rfl (rfl) ?_
      refine ax_load (q := 42) rfl rfl rfl rfl rfl ?_
      refine ax_dup2 (q := 43) rfl rfl rfl rfl ?_
      refine bx_iald (q := 44) (k := k) (z := ln_ T x.1 k (x.1 (18 + k)) k) rfl rfl (rfl) (by omega) (by omega) (congrFun hx1 _) ?_
      refine ax_const (q := 45) (v := am_I 1) rfl rfl rfl ?_
      refine ax_iadd (q := 46) (z := ln_ T x.1 k (x.1 (18 + k)) k + 1) rfl rfl (am_we (by omega) (by omega) (by omega)) ?_
      refine bx_iast (q := 47) (k := k) rfl rfl (rfl) (by omega) (by omega) ?_
      refine ax_load (q := 48) rfl rfl rfl rfl rfl ?_
      refine ax_getf (q := 51) (v := am_R 164) rfl rfl (rfl) ?_
      refine ax_load (q := 52) rfl rfl rfl rfl rfl ?_
      refine bx_iald (q := 53) (k := k) (z := ln_ T x.1 k (x.1 (18 + k)) k + 1) rfl rfl (rfl) (by omega) (by omega) (by rw [sI_at, am_up_same]) ?_
      refine ax_load (q := 54) rfl rfl rfl rfl rfl ?_
      refine ax_getf (q := 57) (v := am_I (T 135 55)) rfl rfl (am_fg rfl ((congrFun ((sI_ne (by decide)).trans ((hf1.1 135 (by decide)).trans (hf.1 135 (by decide)))) _).trans hT.s55)) ?_
      refine ax_icmp_ge (q := 60) (x := 63) rfl rfl (fun h57 => ?_) (fun h57 => ?_)
      · refine ax_load (q := 64) rfl rfl rfl rfl rfl ?_
        refine ax_load (q := 65) rfl rfl rfl rfl rfl ?_
        refine ax_callv (q := 68) rfl rfl rfl rfl rfl rfl ?_
        refine m_openOf (by omega) ((hT.fr hf (by decide)).fr hf1 (by decide) |>.sI (by decide)) hV (sI_at _ _ _) (v := am_up (σ1.1 164) k (ln_ T x.1 k (x.1 (18 + k)) k + 1)) (b := b + 1) (by rw [hx1]; exact hW2) (by omega) ?_
        rw [sI_sI]
        refine ax_iinc (q := 71) (z' := (((x.2) + 1 : Nat) : Int)) (L' := [some (am_R 135), some (am_I (((x.2) + 1 : Nat) : Int)), some (am_I ((k : Nat) : Int))]) rfl rfl rfl rfl (am_we (by omega) (by omega) (by omega)) rfl ?_
        refine ax_iinc (q := 74) (z' := ((k + 1 : Nat) : Int)) (L' := [some (am_R 135), some (am_I (((x.2) + 1 : Nat) : Int)), some (am_I ((k + 1 : Nat) : Int))]) rfl rfl rfl rfl (am_we (by omega) (by omega) (by omega)) rfl ?_
        refine ax_goto (x := 4) rfl ?_
        have e : yp_ T k x = (op_ T (am_up (ln_ T x.1 k (x.1 (18 + k))) k (ln_ T x.1 k (x.1 (18 + k)) k + 1)) k, x.2 + 1) := by unfold yp_; rw [if_pos hb17, if_neg (by rw [am_up_same]; omega)]
        exact ih (k + 1) (by omega) _ (op_ T (am_up (ln_ T x.1 k (x.1 (18 + k))) k (ln_ T x.1 k (x.1 (18 + k)) k + 1)) k, x.2 + 1) (fr_sI (fr_tr hf hf1 (fun a h => h)) (by decide)) (by rw [sI_at, hx1]) (by rw [show yl_ T v (k + 1) = yp_ T k (yl_ T v k) from rfl, ← hxe, e])
      · refine ax_goto (x := 71) rfl ?_
        refine ax_iinc (q := 74) (z' := ((k + 1 : Nat) : Int)) (L' := [some (am_R 135), some (am_I ((x.2 : Nat) : Int)), some (am_I ((k + 1 : Nat) : Int))]) rfl rfl rfl rfl (am_we (by omega) (by omega) (by omega)) rfl ?_
        refine ax_goto (x := 4) rfl ?_
        have e : yp_ T k x = ((am_up (ln_ T x.1 k (x.1 (18 + k))) k (ln_ T x.1 k (x.1 (18 + k)) k + 1)), x.2) := by unfold yp_; rw [if_pos hb17, if_pos (by rw [am_up_same]; omega)]
        exact ih (k + 1) (by omega) _ ((am_up (ln_ T x.1 k (x.1 (18 + k))) k (ln_ T x.1 k (x.1 (18 + k)) k + 1)), x.2) (fr_sI (fr_tr hf hf1 (fun a h => h)) (by decide)) (by rw [sI_at, hx1]) (by rw [show yl_ T v (k + 1) = yp_ T k (yl_ T v k) from rfl, ← hxe, e])
    · have hb17 := it_0 h17
      refine ax_goto (x := 71) rfl ?_
      refine ax_iinc (q := 74) (z' := ((k + 1 : Nat) : Int)) (L' := [some (am_R 135), some (am_I ((x.2 : Nat) : Int)), some (am_I ((k + 1 : Nat) : Int))]) rfl rfl rfl rfl (am_we (by omega) (by omega) (by omega)) rfl ?_
      refine ax_goto (x := 4) rfl ?_
      have e : yp_ T k x = x := by unfold yp_; rw [if_neg (by simp [hb17])]
      exact ih (k + 1) (by omega) σ' x hf hx (by rw [show yl_ T v (k + 1) = yp_ T k (yl_ T v k) from rfl, ← hxe, e])

theorem m_goYear {d : Nat} (hd : 7 ≤ d) {σ : am_S} {T : sp_T} (hT : TM_ T σ) (hV : TV_ T) {b : Int} {v : sp_V} (ha : σ.1 164 = v) (hW : VV_ T b v) (hb9 : b < 1000000) {Q : Option am_V → am_S → Prop} (hQ : ∀ σ', fr_ [143, 144, 164] σ σ' → σ'.1 164 = yr_ T v → Q (some (am_I ((yo_ T v : Nat) : Int))) σ') : am_Ev d 198 [am_R 135] σ Q := by
  obtain ⟨d, rfl⟩ : ∃ e, d = e + 1 := ⟨d - 1, by omega⟩
  refine ev_in (m := 198) (c := k_X9_goYear) (L := [some (am_R 135), none, none]) rfl rfl rfl rfl rfl rfl ?_
  refine ax_const (q := 1) (v := am_I 0) rfl rfl rfl ?_
  refine ax_store (q := 2) (L' := [some (am_R 135), some (am_I 0), none]) rfl rfl rfl rfl rfl rfl ?_
  refine ax_const (q := 3) (v := am_I 0) rfl rfl rfl ?_
  refine ax_store (q := 4) (L' := [some (am_R 135), some (am_I 0), some (am_I 0)]) rfl rfl rfl rfl rfl rfl ?_
  exact l_goYear (by omega) hT hV ha hW hb9 hQ (nP_ T) 0 (by omega) _ (v, 0) (fr_rf _ _) ha rfl
theorem l_load {d : Nat} {σ : am_S} {Q : Option am_V → am_S → Prop} (hQ : Q none (am_sI σ 164 (cp_ (σ.1 163) (σ.1 164) 50))) : ∀ (m k : Nat), k + m = 50 → aW d 4 k_X9_load Q 2 [some (am_R 135), some (am_I ((k : Nat) : Int))] [] (am_sI σ 164 (cp_ (σ.1 163) (σ.1 164) k)) := by
  intro m
  induction m with
  | zero =>
    intro k hk
    obtain rfl : k = 50 := by omega
    refine ax_load (q := 3) rfl rfl rfl rfl rfl ?_
    refine ax_const (q := 5) (v := am_I 50) rfl rfl rfl ?_
    refine ax_icmp_ge (q := 8) (x := 26) rfl rfl (fun h5 => ?_) (fun h => absurd h (by omega))
    refine ax_ret (r := none) rfl rfl ?_
    exact hQ
  | succ m ih =>
    intro k hk
    refine ax_load (q := 3) rfl rfl rfl rfl rfl ?_
    refine ax_const (q := 5) (v := am_I 50) rfl rfl rfl ?_
    refine ax_icmp_ge (q := 8) (x := 26) rfl rfl (fun h => absurd h (by omega)) (fun h5 => ?_)
    refine ax_load (q := 9) rfl rfl rfl rfl rfl ?_
    refine ax_getf (q := 12) (v := am_R 164) rfl rfl (rfl) ?_
    refine ax_load (q := 13) rfl rfl rfl rfl rfl ?_
    refine ax_load (q := 14) rfl rfl rfl rfl rfl ?_
    refine ax_getf (q := 17) (v := am_R 163) rfl rfl (rfl) ?_
    refine ax_load (q := 18) rfl rfl rfl rfl rfl ?_
    refine bx_iald (q := 19) (k := k) (z := σ.1 163 k) rfl rfl (rfl) (by omega) (by omega) (congrFun (sI_ne (by decide)) _) ?_
    refine bx_iast (q := 20) (k := k) rfl rfl (rfl) (by omega) (by omega) ?_
    refine ax_iinc (q := 23) (z' := ((k + 1 : Nat) : Int)) (L' := [some (am_R 135), some (am_I ((k + 1 : Nat) : Int))]) rfl rfl rfl rfl (am_we (by omega) (by omega) (by omega)) rfl ?_
    refine ax_goto (x := 2) rfl ?_
    have g := ih (k + 1) (by omega)
    rw [← cp_step] at g
    rw [sI_sI, sI_at]
    exact g

theorem m_load {d : Nat} (hd : 1 ≤ d) {σ : am_S}  {Q : Option am_V → am_S → Prop} (hQ : Q (none) (am_sI σ 164 (cp_ (σ.1 163) (σ.1 164) 50))) : am_Ev d 191 [am_R 135] σ Q := by
  obtain ⟨d, rfl⟩ : ∃ e, d = e + 1 := ⟨d - 1, by omega⟩
  refine ev_in (m := 191) (c := k_X9_load) (L := [some (am_R 135), none]) rfl rfl rfl rfl rfl rfl ?_
  refine ax_const (q := 1) (v := am_I 0) rfl rfl rfl ?_
  refine ax_store (q := 2) (L' := [some (am_R 135), some (am_I 0)]) rfl rfl rfl rfl rfl rfl ?_
  have g := l_load (d := d) hQ 50 0 (by omega)
  rw [cp_0, sI_id] at g
  exact g

theorem l_keep {d : Nat} {σ : am_S} {Q : Option am_V → am_S → Prop} (hQ : Q none (am_sI σ 163 (cp_ (σ.1 164) (σ.1 163) 50))) : ∀ (m k : Nat), k + m = 50 → aW d 4 k_X9_keep Q 2 [some (am_R 135), some (am_I ((k : Nat) : Int))] [] (am_sI σ 163 (cp_ (σ.1 164) (σ.1 163) k)) := by
  intro m
  induction m with
  | zero =>
    intro k hk
    obtain rfl : k = 50 := by omega
    refine ax_load (q := 3) rfl rfl rfl rfl rfl ?_
    refine ax_const (q := 5) (v := am_I 50) rfl rfl rfl ?_
    refine ax_icmp_ge (q := 8) (x := 26) rfl rfl (fun h5 => ?_) (fun h => absurd h (by omega))
    refine ax_ret (r := none) rfl rfl ?_
    exact hQ
  | succ m ih =>
    intro k hk
    refine ax_load (q := 3) rfl rfl rfl rfl rfl ?_
    refine ax_const (q := 5) (v := am_I 50) rfl rfl rfl ?_
    refine ax_icmp_ge (q := 8) (x := 26) rfl rfl (fun h => absurd h (by omega)) (fun h5 => ?_)
    refine ax_load (q := 9) rfl rfl rfl rfl rfl ?_
    refine ax_getf (q := 12) (v := am_R 163) rfl rfl (rfl) ?_
    refine ax_load (q := 13) rfl rfl rfl rfl rfl ?_
    refine ax_load (q := 14) rfl rfl rfl rfl rfl ?_
    refine ax_getf (q := 17) (v := am_R 164) rfl rfl (rfl) ?_
    refine ax_load (q := 18) rfl rfl rfl rfl rfl ?_
    refine bx_iald (q := 19) (k := k) (z := σ.1 164 k) rfl rfl (rfl) (by omega) (by omega) (congrFun (sI_ne (by decide)) _) ?_
    refine bx_iast (q := 20) (k := k) rfl rfl (rfl) (by omega) (by omega) ?_
    refine ax_iinc (q := 23) (z' := ((k + 1 : Nat) : Int)) (L' := [some (am_R 135), some (am_I ((k + 1 : Nat) : Int))]) rfl rfl rfl rfl (am_we (by omega) (by omega) (by omega)) rfl ?_
    refine ax_goto (x := 2) rfl ?_
    have g := ih (k + 1) (by omega)
    rw [← cp_step] at g
    rw [sI_sI, sI_at]
    exact g

theorem m_keep {d : Nat} (hd : 1 ≤ d) {σ : am_S}  {Q : Option am_V → am_S → Prop} (hQ : Q (none) (am_sI σ 163 (cp_ (σ.1 164) (σ.1 163) 50))) : am_Ev d 209 [am_R 135] σ Q := by
  obtain ⟨d, rfl⟩ : ∃ e, d = e + 1 := ⟨d - 1, by omega⟩
  refine ev_in (m := 209) (c := k_X9_keep) (L := [some (am_R 135), none]) rfl rfl rfl rfl rfl rfl ?_
  refine ax_const (q := 1) (v := am_I 0) rfl rfl rfl ?_
  refine ax_store (q := 2) (L' := [some (am_R 135), some (am_I 0)]) rfl rfl rfl rfl rfl rfl ?_
  have g := l_keep (d := d) hQ 50 0 (by omega)
  rw [cp_0, sI_id] at g
  exact g

theorem l_allOdds {d : Nat} (hd : 0 ≤ d) {σ : am_S} {T : sp_T} (hT : TM_ T σ) (hV : TV_ T) {q : Nat} (hq : q < nR_ T) {Q : Option am_V → am_S → Prop} (hQ : Q (some (am_I (al_ T q))) σ) : ∀ (m k : Nat), k + m = nO_ T → aW d 0 k_X9_allOdds Q 4 [some (am_R 135), some (am_I ((q : Nat) : Int)), some (am_I (su_ k (fun o => T 158 (8 * q + o)))), some (am_I ((k : Nat) : Int))] [] σ := by
  have hn := hV.nO
  have hr := hV.nR
  intro m
  induction m with
  | zero =>
    intro k hk
    obtain rfl : k = nO_ T := by omega
    refine ax_load (q := 5) rfl rfl rfl rfl rfl ?_
    refine ax_load (q := 6) rfl rfl rfl rfl rfl ?_
    refine ax_getf (q := 9) (v := am_I ((nO_ T : Nat) : Int)) rfl rfl (am_fg rfl (hT.s51.trans hV.nO.1)) ?_
    refine ax_icmp_ge (q := 12) (x := 32) rfl rfl (fun h9 => ?_) (fun h => absurd h (by omega))
    refine ax_load (q := 33) rfl rfl rfl rfl rfl ?_
    refine ax_ret (r := some (am_I (su_ (nO_ T) (fun o => T 158 (8 * q + o))))) rfl rfl ?_
    exact hQ
  | succ m ih =>
    intro k hk
    have hs := su_bd (f := (fun o => T 158 (8 * q + o))) (b := 9) (by omega) k (fun j hj => hV.od hq (by omega))
    have ho := hV.od hq (o := k) (by omega)
    refine ax_load (q := 5) rfl rfl rfl rfl rfl ?_
    refine ax_load (q := 6) rfl rfl rfl rfl rfl ?_
    refine ax_getf (q := 9) (v := am_I ((nO_ T : Nat) : Int)) rfl rfl (am_fg rfl (hT.s51.trans hV.nO.1)) ?_
    refine ax_icmp_ge (q := 12) (x := 32) rfl rfl (fun h => absurd h (by omega)) (fun h9 => ?_)
    refine ax_load (q := 13) rfl rfl rfl rfl rfl ?_
    refine ax_load (q := 14) rfl rfl rfl rfl rfl ?_
    refine ax_getf (q := 17) (v := am_R 158) rfl rfl (rfl) ?_
    refine ax_const (q := 19) (v := am_I 8) rfl rfl rfl ?_
    refine ax_load (q := 20) rfl rfl rfl rfl rfl ?_
    refine ax_imul (q := 21) (z := ((8 * q : Nat) : Int)) rfl rfl (am_we (by omega) (by omega) (by omega)) ?_
    refine ax_load (q := 22) rfl rfl rfl rfl rfl ?_
    refine ax_iadd (q := 23) (z := (((8 * q) + k : Nat) : Int)) rfl rfl (am_we (by omega) (by omega) (by omega)) ?_
    refine bx_iald (q := 24) (k := (8 * q) + k) (z := T 158 ((8 * q) + k)) rfl rfl (rfl) (by omega) (by omega) (congrFun hT.a158 _) ?_
    refine ax_iadd (q := 25) (z := su_ k (fun o => T 158 (8 * q + o)) + (T 158 ((8 * q) + k))) rfl rfl (am_we (by omega) (by omega) (by omega)) ?_
    refine ax_store (q := 26) (L' := [some (am_R 135), some (am_I ((q : Nat) : Int)), some (am_I (su_ k (fun o => T 158 (8 * q + o)) + (T 158 ((8 * q) + k)))), some (am_I ((k : Nat) : Int))]) rfl rfl rfl rfl rfl rfl ?_
    refine ax_iinc (q := 29) (z' := ((k + 1 : Nat) : Int)) (L' := [some (am_R 135), some (am_I ((q : Nat) : Int)), some (am_I (su_ k (fun o => T 158 (8 * q + o)) + (T 158 ((8 * q) + k)))), some (am_I ((k + 1 : Nat) : Int))]) rfl rfl rfl rfl (am_we (by omega) (by omega) (by omega)) rfl ?_
    refine ax_goto (x := 4) rfl ?_
    exact ih (k + 1) (by omega)

theorem m_allOdds {d : Nat} (hd : 1 ≤ d) {σ : am_S} {T : sp_T} (hT : TM_ T σ) (hV : TV_ T) {q : Nat} (hq : q < nR_ T) {Q : Option am_V → am_S → Prop} (hQ : Q (some (am_I (al_ T q))) σ) : am_Ev d 184 [am_R 135, am_I ((q : Nat) : Int)] σ Q := by
  obtain ⟨d, rfl⟩ : ∃ e, d = e + 1 := ⟨d - 1, by omega⟩
  refine ev_in (m := 184) (c := k_X9_allOdds) (L := [some (am_R 135), some (am_I ((q : Nat) : Int)), none, none]) rfl rfl rfl rfl rfl rfl ?_
  refine ax_const (q := 1) (v := am_I 0) rfl rfl rfl ?_
  refine ax_store (q := 2) (L' := [some (am_R 135), some (am_I ((q : Nat) : Int)), some (am_I 0), none]) rfl rfl rfl rfl rfl rfl ?_
  refine ax_const (q := 3) (v := am_I 0) rfl rfl rfl ?_
  refine ax_store (q := 4) (L' := [some (am_R 135), some (am_I ((q : Nat) : Int)), some (am_I 0), some (am_I 0)]) rfl rfl rfl rfl rfl rfl ?_
  exact l_allOdds (by omega) hT hV hq hQ (nO_ T) 0 (by omega)

theorem l_canSet {d : Nat} (hd : 2 ≤ d) {σ : am_S} {T : sp_T} (hT : TM_ T σ) (hV : TV_ T) {v : sp_V} (ha : σ.1 164 = v) {p : Nat} (hp : p < 6) {Q : Option am_V → am_S → Prop} (hQ : Q (some (am_I ((cs_ T v p : Nat) : Int))) σ) : ∀ (m k : Nat), k + m = nO_ T → aW d 0 k_X9_canSet Q 4 [some (am_R 135), some (am_I ((p : Nat) : Int)), some (am_I ((bi_ k (cn_ T v p) : Nat) : Int)), some (am_I ((k : Nat) : Int))] [] σ := by
  have hn := hV.nO
  intro m
  induction m with
  | zero =>
    intro k hk
    obtain rfl : k = nO_ T := by omega
    refine ax_load (q := 5) rfl rfl rfl rfl rfl ?_
    refine ax_load (q := 6) rfl rfl rfl rfl rfl ?_
    refine ax_getf (q := 9) (v := am_I ((nO_ T : Nat) : Int)) rfl rfl (am_fg rfl (hT.s51.trans hV.nO.1)) ?_
    refine ax_icmp_ge (q := 12) (x := 32) rfl rfl (fun h9 => ?_) (fun h => absurd h (by omega))
    refine ax_load (q := 33) rfl rfl rfl rfl rfl ?_
    refine ax_ret (r := some (am_I ((bi_ (nO_ T) (cn_ T v p) : Nat) : Int))) rfl rfl ?_
    exact hQ
  | succ m ih =>
    intro k hk
    refine ax_load (q := 5) rfl rfl rfl rfl rfl ?_
    refine ax_load (q := 6) rfl rfl rfl rfl rfl ?_
    refine ax_getf (q := 9) (v := am_I ((nO_ T : Nat) : Int)) rfl rfl (am_fg rfl (hT.s51.trans hV.nO.1)) ?_
    refine ax_icmp_ge (q := 12) (x := 32) rfl rfl (fun h => absurd h (by omega)) (fun h9 => ?_)
    refine ax_load (q := 13) rfl rfl rfl rfl rfl ?_
    refine ax_load (q := 14) rfl rfl rfl rfl rfl ?_
    refine ax_load (q := 15) rfl rfl rfl rfl rfl ?_
    refine ax_load (q := 16) rfl rfl rfl rfl rfl ?_
    refine ax_callv (q := 19) rfl rfl rfl rfl rfl rfl ?_
    refine m_can (by omega) hT hV ha hp (by omega) ?_
    refine ax_calls (q := 22) rfl rfl rfl rfl rfl ?_
    refine m_truthz (by omega) (by split <;> simp) ?_
    refine ax_load (q := 23) rfl rfl rfl rfl rfl ?_
    refine ax_ishl (q := 24) (z := am_shl (if cn_ T v p k then 1 else 0) (k : Int)) rfl rfl (rfl) ?_
    refine ax_ior (q := 25) (z := ((bi_ (k + 1) (cn_ T v p) : Nat) : Int)) rfl rfl (am_or_bi _ (by omega)) ?_
    refine ax_store (q := 26) (L' := [some (am_R 135), some (am_I ((p : Nat) : Int)), some (am_I ((bi_ (k + 1) (cn_ T v p) : Nat) : Int)), some (am_I ((k : Nat) : Int))]) rfl rfl rfl rfl rfl rfl ?_
    refine ax_iinc (q := 29) (z' := ((k + 1 : Nat) : Int)) (L' := [some (am_R 135), some (am_I ((p : Nat) : Int)), some (am_I ((bi_ (k + 1) (cn_ T v p) : Nat) : Int)), some (am_I ((k + 1 : Nat) : Int))]) rfl rfl rfl rfl (am_we (by omega) (by omega) (by omega)) rfl ?_
    refine ax_goto (x := 4) rfl ?_
    exact ih (k + 1) (by omega)

theorem m_canSet {d : Nat} (hd : 3 ≤ d) {σ : am_S} {T : sp_T} (hT : TM_ T σ) (hV : TV_ T) {v : sp_V} (ha : σ.1 164 = v) {p : Nat} (hp : p < 6) {Q : Option am_V → am_S → Prop} (hQ : Q (some (am_I ((cs_ T v p : Nat) : Int))) σ) : am_Ev d 199 [am_R 135, am_I ((p : Nat) : Int)] σ Q := by
  obtain ⟨d, rfl⟩ : ∃ e, d = e + 1 := ⟨d - 1, by omega⟩
  refine ev_in (m := 199) (c := k_X9_canSet) (L := [some (am_R 135), some (am_I ((p : Nat) : Int)), none, none]) rfl rfl rfl rfl rfl rfl ?_
  refine ax_const (q := 1) (v := am_I 0) rfl rfl rfl ?_
  refine ax_store (q := 2) (L' := [some (am_R 135), some (am_I ((p : Nat) : Int)), some (am_I 0), none]) rfl rfl rfl rfl rfl rfl ?_
  refine ax_const (q := 3) (v := am_I 0) rfl rfl rfl ?_
  refine ax_store (q := 4) (L' := [some (am_R 135), some (am_I ((p : Nat) : Int)), some (am_I 0), some (am_I 0)]) rfl rfl rfl rfl rfl rfl ?_
  exact l_canSet (by omega) hT hV ha hp hQ (nO_ T) 0 (by omega)

theorem l_shutSet {d : Nat} (hd : 1 ≤ d) {σ : am_S} {T : sp_T} (hT : TM_ T σ) (hV : TV_ T) {v : sp_V} (ha : σ.1 164 = v) {Q : Option am_V → am_S → Prop} (hQ : Q (some (am_I ((bi_ (nP_ T) (sh_ v) : Nat) : Int))) σ) : ∀ (m k : Nat), k + m = nP_ T → aW d 0 k_X9_shutSet Q 4 [some (am_R 135), some (am_I ((bi_ k (sh_ v) : Nat) : Int)), some (am_I ((k : Nat) : Int))] [] σ := by
  have hn := hV.nP
  intro m
  induction m with
  | zero =>
    intro k hk
    obtain rfl : k = nP_ T := by omega
    refine ax_load (q := 5) rfl rfl rfl rfl rfl ?_
    refine ax_load (q := 6) rfl rfl rfl rfl rfl ?_
    refine ax_getf (q := 9) (v := am_I ((nP_ T : Nat) : Int)) rfl rfl (am_fg rfl (hT.s53.trans hV.nP.1)) ?_
    refine ax_icmp_ge (q := 12) (x := 31) rfl rfl (fun h9 => ?_) (fun h => absurd h (by omega))
    refine ax_load (q := 32) rfl rfl rfl rfl rfl ?_
    refine ax_ret (r := some (am_I ((bi_ (nP_ T) (sh_ v) : Nat) : Int))) rfl rfl ?_
    exact hQ
  | succ m ih =>
    intro k hk
    refine ax_load (q := 5) rfl rfl rfl rfl rfl ?_
    refine ax_load (q := 6) rfl rfl rfl rfl rfl ?_
    refine ax_getf (q := 9) (v := am_I ((nP_ T : Nat) : Int)) rfl rfl (am_fg rfl (hT.s53.trans hV.nP.1)) ?_
    refine ax_icmp_ge (q := 12) (x := 31) rfl rfl (fun h => absurd h (by omega)) (fun h9 => ?_)
    refine ax_load (q := 13) rfl rfl rfl rfl rfl ?_
    refine ax_load (q := 14) rfl rfl rfl rfl rfl ?_
    refine ax_load (q := 15) rfl rfl rfl rfl rfl ?_
    refine ax_callv (q := 18) rfl rfl rfl rfl rfl rfl ?_
    refine m_isShut (by omega) ha (by omega) ?_
    refine ax_calls (q := 21) rfl rfl rfl rfl rfl ?_
    refine m_truthz (by omega) (by split <;> simp) ?_
    refine ax_load (q := 22) rfl rfl rfl rfl rfl ?_
    refine ax_ishl (q := 23) (z := am_shl (if sh_ v k then 1 else 0) (k : Int)) rfl rfl (rfl) ?_
    refine ax_ior (q := 24) (z := ((bi_ (k + 1) (sh_ v) : Nat) : Int)) rfl rfl (am_or_bi _ (by omega)) ?_
    refine ax_store (q := 25) (L' := [some (am_R 135), some (am_I ((bi_ (k + 1) (sh_ v) : Nat) : Int)), some (am_I ((k : Nat) : Int))]) rfl rfl rfl rfl rfl rfl ?_
    refine ax_iinc (q := 28) (z' := ((k + 1 : Nat) : Int)) (L' := [some (am_R 135), some (am_I ((bi_ (k + 1) (sh_ v) : Nat) : Int)), some (am_I ((k + 1 : Nat) : Int))]) rfl rfl rfl rfl (am_we (by omega) (by omega) (by omega)) rfl ?_
    refine ax_goto (x := 4) rfl ?_
    exact ih (k + 1) (by omega)

theorem m_shutSet {d : Nat} (hd : 2 ≤ d) {σ : am_S} {T : sp_T} (hT : TM_ T σ) (hV : TV_ T) {v : sp_V} (ha : σ.1 164 = v) {Q : Option am_V → am_S → Prop} (hQ : Q (some (am_I ((bi_ (nP_ T) (sh_ v) : Nat) : Int))) σ) : am_Ev d 241 [am_R 135] σ Q := by
  obtain ⟨d, rfl⟩ : ∃ e, d = e + 1 := ⟨d - 1, by omega⟩
  refine ev_in (m := 241) (c := k_X9_shutSet) (L := [some (am_R 135), none, none]) rfl rfl rfl rfl rfl rfl ?_
  refine ax_const (q := 1) (v := am_I 0) rfl rfl rfl ?_
  refine ax_store (q := 2) (L' := [some (am_R 135), some (am_I 0), none]) rfl rfl rfl rfl rfl rfl ?_
  refine ax_const (q := 3) (v := am_I 0) rfl rfl rfl ?_
  refine ax_store (q := 4) (L' := [some (am_R 135), some (am_I 0), some (am_I 0)]) rfl rfl rfl rfl rfl rfl ?_
  exact l_shutSet (by omega) hT hV ha hQ (nP_ T) 0 (by omega)

theorem l_manyOf {d : Nat} (hd : 1 ≤ d) {σ : am_S} {T : sp_T} (hT : TM_ T σ) (hV : TV_ T) {v : sp_V} (ha : σ.1 164 = v) {h : Int} {Q : Option am_V → am_S → Prop} (hQ : Q (some (am_I ((mo_ T v h : Nat) : Int))) σ) : ∀ (m k : Nat), k + m = nP_ T → aW d 0 k_X9_manyOf Q 4 [some (am_R 135), some (am_I h), some (am_I ((ct_ k (fun p => decide (v (12 + p) = h)) : Nat) : Int)), some (am_I ((k : Nat) : Int))] [] σ := by
  have hn := hV.nP
  intro m
  induction m with
  | zero =>
    intro k hk
    obtain rfl : k = nP_ T := by omega
    refine ax_load (q := 5) rfl rfl rfl rfl rfl ?_
    refine ax_load (q := 6) rfl rfl rfl rfl rfl ?_
    refine ax_getf (q := 9) (v := am_I ((nP_ T : Nat) : Int)) rfl rfl (am_fg rfl (hT.s53.trans hV.nP.1)) ?_
    refine ax_icmp_ge (q := 12) (x := 42) rfl rfl (fun h9 => ?_) (fun h => absurd h (by omega))
    refine ax_load (q := 43) rfl rfl rfl rfl rfl ?_
    refine ax_ret (r := some (am_I ((ct_ (nP_ T) (fun p => decide (v (12 + p) = h)) : Nat) : Int))) rfl rfl ?_
    exact hQ
  | succ m ih =>
    intro k hk
    have hc := ct_le (fun p => decide (v (12 + p) = h)) k
    refine ax_load (q := 5) rfl rfl rfl rfl rfl ?_
    refine ax_load (q := 6) rfl rfl rfl rfl rfl ?_
    refine ax_getf (q := 9) (v := am_I ((nP_ T : Nat) : Int)) rfl rfl (am_fg rfl (hT.s53.trans hV.nP.1)) ?_
    refine ax_icmp_ge (q := 12) (x := 42) rfl rfl (fun h => absurd h (by omega)) (fun h9 => ?_)
    refine ax_load (q := 13) rfl rfl rfl rfl rfl ?_
    refine ax_load (q := 14) rfl rfl rfl rfl rfl ?_
    refine ax_getf (q := 17) (v := am_R 164) rfl rfl (rfl) ?_
    refine ax_const (q := 19) (v := am_I 12) rfl rfl rfl ?_
    refine ax_load (q := 20) rfl rfl rfl rfl rfl ?_
    refine ax_iadd (q := 21) (z := ((12 + k : Nat) : Int)) rfl rfl (am_we (by omega) (by omega) (by omega)) ?_
    refine bx_iald (q := 22) (k := 12 + k) (z := v (12 + k)) rfl rfl (rfl) (by omega) (by omega) (congrFun ha _) ?_
    refine ax_load (q := 23) rfl rfl rfl rfl rfl ?_
    refine ax_icmp_ne (q := 26) (x := 30) rfl rfl (fun h23 => ?_) (fun h23 => ?_)
    · refine ax_const (q := 31) (v := am_I 0) rfl rfl rfl ?_
      refine ax_calls (q := 34) rfl rfl rfl rfl rfl ?_
      refine m_truthz (by omega) (Or.inl rfl) ?_
      refine ax_iadd (q := 35) (z := (((ct_ k (fun p => decide (v (12 + p) = h))) + 0 : Nat) : Int)) rfl rfl (am_we (by omega) (by omega) (by omega)) ?_
      refine ax_store (q := 36) (L' := [some (am_R 135), some (am_I h), some (am_I (((ct_ k (fun p => decide (v (12 + p) = h))) + 0 : Nat) : Int)), some (am_I ((k : Nat) : Int))]) rfl rfl rfl rfl rfl rfl ?_
      refine ax_iinc (q := 39) (z' := ((k + 1 : Nat) : Int)) (L' := [some (am_R 135), some (am_I h), some (am_I (((ct_ k (fun p => decide (v (12 + p) = h))) + 0 : Nat) : Int)), some (am_I ((k + 1 : Nat) : Int))]) rfl rfl rfl rfl (am_we (by omega) (by omega) (by omega)) rfl ?_
      refine ax_goto (x := 4) rfl ?_
      have e : ct_ (k + 1) (fun p => decide (v (12 + p) = h)) = ct_ k (fun p => decide (v (12 + p) = h)) + 0 := by show ct_ k _ + _ = _; simp [h23]
      have g := ih (k + 1) (by omega)
      rw [e] at g
      exact g
    · refine ax_const (q := 27) (v := am_I 1) rfl rfl rfl ?_
      refine ax_goto (x := 31) rfl ?_
      refine ax_calls (q := 34) rfl rfl rfl rfl rfl ?_
      refine m_truthz (by omega) (Or.inr rfl) ?_
      refine ax_iadd (q := 35) (z := (((ct_ k (fun p => decide (v (12 + p) = h))) + 1 : Nat) : Int)) rfl rfl (am_we (by omega) (by omega) (by omega)) ?_
      refine ax_store (q := 36) (L' := [some (am_R 135), some (am_I h), some (am_I (((ct_ k (fun p => decide (v (12 + p) = h))) + 1 : Nat) : Int)), some (am_I ((k : Nat) : Int))]) rfl rfl rfl rfl rfl rfl ?_
      refine ax_iinc (q := 39) (z' := ((k + 1 : Nat) : Int)) (L' := [some (am_R 135), some (am_I h), some (am_I (((ct_ k (fun p => decide (v (12 + p) = h))) + 1 : Nat) : Int)), some (am_I ((k + 1 : Nat) : Int))]) rfl rfl rfl rfl (am_we (by omega) (by omega) (by omega)) rfl ?_
      refine ax_goto (x := 4) rfl ?_
      have e : ct_ (k + 1) (fun p => decide (v (12 + p) = h)) = ct_ k (fun p => decide (v (12 + p) = h)) + 1 := by show ct_ k _ + _ = _; simp [h23]
      have g := ih (k + 1) (by omega)
      rw [e] at g
      exact g

theorem m_manyOf {d : Nat} (hd : 2 ≤ d) {σ : am_S} {T : sp_T} (hT : TM_ T σ) (hV : TV_ T) {v : sp_V} (ha : σ.1 164 = v) {h : Int} {Q : Option am_V → am_S → Prop} (hQ : Q (some (am_I ((mo_ T v h : Nat) : Int))) σ) : am_Ev d 204 [am_R 135, am_I h] σ Q := by
  obtain ⟨d, rfl⟩ : ∃ e, d = e + 1 := ⟨d - 1, by omega⟩
  refine ev_in (m := 204) (c := k_X9_manyOf) (L := [some (am_R 135), some (am_I h), none, none]) rfl rfl rfl rfl rfl rfl ?_
  refine ax_const (q := 1) (v := am_I 0) rfl rfl rfl ?_
  refine ax_store (q := 2) (L' := [some (am_R 135), some (am_I h), some (am_I 0), none]) rfl rfl rfl rfl rfl rfl ?_
  refine ax_const (q := 3) (v := am_I 0) rfl rfl rfl ?_
  refine ax_store (q := 4) (L' := [some (am_R 135), some (am_I h), some (am_I 0), some (am_I 0)]) rfl rfl rfl rfl rfl rfl ?_
  exact l_manyOf (by omega) hT hV ha hQ (nP_ T) 0 (by omega)

theorem m_yearsLeft {d : Nat} (hd : 1 ≤ d) {σ : am_S} {T : sp_T} (hT : TM_ T σ) (hV : TV_ T) {w : sp_V} (hw : σ.1 163 = w) {p : Nat} (hp : p < 6) (hy : 0 ≤ w p ∧ w p ≤ 1000000) {Q : Option am_V → am_S → Prop} (hQ : Q (some (am_I ((yf_ T w p : Nat) : Int))) σ) : am_Ev d 219 [am_R 135, am_I ((p : Nat) : Int)] σ Q := by
  obtain ⟨d, rfl⟩ : ∃ e, d = e + 1 := ⟨d - 1, by omega⟩
  have ho := hV.oa
  refine ev_in (m := 219) (c := k_X9_yearsLeft) (L := [some (am_R 135), some (am_I ((p : Nat) : Int))]) rfl rfl rfl rfl rfl rfl ?_
  refine ax_load (q := 1) rfl rfl rfl rfl rfl ?_
  refine ax_getf (q := 4) (v := am_I (T 135 55)) rfl rfl (am_fg rfl hT.s55) ?_
  refine ax_load (q := 5) rfl rfl rfl rfl rfl ?_
  refine ax_getf (q := 8) (v := am_R 163) rfl rfl (rfl) ?_
  refine ax_load (q := 9) rfl rfl rfl rfl rfl ?_
  refine bx_iald (q := 10) (k := p) (z := w p) rfl rfl (rfl) (by omega) (by omega) (congrFun hw _) ?_
  refine ax_isub (q := 11) (z := T 135 55 - (w p)) rfl rfl (am_we (by omega) (by omega) (by omega)) ?_
  refine ax_const (q := 12) (v := am_I 1) rfl rfl rfl ?_
  refine ax_icmp_le (q := 15) (x := 29) rfl rfl (fun h12 => ?_) (fun h12 => ?_)
  · refine ax_const (q := 30) (v := am_I 1) rfl rfl rfl ?_
    refine ax_ret (r := some (am_I 1)) rfl rfl ?_
    have e : ((yf_ T w p : Nat) : Int) = 1 := by unfold yf_; split <;> omega
    rw [← e]
    exact hQ
  · refine ax_load (q := 16) rfl rfl rfl rfl rfl ?_
    refine ax_getf (q := 19) (v := am_I (T 135 55)) rfl rfl (am_fg rfl hT.s55) ?_
    refine ax_load (q := 20) rfl rfl rfl rfl rfl ?_
    refine ax_getf (q := 23) (v := am_R 163) rfl rfl (rfl) ?_
    refine ax_load (q := 24) rfl rfl rfl rfl rfl ?_
    refine bx_iald (q := 25) (k := p) (z := w p) rfl rfl (rfl) (by omega) (by omega) (congrFun hw _) ?_
    refine ax_isub (q := 26) (z := T 135 55 - (w p)) rfl rfl (am_we (by omega) (by omega) (by omega)) ?_
    refine ax_goto (x := 30) rfl ?_
    refine ax_ret (r := some (am_I (T 135 55 - (w p)))) rfl rfl ?_
    have e : ((yf_ T w p : Nat) : Int) = T 135 55 - (w p) := by unfold yf_; split <;> omega
    rw [← e]
    exact hQ

theorem m_isBlank {d : Nat} (hd : 2 ≤ d) {σ : am_S} {T : sp_T} (hT : TM_ T σ) (hV : TV_ T) {v : sp_V} (ha : σ.1 164 = v) {p : Nat} (hp : p < nP_ T) {Q : Option am_V → am_S → Prop} (hQ : Q (some (am_I (if ib_ T v p then 1 else 0))) σ) : am_Ev d 221 [am_R 135, am_I ((p : Nat) : Int)] σ Q := by
  obtain ⟨d, rfl⟩ : ∃ e, d = e + 1 := ⟨d - 1, by omega⟩
  have h6 := hV.nP
  have hpa := hV.pa hp
  refine ev_in (m := 221) (c := k_X9_isBlank) (L := [some (am_R 135), some (am_I ((p : Nat) : Int))]) rfl rfl rfl rfl rfl rfl ?_
  refine ax_load (q := 1) rfl rfl rfl rfl rfl ?_
  refine ax_getf (q := 4) (v := am_R 164) rfl rfl (rfl) ?_
  refine ax_const (q := 6) (v := am_I 12) rfl rfl rfl ?_
  refine ax_load (q := 7) rfl rfl rfl rfl rfl ?_
  refine ax_iadd (q := 8) (z := ((12 + p : Nat) : Int)) rfl rfl (am_we (by omega) (by omega) (by omega)) ?_
  refine bx_iald (q := 9) (k := 12 + p) (z := v (12 + p)) rfl rfl (rfl) (by omega) (by omega) (congrFun ha _) ?_
  refine ax_const (q := 10) (v := am_I 1) rfl rfl rfl ?_
  refine ax_icmp_ne (q := 13) (x := 33) rfl rfl (fun h10 => ?_) (fun h10 => ?_)
  · refine ax_load (q := 34) rfl rfl rfl rfl rfl ?_
    refine ax_load (q := 35) rfl rfl rfl rfl rfl ?_
    refine ax_getf (q := 38) (v := am_R 162) rfl rfl (rfl) ?_
    refine ax_load (q := 39) rfl rfl rfl rfl rfl ?_
    refine bx_iald (q := 40) (k := p) (z := ((pa_ T p : Nat) : Int)) rfl rfl (rfl) (by omega) (by omega) ((congrFun hT.a162 _).trans (hV.pa (by omega)).1) ?_
    refine ax_callv (q := 43) rfl rfl rfl rfl rfl rfl ?_
    refine m_allOdds (by omega) hT hV (by omega) ?_
    refine ax_if_ne (q := 46) (x := 50) rfl rfl (fun h43 => ?_) (fun h43 => ?_)
    · refine ax_const (q := 51) (v := am_I 0) rfl rfl rfl ?_
      refine ax_ret (r := some (am_I 0)) rfl ⟨rfl, Or.inl rfl⟩ ?_
      have e : ib_ T v p = false := by unfold ib_; split <;> simp <;> omega
      rw [e] at hQ
      exact hQ
    · refine ax_const (q := 47) (v := am_I 1) rfl rfl rfl ?_
      refine ax_goto (x := 51) rfl ?_
      refine ax_ret (r := some (am_I 1)) rfl ⟨rfl, Or.inr rfl⟩ ?_
      have e : ib_ T v p = true := by unfold ib_; split <;> simp <;> omega
      rw [e] at hQ
      exact hQ
  · refine ax_load (q := 14) rfl rfl rfl rfl rfl ?_
    refine ax_getf (q := 17) (v := am_R 164) rfl rfl (rfl) ?_
    refine ax_const (q := 19) (v := am_I 6) rfl rfl rfl ?_
    refine ax_load (q := 20) rfl rfl rfl rfl rfl ?_
    refine ax_iadd (q := 21) (z := ((6 + p : Nat) : Int)) rfl rfl (am_we (by omega) (by omega) (by omega)) ?_
    refine bx_iald (q := 22) (k := 6 + p) (z := v (6 + p)) rfl rfl (rfl) (by omega) (by omega) (congrFun ha _) ?_
    refine ax_if_ge (q := 25) (x := 29) rfl rfl (fun h22 => ?_) (fun h22 => ?_)
    · refine ax_const (q := 30) (v := am_I 0) rfl rfl rfl ?_
      refine ax_goto (x := 51) rfl ?_
      refine ax_ret (r := some (am_I 0)) rfl ⟨rfl, Or.inl rfl⟩ ?_
      have e : ib_ T v p = false := by unfold ib_; split <;> simp <;> omega
      rw [e] at hQ
      exact hQ
    · refine ax_const (q := 26) (v := am_I 1) rfl rfl rfl ?_
      refine ax_goto (x := 51) rfl ?_
      refine ax_ret (r := some (am_I 1)) rfl ⟨rfl, Or.inr rfl⟩ ?_
      have e : ib_ T v p = true := by unfold ib_; split <;> simp <;> omega
      rw [e] at hQ
      exact hQ

theorem m_partsAll {d : Nat} (hd : 3 ≤ d) {σ : am_S} {T : sp_T} (hT : TM_ T σ) (hV : TV_ T) {v : sp_V} (ha : σ.1 164 = v) {p : Nat} (hp : p < nP_ T) {Q : Option am_V → am_S → Prop} (hQ : Q (some (am_I (pl_ T v p))) σ) : am_Ev d 222 [am_R 135, am_I ((p : Nat) : Int)] σ Q := by
  obtain ⟨d, rfl⟩ : ∃ e, d = e + 1 := ⟨d - 1, by omega⟩
  have h6 := hV.nP
  have hpa := hV.pa hp
  refine ev_in (m := 222) (c := k_X9_partsAll) (L := [some (am_R 135), some (am_I ((p : Nat) : Int))]) rfl rfl rfl rfl rfl rfl ?_
  refine ax_load (q := 1) rfl rfl rfl rfl rfl ?_
  refine ax_load (q := 2) rfl rfl rfl rfl rfl ?_
  refine ax_callv (q := 5) rfl rfl rfl rfl rfl rfl ?_
  refine m_isBlank (by omega) hT hV ha hp ?_
  refine ax_if_ne (q := 8) (x := 21) rfl rfl (fun h5 => ?_) (fun h5 => ?_)
  · have hb5 := it_n0 h5
    refine ax_const (q := 22) (v := am_I 1) rfl rfl rfl ?_
    refine ax_goto (x := 35) rfl ?_
    refine ax_ret (r := some (am_I 1)) rfl rfl ?_
    have e : pl_ T v p = 1 := by unfold pl_; simp [*]
    rw [e] at hQ
    exact hQ
  · have hb5 := it_0 h5
    refine ax_load (q := 9) rfl rfl rfl rfl rfl ?_
    refine ax_getf (q := 12) (v := am_R 164) rfl rfl (rfl) ?_
    refine ax_const (q := 14) (v := am_I 12) rfl rfl rfl ?_
    refine ax_load (q := 15) rfl rfl rfl rfl rfl ?_
    refine ax_iadd (q := 16) (z := ((12 + p : Nat) : Int)) rfl rfl (am_we (by omega) (by omega) (by omega)) ?_
    refine bx_iald (q := 17) (k := 12 + p) (z := v (12 + p)) rfl rfl (rfl) (by omega) (by omega) (congrFun ha _) ?_
    refine ax_const (q := 18) (v := am_I 1) rfl rfl rfl ?_
    refine ax_icmp_ne (q := 21) (x := 25) rfl rfl (fun h18 => ?_) (fun h18 => ?_)
    · refine ax_load (q := 26) rfl rfl rfl rfl rfl ?_
      refine ax_load (q := 27) rfl rfl rfl rfl rfl ?_
      refine ax_getf (q := 30) (v := am_R 162) rfl rfl (rfl) ?_
      refine ax_load (q := 31) rfl rfl rfl rfl rfl ?_
      refine bx_iald (q := 32) (k := p) (z := ((pa_ T p : Nat) : Int)) rfl rfl (rfl) (by omega) (by omega) ((congrFun hT.a162 _).trans (hV.pa (by omega)).1) ?_
      refine ax_callv (q := 35) rfl rfl rfl rfl rfl rfl ?_
      refine m_allOdds (by omega) hT hV (by omega) ?_
      refine ax_ret (r := some (am_I (al_ T (pa_ T p)))) rfl rfl ?_
      have e : pl_ T v p = al_ T (pa_ T p) := by unfold pl_; simp [*]
      rw [e] at hQ
      exact hQ
    · refine ax_const (q := 22) (v := am_I 1) rfl rfl rfl ?_
      refine ax_goto (x := 35) rfl ?_
      refine ax_ret (r := some (am_I 1)) rfl rfl ?_
      have e : pl_ T v p = 1 := by unfold pl_; simp [*]
      rw [e] at hQ
      exact hQ

theorem l_partsOf {d : Nat} (hd : 2 ≤ d) {σ : am_S} {T : sp_T} (hT : TM_ T σ) (hV : TV_ T) {v : sp_V} (ha : σ.1 164 = v) {p : Nat} (hp : p < nP_ T) {Q : Option am_V → am_S → Prop} (hQ : Q (some (am_I (su_ (nO_ T) (fun o => if cn_ T v p o then T 158 (8 * pa_ T p + o) else 0)))) σ) : ∀ (m k : Nat), k + m = nO_ T → aW d 0 k_X9_partsOf Q 45 [some (am_R 135), some (am_I ((p : Nat) : Int)), some (am_I (su_ k (fun o => if cn_ T v p o then T 158 (8 * pa_ T p + o) else 0))), some (am_I ((k : Nat) : Int))] [] σ := by
  have hn := hV.nO
  have h6 := hV.nP
  have hpa := hV.pa hp
  have hr := hV.nR
  intro m
  induction m with
  | zero =>
    intro k hk
    obtain rfl : k = nO_ T := by omega
    refine ax_load (q := 46) rfl rfl rfl rfl rfl ?_
    refine ax_load (q := 47) rfl rfl rfl rfl rfl ?_
    refine ax_getf (q := 50) (v := am_I ((nO_ T : Nat) : Int)) rfl rfl (am_fg rfl (hT.s51.trans hV.nO.1)) ?_
    refine ax_icmp_ge (q := 53) (x := 91) rfl rfl (fun h50 => ?_) (fun h => absurd h (by omega))
    refine ax_load (q := 92) rfl rfl rfl rfl rfl ?_
    refine ax_ret (r := some (am_I (su_ (nO_ T) (fun o => if cn_ T v p o then T 158 (8 * pa_ T p + o) else 0)))) rfl rfl ?_
    exact hQ
  | succ m ih =>
    intro k hk
    have hs := su_bd (f := (fun o => if cn_ T v p o then T 158 (8 * pa_ T p + o) else 0)) (b := 9) (by omega) k (fun j hj => by have := hV.od hpa.2.1 (o := j) (by omega); split <;> omega)
    have ho := hV.od hpa.2.1 (o := k) (by omega)
    refine ax_load (q := 46) rfl rfl rfl rfl rfl ?_
    refine ax_load (q := 47) rfl rfl rfl rfl rfl ?_
    refine ax_getf (q := 50) (v := am_I ((nO_ T : Nat) : Int)) rfl rfl (am_fg rfl (hT.s51.trans hV.nO.1)) ?_
    refine ax_icmp_ge (q := 53) (x := 91) rfl rfl (fun h => absurd h (by omega)) (fun h50 => ?_)
    refine ax_load (q := 54) rfl rfl rfl rfl rfl ?_
    refine ax_load (q := 55) rfl rfl rfl rfl rfl ?_
    refine ax_load (q := 56) rfl rfl rfl rfl rfl ?_
    refine ax_load (q := 57) rfl rfl rfl rfl rfl ?_
    refine ax_callv (q := 60) rfl rfl rfl rfl rfl rfl ?_
    refine m_can (by omega) hT hV ha (by omega) (by omega) ?_
    refine ax_if_eq (q := 63) (x := 82) rfl rfl (fun h60 => ?_) (fun h60 => ?_)
    · have hb60 := it_0 h60
      refine ax_const (q := 83) (v := am_I 0) rfl rfl rfl ?_
      refine ax_iadd (q := 84) (z := su_ k (fun o => if cn_ T v p o then T 158 (8 * pa_ T p + o) else 0) + 0) rfl rfl (am_we (by omega) (by omega) (by omega)) ?_
      refine ax_store (q := 85) (L' := [some (am_R 135), some (am_I ((p : Nat) : Int)), some (am_I (su_ k (fun o => if cn_ T v p o then T 158 (8 * pa_ T p + o) else 0) + 0)), some (am_I ((k : Nat) : Int))]) rfl rfl rfl rfl rfl rfl ?_
      refine ax_iinc (q := 88) (z' := ((k + 1 : Nat) : Int)) (L' := [some (am_R 135), some (am_I ((p : Nat) : Int)), some (am_I (su_ k (fun o => if cn_ T v p o then T 158 (8 * pa_ T p + o) else 0) + 0)), some (am_I ((k + 1 : Nat) : Int))]) rfl rfl rfl rfl (am_we (by omega) (by omega) (by omega)) rfl ?_
      refine ax_goto (x := 45) rfl ?_
      have e : su_ (k + 1) (fun o => if cn_ T v p o then T 158 (8 * pa_ T p + o) else 0) = su_ k (fun o => if cn_ T v p o then T 158 (8 * pa_ T p + o) else 0) + 0 := by show su_ k _ + _ = _; simp [hb60]
      have g := ih (k + 1) (by omega)
      rw [e] at g
      exact g
    · have hb60 := it_n0 h60
      refine ax_load (q := 64) rfl rfl rfl rfl rfl ?_
      refine ax_getf (q := 67) (v := am_R 158) rfl rfl (rfl) ?_
      refine ax_const (q := 69) (v := am_I 8) rfl rfl rfl ?_
      refine ax_load (q := 70) rfl rfl rfl rfl rfl ?_
      refine ax_getf (q := 73) (v := am_R 162) rfl rfl (rfl) ?_
      refine ax_load (q := 74) rfl rfl rfl rfl rfl ?_
      refine bx_iald (q := 75) (k := p) (z := ((pa_ T p : Nat) : Int)) rfl rfl (rfl) (by omega) (by omega) ((congrFun hT.a162 _).trans (hV.pa (by omega)).1) ?_
      refine ax_imul (q := 76) (z := ((8 * (pa_ T p) : Nat) : Int)) rfl rfl (am_we (by omega) (by omega) (by omega)) ?_
      refine ax_load (q := 77) rfl rfl rfl rfl rfl ?_
      refine ax_iadd (q := 78) (z := (((8 * (pa_ T p)) + k : Nat) : Int)) rfl rfl (am_we (by omega) (by omega) (by omega)) ?_
      refine bx_iald (q := 79) (k := (8 * (pa_ T p)) + k) (z := T 158 ((8 * (pa_ T p)) + k)) rfl rfl (rfl) (by omega) (by omega) (congrFun hT.a158 _) ?_
      refine ax_goto (x := 83) rfl ?_
      refine ax_iadd (q := 84) (z := su_ k (fun o => if cn_ T v p o then T 158 (8 * pa_ T p + o) else 0) + (T 158 ((8 * (pa_ T p)) + k))) rfl rfl (am_we (by omega) (by omega) (by omega)) ?_
      refine ax_store (q := 85) (L' := [some (am_R 135), some (am_I ((p : Nat) : Int)), some (am_I (su_ k (fun o => if cn_ T v p o then T 158 (8 * pa_ T p + o) else 0) + (T 158 ((8 * (pa_ T p)) + k)))), some (am_I ((k : Nat) : Int))]) rfl rfl rfl rfl rfl rfl ?_
      refine ax_iinc (q := 88) (z' := ((k + 1 : Nat) : Int)) (L' := [some (am_R 135), some (am_I ((p : Nat) : Int)), some (am_I (su_ k (fun o => if cn_ T v p o then T 158 (8 * pa_ T p + o) else 0) + (T 158 ((8 * (pa_ T p)) + k)))), some (am_I ((k + 1 : Nat) : Int))]) rfl rfl rfl rfl (am_we (by omega) (by omega) (by omega)) rfl ?_
      refine ax_goto (x := 45) rfl ?_
      have e : su_ (k + 1) (fun o => if cn_ T v p o then T 158 (8 * pa_ T p + o) else 0) = su_ k (fun o => if cn_ T v p o then T 158 (8 * pa_ T p + o) else 0) + (T 158 ((8 * (pa_ T p)) + k)) := by show su_ k _ + _ = _; simp [hb60]
      have g := ih (k + 1) (by omega)
      rw [e] at g
      exact g

theorem m_partsOf {d : Nat} (hd : 3 ≤ d) {σ : am_S} {T : sp_T} (hT : TM_ T σ) (hV : TV_ T) {v : sp_V} (ha : σ.1 164 = v) {b : Int} (hW : VV_ T b v) {p : Nat} (hp : p < nP_ T) {Q : Option am_V → am_S → Prop} (hQ : Q (some (am_I (po_ T v p))) σ) : am_Ev d 223 [am_R 135, am_I ((p : Nat) : Int)] σ Q := by
  obtain ⟨d, rfl⟩ : ∃ e, d = e + 1 := ⟨d - 1, by omega⟩
  have h6 := hV.nP
  have hpa := hV.pa hp
  have hn := hV.nO
  have h66 := (hW.2.2 p hp).2.1
  refine ev_in (m := 223) (c := k_X9_partsOf) (L := [some (am_R 135), some (am_I ((p : Nat) : Int)), none, none]) rfl rfl rfl rfl rfl rfl ?_
  refine ax_load (q := 1) rfl rfl rfl rfl rfl ?_
  refine ax_load (q := 2) rfl rfl rfl rfl rfl ?_
  refine ax_callv (q := 5) rfl rfl rfl rfl rfl rfl ?_
  refine m_isBlank (by omega) hT hV ha hp ?_
  refine ax_if_eq (q := 8) (x := 10) rfl rfl (fun h5 => ?_) (fun h5 => ?_)
  · have hb5 := it_0 h5
    refine ax_load (q := 11) rfl rfl rfl rfl rfl ?_
    refine ax_getf (q := 14) (v := am_R 164) rfl rfl (rfl) ?_
    refine ax_const (q := 16) (v := am_I 12) rfl rfl rfl ?_
    refine ax_load (q := 17) rfl rfl rfl rfl rfl ?_
    refine ax_iadd (q := 18) (z := ((12 + p : Nat) : Int)) rfl rfl (am_we (by omega) (by omega) (by omega)) ?_
    refine bx_iald (q := 19) (k := 12 + p) (z := v (12 + p)) rfl rfl (rfl) (by omega) (by omega) (congrFun ha _) ?_
    refine ax_const (q := 20) (v := am_I 1) rfl rfl rfl ?_
    refine ax_icmp_ne (q := 23) (x := 41) rfl rfl (fun h20 => ?_) (fun h20 => ?_)
    · refine ax_const (q := 42) (v := am_I 0) rfl rfl rfl ?_
      refine ax_store (q := 43) (L' := [some (am_R 135), some (am_I ((p : Nat) : Int)), some (am_I 0), none]) rfl rfl rfl rfl rfl rfl ?_
      refine ax_const (q := 44) (v := am_I 0) rfl rfl rfl ?_
      refine ax_store (q := 45) (L' := [some (am_R 135), some (am_I ((p : Nat) : Int)), some (am_I 0), some (am_I 0)]) rfl rfl rfl rfl rfl rfl ?_
      have e : po_ T v p = su_ (nO_ T) (fun o => if cn_ T v p o then T 158 (8 * pa_ T p + o) else 0) := by unfold po_; simp [*]
      rw [e] at hQ
      exact l_partsOf (by omega) hT hV ha hp hQ (nO_ T) 0 (by omega)
    · have hv6 : 0 ≤ v (6 + p) := by unfold ib_ at hb5; rw [if_pos (by assumption)] at hb5; simpa using hb5
      refine ax_load (q := 24) rfl rfl rfl rfl rfl ?_
      refine ax_load (q := 25) rfl rfl rfl rfl rfl ?_
      refine ax_load (q := 26) rfl rfl rfl rfl rfl ?_
      refine ax_getf (q := 29) (v := am_R 164) rfl rfl (rfl) ?_
      refine ax_const (q := 31) (v := am_I 6) rfl rfl rfl ?_
      refine ax_load (q := 32) rfl rfl rfl rfl rfl ?_
      refine ax_iadd (q := 33) (z := ((6 + p : Nat) : Int)) rfl rfl (am_we (by omega) (by omega) (by omega)) ?_
      refine bx_iald (q := 34) (k := 6 + p) (z := (((v (6 + p)).toNat : Nat) : Int)) rfl rfl (rfl) (by omega) (by omega) ((congrFun ha _).trans (by omega)) ?_
      refine ax_callv (q := 37) rfl rfl rfl rfl rfl rfl ?_
      refine m_can (by omega) hT hV ha (by omega) (by omega) ?_
      refine ax_calls (q := 40) rfl rfl rfl rfl rfl ?_
      refine m_truthz (by omega) (by split <;> simp) ?_
      refine ax_ret (r := some (am_I (if cn_ T v p (v (6 + p)).toNat then 1 else 0))) rfl rfl ?_
      have e : po_ T v p = if cn_ T v p (v (6 + p)).toNat then 1 else 0 := by unfold po_; simp [*]
      rw [e] at hQ
      exact hQ
  · have hb5 := it_n0 h5
    refine ax_const (q := 9) (v := am_I 1) rfl rfl rfl ?_
    refine ax_ret (r := some (am_I 1)) rfl rfl ?_
    have e : po_ T v p = 1 := by unfold po_; simp [*]
    rw [e] at hQ
    exact hQ

theorem l_worthsOf {d : Nat} (hd : 2 ≤ d) {σ : am_S} {T : sp_T} (hT : TM_ T σ) (hV : TV_ T) {v : sp_V} (ha : σ.1 164 = v) {p : Nat} (hp : p < nP_ T) {Q : Option am_V → am_S → Prop} (hQ : Q (some (am_I (su_ (nO_ T) (fun o => if cn_ T v p o then T 155 o * T 158 (8 * pa_ T p + o) else 0)))) σ) : ∀ (m k : Nat), k + m = nO_ T → aW d 0 k_X9_worthsOf Q 63 [some (am_R 135), some (am_I ((p : Nat) : Int)), some (am_I (su_ k (fun o => if cn_ T v p o then T 155 o * T 158 (8 * pa_ T p + o) else 0))), some (am_I ((k : Nat) : Int))] [] σ := by
  have hn := hV.nO
  have h6 := hV.nP
  have hpa := hV.pa hp
  have hr := hV.nR
  intro m
  induction m with
  | zero =>
    intro k hk
    obtain rfl : k = nO_ T := by omega
    refine ax_load (q := 64) rfl rfl rfl rfl rfl ?_
    refine ax_load (q := 65) rfl rfl rfl rfl rfl ?_
    refine ax_getf (q := 68) (v := am_I ((nO_ T : Nat) : Int)) rfl rfl (am_fg rfl (hT.s51.trans hV.nO.1)) ?_
    refine ax_icmp_ge (q := 71) (x := 116) rfl rfl (fun h68 => ?_) (fun h => absurd h (by omega))
    refine ax_load (q := 117) rfl rfl rfl rfl rfl ?_
    refine ax_ret (r := some (am_I (su_ (nO_ T) (fun o => if cn_ T v p o then T 155 o * T 158 (8 * pa_ T p + o) else 0)))) rfl rfl ?_
    exact hQ
  | succ m ih =>
    intro k hk
    have hs := su_bd (f := (fun o => if cn_ T v p o then T 155 o * T 158 (8 * pa_ T p + o) else 0)) (b := 81) (by omega) k (fun j hj => by have := mul_bd (A := 9) (B := 9) (a := T 155 j) (b := T 158 (8 * pa_ T p + j)) (by have := hV.wo (o := j) (by omega); omega) (hV.wo (o := j) (by omega)).2 (hV.od hpa.2.1 (o := j) (by omega)).1 (hV.od hpa.2.1 (o := j) (by omega)).2; split <;> omega)
    have ho := mul_bd (A := 9) (B := 9) (a := T 155 k) (b := T 158 (8 * pa_ T p + k)) (by have := hV.wo (o := k) (by omega); omega) (hV.wo (o := k) (by omega)).2 (hV.od hpa.2.1 (o := k) (by omega)).1 (hV.od hpa.2.1 (o := k) (by omega)).2
    refine ax_load (q := 64) rfl rfl rfl rfl rfl ?_
    refine ax_load (q := 65) rfl rfl rfl rfl rfl ?_
    refine ax_getf (q := 68) (v := am_I ((nO_ T : Nat) : Int)) rfl rfl (am_fg rfl (hT.s51.trans hV.nO.1)) ?_
    refine ax_icmp_ge (q := 71) (x := 116) rfl rfl (fun h => absurd h (by omega)) (fun h68 => ?_)
    refine ax_load (q := 72) rfl rfl rfl rfl rfl ?_
    refine ax_load (q := 73) rfl rfl rfl rfl rfl ?_
    refine ax_load (q := 74) rfl rfl rfl rfl rfl ?_
    refine ax_load (q := 75) rfl rfl rfl rfl rfl ?_
    refine ax_callv (q := 78) rfl rfl rfl rfl rfl rfl ?_
    refine m_can (by omega) hT hV ha (by omega) (by omega) ?_
    refine ax_if_eq (q := 81) (x := 107) rfl rfl (fun h78 => ?_) (fun h78 => ?_)
    · have hb78 := it_0 h78
      refine ax_const (q := 108) (v := am_I 0) rfl rfl rfl ?_
      refine ax_iadd (q := 109) (z := su_ k (fun o => if cn_ T v p o then T 155 o * T 158 (8 * pa_ T p + o) else 0) + 0) rfl rfl (am_we (by omega) (by omega) (by omega)) ?_
      refine ax_store (q := 110) (L' := [some (am_R 135), some (am_I ((p : Nat) : Int)), some (am_I (su_ k (fun o => if cn_ T v p o then T 155 o * T 158 (8 * pa_ T p + o) else 0) + 0)), some (am_I ((k : Nat) : Int))]) rfl rfl rfl rfl rfl rfl ?_
      refine ax_iinc (q := 113) (z' := ((k + 1 : Nat) : Int)) (L' := [some (am_R 135), some (am_I ((p : Nat) : Int)), some (am_I (su_ k (fun o => if cn_ T v p o then T 155 o * T 158 (8 * pa_ T p + o) else 0) + 0)), some (am_I ((k + 1 : Nat) : Int))]) rfl rfl rfl rfl (am_we (by omega) (by omega) (by omega)) rfl ?_
      refine ax_goto (x := 63) rfl ?_
      have e : su_ (k + 1) (fun o => if cn_ T v p o then T 155 o * T 158 (8 * pa_ T p + o) else 0) = su_ k (fun o => if cn_ T v p o then T 155 o * T 158 (8 * pa_ T p + o) else 0) + 0 := by show su_ k _ + _ = _; simp [hb78]
      have g := ih (k + 1) (by omega)
      rw [e] at g
      exact g
    · have hb78 := it_n0 h78
      refine ax_load (q := 82) rfl rfl rfl rfl rfl ?_
      refine ax_getf (q := 85) (v := am_R 155) rfl rfl (rfl) ?_
      refine ax_load (q := 86) rfl rfl rfl rfl rfl ?_
      refine bx_iald (q := 87) (k := k) (z := T 155 k) rfl rfl (rfl) (by omega) (by omega) (congrFun hT.a155 _) ?_
      refine ax_load (q := 88) rfl rfl rfl rfl rfl ?_
      refine ax_getf (q := 91) (v := am_R 158) rfl rfl (rfl) ?_
      refine ax_const (q := 93) (v := am_I 8) rfl rfl rfl ?_
      refine ax_load (q := 94) rfl rfl rfl rfl rfl ?_
      refine ax_getf (q := 97) (v := am_R 162) rfl rfl (rfl) ?_
      refine ax_load (q := 98) rfl rfl rfl rfl rfl ?_
      refine bx_iald (q := 99) (k := p) (z := ((pa_ T p : Nat) : Int)) rfl rfl (rfl) (by omega) (by omega) ((congrFun hT.a162 _).trans (hV.pa (by omega)).1) ?_
      refine ax_imul (q := 100) (z := ((8 * (pa_ T p) : Nat) : Int)) rfl rfl (am_we (by omega) (by omega) (by omega)) ?_
      refine ax_load (q := 101) rfl rfl rfl rfl rfl ?_
      refine ax_iadd (q := 102) (z := (((8 * (pa_ T p)) + k : Nat) : Int)) rfl rfl (am_we (by omega) (by omega) (by omega)) ?_
      refine bx_iald (q := 103) (k := (8 * (pa_ T p)) + k) (z := T 158 ((8 * (pa_ T p)) + k)) rfl rfl (rfl) (by omega) (by omega) (congrFun hT.a158 _) ?_
      refine ax_imul (q := 104) (z := T 155 k * (T 158 ((8 * (pa_ T p)) + k))) rfl rfl (am_we (by omega) (by omega) (by omega)) ?_
      refine ax_goto (x := 108) rfl ?_
      refine ax_iadd (q := 109) (z := su_ k (fun o => if cn_ T v p o then T 155 o * T 158 (8 * pa_ T p + o) else 0) + (T 155 k * (T 158 ((8 * (pa_ T p)) + k)))) rfl rfl (am_we (by omega) (by omega) (by omega)) ?_
      refine ax_store (q := 110) (L' := [some (am_R 135), some (am_I ((p : Nat) : Int)), some (am_I (su_ k (fun o => if cn_ T v p o then T 155 o * T 158 (8 * pa_ T p + o) else 0) + (T 155 k * (T 158 ((8 * (pa_ T p)) + k))))), some (am_I ((k : Nat) : Int))]) rfl rfl rfl rfl rfl rfl ?_
      refine ax_iinc (q := 113) (z' := ((k + 1 : Nat) : Int)) (L' := [some (am_R 135), some (am_I ((p : Nat) : Int)), some (am_I (su_ k (fun o => if cn_ T v p o then T 155 o * T 158 (8 * pa_ T p + o) else 0) + (T 155 k * (T 158 ((8 * (pa_ T p)) + k))))), some (am_I ((k + 1 : Nat) : Int))]) rfl rfl rfl rfl (am_we (by omega) (by omega) (by omega)) rfl ?_
      refine ax_goto (x := 63) rfl ?_
      have e : su_ (k + 1) (fun o => if cn_ T v p o then T 155 o * T 158 (8 * pa_ T p + o) else 0) = su_ k (fun o => if cn_ T v p o then T 155 o * T 158 (8 * pa_ T p + o) else 0) + (T 155 k * (T 158 ((8 * (pa_ T p)) + k))) := by show su_ k _ + _ = _; simp [hb78]
      have g := ih (k + 1) (by omega)
      rw [e] at g
      exact g

theorem m_worthsOf {d : Nat} (hd : 3 ≤ d) {σ : am_S} {T : sp_T} (hT : TM_ T σ) (hV : TV_ T) {v : sp_V} (ha : σ.1 164 = v) {b : Int} (hW : VV_ T b v) {p : Nat} (hp : p < nP_ T) {Q : Option am_V → am_S → Prop} (hQ : Q (some (am_I (wo_ T v p))) σ) : am_Ev d 226 [am_R 135, am_I ((p : Nat) : Int)] σ Q := by
  obtain ⟨d, rfl⟩ : ∃ e, d = e + 1 := ⟨d - 1, by omega⟩
  have h6 := hV.nP
  have hpa := hV.pa hp
  have hn := hV.nO
  have h66 := (hW.2.2 p hp).2.1
  refine ev_in (m := 226) (c := k_X9_worthsOf) (L := [some (am_R 135), some (am_I ((p : Nat) : Int)), none, none]) rfl rfl rfl rfl rfl rfl ?_
  refine ax_load (q := 1) rfl rfl rfl rfl rfl ?_
  refine ax_load (q := 2) rfl rfl rfl rfl rfl ?_
  refine ax_callv (q := 5) rfl rfl rfl rfl rfl rfl ?_
  refine m_isBlank (by omega) hT hV ha hp ?_
  refine ax_if_eq (q := 8) (x := 10) rfl rfl (fun h5 => ?_) (fun h5 => ?_)
  · have hb5 := it_0 h5
    refine ax_load (q := 11) rfl rfl rfl rfl rfl ?_
    refine ax_getf (q := 14) (v := am_R 164) rfl rfl (rfl) ?_
    refine ax_const (q := 16) (v := am_I 12) rfl rfl rfl ?_
    refine ax_load (q := 17) rfl rfl rfl rfl rfl ?_
    refine ax_iadd (q := 18) (z := ((12 + p : Nat) : Int)) rfl rfl (am_we (by omega) (by omega) (by omega)) ?_
    refine bx_iald (q := 19) (k := 12 + p) (z := v (12 + p)) rfl rfl (rfl) (by omega) (by omega) (congrFun ha _) ?_
    refine ax_const (q := 20) (v := am_I 1) rfl rfl rfl ?_
    refine ax_icmp_ne (q := 23) (x := 59) rfl rfl (fun h20 => ?_) (fun h20 => ?_)
    · refine ax_const (q := 60) (v := am_I 0) rfl rfl rfl ?_
      refine ax_store (q := 61) (L' := [some (am_R 135), some (am_I ((p : Nat) : Int)), some (am_I 0), none]) rfl rfl rfl rfl rfl rfl ?_
      refine ax_const (q := 62) (v := am_I 0) rfl rfl rfl ?_
      refine ax_store (q := 63) (L' := [some (am_R 135), some (am_I ((p : Nat) : Int)), some (am_I 0), some (am_I 0)]) rfl rfl rfl rfl rfl rfl ?_
      have e : wo_ T v p = su_ (nO_ T) (fun o => if cn_ T v p o then T 155 o * T 158 (8 * pa_ T p + o) else 0) := by unfold wo_; simp [*]
      rw [e] at hQ
      exact l_worthsOf (by omega) hT hV ha hp hQ (nO_ T) 0 (by omega)
    · have hv6 : 0 ≤ v (6 + p) := by unfold ib_ at hb5; rw [if_pos (by assumption)] at hb5; simpa using hb5
      refine ax_load (q := 24) rfl rfl rfl rfl rfl ?_
      refine ax_load (q := 25) rfl rfl rfl rfl rfl ?_
      refine ax_load (q := 26) rfl rfl rfl rfl rfl ?_
      refine ax_getf (q := 29) (v := am_R 164) rfl rfl (rfl) ?_
      refine ax_const (q := 31) (v := am_I 6) rfl rfl rfl ?_
      refine ax_load (q := 32) rfl rfl rfl rfl rfl ?_
      refine ax_iadd (q := 33) (z := ((6 + p : Nat) : Int)) rfl rfl (am_we (by omega) (by omega) (by omega)) ?_
      refine bx_iald (q := 34) (k := 6 + p) (z := (((v (6 + p)).toNat : Nat) : Int)) rfl rfl (rfl) (by omega) (by omega) ((congrFun ha _).trans (by omega)) ?_
      refine ax_callv (q := 37) rfl rfl rfl rfl rfl rfl ?_
      refine m_can (by omega) hT hV ha (by omega) (by omega) ?_
      refine ax_if_eq (q := 40) (x := 57) rfl rfl (fun h37 => ?_) (fun h37 => ?_)
      · have hb37 := it_0 h37
        refine ax_const (q := 58) (v := am_I 0) rfl rfl rfl ?_
        refine ax_ret (r := some (am_I 0)) rfl rfl ?_
        have e : wo_ T v p = 0 := by unfold wo_; simp [*]
        rw [e] at hQ
        exact hQ
      · have hb37 := it_n0 h37
        refine ax_load (q := 41) rfl rfl rfl rfl rfl ?_
        refine ax_getf (q := 44) (v := am_R 155) rfl rfl (rfl) ?_
        refine ax_load (q := 45) rfl rfl rfl rfl rfl ?_
        refine ax_getf (q := 48) (v := am_R 164) rfl rfl (rfl) ?_
        refine ax_const (q := 50) (v := am_I 6) rfl rfl rfl ?_
        refine ax_load (q := 51) rfl rfl rfl rfl rfl ?_
        refine ax_iadd (q := 52) (z := ((6 + p : Nat) : Int)) rfl rfl (am_we (by omega) (by omega) (by omega)) ?_
        refine bx_iald (q := 53) (k := 6 + p) (z := (((v (6 + p)).toNat : Nat) : Int)) rfl rfl (rfl) (by omega) (by omega) ((congrFun ha _).trans (by omega)) ?_
        refine bx_iald (q := 54) (k := (v (6 + p)).toNat) (z := T 155 ((v (6 + p)).toNat)) rfl rfl (rfl) (by omega) (by omega) (congrFun hT.a155 _) ?_
        refine ax_goto (x := 58) rfl ?_
        refine ax_ret (r := some (am_I (T 155 ((v (6 + p)).toNat)))) rfl rfl ?_
        have e : wo_ T v p = T 155 ((v (6 + p)).toNat) := by unfold wo_; simp [*]
        rw [e] at hQ
        exact hQ
  · have hb5 := it_n0 h5
    refine ax_const (q := 9) (v := am_I 1) rfl rfl rfl ?_
    refine ax_ret (r := some (am_I 1)) rfl rfl ?_
    have e : wo_ T v p = 1 := by unfold wo_; simp [*]
    rw [e] at hQ
    exact hQ

theorem m_hasOf {d : Nat} (hd : 3 ≤ d) {σ : am_S} {T : sp_T} (hT : TM_ T σ) (hV : TV_ T) {v : sp_V} (ha : σ.1 164 = v) {b : Int} (hW : VV_ T b v) {p l : Nat} (hp : p < nP_ T) (hl : l < nP_ T) {Q : Option am_V → am_S → Prop} (hQ : Q (some (am_I (ho_ T v p l))) σ) : am_Ev d 237 [am_R 135, am_I ((p : Nat) : Int), am_I ((l : Nat) : Int)] σ Q := by
  obtain ⟨d, rfl⟩ : ∃ e, d = e + 1 := ⟨d - 1, by omega⟩
  have h6 := hV.nP
  have hn := hV.nO
  have h66 := (hW.2.2 l hl).2.1
  refine ev_in (m := 237) (c := k_X9_hasOf) (L := [some (am_R 135), some (am_I ((p : Nat) : Int)), some (am_I ((l : Nat) : Int)), none]) rfl rfl rfl rfl rfl rfl ?_
  by_cases hneg : v (6 + l) < 0
  · refine ax_load (q := 1) rfl rfl rfl rfl rfl ?_
    refine ax_getf (q := 4) (v := am_R 164) rfl rfl (rfl) ?_
    refine ax_const (q := 6) (v := am_I 6) rfl rfl rfl ?_
    refine ax_load (q := 7) rfl rfl rfl rfl rfl ?_
    refine ax_iadd (q := 8) (z := ((6 + l : Nat) : Int)) rfl rfl (am_we (by omega) (by omega) (by omega)) ?_
    refine bx_iald (q := 9) (k := 6 + l) (z := v (6 + l)) rfl rfl (rfl) (by omega) (by omega) (congrFun ha _) ?_
    refine ax_store (q := 10) (L' := [some (am_R 135), some (am_I ((p : Nat) : Int)), some (am_I ((l : Nat) : Int)), some (am_I (v (6 + l)))]) rfl rfl rfl rfl rfl rfl ?_
    refine ax_load (q := 11) rfl rfl rfl rfl rfl ?_
    refine ax_if_ge (q := 14) (x := 18) rfl rfl (fun h => absurd h (by omega)) (fun h11 => ?_)
    refine ax_const (q := 15) (v := am_I 1) rfl rfl rfl ?_
    refine ax_goto (x := 37) rfl ?_
    refine ax_ret (r := some (am_I 1)) rfl rfl ?_
    have e : ho_ T v p l = 1 := by unfold ho_; simp [*]
    rw [e] at hQ
    exact hQ
  · refine ax_load (q := 1) rfl rfl rfl rfl rfl ?_
    refine ax_getf (q := 4) (v := am_R 164) rfl rfl (rfl) ?_
    refine ax_const (q := 6) (v := am_I 6) rfl rfl rfl ?_
    refine ax_load (q := 7) rfl rfl rfl rfl rfl ?_
    refine ax_iadd (q := 8) (z := ((6 + l : Nat) : Int)) rfl rfl (am_we (by omega) (by omega) (by omega)) ?_
    refine bx_iald (q := 9) (k := 6 + l) (z := (((v (6 + l)).toNat : Nat) : Int)) rfl rfl (rfl) (by omega) (by omega) ((congrFun ha _).trans (by omega)) ?_
    refine ax_store (q := 10) (L' := [some (am_R 135), some (am_I ((p : Nat) : Int)), some (am_I ((l : Nat) : Int)), some (am_I (((v (6 + l)).toNat : Nat) : Int))]) rfl rfl rfl rfl rfl rfl ?_
    refine ax_load (q := 11) rfl rfl rfl rfl rfl ?_
    refine ax_if_ge (q := 14) (x := 18) rfl rfl (fun h11 => ?_) (fun h => absurd h (by omega))
    refine ax_load (q := 19) rfl rfl rfl rfl rfl ?_
    refine ax_load (q := 20) rfl rfl rfl rfl rfl ?_
    refine ax_load (q := 21) rfl rfl rfl rfl rfl ?_
    refine ax_callv (q := 24) rfl rfl rfl rfl rfl rfl ?_
    refine m_can (by omega) hT hV ha (by omega) (by omega) ?_
    refine ax_if_eq (q := 27) (x := 36) rfl rfl (fun h24 => ?_) (fun h24 => ?_)
    · have hb24 := it_0 h24
      refine ax_const (q := 37) (v := am_I 0) rfl rfl rfl ?_
      refine ax_ret (r := some (am_I 0)) rfl rfl ?_
      have e : ho_ T v p l = 0 := by unfold ho_; simp [*]
      rw [e] at hQ
      exact hQ
    · have hb24 := it_n0 h24
      refine ax_load (q := 28) rfl rfl rfl rfl rfl ?_
      refine ax_getf (q := 31) (v := am_R 155) rfl rfl (rfl) ?_
      refine ax_load (q := 32) rfl rfl rfl rfl rfl ?_
      refine bx_iald (q := 33) (k := (v (6 + l)).toNat) (z := T 155 ((v (6 + l)).toNat)) rfl rfl (rfl) (by omega) (by omega) (congrFun hT.a155 _) ?_
      refine ax_goto (x := 37) rfl ?_
      refine ax_ret (r := some (am_I (T 155 ((v (6 + l)).toNat)))) rfl rfl ?_
      have e : ho_ T v p l = T 155 ((v (6 + l)).toNat) := by unfold ho_; simp [*]
      rw [e] at hQ
      exact hQ

theorem m_goAlone {d : Nat} (hd : 6 ≤ d) {σ : am_S} {T : sp_T} (hT : TM_ T σ) (hV : TV_ T) {v : sp_V} (ha : σ.1 164 = v) {b : Int} (hW : VV_ T b v) {p : Nat} (hp : p < nP_ T) {z : Int} (hz : z < T 135 50) (hb9 : b < 1000000) {Q : Option am_V → am_S → Prop} (hQ : ∀ σ', fr_ [143, 144, 164] σ σ' → σ'.1 164 = ga_ T v p z → Q none σ') : am_Ev d 220 [am_R 135, am_I ((p : Nat) : Int), am_I z] σ Q := by
  obtain ⟨d, rfl⟩ : ∃ e, d = e + 1 := ⟨d - 1, by omega⟩
  have h6 := hV.nP
  have hS := hV.nS
  have hl := hW.ln hV hp hz
  have hlp := (hl.2.2 p hp).1
  have hly := hl.1
  refine ev_in (m := 220) (c := k_X9_goAlone) (L := [some (am_R 135), some (am_I ((p : Nat) : Int)), some (am_I z)]) rfl rfl rfl rfl rfl rfl ?_
  refine ax_load (q := 1) rfl rfl rfl rfl rfl ?_
  refine ax_load (q := 2) rfl rfl rfl rfl rfl ?_
  refine ax_load (q := 3) rfl rfl rfl rfl rfl ?_
  refine ax_callv (q := 6) rfl rfl rfl rfl rfl rfl ?_
  refine m_learn (by omega) hT hV ha hW hp hz (fun σ1 hf1 hx1 => ?_)
  refine ax_load (q := 7) rfl rfl rfl rfl rfl ?_
  refine ax_getf (q := 10) (v := am_R 164) rfl rfl (rfl) ?_
  refine ax_load (q := 11) rfl rfl rfl rfl rfl ?_
  refine ax_dup2 (q := 12) rfl rfl rfl rfl ?_
  refine bx_iald (q := 13) (k := p) (z := ln_ T v p z p) rfl rfl (rfl) (by omega) (by omega) (congrFun hx1 _) ?_
  refine ax_const (q := 14) (v := am_I 1) rfl rfl rfl ?_
  refine ax_iadd (q := 15) (z := ln_ T v p z p + 1) rfl rfl (am_we (by omega) (by omega) (by omega)) ?_
  refine bx_iast (q := 16) (k := p) rfl rfl (rfl) (by omega) (by omega) ?_
  refine ax_load (q := 17) rfl rfl rfl rfl rfl ?_
  refine ax_getf (q := 20) (v := am_R 164) rfl rfl (rfl) ?_
  refine ax_const (q := 22) (v := am_I 49) rfl rfl rfl ?_
  refine ax_dup2 (q := 23) rfl rfl rfl rfl ?_
  refine bx_iald (q := 24) (k := 49) (z := ln_ T v p z 49) rfl rfl (rfl) (by omega) (by omega) (by rw [sI_at, am_up_ne (by omega), hx1]) ?_
  refine ax_const (q := 25) (v := am_I 1) rfl rfl rfl ?_
  refine ax_iadd (q := 26) (z := ln_ T v p z 49 + 1) rfl rfl (am_we (by omega) (by omega) (by omega)) ?_
  refine bx_iast (q := 27) (k := 49) rfl rfl (rfl) (by omega) (by omega) ?_
  refine ax_ret (r := none) rfl rfl ?_
  refine hQ _ (fr_sI (fr_sI hf1 (by decide)) (by decide)) ?_
  rw [sI_at, sI_at, hx1]
  rfl
