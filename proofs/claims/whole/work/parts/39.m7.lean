theorem m_isShutNow {d : Nat} (hd : 3 ≤ d) {σ : am_S} {T : sp_T} (hT : TM_ T σ) (hV : TV_ T) {w : sp_V} (hw : σ.1 163 = w) {a : Int} {Q : Option am_V → am_S → Prop} (hQ : Q (some (am_I (if sn_ T w a then 1 else 0))) σ) : am_Ev d 210 [am_R 135, am_I a] σ Q := by
  obtain ⟨d, rfl⟩ : ∃ e, d = e + 1 := ⟨d - 1, by omega⟩
  have h6 := hV.nP
  refine ev_in (m := 210) (c := k_X9_isShutNow) (L := [some (am_R 135), some (am_I a)]) rfl rfl rfl rfl rfl rfl ?_
  refine ax_load (q := 1) rfl rfl rfl rfl rfl ?_
  refine ax_load (q := 2) rfl rfl rfl rfl rfl ?_
  refine ax_callv (q := 5) rfl rfl rfl rfl rfl rfl ?_
  refine m_isPerson (by omega) hT hV ?_
  refine ax_if_eq (q := 8) (x := 25) rfl rfl (fun h5 => ?_) (fun h5 => ?_)
  · have hb5 := it_0 h5
    refine ax_const (q := 26) (v := am_I 0) rfl rfl rfl ?_
    refine ax_ret (r := some (am_I 0)) rfl ⟨rfl, Or.inl rfl⟩ ?_
    have e : sn_ T w a = false := by unfold sn_ sh_; unfold inr_ at *; simp [*] <;> omega
    rw [e] at hQ
    exact hQ
  · have hb5 := it_n0 h5
    obtain ⟨p, rfl, hp⟩ := inr_t hb5
    refine ax_load (q := 9) rfl rfl rfl rfl rfl ?_
    refine ax_getf (q := 12) (v := am_R 163) rfl rfl (rfl) ?_
    refine ax_const (q := 14) (v := am_I 12) rfl rfl rfl ?_
    refine ax_load (q := 15) rfl rfl rfl rfl rfl ?_
    refine ax_iadd (q := 16) (z := ((12 + p : Nat) : Int)) rfl rfl (am_we (by omega) (by omega) (by omega)) ?_
    refine bx_iald (q := 17) (k := 12 + p) (z := w (12 + p)) rfl rfl (rfl) (by omega) (by omega) (congrFun hw _) ?_
    refine ax_const (q := 18) (v := am_I 2) rfl rfl rfl ?_
    refine ax_icmp_ge (q := 21) (x := 25) rfl rfl (fun h18 => ?_) (fun h18 => ?_)
    · refine ax_const (q := 26) (v := am_I 0) rfl rfl rfl ?_
      refine ax_ret (r := some (am_I 0)) rfl ⟨rfl, Or.inl rfl⟩ ?_
      have e : sn_ T w ((p : Nat) : Int) = false := by unfold sn_ sh_; unfold inr_ at *; simp [*] <;> omega
      rw [e] at hQ
      exact hQ
    · refine ax_const (q := 22) (v := am_I 1) rfl rfl rfl ?_
      refine ax_goto (x := 26) rfl ?_
      refine ax_ret (r := some (am_I 1)) rfl ⟨rfl, Or.inr rfl⟩ ?_
      have e : sn_ T w ((p : Nat) : Int) = true := by unfold sn_ sh_; unfold inr_ at *; simp [*] <;> omega
      rw [e] at hQ
      exact hQ

theorem m_person {d : Nat} (hd : 4 ≤ d) {σ : am_S} {T : sp_T} (hT : TM_ T σ) (hV : TV_ T) {b : Int} {w v : sp_V} (hw : σ.1 163 = w) (hv : v = cp_ w (σ.1 164) 50) (hW : VV_ T b w) (hb9 : b ≤ 100000) {a k : Int} {Q : Option am_V → am_S → Prop} (hQ : ∀ σ', fr_ [164] σ σ' → Q (some (am_I (F_person T v a k))) σ') : am_Ev d 200 [am_R 135, am_I a, am_I k] σ Q := by
  obtain ⟨d, rfl⟩ : ∃ e, d = e + 1 := ⟨d - 1, by omega⟩
  have h6 := hV.nP
  have hO := hV.nO
  have hS := hV.nS
  have hR := hV.nR
  have hvw : ∀ j, j < 50 → v j = w j := fun j hj => by rw [hv]; exact cp_at hj
  have hW2 : VV_ T b v := hW.cg hV hvw
  refine ev_in (m := 200) (c := k_X9_person) (L := [some (am_R 135), some (am_I a), some (am_I k)]) rfl rfl rfl rfl rfl rfl ?_
  refine ax_load (q := 1) rfl rfl rfl rfl rfl ?_
  refine ax_load (q := 2) rfl rfl rfl rfl rfl ?_
  refine ax_callv (q := 5) rfl rfl rfl rfl rfl rfl ?_
  refine m_isPerson (by omega) hT hV ?_
  refine ax_if_ne (q := 8) (x := 11) rfl rfl (fun h5 => ?_) (fun h5 => ?_)
  · have hb5 := it_n0 h5
    obtain ⟨p, rfl, hp⟩ := inr_t hb5
    refine ax_load (q := 12) rfl rfl rfl rfl rfl ?_
    refine ax_callv (q := 15) rfl rfl rfl rfl rfl rfl ?_
    refine m_load (by omega) ?_
    rw [hw, ← hv]
    refine ax_load (q := 16) rfl rfl rfl rfl rfl ?_
    by_cases hk : k = 0 ∨ k = 1 ∨ k = 2 ∨ k = 3 ∨ k = 4 ∨ k = 5
    rcases hk with rfl | rfl | rfl | rfl | rfl | rfl
    · refine ax_tsw (q := 56) rfl (by decide) ?_
      refine ax_load (q := 57) rfl rfl rfl rfl rfl ?_
      refine ax_getf (q := 60) (v := am_R 164) rfl rfl (rfl) ?_
      refine ax_load (q := 61) rfl rfl rfl rfl rfl ?_
      refine bx_iald (q := 62) (k := p) (z := v p) rfl rfl (rfl) (by omega) (by omega) (congrFun (sI_at _ _ _) _) ?_
      refine ax_ret (r := some (am_I (v p))) rfl rfl ?_
      refine Eq.mp (congrArg (fun z => Q (some (am_I z)) _) ?_) (hQ _ (fr_sI (fr_rf _ _) (by decide)))
      unfold F_person
      unfold inr_ at *
      simp [*]
    · refine ax_tsw (q := 63) rfl (by decide) ?_
      refine ax_load (q := 64) rfl rfl rfl rfl rfl ?_
      refine ax_getf (q := 67) (v := am_R 164) rfl rfl (rfl) ?_
      refine ax_const (q := 69) (v := am_I 12) rfl rfl rfl ?_
      refine ax_load (q := 70) rfl rfl rfl rfl rfl ?_
      refine ax_iadd (q := 71) (z := ((12 + p : Nat) : Int)) rfl rfl (am_we (by omega) (by omega) (by omega)) ?_
      refine bx_iald (q := 72) (k := 12 + p) (z := v (12 + p)) rfl rfl (rfl) (by omega) (by omega) (congrFun (sI_at _ _ _) _) ?_
      refine ax_ret (r := some (am_I (v (12 + p)))) rfl rfl ?_
      refine Eq.mp (congrArg (fun z => Q (some (am_I z)) _) ?_) (hQ _ (fr_sI (fr_rf _ _) (by decide)))
      unfold F_person
      unfold inr_ at *
      simp [*]
    · refine ax_tsw (q := 73) rfl (by decide) ?_
      refine ax_load (q := 74) rfl rfl rfl rfl rfl ?_
      refine ax_getf (q := 77) (v := am_R 164) rfl rfl (rfl) ?_
      refine ax_const (q := 79) (v := am_I 18) rfl rfl rfl ?_
      refine ax_load (q := 80) rfl rfl rfl rfl rfl ?_
      refine ax_iadd (q := 81) (z := ((18 + p : Nat) : Int)) rfl rfl (am_we (by omega) (by omega) (by omega)) ?_
      refine bx_iald (q := 82) (k := 18 + p) (z := v (18 + p)) rfl rfl (rfl) (by omega) (by omega) (congrFun (sI_at _ _ _) _) ?_
      refine ax_ret (r := some (am_I (v (18 + p)))) rfl rfl ?_
      refine Eq.mp (congrArg (fun z => Q (some (am_I z)) _) ?_) (hQ _ (fr_sI (fr_rf _ _) (by decide)))
      unfold F_person
      unfold inr_ at *
      simp [*]
    · refine ax_tsw (q := 83) rfl (by decide) ?_
      refine ax_load (q := 84) rfl rfl rfl rfl rfl ?_
      refine ax_getf (q := 87) (v := am_R 162) rfl rfl (rfl) ?_
      refine ax_load (q := 88) rfl rfl rfl rfl rfl ?_
      refine bx_iald (q := 89) (k := p) (z := ((pa_ T p : Nat) : Int)) rfl rfl (rfl) (by omega) (by omega) ((congrFun (hT.sI (by decide)).a162 _).trans (hV.pa (by omega)).1) ?_
      refine ax_ret (r := some (am_I ((pa_ T p : Nat) : Int))) rfl rfl ?_
      refine Eq.mp (congrArg (fun z => Q (some (am_I z)) _) ?_) (hQ _ (fr_sI (fr_rf _ _) (by decide)))
      unfold F_person
      unfold inr_ at *
      simp [*]
    · refine ax_tsw (q := 90) rfl (by decide) ?_
      refine ax_load (q := 91) rfl rfl rfl rfl rfl ?_
      refine ax_getf (q := 94) (v := am_R 164) rfl rfl (rfl) ?_
      refine ax_const (q := 96) (v := am_I 6) rfl rfl rfl ?_
      refine ax_load (q := 97) rfl rfl rfl rfl rfl ?_
      refine ax_iadd (q := 98) (z := ((6 + p : Nat) : Int)) rfl rfl (am_we (by omega) (by omega) (by omega)) ?_
      refine bx_iald (q := 99) (k := 6 + p) (z := v (6 + p)) rfl rfl (rfl) (by omega) (by omega) (congrFun (sI_at _ _ _) _) ?_
      refine ax_ret (r := some (am_I (v (6 + p)))) rfl rfl ?_
      refine Eq.mp (congrArg (fun z => Q (some (am_I z)) _) ?_) (hQ _ (fr_sI (fr_rf _ _) (by decide)))
      unfold F_person
      unfold inr_ at *
      simp [*]
    · refine ax_tsw (q := 100) rfl (by decide) ?_
      refine ax_load (q := 101) rfl rfl rfl rfl rfl ?_
      refine ax_load (q := 102) rfl rfl rfl rfl rfl ?_
      refine ax_callv (q := 105) rfl rfl rfl rfl rfl rfl ?_
      refine m_canSet (by omega) (hT.sI (by decide)) hV (sI_at _ _ _) (by omega) ?_
      refine ax_ret (r := some (am_I ((cs_ T v p : Nat) : Int))) rfl rfl ?_
      refine Eq.mp (congrArg (fun z => Q (some (am_I z)) _) ?_) (hQ _ (fr_sI (fr_rf _ _) (by decide)))
      unfold F_person
      unfold inr_ at *
      simp [*]
    · simp only [not_or] at hk
      refine ax_tsw (q := 106) rfl (by unfold am_tsw; rw [if_pos (by omega)]; rfl) ?_
      refine ax_const (q := 108) (v := am_I (-2)) rfl rfl rfl ?_
      refine ax_ret (r := some (am_I (-2))) rfl rfl ?_
      refine Eq.mp (congrArg (fun z => Q (some (am_I z)) _) ?_) (hQ _ (fr_sI (fr_rf _ _) (by decide)))
      unfold F_person
      unfold inr_ at *
      simp [*]
  · have hb5 := it_0 h5
    refine ax_const (q := 10) (v := am_I (-2)) rfl rfl rfl ?_
    refine ax_ret (r := some (am_I (-2))) rfl rfl ?_
    refine Eq.mp (congrArg (fun z => Q (some (am_I z)) _) ?_) (hQ _ (fr_rf _ _))
    unfold F_person
    unfold inr_ at *
    simp [*]

theorem m_level {d : Nat} (hd : 3 ≤ d) {σ : am_S} {T : sp_T} (hT : TM_ T σ) (hV : TV_ T) {b : Int} {w v : sp_V} (hw : σ.1 163 = w) (hv : v = cp_ w (σ.1 164) 50) (hW : VV_ T b w) (hb9 : b ≤ 100000) {a s : Int} {Q : Option am_V → am_S → Prop} (hQ : ∀ σ', fr_ [] σ σ' → Q (some (am_I (F_level T v a s))) σ') : am_Ev d 201 [am_R 135, am_I a, am_I s] σ Q := by
  obtain ⟨d, rfl⟩ : ∃ e, d = e + 1 := ⟨d - 1, by omega⟩
  have h6 := hV.nP
  have hO := hV.nO
  have hS := hV.nS
  have hR := hV.nR
  have hvw : ∀ j, j < 50 → v j = w j := fun j hj => by rw [hv]; exact cp_at hj
  have hW2 : VV_ T b v := hW.cg hV hvw
  refine ev_in (m := 201) (c := k_X9_level) (L := [some (am_R 135), some (am_I a), some (am_I s)]) rfl rfl rfl rfl rfl rfl ?_
  refine ax_load (q := 1) rfl rfl rfl rfl rfl ?_
  refine ax_load (q := 2) rfl rfl rfl rfl rfl ?_
  refine ax_callv (q := 5) rfl rfl rfl rfl rfl rfl ?_
  refine m_isPerson (by omega) hT hV ?_
  refine ax_if_eq (q := 8) (x := 32) rfl rfl (fun h5 => ?_) (fun h5 => ?_)
  · have hb5 := it_0 h5
    refine ax_const (q := 33) (v := am_I (-1)) rfl rfl rfl ?_
    refine ax_ret (r := some (am_I (-1))) rfl rfl ?_
    have e : F_level T v a s = (-1) := by unfold F_level; unfold inr_ at *; simp [*]
    rw [← e]
    exact hQ _ (fr_rf _ _)
  · have hb5 := it_n0 h5
    obtain ⟨p, rfl, hp⟩ := inr_t hb5
    refine ax_load (q := 9) rfl rfl rfl rfl rfl ?_
    refine ax_load (q := 10) rfl rfl rfl rfl rfl ?_
    refine ax_callv (q := 13) rfl rfl rfl rfl rfl rfl ?_
    refine m_isSkill (by omega) hT hV ?_
    refine ax_if_eq (q := 16) (x := 32) rfl rfl (fun h13 => ?_) (fun h13 => ?_)
    · have hb13 := it_0 h13
      refine ax_const (q := 33) (v := am_I (-1)) rfl rfl rfl ?_
      refine ax_ret (r := some (am_I (-1))) rfl rfl ?_
      have e : F_level T v ((p : Nat) : Int) s = (-1) := by unfold F_level; unfold inr_ at *; simp [*]
      rw [← e]
      exact hQ _ (fr_rf _ _)
    · have hb13 := it_n0 h13
      obtain ⟨q, rfl, hq⟩ := inr_t hb13
      refine ax_load (q := 17) rfl rfl rfl rfl rfl ?_
      refine ax_getf (q := 20) (v := am_R 163) rfl rfl (rfl) ?_
      refine ax_const (q := 22) (v := am_I 24) rfl rfl rfl ?_
      refine ax_const (q := 23) (v := am_I 4) rfl rfl rfl ?_
      refine ax_load (q := 24) rfl rfl rfl rfl rfl ?_
      refine ax_imul (q := 25) (z := ((4 * p : Nat) : Int)) rfl rfl (am_we (by omega) (by omega) (by omega)) ?_
      refine ax_iadd (q := 26) (z := ((24 + (4 * p) : Nat) : Int)) rfl rfl (am_we (by omega) (by omega) (by omega)) ?_
      refine ax_load (q := 27) rfl rfl rfl rfl rfl ?_
      refine ax_iadd (q := 28) (z := (((24 + (4 * p)) + q : Nat) : Int)) rfl rfl (am_we (by omega) (by omega) (by omega)) ?_
      refine bx_iald (q := 29) (k := (24 + (4 * p)) + q) (z := v (24 + 4 * p + q)) rfl rfl (rfl) (by omega) (by omega) ((congrFun hw _).trans (hvw _ (by omega)).symm) ?_
      refine ax_goto (x := 33) rfl ?_
      refine ax_ret (r := some (am_I (v (24 + 4 * p + q)))) rfl rfl ?_
      have e : F_level T v ((p : Nat) : Int) ((q : Nat) : Int) = v (24 + 4 * p + q) := by unfold F_level; unfold inr_ at *; simp [*]
      rw [← e]
      exact hQ _ (fr_rf _ _)

theorem m_order {d : Nat} (hd : 3 ≤ d) {σ : am_S} {T : sp_T} (hT : TM_ T σ) (hV : TV_ T) {a k : Int} {Q : Option am_V → am_S → Prop} (hQ : ∀ σ', fr_ [] σ σ' → Q (some (am_I (F_order T a k))) σ') : am_Ev d 202 [am_R 135, am_I a, am_I k] σ Q := by
  obtain ⟨d, rfl⟩ : ∃ e, d = e + 1 := ⟨d - 1, by omega⟩
  have h6 := hV.nP
  have hO := hV.nO
  have hS := hV.nS
  have hR := hV.nR
  refine ev_in (m := 202) (c := k_X9_order) (L := [some (am_R 135), some (am_I a), some (am_I k)]) rfl rfl rfl rfl rfl rfl ?_
  refine ax_load (q := 1) rfl rfl rfl rfl rfl ?_
  refine ax_load (q := 2) rfl rfl rfl rfl rfl ?_
  refine ax_callv (q := 5) rfl rfl rfl rfl rfl rfl ?_
  refine m_isOrder (by omega) hT hV ?_
  refine ax_if_ne (q := 8) (x := 10) rfl rfl (fun h5 => ?_) (fun h5 => ?_)
  · have hb5 := it_n0 h5
    obtain ⟨p, rfl, hp⟩ := inr_t hb5
    refine ax_load (q := 11) rfl rfl rfl rfl rfl ?_
    by_cases hk : k = 0 ∨ k = 1 ∨ k = 2 ∨ k = 3 ∨ k = 4 ∨ k = 5
    rcases hk with rfl | rfl | rfl | rfl | rfl | rfl
    · refine ax_tsw (q := 48) rfl (by decide) ?_
      refine ax_load (q := 49) rfl rfl rfl rfl rfl ?_
      refine ax_getf (q := 52) (v := am_R 151) rfl rfl (rfl) ?_
      refine ax_load (q := 53) rfl rfl rfl rfl rfl ?_
      refine bx_iald (q := 54) (k := p) (z := ((sk_ T p : Nat) : Int)) rfl rfl (rfl) (by omega) (by omega) ((congrFun hT.a151 _).trans (hV.sk (by omega)).1) ?_
      refine ax_ret (r := some (am_I ((sk_ T p : Nat) : Int))) rfl rfl ?_
      refine Eq.mp (congrArg (fun z => Q (some (am_I z)) _) ?_) (hQ _ (fr_rf _ _))
      unfold F_order
      unfold inr_ at *
      simp [*]
    · refine ax_tsw (q := 55) rfl (by decide) ?_
      refine ax_load (q := 56) rfl rfl rfl rfl rfl ?_
      refine ax_getf (q := 59) (v := am_R 152) rfl rfl (rfl) ?_
      refine ax_load (q := 60) rfl rfl rfl rfl rfl ?_
      refine bx_iald (q := 61) (k := p) (z := T 152 p) rfl rfl (rfl) (by omega) (by omega) (congrFun hT.a152 _) ?_
      refine ax_ret (r := some (am_I (T 152 p))) rfl rfl ?_
      refine Eq.mp (congrArg (fun z => Q (some (am_I z)) _) ?_) (hQ _ (fr_rf _ _))
      unfold F_order
      unfold inr_ at *
      simp [*]
    · refine ax_tsw (q := 62) rfl (by decide) ?_
      refine ax_load (q := 63) rfl rfl rfl rfl rfl ?_
      refine ax_getf (q := 66) (v := am_R 153) rfl rfl (rfl) ?_
      refine ax_load (q := 67) rfl rfl rfl rfl rfl ?_
      refine bx_iald (q := 68) (k := p) (z := T 153 p) rfl rfl (rfl) (by omega) (by omega) (congrFun hT.a153 _) ?_
      refine ax_ret (r := some (am_I (T 153 p))) rfl rfl ?_
      refine Eq.mp (congrArg (fun z => Q (some (am_I z)) _) ?_) (hQ _ (fr_rf _ _))
      unfold F_order
      unfold inr_ at *
      simp [*]
    · refine ax_tsw (q := 69) rfl (by decide) ?_
      refine ax_load (q := 70) rfl rfl rfl rfl rfl ?_
      refine ax_getf (q := 73) (v := am_R 154) rfl rfl (rfl) ?_
      refine ax_load (q := 74) rfl rfl rfl rfl rfl ?_
      refine bx_iald (q := 75) (k := p) (z := T 154 p) rfl rfl (rfl) (by omega) (by omega) (congrFun hT.a154 _) ?_
      refine ax_ret (r := some (am_I (T 154 p))) rfl rfl ?_
      refine Eq.mp (congrArg (fun z => Q (some (am_I z)) _) ?_) (hQ _ (fr_rf _ _))
      unfold F_order
      unfold inr_ at *
      simp [*]
    · refine ax_tsw (q := 76) rfl (by decide) ?_
      refine ax_load (q := 77) rfl rfl rfl rfl rfl ?_
      refine ax_getf (q := 80) (v := am_R 155) rfl rfl (rfl) ?_
      refine ax_load (q := 81) rfl rfl rfl rfl rfl ?_
      refine bx_iald (q := 82) (k := p) (z := T 155 p) rfl rfl (rfl) (by omega) (by omega) (congrFun hT.a155 _) ?_
      refine ax_ret (r := some (am_I (T 155 p))) rfl rfl ?_
      refine Eq.mp (congrArg (fun z => Q (some (am_I z)) _) ?_) (hQ _ (fr_rf _ _))
      unfold F_order
      unfold inr_ at *
      simp [*]
    · refine ax_tsw (q := 83) rfl (by decide) ?_
      refine ax_load (q := 84) rfl rfl rfl rfl rfl ?_
      refine ax_getf (q := 87) (v := am_R 156) rfl rfl (rfl) ?_
      refine ax_load (q := 88) rfl rfl rfl rfl rfl ?_
      refine bx_iald (q := 89) (k := p) (z := T 156 p) rfl rfl (rfl) (by omega) (by omega) (congrFun hT.a156 _) ?_
      refine ax_ret (r := some (am_I (T 156 p))) rfl rfl ?_
      refine Eq.mp (congrArg (fun z => Q (some (am_I z)) _) ?_) (hQ _ (fr_rf _ _))
      unfold F_order
      unfold inr_ at *
      simp [*]
    · simp only [not_or] at hk
      refine ax_tsw (q := 90) rfl (by unfold am_tsw; rw [if_pos (by omega)]; rfl) ?_
      refine ax_const (q := 91) (v := am_I (-1)) rfl rfl rfl ?_
      refine ax_ret (r := some (am_I (-1))) rfl rfl ?_
      refine Eq.mp (congrArg (fun z => Q (some (am_I z)) _) ?_) (hQ _ (fr_rf _ _))
      unfold F_order
      unfold inr_ at *
      simp [*]
  · have hb5 := it_0 h5
    refine ax_const (q := 9) (v := am_I (-1)) rfl rfl rfl ?_
    refine ax_ret (r := some (am_I (-1))) rfl rfl ?_
    refine Eq.mp (congrArg (fun z => Q (some (am_I z)) _) ?_) (hQ _ (fr_rf _ _))
    unfold F_order
    unfold inr_ at *
    simp [*]

theorem m_share {d : Nat} (hd : 3 ≤ d) {σ : am_S} {T : sp_T} (hT : TM_ T σ) (hV : TV_ T) {a o : Int} {Q : Option am_V → am_S → Prop} (hQ : ∀ σ', fr_ [] σ σ' → Q (some (am_I (F_share T a o))) σ') : am_Ev d 203 [am_R 135, am_I a, am_I o] σ Q := by
  obtain ⟨d, rfl⟩ : ∃ e, d = e + 1 := ⟨d - 1, by omega⟩
  have h6 := hV.nP
  have hO := hV.nO
  have hS := hV.nS
  have hR := hV.nR
  refine ev_in (m := 203) (c := k_X9_share) (L := [some (am_R 135), some (am_I a), some (am_I o)]) rfl rfl rfl rfl rfl rfl ?_
  refine ax_load (q := 1) rfl rfl rfl rfl rfl ?_
  refine ax_const (q := 2) (v := am_I 0) rfl rfl rfl ?_
  refine ax_load (q := 3) rfl rfl rfl rfl rfl ?_
  refine ax_getf (q := 6) (v := am_I ((nR_ T : Nat) : Int)) rfl rfl (am_fg rfl (hT.s52.trans hV.nR.1)) ?_
  refine ax_const (q := 7) (v := am_I 1) rfl rfl rfl ?_
  refine ax_isub (q := 8) (z := ((nR_ T : Nat) : Int) - 1) rfl rfl (am_we (by omega) (by omega) (by omega)) ?_
  refine ax_calls (q := 11) rfl rfl rfl rfl rfl ?_
  refine m_isIn (by omega) ?_
  rw [show decide (0 ≤ a ∧ a ≤ ((nR_ T : Nat) : Int) - 1) = inr_ (nR_ T) a by unfold inr_; congr 1; apply propext; constructor <;> intro h <;> omega]
  refine ax_if_eq (q := 14) (x := 36) rfl rfl (fun h11 => ?_) (fun h11 => ?_)
  · have hb11 := it_0 h11
    refine ax_const (q := 37) (v := am_I (-1)) rfl rfl rfl ?_
    refine ax_ret (r := some (am_I (-1))) rfl rfl ?_
    have e : F_share T a o = (-1) := by unfold F_share; unfold inr_ at *; simp [*]
    rw [← e]
    exact hQ _ (fr_rf _ _)
  · have hb11 := it_n0 h11
    obtain ⟨p, rfl, hp⟩ := inr_t hb11
    refine ax_load (q := 15) rfl rfl rfl rfl rfl ?_
    refine ax_load (q := 16) rfl rfl rfl rfl rfl ?_
    refine ax_callv (q := 19) rfl rfl rfl rfl rfl rfl ?_
    refine m_isOrder (by omega) hT hV ?_
    refine ax_if_eq (q := 22) (x := 36) rfl rfl (fun h19 => ?_) (fun h19 => ?_)
    · have hb19 := it_0 h19
      refine ax_const (q := 37) (v := am_I (-1)) rfl rfl rfl ?_
      refine ax_ret (r := some (am_I (-1))) rfl rfl ?_
      have e : F_share T ((p : Nat) : Int) o = (-1) := by unfold F_share; unfold inr_ at *; simp [*]
      rw [← e]
      exact hQ _ (fr_rf _ _)
    · have hb19 := it_n0 h19
      obtain ⟨q, rfl, hq⟩ := inr_t hb19
      refine ax_load (q := 23) rfl rfl rfl rfl rfl ?_
      refine ax_getf (q := 26) (v := am_R 158) rfl rfl (rfl) ?_
      refine ax_const (q := 28) (v := am_I 8) rfl rfl rfl ?_
      refine ax_load (q := 29) rfl rfl rfl rfl rfl ?_
      refine ax_imul (q := 30) (z := ((8 * p : Nat) : Int)) rfl rfl (am_we (by omega) (by omega) (by omega)) ?_
      refine ax_load (q := 31) rfl rfl rfl rfl rfl ?_
      refine ax_iadd (q := 32) (z := (((8 * p) + q : Nat) : Int)) rfl rfl (am_we (by omega) (by omega) (by omega)) ?_
      refine bx_iald (q := 33) (k := (8 * p) + q) (z := T 158 ((8 * p) + q)) rfl rfl (rfl) (by omega) (by omega) (congrFun hT.a158 _) ?_
      refine ax_goto (x := 37) rfl ?_
      refine ax_ret (r := some (am_I (T 158 ((8 * p) + q)))) rfl rfl ?_
      have e : F_share T ((p : Nat) : Int) ((q : Nat) : Int) = T 158 ((8 * p) + q) := by unfold F_share; unfold inr_ at *; simp [*]
      rw [← e]
      exact hQ _ (fr_rf _ _)

theorem m_many {d : Nat} (hd : 3 ≤ d) {σ : am_S} {T : sp_T} (hT : TM_ T σ) (hV : TV_ T) {b : Int} {w v : sp_V} (hw : σ.1 163 = w) (hv : v = cp_ w (σ.1 164) 50) (hW : VV_ T b w) (hb9 : b ≤ 100000) {h : Int} {Q : Option am_V → am_S → Prop} (hQ : ∀ σ', fr_ [164] σ σ' → Q (some (am_I (F_many T v h))) σ') : am_Ev d 205 [am_R 135, am_I h] σ Q := by
  obtain ⟨d, rfl⟩ : ∃ e, d = e + 1 := ⟨d - 1, by omega⟩
  have h6 := hV.nP
  have hO := hV.nO
  have hS := hV.nS
  have hR := hV.nR
  have hvw : ∀ j, j < 50 → v j = w j := fun j hj => by rw [hv]; exact cp_at hj
  have hW2 : VV_ T b v := hW.cg hV hvw
  refine ev_in (m := 205) (c := k_X9_many) (L := [some (am_R 135), some (am_I h)]) rfl rfl rfl rfl rfl rfl ?_
  refine ax_load (q := 1) rfl rfl rfl rfl rfl ?_
  refine ax_callv (q := 4) rfl rfl rfl rfl rfl rfl ?_
  refine m_load (by omega) ?_
  rw [hw, ← hv]
  refine ax_load (q := 5) rfl rfl rfl rfl rfl ?_
  refine ax_const (q := 6) (v := am_I 0) rfl rfl rfl ?_
  refine ax_const (q := 7) (v := am_I 4) rfl rfl rfl ?_
  refine ax_calls (q := 10) rfl rfl rfl rfl rfl ?_
  refine m_isIn (by omega) ?_
  refine ax_if_eq (q := 13) (x := 21) rfl rfl (fun h10 => ?_) (fun h10 => ?_)
  · have hb10 := it_0 h10
    refine ax_const (q := 22) (v := am_I (-1)) rfl rfl rfl ?_
    refine ax_ret (r := some (am_I (-1))) rfl rfl ?_
    have e : F_many T v h = (-1) := by unfold F_many; unfold inr_ at *; simp [*]
    rw [← e]
    exact hQ _ (fr_sI (fr_rf _ _) (by decide))
  · have hb10 := it_n0 h10
    refine ax_load (q := 14) rfl rfl rfl rfl rfl ?_
    refine ax_load (q := 15) rfl rfl rfl rfl rfl ?_
    refine ax_callv (q := 18) rfl rfl rfl rfl rfl rfl ?_
    refine m_manyOf (by omega) (hT.sI (by decide)) hV (sI_at _ _ _) ?_
    refine ax_goto (x := 22) rfl ?_
    refine ax_ret (r := some (am_I ((mo_ T v h : Nat) : Int))) rfl rfl ?_
    have e : F_many T v h = ((mo_ T v h : Nat) : Int) := by unfold F_many; unfold inr_ at *; simp [*]
    rw [← e]
    exact hQ _ (fr_sI (fr_rf _ _) (by decide))

theorem l_able {d : Nat} (hd : 2 ≤ d) {σ : am_S} {T : sp_T} (hT : TM_ T σ) (hV : TV_ T) {v : sp_V} (ha : σ.1 164 = v) {o : Nat} (ho : o < nO_ T) {Q : Option am_V → am_S → Prop} (hQ : Q (some (am_I ((bi_ (nP_ T) (fun p => sh_ v p && cn_ T v p o) : Nat) : Int))) σ) : ∀ (m k : Nat), k + m = nP_ T → aW d 0 k_X9_able Q 18 [some (am_R 135), some (am_I ((o : Nat) : Int)), some (am_I ((bi_ k (fun p => sh_ v p && cn_ T v p o) : Nat) : Int)), some (am_I ((k : Nat) : Int))] [] σ := by
  have hn := hV.nP
  intro m
  induction m with
  | zero =>
    intro k hk
    obtain rfl : k = nP_ T := by omega
    refine ax_load (q := 19) rfl rfl rfl rfl rfl ?_
    refine ax_load (q := 20) rfl rfl rfl rfl rfl ?_
    refine ax_getf (q := 23) (v := am_I ((nP_ T : Nat) : Int)) rfl rfl (am_fg rfl (hT.s53.trans hV.nP.1)) ?_
    refine ax_icmp_ge (q := 26) (x := 62) rfl rfl (fun h23 => ?_) (fun h => absurd h (by omega))
    refine ax_load (q := 63) rfl rfl rfl rfl rfl ?_
    refine ax_ret (r := some (am_I ((bi_ (nP_ T) (fun p => sh_ v p && cn_ T v p o) : Nat) : Int))) rfl rfl ?_
    exact hQ
  | succ m ih =>
    intro k hk
    refine ax_load (q := 19) rfl rfl rfl rfl rfl ?_
    refine ax_load (q := 20) rfl rfl rfl rfl rfl ?_
    refine ax_getf (q := 23) (v := am_I ((nP_ T : Nat) : Int)) rfl rfl (am_fg rfl (hT.s53.trans hV.nP.1)) ?_
    refine ax_icmp_ge (q := 26) (x := 62) rfl rfl (fun h => absurd h (by omega)) (fun h23 => ?_)
    refine ax_load (q := 27) rfl rfl rfl rfl rfl ?_
    refine ax_load (q := 28) rfl rfl rfl rfl rfl ?_
    refine ax_load (q := 29) rfl rfl rfl rfl rfl ?_
    refine ax_callv (q := 32) rfl rfl rfl rfl rfl rfl ?_
    refine m_isShut (by omega) ha (by omega) ?_
    refine ax_if_eq (q := 35) (x := 48) rfl rfl (fun h32 => ?_) (fun h32 => ?_)
    · have hb32 := it_0 h32
      refine ax_const (q := 49) (v := am_I 0) rfl rfl rfl ?_
      refine ax_calls (q := 52) rfl rfl rfl rfl rfl ?_
      refine m_truthz (by omega) (Or.inl rfl) ?_
      refine ax_load (q := 53) rfl rfl rfl rfl rfl ?_
      refine ax_ishl (q := 54) (z := am_shl 0 (k : Int)) rfl rfl (rfl) ?_
      refine ax_ior (q := 55) (z := ((bi_ (k + 1) (fun p => sh_ v p && cn_ T v p o) : Nat) : Int)) rfl rfl ((congrArg (fun z => am_or _ (am_shl z _)) (by simp [*] : (0 : Int) = if (fun p => sh_ v p && cn_ T v p o) k then 1 else 0)).trans (am_or_bi (fun p => sh_ v p && cn_ T v p o) (by omega))) ?_
      refine ax_store (q := 56) (L' := [some (am_R 135), some (am_I ((o : Nat) : Int)), some (am_I ((bi_ (k + 1) (fun p => sh_ v p && cn_ T v p o) : Nat) : Int)), some (am_I ((k : Nat) : Int))]) rfl rfl rfl rfl rfl rfl ?_
      refine ax_iinc (q := 59) (z' := ((k + 1 : Nat) : Int)) (L' := [some (am_R 135), some (am_I ((o : Nat) : Int)), some (am_I ((bi_ (k + 1) (fun p => sh_ v p && cn_ T v p o) : Nat) : Int)), some (am_I ((k + 1 : Nat) : Int))]) rfl rfl rfl rfl (am_we (by omega) (by omega) (by omega)) rfl ?_
      refine ax_goto (x := 18) rfl ?_
      exact ih (k + 1) (by omega)
    · have hb32 := it_n0 h32
      refine ax_load (q := 36) rfl rfl rfl rfl rfl ?_
      refine ax_load (q := 37) rfl rfl rfl rfl rfl ?_
      refine ax_load (q := 38) rfl rfl rfl rfl rfl ?_
      refine ax_callv (q := 41) rfl rfl rfl rfl rfl rfl ?_
      refine m_can (by omega) hT hV ha (by omega) ho ?_
      refine ax_if_eq (q := 44) (x := 48) rfl rfl (fun h41 => ?_) (fun h41 => ?_)
      · have hb41 := it_0 h41
        refine ax_const (q := 49) (v := am_I 0) rfl rfl rfl ?_
        refine ax_calls (q := 52) rfl rfl rfl rfl rfl ?_
        refine m_truthz (by omega) (Or.inl rfl) ?_
        refine ax_load (q := 53) rfl rfl rfl rfl rfl ?_
        refine ax_ishl (q := 54) (z := am_shl 0 (k : Int)) rfl rfl (rfl) ?_
        refine ax_ior (q := 55) (z := ((bi_ (k + 1) (fun p => sh_ v p && cn_ T v p o) : Nat) : Int)) rfl rfl ((congrArg (fun z => am_or _ (am_shl z _)) (by simp [*] : (0 : Int) = if (fun p => sh_ v p && cn_ T v p o) k then 1 else 0)).trans (am_or_bi (fun p => sh_ v p && cn_ T v p o) (by omega))) ?_
        refine ax_store (q := 56) (L' := [some (am_R 135), some (am_I ((o : Nat) : Int)), some (am_I ((bi_ (k + 1) (fun p => sh_ v p && cn_ T v p o) : Nat) : Int)), some (am_I ((k : Nat) : Int))]) rfl rfl rfl rfl rfl rfl ?_
        refine ax_iinc (q := 59) (z' := ((k + 1 : Nat) : Int)) (L' := [some (am_R 135), some (am_I ((o : Nat) : Int)), some (am_I ((bi_ (k + 1) (fun p => sh_ v p && cn_ T v p o) : Nat) : Int)), some (am_I ((k + 1 : Nat) : Int))]) rfl rfl rfl rfl (am_we (by omega) (by omega) (by omega)) rfl ?_
        refine ax_goto (x := 18) rfl ?_
        exact ih (k + 1) (by omega)
      · have hb41 := it_n0 h41
        refine ax_const (q := 45) (v := am_I 1) rfl rfl rfl ?_
        refine ax_goto (x := 49) rfl ?_
        refine ax_calls (q := 52) rfl rfl rfl rfl rfl ?_
        refine m_truthz (by omega) (Or.inr rfl) ?_
        refine ax_load (q := 53) rfl rfl rfl rfl rfl ?_
        refine ax_ishl (q := 54) (z := am_shl 1 (k : Int)) rfl rfl (rfl) ?_
        refine ax_ior (q := 55) (z := ((bi_ (k + 1) (fun p => sh_ v p && cn_ T v p o) : Nat) : Int)) rfl rfl ((congrArg (fun z => am_or _ (am_shl z _)) (by simp [*] : (1 : Int) = if (fun p => sh_ v p && cn_ T v p o) k then 1 else 0)).trans (am_or_bi (fun p => sh_ v p && cn_ T v p o) (by omega))) ?_
        refine ax_store (q := 56) (L' := [some (am_R 135), some (am_I ((o : Nat) : Int)), some (am_I ((bi_ (k + 1) (fun p => sh_ v p && cn_ T v p o) : Nat) : Int)), some (am_I ((k : Nat) : Int))]) rfl rfl rfl rfl rfl rfl ?_
        refine ax_iinc (q := 59) (z' := ((k + 1 : Nat) : Int)) (L' := [some (am_R 135), some (am_I ((o : Nat) : Int)), some (am_I ((bi_ (k + 1) (fun p => sh_ v p && cn_ T v p o) : Nat) : Int)), some (am_I ((k + 1 : Nat) : Int))]) rfl rfl rfl rfl (am_we (by omega) (by omega) (by omega)) rfl ?_
        refine ax_goto (x := 18) rfl ?_
        exact ih (k + 1) (by omega)

theorem m_able {d : Nat} (hd : 4 ≤ d) {σ : am_S} {T : sp_T} (hT : TM_ T σ) (hV : TV_ T) {b : Int} {w v : sp_V} (hw : σ.1 163 = w) (hv : v = cp_ w (σ.1 164) 50) (hW : VV_ T b w) (hb9 : b ≤ 100000) {a : Int} {Q : Option am_V → am_S → Prop} (hQ : ∀ σ', fr_ [164] σ σ' → Q (some (am_I (F_able T v a))) σ') : am_Ev d 228 [am_R 135, am_I a] σ Q := by
  obtain ⟨d, rfl⟩ : ∃ e, d = e + 1 := ⟨d - 1, by omega⟩
  have h6 := hV.nP
  have hO := hV.nO
  have hS := hV.nS
  have hR := hV.nR
  have hvw : ∀ j, j < 50 → v j = w j := fun j hj => by rw [hv]; exact cp_at hj
  have hW2 : VV_ T b v := hW.cg hV hvw
  refine ev_in (m := 228) (c := k_X9_able) (L := [some (am_R 135), some (am_I a), none, none]) rfl rfl rfl rfl rfl rfl ?_
  refine ax_load (q := 1) rfl rfl rfl rfl rfl ?_
  refine ax_load (q := 2) rfl rfl rfl rfl rfl ?_
  refine ax_callv (q := 5) rfl rfl rfl rfl rfl rfl ?_
  refine m_isOrder (by omega) hT hV ?_
  refine ax_if_ne (q := 8) (x := 10) rfl rfl (fun h5 => ?_) (fun h5 => ?_)
  · have hb5 := it_n0 h5
    obtain ⟨o, rfl, ho⟩ := inr_t hb5
    refine ax_load (q := 11) rfl rfl rfl rfl rfl ?_
    refine ax_callv (q := 14) rfl rfl rfl rfl rfl rfl ?_
    refine m_load (by omega) ?_
    rw [hw, ← hv]
    refine ax_const (q := 15) (v := am_I 0) rfl rfl rfl ?_
    refine ax_store (q := 16) (L' := [some (am_R 135), some (am_I ((o : Nat) : Int)), some (am_I 0), none]) rfl rfl rfl rfl rfl rfl ?_
    refine ax_const (q := 17) (v := am_I 0) rfl rfl rfl ?_
    refine ax_store (q := 18) (L' := [some (am_R 135), some (am_I ((o : Nat) : Int)), some (am_I 0), some (am_I 0)]) rfl rfl rfl rfl rfl rfl ?_
    have e : F_able T v (o : Int) = ((bi_ (nP_ T) (fun p => sh_ v p && cn_ T v p o) : Nat) : Int) := by unfold F_able; unfold inr_ at *; simp [*]
    exact l_able (by omega) (hT.sI (by decide)) hV (sI_at _ _ _) ho (by rw [← e]; exact hQ _ (fr_sI (fr_rf _ _) (by decide))) (nP_ T) 0 (by omega)
  · have hb5 := it_0 h5
    refine ax_const (q := 9) (v := am_I (-1)) rfl rfl rfl ?_
    refine ax_ret (r := some (am_I (-1))) rfl rfl ?_
    have e : F_able T v a = (-1) := by unfold F_able; unfold inr_ at *; simp [*]
    rw [← e]
    exact hQ _ (fr_rf _ _)

theorem l_odds {d : Nat} (hd : 6 ≤ d) {σ : am_S} {T : sp_T} (hT : TM_ T σ) (hV : TV_ T) {b : Int} {v : sp_V} (hW : VV_ T b v) (hb9 : b ≤ 100000) {p : Nat} (hp : p < nP_ T) {z : Int} (hz : z < T 135 50) {c : Int} (hzv : v (18 + p) = z) {Q : Option am_V → am_S → Prop} {N : Nat} (hN : N ≤ 100) (hQ : ∀ σ', fr_ [143, 144, 164] σ σ' → σ'.1 164 = gz_ T v p z N → aW d 0 k_X9_odds Q 53 [some (am_R 135), some (am_I ((p : Nat) : Int)), some (am_I c), some (am_I ((0 : Nat) : Int)), none, none] [] σ') : ∀ (k n : Nat) σ', fr_ [143, 144, 164] σ σ' → σ'.1 164 = gz_ T v p z n → n + k = N → aW d 0 k_X9_odds Q 29 [some (am_R 135), some (am_I ((p : Nat) : Int)), some (am_I c), some (am_I ((k : Nat) : Int)), none, none] [] σ' := by
  have h6 := hV.nP
  intro k
  induction k with
  | zero =>
    intro n σ' hf hx hn
    obtain rfl : n = N := by omega
    refine ax_load (q := 30) rfl rfl rfl rfl rfl ?_
    refine ax_if_le (q := 33) (x := 53) rfl rfl (fun h30 => ?_) (fun h => absurd h (by omega))
    exact hQ σ' hf hx
  | succ k ih =>
    intro n σ' hf hx hn
    refine ax_load (q := 30) rfl rfl rfl rfl rfl ?_
    refine ax_if_le (q := 33) (x := 53) rfl rfl (fun h => absurd h (by omega)) (fun h30 => ?_)
    refine ax_load (q := 34) rfl rfl rfl rfl rfl ?_
    refine ax_load (q := 35) rfl rfl rfl rfl rfl ?_
    refine ax_load (q := 36) rfl rfl rfl rfl rfl ?_
    refine ax_getf (q := 39) (v := am_R 164) rfl rfl (rfl) ?_
    refine ax_const (q := 41) (v := am_I 18) rfl rfl rfl ?_
    refine ax_load (q := 42) rfl rfl rfl rfl rfl ?_
    refine ax_iadd (q := 43) (z := ((18 + p : Nat) : Int)) rfl rfl (am_we (by omega) (by omega) (by omega)) ?_
    refine bx_iald (q := 44) (k := 18 + p) (z := z) rfl rfl (rfl) (by omega) (by omega) ((congrFun hx _).trans ((gz_ne hV (by omega) hz (by omega) (by omega) (by omega) n).trans hzv)) ?_
    refine ax_callv (q := 47) rfl rfl rfl rfl rfl rfl ?_
    refine m_goAlone (by omega) (hT.fr hf (by decide)) hV hx (hW.gz hV hp hz n) hp hz (by omega) (fun σ1 hf1 hx1 => ?_)
    refine ax_iinc (q := 50) (z' := ((k : Nat) : Int)) (L' := [some (am_R 135), some (am_I ((p : Nat) : Int)), some (am_I c), some (am_I ((k : Nat) : Int)), none, none]) rfl rfl rfl rfl (am_we (by omega) (by omega) (by omega)) rfl ?_
    refine ax_goto (x := 29) rfl ?_
    exact ih (n + 1) σ1 (fr_tr hf hf1 (fun a h => h)) hx1 (by omega)

theorem l_hope {d : Nat} (hd : 6 ≤ d) {σ : am_S} {T : sp_T} (hT : TM_ T σ) (hV : TV_ T) {b : Int} {v : sp_V} (hW : VV_ T b v) (hb9 : b ≤ 100000) {p : Nat} (hp : p < nP_ T) {z : Int} (hz : z < T 135 50) {c : Int} (hzv : v (18 + p) = z) {Q : Option am_V → am_S → Prop} {N : Nat} (hN : N ≤ 100) (hQ : ∀ σ', fr_ [143, 144, 164] σ σ' → σ'.1 164 = gz_ T v p z N → aW d 0 k_X9_hope Q 53 [some (am_R 135), some (am_I ((p : Nat) : Int)), some (am_I c), some (am_I ((0 : Nat) : Int)), none, none] [] σ') : ∀ (k n : Nat) σ', fr_ [143, 144, 164] σ σ' → σ'.1 164 = gz_ T v p z n → n + k = N → aW d 0 k_X9_hope Q 29 [some (am_R 135), some (am_I ((p : Nat) : Int)), some (am_I c), some (am_I ((k : Nat) : Int)), none, none] [] σ' := by
  have h6 := hV.nP
  intro k
  induction k with
  | zero =>
    intro n σ' hf hx hn
    obtain rfl : n = N := by omega
    refine ax_load (q := 30) rfl rfl rfl rfl rfl ?_
    refine ax_if_le (q := 33) (x := 53) rfl rfl (fun h30 => ?_) (fun h => absurd h (by omega))
    exact hQ σ' hf hx
  | succ k ih =>
    intro n σ' hf hx hn
    refine ax_load (q := 30) rfl rfl rfl rfl rfl ?_
    refine ax_if_le (q := 33) (x := 53) rfl rfl (fun h => absurd h (by omega)) (fun h30 => ?_)
    refine ax_load (q := 34) rfl rfl rfl rfl rfl ?_
    refine ax_load (q := 35) rfl rfl rfl rfl rfl ?_
    refine ax_load (q := 36) rfl rfl rfl rfl rfl ?_
    refine ax_getf (q := 39) (v := am_R 164) rfl rfl (rfl) ?_
    refine ax_const (q := 41) (v := am_I 18) rfl rfl rfl ?_
    refine ax_load (q := 42) rfl rfl rfl rfl rfl ?_
    refine ax_iadd (q := 43) (z := ((18 + p : Nat) : Int)) rfl rfl (am_we (by omega) (by omega) (by omega)) ?_
    refine bx_iald (q := 44) (k := 18 + p) (z := z) rfl rfl (rfl) (by omega) (by omega) ((congrFun hx _).trans ((gz_ne hV (by omega) hz (by omega) (by omega) (by omega) n).trans hzv)) ?_
    refine ax_callv (q := 47) rfl rfl rfl rfl rfl rfl ?_
    refine m_goAlone (by omega) (hT.fr hf (by decide)) hV hx (hW.gz hV hp hz n) hp hz (by omega) (fun σ1 hf1 hx1 => ?_)
    refine ax_iinc (q := 50) (z' := ((k : Nat) : Int)) (L' := [some (am_R 135), some (am_I ((p : Nat) : Int)), some (am_I c), some (am_I ((k : Nat) : Int)), none, none]) rfl rfl rfl rfl (am_we (by omega) (by omega) (by omega)) rfl ?_
    refine ax_goto (x := 29) rfl ?_
    exact ih (n + 1) σ1 (fr_tr hf hf1 (fun a h => h)) hx1 (by omega)

theorem l_common {d : Nat} {σ : am_S} {a0 b0 : Nat} {r : Option am_V} : ∀ (m : Nat) (x y : Nat) (o4 : Option am_V) {Q : Option am_V → am_S → Prop}, y ≤ m → x < 100000 → y < 100000 → (hQ : Q (some (am_I ((Nat.gcd x y : Nat) : Int))) σ) → aW d 0 k_X9_common Q 4 [some (am_I ((a0 : Nat) : Int)), some (am_I ((b0 : Nat) : Int)), some (am_I ((x : Nat) : Int)), some (am_I ((y : Nat) : Int)), o4] [] σ := by
  intro m
  induction m with
  | zero =>
    intro x y o4 Q hy hx hy2 hQ
    obtain rfl : y = 0 := by omega
    refine ax_load (q := 5) rfl rfl rfl rfl rfl ?_
    refine ax_if_le (q := 8) (x := 21) rfl rfl (fun h5 => ?_) (fun h => absurd h (by omega))
    refine ax_load (q := 22) rfl rfl rfl rfl rfl ?_
    refine ax_ret (r := some (am_I ((x : Nat) : Int))) rfl rfl ?_
    rw [Nat.gcd_zero_right] at hQ
    exact hQ
  | succ m ih =>
    intro x y o4 Q hy hx hy2 hQ
    by_cases h0 : y = 0
    · subst h0
      refine ax_load (q := 5) rfl rfl rfl rfl rfl ?_
      refine ax_if_le (q := 8) (x := 21) rfl rfl (fun h5 => ?_) (fun h => absurd h (by omega))
      refine ax_load (q := 22) rfl rfl rfl rfl rfl ?_
      refine ax_ret (r := some (am_I ((x : Nat) : Int))) rfl rfl ?_
      rw [Nat.gcd_zero_right] at hQ
      exact hQ
    · refine ax_load (q := 5) rfl rfl rfl rfl rfl ?_
      refine ax_if_le (q := 8) (x := 21) rfl rfl (fun h => absurd h (by omega)) (fun h5 => ?_)
      refine ax_load (q := 9) rfl rfl rfl rfl rfl ?_
      refine ax_load (q := 10) rfl rfl rfl rfl rfl ?_
      refine ax_irem (q := 11) (z := ((x % y : Nat) : Int)) rfl rfl (by omega) (am_rem_nat (by omega) (by omega) (by omega)) ?_
      refine ax_store (q := 13) (L' := [some (am_I ((a0 : Nat) : Int)), some (am_I ((b0 : Nat) : Int)), some (am_I ((x : Nat) : Int)), some (am_I ((y : Nat) : Int)), some (am_I ((x % y : Nat) : Int))]) rfl rfl rfl rfl rfl rfl ?_
      refine ax_load (q := 14) rfl rfl rfl rfl rfl ?_
      refine ax_store (q := 15) (L' := [some (am_I ((a0 : Nat) : Int)), some (am_I ((b0 : Nat) : Int)), some (am_I ((y : Nat) : Int)), some (am_I ((y : Nat) : Int)), some (am_I ((x % y : Nat) : Int))]) rfl rfl rfl rfl rfl rfl ?_
      refine ax_load (q := 17) rfl rfl rfl rfl rfl ?_
      refine ax_store (q := 18) (L' := [some (am_I ((a0 : Nat) : Int)), some (am_I ((b0 : Nat) : Int)), some (am_I ((y : Nat) : Int)), some (am_I ((x % y : Nat) : Int)), some (am_I ((x % y : Nat) : Int))]) rfl rfl rfl rfl rfl rfl ?_
      refine ax_goto (x := 4) rfl ?_
      have hl : x % y < y := Nat.mod_lt _ (by omega)
      refine ih y (x % y) _ (by omega) (by omega) (by omega) ?_
      rw [Nat.gcd_comm, ← Nat.gcd_rec, Nat.gcd_comm] 
      exact hQ

theorem m_common {d : Nat} (hd : 1 ≤ d) {σ : am_S} {x y : Nat} (hx : x < 100000) (hy : y < 100000) {Q : Option am_V → am_S → Prop} (hQ : Q (some (am_I ((Nat.gcd x y : Nat) : Int))) σ) : am_Ev d 224 [am_I ((x : Nat) : Int), am_I ((y : Nat) : Int)] σ Q := by
  obtain ⟨d, rfl⟩ : ∃ e, d = e + 1 := ⟨d - 1, by omega⟩
  refine ev_in (m := 224) (c := k_X9_common) (L := [some (am_I ((x : Nat) : Int)), some (am_I ((y : Nat) : Int)), none, none, none]) rfl rfl rfl rfl rfl rfl ?_
  refine ax_load (q := 1) rfl rfl rfl rfl rfl ?_
  refine ax_store (q := 2) (L' := [some (am_I ((x : Nat) : Int)), some (am_I ((y : Nat) : Int)), some (am_I ((x : Nat) : Int)), none, none]) rfl rfl rfl rfl rfl rfl ?_
  refine ax_load (q := 3) rfl rfl rfl rfl rfl ?_
  refine ax_store (q := 4) (L' := [some (am_I ((x : Nat) : Int)), some (am_I ((y : Nat) : Int)), some (am_I ((x : Nat) : Int)), some (am_I ((y : Nat) : Int)), none]) rfl rfl rfl rfl rfl rfl ?_
  exact l_common (r := none) y x y none (Nat.le_refl _) hx hy hQ

theorem m_odds {d : Nat} (hd : 7 ≤ d) {σ : am_S} {T : sp_T} (hT : TM_ T σ) (hV : TV_ T) {b : Int} {w v : sp_V} (hw : σ.1 163 = w) (hv : v = cp_ w (σ.1 164) 50) (hW : VV_ T b w) (hb9 : b ≤ 100000) {a k : Int} {Q : Option am_V → am_S → Prop} (hQ : ∀ σ', fr_ [143, 144, 164] σ σ' → Q (some (am_I (F_odds T v a k))) σ') : am_Ev d 225 [am_R 135, am_I a, am_I k] σ Q := by
  obtain ⟨d, rfl⟩ : ∃ e, d = e + 1 := ⟨d - 1, by omega⟩
  have h6 := hV.nP
  have hO := hV.nO
  have hS := hV.nS
  have hR := hV.nR
  have hvw : ∀ j, j < 50 → v j = w j := fun j hj => by rw [hv]; exact cp_at hj
  have hW2 : VV_ T b v := hW.cg hV hvw
  refine ev_in (m := 225) (c := k_X9_odds) (L := [some (am_R 135), some (am_I a), some (am_I k), none, none, none]) rfl rfl rfl rfl rfl rfl ?_
  refine ax_load (q := 1) rfl rfl rfl rfl rfl ?_
  refine ax_load (q := 2) rfl rfl rfl rfl rfl ?_
  refine ax_callv (q := 5) rfl rfl rfl rfl rfl rfl ?_
  refine m_isShutNow (by omega) hT hV hw ?_
  rw [← sn_cg hV hvw]
  refine ax_if_eq (q := 8) (x := 17) rfl rfl (fun h5 => ?_) (fun h5 => ?_)
  · have hb5 := it_0 h5
    refine ax_const (q := 18) (v := am_I (-1)) rfl rfl rfl ?_
    refine ax_ret (r := some (am_I (-1))) rfl rfl ?_
    have e : F_odds T v a k = -1 := by unfold F_odds; first | (rw [hb5, Bool.false_and]; rfl) | (rw [hb14, Bool.and_false]; rfl)
    rw [← e]
    exact hQ _ (fr_rf _ _)
  · have hb5 := it_n0 h5
    obtain ⟨p, rfl, hp, hsp⟩ := sn_t hb5
    refine ax_load (q := 9) rfl rfl rfl rfl rfl ?_
    refine ax_const (q := 10) (v := am_I 0) rfl rfl rfl ?_
    refine ax_const (q := 11) (v := am_I 1) rfl rfl rfl ?_
    refine ax_calls (q := 14) rfl rfl rfl rfl rfl ?_
    refine m_isIn (by omega) ?_
    refine ax_if_ne (q := 17) (x := 19) rfl rfl (fun h14 => ?_) (fun h14 => ?_)
    · have hb14 := it_n0 h14
      refine ax_load (q := 20) rfl rfl rfl rfl rfl ?_
      refine ax_callv (q := 23) rfl rfl rfl rfl rfl rfl ?_
      refine m_load (by omega) ?_
      rw [hw, ← hv]
      refine ax_load (q := 24) rfl rfl rfl rfl rfl ?_
      refine ax_load (q := 25) rfl rfl rfl rfl rfl ?_
      refine ax_callv (q := 28) rfl rfl rfl rfl rfl rfl ?_
      refine m_yearsLeft (by omega) (hT.sI (by decide)) hV (w := w) ((sI_ne (by decide)).trans hw) (by omega) (by have := (hW.2.2 p hp).1; omega) ?_
      refine ax_store (q := 29) (L' := [some (am_R 135), some (am_I ((p : Nat) : Int)), some (am_I k), some (am_I ((yf_ T w p : Nat) : Int)), none, none]) rfl rfl rfl rfl rfl rfl ?_
      have hz : v (18 + p) < T 135 50 := (hW2.2.2 p hp).2.2.2.1.2
      have hyv := yf_bd hV hW2 hp
      have hyw : yf_ T w p = yf_ T v p := yf_cg (hvw p (by omega)).symm
      rw [hyw]
      obtain ⟨u, hu⟩ : ∃ u, u = gz_ T v p (v (18 + p)) (yf_ T v p) := ⟨_, rfl⟩
      refine l_odds (by omega) (hT.sI (by decide)) hV hW2 hb9 hp hz (c := k) rfl (N := yf_ T v p) (by omega) (fun σ1 hf1 hx1 => ?_) (yf_ T v p) 0 _ (fr_rf _ _) (sI_at _ _ _) (by omega)
      have hT1 : TM_ T σ1 := TM_.fr (hT.sI (by decide)) hf1 (by decide)
      rw [← hu] at hx1
      have hWu : VV_ T (b + (yf_ T v p : Nat)) u := by rw [hu]; exact hW2.gz hV hp hz _
      refine ax_load (q := 54) rfl rfl rfl rfl rfl ?_
      refine ax_load (q := 55) rfl rfl rfl rfl rfl ?_
      refine ax_callv (q := 58) rfl rfl rfl rfl rfl rfl ?_
      refine m_partsAll (by omega) hT1 hV hx1 hp ?_
      have hpl := pl_bd hV hp (v := u)
      obtain ⟨x, hxe⟩ : ∃ x : Nat, pl_ T u p = (x : Int) := ⟨(pl_ T u p).toNat, by omega⟩
      rw [hxe]
      refine ax_store (q := 59) (L' := [some (am_R 135), some (am_I ((p : Nat) : Int)), some (am_I k), some (am_I ((x : Nat) : Int)), none, none]) rfl rfl rfl rfl rfl rfl ?_
      refine ax_load (q := 60) rfl rfl rfl rfl rfl ?_
      refine ax_load (q := 61) rfl rfl rfl rfl rfl ?_
      refine ax_callv (q := 64) rfl rfl rfl rfl rfl rfl ?_
      refine m_partsOf (by omega) hT1 hV hx1 hWu hp ?_
      have hpo := po_bd hV hp (v := u)
      obtain ⟨y, hye⟩ : ∃ y : Nat, po_ T u p = (y : Int) := ⟨(po_ T u p).toNat, by omega⟩
      rw [hye]
      refine ax_store (q := 66) (L' := [some (am_R 135), some (am_I ((p : Nat) : Int)), some (am_I k), some (am_I ((x : Nat) : Int)), some (am_I ((y : Nat) : Int)), none]) rfl rfl rfl rfl rfl rfl ?_
      refine ax_load (q := 67) rfl rfl rfl rfl rfl ?_
      refine ax_load (q := 69) rfl rfl rfl rfl rfl ?_
      refine ax_calls (q := 72) rfl rfl rfl rfl rfl ?_
      refine m_common (by omega) (by omega) (by omega) ?_
      have hg0 : 0 < Nat.gcd x y := Nat.gcd_pos_of_pos_left _ (by omega)
      have hg1 : Nat.gcd x y ≤ x := Nat.gcd_le_left _ (by omega)
      refine ax_store (q := 74) (L' := [some (am_R 135), some (am_I ((p : Nat) : Int)), some (am_I k), some (am_I ((x : Nat) : Int)), some (am_I ((y : Nat) : Int)), some (am_I ((Nat.gcd x y : Nat) : Int))]) rfl rfl rfl rfl rfl rfl ?_
      refine ax_load (q := 75) rfl rfl rfl rfl rfl ?_
      refine ax_if_ne (q := 78) (x := 86) rfl rfl (fun h75 => ?_) (fun h75 => ?_)
      · refine ax_load (q := 87) rfl rfl rfl rfl rfl ?_
        refine ax_load (q := 89) rfl rfl rfl rfl rfl ?_
        refine ax_idiv (q := 90) (z := ((x / Nat.gcd x y : Nat) : Int)) rfl rfl (by omega) (am_div_nat (by omega) (by omega) (by omega)) ?_
        refine ax_ret (r := some (am_I ((x / Nat.gcd x y : Nat) : Int))) rfl rfl ?_
        have e : F_odds T v (p : Int) k = ((x / Nat.gcd x y : Nat) : Int) := by rw [F_odds_u hb5 (by simpa using hb14) hu, hxe, hye]; unfold gcd_; simp [*]
        rw [← e]
        exact hQ _ (fr_tr (l := [143, 144, 164]) (fr_sI (fr_rf _ _) (by decide)) hf1 (fun a h => h))
      · refine ax_load (q := 80) rfl rfl rfl rfl rfl ?_
        refine ax_load (q := 82) rfl rfl rfl rfl rfl ?_
        refine ax_idiv (q := 83) (z := ((y / Nat.gcd x y : Nat) : Int)) rfl rfl (by omega) (am_div_nat (by omega) (by omega) (by omega)) ?_
        refine ax_goto (x := 90) rfl ?_
        refine ax_ret (r := some (am_I ((y / Nat.gcd x y : Nat) : Int))) rfl rfl ?_
        have e : F_odds T v (p : Int) k = ((y / Nat.gcd x y : Nat) : Int) := by rw [F_odds_u hb5 (by simpa using hb14) hu, hxe, hye]; unfold gcd_; simp [*]
        rw [← e]
        exact hQ _ (fr_tr (l := [143, 144, 164]) (fr_sI (fr_rf _ _) (by decide)) hf1 (fun a h => h))
    · have hb14 := it_0 h14
      refine ax_const (q := 18) (v := am_I (-1)) rfl rfl rfl ?_
      refine ax_ret (r := some (am_I (-1))) rfl rfl ?_
      have e : F_odds T v ((p : Nat) : Int) k = -1 := by unfold F_odds; first | (rw [hb5, Bool.false_and]; rfl) | (rw [hb14, Bool.and_false]; rfl)
      rw [← e]
      exact hQ _ (fr_rf _ _)

theorem m_hope {d : Nat} (hd : 7 ≤ d) {σ : am_S} {T : sp_T} (hT : TM_ T σ) (hV : TV_ T) {b : Int} {w v : sp_V} (hw : σ.1 163 = w) (hv : v = cp_ w (σ.1 164) 50) (hW : VV_ T b w) (hb9 : b ≤ 100000) {a k : Int} {Q : Option am_V → am_S → Prop} (hQ : ∀ σ', fr_ [143, 144, 164] σ σ' → Q (some (am_I (F_hope T v a k))) σ') : am_Ev d 227 [am_R 135, am_I a, am_I k] σ Q := by
  obtain ⟨d, rfl⟩ : ∃ e, d = e + 1 := ⟨d - 1, by omega⟩
  have h6 := hV.nP
  have hO := hV.nO
  have hS := hV.nS
  have hR := hV.nR
  have hvw : ∀ j, j < 50 → v j = w j := fun j hj => by rw [hv]; exact cp_at hj
  have hW2 : VV_ T b v := hW.cg hV hvw
  refine ev_in (m := 227) (c := k_X9_hope) (L := [some (am_R 135), some (am_I a), some (am_I k), none, none, none]) rfl rfl rfl rfl rfl rfl ?_
  refine ax_load (q := 1) rfl rfl rfl rfl rfl ?_
  refine ax_load (q := 2) rfl rfl rfl rfl rfl ?_
  refine ax_callv (q := 5) rfl rfl rfl rfl rfl rfl ?_
  refine m_isShutNow (by omega) hT hV hw ?_
  rw [← sn_cg hV hvw]
  refine ax_if_eq (q := 8) (x := 17) rfl rfl (fun h5 => ?_) (fun h5 => ?_)
  · have hb5 := it_0 h5
    refine ax_const (q := 18) (v := am_I (-1)) rfl rfl rfl ?_
    refine ax_ret (r := some (am_I (-1))) rfl rfl ?_
    have e : F_hope T v a k = -1 := by unfold F_hope; first | (rw [hb5, Bool.false_and]; rfl) | (rw [hb14, Bool.and_false]; rfl)
    rw [← e]
    exact hQ _ (fr_rf _ _)
  · have hb5 := it_n0 h5
    obtain ⟨p, rfl, hp, hsp⟩ := sn_t hb5
    refine ax_load (q := 9) rfl rfl rfl rfl rfl ?_
    refine ax_const (q := 10) (v := am_I 0) rfl rfl rfl ?_
    refine ax_const (q := 11) (v := am_I 1) rfl rfl rfl ?_
    refine ax_calls (q := 14) rfl rfl rfl rfl rfl ?_
    refine m_isIn (by omega) ?_
    refine ax_if_ne (q := 17) (x := 19) rfl rfl (fun h14 => ?_) (fun h14 => ?_)
    · have hb14 := it_n0 h14
      refine ax_load (q := 20) rfl rfl rfl rfl rfl ?_
      refine ax_callv (q := 23) rfl rfl rfl rfl rfl rfl ?_
      refine m_load (by omega) ?_
      rw [hw, ← hv]
      refine ax_load (q := 24) rfl rfl rfl rfl rfl ?_
      refine ax_load (q := 25) rfl rfl rfl rfl rfl ?_
      refine ax_callv (q := 28) rfl rfl rfl rfl rfl rfl ?_
      refine m_yearsLeft (by omega) (hT.sI (by decide)) hV (w := w) ((sI_ne (by decide)).trans hw) (by omega) (by have := (hW.2.2 p hp).1; omega) ?_
      refine ax_store (q := 29) (L' := [some (am_R 135), some (am_I ((p : Nat) : Int)), some (am_I k), some (am_I ((yf_ T w p : Nat) : Int)), none, none]) rfl rfl rfl rfl rfl rfl ?_
      have hz : v (18 + p) < T 135 50 := (hW2.2.2 p hp).2.2.2.1.2
      have hyv := yf_bd hV hW2 hp
      have hyw : yf_ T w p = yf_ T v p := yf_cg (hvw p (by omega)).symm
      rw [hyw]
      obtain ⟨u, hu⟩ : ∃ u, u = gz_ T v p (v (18 + p)) (yf_ T v p) := ⟨_, rfl⟩
      refine l_hope (by omega) (hT.sI (by decide)) hV hW2 hb9 hp hz (c := k) rfl (N := yf_ T v p) (by omega) (fun σ1 hf1 hx1 => ?_) (yf_ T v p) 0 _ (fr_rf _ _) (sI_at _ _ _) (by omega)
      have hT1 : TM_ T σ1 := TM_.fr (hT.sI (by decide)) hf1 (by decide)
      rw [← hu] at hx1
      have hWu : VV_ T (b + (yf_ T v p : Nat)) u := by rw [hu]; exact hW2.gz hV hp hz _
      refine ax_load (q := 54) rfl rfl rfl rfl rfl ?_
      refine ax_load (q := 55) rfl rfl rfl rfl rfl ?_
      refine ax_callv (q := 58) rfl rfl rfl rfl rfl rfl ?_
      refine m_partsAll (by omega) hT1 hV hx1 hp ?_
      have hpl := pl_bd hV hp (v := u)
      obtain ⟨x, hxe⟩ : ∃ x : Nat, pl_ T u p = (x : Int) := ⟨(pl_ T u p).toNat, by omega⟩
      rw [hxe]
      refine ax_store (q := 59) (L' := [some (am_R 135), some (am_I ((p : Nat) : Int)), some (am_I k), some (am_I ((x : Nat) : Int)), none, none]) rfl rfl rfl rfl rfl rfl ?_
      refine ax_load (q := 60) rfl rfl rfl rfl rfl ?_
      refine ax_load (q := 61) rfl rfl rfl rfl rfl ?_
      refine ax_callv (q := 64) rfl rfl rfl rfl rfl rfl ?_
      refine m_worthsOf (by omega) hT1 hV hx1 hWu hp ?_
      have hpo := wo_bd hV hWu hp (v := u)
      obtain ⟨y, hye⟩ : ∃ y : Nat, wo_ T u p = (y : Int) := ⟨(wo_ T u p).toNat, by omega⟩
      rw [hye]
      refine ax_store (q := 66) (L' := [some (am_R 135), some (am_I ((p : Nat) : Int)), some (am_I k), some (am_I ((x : Nat) : Int)), some (am_I ((y : Nat) : Int)), none]) rfl rfl rfl rfl rfl rfl ?_
      refine ax_load (q := 67) rfl rfl rfl rfl rfl ?_
      refine ax_load (q := 69) rfl rfl rfl rfl rfl ?_
      refine ax_calls (q := 72) rfl rfl rfl rfl rfl ?_
      refine m_common (by omega) (by omega) (by omega) ?_
      have hg0 : 0 < Nat.gcd x y := Nat.gcd_pos_of_pos_left _ (by omega)
      have hg1 : Nat.gcd x y ≤ x := Nat.gcd_le_left _ (by omega)
      refine ax_store (q := 74) (L' := [some (am_R 135), some (am_I ((p : Nat) : Int)), some (am_I k), some (am_I ((x : Nat) : Int)), some (am_I ((y : Nat) : Int)), some (am_I ((Nat.gcd x y : Nat) : Int))]) rfl rfl rfl rfl rfl rfl ?_
      refine ax_load (q := 75) rfl rfl rfl rfl rfl ?_
      refine ax_if_ne (q := 78) (x := 86) rfl rfl (fun h75 => ?_) (fun h75 => ?_)
      · refine ax_load (q := 87) rfl rfl rfl rfl rfl ?_
        refine ax_load (q := 89) rfl rfl rfl rfl rfl ?_
        refine ax_idiv (q := 90) (z := ((x / Nat.gcd x y : Nat) : Int)) rfl rfl (by omega) (am_div_nat (by omega) (by omega) (by omega)) ?_
        refine ax_ret (r := some (am_I ((x / Nat.gcd x y : Nat) : Int))) rfl rfl ?_
        have e : F_hope T v (p : Int) k = ((x / Nat.gcd x y : Nat) : Int) := by rw [F_hope_u hb5 (by simpa using hb14) hu, hxe, hye]; unfold gcd_; simp [*]
        rw [← e]
        exact hQ _ (fr_tr (l := [143, 144, 164]) (fr_sI (fr_rf _ _) (by decide)) hf1 (fun a h => h))
      · refine ax_load (q := 80) rfl rfl rfl rfl rfl ?_
        refine ax_load (q := 82) rfl rfl rfl rfl rfl ?_
        refine ax_idiv (q := 83) (z := ((y / Nat.gcd x y : Nat) : Int)) rfl rfl (by omega) (am_div_nat (by omega) (by omega) (by omega)) ?_
        refine ax_goto (x := 90) rfl ?_
        refine ax_ret (r := some (am_I ((y / Nat.gcd x y : Nat) : Int))) rfl rfl ?_
        have e : F_hope T v (p : Int) k = ((y / Nat.gcd x y : Nat) : Int) := by rw [F_hope_u hb5 (by simpa using hb14) hu, hxe, hye]; unfold gcd_; simp [*]
        rw [← e]
        exact hQ _ (fr_tr (l := [143, 144, 164]) (fr_sI (fr_rf _ _) (by decide)) hf1 (fun a h => h))
    · have hb14 := it_0 h14
      refine ax_const (q := 18) (v := am_I (-1)) rfl rfl rfl ?_
      refine ax_ret (r := some (am_I (-1))) rfl rfl ?_
      have e : F_hope T v ((p : Nat) : Int) k = -1 := by unfold F_hope; first | (rw [hb5, Bool.false_and]; rfl) | (rw [hb14, Bool.and_false]; rfl)
      rw [← e]
      exact hQ _ (fr_rf _ _)

theorem l_ready {d : Nat} (hd : 6 ≤ d) {σ : am_S} {T : sp_T} (hT : TM_ T σ) (hV : TV_ T) {p o : Nat} (hp : p < nP_ T) (ho : o < nO_ T) {Q : Option am_V → am_S → Prop} : ∀ (m k : Nat) σ' (u : sp_V) (b : Int), fr_ [143, 144, 164] σ σ' → σ'.1 164 = u → VV_ T b u → k + m = 61 → b ≤ 100000 + k → (hQ : ∀ σ', fr_ [143, 144, 164] σ σ' → Q (some (am_I (rd_ T p o m k u))) σ') → aW d 0 k_X9_ready Q 24 [some (am_R 135), some (am_I ((p : Nat) : Int)), some (am_I ((o : Nat) : Int)), some (am_I ((k : Nat) : Int))] [] σ' := by
  have h6 := hV.nP
  have hsk := hV.sk ho
  have hnO := hV.nO
  have hnS := hV.nS
  have hz : T 151 o < T 135 50 := by omega
  intro m
  induction m with
  | zero =>
    intro k σ' u b hf hx hWu hk hbk hQ
    obtain rfl : k = 61 := by omega
    refine ax_load (q := 25) rfl rfl rfl rfl rfl ?_
    refine ax_const (q := 27) (v := am_I 60) rfl rfl rfl ?_
    refine ax_icmp_gt (q := 30) (x := 58) rfl rfl (fun h27 => ?_) (fun h => absurd h (by omega))
    refine ax_const (q := 59) (v := am_I (-1)) rfl rfl rfl ?_
    refine ax_ret (r := some (am_I (-1))) rfl rfl ?_
    exact hQ _ hf
  | succ m ih =>
    intro k σ' u b hf hx hWu hk hbk hQ
    refine ax_load (q := 25) rfl rfl rfl rfl rfl ?_
    refine ax_const (q := 27) (v := am_I 60) rfl rfl rfl ?_
    refine ax_icmp_gt (q := 30) (x := 58) rfl rfl (fun h => absurd h (by omega)) (fun h27 => ?_)
    refine ax_load (q := 31) rfl rfl rfl rfl rfl ?_
    refine ax_load (q := 32) rfl rfl rfl rfl rfl ?_
    refine ax_load (q := 33) rfl rfl rfl rfl rfl ?_
    refine ax_callv (q := 36) rfl rfl rfl rfl rfl rfl ?_
    refine m_can (by omega) (hT.fr hf (by decide)) hV hx (by omega) ho ?_
    refine ax_if_eq (q := 39) (x := 41) rfl rfl (fun h36 => ?_) (fun h36 => ?_)
    · have hb36 := it_0 h36
      refine ax_load (q := 42) rfl rfl rfl rfl rfl ?_
      refine ax_load (q := 43) rfl rfl rfl rfl rfl ?_
      refine ax_load (q := 44) rfl rfl rfl rfl rfl ?_
      refine ax_getf (q := 47) (v := am_R 151) rfl rfl (rfl) ?_
      refine ax_load (q := 48) rfl rfl rfl rfl rfl ?_
      refine bx_iald (q := 49) (k := o) (z := T 151 o) rfl rfl (rfl) (by omega) (by omega) (congrFun ((hf.1 151 (by decide)).trans hT.a151) _) ?_
      refine ax_callv (q := 52) rfl rfl rfl rfl rfl rfl ?_
      refine m_goAlone (by omega) (hT.fr hf (by decide)) hV hx hWu hp hz (by omega) (fun σ1 hf1 hx1 => ?_)
      refine ax_iinc (q := 55) (z' := ((k + 1 : Nat) : Int)) (L' := [some (am_R 135), some (am_I ((p : Nat) : Int)), some (am_I ((o : Nat) : Int)), some (am_I ((k + 1 : Nat) : Int))]) rfl rfl rfl rfl (am_we (by omega) (by omega) (by omega)) rfl ?_
      refine ax_goto (x := 24) rfl ?_
      rw [show rd_ T p o (m + 1) k u = rd_ T p o m (k + 1) (ga_ T u p (T 151 o)) by show (if _ then _ else _) = _; rw [hb36]; rfl] at hQ
      exact ih (k + 1) σ1 _ (b + 1) (fr_tr hf hf1 (fun a h => h)) hx1 (hWu.ga hV hp hz) (by omega) (by omega) hQ
    · have hb36 := it_n0 h36
      refine ax_load (q := 40) rfl rfl rfl rfl rfl ?_
      refine ax_ret (r := some (am_I ((k : Nat) : Int))) rfl rfl ?_
      rw [show rd_ T p o (m + 1) k u = (k : Int) by show (if _ then _ else _) = _; rw [if_pos hb36]] at hQ
      exact hQ _ hf

theorem m_ready {d : Nat} (hd : 7 ≤ d) {σ : am_S} {T : sp_T} (hT : TM_ T σ) (hV : TV_ T) {b : Int} {w v : sp_V} (hw : σ.1 163 = w) (hv : v = cp_ w (σ.1 164) 50) (hW : VV_ T b w) (hb9 : b ≤ 100000) {a c : Int} {Q : Option am_V → am_S → Prop} (hQ : ∀ σ', fr_ [143, 144, 164] σ σ' → Q (some (am_I (F_ready T v a c))) σ') : am_Ev d 229 [am_R 135, am_I a, am_I c] σ Q := by
  obtain ⟨d, rfl⟩ : ∃ e, d = e + 1 := ⟨d - 1, by omega⟩
  have h6 := hV.nP
  have hO := hV.nO
  have hS := hV.nS
  have hR := hV.nR
  have hvw : ∀ j, j < 50 → v j = w j := fun j hj => by rw [hv]; exact cp_at hj
  have hW2 : VV_ T b v := hW.cg hV hvw
  refine ev_in (m := 229) (c := k_X9_ready) (L := [some (am_R 135), some (am_I a), some (am_I c), none]) rfl rfl rfl rfl rfl rfl ?_
  refine ax_load (q := 1) rfl rfl rfl rfl rfl ?_
  refine ax_load (q := 2) rfl rfl rfl rfl rfl ?_
  refine ax_callv (q := 5) rfl rfl rfl rfl rfl rfl ?_
  refine m_isShutNow (by omega) hT hV hw ?_
  rw [← sn_cg hV hvw]
  refine ax_if_eq (q := 8) (x := 16) rfl rfl (fun h5 => ?_) (fun h5 => ?_)
  · have hb5 := it_0 h5
    refine ax_const (q := 17) (v := am_I (-1)) rfl rfl rfl ?_
    refine ax_ret (r := some (am_I (-1))) rfl rfl ?_
    have e : F_ready T v a c = -1 := by unfold F_ready inr_; first | (rw [hb5, Bool.false_and]; rfl) | (rw [hb13, Bool.and_false]; rfl)
    rw [← e]
    exact hQ _ (fr_rf _ _)
  · have hb5 := it_n0 h5
    obtain ⟨p, rfl, hp, hsp⟩ := sn_t hb5
    refine ax_load (q := 9) rfl rfl rfl rfl rfl ?_
    refine ax_load (q := 10) rfl rfl rfl rfl rfl ?_
    refine ax_callv (q := 13) rfl rfl rfl rfl rfl rfl ?_
    refine m_isOrder (by omega) hT hV ?_
    refine ax_if_ne (q := 16) (x := 18) rfl rfl (fun h13 => ?_) (fun h13 => ?_)
    · have hb13 := it_n0 h13
      obtain ⟨o, rfl, ho⟩ := inr_t hb13
      refine ax_load (q := 19) rfl rfl rfl rfl rfl ?_
      refine ax_callv (q := 22) rfl rfl rfl rfl rfl rfl ?_
      refine m_load (by omega) ?_
      rw [hw, ← hv]
      refine ax_const (q := 23) (v := am_I 0) rfl rfl rfl ?_
      refine ax_store (q := 24) (L' := [some (am_R 135), some (am_I ((p : Nat) : Int)), some (am_I ((o : Nat) : Int)), some (am_I 0)]) rfl rfl rfl rfl rfl rfl ?_
      have e : F_ready T v (p : Int) (o : Int) = rd_ T p o 61 0 v := by unfold F_ready inr_; rw [hb5, hb13]; rfl
      rw [e] at hQ
      exact l_ready (by omega) (hT.sI (by decide)) hV hp ho 61 0 _ v b (fr_rf _ _) (sI_at _ _ _) hW2 (by omega) (by omega) (fun σ' hf => hQ σ' (fr_tr (l := [143, 144, 164]) (fr_sI (fr_rf _ _) (by decide)) hf (fun a h => h)))
    · have hb13 := it_0 h13
      refine ax_const (q := 17) (v := am_I (-1)) rfl rfl rfl ?_
      refine ax_ret (r := some (am_I (-1))) rfl rfl ?_
      have e : F_ready T v ((p : Nat) : Int) c = -1 := by unfold F_ready inr_; first | (rw [hb5, Bool.false_and]; rfl) | (rw [hb13, Bool.and_false]; rfl)
      rw [← e]
      exact hQ _ (fr_rf _ _)

theorem l_will {d : Nat} (hd : 7 ≤ d) {σ : am_S} {T : sp_T} (hT : TM_ T σ) (hV : TV_ T) {b : Int} {v : sp_V} (hW : VV_ T b v) (hb9 : b ≤ 100000) {x1 x2 : Int} {N : Nat} (hN : N ≤ 100) {Q : Option am_V → am_S → Prop} (hQ : ∀ σ', fr_ [143, 144, 164] σ σ' → σ'.1 164 = ys_ T v N → aW d 0 k_X9_will Q 42 [some (am_R 135), some (am_I x1), some (am_I ((N : Nat) : Int)), some (am_I ((N : Nat) : Int))] [] σ') : ∀ (m k : Nat) σ', k + m = N → fr_ [143, 144, 164] σ σ' → σ'.1 164 = ys_ T v k → aW d 0 k_X9_will Q 26 [some (am_R 135), some (am_I x1), some (am_I ((N : Nat) : Int)), some (am_I ((k : Nat) : Int))] [] σ' := by
  have h6 := hV.nP
  intro m
  induction m with
  | zero =>
    intro k σ' hk hf hx
    obtain rfl : k = N := by omega
    refine ax_load (q := 27) rfl rfl rfl rfl rfl ?_
    refine ax_load (q := 28) rfl rfl rfl rfl rfl ?_
    refine ax_icmp_ge (q := 31) (x := 42) rfl rfl (fun h28 => ?_) (fun h => absurd h (by omega))
    exact hQ σ' hf hx
  | succ m ih =>
    intro k σ' hk hf hx
    refine ax_load (q := 27) rfl rfl rfl rfl rfl ?_
    refine ax_load (q := 28) rfl rfl rfl rfl rfl ?_
    refine ax_icmp_ge (q := 31) (x := 42) rfl rfl (fun h => absurd h (by omega)) (fun h28 => ?_)
    refine ax_load (q := 32) rfl rfl rfl rfl rfl ?_
    refine ax_callv (q := 35) rfl rfl rfl rfl rfl rfl ?_
    refine m_goYear (by omega) (hT.fr hf (by decide)) hV hx (hW.ys hV k) (by omega) (fun σ1 hf1 hx1 => ?_)
    refine ax_pop (q := 36) rfl rfl rfl ?_
    refine ax_iinc (q := 39) (z' := ((k + 1 : Nat) : Int)) (L' := [some (am_R 135), some (am_I x1), some (am_I ((N : Nat) : Int)), some (am_I ((k + 1 : Nat) : Int))]) rfl rfl rfl rfl (am_we (by omega) (by omega) (by omega)) rfl ?_
    refine ax_goto (x := 26) rfl ?_
    exact ih (k + 1) σ1 (by omega) (fr_tr hf hf1 (fun a h => h)) hx1

theorem m_will {d : Nat} (hd : 8 ≤ d) {σ : am_S} {T : sp_T} (hT : TM_ T σ) (hV : TV_ T) {b : Int} {w v : sp_V} (hw : σ.1 163 = w) (hv : v = cp_ w (σ.1 164) 50) (hW : VV_ T b w) (hb9 : b ≤ 100000) {a c : Int} {Q : Option am_V → am_S → Prop} (hQ : ∀ σ', fr_ [143, 144, 164] σ σ' → Q (some (am_I (F_will T v a c))) σ') : am_Ev d 234 [am_R 135, am_I a, am_I c] σ Q := by
  obtain ⟨d, rfl⟩ : ∃ e, d = e + 1 := ⟨d - 1, by omega⟩
  have h6 := hV.nP
  have hO := hV.nO
  have hS := hV.nS
  have hR := hV.nR
  have hvw : ∀ j, j < 50 → v j = w j := fun j hj => by rw [hv]; exact cp_at hj
  have hW2 : VV_ T b v := hW.cg hV hvw
  refine ev_in (m := 234) (c := k_X9_will) (L := [some (am_R 135), some (am_I a), some (am_I c), none]) rfl rfl rfl rfl rfl rfl ?_
  refine ax_load (q := 1) rfl rfl rfl rfl rfl ?_
  refine ax_load (q := 2) rfl rfl rfl rfl rfl ?_
  refine ax_callv (q := 5) rfl rfl rfl rfl rfl rfl ?_
  refine m_isPerson (by omega) hT hV ?_
  refine ax_if_eq (q := 8) (x := 18) rfl rfl (fun h5 => ?_) (fun h5 => ?_)
  · have hb5 := it_0 h5
    refine ax_const (q := 19) (v := am_I (-1)) rfl rfl rfl ?_
    refine ax_ret (r := some (am_I (-1))) rfl rfl ?_
    have e : F_will T v a c = -1 := by unfold F_will inr_; first | (rw [hb5, Bool.false_and]; rfl) | (rw [hb15, Bool.and_false]; rfl)
    rw [← e]
    exact hQ _ (fr_rf _ _)
  · have hb5 := it_n0 h5
    obtain ⟨p, rfl, hp⟩ := inr_t hb5
    refine ax_load (q := 9) rfl rfl rfl rfl rfl ?_
    refine ax_const (q := 10) (v := am_I 0) rfl rfl rfl ?_
    refine ax_const (q := 12) (v := am_I 60) rfl rfl rfl ?_
    refine ax_calls (q := 15) rfl rfl rfl rfl rfl ?_
    refine m_isIn (by omega) ?_
    refine ax_if_ne (q := 18) (x := 20) rfl rfl (fun h15 => ?_) (fun h15 => ?_)
    · have hb15 := it_n0 h15
      refine ax_load (q := 21) rfl rfl rfl rfl rfl ?_
      refine ax_callv (q := 24) rfl rfl rfl rfl rfl rfl ?_
      refine m_load (by omega) ?_
      rw [hw, ← hv]
      refine ax_const (q := 25) (v := am_I 0) rfl rfl rfl ?_
      refine ax_store (q := 26) (L' := [some (am_R 135), some (am_I ((p : Nat) : Int)), some (am_I c), some (am_I 0)]) rfl rfl rfl rfl rfl rfl ?_
      obtain ⟨n, rfl⟩ : ∃ n : Nat, c = (n : Int) := ⟨c.toNat, by simp at hb15; omega⟩
      have hn60 : n ≤ 60 := by simp at hb15; omega
      refine l_will (by omega) (hT.sI (by decide)) hV hW2 hb9 (x2 := 0) (N := n) (by omega) (fun σ1 hf1 hx1 => ?_) n 0 _ (by omega) (fr_rf _ _) (sI_at _ _ _)
      refine ax_load (q := 43) rfl rfl rfl rfl rfl ?_
      refine ax_getf (q := 46) (v := am_R 164) rfl rfl (rfl) ?_
      refine ax_const (q := 48) (v := am_I 12) rfl rfl rfl ?_
      refine ax_load (q := 49) rfl rfl rfl rfl rfl ?_
      refine ax_iadd (q := 50) (z := ((12 + p : Nat) : Int)) rfl rfl (am_we (by omega) (by omega) (by omega)) ?_
      refine bx_iald (q := 51) (k := 12 + p) (z := ys_ T v n (12 + p)) rfl rfl (rfl) (by omega) (by omega) (congrFun hx1 _) ?_
      refine ax_ret (r := some (am_I (ys_ T v n (12 + p)))) rfl rfl ?_
      have e : F_will T v (p : Int) (n : Int) = ys_ T v n (12 + p) := by unfold F_will inr_; rw [hb5, hb15]; simp
      rw [← e]
      exact hQ _ (fr_tr (l := [143, 144, 164]) (fr_sI (fr_rf _ _) (by decide)) hf1 (fun a h => h))
    · have hb15 := it_0 h15
      refine ax_const (q := 19) (v := am_I (-1)) rfl rfl rfl ?_
      refine ax_ret (r := some (am_I (-1))) rfl rfl ?_
      have e : F_will T v ((p : Nat) : Int) c = -1 := by unfold F_will inr_; first | (rw [hb5, Bool.false_and]; rfl) | (rw [hb15, Bool.and_false]; rfl)
      rw [← e]
      exact hQ _ (fr_rf _ _)

theorem l_failedFirst {d : Nat} {σ : am_S} {T : sp_T} (hT : TM_ T σ) (hV : TV_ T) {v w : sp_V} (ha : σ.1 164 = v) (hw : σ.1 163 = w) {Q : Option am_V → am_S → Prop} : ∀ (m k : Nat), k + m = nP_ T → (hQ : Q (some (am_I (ff_ T v w m k))) σ) → aW d 0 k_X9_failedFirst Q 2 [some (am_R 135), some (am_I ((k : Nat) : Int))] [] σ := by
  have h6 := hV.nP
  intro m
  induction m with
  | zero =>
    intro k hk hQ
    obtain rfl : k = nP_ T := by omega
    refine ax_load (q := 3) rfl rfl rfl rfl rfl ?_
    refine ax_load (q := 4) rfl rfl rfl rfl rfl ?_
    refine ax_getf (q := 7) (v := am_I ((nP_ T : Nat) : Int)) rfl rfl (am_fg rfl (hT.s53.trans hV.nP.1)) ?_
    refine ax_icmp_ge (q := 10) (x := 44) rfl rfl (fun h7 => ?_) (fun h => absurd h (by omega))
    refine ax_const (q := 45) (v := am_I (-1)) rfl rfl rfl ?_
    refine ax_ret (r := some (am_I (-1))) rfl rfl ?_
    exact hQ
  | succ m ih =>
    intro k hk hQ
    refine ax_load (q := 3) rfl rfl rfl rfl rfl ?_
    refine ax_load (q := 4) rfl rfl rfl rfl rfl ?_
    refine ax_getf (q := 7) (v := am_I ((nP_ T : Nat) : Int)) rfl rfl (am_fg rfl (hT.s53.trans hV.nP.1)) ?_
    refine ax_icmp_ge (q := 10) (x := 44) rfl rfl (fun h => absurd h (by omega)) (fun h7 => ?_)
    refine ax_load (q := 11) rfl rfl rfl rfl rfl ?_
    refine ax_getf (q := 14) (v := am_R 164) rfl rfl (rfl) ?_
    refine ax_const (q := 16) (v := am_I 12) rfl rfl rfl ?_
    refine ax_load (q := 17) rfl rfl rfl rfl rfl ?_
    refine ax_iadd (q := 18) (z := ((12 + k : Nat) : Int)) rfl rfl (am_we (by omega) (by omega) (by omega)) ?_
    refine bx_iald (q := 19) (k := 12 + k) (z := v (12 + k)) rfl rfl (rfl) (by omega) (by omega) (congrFun ha _) ?_
    refine ax_const (q := 20) (v := am_I 3) rfl rfl rfl ?_
    refine ax_icmp_ne (q := 23) (x := 38) rfl rfl (fun h20 => ?_) (fun h20 => ?_)
    · refine ax_iinc (q := 41) (z' := ((k + 1 : Nat) : Int)) (L' := [some (am_R 135), some (am_I ((k + 1 : Nat) : Int))]) rfl rfl rfl rfl (am_we (by omega) (by omega) (by omega)) rfl ?_
      refine ax_goto (x := 2) rfl ?_
      rw [show ff_ T v w (m + 1) k = ff_ T v w m (k + 1) by show (if _ then _ else _) = _; rw [if_neg (by rintro ⟨q1, q2⟩; first | exact q2 h33 | exact h20 q1)]] at hQ
      exact ih (k + 1) (by omega) hQ
    · refine ax_load (q := 24) rfl rfl rfl rfl rfl ?_
      refine ax_getf (q := 27) (v := am_R 163) rfl rfl (rfl) ?_
      refine ax_const (q := 29) (v := am_I 12) rfl rfl rfl ?_
      refine ax_load (q := 30) rfl rfl rfl rfl rfl ?_
      refine ax_iadd (q := 31) (z := ((12 + k : Nat) : Int)) rfl rfl (am_we (by omega) (by omega) (by omega)) ?_
      refine bx_iald (q := 32) (k := 12 + k) (z := w (12 + k)) rfl rfl (rfl) (by omega) (by omega) (congrFun hw _) ?_
      refine ax_const (q := 33) (v := am_I 3) rfl rfl rfl ?_
      refine ax_icmp_eq (q := 36) (x := 38) rfl rfl (fun h33 => ?_) (fun h33 => ?_)
      · refine ax_iinc (q := 41) (z' := ((k + 1 : Nat) : Int)) (L' := [some (am_R 135), some (am_I ((k + 1 : Nat) : Int))]) rfl rfl rfl rfl (am_we (by omega) (by omega) (by omega)) rfl ?_
        refine ax_goto (x := 2) rfl ?_
        rw [show ff_ T v w (m + 1) k = ff_ T v w m (k + 1) by show (if _ then _ else _) = _; rw [if_neg (by rintro ⟨q1, q2⟩; first | exact q2 h33 | exact h20 q1)]] at hQ
        exact ih (k + 1) (by omega) hQ
      · refine ax_load (q := 37) rfl rfl rfl rfl rfl ?_
        refine ax_ret (r := some (am_I ((k : Nat) : Int))) rfl rfl ?_
        rw [show ff_ T v w (m + 1) k = (k : Int) by show (if _ then _ else _) = _; rw [if_pos ⟨h20, h33⟩]] at hQ
        exact hQ

theorem m_failedFirst {d : Nat} (hd : 1 ≤ d) {σ : am_S} {T : sp_T} (hT : TM_ T σ) (hV : TV_ T) {v w : sp_V} (ha : σ.1 164 = v) (hw : σ.1 163 = w) {Q : Option am_V → am_S → Prop} (hQ : Q (some (am_I (ff_ T v w (nP_ T) 0))) σ) : am_Ev d 235 [am_R 135] σ Q := by
  obtain ⟨d, rfl⟩ : ∃ e, d = e + 1 := ⟨d - 1, by omega⟩
  refine ev_in (m := 235) (c := k_X9_failedFirst) (L := [some (am_R 135), none]) rfl rfl rfl rfl rfl rfl ?_
  refine ax_const (q := 1) (v := am_I 0) rfl rfl rfl ?_
  refine ax_store (q := 2) (L' := [some (am_R 135), some (am_I 0)]) rfl rfl rfl rfl rfl rfl ?_
  exact l_failedFirst hT hV ha hw (nP_ T) 0 (by omega) hQ

theorem l_first {d : Nat} (hd : 7 ≤ d) {σ : am_S} {T : sp_T} (hT : TM_ T σ) (hV : TV_ T) {w : sp_V} (hw : σ.1 163 = w) {c : Int} {Q : Option am_V → am_S → Prop} : ∀ (m k : Nat) σ' (u : sp_V) (b : Int), fr_ [143, 144, 164] σ σ' → σ'.1 164 = u → VV_ T b u → k + m = 61 → b ≤ 100000 + k → (hQ : ∀ σ', fr_ [143, 144, 164] σ σ' → Q (some (am_I (fs_ T w c m k u))) σ') → aW d 0 k_X9_first Q 17 [some (am_R 135), some (am_I c), some (am_I ((k : Nat) : Int))] [] σ' := by
  have h6 := hV.nP
  intro m
  induction m with
  | zero =>
    intro k σ' u b hf hx hWu hk hbk hQ
    obtain rfl : k = 61 := by omega
    refine ax_load (q := 18) rfl rfl rfl rfl rfl ?_
    refine ax_const (q := 20) (v := am_I 60) rfl rfl rfl ?_
    refine ax_icmp_gt (q := 23) (x := 54) rfl rfl (fun h20 => ?_) (fun h => absurd h (by omega))
    refine ax_const (q := 55) (v := am_I (-1)) rfl rfl rfl ?_
    refine ax_ret (r := some (am_I (-1))) rfl rfl ?_
    exact hQ _ hf
  | succ m ih =>
    intro k σ' u b hf hx hWu hk hbk hQ
    refine ax_load (q := 18) rfl rfl rfl rfl rfl ?_
    refine ax_const (q := 20) (v := am_I 60) rfl rfl rfl ?_
    refine ax_icmp_gt (q := 23) (x := 54) rfl rfl (fun h => absurd h (by omega)) (fun h20 => ?_)
    refine ax_load (q := 24) rfl rfl rfl rfl rfl ?_
    refine ax_callv (q := 27) rfl rfl rfl rfl rfl rfl ?_
    refine m_goYear (by omega) (hT.fr hf (by decide)) hV hx hWu (by omega) (fun σ1 hf1 hx1 => ?_)
    have hT1 : TM_ T σ1 := (hT.fr hf (by decide)).fr hf1 (by decide)
    have hw1 : σ1.1 163 = w := (hf1.1 163 (by decide)).trans ((hf.1 163 (by decide)).trans hw)
    refine ax_pop (q := 28) rfl rfl rfl ?_
    refine ax_load (q := 29) rfl rfl rfl rfl rfl ?_
    refine ax_callv (q := 32) rfl rfl rfl rfl rfl rfl ?_
    refine m_failedFirst (by omega) hT1 hV hx1 hw1 ?_
    refine ax_if_lt (q := 35) (x := 48) rfl rfl (fun h32 => ?_) (fun h32 => ?_)
    · refine ax_iinc (q := 51) (z' := ((k + 1 : Nat) : Int)) (L' := [some (am_R 135), some (am_I c), some (am_I ((k + 1 : Nat) : Int))]) rfl rfl rfl rfl (am_we (by omega) (by omega) (by omega)) rfl ?_
      refine ax_goto (x := 17) rfl ?_
      rw [show fs_ T w c (m + 1) k u = fs_ T w c m (k + 1) (yr_ T u) by show (if _ then _ else _) = _; rw [if_neg (by omega)]] at hQ
      exact ih (k + 1) σ1 _ (b + 1) (fr_tr hf hf1 (fun a h => h)) hx1 (hWu.yr hV) (by omega) (by omega) hQ
    · refine ax_load (q := 36) rfl rfl rfl rfl rfl ?_
      refine ax_if_ne (q := 39) (x := 46) rfl rfl (fun h36 => ?_) (fun h36 => ?_)
      · refine ax_load (q := 47) rfl rfl rfl rfl rfl ?_
        refine ax_ret (r := some (am_I ((k : Nat) : Int))) rfl rfl ?_
        rw [show fs_ T w c (m + 1) k u = ((k : Nat) : Int) by show (if _ then _ else _) = _; rw [if_pos (by omega)]; first | rw [if_pos h36] | rw [if_neg h36]] at hQ
        exact hQ _ (fr_tr hf hf1 (fun a h => h))
      · refine ax_load (q := 40) rfl rfl rfl rfl rfl ?_
        refine ax_callv (q := 43) rfl rfl rfl rfl rfl rfl ?_
        refine m_failedFirst (by omega) hT1 hV hx1 hw1 ?_
        refine ax_goto (x := 47) rfl ?_
        refine ax_ret (r := some (am_I (ff_ T (yr_ T u) w (nP_ T) 0))) rfl rfl ?_
        rw [show fs_ T w c (m + 1) k u = ff_ T (yr_ T u) w (nP_ T) 0 by show (if _ then _ else _) = _; rw [if_pos (by omega)]; first | rw [if_pos h36] | rw [if_neg h36]] at hQ
        exact hQ _ (fr_tr hf hf1 (fun a h => h))

theorem ff_cg {T : sp_T} {u v w : sp_V} (h : ∀ j, j < 50 → v j = w j) : ∀ m k, k + m ≤ 6 → ff_ T u v m k = ff_ T u w m k
  | 0, _, _ => rfl
  | m + 1, k, hk => by
    show (if _ then _ else _) = (if _ then _ else _)
    rw [h (12 + k) (by omega), ff_cg h m (k + 1) (by omega)]
theorem fs_cg {T : sp_T} (hV : TV_ T) {v w : sp_V} {c : Int} (h : ∀ j, j < 50 → v j = w j) : ∀ m k u, fs_ T v c m k u = fs_ T w c m k u
  | 0, _, _ => rfl
  | m + 1, k, u => by
    have := hV.nP
    show (if _ then _ else _) = (if _ then _ else _)
    rw [ff_cg h (nP_ T) 0 (by omega), fs_cg hV h m (k + 1)]

theorem m_first {d : Nat} (hd : 8 ≤ d) {σ : am_S} {T : sp_T} (hT : TM_ T σ) (hV : TV_ T) {b : Int} {w v : sp_V} (hw : σ.1 163 = w) (hv : v = cp_ w (σ.1 164) 50) (hW : VV_ T b w) (hb9 : b ≤ 100000) {c : Int} {Q : Option am_V → am_S → Prop} (hQ : ∀ σ', fr_ [143, 144, 164] σ σ' → Q (some (am_I (F_first T v c))) σ') : am_Ev d 236 [am_R 135, am_I c] σ Q := by
  obtain ⟨d, rfl⟩ : ∃ e, d = e + 1 := ⟨d - 1, by omega⟩
  have h66 := hV.nP
  have hO := hV.nO
  have hS := hV.nS
  have hR := hV.nR
  have hvw : ∀ j, j < 50 → v j = w j := fun j hj => by rw [hv]; exact cp_at hj
  have hW2 : VV_ T b v := hW.cg hV hvw
  refine ev_in (m := 236) (c := k_X9_first) (L := [some (am_R 135), some (am_I c), none]) rfl rfl rfl rfl rfl rfl ?_
  refine ax_load (q := 1) rfl rfl rfl rfl rfl ?_
  refine ax_const (q := 2) (v := am_I 0) rfl rfl rfl ?_
  refine ax_const (q := 3) (v := am_I 1) rfl rfl rfl ?_
  refine ax_calls (q := 6) rfl rfl rfl rfl rfl ?_
  refine m_isIn (by omega) ?_
  refine ax_if_ne (q := 9) (x := 11) rfl rfl (fun h6 => ?_) (fun h6 => ?_)
  · have hb6 := it_n0 h6
    refine ax_load (q := 12) rfl rfl rfl rfl rfl ?_
    refine ax_callv (q := 15) rfl rfl rfl rfl rfl rfl ?_
    refine m_load (by omega) ?_
    rw [hw, ← hv]
    refine ax_const (q := 16) (v := am_I 1) rfl rfl rfl ?_
    refine ax_store (q := 17) (L' := [some (am_R 135), some (am_I c), some (am_I 1)]) rfl rfl rfl rfl rfl rfl ?_
    have e : F_first T v c = fs_ T w c 60 1 v := by unfold F_first; rw [hb6, if_pos rfl, fs_cg hV hvw]
    rw [e] at hQ
    exact l_first (by omega) (hT.sI (by decide)) hV (w := w) ((sI_ne (by decide)).trans hw) 60 1 _ v b (fr_rf _ _) (sI_at _ _ _) hW2 (by omega) (by omega) (fun σ' hf => hQ σ' (fr_tr (l := [143, 144, 164]) (fr_sI (fr_rf _ _) (by decide)) hf (fun a h => h)))
  · have hb6 := it_0 h6
    refine ax_const (q := 10) (v := am_I (-1)) rfl rfl rfl ?_
    refine ax_ret (r := some (am_I (-1))) rfl rfl ?_
    have e : F_first T v c = -1 := by unfold F_first; rw [hb6]; rfl
    rw [← e]
    exact hQ _ (fr_rf _ _)

theorem l_doneIf {d : Nat} (hd : 1 ≤ d) {σ : am_S} {T : sp_T} (hT : TM_ T σ) (hV : TV_ T) {b : Int} {v : sp_V} (hW : VV_ T b v) (hb9 : b ≤ 100000) {x1 x2 : Int} (hz : -1 ≤ x2 ∧ x2 < T 135 51) {o4 : Option am_V} {Q : Option am_V → am_S → Prop} (hQ : aW d 0 k_X9_doneIf Q 51 [some (am_R 135), some (am_I x1), some (am_I x2), some (am_I ((nP_ T : Nat) : Int))] [] (am_sI σ 164 (rp_ v x1 x2 (nP_ T)))) : ∀ (m k : Nat), k + m = nP_ T → aW d 0 k_X9_doneIf Q 6 [some (am_R 135), some (am_I x1), some (am_I x2), some (am_I ((k : Nat) : Int))] [] (am_sI σ 164 (rp_ v x1 x2 k)) := by
  have h6 := hV.nP
  intro m
  induction m with
  | zero =>
    intro k hk
    obtain rfl : k = nP_ T := by omega
    refine ax_load (q := 7) rfl rfl rfl rfl rfl ?_
    refine ax_load (q := 8) rfl rfl rfl rfl rfl ?_
    refine ax_getf (q := 11) (v := am_I ((nP_ T : Nat) : Int)) rfl rfl (am_fg rfl ((congrFun (sI_ne (by decide)) _).trans (hT.s53.trans hV.nP.1))) ?_
    refine ax_icmp_ge (q := 14) (x := 51) rfl rfl (fun h11 => ?_) (fun h => absurd h (by omega))
    exact hQ
  | succ m ih =>
    intro k hk
    refine ax_load (q := 7) rfl rfl rfl rfl rfl ?_
    refine ax_load (q := 8) rfl rfl rfl rfl rfl ?_
    refine ax_getf (q := 11) (v := am_I ((nP_ T : Nat) : Int)) rfl rfl (am_fg rfl ((congrFun (sI_ne (by decide)) _).trans (hT.s53.trans hV.nP.1))) ?_
    refine ax_icmp_ge (q := 14) (x := 51) rfl rfl (fun h => absurd h (by omega)) (fun h11 => ?_)
    refine ax_load (q := 15) rfl rfl rfl rfl rfl ?_
    refine ax_load (q := 16) rfl rfl rfl rfl rfl ?_
    refine ax_callv (q := 19) rfl rfl rfl rfl rfl rfl ?_
    refine m_isShut (by omega) (sI_at _ _ _) (by omega) ?_
    refine ax_if_eq (q := 22) (x := 45) rfl rfl (fun h19 => ?_) (fun h19 => ?_)
    · have hb19 := it_0 h19
      refine ax_iinc (q := 48) (z' := ((k + 1 : Nat) : Int)) (L' := [some (am_R 135), some (am_I x1), some (am_I x2), some (am_I ((k + 1 : Nat) : Int))]) rfl rfl rfl rfl (am_we (by omega) (by omega) (by omega)) rfl ?_
      refine ax_goto (x := 6) rfl ?_
      have e : rp_ v x1 x2 (k + 1) = rp_ v x1 x2 k := by show (if sh_ (rp_ v x1 x2 k) k && decide (rp_ v x1 x2 k (6 + k) = x1) then am_up (rp_ v x1 x2 k) (6 + k) x2 else rp_ v x1 x2 k) = _; first | (rw [hb19, Bool.false_and]; rfl) | (rw [decide_eq_false h32, Bool.and_false]; rfl)
      rw [← e]
      exact ih (k + 1) (by omega)
    · have hb19 := it_n0 h19
      refine ax_load (q := 23) rfl rfl rfl rfl rfl ?_
      refine ax_getf (q := 26) (v := am_R 164) rfl rfl (rfl) ?_
      refine ax_const (q := 28) (v := am_I 6) rfl rfl rfl ?_
      refine ax_load (q := 29) rfl rfl rfl rfl rfl ?_
      refine ax_iadd (q := 30) (z := ((6 + k : Nat) : Int)) rfl rfl (am_we (by omega) (by omega) (by omega)) ?_
      refine bx_iald (q := 31) (k := 6 + k) (z := rp_ v x1 x2 k (6 + k)) rfl rfl (rfl) (by omega) (by omega) (congrFun (sI_at _ _ _) _) ?_
      refine ax_load (q := 32) rfl rfl rfl rfl rfl ?_
      refine ax_icmp_ne (q := 35) (x := 45) rfl rfl (fun h32 => ?_) (fun h32 => ?_)
      · refine ax_iinc (q := 48) (z' := ((k + 1 : Nat) : Int)) (L' := [some (am_R 135), some (am_I x1), some (am_I x2), some (am_I ((k + 1 : Nat) : Int))]) rfl rfl rfl rfl (am_we (by omega) (by omega) (by omega)) rfl ?_
        refine ax_goto (x := 6) rfl ?_
        have e : rp_ v x1 x2 (k + 1) = rp_ v x1 x2 k := by show (if sh_ (rp_ v x1 x2 k) k && decide (rp_ v x1 x2 k (6 + k) = x1) then am_up (rp_ v x1 x2 k) (6 + k) x2 else rp_ v x1 x2 k) = _; first | (rw [hb19, Bool.false_and]; rfl) | (rw [decide_eq_false h32, Bool.and_false]; rfl)
        rw [← e]
        exact ih (k + 1) (by omega)
      · refine ax_load (q := 36) rfl rfl rfl rfl rfl ?_
        refine ax_getf (q := 39) (v := am_R 164) rfl rfl (rfl) ?_
        refine ax_const (q := 41) (v := am_I 6) rfl rfl rfl ?_
        refine ax_load (q := 42) rfl rfl rfl rfl rfl ?_
        refine ax_iadd (q := 43) (z := ((6 + k : Nat) : Int)) rfl rfl (am_we (by omega) (by omega) (by omega)) ?_
        refine ax_load (q := 44) rfl rfl rfl rfl rfl ?_
        refine bx_iast (q := 45) (k := 6 + k) rfl rfl (rfl) (by omega) (by omega) ?_
        refine ax_iinc (q := 48) (z' := ((k + 1 : Nat) : Int)) (L' := [some (am_R 135), some (am_I x1), some (am_I x2), some (am_I ((k + 1 : Nat) : Int))]) rfl rfl rfl rfl (am_we (by omega) (by omega) (by omega)) rfl ?_
        refine ax_goto (x := 6) rfl ?_
        rw [sI_at, sI_sI]
        have e : rp_ v x1 x2 (k + 1) = am_up (rp_ v x1 x2 k) (6 + k) x2 := by show (if sh_ (rp_ v x1 x2 k) k && decide (rp_ v x1 x2 k (6 + k) = x1) then am_up (rp_ v x1 x2 k) (6 + k) x2 else rp_ v x1 x2 k) = _; rw [hb19, decide_eq_true h32]; rfl
        rw [← e]
        exact ih (k + 1) (by omega)

theorem l_doneIf2 {d : Nat} (hd : 7 ≤ d) {σ : am_S} {T : sp_T} (hT : TM_ T σ) (hV : TV_ T) {b : Int} {v : sp_V} (hW : VV_ T b v) (hb9 : b ≤ 100000) {x1 x2 : Int} {N : Nat} (hN : N = 60) {Q : Option am_V → am_S → Prop} (hQ : ∀ σ', fr_ [143, 144, 164] σ σ' → σ'.1 164 = ys_ T v N → aW d 0 k_X9_doneIf Q 70 [some (am_R 135), some (am_I x1), some (am_I x2), some (am_I ((N : Nat) : Int))] [] σ') : ∀ (m k : Nat) σ', k + m = N → fr_ [143, 144, 164] σ σ' → σ'.1 164 = ys_ T v k → aW d 0 k_X9_doneIf Q 53 [some (am_R 135), some (am_I x1), some (am_I x2), some (am_I ((k : Nat) : Int))] [] σ' := by
  have h6 := hV.nP
  intro m
  induction m with
  | zero =>
    intro k σ' hk hf hx
    obtain rfl : k = N := by omega
    refine ax_load (q := 54) rfl rfl rfl rfl rfl ?_
    refine ax_const (q := 56) (v := am_I 60) rfl rfl rfl ?_
    refine ax_icmp_ge (q := 59) (x := 70) rfl rfl (fun h56 => ?_) (fun h => absurd h (by omega))
    exact hQ σ' hf hx
  | succ m ih =>
    intro k σ' hk hf hx
    refine ax_load (q := 54) rfl rfl rfl rfl rfl ?_
    refine ax_const (q := 56) (v := am_I 60) rfl rfl rfl ?_
    refine ax_icmp_ge (q := 59) (x := 70) rfl rfl (fun h => absurd h (by omega)) (fun h56 => ?_)
    refine ax_load (q := 60) rfl rfl rfl rfl rfl ?_
    refine ax_callv (q := 63) rfl rfl rfl rfl rfl rfl ?_
    refine m_goYear (by omega) (hT.fr hf (by decide)) hV hx (hW.ys hV k) (by omega) (fun σ1 hf1 hx1 => ?_)
    refine ax_pop (q := 64) rfl rfl rfl ?_
    refine ax_iinc (q := 67) (z' := ((k + 1 : Nat) : Int)) (L' := [some (am_R 135), some (am_I x1), some (am_I x2), some (am_I ((k + 1 : Nat) : Int))]) rfl rfl rfl rfl (am_we (by omega) (by omega) (by omega)) rfl ?_
    refine ax_goto (x := 53) rfl ?_
    exact ih (k + 1) σ1 (by omega) (fr_tr hf hf1 (fun a h => h)) hx1

theorem m_doneIf {d : Nat} (hd : 8 ≤ d) {σ : am_S} {T : sp_T} (hT : TM_ T σ) (hV : TV_ T) {b : Int} {w v : sp_V} (hw : σ.1 163 = w) (hv : v = cp_ w (σ.1 164) 50) (hW : VV_ T b w) (hb9 : b ≤ 100000) {x1 x2 : Int} (hz : -1 ≤ x2 ∧ x2 < T 135 51) {Q : Option am_V → am_S → Prop} (hQ : ∀ σ', fr_ [143, 144, 164] σ σ' → tl_ (σ'.1 164) (σ.1 164) → Q (some (am_I (((di_ T v x1 x2 : Nat) : Int)))) σ') : am_Ev d 246 [am_R 135, am_I x1, am_I x2] σ Q := by
  obtain ⟨d, rfl⟩ : ∃ e, d = e + 1 := ⟨d - 1, by omega⟩
  have h6 := hV.nP
  have hO := hV.nO
  have hS := hV.nS
  have hR := hV.nR
  have hvw : ∀ j, j < 50 → v j = w j := fun j hj => by rw [hv]; exact cp_at hj
  have hW2 : VV_ T b v := hW.cg hV hvw
  refine ev_in (m := 246) (c := k_X9_doneIf) (L := [some (am_R 135), some (am_I x1), some (am_I x2), none]) rfl rfl rfl rfl rfl rfl ?_
  refine ax_load (q := 1) rfl rfl rfl rfl rfl ?_
  refine ax_callv (q := 4) rfl rfl rfl rfl rfl rfl ?_
  refine m_load (by omega) ?_
  rw [hw, ← hv]
  refine ax_const (q := 5) (v := am_I 0) rfl rfl rfl ?_
  refine ax_store (q := 6) (L' := [some (am_R 135), some (am_I x1), some (am_I x2), some (am_I 0)]) rfl rfl rfl rfl rfl rfl ?_
  refine l_doneIf (σ := σ) (o4 := none) (by omega) hT hV hW2 hb9 hz ?_ (nP_ T) 0 (by omega)
  refine ax_const (q := 52) (v := am_I 0) rfl rfl rfl ?_
  refine ax_store (q := 53) (L' := [some (am_R 135), some (am_I x1), some (am_I x2), some (am_I 0)]) rfl rfl rfl rfl rfl rfl ?_
  have hWr := hW2.rp (o := x1) hz (nP_ T) (Nat.le_refl _) (by omega)
  refine l_doneIf2 (by omega) (hT.sI (by decide)) hV hWr hb9 (N := 60) rfl (fun σ1 hf1 hx1 => ?_) 60 0 _ (by omega) (fr_rf _ _) (sI_at _ _ _)
  have hT1 : TM_ T σ1 := TM_.fr (hT.sI (a := 164) (by decide)) hf1 (by decide)
  refine ax_load (q := 71) rfl rfl rfl rfl rfl ?_
  refine ax_const (q := 72) (v := am_I 2) rfl rfl rfl ?_
  refine ax_callv (q := 75) rfl rfl rfl rfl rfl rfl ?_
  refine m_manyOf (by omega) hT1 hV hx1 ?_
  refine ax_ret (r := some (am_I ((di_ T v x1 x2 : Nat) : Int))) rfl rfl ?_
  exact hQ _ (fr_tr (l := [143, 144, 164]) (fr_sI (fr_rf _ _) (by decide)) hf1 (fun a h => h)) (tl_tr (hx1 ▸ tl_ys hV hWr 60) (tl_tr (tl_rp v x1 x2 _ (by omega)) (hv ▸ tl_cpg _ _)))

theorem m_law {d : Nat} (hd : 9 ≤ d) {σ : am_S} {T : sp_T} (hT : TM_ T σ) (hV : TV_ T) {b : Int} {w v : sp_V} (hw : σ.1 163 = w) (hv : v = cp_ w (σ.1 164) 50) (hW : VV_ T b w) (hb9 : b ≤ 100000) {a c : Int} {Q : Option am_V → am_S → Prop} (hQ : ∀ σ', fr_ [143, 144, 164] σ σ' → Q (some (am_I (F_law T v a c))) σ') : am_Ev d 247 [am_R 135, am_I a, am_I c] σ Q := by
  obtain ⟨d, rfl⟩ : ∃ e, d = e + 1 := ⟨d - 1, by omega⟩
  have h6 := hV.nP
  have hO := hV.nO
  have hS := hV.nS
  have hR := hV.nR
  have hvw : ∀ j, j < 50 → v j = w j := fun j hj => by rw [hv]; exact cp_at hj
  have hW2 : VV_ T b v := hW.cg hV hvw
  refine ev_in (m := 247) (c := k_X9_law) (L := [some (am_R 135), some (am_I a), some (am_I c)]) rfl rfl rfl rfl rfl rfl ?_
  refine ax_load (q := 1) rfl rfl rfl rfl rfl ?_
  refine ax_load (q := 2) rfl rfl rfl rfl rfl ?_
  refine ax_callv (q := 5) rfl rfl rfl rfl rfl rfl ?_
  refine m_isOrder (by omega) hT hV ?_
  refine ax_if_eq (q := 8) (x := 21) rfl rfl (fun h5 => ?_) (fun h5 => ?_)
  · have hb5 := it_0 h5
    refine ax_const (q := 23) (v := am_I (-100)) rfl rfl rfl ?_
    refine ax_goto (x := 39) rfl ?_
    refine ax_ret (r := some (am_I (-100))) rfl rfl ?_
    have e : F_law T v a c = -100 := by unfold F_law inr_; first | (rw [hb5, Bool.false_and]; rfl) | (rw [hb13, Bool.false_and, Bool.and_false]; rfl) | (rw [show decide (¬ a = c) = false from decide_eq_false (fun n => n h18), Bool.and_false, Bool.and_false]; rfl)
    rw [← e]
    exact hQ _ (fr_rf _ _)
  · have hb5 := it_n0 h5
    obtain ⟨o, rfl, ho⟩ := inr_t hb5
    refine ax_load (q := 9) rfl rfl rfl rfl rfl ?_
    refine ax_load (q := 10) rfl rfl rfl rfl rfl ?_
    refine ax_callv (q := 13) rfl rfl rfl rfl rfl rfl ?_
    refine m_isOrder (by omega) hT hV ?_
    refine ax_if_eq (q := 16) (x := 21) rfl rfl (fun h13 => ?_) (fun h13 => ?_)
    · have hb13 := it_0 h13
      refine ax_const (q := 23) (v := am_I (-100)) rfl rfl rfl ?_
      refine ax_goto (x := 39) rfl ?_
      refine ax_ret (r := some (am_I (-100))) rfl rfl ?_
      have e : F_law T v ((o : Nat) : Int) c = -100 := by unfold F_law inr_; first | (rw [hb5, Bool.false_and]; rfl) | (rw [hb13, Bool.false_and, Bool.and_false]; rfl) | (rw [show decide (¬ ((o : Nat) : Int) = c) = false from decide_eq_false (fun n => n h18), Bool.and_false, Bool.and_false]; rfl)
      rw [← e]
      exact hQ _ (fr_rf _ _)
    · have hb13 := it_n0 h13
      obtain ⟨q, rfl, hq⟩ := inr_t hb13
      refine ax_load (q := 17) rfl rfl rfl rfl rfl ?_
      refine ax_load (q := 18) rfl rfl rfl rfl rfl ?_
      refine ax_icmp_ne (q := 21) (x := 26) rfl rfl (fun h18 => ?_) (fun h18 => ?_)
      · have g1 := ct_le (fun p => decide (ys_ T (rp_ v (o : Int) (q : Int) (nP_ T)) 60 (12 + p) = 2)) (nP_ T)
        have g2 := ct_le (fun p => decide (ys_ T (rp_ v (o : Int) (o : Int) (nP_ T)) 60 (12 + p) = 2)) (nP_ T)
        have g3 : di_ T v (o : Int) (q : Int) ≤ nP_ T := g1
        have g4 : di_ T v (o : Int) (o : Int) ≤ nP_ T := g2
        refine ax_load (q := 27) rfl rfl rfl rfl rfl ?_
        refine ax_load (q := 28) rfl rfl rfl rfl rfl ?_
        refine ax_load (q := 29) rfl rfl rfl rfl rfl ?_
        refine ax_callv (q := 32) rfl rfl rfl rfl rfl rfl ?_
        refine m_doneIf (by omega) hT hV hw hv hW hb9 (x1 := ((o : Nat) : Int)) (x2 := ((q : Nat) : Int)) (by omega) (fun σ1 hf1 ht1 => ?_)
        have hv1 : v = cp_ w (σ1.1 164) 50 := by rw [hv]; exact (tl_cp ht1).symm
        have hT1 := hT.fr hf1 (by decide)
        have hw1 : σ1.1 163 = w := (hf1.1 163 (by decide)).trans hw
        refine ax_load (q := 33) rfl rfl rfl rfl rfl ?_
        refine ax_load (q := 34) rfl rfl rfl rfl rfl ?_
        refine ax_load (q := 35) rfl rfl rfl rfl rfl ?_
        refine ax_callv (q := 38) rfl rfl rfl rfl rfl rfl ?_
        refine m_doneIf (by omega) hT1 hV hw1 hv1 hW hb9 (x1 := ((o : Nat) : Int)) (x2 := ((o : Nat) : Int)) (by omega) (fun σ2 hf2 ht2 => ?_)
        refine ax_isub (q := 39) (z := ((di_ T v ((o : Nat) : Int) ((q : Nat) : Int) : Nat) : Int) - ((di_ T v ((o : Nat) : Int) ((o : Nat) : Int) : Nat) : Int)) rfl rfl (am_we (by omega) (by omega) (by omega)) ?_
        refine ax_ret (r := some (am_I (((di_ T v ((o : Nat) : Int) ((q : Nat) : Int) : Nat) : Int) - ((di_ T v ((o : Nat) : Int) ((o : Nat) : Int) : Nat) : Int)))) rfl rfl ?_
        have e : F_law T v (o : Int) (q : Int) = ((di_ T v ((o : Nat) : Int) ((q : Nat) : Int) : Nat) : Int) - ((di_ T v ((o : Nat) : Int) ((o : Nat) : Int) : Nat) : Int) := by unfold F_law inr_; rw [hb5, hb13, decide_eq_true h18]; rfl
        rw [← e]
        exact hQ _ (fr_tr hf1 hf2 (fun a h => h))
      · refine ax_const (q := 23) (v := am_I (-100)) rfl rfl rfl ?_
        refine ax_goto (x := 39) rfl ?_
        refine ax_ret (r := some (am_I (-100))) rfl rfl ?_
        have e : F_law T v ((o : Nat) : Int) ((q : Nat) : Int) = -100 := by unfold F_law inr_; first | (rw [hb5, Bool.false_and]; rfl) | (rw [hb13, Bool.false_and, Bool.and_false]; rfl) | (rw [show decide (¬ ((o : Nat) : Int) = ((q : Nat) : Int)) = false from decide_eq_false (fun n => n h18), Bool.and_false, Bool.and_false]; rfl)
        rw [← e]
        exact hQ _ (fr_rf _ _)

