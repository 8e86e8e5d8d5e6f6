theorem m_isShutNow {d : Nat} (hd : 3 ≤ d) {σ : am_S} {T : sp_T} (hT : TM_ T σ) (hV : TV_ T) {w : sp_V} (hw : σ.1 163 = w) {a : Int} {Q : Option am_V → am_S → Prop} (hQ : Q (some (am_I (if sn_ T w a then 1 else 0))) σ) : am_Ev d 210 [am_R 135, am_I a] σ Q := by
  obtain ⟨d, rfl⟩ : ∃ e, d = e + 1 := ⟨d - 1, by omega⟩
  have h6 := hV.nP
  refine ev_in (m := 210) (c := k_X9_isShutNow) (L := [some (am_R 135), some (am_I a)]) rfl rfl rfl rfl rfl rfl ?_
  refine ax_load (q := 1) rfl rfl rfl rfl rfl ?_
  refine ax_load (q := 2) rfl rfl rfl rfl rfl ?_
  refine ax_callv (q := 5) rfl rfl rfl rfl rfl rfl ?_
  refine m_isPerson (by omega) hT hV ?_
  refine ax_if_eq (q := 8) (x := 25) rfl rfl (fun h5 => ?_) (fun h5 => ?_)
  · have hb5 := it_0 h5
    refine ax_const (q := 26) (v := am_I 0) rfl rfl rfl ?_
    refine ax_ret (r := some (am_I 0)) rfl ⟨rfl, Or.inl rfl⟩ ?_
    have e : sn_ T w a = false := by unfold sn_ sh_; unfold inr_ at *; simp [*] <;> omega
    rw [e] at hQ
    exact hQ
  · have hb5 := it_n0 h5
    obtain ⟨p, rfl, hp⟩ := inr_t hb5
    refine ax_load (q := 9) rfl rfl rfl rfl rfl ?_
    refine ax_getf (q := 12) (v := am_R 163) rfl rfl (rfl) ?_
    refine ax_const (q := 14) (v := am_I 12) rfl rfl rfl ?_
    refine ax_load (q := 15) rfl rfl rfl rfl rfl ?_
    refine ax_iadd (q := 16) (z := ((12 + p : Nat) : Int)) rfl rfl (am_we (by omega) (by omega) (by omega)) ?_
    refine bx_iald (q := 17) (k := 12 + p) (z := w (12 + p)) rfl rfl (rfl) (by omega) (by omega) (congrFun hw _) ?_
    refine ax_const (q := 18) (v := am_I 2) rfl rfl rfl ?_
    refine ax_icmp_ge (q := 21) (x := 25) rfl rfl (fun h18 => ?_) (fun h18 => ?_)
    · refine ax_const (q := 26) (v := am_I 0) rfl rfl rfl ?_
      refine ax_ret (r := some (am_I 0)) rfl ⟨rfl, Or.inl rfl⟩ ?_
      have e : sn_ T w ((p : Nat) : Int) = false := by unfold sn_ sh_; unfold inr_ at *; simp [*] <;> omega
      rw [e] at hQ
      exact hQ
    · refine ax_const (q := 22) (v := am_I 1) rfl rfl rfl ?_
      refine ax_goto (x := 26) rfl ?_
      refine ax_ret (r := some (am_I 1)) rfl ⟨rfl, Or.inr rfl⟩ ?_
      have e : sn_ T w ((p : Nat) : Int) = true := by unfold sn_ sh_; unfold inr_ at *; simp [*] <;> omega
      rw [e] at hQ
      exact hQ

theorem m_person {d : Nat} (hd : 4 ≤ d) {σ : am_S} {T : sp_T} (hT : TM_ T σ) (hV : TV_ T) {b : Int} {w v : sp_V} (hw : σ.1 163 = w) (hv : v = cp_ w (σ.1 164) 50) (hW : VV_ T b w) (hb9 : b ≤ 100000) {a k : Int} {Q : Option am_V → am_S → Prop} (hQ : ∀ σ', fr_ [164] σ σ' → Q (some (am_I (F_person T v a k))) σ') : am_Ev d 200 [am_R 135, am_I a, am_I k] σ Q := by
  obtain ⟨d, rfl⟩ : ∃ e, d = e + 1 := ⟨d - 1, by omega⟩
  have h6 := hV.nP
  have hO := hV.nO
  have hS := hV.nS
  have hR := hV.nR
  have hvw : ∀ j, j < 50 → v j = w j := fun j hj => by rw [hv]; exact cp_at hj
  have hW2 : VV_ T b v := hW.cg hV hvw
  refine ev_in (m := 200) (c := k_X9_person) (L := [some (am_R 135), some (am_I a), some (am_I k)]) rfl rfl rfl rfl rfl rfl ?_
  refine ax_load (q := 1) rfl rfl rfl rfl rfl ?_
  refine ax_load (q := 2) rfl rfl rfl rfl rfl ?_
  refine ax_callv (q := 5) rfl rfl rfl rfl rfl rfl ?_
  refine m_isPerson (by omega) hT hV ?_
  refine ax_if_ne (q := 8) (x := 11) rfl rfl (fun h5 => ?_) (fun h5 => ?_)
  · have hb5 := it_n0 h5
    obtain ⟨p, rfl, hp⟩ := inr_t hb5
    refine ax_load (q := 12) rfl rfl rfl rfl rfl ?_
    refine ax_callv (q := 15) rfl rfl rfl rfl rfl rfl ?_
    refine m_load (by omega) ?_
    rw [hw, ← hv]
    refine ax_load (q := 16) rfl rfl rfl rfl rfl ?_
    by_cases hk : k = 0 ∨ k = 1 ∨ k = 2 ∨ k = 3 ∨ k = 4 ∨ k = 5
    rcases hk with rfl | rfl | rfl | rfl | rfl | rfl
    · refine ax_tsw (q := 56) rfl (by decide) ?_
      refine ax_load (q := 57) rfl rfl rfl rfl rfl ?_
      refine ax_getf (q := 60) (v := am_R 164) rfl rfl (rfl) ?_
      refine ax_load (q := 61) rfl rfl rfl rfl rfl ?_
      refine bx_iald (q := 62) (k := p) (z := v p) rfl rfl (rfl) (by omega) (by omega) (congrFun (sI_at _ _ _) _) ?_
      refine ax_ret (r := some (am_I (v p))) rfl rfl ?_
      refine Eq.mp (congrArg (fun z => Q (some (am_I z)) _) ?_) (hQ _ (fr_sI (fr_rf _ _) (by decide)))
      unfold F_person
      unfold inr_ at *
      simp [*]
    · refine ax_tsw (q := 63) rfl (by decide) ?_
      refine ax_load (q := 64) rfl rfl rfl rfl rfl ?_
      refine ax_getf (q := 67) (v := am_R 164) rfl rfl (rfl) ?_
      refine ax_const (q := 69) (v := am_I 12) rfl rfl rfl ?_
      refine ax_load (q := 70) rfl rfl rfl rfl rfl ?_
      refine ax_iadd (q := 71) (z := ((12 + p : Nat) : Int)) rfl rfl (am_we (by omega) (by omega) (by omega)) ?_
      refine bx_iald (q := 72) (k := 12 + p) (z := v (12 + p)) rfl rfl (rfl) (by omega) (by omega) (congrFun (sI_at _ _ _) _) ?_
      refine ax_ret (r := some (am_I (v (12 + p)))) rfl rfl ?_
      refine Eq.mp (congrArg (fun z => Q (some (am_I z)) _) ?_) (hQ _ (fr_sI (fr_rf _ _) (by decide)))
      unfold F_person
      unfold inr_ at *
      simp [*]
    · refine ax_tsw (q := 73) rfl (by decide) ?_
      refine ax_load (q := 74) rfl rfl rfl rfl rfl ?_
      refine ax_getf (q := 77) (v := am_R 164) rfl rfl (rfl) ?_
      refine ax_const (q := 79) (v := am_I 18) rfl rfl rfl ?_
      refine ax_load (q := 80) rfl rfl rfl rfl rfl ?_
      refine ax_iadd (q := 81) (z := ((18 + p : Nat) : Int)) rfl rfl (am_we (by omega) (by omega) (by omega)) ?_
      refine bx_iald (q := 82) (k := 18 + p) (z := v (18 + p)) rfl rfl (rfl) (by omega) (by omega) (congrFun (sI_at _ _ _) _) ?_
      refine ax_ret (r := some (am_I (v (18 + p)))) rfl rfl ?_
      refine Eq.mp (congrArg (fun z => Q (some (am_I z)) _) ?_) (hQ _ (fr_sI (fr_rf _ _) (by decide)))
      unfold F_person
      unfold inr_ at *
      simp [*]
    · refine ax_tsw (q := 83) rfl (by decide) ?_
      refine ax_load (q := 84) rfl rfl rfl rfl rfl ?_
      refine ax_getf (q := 87) (v := am_R 162) rfl rfl (rfl) ?_
      refine ax_load (q := 88) rfl rfl rfl rfl rfl ?_
      refine bx_iald (q := 89) (k := p) (z := ((pa_ T p : Nat) : Int)) rfl rfl (rfl) (by omega) (by omega) ((congrFun (hT.sI (by decide)).a162 _).trans (hV.pa (by omega)).1) ?_
      refine ax_ret (r := some (am_I ((pa_ T p : Nat) : Int))) rfl rfl ?_
      refine Eq.mp (congrArg (fun z => Q (some (am_I z)) _) ?_) (hQ _ (fr_sI (fr_rf _ _) (by decide)))
      unfold F_person
      unfold inr_ at *
      simp [*]
    · refine ax_tsw (q := 90) rfl (by decide) ?_
      refine ax_load (q := 91) rfl rfl rfl rfl rfl ?_
      refine ax_getf (q := 94) (v := am_R 164) rfl rfl (rfl) ?_
      refine ax_const (q := 96) (v := am_I 6) rfl rfl rfl ?_
      refine ax_load (q := 97) rfl rfl rfl rfl rfl ?_
      refine ax_iadd (q := 98) (z := ((6 + p : Nat) : Int)) rfl rfl (am_we (by omega) (by omega) (by omega)) ?_
      refine bx_iald (q := 99) (k := 6 + p) (z := v (6 + p)) rfl rfl (rfl) (by omega) (by omega) (congrFun (sI_at _ _ _) _) ?_
      refine ax_ret (r := some (am_I (v (6 + p)))) rfl rfl ?_
      refine Eq.mp (congrArg (fun z => Q (some (am_I z)) _) ?_) (hQ _ (fr_sI (fr_rf _ _) (by decide)))
      unfold F_person
      unfold inr_ at *
      simp [*]
    · refine ax_tsw (q := 100) rfl (by decide) ?_
      refine ax_load (q := 101) rfl rfl rfl rfl rfl ?_
      refine ax_load (q := 102) rfl rfl rfl rfl rfl ?_
      refine ax_callv (q := 105) rfl rfl rfl rfl rfl rfl ?_
      refine m_canSet (by omega) (hT.sI (by decide)) hV (sI_at _ _ _) (by omega) ?_
      refine ax_ret (r := some (am_I ((cs_ T v p : Nat) : Int))) rfl rfl ?_
      refine Eq.mp (congrArg (fun z => Q (some (am_I z)) _) ?_) (hQ _ (fr_sI (fr_rf _ _) (by decide)))
      unfold F_person
      unfold inr_ at *
      simp [*]
    · simp only [not_or] at hk
      refine ax_tsw (q := 106) rfl (by unfold am_tsw; rw [if_pos (by omega)]; rfl) ?_
      refine ax_const (q := 108) (v := am_I (-2)) rfl rfl rfl ?_
      refine ax_ret (r := some (am_I (-2))) rfl rfl ?_
      refine Eq.mp (congrArg (fun z => Q (some (am_I z)) _) ?_) (hQ _ (fr_sI (fr_rf _ _) (by decide)))
      unfold F_person
      unfold inr_ at *
      simp [*]
  · have hb5 := it_0 h5
    refine ax_const (q := 10) (v := am_I (-2)) rfl rfl rfl ?_
    refine ax_ret (r := some (am_I (-2))) rfl rfl ?_
    refine Eq.mp (congrArg (fun z => Q (some (am_I z)) _) ?_) (hQ _ (fr_rf _ _))
    unfold F_person
    unfold inr_ at *
    simp [*]

theorem m_level {d : Nat} (hd : 3 ≤ d) {σ : am_S} {T : sp_T} (hT : TM_ T σ) (hV : TV_ T) {b : Int} {w v : sp_V} (hw : σ.1 163 = w) (hv : v = cp_ w (σ.1 164) 50) (hW : VV_ T b w) (hb9 : b ≤ 100000) {a s : Int} {Q : Option am_V → am_S → Prop} (hQ : ∀ σ', fr_ [] σ σ' → Q (some (am_I (F_level T v a s))) σ') : am_Ev d 201 [am_R 135, am_I a, am_I s] σ Q := by
  obtain ⟨d, rfl⟩ : ∃ e, d = e + 1 := ⟨d - 1, by omega⟩
  have h6 := hV.nP
  have hO := hV.nO
  have hS := hV.nS
  have hR := hV.nR
  have hvw : ∀ j, j < 50 → v j = w j := fun j hj => by rw [hv]; exact cp_at hj
  have hW2 : VV_ T b v := hW.cg hV hvw
  refine ev_in (m := 201) (c := k_X9_level) (L := [some (am_R 135), some (am_I a), some (am_I s)]) rfl rfl rfl rfl rfl rfl ?_
  refine ax_load (q := 1) rfl rfl rfl rfl rfl ?_
  refine ax_load (q := 2) rfl rfl rfl rfl rfl ?_
  refine ax_callv (q := 5) rfl rfl rfl rfl rfl rfl ?_
  refine m_isPerson (by omega) hT hV ?_
  refine ax_if_eq (q := 8) (x := 32) rfl rfl (fun h5 => ?_) (fun h5 => ?_)
  · have hb5 := it_0 h5
    refine ax_const (q := 33) (v := am_I (-1)) rfl rfl rfl ?_
    refine ax_ret (r := some (am_I (-1))) rfl rfl ?_
    have e : F_level T v a s = (-1) := by unfold F_level; unfold inr_ at *; simp [*]
    rw [← e]
    exact hQ _ (fr_rf _ _)
  · have hb5 := it_n0 h5
    obtain ⟨p, rfl, hp⟩ := inr_t hb5
    refine ax_load (q := 9) rfl rfl rfl rfl rfl ?_
    refine ax_load (q := 10) rfl rfl rfl rfl rfl ?_
    refine ax_callv (q := 13) rfl rfl rfl rfl rfl rfl ?_
    refine m_isSkill (by omega) hT hV ?_
    refine ax_if_eq (q := 16) (x := 32) rfl rfl (fun h13 => ?_) (fun h13 => ?_)
    · have hb13 := it_0 h13
      refine ax_const (q := 33) (v := am_I (-1)) rfl rfl rfl ?_
      refine ax_ret (r := some (am_I (-1))) rfl rfl ?_
      have e : F_level T v ((p : Nat) : Int) s = (-1) := by unfold F_level; unfold inr_ at *; simp [*]
      rw [← e]
      exact hQ _ (fr_rf _ _)
    · have hb13 := it_n0 h13
      obtain ⟨q, rfl, hq⟩ := inr_t hb13
      refine ax_load (q := 17) rfl rfl rfl rfl rfl ?_
      refine ax_getf (q := 20) (v := am_R 163) rfl rfl (rfl) ?_
      refine ax_const (q := 22) (v := am_I 24) rfl rfl rfl ?_
      refine ax_const (q := 23) (v := am_I 4) rfl rfl rfl ?_
      refine ax_load (q := 24) rfl rfl rfl rfl rfl ?_
      refine ax_imul (q := 25) (z := ((4 * p : Nat) : Int)) rfl rfl (am_we (by omega) (by omega) (by omega)) ?_
      refine ax_iadd (q := 26) (z := ((24 + (4 * p) : Nat) : Int)) rfl rfl (am_we (by omega) (by omega) (by omega)) ?_
      refine ax_load (q := 27) rfl rfl rfl rfl rfl ?_
      refine ax_iadd (q := 28) (z := (((24 + (4 * p)) + q : Nat) : Int)) rfl rfl (am_we (by omega) (by omega) (by omega)) ?_
      refine bx_iald (q := 29) (k := (24 + (4 * p)) + q) (z := v (24 + 4 * p + q)) rfl rfl (rfl) (by omega) (by omega) ((congrFun hw _).trans (hvw _ (by omega)).symm) ?_
      refine ax_goto (x := 33) rfl ?_
      refine ax_ret (r := some (am_I (v (24 + 4 * p + q)))) rfl rfl ?_
      have e : F_level T v ((p : Nat) : Int) ((q : Nat) : Int) = v (24 + 4 * p + q) := by unfold F_level; unfold inr_ at *; simp [*]
      rw [← e]
      exact hQ _ (fr_rf _ _)

theorem m_order {d : Nat} (hd : 3 ≤ d) {σ : am_S} {T : sp_T} (hT : TM_ T σ) (hV : TV_ T) {a k : Int} {Q : Option am_V → am_S → Prop} (hQ : ∀ σ', fr_ [] σ σ' → Q (some (am_I (F_order T a k))) σ') : am_Ev d 202 [am_R 135, am_I a, am_I k] σ Q := by
  obtain ⟨d, rfl⟩ : ∃ e, d = e + 1 := ⟨d - 1, by omega⟩
  have h6 := hV.nP
  have hO := hV.nO
  have hS := hV.nS
  have hR := hV.nR
  refine ev_in (m := 202) (c := k_X9_order) (L := [some (am_R 135), some (am_I a), some (am_I k)]) rfl rfl rfl rfl rfl rfl ?_
  refine ax_load (q := 1) rfl rfl rfl rfl rfl ?_
  refine ax_load (q := 2) rfl rfl rfl rfl rfl ?_
  refine ax_callv (q := 5) rfl rfl rfl rfl rfl rfl ?_
  refine m_isOrder (by omega) hT hV ?_
  refine ax_if_ne (q := 8) (x := 10) rfl rfl (fun h5 => ?_) (fun h5 => ?_)
  · have hb5 := it_n0 h5
    obtain ⟨p, rfl, hp⟩ := inr_t hb5
    refine ax_load (q := 11) rfl rfl rfl rfl rfl ?_
    by_cases hk : k = 0 ∨ k = 1 ∨ k = 2 ∨ k = 3 ∨ k = 4 ∨ k = 5
    rcases hk with rfl | rfl | rfl | rfl | rfl | rfl
    · refine ax_tsw (q := 48) rfl (by decide) ?_
      refine ax_load (q := 49) rfl rfl rfl rfl rfl ?_
      refine ax_getf (q := 52) (v := am_R 151) rfl rfl (rfl) ?_
      refine ax_load (q := 53) rfl rfl rfl rfl rfl ?_
      refine bx_iald (q := 54) (k := p) (z := ((sk_ T p : Nat) : Int)) rfl rfl (rfl) (by omega) (by omega) ((congrFun hT.a151 _).trans (hV.sk (by omega)).1) ?_
      refine ax_ret (r := some (am_I ((sk_ T p : Nat) : Int))) rfl rfl ?_
      refine Eq.mp (congrArg (fun z => Q (some (am_I z)) _) ?_) (hQ _ (fr_rf _ _))
      unfold F_order
      unfold inr_ at *
      simp [*]
    · refine ax_tsw (q := 55) rfl (by decide) ?_
      refine ax_load (q := 56) rfl rfl rfl rfl rfl ?_
      refine ax_getf (q := 59) (v := am_R 152) rfl rfl (rfl) ?_
      refine ax_load (q := 60) rfl rfl rfl rfl rfl ?_
      refine bx_iald (q := 61) (k := p) (z := T 152 p) rfl rfl (rfl) (by omega) (by omega) (congrFun hT.a152 _) ?_
      refine ax_ret (r := some (am_I (T 152 p))) rfl rfl ?_
      refine Eq.mp (congrArg (fun z => Q (some (am_I z)) _) ?_) (hQ _ (fr_rf _ _))
      unfold F_order
      unfold inr_ at *
      simp [*]
    · refine ax_tsw (q := 62) rfl (by decide) ?_
      refine ax_load (q := 63) rfl rfl rfl rfl rfl ?_
      refine ax_getf (q := 66) (v := am_R 153) rfl rfl (rfl) ?_
      refine ax_load (q := 67) rfl rfl rfl rfl rfl ?_
      refine bx_iald (q := 68) (k := p) (z := T 153 p) rfl rfl (rfl) (by omega) (by omega) (congrFun hT.a153 _) ?_
      refine ax_ret (r := some (am_I (T 153 p))) rfl rfl ?_
      refine Eq.mp (congrArg (fun z => Q (some (am_I z)) _) ?_) (hQ _ (fr_rf _ _))
      unfold F_order
      unfold inr_ at *
      simp [*]
    · refine ax_tsw (q := 69) rfl (by decide) ?_
      refine ax_load (q := 70) rfl rfl rfl rfl rfl ?_
      refine ax_getf (q := 73) (v := am_R 154) rfl rfl (rfl) ?_
      refine ax_load (q := 74) rfl rfl rfl rfl rfl ?_
      refine bx_iald (q := 75) (k := p) (z := T 154 p) rfl rfl (rfl) (by omega) (by omega) (congrFun hT.a154 _) ?_
      refine ax_ret (r := some (am_I (T 154 p))) rfl rfl ?_
      refine Eq.mp (congrArg (fun z => Q (some (am_I z)) _) ?_) (hQ _ (fr_rf _ _))
      unfold F_order
      unfold inr_ at *
      simp [*]
    · refine ax_tsw (q := 76) rfl (by decide) ?_
      refine ax_load (q := 77) rfl rfl rfl rfl rfl ?_
      refine ax_getf (q := 80) (v := am_R 155) rfl rfl (rfl) ?_
      refine ax_load (q := 81) rfl rfl rfl rfl rfl ?_
      refine bx_iald (q := 82) (k := p) (z := T 155 p) rfl rfl (rfl) (by omega) (by omega) (congrFun hT.a155 _) ?_
      refine ax_ret (r := some (am_I (T 155 p))) rfl rfl ?_
      refine Eq.mp (congrArg (fun z => Q (some (am_I z)) _) ?_) (hQ _ (fr_rf _ _))
      unfold F_order
      unfold inr_ at *
      simp [*]
    · refine ax_tsw (q := 83) rfl (by decide) ?_
      refine ax_load (q := 84) rfl rfl rfl rfl rfl ?_
      refine ax_getf (q := 87) (v := am_R 156) rfl rfl (rfl) ?_
      refine ax_load (q := 88) rfl rfl rfl rfl rfl ?_
      refine bx_iald (q := 89) (k := p) (z := T 156 p) rfl rfl (rfl) (by omega) (by omega) (congrFun hT.a156 _) ?_
      refine ax_ret (r := some (am_I (T 156 p))) rfl rfl ?_
      refine Eq.mp (congrArg (fun z => Q (some (am_I z)) _) ?_) (hQ _ (fr_rf _ _))
      unfold F_order
      unfold inr_ at *
      simp [*]
    · simp only [not_or] at hk
      refine ax_tsw (q := 90) rfl (by unfold am_tsw; rw [if_pos (by omega)]; rfl) ?_
      refine ax_const (q := 91) (v := am_I (-1)) rfl rfl rfl ?_
      refine ax_ret (r := some (am_I (-1))) rfl rfl ?_
      refine Eq.mp (congrArg (fun z => Q (some (am_I z)) _) ?_) (hQ _ (fr_rf _ _))
      unfold F_order
      unfold inr_ at *
      simp [*]
  · have hb5 := it_0 h5
    refine ax_const (q := 9) (v := am_I (-1)) rfl rfl rfl ?_
    refine ax_ret (r := some (am_I (-1))) rfl rfl ?_
    refine Eq.mp (congrArg (fun z => Q (some (am_I z)) _) ?_) (hQ _ (fr_rf _ _))
    unfold F_order
    unfold inr_ at *
    simp [*]

theorem m_share {d : Nat} (hd : 3 ≤ d) {σ : am_S} {T : sp_T} (hT : TM_ T σ) (hV : TV_ T) {a o : Int} {Q : Option am_V → am_S → Prop} (hQ : ∀ σ', fr_ [] σ σ' → Q (some (am_I (F_share T a o))) σ') : am_Ev d 203 [am_R 135, am_I a, am_I o] σ Q := by
  obtain ⟨d, rfl⟩ : ∃ e, d = e + 1 := ⟨d - 1, by omega⟩
  have h6 := hV.nP
  have hO := hV.nO
  have hS := hV.nS
  have hR := hV.nR
  refine ev_in (m := 203) (c := k_X9_share) (L := [some (am_R 135), some (am_I a), some (am_I o)]) rfl rfl rfl rfl rfl rfl ?_
  refine ax_load (q := 1) rfl rfl rfl rfl rfl ?_
  refine ax_const (q := 2) (v := am_I 0) rfl rfl rfl ?_
  refine ax_load (q := 3) rfl rfl rfl rfl rfl ?_
  refine ax_getf (q := 6) (v := am_I ((nR_ T : Nat) : Int)) rfl rfl (am_fg rfl (hT.s52.trans hV.nR.1)) ?_
  refine ax_const (q := 7) (v := am_I 1) rfl rfl rfl ?_
  refine ax_isub (q := 8) (z := ((nR_ T : Nat) : Int) - 1) rfl rfl (am_we (by omega) (by omega) (by omega)) ?_
  refine ax_calls (q := 11) rfl rfl rfl rfl rfl ?_
  refine m_isIn (by omega) ?_
  rw [show decide (0 ≤ a ∧ a ≤ ((nR_ T : Nat) : Int) - 1) = inr_ (nR_ T) a by unfold inr_; congr 1; apply propext; constructor <;> intro h <;> omega]
  refine ax_if_eq (q := 14) (x := 36) rfl rfl (fun h11 => ?_) (fun h11 => ?_)
  · have hb11 := it_0 h11
    refine ax_const (q := 37) (v := am_I (-1)) rfl rfl rfl ?_
    refine ax_ret (r := some (am_I (-1))) rfl rfl ?_
    have e : F_share T a o = (-1) := by unfold F_share; unfold inr_ at *; simp [*]
    rw [← e]
    exact hQ _ (fr_rf _ _)
  · have hb11 := it_n0 h11
    obtain ⟨p, rfl, hp⟩ := inr_t hb11
    refine ax_load (q := 15) rfl rfl rfl rfl rfl ?_
    refine ax_load (q := 16) rfl rfl rfl rfl rfl ?_
    refine ax_callv (q := 19) rfl rfl rfl rfl rfl rfl ?_
    refine m_isOrder (by omega) hT hV ?_
    refine ax_if_eq (q := 22) (x := 36) rfl rfl (fun h19 => ?_) (fun h19 => ?_)
    · have hb19 := it_0 h19
      refine ax_const (q := 37) (v := am_I (-1)) rfl rfl rfl ?_
      refine ax_ret (r := some (am_I (-1))) rfl rfl ?_
      have e : F_share T ((p : Nat) : Int) o = (-1) := by unfold F_share; unfold inr_ at *; simp [*]
      rw [← e]
      exact hQ _ (fr_rf _ _)
    · have hb19 := it_n0 h19
      obtain ⟨q, rfl, hq⟩ := inr_t hb19
      refine ax_load (q := 23) rfl rfl rfl rfl rfl ?_
      refine ax_getf (q := 26) (v := am_R 158) rfl rfl (rfl) ?_
      refine ax_const (q := 28) (v := am_I 8) rfl rfl rfl ?_
      refine ax_load (q := 29) rfl rfl rfl rfl rfl ?_
      refine ax_imul (q := 30) (z := ((8 * p : Nat) : Int)) rfl rfl (am_we (by omega) (by omega) (by omega)) ?_
      refine ax_load (q := 31) rfl rfl rfl rfl rfl ?_
      refine ax_iadd (q := 32) (z := (((8 * p) + q : Nat) : Int)) rfl rfl (am_we (by omega) (by omega) (by omega)) ?_
      refine bx_iald (q := 33) (k := (8 * p) + q) (z := T 158 ((8 * p) + q)) rfl rfl (rfl) (by omega) (by omega) (congrFun hT.a158 _) ?_
      refine ax_goto (x := 37) rfl ?_
      refine ax_ret (r := some (am_I (T 158 ((8 * p) + q)))) rfl rfl ?_
      have e : F_share T ((p : Nat) : Int) ((q : Nat) : Int) = T 158 ((8 * p) + q) := by unfold F_share; unfold inr_ at *; simp [*]
      rw [← e]
      exact hQ _ (fr_rf _ _)

theorem m_many {d : Nat} (hd : 3 ≤ d) {σ : am_S} {T : sp_T} (hT : TM_ T σ) (hV : TV_ T) {b : Int} {w v : sp_V} (hw : σ.1 163 = w) (hv : v = cp_ w (σ.1 164) 50) (hW : VV_ T b w) (hb9 : b ≤ 100000) {h : Int} {Q : Option am_V → am_S → Prop} (hQ : ∀ σ', fr_ [164] σ σ' → Q (some (am_I (F_many T v h))) σ') : am_Ev d 205 [am_R 135, am_I h] σ Q := by
  obtain ⟨d, rfl⟩ : ∃ e, d = e + 1 := ⟨d - 1, by omega⟩
  have h6 := hV.nP
  have hO := hV.nO
  have hS := hV.nS
  have hR := hV.nR
  have hvw : ∀ j, j < 50 → v j = w j := fun j hj => by rw [hv]; exact cp_at hj
  have hW2 : VV_ T b v := hW.cg hV hvw
  refine ev_in (m := 205) (c := k_X9_many) (L := [some (am_R 135), some (am_I h)]) rfl rfl rfl rfl rfl rfl ?_
  refine ax_load (q := 1) rfl rfl rfl rfl rfl ?_
  refine ax_callv (q := 4) rfl rfl rfl rfl rfl rfl ?_
  refine m_load (by omega) ?_
  rw [hw, ← hv]
  refine ax_load (q := 5) rfl rfl rfl rfl rfl ?_
  refine ax_const (q := 6) (v := am_I 0) rfl rfl rfl ?_
  refine ax_const (q := 7) (v := am_I 4) rfl rfl rfl ?_
  refine ax_calls (q := 10) rfl rfl rfl rfl rfl ?_
  refine m_isIn (by omega) ?_
  refine ax_if_eq (q := 13) (x := 21) rfl rfl (fun h10 => ?_) (fun h10 => ?_)
  · have hb10 := it_0 h10
    refine ax_const (q := 22) (v := am_I (-1)) rfl rfl rfl ?_
    refine ax_ret (r := some (am_I (-1))) rfl rfl ?_
    have e : F_many T v h = (-1) := by unfold F_many; unfold inr_ at *; simp [*]
    rw [← e]
    exact hQ _ (fr_sI (fr_rf _ _) (by decide))
  · have hb10 := it_n0 h10
    refine ax_load (q := 14) rfl rfl rfl rfl rfl ?_
    refine ax_load (q := 15) rfl rfl rfl rfl rfl ?_
    refine ax_callv (q := 18) rfl rfl rfl rfl rfl rfl ?_
    refine m_manyOf (by omega) (hT.sI (by decide)) hV (sI_at _ _ _) ?_
    refine ax_goto (x := 22) rfl ?_
    refine ax_ret (r := some (am_I ((mo_ T v h : Nat) : Int))) rfl rfl ?_
    have e : F_many T v h = ((mo_ T v h : Nat) : Int) := by unfold F_many; unfold inr_ at *; simp [*]
    rw [← e]
    exact hQ _ (fr_sI (fr_rf _ _) (by decide))

