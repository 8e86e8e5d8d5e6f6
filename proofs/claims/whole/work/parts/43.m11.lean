/-! frames that tell the reference's own fields apart; the kept rows -/
def fq_ (A F : List Nat) (σ σ' : am_S) : Prop := (∀ a, a ∉ A → a ≠ 135 → σ'.1 a = σ.1 a) ∧ (∀ k, k ∉ F → σ'.1 135 k = σ.1 135 k) ∧ σ'.2 = σ.2
theorem fq_rf (A F : List Nat) (σ : am_S) : fq_ A F σ σ := ⟨fun _ _ _ => rfl, fun _ _ => rfl, rfl⟩
theorem fq_sI {A F : List Nat} {σ σ' : am_S} {a : Nat} {f : Nat → Int} (h : fq_ A F σ σ') (ha : a ∈ A) (h5 : 135 ≠ a) : fq_ A F σ (am_sI σ' a f) :=
  ⟨fun b hb h9 => by rw [sI_ne (fun q => hb (by rw [q]; exact ha))]; exact h.1 b hb h9, fun k hk => by rw [sI_ne h5]; exact h.2.1 k hk, h.2.2⟩
theorem fq_s5 {A F : List Nat} {σ σ' : am_S} {k : Nat} {z : Int} (h : fq_ A F σ σ') (hk : k ∈ F) : fq_ A F σ (am_sI σ' 135 (am_up (σ'.1 135) k z)) :=
  ⟨fun b hb h9 => by rw [sI_ne h9]; exact h.1 b hb h9, fun j hj => by rw [sI_at, am_up_ne (fun q => hj (by rw [q]; exact hk))]; exact h.2.1 j hj, h.2.2⟩
theorem fq_tr {A F A' F' : List Nat} {σ σ1 σ2 : am_S} (h1 : fq_ A F σ σ1) (h2 : fq_ A' F' σ1 σ2) (hA : ∀ a, a ∈ A' → a ∈ A) (hF : ∀ a, a ∈ F' → a ∈ F) : fq_ A F σ σ2 :=
  ⟨fun b hb h9 => by rw [h2.1 b (fun q => hb (hA b q)) h9, h1.1 b hb h9], fun k hk => by rw [h2.2.1 k (fun q => hk (hF k q)), h1.2.1 k hk], by rw [h2.2.2, h1.2.2]⟩
theorem fq_fr {l A F : List Nat} {σ σ' : am_S} (h : fr_ l σ σ') (h5 : 135 ∉ l) (hA : ∀ a, a ∈ l → a ∈ A) : fq_ A F σ σ' :=
  ⟨fun b hb _ => h.1 b (fun q => hb (hA b q)), fun k _ => by rw [h.1 135 h5], h.2⟩
def tm_f : List Nat := [18, 21, 50, 51, 52, 53, 54, 55, 60]
def tm_a : List Nat := [140, 141, 151, 152, 153, 154, 155, 156, 158, 162]
theorem TM_.fq {T : sp_T} {σ σ1 : am_S} {A F : List Nat} (h : TM_ T σ) (hf : fq_ A F σ σ1) (hA : ∀ a, a ∈ tm_a → a ∉ A) (hF : ∀ a, a ∈ tm_f → a ∉ F) : TM_ T σ1 := by
  unfold TM_
  rw [hf.1 140 (hA _ (by decide)) (by decide), hf.1 141 (hA _ (by decide)) (by decide), hf.1 151 (hA _ (by decide)) (by decide), hf.1 152 (hA _ (by decide)) (by decide), hf.1 153 (hA _ (by decide)) (by decide), hf.1 154 (hA _ (by decide)) (by decide), hf.1 155 (hA _ (by decide)) (by decide), hf.1 156 (hA _ (by decide)) (by decide), hf.1 158 (hA _ (by decide)) (by decide), hf.1 162 (hA _ (by decide)) (by decide), hf.2.1 18 (hF _ (by decide)), hf.2.1 21 (hF _ (by decide)), hf.2.1 50 (hF _ (by decide)), hf.2.1 51 (hF _ (by decide)), hf.2.1 52 (hF _ (by decide)), hf.2.1 53 (hF _ (by decide)), hf.2.1 54 (hF _ (by decide)), hf.2.1 55 (hF _ (by decide)), hf.2.1 60 (hF _ (by decide))]
  exact h
/-- the reference's kept rows: a that can be undone, b that can be done again; hs tells them all, hs a is now -/
def MH_ (a b : Nat) (hs : Nat → sp_V) (σ : am_S) : Prop := σ.1 135 64 = (a : Int) ∧ σ.1 135 65 = (b : Int) ∧ a + b ≤ 40 ∧ (∀ i j, i < a → j < 50 → σ.1 165 (50 * i + j) = hs i j) ∧ (∀ i j, i < b → j < 50 → σ.1 165 (50 * (a + i) + j) = hs (a + 1 + i) j) ∧ ∀ j, j < 50 → σ.1 163 j = hs a j
def ha_ (a : Nat) : Nat := if a = 40 then 40 else a + 1
def hk_ (a : Nat) (hs : Nat → sp_V) (r : sp_V) (i : Nat) : sp_V := if i < ha_ a then hs (if a = 40 then i + 1 else i) else r
/-- behind act(): the old row is kept, now is still as it was -/
def MA_ (a : Nat) (hs : Nat → sp_V) (σ : am_S) : Prop := σ.1 135 64 = (ha_ a : Int) ∧ σ.1 135 65 = 0 ∧ ha_ a ≤ 40 ∧ ∀ i j, i < ha_ a → j < 50 → σ.1 165 (50 * i + j) = hs (if a = 40 then i + 1 else i) j
theorem MA_.mh {a : Nat} {hs : Nat → sp_V} {σ : am_S} {r : sp_V} (h : MA_ a hs σ) (hr : ∀ j, j < 50 → σ.1 163 j = r j) : MH_ (ha_ a) 0 (hk_ a hs r) σ := by
  refine ⟨h.1, h.2.1, by have := h.2.2.1; omega, fun i j hi hj => ?_, fun i j hi => absurd hi (by omega), fun j hj => ?_⟩
  · rw [h.2.2.2 i j hi hj]
    unfold hk_
    rw [if_pos hi]
  · rw [hr j hj]
    unfold hk_
    rw [if_neg (by omega)]
theorem MA_.fq {a : Nat} {hs : Nat → sp_V} {σ σ' : am_S} {A F : List Nat} (h : MA_ a hs σ) (hf : fq_ A F σ σ') (h1 : 165 ∉ A) (h2 : 64 ∉ F) (h3 : 65 ∉ F) : MA_ a hs σ' := by
  unfold MA_
  rw [hf.2.1 64 h2, hf.2.1 65 h3, hf.1 165 h1 (by decide)]
  exact h
def cd_ (w g : Nat → Int) (D k : Nat) : Nat → Int := fun j => if D ≤ j ∧ j < D + k then w (j - D) else g j
theorem cd_0 (w g : Nat → Int) (D : Nat) : cd_ w g D 0 = g := by
  funext j
  unfold cd_
  rw [if_neg (by omega)]
theorem cd_step (w g : Nat → Int) (D k : Nat) : am_up (cd_ w g D k) (D + k) (w k) = cd_ w g D (k + 1) := by
  funext j
  unfold cd_
  by_cases h : j = D + k
  · subst h; rw [am_up_same, if_pos (by omega), show D + k - D = k by omega]
  · rw [am_up_ne h]
    by_cases h2 : D ≤ j ∧ j < D + k
    · rw [if_pos h2, if_pos (by omega)]
    · rw [if_neg h2, if_neg (by omega)]
theorem cd_in {w g : Nat → Int} {D k j : Nat} (h : j < k) : cd_ w g D k (D + j) = w j := by
  unfold cd_
  rw [if_pos (by omega), show D + j - D = j by omega]
theorem cd_out {w g : Nat → Int} {D k j : Nat} (h : j < D ∨ D + k ≤ j) : cd_ w g D k j = g j := by
  unfold cd_
  rw [if_neg (by omega)]
theorem cp_out {w g : Nat → Int} {k j : Nat} (h : k ≤ j) : cp_ w g k j = g j := if_neg (by omega)
theorem xx_ (σ : am_S) (f g : Nat → Int) (i j : Nat) (x y : Int) : am_sI (am_sI σ 165 (am_up f i x)) 163 (am_up g j y) = am_sI (am_sI (am_sI (am_sI σ 165 f) 163 g) 165 (am_up ((am_sI (am_sI σ 165 f) 163 g).1 165) i x)) 163 (am_up ((am_sI (am_sI (am_sI σ 165 f) 163 g) 165 (am_up ((am_sI (am_sI σ 165 f) 163 g).1 165) i x)).1 163) j y) := by
  have e1 : (am_sI (am_sI σ 165 f) 163 g).1 165 = f := by rw [sI_ne (by decide), sI_at]
  have e2 : (am_sI (am_sI (am_sI σ 165 f) 163 g) 165 (am_up ((am_sI (am_sI σ 165 f) 163 g).1 165) i x)).1 163 = g := by rw [sI_ne (by decide), sI_at]
  rw [e2, e1]
  refine Prod.ext (funext fun b => ?_) rfl
  by_cases h1 : b = 163
  · subst h1; rw [sI_at, sI_at]
  · rw [sI_ne h1, sI_ne h1]
    by_cases h2 : b = 165
    · subst h2; rw [sI_at, sI_at]
    · rw [sI_ne h2, sI_ne h2, sI_ne h1, sI_ne h2]

theorem l_act1 {d : Nat} {σ : am_S}  {Q : Option am_V → am_S → Prop} (hQ : aW d 4 k_X9_act Q 39 [some (am_R 135), some (am_I ((1950 : Nat) : Int))] [] (am_sI σ 165 (cp_ (fun j => σ.1 165 (50 + j)) (σ.1 165) 1950))) : ∀ (m k : Nat), k + m = 1950 → aW d 4 k_X9_act Q 11 [some (am_R 135), some (am_I ((k : Nat) : Int))] [] (am_sI σ 165 (cp_ (fun j => σ.1 165 (50 + j)) (σ.1 165) k)) := by
  intro m
  induction m with
  | zero =>
    intro k hk
    obtain rfl : k = 1950 := by omega
    refine ax_load (q := 12) rfl rfl rfl rfl rfl ?_
    refine ax_const (q := 15) (v := am_I 1950) rfl rfl rfl ?_
    refine ax_icmp_ge (q := 18) (x := 39) rfl rfl (fun h15 => ?_) (fun h => absurd h (by omega))
    exact hQ
  | succ m ih =>
    intro k hk
    refine ax_load (q := 12) rfl rfl rfl rfl rfl ?_
    refine ax_const (q := 15) (v := am_I 1950) rfl rfl rfl ?_
    refine ax_icmp_ge (q := 18) (x := 39) rfl rfl (fun h => absurd h (by omega)) (fun h15 => ?_)
    refine ax_load (q := 19) rfl rfl rfl rfl rfl ?_
    refine ax_getf (q := 22) (v := am_R 165) rfl rfl (rfl) ?_
    refine ax_load (q := 23) rfl rfl rfl rfl rfl ?_
    refine ax_load (q := 24) rfl rfl rfl rfl rfl ?_
    refine ax_getf (q := 27) (v := am_R 165) rfl rfl (rfl) ?_
    refine ax_const (q := 29) (v := am_I 50) rfl rfl rfl ?_
    refine ax_load (q := 30) rfl rfl rfl rfl rfl ?_
    refine ax_iadd (q := 31) (z := ((50 + k : Nat) : Int)) rfl rfl (am_we (by omega) (by omega) (by omega)) ?_
    refine bx_iald (q := 32) (k := 50 + k) (z := σ.1 165 (50 + k)) rfl rfl (rfl) (by omega) (by omega) (by rw [sI_at, cp_out (by omega)]) ?_
    refine bx_iast (q := 33) (k := k) rfl rfl (rfl) (by omega) (by omega) ?_
    refine ax_iinc (q := 36) (z' := ((k + 1 : Nat) : Int)) (L' := [some (am_R 135), some (am_I ((k + 1 : Nat) : Int))]) rfl rfl rfl rfl (am_we (by omega) (by omega) (by omega)) rfl ?_
    refine ax_goto (x := 11) rfl ?_
    rw [sI_sI, sI_at]
    have g := ih (k + 1) (by omega)
    rw [← cp_step] at g
    exact g

theorem l_act2 {d : Nat} {σ : am_S} {a : Nat} (ha : σ.1 135 64 = (a : Int)) (ha4 : a < 40) {Q : Option am_V → am_S → Prop} (hQ : aW d 4 k_X9_act Q 83 [some (am_R 135), some (am_I ((50 : Nat) : Int))] [] (am_sI σ 165 (cd_ (σ.1 163) (σ.1 165) (50 * a) 50))) : ∀ (m k : Nat), k + m = 50 → aW d 4 k_X9_act Q 51 [some (am_R 135), some (am_I ((k : Nat) : Int))] [] (am_sI σ 165 (cd_ (σ.1 163) (σ.1 165) (50 * a) k)) := by
  intro m
  induction m with
  | zero =>
    intro k hk
    obtain rfl : k = 50 := by omega
    refine ax_load (q := 52) rfl rfl rfl rfl rfl ?_
    refine ax_const (q := 54) (v := am_I 50) rfl rfl rfl ?_
    refine ax_icmp_ge (q := 57) (x := 83) rfl rfl (fun h54 => ?_) (fun h => absurd h (by omega))
    exact hQ
  | succ m ih =>
    intro k hk
    refine ax_load (q := 52) rfl rfl rfl rfl rfl ?_
    refine ax_const (q := 54) (v := am_I 50) rfl rfl rfl ?_
    refine ax_icmp_ge (q := 57) (x := 83) rfl rfl (fun h => absurd h (by omega)) (fun h54 => ?_)
    refine ax_load (q := 58) rfl rfl rfl rfl rfl ?_
    refine ax_getf (q := 61) (v := am_R 165) rfl rfl (rfl) ?_
    refine ax_const (q := 63) (v := am_I 50) rfl rfl rfl ?_
    refine ax_load (q := 64) rfl rfl rfl rfl rfl ?_
    refine ax_getf (q := 67) (v := am_I ((a : Nat) : Int)) rfl rfl (am_fg rfl ((congrFun (sI_ne (by decide)) _).trans ha)) ?_
    refine ax_imul (q := 68) (z := ((50 * a : Nat) : Int)) rfl rfl (am_we (by omega) (by omega) (by omega)) ?_
    refine ax_load (q := 69) rfl rfl rfl rfl rfl ?_
    refine ax_iadd (q := 70) (z := ((50 * a + k : Nat) : Int)) rfl rfl (am_we (by omega) (by omega) (by omega)) ?_
    refine ax_load (q := 71) rfl rfl rfl rfl rfl ?_
    refine ax_getf (q := 74) (v := am_R 163) rfl rfl (rfl) ?_
    refine ax_load (q := 75) rfl rfl rfl rfl rfl ?_
    refine bx_iald (q := 76) (k := k) (z := σ.1 163 k) rfl rfl (rfl) (by omega) (by omega) (congrFun (sI_ne (by decide)) _) ?_
    refine bx_iast (q := 77) (k := 50 * a + k) rfl rfl (rfl) (by omega) (by omega) ?_
    refine ax_iinc (q := 80) (z' := ((k + 1 : Nat) : Int)) (L' := [some (am_R 135), some (am_I ((k + 1 : Nat) : Int))]) rfl rfl rfl rfl (am_we (by omega) (by omega) (by omega)) rfl ?_
    refine ax_goto (x := 51) rfl ?_
    rw [sI_sI, sI_at]
    have g := ih (k + 1) (by omega)
    rw [← cd_step] at g
    exact g

theorem m_act {d : Nat} (hd : 1 ≤ d) {σ : am_S} {a b : Nat} {hs : Nat → sp_V} (hH : MH_ a b hs σ) {Q : Option am_V → am_S → Prop} (hQ : ∀ σ', fq_ [165] [64, 65] σ σ' → MA_ a hs σ' → Q none σ') : am_Ev d 207 [am_R 135] σ Q := by
  obtain ⟨d, rfl⟩ : ∃ e, d = e + 1 := ⟨d - 1, by omega⟩
  obtain ⟨k1, k2, k3, k4, k5, k6⟩ := hH
  refine ev_in (m := 207) (c := k_X9_act) (L := [some (am_R 135), none]) rfl rfl rfl rfl rfl rfl ?_
  by_cases h40 : a = 40
  · subst h40
    refine ax_load (q := 1) rfl rfl rfl rfl rfl ?_
    refine ax_getf (q := 4) (v := am_I ((40 : Nat) : Int)) rfl rfl (am_fg rfl k1) ?_
    refine ax_const (q := 6) (v := am_I 40) rfl rfl rfl ?_
    refine ax_icmp_ne (q := 9) (x := 49) rfl rfl (fun h => absurd h (by omega)) (fun h6 => ?_)
    refine ax_const (q := 10) (v := am_I 0) rfl rfl rfl ?_
    refine ax_store (q := 11) (L' := [some (am_R 135), some (am_I 0)]) rfl rfl rfl rfl rfl rfl ?_
    have g := l_act1 (d := d) (Q := Q) (σ := σ) ?_ 1950 0 (by omega)
    · rw [cp_0, sI_id] at g
      exact g
    refine ax_load (q := 40) rfl rfl rfl rfl rfl ?_
    refine ax_dup (q := 41) rfl rfl rfl ?_
    refine ax_getf (q := 44) (v := am_I ((40 : Nat) : Int)) rfl rfl (am_fg rfl ((congrFun (sI_ne (by decide)) _).trans k1)) ?_
    refine ax_const (q := 45) (v := am_I 1) rfl rfl rfl ?_
    refine ax_isub (q := 46) (z := ((39 : Nat) : Int)) rfl rfl (am_we (by omega) (by omega) (by omega)) ?_
    refine ax_putf (q := 49) rfl rfl rfl ?_
    refine ax_const (q := 50) (v := am_I 0) rfl rfl rfl ?_
    refine ax_store (q := 51) (L' := [some (am_R 135), some (am_I 0)]) rfl rfl rfl rfl rfl rfl ?_
    have hacts : (am_sI (am_sI σ 165 (cp_ (fun j => σ.1 165 (50 + j)) (σ.1 165) 1950)) 135 (am_up ((am_sI σ 165 (cp_ (fun j => σ.1 165 (50 + j)) (σ.1 165) 1950)).1 135) 64 ((39 : Nat) : Int))).1 135 64 = ((39 : Nat) : Int) := by rw [sI_at, am_up_same]
    have g := l_act2 (d := d) (Q := Q) (σ := (am_sI (am_sI σ 165 (cp_ (fun j => σ.1 165 (50 + j)) (σ.1 165) 1950)) 135 (am_up ((am_sI σ 165 (cp_ (fun j => σ.1 165 (50 + j)) (σ.1 165) 1950)).1 135) 64 ((39 : Nat) : Int)))) (a := 39) hacts (by omega) ?_ 50 0 (by omega)
    · rw [cd_0, sI_id] at g
      exact g
    refine ax_load (q := 84) rfl rfl rfl rfl rfl ?_
    refine ax_dup (q := 85) rfl rfl rfl ?_
    refine ax_getf (q := 88) (v := am_I ((39 : Nat) : Int)) rfl rfl (am_fg rfl ((congrFun (sI_ne (by decide)) _).trans hacts)) ?_
    refine ax_const (q := 89) (v := am_I 1) rfl rfl rfl ?_
    refine ax_iadd (q := 90) (z := ((40 : Nat) : Int)) rfl rfl (am_we (by omega) (by omega) (by omega)) ?_
    refine ax_putf (q := 93) rfl rfl rfl ?_
    refine ax_load (q := 94) rfl rfl rfl rfl rfl ?_
    refine ax_const (q := 95) (v := am_I 0) rfl rfl rfl ?_
    refine ax_putf (q := 98) rfl rfl rfl ?_
    refine ax_ret (r := none) rfl rfl ?_
    refine hQ _ (fq_s5 (fq_s5 (fq_sI (fq_s5 (fq_sI (fq_rf _ _ _) (by decide) (by decide)) (by decide)) (by decide) (by decide)) (by decide)) (by decide)) ⟨by simp [am_sI, am_up, ha_], by simp [am_sI, am_up], by decide, fun i j hi hj => ?_⟩
    rw [sI_ne (by decide), sI_ne (by decide), sI_at, if_pos rfl]
    have hi : i < 40 := hi
    by_cases hi9 : i = 39
    · subst hi9
      rw [cd_in hj, sI_ne (by decide), sI_ne (by decide)]
      exact k6 j hj
    · rw [cd_out (by omega), sI_ne (by decide), sI_at, cp_at (by omega), show 50 + (50 * i + j) = 50 * (i + 1) + j by omega]
      exact k4 (i + 1) j (by omega) hj
  · have ha4 : a < 40 := by omega
    have hacts := k1
    refine ax_load (q := 1) rfl rfl rfl rfl rfl ?_
    refine ax_getf (q := 4) (v := am_I ((a : Nat) : Int)) rfl rfl (am_fg rfl k1) ?_
    refine ax_const (q := 6) (v := am_I 40) rfl rfl rfl ?_
    refine ax_icmp_ne (q := 9) (x := 49) rfl rfl (fun h6 => ?_) (fun h => absurd h (by omega))
    refine ax_const (q := 50) (v := am_I 0) rfl rfl rfl ?_
    refine ax_store (q := 51) (L' := [some (am_R 135), some (am_I 0)]) rfl rfl rfl rfl rfl rfl ?_
    have g := l_act2 (d := d) (Q := Q) (σ := σ) (a := a) k1 (by omega) ?_ 50 0 (by omega)
    · rw [cd_0, sI_id] at g
      exact g
    refine ax_load (q := 84) rfl rfl rfl rfl rfl ?_
    refine ax_dup (q := 85) rfl rfl rfl ?_
    refine ax_getf (q := 88) (v := am_I ((a : Nat) : Int)) rfl rfl (am_fg rfl ((congrFun (sI_ne (by decide)) _).trans hacts)) ?_
    refine ax_const (q := 89) (v := am_I 1) rfl rfl rfl ?_
    refine ax_iadd (q := 90) (z := ((a + 1 : Nat) : Int)) rfl rfl (am_we (by omega) (by omega) (by omega)) ?_
    refine ax_putf (q := 93) rfl rfl rfl ?_
    refine ax_load (q := 94) rfl rfl rfl rfl rfl ?_
    refine ax_const (q := 95) (v := am_I 0) rfl rfl rfl ?_
    refine ax_putf (q := 98) rfl rfl rfl ?_
    refine ax_ret (r := none) rfl rfl ?_
    refine hQ _ (fq_s5 (fq_s5 (fq_sI (fq_rf _ _ _) (by decide) (by decide)) (by decide)) (by decide)) ⟨by simp [am_sI, am_up, ha_, h40], by simp [am_sI, am_up], by unfold ha_; rw [if_neg h40]; omega, fun i j hi hj => ?_⟩
    rw [sI_ne (by decide), sI_ne (by decide), sI_at, if_neg h40]
    have hi : i < a + 1 := by unfold ha_ at hi; rwa [if_neg h40] at hi
    by_cases hi9 : i = a
    · subst hi9
      rw [cd_in hj]
      exact k6 j hj
    · rw [cd_out (by omega)]
      exact k4 i j (by omega) hj

theorem l_exchange {d : Nat} {σ : am_S} {f : Nat} (hf : f ≤ 1950) {Q : Option am_V → am_S → Prop} (hQ : Q none (am_sI (am_sI σ 165 (cd_ (σ.1 163) (σ.1 165) f 50)) 163 (cp_ (fun j => σ.1 165 (f + j)) (σ.1 163) 50))) : ∀ (m k : Nat) (o4 : Option am_V), k + m = 50 → aW d 4 k_X9_exchange Q 2 [some (am_R 135), some (am_I ((f : Nat) : Int)), some (am_I ((k : Nat) : Int)), o4] [] (am_sI (am_sI σ 165 (cd_ (σ.1 163) (σ.1 165) f k)) 163 (cp_ (fun j => σ.1 165 (f + j)) (σ.1 163) k)) := by
  intro m
  induction m with
  | zero =>
    intro k o4 hk
    obtain rfl : k = 50 := by omega
    refine ax_load (q := 3) rfl rfl rfl rfl rfl ?_
    refine ax_const (q := 5) (v := am_I 50) rfl rfl rfl ?_
    refine ax_icmp_ge (q := 8) (x := 44) rfl rfl (fun h5 => ?_) (fun h => absurd h (by omega))
    refine ax_ret (r := none) rfl rfl ?_
    exact hQ
  | succ m ih =>
    intro k o4 hk
    refine ax_load (q := 3) rfl rfl rfl rfl rfl ?_
    refine ax_const (q := 5) (v := am_I 50) rfl rfl rfl ?_
    refine ax_icmp_ge (q := 8) (x := 44) rfl rfl (fun h => absurd h (by omega)) (fun h5 => ?_)
    refine ax_load (q := 9) rfl rfl rfl rfl rfl ?_
    refine ax_getf (q := 12) (v := am_R 165) rfl rfl (rfl) ?_
    refine ax_load (q := 13) rfl rfl rfl rfl rfl ?_
    refine ax_load (q := 14) rfl rfl rfl rfl rfl ?_
    refine ax_iadd (q := 15) (z := ((f + k : Nat) : Int)) rfl rfl (am_we (by omega) (by omega) (by omega)) ?_
    refine bx_iald (q := 16) (k := f + k) (z := σ.1 165 (f + k)) rfl rfl (rfl) (by omega) (by omega) (by rw [sI_ne (by decide), sI_at, cd_out (by omega)]) ?_
    refine ax_store (q := 17) (L' := [some (am_R 135), some (am_I ((f : Nat) : Int)), some (am_I ((k : Nat) : Int)), some (am_I (σ.1 165 (f + k)))]) rfl rfl rfl rfl rfl rfl ?_
    refine ax_load (q := 18) rfl rfl rfl rfl rfl ?_
    refine ax_getf (q := 21) (v := am_R 165) rfl rfl (rfl) ?_
    refine ax_load (q := 22) rfl rfl rfl rfl rfl ?_
    refine ax_load (q := 23) rfl rfl rfl rfl rfl ?_
    refine ax_iadd (q := 24) (z := ((f + k : Nat) : Int)) rfl rfl (am_we (by omega) (by omega) (by omega)) ?_
    refine ax_load (q := 25) rfl rfl rfl rfl rfl ?_
    refine ax_getf (q := 28) (v := am_R 163) rfl rfl (rfl) ?_
    refine ax_load (q := 29) rfl rfl rfl rfl rfl ?_
    refine bx_iald (q := 30) (k := k) (z := σ.1 163 k) rfl rfl (rfl) (by omega) (by omega) (by rw [sI_at, cp_out (by omega)]) ?_
    refine bx_iast (q := 31) (k := f + k) rfl rfl (rfl) (by omega) (by omega) ?_
    refine ax_load (q := 32) rfl rfl rfl rfl rfl ?_
    refine ax_getf (q := 35) (v := am_R 163) rfl rfl (rfl) ?_
    refine ax_load (q := 36) rfl rfl rfl rfl rfl ?_
    refine ax_load (q := 37) rfl rfl rfl rfl rfl ?_
    refine bx_iast (q := 38) (k := k) rfl rfl (rfl) (by omega) (by omega) ?_
    refine ax_iinc (q := 41) (z' := ((k + 1 : Nat) : Int)) (L' := [some (am_R 135), some (am_I ((f : Nat) : Int)), some (am_I ((k + 1 : Nat) : Int)), some (am_I (σ.1 165 (f + k)))]) rfl rfl rfl rfl (am_we (by omega) (by omega) (by omega)) rfl ?_
    refine ax_goto (x := 2) rfl ?_
    have g := ih (k + 1) (some (am_I (σ.1 165 (f + k)))) (by omega)
    rw [← cd_step, ← cp_step] at g
    refine Eq.mp (congrArg (fun s => aW d _ k_X9_exchange Q 2 _ [] s) ?_) g
    exact xx_ σ _ _ _ _ _ _

theorem m_exchange {d : Nat} (hd : 1 ≤ d) {σ : am_S} {f : Nat} (hf : f ≤ 1950) {Q : Option am_V → am_S → Prop} (hQ : Q (none) (am_sI (am_sI σ 165 (cd_ (σ.1 163) (σ.1 165) f 50)) 163 (cp_ (fun j => σ.1 165 (f + j)) (σ.1 163) 50))) : am_Ev d 208 [am_R 135, am_I ((f : Nat) : Int)] σ Q := by
  obtain ⟨d, rfl⟩ : ∃ e, d = e + 1 := ⟨d - 1, by omega⟩
  refine ev_in (m := 208) (c := k_X9_exchange) (L := [some (am_R 135), some (am_I ((f : Nat) : Int)), none, none]) rfl rfl rfl rfl rfl rfl ?_
  refine ax_const (q := 1) (v := am_I 0) rfl rfl rfl ?_
  refine ax_store (q := 2) (L' := [some (am_R 135), some (am_I ((f : Nat) : Int)), some (am_I 0), none]) rfl rfl rfl rfl rfl rfl ?_
  have g := l_exchange (d := d) hf hQ 50 0 none (by omega)
  rw [cd_0, cp_0, sI_id, sI_id] at g
  exact g

theorem m_prepare {d : Nat} (hd : 4 ≤ d) {σ : am_S} {T : sp_T} (hT : TM_ T σ) (hV : TV_ T) {b : Int} {w : sp_V} (hw : σ.1 163 = w) (hW : VV_ T b w) (hb9 : b ≤ 100000) {a e : Nat} {hs : Nat → sp_V} (hH : MH_ a e hs σ) {x s : Int} {Q : Option am_V → am_S → Prop} (hN : (sn_ T w x && (decide (s = -1) || inr_ (nS_ T) s)) = false → Q (some (am_I (-2))) σ) (hY : (sn_ T w x && (decide (s = -1) || inr_ (nS_ T) s)) = true → ∀ σ', fq_ [163, 165] [64, 65] σ σ' → MH_ (ha_ a) 0 (hk_ a hs (am_up w (18 + x.toNat) s)) σ' → Q (some (am_I (w (18 + x.toNat)))) σ') : am_Ev d 211 [am_R 135, am_I x, am_I s] σ Q := by
  obtain ⟨d, rfl⟩ : ∃ e, d = e + 1 := ⟨d - 1, by omega⟩
  have h6 := hV.nP
  have hO := hV.nO
  have hS := hV.nS
  have hR := hV.nR
  refine ev_in (m := 211) (c := k_X9_prepare) (L := [some (am_R 135), some (am_I x), some (am_I s), none]) rfl rfl rfl rfl rfl rfl ?_
  refine ax_load (q := 1) rfl rfl rfl rfl rfl ?_
  refine ax_load (q := 2) rfl rfl rfl rfl rfl ?_
  refine ax_callv (q := 5) rfl rfl rfl rfl rfl rfl ?_
  refine m_isShutNow (by omega) hT hV hw ?_
  refine ax_if_eq (q := 8) (x := 21) rfl rfl (fun h5 => ?_) (fun h5 => ?_)
  · have hb5 := it_0 h5
    refine ax_const (q := 23) (v := am_I (-2)) rfl rfl rfl ?_
    refine ax_ret (r := some (am_I (-2))) rfl rfl ?_
    exact hN (by first | (unfold inr_ at *; simp [*]; done) | simp [*])
  · have hb5 := it_n0 h5
    obtain ⟨p, rfl, hp, hsp⟩ := sn_t hb5
    refine ax_load (q := 9) rfl rfl rfl rfl rfl ?_
    refine ax_const (q := 10) (v := am_I (-1)) rfl rfl rfl ?_
    refine ax_icmp_eq (q := 13) (x := 24) rfl rfl (fun h10 => ?_) (fun h10 => ?_)
    · refine ax_load (q := 25) rfl rfl rfl rfl rfl ?_
      refine ax_callv (q := 28) rfl rfl rfl rfl rfl rfl ?_
      refine m_act (by omega) hH (fun σ1 hf1 hA1 => ?_)
      have hT1 := hT.fq hf1 (by decide) (by decide)
      have hw1 : σ1.1 163 = w := (hf1.1 163 (by decide) (by decide)).trans hw
      refine ax_load (q := 29) rfl rfl rfl rfl rfl ?_
      refine ax_getf (q := 32) (v := am_R 163) rfl rfl (rfl) ?_
      refine ax_const (q := 34) (v := am_I 18) rfl rfl rfl ?_
      refine ax_load (q := 35) rfl rfl rfl rfl rfl ?_
      refine ax_iadd (q := 36) (z := ((18 + p : Nat) : Int)) rfl rfl (am_we (by omega) (by omega) (by omega)) ?_
      refine bx_iald (q := 37) (k := 18 + p) (z := w (18 + p)) rfl rfl (rfl) (by omega) (by omega) (congrFun hw1 _) ?_
      refine ax_store (q := 38) (L' := [some (am_R 135), some (am_I ((p : Nat) : Int)), some (am_I s), some (am_I (w (18 + p)))]) rfl rfl rfl rfl rfl rfl ?_
      refine ax_load (q := 39) rfl rfl rfl rfl rfl ?_
      refine ax_getf (q := 42) (v := am_R 163) rfl rfl (rfl) ?_
      refine ax_const (q := 44) (v := am_I 18) rfl rfl rfl ?_
      refine ax_load (q := 45) rfl rfl rfl rfl rfl ?_
      refine ax_iadd (q := 46) (z := ((18 + p : Nat) : Int)) rfl rfl (am_we (by omega) (by omega) (by omega)) ?_
      refine ax_load (q := 47) rfl rfl rfl rfl rfl ?_
      refine bx_iast (q := 48) (k := 18 + p) rfl rfl (rfl) (by omega) (by omega) ?_
      refine ax_load (q := 49) rfl rfl rfl rfl rfl ?_
      refine ax_ret (r := some (am_I (w (18 + p)))) rfl rfl ?_
      refine hY (by first | (unfold inr_ at *; simp [*]; done) | simp [*]) _ (fq_sI (fq_tr hf1 (fq_rf [] [] _) (by decide) (by decide) |> fun h => (⟨fun b hb h9 => h.1 b (fun q => hb (by revert q; simp; omega)) h9, h.2.1, h.2.2⟩ : fq_ [163, 165] [64, 65] σ σ1)) (by decide) (by decide)) (MA_.mh (MA_.fq hA1 (A := [163]) (F := []) (fq_sI (fq_rf [163] [] σ1) (by decide) (by decide)) (by decide) (by decide) (by decide)) (fun j hj => ?_))
      rw [sI_at]
      simp only [sI_at, hw1, Int.toNat_natCast]
    · refine ax_load (q := 14) rfl rfl rfl rfl rfl ?_
      refine ax_load (q := 15) rfl rfl rfl rfl rfl ?_
      refine ax_callv (q := 18) rfl rfl rfl rfl rfl rfl ?_
      refine m_isSkill (by omega) hT hV ?_
      refine ax_if_ne (q := 21) (x := 24) rfl rfl (fun h18 => ?_) (fun h18 => ?_)
      · have hb18 := it_n0 h18
        refine ax_load (q := 25) rfl rfl rfl rfl rfl ?_
        refine ax_callv (q := 28) rfl rfl rfl rfl rfl rfl ?_
        refine m_act (by omega) hH (fun σ1 hf1 hA1 => ?_)
        have hT1 := hT.fq hf1 (by decide) (by decide)
        have hw1 : σ1.1 163 = w := (hf1.1 163 (by decide) (by decide)).trans hw
        refine ax_load (q := 29) rfl rfl rfl rfl rfl ?_
        refine ax_getf (q := 32) (v := am_R 163) rfl rfl (rfl) ?_
        refine ax_const (q := 34) (v := am_I 18) rfl rfl rfl ?_
        refine ax_load (q := 35) rfl rfl rfl rfl rfl ?_
        refine ax_iadd (q := 36) (z := ((18 + p : Nat) : Int)) rfl rfl (am_we (by omega) (by omega) (by omega)) ?_
        refine bx_iald (q := 37) (k := 18 + p) (z := w (18 + p)) rfl rfl (rfl) (by omega) (by omega) (congrFun hw1 _) ?_
        refine ax_store (q := 38) (L' := [some (am_R 135), some (am_I ((p : Nat) : Int)), some (am_I s), some (am_I (w (18 + p)))]) rfl rfl rfl rfl rfl rfl ?_
        refine ax_load (q := 39) rfl rfl rfl rfl rfl ?_
        refine ax_getf (q := 42) (v := am_R 163) rfl rfl (rfl) ?_
        refine ax_const (q := 44) (v := am_I 18) rfl rfl rfl ?_
        refine ax_load (q := 45) rfl rfl rfl rfl rfl ?_
        refine ax_iadd (q := 46) (z := ((18 + p : Nat) : Int)) rfl rfl (am_we (by omega) (by omega) (by omega)) ?_
        refine ax_load (q := 47) rfl rfl rfl rfl rfl ?_
        refine bx_iast (q := 48) (k := 18 + p) rfl rfl (rfl) (by omega) (by omega) ?_
        refine ax_load (q := 49) rfl rfl rfl rfl rfl ?_
        refine ax_ret (r := some (am_I (w (18 + p)))) rfl rfl ?_
        refine hY (by first | (unfold inr_ at *; simp [*]; done) | simp [*]) _ (fq_sI (fq_tr hf1 (fq_rf [] [] _) (by decide) (by decide) |> fun h => (⟨fun b hb h9 => h.1 b (fun q => hb (by revert q; simp; omega)) h9, h.2.1, h.2.2⟩ : fq_ [163, 165] [64, 65] σ σ1)) (by decide) (by decide)) (MA_.mh (MA_.fq hA1 (A := [163]) (F := []) (fq_sI (fq_rf [163] [] σ1) (by decide) (by decide)) (by decide) (by decide) (by decide)) (fun j hj => ?_))
        rw [sI_at]
        simp only [sI_at, hw1, Int.toNat_natCast]
      · have hb18 := it_0 h18
        refine ax_const (q := 23) (v := am_I (-2)) rfl rfl rfl ?_
        refine ax_ret (r := some (am_I (-2))) rfl rfl ?_
        exact hN (by first | (unfold inr_ at *; simp [*]; done) | simp [*])

theorem m_steam {d : Nat} (hd : 4 ≤ d) {σ : am_S} {T : sp_T} (hT : TM_ T σ) (hV : TV_ T) {b : Int} {w : sp_V} (hw : σ.1 163 = w) (hW : VV_ T b w) (hb9 : b ≤ 100000) {a e : Nat} {hs : Nat → sp_V} (hH : MH_ a e hs σ) {x : Int} {Q : Option am_V → am_S → Prop} (hN : (inr_ (nP_ T) x && decide (w (12 + x.toNat) = 0)) = false → Q (some (am_I (-2))) σ) (hY : (inr_ (nP_ T) x && decide (w (12 + x.toNat) = 0)) = true → ∀ σ', fq_ [163, 165] [64, 65] σ σ' → MH_ (ha_ a) 0 (hk_ a hs (am_up w (12 + x.toNat) 1)) σ' → Q (some (am_I (w (6 + x.toNat)))) σ') : am_Ev d 212 [am_R 135, am_I x] σ Q := by
  obtain ⟨d, rfl⟩ : ∃ e, d = e + 1 := ⟨d - 1, by omega⟩
  have h6 := hV.nP
  have hO := hV.nO
  have hS := hV.nS
  have hR := hV.nR
  refine ev_in (m := 212) (c := k_X9_steam) (L := [some (am_R 135), some (am_I x)]) rfl rfl rfl rfl rfl rfl ?_
  refine ax_load (q := 1) rfl rfl rfl rfl rfl ?_
  refine ax_load (q := 2) rfl rfl rfl rfl rfl ?_
  refine ax_callv (q := 5) rfl rfl rfl rfl rfl rfl ?_
  refine m_isPerson (by omega) hT hV ?_
  refine ax_if_eq (q := 8) (x := 20) rfl rfl (fun h5 => ?_) (fun h5 => ?_)
  · have hb5 := it_0 h5
    refine ax_const (q := 22) (v := am_I (-2)) rfl rfl rfl ?_
    refine ax_ret (r := some (am_I (-2))) rfl rfl ?_
    exact hN (by first | (unfold inr_ at *; simp [*]; done) | simp [*])
  · have hb5 := it_n0 h5
    obtain ⟨p, rfl, hp⟩ := inr_t hb5
    refine ax_load (q := 9) rfl rfl rfl rfl rfl ?_
    refine ax_getf (q := 12) (v := am_R 163) rfl rfl (rfl) ?_
    refine ax_const (q := 14) (v := am_I 12) rfl rfl rfl ?_
    refine ax_load (q := 15) rfl rfl rfl rfl rfl ?_
    refine ax_iadd (q := 16) (z := ((12 + p : Nat) : Int)) rfl rfl (am_we (by omega) (by omega) (by omega)) ?_
    refine bx_iald (q := 17) (k := 12 + p) (z := w (12 + p)) rfl rfl (rfl) (by omega) (by omega) (congrFun hw _) ?_
    refine ax_if_eq (q := 20) (x := 23) rfl rfl (fun h17 => ?_) (fun h17 => ?_)
    · refine ax_load (q := 24) rfl rfl rfl rfl rfl ?_
      refine ax_callv (q := 27) rfl rfl rfl rfl rfl rfl ?_
      refine m_act (by omega) hH (fun σ1 hf1 hA1 => ?_)
      have hT1 := hT.fq hf1 (by decide) (by decide)
      have hw1 : σ1.1 163 = w := (hf1.1 163 (by decide) (by decide)).trans hw
      refine ax_load (q := 28) rfl rfl rfl rfl rfl ?_
      refine ax_getf (q := 31) (v := am_R 163) rfl rfl (rfl) ?_
      refine ax_const (q := 33) (v := am_I 12) rfl rfl rfl ?_
      refine ax_load (q := 34) rfl rfl rfl rfl rfl ?_
      refine ax_iadd (q := 35) (z := ((12 + p : Nat) : Int)) rfl rfl (am_we (by omega) (by omega) (by omega)) ?_
      refine ax_const (q := 36) (v := am_I 1) rfl rfl rfl ?_
      refine bx_iast (q := 37) (k := 12 + p) rfl rfl (rfl) (by omega) (by omega) ?_
      refine ax_load (q := 38) rfl rfl rfl rfl rfl ?_
      refine ax_getf (q := 41) (v := am_R 163) rfl rfl (rfl) ?_
      refine ax_const (q := 43) (v := am_I 6) rfl rfl rfl ?_
      refine ax_load (q := 44) rfl rfl rfl rfl rfl ?_
      refine ax_iadd (q := 45) (z := ((6 + p : Nat) : Int)) rfl rfl (am_we (by omega) (by omega) (by omega)) ?_
      refine bx_iald (q := 46) (k := 6 + p) (z := w (6 + p)) rfl rfl (rfl) (by omega) (by omega) (by rw [sI_at, am_up_ne (by omega), hw1]) ?_
      refine ax_ret (r := some (am_I (w (6 + p)))) rfl rfl ?_
      refine hY (by first | (unfold inr_ at *; simp [*]; done) | simp [*]) _ (fq_sI (fq_tr hf1 (fq_rf [] [] _) (by decide) (by decide) |> fun h => (⟨fun b hb h9 => h.1 b (fun q => hb (by revert q; simp; omega)) h9, h.2.1, h.2.2⟩ : fq_ [163, 165] [64, 65] σ σ1)) (by decide) (by decide)) (MA_.mh (MA_.fq hA1 (A := [163]) (F := []) (fq_sI (fq_rf [163] [] σ1) (by decide) (by decide)) (by decide) (by decide) (by decide)) (fun j hj => ?_))
      rw [sI_at]
      simp only [sI_at, hw1, Int.toNat_natCast]
    · refine ax_const (q := 22) (v := am_I (-2)) rfl rfl rfl ?_
      refine ax_ret (r := some (am_I (-2))) rfl rfl ?_
      exact hN (by first | (unfold inr_ at *; simp [*]; done) | simp [*])

theorem m_forge {d : Nat} (hd : 4 ≤ d) {σ : am_S} {T : sp_T} (hT : TM_ T σ) (hV : TV_ T) {b : Int} {w : sp_V} (hw : σ.1 163 = w) (hW : VV_ T b w) (hb9 : b ≤ 100000) {a e : Nat} {hs : Nat → sp_V} (hH : MH_ a e hs σ) {x o : Int} {Q : Option am_V → am_S → Prop} (hN : (sn_ T w x && inr_ (nO_ T) o) = false → Q (some (am_I (-2))) σ) (hY : (sn_ T w x && inr_ (nO_ T) o) = true → ∀ σ', fq_ [163, 165] [64, 65] σ σ' → MH_ (ha_ a) 0 (hk_ a hs (am_up (am_up w (6 + x.toNat) o) (12 + x.toNat) 1)) σ' → Q (some (am_I (w (6 + x.toNat)))) σ') : am_Ev d 214 [am_R 135, am_I x, am_I o] σ Q := by
  obtain ⟨d, rfl⟩ : ∃ e, d = e + 1 := ⟨d - 1, by omega⟩
  have h6 := hV.nP
  have hO := hV.nO
  have hS := hV.nS
  have hR := hV.nR
  refine ev_in (m := 214) (c := k_X9_forge) (L := [some (am_R 135), some (am_I x), some (am_I o), none]) rfl rfl rfl rfl rfl rfl ?_
  refine ax_load (q := 1) rfl rfl rfl rfl rfl ?_
  refine ax_load (q := 2) rfl rfl rfl rfl rfl ?_
  refine ax_callv (q := 5) rfl rfl rfl rfl rfl rfl ?_
  refine m_isShutNow (by omega) hT hV hw ?_
  refine ax_if_eq (q := 8) (x := 16) rfl rfl (fun h5 => ?_) (fun h5 => ?_)
  · have hb5 := it_0 h5
    refine ax_const (q := 18) (v := am_I (-2)) rfl rfl rfl ?_
    refine ax_ret (r := some (am_I (-2))) rfl rfl ?_
    exact hN (by first | (unfold inr_ at *; simp [*]; done) | simp [*])
  · have hb5 := it_n0 h5
    obtain ⟨p, rfl, hp, hsp⟩ := sn_t hb5
    refine ax_load (q := 9) rfl rfl rfl rfl rfl ?_
    refine ax_load (q := 10) rfl rfl rfl rfl rfl ?_
    refine ax_callv (q := 13) rfl rfl rfl rfl rfl rfl ?_
    refine m_isOrder (by omega) hT hV ?_
    refine ax_if_ne (q := 16) (x := 19) rfl rfl (fun h13 => ?_) (fun h13 => ?_)
    · have hb13 := it_n0 h13
      refine ax_load (q := 20) rfl rfl rfl rfl rfl ?_
      refine ax_callv (q := 23) rfl rfl rfl rfl rfl rfl ?_
      refine m_act (by omega) hH (fun σ1 hf1 hA1 => ?_)
      have hT1 := hT.fq hf1 (by decide) (by decide)
      have hw1 : σ1.1 163 = w := (hf1.1 163 (by decide) (by decide)).trans hw
      refine ax_load (q := 24) rfl rfl rfl rfl rfl ?_
      refine ax_getf (q := 27) (v := am_R 163) rfl rfl (rfl) ?_
      refine ax_const (q := 29) (v := am_I 6) rfl rfl rfl ?_
      refine ax_load (q := 30) rfl rfl rfl rfl rfl ?_
      refine ax_iadd (q := 31) (z := ((6 + p : Nat) : Int)) rfl rfl (am_we (by omega) (by omega) (by omega)) ?_
      refine bx_iald (q := 32) (k := 6 + p) (z := w (6 + p)) rfl rfl (rfl) (by omega) (by omega) (congrFun hw1 _) ?_
      refine ax_store (q := 33) (L' := [some (am_R 135), some (am_I ((p : Nat) : Int)), some (am_I o), some (am_I (w (6 + p)))]) rfl rfl rfl rfl rfl rfl ?_
      refine ax_load (q := 34) rfl rfl rfl rfl rfl ?_
      refine ax_getf (q := 37) (v := am_R 163) rfl rfl (rfl) ?_
      refine ax_const (q := 39) (v := am_I 6) rfl rfl rfl ?_
      refine ax_load (q := 40) rfl rfl rfl rfl rfl ?_
      refine ax_iadd (q := 41) (z := ((6 + p : Nat) : Int)) rfl rfl (am_we (by omega) (by omega) (by omega)) ?_
      refine ax_load (q := 42) rfl rfl rfl rfl rfl ?_
      refine bx_iast (q := 43) (k := 6 + p) rfl rfl (rfl) (by omega) (by omega) ?_
      refine ax_load (q := 44) rfl rfl rfl rfl rfl ?_
      refine ax_getf (q := 47) (v := am_R 163) rfl rfl (rfl) ?_
      refine ax_const (q := 49) (v := am_I 12) rfl rfl rfl ?_
      refine ax_load (q := 50) rfl rfl rfl rfl rfl ?_
      refine ax_iadd (q := 51) (z := ((12 + p : Nat) : Int)) rfl rfl (am_we (by omega) (by omega) (by omega)) ?_
      refine ax_const (q := 52) (v := am_I 1) rfl rfl rfl ?_
      refine bx_iast (q := 53) (k := 12 + p) rfl rfl (rfl) (by omega) (by omega) ?_
      refine ax_load (q := 54) rfl rfl rfl rfl rfl ?_
      refine ax_ret (r := some (am_I (w (6 + p)))) rfl rfl ?_
      refine hY (by first | (unfold inr_ at *; simp [*]; done) | simp [*]) _ (fq_sI (fq_sI (fq_tr hf1 (fq_rf [] [] _) (by decide) (by decide) |> fun h => (⟨fun b hb h9 => h.1 b (fun q => hb (by revert q; simp; omega)) h9, h.2.1, h.2.2⟩ : fq_ [163, 165] [64, 65] σ σ1)) (by decide) (by decide)) (by decide) (by decide)) (MA_.mh (MA_.fq hA1 (A := [163]) (F := []) (fq_sI (fq_sI (fq_rf [163] [] σ1) (by decide) (by decide)) (by decide) (by decide)) (by decide) (by decide) (by decide)) (fun j hj => ?_))
      rw [sI_at]
      simp only [sI_at, hw1, Int.toNat_natCast]
    · have hb13 := it_0 h13
      refine ax_const (q := 18) (v := am_I (-2)) rfl rfl rfl ?_
      refine ax_ret (r := some (am_I (-2))) rfl rfl ?_
      exact hN (by first | (unfold inr_ at *; simp [*]; done) | simp [*])

theorem m_swap {d : Nat} (hd : 4 ≤ d) {σ : am_S} {T : sp_T} (hT : TM_ T σ) (hV : TV_ T) {b : Int} {w : sp_V} (hw : σ.1 163 = w) (hW : VV_ T b w) (hb9 : b ≤ 100000) {a e : Nat} {hs : Nat → sp_V} (hH : MH_ a e hs σ) {x y : Int} {Q : Option am_V → am_S → Prop} (hN : (sn_ T w x && (sn_ T w y && decide (¬ x = y))) = false → Q (some (am_I (0))) σ) (hY : (sn_ T w x && (sn_ T w y && decide (¬ x = y))) = true → ∀ σ', fq_ [163, 165] [64, 65] σ σ' → MH_ (ha_ a) 0 (hk_ a hs (am_up (am_up (am_up (am_up w (6 + x.toNat) (w (6 + y.toNat))) (6 + y.toNat) (w (6 + x.toNat))) (12 + x.toNat) 0) (12 + y.toNat) 0)) σ' → Q (some (am_I (1))) σ') : am_Ev d 213 [am_R 135, am_I x, am_I y] σ Q := by
  obtain ⟨d, rfl⟩ : ∃ e, d = e + 1 := ⟨d - 1, by omega⟩
  have h6 := hV.nP
  have hO := hV.nO
  have hS := hV.nS
  have hR := hV.nR
  refine ev_in (m := 213) (c := k_X9_swap) (L := [some (am_R 135), some (am_I x), some (am_I y), none]) rfl rfl rfl rfl rfl rfl ?_
  refine ax_load (q := 1) rfl rfl rfl rfl rfl ?_
  refine ax_load (q := 2) rfl rfl rfl rfl rfl ?_
  refine ax_callv (q := 5) rfl rfl rfl rfl rfl rfl ?_
  refine m_isShutNow (by omega) hT hV hw ?_
  refine ax_if_eq (q := 8) (x := 21) rfl rfl (fun h5 => ?_) (fun h5 => ?_)
  · have hb5 := it_0 h5
    refine ax_const (q := 22) (v := am_I 0) rfl rfl rfl ?_
    refine ax_ret (r := some (am_I 0)) rfl ⟨rfl, Or.inl rfl⟩ ?_
    exact hN (by first | (unfold inr_ at *; simp [*]; done) | simp [*])
  · have hb5 := it_n0 h5
    obtain ⟨p, rfl, hp, hsp⟩ := sn_t hb5
    refine ax_load (q := 9) rfl rfl rfl rfl rfl ?_
    refine ax_load (q := 10) rfl rfl rfl rfl rfl ?_
    refine ax_callv (q := 13) rfl rfl rfl rfl rfl rfl ?_
    refine m_isShutNow (by omega) hT hV hw ?_
    refine ax_if_eq (q := 16) (x := 21) rfl rfl (fun h13 => ?_) (fun h13 => ?_)
    · have hb13 := it_0 h13
      refine ax_const (q := 22) (v := am_I 0) rfl rfl rfl ?_
      refine ax_ret (r := some (am_I 0)) rfl ⟨rfl, Or.inl rfl⟩ ?_
      exact hN (by first | (unfold inr_ at *; simp [*]; done) | simp [*])
    · have hb13 := it_n0 h13
      obtain ⟨q, rfl, hq, hsq⟩ := sn_t hb13
      refine ax_load (q := 17) rfl rfl rfl rfl rfl ?_
      refine ax_load (q := 18) rfl rfl rfl rfl rfl ?_
      refine ax_icmp_ne (q := 21) (x := 23) rfl rfl (fun h18 => ?_) (fun h18 => ?_)
      · refine ax_load (q := 24) rfl rfl rfl rfl rfl ?_
        refine ax_callv (q := 27) rfl rfl rfl rfl rfl rfl ?_
        refine m_act (by omega) hH (fun σ1 hf1 hA1 => ?_)
        have hT1 := hT.fq hf1 (by decide) (by decide)
        have hw1 : σ1.1 163 = w := (hf1.1 163 (by decide) (by decide)).trans hw
        refine ax_load (q := 28) rfl rfl rfl rfl rfl ?_
        refine ax_getf (q := 31) (v := am_R 163) rfl rfl (rfl) ?_
        refine ax_const (q := 33) (v := am_I 6) rfl rfl rfl ?_
        refine ax_load (q := 34) rfl rfl rfl rfl rfl ?_
        refine ax_iadd (q := 35) (z := ((6 + p : Nat) : Int)) rfl rfl (am_we (by omega) (by omega) (by omega)) ?_
        refine bx_iald (q := 36) (k := 6 + p) (z := w (6 + p)) rfl rfl (rfl) (by omega) (by omega) (congrFun hw1 _) ?_
        refine ax_store (q := 37) (L' := [some (am_R 135), some (am_I ((p : Nat) : Int)), some (am_I ((q : Nat) : Int)), some (am_I (w (6 + p)))]) rfl rfl rfl rfl rfl rfl ?_
        refine ax_load (q := 38) rfl rfl rfl rfl rfl ?_
        refine ax_getf (q := 41) (v := am_R 163) rfl rfl (rfl) ?_
        refine ax_const (q := 43) (v := am_I 6) rfl rfl rfl ?_
        refine ax_load (q := 44) rfl rfl rfl rfl rfl ?_
        refine ax_iadd (q := 45) (z := ((6 + p : Nat) : Int)) rfl rfl (am_we (by omega) (by omega) (by omega)) ?_
        refine ax_load (q := 46) rfl rfl rfl rfl rfl ?_
        refine ax_getf (q := 49) (v := am_R 163) rfl rfl (rfl) ?_
        refine ax_const (q := 51) (v := am_I 6) rfl rfl rfl ?_
        refine ax_load (q := 52) rfl rfl rfl rfl rfl ?_
        refine ax_iadd (q := 53) (z := ((6 + q : Nat) : Int)) rfl rfl (am_we (by omega) (by omega) (by omega)) ?_
        refine bx_iald (q := 54) (k := 6 + q) (z := w (6 + q)) rfl rfl (rfl) (by omega) (by omega) (congrFun hw1 _) ?_
        refine bx_iast (q := 55) (k := 6 + p) rfl rfl (rfl) (by omega) (by omega) ?_
        refine ax_load (q := 56) rfl rfl rfl rfl rfl ?_
        refine ax_getf (q := 59) (v := am_R 163) rfl rfl (rfl) ?_
        refine ax_const (q := 61) (v := am_I 6) rfl rfl rfl ?_
        refine ax_load (q := 62) rfl rfl rfl rfl rfl ?_
        refine ax_iadd (q := 63) (z := ((6 + q : Nat) : Int)) rfl rfl (am_we (by omega) (by omega) (by omega)) ?_
        refine ax_load (q := 64) rfl rfl rfl rfl rfl ?_
        refine bx_iast (q := 65) (k := 6 + q) rfl rfl (rfl) (by omega) (by omega) ?_
        refine ax_load (q := 66) rfl rfl rfl rfl rfl ?_
        refine ax_getf (q := 69) (v := am_R 163) rfl rfl (rfl) ?_
        refine ax_const (q := 71) (v := am_I 12) rfl rfl rfl ?_
        refine ax_load (q := 72) rfl rfl rfl rfl rfl ?_
        refine ax_iadd (q := 73) (z := ((12 + p : Nat) : Int)) rfl rfl (am_we (by omega) (by omega) (by omega)) ?_
        refine ax_const (q := 74) (v := am_I 0) rfl rfl rfl ?_
        refine bx_iast (q := 75) (k := 12 + p) rfl rfl (rfl) (by omega) (by omega) ?_
        refine ax_load (q := 76) rfl rfl rfl rfl rfl ?_
        refine ax_getf (q := 79) (v := am_R 163) rfl rfl (rfl) ?_
        refine ax_const (q := 81) (v := am_I 12) rfl rfl rfl ?_
        refine ax_load (q := 82) rfl rfl rfl rfl rfl ?_
        refine ax_iadd (q := 83) (z := ((12 + q : Nat) : Int)) rfl rfl (am_we (by omega) (by omega) (by omega)) ?_
        refine ax_const (q := 84) (v := am_I 0) rfl rfl rfl ?_
        refine bx_iast (q := 85) (k := 12 + q) rfl rfl (rfl) (by omega) (by omega) ?_
        refine ax_const (q := 86) (v := am_I 1) rfl rfl rfl ?_
        refine ax_ret (r := some (am_I 1)) rfl ⟨rfl, Or.inr rfl⟩ ?_
        refine hY (by first | (unfold inr_ at *; simp [*]; done) | simp [*]) _ (fq_sI (fq_sI (fq_sI (fq_sI (fq_tr hf1 (fq_rf [] [] _) (by decide) (by decide) |> fun h => (⟨fun b hb h9 => h.1 b (fun q => hb (by revert q; simp; omega)) h9, h.2.1, h.2.2⟩ : fq_ [163, 165] [64, 65] σ σ1)) (by decide) (by decide)) (by decide) (by decide)) (by decide) (by decide)) (by decide) (by decide)) (MA_.mh (MA_.fq hA1 (A := [163]) (F := []) (fq_sI (fq_sI (fq_sI (fq_sI (fq_rf [163] [] σ1) (by decide) (by decide)) (by decide) (by decide)) (by decide) (by decide)) (by decide) (by decide)) (by decide) (by decide) (by decide)) (fun j hj => ?_))
        rw [sI_at]
        simp only [sI_at, hw1, Int.toNat_natCast]
      · refine ax_const (q := 22) (v := am_I 0) rfl rfl rfl ?_
        refine ax_ret (r := some (am_I 0)) rfl ⟨rfl, Or.inl rfl⟩ ?_
        exact hN (by first | (unfold inr_ at *; simp [*]; done) | simp [*])

theorem m_done {d : Nat} (hd : 1 ≤ d) {σ : am_S} {w : sp_V} (hw : σ.1 163 = w) {Q : Option am_V → am_S → Prop} (hQ : Q (some (am_I (w 48))) σ) : am_Ev d 206 [am_R 135] σ Q := by
  obtain ⟨d, rfl⟩ : ∃ e, d = e + 1 := ⟨d - 1, by omega⟩
  refine ev_in (m := 206) (c := k_X9_done) (L := [some (am_R 135)]) rfl rfl rfl rfl rfl rfl ?_
  refine ax_load (q := 1) rfl rfl rfl rfl rfl ?_
  refine ax_getf (q := 4) (v := am_R 163) rfl rfl (rfl) ?_
  refine ax_const (q := 6) (v := am_I 48) rfl rfl rfl ?_
  refine bx_iald (q := 7) (k := 48) (z := w 48) rfl rfl (rfl) (by omega) (by omega) (congrFun hw _) ?_
  refine ax_ret (r := some (am_I (w 48))) rfl rfl ?_
  exact hQ

theorem m_opens {d : Nat} (hd : 5 ≤ d) {σ : am_S} {T : sp_T} (hT : TM_ T σ) (hV : TV_ T) {b : Int} {w v : sp_V} (hw : σ.1 163 = w) (hv : v = cp_ w (σ.1 164) 50) (hW : VV_ T b w) (hb9 : b ≤ 100000) {a e : Nat} {hs : Nat → sp_V} (hH : MH_ a e hs σ) {x : Int} {Q : Option am_V → am_S → Prop} (hN : (sn_ T w x) = false → Q (some (am_I (-1))) σ) (hY : (sn_ T w x) = true → ∀ σ', fq_ [163, 164, 165] [64, 65] σ σ' → MH_ (ha_ a) 0 (hk_ a hs (op_ T v x.toNat)) σ' → Q (some (am_I (op_ T v x.toNat (12 + x.toNat)))) σ') : am_Ev d 215 [am_R 135, am_I x] σ Q := by
  obtain ⟨d, rfl⟩ : ∃ e, d = e + 1 := ⟨d - 1, by omega⟩
  have h6 := hV.nP
  have hO := hV.nO
  have hS := hV.nS
  have hR := hV.nR
  have hvw : ∀ j, j < 50 → v j = w j := fun j hj => by rw [hv]; exact cp_at hj
  have hW2 : VV_ T b v := hW.cg hV hvw
  refine ev_in (m := 215) (c := k_X9_opens) (L := [some (am_R 135), some (am_I x)]) rfl rfl rfl rfl rfl rfl ?_
  refine ax_load (q := 1) rfl rfl rfl rfl rfl ?_
  refine ax_load (q := 2) rfl rfl rfl rfl rfl ?_
  refine ax_callv (q := 5) rfl rfl rfl rfl rfl rfl ?_
  refine m_isShutNow (by omega) hT hV hw ?_
  refine ax_if_ne (q := 8) (x := 10) rfl rfl (fun h5 => ?_) (fun h5 => ?_)
  · have hb5 := it_n0 h5
    obtain ⟨p, rfl, hp, hsp⟩ := sn_t hb5
    refine ax_load (q := 11) rfl rfl rfl rfl rfl ?_
    refine ax_callv (q := 14) rfl rfl rfl rfl rfl rfl ?_
    refine m_act (by omega) hH (fun σ1 hf1 hA1 => ?_)
    have hT1 := hT.fq hf1 (by decide) (by decide)
    have hw1 : σ1.1 163 = w := (hf1.1 163 (by decide) (by decide)).trans hw
    refine ax_load (q := 15) rfl rfl rfl rfl rfl ?_
    refine ax_callv (q := 18) rfl rfl rfl rfl rfl rfl ?_
    refine m_load (by omega) ?_
    rw [hw1, hf1.1 164 (by decide) (by decide), ← hv]
    refine ax_load (q := 19) rfl rfl rfl rfl rfl ?_
    refine ax_load (q := 20) rfl rfl rfl rfl rfl ?_
    refine ax_callv (q := 23) rfl rfl rfl rfl rfl rfl ?_
    refine m_openOf (by omega) (hT1.sI (by decide)) hV (sI_at _ _ _) hW2 hp ?_
    refine ax_load (q := 24) rfl rfl rfl rfl rfl ?_
    refine ax_callv (q := 27) rfl rfl rfl rfl rfl rfl ?_
    refine m_keep (by omega) ?_
    refine ax_load (q := 28) rfl rfl rfl rfl rfl ?_
    refine ax_getf (q := 31) (v := am_R 163) rfl rfl (rfl) ?_
    refine ax_const (q := 33) (v := am_I 12) rfl rfl rfl ?_
    refine ax_load (q := 34) rfl rfl rfl rfl rfl ?_
    refine ax_iadd (q := 35) (z := ((12 + p : Nat) : Int)) rfl rfl (am_we (by omega) (by omega) (by omega)) ?_
    refine bx_iald (q := 36) (k := 12 + p) (z := op_ T v p (12 + p)) rfl rfl (rfl) (by omega) (by omega) (by rw [sI_at, cp_at (by omega), sI_at]) ?_
    refine ax_ret (r := some (am_I (op_ T v p (12 + p)))) rfl rfl ?_
    refine hY (by simp [*]) _ (fq_sI (fq_sI (fq_sI (⟨fun b hb h9 => hf1.1 b (fun q => hb (by revert q; simp; omega)) h9, hf1.2.1, hf1.2.2⟩ : fq_ [163, 164, 165] [64, 65] σ σ1) (by decide) (by decide)) (by decide) (by decide)) (by decide) (by decide)) (MA_.mh (MA_.fq hA1 (A := [163, 164]) (F := []) (fq_sI (fq_sI (fq_sI (fq_rf _ _ _) (by decide) (by decide)) (by decide) (by decide)) (by decide) (by decide)) (by decide) (by decide) (by decide)) (fun j hj => ?_))
    rw [sI_at, cp_at hj, sI_at]
    simp only [Int.toNat_natCast]
  · have hb5 := it_0 h5
    refine ax_const (q := 9) (v := am_I (-1)) rfl rfl rfl ?_
    refine ax_ret (r := some (am_I (-1))) rfl rfl ?_
    exact hN (by simp [*])

theorem m_year {d : Nat} (hd : 8 ≤ d) {σ : am_S} {T : sp_T} (hT : TM_ T σ) (hV : TV_ T) {b : Int} {w v : sp_V} (hw : σ.1 163 = w) (hv : v = cp_ w (σ.1 164) 50) (hW : VV_ T b w) (hb9 : b ≤ 100000) {a e : Nat} {hs : Nat → sp_V} (hH : MH_ a e hs σ)  {Q : Option am_V → am_S → Prop} (hN : (decide (¬ w 49 = 999)) = false → Q (some (am_I (-1))) σ) (hY : (decide (¬ w 49 = 999)) = true → ∀ σ', fq_ [143, 144, 163, 164, 165] [64, 65] σ σ' → MH_ (ha_ a) 0 (hk_ a hs (yr_ T v)) σ' → Q (some (am_I (((yo_ T v : Nat) : Int)))) σ') : am_Ev d 216 [am_R 135] σ Q := by
  obtain ⟨d, rfl⟩ : ∃ e, d = e + 1 := ⟨d - 1, by omega⟩
  have h6 := hV.nP
  have hO := hV.nO
  have hS := hV.nS
  have hR := hV.nR
  have hvw : ∀ j, j < 50 → v j = w j := fun j hj => by rw [hv]; exact cp_at hj
  have hW2 : VV_ T b v := hW.cg hV hvw
  refine ev_in (m := 216) (c := k_X9_year) (L := [some (am_R 135), none]) rfl rfl rfl rfl rfl rfl ?_
  refine ax_load (q := 1) rfl rfl rfl rfl rfl ?_
  refine ax_getf (q := 4) (v := am_R 163) rfl rfl (rfl) ?_
  refine ax_const (q := 6) (v := am_I 49) rfl rfl rfl ?_
  refine bx_iald (q := 7) (k := 49) (z := w 49) rfl rfl (rfl) (by omega) (by omega) (congrFun hw _) ?_
  refine ax_const (q := 10) (v := am_I 999) rfl rfl rfl ?_
  refine ax_icmp_ne (q := 13) (x := 15) rfl rfl (fun h10 => ?_) (fun h10 => ?_)
  · refine ax_load (q := 16) rfl rfl rfl rfl rfl ?_
    refine ax_callv (q := 19) rfl rfl rfl rfl rfl rfl ?_
    refine m_act (by omega) hH (fun σ1 hf1 hA1 => ?_)
    have hT1 := hT.fq hf1 (by decide) (by decide)
    have hw1 : σ1.1 163 = w := (hf1.1 163 (by decide) (by decide)).trans hw
    refine ax_load (q := 20) rfl rfl rfl rfl rfl ?_
    refine ax_callv (q := 23) rfl rfl rfl rfl rfl rfl ?_
    refine m_load (by omega) ?_
    rw [hw1, hf1.1 164 (by decide) (by decide), ← hv]
    refine ax_load (q := 24) rfl rfl rfl rfl rfl ?_
    refine ax_callv (q := 27) rfl rfl rfl rfl rfl rfl ?_
    refine m_goYear (by omega) (hT1.sI (by decide)) hV (sI_at _ _ _) hW2 (by omega) (fun σ2 hf2 hx2 => ?_)
    refine ax_store (q := 28) (L' := [some (am_R 135), some (am_I ((yo_ T v : Nat) : Int))]) rfl rfl rfl rfl rfl rfl ?_
    refine ax_load (q := 29) rfl rfl rfl rfl rfl ?_
    refine ax_callv (q := 32) rfl rfl rfl rfl rfl rfl ?_
    refine m_keep (by omega) ?_
    refine ax_load (q := 33) rfl rfl rfl rfl rfl ?_
    refine ax_ret (r := some (am_I ((yo_ T v : Nat) : Int))) rfl rfl ?_
    refine hY (by simp [*]) _ (fq_sI (fq_tr (fq_sI (⟨fun b hb h9 => hf1.1 b (fun q => hb (by revert q; simp; omega)) h9, hf1.2.1, hf1.2.2⟩ : fq_ [143, 144, 163, 164, 165] [64, 65] σ σ1) (by decide) (by decide)) (fq_fr (A := [143, 144, 164]) (F := []) hf2 (by decide) (fun a h => h)) (by decide) (by decide)) (by decide) (by decide)) (MA_.mh (MA_.fq hA1 (A := [143, 144, 163, 164]) (F := []) (fq_sI (fq_tr (fq_sI (fq_rf _ _ _) (by decide) (by decide)) (fq_fr (A := [143, 144, 164]) (F := []) hf2 (by decide) (fun a h => h)) (by decide) (by decide)) (by decide) (by decide)) (by decide) (by decide) (by decide)) (fun j hj => ?_))
    rw [sI_at, cp_at hj, hx2]
  · refine ax_const (q := 14) (v := am_I (-1)) rfl rfl rfl ?_
    refine ax_ret (r := some (am_I (-1))) rfl rfl ?_
    exact hN (by simp [*])

theorem m_undo {d : Nat} (hd : 2 ≤ d) {σ : am_S} {a e : Nat} {hs : Nat → sp_V} (hH : MH_ a e hs σ) {Q : Option am_V → am_S → Prop} (hN : a = 0 → Q (some (am_I 0)) σ) (hY : 0 < a → ∀ σ', fq_ [163, 165] [64, 65] σ σ' → MH_ (a - 1) (e + 1) hs σ' → Q (some (am_I 1)) σ') : am_Ev d 217 [am_R 135] σ Q := by
  obtain ⟨d, rfl⟩ : ∃ e, d = e + 1 := ⟨d - 1, by omega⟩
  obtain ⟨k1, k2, k3, k4, k5, k6⟩ := hH
  refine ev_in (m := 217) (c := k_X9_undo) (L := [some (am_R 135)]) rfl rfl rfl rfl rfl rfl ?_
  refine ax_load (q := 1) rfl rfl rfl rfl rfl ?_
  refine ax_getf (q := 4) (v := am_I ((a : Nat) : Int)) rfl rfl (am_fg rfl k1) ?_
  refine ax_if_ne (q := 7) (x := 9) rfl rfl (fun h4 => ?_) (fun h4 => ?_)
  · refine ax_load (q := 10) rfl rfl rfl rfl rfl ?_
    refine ax_dup (q := 11) rfl rfl rfl ?_
    refine ax_getf (q := 14) (v := am_I ((a : Nat) : Int)) rfl rfl (am_fg rfl k1) ?_
    refine ax_const (q := 15) (v := am_I 1) rfl rfl rfl ?_
    refine ax_isub (q := 16) (z := (((a - 1) : Nat) : Int)) rfl rfl (am_we (by omega) (by omega) (by omega)) ?_
    refine ax_putf (q := 19) rfl rfl rfl ?_
    refine ax_load (q := 20) rfl rfl rfl rfl rfl ?_
    refine ax_dup (q := 21) rfl rfl rfl ?_
    refine ax_getf (q := 24) (v := am_I ((e : Nat) : Int)) rfl rfl (am_fg rfl (by simp [am_sI, am_up, k2])) ?_
    refine ax_const (q := 25) (v := am_I 1) rfl rfl rfl ?_
    refine ax_iadd (q := 26) (z := ((e + 1 : Nat) : Int)) rfl rfl (am_we (by omega) (by omega) (by omega)) ?_
    refine ax_putf (q := 29) rfl rfl rfl ?_
    refine ax_load (q := 30) rfl rfl rfl rfl rfl ?_
    refine ax_const (q := 32) (v := am_I 50) rfl rfl rfl ?_
    refine ax_load (q := 33) rfl rfl rfl rfl rfl ?_
    refine ax_getf (q := 36) (v := am_I (((a - 1) : Nat) : Int)) rfl rfl (am_fg rfl (by simp [am_sI, am_up])) ?_
    refine ax_imul (q := 37) (z := ((50 * (a - 1) : Nat) : Int)) rfl rfl (am_we (by omega) (by omega) (by omega)) ?_
    refine ax_callv (q := 40) rfl rfl rfl rfl rfl rfl ?_
    refine m_exchange (by omega) (f := 50 * (a - 1)) (by omega) ?_
    refine ax_const (q := 41) (v := am_I 1) rfl rfl rfl ?_
    refine ax_ret (r := some (am_I 1)) rfl ⟨rfl, Or.inr rfl⟩ ?_
    refine hY (by omega) _ (fq_sI (fq_sI (fq_s5 (fq_s5 (fq_rf _ _ _) (by decide)) (by decide)) (by decide) (by decide)) (by decide) (by decide)) ⟨by simp [am_sI, am_up], by simp [am_sI, am_up], by omega, fun i j hi hj => ?_, fun i j hi hj => ?_, fun j hj => ?_⟩
    · rw [sI_ne (by decide), sI_at, cd_out (by omega)]
      exact k4 i j (by omega) hj
    · rw [sI_ne (by decide), sI_at]
      by_cases hi0 : i = 0
      · subst hi0
        rw [show 50 * (a - 1 + 0) + j = 50 * (a - 1) + j by omega, cd_in hj, show a - 1 + 1 + 0 = a by omega]
        exact k6 j hj
      · rw [cd_out (by omega), show 50 * (a - 1 + i) + j = 50 * (a + (i - 1)) + j by omega, show a - 1 + 1 + i = a + 1 + (i - 1) by omega]
        exact k5 (i - 1) j (by omega) hj
    · rw [sI_at, cp_at hj]
      exact k4 (a - 1) j (by omega) hj
  · refine ax_const (q := 8) (v := am_I 0) rfl rfl rfl ?_
    refine ax_ret (r := some (am_I 0)) rfl ⟨rfl, Or.inl rfl⟩ ?_
    exact hN (by omega)

theorem m_redo {d : Nat} (hd : 2 ≤ d) {σ : am_S} {a e : Nat} {hs : Nat → sp_V} (hH : MH_ a e hs σ) {Q : Option am_V → am_S → Prop} (hN : e = 0 → Q (some (am_I 0)) σ) (hY : 0 < e → ∀ σ', fq_ [163, 165] [64, 65] σ σ' → MH_ (a + 1) (e - 1) hs σ' → Q (some (am_I 1)) σ') : am_Ev d 218 [am_R 135] σ Q := by
  obtain ⟨d, rfl⟩ : ∃ e, d = e + 1 := ⟨d - 1, by omega⟩
  obtain ⟨k1, k2, k3, k4, k5, k6⟩ := hH
  refine ev_in (m := 218) (c := k_X9_redo) (L := [some (am_R 135)]) rfl rfl rfl rfl rfl rfl ?_
  refine ax_load (q := 1) rfl rfl rfl rfl rfl ?_
  refine ax_getf (q := 4) (v := am_I ((e : Nat) : Int)) rfl rfl (am_fg rfl k2) ?_
  refine ax_if_ne (q := 7) (x := 9) rfl rfl (fun h4 => ?_) (fun h4 => ?_)
  · refine ax_load (q := 10) rfl rfl rfl rfl rfl ?_
    refine ax_const (q := 12) (v := am_I 50) rfl rfl rfl ?_
    refine ax_load (q := 13) rfl rfl rfl rfl rfl ?_
    refine ax_getf (q := 16) (v := am_I ((a : Nat) : Int)) rfl rfl (am_fg rfl k1) ?_
    refine ax_imul (q := 17) (z := ((50 * a : Nat) : Int)) rfl rfl (am_we (by omega) (by omega) (by omega)) ?_
    refine ax_callv (q := 20) rfl rfl rfl rfl rfl rfl ?_
    refine m_exchange (by omega) (f := 50 * a) (by omega) ?_
    refine ax_load (q := 21) rfl rfl rfl rfl rfl ?_
    refine ax_dup (q := 22) rfl rfl rfl ?_
    refine ax_getf (q := 25) (v := am_I ((a : Nat) : Int)) rfl rfl (am_fg rfl (by simp [am_sI, am_up, k1])) ?_
    refine ax_const (q := 26) (v := am_I 1) rfl rfl rfl ?_
    refine ax_iadd (q := 27) (z := ((a + 1 : Nat) : Int)) rfl rfl (am_we (by omega) (by omega) (by omega)) ?_
    refine ax_putf (q := 30) rfl rfl rfl ?_
    refine ax_load (q := 31) rfl rfl rfl rfl rfl ?_
    refine ax_dup (q := 32) rfl rfl rfl ?_
    refine ax_getf (q := 35) (v := am_I ((e : Nat) : Int)) rfl rfl (am_fg rfl (by simp [am_sI, am_up, k2])) ?_
    refine ax_const (q := 36) (v := am_I 1) rfl rfl rfl ?_
    refine ax_isub (q := 37) (z := (((e - 1) : Nat) : Int)) rfl rfl (am_we (by omega) (by omega) (by omega)) ?_
    refine ax_putf (q := 40) rfl rfl rfl ?_
    refine ax_const (q := 41) (v := am_I 1) rfl rfl rfl ?_
    refine ax_ret (r := some (am_I 1)) rfl ⟨rfl, Or.inr rfl⟩ ?_
    refine hY (by omega) _ (fq_s5 (fq_s5 (fq_sI (fq_sI (fq_rf _ _ _) (by decide) (by decide)) (by decide) (by decide)) (by decide)) (by decide)) ⟨by simp [am_sI, am_up], by simp [am_sI, am_up], by omega, fun i j hi hj => ?_, fun i j hi hj => ?_, fun j hj => ?_⟩
    · rw [sI_ne (by decide), sI_ne (by decide), sI_ne (by decide), sI_at]
      by_cases hi0 : i = a
      · subst hi0
        rw [cd_in hj]
        exact k6 j hj
      · rw [cd_out (by omega)]
        exact k4 i j (by omega) hj
    · rw [sI_ne (by decide), sI_ne (by decide), sI_ne (by decide), sI_at, cd_out (by omega), show 50 * (a + 1 + i) + j = 50 * (a + (i + 1)) + j by omega, show a + 1 + 1 + i = a + 1 + (i + 1) by omega]
      exact k5 (i + 1) j (by omega) hj
    · rw [sI_ne (by decide), sI_ne (by decide), sI_at, cp_at hj, show 50 * a + j = 50 * (a + 0) + j by omega]
      exact k5 0 j (by omega) hj
  · refine ax_const (q := 8) (v := am_I 0) rfl rfl rfl ?_
    refine ax_ret (r := some (am_I 0)) rfl ⟨rfl, Or.inl rfl⟩ ?_
    exact hN (by omega)

