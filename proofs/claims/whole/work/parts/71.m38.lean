/-! the reading's own cells -/
def rsA_ : List Nat := [138, 139, 145, 146, 147, 148, 149, 150, 157, 159, 160, 161]
def rsF_ : List Nat := [17, 20, 43, 44, 45, 46, 47, 48, 49, 57, 58, 59]
def rfA_ : List Nat := [138, 139, 142, 145, 146, 147, 148, 149, 150, 157, 159, 160, 161]
def rfF_ : List Nat := [2, 3, 4, 6, 7, 8, 9, 17, 19, 20, 22, 23, 43, 44, 45, 46, 47, 48, 49, 57, 58, 59]
def RS_ (D : sp_T) (σ : am_S) : Prop := (∀ a, a ∈ rsA_ → σ.1 a = D a) ∧ (∀ k, k ∈ rsF_ → σ.1 135 k = D 135 k) ∧ σ.2.1 137 = D 137
def RF_ (σ σ' : am_S) : Prop := fp_ rfA_ rfF_ [137] σ σ'
def du_ (D : sp_T) (a k : Nat) (z : Int) : sp_T := am_up D a (am_up (D a) k z)
theorem RF_.rf (σ : am_S) : RF_ σ σ := fp_rf _ _ _ _
theorem RF_.tr {A F B : List Nat} {σ σ1 σ2 : am_S} (h1 : RF_ σ σ1) (h2 : fp_ A F B σ1 σ2) (hA : ∀ a, a ∈ A → a ∈ rfA_) (hF : ∀ a, a ∈ F → a ∈ rfF_) (hB : ∀ a, a ∈ B → a ∈ [137]) : RF_ σ σ2 := fp_tr h1 h2 hA hF hB
theorem RS_.tok {D : sp_T} {σ σ' : am_S} {F : List Nat} (h : RS_ D σ) (hf : fp_ [] F [] σ σ') (hF : ∀ k, k ∈ rsF_ → k ∉ F) : RS_ D σ' :=
  ⟨fun a ha => (hf.1 a (fun q => by cases q) (fun q => by rw [q] at ha; revert ha; decide)).trans (h.1 a ha), fun k hk => (hf.2.1 k (hF k hk)).trans (h.2.1 k hk), (hf.2.2.1 137 (fun q => by cases q) (by decide)).trans h.2.2⟩
theorem RS_.sa {D : sp_T} {σ : am_S} {a k : Nat} {z : Int} (h : RS_ D σ) (ha : a ∈ rsA_) : RS_ (du_ D a k z) (am_sI σ a (am_up (σ.1 a) k z)) := by
  have a5 : a ≠ 135 := fun q => by rw [q] at ha; revert ha; decide
  have a7 : a ≠ 137 := fun q => by rw [q] at ha; revert ha; decide
  refine ⟨fun b hb => ?_, fun j hj => ?_, ?_⟩
  · unfold du_
    by_cases q : b = a
    · subst q; rw [sI_at, am_up_same, h.1 b hb]
    · rw [sI_ne q, am_up_ne q]; exact h.1 b hb
  · unfold du_; rw [sI_ne (fun q => a5 q.symm), am_up_ne (fun q => a5 q.symm)]; exact h.2.1 j hj
  · unfold du_; rw [am_up_ne (fun q => a7 q.symm)]; exact h.2.2
theorem RS_.s5 {D : sp_T} {σ : am_S} {k : Nat} {z : Int} (h : RS_ D σ) : RS_ (du_ D 135 k z) (am_sI σ 135 (am_up (σ.1 135) k z)) := by
  refine ⟨fun b hb => ?_, fun j hj => ?_, ?_⟩
  · have q : b ≠ 135 := fun q => by rw [q] at hb; revert hb; decide
    unfold du_; rw [sI_ne q, am_up_ne q]; exact h.1 b hb
  · unfold du_; rw [sI_at, am_up_same]
    by_cases q : j = k
    · subst q; rw [am_up_same, am_up_same]
    · rw [am_up_ne q, am_up_ne q]; exact h.2.1 j hj
  · unfold du_; rw [am_up_ne (by decide)]; exact h.2.2
theorem RS_.nm {D : sp_T} {σ σ' : am_S} {F : List Nat} {k : Nat} {z : Int} (h : RS_ D σ) (hf : fp_ [] F [137] σ σ') (hF : ∀ k, k ∈ rsF_ → k ∉ F) (h7 : σ'.2.1 137 = am_up (D 137) k z) : RS_ (du_ D 137 k z) σ' := by
  refine ⟨fun a ha => ?_, fun j hj => ?_, ?_⟩
  · have q : a ≠ 137 := fun q => by rw [q] at ha; revert ha; decide
    have q5 : a ≠ 135 := fun q => by rw [q] at ha; revert ha; decide
    unfold du_; rw [am_up_ne q, hf.1 a (fun q => by cases q) q5]; exact h.1 a ha
  · unfold du_; rw [am_up_ne (by decide), hf.2.1 j (hF j hj)]; exact h.2.1 j hj
  · unfold du_; rw [am_up_same]; exact h7
theorem ne_p {z : Int} (h : 0 < z) : ¬ z = 0 := by omega
theorem f_sI {σ : am_S} {a k : Nat} {f : Nat → Int} {z : Int} (h : 135 ≠ a) (hz : σ.1 135 k = z) : (am_sI σ a f).1 135 k = z := by rw [sI_ne h]; exact hz
theorem f_s5 {σ : am_S} {k j : Nat} {y z : Int} (h : k ≠ j) (hz : σ.1 135 k = z) : (am_sI σ 135 (am_up (σ.1 135) j y)).1 135 k = z := by rw [sI_at, am_up_ne h]; exact hz
theorem b_sI {σ : am_S} {a k : Nat} {f : Nat → Int} (h : 135 ≠ a) (hz : 0 < σ.1 135 k) : 0 < (am_sI σ a f).1 135 k := by rw [sI_ne h]; exact hz
theorem b_s5 {σ : am_S} {k j : Nat} {y : Int} (h : k ≠ j) (hz : 0 < σ.1 135 k) : 0 < (am_sI σ 135 (am_up (σ.1 135) j y)).1 135 k := by rw [sI_at, am_up_ne h]; exact hz
theorem F_sI {tp : Nat → Int} {n : Nat} {e : Int × Nat} {σ : am_S} {a : Nat} {f : Nat → Int} (h : 135 ≠ a) (hF : FT_ tp n e σ) : FT_ tp n e (am_sI σ a f) := ⟨f_sI h hF.1, f_sI h hF.2⟩
def sb_ {A B : Type} (r : Sum (Int × Nat) A) (f : A → Sum (Int × Nat) B) : Sum (Int × Nat) B := match r with
  | Sum.inl e => Sum.inl e
  | Sum.inr a => f a
theorem sb_l {A B : Type} {r : Sum (Int × Nat) A} {f : A → Sum (Int × Nat) B} {e : Int × Nat} (h : r = Sum.inl e) : sb_ r f = Sum.inl e := by rw [h]; rfl
theorem sb_r {A B : Type} {r : Sum (Int × Nat) A} {f : A → Sum (Int × Nat) B} {a : A} (h : r = Sum.inr a) : sb_ r f = f a := by rw [h]; rfl
abbrev sp_L : Type := Sum (Int × Nat) (sp_T × Nat)
/-- what a line gives -/
def LO_ (tp : Nat → Int) (n : Nat) (r : sp_L) (σ : am_S) (Q : Option am_V → am_S → Prop) : Prop := (∀ e, r = Sum.inl e → ∀ σ', RF_ σ σ' → 0 < e.1 → FT_ tp n e σ' → Q none σ') ∧ ∀ D' p', r = Sum.inr (D', p') → ∀ σ', RF_ σ σ' → σ'.1 135 2 = 0 → PS_ tp n p' σ' → RS_ D' σ' → Q none σ'
def wan_ (tp : Nat → Int) (n : Nat) (w : Int) (p : Nat) : Sum (Int × Nat) Nat := if tks_ tp n p = 1 ∧ tkw_ tp n p = w then Sum.inr (nxp_ tp n p) else Sum.inl (2, p)
/-- want, by what comes of it -/
theorem r_want {d : Nat} (hd : 3 ≤ d) {σ : am_S} {tp : Nat → Int} {n p : Nat} (hP : PS_ tp n p σ) (h02 : σ.1 135 2 = 0) {w : Int} {Q : Option am_V → am_S → Prop} (hN : ∀ e, wan_ tp n w p = Sum.inl e → ∀ σ', fp_ [] pf_ [] σ σ' → 0 < e.1 → FT_ tp n e σ' → Q none σ') (hY : ∀ p', wan_ tp n w p = Sum.inr p' → ∀ σ', fp_ [] pf_ [] σ σ' → σ'.1 135 2 = 0 → PS_ tp n p' σ' → Q none σ') : am_Ev d 151 [am_R 135, am_J w] σ Q := by
  refine m_want hd hP h02 (fun h => ?_) (fun h σ' hf hP' => ?_)
  · exact hN (2, p) (if_neg h) _ (fp_wr (fp_rf _ _ _ _) (by decide) (by decide)) (by show (0 : Int) < 2; decide) (FT_wr hP 2)
  · exact hY _ (if_pos h) σ' (fp_tr (fp_rf _ _ _ _) hf (by decide) (by decide) (by decide)) ((hf.2.1 2 (by decide)).trans h02) hP'

theorem z_option {d : Nat} (hd : 1 ≤ d) {σ : am_S} {w x y z : Int} (h2 : 0 < σ.1 135 2) {Q : Option am_V → am_S → Prop} (hQ : Q (some (am_I z)) σ) : am_Ev d 154 [am_R 135, am_J w, am_I x, am_I y, am_I z] σ Q := by
  obtain ⟨d, rfl⟩ : ∃ e, d = e + 1 := ⟨d - 1, by omega⟩
  refine ev_in (m := 154) (c := k_X9_option) (L := [some (am_R 135), some (am_J w), none, some (am_I x), some (am_I y), some (am_I z)]) rfl rfl rfl rfl rfl rfl ?_
  refine ax_load (q := 1) rfl rfl rfl rfl rfl ?_
  refine ax_getf (q := 4) (v := am_I (σ.1 135 2)) rfl rfl (rfl) ?_
  refine ax_if_ne (q := 7) (x := 26) rfl rfl (fun h4 => ?_) (fun h => absurd h (by omega))
  refine ax_load (q := 28) rfl rfl rfl rfl rfl ?_
  refine ax_ret (r := some (am_I z)) rfl rfl ?_
  exact hQ

/-- what a line of an ORDER tells -/
def ord_ (tp : Nat → Int) (n : Nat) (D : sp_T) (k nS p : Nat) : sp_L := sb_ (nwn_ tp n (D 137) 4 k p) fun p1 => sb_ (wan_ tp n 1634954099 p1) fun p2 => sb_ (old_ tp n (am_up (D 137) (4 + k) (tkw_ tp n (nxp_ tp n p))) 0 nS p2) fun a => sb_ (num_ tp n 0 20 (nxp_ tp n p2)) fun b => sb_ (opt_ tp n 1936023916 0 9 0 b.2) fun c => sb_ (opt_ tp n 131277443786868 0 9 0 c.2) fun e => sb_ (opt_ tp n 512970880104 1 9 1 e.2) fun f =>
  Sum.inr (du_ (du_ (du_ (du_ (du_ (du_ (du_ (du_ D 137 (4 + k) (tkw_ tp n (nxp_ tp n p))) 145 k a.1) 146 k b.1) 147 k c.1) 148 k e.1) 149 k f.1) 150 k 0) 135 44 ((k + 1 : Nat) : Int), f.2)

theorem r_readOrder {d : Nat} (hd : 6 ≤ d) {σ : am_S} {tp : Nat → Int} {n p : Nat} (hP : PS_ tp n p σ) (h02 : σ.1 135 2 = 0) {D : sp_T} (hR : RS_ D σ) {k nS : Nat} (hk : D 135 44 = (k : Int)) (hk8 : k < 8) (hS : D 135 43 = (nS : Int)) (hS4 : nS ≤ 4) {Q : Option am_V → am_S → Prop} (hQ : LO_ tp n (ord_ tp n D k nS p) σ Q) : am_Ev d 175 [am_R 135] σ Q := by
  obtain ⟨d, rfl⟩ : ∃ e, d = e + 1 := ⟨d - 1, by omega⟩
  have hg := hR.2.2
  have hk' := (hR.2.1 44 (by decide)).trans hk
  refine ev_in (m := 175) (c := k_X9_readOrder) (L := [some (am_R 135), none]) rfl rfl rfl rfl rfl rfl ?_
  refine ax_load (q := 1) rfl rfl rfl rfl rfl ?_
  refine ax_const (q := 2) (v := am_I 4) rfl rfl rfl ?_
  refine ax_load (q := 3) rfl rfl rfl rfl rfl ?_
  refine ax_getf (q := 6) (v := am_I ((k : Nat) : Int)) rfl rfl (am_fg rfl hk') ?_
  refine ax_callv (q := 9) rfl rfl rfl rfl rfl rfl ?_
  refine r_newName (b := 4) (m := k) (by omega) hP h02 hg (by omega) (fun e he x1 hk1 h0 hF => ?_) (fun p1 e1 σ1 hk1 h21 hP1 h71 => ?_)
  · have hbad := FT_pos hF h0
    have hfx : RF_ σ x1 := RF_.tr (RF_.rf σ) hk1 (by decide) (by decide) (by decide)
    have hres : ord_ tp n D k nS p = Sum.inl e := by simp only [ord_, sb_, he]
    have hk44x1 : x1.1 135 44 = (k : Int) := (hk1.2.1 44 (by decide)).trans hk'
    have hk43x1 : x1.1 135 43 = (nS : Int) := (hk1.2.1 43 (by decide)).trans ((hR.2.1 43 (by decide)).trans (by simp [du_, am_up, hS]))
    refine ax_load (q := 10) rfl rfl rfl rfl rfl ?_
    refine ax_getf (q := 13) (v := am_I ((k : Nat) : Int)) rfl rfl (am_fg rfl hk44x1) ?_
    refine ax_store (q := 14) (L' := [some (am_R 135), some (am_I ((k : Nat) : Int))]) rfl rfl rfl rfl rfl rfl ?_
    refine ax_load (q := 15) rfl rfl rfl rfl rfl ?_
    refine ax_const (q := 18) (v := am_J 1634954099) rfl rfl rfl ?_
    refine ax_callv (q := 21) rfl rfl rfl rfl rfl rfl ?_
    refine z_want (by omega) hbad ?_
    refine ax_load (q := 22) rfl rfl rfl rfl rfl ?_
    refine ax_getf (q := 25) (v := am_R 145) rfl rfl (rfl) ?_
    refine ax_load (q := 26) rfl rfl rfl rfl rfl ?_
    refine ax_load (q := 27) rfl rfl rfl rfl rfl ?_
    refine ax_const (q := 28) (v := am_I 0) rfl rfl rfl ?_
    refine ax_load (q := 29) rfl rfl rfl rfl rfl ?_
    refine ax_getf (q := 32) (v := am_I ((nS : Nat) : Int)) rfl rfl (am_fg rfl hk43x1) ?_
    refine ax_callv (q := 35) rfl rfl rfl rfl rfl rfl ?_
    refine z_oldName (by omega) hbad ?_
    refine bx_iast (q := 36) (k := k) rfl rfl (rfl) (by omega) (by omega) ?_
    refine ax_load (q := 37) rfl rfl rfl rfl rfl ?_
    refine ax_getf (q := 40) (v := am_I (((am_sI x1 145 (am_up (x1.1 145) k 0))).1 135 2)) rfl rfl (rfl) ?_
    refine ax_if_ne (q := 43) (x := 47) rfl rfl (fun h40 => ?_) (fun h => absurd h (ne_p (b_sI (by decide) hbad)))
    refine ax_load (q := 48) rfl rfl rfl rfl rfl ?_
    refine ax_getf (q := 51) (v := am_R 146) rfl rfl (rfl) ?_
    refine ax_load (q := 52) rfl rfl rfl rfl rfl ?_
    refine ax_load (q := 53) rfl rfl rfl rfl rfl ?_
    refine ax_const (q := 54) (v := am_I 0) rfl rfl rfl ?_
    refine ax_const (q := 56) (v := am_I 20) rfl rfl rfl ?_
    refine ax_callv (q := 59) rfl rfl rfl rfl rfl rfl ?_
    refine z_toldNumber (by omega) (b_sI (by decide) hbad) ?_
    refine bx_iast (q := 60) (k := k) rfl rfl (rfl) (by omega) (by omega) ?_
    refine ax_load (q := 61) rfl rfl rfl rfl rfl ?_
    refine ax_getf (q := 64) (v := am_R 147) rfl rfl (rfl) ?_
    refine ax_load (q := 65) rfl rfl rfl rfl rfl ?_
    refine ax_load (q := 66) rfl rfl rfl rfl rfl ?_
    refine ax_const (q := 69) (v := am_J 1936023916) rfl rfl rfl ?_
    refine ax_const (q := 70) (v := am_I 0) rfl rfl rfl ?_
    refine ax_const (q := 72) (v := am_I 9) rfl rfl rfl ?_
    refine ax_const (q := 73) (v := am_I 0) rfl rfl rfl ?_
    refine ax_callv (q := 76) rfl rfl rfl rfl rfl rfl ?_
    refine z_option (by omega) (b_sI (by decide) (b_sI (by decide) hbad)) ?_
    refine bx_iast (q := 77) (k := k) rfl rfl (rfl) (by omega) (by omega) ?_
    refine ax_load (q := 78) rfl rfl rfl rfl rfl ?_
    refine ax_getf (q := 81) (v := am_R 148) rfl rfl (rfl) ?_
    refine ax_load (q := 82) rfl rfl rfl rfl rfl ?_
    refine ax_load (q := 83) rfl rfl rfl rfl rfl ?_
    refine ax_const (q := 86) (v := am_J 131277443786868) rfl rfl rfl ?_
    refine ax_const (q := 87) (v := am_I 0) rfl rfl rfl ?_
    refine ax_const (q := 89) (v := am_I 9) rfl rfl rfl ?_
    refine ax_const (q := 90) (v := am_I 0) rfl rfl rfl ?_
    refine ax_callv (q := 93) rfl rfl rfl rfl rfl rfl ?_
    refine z_option (by omega) (b_sI (by decide) (b_sI (by decide) (b_sI (by decide) hbad))) ?_
    refine bx_iast (q := 94) (k := k) rfl rfl (rfl) (by omega) (by omega) ?_
    refine ax_load (q := 95) rfl rfl rfl rfl rfl ?_
    refine ax_getf (q := 98) (v := am_R 149) rfl rfl (rfl) ?_
    refine ax_load (q := 99) rfl rfl rfl rfl rfl ?_
    refine ax_load (q := 100) rfl rfl rfl rfl rfl ?_
    refine ax_const (q := 103) (v := am_J 512970880104) rfl rfl rfl ?_
    refine ax_const (q := 104) (v := am_I 1) rfl rfl rfl ?_
    refine ax_const (q := 106) (v := am_I 9) rfl rfl rfl ?_
    refine ax_const (q := 107) (v := am_I 1) rfl rfl rfl ?_
    refine ax_callv (q := 110) rfl rfl rfl rfl rfl rfl ?_
    refine z_option (by omega) (b_sI (by decide) (b_sI (by decide) (b_sI (by decide) (b_sI (by decide) hbad)))) ?_
    refine bx_iast (q := 111) (k := k) rfl rfl (rfl) (by omega) (by omega) ?_
    refine ax_load (q := 112) rfl rfl rfl rfl rfl ?_
    refine ax_getf (q := 115) (v := am_R 150) rfl rfl (rfl) ?_
    refine ax_load (q := 116) rfl rfl rfl rfl rfl ?_
    refine ax_const (q := 117) (v := am_I 0) rfl rfl rfl ?_
    refine bx_iast (q := 118) (k := k) rfl rfl (rfl) (by omega) (by omega) ?_
    refine ax_load (q := 119) rfl rfl rfl rfl rfl ?_
    refine ax_getf (q := 122) (v := am_I (((am_sI (am_sI (am_sI (am_sI (am_sI (am_sI x1 145 (am_up (x1.1 145) k 0)) 146 (am_up ((am_sI x1 145 (am_up (x1.1 145) k 0)).1 146) k 0)) 147 (am_up ((am_sI (am_sI x1 145 (am_up (x1.1 145) k 0)) 146 (am_up ((am_sI x1 145 (am_up (x1.1 145) k 0)).1 146) k 0)).1 147) k 0)) 148 (am_up ((am_sI (am_sI (am_sI x1 145 (am_up (x1.1 145) k 0)) 146 (am_up ((am_sI x1 145 (am_up (x1.1 145) k 0)).1 146) k 0)) 147 (am_up ((am_sI (am_sI x1 145 (am_up (x1.1 145) k 0)) 146 (am_up ((am_sI x1 145 (am_up (x1.1 145) k 0)).1 146) k 0)).1 147) k 0)).1 148) k 0)) 149 (am_up ((am_sI (am_sI (am_sI (am_sI x1 145 (am_up (x1.1 145) k 0)) 146 (am_up ((am_sI x1 145 (am_up (x1.1 145) k 0)).1 146) k 0)) 147 (am_up ((am_sI (am_sI x1 145 (am_up (x1.1 145) k 0)) 146 (am_up ((am_sI x1 145 (am_up (x1.1 145) k 0)).1 146) k 0)).1 147) k 0)) 148 (am_up ((am_sI (am_sI (am_sI x1 145 (am_up (x1.1 145) k 0)) 146 (am_up ((am_sI x1 145 (am_up (x1.1 145) k 0)).1 146) k 0)) 147 (am_up ((am_sI (am_sI x1 145 (am_up (x1.1 145) k 0)) 146 (am_up ((am_sI x1 145 (am_up (x1.1 145) k 0)).1 146) k 0)).1 147) k 0)).1 148) k 0)).1 149) k 1)) 150 (am_up ((am_sI (am_sI (am_sI (am_sI (am_sI x1 145 (am_up (x1.1 145) k 0)) 146 (am_up ((am_sI x1 145 (am_up (x1.1 145) k 0)).1 146) k 0)) 147 (am_up ((am_sI (am_sI x1 145 (am_up (x1.1 145) k 0)) 146 (am_up ((am_sI x1 145 (am_up (x1.1 145) k 0)).1 146) k 0)).1 147) k 0)) 148 (am_up ((am_sI (am_sI (am_sI x1 145 (am_up (x1.1 145) k 0)) 146 (am_up ((am_sI x1 145 (am_up (x1.1 145) k 0)).1 146) k 0)) 147 (am_up ((am_sI (am_sI x1 145 (am_up (x1.1 145) k 0)) 146 (am_up ((am_sI x1 145 (am_up (x1.1 145) k 0)).1 146) k 0)).1 147) k 0)).1 148) k 0)) 149 (am_up ((am_sI (am_sI (am_sI (am_sI x1 145 (am_up (x1.1 145) k 0)) 146 (am_up ((am_sI x1 145 (am_up (x1.1 145) k 0)).1 146) k 0)) 147 (am_up ((am_sI (am_sI x1 145 (am_up (x1.1 145) k 0)) 146 (am_up ((am_sI x1 145 (am_up (x1.1 145) k 0)).1 146) k 0)).1 147) k 0)) 148 (am_up ((am_sI (am_sI (am_sI x1 145 (am_up (x1.1 145) k 0)) 146 (am_up ((am_sI x1 145 (am_up (x1.1 145) k 0)).1 146) k 0)) 147 (am_up ((am_sI (am_sI x1 145 (am_up (x1.1 145) k 0)) 146 (am_up ((am_sI x1 145 (am_up (x1.1 145) k 0)).1 146) k 0)).1 147) k 0)).1 148) k 0)).1 149) k 1)).1 150) k 0))).1 135 2)) rfl rfl (rfl) ?_
    refine ax_if_ne (q := 125) (x := 135) rfl rfl (fun h122 => ?_) (fun h => absurd h (ne_p (b_sI (by decide) (b_sI (by decide) (b_sI (by decide) (b_sI (by decide) (b_sI (by decide) (b_sI (by decide) hbad))))))))
    refine ax_ret (r := none) rfl rfl ?_
    exact hQ.1 _ hres _ (fp_sI (fp_sI (fp_sI (fp_sI (fp_sI (fp_sI hfx (by decide) (by decide)) (by decide) (by decide)) (by decide) (by decide)) (by decide) (by decide)) (by decide) (by decide)) (by decide) (by decide)) h0 (F_sI (by decide) (F_sI (by decide) (F_sI (by decide) (F_sI (by decide) (F_sI (by decide) (F_sI (by decide) hF))))))
  · have hf1 : RF_ σ σ1 := RF_.tr (RF_.rf σ) hk1 (by decide) (by decide) (by decide)
    have hR1 : RS_ (du_ D 137 (4 + k) (tkw_ tp n (nxp_ tp n p))) σ1 := RS_.nm hR hk1 (by decide) h71
    refine ax_load (q := 10) rfl rfl rfl rfl rfl ?_
    refine ax_getf (q := 13) (v := am_I ((k : Nat) : Int)) rfl rfl (am_fg rfl ((hR1.2.1 44 (by decide)).trans (by simp [du_, am_up, hk]))) ?_
    refine ax_store (q := 14) (L' := [some (am_R 135), some (am_I ((k : Nat) : Int))]) rfl rfl rfl rfl rfl rfl ?_
    refine ax_load (q := 15) rfl rfl rfl rfl rfl ?_
    refine ax_const (q := 18) (v := am_J 1634954099) rfl rfl rfl ?_
    refine ax_callv (q := 21) rfl rfl rfl rfl rfl rfl ?_
    refine r_want (by omega) hP1 h21 (fun e he x2 hk2 h0 hF => ?_) (fun p2 e2 σ2 hk2 h22 hP2 => ?_)
    · have hbad := FT_pos hF h0
      have hfx : RF_ σ x2 := RF_.tr hf1 hk2 (by decide) (by decide) (by decide)
      have hres : ord_ tp n D k nS p = Sum.inl e := by simp only [ord_, sb_, e1, he]
      have hk44x2 : x2.1 135 44 = (k : Int) := (hk2.2.1 44 (by decide)).trans ((hR1.2.1 44 (by decide)).trans (by simp [du_, am_up, hk]))
      have hk43x2 : x2.1 135 43 = (nS : Int) := (hk2.2.1 43 (by decide)).trans ((hR1.2.1 43 (by decide)).trans (by simp [du_, am_up, hS]))
      refine ax_load (q := 22) rfl rfl rfl rfl rfl ?_
      refine ax_getf (q := 25) (v := am_R 145) rfl rfl (rfl) ?_
      refine ax_load (q := 26) rfl rfl rfl rfl rfl ?_
      refine ax_load (q := 27) rfl rfl rfl rfl rfl ?_
      refine ax_const (q := 28) (v := am_I 0) rfl rfl rfl ?_
      refine ax_load (q := 29) rfl rfl rfl rfl rfl ?_
      refine ax_getf (q := 32) (v := am_I ((nS : Nat) : Int)) rfl rfl (am_fg rfl hk43x2) ?_
      refine ax_callv (q := 35) rfl rfl rfl rfl rfl rfl ?_
      refine z_oldName (by omega) hbad ?_
      refine bx_iast (q := 36) (k := k) rfl rfl (rfl) (by omega) (by omega) ?_
      refine ax_load (q := 37) rfl rfl rfl rfl rfl ?_
      refine ax_getf (q := 40) (v := am_I (((am_sI x2 145 (am_up (x2.1 145) k 0))).1 135 2)) rfl rfl (rfl) ?_
      refine ax_if_ne (q := 43) (x := 47) rfl rfl (fun h40 => ?_) (fun h => absurd h (ne_p (b_sI (by decide) hbad)))
      refine ax_load (q := 48) rfl rfl rfl rfl rfl ?_
      refine ax_getf (q := 51) (v := am_R 146) rfl rfl (rfl) ?_
      refine ax_load (q := 52) rfl rfl rfl rfl rfl ?_
      refine ax_load (q := 53) rfl rfl rfl rfl rfl ?_
      refine ax_const (q := 54) (v := am_I 0) rfl rfl rfl ?_
      refine ax_const (q := 56) (v := am_I 20) rfl rfl rfl ?_
      refine ax_callv (q := 59) rfl rfl rfl rfl rfl rfl ?_
      refine z_toldNumber (by omega) (b_sI (by decide) hbad) ?_
      refine bx_iast (q := 60) (k := k) rfl rfl (rfl) (by omega) (by omega) ?_
      refine ax_load (q := 61) rfl rfl rfl rfl rfl ?_
      refine ax_getf (q := 64) (v := am_R 147) rfl rfl (rfl) ?_
      refine ax_load (q := 65) rfl rfl rfl rfl rfl ?_
      refine ax_load (q := 66) rfl rfl rfl rfl rfl ?_
      refine ax_const (q := 69) (v := am_J 1936023916) rfl rfl rfl ?_
      refine ax_const (q := 70) (v := am_I 0) rfl rfl rfl ?_
      refine ax_const (q := 72) (v := am_I 9) rfl rfl rfl ?_
      refine ax_const (q := 73) (v := am_I 0) rfl rfl rfl ?_
      refine ax_callv (q := 76) rfl rfl rfl rfl rfl rfl ?_
      refine z_option (by omega) (b_sI (by decide) (b_sI (by decide) hbad)) ?_
      refine bx_iast (q := 77) (k := k) rfl rfl (rfl) (by omega) (by omega) ?_
      refine ax_load (q := 78) rfl rfl rfl rfl rfl ?_
      refine ax_getf (q := 81) (v := am_R 148) rfl rfl (rfl) ?_
      refine ax_load (q := 82) rfl rfl rfl rfl rfl ?_
      refine ax_load (q := 83) rfl rfl rfl rfl rfl ?_
      refine ax_const (q := 86) (v := am_J 131277443786868) rfl rfl rfl ?_
      refine ax_const (q := 87) (v := am_I 0) rfl rfl rfl ?_
      refine ax_const (q := 89) (v := am_I 9) rfl rfl rfl ?_
      refine ax_const (q := 90) (v := am_I 0) rfl rfl rfl ?_
      refine ax_callv (q := 93) rfl rfl rfl rfl rfl rfl ?_
      refine z_option (by omega) (b_sI (by decide) (b_sI (by decide) (b_sI (by decide) hbad))) ?_
      refine bx_iast (q := 94) (k := k) rfl rfl (rfl) (by omega) (by omega) ?_
      refine ax_load (q := 95) rfl rfl rfl rfl rfl ?_
      refine ax_getf (q := 98) (v := am_R 149) rfl rfl (rfl) ?_
      refine ax_load (q := 99) rfl rfl rfl rfl rfl ?_
      refine ax_load (q := 100) rfl rfl rfl rfl rfl ?_
      refine ax_const (q := 103) (v := am_J 512970880104) rfl rfl rfl ?_
      refine ax_const (q := 104) (v := am_I 1) rfl rfl rfl ?_
      refine ax_const (q := 106) (v := am_I 9) rfl rfl rfl ?_
      refine ax_const (q := 107) (v := am_I 1) rfl rfl rfl ?_
      refine ax_callv (q := 110) rfl rfl rfl rfl rfl rfl ?_
      refine z_option (by omega) (b_sI (by decide) (b_sI (by decide) (b_sI (by decide) (b_sI (by decide) hbad)))) ?_
      refine bx_iast (q := 111) (k := k) rfl rfl (rfl) (by omega) (by omega) ?_
      refine ax_load (q := 112) rfl rfl rfl rfl rfl ?_
      refine ax_getf (q := 115) (v := am_R 150) rfl rfl (rfl) ?_
      refine ax_load (q := 116) rfl rfl rfl rfl rfl ?_
      refine ax_const (q := 117) (v := am_I 0) rfl rfl rfl ?_
      refine bx_iast (q := 118) (k := k) rfl rfl (rfl) (by omega) (by omega) ?_
      refine ax_load (q := 119) rfl rfl rfl rfl rfl ?_
      refine ax_getf (q := 122) (v := am_I (((am_sI (am_sI (am_sI (am_sI (am_sI (am_sI x2 145 (am_up (x2.1 145) k 0)) 146 (am_up ((am_sI x2 145 (am_up (x2.1 145) k 0)).1 146) k 0)) 147 (am_up ((am_sI (am_sI x2 145 (am_up (x2.1 145) k 0)) 146 (am_up ((am_sI x2 145 (am_up (x2.1 145) k 0)).1 146) k 0)).1 147) k 0)) 148 (am_up ((am_sI (am_sI (am_sI x2 145 (am_up (x2.1 145) k 0)) 146 (am_up ((am_sI x2 145 (am_up (x2.1 145) k 0)).1 146) k 0)) 147 (am_up ((am_sI (am_sI x2 145 (am_up (x2.1 145) k 0)) 146 (am_up ((am_sI x2 145 (am_up (x2.1 145) k 0)).1 146) k 0)).1 147) k 0)).1 148) k 0)) 149 (am_up ((am_sI (am_sI (am_sI (am_sI x2 145 (am_up (x2.1 145) k 0)) 146 (am_up ((am_sI x2 145 (am_up (x2.1 145) k 0)).1 146) k 0)) 147 (am_up ((am_sI (am_sI x2 145 (am_up (x2.1 145) k 0)) 146 (am_up ((am_sI x2 145 (am_up (x2.1 145) k 0)).1 146) k 0)).1 147) k 0)) 148 (am_up ((am_sI (am_sI (am_sI x2 145 (am_up (x2.1 145) k 0)) 146 (am_up ((am_sI x2 145 (am_up (x2.1 145) k 0)).1 146) k 0)) 147 (am_up ((am_sI (am_sI x2 145 (am_up (x2.1 145) k 0)) 146 (am_up ((am_sI x2 145 (am_up (x2.1 145) k 0)).1 146) k 0)).1 147) k 0)).1 148) k 0)).1 149) k 1)) 150 (am_up ((am_sI (am_sI (am_sI (am_sI (am_sI x2 145 (am_up (x2.1 145) k 0)) 146 (am_up ((am_sI x2 145 (am_up (x2.1 145) k 0)).1 146) k 0)) 147 (am_up ((am_sI (am_sI x2 145 (am_up (x2.1 145) k 0)) 146 (am_up ((am_sI x2 145 (am_up (x2.1 145) k 0)).1 146) k 0)).1 147) k 0)) 148 (am_up ((am_sI (am_sI (am_sI x2 145 (am_up (x2.1 145) k 0)) 146 (am_up ((am_sI x2 145 (am_up (x2.1 145) k 0)).1 146) k 0)) 147 (am_up ((am_sI (am_sI x2 145 (am_up (x2.1 145) k 0)) 146 (am_up ((am_sI x2 145 (am_up (x2.1 145) k 0)).1 146) k 0)).1 147) k 0)).1 148) k 0)) 149 (am_up ((am_sI (am_sI (am_sI (am_sI x2 145 (am_up (x2.1 145) k 0)) 146 (am_up ((am_sI x2 145 (am_up (x2.1 145) k 0)).1 146) k 0)) 147 (am_up ((am_sI (am_sI x2 145 (am_up (x2.1 145) k 0)) 146 (am_up ((am_sI x2 145 (am_up (x2.1 145) k 0)).1 146) k 0)).1 147) k 0)) 148 (am_up ((am_sI (am_sI (am_sI x2 145 (am_up (x2.1 145) k 0)) 146 (am_up ((am_sI x2 145 (am_up (x2.1 145) k 0)).1 146) k 0)) 147 (am_up ((am_sI (am_sI x2 145 (am_up (x2.1 145) k 0)) 146 (am_up ((am_sI x2 145 (am_up (x2.1 145) k 0)).1 146) k 0)).1 147) k 0)).1 148) k 0)).1 149) k 1)).1 150) k 0))).1 135 2)) rfl rfl (rfl) ?_
      refine ax_if_ne (q := 125) (x := 135) rfl rfl (fun h122 => ?_) (fun h => absurd h (ne_p (b_sI (by decide) (b_sI (by decide) (b_sI (by decide) (b_sI (by decide) (b_sI (by decide) (b_sI (by decide) hbad))))))))
      refine ax_ret (r := none) rfl rfl ?_
      exact hQ.1 _ hres _ (fp_sI (fp_sI (fp_sI (fp_sI (fp_sI (fp_sI hfx (by decide) (by decide)) (by decide) (by decide)) (by decide) (by decide)) (by decide) (by decide)) (by decide) (by decide)) (by decide) (by decide)) h0 (F_sI (by decide) (F_sI (by decide) (F_sI (by decide) (F_sI (by decide) (F_sI (by decide) (F_sI (by decide) hF))))))
    · have hf2 : RF_ σ σ2 := RF_.tr hf1 hk2 (by decide) (by decide) (by decide)
      have hR2 : RS_ (du_ D 137 (4 + k) (tkw_ tp n (nxp_ tp n p))) σ2 := RS_.tok hR1 hk2 (by decide)
      have hg2 : σ2.2.1 137 = am_up (D 137) (4 + k) (tkw_ tp n (nxp_ tp n p)) := hR2.2.2.trans (am_up_same _ _ _)
      refine ax_load (q := 22) rfl rfl rfl rfl rfl ?_
      refine ax_getf (q := 25) (v := am_R 145) rfl rfl (rfl) ?_
      refine ax_load (q := 26) rfl rfl rfl rfl rfl ?_
      refine ax_load (q := 27) rfl rfl rfl rfl rfl ?_
      refine ax_const (q := 28) (v := am_I 0) rfl rfl rfl ?_
      refine ax_load (q := 29) rfl rfl rfl rfl rfl ?_
      refine ax_getf (q := 32) (v := am_I ((nS : Nat) : Int)) rfl rfl (am_fg rfl ((hR2.2.1 43 (by decide)).trans (by simp [du_, am_up, hS]))) ?_
      refine ax_callv (q := 35) rfl rfl rfl rfl rfl rfl ?_
      refine r_oldName (b := 0) (m := nS) (by omega) hP2 h22 hg2 (by omega) ⟨fun e he x3 v hk3 h0 hF => ?_, fun A p3 e3 σ3 hk3 h23 hP3 => ?_⟩
      · have hbad := FT_pos hF h0
        have hfx : RF_ σ x3 := RF_.tr hf2 hk3 (by decide) (by decide) (by decide)
        have hres : ord_ tp n D k nS p = Sum.inl e := by simp only [ord_, sb_, e1, e2, he]
        have hk44x3 : x3.1 135 44 = (k : Int) := (hk3.2.1 44 (by decide)).trans ((hR2.2.1 44 (by decide)).trans (by simp [du_, am_up, hk]))
        have hk43x3 : x3.1 135 43 = (nS : Int) := (hk3.2.1 43 (by decide)).trans ((hR2.2.1 43 (by decide)).trans (by simp [du_, am_up, hS]))
        refine bx_iast (q := 36) (k := k) rfl rfl (rfl) (by omega) (by omega) ?_
        refine ax_load (q := 37) rfl rfl rfl rfl rfl ?_
        refine ax_getf (q := 40) (v := am_I (((am_sI x3 145 (am_up (x3.1 145) k v))).1 135 2)) rfl rfl (rfl) ?_
        refine ax_if_ne (q := 43) (x := 47) rfl rfl (fun h40 => ?_) (fun h => absurd h (ne_p (b_sI (by decide) hbad)))
        refine ax_load (q := 48) rfl rfl rfl rfl rfl ?_
        refine ax_getf (q := 51) (v := am_R 146) rfl rfl (rfl) ?_
        refine ax_load (q := 52) rfl rfl rfl rfl rfl ?_
        refine ax_load (q := 53) rfl rfl rfl rfl rfl ?_
        refine ax_const (q := 54) (v := am_I 0) rfl rfl rfl ?_
        refine ax_const (q := 56) (v := am_I 20) rfl rfl rfl ?_
        refine ax_callv (q := 59) rfl rfl rfl rfl rfl rfl ?_
        refine z_toldNumber (by omega) (b_sI (by decide) hbad) ?_
        refine bx_iast (q := 60) (k := k) rfl rfl (rfl) (by omega) (by omega) ?_
        refine ax_load (q := 61) rfl rfl rfl rfl rfl ?_
        refine ax_getf (q := 64) (v := am_R 147) rfl rfl (rfl) ?_
        refine ax_load (q := 65) rfl rfl rfl rfl rfl ?_
        refine ax_load (q := 66) rfl rfl rfl rfl rfl ?_
        refine ax_const (q := 69) (v := am_J 1936023916) rfl rfl rfl ?_
        refine ax_const (q := 70) (v := am_I 0) rfl rfl rfl ?_
        refine ax_const (q := 72) (v := am_I 9) rfl rfl rfl ?_
        refine ax_const (q := 73) (v := am_I 0) rfl rfl rfl ?_
        refine ax_callv (q := 76) rfl rfl rfl rfl rfl rfl ?_
        refine z_option (by omega) (b_sI (by decide) (b_sI (by decide) hbad)) ?_
        refine bx_iast (q := 77) (k := k) rfl rfl (rfl) (by omega) (by omega) ?_
        refine ax_load (q := 78) rfl rfl rfl rfl rfl ?_
        refine ax_getf (q := 81) (v := am_R 148) rfl rfl (rfl) ?_
        refine ax_load (q := 82) rfl rfl rfl rfl rfl ?_
        refine ax_load (q := 83) rfl rfl rfl rfl rfl ?_
        refine ax_const (q := 86) (v := am_J 131277443786868) rfl rfl rfl ?_
        refine ax_const (q := 87) (v := am_I 0) rfl rfl rfl ?_
        refine ax_const (q := 89) (v := am_I 9) rfl rfl rfl ?_
        refine ax_const (q := 90) (v := am_I 0) rfl rfl rfl ?_
        refine ax_callv (q := 93) rfl rfl rfl rfl rfl rfl ?_
        refine z_option (by omega) (b_sI (by decide) (b_sI (by decide) (b_sI (by decide) hbad))) ?_
        refine bx_iast (q := 94) (k := k) rfl rfl (rfl) (by omega) (by omega) ?_
        refine ax_load (q := 95) rfl rfl rfl rfl rfl ?_
        refine ax_getf (q := 98) (v := am_R 149) rfl rfl (rfl) ?_
        refine ax_load (q := 99) rfl rfl rfl rfl rfl ?_
        refine ax_load (q := 100) rfl rfl rfl rfl rfl ?_
        refine ax_const (q := 103) (v := am_J 512970880104) rfl rfl rfl ?_
        refine ax_const (q := 104) (v := am_I 1) rfl rfl rfl ?_
        refine ax_const (q := 106) (v := am_I 9) rfl rfl rfl ?_
        refine ax_const (q := 107) (v := am_I 1) rfl rfl rfl ?_
        refine ax_callv (q := 110) rfl rfl rfl rfl rfl rfl ?_
        refine z_option (by omega) (b_sI (by decide) (b_sI (by decide) (b_sI (by decide) (b_sI (by decide) hbad)))) ?_
        refine bx_iast (q := 111) (k := k) rfl rfl (rfl) (by omega) (by omega) ?_
        refine ax_load (q := 112) rfl rfl rfl rfl rfl ?_
        refine ax_getf (q := 115) (v := am_R 150) rfl rfl (rfl) ?_
        refine ax_load (q := 116) rfl rfl rfl rfl rfl ?_
        refine ax_const (q := 117) (v := am_I 0) rfl rfl rfl ?_
        refine bx_iast (q := 118) (k := k) rfl rfl (rfl) (by omega) (by omega) ?_
        refine ax_load (q := 119) rfl rfl rfl rfl rfl ?_
        refine ax_getf (q := 122) (v := am_I (((am_sI (am_sI (am_sI (am_sI (am_sI (am_sI x3 145 (am_up (x3.1 145) k v)) 146 (am_up ((am_sI x3 145 (am_up (x3.1 145) k v)).1 146) k 0)) 147 (am_up ((am_sI (am_sI x3 145 (am_up (x3.1 145) k v)) 146 (am_up ((am_sI x3 145 (am_up (x3.1 145) k v)).1 146) k 0)).1 147) k 0)) 148 (am_up ((am_sI (am_sI (am_sI x3 145 (am_up (x3.1 145) k v)) 146 (am_up ((am_sI x3 145 (am_up (x3.1 145) k v)).1 146) k 0)) 147 (am_up ((am_sI (am_sI x3 145 (am_up (x3.1 145) k v)) 146 (am_up ((am_sI x3 145 (am_up (x3.1 145) k v)).1 146) k 0)).1 147) k 0)).1 148) k 0)) 149 (am_up ((am_sI (am_sI (am_sI (am_sI x3 145 (am_up (x3.1 145) k v)) 146 (am_up ((am_sI x3 145 (am_up (x3.1 145) k v)).1 146) k 0)) 147 (am_up ((am_sI (am_sI x3 145 (am_up (x3.1 145) k v)) 146 (am_up ((am_sI x3 145 (am_up (x3.1 145) k v)).1 146) k 0)).1 147) k 0)) 148 (am_up ((am_sI (am_sI (am_sI x3 145 (am_up (x3.1 145) k v)) 146 (am_up ((am_sI x3 145 (am_up (x3.1 145) k v)).1 146) k 0)) 147 (am_up ((am_sI (am_sI x3 145 (am_up (x3.1 145) k v)) 146 (am_up ((am_sI x3 145 (am_up (x3.1 145) k v)).1 146) k 0)).1 147) k 0)).1 148) k 0)).1 149) k 1)) 150 (am_up ((am_sI (am_sI (am_sI (am_sI (am_sI x3 145 (am_up (x3.1 145) k v)) 146 (am_up ((am_sI x3 145 (am_up (x3.1 145) k v)).1 146) k 0)) 147 (am_up ((am_sI (am_sI x3 145 (am_up (x3.1 145) k v)) 146 (am_up ((am_sI x3 145 (am_up (x3.1 145) k v)).1 146) k 0)).1 147) k 0)) 148 (am_up ((am_sI (am_sI (am_sI x3 145 (am_up (x3.1 145) k v)) 146 (am_up ((am_sI x3 145 (am_up (x3.1 145) k v)).1 146) k 0)) 147 (am_up ((am_sI (am_sI x3 145 (am_up (x3.1 145) k v)) 146 (am_up ((am_sI x3 145 (am_up (x3.1 145) k v)).1 146) k 0)).1 147) k 0)).1 148) k 0)) 149 (am_up ((am_sI (am_sI (am_sI (am_sI x3 145 (am_up (x3.1 145) k v)) 146 (am_up ((am_sI x3 145 (am_up (x3.1 145) k v)).1 146) k 0)) 147 (am_up ((am_sI (am_sI x3 145 (am_up (x3.1 145) k v)) 146 (am_up ((am_sI x3 145 (am_up (x3.1 145) k v)).1 146) k 0)).1 147) k 0)) 148 (am_up ((am_sI (am_sI (am_sI x3 145 (am_up (x3.1 145) k v)) 146 (am_up ((am_sI x3 145 (am_up (x3.1 145) k v)).1 146) k 0)) 147 (am_up ((am_sI (am_sI x3 145 (am_up (x3.1 145) k v)) 146 (am_up ((am_sI x3 145 (am_up (x3.1 145) k v)).1 146) k 0)).1 147) k 0)).1 148) k 0)).1 149) k 1)).1 150) k 0))).1 135 2)) rfl rfl (rfl) ?_
        refine ax_if_ne (q := 125) (x := 135) rfl rfl (fun h122 => ?_) (fun h => absurd h (ne_p (b_sI (by decide) (b_sI (by decide) (b_sI (by decide) (b_sI (by decide) (b_sI (by decide) (b_sI (by decide) hbad))))))))
        refine ax_ret (r := none) rfl rfl ?_
        exact hQ.1 _ hres _ (fp_sI (fp_sI (fp_sI (fp_sI (fp_sI (fp_sI hfx (by decide) (by decide)) (by decide) (by decide)) (by decide) (by decide)) (by decide) (by decide)) (by decide) (by decide)) (by decide) (by decide)) h0 (F_sI (by decide) (F_sI (by decide) (F_sI (by decide) (F_sI (by decide) (F_sI (by decide) (F_sI (by decide) hF))))))
      · obtain ⟨rfl, A, rfl, hA⟩ := old_in e3
        have hf3 : RF_ σ σ3 := RF_.tr hf2 hk3 (by decide) (by decide) (by decide)
        have hR3 : RS_ (du_ D 137 (4 + k) (tkw_ tp n (nxp_ tp n p))) σ3 := RS_.tok hR2 hk3 (by decide)
        refine bx_iast (q := 36) (k := k) rfl rfl (rfl) (by omega) (by omega) ?_
        refine ax_load (q := 37) rfl rfl rfl rfl rfl ?_
        refine ax_getf (q := 40) (v := am_I 0) rfl rfl (am_fg rfl (f_sI (by decide) h23)) ?_
        refine ax_if_ne (q := 43) (x := 47) rfl rfl (fun h => absurd h (by omega)) (fun h40 => ?_)
        refine ax_load (q := 44) rfl rfl rfl rfl rfl ?_
        refine ax_callv (q := 47) rfl rfl rfl rfl rfl rfl ?_
        refine m_tokenN (by omega) (PS_sI hP3 (by decide) (by decide)) (fun σ4 hk4 hP4 => ?_)
        have hf4 : RF_ σ σ4 := RF_.tr (fp_sI hf3 (by decide) (by decide)) hk4 (by decide) (by decide) (by decide)
        have hR4 : RS_ (du_ (du_ D 137 (4 + k) (tkw_ tp n (nxp_ tp n p))) 145 k ((A : Nat) : Int)) σ4 := RS_.tok (RS_.sa hR3 (by decide)) hk4 (by decide)
        have h24 : σ4.1 135 2 = 0 := (hk4.2.1 2 (by decide)).trans (f_sI (by decide) h23)
        refine ax_load (q := 48) rfl rfl rfl rfl rfl ?_
        refine ax_getf (q := 51) (v := am_R 146) rfl rfl (rfl) ?_
        refine ax_load (q := 52) rfl rfl rfl rfl rfl ?_
        refine ax_load (q := 53) rfl rfl rfl rfl rfl ?_
        refine ax_const (q := 54) (v := am_I 0) rfl rfl rfl ?_
        refine ax_const (q := 56) (v := am_I 20) rfl rfl rfl ?_
        refine ax_callv (q := 59) rfl rfl rfl rfl rfl rfl ?_
        refine r_toldNumber (by omega) hP4 h24 ⟨fun e he x5 v hk5 h0 hF => ?_, fun v5 p5 e5 σ5 hk5 h25 hP5 => ?_⟩
        · have hbad := FT_pos hF h0
          have hfx : RF_ σ x5 := RF_.tr hf4 hk5 (by decide) (by decide) (by decide)
          have hres : ord_ tp n D k nS p = Sum.inl e := by simp only [ord_, sb_, e1, e2, e3, he]
          have hk44x5 : x5.1 135 44 = (k : Int) := (hk5.2.1 44 (by decide)).trans ((hR4.2.1 44 (by decide)).trans (by simp [du_, am_up, hk]))
          have hk43x5 : x5.1 135 43 = (nS : Int) := (hk5.2.1 43 (by decide)).trans ((hR4.2.1 43 (by decide)).trans (by simp [du_, am_up, hS]))
          refine bx_iast (q := 60) (k := k) rfl rfl (rfl) (by omega) (by omega) ?_
          refine ax_load (q := 61) rfl rfl rfl rfl rfl ?_
          refine ax_getf (q := 64) (v := am_R 147) rfl rfl (rfl) ?_
          refine ax_load (q := 65) rfl rfl rfl rfl rfl ?_
          refine ax_load (q := 66) rfl rfl rfl rfl rfl ?_
          refine ax_const (q := 69) (v := am_J 1936023916) rfl rfl rfl ?_
          refine ax_const (q := 70) (v := am_I 0) rfl rfl rfl ?_
          refine ax_const (q := 72) (v := am_I 9) rfl rfl rfl ?_
          refine ax_const (q := 73) (v := am_I 0) rfl rfl rfl ?_
          refine ax_callv (q := 76) rfl rfl rfl rfl rfl rfl ?_
          refine z_option (by omega) (b_sI (by decide) hbad) ?_
          refine bx_iast (q := 77) (k := k) rfl rfl (rfl) (by omega) (by omega) ?_
          refine ax_load (q := 78) rfl rfl rfl rfl rfl ?_
          refine ax_getf (q := 81) (v := am_R 148) rfl rfl (rfl) ?_
          refine ax_load (q := 82) rfl rfl rfl rfl rfl ?_
          refine ax_load (q := 83) rfl rfl rfl rfl rfl ?_
          refine ax_const (q := 86) (v := am_J 131277443786868) rfl rfl rfl ?_
          refine ax_const (q := 87) (v := am_I 0) rfl rfl rfl ?_
          refine ax_const (q := 89) (v := am_I 9) rfl rfl rfl ?_
          refine ax_const (q := 90) (v := am_I 0) rfl rfl rfl ?_
          refine ax_callv (q := 93) rfl rfl rfl rfl rfl rfl ?_
          refine z_option (by omega) (b_sI (by decide) (b_sI (by decide) hbad)) ?_
          refine bx_iast (q := 94) (k := k) rfl rfl (rfl) (by omega) (by omega) ?_
          refine ax_load (q := 95) rfl rfl rfl rfl rfl ?_
          refine ax_getf (q := 98) (v := am_R 149) rfl rfl (rfl) ?_
          refine ax_load (q := 99) rfl rfl rfl rfl rfl ?_
          refine ax_load (q := 100) rfl rfl rfl rfl rfl ?_
          refine ax_const (q := 103) (v := am_J 512970880104) rfl rfl rfl ?_
          refine ax_const (q := 104) (v := am_I 1) rfl rfl rfl ?_
          refine ax_const (q := 106) (v := am_I 9) rfl rfl rfl ?_
          refine ax_const (q := 107) (v := am_I 1) rfl rfl rfl ?_
          refine ax_callv (q := 110) rfl rfl rfl rfl rfl rfl ?_
          refine z_option (by omega) (b_sI (by decide) (b_sI (by decide) (b_sI (by decide) hbad))) ?_
          refine bx_iast (q := 111) (k := k) rfl rfl (rfl) (by omega) (by omega) ?_
          refine ax_load (q := 112) rfl rfl rfl rfl rfl ?_
          refine ax_getf (q := 115) (v := am_R 150) rfl rfl (rfl) ?_
          refine ax_load (q := 116) rfl rfl rfl rfl rfl ?_
          refine ax_const (q := 117) (v := am_I 0) rfl rfl rfl ?_
          refine bx_iast (q := 118) (k := k) rfl rfl (rfl) (by omega) (by omega) ?_
          refine ax_load (q := 119) rfl rfl rfl rfl rfl ?_
          refine ax_getf (q := 122) (v := am_I (((am_sI (am_sI (am_sI (am_sI (am_sI x5 146 (am_up (x5.1 146) k v)) 147 (am_up ((am_sI x5 146 (am_up (x5.1 146) k v)).1 147) k 0)) 148 (am_up ((am_sI (am_sI x5 146 (am_up (x5.1 146) k v)) 147 (am_up ((am_sI x5 146 (am_up (x5.1 146) k v)).1 147) k 0)).1 148) k 0)) 149 (am_up ((am_sI (am_sI (am_sI x5 146 (am_up (x5.1 146) k v)) 147 (am_up ((am_sI x5 146 (am_up (x5.1 146) k v)).1 147) k 0)) 148 (am_up ((am_sI (am_sI x5 146 (am_up (x5.1 146) k v)) 147 (am_up ((am_sI x5 146 (am_up (x5.1 146) k v)).1 147) k 0)).1 148) k 0)).1 149) k 1)) 150 (am_up ((am_sI (am_sI (am_sI (am_sI x5 146 (am_up (x5.1 146) k v)) 147 (am_up ((am_sI x5 146 (am_up (x5.1 146) k v)).1 147) k 0)) 148 (am_up ((am_sI (am_sI x5 146 (am_up (x5.1 146) k v)) 147 (am_up ((am_sI x5 146 (am_up (x5.1 146) k v)).1 147) k 0)).1 148) k 0)) 149 (am_up ((am_sI (am_sI (am_sI x5 146 (am_up (x5.1 146) k v)) 147 (am_up ((am_sI x5 146 (am_up (x5.1 146) k v)).1 147) k 0)) 148 (am_up ((am_sI (am_sI x5 146 (am_up (x5.1 146) k v)) 147 (am_up ((am_sI x5 146 (am_up (x5.1 146) k v)).1 147) k 0)).1 148) k 0)).1 149) k 1)).1 150) k 0))).1 135 2)) rfl rfl (rfl) ?_
          refine ax_if_ne (q := 125) (x := 135) rfl rfl (fun h122 => ?_) (fun h => absurd h (ne_p (b_sI (by decide) (b_sI (by decide) (b_sI (by decide) (b_sI (by decide) (b_sI (by decide) hbad)))))))
          refine ax_ret (r := none) rfl rfl ?_
          exact hQ.1 _ hres _ (fp_sI (fp_sI (fp_sI (fp_sI (fp_sI hfx (by decide) (by decide)) (by decide) (by decide)) (by decide) (by decide)) (by decide) (by decide)) (by decide) (by decide)) h0 (F_sI (by decide) (F_sI (by decide) (F_sI (by decide) (F_sI (by decide) (F_sI (by decide) hF)))))
        · have hf5 : RF_ σ σ5 := RF_.tr hf4 hk5 (by decide) (by decide) (by decide)
          have hR5 : RS_ (du_ (du_ D 137 (4 + k) (tkw_ tp n (nxp_ tp n p))) 145 k ((A : Nat) : Int)) σ5 := RS_.tok hR4 hk5 (by decide)
          refine bx_iast (q := 60) (k := k) rfl rfl (rfl) (by omega) (by omega) ?_
          refine ax_load (q := 61) rfl rfl rfl rfl rfl ?_
          refine ax_getf (q := 64) (v := am_R 147) rfl rfl (rfl) ?_
          refine ax_load (q := 65) rfl rfl rfl rfl rfl ?_
          refine ax_load (q := 66) rfl rfl rfl rfl rfl ?_
          refine ax_const (q := 69) (v := am_J 1936023916) rfl rfl rfl ?_
          refine ax_const (q := 70) (v := am_I 0) rfl rfl rfl ?_
          refine ax_const (q := 72) (v := am_I 9) rfl rfl rfl ?_
          refine ax_const (q := 73) (v := am_I 0) rfl rfl rfl ?_
          refine ax_callv (q := 76) rfl rfl rfl rfl rfl rfl ?_
          refine r_option (by omega) (PS_sI hP5 (by decide) (by decide)) (f_sI (by decide) h25) ⟨fun e he x6 v hk6 h0 hF => ?_, fun v6 p6 e6 σ6 hk6 h26 hP6 => ?_⟩
          · have hbad := FT_pos hF h0
            have hfx : RF_ σ x6 := RF_.tr (fp_sI hf5 (by decide) (by decide)) hk6 (by decide) (by decide) (by decide)
            have hres : ord_ tp n D k nS p = Sum.inl e := by simp only [ord_, sb_, e1, e2, e3, e5, he]
            have hk44x6 : x6.1 135 44 = (k : Int) := (hk6.2.1 44 (by decide)).trans (((RS_.sa hR5 (by decide)).2.1 44 (by decide)).trans (by simp [du_, am_up, hk]))
            have hk43x6 : x6.1 135 43 = (nS : Int) := (hk6.2.1 43 (by decide)).trans (((RS_.sa hR5 (by decide)).2.1 43 (by decide)).trans (by simp [du_, am_up, hS]))
            refine bx_iast (q := 77) (k := k) rfl rfl (rfl) (by omega) (by omega) ?_
            refine ax_load (q := 78) rfl rfl rfl rfl rfl ?_
            refine ax_getf (q := 81) (v := am_R 148) rfl rfl (rfl) ?_
            refine ax_load (q := 82) rfl rfl rfl rfl rfl ?_
            refine ax_load (q := 83) rfl rfl rfl rfl rfl ?_
            refine ax_const (q := 86) (v := am_J 131277443786868) rfl rfl rfl ?_
            refine ax_const (q := 87) (v := am_I 0) rfl rfl rfl ?_
            refine ax_const (q := 89) (v := am_I 9) rfl rfl rfl ?_
            refine ax_const (q := 90) (v := am_I 0) rfl rfl rfl ?_
            refine ax_callv (q := 93) rfl rfl rfl rfl rfl rfl ?_
            refine z_option (by omega) (b_sI (by decide) hbad) ?_
            refine bx_iast (q := 94) (k := k) rfl rfl (rfl) (by omega) (by omega) ?_
            refine ax_load (q := 95) rfl rfl rfl rfl rfl ?_
            refine ax_getf (q := 98) (v := am_R 149) rfl rfl (rfl) ?_
            refine ax_load (q := 99) rfl rfl rfl rfl rfl ?_
            refine ax_load (q := 100) rfl rfl rfl rfl rfl ?_
            refine ax_const (q := 103) (v := am_J 512970880104) rfl rfl rfl ?_
            refine ax_const (q := 104) (v := am_I 1) rfl rfl rfl ?_
            refine ax_const (q := 106) (v := am_I 9) rfl rfl rfl ?_
            refine ax_const (q := 107) (v := am_I 1) rfl rfl rfl ?_
            refine ax_callv (q := 110) rfl rfl rfl rfl rfl rfl ?_
            refine z_option (by omega) (b_sI (by decide) (b_sI (by decide) hbad)) ?_
            refine bx_iast (q := 111) (k := k) rfl rfl (rfl) (by omega) (by omega) ?_
            refine ax_load (q := 112) rfl rfl rfl rfl rfl ?_
            refine ax_getf (q := 115) (v := am_R 150) rfl rfl (rfl) ?_
            refine ax_load (q := 116) rfl rfl rfl rfl rfl ?_
            refine ax_const (q := 117) (v := am_I 0) rfl rfl rfl ?_
            refine bx_iast (q := 118) (k := k) rfl rfl (rfl) (by omega) (by omega) ?_
            refine ax_load (q := 119) rfl rfl rfl rfl rfl ?_
            refine ax_getf (q := 122) (v := am_I (((am_sI (am_sI (am_sI (am_sI x6 147 (am_up (x6.1 147) k v)) 148 (am_up ((am_sI x6 147 (am_up (x6.1 147) k v)).1 148) k 0)) 149 (am_up ((am_sI (am_sI x6 147 (am_up (x6.1 147) k v)) 148 (am_up ((am_sI x6 147 (am_up (x6.1 147) k v)).1 148) k 0)).1 149) k 1)) 150 (am_up ((am_sI (am_sI (am_sI x6 147 (am_up (x6.1 147) k v)) 148 (am_up ((am_sI x6 147 (am_up (x6.1 147) k v)).1 148) k 0)) 149 (am_up ((am_sI (am_sI x6 147 (am_up (x6.1 147) k v)) 148 (am_up ((am_sI x6 147 (am_up (x6.1 147) k v)).1 148) k 0)).1 149) k 1)).1 150) k 0))).1 135 2)) rfl rfl (rfl) ?_
            refine ax_if_ne (q := 125) (x := 135) rfl rfl (fun h122 => ?_) (fun h => absurd h (ne_p (b_sI (by decide) (b_sI (by decide) (b_sI (by decide) (b_sI (by decide) hbad))))))
            refine ax_ret (r := none) rfl rfl ?_
            exact hQ.1 _ hres _ (fp_sI (fp_sI (fp_sI (fp_sI hfx (by decide) (by decide)) (by decide) (by decide)) (by decide) (by decide)) (by decide) (by decide)) h0 (F_sI (by decide) (F_sI (by decide) (F_sI (by decide) (F_sI (by decide) hF))))
          · have hf6 : RF_ σ σ6 := RF_.tr (fp_sI hf5 (by decide) (by decide)) hk6 (by decide) (by decide) (by decide)
            have hR6 : RS_ (du_ (du_ (du_ D 137 (4 + k) (tkw_ tp n (nxp_ tp n p))) 145 k ((A : Nat) : Int)) 146 k v5) σ6 := RS_.tok (RS_.sa hR5 (by decide)) hk6 (by decide)
            refine bx_iast (q := 77) (k := k) rfl rfl (rfl) (by omega) (by omega) ?_
            refine ax_load (q := 78) rfl rfl rfl rfl rfl ?_
            refine ax_getf (q := 81) (v := am_R 148) rfl rfl (rfl) ?_
            refine ax_load (q := 82) rfl rfl rfl rfl rfl ?_
            refine ax_load (q := 83) rfl rfl rfl rfl rfl ?_
            refine ax_const (q := 86) (v := am_J 131277443786868) rfl rfl rfl ?_
            refine ax_const (q := 87) (v := am_I 0) rfl rfl rfl ?_
            refine ax_const (q := 89) (v := am_I 9) rfl rfl rfl ?_
            refine ax_const (q := 90) (v := am_I 0) rfl rfl rfl ?_
            refine ax_callv (q := 93) rfl rfl rfl rfl rfl rfl ?_
            refine r_option (by omega) (PS_sI hP6 (by decide) (by decide)) (f_sI (by decide) h26) ⟨fun e he x7 v hk7 h0 hF => ?_, fun v7 p7 e7 σ7 hk7 h27 hP7 => ?_⟩
            · have hbad := FT_pos hF h0
              have hfx : RF_ σ x7 := RF_.tr (fp_sI hf6 (by decide) (by decide)) hk7 (by decide) (by decide) (by decide)
              have hres : ord_ tp n D k nS p = Sum.inl e := by simp only [ord_, sb_, e1, e2, e3, e5, e6, he]
              have hk44x7 : x7.1 135 44 = (k : Int) := (hk7.2.1 44 (by decide)).trans (((RS_.sa hR6 (by decide)).2.1 44 (by decide)).trans (by simp [du_, am_up, hk]))
              have hk43x7 : x7.1 135 43 = (nS : Int) := (hk7.2.1 43 (by decide)).trans (((RS_.sa hR6 (by decide)).2.1 43 (by decide)).trans (by simp [du_, am_up, hS]))
              refine bx_iast (q := 94) (k := k) rfl rfl (rfl) (by omega) (by omega) ?_
              refine ax_load (q := 95) rfl rfl rfl rfl rfl ?_
              refine ax_getf (q := 98) (v := am_R 149) rfl rfl (rfl) ?_
              refine ax_load (q := 99) rfl rfl rfl rfl rfl ?_
              refine ax_load (q := 100) rfl rfl rfl rfl rfl ?_
              refine ax_const (q := 103) (v := am_J 512970880104) rfl rfl rfl ?_
              refine ax_const (q := 104) (v := am_I 1) rfl rfl rfl ?_
              refine ax_const (q := 106) (v := am_I 9) rfl rfl rfl ?_
              refine ax_const (q := 107) (v := am_I 1) rfl rfl rfl ?_
              refine ax_callv (q := 110) rfl rfl rfl rfl rfl rfl ?_
              refine z_option (by omega) (b_sI (by decide) hbad) ?_
              refine bx_iast (q := 111) (k := k) rfl rfl (rfl) (by omega) (by omega) ?_
              refine ax_load (q := 112) rfl rfl rfl rfl rfl ?_
              refine ax_getf (q := 115) (v := am_R 150) rfl rfl (rfl) ?_
              refine ax_load (q := 116) rfl rfl rfl rfl rfl ?_
              refine ax_const (q := 117) (v := am_I 0) rfl rfl rfl ?_
              refine bx_iast (q := 118) (k := k) rfl rfl (rfl) (by omega) (by omega) ?_
              refine ax_load (q := 119) rfl rfl rfl rfl rfl ?_
              refine ax_getf (q := 122) (v := am_I (((am_sI (am_sI (am_sI x7 148 (am_up (x7.1 148) k v)) 149 (am_up ((am_sI x7 148 (am_up (x7.1 148) k v)).1 149) k 1)) 150 (am_up ((am_sI (am_sI x7 148 (am_up (x7.1 148) k v)) 149 (am_up ((am_sI x7 148 (am_up (x7.1 148) k v)).1 149) k 1)).1 150) k 0))).1 135 2)) rfl rfl (rfl) ?_
              refine ax_if_ne (q := 125) (x := 135) rfl rfl (fun h122 => ?_) (fun h => absurd h (ne_p (b_sI (by decide) (b_sI (by decide) (b_sI (by decide) hbad)))))
              refine ax_ret (r := none) rfl rfl ?_
              exact hQ.1 _ hres _ (fp_sI (fp_sI (fp_sI hfx (by decide) (by decide)) (by decide) (by decide)) (by decide) (by decide)) h0 (F_sI (by decide) (F_sI (by decide) (F_sI (by decide) hF)))
            · have hf7 : RF_ σ σ7 := RF_.tr (fp_sI hf6 (by decide) (by decide)) hk7 (by decide) (by decide) (by decide)
              have hR7 : RS_ (du_ (du_ (du_ (du_ D 137 (4 + k) (tkw_ tp n (nxp_ tp n p))) 145 k ((A : Nat) : Int)) 146 k v5) 147 k v6) σ7 := RS_.tok (RS_.sa hR6 (by decide)) hk7 (by decide)
              refine bx_iast (q := 94) (k := k) rfl rfl (rfl) (by omega) (by omega) ?_
              refine ax_load (q := 95) rfl rfl rfl rfl rfl ?_
              refine ax_getf (q := 98) (v := am_R 149) rfl rfl (rfl) ?_
              refine ax_load (q := 99) rfl rfl rfl rfl rfl ?_
              refine ax_load (q := 100) rfl rfl rfl rfl rfl ?_
              refine ax_const (q := 103) (v := am_J 512970880104) rfl rfl rfl ?_
              refine ax_const (q := 104) (v := am_I 1) rfl rfl rfl ?_
              refine ax_const (q := 106) (v := am_I 9) rfl rfl rfl ?_
              refine ax_const (q := 107) (v := am_I 1) rfl rfl rfl ?_
              refine ax_callv (q := 110) rfl rfl rfl rfl rfl rfl ?_
              refine r_option (by omega) (PS_sI hP7 (by decide) (by decide)) (f_sI (by decide) h27) ⟨fun e he x8 v hk8 h0 hF => ?_, fun v8 p8 e8 σ8 hk8 h28 hP8 => ?_⟩
              · have hbad := FT_pos hF h0
                have hfx : RF_ σ x8 := RF_.tr (fp_sI hf7 (by decide) (by decide)) hk8 (by decide) (by decide) (by decide)
                have hres : ord_ tp n D k nS p = Sum.inl e := by simp only [ord_, sb_, e1, e2, e3, e5, e6, e7, he]
                have hk44x8 : x8.1 135 44 = (k : Int) := (hk8.2.1 44 (by decide)).trans (((RS_.sa hR7 (by decide)).2.1 44 (by decide)).trans (by simp [du_, am_up, hk]))
                have hk43x8 : x8.1 135 43 = (nS : Int) := (hk8.2.1 43 (by decide)).trans (((RS_.sa hR7 (by decide)).2.1 43 (by decide)).trans (by simp [du_, am_up, hS]))
                refine bx_iast (q := 111) (k := k) rfl rfl (rfl) (by omega) (by omega) ?_
                refine ax_load (q := 112) rfl rfl rfl rfl rfl ?_
                refine ax_getf (q := 115) (v := am_R 150) rfl rfl (rfl) ?_
                refine ax_load (q := 116) rfl rfl rfl rfl rfl ?_
                refine ax_const (q := 117) (v := am_I 0) rfl rfl rfl ?_
                refine bx_iast (q := 118) (k := k) rfl rfl (rfl) (by omega) (by omega) ?_
                refine ax_load (q := 119) rfl rfl rfl rfl rfl ?_
                refine ax_getf (q := 122) (v := am_I (((am_sI (am_sI x8 149 (am_up (x8.1 149) k v)) 150 (am_up ((am_sI x8 149 (am_up (x8.1 149) k v)).1 150) k 0))).1 135 2)) rfl rfl (rfl) ?_
                refine ax_if_ne (q := 125) (x := 135) rfl rfl (fun h122 => ?_) (fun h => absurd h (ne_p (b_sI (by decide) (b_sI (by decide) hbad))))
                refine ax_ret (r := none) rfl rfl ?_
                exact hQ.1 _ hres _ (fp_sI (fp_sI hfx (by decide) (by decide)) (by decide) (by decide)) h0 (F_sI (by decide) (F_sI (by decide) hF))
              · have hf8 : RF_ σ σ8 := RF_.tr (fp_sI hf7 (by decide) (by decide)) hk8 (by decide) (by decide) (by decide)
                have hR8 : RS_ (du_ (du_ (du_ (du_ (du_ D 137 (4 + k) (tkw_ tp n (nxp_ tp n p))) 145 k ((A : Nat) : Int)) 146 k v5) 147 k v6) 148 k v7) σ8 := RS_.tok (RS_.sa hR7 (by decide)) hk8 (by decide)
                refine bx_iast (q := 111) (k := k) rfl rfl (rfl) (by omega) (by omega) ?_
                refine ax_load (q := 112) rfl rfl rfl rfl rfl ?_
                refine ax_getf (q := 115) (v := am_R 150) rfl rfl (rfl) ?_
                refine ax_load (q := 116) rfl rfl rfl rfl rfl ?_
                refine ax_const (q := 117) (v := am_I 0) rfl rfl rfl ?_
                refine bx_iast (q := 118) (k := k) rfl rfl (rfl) (by omega) (by omega) ?_
                refine ax_load (q := 119) rfl rfl rfl rfl rfl ?_
                refine ax_getf (q := 122) (v := am_I 0) rfl rfl (am_fg rfl (f_sI (by decide) (f_sI (by decide) h28))) ?_
                refine ax_if_ne (q := 125) (x := 135) rfl rfl (fun h => absurd h (by omega)) (fun h122 => ?_)
                refine ax_load (q := 126) rfl rfl rfl rfl rfl ?_
                refine ax_dup (q := 127) rfl rfl rfl ?_
                refine ax_getf (q := 130) (v := am_I ((k : Nat) : Int)) rfl rfl (am_fg rfl (((RS_.sa (RS_.sa hR8 (by decide)) (by decide)).2.1 44 (by decide)).trans (by simp [du_, am_up, hk]))) ?_
                refine ax_const (q := 131) (v := am_I 1) rfl rfl rfl ?_
                refine ax_iadd (q := 132) (z := ((k + 1 : Nat) : Int)) rfl rfl (am_we (by omega) (by omega) (by omega)) ?_
                refine ax_putf (q := 135) rfl rfl rfl ?_
                refine ax_ret (r := none) rfl rfl ?_
                exact hQ.2 _ _ (by simp only [ord_, sb_, e1, e2, e3, e5, e6, e7, e8]) _ (fp_s5 (fp_sI (fp_sI hf8 (by decide) (by decide)) (by decide) (by decide)) (by decide)) (f_s5 (by decide) (f_sI (by decide) (f_sI (by decide) h28))) (PS_s5 (PS_sI (PS_sI hP8 (by decide) (by decide)) (by decide) (by decide)) (by decide)) (RS_.s5 (RS_.sa (RS_.sa hR8 (by decide)) (by decide)))

