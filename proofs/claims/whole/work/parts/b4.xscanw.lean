/-- the own words, in the class's order -/
def wc_ (i : Nat) : Nat := [495723310188, 478660552050, 1634954099, 1936023916, 131277443786868, 512970880104, 123563833652072, 1868850291, 123581014175598, 28518, 6383461, 129116991874419, 499917087592, 1869636974, 1685217655, 28530, 6385252, 7237492, 465558725996, 2036687218, 512852845416].getD i 0
def wl_ (w : Nat) : Nat := if w < 256 ^ 2 then 2 else if w < 256 ^ 3 then 3 else if w < 256 ^ 4 then 4 else if w < 256 ^ 5 then 5 else if w < 256 ^ 6 then 6 else 7
def wx_ (w i : Nat) : Nat := w / 256 ^ (wl_ w - 1 - i) % 256 - 96
theorem wc_all : ((List.range 21).all fun i => decide (wl_ (wc_ i) ≤ 8) && decide (wc_ i = p8_ (wx_ (wc_ i)) (wl_ (wc_ i))) && (List.range (wl_ (wc_ i))).all fun j => decide (1 ≤ wx_ (wc_ i) j ∧ wx_ (wc_ i) j ≤ 26)) = true := by decide +kernel
theorem wc_wk {i : Nat} (h : i < 21) : WK_ (wc_ i : Int) := by
  have := wc_all
  rw [List.all_eq_true] at this
  have := this i (List.mem_range.mpr h)
  rw [Bool.and_eq_true, Bool.and_eq_true, decide_eq_true_eq, decide_eq_true_eq, List.all_eq_true] at this
  refine ⟨wx_ (wc_ i), wl_ (wc_ i), this.1.1, fun j hj => of_decide_eq_true (this.2 j (List.mem_range.mpr hj)), ?_⟩
  rw [← this.1.2]
/-- which own word it is, 100 if none -/
def kf_ (w : Int) : Nat → Nat → Int
  | 0, _ => 100
  | m + 1, i => if (wc_ i : Int) = w then (i : Int) else kf_ w m (i + 1)
/-- the class's table of words -/
def WT_ (σ : am_S) : Prop := ∀ i, i < 21 → σ.2.1 67 i = n5_ (wc_ i : Int)
def kz_ (w : Int) (Ln : Nat) : Int := if 8 < Ln then 103 else kf_ w 21 0

theorem xl_ownx {d : Nat} {σ : am_S} {i : Nat} (hi : i ≤ 21) {Q : Option am_V → am_S → Prop} (hQ : Q none σ) {k : Int} (hk : σ.1 66 6 = k) (h100 : ¬ k = 100) : aW d 4 k_X4_scanWord Q 91 [some (am_R 66), some (am_I ((i : Nat) : Int))] [] σ := by
  refine ax_load (q := 92) rfl rfl rfl rfl rfl ?_
  refine ax_const (q := 94) (v := am_I 21) rfl rfl rfl ?_
  refine ax_icmp_ge (q := 97) (x := 131) rfl rfl (fun h94 => ?_) (fun h94 => ?_)
  · refine ax_ret (r := none) rfl rfl ?_
    exact hQ
  · refine ax_load (q := 98) rfl rfl rfl rfl rfl ?_
    refine ax_getf (q := 101) (v := am_I k) rfl rfl (am_fg rfl hk) ?_
    refine ax_const (q := 103) (v := am_I 100) rfl rfl rfl ?_
    refine ax_icmp_ne (q := 106) (x := 131) rfl rfl (fun h103 => ?_) (fun h => absurd h (by omega))
    refine ax_ret (r := none) rfl rfl ?_
    exact hQ

theorem xl_own {d : Nat} {σ : am_S} {tp : Nat → Int} {n p Ln : Nat} (hR : RD_ tp n p p σ) (hW : WT_ σ) (hL1 : p + Ln ≤ n) (hL2 : ∀ i, i < Ln → lt_ (hr_ tp n (p + i)) = true) (hL3 : lt_ (hr_ tp n (p + Ln)) = false) (h8 : Ln ≤ 8) {Q : Option am_V → am_S → Prop} (hQ : ∀ σ', gx_ [] [] [5, 6] σ σ' → σ'.1 66 5 = ((p + Ln : Nat) : Int) → σ'.1 66 6 = kz_ (wdv_ tp n p Ln) Ln → σ'.2.1 66 8 = bw_ tp n p Ln → Q none σ') : ∀ (m i : Nat), i + m = 21 → ∀ σ', gx_ [] [] [5, 6] σ σ' → RD_ tp n p (p + Ln) σ' → σ'.2.1 66 8 = bw_ tp n p Ln → σ'.1 66 6 = 100 → kf_ (wdv_ tp n p Ln) 21 0 = kf_ (wdv_ tp n p Ln) m i → aW d 4 k_X4_scanWord Q 91 [some (am_R 66), some (am_I ((i : Nat) : Int))] [] σ' := by
  obtain ⟨hb5, hwk⟩ := bw_n5 h8 hL2
  intro m
  induction m with
  | zero =>
    intro i hi σ' hf hR' hn hk hkf
    obtain rfl : i = 21 := by omega
    refine ax_load (q := 92) rfl rfl rfl rfl rfl ?_
    refine ax_const (q := 94) (v := am_I 21) rfl rfl rfl ?_
    refine ax_icmp_ge (q := 97) (x := 131) rfl rfl (fun h94 => ?_) (fun h => absurd h (by omega))
    refine ax_ret (r := none) rfl rfl ?_
    refine hQ _ hf hR'.at_ ?_ hn
    rw [hk]; unfold kz_; rw [if_neg (by omega), hkf]; rfl
  | succ m ih =>
    intro i hi σ' hf hR' hn hk hkf
    have hw : σ'.2.1 67 i = n5_ (wc_ i : Int) := by rw [hf.2.2.1 67 (by simp) (by decide)]; exact hW i (by omega)
    have hij := n5_inj (wc_wk (i := i) (by omega)) hwk
    rw [← hb5] at hij
    refine ax_load (q := 92) rfl rfl rfl rfl rfl ?_
    refine ax_const (q := 94) (v := am_I 21) rfl rfl rfl ?_
    refine ax_icmp_ge (q := 97) (x := 131) rfl rfl (fun h => absurd h (by omega)) (fun h94 => ?_)
    refine ax_load (q := 98) rfl rfl rfl rfl rfl ?_
    refine ax_getf (q := 101) (v := am_I 100) rfl rfl (am_fg rfl hk) ?_
    refine ax_const (q := 103) (v := am_I 100) rfl rfl rfl ?_
    refine ax_icmp_ne (q := 106) (x := 131) rfl rfl (fun h => absurd h (by omega)) (fun h103 => ?_)
    refine ax_load (q := 107) rfl rfl rfl rfl rfl ?_
    refine ax_getf (q := 110) (v := am_R 67) rfl rfl (rfl) ?_
    refine ax_load (q := 111) rfl rfl rfl rfl rfl ?_
    refine bx_lald (q := 112) (k := i) (z := n5_ (wc_ i : Int)) rfl rfl (rfl) (by omega) (by omega) (hw) ?_
    refine ax_load (q := 113) rfl rfl rfl rfl rfl ?_
    refine ax_getf (q := 116) (v := am_J (bw_ tp n p Ln)) rfl rfl (am_fgJ rfl hn) ?_
    refine ax_lcmp (q := 117) rfl rfl ?_
    refine ax_if_ne (q := 120) (x := 125) rfl rfl (fun h117 => ?_) (fun h117 => ?_)
    · refine ax_iinc (q := 128) (z' := ((i + 1 : Nat) : Int)) (L' := [some (am_R 66), some (am_I ((i + 1 : Nat) : Int))]) rfl rfl rfl rfl (am_we (by omega) (by omega) (by omega)) rfl ?_
      refine ax_goto (x := 91) rfl ?_
      rw [lc_0] at h117
      rw [show kf_ (wdv_ tp n p Ln) (m + 1) i = kf_ (wdv_ tp n p Ln) m (i + 1) from if_neg (fun e => h117 (hij.mpr e))] at hkf
      exact ih (i + 1) (by omega) σ' hf hR' hn hk hkf
    · refine ax_load (q := 121) rfl rfl rfl rfl rfl ?_
      refine ax_load (q := 122) rfl rfl rfl rfl rfl ?_
      refine ax_putf (q := 125) rfl rfl rfl ?_
      refine ax_iinc (q := 128) (z' := ((i + 1 : Nat) : Int)) (L' := [some (am_R 66), some (am_I ((i + 1 : Nat) : Int))]) rfl rfl rfl rfl (am_we (by omega) (by omega) (by omega)) rfl ?_
      refine ax_goto (x := 91) rfl ?_
      rw [lc_0] at h117
      rw [show kf_ (wdv_ tp n p Ln) (m + 1) i = (i : Int) from if_pos (hij.mp h117)] at hkf
      have hfz := gx_s hf (k := 6) (z := (i : Int)) (by simp)
      refine xl_ownx (by omega) (hQ _ hfz (by rw [sI_at, am_up_ne (by decide)]; exact hR'.at_) (by rw [sI_at, am_up_same]; unfold kz_; rw [if_neg (by omega), hkf]) hn) (k := (i : Int)) (by rw [sI_at, am_up_same]) (by omega)

theorem xl_scanW {d : Nat} (hd : 1 ≤ d) {σ : am_S} {tp : Nat → Int} {n p Ln : Nat} (hR : RD_ tp n p p σ) (hW : WT_ σ) (hL1 : p + Ln ≤ n) (hL2 : ∀ i, i < Ln → lt_ (hr_ tp n (p + i)) = true) (hL3 : lt_ (hr_ tp n (p + Ln)) = false) {x1 : Option am_V} {Q : Option am_V → am_S → Prop} (hQ : ∀ σ', gx_ [] [] [5, 6] σ σ' → σ'.1 66 5 = ((p + Ln : Nat) : Int) → σ'.1 66 6 = kz_ (wdv_ tp n p Ln) Ln → σ'.2.1 66 8 = bw_ tp n p Ln → Q none σ') : ∀ (m l : Nat), l + m = Ln → ∀ σ', gx_ [] [] [5, 6] σ σ' → RD_ tp n p (p + l) σ' → σ'.2.1 66 8 = bw_ tp n p l → aW d 4 k_X4_scanWord Q 5 [some (am_R 66), x1] [] σ' := by
  intro m
  induction m with
  | zero =>
    intro l hl σ' hf hR' hn
    obtain hl2 : l = Ln := by omega
    subst hl2
    have n9 := hR'.n9
    refine ax_load (q := 6) rfl rfl rfl rfl rfl ?_
    refine ax_getf (q := 9) (v := am_I (((p + l) : Nat) : Int)) rfl rfl (am_fg rfl hR'.at_) ?_
    refine ax_load (q := 10) rfl rfl rfl rfl rfl ?_
    refine ax_getf (q := 13) (v := am_I ((n : Nat) : Int)) rfl rfl (am_fg rfl hR'.ln) ?_
    refine ax_icmp_ge (q := 16) (x := 64) rfl rfl (fun h13 => ?_) (fun h13 => ?_)
    · refine ax_load (q := 65) rfl rfl rfl rfl rfl ?_
      refine ax_load (q := 66) rfl rfl rfl rfl rfl ?_
      refine ax_getf (q := 69) (v := am_I (((p + l) : Nat) : Int)) rfl rfl (am_fg rfl hR'.at_) ?_
      refine ax_load (q := 70) rfl rfl rfl rfl rfl ?_
      refine ax_getf (q := 73) (v := am_I ((p : Nat) : Int)) rfl rfl (am_fg rfl hR'.pl) ?_
      refine ax_isub (q := 74) (z := ((l : Nat) : Int)) rfl rfl (am_we (by omega) (by omega) (by omega)) ?_
      refine ax_const (q := 76) (v := am_I 8) rfl rfl rfl ?_
      refine ax_icmp_le (q := 79) (x := 84) rfl rfl (fun h76 => ?_) (fun h76 => ?_)
      · refine ax_const (q := 86) (v := am_I 100) rfl rfl rfl ?_
        refine ax_putf (q := 89) rfl rfl rfl ?_
        refine ax_const (q := 90) (v := am_I 0) rfl rfl rfl ?_
        refine ax_store (q := 91) (L' := [some (am_R 66), some (am_I 0)]) rfl rfl rfl rfl rfl rfl ?_
        have hfz := gx_s hf (k := 6) (z := 100) (by simp)
        exact xl_own hR hW hL1 hL2 hL3 (by omega) hQ 21 0 (by omega) _ hfz (hR.mv hfz (by simp) (by simp) (by simp) (by rw [sI_at, am_up_ne (by decide)]; exact hR'.at_)) hn (by rw [sI_at, am_up_same]) rfl
      · refine ax_const (q := 81) (v := am_I 103) rfl rfl rfl ?_
        refine ax_goto (x := 86) rfl ?_
        refine ax_putf (q := 89) rfl rfl rfl ?_
        refine ax_const (q := 90) (v := am_I 0) rfl rfl rfl ?_
        refine ax_store (q := 91) (L' := [some (am_R 66), some (am_I 0)]) rfl rfl rfl rfl rfl rfl ?_
        have hfz := gx_s hf (k := 6) (z := 103) (by simp)
        refine xl_ownx (i := 0) (by omega) (hQ _ hfz (by rw [sI_at, am_up_ne (by decide)]; exact hR'.at_) (by rw [sI_at, am_up_same]; unfold kz_; rw [if_pos (by omega)]) hn) (k := 103) (by rw [sI_at, am_up_same]) (by decide)
    · refine ax_load (q := 17) rfl rfl rfl rfl rfl ?_
      refine ax_getf (q := 20) (v := am_R 1) rfl rfl (rfl) ?_
      refine ax_load (q := 21) rfl rfl rfl rfl rfl ?_
      refine ax_getf (q := 24) (v := am_I (((p + l) : Nat) : Int)) rfl rfl (am_fg rfl hR'.at_) ?_
      refine bx_bald (q := 25) (k := (p + l)) (z := σ'.1 1 (p + l)) rfl rfl (Or.inl rfl) (by omega) (by omega) (rfl) ?_
      refine ax_calls (q := 28) rfl rfl rfl rfl rfl ?_
      refine x_isLetter (by omega) ?_
      rw [lt_sg hR'.tx (by omega)]
      refine ax_if_eq (q := 31) (x := 64) rfl rfl (fun h28 => ?_) (fun h => absurd (by rw [hL3]; rfl) h)
      refine ax_load (q := 65) rfl rfl rfl rfl rfl ?_
      refine ax_load (q := 66) rfl rfl rfl rfl rfl ?_
      refine ax_getf (q := 69) (v := am_I (((p + l) : Nat) : Int)) rfl rfl (am_fg rfl hR'.at_) ?_
      refine ax_load (q := 70) rfl rfl rfl rfl rfl ?_
      refine ax_getf (q := 73) (v := am_I ((p : Nat) : Int)) rfl rfl (am_fg rfl hR'.pl) ?_
      refine ax_isub (q := 74) (z := ((l : Nat) : Int)) rfl rfl (am_we (by omega) (by omega) (by omega)) ?_
      refine ax_const (q := 76) (v := am_I 8) rfl rfl rfl ?_
      refine ax_icmp_le (q := 79) (x := 84) rfl rfl (fun h76 => ?_) (fun h76 => ?_)
      · refine ax_const (q := 86) (v := am_I 100) rfl rfl rfl ?_
        refine ax_putf (q := 89) rfl rfl rfl ?_
        refine ax_const (q := 90) (v := am_I 0) rfl rfl rfl ?_
        refine ax_store (q := 91) (L' := [some (am_R 66), some (am_I 0)]) rfl rfl rfl rfl rfl rfl ?_
        have hfz := gx_s hf (k := 6) (z := 100) (by simp)
        exact xl_own hR hW hL1 hL2 hL3 (by omega) hQ 21 0 (by omega) _ hfz (hR.mv hfz (by simp) (by simp) (by simp) (by rw [sI_at, am_up_ne (by decide)]; exact hR'.at_)) hn (by rw [sI_at, am_up_same]) rfl
      · refine ax_const (q := 81) (v := am_I 103) rfl rfl rfl ?_
        refine ax_goto (x := 86) rfl ?_
        refine ax_putf (q := 89) rfl rfl rfl ?_
        refine ax_const (q := 90) (v := am_I 0) rfl rfl rfl ?_
        refine ax_store (q := 91) (L' := [some (am_R 66), some (am_I 0)]) rfl rfl rfl rfl rfl rfl ?_
        have hfz := gx_s hf (k := 6) (z := 103) (by simp)
        refine xl_ownx (i := 0) (by omega) (hQ _ hfz (by rw [sI_at, am_up_ne (by decide)]; exact hR'.at_) (by rw [sI_at, am_up_same]; unfold kz_; rw [if_pos (by omega)]) hn) (k := 103) (by rw [sI_at, am_up_same]) (by decide)
  | succ m ih =>
    intro l hl σ' hf hR' hn
    have n9 := hR'.n9
    have hd8 := hL2 l (by omega)
    refine ax_load (q := 6) rfl rfl rfl rfl rfl ?_
    refine ax_getf (q := 9) (v := am_I (((p + l) : Nat) : Int)) rfl rfl (am_fg rfl hR'.at_) ?_
    refine ax_load (q := 10) rfl rfl rfl rfl rfl ?_
    refine ax_getf (q := 13) (v := am_I ((n : Nat) : Int)) rfl rfl (am_fg rfl hR'.ln) ?_
    refine ax_icmp_ge (q := 16) (x := 64) rfl rfl (fun h => absurd h (by omega)) (fun h13 => ?_)
    refine ax_load (q := 17) rfl rfl rfl rfl rfl ?_
    refine ax_getf (q := 20) (v := am_R 1) rfl rfl (rfl) ?_
    refine ax_load (q := 21) rfl rfl rfl rfl rfl ?_
    refine ax_getf (q := 24) (v := am_I (((p + l) : Nat) : Int)) rfl rfl (am_fg rfl hR'.at_) ?_
    refine bx_bald (q := 25) (k := (p + l)) (z := σ'.1 1 (p + l)) rfl rfl (Or.inl rfl) (by omega) (by omega) (rfl) ?_
    refine ax_calls (q := 28) rfl rfl rfl rfl rfl ?_
    refine x_isLetter (by omega) ?_
    rw [lt_sg hR'.tx (by omega)]
    refine ax_if_eq (q := 31) (x := 64) rfl rfl (fun h => absurd h (by rw [hd8]; decide)) (fun h28 => ?_)
    refine ax_load (q := 32) rfl rfl rfl rfl rfl ?_
    refine ax_load (q := 33) rfl rfl rfl rfl rfl ?_
    refine ax_getf (q := 36) (v := am_J (bw_ tp n p l)) rfl rfl (am_fgJ rfl hn) ?_
    refine ax_load (q := 37) rfl rfl rfl rfl rfl ?_
    refine ax_getf (q := 40) (v := am_R 1) rfl rfl (rfl) ?_
    refine ax_load (q := 41) rfl rfl rfl rfl rfl ?_
    refine ax_getf (q := 44) (v := am_I (((p + l) : Nat) : Int)) rfl rfl (am_fg rfl hR'.at_) ?_
    refine bx_bald (q := 45) (k := (p + l)) (z := hr_ tp n (p + l)) rfl rfl (Or.inl rfl) (by omega) (by omega) (sg_hr hR'.tx (by omega) (Or.inl hd8)) ?_
    refine ax_calls (q := 48) rfl rfl rfl rfl rfl ?_
    refine x_behind (by omega) ?_
    refine ax_putf (q := 51) rfl rfl rfl ?_
    refine ax_load (q := 52) rfl rfl rfl rfl rfl ?_
    refine ax_dup (q := 53) rfl rfl rfl ?_
    refine ax_getf (q := 56) (v := am_I (((p + l) : Nat) : Int)) rfl rfl (am_fg rfl hR'.at_) ?_
    refine ax_const (q := 57) (v := am_I 1) rfl rfl rfl ?_
    refine ax_iadd (q := 58) (z := (((p + (l + 1)) : Nat) : Int)) rfl rfl (am_we (by omega) (by omega) (by omega)) ?_
    refine ax_putf (q := 61) rfl rfl rfl ?_
    refine ax_goto (x := 5) rfl ?_
    have hfz := gx_s (gx_l hf (z := bw_ tp n p (l + 1))) (k := 5) (z := ((p + (l + 1) : Nat) : Int)) (by simp)
    exact ih (l + 1) (by omega) _ hfz (hR.mv hfz (by simp) (by simp) (by simp) (by rw [sI_at, am_up_same])) (by rw [sI_2, sL_at, am_up_same]; rfl)

theorem x_scanWord {d : Nat} (hd : 2 ≤ d) {σ : am_S} {tp : Nat → Int} {n p Ln : Nat} (hR : RD_ tp n p p σ) (hW : WT_ σ) (hL1 : p + Ln ≤ n) (hL2 : ∀ i, i < Ln → lt_ (hr_ tp n (p + i)) = true) (hL3 : lt_ (hr_ tp n (p + Ln)) = false) {Q : Option am_V → am_S → Prop} (hQ : ∀ σ', gx_ [] [] [5, 6] σ σ' → σ'.1 66 5 = ((p + Ln : Nat) : Int) → σ'.1 66 6 = kz_ (wdv_ tp n p Ln) Ln → σ'.2.1 66 8 = bw_ tp n p Ln → Q none σ') : am_Ev d 66 [am_R 66] σ Q := by
  obtain ⟨d, rfl⟩ : ∃ e, d = e + 1 := ⟨d - 1, by omega⟩
  refine ev_in (m := 66) (c := k_X4_scanWord) (L := [some (am_R 66), none]) rfl rfl rfl rfl rfl rfl ?_
  refine ax_load (q := 1) rfl rfl rfl rfl rfl ?_
  refine ax_const (q := 2) (v := am_J 0) rfl rfl rfl ?_
  refine ax_putf (q := 5) rfl rfl rfl ?_
  have hfz := gx_l (gx_rf [] [] [5, 6] σ) (z := 0)
  exact xl_scanW (by omega) hR hW hL1 hL2 hL3 hQ Ln 0 (by omega) _ hfz (hR.mv hfz (by simp) (by simp) (by simp) hR.at_) (by rw [sL_at, am_up_same]; rfl)

