/-! what the parser's steps give: a fault (its number, its token's place), or a value and the next token -/
def FT_ (tp : Nat → Int) (n : Nat) (e : Int × Nat) (σ : am_S) : Prop := σ.1 135 2 = (if tks_ tp n e.2 = 3 then 1 else e.1) ∧ σ.1 135 3 = (e.2 : Int)
def pf_ : List Nat := [2, 3, 4, 6, 7, 8, 9]
abbrev sp_R : Type := Sum (Int × Nat) (Int × Nat)
def RI_ (tp : Nat → Int) (n : Nat) (r : sp_R) (σ : am_S) (Q : Option am_V → am_S → Prop) : Prop := (∀ e, r = Sum.inl e → ∀ σ' v, fp_ [] pf_ [] σ σ' → 0 < e.1 → FT_ tp n e σ' → Q (some (am_I v)) σ') ∧ ∀ a p', r = Sum.inr (a, p') → ∀ σ', fp_ [] pf_ [] σ σ' → σ'.1 135 2 = 0 → PS_ tp n p' σ' → Q (some (am_I a)) σ'
def num_ (tp : Nat → Int) (n : Nat) (x y : Int) (p : Nat) : sp_R := if tks_ tp n p ≠ 2 then Sum.inl (2, p) else if x ≤ tkn_ tp n p ∧ tkn_ tp n p ≤ y then Sum.inr (tkn_ tp n p, nxp_ tp n p) else Sum.inl (4, p)
def tol_ (tp : Nat → Int) (n : Nat) (w x y : Int) (p : Nat) : sp_R := if tks_ tp n p = 1 ∧ tkw_ tp n p = w then num_ tp n x y (nxp_ tp n p) else Sum.inl (2, p)
def opt_ (tp : Nat → Int) (n : Nat) (w x y z : Int) (p : Nat) : sp_R := if tks_ tp n p = 1 ∧ tkw_ tp n p = w then num_ tp n x y (nxp_ tp n p) else Sum.inr (z, p)
def old_ (tp : Nat → Int) (n : Nat) (g : Nat → Int) (b m : Nat) (p : Nat) : sp_R := if ¬ (tks_ tp n p = 1 ∧ own_ (tkw_ tp n p) = false) then Sum.inl (2, p) else if fi_ g (tkw_ tp n p) b m < 0 then Sum.inl (5, p) else Sum.inr (fi_ g (tkw_ tp n p) b m, p)
theorem FT_wr {tp : Nat → Int} {n p : Nat} {σ : am_S} (hP : PS_ tp n p σ) (z : Int) : FT_ tp n (z, p) (wr_ σ z) := by
  unfold FT_ wr_
  rw [sI_at, am_up_same, am_up_ne (by decide), am_up_same, hP.1.2.1, hP.1.2.2.1]
  exact ⟨rfl, rfl⟩
theorem FT_pos {tp : Nat → Int} {n : Nat} {e : Int × Nat} {σ : am_S} (h : FT_ tp n e σ) (he : 0 < e.1) : 0 < σ.1 135 2 := by
  rw [h.1]
  split <;> omega
theorem r_toldNumber {d : Nat} (hd : 3 ≤ d) {σ : am_S} {tp : Nat → Int} {n p : Nat} (hP : PS_ tp n p σ) (h02 : σ.1 135 2 = 0) {x y : Int} {Q : Option am_V → am_S → Prop} (hQ : RI_ tp n (num_ tp n x y p) σ Q) : am_Ev d 152 [am_R 135, am_I x, am_I y] σ Q := by
  refine m_toldNumber hd hP h02 (fun z v h => ?_) (fun h σ' hf hP' => ?_)
  · rcases h with ⟨h1, rfl⟩ | ⟨h1, h2, rfl⟩
    · exact hQ.1 (2, p) (if_pos h1) _ v (fp_wr (fp_rf _ _ _ _) (by decide) (by decide)) (by show (0 : Int) < 2; decide) (FT_wr hP 2)
    · exact hQ.1 (4, p) (by unfold num_; rw [if_neg (by omega), if_neg h2]) _ v (fp_wr (fp_rf _ _ _ _) (by decide) (by decide)) (by show (0 : Int) < 4; decide) (FT_wr hP 4)
  · exact hQ.2 _ _ (by unfold num_; rw [if_neg (by omega), if_pos h.2]) σ' (fp_tr (fp_rf _ _ _ _) hf (by decide) (by decide) (by decide)) (by rw [hf.2.1 2 (by decide)]; exact h02) hP'

theorem r_told {d : Nat} (hd : 4 ≤ d) {σ : am_S} {tp : Nat → Int} {n p : Nat} (hP : PS_ tp n p σ) (h02 : σ.1 135 2 = 0) {w x y : Int} {Q : Option am_V → am_S → Prop} (hQ : RI_ tp n (tol_ tp n w x y p) σ Q) : am_Ev d 153 [am_R 135, am_J w, am_I x, am_I y] σ Q := by
  obtain ⟨d, rfl⟩ : ∃ e, d = e + 1 := ⟨d - 1, by omega⟩
  refine ev_in (m := 153) (c := k_X9_told) (L := [some (am_R 135), some (am_J w), none, some (am_I x), some (am_I y)]) rfl rfl rfl rfl rfl rfl ?_
  refine ax_load (q := 1) rfl rfl rfl rfl rfl ?_
  refine ax_load (q := 2) rfl rfl rfl rfl rfl ?_
  refine ax_callv (q := 5) rfl rfl rfl rfl rfl rfl ?_
  refine m_want (by omega) hP h02 (fun h => ?_) (fun h σ1 hf1 hP1 => ?_)
  · refine ax_load (q := 6) rfl rfl rfl rfl rfl ?_
    refine ax_load (q := 7) rfl rfl rfl rfl rfl ?_
    refine ax_load (q := 9) rfl rfl rfl rfl rfl ?_
    refine ax_callv (q := 12) rfl rfl rfl rfl rfl rfl ?_
    refine z_toldNumber (by omega) (wr_2 σ (by decide)) ?_
    refine ax_ret (r := some (am_I 0)) rfl rfl ?_
    exact hQ.1 (2, p) (if_neg h) _ _ (fp_wr (fp_rf _ _ _ _) (by decide) (by decide)) (by show (0 : Int) < 2; decide) (FT_wr hP 2)
  · refine ax_load (q := 6) rfl rfl rfl rfl rfl ?_
    refine ax_load (q := 7) rfl rfl rfl rfl rfl ?_
    refine ax_load (q := 9) rfl rfl rfl rfl rfl ?_
    refine ax_callv (q := 12) rfl rfl rfl rfl rfl rfl ?_
    have h021 : σ1.1 135 2 = 0 := by rw [hf1.2.1 2 (by decide)]; exact h02
    refine r_toldNumber (by omega) hP1 h021 ⟨fun e he σ2 v hf2 h0 hF => ?_, fun a p2 ha σ2 hf2 h22 hP2 => ?_⟩
    · refine ax_ret (r := some (am_I v)) rfl rfl ?_
      exact hQ.1 e ((if_pos h).trans he) σ2 v (fp_tr (fp_tr (fp_rf _ _ _ _) hf1 (by decide) (by decide) (by decide)) hf2 (by decide) (by decide) (by decide)) h0 hF
    · refine ax_ret (r := some (am_I a)) rfl rfl ?_
      exact hQ.2 a p2 ((if_pos h).trans ha) σ2 (fp_tr (fp_tr (fp_rf _ _ _ _) hf1 (by decide) (by decide) (by decide)) hf2 (by decide) (by decide) (by decide)) h22 hP2

theorem r_oldName {d : Nat} (hd : 3 ≤ d) {σ : am_S} {tp : Nat → Int} {n p : Nat} (hP : PS_ tp n p σ) (h02 : σ.1 135 2 = 0) {g : Nat → Int} (hg : σ.2.1 137 = g) {b m : Nat} (hbm : b + m ≤ 21) {Q : Option am_V → am_S → Prop} (hQ : RI_ tp n (old_ tp n g b m p) σ Q) : am_Ev d 157 [am_R 135, am_I ((b : Nat) : Int), am_I ((m : Nat) : Int)] σ Q := by
  obtain ⟨d, rfl⟩ : ∃ e, d = e + 1 := ⟨d - 1, by omega⟩
  have k6 := hP.1.2.1
  have k9 := hP.1.2.2.2.2
  have hfb := fi_bd g (tkw_ tp n p) b m
  refine ev_in (m := 157) (c := k_X9_oldName) (L := [some (am_R 135), some (am_I ((b : Nat) : Int)), some (am_I ((m : Nat) : Int))]) rfl rfl rfl rfl rfl rfl ?_
  refine ax_load (q := 1) rfl rfl rfl rfl rfl ?_
  refine ax_getf (q := 4) (v := am_I 0) rfl rfl (am_fg rfl h02) ?_
  refine ax_if_le (q := 7) (x := 9) rfl rfl (fun h4 => ?_) (fun h => absurd h (by omega))
  refine ax_load (q := 10) rfl rfl rfl rfl rfl ?_
  refine ax_callv (q := 13) rfl rfl rfl rfl rfl rfl ?_
  refine m_isName (by omega) ?_
  rw [k6, k9]
  refine ax_if_ne (q := 16) (x := 24) rfl rfl (fun h13 => ?_) (fun h13 => ?_)
  · have hb13 := it_n0 h13
    refine ax_load (q := 25) rfl rfl rfl rfl rfl ?_
    refine ax_load (q := 26) rfl rfl rfl rfl rfl ?_
    refine ax_load (q := 27) rfl rfl rfl rfl rfl ?_
    refine ax_callv (q := 30) rfl rfl rfl rfl rfl rfl ?_
    refine m_find (by omega) hg k9 hbm ?_
    refine ax_if_ge (q := 33) (x := 38) rfl rfl (fun h30 => ?_) (fun h30 => ?_)
    · refine ax_load (q := 39) rfl rfl rfl rfl rfl ?_
      refine ax_getf (q := 42) (v := am_I 0) rfl rfl (am_fg rfl h02) ?_
      refine ax_if_le (q := 45) (x := 49) rfl rfl (fun h42 => ?_) (fun h => absurd h (by omega))
      refine ax_load (q := 50) rfl rfl rfl rfl rfl ?_
      refine ax_load (q := 51) rfl rfl rfl rfl rfl ?_
      refine ax_load (q := 52) rfl rfl rfl rfl rfl ?_
      refine ax_callv (q := 55) rfl rfl rfl rfl rfl rfl ?_
      refine m_find (by omega) hg k9 hbm ?_
      refine ax_ret (r := some (am_I (fi_ g (tkw_ tp n p) b m))) rfl rfl ?_
      have hnm : tks_ tp n p = 1 ∧ own_ (tkw_ tp n p) = false := by simpa using hb13
      exact hQ.2 _ p (by unfold old_; rw [if_neg (fun q => q hnm), if_neg (by omega)]) σ (fp_rf _ _ _ _) h02 hP
    · refine ax_load (q := 34) rfl rfl rfl rfl rfl ?_
      refine ax_const (q := 35) (v := am_I 5) rfl rfl rfl ?_
      refine ax_callv (q := 38) rfl rfl rfl rfl rfl rfl ?_
      refine m_wrong (by omega) ?_
      rw [if_neg (by rw [h02]; decide)]
      refine ax_load (q := 39) rfl rfl rfl rfl rfl ?_
      refine ax_getf (q := 42) (v := am_I ((wr_ σ 5).1 135 2)) rfl rfl (rfl) ?_
      refine ax_if_le (q := 45) (x := 49) rfl rfl (fun h => absurd h (by have := wr_2 σ (z := 5) (by decide); omega)) (fun h42 => ?_)
      refine ax_const (q := 46) (v := am_I 0) rfl rfl rfl ?_
      refine ax_goto (x := 55) rfl ?_
      refine ax_ret (r := some (am_I 0)) rfl rfl ?_
      have hnm : tks_ tp n p = 1 ∧ own_ (tkw_ tp n p) = false := by simpa using hb13
      exact hQ.1 (5, p) (by unfold old_; rw [if_neg (fun q => q hnm), if_pos (by omega)]) _ _ (fp_wr (fp_rf _ _ _ _) (by decide) (by decide)) (by show (0 : Int) < 5; decide) (FT_wr hP 5)
  · have hb13 := it_0 h13
    refine ax_load (q := 17) rfl rfl rfl rfl rfl ?_
    refine ax_const (q := 18) (v := am_I 2) rfl rfl rfl ?_
    refine ax_callv (q := 21) rfl rfl rfl rfl rfl rfl ?_
    refine m_wrong (by omega) ?_
    rw [if_neg (by rw [h02]; decide)]
    refine ax_goto (x := 38) rfl ?_
    refine ax_load (q := 39) rfl rfl rfl rfl rfl ?_
    refine ax_getf (q := 42) (v := am_I ((wr_ σ 2).1 135 2)) rfl rfl (rfl) ?_
    refine ax_if_le (q := 45) (x := 49) rfl rfl (fun h => absurd h (by have := wr_2 σ (z := 2) (by decide); omega)) (fun h42 => ?_)
    refine ax_const (q := 46) (v := am_I 0) rfl rfl rfl ?_
    refine ax_goto (x := 55) rfl ?_
    refine ax_ret (r := some (am_I 0)) rfl rfl ?_
    exact hQ.1 (2, p) (if_pos (fun q => by rw [decide_eq_true q.1, q.2] at hb13; cases hb13)) _ _ (fp_wr (fp_rf _ _ _ _) (by decide) (by decide)) (by show (0 : Int) < 2; decide) (FT_wr hP 2)

