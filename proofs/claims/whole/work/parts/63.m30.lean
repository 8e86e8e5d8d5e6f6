/-! steps of the parser -/
def nxp_ (tp : Nat → Int) (n p : Nat) : Nat := skp_ tp n (n - tka_ tp n p) (tka_ tp n p)
theorem tka_le {tp : Nat → Int} {n p : Nat} (h : p ≤ n) : p ≤ tka_ tp n p ∧ tka_ tp n p ≤ n := by
  have h1 := rl_le lt_ tp n (n - p) p
  have h2 := rl_le dt_ tp n (n - p) p
  have hl : tkl_ tp n p ≤ n - p := by
    unfold tkl_
    split
    · omega
    · next q =>
      have : p < n := by
        unfold hr_ at q
        split at q
        · assumption
        · omega
      split
      · exact h1
      · split
        · exact h2
        · omega
  unfold tka_
  split <;> omega
def PS_ (tp : Nat → Int) (n p : Nat) (σ : am_S) : Prop := TK_ tp n p σ ∧ σ.1 136 = tp ∧ σ.1 135 5 = (n : Int) ∧ n ≤ 1600 ∧ p ≤ n
theorem nxp_le {tp : Nat → Int} {n p : Nat} (h : p ≤ n) : p ≤ nxp_ tp n p ∧ nxp_ tp n p ≤ n := by
  have h1 := tka_le (tp := tp) h
  have h2 := skp_le tp n (n - tka_ tp n p) (tka_ tp n p)
  unfold nxp_
  omega
theorem m_tokenN {d : Nat} (hd : 2 ≤ d) {σ : am_S} {tp : Nat → Int} {n p : Nat} (hP : PS_ tp n p σ) {Q : Option am_V → am_S → Prop} (hQ : ∀ σ', fp_ [] [4, 6, 7, 8, 9] [] σ σ' → PS_ tp n (nxp_ tp n p) σ' → Q none σ') : am_Ev d 146 [am_R 135] σ Q := by
  obtain ⟨h1, h2, h3, h4, h5⟩ := hP
  have ht := tka_le (tp := tp) h5
  refine m_token hd h2 h3 h4 h1.1 ht.2 (fun σ' hf hk => hQ σ' hf ⟨hk, ?_, ?_, h4, (nxp_le h5).2⟩)
  · rw [hf.1 136 (by decide) (by decide)]; exact h2
  · rw [hf.2.1 5 (by decide)]; exact h3
theorem wr_2 (σ : am_S) {z : Int} (hz : 0 < z) : 0 < (wr_ σ z).1 135 2 := by
  unfold wr_
  rw [sI_at, am_up_ne (by decide), am_up_same]
  split <;> omega
theorem fp_wr {A F B : List Nat} {σ σ' : am_S} {z : Int} (h : fp_ A F B σ σ') (h2 : 2 ∈ F) (h3 : 3 ∈ F) : fp_ A F B σ (wr_ σ' z) := by
  unfold wr_
  rw [sI_sI]
  exact ⟨fun b hb h9 => by rw [sI_ne h9]; exact h.1 b hb h9, fun j hj => by rw [sI_at, am_up_ne (fun q => hj (by rw [q]; exact h3)), am_up_ne (fun q => hj (by rw [q]; exact h2))]; exact h.2.1 j hj, h.2.2.1, h.2.2.2.1, h.2.2.2.2⟩

theorem m_want {d : Nat} (hd : 3 ≤ d) {σ : am_S} {tp : Nat → Int} {n p : Nat} (hP : PS_ tp n p σ) (h02 : σ.1 135 2 = 0) {w : Int} {Q : Option am_V → am_S → Prop} (hN : ¬ (tks_ tp n p = 1 ∧ tkw_ tp n p = w) → Q none (wr_ σ 2)) (hY : tks_ tp n p = 1 ∧ tkw_ tp n p = w → ∀ σ', fp_ [] [4, 6, 7, 8, 9] [] σ σ' → PS_ tp n (nxp_ tp n p) σ' → Q none σ') : am_Ev d 151 [am_R 135, am_J w] σ Q := by
  obtain ⟨d, rfl⟩ : ∃ e, d = e + 1 := ⟨d - 1, by omega⟩
  have k6 := hP.1.2.1
  have k9 := hP.1.2.2.2.2
  refine ev_in (m := 151) (c := k_X9_want) (L := [some (am_R 135), some (am_J w), none]) rfl rfl rfl rfl rfl rfl ?_
  refine ax_load (q := 1) rfl rfl rfl rfl rfl ?_
  refine ax_getf (q := 4) (v := am_I 0) rfl rfl (am_fg rfl h02) ?_
  refine ax_if_le (q := 7) (x := 8) rfl rfl (fun h4 => ?_) (fun h => absurd h (by omega))
  refine ax_load (q := 9) rfl rfl rfl rfl rfl ?_
  refine ax_load (q := 10) rfl rfl rfl rfl rfl ?_
  refine ax_callv (q := 13) rfl rfl rfl rfl rfl rfl ?_
  refine m_isWord (by omega) ?_
  rw [k6, k9]
  refine ax_if_ne (q := 16) (x := 24) rfl rfl (fun h13 => ?_) (fun h13 => ?_)
  · have hb13 := it_n0 h13
    refine ax_load (q := 25) rfl rfl rfl rfl rfl ?_
    refine ax_callv (q := 28) rfl rfl rfl rfl rfl rfl ?_
    refine m_tokenN (by omega) hP (fun σ1 hf1 hP1 => ?_)
    refine ax_ret (r := none) rfl rfl ?_
    exact hY (of_decide_eq_true hb13) _ hf1 hP1
  · have hb13 := it_0 h13
    refine ax_load (q := 17) rfl rfl rfl rfl rfl ?_
    refine ax_const (q := 18) (v := am_I 2) rfl rfl rfl ?_
    refine ax_callv (q := 21) rfl rfl rfl rfl rfl rfl ?_
    refine m_wrong (by omega) ?_
    rw [if_neg (by rw [h02]; decide)]
    refine ax_goto (x := 28) rfl ?_
    refine ax_ret (r := none) rfl rfl ?_
    exact hN (of_decide_eq_false hb13)

theorem m_toldNumber {d : Nat} (hd : 3 ≤ d) {σ : am_S} {tp : Nat → Int} {n p : Nat} (hP : PS_ tp n p σ) (h02 : σ.1 135 2 = 0) {x y : Int} {Q : Option am_V → am_S → Prop} (hN : ∀ z v, (tks_ tp n p ≠ 2 ∧ z = 2) ∨ (tks_ tp n p = 2 ∧ ¬ (x ≤ tkn_ tp n p ∧ tkn_ tp n p ≤ y) ∧ z = 4) → Q (some (am_I v)) (wr_ σ z)) (hY : tks_ tp n p = 2 ∧ x ≤ tkn_ tp n p ∧ tkn_ tp n p ≤ y → ∀ σ', fp_ [] [4, 6, 7, 8, 9] [] σ σ' → PS_ tp n (nxp_ tp n p) σ' → Q (some (am_I (tkn_ tp n p))) σ') : am_Ev d 152 [am_R 135, am_I x, am_I y] σ Q := by
  obtain ⟨d, rfl⟩ : ∃ e, d = e + 1 := ⟨d - 1, by omega⟩
  have k6 := hP.1.2.1
  have k8 := hP.1.2.2.2.1
  refine ev_in (m := 152) (c := k_X9_toldNumber) (L := [some (am_R 135), some (am_I x), some (am_I y), none]) rfl rfl rfl rfl rfl rfl ?_
  refine ax_load (q := 1) rfl rfl rfl rfl rfl ?_
  refine ax_getf (q := 4) (v := am_I 0) rfl rfl (am_fg rfl h02) ?_
  refine ax_if_le (q := 7) (x := 9) rfl rfl (fun h4 => ?_) (fun h => absurd h (by omega))
  refine ax_load (q := 10) rfl rfl rfl rfl rfl ?_
  refine ax_getf (q := 13) (v := am_I (tks_ tp n p)) rfl rfl (am_fg rfl k6) ?_
  refine ax_const (q := 14) (v := am_I 2) rfl rfl rfl ?_
  refine ax_icmp_eq (q := 17) (x := 25) rfl rfl (fun h14 => ?_) (fun h14 => ?_)
  · refine ax_load (q := 26) rfl rfl rfl rfl rfl ?_
    refine ax_getf (q := 29) (v := am_I (tkn_ tp n p)) rfl rfl (am_fg rfl k8) ?_
    refine ax_load (q := 30) rfl rfl rfl rfl rfl ?_
    refine ax_icmp_lt (q := 33) (x := 41) rfl rfl (fun h30 => ?_) (fun h30 => ?_)
    · refine ax_load (q := 42) rfl rfl rfl rfl rfl ?_
      refine ax_const (q := 43) (v := am_I 4) rfl rfl rfl ?_
      refine ax_callv (q := 46) rfl rfl rfl rfl rfl rfl ?_
      refine m_wrong (by omega) ?_
      rw [if_neg (by rw [h02]; decide)]
      refine ax_load (q := 47) rfl rfl rfl rfl rfl ?_
      refine ax_getf (q := 50) (v := am_I ((wr_ σ 4).1 135 8)) rfl rfl (rfl) ?_
      refine ax_store (q := 51) (L' := [some (am_R 135), some (am_I x), some (am_I y), some (am_I ((wr_ σ 4).1 135 8))]) rfl rfl rfl rfl rfl rfl ?_
      refine ax_load (q := 52) rfl rfl rfl rfl rfl ?_
      refine ax_getf (q := 55) (v := am_I ((wr_ σ 4).1 135 2)) rfl rfl (rfl) ?_
      refine ax_if_ne (q := 58) (x := 62) rfl rfl (fun h55 => ?_) (fun h => absurd h (by have := wr_2 σ (z := 4) (by decide); omega))
      refine ax_load (q := 63) rfl rfl rfl rfl rfl ?_
      refine ax_ret (r := some (am_I ((wr_ σ 4).1 135 8))) rfl rfl ?_
      exact hN 4 _ (Or.inr ⟨by assumption, by omega, rfl⟩)
    · refine ax_load (q := 34) rfl rfl rfl rfl rfl ?_
      refine ax_getf (q := 37) (v := am_I (tkn_ tp n p)) rfl rfl (am_fg rfl k8) ?_
      refine ax_load (q := 38) rfl rfl rfl rfl rfl ?_
      refine ax_icmp_le (q := 41) (x := 46) rfl rfl (fun h38 => ?_) (fun h38 => ?_)
      · refine ax_load (q := 47) rfl rfl rfl rfl rfl ?_
        refine ax_getf (q := 50) (v := am_I (tkn_ tp n p)) rfl rfl (am_fg rfl k8) ?_
        refine ax_store (q := 51) (L' := [some (am_R 135), some (am_I x), some (am_I y), some (am_I (tkn_ tp n p))]) rfl rfl rfl rfl rfl rfl ?_
        refine ax_load (q := 52) rfl rfl rfl rfl rfl ?_
        refine ax_getf (q := 55) (v := am_I 0) rfl rfl (am_fg rfl h02) ?_
        refine ax_if_ne (q := 58) (x := 62) rfl rfl (fun h => absurd h (by omega)) (fun h55 => ?_)
        refine ax_load (q := 59) rfl rfl rfl rfl rfl ?_
        refine ax_callv (q := 62) rfl rfl rfl rfl rfl rfl ?_
        refine m_tokenN (by omega) hP (fun σ1 hf1 hP1 => ?_)
        refine ax_load (q := 63) rfl rfl rfl rfl rfl ?_
        refine ax_ret (r := some (am_I (tkn_ tp n p))) rfl rfl ?_
        exact hY ⟨by assumption, by omega, by omega⟩ _ hf1 hP1
      · refine ax_load (q := 42) rfl rfl rfl rfl rfl ?_
        refine ax_const (q := 43) (v := am_I 4) rfl rfl rfl ?_
        refine ax_callv (q := 46) rfl rfl rfl rfl rfl rfl ?_
        refine m_wrong (by omega) ?_
        rw [if_neg (by rw [h02]; decide)]
        refine ax_load (q := 47) rfl rfl rfl rfl rfl ?_
        refine ax_getf (q := 50) (v := am_I ((wr_ σ 4).1 135 8)) rfl rfl (rfl) ?_
        refine ax_store (q := 51) (L' := [some (am_R 135), some (am_I x), some (am_I y), some (am_I ((wr_ σ 4).1 135 8))]) rfl rfl rfl rfl rfl rfl ?_
        refine ax_load (q := 52) rfl rfl rfl rfl rfl ?_
        refine ax_getf (q := 55) (v := am_I ((wr_ σ 4).1 135 2)) rfl rfl (rfl) ?_
        refine ax_if_ne (q := 58) (x := 62) rfl rfl (fun h55 => ?_) (fun h => absurd h (by have := wr_2 σ (z := 4) (by decide); omega))
        refine ax_load (q := 63) rfl rfl rfl rfl rfl ?_
        refine ax_ret (r := some (am_I ((wr_ σ 4).1 135 8))) rfl rfl ?_
        exact hN 4 _ (Or.inr ⟨by assumption, by omega, rfl⟩)
  · refine ax_load (q := 18) rfl rfl rfl rfl rfl ?_
    refine ax_const (q := 19) (v := am_I 2) rfl rfl rfl ?_
    refine ax_callv (q := 22) rfl rfl rfl rfl rfl rfl ?_
    refine m_wrong (by omega) ?_
    rw [if_neg (by rw [h02]; decide)]
    refine ax_goto (x := 46) rfl ?_
    refine ax_load (q := 47) rfl rfl rfl rfl rfl ?_
    refine ax_getf (q := 50) (v := am_I ((wr_ σ 2).1 135 8)) rfl rfl (rfl) ?_
    refine ax_store (q := 51) (L' := [some (am_R 135), some (am_I x), some (am_I y), some (am_I ((wr_ σ 2).1 135 8))]) rfl rfl rfl rfl rfl rfl ?_
    refine ax_load (q := 52) rfl rfl rfl rfl rfl ?_
    refine ax_getf (q := 55) (v := am_I ((wr_ σ 2).1 135 2)) rfl rfl (rfl) ?_
    refine ax_if_ne (q := 58) (x := 62) rfl rfl (fun h55 => ?_) (fun h => absurd h (by have := wr_2 σ (z := 2) (by decide); omega))
    refine ax_load (q := 63) rfl rfl rfl rfl rfl ?_
    refine ax_ret (r := some (am_I ((wr_ σ 2).1 135 8))) rfl rfl ?_
    exact hN 2 _ (Or.inl ⟨by assumption, rfl⟩)

theorem z_want {d : Nat} (hd : 1 ≤ d) {σ : am_S} {w : Int} (h2 : 0 < σ.1 135 2) {Q : Option am_V → am_S → Prop} (hQ : Q (none) σ) : am_Ev d 151 [am_R 135, am_J w] σ Q := by
  obtain ⟨d, rfl⟩ : ∃ e, d = e + 1 := ⟨d - 1, by omega⟩
  refine ev_in (m := 151) (c := k_X9_want) (L := [some (am_R 135), some (am_J w), none]) rfl rfl rfl rfl rfl rfl ?_
  refine ax_load (q := 1) rfl rfl rfl rfl rfl ?_
  refine ax_getf (q := 4) (v := am_I (σ.1 135 2)) rfl rfl (rfl) ?_
  refine ax_if_le (q := 7) (x := 8) rfl rfl (fun h => absurd h (by omega)) (fun h4 => ?_)
  refine ax_ret (r := none) rfl rfl ?_
  exact hQ

theorem z_toldNumber {d : Nat} (hd : 1 ≤ d) {σ : am_S} {x y : Int} (h2 : 0 < σ.1 135 2) {Q : Option am_V → am_S → Prop} (hQ : Q (some (am_I 0)) σ) : am_Ev d 152 [am_R 135, am_I x, am_I y] σ Q := by
  obtain ⟨d, rfl⟩ : ∃ e, d = e + 1 := ⟨d - 1, by omega⟩
  refine ev_in (m := 152) (c := k_X9_toldNumber) (L := [some (am_R 135), some (am_I x), some (am_I y), none]) rfl rfl rfl rfl rfl rfl ?_
  refine ax_load (q := 1) rfl rfl rfl rfl rfl ?_
  refine ax_getf (q := 4) (v := am_I (σ.1 135 2)) rfl rfl (rfl) ?_
  refine ax_if_le (q := 7) (x := 9) rfl rfl (fun h => absurd h (by omega)) (fun h4 => ?_)
  refine ax_const (q := 8) (v := am_I 0) rfl rfl rfl ?_
  refine ax_ret (r := some (am_I 0)) rfl rfl ?_
  exact hQ

theorem z_oldName {d : Nat} (hd : 1 ≤ d) {σ : am_S} {x y : Int} (h2 : 0 < σ.1 135 2) {Q : Option am_V → am_S → Prop} (hQ : Q (some (am_I 0)) σ) : am_Ev d 157 [am_R 135, am_I x, am_I y] σ Q := by
  obtain ⟨d, rfl⟩ : ∃ e, d = e + 1 := ⟨d - 1, by omega⟩
  refine ev_in (m := 157) (c := k_X9_oldName) (L := [some (am_R 135), some (am_I x), some (am_I y)]) rfl rfl rfl rfl rfl rfl ?_
  refine ax_load (q := 1) rfl rfl rfl rfl rfl ?_
  refine ax_getf (q := 4) (v := am_I (σ.1 135 2)) rfl rfl (rfl) ?_
  refine ax_if_le (q := 7) (x := 9) rfl rfl (fun h => absurd h (by omega)) (fun h4 => ?_)
  refine ax_const (q := 8) (v := am_I 0) rfl rfl rfl ?_
  refine ax_ret (r := some (am_I 0)) rfl rfl ?_
  exact hQ

