/-- the class's signs -/
def XS_ (G : Nat → Nat → Int) (n : Nat) (σ : am_S) : Prop :=
  (σ.1 127 0 = (n : Int)) ∧ (n ≤ 30) ∧ (∀ j, j < n → σ.1 128 j = G 0 j) ∧ (∀ j, j < n → σ.1 129 j = G 1 j) ∧ (∀ j, j < n → σ.1 130 j = G 2 j) ∧ (∀ j, j < n → σ.1 131 j = G 5 j) ∧ (∀ j, j < n → σ.1 132 j = G 3 j) ∧ (∀ j, j < n → σ.1 133 j = G 4 j) ∧ (∀ j, j < n → 0 ≤ G 1 j ∧ G 1 j ≤ 2) ∧ (∀ j, j < n → G 5 j = 0 ∨ G 5 j = 1) ∧ (∀ j, j < n → G 4 j = -1 ∨ 0 ≤ G 4 j)
theorem XS_.ct {G : Nat → Nat → Int} {n : Nat} {σ : am_S} (h : XS_ G n σ) : σ.1 127 0 = (n : Int) := h.1
theorem XS_.le {G : Nat → Nat → Int} {n : Nat} {σ : am_S} (h : XS_ G n σ) : n ≤ 30 := h.2.1
theorem XS_.pe {G : Nat → Nat → Int} {n : Nat} {σ : am_S} (h : XS_ G n σ) : ∀ j, j < n → σ.1 128 j = G 0 j := h.2.2.1
theorem XS_.so {G : Nat → Nat → Int} {n : Nat} {σ : am_S} (h : XS_ G n σ) : ∀ j, j < n → σ.1 129 j = G 1 j := h.2.2.2.1
theorem XS_.nu {G : Nat → Nat → Int} {n : Nat} {σ : am_S} (h : XS_ G n σ) : ∀ j, j < n → σ.1 130 j = G 2 j := h.2.2.2.2.1
theorem XS_.ar {G : Nat → Nat → Int} {n : Nat} {σ : am_S} (h : XS_ G n σ) : ∀ j, j < n → σ.1 131 j = G 5 j := h.2.2.2.2.2.1
theorem XS_.at_ {G : Nat → Nat → Int} {n : Nat} {σ : am_S} (h : XS_ G n σ) : ∀ j, j < n → σ.1 132 j = G 3 j := h.2.2.2.2.2.2.1
theorem XS_.un {G : Nat → Nat → Int} {n : Nat} {σ : am_S} (h : XS_ G n σ) : ∀ j, j < n → σ.1 133 j = G 4 j := h.2.2.2.2.2.2.2.1
theorem XS_.s2 {G : Nat → Nat → Int} {n : Nat} {σ : am_S} (h : XS_ G n σ) : ∀ j, j < n → 0 ≤ G 1 j ∧ G 1 j ≤ 2 := h.2.2.2.2.2.2.2.2.1
theorem XS_.a1 {G : Nat → Nat → Int} {n : Nat} {σ : am_S} (h : XS_ G n σ) : ∀ j, j < n → G 5 j = 0 ∨ G 5 j = 1 := h.2.2.2.2.2.2.2.2.2.1
theorem XS_.u1 {G : Nat → Nat → Int} {n : Nat} {σ : am_S} (h : XS_ G n σ) : ∀ j, j < n → G 4 j = -1 ∨ 0 ≤ G 4 j := h.2.2.2.2.2.2.2.2.2.2
theorem XS_.cg {G : Nat → Nat → Int} {n : Nat} {σ σ' : am_S} (h : XS_ G n σ) (hf : ∀ b, 127 ≤ b → b ≤ 133 → σ'.1 b = σ.1 b) : XS_ G n σ' := by
  obtain ⟨h1, h2, h3, h4, h5, h6, h7, h8, h9, h10, h11⟩ := h
  exact ⟨by rw [hf _ (by decide) (by decide)]; exact h1, h2, by rw [hf _ (by decide) (by decide)]; exact h3, by rw [hf _ (by decide) (by decide)]; exact h4, by rw [hf _ (by decide) (by decide)]; exact h5, by rw [hf _ (by decide) (by decide)]; exact h6, by rw [hf _ (by decide) (by decide)]; exact h7, by rw [hf _ (by decide) (by decide)]; exact h8, h9, h10, h11⟩

theorem x_seen {d : Nat} (hd : 1 ≤ d) {σ : am_S} {t : Nat} {T : sp_T} (hX : XT_ t T σ) (hV : TV_ T) {o : Nat} (ho : o < nO_ T) {z : Int} (hz : z = 0 ∨ z = 1 ∨ z = 2) {Q : Option am_V → am_S → Prop} (hQ : Q (some (am_I (mk_ T o z))) σ) : am_Ev d 85 [am_R t, am_I ((o : Nat) : Int), am_I z] σ Q := by
  obtain ⟨d, rfl⟩ : ∃ e, d = e + 1 := ⟨d - 1, by omega⟩
  have hO8 := hV.nO
  refine ev_in (m := 85) (c := k_X6_seen) (L := [some (am_R t), some (am_I ((o : Nat) : Int)), some (am_I z)]) rfl rfl rfl rfl rfl rfl ?_
  refine ax_load (q := 1) rfl rfl rfl rfl rfl ?_
  rcases hz with rfl | rfl | rfl
  · refine ax_lsw (q := 28) rfl (by decide) ?_
    refine ax_load (q := 29) rfl rfl rfl rfl rfl ?_
    refine ax_getf (q := 32) (v := am_R (t + 7)) rfl rfl (xg7_2 hX.ht) ?_
    refine ax_const (q := 33) (v := am_I 2) rfl rfl rfl ?_
    refine bx_aald (q := 34) (k := 2) (z := t + 10) rfl rfl (Or.inl (kd_7 hX.ht)) (by omega) (by omega) (by omega) ?_
    refine ax_load (q := 35) rfl rfl rfl rfl rfl ?_
    refine bx_iald (q := 36) (k := o) (z := T 153 o) rfl rfl (kd_10 hX.ht) (by omega) (by omega) (hX.sea _ (by omega)) ?_
    refine ax_ret (r := some (am_I (T 153 o))) rfl rfl ?_
    exact hQ
  · refine ax_lsw (q := 37) rfl (by decide) ?_
    refine ax_load (q := 38) rfl rfl rfl rfl rfl ?_
    refine ax_getf (q := 41) (v := am_R (t + 7)) rfl rfl (xg7_2 hX.ht) ?_
    refine ax_const (q := 42) (v := am_I 3) rfl rfl rfl ?_
    refine bx_aald (q := 43) (k := 3) (z := t + 11) rfl rfl (Or.inl (kd_7 hX.ht)) (by omega) (by omega) (by omega) ?_
    refine ax_load (q := 44) rfl rfl rfl rfl rfl ?_
    refine bx_iald (q := 45) (k := o) (z := T 154 o) rfl rfl (kd_11 hX.ht) (by omega) (by omega) (hX.wei _ (by omega)) ?_
    refine ax_ret (r := some (am_I (T 154 o))) rfl rfl ?_
    exact hQ
  · refine ax_lsw (q := 46) rfl (by decide) ?_
    refine ax_load (q := 47) rfl rfl rfl rfl rfl ?_
    refine ax_getf (q := 50) (v := am_R (t + 7)) rfl rfl (xg7_2 hX.ht) ?_
    refine ax_const (q := 51) (v := am_I 0) rfl rfl rfl ?_
    refine bx_aald (q := 52) (k := 0) (z := t + 8) rfl rfl (Or.inl (kd_7 hX.ht)) (by omega) (by omega) (by omega) ?_
    refine ax_load (q := 53) rfl rfl rfl rfl rfl ?_
    refine bx_iald (q := 54) (k := o) (z := (((sk_ T o) : Nat) : Int)) rfl rfl (kd_8 hX.ht) (by omega) (by omega) ((hX.ask _ (by omega)).trans (hV.sk (by omega)).1) ?_
    refine ax_ret (r := some (am_I (((sk_ T o) : Nat) : Int))) rfl rfl ?_
    exact hQ

theorem x_counts {d : Nat} (hd : 1 ≤ d) {σ : am_S} {G : Nat → Nat → Int} {n : Nat} (hS : XS_ G n σ) {j : Nat} (hj : j < n) {k : Int} {Q : Option am_V → am_S → Prop} (hQ : Q (some (am_I (if decide (G 3 j ≤ k) && (decide (G 4 j < 0) || decide (k < G 4 j)) then 1 else 0))) σ) : am_Ev d 82 [am_R 127, am_I ((j : Nat) : Int), am_I k] σ Q := by
  obtain ⟨d, rfl⟩ : ∃ e, d = e + 1 := ⟨d - 1, by omega⟩
  have hn := hS.le
  have hu := hS.u1 j hj
  refine ev_in (m := 82) (c := k_X6_counts) (L := [some (am_R 127), some (am_I ((j : Nat) : Int)), some (am_I k)]) rfl rfl rfl rfl rfl rfl ?_
  refine ax_load (q := 1) rfl rfl rfl rfl rfl ?_
  refine ax_getf (q := 4) (v := am_R 132) rfl rfl (rfl) ?_
  refine ax_load (q := 5) rfl rfl rfl rfl rfl ?_
  refine bx_iald (q := 6) (k := j) (z := G 3 j) rfl rfl (rfl) (by omega) (by omega) (hS.at_ _ (by omega)) ?_
  refine ax_load (q := 7) rfl rfl rfl rfl rfl ?_
  refine ax_icmp_gt (q := 10) (x := 34) rfl rfl (fun h7 => ?_) (fun h7 => ?_)
  · refine ax_const (q := 35) (v := am_I 0) rfl rfl rfl ?_
    refine ax_ret (r := some (am_I 0)) rfl ⟨rfl, Or.inl rfl⟩ ?_
    have e : (decide (G 3 j ≤ k) && (decide (G 4 j < 0) || decide (k < G 4 j))) = false := by
      rw [← Bool.not_eq_true, Bool.and_eq_true, Bool.or_eq_true, decide_eq_true_eq, decide_eq_true_eq, decide_eq_true_eq]
      omega
    rw [e] at hQ
    exact hQ
  · refine ax_load (q := 11) rfl rfl rfl rfl rfl ?_
    refine ax_getf (q := 14) (v := am_R 133) rfl rfl (rfl) ?_
    refine ax_load (q := 15) rfl rfl rfl rfl rfl ?_
    refine bx_iald (q := 16) (k := j) (z := G 4 j) rfl rfl (rfl) (by omega) (by omega) (hS.un _ (by omega)) ?_
    refine ax_const (q := 17) (v := am_I (-1)) rfl rfl rfl ?_
    refine ax_icmp_eq (q := 20) (x := 30) rfl rfl (fun h17 => ?_) (fun h17 => ?_)
    · refine ax_const (q := 31) (v := am_I 1) rfl rfl rfl ?_
      refine ax_goto (x := 35) rfl ?_
      refine ax_ret (r := some (am_I 1)) rfl ⟨rfl, Or.inr rfl⟩ ?_
      have e : (decide (G 3 j ≤ k) && (decide (G 4 j < 0) || decide (k < G 4 j))) = true := by
        rw [Bool.and_eq_true, Bool.or_eq_true, decide_eq_true_eq, decide_eq_true_eq, decide_eq_true_eq]
        omega
      rw [e] at hQ
      exact hQ
    · refine ax_load (q := 21) rfl rfl rfl rfl rfl ?_
      refine ax_getf (q := 24) (v := am_R 133) rfl rfl (rfl) ?_
      refine ax_load (q := 25) rfl rfl rfl rfl rfl ?_
      refine bx_iald (q := 26) (k := j) (z := G 4 j) rfl rfl (rfl) (by omega) (by omega) (hS.un _ (by omega)) ?_
      refine ax_load (q := 27) rfl rfl rfl rfl rfl ?_
      refine ax_icmp_le (q := 30) (x := 34) rfl rfl (fun h27 => ?_) (fun h27 => ?_)
      · refine ax_const (q := 35) (v := am_I 0) rfl rfl rfl ?_
        refine ax_ret (r := some (am_I 0)) rfl ⟨rfl, Or.inl rfl⟩ ?_
        have e : (decide (G 3 j ≤ k) && (decide (G 4 j < 0) || decide (k < G 4 j))) = false := by
          rw [← Bool.not_eq_true, Bool.and_eq_true, Bool.or_eq_true, decide_eq_true_eq, decide_eq_true_eq, decide_eq_true_eq]
          omega
        rw [e] at hQ
        exact hQ
      · refine ax_const (q := 31) (v := am_I 1) rfl rfl rfl ?_
        refine ax_goto (x := 35) rfl ?_
        refine ax_ret (r := some (am_I 1)) rfl ⟨rfl, Or.inr rfl⟩ ?_
        have e : (decide (G 3 j ≤ k) && (decide (G 4 j < 0) || decide (k < G 4 j))) = true := by
          rw [Bool.and_eq_true, Bool.or_eq_true, decide_eq_true_eq, decide_eq_true_eq, decide_eq_true_eq]
          omega
        rw [e] at hQ
        exact hQ

def al2_ : Nat → (Nat → Bool) → Bool
  | 0, _ => true
  | n + 1, p => al2_ n p && p n
theorem al2_f {p : Nat → Bool} {k : Nat} (h : al2_ k p = false) : ∀ m, al2_ (k + m) p = false
  | 0 => h
  | m + 1 => by show (al2_ (k + m) p && _) = false; rw [al2_f h m, Bool.false_and]
theorem im_al (T : sp_T) (G : Nat → Nat → Int) (p o : Nat) (t : Int) : ∀ n, im_ T G p o t n = (decide (0 < T 158 (8 * pa_ T p + o)) && al2_ n (me_ T G p o t))
  | 0 => by show decide _ = (decide _ && true); rw [Bool.and_true]
  | n + 1 => by
    show (im_ T G p o t n && me_ T G p o t n) = (decide _ && (al2_ n (me_ T G p o t) && me_ T G p o t n))
    rw [im_al T G p o t n, Bool.and_assoc]

theorem xl_fits {d : Nat} (hd : 1 ≤ d) {σ : am_S} {t : Nat} {T : sp_T} (hX : XT_ t T σ) (hV : TV_ T) {G : Nat → Nat → Int} {n : Nat} (hS : XS_ G n σ) {p o : Nat} (ho : o < nO_ T) {k : Int} {Q : Option am_V → am_S → Prop} (hQ : Q (some (am_I (if al2_ n (me_ T G p o k) then 1 else 0))) σ) : ∀ (m j : Nat) (x6 : Option am_V), j + m = n → al2_ j (me_ T G p o k) = true → aW d 1 k_X6_fits Q 3 [some (am_R 127), some (am_R t), some (am_I ((p : Nat) : Int)), some (am_I ((o : Nat) : Int)), some (am_I k), some (am_I ((j : Nat) : Int)), x6] [] σ := by
  have hn := hS.le
  intro m
  induction m with
  | zero =>
    intro j x6 hj ha
    obtain rfl : j = n := by omega
    refine ax_load (q := 5) rfl rfl rfl rfl rfl ?_
    refine ax_load (q := 6) rfl rfl rfl rfl rfl ?_
    refine ax_getf (q := 9) (v := am_I ((j : Nat) : Int)) rfl rfl (am_fg rfl hS.ct) ?_
    refine ax_icmp_ge (q := 12) (x := 83) rfl rfl (fun h9 => ?_) (fun h => absurd h (by omega))
    refine ax_const (q := 84) (v := am_I 1) rfl rfl rfl ?_
    refine ax_ret (r := some (am_I 1)) rfl ⟨rfl, Or.inr rfl⟩ ?_
    rw [if_pos ha] at hQ
    exact hQ
  | succ m ih =>
    intro j x6 hj ha
    have hjn : j < n := by omega
    have hs2 := hS.s2 j hjn
    have ha1 := hS.a1 j hjn
    have hme : me_ T G p o k j = (!(decide (G 0 j = (p : Int)) && (decide (G 3 j ≤ k) && (decide (G 4 j < 0) || decide (k < G 4 j)))) || (decide (mk_ T o (G 1 j) = G 2 j) == decide (G 5 j = 1))) := rfl
    refine ax_load (q := 5) rfl rfl rfl rfl rfl ?_
    refine ax_load (q := 6) rfl rfl rfl rfl rfl ?_
    refine ax_getf (q := 9) (v := am_I ((n : Nat) : Int)) rfl rfl (am_fg rfl hS.ct) ?_
    refine ax_icmp_ge (q := 12) (x := 83) rfl rfl (fun h => absurd h (by omega)) (fun h9 => ?_)
    refine ax_load (q := 13) rfl rfl rfl rfl rfl ?_
    refine ax_getf (q := 16) (v := am_R 128) rfl rfl (rfl) ?_
    refine ax_load (q := 18) rfl rfl rfl rfl rfl ?_
    refine bx_iald (q := 19) (k := j) (z := G 0 j) rfl rfl (rfl) (by omega) (by omega) (hS.pe _ (by omega)) ?_
    refine ax_load (q := 20) rfl rfl rfl rfl rfl ?_
    refine ax_icmp_ne (q := 23) (x := 77) rfl rfl (fun h20 => ?_) (fun h20 => ?_)
    · refine ax_iinc (q := 80) (z' := ((j + 1 : Nat) : Int)) (L' := [some (am_R 127), some (am_R t), some (am_I ((p : Nat) : Int)), some (am_I ((o : Nat) : Int)), some (am_I k), some (am_I ((j + 1 : Nat) : Int)), x6]) rfl rfl rfl rfl (am_we (by omega) (by omega) (by omega)) rfl ?_
      refine ax_goto (x := 3) rfl ?_
      have e : me_ T G p o k j = true := by rw [hme]; rw [decide_eq_false (by omega)]; rfl
      have ha2 : al2_ (j + 1) (me_ T G p o k) = true := by show (al2_ j _ && _) = true; rw [ha, e]; rfl
      exact ih (j + 1) _ (by omega) ha2
    · refine ax_load (q := 24) rfl rfl rfl rfl rfl ?_
      refine ax_load (q := 26) rfl rfl rfl rfl rfl ?_
      refine ax_load (q := 28) rfl rfl rfl rfl rfl ?_
      refine ax_callv (q := 31) rfl rfl rfl rfl rfl rfl ?_
      refine x_counts (by omega) hS hjn ?_
      refine ax_if_eq (q := 34) (x := 77) rfl rfl (fun h31 => ?_) (fun h31 => ?_)
      · have hb31 := it_0 h31
        refine ax_iinc (q := 80) (z' := ((j + 1 : Nat) : Int)) (L' := [some (am_R 127), some (am_R t), some (am_I ((p : Nat) : Int)), some (am_I ((o : Nat) : Int)), some (am_I k), some (am_I ((j + 1 : Nat) : Int)), x6]) rfl rfl rfl rfl (am_we (by omega) (by omega) (by omega)) rfl ?_
        refine ax_goto (x := 3) rfl ?_
        have e : me_ T G p o k j = true := by rw [hme]; rw [hb31]; simp
        have ha2 : al2_ (j + 1) (me_ T G p o k) = true := by show (al2_ j _ && _) = true; rw [ha, e]; rfl
        exact ih (j + 1) _ (by omega) ha2
      · have hb31 := it_n0 h31
        refine ax_load (q := 35) rfl rfl rfl rfl rfl ?_
        refine ax_load (q := 36) rfl rfl rfl rfl rfl ?_
        refine ax_load (q := 37) rfl rfl rfl rfl rfl ?_
        refine ax_getf (q := 40) (v := am_R 129) rfl rfl (rfl) ?_
        refine ax_load (q := 42) rfl rfl rfl rfl rfl ?_
        refine bx_iald (q := 43) (k := j) (z := G 1 j) rfl rfl (rfl) (by omega) (by omega) (hS.so _ (by omega)) ?_
        refine ax_calls (q := 46) rfl rfl rfl rfl rfl ?_
        refine x_seen (by omega) hX hV ho (by omega) ?_
        refine ax_load (q := 47) rfl rfl rfl rfl rfl ?_
        refine ax_getf (q := 50) (v := am_R 130) rfl rfl (rfl) ?_
        refine ax_load (q := 52) rfl rfl rfl rfl rfl ?_
        refine bx_iald (q := 53) (k := j) (z := G 2 j) rfl rfl (rfl) (by omega) (by omega) (hS.nu _ (by omega)) ?_
        refine ax_icmp_ne (q := 56) (x := 60) rfl rfl (fun h53 => ?_) (fun h53 => ?_)
        · refine ax_const (q := 61) (v := am_I 0) rfl rfl rfl ?_
          refine ax_store (q := 63) (L' := [some (am_R 127), some (am_R t), some (am_I ((p : Nat) : Int)), some (am_I ((o : Nat) : Int)), some (am_I k), some (am_I ((j : Nat) : Int)), some (am_I 0)]) rfl rfl rfl rfl rfl rfl ?_
          refine ax_load (q := 65) rfl rfl rfl rfl rfl ?_
          refine ax_load (q := 66) rfl rfl rfl rfl rfl ?_
          refine ax_getf (q := 69) (v := am_R 131) rfl rfl (rfl) ?_
          refine ax_load (q := 71) rfl rfl rfl rfl rfl ?_
          refine bx_bald (q := 72) (k := j) (z := G 5 j) rfl rfl (Or.inr rfl) (by omega) (by omega) (hS.ar _ (by omega)) ?_
          refine ax_icmp_eq (q := 75) (x := 77) rfl rfl (fun h72 => ?_) (fun h72 => ?_)
          · refine ax_iinc (q := 80) (z' := ((j + 1 : Nat) : Int)) (L' := [some (am_R 127), some (am_R t), some (am_I ((p : Nat) : Int)), some (am_I ((o : Nat) : Int)), some (am_I k), some (am_I ((j + 1 : Nat) : Int)), some (am_I 0)]) rfl rfl rfl rfl (am_we (by omega) (by omega) (by omega)) rfl ?_
            refine ax_goto (x := 3) rfl ?_
            have e : me_ T G p o k j = true := by rw [hme]; rw [decide_eq_false (by omega : ¬ mk_ T o (G 1 j) = G 2 j), decide_eq_false (by omega : ¬ G 5 j = 1)]; simp
            have ha2 : al2_ (j + 1) (me_ T G p o k) = true := by show (al2_ j _ && _) = true; rw [ha, e]; rfl
            exact ih (j + 1) _ (by omega) ha2
          · refine ax_const (q := 76) (v := am_I 0) rfl rfl rfl ?_
            refine ax_ret (r := some (am_I 0)) rfl ⟨rfl, Or.inl rfl⟩ ?_
            have e : me_ T G p o k j = false := by rw [hme, decide_eq_true (by omega), hb31]; rw [decide_eq_false (by omega : ¬ mk_ T o (G 1 j) = G 2 j), decide_eq_true (by omega :  G 5 j = 1)]; rfl
            have ha2 : al2_ (j + 1) (me_ T G p o k) = false := by show (al2_ j _ && _) = false; rw [e, Bool.and_false]
            have ha3 := al2_f ha2 m
            rw [show j + 1 + m = n by omega] at ha3
            rw [ha3] at hQ
            exact hQ
        · refine ax_const (q := 57) (v := am_I 1) rfl rfl rfl ?_
          refine ax_goto (x := 61) rfl ?_
          refine ax_store (q := 63) (L' := [some (am_R 127), some (am_R t), some (am_I ((p : Nat) : Int)), some (am_I ((o : Nat) : Int)), some (am_I k), some (am_I ((j : Nat) : Int)), some (am_I 1)]) rfl rfl rfl rfl rfl rfl ?_
          refine ax_load (q := 65) rfl rfl rfl rfl rfl ?_
          refine ax_load (q := 66) rfl rfl rfl rfl rfl ?_
          refine ax_getf (q := 69) (v := am_R 131) rfl rfl (rfl) ?_
          refine ax_load (q := 71) rfl rfl rfl rfl rfl ?_
          refine bx_bald (q := 72) (k := j) (z := G 5 j) rfl rfl (Or.inr rfl) (by omega) (by omega) (hS.ar _ (by omega)) ?_
          refine ax_icmp_eq (q := 75) (x := 77) rfl rfl (fun h72 => ?_) (fun h72 => ?_)
          · refine ax_iinc (q := 80) (z' := ((j + 1 : Nat) : Int)) (L' := [some (am_R 127), some (am_R t), some (am_I ((p : Nat) : Int)), some (am_I ((o : Nat) : Int)), some (am_I k), some (am_I ((j + 1 : Nat) : Int)), some (am_I 1)]) rfl rfl rfl rfl (am_we (by omega) (by omega) (by omega)) rfl ?_
            refine ax_goto (x := 3) rfl ?_
            have e : me_ T G p o k j = true := by rw [hme]; rw [decide_eq_true (by omega :  mk_ T o (G 1 j) = G 2 j), decide_eq_true (by omega :  G 5 j = 1)]; simp
            have ha2 : al2_ (j + 1) (me_ T G p o k) = true := by show (al2_ j _ && _) = true; rw [ha, e]; rfl
            exact ih (j + 1) _ (by omega) ha2
          · refine ax_const (q := 76) (v := am_I 0) rfl rfl rfl ?_
            refine ax_ret (r := some (am_I 0)) rfl ⟨rfl, Or.inl rfl⟩ ?_
            have e : me_ T G p o k j = false := by rw [hme, decide_eq_true (by omega), hb31]; rw [decide_eq_true (by omega :  mk_ T o (G 1 j) = G 2 j), decide_eq_false (by omega : ¬ G 5 j = 1)]; rfl
            have ha2 : al2_ (j + 1) (me_ T G p o k) = false := by show (al2_ j _ && _) = false; rw [e, Bool.and_false]
            have ha3 := al2_f ha2 m
            rw [show j + 1 + m = n by omega] at ha3
            rw [ha3] at hQ
            exact hQ

theorem x_fits {d : Nat} (hd : 2 ≤ d) {σ : am_S} {t : Nat} {T : sp_T} (hX : XT_ t T σ) (hV : TV_ T) {G : Nat → Nat → Int} {n : Nat} (hS : XS_ G n σ) {p o : Nat} (ho : o < nO_ T) {k : Int} {Q : Option am_V → am_S → Prop} (hQ : Q (some (am_I (if al2_ n (me_ T G p o k) then 1 else 0))) σ) : am_Ev d 84 [am_R 127, am_R t, am_I ((p : Nat) : Int), am_I ((o : Nat) : Int), am_I k] σ Q := by
  obtain ⟨d, rfl⟩ : ∃ e, d = e + 1 := ⟨d - 1, by omega⟩
  refine ev_in (m := 84) (c := k_X6_fits) (L := [some (am_R 127), some (am_R t), some (am_I ((p : Nat) : Int)), some (am_I ((o : Nat) : Int)), some (am_I k), none, none]) rfl rfl rfl rfl rfl rfl ?_
  refine ax_const (q := 1) (v := am_I 0) rfl rfl rfl ?_
  refine ax_store (q := 3) (L' := [some (am_R 127), some (am_R t), some (am_I ((p : Nat) : Int)), some (am_I ((o : Nat) : Int)), some (am_I k), some (am_I 0), none]) rfl rfl rfl rfl rfl rfl ?_
  exact xl_fits (by omega) hX hV hS ho hQ n 0 _ (by omega) rfl

theorem xl_fitting {d : Nat} (hd : 2 ≤ d) {σ : am_S} {t : Nat} {T : sp_T} (hX : XT_ t T σ) (hV : TV_ T) {G : Nat → Nat → Int} {n : Nat} (hS : XS_ G n σ) {p : Nat} (hp : p < nP_ T) {k : Int} {Q : Option am_V → am_S → Prop} (hQ : Q (some (am_I ((ms_ T G n p k : Nat) : Int))) σ) : ∀ (m j : Nat), j + m = nO_ T → aW d 0 k_X6_fitting Q 13 [some (am_R 127), some (am_R t), some (am_I ((p : Nat) : Int)), some (am_I k), some (am_R (t + 16 + (pa_ T p))), some (am_I (((bi_ j (fun o => im_ T G p o k n)) : Nat) : Int)), some (am_I ((j : Nat) : Int))] [] σ := by
  have hO8 := hV.nO
  have hpa := hV.pa hp
  intro m
  induction m with
  | zero =>
    intro j hj
    obtain rfl : j = nO_ T := by omega
    refine ax_load (q := 15) rfl rfl rfl rfl rfl ?_
    refine ax_load (q := 16) rfl rfl rfl rfl rfl ?_
    refine ax_getf (q := 19) (v := am_R (t + 1)) rfl rfl (xg7_0 hX.ht) ?_
    refine ax_const (q := 20) (v := am_I 2) rfl rfl rfl ?_
    refine bx_iald (q := 21) (k := 2) (z := (((nO_ T) : Nat) : Int)) rfl rfl (kd_1 hX.ht) (by omega) (by omega) (hX.c2.trans hV.nO.1) ?_
    refine ax_icmp_ge (q := 24) (x := 59) rfl rfl (fun h21 => ?_) (fun h => absurd h (by omega))
    refine ax_load (q := 61) rfl rfl rfl rfl rfl ?_
    refine ax_ret (r := some (am_I (((bi_ (nO_ T) (fun o => im_ T G p o k n)) : Nat) : Int))) rfl rfl ?_
    exact hQ
  | succ m ih =>
    intro j hj
    have hbl := bi_lt (fun o => im_ T G p o k n) j
    have hp2 : 2 ^ j < 2 ^ 8 := Nat.pow_lt_pow_right (by decide) (by omega)
    have him := im_al T G p j k n
    refine ax_load (q := 15) rfl rfl rfl rfl rfl ?_
    refine ax_load (q := 16) rfl rfl rfl rfl rfl ?_
    refine ax_getf (q := 19) (v := am_R (t + 1)) rfl rfl (xg7_0 hX.ht) ?_
    refine ax_const (q := 20) (v := am_I 2) rfl rfl rfl ?_
    refine bx_iald (q := 21) (k := 2) (z := (((nO_ T) : Nat) : Int)) rfl rfl (kd_1 hX.ht) (by omega) (by omega) (hX.c2.trans hV.nO.1) ?_
    refine ax_icmp_ge (q := 24) (x := 59) rfl rfl (fun h => absurd h (by omega)) (fun h21 => ?_)
    refine ax_load (q := 26) rfl rfl rfl rfl rfl ?_
    refine ax_load (q := 28) rfl rfl rfl rfl rfl ?_
    refine bx_iald (q := 29) (k := j) (z := T 158 (8 * (pa_ T p) + j)) rfl rfl (kd_sh hX.ht (by omega)) (by omega) (by omega) (hX.sha _ _ (by omega) (by omega)) ?_
    refine ax_if_le (q := 32) (x := 53) rfl rfl (fun h29 => ?_) (fun h29 => ?_)
    · refine ax_iinc (q := 56) (z' := ((j + 1 : Nat) : Int)) (L' := [some (am_R 127), some (am_R t), some (am_I ((p : Nat) : Int)), some (am_I k), some (am_R (t + 16 + (pa_ T p))), some (am_I (((bi_ j (fun o => im_ T G p o k n)) : Nat) : Int)), some (am_I ((j + 1 : Nat) : Int))]) rfl rfl rfl rfl (am_we (by omega) (by omega) (by omega)) rfl ?_
      refine ax_goto (x := 13) rfl ?_
      have e : bi_ (j + 1) (fun o => im_ T G p o k n) = bi_ j (fun o => im_ T G p o k n) := by show _ + (if im_ T G p j k n = true then _ else 0) = _; rw [if_neg (by rw [him, decide_eq_false (by omega), Bool.false_and]; decide)]; rfl
      have g := ih (j + 1) (by omega)
      rw [e] at g
      exact g
    · refine ax_load (q := 33) rfl rfl rfl rfl rfl ?_
      refine ax_load (q := 34) rfl rfl rfl rfl rfl ?_
      refine ax_load (q := 35) rfl rfl rfl rfl rfl ?_
      refine ax_load (q := 37) rfl rfl rfl rfl rfl ?_
      refine ax_load (q := 38) rfl rfl rfl rfl rfl ?_
      refine ax_callv (q := 41) rfl rfl rfl rfl rfl rfl ?_
      refine x_fits (by omega) hX hV hS (by omega) ?_
      refine ax_if_eq (q := 44) (x := 53) rfl rfl (fun h41 => ?_) (fun h41 => ?_)
      · have hb41 := it_0 h41
        refine ax_iinc (q := 56) (z' := ((j + 1 : Nat) : Int)) (L' := [some (am_R 127), some (am_R t), some (am_I ((p : Nat) : Int)), some (am_I k), some (am_R (t + 16 + (pa_ T p))), some (am_I (((bi_ j (fun o => im_ T G p o k n)) : Nat) : Int)), some (am_I ((j + 1 : Nat) : Int))]) rfl rfl rfl rfl (am_we (by omega) (by omega) (by omega)) rfl ?_
        refine ax_goto (x := 13) rfl ?_
        have e : bi_ (j + 1) (fun o => im_ T G p o k n) = bi_ j (fun o => im_ T G p o k n) := by show _ + (if im_ T G p j k n = true then _ else 0) = _; rw [if_neg (by rw [him, hb41, Bool.and_false]; decide)]; rfl
        have g := ih (j + 1) (by omega)
        rw [e] at g
        exact g
      · have hb41 := it_n0 h41
        refine ax_load (q := 46) rfl rfl rfl rfl rfl ?_
        refine ax_const (q := 47) (v := am_I 1) rfl rfl rfl ?_
        refine ax_load (q := 49) rfl rfl rfl rfl rfl ?_
        refine ax_ishl (q := 50) (z := ((2 ^ j : Nat) : Int)) rfl rfl (am_shl1 j (by omega)) ?_
        refine ax_ior (q := 51) (z := (((bi_ j (fun o => im_ T G p o k n)) + 2 ^ j : Nat) : Int)) rfl rfl (am_or_bit hbl (by omega)) ?_
        refine ax_store (q := 53) (L' := [some (am_R 127), some (am_R t), some (am_I ((p : Nat) : Int)), some (am_I k), some (am_R (t + 16 + (pa_ T p))), some (am_I (((bi_ j (fun o => im_ T G p o k n)) + 2 ^ j : Nat) : Int)), some (am_I ((j : Nat) : Int))]) rfl rfl rfl rfl rfl rfl ?_
        refine ax_iinc (q := 56) (z' := ((j + 1 : Nat) : Int)) (L' := [some (am_R 127), some (am_R t), some (am_I ((p : Nat) : Int)), some (am_I k), some (am_R (t + 16 + (pa_ T p))), some (am_I (((bi_ j (fun o => im_ T G p o k n)) + 2 ^ j : Nat) : Int)), some (am_I ((j + 1 : Nat) : Int))]) rfl rfl rfl rfl (am_we (by omega) (by omega) (by omega)) rfl ?_
        refine ax_goto (x := 13) rfl ?_
        have e : bi_ (j + 1) (fun o => im_ T G p o k n) = bi_ j (fun o => im_ T G p o k n) + 2 ^ j := by show _ + (if im_ T G p j k n = true then _ else 0) = _; rw [if_pos (by rw [him, hb41, decide_eq_true (by omega)]; rfl)]
        have g := ih (j + 1) (by omega)
        rw [e] at g
        exact g

theorem x_fitting {d : Nat} (hd : 3 ≤ d) {σ : am_S} {t : Nat} {T : sp_T} (hX : XT_ t T σ) (hV : TV_ T) {G : Nat → Nat → Int} {n : Nat} (hS : XS_ G n σ) {p : Nat} (hp : p < nP_ T) {k : Int} {Q : Option am_V → am_S → Prop} (hQ : Q (some (am_I ((ms_ T G n p k : Nat) : Int))) σ) : am_Ev d 83 [am_R 127, am_R t, am_I ((p : Nat) : Int), am_I k] σ Q := by
  obtain ⟨d, rfl⟩ : ∃ e, d = e + 1 := ⟨d - 1, by omega⟩
  have hpa := hV.pa hp
  refine ev_in (m := 83) (c := k_X6_fitting) (L := [some (am_R 127), some (am_R t), some (am_I ((p : Nat) : Int)), some (am_I k), none, none, none]) rfl rfl rfl rfl rfl rfl ?_
  refine ax_load (q := 1) rfl rfl rfl rfl rfl ?_
  refine ax_load (q := 2) rfl rfl rfl rfl rfl ?_
  refine ax_callv (q := 5) rfl rfl rfl rfl rfl (kd_0 hX.ht) ?_
  refine x_sharesOf (by omega) hX hV hp ?_
  refine ax_store (q := 7) (L' := [some (am_R 127), some (am_R t), some (am_I ((p : Nat) : Int)), some (am_I k), some (am_R (t + 16 + (pa_ T p))), none, none]) rfl rfl rfl rfl rfl rfl ?_
  refine ax_const (q := 8) (v := am_I 0) rfl rfl rfl ?_
  refine ax_store (q := 10) (L' := [some (am_R 127), some (am_R t), some (am_I ((p : Nat) : Int)), some (am_I k), some (am_R (t + 16 + (pa_ T p))), some (am_I 0), none]) rfl rfl rfl rfl rfl rfl ?_
  refine ax_const (q := 11) (v := am_I 0) rfl rfl rfl ?_
  refine ax_store (q := 13) (L' := [some (am_R 127), some (am_R t), some (am_I ((p : Nat) : Int)), some (am_I k), some (am_R (t + 16 + (pa_ T p))), some (am_I 0), some (am_I 0)]) rfl rfl rfl rfl rfl rfl ?_
  exact xl_fitting (by omega) hX hV hS hp hQ (nO_ T) 0 (by omega)

theorem x_meant {d : Nat} (hd : 4 ≤ d) {σ : am_S} {t : Nat} {T : sp_T} {v : sp_V} (hL : PL_ 68 t T v σ) (hV : TV_ T) {G : Nat → Nat → Int} {n : Nat} (hS : XS_ G n σ) {a k : Int} {Q : Option am_V → am_S → Prop} (hQ : Q (some (am_I (F_meant T G n a k))) σ) : am_Ev d 133 [am_R 0, am_I a, am_I k] σ Q := by
  obtain ⟨d, rfl⟩ : ∃ e, d = e + 1 := ⟨d - 1, by omega⟩
  have h6 := hV.nP
  have hO8 := hV.nO
  have hS4 := hV.nS
  have hR3 := hV.nR
  refine ev_in (m := 133) (c := k_X8_meant) (L := [some (am_R 0), some (am_I a), some (am_I k)]) rfl rfl rfl rfl rfl rfl ?_
  refine ax_load (q := 1) rfl rfl rfl rfl rfl ?_
  refine ax_getf (q := 4) (v := am_R 68) rfl rfl (rfl) ?_
  refine ax_getf (q := 7) (v := am_R t) rfl rfl (am_fgR rfl hL.to) ?_
  refine ax_const (q := 8) (v := am_I 0) rfl rfl rfl ?_
  refine ax_load (q := 9) rfl rfl rfl rfl rfl ?_
  refine ax_callv (q := 12) rfl rfl rfl rfl rfl (kd_0 hL.ht) ?_
  refine x_has0 (by omega) hL.xt hV ?_
  rw [hs_i]
  refine ax_if_eq (q := 15) (x := 34) rfl rfl (fun h12 => ?_) (fun h12 => ?_)
  · have hb12 := it_0 h12
    refine ax_const (q := 35) (v := am_I (-1)) rfl rfl rfl ?_
    refine ax_ret (r := some (am_I (-1))) rfl rfl ?_
    refine Eq.mp (congrArg (fun z => Q (some (am_I z)) _) ?_) hQ
    unfold F_meant
    rw [hb12]
    rfl
  · have hb12 := it_n0 h12
    obtain ⟨p, rfl, hp⟩ := inr_t hb12
    refine ax_load (q := 16) rfl rfl rfl rfl rfl ?_
    refine ax_getf (q := 19) (v := am_R 127) rfl rfl (rfl) ?_
    refine ax_load (q := 20) rfl rfl rfl rfl rfl ?_
    refine ax_getf (q := 23) (v := am_R 68) rfl rfl (rfl) ?_
    refine ax_getf (q := 26) (v := am_R t) rfl rfl (am_fgR rfl hL.to) ?_
    refine ax_load (q := 27) rfl rfl rfl rfl rfl ?_
    refine ax_load (q := 28) rfl rfl rfl rfl rfl ?_
    refine ax_callv (q := 31) rfl rfl rfl rfl rfl rfl ?_
    refine x_fitting (by omega) hL.xt hV hS hp ?_
    refine ax_goto (x := 35) rfl ?_
    refine ax_ret (r := some (am_I (((ms_ T G n p k) : Nat) : Int))) rfl rfl ?_
    refine Eq.mp (congrArg (fun z => Q (some (am_I z)) _) ?_) hQ
    unfold F_meant
    rw [hb12]
    rfl

theorem lk_in (T : sp_T) (G : Nat → Nat → Int) (n p : Nat) (t : Int) : ∀ o, ((lk_ T G n p t o).1 = -1 ∧ (lk_ T G n p t o).2 = 0) ∨ ∃ q : Nat, q < o ∧ (lk_ T G n p t o).1 = (q : Int) ∧ (lk_ T G n p t o).2 = T 158 (8 * pa_ T p + q) ∧ 0 < (lk_ T G n p t o).2
  | 0 => Or.inl ⟨rfl, rfl⟩
  | o + 1 => by
    have ih := lk_in T G n p t o
    have e : lk_ T G n p t (o + 1) = if im_ T G p o t n && decide ((lk_ T G n p t o).2 < T 158 (8 * pa_ T p + o)) then ((o : Int), T 158 (8 * pa_ T p + o)) else lk_ T G n p t o := rfl
    rw [e]
    split
    · next q =>
      rw [Bool.and_eq_true, decide_eq_true_eq] at q
      exact Or.inr ⟨o, by omega, rfl, rfl, by show 0 < T 158 _; rcases ih with h | ⟨_, _, _, _, h⟩ <;> omega⟩
    · rcases ih with h | ⟨q, h1, h2⟩
      · exact Or.inl h
      · exact Or.inr ⟨q, by omega, h2⟩

theorem land_2 {s j : Nat} : s &&& 2 ^ j = if s.testBit j then 2 ^ j else 0 := by
  apply Nat.eq_of_testBit_eq
  intro u
  rw [Nat.testBit_and, Nat.testBit_two_pow]
  by_cases q : j = u
  · subst q
    cases s.testBit j <;> simp [Nat.testBit_two_pow]
  · cases s.testBit j <;> simp [Nat.testBit_two_pow, q]

theorem xl_likely {d : Nat} {σ : am_S} {t : Nat} {T : sp_T} {v : sp_V} (hL : PL_ 68 t T v σ) (hV : TV_ T) {G : Nat → Nat → Int} {n : Nat} (hS : XS_ G n σ) {p : Nat} (hp : p < nP_ T) {a k : Int} {Q : Option am_V → am_S → Prop} (hQ : Q (some (am_I (lk_ T G n p k (nO_ T)).1)) σ) : ∀ (m j : Nat) (x7 : Option am_V), j + m = nO_ T → aW d 0 k_X8_likely Q 53 [some (am_R 0), some (am_I a), some (am_I k), some (am_I (((ms_ T G n p k) : Nat) : Int)), some (am_R (t + 16 + (pa_ T p))), some (am_I ((lk_ T G n p k j).1)), some (am_I ((j : Nat) : Int)), x7] [] σ := by
  have h6 := hV.nP
  have hO8 := hV.nO
  have hS4 := hV.nS
  have hR3 := hV.nR
  have hpa := hV.pa hp
  intro m
  induction m with
  | zero =>
    intro j x7 hj
    obtain rfl : j = nO_ T := by omega
    refine ax_load (q := 55) rfl rfl rfl rfl rfl ?_
    refine ax_load (q := 56) rfl rfl rfl rfl rfl ?_
    refine ax_getf (q := 59) (v := am_R 68) rfl rfl (rfl) ?_
    refine ax_getf (q := 62) (v := am_R t) rfl rfl (am_fgR rfl hL.to) ?_
    refine ax_getf (q := 65) (v := am_R (t + 1)) rfl rfl (xg7_0 hL.xt.ht) ?_
    refine ax_const (q := 66) (v := am_I 2) rfl rfl rfl ?_
    refine bx_iald (q := 67) (k := 2) (z := (((nO_ T) : Nat) : Int)) rfl rfl (kd_1 hL.xt.ht) (by omega) (by omega) (hL.xt.c2.trans hV.nO.1) ?_
    refine ax_icmp_ge (q := 70) (x := 120) rfl rfl (fun h67 => ?_) (fun h => absurd h (by omega))
    refine ax_load (q := 122) rfl rfl rfl rfl rfl ?_
    refine ax_ret (r := some (am_I ((lk_ T G n p k (nO_ T)).1))) rfl rfl ?_
    exact hQ
  | succ m ih =>
    intro j x7 hj
    have hli := lk_in T G n p k j
    have hp2 : 2 ^ j < 2 ^ 8 := Nat.pow_lt_pow_right (by decide) (by omega)
    have hms : ms_ T G n p k < 2 ^ nO_ T := bi_lt _ _
    have h28 : 2 ^ nO_ T ≤ 2 ^ 8 := Nat.pow_le_pow_right (by decide) (by omega)
    have htb : (ms_ T G n p k).testBit j = im_ T G p j k n := by unfold ms_; rw [bi_tb, decide_eq_true (by omega), Bool.true_and]
    have hal := im_al T G p j k n
    have hod := hV.od hpa.2.1 (o := j) (by omega)
    have e1 : lk_ T G n p k (j + 1) = if im_ T G p j k n && decide ((lk_ T G n p k j).2 < T 158 (8 * pa_ T p + j)) then ((j : Int), T 158 (8 * pa_ T p + j)) else lk_ T G n p k j := rfl
    refine ax_load (q := 55) rfl rfl rfl rfl rfl ?_
    refine ax_load (q := 56) rfl rfl rfl rfl rfl ?_
    refine ax_getf (q := 59) (v := am_R 68) rfl rfl (rfl) ?_
    refine ax_getf (q := 62) (v := am_R t) rfl rfl (am_fgR rfl hL.to) ?_
    refine ax_getf (q := 65) (v := am_R (t + 1)) rfl rfl (xg7_0 hL.xt.ht) ?_
    refine ax_const (q := 66) (v := am_I 2) rfl rfl rfl ?_
    refine bx_iald (q := 67) (k := 2) (z := (((nO_ T) : Nat) : Int)) rfl rfl (kd_1 hL.xt.ht) (by omega) (by omega) (hL.xt.c2.trans hV.nO.1) ?_
    refine ax_icmp_ge (q := 70) (x := 120) rfl rfl (fun h => absurd h (by omega)) (fun h67 => ?_)
    refine ax_load (q := 71) rfl rfl rfl rfl rfl ?_
    refine ax_const (q := 72) (v := am_I 1) rfl rfl rfl ?_
    refine ax_load (q := 74) rfl rfl rfl rfl rfl ?_
    refine ax_ishl (q := 75) (z := ((2 ^ j : Nat) : Int)) rfl rfl (am_shl1 j (by omega)) ?_
    refine ax_iand (q := 76) (z := (((ms_ T G n p k) &&& 2 ^ j : Nat) : Int)) rfl rfl (am_and_nat (by omega) (by omega)) ?_
    refine ax_if_eq (q := 79) (x := 83) rfl rfl (fun h76 => ?_) (fun h76 => ?_)
    · have hbt : (ms_ T G n p k).testBit j = false := by
        cases w : (ms_ T G n p k).testBit j with
        | false => rfl
        | true => exfalso; rw [land_2, w] at h76; have := Nat.two_pow_pos j; rw [if_pos rfl] at h76; omega
      have him : im_ T G p j k n = false := htb.symm.trans hbt
      refine ax_const (q := 84) (v := am_I 0) rfl rfl rfl ?_
      refine ax_store (q := 86) (L' := [some (am_R 0), some (am_I a), some (am_I k), some (am_I (((ms_ T G n p k) : Nat) : Int)), some (am_R (t + 16 + (pa_ T p))), some (am_I ((lk_ T G n p k j).1)), some (am_I ((j : Nat) : Int)), some (am_I 0)]) rfl rfl rfl rfl rfl rfl ?_
      refine ax_load (q := 88) rfl rfl rfl rfl rfl ?_
      refine ax_if_eq (q := 91) (x := 114) rfl rfl (fun h88 => ?_) (fun h => absurd h (by omega))
      refine ax_iinc (q := 117) (z' := ((j + 1 : Nat) : Int)) (L' := [some (am_R 0), some (am_I a), some (am_I k), some (am_I (((ms_ T G n p k) : Nat) : Int)), some (am_R (t + 16 + (pa_ T p))), some (am_I ((lk_ T G n p k j).1)), some (am_I ((j + 1 : Nat) : Int)), some (am_I 0)]) rfl rfl rfl rfl (am_we (by omega) (by omega) (by omega)) rfl ?_
      refine ax_goto (x := 53) rfl ?_
      have e : lk_ T G n p k (j + 1) = lk_ T G n p k j := e1.trans (if_neg (by rw [him, Bool.false_and]; decide))
      have g := ih (j + 1) (some (am_I 0)) (by omega)
      rw [e] at g
      exact g
    · have hbt : (ms_ T G n p k).testBit j = true := by
        cases w : (ms_ T G n p k).testBit j with
        | true => rfl
        | false => exfalso; rw [land_2, w] at h76; exact h76 rfl
      have him : im_ T G p j k n = true := htb.symm.trans hbt
      have hpos : 0 < T 158 (8 * pa_ T p + j) := by rw [hal, Bool.and_eq_true, decide_eq_true_eq] at him; exact him.1
      refine ax_const (q := 80) (v := am_I 1) rfl rfl rfl ?_
      refine ax_goto (x := 84) rfl ?_
      refine ax_store (q := 86) (L' := [some (am_R 0), some (am_I a), some (am_I k), some (am_I (((ms_ T G n p k) : Nat) : Int)), some (am_R (t + 16 + (pa_ T p))), some (am_I ((lk_ T G n p k j).1)), some (am_I ((j : Nat) : Int)), some (am_I 1)]) rfl rfl rfl rfl rfl rfl ?_
      refine ax_load (q := 88) rfl rfl rfl rfl rfl ?_
      refine ax_if_eq (q := 91) (x := 114) rfl rfl (fun h => absurd h (by omega)) (fun h88 => ?_)
      refine ax_load (q := 93) rfl rfl rfl rfl rfl ?_
      refine ax_const (q := 94) (v := am_I (-1)) rfl rfl rfl ?_
      refine ax_icmp_eq (q := 97) (x := 110) rfl rfl (fun h94 => ?_) (fun h94 => ?_)
      · refine ax_load (q := 112) rfl rfl rfl rfl rfl ?_
        refine ax_store (q := 114) (L' := [some (am_R 0), some (am_I a), some (am_I k), some (am_I (((ms_ T G n p k) : Nat) : Int)), some (am_R (t + 16 + (pa_ T p))), some (am_I ((j : Nat) : Int)), some (am_I ((j : Nat) : Int)), some (am_I 1)]) rfl rfl rfl rfl rfl rfl ?_
        refine ax_iinc (q := 117) (z' := ((j + 1 : Nat) : Int)) (L' := [some (am_R 0), some (am_I a), some (am_I k), some (am_I (((ms_ T G n p k) : Nat) : Int)), some (am_R (t + 16 + (pa_ T p))), some (am_I ((j : Nat) : Int)), some (am_I ((j + 1 : Nat) : Int)), some (am_I 1)]) rfl rfl rfl rfl (am_we (by omega) (by omega) (by omega)) rfl ?_
        refine ax_goto (x := 53) rfl ?_
        have e : lk_ T G n p k (j + 1) = ((j : Int), T 158 (8 * pa_ T p + j)) := e1.trans (if_pos (by rw [him, Bool.true_and]; exact decide_eq_true (by omega)))
        have g := ih (j + 1) (some (am_I 1)) (by omega)
        rw [e] at g
        exact g
      · obtain ⟨q9, q1, q2, q3, q4⟩ : ∃ q : Nat, q < j ∧ (lk_ T G n p k j).1 = (q : Int) ∧ (lk_ T G n p k j).2 = T 158 (8 * pa_ T p + q) ∧ 0 < (lk_ T G n p k j).2 := by
          rcases hli with w | w
          · exact absurd w.1 h94
          · exact w
        refine ax_load (q := 99) rfl rfl rfl rfl rfl ?_
        refine ax_load (q := 101) rfl rfl rfl rfl rfl ?_
        refine bx_iald (q := 102) (k := j) (z := T 158 (8 * (pa_ T p) + j)) rfl rfl (kd_sh hL.xt.ht (by omega)) (by omega) (by omega) (hL.xt.sha _ _ (by omega) (by omega)) ?_
        refine ax_load (q := 104) rfl rfl rfl rfl rfl ?_
        refine ax_load (q := 106) rfl rfl rfl rfl rfl ?_
        refine bx_iald (q := 107) (k := q9) (z := T 158 (8 * (pa_ T p) + q9)) rfl rfl (kd_sh hL.xt.ht (by omega)) (q2) (by omega) (hL.xt.sha _ _ (hpa.2.1) (by omega)) ?_
        refine ax_icmp_le (q := 110) (x := 114) rfl rfl (fun h107 => ?_) (fun h107 => ?_)
        · refine ax_iinc (q := 117) (z' := ((j + 1 : Nat) : Int)) (L' := [some (am_R 0), some (am_I a), some (am_I k), some (am_I (((ms_ T G n p k) : Nat) : Int)), some (am_R (t + 16 + (pa_ T p))), some (am_I ((lk_ T G n p k j).1)), some (am_I ((j + 1 : Nat) : Int)), some (am_I 1)]) rfl rfl rfl rfl (am_we (by omega) (by omega) (by omega)) rfl ?_
          refine ax_goto (x := 53) rfl ?_
          have e : lk_ T G n p k (j + 1) = lk_ T G n p k j := e1.trans (if_neg (by rw [him, Bool.true_and, decide_eq_false (by omega)]; decide))
          have g := ih (j + 1) (some (am_I 1)) (by omega)
          rw [e] at g
          exact g
        · refine ax_load (q := 112) rfl rfl rfl rfl rfl ?_
          refine ax_store (q := 114) (L' := [some (am_R 0), some (am_I a), some (am_I k), some (am_I (((ms_ T G n p k) : Nat) : Int)), some (am_R (t + 16 + (pa_ T p))), some (am_I ((j : Nat) : Int)), some (am_I ((j : Nat) : Int)), some (am_I 1)]) rfl rfl rfl rfl rfl rfl ?_
          refine ax_iinc (q := 117) (z' := ((j + 1 : Nat) : Int)) (L' := [some (am_R 0), some (am_I a), some (am_I k), some (am_I (((ms_ T G n p k) : Nat) : Int)), some (am_R (t + 16 + (pa_ T p))), some (am_I ((j : Nat) : Int)), some (am_I ((j + 1 : Nat) : Int)), some (am_I 1)]) rfl rfl rfl rfl (am_we (by omega) (by omega) (by omega)) rfl ?_
          refine ax_goto (x := 53) rfl ?_
          have e : lk_ T G n p k (j + 1) = ((j : Int), T 158 (8 * pa_ T p + j)) := e1.trans (if_pos (by rw [him, Bool.true_and]; exact decide_eq_true (by omega)))
          have g := ih (j + 1) (some (am_I 1)) (by omega)
          rw [e] at g
          exact g

theorem x_likely {d : Nat} (hd : 4 ≤ d) {σ : am_S} {t : Nat} {T : sp_T} {v : sp_V} (hL : PL_ 68 t T v σ) (hV : TV_ T) {G : Nat → Nat → Int} {n : Nat} (hS : XS_ G n σ) {a k : Int} {Q : Option am_V → am_S → Prop} (hQ : Q (some (am_I (F_likely T G n a k))) σ) : am_Ev d 134 [am_R 0, am_I a, am_I k] σ Q := by
  obtain ⟨d, rfl⟩ : ∃ e, d = e + 1 := ⟨d - 1, by omega⟩
  have h6 := hV.nP
  have hO8 := hV.nO
  have hS4 := hV.nS
  have hR3 := hV.nR
  refine ev_in (m := 134) (c := k_X8_likely) (L := [some (am_R 0), some (am_I a), some (am_I k), none, none, none, none, none]) rfl rfl rfl rfl rfl rfl ?_
  refine ax_load (q := 1) rfl rfl rfl rfl rfl ?_
  refine ax_getf (q := 4) (v := am_R 68) rfl rfl (rfl) ?_
  refine ax_getf (q := 7) (v := am_R t) rfl rfl (am_fgR rfl hL.to) ?_
  refine ax_const (q := 8) (v := am_I 0) rfl rfl rfl ?_
  refine ax_load (q := 9) rfl rfl rfl rfl rfl ?_
  refine ax_callv (q := 12) rfl rfl rfl rfl rfl (kd_0 hL.ht) ?_
  refine x_has0 (by omega) hL.xt hV ?_
  rw [hs_i]
  refine ax_if_ne (q := 15) (x := 17) rfl rfl (fun h12 => ?_) (fun h12 => ?_)
  · have hb12 := it_n0 h12
    obtain ⟨p, rfl, hp⟩ := inr_t hb12
    refine ax_load (q := 18) rfl rfl rfl rfl rfl ?_
    refine ax_getf (q := 21) (v := am_R 127) rfl rfl (rfl) ?_
    refine ax_load (q := 22) rfl rfl rfl rfl rfl ?_
    refine ax_getf (q := 25) (v := am_R 68) rfl rfl (rfl) ?_
    refine ax_getf (q := 28) (v := am_R t) rfl rfl (am_fgR rfl hL.to) ?_
    refine ax_load (q := 29) rfl rfl rfl rfl rfl ?_
    refine ax_load (q := 30) rfl rfl rfl rfl rfl ?_
    refine ax_callv (q := 33) rfl rfl rfl rfl rfl rfl ?_
    refine x_fitting (by omega) hL.xt hV hS hp ?_
    refine ax_store (q := 34) (L' := [some (am_R 0), some (am_I ((p : Nat) : Int)), some (am_I k), some (am_I (((ms_ T G n p k) : Nat) : Int)), none, none, none, none]) rfl rfl rfl rfl rfl rfl ?_
    refine ax_load (q := 35) rfl rfl rfl rfl rfl ?_
    refine ax_getf (q := 38) (v := am_R 68) rfl rfl (rfl) ?_
    refine ax_getf (q := 41) (v := am_R t) rfl rfl (am_fgR rfl hL.to) ?_
    refine ax_load (q := 42) rfl rfl rfl rfl rfl ?_
    refine ax_callv (q := 45) rfl rfl rfl rfl rfl (kd_0 hL.ht) ?_
    have hpa := hV.pa hp
    refine x_sharesOf (by omega) hL.xt hV hp ?_
    refine ax_store (q := 47) (L' := [some (am_R 0), some (am_I ((p : Nat) : Int)), some (am_I k), some (am_I (((ms_ T G n p k) : Nat) : Int)), some (am_R (t + 16 + (pa_ T p))), none, none, none]) rfl rfl rfl rfl rfl rfl ?_
    refine ax_const (q := 48) (v := am_I (-1)) rfl rfl rfl ?_
    refine ax_store (q := 50) (L' := [some (am_R 0), some (am_I ((p : Nat) : Int)), some (am_I k), some (am_I (((ms_ T G n p k) : Nat) : Int)), some (am_R (t + 16 + (pa_ T p))), some (am_I (-1)), none, none]) rfl rfl rfl rfl rfl rfl ?_
    refine ax_const (q := 51) (v := am_I 0) rfl rfl rfl ?_
    refine ax_store (q := 53) (L' := [some (am_R 0), some (am_I ((p : Nat) : Int)), some (am_I k), some (am_I (((ms_ T G n p k) : Nat) : Int)), some (am_R (t + 16 + (pa_ T p))), some (am_I (-1)), some (am_I 0), none]) rfl rfl rfl rfl rfl rfl ?_
    refine xl_likely hL hV hS hp ?_ (nO_ T) 0 _ (by omega)
    refine Eq.mp (congrArg (fun z => Q (some (am_I z)) _) ?_) hQ
    unfold F_likely
    rw [hb12, Int.toNat_natCast]
    rfl
  · have hb12 := it_0 h12
    refine ax_const (q := 16) (v := am_I (-1)) rfl rfl rfl ?_
    refine ax_ret (r := some (am_I (-1))) rfl rfl ?_
    refine Eq.mp (congrArg (fun z => Q (some (am_I z)) _) ?_) hQ
    unfold F_likely
    rw [hb12]
    rfl

