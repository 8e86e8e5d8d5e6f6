/-- the class's reader at the token p of its text, telling the town t -/
def RC_ (tp : Nat → Int) (n t p : Nat) (σ : am_S) : Prop :=
  (TP_ (σ.1 1) tp n) ∧ (σ.1 66 4 = (n : Int)) ∧ (n ≤ 1600) ∧ (p ≤ n) ∧ (KX_ tp n p σ) ∧ (WT_ σ) ∧ (σ.2.2.1 66 10 = some t) ∧ (t = 2 ∨ t = 34) ∧ (σ.1 66 0 = 0) ∧ (σ.1 66 1 = -1)
theorem RC_.tx {tp : Nat → Int} {n t p : Nat} {σ : am_S} (h : RC_ tp n t p σ) : TP_ (σ.1 1) tp n := h.1
theorem RC_.ln {tp : Nat → Int} {n t p : Nat} {σ : am_S} (h : RC_ tp n t p σ) : σ.1 66 4 = (n : Int) := h.2.1
theorem RC_.n9 {tp : Nat → Int} {n t p : Nat} {σ : am_S} (h : RC_ tp n t p σ) : n ≤ 1600 := h.2.2.1
theorem RC_.pn {tp : Nat → Int} {n t p : Nat} {σ : am_S} (h : RC_ tp n t p σ) : p ≤ n := h.2.2.2.1
theorem RC_.kx {tp : Nat → Int} {n t p : Nat} {σ : am_S} (h : RC_ tp n t p σ) : KX_ tp n p σ := h.2.2.2.2.1
theorem RC_.wt {tp : Nat → Int} {n t p : Nat} {σ : am_S} (h : RC_ tp n t p σ) : WT_ σ := h.2.2.2.2.2.1
theorem RC_.tn {tp : Nat → Int} {n t p : Nat} {σ : am_S} (h : RC_ tp n t p σ) : σ.2.2.1 66 10 = some t := h.2.2.2.2.2.2.1
theorem RC_.ht {tp : Nat → Int} {n t p : Nat} {σ : am_S} (h : RC_ tp n t p σ) : t = 2 ∨ t = 34 := h.2.2.2.2.2.2.2.1
theorem RC_.f0 {tp : Nat → Int} {n t p : Nat} {σ : am_S} (h : RC_ tp n t p σ) : σ.1 66 0 = 0 := h.2.2.2.2.2.2.2.2.1
theorem RC_.f1 {tp : Nat → Int} {n t p : Nat} {σ : am_S} (h : RC_ tp n t p σ) : σ.1 66 1 = -1 := h.2.2.2.2.2.2.2.2.2
theorem RC_.fr {tp : Nat → Int} {n t p : Nat} {σ σ' : am_S} {A B K : List Nat} (h : RC_ tp n t p σ) (hf : gx_ A B K σ σ') (h1 : 1 ∉ A) (h67 : 67 ∉ B) (hK : ∀ k, k ∈ K → 2 ≤ k ∧ (k < 4 ∨ 10 ≤ k)) (hJ : σ'.2.1 66 8 = σ.2.1 66 8) : RC_ tp n t p σ' := by
  have e : ∀ k, 4 ≤ k → k < 10 → σ'.1 66 k = σ.1 66 k := fun k a b => hf.2.1 k (fun q => by have := hK k q; omega)
  refine ⟨by rw [hf.1 1 h1 (by decide)]; exact h.tx, by rw [e 4 (by decide) (by decide)]; exact h.ln, h.n9, h.pn, ?_, fun i hi => by rw [hf.2.2.1 67 h67 (by decide)]; exact h.wt i hi, by rw [hf.2.2.2.2]; exact h.tn, h.ht, by rw [hf.2.1 0 (fun q => by have := hK 0 q; omega)]; exact h.f0, by rw [hf.2.1 1 (fun q => by have := hK 1 q; omega)]; exact h.f1⟩
  obtain ⟨k1, k2, k3, k4, k5⟩ := h.kx
  exact ⟨by rw [e 7 (by decide) (by decide)]; exact k1, by rw [e 6 (by decide) (by decide)]; exact k2, by rw [hJ]; exact k3, by rw [e 9 (by decide) (by decide)]; exact k4, by rw [e 5 (by decide) (by decide)]; exact k5⟩
/-- the fault that the class tells -/
def FX_ (tp : Nat → Int) (n : Nat) (e : Int × Nat) (σ : am_S) : Prop := σ.1 66 0 = (if tks_ tp n e.2 = 3 then 1 else e.1) ∧ σ.1 66 1 = (e.2 : Int)
theorem kf_bd (w : Int) : ∀ m i, i + m ≤ 21 → (0 ≤ kf_ w m i ∧ kf_ w m i ≤ 20) ∨ kf_ w m i = 100
  | 0, _, _ => Or.inr rfl
  | m + 1, i, h => by
    show (0 ≤ (if (wc_ i : Int) = w then (i : Int) else kf_ w m (i + 1)) ∧ (if (wc_ i : Int) = w then (i : Int) else kf_ w m (i + 1)) ≤ 20) ∨ (if (wc_ i : Int) = w then (i : Int) else kf_ w m (i + 1)) = 100
    split
    · exact Or.inl ⟨by omega, by omega⟩
    · exact kf_bd w m (i + 1) (by omega)
theorem tks_bd (tp : Nat → Int) (n p : Nat) : tks_ tp n p = 0 ∨ tks_ tp n p = 1 ∨ tks_ tp n p = 2 ∨ tks_ tp n p = 3 ∨ (37 ≤ tks_ tp n p ∧ tks_ tp n p ≤ 62) := by
  unfold tks_
  split
  · exact Or.inl rfl
  · split
    · split
      · exact Or.inr (Or.inr (Or.inr (Or.inl rfl)))
      · exact Or.inr (Or.inl rfl)
    · split
      · split
        · exact Or.inr (Or.inr (Or.inr (Or.inl rfl)))
        · exact Or.inr (Or.inr (Or.inl rfl))
      · split
        · next q => unfold si_ at q; rw [decide_eq_true_eq] at q; omega
        · exact Or.inr (Or.inr (Or.inr (Or.inl rfl)))
theorem kx_3 {tp : Nat → Int} {n p : Nat} : kx_ tp n p = 103 ↔ tks_ tp n p = 3 := by
  have h1 := tks_bd tp n p
  have h2 := kf_bd (tkw_ tp n p) 21 0 (by decide)
  unfold kx_
  split
  · omega
  · split
    · omega
    · split
      · omega
      · split <;> omega
theorem kx_2 {tp : Nat → Int} {n p : Nat} : kx_ tp n p = 101 ↔ tks_ tp n p = 2 := by
  have h1 := tks_bd tp n p
  have h2 := kf_bd (tkw_ tp n p) 21 0 (by decide)
  unfold kx_
  split
  · omega
  · split
    · omega
    · split
      · omega
      · split <;> omega
theorem kx_0 {tp : Nat → Int} {n p : Nat} : kx_ tp n p = 102 ↔ tks_ tp n p = 0 := by
  have h1 := tks_bd tp n p
  have h2 := kf_bd (tkw_ tp n p) 21 0 (by decide)
  unfold kx_
  split
  · omega
  · split
    · omega
    · split
      · omega
      · split <;> omega
/-- a sign -/
theorem kx_s {tp : Nat → Int} {n p : Nat} {z : Int} (hz : 37 ≤ z ∧ z ≤ 62) : kx_ tp n p = z ↔ tks_ tp n p = z := by
  have h1 := tks_bd tp n p
  have h2 := kf_bd (tkw_ tp n p) 21 0 (by decide)
  unfold kx_
  split
  · omega
  · split
    · omega
    · split
      · omega
      · split <;> omega
theorem x_nextT {d : Nat} (hd : 3 ≤ d) {σ : am_S} {tp : Nat → Int} {n t p : Nat} (hC : RC_ tp n t p σ) (h3 : tks_ tp n p ≠ 3) {Q : Option am_V → am_S → Prop} (hQ : ∀ σ', gx_ [] [] [5, 6, 7, 9] σ σ' → RC_ tp n t (nxp_ tp n p) σ' → Q none σ') : am_Ev d 65 [am_R 66] σ Q := by
  have hle := tka_le (tp := tp) hC.pn
  have hsk := skp_le tp n (n - tka_ tp n p) (tka_ tp n p)
  refine x_next (q := p) (a := tka_ tp n p) hd hC.wt ⟨hC.tx, hC.ln, hC.n9, hC.kx.2.2.2.2 h3, hC.kx.1⟩ hle.2 (fun σ' hf hk => hQ σ' hf ⟨by rw [hf.1 1 (by simp) (by decide)]; exact hC.tx, by rw [hf.2.1 4 (by simp)]; exact hC.ln, hC.n9, by unfold nxp_; omega, hk, fun i hi => by rw [hf.2.2.1 67 (by simp) (by decide)]; exact hC.wt i hi, by rw [hf.2.2.2.2]; exact hC.tn, hC.ht, by rw [hf.2.1 0 (by simp)]; exact hC.f0, by rw [hf.2.1 1 (by simp)]; exact hC.f1⟩)

theorem x_refuse {d : Nat} (hd : 1 ≤ d) {σ : am_S} {p : Nat} (h7 : σ.1 66 7 = (p : Int)) {f : Int} {Q : Option am_V → am_S → Prop} (hQ : ∀ σ', gx_ [] [] [0, 1] σ σ' → σ'.1 66 0 = f → σ'.1 66 1 = (p : Int) → σ'.2.1 = σ.2.1 → Q (some (am_I 0)) σ') : am_Ev d 64 [am_R 66, am_I f] σ Q := by
  obtain ⟨d, rfl⟩ : ∃ e, d = e + 1 := ⟨d - 1, by omega⟩
  refine ev_in (m := 64) (c := k_X4_refuse) (L := [some (am_R 66), some (am_I f)]) rfl rfl rfl rfl rfl rfl ?_
  refine ax_load (q := 1) rfl rfl rfl rfl rfl ?_
  refine ax_load (q := 2) rfl rfl rfl rfl rfl ?_
  refine ax_putf (q := 5) rfl rfl rfl ?_
  refine ax_load (q := 6) rfl rfl rfl rfl rfl ?_
  refine ax_load (q := 7) rfl rfl rfl rfl rfl ?_
  refine ax_getf (q := 10) (v := am_I ((p : Nat) : Int)) rfl rfl (am_fg rfl (by rw [sI_at, am_up_ne (by decide)]; exact h7)) ?_
  refine ax_putf (q := 13) rfl rfl rfl ?_
  refine ax_const (q := 14) (v := am_I 0) rfl rfl rfl ?_
  refine ax_ret (r := some (am_I 0)) rfl ⟨rfl, Or.inl rfl⟩ ?_
  exact hQ _ (gx_s (gx_s (gx_rf _ _ _ _) (by simp)) (by simp)) (by rw [sI_at, am_up_ne (by decide), sI_at, am_up_same]) (by rw [sI_at, am_up_same]) rfl

theorem x_misplaced {d : Nat} (hd : 2 ≤ d) {σ : am_S} {tp : Nat → Int} {n t p : Nat} (hC : RC_ tp n t p σ) {Q : Option am_V → am_S → Prop} (hQ : ∀ σ', gx_ [] [] [0, 1] σ σ' → σ'.2.1 = σ.2.1 → FX_ tp n (2, p) σ' → Q (some (am_I (0))) σ') : am_Ev d 63 [am_R 66] σ Q := by
  obtain ⟨d, rfl⟩ : ∃ e, d = e + 1 := ⟨d - 1, by omega⟩
  refine ev_in (m := 63) (c := k_X4_misplaced) (L := [some (am_R 66)]) rfl rfl rfl rfl rfl rfl ?_
  refine ax_load (q := 1) rfl rfl rfl rfl rfl ?_
  refine ax_load (q := 2) rfl rfl rfl rfl rfl ?_
  refine ax_getf (q := 5) (v := am_I (kx_ tp n p)) rfl rfl (am_fg rfl hC.kx.2.1) ?_
  refine ax_const (q := 7) (v := am_I 103) rfl rfl rfl ?_
  refine ax_icmp_ne (q := 10) (x := 14) rfl rfl (fun h7 => ?_) (fun h7 => ?_)
  · refine ax_const (q := 15) (v := am_I 2) rfl rfl rfl ?_
    refine ax_callv (q := 18) rfl rfl rfl rfl rfl rfl ?_
    refine x_refuse (by omega) hC.kx.1 (fun σ1 hf1 g0 g1 gJ => ?_)
    refine ax_ret (r := some (am_I 0)) rfl ⟨rfl, Or.inl rfl⟩ ?_
    exact hQ _ hf1 gJ ⟨by rw [g0]; first | exact (if_pos (kx_3.mp (by omega))).symm | exact (if_neg (fun e => by have := (kx_3 (tp := tp) (n := n) (p := p)).mpr e; omega)).symm, g1⟩
  · refine ax_const (q := 11) (v := am_I 1) rfl rfl rfl ?_
    refine ax_goto (x := 15) rfl ?_
    refine ax_callv (q := 18) rfl rfl rfl rfl rfl rfl ?_
    refine x_refuse (by omega) hC.kx.1 (fun σ1 hf1 g0 g1 gJ => ?_)
    refine ax_ret (r := some (am_I 0)) rfl ⟨rfl, Or.inl rfl⟩ ?_
    exact hQ _ hf1 gJ ⟨by rw [g0]; first | exact (if_pos (kx_3.mp (by omega))).symm | exact (if_neg (fun e => by have := (kx_3 (tp := tp) (n := n) (p := p)).mpr e; omega)).symm, g1⟩

theorem x_take {d : Nat} (hd : 4 ≤ d) {σ : am_S} {tp : Nat → Int} {n t p : Nat} (hC : RC_ tp n t p σ) {w : Int} (hw : w ≠ 103) {Q : Option am_V → am_S → Prop} (hN : kx_ tp n p ≠ w → ∀ σ', gx_ [] [] [0, 1] σ σ' → σ'.2.1 = σ.2.1 → FX_ tp n (2, p) σ' → Q (some (am_I (0))) σ') (hY : kx_ tp n p = w → ∀ σ', gx_ [] [] [5, 6, 7, 9] σ σ' → RC_ tp n t (nxp_ tp n p) σ' → Q (some (am_I 1)) σ') : am_Ev d 59 [am_R 66, am_I w] σ Q := by
  obtain ⟨d, rfl⟩ : ∃ e, d = e + 1 := ⟨d - 1, by omega⟩
  refine ev_in (m := 59) (c := k_X4_take) (L := [some (am_R 66), some (am_I w)]) rfl rfl rfl rfl rfl rfl ?_
  refine ax_load (q := 1) rfl rfl rfl rfl rfl ?_
  refine ax_getf (q := 4) (v := am_I (kx_ tp n p)) rfl rfl (am_fg rfl hC.kx.2.1) ?_
  refine ax_load (q := 5) rfl rfl rfl rfl rfl ?_
  refine ax_icmp_eq (q := 8) (x := 13) rfl rfl (fun h5 => ?_) (fun h5 => ?_)
  · refine ax_load (q := 14) rfl rfl rfl rfl rfl ?_
    refine ax_callv (q := 17) rfl rfl rfl rfl rfl rfl ?_
    refine x_nextT (by omega) hC (fun e => by have := (kx_3 (tp := tp) (n := n) (p := p)).mpr e; omega) (fun σ2 hf2 hC2 => ?_)
    refine ax_const (q := 18) (v := am_I 1) rfl rfl rfl ?_
    refine ax_ret (r := some (am_I 1)) rfl ⟨rfl, Or.inr rfl⟩ ?_
    exact hY (by omega) _ hf2 hC2
  · refine ax_load (q := 9) rfl rfl rfl rfl rfl ?_
    refine ax_callv (q := 12) rfl rfl rfl rfl rfl rfl ?_
    refine x_misplaced (by omega) hC (fun σ1 hf1 gJ g0 => ?_)
    refine ax_ret (r := some (am_I 0)) rfl ⟨rfl, Or.inl rfl⟩ ?_
    exact hN (by omega) _ hf1 gJ g0

theorem x_number {d : Nat} (hd : 3 ≤ d) {σ : am_S} {tp : Nat → Int} {n t p : Nat} (hC : RC_ tp n t p σ) {x y : Int} {Q : Option am_V → am_S → Prop} (hN : tks_ tp n p ≠ 2 → ∀ σ', gx_ [] [] [0, 1] σ σ' → σ'.2.1 = σ.2.1 → FX_ tp n (2, p) σ' → Q (some (am_I (-1))) σ') (hO : tks_ tp n p = 2 → ¬ (x ≤ tkn_ tp n p ∧ tkn_ tp n p ≤ y) → ∀ σ', gx_ [] [] [0, 1] σ σ' → σ'.2.1 = σ.2.1 → FX_ tp n (4, p) σ' → Q (some (am_I (-1))) σ') (hY : tks_ tp n p = 2 → x ≤ tkn_ tp n p → tkn_ tp n p ≤ y → Q (some (am_I (tkn_ tp n p))) σ) : am_Ev d 62 [am_R 66, am_I x, am_I y] σ Q := by
  obtain ⟨d, rfl⟩ : ∃ e, d = e + 1 := ⟨d - 1, by omega⟩
  refine ev_in (m := 62) (c := k_X4_numberWithin) (L := [some (am_R 66), some (am_I x), some (am_I y)]) rfl rfl rfl rfl rfl rfl ?_
  refine ax_load (q := 1) rfl rfl rfl rfl rfl ?_
  refine ax_getf (q := 4) (v := am_I (kx_ tp n p)) rfl rfl (am_fg rfl hC.kx.2.1) ?_
  refine ax_const (q := 6) (v := am_I 101) rfl rfl rfl ?_
  refine ax_icmp_eq (q := 9) (x := 16) rfl rfl (fun h6 => ?_) (fun h6 => ?_)
  · refine ax_load (q := 17) rfl rfl rfl rfl rfl ?_
    refine ax_getf (q := 20) (v := am_I (σ.1 66 9)) rfl rfl (rfl) ?_
    refine ax_load (q := 21) rfl rfl rfl rfl rfl ?_
    refine ax_icmp_lt (q := 24) (x := 32) rfl rfl (fun h21 => ?_) (fun h21 => ?_)
    · refine ax_load (q := 33) rfl rfl rfl rfl rfl ?_
      refine ax_const (q := 34) (v := am_I 4) rfl rfl rfl ?_
      refine ax_callv (q := 37) rfl rfl rfl rfl rfl rfl ?_
      refine x_refuse (by omega) hC.kx.1 (fun σ1 hf1 g0 g1 gJ => ?_)
      refine ax_pop (q := 38) rfl rfl rfl ?_
      refine ax_const (q := 39) (v := am_I (-1)) rfl rfl rfl ?_
      refine ax_ret (r := some (am_I (-1))) rfl rfl ?_
      have e := hC.kx.2.2.2.1 (kx_2.mp (by omega))
      exact hO (kx_2.mp (by omega)) (by omega) _ hf1 gJ ⟨by rw [g0]; exact (if_neg (fun e => by have := (kx_3 (tp := tp) (n := n) (p := p)).mpr e; omega)).symm, g1⟩
    · refine ax_load (q := 25) rfl rfl rfl rfl rfl ?_
      refine ax_getf (q := 28) (v := am_I (σ.1 66 9)) rfl rfl (rfl) ?_
      refine ax_load (q := 29) rfl rfl rfl rfl rfl ?_
      refine ax_icmp_le (q := 32) (x := 40) rfl rfl (fun h29 => ?_) (fun h29 => ?_)
      · refine ax_load (q := 41) rfl rfl rfl rfl rfl ?_
        refine ax_getf (q := 44) (v := am_I (σ.1 66 9)) rfl rfl (rfl) ?_
        refine ax_ret (r := some (am_I (σ.1 66 9))) rfl rfl ?_
        have e := hC.kx.2.2.2.1 (kx_2.mp (by omega))
        rw [e]
        exact hY (kx_2.mp (by omega)) (by omega) (by omega)
      · refine ax_load (q := 33) rfl rfl rfl rfl rfl ?_
        refine ax_const (q := 34) (v := am_I 4) rfl rfl rfl ?_
        refine ax_callv (q := 37) rfl rfl rfl rfl rfl rfl ?_
        refine x_refuse (by omega) hC.kx.1 (fun σ1 hf1 g0 g1 gJ => ?_)
        refine ax_pop (q := 38) rfl rfl rfl ?_
        refine ax_const (q := 39) (v := am_I (-1)) rfl rfl rfl ?_
        refine ax_ret (r := some (am_I (-1))) rfl rfl ?_
        have e := hC.kx.2.2.2.1 (kx_2.mp (by omega))
        exact hO (kx_2.mp (by omega)) (by omega) _ hf1 gJ ⟨by rw [g0]; exact (if_neg (fun e => by have := (kx_3 (tp := tp) (n := n) (p := p)).mpr e; omega)).symm, g1⟩
  · refine ax_load (q := 10) rfl rfl rfl rfl rfl ?_
    refine ax_callv (q := 13) rfl rfl rfl rfl rfl rfl ?_
    refine x_misplaced (by omega) hC (fun σ1 hf1 gJ g0 => ?_)
    refine ax_pop (q := 14) rfl rfl rfl ?_
    refine ax_const (q := 15) (v := am_I (-1)) rfl rfl rfl ?_
    refine ax_ret (r := some (am_I (-1))) rfl rfl ?_
    exact hN (fun e => by have := kx_2.mpr e; omega) _ hf1 gJ g0

