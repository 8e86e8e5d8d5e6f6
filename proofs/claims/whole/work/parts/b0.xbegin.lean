def sd_ (s : Nat) : Nat → Nat
  | 0 => s
  | k + 1 => (sd_ s k * 137 + 71) % 1000
theorem sd_lt {s : Nat} (h : s < 1000) : ∀ k, sd_ s k < 1000
  | 0 => h
  | _ + 1 => Nat.mod_lt _ (by decide)
theorem lyt_sd (T D : sp_T) (g f : Nat → Int) (s : Nat) : ∀ k, (lyt_ T D g f s k).2.2 = sd_ s k
  | 0 => rfl
  | k + 1 => by
    show ((lyt_ T D g f s k).2.2 * 137 + 71) % 1000 = _
    rw [lyt_sd T D g f s k]
    rfl
/-- what the class's row holds for the first k PERSONS of a new town -/
def BG_ (T D : sp_T) (s k : Nat) (x : Nat → Int) : Prop := x 48 = 0 ∧ ∀ j, j < k → x j = D 160 j ∧ x (6 + j) = 0 ∧ x (12 + j) = -1 ∧ x (18 + j) = dr_ T (pa_ T j) ((sd_ s (j + 1) : Nat) : Int) ∧ ∀ i, i < 4 → x (24 + 4 * j + i) = D 161 (4 * j + i)
theorem xfr_ {t : Nat} {T : sp_T} {σ σ' : am_S} (h : XT_ t T σ) (hf : fr_ [68, 69] σ σ') : XT_ t T σ' := h.fr (fun a h1 h2 => hf.1 a (by have := h.ht; simp; omega))
theorem cpy_in (f g : Nat → Int) {dp n i : Nat} (h : i < n) : va_cpy f g 0 dp n (dp + i) = f i := by
  unfold va_cpy
  rw [if_pos (by omega)]
  congr 1
  omega
theorem cpy_out (f g : Nat → Int) {dp n j : Nat} (h : j < dp ∨ dp + n ≤ j) : va_cpy f g 0 dp n j = g j := by
  unfold va_cpy
  rw [if_neg (by omega)]

theorem xl_drawnOrder {d : Nat} {σ : am_S} {t : Nat} {T : sp_T} (hto : σ.2.2.1 68 1 = some t) (hX : XT_ t T σ) (hV : TV_ T) {p : Nat} (hp : p < nP_ T) {x2 : Int} {Q : Option am_V → am_S → Prop} : ∀ (m o : Nat) (l : Int), o + m = nO_ T → 0 ≤ l → l ≤ 100 → (hQ : Q (some (am_I (dq_ T (pa_ T p) m o l))) σ) → aW d 0 k_X2_drawnOrder Q 54 [some (am_R 68), some (am_I ((p : Nat) : Int)), some (am_I x2), some (am_R (t + 16 + (pa_ T p))), some (am_I l), some (am_I ((o : Nat) : Int))] [] σ := by
  have hO8 := hV.nO
  have hR := hV.nR
  have hpa := hV.pa hp
  intro m
  induction m with
  | zero =>
    intro o l ho h0 hl hQ
    obtain ho2 : o = nO_ T := by omega
    subst ho2
    refine ax_load (q := 56) rfl rfl rfl rfl rfl ?_
    refine ax_load (q := 57) rfl rfl rfl rfl rfl ?_
    refine ax_getf (q := 60) (v := am_R t) rfl rfl (am_fgR rfl hto) ?_
    refine ax_getf (q := 63) (v := am_R (t + 1)) rfl rfl (xg7_0 hX.ht) ?_
    refine ax_const (q := 64) (v := am_I 2) rfl rfl rfl ?_
    refine bx_iald (q := 65) (k := 2) (z := (((nO_ T) : Nat) : Int)) rfl rfl (kd_1 hX.ht) (by omega) (by omega) (hX.c2.trans hV.nO.1) ?_
    refine ax_icmp_ge (q := 68) (x := 95) rfl rfl (fun h65 => ?_) (fun h => absurd h (by omega))
    refine ax_const (q := 96) (v := am_I (-1)) rfl rfl rfl ?_
    refine ax_ret (r := some (am_I (-1))) rfl rfl ?_
    exact hQ
  | succ m ih =>
    intro o l ho h0 hl hQ
    have hb := hV.od hpa.2.1 (o := o) (by omega)
    refine ax_load (q := 56) rfl rfl rfl rfl rfl ?_
    refine ax_load (q := 57) rfl rfl rfl rfl rfl ?_
    refine ax_getf (q := 60) (v := am_R t) rfl rfl (am_fgR rfl hto) ?_
    refine ax_getf (q := 63) (v := am_R (t + 1)) rfl rfl (xg7_0 hX.ht) ?_
    refine ax_const (q := 64) (v := am_I 2) rfl rfl rfl ?_
    refine bx_iald (q := 65) (k := 2) (z := (((nO_ T) : Nat) : Int)) rfl rfl (kd_1 hX.ht) (by omega) (by omega) (hX.c2.trans hV.nO.1) ?_
    refine ax_icmp_ge (q := 68) (x := 95) rfl rfl (fun h => absurd h (by omega)) (fun h65 => ?_)
    refine ax_load (q := 70) rfl rfl rfl rfl rfl ?_
    refine ax_load (q := 71) rfl rfl rfl rfl rfl ?_
    refine ax_load (q := 73) rfl rfl rfl rfl rfl ?_
    refine bx_iald (q := 74) (k := o) (z := T 158 (8 * (pa_ T p) + o)) rfl rfl (kd_sh hX.ht (by omega)) (by omega) (by omega) (hX.sha _ _ (by omega) (by omega)) ?_
    refine ax_icmp_ge (q := 77) (x := 80) rfl rfl (fun h74 => ?_) (fun h74 => ?_)
    · refine ax_load (q := 82) rfl rfl rfl rfl rfl ?_
      refine ax_load (q := 83) rfl rfl rfl rfl rfl ?_
      refine ax_load (q := 85) rfl rfl rfl rfl rfl ?_
      refine bx_iald (q := 86) (k := o) (z := T 158 (8 * (pa_ T p) + o)) rfl rfl (kd_sh hX.ht (by omega)) (by omega) (by omega) (hX.sha _ _ (by omega) (by omega)) ?_
      refine ax_isub (q := 87) (z := l - (T 158 (8 * (pa_ T p) + o))) rfl rfl (am_we (by omega) (by omega) (by omega)) ?_
      refine ax_store (q := 89) (L' := [some (am_R 68), some (am_I ((p : Nat) : Int)), some (am_I x2), some (am_R (t + 16 + (pa_ T p))), some (am_I (l - (T 158 (8 * (pa_ T p) + o)))), some (am_I ((o : Nat) : Int))]) rfl rfl rfl rfl rfl rfl ?_
      refine ax_iinc (q := 92) (z' := ((o + 1 : Nat) : Int)) (L' := [some (am_R 68), some (am_I ((p : Nat) : Int)), some (am_I x2), some (am_R (t + 16 + (pa_ T p))), some (am_I (l - (T 158 (8 * (pa_ T p) + o)))), some (am_I ((o + 1 : Nat) : Int))]) rfl rfl rfl rfl (am_we (by omega) (by omega) (by omega)) rfl ?_
      refine ax_goto (x := 54) rfl ?_
      rw [show dq_ T (pa_ T p) (m + 1) o l = dq_ T (pa_ T p) m (o + 1) (l - T 158 (8 * pa_ T p + o)) from if_neg (by omega)] at hQ
      exact ih (o + 1) (l - T 158 (8 * pa_ T p + o)) (by omega) (by omega) (by omega) hQ
    · refine ax_load (q := 79) rfl rfl rfl rfl rfl ?_
      refine ax_ret (r := some (am_I ((o : Nat) : Int))) rfl rfl ?_
      rw [show dq_ T (pa_ T p) (m + 1) o l = (o : Int) from if_pos (by omega)] at hQ
      exact hQ

theorem x_drawnOrder {d : Nat} (hd : 3 ≤ d) {σ : am_S} {t : Nat} {T : sp_T} (hto : σ.2.2.1 68 1 = some t) (hX : XT_ t T σ) (hV : TV_ T) {p : Nat} (hp : p < nP_ T) {s : Nat} (hs : σ.1 68 2 = (s : Int)) (hs9 : s < 1000) {Q : Option am_V → am_S → Prop} (hQ : ∀ σ', σ' = (am_sI σ 68 (am_up (σ.1 68) 2 (((s * 137 + 71) % 1000 : Nat) : Int))) → Q (some (am_I (dr_ T (pa_ T p) (((s * 137 + 71) % 1000 : Nat) : Int)))) σ') : am_Ev d 12 [am_R 68, am_I ((p : Nat) : Int)] σ Q := by
  obtain ⟨d, rfl⟩ : ∃ e, d = e + 1 := ⟨d - 1, by omega⟩
  have hpa := hV.pa hp
  have hab := al_bd hV hpa.2.1
  obtain ⟨A, hA⟩ : ∃ A : Nat, al_ T (pa_ T p) = (A : Int) := ⟨(al_ T (pa_ T p)).toNat, by omega⟩
  obtain ⟨s2, hs2⟩ : ∃ s2, s2 = (s * 137 + 71) % 1000 := ⟨_, rfl⟩
  have hs29 : s2 < 1000 := by rw [hs2]; exact Nat.mod_lt _ (by decide)
  refine ev_in (m := 12) (c := k_X2_drawnOrder) (L := [some (am_R 68), some (am_I ((p : Nat) : Int)), none, none, none, none]) rfl rfl rfl rfl rfl rfl ?_
  refine ax_load (q := 1) rfl rfl rfl rfl rfl ?_
  refine ax_load (q := 2) rfl rfl rfl rfl rfl ?_
  refine ax_getf (q := 5) (v := am_I ((s : Nat) : Int)) rfl rfl (am_fg rfl hs) ?_
  refine ax_const (q := 8) (v := am_I 137) rfl rfl rfl ?_
  refine ax_imul (q := 9) (z := ((s * 137 : Nat) : Int)) rfl rfl (am_we (by omega) (by omega) (by omega)) ?_
  refine ax_const (q := 11) (v := am_I 71) rfl rfl rfl ?_
  refine ax_iadd (q := 12) (z := ((s * 137 + 71 : Nat) : Int)) rfl rfl (am_we (by omega) (by omega) (by omega)) ?_
  refine ax_const (q := 15) (v := am_I 1000) rfl rfl rfl ?_
  refine ax_irem (q := 16) (z := (((s * 137 + 71) % 1000 : Nat) : Int)) rfl rfl (by omega) (am_rem_nat (a := s * 137 + 71) (b := 1000) (by omega) (by omega) (by omega)) ?_
  refine ax_putf (q := 19) rfl rfl rfl ?_
  rw [← hs2]
  obtain ⟨σ1, h1⟩ : ∃ u, u = am_sI σ 68 (am_up (σ.1 68) 2 ((s2 : Nat) : Int)) := ⟨_, rfl⟩
  rw [← hs2] at hQ
  have g := hQ σ1 h1
  have hf1 : fr_ [68, 69] σ σ1 := by rw [h1]; exact fr_sI (fr_rf _ _) (by simp)
  have hX1 := xfr_ hX hf1
  have hto1 : σ1.2.2.1 68 1 = some t := by rw [h1]; exact hto
  have hseed : σ1.1 68 2 = ((s2 : Nat) : Int) := by rw [h1, sI_at, am_up_same]
  show aW d 0 k_X2_drawnOrder Q 19 _ [] (am_sI σ 68 (am_up (σ.1 68) 2 ((s2 : Nat) : Int)))
  rw [← h1]
  refine ax_load (q := 20) rfl rfl rfl rfl rfl ?_
  refine ax_getf (q := 23) (v := am_R t) rfl rfl (am_fgR rfl hto1) ?_
  refine ax_load (q := 24) rfl rfl rfl rfl rfl ?_
  refine ax_callv (q := 27) rfl rfl rfl rfl rfl (kd_0 hX.ht) ?_
  refine x_allShares (by omega) hX1 hV hp ?_
  rw [hA]
  refine ax_store (q := 28) (L' := [some (am_R 68), some (am_I ((p : Nat) : Int)), some (am_I ((A : Nat) : Int)), none, none, none]) rfl rfl rfl rfl rfl rfl ?_
  refine ax_load (q := 29) rfl rfl rfl rfl rfl ?_
  refine ax_if_gt (q := 32) (x := 34) rfl rfl (fun h29 => ?_) (fun h29 => ?_)
  · refine ax_load (q := 35) rfl rfl rfl rfl rfl ?_
    refine ax_getf (q := 38) (v := am_R t) rfl rfl (am_fgR rfl hto1) ?_
    refine ax_load (q := 39) rfl rfl rfl rfl rfl ?_
    refine ax_callv (q := 42) rfl rfl rfl rfl rfl (kd_0 hX.ht) ?_
    refine x_sharesOf (by omega) hX1 hV hp ?_
    refine ax_store (q := 43) (L' := [some (am_R 68), some (am_I ((p : Nat) : Int)), some (am_I ((A : Nat) : Int)), some (am_R (t + 16 + (pa_ T p))), none, none]) rfl rfl rfl rfl rfl rfl ?_
    refine ax_load (q := 44) rfl rfl rfl rfl rfl ?_
    refine ax_getf (q := 47) (v := am_I ((s2 : Nat) : Int)) rfl rfl (am_fg rfl hseed) ?_
    refine ax_load (q := 48) rfl rfl rfl rfl rfl ?_
    refine ax_irem (q := 49) (z := ((s2 % A : Nat) : Int)) rfl rfl (by omega) (am_rem_nat (by omega) (by omega) (by omega)) ?_
    refine ax_store (q := 51) (L' := [some (am_R 68), some (am_I ((p : Nat) : Int)), some (am_I ((A : Nat) : Int)), some (am_R (t + 16 + (pa_ T p))), some (am_I ((s2 % A : Nat) : Int)), none]) rfl rfl rfl rfl rfl rfl ?_
    refine ax_const (q := 52) (v := am_I 0) rfl rfl rfl ?_
    refine ax_store (q := 54) (L' := [some (am_R 68), some (am_I ((p : Nat) : Int)), some (am_I ((A : Nat) : Int)), some (am_R (t + 16 + (pa_ T p))), some (am_I ((s2 % A : Nat) : Int)), some (am_I 0)]) rfl rfl rfl rfl rfl rfl ?_
    have hml := Nat.mod_lt s2 (show 0 < A by omega)
    rw [show dr_ T (pa_ T p) ((s2 : Nat) : Int) = dq_ T (pa_ T p) (nO_ T) 0 (((s2 % A : Nat) : Int)) by unfold dr_; rw [if_neg (by omega), hA, am_rem_nat (by omega) (by omega) (by omega)]] at g
    exact xl_drawnOrder hto1 hX1 hV hp (nO_ T) 0 _ (by omega) (by omega) (by omega) g
  · refine ax_const (q := 33) (v := am_I (-1)) rfl rfl rfl ?_
    refine ax_ret (r := some (am_I (-1))) rfl rfl ?_
    rw [show dr_ T (pa_ T p) ((s2 : Nat) : Int) = -1 from if_pos (by omega)] at g
    exact g

