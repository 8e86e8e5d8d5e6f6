def sd_ (s : Nat) : Nat → Nat
  | 0 => s
  | k + 1 => (sd_ s k * 137 + 71) % 1000
theorem sd_lt {s : Nat} (h : s < 1000) : ∀ k, sd_ s k < 1000
  | 0 => h
  | _ + 1 => Nat.mod_lt _ (by decide)
theorem lyt_sd (T D : sp_T) (g f : Nat → Int) (s : Nat) : ∀ k, (lyt_ T D g f s k).2.2 = sd_ s k
  | 0 => rfl
  | k + 1 => by
    show ((lyt_ T D g f s k).2.2 * 137 + 71) % 1000 = _
    rw [lyt_sd T D g f s k]
    rfl
/-- what the class's row holds for the first k PERSONS of a new town -/
def BG_ (T D : sp_T) (s k : Nat) (x : Nat → Int) : Prop := x 48 = 0 ∧ ∀ j, j < k → x j = D 160 j ∧ x (6 + j) = 0 ∧ x (12 + j) = -1 ∧ x (18 + j) = dr_ T (pa_ T j) ((sd_ s (j + 1) : Nat) : Int) ∧ ∀ i, i < 4 → x (24 + 4 * j + i) = D 161 (4 * j + i)
theorem xfr_ {t : Nat} {T : sp_T} {σ σ' : am_S} (h : XT_ t T σ) (hf : fr_ [68, 69] σ σ') : XT_ t T σ' := h.fr (fun a h1 h2 => hf.1 a (by have := h.ht; simp; omega))
theorem cpy_in (f g : Nat → Int) {dp n i : Nat} (h : i < n) : va_cpy f g 0 dp n (dp + i) = f i := by
  unfold va_cpy
  rw [if_pos (by omega)]
  congr 1
  omega
theorem cpy_out (f g : Nat → Int) {dp n j : Nat} (h : j < dp ∨ dp + n ≤ j) : va_cpy f g 0 dp n j = g j := by
  unfold va_cpy
  rw [if_neg (by omega)]

theorem xl_drawnOrder {d : Nat} {σ : am_S} {t : Nat} {T : sp_T} (hto : σ.2.2.1 68 1 = some t) (hX : XT_ t T σ) (hV : TV_ T) {p : Nat} (hp : p < nP_ T) {x2 : Int} {Q : Option am_V → am_S → Prop} : ∀ (m o : Nat) (l : Int), o + m = nO_ T → 0 ≤ l → l ≤ 100 → (hQ : Q (some (am_I (dq_ T (pa_ T p) m o l))) σ) → aW d 0 k_X2_drawnOrder Q 54 [some (am_R 68), some (am_I ((p : Nat) : Int)), some (am_I x2), some (am_R (t + 16 + (pa_ T p))), some (am_I l), some (am_I ((o : Nat) : Int))] [] σ := by
  have hO8 := hV.nO
  have hR := hV.nR
  have hpa := hV.pa hp
  intro m
  induction m with
  | zero =>
    intro o l ho h0 hl hQ
    obtain ho2 : o = nO_ T := by omega
    subst ho2
    refine ax_load (q := 56) rfl rfl rfl rfl rfl ?_
    refine ax_load (q := 57) rfl rfl rfl rfl rfl ?_
    refine ax_getf (q := 60) (v := am_R t) rfl rfl (am_fgR rfl hto) ?_
    refine ax_getf (q := 63) (v := am_R (t + 1)) rfl rfl (xg7_0 hX.ht) ?_
    refine ax_const (q := 64) (v := am_I 2) rfl rfl rfl ?_
    refine bx_iald (q := 65) (k := 2) (z := (((nO_ T) : Nat) : Int)) rfl rfl (kd_1 hX.ht) (by omega) (by omega) (hX.c2.trans hV.nO.1) ?_
    refine ax_icmp_ge (q := 68) (x := 95) rfl rfl (fun h65 => ?_) (fun h => absurd h (by omega))
    refine ax_const (q := 96) (v := am_I (-1)) rfl rfl rfl ?_
    refine ax_ret (r := some (am_I (-1))) rfl rfl ?_
    exact hQ
  | succ m ih =>
    intro o l ho h0 hl hQ
    have hb := hV.od hpa.2.1 (o := o) (by omega)
    refine ax_load (q := 56) rfl rfl rfl rfl rfl ?_
    refine ax_load (q := 57) rfl rfl rfl rfl rfl ?_
    refine ax_getf (q := 60) (v := am_R t) rfl rfl (am_fgR rfl hto) ?_
    refine ax_getf (q := 63) (v := am_R (t + 1)) rfl rfl (xg7_0 hX.ht) ?_
    refine ax_const (q := 64) (v := am_I 2) rfl rfl rfl ?_
    refine bx_iald (q := 65) (k := 2) (z := (((nO_ T) : Nat) : Int)) rfl rfl (kd_1 hX.ht) (by omega) (by omega) (hX.c2.trans hV.nO.1) ?_
    refine ax_icmp_ge (q := 68) (x := 95) rfl rfl (fun h => absurd h (by omega)) (fun h65 => ?_)
    refine ax_load (q := 70) rfl rfl rfl rfl rfl ?_
    refine ax_load (q := 71) rfl rfl rfl rfl rfl ?_
    refine ax_load (q := 73) rfl rfl rfl rfl rfl ?_
    refine bx_iald (q := 74) (k := o) (z := T 158 (8 * (pa_ T p) + o)) rfl rfl (kd_sh hX.ht (by omega)) (by omega) (by omega) (hX.sha _ _ (by omega) (by omega)) ?_
    refine ax_icmp_ge (q := 77) (x := 80) rfl rfl (fun h74 => ?_) (fun h74 => ?_)
    · refine ax_load (q := 82) rfl rfl rfl rfl rfl ?_
      refine ax_load (q := 83) rfl rfl rfl rfl rfl ?_
      refine ax_load (q := 85) rfl rfl rfl rfl rfl ?_
      refine bx_iald (q := 86) (k := o) (z := T 158 (8 * (pa_ T p) + o)) rfl rfl (kd_sh hX.ht (by omega)) (by omega) (by omega) (hX.sha _ _ (by omega) (by omega)) ?_
      refine ax_isub (q := 87) (z := l - (T 158 (8 * (pa_ T p) + o))) rfl rfl (am_we (by omega) (by omega) (by omega)) ?_
      refine ax_store (q := 89) (L' := [some (am_R 68), some (am_I ((p : Nat) : Int)), some (am_I x2), some (am_R (t + 16 + (pa_ T p))), some (am_I (l - (T 158 (8 * (pa_ T p) + o)))), some (am_I ((o : Nat) : Int))]) rfl rfl rfl rfl rfl rfl ?_
      refine ax_iinc (q := 92) (z' := ((o + 1 : Nat) : Int)) (L' := [some (am_R 68), some (am_I ((p : Nat) : Int)), some (am_I x2), some (am_R (t + 16 + (pa_ T p))), some (am_I (l - (T 158 (8 * (pa_ T p) + o)))), some (am_I ((o + 1 : Nat) : Int))]) rfl rfl rfl rfl (am_we (by omega) (by omega) (by omega)) rfl ?_
      refine ax_goto (x := 54) rfl ?_
      rw [show dq_ T (pa_ T p) (m + 1) o l = dq_ T (pa_ T p) m (o + 1) (l - T 158 (8 * pa_ T p + o)) from if_neg (by omega)] at hQ
      exact ih (o + 1) (l - T 158 (8 * pa_ T p + o)) (by omega) (by omega) (by omega) hQ
    · refine ax_load (q := 79) rfl rfl rfl rfl rfl ?_
      refine ax_ret (r := some (am_I ((o : Nat) : Int))) rfl rfl ?_
      rw [show dq_ T (pa_ T p) (m + 1) o l = (o : Int) from if_pos (by omega)] at hQ
      exact hQ

theorem x_drawnOrder {d : Nat} (hd : 3 ≤ d) {σ : am_S} {t : Nat} {T : sp_T} (hto : σ.2.2.1 68 1 = some t) (hX : XT_ t T σ) (hV : TV_ T) {p : Nat} (hp : p < nP_ T) {s : Nat} (hs : σ.1 68 2 = (s : Int)) (hs9 : s < 1000) {Q : Option am_V → am_S → Prop} (hQ : ∀ σ', σ' = (am_sI σ 68 (am_up (σ.1 68) 2 (((s * 137 + 71) % 1000 : Nat) : Int))) → Q (some (am_I (dr_ T (pa_ T p) (((s * 137 + 71) % 1000 : Nat) : Int)))) σ') : am_Ev d 12 [am_R 68, am_I ((p : Nat) : Int)] σ Q := by
  obtain ⟨d, rfl⟩ : ∃ e, d = e + 1 := ⟨d - 1, by omega⟩
  have hpa := hV.pa hp
  have hab := al_bd hV hpa.2.1
  obtain ⟨A, hA⟩ : ∃ A : Nat, al_ T (pa_ T p) = (A : Int) := ⟨(al_ T (pa_ T p)).toNat, by omega⟩
  obtain ⟨s2, hs2⟩ : ∃ s2, s2 = (s * 137 + 71) % 1000 := ⟨_, rfl⟩
  have hs29 : s2 < 1000 := by rw [hs2]; exact Nat.mod_lt _ (by decide)
  refine ev_in (m := 12) (c := k_X2_drawnOrder) (L := [some (am_R 68), some (am_I ((p : Nat) : Int)), none, none, none, none]) rfl rfl rfl rfl rfl rfl ?_
  refine ax_load (q := 1) rfl rfl rfl rfl rfl ?_
  refine ax_load (q := 2) rfl rfl rfl rfl rfl ?_
  refine ax_getf (q := 5) (v := am_I ((s : Nat) : Int)) rfl rfl (am_fg rfl hs) ?_
  refine ax_const (q := 8) (v := am_I 137) rfl rfl rfl ?_
  refine ax_imul (q := 9) (z := ((s * 137 : Nat) : Int)) rfl rfl (am_we (by omega) (by omega) (by omega)) ?_
  refine ax_const (q := 11) (v := am_I 71) rfl rfl rfl ?_
  refine ax_iadd (q := 12) (z := ((s * 137 + 71 : Nat) : Int)) rfl rfl (am_we (by omega) (by omega) (by omega)) ?_
  refine ax_const (q := 15) (v := am_I 1000) rfl rfl rfl ?_
  refine ax_irem (q := 16) (z := (((s * 137 + 71) % 1000 : Nat) : Int)) rfl rfl (by omega) (am_rem_nat (a := s * 137 + 71) (b := 1000) (by omega) (by omega) (by omega)) ?_
  refine ax_putf (q := 19) rfl rfl rfl ?_
  rw [← hs2]
  obtain ⟨σ1, h1⟩ : ∃ u, u = am_sI σ 68 (am_up (σ.1 68) 2 ((s2 : Nat) : Int)) := ⟨_, rfl⟩
  rw [← hs2] at hQ
  have g := hQ σ1 h1
  have hf1 : fr_ [68, 69] σ σ1 := by rw [h1]; exact fr_sI (fr_rf _ _) (by simp)
  have hX1 := xfr_ hX hf1
  have hto1 : σ1.2.2.1 68 1 = some t := by rw [h1]; exact hto
  have hseed : σ1.1 68 2 = ((s2 : Nat) : Int) := by rw [h1, sI_at, am_up_same]
  show aW d 0 k_X2_drawnOrder Q 19 _ [] (am_sI σ 68 (am_up (σ.1 68) 2 ((s2 : Nat) : Int)))
  rw [← h1]
  refine ax_load (q := 20) rfl rfl rfl rfl rfl ?_
  refine ax_getf (q := 23) (v := am_R t) rfl rfl (am_fgR rfl hto1) ?_
  refine ax_load (q := 24) rfl rfl rfl rfl rfl ?_
  refine ax_callv (q := 27) rfl rfl rfl rfl rfl (kd_0 hX.ht) ?_
  refine x_allShares (by omega) hX1 hV hp ?_
  rw [hA]
  refine ax_store (q := 28) (L' := [some (am_R 68), some (am_I ((p : Nat) : Int)), some (am_I ((A : Nat) : Int)), none, none, none]) rfl rfl rfl rfl rfl rfl ?_
  refine ax_load (q := 29) rfl rfl rfl rfl rfl ?_
  refine ax_if_gt (q := 32) (x := 34) rfl rfl (fun h29 => ?_) (fun h29 => ?_)
  · refine ax_load (q := 35) rfl rfl rfl rfl rfl ?_
    refine ax_getf (q := 38) (v := am_R t) rfl rfl (am_fgR rfl hto1) ?_
    refine ax_load (q := 39) rfl rfl rfl rfl rfl ?_
    refine ax_callv (q := 42) rfl rfl rfl rfl rfl (kd_0 hX.ht) ?_
    refine x_sharesOf (by omega) hX1 hV hp ?_
    refine ax_store (q := 43) (L' := [some (am_R 68), some (am_I ((p : Nat) : Int)), some (am_I ((A : Nat) : Int)), some (am_R (t + 16 + (pa_ T p))), none, none]) rfl rfl rfl rfl rfl rfl ?_
    refine ax_load (q := 44) rfl rfl rfl rfl rfl ?_
    refine ax_getf (q := 47) (v := am_I ((s2 : Nat) : Int)) rfl rfl (am_fg rfl hseed) ?_
    refine ax_load (q := 48) rfl rfl rfl rfl rfl ?_
    refine ax_irem (q := 49) (z := ((s2 % A : Nat) : Int)) rfl rfl (by omega) (am_rem_nat (by omega) (by omega) (by omega)) ?_
    refine ax_store (q := 51) (L' := [some (am_R 68), some (am_I ((p : Nat) : Int)), some (am_I ((A : Nat) : Int)), some (am_R (t + 16 + (pa_ T p))), some (am_I ((s2 % A : Nat) : Int)), none]) rfl rfl rfl rfl rfl rfl ?_
    refine ax_const (q := 52) (v := am_I 0) rfl rfl rfl ?_
    refine ax_store (q := 54) (L' := [some (am_R 68), some (am_I ((p : Nat) : Int)), some (am_I ((A : Nat) : Int)), some (am_R (t + 16 + (pa_ T p))), some (am_I ((s2 % A : Nat) : Int)), some (am_I 0)]) rfl rfl rfl rfl rfl rfl ?_
    have hml := Nat.mod_lt s2 (show 0 < A by omega)
    rw [show dr_ T (pa_ T p) ((s2 : Nat) : Int) = dq_ T (pa_ T p) (nO_ T) 0 (((s2 % A : Nat) : Int)) by unfold dr_; rw [if_neg (by omega), hA, am_rem_nat (by omega) (by omega) (by omega)]] at g
    exact xl_drawnOrder hto1 hX1 hV hp (nO_ T) 0 _ (by omega) (by omega) (by omega) g
  · refine ax_const (q := 33) (v := am_I (-1)) rfl rfl rfl ?_
    refine ax_ret (r := some (am_I (-1))) rfl rfl ?_
    rw [show dr_ T (pa_ T p) ((s2 : Nat) : Int) = -1 from if_pos (by omega)] at g
    exact g

theorem xl_begin2 {d : Nat} (hd : 4 ≤ d) {σ : am_S} {t : Nat} {T : sp_T} (hto : σ.2.2.1 68 1 = some t) (hX : XT_ t T σ) (hV : TV_ T) {D : sp_T} {s : Nat} (hs9 : s < 1000) (hag : ∀ p, p < nP_ T → σ.1 (t + 20) p = D 160 p) (hlv : ∀ p i, p < nP_ T → i < 4 → σ.1 (t + 22 + p) i = D 161 (4 * p + i)) {Q : Option am_V → am_S → Prop} (hQ : ∀ σ', fr_ [68, 69] σ σ' → BG_ T D s (nP_ T) (σ'.1 69) → σ'.1 68 2 = ((sd_ s (nP_ T) : Nat) : Int) → Q none σ') : ∀ (m k : Nat), k + m = nP_ T → ∀ σ', fr_ [68, 69] σ σ' → σ'.1 68 2 = ((sd_ s k : Nat) : Int) → BG_ T D s k (σ'.1 69) → aW d 4 k_X2_begin Q 21 [some (am_R 68), some (am_I ((k : Nat) : Int))] [] σ' := by
  have h6 := hV.nP
  have ht := hX.ht
  intro m
  induction m with
  | zero =>
    intro k hk σ' hf' hs' hb
    obtain hk2 : k = nP_ T := by omega
    subst hk2
    have hX' := xfr_ hX hf'
    have hto' : σ'.2.2.1 68 1 = some t := by rw [hf'.2]; exact hto
    refine ax_load (q := 22) rfl rfl rfl rfl rfl ?_
    refine ax_load (q := 23) rfl rfl rfl rfl rfl ?_
    refine ax_getf (q := 26) (v := am_R t) rfl rfl (am_fgR rfl hto') ?_
    refine ax_getf (q := 29) (v := am_R (t + 1)) rfl rfl (xg7_0 hX'.ht) ?_
    refine ax_const (q := 30) (v := am_I 0) rfl rfl rfl ?_
    refine bx_iald (q := 31) (k := 0) (z := (((nP_ T) : Nat) : Int)) rfl rfl (kd_1 hX'.ht) (by omega) (by omega) (hX'.c0.trans hV.nP.1) ?_
    refine ax_icmp_ge (q := 34) (x := 115) rfl rfl (fun h31 => ?_) (fun h => absurd h (by omega))
    refine ax_ret (r := none) rfl rfl ?_
    exact hQ _ hf' hb hs'
  | succ m ih =>
    intro k hk σ' hf' hs' hb
    have hX' := xfr_ hX hf'
    have hto' : σ'.2.2.1 68 1 = some t := by rw [hf'.2]; exact hto
    have hsl := sd_lt hs9 k
    have hpa := hV.pa (p := k) (by omega)
    refine ax_load (q := 22) rfl rfl rfl rfl rfl ?_
    refine ax_load (q := 23) rfl rfl rfl rfl rfl ?_
    refine ax_getf (q := 26) (v := am_R t) rfl rfl (am_fgR rfl hto') ?_
    refine ax_getf (q := 29) (v := am_R (t + 1)) rfl rfl (xg7_0 hX'.ht) ?_
    refine ax_const (q := 30) (v := am_I 0) rfl rfl rfl ?_
    refine bx_iald (q := 31) (k := 0) (z := (((nP_ T) : Nat) : Int)) rfl rfl (kd_1 hX'.ht) (by omega) (by omega) (hX'.c0.trans hV.nP.1) ?_
    refine ax_icmp_ge (q := 34) (x := 115) rfl rfl (fun h => absurd h (by omega)) (fun h31 => ?_)
    refine ax_load (q := 35) rfl rfl rfl rfl rfl ?_
    refine ax_getf (q := 38) (v := am_R 69) rfl rfl (rfl) ?_
    refine ax_const (q := 39) (v := am_I 0) rfl rfl rfl ?_
    refine ax_load (q := 40) rfl rfl rfl rfl rfl ?_
    refine ax_iadd (q := 41) (z := ((k : Nat) : Int)) rfl rfl (am_we (by omega) (by omega) (by omega)) ?_
    refine ax_load (q := 42) rfl rfl rfl rfl rfl ?_
    refine ax_getf (q := 45) (v := am_R t) rfl rfl (am_fgR rfl hto') ?_
    refine ax_getf (q := 48) (v := am_R (t + 20)) rfl rfl (xg7_7 hX'.ht) ?_
    refine ax_load (q := 49) rfl rfl rfl rfl rfl ?_
    refine bx_iald (q := 50) (k := k) (z := σ'.1 (t + 20) k) rfl rfl (kd_20 hX'.ht) (by omega) (by omega) (rfl) ?_
    refine bx_iast (q := 51) (k := k) rfl rfl (rfl) (by omega) (by omega) ?_
    obtain ⟨σ1, h1⟩ : ∃ u, u = (am_sI σ' 69 (am_up (σ'.1 69) k (σ'.1 (t + 20) k))) := ⟨_, rfl⟩
    show aW d 4 k_X2_begin Q 51 [some (am_R 68), some (am_I ((k : Nat) : Int))] [] (am_sI σ' 69 (am_up (σ'.1 69) k (σ'.1 (t + 20) k)))
    rw [← h1]
    have hf1 : fr_ [68, 69] σ σ1 := by rw [h1]; exact fr_sI hf' (by simp)
    have hX1 := xfr_ hX hf1
    have hto1 : σ1.2.2.1 68 1 = some t := by rw [h1]; exact hto'
    have hx1 : σ1.1 69 = am_up (σ'.1 69) k (σ'.1 (t + 20) k) := by rw [h1, sI_at]
    have hs1 : σ1.1 68 2 = ((sd_ s k : Nat) : Int) := by rw [h1, sI_ne (by decide)]; exact hs'
    refine ax_load (q := 52) rfl rfl rfl rfl rfl ?_
    refine ax_getf (q := 55) (v := am_R 69) rfl rfl (rfl) ?_
    refine ax_const (q := 57) (v := am_I 6) rfl rfl rfl ?_
    refine ax_load (q := 58) rfl rfl rfl rfl rfl ?_
    refine ax_iadd (q := 59) (z := ((6 + k : Nat) : Int)) rfl rfl (am_we (by omega) (by omega) (by omega)) ?_
    refine ax_const (q := 60) (v := am_I 0) rfl rfl rfl ?_
    refine bx_iast (q := 61) (k := 6 + k) rfl rfl (rfl) (by omega) (by omega) ?_
    obtain ⟨σ2, h2⟩ : ∃ u, u = (am_sI σ1 69 (am_up (σ1.1 69) (6 + k) 0)) := ⟨_, rfl⟩
    show aW d 4 k_X2_begin Q 61 [some (am_R 68), some (am_I ((k : Nat) : Int))] [] (am_sI σ1 69 (am_up (σ1.1 69) (6 + k) 0))
    rw [← h2]
    have hf2 : fr_ [68, 69] σ σ2 := by rw [h2]; exact fr_sI hf1 (by simp)
    have hX2 := xfr_ hX hf2
    have hto2 : σ2.2.2.1 68 1 = some t := by rw [h2]; exact hto1
    have hx2 : σ2.1 69 = am_up (σ1.1 69) (6 + k) 0 := by rw [h2, sI_at]
    have hs2 : σ2.1 68 2 = ((sd_ s k : Nat) : Int) := by rw [h2, sI_ne (by decide)]; exact hs1
    refine ax_load (q := 62) rfl rfl rfl rfl rfl ?_
    refine ax_getf (q := 65) (v := am_R 69) rfl rfl (rfl) ?_
    refine ax_const (q := 67) (v := am_I 12) rfl rfl rfl ?_
    refine ax_load (q := 68) rfl rfl rfl rfl rfl ?_
    refine ax_iadd (q := 69) (z := ((12 + k : Nat) : Int)) rfl rfl (am_we (by omega) (by omega) (by omega)) ?_
    refine ax_const (q := 70) (v := am_I (-1)) rfl rfl rfl ?_
    refine bx_iast (q := 71) (k := 12 + k) rfl rfl (rfl) (by omega) (by omega) ?_
    obtain ⟨σ3, h3⟩ : ∃ u, u = (am_sI σ2 69 (am_up (σ2.1 69) (12 + k) (-1))) := ⟨_, rfl⟩
    show aW d 4 k_X2_begin Q 71 [some (am_R 68), some (am_I ((k : Nat) : Int))] [] (am_sI σ2 69 (am_up (σ2.1 69) (12 + k) (-1)))
    rw [← h3]
    have hf3 : fr_ [68, 69] σ σ3 := by rw [h3]; exact fr_sI hf2 (by simp)
    have hX3 := xfr_ hX hf3
    have hto3 : σ3.2.2.1 68 1 = some t := by rw [h3]; exact hto2
    have hx3 : σ3.1 69 = am_up (σ2.1 69) (12 + k) (-1) := by rw [h3, sI_at]
    have hs3 : σ3.1 68 2 = ((sd_ s k : Nat) : Int) := by rw [h3, sI_ne (by decide)]; exact hs2
    refine ax_load (q := 72) rfl rfl rfl rfl rfl ?_
    refine ax_getf (q := 75) (v := am_R 69) rfl rfl (rfl) ?_
    refine ax_const (q := 77) (v := am_I 18) rfl rfl rfl ?_
    refine ax_load (q := 78) rfl rfl rfl rfl rfl ?_
    refine ax_iadd (q := 79) (z := ((18 + k : Nat) : Int)) rfl rfl (am_we (by omega) (by omega) (by omega)) ?_
    refine ax_load (q := 80) rfl rfl rfl rfl rfl ?_
    refine ax_load (q := 81) rfl rfl rfl rfl rfl ?_
    refine ax_callv (q := 84) rfl rfl rfl rfl rfl rfl ?_
    refine x_drawnOrder (by omega) hto3 hX3 hV (p := k) (by omega) hs3 hsl (fun σ4 h4 => ?_)
    have hf4 : fr_ [68, 69] σ σ4 := by rw [h4]; exact fr_sI hf3 (by simp)
    have hX4 := xfr_ hX hf4
    have hto4 : σ4.2.2.1 68 1 = some t := by rw [h4]; exact hto3
    have hx4 : σ4.1 69 = σ3.1 69 := by rw [h4, sI_ne (by decide)]
    have hs4 : σ4.1 68 2 = ((sd_ s (k + 1) : Nat) : Int) := by rw [h4, sI_at, am_up_same]; rfl
    refine bx_iast (q := 85) (k := 18 + k) rfl rfl (rfl) (by omega) (by omega) ?_
    obtain ⟨σ5, h5⟩ : ∃ u, u = (am_sI σ4 69 (am_up (σ4.1 69) (18 + k) (dr_ T (pa_ T k) ((sd_ s (k + 1) : Nat) : Int)))) := ⟨_, rfl⟩
    show aW d 4 k_X2_begin Q 85 [some (am_R 68), some (am_I ((k : Nat) : Int))] [] (am_sI σ4 69 (am_up (σ4.1 69) (18 + k) (dr_ T (pa_ T k) ((sd_ s (k + 1) : Nat) : Int))))
    rw [← h5]
    have hf5 : fr_ [68, 69] σ σ5 := by rw [h5]; exact fr_sI hf4 (by simp)
    have hX5 := xfr_ hX hf5
    have hto5 : σ5.2.2.1 68 1 = some t := by rw [h5]; exact hto4
    have hx5 : σ5.1 69 = am_up (σ4.1 69) (18 + k) (dr_ T (pa_ T k) ((sd_ s (k + 1) : Nat) : Int)) := by rw [h5, sI_at]
    have hs5 : σ5.1 68 2 = ((sd_ s (k + 1) : Nat) : Int) := by rw [h5, sI_ne (by decide)]; exact hs4
    refine ax_load (q := 86) rfl rfl rfl rfl rfl ?_
    refine ax_getf (q := 89) (v := am_R t) rfl rfl (am_fgR rfl hto5) ?_
    refine ax_getf (q := 92) (v := am_R (t + 21)) rfl rfl (xg7_8 hX5.ht) ?_
    refine ax_load (q := 93) rfl rfl rfl rfl rfl ?_
    refine bx_aald (q := 94) (k := k) (z := t + 22 + k) rfl rfl (Or.inl (kd_21 hX5.ht)) (by omega) (by omega) (by omega) ?_
    refine ax_const (q := 95) (v := am_I 0) rfl rfl rfl ?_
    refine ax_load (q := 96) rfl rfl rfl rfl rfl ?_
    refine ax_getf (q := 99) (v := am_R 69) rfl rfl (rfl) ?_
    refine ax_const (q := 101) (v := am_I 24) rfl rfl rfl ?_
    refine ax_load (q := 102) rfl rfl rfl rfl rfl ?_
    refine ax_const (q := 103) (v := am_I 4) rfl rfl rfl ?_
    refine ax_imul (q := 104) (z := ((4 * k : Nat) : Int)) rfl rfl (am_we (by omega) (by omega) (by omega)) ?_
    refine ax_iadd (q := 105) (z := ((24 + 4 * k : Nat) : Int)) rfl rfl (am_we (by omega) (by omega) (by omega)) ?_
    refine ax_const (q := 106) (v := am_I 4) rfl rfl rfl ?_
    refine ax_copy (q := 109) rfl rfl rfl (kd_lv ht (by omega)) rfl (by decide) (by omega) (by decide) (by decide) (by omega) ?_
    refine ax_iinc (q := 112) (z' := ((k + 1 : Nat) : Int)) (L' := [some (am_R 68), some (am_I ((k + 1 : Nat) : Int))]) rfl rfl rfl rfl (am_we (by omega) (by omega) (by omega)) rfl ?_
    refine ax_goto (x := 21) rfl ?_
    refine ih (k + 1) (by omega) _ (fr_sI hf5 (by simp)) ((congrFun (sI_ne (by decide)) _).trans hs5) ?_
    rw [sI_at]
    show BG_ T D s (k + 1) (va_cpy (σ5.1 (t + 22 + k)) (σ5.1 69) 0 (24 + 4 * k) 4)
    refine ⟨?_, fun j hj => ?_⟩
    · rw [cpy_out _ _ (by omega), hx5, am_up_ne (by omega), hx4, hx3, am_up_ne (by omega), hx2, am_up_ne (by omega), hx1, am_up_ne (by omega)]; exact hb.1
    · by_cases q : j = k
      · rw [q]
        refine ⟨?_, ?_, ?_, ?_, fun i hi => ?_⟩
        · rw [cpy_out _ _ (by omega), hx5, am_up_ne (by omega), hx4, hx3, am_up_ne (by omega), hx2, am_up_ne (by omega), hx1, am_up_same, hf'.1 _ (by simp; omega)]; exact hag k (by omega)
        · rw [cpy_out _ _ (by omega), hx5, am_up_ne (by omega), hx4, hx3, am_up_ne (by omega), hx2, am_up_same]
        · rw [cpy_out _ _ (by omega), hx5, am_up_ne (by omega), hx4, hx3, am_up_same]
        · rw [cpy_out _ _ (by omega), hx5, am_up_same]
        · rw [cpy_in _ _ hi, hf5.1 _ (by simp; omega)]; exact hlv k i (by omega) hi
      · have e : ∀ j2, j2 ≠ k → j2 ≠ 6 + k → j2 ≠ 12 + k → j2 ≠ 18 + k → (j2 < 24 + 4 * k ∨ 24 + 4 * k + 4 ≤ j2) → va_cpy (σ5.1 (t + 22 + k)) (σ5.1 69) 0 (24 + 4 * k) 4 j2 = σ'.1 69 j2 := by
          intro j2 a1 a2 a3 a4 a5
          rw [cpy_out _ _ a5, hx5, am_up_ne a4, hx4, hx3, am_up_ne a3, hx2, am_up_ne a2, hx1, am_up_ne a1]
        obtain ⟨b1, b2, b3, b4, b5⟩ := hb.2 j (by omega)
        exact ⟨(e _ (by omega) (by omega) (by omega) (by omega) (by omega)).trans b1, (e _ (by omega) (by omega) (by omega) (by omega) (by omega)).trans b2, (e _ (by omega) (by omega) (by omega) (by omega) (by omega)).trans b3, (e _ (by omega) (by omega) (by omega) (by omega) (by omega)).trans b4, fun i hi => (e _ (by omega) (by omega) (by omega) (by omega) (by omega)).trans (b5 i hi)⟩

theorem x_begin2 {d : Nat} (hd : 5 ≤ d) {σ : am_S} {t : Nat} {T : sp_T} (hto : σ.2.2.1 68 1 = some t) (hX : XT_ t T σ) (hV : TV_ T) {D : sp_T} {s : Nat} (hs9 : s < 1000) (hag : ∀ p, p < nP_ T → σ.1 (t + 20) p = D 160 p) (hlv : ∀ p i, p < nP_ T → i < 4 → σ.1 (t + 22 + p) i = D 161 (4 * p + i)) (hdr : σ.1 t 11 = (s : Int)) {Q : Option am_V → am_S → Prop} (hQ : ∀ σ', fr_ [68, 69] σ σ' → BG_ T D s (nP_ T) (σ'.1 69) → σ'.1 68 2 = ((sd_ s (nP_ T) : Nat) : Int) → Q none σ') : am_Ev d 11 [am_R 68] σ Q := by
  obtain ⟨d, rfl⟩ : ∃ e, d = e + 1 := ⟨d - 1, by omega⟩
  have ht := hX.ht
  refine ev_in (m := 11) (c := k_X2_begin) (L := [some (am_R 68), none]) rfl rfl rfl rfl rfl rfl ?_
  refine ax_load (q := 1) rfl rfl rfl rfl rfl ?_
  refine ax_load (q := 2) rfl rfl rfl rfl rfl ?_
  refine ax_getf (q := 5) (v := am_R t) rfl rfl (am_fgR rfl hto) ?_
  refine ax_getf (q := 8) (v := am_I ((s : Nat) : Int)) rfl rfl (am_fg (xg7_11 ht) hdr) ?_
  refine ax_putf (q := 11) rfl rfl rfl ?_
  refine ax_load (q := 12) rfl rfl rfl rfl rfl ?_
  refine ax_getf (q := 15) (v := am_R 69) rfl rfl (rfl) ?_
  refine ax_const (q := 17) (v := am_I 48) rfl rfl rfl ?_
  refine ax_const (q := 18) (v := am_I 0) rfl rfl rfl ?_
  refine bx_iast (q := 19) (k := 48) rfl rfl (rfl) (by omega) (by omega) ?_
  refine ax_const (q := 20) (v := am_I 0) rfl rfl rfl ?_
  refine ax_store (q := 21) (L' := [some (am_R 68), some (am_I 0)]) rfl rfl rfl rfl rfl rfl ?_
  obtain ⟨σ1, h1⟩ : ∃ u, u = (am_sI (am_sI σ 68 (am_up (σ.1 68) 2 ((s : Nat) : Int))) 69 (am_up ((am_sI σ 68 (am_up (σ.1 68) 2 ((s : Nat) : Int))).1 69) 48 0)) := ⟨_, rfl⟩
  show aW d 4 k_X2_begin Q 21 [some (am_R 68), some (am_I 0)] [] (am_sI (am_sI σ 68 (am_up (σ.1 68) 2 ((s : Nat) : Int))) 69 (am_up ((am_sI σ 68 (am_up (σ.1 68) 2 ((s : Nat) : Int))).1 69) 48 0))
  rw [← h1]
  have hf1 : fr_ [68, 69] σ σ1 := by rw [h1]; exact fr_sI (fr_sI (fr_rf _ _) (by simp)) (by simp)
  refine xl_begin2 (by omega) hto hX hV hs9 hag hlv hQ (nP_ T) 0 (by omega) σ1 hf1 (by rw [h1, sI_ne (by decide), sI_at, am_up_same]; rfl) ⟨by rw [h1, sI_at, am_up_same], fun j hj => absurd hj (by omega)⟩

