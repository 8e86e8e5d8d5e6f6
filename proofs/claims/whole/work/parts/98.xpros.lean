/-- Euclid's steps, m at most -/
def gdl_ : Nat → Nat → Nat → Nat
  | 0, a, _ => a
  | m + 1, a, b => if b = 0 then a else gdl_ m b (a % b)
theorem gdl_eq : ∀ k m a b, b < 2 ^ k → 2 * k ≤ m → gdl_ m a b = Nat.gcd a b := by
  intro k
  induction k with
  | zero =>
    intro m a b hb hm
    have hb0 : b = 0 := by simpa using hb
    subst hb0
    rw [Nat.gcd_zero_right]
    cases m with
    | zero => rfl
    | succ m => exact if_pos rfl
  | succ k ih =>
    intro m a b hb hm
    obtain ⟨m, rfl⟩ : ∃ n, m = n + 2 := ⟨m - 2, by omega⟩
    by_cases h0 : b = 0
    · subst h0; rw [Nat.gcd_zero_right]; exact if_pos rfl
    · have e1 : gdl_ (m + 2) a b = gdl_ (m + 1) b (a % b) := if_neg h0
      have g1 : Nat.gcd a b = Nat.gcd b (a % b) := by rw [Nat.gcd_comm a b, Nat.gcd_rec b a, Nat.gcd_comm]
      rw [e1, g1]
      by_cases h1 : a % b = 0
      · rw [h1, Nat.gcd_zero_right]; exact if_pos rfl
      · have e2 : gdl_ (m + 1) b (a % b) = gdl_ m (a % b) (b % (a % b)) := if_neg h1
        have g2 : Nat.gcd b (a % b) = Nat.gcd (a % b) (b % (a % b)) := by rw [Nat.gcd_comm b, Nat.gcd_rec (a % b) b, Nat.gcd_comm]
        rw [e2, g2]
        refine ih m _ _ ?_ (by omega)
        have hr : a % b < b := Nat.mod_lt _ (by omega)
        have hs : b % (a % b) < a % b := Nat.mod_lt _ (by omega)
        have hp : 2 ^ (k + 1) = 2 * 2 ^ k := by rw [Nat.pow_succ, Nat.mul_comm]
        by_cases h2 : 2 * (a % b) ≤ b
        · omega
        · have hd : b % (a % b) = b - a % b := by
            rw [Nat.mod_eq_sub_mod (by omega), Nat.mod_eq_of_lt (by omega)]
          omega

theorem xl_gd {d : Nat} {σ : am_S} {x y : Int} {Q : Option am_V → am_S → Prop} : ∀ (m k a b : Nat) (x5 : Option am_V), k + m = 64 → a < 100000 → b < 100000 → (hQ : Q (some (am_I ((gdl_ m a b : Nat) : Int))) σ) → aW d 0 k_X8_greatestDivisor Q 7 [some (am_I x), some (am_I y), some (am_I ((a : Nat) : Int)), some (am_I ((b : Nat) : Int)), some (am_I ((k : Nat) : Int)), x5] [] σ := by
  intro m
  induction m with
  | zero =>
    intro k a b x5 hk ha hb hQ
    obtain rfl : k = 64 := by omega
    refine ax_load (q := 9) rfl rfl rfl rfl rfl ?_
    refine ax_const (q := 11) (v := am_I 64) rfl rfl rfl ?_
    refine ax_icmp_ge (q := 14) (x := 34) rfl rfl (fun h11 => ?_) (fun h => absurd h (by omega))
    refine ax_load (q := 35) rfl rfl rfl rfl rfl ?_
    refine ax_ret (r := some (am_I ((a : Nat) : Int))) rfl rfl ?_
    exact hQ
  | succ m ih =>
    intro k a b x5 hk ha hb hQ
    have e : gdl_ (m + 1) a b = if b = 0 then a else gdl_ m b (a % b) := rfl
    rw [e] at hQ
    refine ax_load (q := 9) rfl rfl rfl rfl rfl ?_
    refine ax_const (q := 11) (v := am_I 64) rfl rfl rfl ?_
    refine ax_icmp_ge (q := 14) (x := 34) rfl rfl (fun h => absurd h (by omega)) (fun h11 => ?_)
    refine ax_load (q := 15) rfl rfl rfl rfl rfl ?_
    refine ax_if_eq (q := 18) (x := 34) rfl rfl (fun h15 => ?_) (fun h15 => ?_)
    · refine ax_load (q := 35) rfl rfl rfl rfl rfl ?_
      refine ax_ret (r := some (am_I ((a : Nat) : Int))) rfl rfl ?_
      rw [if_pos (by omega)] at hQ
      exact hQ
    · refine ax_load (q := 19) rfl rfl rfl rfl rfl ?_
      refine ax_load (q := 20) rfl rfl rfl rfl rfl ?_
      refine ax_irem (q := 21) (z := ((a % b : Nat) : Int)) rfl rfl (by omega) (am_rem_nat (by omega) (by omega) (by omega)) ?_
      refine ax_store (q := 23) (L' := [some (am_I x), some (am_I y), some (am_I ((a : Nat) : Int)), some (am_I ((b : Nat) : Int)), some (am_I ((k : Nat) : Int)), some (am_I ((a % b : Nat) : Int))]) rfl rfl rfl rfl rfl rfl ?_
      refine ax_load (q := 24) rfl rfl rfl rfl rfl ?_
      refine ax_store (q := 25) (L' := [some (am_I x), some (am_I y), some (am_I ((b : Nat) : Int)), some (am_I ((b : Nat) : Int)), some (am_I ((k : Nat) : Int)), some (am_I ((a % b : Nat) : Int))]) rfl rfl rfl rfl rfl rfl ?_
      refine ax_load (q := 27) rfl rfl rfl rfl rfl ?_
      refine ax_store (q := 28) (L' := [some (am_I x), some (am_I y), some (am_I ((b : Nat) : Int)), some (am_I ((a % b : Nat) : Int)), some (am_I ((k : Nat) : Int)), some (am_I ((a % b : Nat) : Int))]) rfl rfl rfl rfl rfl rfl ?_
      refine ax_iinc (q := 31) (z' := ((k + 1 : Nat) : Int)) (L' := [some (am_I x), some (am_I y), some (am_I ((b : Nat) : Int)), some (am_I ((a % b : Nat) : Int)), some (am_I ((k + 1 : Nat) : Int)), some (am_I ((a % b : Nat) : Int))]) rfl rfl rfl rfl (am_we (by omega) (by omega) (by omega)) rfl ?_
      refine ax_goto (x := 7) rfl ?_
      rw [if_neg (by omega)] at hQ
      exact ih (k + 1) b (a % b) _ (by omega) hb (by have := Nat.mod_le a b; omega) hQ

theorem x_gd {d : Nat} (hd : 1 ≤ d) {σ : am_S} {a b : Nat} (ha : a < 100000) (hb : b < 2 ^ 16) {Q : Option am_V → am_S → Prop} (hQ : Q (some (am_I ((Nat.gcd a b : Nat) : Int))) σ) : am_Ev d 116 [am_I ((a : Nat) : Int), am_I ((b : Nat) : Int)] σ Q := by
  obtain ⟨d, rfl⟩ : ∃ e, d = e + 1 := ⟨d - 1, by omega⟩
  refine ev_in (m := 116) (c := k_X8_greatestDivisor) (L := [some (am_I ((a : Nat) : Int)), some (am_I ((b : Nat) : Int)), none, none, none, none]) rfl rfl rfl rfl rfl rfl ?_
  refine ax_load (q := 1) rfl rfl rfl rfl rfl ?_
  refine ax_store (q := 2) (L' := [some (am_I ((a : Nat) : Int)), some (am_I ((b : Nat) : Int)), some (am_I ((a : Nat) : Int)), none, none, none]) rfl rfl rfl rfl rfl rfl ?_
  refine ax_load (q := 3) rfl rfl rfl rfl rfl ?_
  refine ax_store (q := 4) (L' := [some (am_I ((a : Nat) : Int)), some (am_I ((b : Nat) : Int)), some (am_I ((a : Nat) : Int)), some (am_I ((b : Nat) : Int)), none, none]) rfl rfl rfl rfl rfl rfl ?_
  refine ax_const (q := 5) (v := am_I 0) rfl rfl rfl ?_
  refine ax_store (q := 7) (L' := [some (am_I ((a : Nat) : Int)), some (am_I ((b : Nat) : Int)), some (am_I ((a : Nat) : Int)), some (am_I ((b : Nat) : Int)), some (am_I 0), none]) rfl rfl rfl rfl rfl rfl ?_
  rw [← gdl_eq 16 64 a b hb (by decide)] at hQ
  exact xl_gd 64 0 a b _ (by omega) ha (by omega) hQ

theorem x_part {d : Nat} (hd : 2 ≤ d) {σ : am_S} {a b : Nat} (ha : a < 100000) (hb : b < 2 ^ 16) (hb0 : 0 < b) {k : Int} {Q : Option am_V → am_S → Prop} (hQ : Q (some (am_I (if k = 0 then ((a / Nat.gcd b a : Nat) : Int) else if k = 1 then ((b / Nat.gcd b a : Nat) : Int) else -1))) σ) : am_Ev d 115 [am_I ((a : Nat) : Int), am_I ((b : Nat) : Int), am_I k] σ Q := by
  obtain ⟨d, rfl⟩ : ∃ e, d = e + 1 := ⟨d - 1, by omega⟩
  have hg := Nat.gcd_pos_of_pos_right a hb0
  have hgl := Nat.gcd_le_right a hb0
  have hgc := Nat.gcd_comm a b
  refine ev_in (m := 115) (c := k_X8_partOfLowestTerms) (L := [some (am_I ((a : Nat) : Int)), some (am_I ((b : Nat) : Int)), some (am_I k), none]) rfl rfl rfl rfl rfl rfl ?_
  refine ax_const (q := 1) (v := am_I 1) rfl rfl rfl ?_
  refine ax_load (q := 2) rfl rfl rfl rfl rfl ?_
  refine ax_load (q := 3) rfl rfl rfl rfl rfl ?_
  refine ax_calls (q := 6) rfl rfl rfl rfl rfl ?_
  refine x_gd (by omega) ha hb ?_
  refine ax_max (q := 9) (z := (((Nat.gcd a b) : Nat) : Int)) rfl rfl rfl (by split <;> omega) ?_
  refine ax_store (q := 10) (L' := [some (am_I ((a : Nat) : Int)), some (am_I ((b : Nat) : Int)), some (am_I k), some (am_I (((Nat.gcd a b) : Nat) : Int))]) rfl rfl rfl rfl rfl rfl ?_
  refine ax_load (q := 11) rfl rfl rfl rfl rfl ?_
  refine ax_load (q := 12) rfl rfl rfl rfl rfl ?_
  refine ax_load (q := 13) rfl rfl rfl rfl rfl ?_
  refine ax_idiv (q := 14) (z := ((a / Nat.gcd a b : Nat) : Int)) rfl rfl (by omega) (am_div_nat (by omega) (by omega) (by omega)) ?_
  refine ax_load (q := 15) rfl rfl rfl rfl rfl ?_
  refine ax_load (q := 16) rfl rfl rfl rfl rfl ?_
  refine ax_idiv (q := 17) (z := ((b / Nat.gcd a b : Nat) : Int)) rfl rfl (by omega) (am_div_nat (by omega) (by omega) (by omega)) ?_
  refine ax_calls (q := 20) rfl rfl rfl rfl rfl ?_
  refine x_chosen (by omega) ?_
  rw [hgc]
  refine ax_ret (r := some (am_I (if k = 0 then ((a / Nat.gcd b a : Nat) : Int) else if k = 1 then ((b / Nat.gcd b a : Nat) : Int) else -1))) rfl rfl ?_
  exact hQ

/-- a row u as one will be, of the person p: what the prospect looks at -/
def PR_ (T : sp_T) (v u : sp_V) (p : Nat) (σ : am_S) : Prop :=
  (σ.1 119 4 = (p : Int)) ∧ (∀ s, s < 4 → σ.1 122 s = u (24 + 4 * p + s)) ∧ (u (12 + p) = v (12 + p)) ∧ (u (6 + p) = v (6 + p))
theorem PR_.pe {T : sp_T} {v u : sp_V} {p : Nat} {σ : am_S} (h : PR_ T v u p σ) : σ.1 119 4 = (p : Int) := h.1
theorem PR_.lv {T : sp_T} {v u : sp_V} {p : Nat} {σ : am_S} (h : PR_ T v u p σ) : ∀ s, s < 4 → σ.1 122 s = u (24 + 4 * p + s) := h.2.1
theorem PR_.hw {T : sp_T} {v u : sp_V} {p : Nat} {σ : am_S} (h : PR_ T v u p σ) : u (12 + p) = v (12 + p) := h.2.2.1
theorem PR_.hd {T : sp_T} {v u : sp_V} {p : Nat} {σ : am_S} (h : PR_ T v u p σ) : u (6 + p) = v (6 + p) := h.2.2.2
def kn_ (T : sp_T) (v : sp_V) (p : Nat) : Bool := decide (v (12 + p) = 1) || decide (al_ T (pa_ T p) = 0)

theorem x_knowsIt {d : Nat} (hd : 3 ≤ d) {σ : am_S} {t : Nat} {T : sp_T} {v : sp_V} (hL : PL_ 68 t T v σ) (hV : TV_ T) {u : sp_V} {p : Nat} (hp : p < nP_ T) (hR : PR_ T v u p σ) {Q : Option am_V → am_S → Prop} (hQ : Q (some (am_I (if kn_ T v p then 1 else 0))) σ) : am_Ev d 31 [am_R 119] σ Q := by
  obtain ⟨d, rfl⟩ : ∃ e, d = e + 1 := ⟨d - 1, by omega⟩
  have h6 := hV.nP
  have hO8 := hV.nO
  have hS4 := hV.nS
  have hR3 := hV.nR
  refine ev_in (m := 31) (c := k_X3_knowsIt) (L := [some (am_R 119)]) rfl rfl rfl rfl rfl rfl ?_
  refine ax_load (q := 1) rfl rfl rfl rfl rfl ?_
  refine ax_getf (q := 4) (v := am_R 68) rfl rfl (rfl) ?_
  refine ax_getf (q := 7) (v := am_R 69) rfl rfl (rfl) ?_
  refine ax_const (q := 9) (v := am_I 6) rfl rfl rfl ?_
  refine ax_load (q := 10) rfl rfl rfl rfl rfl ?_
  refine ax_getf (q := 13) (v := am_I ((p : Nat) : Int)) rfl rfl (am_fg rfl hR.pe) ?_
  refine ax_iadd (q := 14) (z := ((6 + p : Nat) : Int)) rfl rfl (am_we (by omega) (by omega) (by omega)) ?_
  refine bx_iald (q := 15) (k := 6 + p) (z := v (12 + p)) rfl rfl (rfl) (by omega) (by omega) (hL.rw.hw _ (by omega)) ?_
  refine ax_const (q := 16) (v := am_I 1) rfl rfl rfl ?_
  refine ax_icmp_eq (q := 19) (x := 36) rfl rfl (fun h16 => ?_) (fun h16 => ?_)
  · refine ax_const (q := 37) (v := am_I 1) rfl rfl rfl ?_
    refine ax_goto (x := 41) rfl ?_
    refine ax_ret (r := some (am_I 1)) rfl ⟨rfl, Or.inr rfl⟩ ?_
    have e : kn_ T v p = true := by unfold kn_; rw [Bool.or_eq_true, decide_eq_true_eq, decide_eq_true_eq]; omega
    rw [e] at hQ
    exact hQ
  · refine ax_load (q := 20) rfl rfl rfl rfl rfl ?_
    refine ax_getf (q := 23) (v := am_R 68) rfl rfl (rfl) ?_
    refine ax_getf (q := 26) (v := am_R t) rfl rfl (am_fgR rfl hL.to) ?_
    refine ax_load (q := 27) rfl rfl rfl rfl rfl ?_
    refine ax_getf (q := 30) (v := am_I ((p : Nat) : Int)) rfl rfl (am_fg rfl hR.pe) ?_
    refine ax_callv (q := 33) rfl rfl rfl rfl rfl (kd_0 hL.ht) ?_
    refine x_allShares (by omega) hL.xt hV hp ?_
    refine ax_if_ne (q := 36) (x := 40) rfl rfl (fun h33 => ?_) (fun h33 => ?_)
    · refine ax_const (q := 41) (v := am_I 0) rfl rfl rfl ?_
      refine ax_ret (r := some (am_I 0)) rfl ⟨rfl, Or.inl rfl⟩ ?_
      have e : kn_ T v p = false := by unfold kn_; rw [decide_eq_false (by omega), decide_eq_false (by omega)]; rfl
      rw [e] at hQ
      exact hQ
    · refine ax_const (q := 37) (v := am_I 1) rfl rfl rfl ?_
      refine ax_goto (x := 41) rfl ?_
      refine ax_ret (r := some (am_I 1)) rfl ⟨rfl, Or.inr rfl⟩ ?_
      have e : kn_ T v p = true := by unfold kn_; rw [Bool.or_eq_true, decide_eq_true_eq, decide_eq_true_eq]; omega
      rw [e] at hQ
      exact hQ

theorem x_knownOrder {d : Nat} (hd : 1 ≤ d) {σ : am_S} {t : Nat} {T : sp_T} {v : sp_V} (hL : PL_ 68 t T v σ) (hV : TV_ T) {u : sp_V} {p : Nat} (hp : p < nP_ T) (hR : PR_ T v u p σ) {Q : Option am_V → am_S → Prop} (hQ : Q (some (am_I (if v (12 + p) = 1 then v (6 + p) else -1))) σ) : am_Ev d 32 [am_R 119] σ Q := by
  obtain ⟨d, rfl⟩ : ∃ e, d = e + 1 := ⟨d - 1, by omega⟩
  have h6 := hV.nP
  have hO8 := hV.nO
  have hS4 := hV.nS
  have hR3 := hV.nR
  refine ev_in (m := 32) (c := k_X3_knownOrder) (L := [some (am_R 119)]) rfl rfl rfl rfl rfl rfl ?_
  refine ax_load (q := 1) rfl rfl rfl rfl rfl ?_
  refine ax_getf (q := 4) (v := am_R 68) rfl rfl (rfl) ?_
  refine ax_getf (q := 7) (v := am_R 69) rfl rfl (rfl) ?_
  refine ax_const (q := 9) (v := am_I 6) rfl rfl rfl ?_
  refine ax_load (q := 10) rfl rfl rfl rfl rfl ?_
  refine ax_getf (q := 13) (v := am_I ((p : Nat) : Int)) rfl rfl (am_fg rfl hR.pe) ?_
  refine ax_iadd (q := 14) (z := ((6 + p : Nat) : Int)) rfl rfl (am_we (by omega) (by omega) (by omega)) ?_
  refine bx_iald (q := 15) (k := 6 + p) (z := v (12 + p)) rfl rfl (rfl) (by omega) (by omega) (hL.rw.hw _ (by omega)) ?_
  refine ax_const (q := 16) (v := am_I 1) rfl rfl rfl ?_
  refine ax_icmp_ne (q := 19) (x := 37) rfl rfl (fun h16 => ?_) (fun h16 => ?_)
  · refine ax_const (q := 38) (v := am_I (-1)) rfl rfl rfl ?_
    refine ax_ret (r := some (am_I (-1))) rfl rfl ?_
    rw [if_neg (by omega)] at hQ
    exact hQ
  · refine ax_load (q := 20) rfl rfl rfl rfl rfl ?_
    refine ax_getf (q := 23) (v := am_R 68) rfl rfl (rfl) ?_
    refine ax_getf (q := 26) (v := am_R 69) rfl rfl (rfl) ?_
    refine ax_const (q := 28) (v := am_I 18) rfl rfl rfl ?_
    refine ax_load (q := 29) rfl rfl rfl rfl rfl ?_
    refine ax_getf (q := 32) (v := am_I ((p : Nat) : Int)) rfl rfl (am_fg rfl hR.pe) ?_
    refine ax_iadd (q := 33) (z := ((18 + p : Nat) : Int)) rfl rfl (am_we (by omega) (by omega) (by omega)) ?_
    refine bx_iald (q := 34) (k := 18 + p) (z := v (6 + p)) rfl rfl (rfl) (by omega) (by omega) (hL.rw.hd _ (by omega)) ?_
    refine ax_goto (x := 38) rfl ?_
    refine ax_ret (r := some (am_I (v (6 + p)))) rfl rfl ?_
    rw [if_pos (by omega)] at hQ
    exact hQ

theorem x_canThen {d : Nat} (hd : 1 ≤ d) {σ : am_S} {t : Nat} {T : sp_T} {v : sp_V} (hL : PL_ 68 t T v σ) (hV : TV_ T) {u : sp_V} {p : Nat} (hp : p < nP_ T) (hR : PR_ T v u p σ) {o : Nat} (ho : o < nO_ T) {Q : Option am_V → am_S → Prop} (hQ : Q (some (am_I (if cn_ T u p o then 1 else 0))) σ) : am_Ev d 33 [am_R 119, am_I ((o : Nat) : Int)] σ Q := by
  obtain ⟨d, rfl⟩ : ∃ e, d = e + 1 := ⟨d - 1, by omega⟩
  have h6 := hV.nP
  have hO8 := hV.nO
  have hS4 := hV.nS
  have hR3 := hV.nR
  have hsk := hV.sk ho
  refine ev_in (m := 33) (c := k_X3_canThen) (L := [some (am_R 119), some (am_I ((o : Nat) : Int))]) rfl rfl rfl rfl rfl rfl ?_
  refine ax_load (q := 1) rfl rfl rfl rfl rfl ?_
  refine ax_getf (q := 4) (v := am_R 122) rfl rfl (rfl) ?_
  refine ax_load (q := 5) rfl rfl rfl rfl rfl ?_
  refine ax_getf (q := 8) (v := am_R 68) rfl rfl (rfl) ?_
  refine ax_getf (q := 11) (v := am_R t) rfl rfl (am_fgR rfl hL.to) ?_
  refine ax_getf (q := 14) (v := am_R (t + 7)) rfl rfl (xg7_2 hL.xt.ht) ?_
  refine ax_const (q := 15) (v := am_I 0) rfl rfl rfl ?_
  refine bx_aald (q := 16) (k := 0) (z := t + 8) rfl rfl (Or.inl (kd_7 hL.xt.ht)) (by omega) (by omega) (by omega) ?_
  refine ax_load (q := 17) rfl rfl rfl rfl rfl ?_
  refine bx_iald (q := 18) (k := o) (z := (((sk_ T o) : Nat) : Int)) rfl rfl (kd_8 hL.xt.ht) (by omega) (by omega) ((hL.xt.ask _ (by omega)).trans (hV.sk (by omega)).1) ?_
  refine bx_iald (q := 19) (k := (sk_ T o)) (z := u (24 + 4 * p + sk_ T o)) rfl rfl (rfl) (by omega) (by omega) (hR.lv _ (by omega)) ?_
  refine ax_load (q := 20) rfl rfl rfl rfl rfl ?_
  refine ax_getf (q := 23) (v := am_R 68) rfl rfl (rfl) ?_
  refine ax_getf (q := 26) (v := am_R t) rfl rfl (am_fgR rfl hL.to) ?_
  refine ax_getf (q := 29) (v := am_R (t + 7)) rfl rfl (xg7_2 hL.xt.ht) ?_
  refine ax_const (q := 30) (v := am_I 1) rfl rfl rfl ?_
  refine bx_aald (q := 31) (k := 1) (z := t + 9) rfl rfl (Or.inl (kd_7 hL.xt.ht)) (by omega) (by omega) (by omega) ?_
  refine ax_load (q := 32) rfl rfl rfl rfl rfl ?_
  refine bx_iald (q := 33) (k := o) (z := T 152 o) rfl rfl (kd_9 hL.xt.ht) (by omega) (by omega) (hL.xt.lvl _ (by omega)) ?_
  refine ax_icmp_lt (q := 36) (x := 40) rfl rfl (fun h33 => ?_) (fun h33 => ?_)
  · refine ax_const (q := 41) (v := am_I 0) rfl rfl rfl ?_
    refine ax_ret (r := some (am_I 0)) rfl ⟨rfl, Or.inl rfl⟩ ?_
    have e : cn_ T u p o = false := decide_eq_false (by omega)
    rw [e] at hQ
    exact hQ
  · refine ax_const (q := 37) (v := am_I 1) rfl rfl rfl ?_
    refine ax_goto (x := 41) rfl ?_
    refine ax_ret (r := some (am_I 1)) rfl ⟨rfl, Or.inr rfl⟩ ?_
    have e : cn_ T u p o = true := decide_eq_true (by omega)
    rw [e] at hQ
    exact hQ

theorem pl_kn {T : sp_T} {v u : sp_V} {p : Nat} (h1 : u (12 + p) = v (12 + p)) : pl_ T u p = if kn_ T v p then 1 else al_ T (pa_ T p) := by
  unfold pl_ ib_ kn_
  rw [h1]
  by_cases q : v (12 + p) = 1
  · simp [q]
  · by_cases w : al_ T (pa_ T p) = 0 <;> simp [q, w]
theorem po_kn {T : sp_T} {v u : sp_V} {p : Nat} (h1 : u (12 + p) = v (12 + p)) (h2 : u (6 + p) = v (6 + p)) : po_ T u p = if kn_ T v p then (if (if v (12 + p) = 1 then v (6 + p) else -1) < 0 then 1 else if cn_ T u p (v (6 + p)).toNat then 1 else 0) else su_ (nO_ T) (fun o => if cn_ T u p o then T 158 (8 * pa_ T p + o) else 0) := by
  unfold po_ ib_ kn_
  rw [h1, h2]
  by_cases q : v (12 + p) = 1
  · simp [q]
  · by_cases w : al_ T (pa_ T p) = 0 <;> simp [q, w]
theorem wo_kn {T : sp_T} {v u : sp_V} {p : Nat} (h1 : u (12 + p) = v (12 + p)) (h2 : u (6 + p) = v (6 + p)) : wo_ T u p = if kn_ T v p then (if (if v (12 + p) = 1 then v (6 + p) else -1) < 0 then 1 else if cn_ T u p (v (6 + p)).toNat then T 155 (v (6 + p)).toNat else 0) else su_ (nO_ T) (fun o => if cn_ T u p o then T 155 o * T 158 (8 * pa_ T p + o) else 0) := by
  unfold wo_ ib_ kn_
  rw [h1, h2]
  by_cases q : v (12 + p) = 1
  · simp [q]
  · by_cases w : al_ T (pa_ T p) = 0 <;> simp [q, w]

theorem x_wholes {d : Nat} (hd : 4 ≤ d) {σ : am_S} {t : Nat} {T : sp_T} {v : sp_V} (hL : PL_ 68 t T v σ) (hV : TV_ T) {u : sp_V} {p : Nat} (hp : p < nP_ T) (hR : PR_ T v u p σ) {Q : Option am_V → am_S → Prop} (hQ : Q (some (am_I (pl_ T u p))) σ) : am_Ev d 34 [am_R 119] σ Q := by
  obtain ⟨d, rfl⟩ : ∃ e, d = e + 1 := ⟨d - 1, by omega⟩
  have h6 := hV.nP
  have hO8 := hV.nO
  have hS4 := hV.nS
  have hR3 := hV.nR
  rw [pl_kn hR.hw] at hQ
  refine ev_in (m := 34) (c := k_X3_wholes) (L := [some (am_R 119)]) rfl rfl rfl rfl rfl rfl ?_
  refine ax_load (q := 1) rfl rfl rfl rfl rfl ?_
  refine ax_callv (q := 4) rfl rfl rfl rfl rfl rfl ?_
  refine x_knowsIt (by omega) hL hV hp hR ?_
  refine ax_if_eq (q := 7) (x := 11) rfl rfl (fun h4 => ?_) (fun h4 => ?_)
  · have hk := it_0 h4
    refine ax_load (q := 12) rfl rfl rfl rfl rfl ?_
    refine ax_getf (q := 15) (v := am_R 68) rfl rfl (rfl) ?_
    refine ax_getf (q := 18) (v := am_R t) rfl rfl (am_fgR rfl hL.to) ?_
    refine ax_load (q := 19) rfl rfl rfl rfl rfl ?_
    refine ax_getf (q := 22) (v := am_I ((p : Nat) : Int)) rfl rfl (am_fg rfl hR.pe) ?_
    refine ax_callv (q := 25) rfl rfl rfl rfl rfl (kd_0 hL.ht) ?_
    refine x_allShares (by omega) hL.xt hV hp ?_
    refine ax_ret (r := some (am_I (al_ T (pa_ T p)))) rfl rfl ?_
    rw [hk] at hQ
    exact hQ
  · have hk := it_n0 h4
    refine ax_const (q := 8) (v := am_I 1) rfl rfl rfl ?_
    refine ax_goto (x := 25) rfl ?_
    refine ax_ret (r := some (am_I 1)) rfl rfl ?_
    rw [hk] at hQ
    exact hQ

theorem xl_parts {d : Nat} (hd : 1 ≤ d) {σ : am_S} {t : Nat} {T : sp_T} {v : sp_V} (hL : PL_ 68 t T v σ) (hV : TV_ T) {u : sp_V} {p : Nat} (hp : p < nP_ T) (hR : PR_ T v u p σ) {b : Int} (hW : VV_ T b v) {Q : Option am_V → am_S → Prop} (hQ : Q (some (am_I (su_ (nO_ T) (fun o => if cn_ T u p o then T 158 (8 * pa_ T p + o) else 0)))) σ) : ∀ (m k : Nat), k + m = nO_ T → aW d 0 k_X3_parts Q 51 [some (am_R 119), some (am_R (t + 16 + (pa_ T p))), some (am_I (su_ k (fun o => if cn_ T u p o then T 158 (8 * pa_ T p + o) else 0))), some (am_I ((k : Nat) : Int))] [] σ := by
  have h6 := hV.nP
  have hO8 := hV.nO
  have hS4 := hV.nS
  have hR3 := hV.nR
  have hpa := hV.pa hp
  intro m
  induction m with
  | zero =>
    intro k hk
    obtain rfl : k = nO_ T := by omega
    refine ax_load (q := 52) rfl rfl rfl rfl rfl ?_
    refine ax_load (q := 53) rfl rfl rfl rfl rfl ?_
    refine ax_getf (q := 56) (v := am_R 68) rfl rfl (rfl) ?_
    refine ax_getf (q := 59) (v := am_R t) rfl rfl (am_fgR rfl hL.to) ?_
    refine ax_getf (q := 62) (v := am_R (t + 1)) rfl rfl (xg7_0 hL.xt.ht) ?_
    refine ax_const (q := 63) (v := am_I 2) rfl rfl rfl ?_
    refine bx_iald (q := 64) (k := 2) (z := (((nO_ T) : Nat) : Int)) rfl rfl (kd_1 hL.xt.ht) (by omega) (by omega) (hL.xt.c2.trans hV.nO.1) ?_
    refine ax_icmp_ge (q := 67) (x := 91) rfl rfl (fun h64 => ?_) (fun h => absurd h (by omega))
    refine ax_load (q := 92) rfl rfl rfl rfl rfl ?_
    refine ax_ret (r := some (am_I (su_ (nO_ T) (fun o => if cn_ T u p o then T 158 (8 * pa_ T p + o) else 0)))) rfl rfl ?_
    exact hQ
  | succ m ih =>
    intro k hk
    have hsb := su_bd (f := fun o => if cn_ T u p o then T 158 (8 * pa_ T p + o) else 0) (b := 9) (by omega) k (fun j hj => by have h1 := hV.od hpa.2.1 (o := j) (by omega); have h2 := hV.wo (o := j) (by omega); have h3 := mul_bd (a := T 155 j) (b := T 158 (8 * pa_ T p + j)) (by omega) h2.2 h1.1 h1.2; split <;> omega)
    have hod := hV.od hpa.2.1 (o := k) (by omega)
    have hwo := hV.wo (o := k) (by omega)
    have hmb := mul_bd (a := T 155 k) (b := T 158 (8 * pa_ T p + k)) (by omega) hwo.2 hod.1 hod.2
    refine ax_load (q := 52) rfl rfl rfl rfl rfl ?_
    refine ax_load (q := 53) rfl rfl rfl rfl rfl ?_
    refine ax_getf (q := 56) (v := am_R 68) rfl rfl (rfl) ?_
    refine ax_getf (q := 59) (v := am_R t) rfl rfl (am_fgR rfl hL.to) ?_
    refine ax_getf (q := 62) (v := am_R (t + 1)) rfl rfl (xg7_0 hL.xt.ht) ?_
    refine ax_const (q := 63) (v := am_I 2) rfl rfl rfl ?_
    refine bx_iald (q := 64) (k := 2) (z := (((nO_ T) : Nat) : Int)) rfl rfl (kd_1 hL.xt.ht) (by omega) (by omega) (hL.xt.c2.trans hV.nO.1) ?_
    refine ax_icmp_ge (q := 67) (x := 91) rfl rfl (fun h => absurd h (by omega)) (fun h64 => ?_)
    refine ax_load (q := 68) rfl rfl rfl rfl rfl ?_
    refine ax_load (q := 69) rfl rfl rfl rfl rfl ?_
    refine ax_load (q := 70) rfl rfl rfl rfl rfl ?_
    refine ax_callv (q := 73) rfl rfl rfl rfl rfl rfl ?_
    refine x_canThen (by omega) hL hV hp hR (by omega) ?_
    refine ax_if_eq (q := 76) (x := 82) rfl rfl (fun h73 => ?_) (fun h73 => ?_)
    · have hc := it_0 h73
      refine ax_const (q := 83) (v := am_I 0) rfl rfl rfl ?_
      refine ax_iadd (q := 84) (z := su_ k (fun o => if cn_ T u p o then T 158 (8 * pa_ T p + o) else 0) + 0) rfl rfl (am_we (by omega) (by omega) (by omega)) ?_
      refine ax_store (q := 85) (L' := [some (am_R 119), some (am_R (t + 16 + (pa_ T p))), some (am_I (su_ k (fun o => if cn_ T u p o then T 158 (8 * pa_ T p + o) else 0) + 0)), some (am_I ((k : Nat) : Int))]) rfl rfl rfl rfl rfl rfl ?_
      refine ax_iinc (q := 88) (z' := ((k + 1 : Nat) : Int)) (L' := [some (am_R 119), some (am_R (t + 16 + (pa_ T p))), some (am_I (su_ k (fun o => if cn_ T u p o then T 158 (8 * pa_ T p + o) else 0) + 0)), some (am_I ((k + 1 : Nat) : Int))]) rfl rfl rfl rfl (am_we (by omega) (by omega) (by omega)) rfl ?_
      refine ax_goto (x := 51) rfl ?_
      have e : su_ (k + 1) (fun o => if cn_ T u p o then T 158 (8 * pa_ T p + o) else 0) = su_ k (fun o => if cn_ T u p o then T 158 (8 * pa_ T p + o) else 0) + 0 := by show su_ k _ + (if cn_ T u p k then T 158 (8 * pa_ T p + k) else 0) = _; rw [hc]; rfl
      have g := ih (k + 1) (by omega)
      rw [e] at g
      exact g
    · have hc := it_n0 h73
      refine ax_load (q := 77) rfl rfl rfl rfl rfl ?_
      refine ax_load (q := 78) rfl rfl rfl rfl rfl ?_
      refine bx_iald (q := 79) (k := k) (z := T 158 (8 * (pa_ T p) + k)) rfl rfl (kd_sh hL.xt.ht (by omega)) (by omega) (by omega) (hL.xt.sha _ _ (by omega) (by omega)) ?_
      refine ax_goto (x := 83) rfl ?_
      refine ax_iadd (q := 84) (z := su_ k (fun o => if cn_ T u p o then T 158 (8 * pa_ T p + o) else 0) + (T 158 (8 * (pa_ T p) + k))) rfl rfl (am_we (by omega) (by omega) (by omega)) ?_
      refine ax_store (q := 85) (L' := [some (am_R 119), some (am_R (t + 16 + (pa_ T p))), some (am_I (su_ k (fun o => if cn_ T u p o then T 158 (8 * pa_ T p + o) else 0) + (T 158 (8 * (pa_ T p) + k)))), some (am_I ((k : Nat) : Int))]) rfl rfl rfl rfl rfl rfl ?_
      refine ax_iinc (q := 88) (z' := ((k + 1 : Nat) : Int)) (L' := [some (am_R 119), some (am_R (t + 16 + (pa_ T p))), some (am_I (su_ k (fun o => if cn_ T u p o then T 158 (8 * pa_ T p + o) else 0) + (T 158 (8 * (pa_ T p) + k)))), some (am_I ((k + 1 : Nat) : Int))]) rfl rfl rfl rfl (am_we (by omega) (by omega) (by omega)) rfl ?_
      refine ax_goto (x := 51) rfl ?_
      have e : su_ (k + 1) (fun o => if cn_ T u p o then T 158 (8 * pa_ T p + o) else 0) = su_ k (fun o => if cn_ T u p o then T 158 (8 * pa_ T p + o) else 0) + (T 158 (8 * (pa_ T p) + k)) := by show su_ k _ + (if cn_ T u p k then T 158 (8 * pa_ T p + k) else 0) = _; rw [hc]; rfl
      have g := ih (k + 1) (by omega)
      rw [e] at g
      exact g

theorem x_parts {d : Nat} (hd : 4 ≤ d) {σ : am_S} {t : Nat} {T : sp_T} {v : sp_V} (hL : PL_ 68 t T v σ) (hV : TV_ T) {u : sp_V} {p : Nat} (hp : p < nP_ T) (hR : PR_ T v u p σ) {b : Int} (hW : VV_ T b v) {Q : Option am_V → am_S → Prop} (hQ : Q (some (am_I (po_ T u p))) σ) : am_Ev d 35 [am_R 119] σ Q := by
  obtain ⟨d, rfl⟩ : ∃ e, d = e + 1 := ⟨d - 1, by omega⟩
  have hw := (hW.2.2 p hp).2.1
  rw [po_kn hR.hw hR.hd] at hQ
  have h6 := hV.nP
  have hO8 := hV.nO
  have hS4 := hV.nS
  have hR3 := hV.nR
  refine ev_in (m := 35) (c := k_X3_parts) (L := [some (am_R 119), none, none, none]) rfl rfl rfl rfl rfl rfl ?_
  refine ax_load (q := 1) rfl rfl rfl rfl rfl ?_
  refine ax_callv (q := 4) rfl rfl rfl rfl rfl rfl ?_
  refine x_knowsIt (by omega) hL hV hp hR ?_
  refine ax_if_eq (q := 7) (x := 32) rfl rfl (fun h4 => ?_) (fun h4 => ?_)
  · have hk := it_0 h4
    refine ax_load (q := 33) rfl rfl rfl rfl rfl ?_
    refine ax_getf (q := 36) (v := am_R 68) rfl rfl (rfl) ?_
    refine ax_getf (q := 39) (v := am_R t) rfl rfl (am_fgR rfl hL.to) ?_
    refine ax_load (q := 40) rfl rfl rfl rfl rfl ?_
    refine ax_getf (q := 43) (v := am_I ((p : Nat) : Int)) rfl rfl (am_fg rfl hR.pe) ?_
    refine ax_callv (q := 46) rfl rfl rfl rfl rfl (kd_0 hL.ht) ?_
    have hpa := hV.pa hp
    refine x_sharesOf (by omega) hL.xt hV hp ?_
    refine ax_store (q := 47) (L' := [some (am_R 119), some (am_R (t + 16 + (pa_ T p))), none, none]) rfl rfl rfl rfl rfl rfl ?_
    refine ax_const (q := 48) (v := am_I 0) rfl rfl rfl ?_
    refine ax_store (q := 49) (L' := [some (am_R 119), some (am_R (t + 16 + (pa_ T p))), some (am_I 0), none]) rfl rfl rfl rfl rfl rfl ?_
    refine ax_const (q := 50) (v := am_I 0) rfl rfl rfl ?_
    refine ax_store (q := 51) (L' := [some (am_R 119), some (am_R (t + 16 + (pa_ T p))), some (am_I 0), some (am_I 0)]) rfl rfl rfl rfl rfl rfl ?_
    rw [if_neg (by rw [hk]; decide)] at hQ
    exact xl_parts (by omega) hL hV hp hR hW hQ (nO_ T) 0 (by omega)
  · have hk := it_n0 h4
    refine ax_load (q := 8) rfl rfl rfl rfl rfl ?_
    refine ax_callv (q := 11) rfl rfl rfl rfl rfl rfl ?_
    refine x_knownOrder (by omega) hL hV hp hR ?_
    refine ax_const (q := 12) (v := am_I (-1)) rfl rfl rfl ?_
    refine ax_icmp_eq (q := 15) (x := 26) rfl rfl (fun h12 => ?_) (fun h12 => ?_)
    · refine ax_const (q := 27) (v := am_I 1) rfl rfl rfl ?_
      refine ax_goto (x := 31) rfl ?_
      refine ax_ret (r := some (am_I 1)) rfl rfl ?_
      rw [if_pos hk] at hQ
      rw [h12] at hQ
      exact hQ
    · refine ax_load (q := 16) rfl rfl rfl rfl rfl ?_
      refine ax_load (q := 17) rfl rfl rfl rfl rfl ?_
      refine ax_callv (q := 20) rfl rfl rfl rfl rfl rfl ?_
      refine x_knownOrder (by omega) hL hV hp hR ?_
      refine ax_callv (q := 23) rfl rfl rfl rfl rfl rfl ?_
      obtain ⟨o, ho, hoO⟩ : ∃ o : Nat, (if v (12 + p) = 1 then v (6 + p) else -1) = (o : Int) ∧ o < nO_ T := ⟨(if v (12 + p) = 1 then v (6 + p) else -1).toNat, by split <;> split at h12 <;> omega, by split <;> split at h12 <;> omega⟩
      rw [ho]
      refine x_canThen (by omega) hL hV hp hR hoO ?_
      refine ax_if_eq (q := 26) (x := 30) rfl rfl (fun h23 => ?_) (fun h23 => ?_)
      · have hc := it_0 h23
        refine ax_const (q := 31) (v := am_I 0) rfl rfl rfl ?_
        refine ax_ret (r := some (am_I 0)) rfl rfl ?_
        rw [if_pos hk] at hQ
        have h1 : v (12 + p) = 1 := by
          by_cases q : v (12 + p) = 1
          · exact q
          · rw [if_neg q] at h12; exact absurd rfl h12
        rw [if_pos h1] at ho hQ
        rw [if_neg (by omega), show (v (6 + p)).toNat = o by omega, hc] at hQ
        exact hQ
      · have hc := it_n0 h23
        refine ax_const (q := 27) (v := am_I 1) rfl rfl rfl ?_
        refine ax_goto (x := 31) rfl ?_
        refine ax_ret (r := some (am_I 1)) rfl rfl ?_
        rw [if_pos hk] at hQ
        have h1 : v (12 + p) = 1 := by
          by_cases q : v (12 + p) = 1
          · exact q
          · rw [if_neg q] at h12; exact absurd rfl h12
        rw [if_pos h1] at ho hQ
        rw [if_neg (by omega), show (v (6 + p)).toNat = o by omega, hc] at hQ
        exact hQ

theorem xl_worths {d : Nat} (hd : 1 ≤ d) {σ : am_S} {t : Nat} {T : sp_T} {v : sp_V} (hL : PL_ 68 t T v σ) (hV : TV_ T) {u : sp_V} {p : Nat} (hp : p < nP_ T) (hR : PR_ T v u p σ) {b : Int} (hW : VV_ T b v) {Q : Option am_V → am_S → Prop} (hQ : Q (some (am_I (su_ (nO_ T) (fun o => if cn_ T u p o then T 155 o * T 158 (8 * pa_ T p + o) else 0)))) σ) : ∀ (m k : Nat), k + m = nO_ T → aW d 0 k_X3_worths Q 64 [some (am_R 119), some (am_R (t + 12)), some (am_R (t + 16 + (pa_ T p))), some (am_I (su_ k (fun o => if cn_ T u p o then T 155 o * T 158 (8 * pa_ T p + o) else 0))), some (am_I ((k : Nat) : Int))] [] σ := by
  have h6 := hV.nP
  have hO8 := hV.nO
  have hS4 := hV.nS
  have hR3 := hV.nR
  have hpa := hV.pa hp
  intro m
  induction m with
  | zero =>
    intro k hk
    obtain rfl : k = nO_ T := by omega
    refine ax_load (q := 66) rfl rfl rfl rfl rfl ?_
    refine ax_load (q := 67) rfl rfl rfl rfl rfl ?_
    refine ax_getf (q := 70) (v := am_R 68) rfl rfl (rfl) ?_
    refine ax_getf (q := 73) (v := am_R t) rfl rfl (am_fgR rfl hL.to) ?_
    refine ax_getf (q := 76) (v := am_R (t + 1)) rfl rfl (xg7_0 hL.xt.ht) ?_
    refine ax_const (q := 77) (v := am_I 2) rfl rfl rfl ?_
    refine bx_iald (q := 78) (k := 2) (z := (((nO_ T) : Nat) : Int)) rfl rfl (kd_1 hL.xt.ht) (by omega) (by omega) (hL.xt.c2.trans hV.nO.1) ?_
    refine ax_icmp_ge (q := 81) (x := 112) rfl rfl (fun h78 => ?_) (fun h => absurd h (by omega))
    refine ax_load (q := 113) rfl rfl rfl rfl rfl ?_
    refine ax_ret (r := some (am_I (su_ (nO_ T) (fun o => if cn_ T u p o then T 155 o * T 158 (8 * pa_ T p + o) else 0)))) rfl rfl ?_
    exact hQ
  | succ m ih =>
    intro k hk
    have hsb := su_bd (f := fun o => if cn_ T u p o then T 155 o * T 158 (8 * pa_ T p + o) else 0) (b := 81) (by omega) k (fun j hj => by have h1 := hV.od hpa.2.1 (o := j) (by omega); have h2 := hV.wo (o := j) (by omega); have h3 := mul_bd (a := T 155 j) (b := T 158 (8 * pa_ T p + j)) (by omega) h2.2 h1.1 h1.2; split <;> omega)
    have hod := hV.od hpa.2.1 (o := k) (by omega)
    have hwo := hV.wo (o := k) (by omega)
    have hmb := mul_bd (a := T 155 k) (b := T 158 (8 * pa_ T p + k)) (by omega) hwo.2 hod.1 hod.2
    refine ax_load (q := 66) rfl rfl rfl rfl rfl ?_
    refine ax_load (q := 67) rfl rfl rfl rfl rfl ?_
    refine ax_getf (q := 70) (v := am_R 68) rfl rfl (rfl) ?_
    refine ax_getf (q := 73) (v := am_R t) rfl rfl (am_fgR rfl hL.to) ?_
    refine ax_getf (q := 76) (v := am_R (t + 1)) rfl rfl (xg7_0 hL.xt.ht) ?_
    refine ax_const (q := 77) (v := am_I 2) rfl rfl rfl ?_
    refine bx_iald (q := 78) (k := 2) (z := (((nO_ T) : Nat) : Int)) rfl rfl (kd_1 hL.xt.ht) (by omega) (by omega) (hL.xt.c2.trans hV.nO.1) ?_
    refine ax_icmp_ge (q := 81) (x := 112) rfl rfl (fun h => absurd h (by omega)) (fun h78 => ?_)
    refine ax_load (q := 82) rfl rfl rfl rfl rfl ?_
    refine ax_load (q := 83) rfl rfl rfl rfl rfl ?_
    refine ax_load (q := 85) rfl rfl rfl rfl rfl ?_
    refine ax_callv (q := 88) rfl rfl rfl rfl rfl rfl ?_
    refine x_canThen (by omega) hL hV hp hR (by omega) ?_
    refine ax_if_eq (q := 91) (x := 103) rfl rfl (fun h88 => ?_) (fun h88 => ?_)
    · have hc := it_0 h88
      refine ax_const (q := 104) (v := am_I 0) rfl rfl rfl ?_
      refine ax_iadd (q := 105) (z := su_ k (fun o => if cn_ T u p o then T 155 o * T 158 (8 * pa_ T p + o) else 0) + 0) rfl rfl (am_we (by omega) (by omega) (by omega)) ?_
      refine ax_store (q := 106) (L' := [some (am_R 119), some (am_R (t + 12)), some (am_R (t + 16 + (pa_ T p))), some (am_I (su_ k (fun o => if cn_ T u p o then T 155 o * T 158 (8 * pa_ T p + o) else 0) + 0)), some (am_I ((k : Nat) : Int))]) rfl rfl rfl rfl rfl rfl ?_
      refine ax_iinc (q := 109) (z' := ((k + 1 : Nat) : Int)) (L' := [some (am_R 119), some (am_R (t + 12)), some (am_R (t + 16 + (pa_ T p))), some (am_I (su_ k (fun o => if cn_ T u p o then T 155 o * T 158 (8 * pa_ T p + o) else 0) + 0)), some (am_I ((k + 1 : Nat) : Int))]) rfl rfl rfl rfl (am_we (by omega) (by omega) (by omega)) rfl ?_
      refine ax_goto (x := 64) rfl ?_
      have e : su_ (k + 1) (fun o => if cn_ T u p o then T 155 o * T 158 (8 * pa_ T p + o) else 0) = su_ k (fun o => if cn_ T u p o then T 155 o * T 158 (8 * pa_ T p + o) else 0) + 0 := by show su_ k _ + (if cn_ T u p k then T 155 k * T 158 (8 * pa_ T p + k) else 0) = _; rw [hc]; rfl
      have g := ih (k + 1) (by omega)
      rw [e] at g
      exact g
    · have hc := it_n0 h88
      refine ax_load (q := 92) rfl rfl rfl rfl rfl ?_
      refine ax_load (q := 94) rfl rfl rfl rfl rfl ?_
      refine bx_iald (q := 95) (k := k) (z := T 158 (8 * (pa_ T p) + k)) rfl rfl (kd_sh hL.xt.ht (by omega)) (by omega) (by omega) (hL.xt.sha _ _ (by omega) (by omega)) ?_
      refine ax_load (q := 96) rfl rfl rfl rfl rfl ?_
      refine ax_load (q := 98) rfl rfl rfl rfl rfl ?_
      refine bx_iald (q := 99) (k := k) (z := T 155 k) rfl rfl (kd_12 hL.xt.ht) (by omega) (by omega) (hL.xt.wor _ (by omega)) ?_
      refine ax_imul (q := 100) (z := T 155 k * T 158 (8 * pa_ T p + k)) rfl rfl (am_we (Int.mul_comm _ _) (by omega) (by omega)) ?_
      refine ax_goto (x := 104) rfl ?_
      refine ax_iadd (q := 105) (z := su_ k (fun o => if cn_ T u p o then T 155 o * T 158 (8 * pa_ T p + o) else 0) + (T 155 k * T 158 (8 * pa_ T p + k))) rfl rfl (am_we (by omega) (by omega) (by omega)) ?_
      refine ax_store (q := 106) (L' := [some (am_R 119), some (am_R (t + 12)), some (am_R (t + 16 + (pa_ T p))), some (am_I (su_ k (fun o => if cn_ T u p o then T 155 o * T 158 (8 * pa_ T p + o) else 0) + (T 155 k * T 158 (8 * pa_ T p + k)))), some (am_I ((k : Nat) : Int))]) rfl rfl rfl rfl rfl rfl ?_
      refine ax_iinc (q := 109) (z' := ((k + 1 : Nat) : Int)) (L' := [some (am_R 119), some (am_R (t + 12)), some (am_R (t + 16 + (pa_ T p))), some (am_I (su_ k (fun o => if cn_ T u p o then T 155 o * T 158 (8 * pa_ T p + o) else 0) + (T 155 k * T 158 (8 * pa_ T p + k)))), some (am_I ((k + 1 : Nat) : Int))]) rfl rfl rfl rfl (am_we (by omega) (by omega) (by omega)) rfl ?_
      refine ax_goto (x := 64) rfl ?_
      have e : su_ (k + 1) (fun o => if cn_ T u p o then T 155 o * T 158 (8 * pa_ T p + o) else 0) = su_ k (fun o => if cn_ T u p o then T 155 o * T 158 (8 * pa_ T p + o) else 0) + (T 155 k * T 158 (8 * pa_ T p + k)) := by show su_ k _ + (if cn_ T u p k then T 155 k * T 158 (8 * pa_ T p + k) else 0) = _; rw [hc]; rfl
      have g := ih (k + 1) (by omega)
      rw [e] at g
      exact g

theorem x_worths {d : Nat} (hd : 5 ≤ d) {σ : am_S} {t : Nat} {T : sp_T} {v : sp_V} (hL : PL_ 68 t T v σ) (hV : TV_ T) {u : sp_V} {p : Nat} (hp : p < nP_ T) (hR : PR_ T v u p σ) {b : Int} (hW : VV_ T b v) {Q : Option am_V → am_S → Prop} (hQ : Q (some (am_I (wo_ T u p))) σ) : am_Ev d 36 [am_R 119] σ Q := by
  obtain ⟨d, rfl⟩ : ∃ e, d = e + 1 := ⟨d - 1, by omega⟩
  have hw := (hW.2.2 p hp).2.1
  rw [wo_kn hR.hw hR.hd] at hQ
  have h6 := hV.nP
  have hO8 := hV.nO
  have hS4 := hV.nS
  have hR3 := hV.nR
  refine ev_in (m := 36) (c := k_X3_worths) (L := [some (am_R 119), none, none, none, none]) rfl rfl rfl rfl rfl rfl ?_
  refine ax_load (q := 1) rfl rfl rfl rfl rfl ?_
  refine ax_getf (q := 4) (v := am_R 68) rfl rfl (rfl) ?_
  refine ax_getf (q := 7) (v := am_R t) rfl rfl (am_fgR rfl hL.to) ?_
  refine ax_getf (q := 10) (v := am_R (t + 7)) rfl rfl (xg7_2 hL.xt.ht) ?_
  refine ax_const (q := 11) (v := am_I 4) rfl rfl rfl ?_
  refine bx_aald (q := 12) (k := 4) (z := t + 12) rfl rfl (Or.inl (kd_7 hL.xt.ht)) (by omega) (by omega) (by omega) ?_
  refine ax_store (q := 13) (L' := [some (am_R 119), some (am_R (t + 12)), none, none, none]) rfl rfl rfl rfl rfl rfl ?_
  refine ax_load (q := 14) rfl rfl rfl rfl rfl ?_
  refine ax_callv (q := 17) rfl rfl rfl rfl rfl rfl ?_
  refine x_knowsIt (by omega) hL hV hp hR ?_
  refine ax_if_eq (q := 20) (x := 44) rfl rfl (fun h17 => ?_) (fun h17 => ?_)
  · have hk := it_0 h17
    refine ax_load (q := 45) rfl rfl rfl rfl rfl ?_
    refine ax_getf (q := 48) (v := am_R 68) rfl rfl (rfl) ?_
    refine ax_getf (q := 51) (v := am_R t) rfl rfl (am_fgR rfl hL.to) ?_
    refine ax_load (q := 52) rfl rfl rfl rfl rfl ?_
    refine ax_getf (q := 55) (v := am_I ((p : Nat) : Int)) rfl rfl (am_fg rfl hR.pe) ?_
    refine ax_callv (q := 58) rfl rfl rfl rfl rfl (kd_0 hL.ht) ?_
    have hpa := hV.pa hp
    refine x_sharesOf (by omega) hL.xt hV hp ?_
    refine ax_store (q := 59) (L' := [some (am_R 119), some (am_R (t + 12)), some (am_R (t + 16 + (pa_ T p))), none, none]) rfl rfl rfl rfl rfl rfl ?_
    refine ax_const (q := 60) (v := am_I 0) rfl rfl rfl ?_
    refine ax_store (q := 61) (L' := [some (am_R 119), some (am_R (t + 12)), some (am_R (t + 16 + (pa_ T p))), some (am_I 0), none]) rfl rfl rfl rfl rfl rfl ?_
    refine ax_const (q := 62) (v := am_I 0) rfl rfl rfl ?_
    refine ax_store (q := 64) (L' := [some (am_R 119), some (am_R (t + 12)), some (am_R (t + 16 + (pa_ T p))), some (am_I 0), some (am_I 0)]) rfl rfl rfl rfl rfl rfl ?_
    rw [if_neg (by rw [hk]; decide)] at hQ
    exact xl_worths (by omega) hL hV hp hR hW hQ (nO_ T) 0 (by omega)
  · have hk := it_n0 h17
    refine ax_load (q := 21) rfl rfl rfl rfl rfl ?_
    refine ax_callv (q := 24) rfl rfl rfl rfl rfl rfl ?_
    refine x_knownOrder (by omega) hL hV hp hR ?_
    refine ax_const (q := 25) (v := am_I (-1)) rfl rfl rfl ?_
    refine ax_icmp_ne (q := 28) (x := 32) rfl rfl (fun h25 => ?_) (fun h25 => ?_)
    · refine ax_load (q := 33) rfl rfl rfl rfl rfl ?_
      refine ax_callv (q := 36) rfl rfl rfl rfl rfl rfl ?_
      refine x_parts (by omega) hL hV hp hR hW ?_
      refine ax_load (q := 37) rfl rfl rfl rfl rfl ?_
      refine ax_load (q := 38) rfl rfl rfl rfl rfl ?_
      refine ax_callv (q := 41) rfl rfl rfl rfl rfl rfl ?_
      refine x_knownOrder (by omega) hL hV hp hR ?_
      have h1 : v (12 + p) = 1 := by
        by_cases q : v (12 + p) = 1
        · exact q
        · rw [if_neg q] at h25; exact absurd rfl h25
      obtain ⟨o, ho, hoO⟩ : ∃ o : Nat, v (6 + p) = (o : Int) ∧ o < nO_ T := ⟨(v (6 + p)).toNat, by rw [if_pos h1] at h25; omega, by rw [if_pos h1] at h25; omega⟩
      have hwo := hV.wo hoO
      rw [if_pos h1, ho]
      refine bx_iald (q := 42) (k := o) (z := T 155 o) rfl rfl (kd_12 hL.xt.ht) (by omega) (by omega) (hL.xt.wor _ (by omega)) ?_
      refine ax_imul (q := 43) (z := if cn_ T u p o then T 155 o else 0) rfl rfl (by rw [po_kn hR.hw hR.hd, if_pos hk, if_pos h1, if_neg (by omega), ho, Int.toNat_natCast]; split <;> exact am_we (by omega) (by omega) (by omega)) ?_
      refine ax_ret (r := some (am_I (if cn_ T u p o then T 155 o else 0))) rfl rfl ?_
      rw [if_pos hk] at hQ
      rw [if_pos h1, if_neg (by omega), ho, Int.toNat_natCast] at hQ
      exact hQ
    · refine ax_const (q := 29) (v := am_I 1) rfl rfl rfl ?_
      refine ax_goto (x := 43) rfl ?_
      refine ax_ret (r := some (am_I 1)) rfl rfl ?_
      rw [if_pos hk] at hQ
      rw [h25] at hQ
      exact hQ

