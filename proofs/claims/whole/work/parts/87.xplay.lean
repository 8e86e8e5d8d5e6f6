theorem an_f {p : Nat → Bool} : ∀ n, an_ n p = false ↔ ∀ u, u < n → p u = false
  | 0 => ⟨fun _ u h => absurd h (by omega), fun _ => rfl⟩
  | n + 1 => by
    show (an_ n p || p n) = false ↔ _
    rw [Bool.or_eq_false_iff, an_f n]
    constructor
    · rintro ⟨h1, h2⟩ u hu
      by_cases q : u = n
      · rw [q]; exact h2
      · exact h1 u (by omega)
    · intro h
      exact ⟨fun u hu => h u (by omega), h n (by omega)⟩
theorem land_0 (f : Nat → Bool) (n d : Nat) : bi_ n f &&& d = 0 ↔ an_ n (fun u => f u && d.testBit u) = false := by
  rw [an_f]
  constructor
  · intro h u hu
    have := congrArg (fun z => z.testBit u) h
    simp only [Nat.testBit_and, bi_tb, Nat.zero_testBit, decide_eq_true hu, Bool.true_and] at this
    exact this
  · intro h
    apply Nat.eq_of_testBit_eq
    intro u
    rw [Nat.testBit_and, bi_tb, Nat.zero_testBit]
    by_cases q : u < n
    · rw [decide_eq_true q, Bool.true_and]; exact h u q
    · rw [decide_eq_false q]; rfl
/-- the ORDERS done by those before k -/
def dn_ (v : sp_V) : Nat → Nat
  | 0 => 0
  | k + 1 => if v (12 + k) = 2 then dn_ v k ||| 2 ^ (v (6 + k)).toNat else dn_ v k
def DN_ (T : sp_T) (v : sp_V) : Prop := (∀ p, p < nP_ T → v (12 + p) = 2 → 0 ≤ v (6 + p)) ∧ v 48 = ((dn_ v (nP_ T) : Nat) : Int)
theorem dn_lt {T : sp_T} {v : sp_V} {b : Int} (hV : TV_ T) (hW : VV_ T b v) (hD : ∀ p, p < nP_ T → v (12 + p) = 2 → 0 ≤ v (6 + p)) : ∀ k, k ≤ nP_ T → dn_ v k < 256
  | 0, _ => by show (0 : Nat) < 256; decide
  | k + 1, h => by
    have ih := dn_lt hV hW hD k (by omega)
    have hO := hV.nO
    show (if v (12 + k) = 2 then dn_ v k ||| 2 ^ (v (6 + k)).toNat else dn_ v k) < 256
    split
    · next q =>
      have h1 := hD k (by omega) q
      have h2 := (hW.2.2 k (by omega)).2.1
      exact Nat.or_lt_two_pow (n := 8) ih (Nat.pow_lt_pow_right (by decide) (by omega))
    · exact ih
/-- can he do it, and none of those done undoes it -/
def wd2_ (T : sp_T) (v : sp_V) (p d : Nat) : Bool := decide (0 ≤ v (6 + p)) && cn_ T v p (v (6 + p)).toNat && !an_ (nO_ T) (fun u => tb_ (T 156 u) (v (6 + p)).toNat && d.testBit u)

theorem x_levelOf {d : Nat} (hd : 1 ≤ d) {σ : am_S} {q t : Nat} {T : sp_T} {v : sp_V} (hL : PL_ q t T v σ) (hV : TV_ T) {p s : Nat} (hp : p < nP_ T) (hs : s < 4) {Q : Option am_V → am_S → Prop} (hQ : Q (some (am_I (v (24 + 4 * p + s)))) σ) : am_Ev d 14 [am_R q, am_I ((p : Nat) : Int), am_I ((s : Nat) : Int)] σ Q := by
  obtain ⟨d, rfl⟩ : ∃ e, d = e + 1 := ⟨d - 1, by omega⟩
  have h6 := hV.nP
  have hO8 := hV.nO
  refine ev_in (m := 14) (c := k_X2_levelOf) (L := [some (am_R q), some (am_I ((p : Nat) : Int)), some (am_I ((s : Nat) : Int))]) rfl rfl rfl rfl rfl rfl ?_
  refine ax_load (q := 1) rfl rfl rfl rfl rfl ?_
  refine ax_getf (q := 4) (v := am_R (q + 1)) rfl rfl (xg2_0 hL.hq) ?_
  refine ax_const (q := 6) (v := am_I 24) rfl rfl rfl ?_
  refine ax_load (q := 7) rfl rfl rfl rfl rfl ?_
  refine ax_const (q := 8) (v := am_I 4) rfl rfl rfl ?_
  refine ax_imul (q := 9) (z := ((p * 4 : Nat) : Int)) rfl rfl (am_we (by omega) (by omega) (by omega)) ?_
  refine ax_iadd (q := 10) (z := ((24 + (p * 4) : Nat) : Int)) rfl rfl (am_we (by omega) (by omega) (by omega)) ?_
  refine ax_load (q := 11) rfl rfl rfl rfl rfl ?_
  refine ax_iadd (q := 12) (z := (((24 + (p * 4)) + s : Nat) : Int)) rfl rfl (am_we (by omega) (by omega) (by omega)) ?_
  refine bx_iald (q := 13) (k := (24 + (p * 4)) + s) (z := v (24 + 4 * p + s)) rfl rfl (kd_q1 hL.hq) (by omega) (by omega) (by rw [Nat.mul_comm p 4]; exact hL.rw.lv p s hp hs) ?_
  refine ax_ret (r := some (am_I (v (24 + 4 * p + s)))) rfl rfl ?_
  exact hQ

theorem x_isOpened {d : Nat} (hd : 1 ≤ d) {σ : am_S} {q t : Nat} {T : sp_T} {v : sp_V} (hL : PL_ q t T v σ) (hV : TV_ T) {p : Nat} (hp : p < nP_ T) {Q : Option am_V → am_S → Prop} (hQ : Q (some (am_I (if sh_ v p then 0 else 1))) σ) : am_Ev d 15 [am_R q, am_I ((p : Nat) : Int)] σ Q := by
  obtain ⟨d, rfl⟩ : ∃ e, d = e + 1 := ⟨d - 1, by omega⟩
  have h6 := hV.nP
  have hO8 := hV.nO
  refine ev_in (m := 15) (c := k_X2_isOpened) (L := [some (am_R q), some (am_I ((p : Nat) : Int))]) rfl rfl rfl rfl rfl rfl ?_
  refine ax_load (q := 1) rfl rfl rfl rfl rfl ?_
  refine ax_getf (q := 4) (v := am_R (q + 1)) rfl rfl (xg2_0 hL.hq) ?_
  refine ax_const (q := 6) (v := am_I 6) rfl rfl rfl ?_
  refine ax_load (q := 7) rfl rfl rfl rfl rfl ?_
  refine ax_iadd (q := 8) (z := ((6 + p : Nat) : Int)) rfl rfl (am_we (by omega) (by omega) (by omega)) ?_
  refine bx_iald (q := 9) (k := 6 + p) (z := v (12 + p)) rfl rfl (kd_q1 hL.hq) (by omega) (by omega) (hL.rw.hw _ (by omega)) ?_
  refine ax_const (q := 10) (v := am_I 2) rfl rfl rfl ?_
  refine ax_icmp_lt (q := 13) (x := 17) rfl rfl (fun h10 => ?_) (fun h10 => ?_)
  · refine ax_const (q := 18) (v := am_I 0) rfl rfl rfl ?_
    refine ax_ret (r := some (am_I 0)) rfl ⟨rfl, Or.inl rfl⟩ ?_
    have e : sh_ v p = true := decide_eq_true (by omega)
    rw [e] at hQ
    exact hQ
  · refine ax_const (q := 14) (v := am_I 1) rfl rfl rfl ?_
    refine ax_goto (x := 18) rfl ?_
    refine ax_ret (r := some (am_I 1)) rfl ⟨rfl, Or.inr rfl⟩ ?_
    have e : sh_ v p = false := decide_eq_false (by omega)
    rw [e] at hQ
    exact hQ

theorem x_canDo {d : Nat} (hd : 2 ≤ d) {σ : am_S} {q t : Nat} {T : sp_T} {v : sp_V} (hL : PL_ q t T v σ) (hV : TV_ T) {p o : Nat} (hp : p < nP_ T) (ho : o < nO_ T) {Q : Option am_V → am_S → Prop} (hQ : Q (some (am_I (if cn_ T v p o then 1 else 0))) σ) : am_Ev d 17 [am_R q, am_I ((p : Nat) : Int), am_I ((o : Nat) : Int)] σ Q := by
  obtain ⟨d, rfl⟩ : ∃ e, d = e + 1 := ⟨d - 1, by omega⟩
  have h6 := hV.nP
  have hO8 := hV.nO
  have hsk := hV.sk ho
  refine ev_in (m := 17) (c := k_X2_canDo) (L := [some (am_R q), some (am_I ((p : Nat) : Int)), some (am_I ((o : Nat) : Int))]) rfl rfl rfl rfl rfl rfl ?_
  refine ax_load (q := 1) rfl rfl rfl rfl rfl ?_
  refine ax_load (q := 2) rfl rfl rfl rfl rfl ?_
  refine ax_load (q := 3) rfl rfl rfl rfl rfl ?_
  refine ax_getf (q := 6) (v := am_R t) rfl rfl (am_fgR (xg2_1 hL.hq) hL.to) ?_
  refine ax_getf (q := 9) (v := am_R (t + 7)) rfl rfl (xg7_2 hL.xt.ht) ?_
  refine ax_const (q := 10) (v := am_I 0) rfl rfl rfl ?_
  refine bx_aald (q := 11) (k := 0) (z := t + 8) rfl rfl (Or.inl (kd_7 hL.xt.ht)) (by omega) (by omega) (by omega) ?_
  refine ax_load (q := 12) rfl rfl rfl rfl rfl ?_
  refine bx_iald (q := 13) (k := o) (z := (((sk_ T o) : Nat) : Int)) rfl rfl (kd_8 hL.xt.ht) (by omega) (by omega) ((hL.xt.ask _ (by omega)).trans (hV.sk (by omega)).1) ?_
  refine ax_callv (q := 16) rfl rfl rfl rfl rfl (kd_q hL.hq) ?_
  refine x_levelOf (by omega) hL hV hp (by omega) ?_
  refine ax_load (q := 17) rfl rfl rfl rfl rfl ?_
  refine ax_getf (q := 20) (v := am_R t) rfl rfl (am_fgR (xg2_1 hL.hq) hL.to) ?_
  refine ax_getf (q := 23) (v := am_R (t + 7)) rfl rfl (xg7_2 hL.xt.ht) ?_
  refine ax_const (q := 24) (v := am_I 1) rfl rfl rfl ?_
  refine bx_aald (q := 25) (k := 1) (z := t + 9) rfl rfl (Or.inl (kd_7 hL.xt.ht)) (by omega) (by omega) (by omega) ?_
  refine ax_load (q := 26) rfl rfl rfl rfl rfl ?_
  refine bx_iald (q := 27) (k := o) (z := T 152 o) rfl rfl (kd_9 hL.xt.ht) (by omega) (by omega) (hL.xt.lvl _ (by omega)) ?_
  refine ax_icmp_lt (q := 30) (x := 34) rfl rfl (fun h27 => ?_) (fun h27 => ?_)
  · refine ax_const (q := 35) (v := am_I 0) rfl rfl rfl ?_
    refine ax_ret (r := some (am_I 0)) rfl ⟨rfl, Or.inl rfl⟩ ?_
    have e : cn_ T v p o = false := decide_eq_false (by omega)
    rw [e] at hQ
    exact hQ
  · refine ax_const (q := 31) (v := am_I 1) rfl rfl rfl ?_
    refine ax_goto (x := 35) rfl ?_
    refine ax_ret (r := some (am_I 1)) rfl ⟨rfl, Or.inr rfl⟩ ?_
    have e : cn_ T v p o = true := decide_eq_true (by omega)
    rw [e] at hQ
    exact hQ

theorem nt_n0 {b : Bool} (h : ¬ (if b then (0 : Int) else 1) = 0) : b = false := by cases b <;> simp_all
theorem nt_0 {b : Bool} (h : (if b then (0 : Int) else 1) = 0) : b = true := by cases b <;> simp_all

theorem xl_ordersFor {d : Nat} (hd : 2 ≤ d) {σ : am_S} {q t : Nat} {T : sp_T} {v : sp_V} (hL : PL_ q t T v σ) (hV : TV_ T) {p : Nat} (hp : p < nP_ T) {Q : Option am_V → am_S → Prop} (hQ : Q (some (am_I ((bi_ (nO_ T) (cn_ T v p) : Nat) : Int))) σ) : ∀ (m k : Nat), k + m = nO_ T → aW d 0 k_X2_ordersFor Q 4 [some (am_R q), some (am_I ((p : Nat) : Int)), some (am_I (((bi_ k (cn_ T v p)) : Nat) : Int)), some (am_I ((k : Nat) : Int))] [] σ := by
  have h6 := hV.nP
  have hO8 := hV.nO
  intro m
  induction m with
  | zero =>
    intro k hk
    obtain rfl : k = nO_ T := by omega
    refine ax_load (q := 5) rfl rfl rfl rfl rfl ?_
    refine ax_load (q := 6) rfl rfl rfl rfl rfl ?_
    refine ax_getf (q := 9) (v := am_R t) rfl rfl (am_fgR (xg2_1 hL.hq) hL.to) ?_
    refine ax_getf (q := 12) (v := am_R (t + 1)) rfl rfl (xg7_0 hL.xt.ht) ?_
    refine ax_const (q := 13) (v := am_I 2) rfl rfl rfl ?_
    refine bx_iald (q := 14) (k := 2) (z := (((nO_ T) : Nat) : Int)) rfl rfl (kd_1 hL.xt.ht) (by omega) (by omega) (hL.xt.c2.trans hV.nO.1) ?_
    refine ax_icmp_ge (q := 17) (x := 38) rfl rfl (fun h14 => ?_) (fun h => absurd h (by omega))
    refine ax_load (q := 39) rfl rfl rfl rfl rfl ?_
    refine ax_ret (r := some (am_I (((bi_ (nO_ T) (cn_ T v p)) : Nat) : Int))) rfl rfl ?_
    exact hQ
  | succ m ih =>
    intro k hk
    have hbl := bi_lt (cn_ T v p) k
    have hp2 : 2 ^ k < 2 ^ 8 := Nat.pow_lt_pow_right (by decide) (by omega)
    refine ax_load (q := 5) rfl rfl rfl rfl rfl ?_
    refine ax_load (q := 6) rfl rfl rfl rfl rfl ?_
    refine ax_getf (q := 9) (v := am_R t) rfl rfl (am_fgR (xg2_1 hL.hq) hL.to) ?_
    refine ax_getf (q := 12) (v := am_R (t + 1)) rfl rfl (xg7_0 hL.xt.ht) ?_
    refine ax_const (q := 13) (v := am_I 2) rfl rfl rfl ?_
    refine bx_iald (q := 14) (k := 2) (z := (((nO_ T) : Nat) : Int)) rfl rfl (kd_1 hL.xt.ht) (by omega) (by omega) (hL.xt.c2.trans hV.nO.1) ?_
    refine ax_icmp_ge (q := 17) (x := 38) rfl rfl (fun h => absurd h (by omega)) (fun h14 => ?_)
    refine ax_load (q := 18) rfl rfl rfl rfl rfl ?_
    refine ax_load (q := 19) rfl rfl rfl rfl rfl ?_
    refine ax_load (q := 20) rfl rfl rfl rfl rfl ?_
    refine ax_callv (q := 23) rfl rfl rfl rfl rfl (kd_q hL.hq) ?_
    refine x_canDo (by omega) hL hV hp (by omega) ?_
    refine ax_if_eq (q := 26) (x := 32) rfl rfl (fun h23 => ?_) (fun h23 => ?_)
    · have hb := it_0 h23
      refine ax_iinc (q := 35) (z' := ((k + 1 : Nat) : Int)) (L' := [some (am_R q), some (am_I ((p : Nat) : Int)), some (am_I (((bi_ k (cn_ T v p)) : Nat) : Int)), some (am_I ((k + 1 : Nat) : Int))]) rfl rfl rfl rfl (am_we (by omega) (by omega) (by omega)) rfl ?_
      refine ax_goto (x := 4) rfl ?_
      have e : bi_ (k + 1) (cn_ T v p) = bi_ k (cn_ T v p) := by show _ + (if _ then _ else 0) = _; rw [if_neg (by rw [hb]; decide)]; rfl
      have g := ih (k + 1) (by omega)
      rw [e] at g
      exact g
    · have hb := it_n0 h23
      refine ax_load (q := 27) rfl rfl rfl rfl rfl ?_
      refine ax_const (q := 28) (v := am_I 1) rfl rfl rfl ?_
      refine ax_load (q := 29) rfl rfl rfl rfl rfl ?_
      refine ax_ishl (q := 30) (z := ((2 ^ k : Nat) : Int)) rfl rfl (am_shl1 k (by omega)) ?_
      refine ax_ior (q := 31) (z := (((bi_ k (cn_ T v p)) + 2 ^ k : Nat) : Int)) rfl rfl (am_or_bit hbl (by omega)) ?_
      refine ax_store (q := 32) (L' := [some (am_R q), some (am_I ((p : Nat) : Int)), some (am_I (((bi_ k (cn_ T v p)) + 2 ^ k : Nat) : Int)), some (am_I ((k : Nat) : Int))]) rfl rfl rfl rfl rfl rfl ?_
      refine ax_iinc (q := 35) (z' := ((k + 1 : Nat) : Int)) (L' := [some (am_R q), some (am_I ((p : Nat) : Int)), some (am_I (((bi_ k (cn_ T v p)) + 2 ^ k : Nat) : Int)), some (am_I ((k + 1 : Nat) : Int))]) rfl rfl rfl rfl (am_we (by omega) (by omega) (by omega)) rfl ?_
      refine ax_goto (x := 4) rfl ?_
      have e : bi_ (k + 1) (cn_ T v p) = bi_ k (cn_ T v p) + 2 ^ k := by show _ + (if _ then _ else 0) = _; rw [if_pos hb]
      have g := ih (k + 1) (by omega)
      rw [e] at g
      exact g

theorem x_ordersFor {d : Nat} (hd : 3 ≤ d) {σ : am_S} {q t : Nat} {T : sp_T} {v : sp_V} (hL : PL_ q t T v σ) (hV : TV_ T) {p : Nat} (hp : p < nP_ T) {Q : Option am_V → am_S → Prop} (hQ : Q (some (am_I ((cs_ T v p : Nat) : Int))) σ) : am_Ev d 18 [am_R q, am_I ((p : Nat) : Int)] σ Q := by
  obtain ⟨d, rfl⟩ : ∃ e, d = e + 1 := ⟨d - 1, by omega⟩
  refine ev_in (m := 18) (c := k_X2_ordersFor) (L := [some (am_R q), some (am_I ((p : Nat) : Int)), none, none]) rfl rfl rfl rfl rfl rfl ?_
  refine ax_const (q := 1) (v := am_I 0) rfl rfl rfl ?_
  refine ax_store (q := 2) (L' := [some (am_R q), some (am_I ((p : Nat) : Int)), some (am_I 0), none]) rfl rfl rfl rfl rfl rfl ?_
  refine ax_const (q := 3) (v := am_I 0) rfl rfl rfl ?_
  refine ax_store (q := 4) (L' := [some (am_R q), some (am_I ((p : Nat) : Int)), some (am_I 0), some (am_I 0)]) rfl rfl rfl rfl rfl rfl ?_
  exact xl_ordersFor (by omega) hL hV hp hQ (nO_ T) 0 (by omega)

theorem xl_unopened {d : Nat} (hd : 2 ≤ d) {σ : am_S} {q t : Nat} {T : sp_T} {v : sp_V} (hL : PL_ q t T v σ) (hV : TV_ T) {Q : Option am_V → am_S → Prop} (hQ : Q (some (am_I ((bi_ (nP_ T) (sh_ v) : Nat) : Int))) σ) : ∀ (m k : Nat), k + m = nP_ T → aW d 0 k_X2_unopened Q 4 [some (am_R q), some (am_I (((bi_ k (sh_ v)) : Nat) : Int)), some (am_I ((k : Nat) : Int))] [] σ := by
  have h6 := hV.nP
  have hO8 := hV.nO
  intro m
  induction m with
  | zero =>
    intro k hk
    obtain rfl : k = nP_ T := by omega
    refine ax_load (q := 5) rfl rfl rfl rfl rfl ?_
    refine ax_load (q := 6) rfl rfl rfl rfl rfl ?_
    refine ax_getf (q := 9) (v := am_R t) rfl rfl (am_fgR (xg2_1 hL.hq) hL.to) ?_
    refine ax_getf (q := 12) (v := am_R (t + 1)) rfl rfl (xg7_0 hL.xt.ht) ?_
    refine ax_const (q := 13) (v := am_I 0) rfl rfl rfl ?_
    refine bx_iald (q := 14) (k := 0) (z := (((nP_ T) : Nat) : Int)) rfl rfl (kd_1 hL.xt.ht) (by omega) (by omega) (hL.xt.c0.trans hV.nP.1) ?_
    refine ax_icmp_ge (q := 17) (x := 37) rfl rfl (fun h14 => ?_) (fun h => absurd h (by omega))
    refine ax_load (q := 38) rfl rfl rfl rfl rfl ?_
    refine ax_ret (r := some (am_I (((bi_ (nP_ T) (sh_ v)) : Nat) : Int))) rfl rfl ?_
    exact hQ
  | succ m ih =>
    intro k hk
    have hbl := bi_lt (sh_ v) k
    have hp2 : 2 ^ k < 2 ^ 8 := Nat.pow_lt_pow_right (by decide) (by omega)
    refine ax_load (q := 5) rfl rfl rfl rfl rfl ?_
    refine ax_load (q := 6) rfl rfl rfl rfl rfl ?_
    refine ax_getf (q := 9) (v := am_R t) rfl rfl (am_fgR (xg2_1 hL.hq) hL.to) ?_
    refine ax_getf (q := 12) (v := am_R (t + 1)) rfl rfl (xg7_0 hL.xt.ht) ?_
    refine ax_const (q := 13) (v := am_I 0) rfl rfl rfl ?_
    refine bx_iald (q := 14) (k := 0) (z := (((nP_ T) : Nat) : Int)) rfl rfl (kd_1 hL.xt.ht) (by omega) (by omega) (hL.xt.c0.trans hV.nP.1) ?_
    refine ax_icmp_ge (q := 17) (x := 37) rfl rfl (fun h => absurd h (by omega)) (fun h14 => ?_)
    refine ax_load (q := 18) rfl rfl rfl rfl rfl ?_
    refine ax_load (q := 19) rfl rfl rfl rfl rfl ?_
    refine ax_callv (q := 22) rfl rfl rfl rfl rfl (kd_q hL.hq) ?_
    refine x_isOpened (by omega) hL hV (by omega) ?_
    refine ax_if_ne (q := 25) (x := 31) rfl rfl (fun h22 => ?_) (fun h22 => ?_)
    · have hb := nt_n0 h22
      refine ax_iinc (q := 34) (z' := ((k + 1 : Nat) : Int)) (L' := [some (am_R q), some (am_I (((bi_ k (sh_ v)) : Nat) : Int)), some (am_I ((k + 1 : Nat) : Int))]) rfl rfl rfl rfl (am_we (by omega) (by omega) (by omega)) rfl ?_
      refine ax_goto (x := 4) rfl ?_
      have e : bi_ (k + 1) (sh_ v) = bi_ k (sh_ v) := by show _ + (if _ then _ else 0) = _; rw [if_neg (by rw [hb]; decide)]; rfl
      have g := ih (k + 1) (by omega)
      rw [e] at g
      exact g
    · have hb := nt_0 h22
      refine ax_load (q := 26) rfl rfl rfl rfl rfl ?_
      refine ax_const (q := 27) (v := am_I 1) rfl rfl rfl ?_
      refine ax_load (q := 28) rfl rfl rfl rfl rfl ?_
      refine ax_ishl (q := 29) (z := ((2 ^ k : Nat) : Int)) rfl rfl (am_shl1 k (by omega)) ?_
      refine ax_ior (q := 30) (z := (((bi_ k (sh_ v)) + 2 ^ k : Nat) : Int)) rfl rfl (am_or_bit hbl (by omega)) ?_
      refine ax_store (q := 31) (L' := [some (am_R q), some (am_I (((bi_ k (sh_ v)) + 2 ^ k : Nat) : Int)), some (am_I ((k : Nat) : Int))]) rfl rfl rfl rfl rfl rfl ?_
      refine ax_iinc (q := 34) (z' := ((k + 1 : Nat) : Int)) (L' := [some (am_R q), some (am_I (((bi_ k (sh_ v)) + 2 ^ k : Nat) : Int)), some (am_I ((k + 1 : Nat) : Int))]) rfl rfl rfl rfl (am_we (by omega) (by omega) (by omega)) rfl ?_
      refine ax_goto (x := 4) rfl ?_
      have e : bi_ (k + 1) (sh_ v) = bi_ k (sh_ v) + 2 ^ k := by show _ + (if _ then _ else 0) = _; rw [if_pos hb]
      have g := ih (k + 1) (by omega)
      rw [e] at g
      exact g

theorem x_unopened {d : Nat} (hd : 3 ≤ d) {σ : am_S} {q t : Nat} {T : sp_T} {v : sp_V} (hL : PL_ q t T v σ) (hV : TV_ T) {Q : Option am_V → am_S → Prop} (hQ : Q (some (am_I ((bi_ (nP_ T) (sh_ v) : Nat) : Int))) σ) : am_Ev d 16 [am_R q] σ Q := by
  obtain ⟨d, rfl⟩ : ∃ e, d = e + 1 := ⟨d - 1, by omega⟩
  refine ev_in (m := 16) (c := k_X2_unopened) (L := [some (am_R q), none, none]) rfl rfl rfl rfl rfl rfl ?_
  refine ax_const (q := 1) (v := am_I 0) rfl rfl rfl ?_
  refine ax_store (q := 2) (L' := [some (am_R q), some (am_I 0), none]) rfl rfl rfl rfl rfl rfl ?_
  refine ax_const (q := 3) (v := am_I 0) rfl rfl rfl ?_
  refine ax_store (q := 4) (L' := [some (am_R q), some (am_I 0), some (am_I 0)]) rfl rfl rfl rfl rfl rfl ?_
  exact xl_unopened (by omega) hL hV hQ (nP_ T) 0 (by omega)

theorem xl_countOf {d : Nat} {σ : am_S} {q t : Nat} {T : sp_T} {v : sp_V} (hL : PL_ q t T v σ) (hV : TV_ T) {h : Int} {Q : Option am_V → am_S → Prop} (hQ : Q (some (am_I ((mo_ T v h : Nat) : Int))) σ) : ∀ (m k : Nat), k + m = nP_ T → aW d 0 k_X2_countOf Q 4 [some (am_R q), some (am_I h), some (am_I (((ct_ k (fun p => decide (v (12 + p) = h))) : Nat) : Int)), some (am_I ((k : Nat) : Int))] [] σ := by
  have h6 := hV.nP
  have hO8 := hV.nO
  intro m
  induction m with
  | zero =>
    intro k hk
    obtain rfl : k = nP_ T := by omega
    refine ax_load (q := 5) rfl rfl rfl rfl rfl ?_
    refine ax_load (q := 6) rfl rfl rfl rfl rfl ?_
    refine ax_getf (q := 9) (v := am_R t) rfl rfl (am_fgR (xg2_1 hL.hq) hL.to) ?_
    refine ax_getf (q := 12) (v := am_R (t + 1)) rfl rfl (xg7_0 hL.xt.ht) ?_
    refine ax_const (q := 13) (v := am_I 0) rfl rfl rfl ?_
    refine bx_iald (q := 14) (k := 0) (z := (((nP_ T) : Nat) : Int)) rfl rfl (kd_1 hL.xt.ht) (by omega) (by omega) (hL.xt.c0.trans hV.nP.1) ?_
    refine ax_icmp_ge (q := 17) (x := 39) rfl rfl (fun h14 => ?_) (fun h => absurd h (by omega))
    refine ax_load (q := 40) rfl rfl rfl rfl rfl ?_
    refine ax_ret (r := some (am_I (((ct_ (nP_ T) (fun p => decide (v (12 + p) = h))) : Nat) : Int))) rfl rfl ?_
    exact hQ
  | succ m ih =>
    intro k hk
    have hcl := ct_le (fun p => decide (v (12 + p) = h)) k
    refine ax_load (q := 5) rfl rfl rfl rfl rfl ?_
    refine ax_load (q := 6) rfl rfl rfl rfl rfl ?_
    refine ax_getf (q := 9) (v := am_R t) rfl rfl (am_fgR (xg2_1 hL.hq) hL.to) ?_
    refine ax_getf (q := 12) (v := am_R (t + 1)) rfl rfl (xg7_0 hL.xt.ht) ?_
    refine ax_const (q := 13) (v := am_I 0) rfl rfl rfl ?_
    refine bx_iald (q := 14) (k := 0) (z := (((nP_ T) : Nat) : Int)) rfl rfl (kd_1 hL.xt.ht) (by omega) (by omega) (hL.xt.c0.trans hV.nP.1) ?_
    refine ax_icmp_ge (q := 17) (x := 39) rfl rfl (fun h => absurd h (by omega)) (fun h14 => ?_)
    refine ax_load (q := 18) rfl rfl rfl rfl rfl ?_
    refine ax_getf (q := 21) (v := am_R (q + 1)) rfl rfl (xg2_0 hL.hq) ?_
    refine ax_const (q := 23) (v := am_I 6) rfl rfl rfl ?_
    refine ax_load (q := 24) rfl rfl rfl rfl rfl ?_
    refine ax_iadd (q := 25) (z := ((6 + k : Nat) : Int)) rfl rfl (am_we (by omega) (by omega) (by omega)) ?_
    refine bx_iald (q := 26) (k := 6 + k) (z := v (12 + k)) rfl rfl (kd_q1 hL.hq) (by omega) (by omega) (hL.rw.hw _ (by omega)) ?_
    refine ax_load (q := 27) rfl rfl rfl rfl rfl ?_
    refine ax_icmp_ne (q := 30) (x := 33) rfl rfl (fun h27 => ?_) (fun h27 => ?_)
    · refine ax_iinc (q := 36) (z' := ((k + 1 : Nat) : Int)) (L' := [some (am_R q), some (am_I h), some (am_I (((ct_ k (fun p => decide (v (12 + p) = h))) : Nat) : Int)), some (am_I ((k + 1 : Nat) : Int))]) rfl rfl rfl rfl (am_we (by omega) (by omega) (by omega)) rfl ?_
      refine ax_goto (x := 4) rfl ?_
      have e : ct_ (k + 1) (fun p => decide (v (12 + p) = h)) = ct_ k (fun p => decide (v (12 + p) = h)) := by show _ + (if _ then 1 else 0) = _; rw [if_neg (by show ¬ decide (v (12 + k) = h) = true; rw [decide_eq_false (by omega)]; decide)]; rfl
      have g := ih (k + 1) (by omega)
      rw [e] at g
      exact g
    · refine ax_iinc (q := 33) (z' := ((((ct_ k (fun p => decide (v (12 + p) = h)))) + 1 : Nat) : Int)) (L' := [some (am_R q), some (am_I h), some (am_I ((((ct_ k (fun p => decide (v (12 + p) = h)))) + 1 : Nat) : Int)), some (am_I ((k : Nat) : Int))]) rfl rfl rfl rfl (am_we (by omega) (by omega) (by omega)) rfl ?_
      refine ax_iinc (q := 36) (z' := ((k + 1 : Nat) : Int)) (L' := [some (am_R q), some (am_I h), some (am_I ((((ct_ k (fun p => decide (v (12 + p) = h)))) + 1 : Nat) : Int)), some (am_I ((k + 1 : Nat) : Int))]) rfl rfl rfl rfl (am_we (by omega) (by omega) (by omega)) rfl ?_
      refine ax_goto (x := 4) rfl ?_
      have e : ct_ (k + 1) (fun p => decide (v (12 + p) = h)) = ct_ k (fun p => decide (v (12 + p) = h)) + 1 := by show _ + (if _ then 1 else 0) = _; rw [if_pos (decide_eq_true (by omega))]
      have g := ih (k + 1) (by omega)
      rw [e] at g
      exact g

theorem x_countOf {d : Nat} (hd : 1 ≤ d) {σ : am_S} {q t : Nat} {T : sp_T} {v : sp_V} (hL : PL_ q t T v σ) (hV : TV_ T) {h : Int} {Q : Option am_V → am_S → Prop} (hQ : Q (some (am_I ((mo_ T v h : Nat) : Int))) σ) : am_Ev d 19 [am_R q, am_I h] σ Q := by
  obtain ⟨d, rfl⟩ : ∃ e, d = e + 1 := ⟨d - 1, by omega⟩
  refine ev_in (m := 19) (c := k_X2_countOf) (L := [some (am_R q), some (am_I h), none, none]) rfl rfl rfl rfl rfl rfl ?_
  refine ax_const (q := 1) (v := am_I 0) rfl rfl rfl ?_
  refine ax_store (q := 2) (L' := [some (am_R q), some (am_I h), some (am_I 0), none]) rfl rfl rfl rfl rfl rfl ?_
  refine ax_const (q := 3) (v := am_I 0) rfl rfl rfl ?_
  refine ax_store (q := 4) (L' := [some (am_R q), some (am_I h), some (am_I 0), some (am_I 0)]) rfl rfl rfl rfl rfl rfl ?_
  exact xl_countOf hL hV hQ (nP_ T) 0 (by omega)

theorem xl_doneOrders {d : Nat} {σ : am_S} {q t : Nat} {T : sp_T} {v : sp_V} (hL : PL_ q t T v σ) (hV : TV_ T) {b : Int} (hW : VV_ T b v) (hD : DN_ T v) {Q : Option am_V → am_S → Prop} (hQ : Q (some (am_I ((dn_ v (nP_ T) : Nat) : Int))) σ) : ∀ (m k : Nat), k + m = nP_ T → aW d 0 k_X2_doneOrders Q 4 [some (am_R q), some (am_I (((dn_ v k) : Nat) : Int)), some (am_I ((k : Nat) : Int))] [] σ := by
  have h6 := hV.nP
  have hO8 := hV.nO
  intro m
  induction m with
  | zero =>
    intro k hk
    obtain rfl : k = nP_ T := by omega
    refine ax_load (q := 5) rfl rfl rfl rfl rfl ?_
    refine ax_load (q := 6) rfl rfl rfl rfl rfl ?_
    refine ax_getf (q := 9) (v := am_R t) rfl rfl (am_fgR (xg2_1 hL.hq) hL.to) ?_
    refine ax_getf (q := 12) (v := am_R (t + 1)) rfl rfl (xg7_0 hL.xt.ht) ?_
    refine ax_const (q := 13) (v := am_I 0) rfl rfl rfl ?_
    refine bx_iald (q := 14) (k := 0) (z := (((nP_ T) : Nat) : Int)) rfl rfl (kd_1 hL.xt.ht) (by omega) (by omega) (hL.xt.c0.trans hV.nP.1) ?_
    refine ax_icmp_ge (q := 17) (x := 50) rfl rfl (fun h14 => ?_) (fun h => absurd h (by omega))
    refine ax_load (q := 51) rfl rfl rfl rfl rfl ?_
    refine ax_ret (r := some (am_I (((dn_ v (nP_ T)) : Nat) : Int))) rfl rfl ?_
    exact hQ
  | succ m ih =>
    intro k hk
    have hlt := dn_lt hV hW hD.1 k (by omega)
    have hw := (hW.2.2 k (by omega)).2.1
    refine ax_load (q := 5) rfl rfl rfl rfl rfl ?_
    refine ax_load (q := 6) rfl rfl rfl rfl rfl ?_
    refine ax_getf (q := 9) (v := am_R t) rfl rfl (am_fgR (xg2_1 hL.hq) hL.to) ?_
    refine ax_getf (q := 12) (v := am_R (t + 1)) rfl rfl (xg7_0 hL.xt.ht) ?_
    refine ax_const (q := 13) (v := am_I 0) rfl rfl rfl ?_
    refine bx_iald (q := 14) (k := 0) (z := (((nP_ T) : Nat) : Int)) rfl rfl (kd_1 hL.xt.ht) (by omega) (by omega) (hL.xt.c0.trans hV.nP.1) ?_
    refine ax_icmp_ge (q := 17) (x := 50) rfl rfl (fun h => absurd h (by omega)) (fun h14 => ?_)
    refine ax_load (q := 18) rfl rfl rfl rfl rfl ?_
    refine ax_getf (q := 21) (v := am_R (q + 1)) rfl rfl (xg2_0 hL.hq) ?_
    refine ax_const (q := 23) (v := am_I 6) rfl rfl rfl ?_
    refine ax_load (q := 24) rfl rfl rfl rfl rfl ?_
    refine ax_iadd (q := 25) (z := ((6 + k : Nat) : Int)) rfl rfl (am_we (by omega) (by omega) (by omega)) ?_
    refine bx_iald (q := 26) (k := 6 + k) (z := v (12 + k)) rfl rfl (kd_q1 hL.hq) (by omega) (by omega) (hL.rw.hw _ (by omega)) ?_
    refine ax_const (q := 27) (v := am_I 2) rfl rfl rfl ?_
    refine ax_icmp_ne (q := 30) (x := 44) rfl rfl (fun h27 => ?_) (fun h27 => ?_)
    · refine ax_iinc (q := 47) (z' := ((k + 1 : Nat) : Int)) (L' := [some (am_R q), some (am_I (((dn_ v k) : Nat) : Int)), some (am_I ((k + 1 : Nat) : Int))]) rfl rfl rfl rfl (am_we (by omega) (by omega) (by omega)) rfl ?_
      refine ax_goto (x := 4) rfl ?_
      have e : dn_ v (k + 1) = dn_ v k := if_neg (by omega)
      have g := ih (k + 1) (by omega)
      rw [e] at g
      exact g
    · refine ax_load (q := 31) rfl rfl rfl rfl rfl ?_
      refine ax_const (q := 32) (v := am_I 1) rfl rfl rfl ?_
      refine ax_load (q := 33) rfl rfl rfl rfl rfl ?_
      refine ax_getf (q := 36) (v := am_R (q + 1)) rfl rfl (xg2_0 hL.hq) ?_
      refine ax_const (q := 38) (v := am_I 18) rfl rfl rfl ?_
      refine ax_load (q := 39) rfl rfl rfl rfl rfl ?_
      refine ax_iadd (q := 40) (z := ((18 + k : Nat) : Int)) rfl rfl (am_we (by omega) (by omega) (by omega)) ?_
      refine bx_iald (q := 41) (k := 18 + k) (z := (((v (6 + k)).toNat : Nat) : Int)) rfl rfl (kd_q1 hL.hq) (by omega) (by omega) ((hL.rw.hd _ (by omega)).trans (by have := hD.1 k (by omega) (by omega); omega)) ?_
      refine ax_ishl (q := 42) (z := ((2 ^ (v (6 + k)).toNat : Nat) : Int)) rfl rfl (am_shl1 _ (by omega)) ?_
      refine ax_ior (q := 43) (z := ((dn_ v k ||| 2 ^ (v (6 + k)).toNat : Nat) : Int)) rfl rfl (am_or_nat (by omega) (Nat.pow_lt_pow_right (by decide) (by omega))) ?_
      refine ax_store (q := 44) (L' := [some (am_R q), some (am_I ((dn_ v k ||| 2 ^ (v (6 + k)).toNat : Nat) : Int)), some (am_I ((k : Nat) : Int))]) rfl rfl rfl rfl rfl rfl ?_
      refine ax_iinc (q := 47) (z' := ((k + 1 : Nat) : Int)) (L' := [some (am_R q), some (am_I ((dn_ v k ||| 2 ^ (v (6 + k)).toNat : Nat) : Int)), some (am_I ((k + 1 : Nat) : Int))]) rfl rfl rfl rfl (am_we (by omega) (by omega) (by omega)) rfl ?_
      refine ax_goto (x := 4) rfl ?_
      have e : dn_ v (k + 1) = dn_ v k ||| 2 ^ (v (6 + k)).toNat := if_pos (by omega)
      have g := ih (k + 1) (by omega)
      rw [e] at g
      exact g

theorem x_doneOrders {d : Nat} (hd : 1 ≤ d) {σ : am_S} {q t : Nat} {T : sp_T} {v : sp_V} (hL : PL_ q t T v σ) (hV : TV_ T) {b : Int} (hW : VV_ T b v) (hD : DN_ T v) {Q : Option am_V → am_S → Prop} (hQ : Q (some (am_I (v 48))) σ) : am_Ev d 20 [am_R q] σ Q := by
  obtain ⟨d, rfl⟩ : ∃ e, d = e + 1 := ⟨d - 1, by omega⟩
  refine ev_in (m := 20) (c := k_X2_doneOrders) (L := [some (am_R q), none, none]) rfl rfl rfl rfl rfl rfl ?_
  refine ax_const (q := 1) (v := am_I 0) rfl rfl rfl ?_
  refine ax_store (q := 2) (L' := [some (am_R q), some (am_I 0), none]) rfl rfl rfl rfl rfl rfl ?_
  refine ax_const (q := 3) (v := am_I 0) rfl rfl rfl ?_
  refine ax_store (q := 4) (L' := [some (am_R q), some (am_I 0), some (am_I 0)]) rfl rfl rfl rfl rfl rfl ?_
  rw [hD.2] at hQ
  exact xl_doneOrders hL hV hW hD hQ (nP_ T) 0 (by omega)

theorem x_wouldDo {d : Nat} (hd : 3 ≤ d) {σ : am_S} {q t : Nat} {T : sp_T} {v : sp_V} (hL : PL_ q t T v σ) (hV : TV_ T) {b : Int} (hW : VV_ T b v) {p dd : Nat} (hp : p < nP_ T) (hd8 : dd < 256) {Q : Option am_V → am_S → Prop} (hQ : Q (some (am_I (if wd2_ T v p dd then 1 else 0))) σ) : am_Ev d 21 [am_R q, am_I ((p : Nat) : Int), am_I ((dd : Nat) : Int)] σ Q := by
  obtain ⟨d, rfl⟩ : ∃ e, d = e + 1 := ⟨d - 1, by omega⟩
  have h6 := hV.nP
  have hO8 := hV.nO
  have hw := (hW.2.2 p hp).2.1
  have hh : v (6 + p) = -1 ∨ ∃ o : Nat, v (6 + p) = (o : Int) ∧ o < nO_ T := by
    by_cases q : v (6 + p) < 0
    · exact Or.inl (by omega)
    · exact Or.inr ⟨(v (6 + p)).toNat, by omega, by omega⟩
  refine ev_in (m := 21) (c := k_X2_wouldDo) (L := [some (am_R q), some (am_I ((p : Nat) : Int)), some (am_I ((dd : Nat) : Int)), none]) rfl rfl rfl rfl rfl rfl ?_
  rcases hh with hh | ⟨o, ho, hon⟩
  · refine ax_load (q := 1) rfl rfl rfl rfl rfl ?_
    refine ax_getf (q := 4) (v := am_R (q + 1)) rfl rfl (xg2_0 hL.hq) ?_
    refine ax_const (q := 6) (v := am_I 18) rfl rfl rfl ?_
    refine ax_load (q := 7) rfl rfl rfl rfl rfl ?_
    refine ax_iadd (q := 8) (z := ((18 + p : Nat) : Int)) rfl rfl (am_we (by omega) (by omega) (by omega)) ?_
    refine bx_iald (q := 9) (k := 18 + p) (z := (-1)) rfl rfl (kd_q1 hL.hq) (by omega) (by omega) ((hL.rw.hd _ hp).trans hh) ?_
    refine ax_store (q := 10) (L' := [some (am_R q), some (am_I ((p : Nat) : Int)), some (am_I ((dd : Nat) : Int)), some (am_I (-1))]) rfl rfl rfl rfl rfl rfl ?_
    refine ax_load (q := 11) rfl rfl rfl rfl rfl ?_
    refine ax_const (q := 12) (v := am_I (-1)) rfl rfl rfl ?_
    refine ax_icmp_eq (q := 15) (x := 42) rfl rfl (fun h12 => ?_) (fun h => absurd h (by decide))
    refine ax_const (q := 43) (v := am_I 0) rfl rfl rfl ?_
    refine ax_ret (r := some (am_I 0)) rfl ⟨rfl, Or.inl rfl⟩ ?_
    have e : wd2_ T v p dd = false := by unfold wd2_; rw [hh]; rfl
    rw [e] at hQ
    exact hQ
  · have hbl := bi_lt (fun u => tb_ (T 156 u) o) (nO_ T)
    have h28 : 2 ^ nO_ T ≤ 2 ^ 8 := Nat.pow_le_pow_right (by decide) (by omega)
    refine ax_load (q := 1) rfl rfl rfl rfl rfl ?_
    refine ax_getf (q := 4) (v := am_R (q + 1)) rfl rfl (xg2_0 hL.hq) ?_
    refine ax_const (q := 6) (v := am_I 18) rfl rfl rfl ?_
    refine ax_load (q := 7) rfl rfl rfl rfl rfl ?_
    refine ax_iadd (q := 8) (z := ((18 + p : Nat) : Int)) rfl rfl (am_we (by omega) (by omega) (by omega)) ?_
    refine bx_iald (q := 9) (k := 18 + p) (z := ((o : Nat) : Int)) rfl rfl (kd_q1 hL.hq) (by omega) (by omega) ((hL.rw.hd _ hp).trans ho) ?_
    refine ax_store (q := 10) (L' := [some (am_R q), some (am_I ((p : Nat) : Int)), some (am_I ((dd : Nat) : Int)), some (am_I ((o : Nat) : Int))]) rfl rfl rfl rfl rfl rfl ?_
    refine ax_load (q := 11) rfl rfl rfl rfl rfl ?_
    refine ax_const (q := 12) (v := am_I (-1)) rfl rfl rfl ?_
    refine ax_icmp_eq (q := 15) (x := 42) rfl rfl (fun h => absurd h (by omega)) (fun h12 => ?_)
    refine ax_load (q := 16) rfl rfl rfl rfl rfl ?_
    refine ax_load (q := 17) rfl rfl rfl rfl rfl ?_
    refine ax_load (q := 18) rfl rfl rfl rfl rfl ?_
    refine ax_callv (q := 21) rfl rfl rfl rfl rfl (kd_q hL.hq) ?_
    refine x_canDo (by omega) hL hV hp hon ?_
    refine ax_if_eq (q := 24) (x := 42) rfl rfl (fun h21 => ?_) (fun h21 => ?_)
    · have hb := it_0 h21
      refine ax_const (q := 43) (v := am_I 0) rfl rfl rfl ?_
      refine ax_ret (r := some (am_I 0)) rfl ⟨rfl, Or.inl rfl⟩ ?_
      have e : wd2_ T v p dd = false := by unfold wd2_; rw [ho]; simp only [Int.toNat_natCast, hb]; simp
      rw [e] at hQ
      exact hQ
    · have hb := it_n0 h21
      refine ax_load (q := 25) rfl rfl rfl rfl rfl ?_
      refine ax_getf (q := 28) (v := am_R t) rfl rfl (am_fgR (xg2_1 hL.hq) hL.to) ?_
      refine ax_getf (q := 31) (v := am_R (t + 14)) rfl rfl (xg7_4 hL.xt.ht) ?_
      refine ax_load (q := 32) rfl rfl rfl rfl rfl ?_
      refine bx_iald (q := 33) (k := o) (z := (((bi_ (nO_ T) (fun u => tb_ (T 156 u) o)) : Nat) : Int)) rfl rfl (kd_14 hL.xt.ht) (by omega) (by omega) (hL.xt.unr _ (by omega)) ?_
      refine ax_load (q := 34) rfl rfl rfl rfl rfl ?_
      refine ax_iand (q := 35) (z := (((bi_ (nO_ T) (fun u => tb_ (T 156 u) o)) &&& dd : Nat) : Int)) rfl rfl (am_and_nat (by omega) (by omega)) ?_
      refine ax_if_ne (q := 38) (x := 42) rfl rfl (fun h35 => ?_) (fun h35 => ?_)
      · refine ax_const (q := 43) (v := am_I 0) rfl rfl rfl ?_
        refine ax_ret (r := some (am_I 0)) rfl ⟨rfl, Or.inl rfl⟩ ?_
        have e : wd2_ T v p dd = false := by unfold wd2_; rw [ho]; have e2 : ¬ _ := fun w => h35 (by have := (land_0 (fun u => tb_ (T 156 u) o) (nO_ T) dd).mpr w; omega); simp only [Int.toNat_natCast, hb]; simp only [Bool.not_eq_false] at e2; rw [e2]; simp
        rw [e] at hQ
        exact hQ
      · refine ax_const (q := 39) (v := am_I 1) rfl rfl rfl ?_
        refine ax_goto (x := 43) rfl ?_
        refine ax_ret (r := some (am_I 1)) rfl ⟨rfl, Or.inr rfl⟩ ?_
        have e : wd2_ T v p dd = true := by unfold wd2_; rw [ho]; have e2 := (land_0 (fun u => tb_ (T 156 u) o) (nO_ T) dd).mp (by omega); simp only [Int.toNat_natCast, hb, e2]; simp
        rw [e] at hQ
        exact hQ

theorem x_levelNext {d : Nat} (hd : 3 ≤ d) {σ : am_S} {q t : Nat} {T : sp_T} {v : sp_V} (hL : PL_ q t T v σ) (hV : TV_ T) {p s : Nat} (hp : p < nP_ T) (hs : s < 4) {l : Int} (hl : 0 ≤ l ∧ l ≤ 20) {g : Nat} {b : Int} (hW : VV_ T b v) (hb9 : b < 1000000) (hg9 : g < 1000000) {Q : Option am_V → am_S → Prop} (hQ : ∀ σ', fr_ [t + 31] σ σ' → Q (some (am_I (lv_n T l (v p + (g : Int)) (v 49 + (g : Int)) s))) σ') : am_Ev d 25 [am_R q, am_I ((p : Nat) : Int), am_I ((s : Nat) : Int), am_I l, am_I ((g : Nat) : Int)] σ Q := by
  obtain ⟨d, rfl⟩ : ∃ e, d = e + 1 := ⟨d - 1, by omega⟩
  have h6 := hV.nP
  have hO8 := hV.nO
  have hw := (hW.2.2 p hp).1
  have hy := hW.1
  refine ev_in (m := 25) (c := k_X2_levelNext) (L := [some (am_R q), some (am_I ((p : Nat) : Int)), some (am_I ((s : Nat) : Int)), some (am_I l), some (am_I ((g : Nat) : Int)), none]) rfl rfl rfl rfl rfl rfl ?_
  refine ax_load (q := 1) rfl rfl rfl rfl rfl ?_
  refine ax_getf (q := 4) (v := am_R t) rfl rfl (am_fgR (xg2_1 hL.hq) hL.to) ?_
  refine ax_getf (q := 7) (v := am_R (t + 28)) rfl rfl (xg7_9 hL.xt.ht) ?_
  refine ax_load (q := 8) rfl rfl rfl rfl rfl ?_
  refine ax_load (q := 9) rfl rfl rfl rfl rfl ?_
  refine ax_getf (q := 12) (v := am_R (q + 1)) rfl rfl (xg2_0 hL.hq) ?_
  refine ax_const (q := 13) (v := am_I 0) rfl rfl rfl ?_
  refine ax_load (q := 14) rfl rfl rfl rfl rfl ?_
  refine ax_iadd (q := 15) (z := ((0 + p : Nat) : Int)) rfl rfl (am_we (by omega) (by omega) (by omega)) ?_
  refine bx_iald (q := 16) (k := 0 + p) (z := v p) rfl rfl (kd_q1 hL.hq) (by omega) (by omega) ((by rw [Nat.zero_add]; exact hL.rw.ag _ (by omega))) ?_
  refine ax_load (q := 18) rfl rfl rfl rfl rfl ?_
  refine ax_iadd (q := 19) (z := v p + ((g : Nat) : Int)) rfl rfl (am_we (by omega) (by omega) (by omega)) ?_
  refine ax_load (q := 20) rfl rfl rfl rfl rfl ?_
  refine ax_getf (q := 23) (v := am_R (q + 1)) rfl rfl (xg2_0 hL.hq) ?_
  refine ax_const (q := 25) (v := am_I 48) rfl rfl rfl ?_
  refine bx_iald (q := 26) (k := 48) (z := v 49) rfl rfl (kd_q1 hL.hq) (by omega) (by omega) (hL.rw.yr) ?_
  refine ax_load (q := 28) rfl rfl rfl rfl rfl ?_
  refine ax_iadd (q := 29) (z := v 49 + ((g : Nat) : Int)) rfl rfl (am_we (by omega) (by omega) (by omega)) ?_
  refine ax_load (q := 30) rfl rfl rfl rfl rfl ?_
  refine ax_callv (q := 33) rfl rfl rfl rfl rfl (kd_28 hL.ht) ?_
  have hgn := gn_bd T (ak_ l (v p + ((g : Nat) : Int)) (v 49 + ((g : Nat) : Int)) ((s : Nat) : Int))
  refine x_gain (by omega) hL.xt hV (fun σ1 hf1 => ?_)
  refine ax_store (q := 35) (L' := [some (am_R q), some (am_I ((p : Nat) : Int)), some (am_I ((s : Nat) : Int)), some (am_I l), some (am_I ((g : Nat) : Int)), some (am_I (gn_ T (ak_ l (v p + ((g : Nat) : Int)) (v 49 + ((g : Nat) : Int)) ((s : Nat) : Int))))]) rfl rfl rfl rfl rfl rfl ?_
  refine ax_const (q := 37) (v := am_I 20) rfl rfl rfl ?_
  refine ax_load (q := 38) rfl rfl rfl rfl rfl ?_
  refine ax_load (q := 40) rfl rfl rfl rfl rfl ?_
  refine ax_iadd (q := 41) (z := l + (gn_ T (ak_ l (v p + ((g : Nat) : Int)) (v 49 + ((g : Nat) : Int)) ((s : Nat) : Int)))) rfl rfl (am_we (by omega) (by omega) (by omega)) ?_
  refine ax_min (q := 44) (z := if l + (gn_ T (ak_ l (v p + ((g : Nat) : Int)) (v 49 + ((g : Nat) : Int)) ((s : Nat) : Int))) < 20 then l + (gn_ T (ak_ l (v p + ((g : Nat) : Int)) (v 49 + ((g : Nat) : Int)) ((s : Nat) : Int))) else 20) rfl rfl rfl (rfl) ?_
  refine ax_ret (r := some (am_I (if l + (gn_ T (ak_ l (v p + ((g : Nat) : Int)) (v 49 + ((g : Nat) : Int)) ((s : Nat) : Int))) < 20 then l + (gn_ T (ak_ l (v p + ((g : Nat) : Int)) (v 49 + ((g : Nat) : Int)) ((s : Nat) : Int))) else 20))) rfl rfl ?_
  have e : lv_n T l (v p + (g : Int)) (v 49 + (g : Int)) s = if l + (gn_ T (ak_ l (v p + ((g : Nat) : Int)) (v 49 + ((g : Nat) : Int)) ((s : Nat) : Int))) < 20 then l + (gn_ T (ak_ l (v p + ((g : Nat) : Int)) (v 49 + ((g : Nat) : Int)) ((s : Nat) : Int))) else 20 := by unfold lv_n; split <;> split <;> omega
  rw [← e]
  exact hQ _ hf1

theorem x_yearsTillOpened {d : Nat} (hd : 1 ≤ d) {σ : am_S} {q t : Nat} {T : sp_T} {v : sp_V} (hL : PL_ q t T v σ) (hV : TV_ T) {p : Nat} (hp : p < nP_ T) {b : Int} (hW : VV_ T b v) (hb9 : b < 1000000) {Q : Option am_V → am_S → Prop} (hQ : Q (some (am_I ((yf_ T v p : Nat) : Int))) σ) : am_Ev d 27 [am_R q, am_I ((p : Nat) : Int)] σ Q := by
  obtain ⟨d, rfl⟩ : ∃ e, d = e + 1 := ⟨d - 1, by omega⟩
  have h6 := hV.nP
  have hO8 := hV.nO
  have hw := (hW.2.2 p hp).1
  have hoa := hV.oa
  refine ev_in (m := 27) (c := k_X2_yearsTillOpened) (L := [some (am_R q), some (am_I ((p : Nat) : Int))]) rfl rfl rfl rfl rfl rfl ?_
  refine ax_const (q := 1) (v := am_I 1) rfl rfl rfl ?_
  refine ax_load (q := 2) rfl rfl rfl rfl rfl ?_
  refine ax_getf (q := 5) (v := am_R t) rfl rfl (am_fgR (xg2_1 hL.hq) hL.to) ?_
  refine ax_getf (q := 8) (v := am_I (T 135 55)) rfl rfl (am_fg (xg7_10 hL.xt.ht) hL.xt.opa) ?_
  refine ax_load (q := 9) rfl rfl rfl rfl rfl ?_
  refine ax_getf (q := 12) (v := am_R (q + 1)) rfl rfl (xg2_0 hL.hq) ?_
  refine ax_const (q := 13) (v := am_I 0) rfl rfl rfl ?_
  refine ax_load (q := 14) rfl rfl rfl rfl rfl ?_
  refine ax_iadd (q := 15) (z := ((0 + p : Nat) : Int)) rfl rfl (am_we (by omega) (by omega) (by omega)) ?_
  refine bx_iald (q := 16) (k := 0 + p) (z := v p) rfl rfl (kd_q1 hL.hq) (by omega) (by omega) ((by rw [Nat.zero_add]; exact hL.rw.ag _ (by omega))) ?_
  refine ax_isub (q := 17) (z := T 135 55 - (v p)) rfl rfl (am_we (by omega) (by omega) (by omega)) ?_
  refine ax_max (q := 20) (z := if 1 < T 135 55 - (v p) then T 135 55 - (v p) else 1) rfl rfl rfl (rfl) ?_
  refine ax_ret (r := some (am_I (if 1 < T 135 55 - (v p) then T 135 55 - (v p) else 1))) rfl rfl ?_
  have e : ((yf_ T v p : Nat) : Int) = if 1 < T 135 55 - (v p) then T 135 55 - (v p) else 1 := by unfold yf_; split <;> omega
  rw [← e]
  exact hQ

theorem x_worthOfN {d : Nat} (hd : 3 ≤ d) {σ : am_S} {q t : Nat} {T : sp_T} {v : sp_V} (hL : PL_ q t T v σ) (hV : TV_ T) {p : Nat} (hp : p < nP_ T) {Q : Option am_V → am_S → Prop} (hQ : Q (some (am_I 1)) σ) : am_Ev d 29 [am_R q, am_I ((p : Nat) : Int), am_I (-1)] σ Q := by
  obtain ⟨d, rfl⟩ : ∃ e, d = e + 1 := ⟨d - 1, by omega⟩
  have h6 := hV.nP
  have hO8 := hV.nO
  refine ev_in (m := 29) (c := k_X2_worthOf) (L := [some (am_R q), some (am_I ((p : Nat) : Int)), some (am_I (-1))]) rfl rfl rfl rfl rfl rfl ?_
  refine ax_load (q := 1) rfl rfl rfl rfl rfl ?_
  refine ax_const (q := 2) (v := am_I (-1)) rfl rfl rfl ?_
  refine ax_icmp_ne (q := 5) (x := 7) rfl rfl (fun h => absurd rfl h) (fun h2 => ?_)
  refine ax_const (q := 6) (v := am_I 1) rfl rfl rfl ?_
  refine ax_ret (r := some (am_I 1)) rfl rfl ?_
  exact hQ

theorem x_worthOfY {d : Nat} (hd : 3 ≤ d) {σ : am_S} {q t : Nat} {T : sp_T} {v : sp_V} (hL : PL_ q t T v σ) (hV : TV_ T) {p : Nat} (hp : p < nP_ T) {o : Nat} (ho : o < nO_ T) {Q : Option am_V → am_S → Prop} (hQ : Q (some (am_I (if cn_ T v p o then T 155 o else 0))) σ) : am_Ev d 29 [am_R q, am_I ((p : Nat) : Int), am_I ((o : Nat) : Int)] σ Q := by
  obtain ⟨d, rfl⟩ : ∃ e, d = e + 1 := ⟨d - 1, by omega⟩
  have h6 := hV.nP
  have hO8 := hV.nO
  refine ev_in (m := 29) (c := k_X2_worthOf) (L := [some (am_R q), some (am_I ((p : Nat) : Int)), some (am_I ((o : Nat) : Int))]) rfl rfl rfl rfl rfl rfl ?_
  refine ax_load (q := 1) rfl rfl rfl rfl rfl ?_
  refine ax_const (q := 2) (v := am_I (-1)) rfl rfl rfl ?_
  refine ax_icmp_ne (q := 5) (x := 7) rfl rfl (fun h2 => ?_) (fun h => absurd h (by omega))
  refine ax_load (q := 8) rfl rfl rfl rfl rfl ?_
  refine ax_load (q := 9) rfl rfl rfl rfl rfl ?_
  refine ax_load (q := 10) rfl rfl rfl rfl rfl ?_
  refine ax_callv (q := 13) rfl rfl rfl rfl rfl (kd_q hL.hq) ?_
  refine x_canDo (by omega) hL hV hp ho ?_
  refine ax_if_eq (q := 16) (x := 30) rfl rfl (fun h13 => ?_) (fun h13 => ?_)
  · have hb := it_0 h13
    refine ax_const (q := 31) (v := am_I 0) rfl rfl rfl ?_
    refine ax_ret (r := some (am_I 0)) rfl rfl ?_
    rw [hb] at hQ
    exact hQ
  · have hb := it_n0 h13
    refine ax_load (q := 17) rfl rfl rfl rfl rfl ?_
    refine ax_getf (q := 20) (v := am_R t) rfl rfl (am_fgR (xg2_1 hL.hq) hL.to) ?_
    refine ax_getf (q := 23) (v := am_R (t + 7)) rfl rfl (xg7_2 hL.xt.ht) ?_
    refine ax_const (q := 24) (v := am_I 4) rfl rfl rfl ?_
    refine bx_aald (q := 25) (k := 4) (z := t + 12) rfl rfl (Or.inl (kd_7 hL.xt.ht)) (by omega) (by omega) (by omega) ?_
    refine ax_load (q := 26) rfl rfl rfl rfl rfl ?_
    refine bx_iald (q := 27) (k := o) (z := T 155 o) rfl rfl (kd_12 hL.xt.ht) (by omega) (by omega) (hL.xt.wor _ (by omega)) ?_
    refine ax_goto (x := 31) rfl ?_
    refine ax_ret (r := some (am_I (T 155 o))) rfl rfl ?_
    rw [hb] at hQ
    exact hQ

