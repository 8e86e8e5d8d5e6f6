/-! the signs told of a letter; boxes -/
/-- the signs: G tells the six rows, n how many stand -/
def SG_ (G : Nat → Nat → Int) (n : Nat) (σ : am_S) : Prop := σ.1 135 77 = (n : Int) ∧ n ≤ 30 ∧ (σ.1 170 = G 0 ∧ σ.1 171 = G 1 ∧ σ.1 172 = G 2 ∧ σ.1 173 = G 3 ∧ σ.1 174 = G 4 ∧ σ.1 175 = G 5) ∧ ∀ j, j < n → (0 ≤ G 1 j ∧ G 1 j ≤ 2) ∧ (G 5 j = 0 ∨ G 5 j = 1)
def mk_ (T : sp_T) (o : Nat) (z : Int) : Int := if z = 0 then T 153 o else if z = 1 then T 154 o else (sk_ T o : Int)
def me_ (T : sp_T) (G : Nat → Nat → Int) (p o : Nat) (t : Int) (j : Nat) : Bool := !(decide (G 0 j = (p : Int)) && (decide (G 3 j ≤ t) && (decide (G 4 j < 0) || decide (t < G 4 j)))) || (decide (mk_ T o (G 1 j) = G 2 j) == decide (G 5 j = 1))
def im_ (T : sp_T) (G : Nat → Nat → Int) (p o : Nat) (t : Int) : Nat → Bool
  | 0 => decide (0 < T 158 (8 * pa_ T p + o))
  | j + 1 => im_ T G p o t j && me_ T G p o t j
theorem im_f {T : sp_T} {G : Nat → Nat → Int} {p o : Nat} {t : Int} {k : Nat} (h : im_ T G p o t k = false) : ∀ m, im_ T G p o t (k + m) = false
  | 0 => h
  | m + 1 => by
    show (im_ T G p o t (k + m) && _) = false
    rw [im_f h m, Bool.false_and]
def ms_ (T : sp_T) (G : Nat → Nat → Int) (n p : Nat) (t : Int) : Nat := bi_ (nO_ T) (fun o => im_ T G p o t n)
def F_meant (T : sp_T) (G : Nat → Nat → Int) (n : Nat) (a t : Int) : Int := if inr_ (nP_ T) a then (ms_ T G n a.toNat t : Int) else -1
/-- the likeliest so far: the ORDER, its chances -/
def lk_ (T : sp_T) (G : Nat → Nat → Int) (n p : Nat) (t : Int) : Nat → Int × Int
  | 0 => (-1, 0)
  | o + 1 => if im_ T G p o t n && decide ((lk_ T G n p t o).2 < T 158 (8 * pa_ T p + o)) then ((o : Int), T 158 (8 * pa_ T p + o)) else lk_ T G n p t o
def F_likely (T : sp_T) (G : Nat → Nat → Int) (n : Nat) (a t : Int) : Int := if inr_ (nP_ T) a then (lk_ T G n a.toNat t (nO_ T)).1 else -1
def cm_ (T : sp_T) (s : Nat) (z : Int) (v : Nat) : Nat := ct_ (nO_ T) (fun o => s.testBit o && decide (mk_ T o z = (v : Int)))
def ml_ (T : sp_T) (s : Nat) (z : Int) : Nat → Nat
  | 0 => 0
  | v + 1 => if ml_ T s z v < cm_ T s z v then cm_ T s z v else ml_ T s z v
theorem ml_le (T : sp_T) (s : Nat) (z : Int) : ∀ v, ml_ T s z v ≤ nO_ T
  | 0 => Nat.zero_le _
  | v + 1 => by
    have := ml_le T s z v
    have h2 : cm_ T s z v ≤ nO_ T := ct_le _ _
    unfold ml_
    split
    · exact h2
    · exact this
def ab_ (T : sp_T) (s : Nat) : Nat := if ml_ T s 2 10 < ml_ T s (if ml_ T s 1 10 < ml_ T s 0 10 then 1 else 0) 10 then 2 else if ml_ T s 1 10 < ml_ T s 0 10 then 1 else 0
def F_ask (T : sp_T) (G : Nat → Nat → Int) (n : Nat) (a k t : Int) : Int := if decide (0 ≤ k ∧ k ≤ 1) && decide (0 < F_meant T G n a t) then (if k = 0 then (ab_ T (ms_ T G n a.toNat t) : Int) else (ml_ T (ms_ T G n a.toNat t) (ab_ T (ms_ T G n a.toNat t) : Int) 10 : Int)) else -1

theorem m_lies {d : Nat} (hd : 2 ≤ d) {σ : am_S} {l : Nat} (hl : σ.1 135 68 = (l : Int)) (hl6 : l ≤ 6) {a : Int} {Q : Option am_V → am_S → Prop} (hQ : ∀ σ', fr_ [] σ σ' → Q (some (am_I (if inr_ l a then σ.1 167 a.toNat else -2))) σ') : am_Ev d 248 [am_R 135, am_I a] σ Q := by
  obtain ⟨d, rfl⟩ : ∃ e, d = e + 1 := ⟨d - 1, by omega⟩
  refine ev_in (m := 248) (c := k_X9_lies) (L := [some (am_R 135), some (am_I a)]) rfl rfl rfl rfl rfl rfl ?_
  refine ax_load (q := 1) rfl rfl rfl rfl rfl ?_
  refine ax_const (q := 2) (v := am_I 0) rfl rfl rfl ?_
  refine ax_load (q := 3) rfl rfl rfl rfl rfl ?_
  refine ax_getf (q := 6) (v := am_I ((l : Nat) : Int)) rfl rfl (am_fg rfl hl) ?_
  refine ax_const (q := 7) (v := am_I 1) rfl rfl rfl ?_
  refine ax_isub (q := 8) (z := ((l : Nat) : Int) - 1) rfl rfl (am_we (by omega) (by omega) (by omega)) ?_
  refine ax_calls (q := 11) rfl rfl rfl rfl rfl ?_
  refine m_isIn (by omega) ?_
  rw [show decide (0 ≤ a ∧ a ≤ ((l : Nat) : Int) - 1) = inr_ l a by unfold inr_; congr 1; apply propext; constructor <;> intro h <;> omega]
  refine ax_if_eq (q := 14) (x := 23) rfl rfl (fun h11 => ?_) (fun h11 => ?_)
  · have hb11 := it_0 h11
    refine ax_const (q := 25) (v := am_I (-2)) rfl rfl rfl ?_
    refine ax_ret (r := some (am_I (-2))) rfl rfl ?_
    have e := hQ _ (fr_rf _ _)
    rw [hb11] at e
    exact e
  · have hb11 := it_n0 h11
    obtain ⟨p, rfl, hp⟩ := inr_t hb11
    refine ax_load (q := 15) rfl rfl rfl rfl rfl ?_
    refine ax_getf (q := 18) (v := am_R 167) rfl rfl (rfl) ?_
    refine ax_load (q := 19) rfl rfl rfl rfl rfl ?_
    refine bx_iald (q := 20) (k := p) (z := σ.1 167 p) rfl rfl (rfl) (by omega) (by omega) (rfl) ?_
    refine ax_goto (x := 25) rfl ?_
    refine ax_ret (r := some (am_I (σ.1 167 p))) rfl rfl ?_
    have e := hQ _ (fr_rf _ _)
    rw [hb11] at e
    exact e

theorem m_fault {d : Nat} (hd : 1 ≤ d) {σ : am_S}  {a : Int} {Q : Option am_V → am_S → Prop} (hQ : ∀ σ', fr_ [] σ σ' → Q (some (am_I (if a = 0 then σ.1 135 2 else if a = 1 then σ.1 135 3 else -1))) σ') : am_Ev d 186 [am_R 135, am_I a] σ Q := by
  obtain ⟨d, rfl⟩ : ∃ e, d = e + 1 := ⟨d - 1, by omega⟩
  refine ev_in (m := 186) (c := k_X9_fault) (L := [some (am_R 135), some (am_I a)]) rfl rfl rfl rfl rfl rfl ?_
  refine ax_load (q := 1) rfl rfl rfl rfl rfl ?_
  refine ax_if_ne (q := 4) (x := 11) rfl rfl (fun h1 => ?_) (fun h1 => ?_)
  · refine ax_load (q := 12) rfl rfl rfl rfl rfl ?_
    refine ax_const (q := 13) (v := am_I 1) rfl rfl rfl ?_
    refine ax_icmp_ne (q := 16) (x := 23) rfl rfl (fun h13 => ?_) (fun h13 => ?_)
    · refine ax_const (q := 24) (v := am_I (-1)) rfl rfl rfl ?_
      refine ax_ret (r := some (am_I (-1))) rfl rfl ?_
      have e := hQ _ (fr_rf _ _)
      first | (rw [if_pos (by omega)] at e; exact e) | (rw [if_neg (by omega), if_pos (by omega)] at e; exact e) | (rw [if_neg (by omega), if_neg (by omega)] at e; exact e)
    · refine ax_load (q := 17) rfl rfl rfl rfl rfl ?_
      refine ax_getf (q := 20) (v := am_I (σ.1 135 3)) rfl rfl (rfl) ?_
      refine ax_goto (x := 24) rfl ?_
      refine ax_ret (r := some (am_I (σ.1 135 3))) rfl rfl ?_
      have e := hQ _ (fr_rf _ _)
      first | (rw [if_pos (by omega)] at e; exact e) | (rw [if_neg (by omega), if_pos (by omega)] at e; exact e) | (rw [if_neg (by omega), if_neg (by omega)] at e; exact e)
  · refine ax_load (q := 5) rfl rfl rfl rfl rfl ?_
    refine ax_getf (q := 8) (v := am_I (σ.1 135 2)) rfl rfl (rfl) ?_
    refine ax_goto (x := 24) rfl ?_
    refine ax_ret (r := some (am_I (σ.1 135 2))) rfl rfl ?_
    have e := hQ _ (fr_rf _ _)
    first | (rw [if_pos (by omega)] at e; exact e) | (rw [if_neg (by omega), if_pos (by omega)] at e; exact e) | (rw [if_neg (by omega), if_neg (by omega)] at e; exact e)

theorem m_untell {d : Nat} (hd : 2 ≤ d) {σ : am_S} {G : Nat → Nat → Int} {n : Nat} (hG : SG_ G n σ) {t : Nat} (ht : σ.1 135 78 = (t : Int)) {a : Int} {Q : Option am_V → am_S → Prop} (hN : (inr_ n a && decide (G 4 a.toNat < 0)) = false → Q (some (am_I 0)) σ) (hY : (inr_ n a && decide (G 4 a.toNat < 0)) = true → Q (some (am_I 1)) (am_sI σ 174 (am_up (G 4) a.toNat (t : Int)))) : am_Ev d 250 [am_R 135, am_I a] σ Q := by
  obtain ⟨d, rfl⟩ : ∃ e, d = e + 1 := ⟨d - 1, by omega⟩
  obtain ⟨hgn, hn30, ⟨hg0, hg1, hg2, hg3, hg4, hg5⟩, hgv⟩ := hG
  refine ev_in (m := 250) (c := k_X9_untell) (L := [some (am_R 135), some (am_I a)]) rfl rfl rfl rfl rfl rfl ?_
  refine ax_load (q := 1) rfl rfl rfl rfl rfl ?_
  refine ax_const (q := 2) (v := am_I 0) rfl rfl rfl ?_
  refine ax_load (q := 3) rfl rfl rfl rfl rfl ?_
  refine ax_getf (q := 6) (v := am_I ((n : Nat) : Int)) rfl rfl (am_fg rfl hgn) ?_
  refine ax_const (q := 7) (v := am_I 1) rfl rfl rfl ?_
  refine ax_isub (q := 8) (z := ((n : Nat) : Int) - 1) rfl rfl (am_we (by omega) (by omega) (by omega)) ?_
  refine ax_calls (q := 11) rfl rfl rfl rfl rfl ?_
  refine m_isIn (by omega) ?_
  rw [show decide (0 ≤ a ∧ a ≤ ((n : Nat) : Int) - 1) = inr_ n a by unfold inr_; congr 1; apply propext; constructor <;> intro h <;> omega]
  refine ax_if_eq (q := 14) (x := 23) rfl rfl (fun h11 => ?_) (fun h11 => ?_)
  · have hb11 := it_0 h11
    refine ax_const (q := 24) (v := am_I 0) rfl rfl rfl ?_
    refine ax_ret (r := some (am_I 0)) rfl ⟨rfl, Or.inl rfl⟩ ?_
    exact hN (by simp [*])
  · have hb11 := it_n0 h11
    obtain ⟨p, rfl, hp⟩ := inr_t hb11
    refine ax_load (q := 15) rfl rfl rfl rfl rfl ?_
    refine ax_getf (q := 18) (v := am_R 174) rfl rfl (rfl) ?_
    refine ax_load (q := 19) rfl rfl rfl rfl rfl ?_
    refine bx_iald (q := 20) (k := p) (z := G 4 p) rfl rfl (rfl) (by omega) (by omega) (congrFun hg4 _) ?_
    refine ax_if_lt (q := 23) (x := 25) rfl rfl (fun h20 => ?_) (fun h20 => ?_)
    · refine ax_load (q := 26) rfl rfl rfl rfl rfl ?_
      refine ax_getf (q := 29) (v := am_R 174) rfl rfl (rfl) ?_
      refine ax_load (q := 30) rfl rfl rfl rfl rfl ?_
      refine ax_load (q := 31) rfl rfl rfl rfl rfl ?_
      refine ax_getf (q := 34) (v := am_I ((t : Nat) : Int)) rfl rfl (am_fg rfl ht) ?_
      refine bx_iast (q := 35) (k := p) rfl rfl (rfl) (by omega) (by omega) ?_
      refine ax_const (q := 36) (v := am_I 1) rfl rfl rfl ?_
      refine ax_ret (r := some (am_I 1)) rfl ⟨rfl, Or.inr rfl⟩ ?_
      have e := hY (by simp [*])
      rw [hg4]
      exact e
    · refine ax_const (q := 24) (v := am_I 0) rfl rfl rfl ?_
      refine ax_ret (r := some (am_I 0)) rfl ⟨rfl, Or.inl rfl⟩ ?_
      exact hN (by simp [*])

theorem m_later {d : Nat} (hd : 1 ≤ d) {σ : am_S} {t : Nat} (ht : σ.1 135 78 = (t : Int)) (ht9 : t ≤ 1000000) {a : Int} {Q : Option am_V → am_S → Prop} (hN : decide (0 ≤ a ∧ a ≤ 1000 ∧ (t : Int) + a ≤ 100000) = false → Q (some (am_I (-1))) σ) (hY : decide (0 ≤ a ∧ a ≤ 1000 ∧ (t : Int) + a ≤ 100000) = true → Q (some (am_I ((t : Int) + a))) (am_sI σ 135 (am_up (σ.1 135) 78 ((t : Int) + a)))) : am_Ev d 251 [am_R 135, am_I a] σ Q := by
  obtain ⟨d, rfl⟩ : ∃ e, d = e + 1 := ⟨d - 1, by omega⟩
  refine ev_in (m := 251) (c := k_X9_later) (L := [some (am_R 135), some (am_I a)]) rfl rfl rfl rfl rfl rfl ?_
  refine ax_load (q := 1) rfl rfl rfl rfl rfl ?_
  refine ax_if_lt (q := 4) (x := 23) rfl rfl (fun h1 => ?_) (fun h1 => ?_)
  · refine ax_const (q := 24) (v := am_I (-1)) rfl rfl rfl ?_
    refine ax_ret (r := some (am_I (-1))) rfl rfl ?_
    exact hN (decide_eq_false (by omega))
  · refine ax_load (q := 5) rfl rfl rfl rfl rfl ?_
    refine ax_const (q := 8) (v := am_I 1000) rfl rfl rfl ?_
    refine ax_icmp_gt (q := 11) (x := 23) rfl rfl (fun h8 => ?_) (fun h8 => ?_)
    · refine ax_const (q := 24) (v := am_I (-1)) rfl rfl rfl ?_
      refine ax_ret (r := some (am_I (-1))) rfl rfl ?_
      exact hN (decide_eq_false (by omega))
    · refine ax_load (q := 12) rfl rfl rfl rfl rfl ?_
      refine ax_getf (q := 15) (v := am_I ((t : Nat) : Int)) rfl rfl (am_fg rfl ht) ?_
      refine ax_load (q := 16) rfl rfl rfl rfl rfl ?_
      refine ax_iadd (q := 17) (z := ((t : Nat) : Int) + a) rfl rfl (am_we (by omega) (by omega) (by omega)) ?_
      refine ax_const (q := 20) (v := am_I 100000) rfl rfl rfl ?_
      refine ax_icmp_le (q := 23) (x := 25) rfl rfl (fun h20 => ?_) (fun h20 => ?_)
      · refine ax_load (q := 26) rfl rfl rfl rfl rfl ?_
        refine ax_dup (q := 27) rfl rfl rfl ?_
        refine ax_getf (q := 30) (v := am_I ((t : Nat) : Int)) rfl rfl (am_fg rfl ht) ?_
        refine ax_load (q := 31) rfl rfl rfl rfl rfl ?_
        refine ax_iadd (q := 32) (z := ((t : Nat) : Int) + a) rfl rfl (am_we (by omega) (by omega) (by omega)) ?_
        refine ax_putf (q := 35) rfl rfl rfl ?_
        refine ax_load (q := 36) rfl rfl rfl rfl rfl ?_
        refine ax_getf (q := 39) (v := am_I (((t : Nat) : Int) + a)) rfl rfl (am_fg rfl (by rw [sI_at, am_up_same])) ?_
        refine ax_ret (r := some (am_I (((t : Nat) : Int) + a))) rfl rfl ?_
        exact hY (decide_eq_true (by omega))
      · refine ax_const (q := 24) (v := am_I (-1)) rfl rfl rfl ?_
        refine ax_ret (r := some (am_I (-1))) rfl rfl ?_
        exact hN (decide_eq_false (by omega))

theorem m_markOf {d : Nat} (hd : 1 ≤ d) {σ : am_S} {T : sp_T} (hT : TM_ T σ) (hV : TV_ T) {o : Nat} (ho : o < nO_ T) {z : Int} {Q : Option am_V → am_S → Prop} (hQ : Q (some (am_I (mk_ T o z))) σ) : am_Ev d 252 [am_R 135, am_I ((o : Nat) : Int), am_I z] σ Q := by
  obtain ⟨d, rfl⟩ : ∃ e, d = e + 1 := ⟨d - 1, by omega⟩
  have hO := hV.nO
  refine ev_in (m := 252) (c := k_X9_markOf) (L := [some (am_R 135), some (am_I ((o : Nat) : Int)), some (am_I z)]) rfl rfl rfl rfl rfl rfl ?_
  refine ax_load (q := 1) rfl rfl rfl rfl rfl ?_
  refine ax_if_ne (q := 4) (x := 13) rfl rfl (fun h1 => ?_) (fun h1 => ?_)
  · refine ax_load (q := 14) rfl rfl rfl rfl rfl ?_
    refine ax_const (q := 15) (v := am_I 1) rfl rfl rfl ?_
    refine ax_icmp_ne (q := 18) (x := 27) rfl rfl (fun h15 => ?_) (fun h15 => ?_)
    · refine ax_load (q := 28) rfl rfl rfl rfl rfl ?_
      refine ax_getf (q := 31) (v := am_R 151) rfl rfl (rfl) ?_
      refine ax_load (q := 32) rfl rfl rfl rfl rfl ?_
      refine bx_iald (q := 33) (k := o) (z := ((sk_ T o : Nat) : Int)) rfl rfl (rfl) (by omega) (by omega) ((congrFun hT.a151 _).trans (hV.sk (by omega)).1) ?_
      refine ax_ret (r := some (am_I ((sk_ T o : Nat) : Int))) rfl rfl ?_
      have e : mk_ T o z = ((sk_ T o : Nat) : Int) := by unfold mk_; simp [*]
      rw [← e]
      exact hQ
    · refine ax_load (q := 19) rfl rfl rfl rfl rfl ?_
      refine ax_getf (q := 22) (v := am_R 154) rfl rfl (rfl) ?_
      refine ax_load (q := 23) rfl rfl rfl rfl rfl ?_
      refine bx_iald (q := 24) (k := o) (z := T 154 o) rfl rfl (rfl) (by omega) (by omega) (congrFun hT.a154 _) ?_
      refine ax_goto (x := 33) rfl ?_
      refine ax_ret (r := some (am_I (T 154 o))) rfl rfl ?_
      have e : mk_ T o z = T 154 o := by unfold mk_; simp [*]
      rw [← e]
      exact hQ
  · refine ax_load (q := 5) rfl rfl rfl rfl rfl ?_
    refine ax_getf (q := 8) (v := am_R 153) rfl rfl (rfl) ?_
    refine ax_load (q := 9) rfl rfl rfl rfl rfl ?_
    refine bx_iald (q := 10) (k := o) (z := T 153 o) rfl rfl (rfl) (by omega) (by omega) (congrFun hT.a153 _) ?_
    refine ax_goto (x := 33) rfl ?_
    refine ax_ret (r := some (am_I (T 153 o))) rfl rfl ?_
    have e : mk_ T o z = T 153 o := by unfold mk_; simp [*]
    rw [← e]
    exact hQ

theorem l_isMeant {d : Nat} (hd : 1 ≤ d) {σ : am_S} {T : sp_T} (hT : TM_ T σ) (hV : TV_ T) {G : Nat → Nat → Int} {n : Nat} (hG : SG_ G n σ) {p o : Nat} (hp : p < nP_ T) (ho : o < nO_ T) {t : Int} {Q : Option am_V → am_S → Prop} (hQ : Q (some (am_I (if im_ T G p o t n then 1 else 0))) σ) : ∀ (m k : Nat), k + m = n → aW d 1 k_X9_isMeant Q 29 [some (am_R 135), some (am_I ((p : Nat) : Int)), some (am_I ((o : Nat) : Int)), some (am_I t), some (am_I (if im_ T G p o t k then 1 else 0)), some (am_I ((k : Nat) : Int))] [] σ := by
  have h6 := hV.nP
  have hO := hV.nO
  have hR := hV.nR
  have hpa := hV.pa hp
  obtain ⟨hgn, hn30, ⟨hg0, hg1, hg2, hg3, hg4, hg5⟩, hgv⟩ := hG
  intro m
  induction m with
  | zero =>
    intro k hk
    obtain rfl : k = n := by omega
    refine ax_load (q := 31) rfl rfl rfl rfl rfl ?_
    refine ax_load (q := 32) rfl rfl rfl rfl rfl ?_
    refine ax_getf (q := 35) (v := am_I ((k : Nat) : Int)) rfl rfl (am_fg rfl hgn) ?_
    refine ax_icmp_ge (q := 38) (x := 136) rfl rfl (fun h35 => ?_) (fun h => absurd h (by omega))
    refine ax_load (q := 138) rfl rfl rfl rfl rfl ?_
    refine ax_ret (r := some (am_I (if im_ T G p o t k then 1 else 0))) rfl ⟨rfl, by split <;> simp⟩ ?_
    exact hQ
  | succ m ih =>
    intro k hk
    have hgk := hgv k (by omega)
    refine ax_load (q := 31) rfl rfl rfl rfl rfl ?_
    refine ax_load (q := 32) rfl rfl rfl rfl rfl ?_
    refine ax_getf (q := 35) (v := am_I ((n : Nat) : Int)) rfl rfl (am_fg rfl hgn) ?_
    refine ax_icmp_ge (q := 38) (x := 136) rfl rfl (fun h => absurd h (by omega)) (fun h35 => ?_)
    refine ax_load (q := 40) rfl rfl rfl rfl rfl ?_
    refine ax_if_eq (q := 43) (x := 136) rfl rfl (fun h40 => ?_) (fun h40 => ?_)
    · have hb40 := it_0 h40
      refine ax_load (q := 138) rfl rfl rfl rfl rfl ?_
      refine ax_ret (r := some (am_I (if im_ T G p o t k then 1 else 0))) rfl ⟨rfl, by split <;> simp⟩ ?_
      rw [show im_ T G p o t n = im_ T G p o t k by rw [hb40, show n = k + (m + 1) by omega]; exact im_f hb40 _] at hQ
      exact hQ
    · have hb40 := it_n0 h40
      refine ax_load (q := 44) rfl rfl rfl rfl rfl ?_
      refine ax_getf (q := 47) (v := am_R 170) rfl rfl (rfl) ?_
      refine ax_load (q := 49) rfl rfl rfl rfl rfl ?_
      refine bx_iald (q := 50) (k := k) (z := G 0 k) rfl rfl (rfl) (by omega) (by omega) (congrFun hg0 _) ?_
      refine ax_load (q := 51) rfl rfl rfl rfl rfl ?_
      refine ax_icmp_ne (q := 54) (x := 130) rfl rfl (fun h51 => ?_) (fun h51 => ?_)
      · refine ax_iinc (q := 133) (z' := ((k + 1 : Nat) : Int)) (L' := [some (am_R 135), some (am_I ((p : Nat) : Int)), some (am_I ((o : Nat) : Int)), some (am_I t), some (am_I (if im_ T G p o t k then 1 else 0)), some (am_I ((k + 1 : Nat) : Int))]) rfl rfl rfl rfl (am_we (by omega) (by omega) (by omega)) rfl ?_
        refine ax_goto (x := 29) rfl ?_
        have e : im_ T G p o t (k + 1) = im_ T G p o t k := by show (im_ T G p o t k && me_ T G p o t k) = _; unfold me_; first | (rw [decide_eq_false h51]; simp; done) | (rw [decide_eq_false (show ¬ G 3 k ≤ t by omega)]; simp; done) | (rw [decide_eq_false (show ¬ G 4 k < 0 by omega), decide_eq_false (show ¬ t < G 4 k by omega)]; simp; done)
        rw [← e]
        exact ih (k + 1) (by omega)
      · refine ax_load (q := 55) rfl rfl rfl rfl rfl ?_
        refine ax_getf (q := 58) (v := am_R 173) rfl rfl (rfl) ?_
        refine ax_load (q := 60) rfl rfl rfl rfl rfl ?_
        refine bx_iald (q := 61) (k := k) (z := G 3 k) rfl rfl (rfl) (by omega) (by omega) (congrFun hg3 _) ?_
        refine ax_load (q := 62) rfl rfl rfl rfl rfl ?_
        refine ax_icmp_gt (q := 65) (x := 130) rfl rfl (fun h62 => ?_) (fun h62 => ?_)
        · refine ax_iinc (q := 133) (z' := ((k + 1 : Nat) : Int)) (L' := [some (am_R 135), some (am_I ((p : Nat) : Int)), some (am_I ((o : Nat) : Int)), some (am_I t), some (am_I (if im_ T G p o t k then 1 else 0)), some (am_I ((k + 1 : Nat) : Int))]) rfl rfl rfl rfl (am_we (by omega) (by omega) (by omega)) rfl ?_
          refine ax_goto (x := 29) rfl ?_
          have e : im_ T G p o t (k + 1) = im_ T G p o t k := by show (im_ T G p o t k && me_ T G p o t k) = _; unfold me_; first | (rw [decide_eq_false h51]; simp; done) | (rw [decide_eq_false (show ¬ G 3 k ≤ t by omega)]; simp; done) | (rw [decide_eq_false (show ¬ G 4 k < 0 by omega), decide_eq_false (show ¬ t < G 4 k by omega)]; simp; done)
          rw [← e]
          exact ih (k + 1) (by omega)
        · refine ax_load (q := 66) rfl rfl rfl rfl rfl ?_
          refine ax_getf (q := 69) (v := am_R 174) rfl rfl (rfl) ?_
          refine ax_load (q := 71) rfl rfl rfl rfl rfl ?_
          refine bx_iald (q := 72) (k := k) (z := G 4 k) rfl rfl (rfl) (by omega) (by omega) (congrFun hg4 _) ?_
          refine ax_if_lt (q := 75) (x := 86) rfl rfl (fun h72 => ?_) (fun h72 => ?_)
          · refine ax_load (q := 87) rfl rfl rfl rfl rfl ?_
            refine ax_load (q := 88) rfl rfl rfl rfl rfl ?_
            refine ax_load (q := 89) rfl rfl rfl rfl rfl ?_
            refine ax_getf (q := 92) (v := am_R 171) rfl rfl (rfl) ?_
            refine ax_load (q := 94) rfl rfl rfl rfl rfl ?_
            refine bx_iald (q := 95) (k := k) (z := G 1 k) rfl rfl (rfl) (by omega) (by omega) (congrFun hg1 _) ?_
            refine ax_callv (q := 98) rfl rfl rfl rfl rfl rfl ?_
            refine m_markOf (by omega) hT hV ho ?_
            refine ax_load (q := 99) rfl rfl rfl rfl rfl ?_
            refine ax_getf (q := 102) (v := am_R 172) rfl rfl (rfl) ?_
            refine ax_load (q := 104) rfl rfl rfl rfl rfl ?_
            refine bx_iald (q := 105) (k := k) (z := G 2 k) rfl rfl (rfl) (by omega) (by omega) (congrFun hg2 _) ?_
            refine ax_icmp_ne (q := 108) (x := 112) rfl rfl (fun h105 => ?_) (fun h105 => ?_)
            · refine ax_const (q := 113) (v := am_I 0) rfl rfl rfl ?_
              refine ax_load (q := 114) rfl rfl rfl rfl rfl ?_
              refine ax_getf (q := 117) (v := am_R 175) rfl rfl (rfl) ?_
              refine ax_load (q := 119) rfl rfl rfl rfl rfl ?_
              refine bx_bald (q := 120) (k := k) (z := G 5 k) rfl rfl (Or.inr rfl) (by omega) (by omega) (congrFun hg5 _) ?_
              refine ax_icmp_ne (q := 123) (x := 127) rfl rfl (fun h120 => ?_) (fun h120 => ?_)
              · refine ax_const (q := 128) (v := am_I 0) rfl rfl rfl ?_
                refine ax_store (q := 130) (L' := [some (am_R 135), some (am_I ((p : Nat) : Int)), some (am_I ((o : Nat) : Int)), some (am_I t), some (am_I 0), some (am_I ((k : Nat) : Int))]) rfl rfl rfl rfl rfl rfl ?_
                refine ax_iinc (q := 133) (z' := ((k + 1 : Nat) : Int)) (L' := [some (am_R 135), some (am_I ((p : Nat) : Int)), some (am_I ((o : Nat) : Int)), some (am_I t), some (am_I 0), some (am_I ((k + 1 : Nat) : Int))]) rfl rfl rfl rfl (am_we (by omega) (by omega) (by omega)) rfl ?_
                refine ax_goto (x := 29) rfl ?_
                have e : im_ T G p o t (k + 1) = false := by
                  show (im_ T G p o t k && me_ T G p o t k) = _
                  unfold me_
                  have q4 : (decide (G 4 k < 0) || decide (t < G 4 k)) = true := by first | (rw [decide_eq_true (show G 4 k < 0 by omega)]; rfl) | (rw [decide_eq_true (show t < G 4 k by omega)]; simp)
                  rw [hb40, decide_eq_true h51, decide_eq_true (show G 3 k ≤ t by omega), q4]
                  by_cases q : mk_ T o (G 1 k) = G 2 k <;> by_cases q1 : G 5 k = 1 <;> first | (exfalso; omega) | (rw [decide_eq_true q, decide_eq_true q1]; rfl) | (rw [decide_eq_true q, decide_eq_false q1]; rfl) | (rw [decide_eq_false q, decide_eq_true q1]; rfl) | (rw [decide_eq_false q, decide_eq_false q1]; rfl)
                have g := ih (k + 1) (by omega)
                rw [e] at g
                exact g
              · refine ax_const (q := 124) (v := am_I 1) rfl rfl rfl ?_
                refine ax_goto (x := 128) rfl ?_
                refine ax_store (q := 130) (L' := [some (am_R 135), some (am_I ((p : Nat) : Int)), some (am_I ((o : Nat) : Int)), some (am_I t), some (am_I 1), some (am_I ((k : Nat) : Int))]) rfl rfl rfl rfl rfl rfl ?_
                refine ax_iinc (q := 133) (z' := ((k + 1 : Nat) : Int)) (L' := [some (am_R 135), some (am_I ((p : Nat) : Int)), some (am_I ((o : Nat) : Int)), some (am_I t), some (am_I 1), some (am_I ((k + 1 : Nat) : Int))]) rfl rfl rfl rfl (am_we (by omega) (by omega) (by omega)) rfl ?_
                refine ax_goto (x := 29) rfl ?_
                have e : im_ T G p o t (k + 1) = true := by
                  show (im_ T G p o t k && me_ T G p o t k) = _
                  unfold me_
                  have q4 : (decide (G 4 k < 0) || decide (t < G 4 k)) = true := by first | (rw [decide_eq_true (show G 4 k < 0 by omega)]; rfl) | (rw [decide_eq_true (show t < G 4 k by omega)]; simp)
                  rw [hb40, decide_eq_true h51, decide_eq_true (show G 3 k ≤ t by omega), q4]
                  by_cases q : mk_ T o (G 1 k) = G 2 k <;> by_cases q1 : G 5 k = 1 <;> first | (exfalso; omega) | (rw [decide_eq_true q, decide_eq_true q1]; rfl) | (rw [decide_eq_true q, decide_eq_false q1]; rfl) | (rw [decide_eq_false q, decide_eq_true q1]; rfl) | (rw [decide_eq_false q, decide_eq_false q1]; rfl)
                have g := ih (k + 1) (by omega)
                rw [e] at g
                exact g
            · refine ax_const (q := 109) (v := am_I 1) rfl rfl rfl ?_
              refine ax_goto (x := 113) rfl ?_
              refine ax_load (q := 114) rfl rfl rfl rfl rfl ?_
              refine ax_getf (q := 117) (v := am_R 175) rfl rfl (rfl) ?_
              refine ax_load (q := 119) rfl rfl rfl rfl rfl ?_
              refine bx_bald (q := 120) (k := k) (z := G 5 k) rfl rfl (Or.inr rfl) (by omega) (by omega) (congrFun hg5 _) ?_
              refine ax_icmp_ne (q := 123) (x := 127) rfl rfl (fun h120 => ?_) (fun h120 => ?_)
              · refine ax_const (q := 128) (v := am_I 0) rfl rfl rfl ?_
                refine ax_store (q := 130) (L' := [some (am_R 135), some (am_I ((p : Nat) : Int)), some (am_I ((o : Nat) : Int)), some (am_I t), some (am_I 0), some (am_I ((k : Nat) : Int))]) rfl rfl rfl rfl rfl rfl ?_
                refine ax_iinc (q := 133) (z' := ((k + 1 : Nat) : Int)) (L' := [some (am_R 135), some (am_I ((p : Nat) : Int)), some (am_I ((o : Nat) : Int)), some (am_I t), some (am_I 0), some (am_I ((k + 1 : Nat) : Int))]) rfl rfl rfl rfl (am_we (by omega) (by omega) (by omega)) rfl ?_
                refine ax_goto (x := 29) rfl ?_
                have e : im_ T G p o t (k + 1) = false := by
                  show (im_ T G p o t k && me_ T G p o t k) = _
                  unfold me_
                  have q4 : (decide (G 4 k < 0) || decide (t < G 4 k)) = true := by first | (rw [decide_eq_true (show G 4 k < 0 by omega)]; rfl) | (rw [decide_eq_true (show t < G 4 k by omega)]; simp)
                  rw [hb40, decide_eq_true h51, decide_eq_true (show G 3 k ≤ t by omega), q4]
                  by_cases q : mk_ T o (G 1 k) = G 2 k <;> by_cases q1 : G 5 k = 1 <;> first | (exfalso; omega) | (rw [decide_eq_true q, decide_eq_true q1]; rfl) | (rw [decide_eq_true q, decide_eq_false q1]; rfl) | (rw [decide_eq_false q, decide_eq_true q1]; rfl) | (rw [decide_eq_false q, decide_eq_false q1]; rfl)
                have g := ih (k + 1) (by omega)
                rw [e] at g
                exact g
              · refine ax_const (q := 124) (v := am_I 1) rfl rfl rfl ?_
                refine ax_goto (x := 128) rfl ?_
                refine ax_store (q := 130) (L' := [some (am_R 135), some (am_I ((p : Nat) : Int)), some (am_I ((o : Nat) : Int)), some (am_I t), some (am_I 1), some (am_I ((k : Nat) : Int))]) rfl rfl rfl rfl rfl rfl ?_
                refine ax_iinc (q := 133) (z' := ((k + 1 : Nat) : Int)) (L' := [some (am_R 135), some (am_I ((p : Nat) : Int)), some (am_I ((o : Nat) : Int)), some (am_I t), some (am_I 1), some (am_I ((k + 1 : Nat) : Int))]) rfl rfl rfl rfl (am_we (by omega) (by omega) (by omega)) rfl ?_
                refine ax_goto (x := 29) rfl ?_
                have e : im_ T G p o t (k + 1) = true := by
                  show (im_ T G p o t k && me_ T G p o t k) = _
                  unfold me_
                  have q4 : (decide (G 4 k < 0) || decide (t < G 4 k)) = true := by first | (rw [decide_eq_true (show G 4 k < 0 by omega)]; rfl) | (rw [decide_eq_true (show t < G 4 k by omega)]; simp)
                  rw [hb40, decide_eq_true h51, decide_eq_true (show G 3 k ≤ t by omega), q4]
                  by_cases q : mk_ T o (G 1 k) = G 2 k <;> by_cases q1 : G 5 k = 1 <;> first | (exfalso; omega) | (rw [decide_eq_true q, decide_eq_true q1]; rfl) | (rw [decide_eq_true q, decide_eq_false q1]; rfl) | (rw [decide_eq_false q, decide_eq_true q1]; rfl) | (rw [decide_eq_false q, decide_eq_false q1]; rfl)
                have g := ih (k + 1) (by omega)
                rw [e] at g
                exact g
          · refine ax_load (q := 76) rfl rfl rfl rfl rfl ?_
            refine ax_getf (q := 79) (v := am_R 174) rfl rfl (rfl) ?_
            refine ax_load (q := 81) rfl rfl rfl rfl rfl ?_
            refine bx_iald (q := 82) (k := k) (z := G 4 k) rfl rfl (rfl) (by omega) (by omega) (congrFun hg4 _) ?_
            refine ax_load (q := 83) rfl rfl rfl rfl rfl ?_
            refine ax_icmp_le (q := 86) (x := 130) rfl rfl (fun h83 => ?_) (fun h83 => ?_)
            · refine ax_iinc (q := 133) (z' := ((k + 1 : Nat) : Int)) (L' := [some (am_R 135), some (am_I ((p : Nat) : Int)), some (am_I ((o : Nat) : Int)), some (am_I t), some (am_I (if im_ T G p o t k then 1 else 0)), some (am_I ((k + 1 : Nat) : Int))]) rfl rfl rfl rfl (am_we (by omega) (by omega) (by omega)) rfl ?_
              refine ax_goto (x := 29) rfl ?_
              have e : im_ T G p o t (k + 1) = im_ T G p o t k := by show (im_ T G p o t k && me_ T G p o t k) = _; unfold me_; first | (rw [decide_eq_false h51]; simp; done) | (rw [decide_eq_false (show ¬ G 3 k ≤ t by omega)]; simp; done) | (rw [decide_eq_false (show ¬ G 4 k < 0 by omega), decide_eq_false (show ¬ t < G 4 k by omega)]; simp; done)
              rw [← e]
              exact ih (k + 1) (by omega)
            · refine ax_load (q := 87) rfl rfl rfl rfl rfl ?_
              refine ax_load (q := 88) rfl rfl rfl rfl rfl ?_
              refine ax_load (q := 89) rfl rfl rfl rfl rfl ?_
              refine ax_getf (q := 92) (v := am_R 171) rfl rfl (rfl) ?_
              refine ax_load (q := 94) rfl rfl rfl rfl rfl ?_
              refine bx_iald (q := 95) (k := k) (z := G 1 k) rfl rfl (rfl) (by omega) (by omega) (congrFun hg1 _) ?_
              refine ax_callv (q := 98) rfl rfl rfl rfl rfl rfl ?_
              refine m_markOf (by omega) hT hV ho ?_
              refine ax_load (q := 99) rfl rfl rfl rfl rfl ?_
              refine ax_getf (q := 102) (v := am_R 172) rfl rfl (rfl) ?_
              refine ax_load (q := 104) rfl rfl rfl rfl rfl ?_
              refine bx_iald (q := 105) (k := k) (z := G 2 k) rfl rfl (rfl) (by omega) (by omega) (congrFun hg2 _) ?_
              refine ax_icmp_ne (q := 108) (x := 112) rfl rfl (fun h105 => ?_) (fun h105 => ?_)
              · refine ax_const (q := 113) (v := am_I 0) rfl rfl rfl ?_
                refine ax_load (q := 114) rfl rfl rfl rfl rfl ?_
                refine ax_getf (q := 117) (v := am_R 175) rfl rfl (rfl) ?_
                refine ax_load (q := 119) rfl rfl rfl rfl rfl ?_
                refine bx_bald (q := 120) (k := k) (z := G 5 k) rfl rfl (Or.inr rfl) (by omega) (by omega) (congrFun hg5 _) ?_
                refine ax_icmp_ne (q := 123) (x := 127) rfl rfl (fun h120 => ?_) (fun h120 => ?_)
                · refine ax_const (q := 128) (v := am_I 0) rfl rfl rfl ?_
                  refine ax_store (q := 130) (L' := [some (am_R 135), some (am_I ((p : Nat) : Int)), some (am_I ((o : Nat) : Int)), some (am_I t), some (am_I 0), some (am_I ((k : Nat) : Int))]) rfl rfl rfl rfl rfl rfl ?_
                  refine ax_iinc (q := 133) (z' := ((k + 1 : Nat) : Int)) (L' := [some (am_R 135), some (am_I ((p : Nat) : Int)), some (am_I ((o : Nat) : Int)), some (am_I t), some (am_I 0), some (am_I ((k + 1 : Nat) : Int))]) rfl rfl rfl rfl (am_we (by omega) (by omega) (by omega)) rfl ?_
                  refine ax_goto (x := 29) rfl ?_
                  have e : im_ T G p o t (k + 1) = false := by
                    show (im_ T G p o t k && me_ T G p o t k) = _
                    unfold me_
                    have q4 : (decide (G 4 k < 0) || decide (t < G 4 k)) = true := by first | (rw [decide_eq_true (show G 4 k < 0 by omega)]; rfl) | (rw [decide_eq_true (show t < G 4 k by omega)]; simp)
                    rw [hb40, decide_eq_true h51, decide_eq_true (show G 3 k ≤ t by omega), q4]
                    by_cases q : mk_ T o (G 1 k) = G 2 k <;> by_cases q1 : G 5 k = 1 <;> first | (exfalso; omega) | (rw [decide_eq_true q, decide_eq_true q1]; rfl) | (rw [decide_eq_true q, decide_eq_false q1]; rfl) | (rw [decide_eq_false q, decide_eq_true q1]; rfl) | (rw [decide_eq_false q, decide_eq_false q1]; rfl)
                  have g := ih (k + 1) (by omega)
                  rw [e] at g
                  exact g
                · refine ax_const (q := 124) (v := am_I 1) rfl rfl rfl ?_
                  refine ax_goto (x := 128) rfl ?_
                  refine ax_store (q := 130) (L' := [some (am_R 135), some (am_I ((p : Nat) : Int)), some (am_I ((o : Nat) : Int)), some (am_I t), some (am_I 1), some (am_I ((k : Nat) : Int))]) rfl rfl rfl rfl rfl rfl ?_
                  refine ax_iinc (q := 133) (z' := ((k + 1 : Nat) : Int)) (L' := [some (am_R 135), some (am_I ((p : Nat) : Int)), some (am_I ((o : Nat) : Int)), some (am_I t), some (am_I 1), some (am_I ((k + 1 : Nat) : Int))]) rfl rfl rfl rfl (am_we (by omega) (by omega) (by omega)) rfl ?_
                  refine ax_goto (x := 29) rfl ?_
                  have e : im_ T G p o t (k + 1) = true := by
                    show (im_ T G p o t k && me_ T G p o t k) = _
                    unfold me_
                    have q4 : (decide (G 4 k < 0) || decide (t < G 4 k)) = true := by first | (rw [decide_eq_true (show G 4 k < 0 by omega)]; rfl) | (rw [decide_eq_true (show t < G 4 k by omega)]; simp)
                    rw [hb40, decide_eq_true h51, decide_eq_true (show G 3 k ≤ t by omega), q4]
                    by_cases q : mk_ T o (G 1 k) = G 2 k <;> by_cases q1 : G 5 k = 1 <;> first | (exfalso; omega) | (rw [decide_eq_true q, decide_eq_true q1]; rfl) | (rw [decide_eq_true q, decide_eq_false q1]; rfl) | (rw [decide_eq_false q, decide_eq_true q1]; rfl) | (rw [decide_eq_false q, decide_eq_false q1]; rfl)
                  have g := ih (k + 1) (by omega)
                  rw [e] at g
                  exact g
              · refine ax_const (q := 109) (v := am_I 1) rfl rfl rfl ?_
                refine ax_goto (x := 113) rfl ?_
                refine ax_load (q := 114) rfl rfl rfl rfl rfl ?_
                refine ax_getf (q := 117) (v := am_R 175) rfl rfl (rfl) ?_
                refine ax_load (q := 119) rfl rfl rfl rfl rfl ?_
                refine bx_bald (q := 120) (k := k) (z := G 5 k) rfl rfl (Or.inr rfl) (by omega) (by omega) (congrFun hg5 _) ?_
                refine ax_icmp_ne (q := 123) (x := 127) rfl rfl (fun h120 => ?_) (fun h120 => ?_)
                · refine ax_const (q := 128) (v := am_I 0) rfl rfl rfl ?_
                  refine ax_store (q := 130) (L' := [some (am_R 135), some (am_I ((p : Nat) : Int)), some (am_I ((o : Nat) : Int)), some (am_I t), some (am_I 0), some (am_I ((k : Nat) : Int))]) rfl rfl rfl rfl rfl rfl ?_
                  refine ax_iinc (q := 133) (z' := ((k + 1 : Nat) : Int)) (L' := [some (am_R 135), some (am_I ((p : Nat) : Int)), some (am_I ((o : Nat) : Int)), some (am_I t), some (am_I 0), some (am_I ((k + 1 : Nat) : Int))]) rfl rfl rfl rfl (am_we (by omega) (by omega) (by omega)) rfl ?_
                  refine ax_goto (x := 29) rfl ?_
                  have e : im_ T G p o t (k + 1) = false := by
                    show (im_ T G p o t k && me_ T G p o t k) = _
                    unfold me_
                    have q4 : (decide (G 4 k < 0) || decide (t < G 4 k)) = true := by first | (rw [decide_eq_true (show G 4 k < 0 by omega)]; rfl) | (rw [decide_eq_true (show t < G 4 k by omega)]; simp)
                    rw [hb40, decide_eq_true h51, decide_eq_true (show G 3 k ≤ t by omega), q4]
                    by_cases q : mk_ T o (G 1 k) = G 2 k <;> by_cases q1 : G 5 k = 1 <;> first | (exfalso; omega) | (rw [decide_eq_true q, decide_eq_true q1]; rfl) | (rw [decide_eq_true q, decide_eq_false q1]; rfl) | (rw [decide_eq_false q, decide_eq_true q1]; rfl) | (rw [decide_eq_false q, decide_eq_false q1]; rfl)
                  have g := ih (k + 1) (by omega)
                  rw [e] at g
                  exact g
                · refine ax_const (q := 124) (v := am_I 1) rfl rfl rfl ?_
                  refine ax_goto (x := 128) rfl ?_
                  refine ax_store (q := 130) (L' := [some (am_R 135), some (am_I ((p : Nat) : Int)), some (am_I ((o : Nat) : Int)), some (am_I t), some (am_I 1), some (am_I ((k : Nat) : Int))]) rfl rfl rfl rfl rfl rfl ?_
                  refine ax_iinc (q := 133) (z' := ((k + 1 : Nat) : Int)) (L' := [some (am_R 135), some (am_I ((p : Nat) : Int)), some (am_I ((o : Nat) : Int)), some (am_I t), some (am_I 1), some (am_I ((k + 1 : Nat) : Int))]) rfl rfl rfl rfl (am_we (by omega) (by omega) (by omega)) rfl ?_
                  refine ax_goto (x := 29) rfl ?_
                  have e : im_ T G p o t (k + 1) = true := by
                    show (im_ T G p o t k && me_ T G p o t k) = _
                    unfold me_
                    have q4 : (decide (G 4 k < 0) || decide (t < G 4 k)) = true := by first | (rw [decide_eq_true (show G 4 k < 0 by omega)]; rfl) | (rw [decide_eq_true (show t < G 4 k by omega)]; simp)
                    rw [hb40, decide_eq_true h51, decide_eq_true (show G 3 k ≤ t by omega), q4]
                    by_cases q : mk_ T o (G 1 k) = G 2 k <;> by_cases q1 : G 5 k = 1 <;> first | (exfalso; omega) | (rw [decide_eq_true q, decide_eq_true q1]; rfl) | (rw [decide_eq_true q, decide_eq_false q1]; rfl) | (rw [decide_eq_false q, decide_eq_true q1]; rfl) | (rw [decide_eq_false q, decide_eq_false q1]; rfl)
                  have g := ih (k + 1) (by omega)
                  rw [e] at g
                  exact g

theorem m_isMeant {d : Nat} (hd : 2 ≤ d) {σ : am_S} {T : sp_T} (hT : TM_ T σ) (hV : TV_ T) {G : Nat → Nat → Int} {n : Nat} (hG : SG_ G n σ) {p o : Nat} (hp : p < nP_ T) (ho : o < nO_ T) {t : Int} {Q : Option am_V → am_S → Prop} (hQ : Q (some (am_I (if im_ T G p o t n then 1 else 0))) σ) : am_Ev d 253 [am_R 135, am_I ((p : Nat) : Int), am_I ((o : Nat) : Int), am_I t] σ Q := by
  obtain ⟨d, rfl⟩ : ∃ e, d = e + 1 := ⟨d - 1, by omega⟩
  have h6 := hV.nP
  have hO := hV.nO
  have hR := hV.nR
  have hpa := hV.pa hp
  refine ev_in (m := 253) (c := k_X9_isMeant) (L := [some (am_R 135), some (am_I ((p : Nat) : Int)), some (am_I ((o : Nat) : Int)), some (am_I t), none, none]) rfl rfl rfl rfl rfl rfl ?_
  refine ax_load (q := 1) rfl rfl rfl rfl rfl ?_
  refine ax_getf (q := 4) (v := am_R 158) rfl rfl (rfl) ?_
  refine ax_const (q := 6) (v := am_I 8) rfl rfl rfl ?_
  refine ax_load (q := 7) rfl rfl rfl rfl rfl ?_
  refine ax_getf (q := 10) (v := am_R 162) rfl rfl (rfl) ?_
  refine ax_load (q := 11) rfl rfl rfl rfl rfl ?_
  refine bx_iald (q := 12) (k := p) (z := ((pa_ T p : Nat) : Int)) rfl rfl (rfl) (by omega) (by omega) ((congrFun hT.a162 _).trans (hV.pa (by omega)).1) ?_
  refine ax_imul (q := 13) (z := ((8 * (pa_ T p) : Nat) : Int)) rfl rfl (am_we (by omega) (by omega) (by omega)) ?_
  refine ax_load (q := 14) rfl rfl rfl rfl rfl ?_
  refine ax_iadd (q := 15) (z := (((8 * (pa_ T p)) + o : Nat) : Int)) rfl rfl (am_we (by omega) (by omega) (by omega)) ?_
  refine bx_iald (q := 16) (k := (8 * (pa_ T p)) + o) (z := T 158 ((8 * (pa_ T p)) + o)) rfl rfl (rfl) (by omega) (by omega) (congrFun hT.a158 _) ?_
  refine ax_if_le (q := 19) (x := 23) rfl rfl (fun h16 => ?_) (fun h16 => ?_)
  · have g := l_isMeant (d := d) (by omega) hT hV hG hp ho hQ (t := t) n 0 (by omega)
    rw [show im_ T G p o t 0 = false from decide_eq_false (show ¬ 0 < T 158 (8 * pa_ T p + o) by omega)] at g
    refine ax_const (q := 24) (v := am_I 0) rfl rfl rfl ?_
    refine ax_store (q := 26) (L' := [some (am_R 135), some (am_I ((p : Nat) : Int)), some (am_I ((o : Nat) : Int)), some (am_I t), some (am_I 0), none]) rfl rfl rfl rfl rfl rfl ?_
    refine ax_const (q := 27) (v := am_I 0) rfl rfl rfl ?_
    refine ax_store (q := 29) (L' := [some (am_R 135), some (am_I ((p : Nat) : Int)), some (am_I ((o : Nat) : Int)), some (am_I t), some (am_I 0), some (am_I 0)]) rfl rfl rfl rfl rfl rfl ?_
    exact g
  · have g := l_isMeant (d := d) (by omega) hT hV hG hp ho hQ (t := t) n 0 (by omega)
    rw [show im_ T G p o t 0 = true from decide_eq_true (show 0 < T 158 (8 * pa_ T p + o) by omega)] at g
    refine ax_const (q := 20) (v := am_I 1) rfl rfl rfl ?_
    refine ax_goto (x := 24) rfl ?_
    refine ax_store (q := 26) (L' := [some (am_R 135), some (am_I ((p : Nat) : Int)), some (am_I ((o : Nat) : Int)), some (am_I t), some (am_I 1), none]) rfl rfl rfl rfl rfl rfl ?_
    refine ax_const (q := 27) (v := am_I 0) rfl rfl rfl ?_
    refine ax_store (q := 29) (L' := [some (am_R 135), some (am_I ((p : Nat) : Int)), some (am_I ((o : Nat) : Int)), some (am_I t), some (am_I 1), some (am_I 0)]) rfl rfl rfl rfl rfl rfl ?_
    exact g

theorem l_meant {d : Nat} (hd : 2 ≤ d) {σ : am_S} {T : sp_T} (hT : TM_ T σ) (hV : TV_ T) {G : Nat → Nat → Int} {n : Nat} (hG : SG_ G n σ) {p : Nat} (hp : p < nP_ T) {t : Int} {Q : Option am_V → am_S → Prop} (hQ : Q (some (am_I ((ms_ T G n p t : Nat) : Int))) σ) : ∀ (m k : Nat), k + m = nO_ T → aW d 0 k_X9_meant Q 15 [some (am_R 135), some (am_I ((p : Nat) : Int)), some (am_I t), some (am_I ((bi_ k (fun o => im_ T G p o t n) : Nat) : Int)), some (am_I ((k : Nat) : Int))] [] σ := by
  have hn := hV.nO
  intro m
  induction m with
  | zero =>
    intro k hk
    obtain rfl : k = nO_ T := by omega
    refine ax_load (q := 17) rfl rfl rfl rfl rfl ?_
    refine ax_load (q := 18) rfl rfl rfl rfl rfl ?_
    refine ax_getf (q := 21) (v := am_I ((nO_ T : Nat) : Int)) rfl rfl (am_fg rfl (hT.s51.trans hV.nO.1)) ?_
    refine ax_icmp_ge (q := 24) (x := 47) rfl rfl (fun h21 => ?_) (fun h => absurd h (by omega))
    refine ax_load (q := 48) rfl rfl rfl rfl rfl ?_
    refine ax_ret (r := some (am_I ((bi_ (nO_ T) (fun o => im_ T G p o t n) : Nat) : Int))) rfl rfl ?_
    exact hQ
  | succ m ih =>
    intro k hk
    refine ax_load (q := 17) rfl rfl rfl rfl rfl ?_
    refine ax_load (q := 18) rfl rfl rfl rfl rfl ?_
    refine ax_getf (q := 21) (v := am_I ((nO_ T : Nat) : Int)) rfl rfl (am_fg rfl (hT.s51.trans hV.nO.1)) ?_
    refine ax_icmp_ge (q := 24) (x := 47) rfl rfl (fun h => absurd h (by omega)) (fun h21 => ?_)
    refine ax_load (q := 25) rfl rfl rfl rfl rfl ?_
    refine ax_load (q := 26) rfl rfl rfl rfl rfl ?_
    refine ax_load (q := 27) rfl rfl rfl rfl rfl ?_
    refine ax_load (q := 29) rfl rfl rfl rfl rfl ?_
    refine ax_load (q := 30) rfl rfl rfl rfl rfl ?_
    refine ax_callv (q := 33) rfl rfl rfl rfl rfl rfl ?_
    refine m_isMeant (by omega) hT hV hG hp (by omega) ?_
    refine ax_calls (q := 36) rfl rfl rfl rfl rfl ?_
    refine m_truthz (by omega) (by split <;> simp) ?_
    refine ax_load (q := 38) rfl rfl rfl rfl rfl ?_
    refine ax_ishl (q := 39) (z := am_shl (if im_ T G p k t n then 1 else 0) (k : Int)) rfl rfl (rfl) ?_
    refine ax_ior (q := 40) (z := ((bi_ (k + 1) (fun o => im_ T G p o t n) : Nat) : Int)) rfl rfl (am_or_bi (fun o => im_ T G p o t n) (by omega)) ?_
    refine ax_store (q := 41) (L' := [some (am_R 135), some (am_I ((p : Nat) : Int)), some (am_I t), some (am_I ((bi_ (k + 1) (fun o => im_ T G p o t n) : Nat) : Int)), some (am_I ((k : Nat) : Int))]) rfl rfl rfl rfl rfl rfl ?_
    refine ax_iinc (q := 44) (z' := ((k + 1 : Nat) : Int)) (L' := [some (am_R 135), some (am_I ((p : Nat) : Int)), some (am_I t), some (am_I ((bi_ (k + 1) (fun o => im_ T G p o t n) : Nat) : Int)), some (am_I ((k + 1 : Nat) : Int))]) rfl rfl rfl rfl (am_we (by omega) (by omega) (by omega)) rfl ?_
    refine ax_goto (x := 15) rfl ?_
    exact ih (k + 1) (by omega)

theorem m_meant {d : Nat} (hd : 3 ≤ d) {σ : am_S} {T : sp_T} (hT : TM_ T σ) (hV : TV_ T) {G : Nat → Nat → Int} {n : Nat} (hG : SG_ G n σ) {a t : Int} {Q : Option am_V → am_S → Prop} (hQ : ∀ σ', fr_ [] σ σ' → Q (some (am_I (F_meant T G n a t))) σ') : am_Ev d 254 [am_R 135, am_I a, am_I t] σ Q := by
  obtain ⟨d, rfl⟩ : ∃ e, d = e + 1 := ⟨d - 1, by omega⟩
  have hO := hV.nO
  refine ev_in (m := 254) (c := k_X9_meant) (L := [some (am_R 135), some (am_I a), some (am_I t), none, none]) rfl rfl rfl rfl rfl rfl ?_
  refine ax_load (q := 1) rfl rfl rfl rfl rfl ?_
  refine ax_load (q := 2) rfl rfl rfl rfl rfl ?_
  refine ax_callv (q := 5) rfl rfl rfl rfl rfl rfl ?_
  refine m_isPerson (by omega) hT hV ?_
  refine ax_if_ne (q := 8) (x := 10) rfl rfl (fun h5 => ?_) (fun h5 => ?_)
  · have hb5 := it_n0 h5
    obtain ⟨p, rfl, hp⟩ := inr_t hb5
    refine ax_const (q := 11) (v := am_I 0) rfl rfl rfl ?_
    refine ax_store (q := 12) (L' := [some (am_R 135), some (am_I ((p : Nat) : Int)), some (am_I t), some (am_I 0), none]) rfl rfl rfl rfl rfl rfl ?_
    refine ax_const (q := 13) (v := am_I 0) rfl rfl rfl ?_
    refine ax_store (q := 15) (L' := [some (am_R 135), some (am_I ((p : Nat) : Int)), some (am_I t), some (am_I 0), some (am_I 0)]) rfl rfl rfl rfl rfl rfl ?_
    have e : F_meant T G n (p : Int) t = ((ms_ T G n p t : Nat) : Int) := by unfold F_meant inr_; rw [hb5]; rfl
    exact l_meant (by omega) hT hV hG hp (by rw [← e]; exact hQ _ (fr_rf _ _)) (nO_ T) 0 (by omega)
  · have hb5 := it_0 h5
    refine ax_const (q := 9) (v := am_I (-1)) rfl rfl rfl ?_
    refine ax_ret (r := some (am_I (-1))) rfl rfl ?_
    have e : F_meant T G n a t = (-1) := by unfold F_meant; unfold inr_ at *; simp [*]
    rw [← e]
    exact hQ _ (fr_rf _ _)

theorem l_likely {d : Nat} (hd : 2 ≤ d) {σ : am_S} {T : sp_T} (hT : TM_ T σ) (hV : TV_ T) {G : Nat → Nat → Int} {n : Nat} (hG : SG_ G n σ) {p : Nat} (hp : p < nP_ T) {t : Int} {Q : Option am_V → am_S → Prop} (hQ : Q (some (am_I ((lk_ T G n p t (nO_ T)).1))) σ) : ∀ (m k : Nat) (o6 : Option am_V), k + m = nO_ T → aW d 0 k_X9_likely Q 18 [some (am_R 135), some (am_I ((p : Nat) : Int)), some (am_I t), some (am_I ((lk_ T G n p t k).1)), some (am_I ((lk_ T G n p t k).2)), some (am_I ((k : Nat) : Int)), o6] [] σ := by
  have h6 := hV.nP
  have hn := hV.nO
  have hR := hV.nR
  have hpa := hV.pa hp
  intro m
  induction m with
  | zero =>
    intro k o6 hk
    obtain rfl : k = nO_ T := by omega
    refine ax_load (q := 20) rfl rfl rfl rfl rfl ?_
    refine ax_load (q := 21) rfl rfl rfl rfl rfl ?_
    refine ax_getf (q := 24) (v := am_I ((nO_ T : Nat) : Int)) rfl rfl (am_fg rfl (hT.s51.trans hV.nO.1)) ?_
    refine ax_icmp_ge (q := 27) (x := 80) rfl rfl (fun h24 => ?_) (fun h => absurd h (by omega))
    refine ax_load (q := 81) rfl rfl rfl rfl rfl ?_
    refine ax_ret (r := some (am_I ((lk_ T G n p t ((nO_ T))).1))) rfl rfl ?_
    exact hQ
  | succ m ih =>
    intro k o6 hk
    refine ax_load (q := 20) rfl rfl rfl rfl rfl ?_
    refine ax_load (q := 21) rfl rfl rfl rfl rfl ?_
    refine ax_getf (q := 24) (v := am_I ((nO_ T : Nat) : Int)) rfl rfl (am_fg rfl (hT.s51.trans hV.nO.1)) ?_
    refine ax_icmp_ge (q := 27) (x := 80) rfl rfl (fun h => absurd h (by omega)) (fun h24 => ?_)
    refine ax_load (q := 28) rfl rfl rfl rfl rfl ?_
    refine ax_getf (q := 31) (v := am_R 158) rfl rfl (rfl) ?_
    refine ax_const (q := 33) (v := am_I 8) rfl rfl rfl ?_
    refine ax_load (q := 34) rfl rfl rfl rfl rfl ?_
    refine ax_getf (q := 37) (v := am_R 162) rfl rfl (rfl) ?_
    refine ax_load (q := 38) rfl rfl rfl rfl rfl ?_
    refine bx_iald (q := 39) (k := p) (z := ((pa_ T p : Nat) : Int)) rfl rfl (rfl) (by omega) (by omega) ((congrFun hT.a162 _).trans (hV.pa (by omega)).1) ?_
    refine ax_imul (q := 40) (z := ((8 * (pa_ T p) : Nat) : Int)) rfl rfl (am_we (by omega) (by omega) (by omega)) ?_
    refine ax_load (q := 42) rfl rfl rfl rfl rfl ?_
    refine ax_iadd (q := 43) (z := (((8 * (pa_ T p)) + k : Nat) : Int)) rfl rfl (am_we (by omega) (by omega) (by omega)) ?_
    refine bx_iald (q := 44) (k := (8 * (pa_ T p)) + k) (z := T 158 ((8 * (pa_ T p)) + k)) rfl rfl (rfl) (by omega) (by omega) (congrFun hT.a158 _) ?_
    refine ax_store (q := 46) (L' := [some (am_R 135), some (am_I ((p : Nat) : Int)), some (am_I t), some (am_I ((lk_ T G n p t k).1)), some (am_I ((lk_ T G n p t k).2)), some (am_I ((k : Nat) : Int)), some (am_I (T 158 ((8 * (pa_ T p)) + k)))]) rfl rfl rfl rfl rfl rfl ?_
    refine ax_load (q := 47) rfl rfl rfl rfl rfl ?_
    refine ax_load (q := 48) rfl rfl rfl rfl rfl ?_
    refine ax_load (q := 50) rfl rfl rfl rfl rfl ?_
    refine ax_load (q := 51) rfl rfl rfl rfl rfl ?_
    refine ax_callv (q := 54) rfl rfl rfl rfl rfl rfl ?_
    refine m_isMeant (by omega) hT hV hG hp (by omega) ?_
    refine ax_if_eq (q := 57) (x := 74) rfl rfl (fun h54 => ?_) (fun h54 => ?_)
    · have hb54 := it_0 h54
      refine ax_iinc (q := 77) (z' := ((k + 1 : Nat) : Int)) (L' := [some (am_R 135), some (am_I ((p : Nat) : Int)), some (am_I t), some (am_I ((lk_ T G n p t k).1)), some (am_I ((lk_ T G n p t k).2)), some (am_I ((k + 1 : Nat) : Int)), some (am_I (T 158 ((8 * (pa_ T p)) + k)))]) rfl rfl rfl rfl (am_we (by omega) (by omega) (by omega)) rfl ?_
      refine ax_goto (x := 18) rfl ?_
      have e : lk_ T G n p t (k + 1) = lk_ T G n p t k := by
        show (if im_ T G p k t n && decide ((lk_ T G n p t k).2 < T 158 (8 * pa_ T p + k)) then _ else _) = _
        first | (rw [hb54, Bool.false_and]; rfl) | (rw [decide_eq_false (show ¬ (lk_ T G n p t k).2 < T 158 (8 * pa_ T p + k) by omega), Bool.and_false]; rfl)
      have g := ih (k + 1) (some (am_I (T 158 ((8 * (pa_ T p)) + k)))) (by omega)
      rw [e] at g
      exact g
    · have hb54 := it_n0 h54
      refine ax_load (q := 59) rfl rfl rfl rfl rfl ?_
      refine ax_load (q := 61) rfl rfl rfl rfl rfl ?_
      refine ax_icmp_gt (q := 64) (x := 67) rfl rfl (fun h61 => ?_) (fun h61 => ?_)
      · refine ax_load (q := 69) rfl rfl rfl rfl rfl ?_
        refine ax_store (q := 70) (L' := [some (am_R 135), some (am_I ((p : Nat) : Int)), some (am_I t), some (am_I ((k : Nat) : Int)), some (am_I ((lk_ T G n p t k).2)), some (am_I ((k : Nat) : Int)), some (am_I (T 158 ((8 * (pa_ T p)) + k)))]) rfl rfl rfl rfl rfl rfl ?_
        refine ax_load (q := 72) rfl rfl rfl rfl rfl ?_
        refine ax_store (q := 74) (L' := [some (am_R 135), some (am_I ((p : Nat) : Int)), some (am_I t), some (am_I ((k : Nat) : Int)), some (am_I (T 158 ((8 * (pa_ T p)) + k))), some (am_I ((k : Nat) : Int)), some (am_I (T 158 ((8 * (pa_ T p)) + k)))]) rfl rfl rfl rfl rfl rfl ?_
        refine ax_iinc (q := 77) (z' := ((k + 1 : Nat) : Int)) (L' := [some (am_R 135), some (am_I ((p : Nat) : Int)), some (am_I t), some (am_I ((k : Nat) : Int)), some (am_I (T 158 ((8 * (pa_ T p)) + k))), some (am_I ((k + 1 : Nat) : Int)), some (am_I (T 158 ((8 * (pa_ T p)) + k)))]) rfl rfl rfl rfl (am_we (by omega) (by omega) (by omega)) rfl ?_
        refine ax_goto (x := 18) rfl ?_
        have e : lk_ T G n p t (k + 1) = (((k : Nat) : Int), T 158 ((8 * (pa_ T p)) + k)) := by
          show (if im_ T G p k t n && decide ((lk_ T G n p t k).2 < T 158 (8 * pa_ T p + k)) then _ else _) = _
          rw [hb54, decide_eq_true (by omega)]
          rfl
        have g := ih (k + 1) (some (am_I (T 158 ((8 * (pa_ T p)) + k)))) (by omega)
        rw [e] at g
        exact g
      · refine ax_goto (x := 74) rfl ?_
        refine ax_iinc (q := 77) (z' := ((k + 1 : Nat) : Int)) (L' := [some (am_R 135), some (am_I ((p : Nat) : Int)), some (am_I t), some (am_I ((lk_ T G n p t k).1)), some (am_I ((lk_ T G n p t k).2)), some (am_I ((k + 1 : Nat) : Int)), some (am_I (T 158 ((8 * (pa_ T p)) + k)))]) rfl rfl rfl rfl (am_we (by omega) (by omega) (by omega)) rfl ?_
        refine ax_goto (x := 18) rfl ?_
        have e : lk_ T G n p t (k + 1) = lk_ T G n p t k := by
          show (if im_ T G p k t n && decide ((lk_ T G n p t k).2 < T 158 (8 * pa_ T p + k)) then _ else _) = _
          first | (rw [hb54, Bool.false_and]; rfl) | (rw [decide_eq_false (show ¬ (lk_ T G n p t k).2 < T 158 (8 * pa_ T p + k) by omega), Bool.and_false]; rfl)
        have g := ih (k + 1) (some (am_I (T 158 ((8 * (pa_ T p)) + k)))) (by omega)
        rw [e] at g
        exact g

theorem m_likely {d : Nat} (hd : 3 ≤ d) {σ : am_S} {T : sp_T} (hT : TM_ T σ) (hV : TV_ T) {G : Nat → Nat → Int} {n : Nat} (hG : SG_ G n σ) {a t : Int} {Q : Option am_V → am_S → Prop} (hQ : ∀ σ', fr_ [] σ σ' → Q (some (am_I (F_likely T G n a t))) σ') : am_Ev d 255 [am_R 135, am_I a, am_I t] σ Q := by
  obtain ⟨d, rfl⟩ : ∃ e, d = e + 1 := ⟨d - 1, by omega⟩
  have hO := hV.nO
  refine ev_in (m := 255) (c := k_X9_likely) (L := [some (am_R 135), some (am_I a), some (am_I t), none, none, none, none]) rfl rfl rfl rfl rfl rfl ?_
  refine ax_load (q := 1) rfl rfl rfl rfl rfl ?_
  refine ax_load (q := 2) rfl rfl rfl rfl rfl ?_
  refine ax_callv (q := 5) rfl rfl rfl rfl rfl rfl ?_
  refine m_isPerson (by omega) hT hV ?_
  refine ax_if_ne (q := 8) (x := 10) rfl rfl (fun h5 => ?_) (fun h5 => ?_)
  · have hb5 := it_n0 h5
    obtain ⟨p, rfl, hp⟩ := inr_t hb5
    refine ax_const (q := 11) (v := am_I (-1)) rfl rfl rfl ?_
    refine ax_store (q := 12) (L' := [some (am_R 135), some (am_I ((p : Nat) : Int)), some (am_I t), some (am_I (-1)), none, none, none]) rfl rfl rfl rfl rfl rfl ?_
    refine ax_const (q := 13) (v := am_I 0) rfl rfl rfl ?_
    refine ax_store (q := 15) (L' := [some (am_R 135), some (am_I ((p : Nat) : Int)), some (am_I t), some (am_I (-1)), some (am_I 0), none, none]) rfl rfl rfl rfl rfl rfl ?_
    refine ax_const (q := 16) (v := am_I 0) rfl rfl rfl ?_
    refine ax_store (q := 18) (L' := [some (am_R 135), some (am_I ((p : Nat) : Int)), some (am_I t), some (am_I (-1)), some (am_I 0), some (am_I 0), none]) rfl rfl rfl rfl rfl rfl ?_
    have e : F_likely T G n (p : Int) t = (lk_ T G n p t (nO_ T)).1 := by unfold F_likely inr_; rw [hb5]; rfl
    exact l_likely (by omega) hT hV hG hp (by rw [← e]; exact hQ _ (fr_rf _ _)) (nO_ T) 0 none (by omega)
  · have hb5 := it_0 h5
    refine ax_const (q := 9) (v := am_I (-1)) rfl rfl rfl ?_
    refine ax_ret (r := some (am_I (-1))) rfl rfl ?_
    have e : F_likely T G n a t = (-1) := by unfold F_likely; unfold inr_ at *; simp [*]
    rw [← e]
    exact hQ _ (fr_rf _ _)

theorem l_mostLeft {d : Nat} (hd : 1 ≤ d) {σ : am_S} {T : sp_T} (hT : TM_ T σ) (hV : TV_ T) {s : Nat} (hs : s < 2 ^ 30) {z : Int} {v : Nat} {Q : Option am_V → am_S → Prop} (hQ : aW d 0 k_X9_mostLeft Q 68 [some (am_R 135), some (am_I ((s : Nat) : Int)), some (am_I z), some (am_I ((ml_ T s z v : Nat) : Int)), some (am_I ((v : Nat) : Int)), some (am_I ((ct_ ((nO_ T)) (fun o => s.testBit o && decide (mk_ T o z = (v : Int))) : Nat) : Int)), some (am_I (((nO_ T) : Nat) : Int))] [] σ) : ∀ (m k : Nat), k + m = nO_ T → aW d 0 k_X9_mostLeft Q 18 [some (am_R 135), some (am_I ((s : Nat) : Int)), some (am_I z), some (am_I ((ml_ T s z v : Nat) : Int)), some (am_I ((v : Nat) : Int)), some (am_I ((ct_ k (fun o => s.testBit o && decide (mk_ T o z = (v : Int))) : Nat) : Int)), some (am_I ((k : Nat) : Int))] [] σ := by
  have hn := hV.nO
  intro m
  induction m with
  | zero =>
    intro k hk
    obtain rfl : k = nO_ T := by omega
    refine ax_load (q := 20) rfl rfl rfl rfl rfl ?_
    refine ax_load (q := 21) rfl rfl rfl rfl rfl ?_
    refine ax_getf (q := 24) (v := am_I ((nO_ T : Nat) : Int)) rfl rfl (am_fg rfl (hT.s51.trans hV.nO.1)) ?_
    refine ax_icmp_ge (q := 27) (x := 68) rfl rfl (fun h24 => ?_) (fun h => absurd h (by omega))
    exact hQ
  | succ m ih =>
    intro k hk
    have hc := ct_le (fun o => s.testBit o && decide (mk_ T o z = (v : Int))) k
    refine ax_load (q := 20) rfl rfl rfl rfl rfl ?_
    refine ax_load (q := 21) rfl rfl rfl rfl rfl ?_
    refine ax_getf (q := 24) (v := am_I ((nO_ T : Nat) : Int)) rfl rfl (am_fg rfl (hT.s51.trans hV.nO.1)) ?_
    refine ax_icmp_ge (q := 27) (x := 68) rfl rfl (fun h => absurd h (by omega)) (fun h24 => ?_)
    refine ax_load (q := 29) rfl rfl rfl rfl rfl ?_
    refine ax_load (q := 30) rfl rfl rfl rfl rfl ?_
    refine ax_load (q := 32) rfl rfl rfl rfl rfl ?_
    refine ax_ishr (q := 33) (z := am_shr (s : Int) (k : Int)) rfl rfl (rfl) ?_
    refine ax_const (q := 34) (v := am_I 1) rfl rfl rfl ?_
    refine ax_iand (q := 35) (z := if s.testBit k then 1 else 0) rfl rfl (am_bit (by omega) (by omega)) ?_
    refine ax_const (q := 36) (v := am_I 1) rfl rfl rfl ?_
    refine ax_icmp_ne (q := 39) (x := 55) rfl rfl (fun h36 => ?_) (fun h36 => ?_)
    · have hb36 := it_n1 h36
      refine ax_const (q := 56) (v := am_I 0) rfl rfl rfl ?_
      refine ax_calls (q := 59) rfl rfl rfl rfl rfl ?_
      refine m_truthz (by omega) (Or.inl rfl) ?_
      refine ax_iadd (q := 60) (z := (((ct_ k (fun o => s.testBit o && decide (mk_ T o z = (v : Int)))) + 0 : Nat) : Int)) rfl rfl (am_we (by omega) (by omega) (by omega)) ?_
      refine ax_store (q := 62) (L' := [some (am_R 135), some (am_I ((s : Nat) : Int)), some (am_I z), some (am_I ((ml_ T s z v : Nat) : Int)), some (am_I ((v : Nat) : Int)), some (am_I (((ct_ k (fun o => s.testBit o && decide (mk_ T o z = (v : Int)))) + 0 : Nat) : Int)), some (am_I ((k : Nat) : Int))]) rfl rfl rfl rfl rfl rfl ?_
      refine ax_iinc (q := 65) (z' := ((k + 1 : Nat) : Int)) (L' := [some (am_R 135), some (am_I ((s : Nat) : Int)), some (am_I z), some (am_I ((ml_ T s z v : Nat) : Int)), some (am_I ((v : Nat) : Int)), some (am_I (((ct_ k (fun o => s.testBit o && decide (mk_ T o z = (v : Int)))) + 0 : Nat) : Int)), some (am_I ((k + 1 : Nat) : Int))]) rfl rfl rfl rfl (am_we (by omega) (by omega) (by omega)) rfl ?_
      refine ax_goto (x := 18) rfl ?_
      have e : ct_ (k + 1) (fun o => s.testBit o && decide (mk_ T o z = (v : Int))) = ct_ k (fun o => s.testBit o && decide (mk_ T o z = (v : Int))) + 0 := by
        show ct_ k _ + (if (s.testBit k && decide (mk_ T k z = (v : Int))) = true then 1 else 0) = _
        first | (rw [hb36, Bool.false_and]; rfl) | (rw [decide_eq_false h48, Bool.and_false]; rfl)
      have g := ih (k + 1) (by omega)
      rw [e] at g
      exact g
    · have hb36 := it_1 h36
      refine ax_load (q := 40) rfl rfl rfl rfl rfl ?_
      refine ax_load (q := 42) rfl rfl rfl rfl rfl ?_
      refine ax_load (q := 43) rfl rfl rfl rfl rfl ?_
      refine ax_callv (q := 46) rfl rfl rfl rfl rfl rfl ?_
      refine m_markOf (by omega) hT hV (by omega) ?_
      refine ax_load (q := 48) rfl rfl rfl rfl rfl ?_
      refine ax_icmp_ne (q := 51) (x := 55) rfl rfl (fun h48 => ?_) (fun h48 => ?_)
      · refine ax_const (q := 56) (v := am_I 0) rfl rfl rfl ?_
        refine ax_calls (q := 59) rfl rfl rfl rfl rfl ?_
        refine m_truthz (by omega) (Or.inl rfl) ?_
        refine ax_iadd (q := 60) (z := (((ct_ k (fun o => s.testBit o && decide (mk_ T o z = (v : Int)))) + 0 : Nat) : Int)) rfl rfl (am_we (by omega) (by omega) (by omega)) ?_
        refine ax_store (q := 62) (L' := [some (am_R 135), some (am_I ((s : Nat) : Int)), some (am_I z), some (am_I ((ml_ T s z v : Nat) : Int)), some (am_I ((v : Nat) : Int)), some (am_I (((ct_ k (fun o => s.testBit o && decide (mk_ T o z = (v : Int)))) + 0 : Nat) : Int)), some (am_I ((k : Nat) : Int))]) rfl rfl rfl rfl rfl rfl ?_
        refine ax_iinc (q := 65) (z' := ((k + 1 : Nat) : Int)) (L' := [some (am_R 135), some (am_I ((s : Nat) : Int)), some (am_I z), some (am_I ((ml_ T s z v : Nat) : Int)), some (am_I ((v : Nat) : Int)), some (am_I (((ct_ k (fun o => s.testBit o && decide (mk_ T o z = (v : Int)))) + 0 : Nat) : Int)), some (am_I ((k + 1 : Nat) : Int))]) rfl rfl rfl rfl (am_we (by omega) (by omega) (by omega)) rfl ?_
        refine ax_goto (x := 18) rfl ?_
        have e : ct_ (k + 1) (fun o => s.testBit o && decide (mk_ T o z = (v : Int))) = ct_ k (fun o => s.testBit o && decide (mk_ T o z = (v : Int))) + 0 := by
          show ct_ k _ + (if (s.testBit k && decide (mk_ T k z = (v : Int))) = true then 1 else 0) = _
          first | (rw [hb36, Bool.false_and]; rfl) | (rw [decide_eq_false h48, Bool.and_false]; rfl)
        have g := ih (k + 1) (by omega)
        rw [e] at g
        exact g
      · refine ax_const (q := 52) (v := am_I 1) rfl rfl rfl ?_
        refine ax_goto (x := 56) rfl ?_
        refine ax_calls (q := 59) rfl rfl rfl rfl rfl ?_
        refine m_truthz (by omega) (Or.inr rfl) ?_
        refine ax_iadd (q := 60) (z := (((ct_ k (fun o => s.testBit o && decide (mk_ T o z = (v : Int)))) + 1 : Nat) : Int)) rfl rfl (am_we (by omega) (by omega) (by omega)) ?_
        refine ax_store (q := 62) (L' := [some (am_R 135), some (am_I ((s : Nat) : Int)), some (am_I z), some (am_I ((ml_ T s z v : Nat) : Int)), some (am_I ((v : Nat) : Int)), some (am_I (((ct_ k (fun o => s.testBit o && decide (mk_ T o z = (v : Int)))) + 1 : Nat) : Int)), some (am_I ((k : Nat) : Int))]) rfl rfl rfl rfl rfl rfl ?_
        refine ax_iinc (q := 65) (z' := ((k + 1 : Nat) : Int)) (L' := [some (am_R 135), some (am_I ((s : Nat) : Int)), some (am_I z), some (am_I ((ml_ T s z v : Nat) : Int)), some (am_I ((v : Nat) : Int)), some (am_I (((ct_ k (fun o => s.testBit o && decide (mk_ T o z = (v : Int)))) + 1 : Nat) : Int)), some (am_I ((k + 1 : Nat) : Int))]) rfl rfl rfl rfl (am_we (by omega) (by omega) (by omega)) rfl ?_
        refine ax_goto (x := 18) rfl ?_
        have e : ct_ (k + 1) (fun o => s.testBit o && decide (mk_ T o z = (v : Int))) = ct_ k (fun o => s.testBit o && decide (mk_ T o z = (v : Int))) + 1 := by
          show ct_ k _ + (if (s.testBit k && decide (mk_ T k z = (v : Int))) = true then 1 else 0) = _
          rw [hb36, decide_eq_true h48]
          rfl
        have g := ih (k + 1) (by omega)
        rw [e] at g
        exact g

theorem l_mostLeft2 {d : Nat} (hd : 1 ≤ d) {σ : am_S} {T : sp_T} (hT : TM_ T σ) (hV : TV_ T) {s : Nat} (hs : s < 2 ^ 30) {z : Int} {Q : Option am_V → am_S → Prop} (hQ : Q (some (am_I ((ml_ T s z 10 : Nat) : Int))) σ) : ∀ (m v : Nat) (o5 o6 : Option am_V), v + m = 10 → aW d 0 k_X9_mostLeft Q 5 [some (am_R 135), some (am_I ((s : Nat) : Int)), some (am_I z), some (am_I ((ml_ T s z v : Nat) : Int)), some (am_I ((v : Nat) : Int)), o5, o6] [] σ := by
  have hn := hV.nO
  intro m
  induction m with
  | zero =>
    intro v o5 o6 hk
    obtain rfl : v = 10 := by omega
    refine ax_load (q := 7) rfl rfl rfl rfl rfl ?_
    refine ax_const (q := 9) (v := am_I 9) rfl rfl rfl ?_
    refine ax_icmp_gt (q := 12) (x := 87) rfl rfl (fun h9 => ?_) (fun h => absurd h (by omega))
    refine ax_load (q := 88) rfl rfl rfl rfl rfl ?_
    refine ax_ret (r := some (am_I ((ml_ T s z 10 : Nat) : Int))) rfl rfl ?_
    exact hQ
  | succ m ih =>
    intro v o5 o6 hk
    refine ax_load (q := 7) rfl rfl rfl rfl rfl ?_
    refine ax_const (q := 9) (v := am_I 9) rfl rfl rfl ?_
    refine ax_icmp_gt (q := 12) (x := 87) rfl rfl (fun h => absurd h (by omega)) (fun h9 => ?_)
    refine ax_const (q := 13) (v := am_I 0) rfl rfl rfl ?_
    refine ax_store (q := 15) (L' := [some (am_R 135), some (am_I ((s : Nat) : Int)), some (am_I z), some (am_I ((ml_ T s z v : Nat) : Int)), some (am_I ((v : Nat) : Int)), some (am_I 0), o6]) rfl rfl rfl rfl rfl rfl ?_
    refine ax_const (q := 16) (v := am_I 0) rfl rfl rfl ?_
    refine ax_store (q := 18) (L' := [some (am_R 135), some (am_I ((s : Nat) : Int)), some (am_I z), some (am_I ((ml_ T s z v : Nat) : Int)), some (am_I ((v : Nat) : Int)), some (am_I 0), some (am_I 0)]) rfl rfl rfl rfl rfl rfl ?_
    refine l_mostLeft (by omega) hT hV hs ?_ (nO_ T) 0 (by omega)
    refine ax_load (q := 70) rfl rfl rfl rfl rfl ?_
    refine ax_load (q := 71) rfl rfl rfl rfl rfl ?_
    refine ax_icmp_le (q := 74) (x := 79) rfl rfl (fun h71 => ?_) (fun h71 => ?_)
    · refine ax_load (q := 80) rfl rfl rfl rfl rfl ?_
      refine ax_store (q := 81) (L' := [some (am_R 135), some (am_I ((s : Nat) : Int)), some (am_I z), some (am_I ((ml_ T s z v : Nat) : Int)), some (am_I ((v : Nat) : Int)), some (am_I ((ct_ (nO_ T) (fun o => s.testBit o && decide (mk_ T o z = (v : Int))) : Nat) : Int)), some (am_I ((nO_ T : Nat) : Int))]) rfl rfl rfl rfl rfl rfl ?_
      refine ax_iinc (q := 84) (z' := ((v + 1 : Nat) : Int)) (L' := [some (am_R 135), some (am_I ((s : Nat) : Int)), some (am_I z), some (am_I ((ml_ T s z v : Nat) : Int)), some (am_I ((v + 1 : Nat) : Int)), some (am_I ((ct_ (nO_ T) (fun o => s.testBit o && decide (mk_ T o z = (v : Int))) : Nat) : Int)), some (am_I ((nO_ T : Nat) : Int))]) rfl rfl rfl rfl (am_we (by omega) (by omega) (by omega)) rfl ?_
      refine ax_goto (x := 5) rfl ?_
      have e : ml_ T s z (v + 1) = ml_ T s z v := by show (if ml_ T s z v < ct_ (nO_ T) (fun o => s.testBit o && decide (mk_ T o z = (v : Int))) then ct_ (nO_ T) (fun o => s.testBit o && decide (mk_ T o z = (v : Int))) else ml_ T s z v) = _; first | rw [if_pos (by omega)] | rw [if_neg (by omega)]
      have g := ih (v + 1) (some (am_I ((ct_ (nO_ T) (fun o => s.testBit o && decide (mk_ T o z = (v : Int))) : Nat) : Int))) (some (am_I ((nO_ T : Nat) : Int))) (by omega)
      rw [e] at g
      exact g
    · refine ax_load (q := 76) rfl rfl rfl rfl rfl ?_
      refine ax_goto (x := 80) rfl ?_
      refine ax_store (q := 81) (L' := [some (am_R 135), some (am_I ((s : Nat) : Int)), some (am_I z), some (am_I ((ct_ (nO_ T) (fun o => s.testBit o && decide (mk_ T o z = (v : Int))) : Nat) : Int)), some (am_I ((v : Nat) : Int)), some (am_I ((ct_ (nO_ T) (fun o => s.testBit o && decide (mk_ T o z = (v : Int))) : Nat) : Int)), some (am_I ((nO_ T : Nat) : Int))]) rfl rfl rfl rfl rfl rfl ?_
      refine ax_iinc (q := 84) (z' := ((v + 1 : Nat) : Int)) (L' := [some (am_R 135), some (am_I ((s : Nat) : Int)), some (am_I z), some (am_I ((ct_ (nO_ T) (fun o => s.testBit o && decide (mk_ T o z = (v : Int))) : Nat) : Int)), some (am_I ((v + 1 : Nat) : Int)), some (am_I ((ct_ (nO_ T) (fun o => s.testBit o && decide (mk_ T o z = (v : Int))) : Nat) : Int)), some (am_I ((nO_ T : Nat) : Int))]) rfl rfl rfl rfl (am_we (by omega) (by omega) (by omega)) rfl ?_
      refine ax_goto (x := 5) rfl ?_
      have e : ml_ T s z (v + 1) = ct_ (nO_ T) (fun o => s.testBit o && decide (mk_ T o z = (v : Int))) := by show (if ml_ T s z v < ct_ (nO_ T) (fun o => s.testBit o && decide (mk_ T o z = (v : Int))) then ct_ (nO_ T) (fun o => s.testBit o && decide (mk_ T o z = (v : Int))) else ml_ T s z v) = _; first | rw [if_pos (by omega)] | rw [if_neg (by omega)]
      have g := ih (v + 1) (some (am_I ((ct_ (nO_ T) (fun o => s.testBit o && decide (mk_ T o z = (v : Int))) : Nat) : Int))) (some (am_I ((nO_ T : Nat) : Int))) (by omega)
      rw [e] at g
      exact g

theorem m_mostLeft {d : Nat} (hd : 2 ≤ d) {σ : am_S} {T : sp_T} (hT : TM_ T σ) (hV : TV_ T) {s : Nat} (hs : s < 2 ^ 30) {z : Int} {Q : Option am_V → am_S → Prop} (hQ : Q (some (am_I ((ml_ T s z 10 : Nat) : Int))) σ) : am_Ev d 256 [am_R 135, am_I ((s : Nat) : Int), am_I z] σ Q := by
  obtain ⟨d, rfl⟩ : ∃ e, d = e + 1 := ⟨d - 1, by omega⟩
  refine ev_in (m := 256) (c := k_X9_mostLeft) (L := [some (am_R 135), some (am_I ((s : Nat) : Int)), some (am_I z), none, none, none, none]) rfl rfl rfl rfl rfl rfl ?_
  refine ax_const (q := 1) (v := am_I 0) rfl rfl rfl ?_
  refine ax_store (q := 2) (L' := [some (am_R 135), some (am_I ((s : Nat) : Int)), some (am_I z), some (am_I 0), none, none, none]) rfl rfl rfl rfl rfl rfl ?_
  refine ax_const (q := 3) (v := am_I 0) rfl rfl rfl ?_
  refine ax_store (q := 5) (L' := [some (am_R 135), some (am_I ((s : Nat) : Int)), some (am_I z), some (am_I 0), some (am_I 0), none, none]) rfl rfl rfl rfl rfl rfl ?_
  exact l_mostLeft2 (by omega) hT hV hs hQ 10 0 none none (by omega)

theorem F_meant_in {T : sp_T} (hV : TV_ T) {G : Nat → Nat → Int} {n : Nat} {a t : Int} (h : 0 < F_meant T G n a t) : F_meant T G n a t = (ms_ T G n a.toNat t : Int) ∧ ms_ T G n a.toNat t < 2 ^ 30 := by
  unfold F_meant at *
  split at h
  · next q =>
    rw [if_pos q]
    refine ⟨rfl, Nat.lt_of_lt_of_le (bi_lt _ _) (Nat.pow_le_pow_right (by decide) (by have := hV.nO; omega))⟩
  · omega

theorem l_ask {d : Nat} (hd : 2 ≤ d) {σ : am_S} {T : sp_T} (hT : TM_ T σ) (hV : TV_ T) {s : Nat} (hs : s < 2 ^ 30) {a k t : Int} {Q : Option am_V → am_S → Prop} (hQ : Q (some (am_I (if k = 0 then (ab_ T s : Int) else (ml_ T s (ab_ T s : Int) 10 : Int)))) σ) : aW d 0 k_X9_ask Q 24 [some (am_R 135), some (am_I a), some (am_I k), some (am_I t), some (am_I ((s : Nat) : Int)), none, none] [] σ := by
  refine ax_const (q := 25) (v := am_I 0) rfl rfl rfl ?_
  refine ax_store (q := 27) (L' := [some (am_R 135), some (am_I a), some (am_I k), some (am_I t), some (am_I ((s : Nat) : Int)), some (am_I 0), none]) rfl rfl rfl rfl rfl rfl ?_
  refine ax_const (q := 28) (v := am_I 1) rfl rfl rfl ?_
  refine ax_store (q := 30) (L' := [some (am_R 135), some (am_I a), some (am_I k), some (am_I t), some (am_I ((s : Nat) : Int)), some (am_I 0), some (am_I 1)]) rfl rfl rfl rfl rfl rfl ?_
  refine ax_load (q := 32) rfl rfl rfl rfl rfl ?_
  refine ax_const (q := 33) (v := am_I 3) rfl rfl rfl ?_
  refine ax_icmp_ge (q := 36) (x := 70) rfl rfl (fun h => absurd h (by omega)) (fun h33 => ?_)
  refine ax_load (q := 37) rfl rfl rfl rfl rfl ?_
  refine ax_load (q := 39) rfl rfl rfl rfl rfl ?_
  refine ax_load (q := 41) rfl rfl rfl rfl rfl ?_
  refine ax_callv (q := 44) rfl rfl rfl rfl rfl rfl ?_
  refine m_mostLeft (by omega) hT hV hs (z := 1) ?_
  refine ax_load (q := 45) rfl rfl rfl rfl rfl ?_
  refine ax_load (q := 47) rfl rfl rfl rfl rfl ?_
  refine ax_load (q := 49) rfl rfl rfl rfl rfl ?_
  refine ax_callv (q := 52) rfl rfl rfl rfl rfl rfl ?_
  refine m_mostLeft (by omega) hT hV hs (z := 0) ?_
  refine ax_icmp_ge (q := 55) (x := 60) rfl rfl (fun h52 => ?_) (fun h52 => ?_)
  · refine ax_load (q := 62) rfl rfl rfl rfl rfl ?_
    refine ax_store (q := 64) (L' := [some (am_R 135), some (am_I a), some (am_I k), some (am_I t), some (am_I ((s : Nat) : Int)), some (am_I 0), some (am_I 1)]) rfl rfl rfl rfl rfl rfl ?_
    refine ax_iinc (q := 67) (z' := ((2 : Nat) : Int)) (L' := [some (am_R 135), some (am_I a), some (am_I k), some (am_I t), some (am_I ((s : Nat) : Int)), some (am_I 0), some (am_I ((2 : Nat) : Int))]) rfl rfl rfl rfl (am_we (by omega) (by omega) (by omega)) rfl ?_
    refine ax_goto (x := 30) rfl ?_
    refine ax_load (q := 32) rfl rfl rfl rfl rfl ?_
    refine ax_const (q := 33) (v := am_I 3) rfl rfl rfl ?_
    refine ax_icmp_ge (q := 36) (x := 70) rfl rfl (fun h => absurd h (by omega)) (fun h33 => ?_)
    refine ax_load (q := 37) rfl rfl rfl rfl rfl ?_
    refine ax_load (q := 39) rfl rfl rfl rfl rfl ?_
    refine ax_load (q := 41) rfl rfl rfl rfl rfl ?_
    refine ax_callv (q := 44) rfl rfl rfl rfl rfl rfl ?_
    refine m_mostLeft (by omega) hT hV hs (z := 2) ?_
    refine ax_load (q := 45) rfl rfl rfl rfl rfl ?_
    refine ax_load (q := 47) rfl rfl rfl rfl rfl ?_
    refine ax_load (q := 49) rfl rfl rfl rfl rfl ?_
    refine ax_callv (q := 52) rfl rfl rfl rfl rfl rfl ?_
    refine m_mostLeft (by omega) hT hV hs (z := 0) ?_
    refine ax_icmp_ge (q := 55) (x := 60) rfl rfl (fun h52 => ?_) (fun h52 => ?_)
    · refine ax_load (q := 62) rfl rfl rfl rfl rfl ?_
      refine ax_store (q := 64) (L' := [some (am_R 135), some (am_I a), some (am_I k), some (am_I t), some (am_I ((s : Nat) : Int)), some (am_I 0), some (am_I ((2 : Nat) : Int))]) rfl rfl rfl rfl rfl rfl ?_
      refine ax_iinc (q := 67) (z' := ((3 : Nat) : Int)) (L' := [some (am_R 135), some (am_I a), some (am_I k), some (am_I t), some (am_I ((s : Nat) : Int)), some (am_I 0), some (am_I ((3 : Nat) : Int))]) rfl rfl rfl rfl (am_we (by omega) (by omega) (by omega)) rfl ?_
      refine ax_goto (x := 30) rfl ?_
      refine ax_load (q := 32) rfl rfl rfl rfl rfl ?_
      refine ax_const (q := 33) (v := am_I 3) rfl rfl rfl ?_
      refine ax_icmp_ge (q := 36) (x := 70) rfl rfl (fun h33 => ?_) (fun h => absurd h (by omega))
      refine ax_load (q := 71) rfl rfl rfl rfl rfl ?_
      refine ax_if_ne (q := 74) (x := 79) rfl rfl (fun h71 => ?_) (fun h71 => ?_)
      · refine ax_load (q := 80) rfl rfl rfl rfl rfl ?_
        refine ax_load (q := 82) rfl rfl rfl rfl rfl ?_
        refine ax_load (q := 84) rfl rfl rfl rfl rfl ?_
        refine ax_callv (q := 87) rfl rfl rfl rfl rfl rfl ?_
        refine m_mostLeft (by omega) hT hV hs (z := 0) ?_
        refine ax_ret (r := some (am_I ((ml_ T s 0 10 : Nat) : Int))) rfl rfl ?_
        have e : ab_ T s = 0 := by
          unfold ab_
          by_cases q1 : ml_ T s 1 10 < ml_ T s 0 10
          · simp only [if_pos q1]
            by_cases q2 : ml_ T s 2 10 < ml_ T s 1 10
            · first | (exfalso; omega) | simp only [if_pos q2]
            · first | (exfalso; omega) | simp only [if_neg q2]
          · simp only [if_neg q1]
            by_cases q2 : ml_ T s 2 10 < ml_ T s 0 10
            · first | (exfalso; omega) | simp only [if_pos q2]
            · first | (exfalso; omega) | simp only [if_neg q2]
        rw [e] at hQ
        first | (rw [if_pos h71] at hQ; exact hQ) | (rw [if_neg h71] at hQ; exact hQ)
      · refine ax_load (q := 76) rfl rfl rfl rfl rfl ?_
        refine ax_goto (x := 87) rfl ?_
        refine ax_ret (r := some (am_I 0)) rfl rfl ?_
        have e : ab_ T s = 0 := by
          unfold ab_
          by_cases q1 : ml_ T s 1 10 < ml_ T s 0 10
          · simp only [if_pos q1]
            by_cases q2 : ml_ T s 2 10 < ml_ T s 1 10
            · first | (exfalso; omega) | simp only [if_pos q2]
            · first | (exfalso; omega) | simp only [if_neg q2]
          · simp only [if_neg q1]
            by_cases q2 : ml_ T s 2 10 < ml_ T s 0 10
            · first | (exfalso; omega) | simp only [if_pos q2]
            · first | (exfalso; omega) | simp only [if_neg q2]
        rw [e] at hQ
        first | (rw [if_pos h71] at hQ; exact hQ) | (rw [if_neg h71] at hQ; exact hQ)
    · refine ax_load (q := 57) rfl rfl rfl rfl rfl ?_
      refine ax_goto (x := 62) rfl ?_
      refine ax_store (q := 64) (L' := [some (am_R 135), some (am_I a), some (am_I k), some (am_I t), some (am_I ((s : Nat) : Int)), some (am_I ((2 : Nat) : Int)), some (am_I ((2 : Nat) : Int))]) rfl rfl rfl rfl rfl rfl ?_
      refine ax_iinc (q := 67) (z' := ((3 : Nat) : Int)) (L' := [some (am_R 135), some (am_I a), some (am_I k), some (am_I t), some (am_I ((s : Nat) : Int)), some (am_I ((2 : Nat) : Int)), some (am_I ((3 : Nat) : Int))]) rfl rfl rfl rfl (am_we (by omega) (by omega) (by omega)) rfl ?_
      refine ax_goto (x := 30) rfl ?_
      refine ax_load (q := 32) rfl rfl rfl rfl rfl ?_
      refine ax_const (q := 33) (v := am_I 3) rfl rfl rfl ?_
      refine ax_icmp_ge (q := 36) (x := 70) rfl rfl (fun h33 => ?_) (fun h => absurd h (by omega))
      refine ax_load (q := 71) rfl rfl rfl rfl rfl ?_
      refine ax_if_ne (q := 74) (x := 79) rfl rfl (fun h71 => ?_) (fun h71 => ?_)
      · refine ax_load (q := 80) rfl rfl rfl rfl rfl ?_
        refine ax_load (q := 82) rfl rfl rfl rfl rfl ?_
        refine ax_load (q := 84) rfl rfl rfl rfl rfl ?_
        refine ax_callv (q := 87) rfl rfl rfl rfl rfl rfl ?_
        refine m_mostLeft (by omega) hT hV hs (z := 2) ?_
        refine ax_ret (r := some (am_I ((ml_ T s 2 10 : Nat) : Int))) rfl rfl ?_
        have e : ab_ T s = 2 := by
          unfold ab_
          by_cases q1 : ml_ T s 1 10 < ml_ T s 0 10
          · simp only [if_pos q1]
            by_cases q2 : ml_ T s 2 10 < ml_ T s 1 10
            · first | (exfalso; omega) | simp only [if_pos q2]
            · first | (exfalso; omega) | simp only [if_neg q2]
          · simp only [if_neg q1]
            by_cases q2 : ml_ T s 2 10 < ml_ T s 0 10
            · first | (exfalso; omega) | simp only [if_pos q2]
            · first | (exfalso; omega) | simp only [if_neg q2]
        rw [e] at hQ
        first | (rw [if_pos h71] at hQ; exact hQ) | (rw [if_neg h71] at hQ; exact hQ)
      · refine ax_load (q := 76) rfl rfl rfl rfl rfl ?_
        refine ax_goto (x := 87) rfl ?_
        refine ax_ret (r := some (am_I ((2 : Nat) : Int))) rfl rfl ?_
        have e : ab_ T s = 2 := by
          unfold ab_
          by_cases q1 : ml_ T s 1 10 < ml_ T s 0 10
          · simp only [if_pos q1]
            by_cases q2 : ml_ T s 2 10 < ml_ T s 1 10
            · first | (exfalso; omega) | simp only [if_pos q2]
            · first | (exfalso; omega) | simp only [if_neg q2]
          · simp only [if_neg q1]
            by_cases q2 : ml_ T s 2 10 < ml_ T s 0 10
            · first | (exfalso; omega) | simp only [if_pos q2]
            · first | (exfalso; omega) | simp only [if_neg q2]
        rw [e] at hQ
        first | (rw [if_pos h71] at hQ; exact hQ) | (rw [if_neg h71] at hQ; exact hQ)
  · refine ax_load (q := 57) rfl rfl rfl rfl rfl ?_
    refine ax_goto (x := 62) rfl ?_
    refine ax_store (q := 64) (L' := [some (am_R 135), some (am_I a), some (am_I k), some (am_I t), some (am_I ((s : Nat) : Int)), some (am_I 1), some (am_I 1)]) rfl rfl rfl rfl rfl rfl ?_
    refine ax_iinc (q := 67) (z' := ((2 : Nat) : Int)) (L' := [some (am_R 135), some (am_I a), some (am_I k), some (am_I t), some (am_I ((s : Nat) : Int)), some (am_I 1), some (am_I ((2 : Nat) : Int))]) rfl rfl rfl rfl (am_we (by omega) (by omega) (by omega)) rfl ?_
    refine ax_goto (x := 30) rfl ?_
    refine ax_load (q := 32) rfl rfl rfl rfl rfl ?_
    refine ax_const (q := 33) (v := am_I 3) rfl rfl rfl ?_
    refine ax_icmp_ge (q := 36) (x := 70) rfl rfl (fun h => absurd h (by omega)) (fun h33 => ?_)
    refine ax_load (q := 37) rfl rfl rfl rfl rfl ?_
    refine ax_load (q := 39) rfl rfl rfl rfl rfl ?_
    refine ax_load (q := 41) rfl rfl rfl rfl rfl ?_
    refine ax_callv (q := 44) rfl rfl rfl rfl rfl rfl ?_
    refine m_mostLeft (by omega) hT hV hs (z := 2) ?_
    refine ax_load (q := 45) rfl rfl rfl rfl rfl ?_
    refine ax_load (q := 47) rfl rfl rfl rfl rfl ?_
    refine ax_load (q := 49) rfl rfl rfl rfl rfl ?_
    refine ax_callv (q := 52) rfl rfl rfl rfl rfl rfl ?_
    refine m_mostLeft (by omega) hT hV hs (z := 1) ?_
    refine ax_icmp_ge (q := 55) (x := 60) rfl rfl (fun h52 => ?_) (fun h52 => ?_)
    · refine ax_load (q := 62) rfl rfl rfl rfl rfl ?_
      refine ax_store (q := 64) (L' := [some (am_R 135), some (am_I a), some (am_I k), some (am_I t), some (am_I ((s : Nat) : Int)), some (am_I 1), some (am_I ((2 : Nat) : Int))]) rfl rfl rfl rfl rfl rfl ?_
      refine ax_iinc (q := 67) (z' := ((3 : Nat) : Int)) (L' := [some (am_R 135), some (am_I a), some (am_I k), some (am_I t), some (am_I ((s : Nat) : Int)), some (am_I 1), some (am_I ((3 : Nat) : Int))]) rfl rfl rfl rfl (am_we (by omega) (by omega) (by omega)) rfl ?_
      refine ax_goto (x := 30) rfl ?_
      refine ax_load (q := 32) rfl rfl rfl rfl rfl ?_
      refine ax_const (q := 33) (v := am_I 3) rfl rfl rfl ?_
      refine ax_icmp_ge (q := 36) (x := 70) rfl rfl (fun h33 => ?_) (fun h => absurd h (by omega))
      refine ax_load (q := 71) rfl rfl rfl rfl rfl ?_
      refine ax_if_ne (q := 74) (x := 79) rfl rfl (fun h71 => ?_) (fun h71 => ?_)
      · refine ax_load (q := 80) rfl rfl rfl rfl rfl ?_
        refine ax_load (q := 82) rfl rfl rfl rfl rfl ?_
        refine ax_load (q := 84) rfl rfl rfl rfl rfl ?_
        refine ax_callv (q := 87) rfl rfl rfl rfl rfl rfl ?_
        refine m_mostLeft (by omega) hT hV hs (z := 1) ?_
        refine ax_ret (r := some (am_I ((ml_ T s 1 10 : Nat) : Int))) rfl rfl ?_
        have e : ab_ T s = 1 := by
          unfold ab_
          by_cases q1 : ml_ T s 1 10 < ml_ T s 0 10
          · simp only [if_pos q1]
            by_cases q2 : ml_ T s 2 10 < ml_ T s 1 10
            · first | (exfalso; omega) | simp only [if_pos q2]
            · first | (exfalso; omega) | simp only [if_neg q2]
          · simp only [if_neg q1]
            by_cases q2 : ml_ T s 2 10 < ml_ T s 0 10
            · first | (exfalso; omega) | simp only [if_pos q2]
            · first | (exfalso; omega) | simp only [if_neg q2]
        rw [e] at hQ
        first | (rw [if_pos h71] at hQ; exact hQ) | (rw [if_neg h71] at hQ; exact hQ)
      · refine ax_load (q := 76) rfl rfl rfl rfl rfl ?_
        refine ax_goto (x := 87) rfl ?_
        refine ax_ret (r := some (am_I 1)) rfl rfl ?_
        have e : ab_ T s = 1 := by
          unfold ab_
          by_cases q1 : ml_ T s 1 10 < ml_ T s 0 10
          · simp only [if_pos q1]
            by_cases q2 : ml_ T s 2 10 < ml_ T s 1 10
            · first | (exfalso; omega) | simp only [if_pos q2]
            · first | (exfalso; omega) | simp only [if_neg q2]
          · simp only [if_neg q1]
            by_cases q2 : ml_ T s 2 10 < ml_ T s 0 10
            · first | (exfalso; omega) | simp only [if_pos q2]
            · first | (exfalso; omega) | simp only [if_neg q2]
        rw [e] at hQ
        first | (rw [if_pos h71] at hQ; exact hQ) | (rw [if_neg h71] at hQ; exact hQ)
    · refine ax_load (q := 57) rfl rfl rfl rfl rfl ?_
      refine ax_goto (x := 62) rfl ?_
      refine ax_store (q := 64) (L' := [some (am_R 135), some (am_I a), some (am_I k), some (am_I t), some (am_I ((s : Nat) : Int)), some (am_I ((2 : Nat) : Int)), some (am_I ((2 : Nat) : Int))]) rfl rfl rfl rfl rfl rfl ?_
      refine ax_iinc (q := 67) (z' := ((3 : Nat) : Int)) (L' := [some (am_R 135), some (am_I a), some (am_I k), some (am_I t), some (am_I ((s : Nat) : Int)), some (am_I ((2 : Nat) : Int)), some (am_I ((3 : Nat) : Int))]) rfl rfl rfl rfl (am_we (by omega) (by omega) (by omega)) rfl ?_
      refine ax_goto (x := 30) rfl ?_
      refine ax_load (q := 32) rfl rfl rfl rfl rfl ?_
      refine ax_const (q := 33) (v := am_I 3) rfl rfl rfl ?_
      refine ax_icmp_ge (q := 36) (x := 70) rfl rfl (fun h33 => ?_) (fun h => absurd h (by omega))
      refine ax_load (q := 71) rfl rfl rfl rfl rfl ?_
      refine ax_if_ne (q := 74) (x := 79) rfl rfl (fun h71 => ?_) (fun h71 => ?_)
      · refine ax_load (q := 80) rfl rfl rfl rfl rfl ?_
        refine ax_load (q := 82) rfl rfl rfl rfl rfl ?_
        refine ax_load (q := 84) rfl rfl rfl rfl rfl ?_
        refine ax_callv (q := 87) rfl rfl rfl rfl rfl rfl ?_
        refine m_mostLeft (by omega) hT hV hs (z := 2) ?_
        refine ax_ret (r := some (am_I ((ml_ T s 2 10 : Nat) : Int))) rfl rfl ?_
        have e : ab_ T s = 2 := by
          unfold ab_
          by_cases q1 : ml_ T s 1 10 < ml_ T s 0 10
          · simp only [if_pos q1]
            by_cases q2 : ml_ T s 2 10 < ml_ T s 1 10
            · first | (exfalso; omega) | simp only [if_pos q2]
            · first | (exfalso; omega) | simp only [if_neg q2]
          · simp only [if_neg q1]
            by_cases q2 : ml_ T s 2 10 < ml_ T s 0 10
            · first | (exfalso; omega) | simp only [if_pos q2]
            · first | (exfalso; omega) | simp only [if_neg q2]
        rw [e] at hQ
        first | (rw [if_pos h71] at hQ; exact hQ) | (rw [if_neg h71] at hQ; exact hQ)
      · refine ax_load (q := 76) rfl rfl rfl rfl rfl ?_
        refine ax_goto (x := 87) rfl ?_
        refine ax_ret (r := some (am_I ((2 : Nat) : Int))) rfl rfl ?_
        have e : ab_ T s = 2 := by
          unfold ab_
          by_cases q1 : ml_ T s 1 10 < ml_ T s 0 10
          · simp only [if_pos q1]
            by_cases q2 : ml_ T s 2 10 < ml_ T s 1 10
            · first | (exfalso; omega) | simp only [if_pos q2]
            · first | (exfalso; omega) | simp only [if_neg q2]
          · simp only [if_neg q1]
            by_cases q2 : ml_ T s 2 10 < ml_ T s 0 10
            · first | (exfalso; omega) | simp only [if_pos q2]
            · first | (exfalso; omega) | simp only [if_neg q2]
        rw [e] at hQ
        first | (rw [if_pos h71] at hQ; exact hQ) | (rw [if_neg h71] at hQ; exact hQ)

theorem m_ask {d : Nat} (hd : 4 ≤ d) {σ : am_S} {T : sp_T} (hT : TM_ T σ) (hV : TV_ T) {G : Nat → Nat → Int} {n : Nat} (hG : SG_ G n σ) {a k t : Int} {Q : Option am_V → am_S → Prop} (hQ : ∀ σ', fr_ [] σ σ' → Q (some (am_I (F_ask T G n a k t))) σ') : am_Ev d 257 [am_R 135, am_I a, am_I k, am_I t] σ Q := by
  obtain ⟨d, rfl⟩ : ∃ e, d = e + 1 := ⟨d - 1, by omega⟩
  have hO := hV.nO
  refine ev_in (m := 257) (c := k_X9_ask) (L := [some (am_R 135), some (am_I a), some (am_I k), some (am_I t), none, none, none]) rfl rfl rfl rfl rfl rfl ?_
  refine ax_load (q := 1) rfl rfl rfl rfl rfl ?_
  refine ax_load (q := 2) rfl rfl rfl rfl rfl ?_
  refine ax_load (q := 3) rfl rfl rfl rfl rfl ?_
  refine ax_callv (q := 6) rfl rfl rfl rfl rfl rfl ?_
  refine m_meant (by omega) hT hV hG (fun σ1 hf1 => ?_)
  obtain rfl : σ1 = σ := Prod.ext (funext fun j => hf1.1 j (by simp)) hf1.2
  refine ax_store (q := 8) (L' := [some (am_R 135), some (am_I a), some (am_I k), some (am_I t), some (am_I (F_meant T G n a t)), none, none]) rfl rfl rfl rfl rfl rfl ?_
  refine ax_load (q := 9) rfl rfl rfl rfl rfl ?_
  refine ax_const (q := 10) (v := am_I 0) rfl rfl rfl ?_
  refine ax_const (q := 11) (v := am_I 1) rfl rfl rfl ?_
  refine ax_calls (q := 14) rfl rfl rfl rfl rfl ?_
  refine m_isIn (by omega) ?_
  refine ax_if_eq (q := 17) (x := 22) rfl rfl (fun h14 => ?_) (fun h14 => ?_)
  · have hb14 := it_0 h14
    refine ax_const (q := 23) (v := am_I (-1)) rfl rfl rfl ?_
    refine ax_ret (r := some (am_I (-1))) rfl rfl ?_
    have e : F_ask T G n a k t = -1 := by unfold F_ask; first | (rw [hb14, Bool.false_and]; rfl) | (rw [decide_eq_false (show ¬ 0 < F_meant T G n a t by omega), Bool.and_false]; rfl)
    rw [← e]
    exact hQ _ (fr_rf _ _)
  · have hb14 := it_n0 h14
    refine ax_load (q := 19) rfl rfl rfl rfl rfl ?_
    refine ax_if_gt (q := 22) (x := 24) rfl rfl (fun h19 => ?_) (fun h19 => ?_)
    · obtain ⟨e1, e2⟩ := F_meant_in hV h19
      have e : F_ask T G n a k t = (if k = 0 then (ab_ T (ms_ T G n a.toNat t) : Int) else (ml_ T (ms_ T G n a.toNat t) (ab_ T (ms_ T G n a.toNat t) : Int) 10 : Int)) := by unfold F_ask; rw [hb14, decide_eq_true h19]; rfl
      rw [e1]
      exact l_ask (by omega) hT hV e2 (by rw [← e]; exact hQ _ (fr_rf _ _))
    · refine ax_const (q := 23) (v := am_I (-1)) rfl rfl rfl ?_
      refine ax_ret (r := some (am_I (-1))) rfl rfl ?_
      have e : F_ask T G n a k t = -1 := by unfold F_ask; first | (rw [hb14, Bool.false_and]; rfl) | (rw [decide_eq_false (show ¬ 0 < F_meant T G n a t by omega), Bool.and_false]; rfl)
      rw [← e]
      exact hQ _ (fr_rf _ _)

def sg_ (σ : am_S) (n : Nat) (a b c e t : Int) : am_S := am_sI (am_sI (am_sI (am_sI (am_sI (am_sI (am_sI σ 170 (am_up (σ.1 170) n a)) 171 (am_up (σ.1 171) n b)) 172 (am_up (σ.1 172) n c)) 175 (am_up (σ.1 175) n e)) 173 (am_up (σ.1 173) n t)) 174 (am_up (σ.1 174) n (-1))) 135 (am_up (σ.1 135) 77 ((n + 1 : Nat) : Int))

theorem m_sign {d : Nat} (hd : 3 ≤ d) {σ : am_S} {T : sp_T} (hT : TM_ T σ) (hV : TV_ T) {G : Nat → Nat → Int} {n : Nat} (hG : SG_ G n σ) {t : Int} (ht : σ.1 135 78 = t) {a b c e : Int} (he : e = 0 ∨ e = 1) {Q : Option am_V → am_S → Prop} (hN : (inr_ (nP_ T) a && (decide (0 ≤ b ∧ b ≤ 2) && (decide (0 ≤ c ∧ c ≤ 9) && decide (¬ n = 30)))) = false → Q (some (am_I (-1))) σ) (hY : (inr_ (nP_ T) a && (decide (0 ≤ b ∧ b ≤ 2) && (decide (0 ≤ c ∧ c ≤ 9) && decide (¬ n = 30)))) = true → Q (some (am_I ((n : Nat) : Int))) (sg_ σ n a b c e t)) : am_Ev d 249 [am_R 135, am_I a, am_I b, am_I c, am_I e] σ Q := by
  obtain ⟨d, rfl⟩ : ∃ e, d = e + 1 := ⟨d - 1, by omega⟩
  obtain ⟨hgn, hn30, ⟨hg0, hg1, hg2, hg3, hg4, hg5⟩, hgv⟩ := hG
  have h6 := hV.nP
  refine ev_in (m := 249) (c := k_X9_sign) (L := [some (am_R 135), some (am_I a), some (am_I b), some (am_I c), some (am_I e)]) rfl rfl rfl rfl rfl rfl ?_
  refine ax_load (q := 1) rfl rfl rfl rfl rfl ?_
  refine ax_load (q := 2) rfl rfl rfl rfl rfl ?_
  refine ax_callv (q := 5) rfl rfl rfl rfl rfl rfl ?_
  refine m_isPerson (by omega) hT hV ?_
  refine ax_if_eq (q := 8) (x := 36) rfl rfl (fun h5 => ?_) (fun h5 => ?_)
  · have hb5 := it_0 h5
    refine ax_const (q := 37) (v := am_I (-1)) rfl rfl rfl ?_
    refine ax_ret (r := some (am_I (-1))) rfl rfl ?_
    exact hN (by unfold inr_; first | (rw [hb5]; rfl) | (rw [hb14, Bool.false_and, Bool.and_false]) | (rw [hb24, Bool.false_and, Bool.and_false, Bool.and_false]) | (rw [hb33, Bool.and_false, Bool.and_false, Bool.and_false]))
  · have hb5 := it_n0 h5
    refine ax_load (q := 9) rfl rfl rfl rfl rfl ?_
    refine ax_const (q := 10) (v := am_I 0) rfl rfl rfl ?_
    refine ax_const (q := 11) (v := am_I 2) rfl rfl rfl ?_
    refine ax_calls (q := 14) rfl rfl rfl rfl rfl ?_
    refine m_isIn (by omega) ?_
    refine ax_if_eq (q := 17) (x := 36) rfl rfl (fun h14 => ?_) (fun h14 => ?_)
    · have hb14 := it_0 h14
      refine ax_const (q := 37) (v := am_I (-1)) rfl rfl rfl ?_
      refine ax_ret (r := some (am_I (-1))) rfl rfl ?_
      exact hN (by unfold inr_; first | (rw [hb5]; rfl) | (rw [hb14, Bool.false_and, Bool.and_false]) | (rw [hb24, Bool.false_and, Bool.and_false, Bool.and_false]) | (rw [hb33, Bool.and_false, Bool.and_false, Bool.and_false]))
    · have hb14 := it_n0 h14
      refine ax_load (q := 18) rfl rfl rfl rfl rfl ?_
      refine ax_const (q := 19) (v := am_I 0) rfl rfl rfl ?_
      refine ax_const (q := 21) (v := am_I 9) rfl rfl rfl ?_
      refine ax_calls (q := 24) rfl rfl rfl rfl rfl ?_
      refine m_isIn (by omega) ?_
      refine ax_if_eq (q := 27) (x := 36) rfl rfl (fun h24 => ?_) (fun h24 => ?_)
      · have hb24 := it_0 h24
        refine ax_const (q := 37) (v := am_I (-1)) rfl rfl rfl ?_
        refine ax_ret (r := some (am_I (-1))) rfl rfl ?_
        exact hN (by unfold inr_; first | (rw [hb5]; rfl) | (rw [hb14, Bool.false_and, Bool.and_false]) | (rw [hb24, Bool.false_and, Bool.and_false, Bool.and_false]) | (rw [hb33, Bool.and_false, Bool.and_false, Bool.and_false]))
      · have hb24 := it_n0 h24
        refine ax_load (q := 28) rfl rfl rfl rfl rfl ?_
        refine ax_getf (q := 31) (v := am_I ((n : Nat) : Int)) rfl rfl (am_fg rfl hgn) ?_
        refine ax_const (q := 33) (v := am_I 30) rfl rfl rfl ?_
        refine ax_icmp_ne (q := 36) (x := 38) rfl rfl (fun h33 => ?_) (fun h33 => ?_)
        · have hb33 : decide (¬ n = 30) = true := decide_eq_true (by omega)
          refine ax_load (q := 39) rfl rfl rfl rfl rfl ?_
          refine ax_getf (q := 42) (v := am_R 170) rfl rfl (rfl) ?_
          refine ax_load (q := 43) rfl rfl rfl rfl rfl ?_
          refine ax_getf (q := 46) (v := am_I ((n : Nat) : Int)) rfl rfl (am_fg rfl hgn) ?_
          refine ax_load (q := 47) rfl rfl rfl rfl rfl ?_
          refine bx_iast (q := 48) (k := n) rfl rfl (rfl) (by omega) (by omega) ?_
          refine ax_load (q := 49) rfl rfl rfl rfl rfl ?_
          refine ax_getf (q := 52) (v := am_R 171) rfl rfl (rfl) ?_
          refine ax_load (q := 53) rfl rfl rfl rfl rfl ?_
          refine ax_getf (q := 56) (v := am_I ((n : Nat) : Int)) rfl rfl (am_fg rfl ((congrFun (by simp only [sI_ne (show (135 : Nat) ≠ 170 by decide), sI_ne (show (135 : Nat) ≠ 171 by decide), sI_ne (show (135 : Nat) ≠ 172 by decide), sI_ne (show (135 : Nat) ≠ 173 by decide), sI_ne (show (135 : Nat) ≠ 174 by decide), sI_ne (show (135 : Nat) ≠ 175 by decide)]) 77).trans hgn)) ?_
          refine ax_load (q := 57) rfl rfl rfl rfl rfl ?_
          refine bx_iast (q := 58) (k := n) rfl rfl (rfl) (by omega) (by omega) ?_
          refine ax_load (q := 59) rfl rfl rfl rfl rfl ?_
          refine ax_getf (q := 62) (v := am_R 172) rfl rfl (rfl) ?_
          refine ax_load (q := 63) rfl rfl rfl rfl rfl ?_
          refine ax_getf (q := 66) (v := am_I ((n : Nat) : Int)) rfl rfl (am_fg rfl ((congrFun (by simp only [sI_ne (show (135 : Nat) ≠ 170 by decide), sI_ne (show (135 : Nat) ≠ 171 by decide), sI_ne (show (135 : Nat) ≠ 172 by decide), sI_ne (show (135 : Nat) ≠ 173 by decide), sI_ne (show (135 : Nat) ≠ 174 by decide), sI_ne (show (135 : Nat) ≠ 175 by decide)]) 77).trans hgn)) ?_
          refine ax_load (q := 67) rfl rfl rfl rfl rfl ?_
          refine bx_iast (q := 68) (k := n) rfl rfl (rfl) (by omega) (by omega) ?_
          refine ax_load (q := 69) rfl rfl rfl rfl rfl ?_
          refine ax_getf (q := 72) (v := am_R 175) rfl rfl (rfl) ?_
          refine ax_load (q := 73) rfl rfl rfl rfl rfl ?_
          refine ax_getf (q := 76) (v := am_I ((n : Nat) : Int)) rfl rfl (am_fg rfl ((congrFun (by simp only [sI_ne (show (135 : Nat) ≠ 170 by decide), sI_ne (show (135 : Nat) ≠ 171 by decide), sI_ne (show (135 : Nat) ≠ 172 by decide), sI_ne (show (135 : Nat) ≠ 173 by decide), sI_ne (show (135 : Nat) ≠ 174 by decide), sI_ne (show (135 : Nat) ≠ 175 by decide)]) 77).trans hgn)) ?_
          refine ax_load (q := 78) rfl rfl rfl rfl rfl ?_
          refine bx_zast (q := 79) (k := n) rfl rfl (rfl) (by omega) (by omega) (he) ?_
          refine ax_load (q := 80) rfl rfl rfl rfl rfl ?_
          refine ax_getf (q := 83) (v := am_R 173) rfl rfl (rfl) ?_
          refine ax_load (q := 84) rfl rfl rfl rfl rfl ?_
          refine ax_getf (q := 87) (v := am_I ((n : Nat) : Int)) rfl rfl (am_fg rfl ((congrFun (by simp only [sI_ne (show (135 : Nat) ≠ 170 by decide), sI_ne (show (135 : Nat) ≠ 171 by decide), sI_ne (show (135 : Nat) ≠ 172 by decide), sI_ne (show (135 : Nat) ≠ 173 by decide), sI_ne (show (135 : Nat) ≠ 174 by decide), sI_ne (show (135 : Nat) ≠ 175 by decide)]) 77).trans hgn)) ?_
          refine ax_load (q := 88) rfl rfl rfl rfl rfl ?_
          refine ax_getf (q := 91) (v := am_I t) rfl rfl (am_fg rfl ((congrFun (by simp only [sI_ne (show (135 : Nat) ≠ 170 by decide), sI_ne (show (135 : Nat) ≠ 171 by decide), sI_ne (show (135 : Nat) ≠ 172 by decide), sI_ne (show (135 : Nat) ≠ 173 by decide), sI_ne (show (135 : Nat) ≠ 174 by decide), sI_ne (show (135 : Nat) ≠ 175 by decide)]) 78).trans ht)) ?_
          refine bx_iast (q := 92) (k := n) rfl rfl (rfl) (by omega) (by omega) ?_
          refine ax_load (q := 93) rfl rfl rfl rfl rfl ?_
          refine ax_getf (q := 96) (v := am_R 174) rfl rfl (rfl) ?_
          refine ax_load (q := 97) rfl rfl rfl rfl rfl ?_
          refine ax_getf (q := 100) (v := am_I ((n : Nat) : Int)) rfl rfl (am_fg rfl ((congrFun (by simp only [sI_ne (show (135 : Nat) ≠ 170 by decide), sI_ne (show (135 : Nat) ≠ 171 by decide), sI_ne (show (135 : Nat) ≠ 172 by decide), sI_ne (show (135 : Nat) ≠ 173 by decide), sI_ne (show (135 : Nat) ≠ 174 by decide), sI_ne (show (135 : Nat) ≠ 175 by decide)]) 77).trans hgn)) ?_
          refine ax_const (q := 101) (v := am_I (-1)) rfl rfl rfl ?_
          refine bx_iast (q := 102) (k := n) rfl rfl (rfl) (by omega) (by omega) ?_
          refine ax_load (q := 103) rfl rfl rfl rfl rfl ?_
          refine ax_dup (q := 104) rfl rfl rfl ?_
          refine ax_getf (q := 107) (v := am_I ((n : Nat) : Int)) rfl rfl (am_fg rfl ((congrFun (by simp only [sI_ne (show (135 : Nat) ≠ 170 by decide), sI_ne (show (135 : Nat) ≠ 171 by decide), sI_ne (show (135 : Nat) ≠ 172 by decide), sI_ne (show (135 : Nat) ≠ 173 by decide), sI_ne (show (135 : Nat) ≠ 174 by decide), sI_ne (show (135 : Nat) ≠ 175 by decide)]) 77).trans hgn)) ?_
          refine ax_const (q := 108) (v := am_I 1) rfl rfl rfl ?_
          refine ax_iadd (q := 109) (z := ((n + 1 : Nat) : Int)) rfl rfl (am_we (by omega) (by omega) (by omega)) ?_
          refine ax_putf (q := 112) rfl rfl rfl ?_
          refine ax_load (q := 113) rfl rfl rfl rfl rfl ?_
          refine ax_getf (q := 116) (v := am_I ((n + 1 : Nat) : Int)) rfl rfl (am_fg rfl (by rw [sI_at, am_up_same])) ?_
          refine ax_const (q := 117) (v := am_I 1) rfl rfl rfl ?_
          refine ax_isub (q := 118) (z := ((n : Nat) : Int)) rfl rfl (am_we (by omega) (by omega) (by omega)) ?_
          refine ax_ret (r := some (am_I ((n : Nat) : Int))) rfl rfl ?_
          have g := hY (by unfold inr_; rw [hb5, hb14, hb24, hb33]; rfl)
          refine Eq.mp (congrArg (fun s => Q _ s) ?_) g
          unfold sg_
          simp only [sI_ne (show (135 : Nat) ≠ 170 by decide), sI_ne (show (135 : Nat) ≠ 171 by decide), sI_ne (show (135 : Nat) ≠ 172 by decide), sI_ne (show (135 : Nat) ≠ 173 by decide), sI_ne (show (135 : Nat) ≠ 174 by decide), sI_ne (show (135 : Nat) ≠ 175 by decide), sI_ne (show (171 : Nat) ≠ 170 by decide), sI_ne (show (172 : Nat) ≠ 170 by decide), sI_ne (show (172 : Nat) ≠ 171 by decide), sI_ne (show (175 : Nat) ≠ 170 by decide), sI_ne (show (175 : Nat) ≠ 171 by decide), sI_ne (show (175 : Nat) ≠ 172 by decide), sI_ne (show (173 : Nat) ≠ 170 by decide), sI_ne (show (173 : Nat) ≠ 171 by decide), sI_ne (show (173 : Nat) ≠ 172 by decide), sI_ne (show (173 : Nat) ≠ 175 by decide), sI_ne (show (174 : Nat) ≠ 170 by decide), sI_ne (show (174 : Nat) ≠ 171 by decide), sI_ne (show (174 : Nat) ≠ 172 by decide), sI_ne (show (174 : Nat) ≠ 173 by decide), sI_ne (show (174 : Nat) ≠ 175 by decide)]
        · have hb33 : decide (¬ n = 30) = false := decide_eq_false (by omega)
          refine ax_const (q := 37) (v := am_I (-1)) rfl rfl rfl ?_
          refine ax_ret (r := some (am_I (-1))) rfl rfl ?_
          exact hN (by unfold inr_; first | (rw [hb5]; rfl) | (rw [hb14, Bool.false_and, Bool.and_false]) | (rw [hb24, Bool.false_and, Bool.and_false, Bool.and_false]) | (rw [hb33, Bool.and_false, Bool.and_false, Bool.and_false]))

theorem m_isBox {d : Nat} (hd : 1 ≤ d) {σ : am_S} {a : Int} {Q : Option am_V → am_S → Prop} (hQ : Q (some (am_I (if inr_ 3 a then 1 else 0))) σ) : am_Ev d 258 [am_I a] σ Q := by
  obtain ⟨d, rfl⟩ : ∃ e, d = e + 1 := ⟨d - 1, by omega⟩
  refine ev_in (m := 258) (c := k_X9_isBox) (L := [some (am_I a)]) rfl rfl rfl rfl rfl rfl ?_
  refine ax_load (q := 1) rfl rfl rfl rfl rfl ?_
  refine ax_if_lt (q := 4) (x := 13) rfl rfl (fun h1 => ?_) (fun h1 => ?_)
  · refine ax_const (q := 14) (v := am_I 0) rfl rfl rfl ?_
    refine ax_ret (r := some (am_I 0)) rfl ⟨rfl, Or.inl rfl⟩ ?_
    have e : inr_ 3 a = false := by unfold inr_; exact decide_eq_false (by omega)
    rw [e] at hQ
    exact hQ
  · refine ax_load (q := 5) rfl rfl rfl rfl rfl ?_
    refine ax_const (q := 6) (v := am_I 3) rfl rfl rfl ?_
    refine ax_icmp_ge (q := 9) (x := 13) rfl rfl (fun h6 => ?_) (fun h6 => ?_)
    · refine ax_const (q := 14) (v := am_I 0) rfl rfl rfl ?_
      refine ax_ret (r := some (am_I 0)) rfl ⟨rfl, Or.inl rfl⟩ ?_
      have e : inr_ 3 a = false := by unfold inr_; exact decide_eq_false (by omega)
      rw [e] at hQ
      exact hQ
    · refine ax_const (q := 10) (v := am_I 1) rfl rfl rfl ?_
      refine ax_goto (x := 14) rfl ?_
      refine ax_ret (r := some (am_I 1)) rfl ⟨rfl, Or.inr rfl⟩ ?_
      have e : inr_ 3 a = true := by unfold inr_; exact decide_eq_true (by omega)
      rw [e] at hQ
      exact hQ

theorem l_image {d : Nat} {σ : am_S} {b : Nat} (hb : b < 3) {Q : Option am_V → am_S → Prop} (hQ : aW d 0 k_X9_image Q 47 [some (am_R 135), some (am_I ((b : Nat) : Int)), some (am_I ((50 : Nat) : Int))] [] (am_sI (am_sI σ 176 (am_up (σ.1 176) b 1)) 177 (cd_ (σ.1 163) (σ.1 177) (50 * b) 50))) : ∀ (m k : Nat), k + m = 50 → aW d 0 k_X9_image Q 18 [some (am_R 135), some (am_I ((b : Nat) : Int)), some (am_I ((k : Nat) : Int))] [] (am_sI (am_sI σ 176 (am_up (σ.1 176) b 1)) 177 (cd_ (σ.1 163) (σ.1 177) (50 * b) k)) := by
  intro m
  induction m with
  | zero =>
    intro k hk
    obtain rfl : k = 50 := by omega
    refine ax_load (q := 19) rfl rfl rfl rfl rfl ?_
    refine ax_const (q := 21) (v := am_I 50) rfl rfl rfl ?_
    refine ax_icmp_ge (q := 24) (x := 47) rfl rfl (fun h21 => ?_) (fun h => absurd h (by omega))
    exact hQ
  | succ m ih =>
    intro k hk
    refine ax_load (q := 19) rfl rfl rfl rfl rfl ?_
    refine ax_const (q := 21) (v := am_I 50) rfl rfl rfl ?_
    refine ax_icmp_ge (q := 24) (x := 47) rfl rfl (fun h => absurd h (by omega)) (fun h21 => ?_)
    refine ax_load (q := 25) rfl rfl rfl rfl rfl ?_
    refine ax_getf (q := 28) (v := am_R 177) rfl rfl (rfl) ?_
    refine ax_const (q := 30) (v := am_I 50) rfl rfl rfl ?_
    refine ax_load (q := 31) rfl rfl rfl rfl rfl ?_
    refine ax_imul (q := 32) (z := ((50 * b : Nat) : Int)) rfl rfl (am_we (by omega) (by omega) (by omega)) ?_
    refine ax_load (q := 33) rfl rfl rfl rfl rfl ?_
    refine ax_iadd (q := 34) (z := (((50 * b) + k : Nat) : Int)) rfl rfl (am_we (by omega) (by omega) (by omega)) ?_
    refine ax_load (q := 35) rfl rfl rfl rfl rfl ?_
    refine ax_getf (q := 38) (v := am_R 163) rfl rfl (rfl) ?_
    refine ax_load (q := 39) rfl rfl rfl rfl rfl ?_
    refine bx_iald (q := 40) (k := k) (z := σ.1 163 k) rfl rfl (rfl) (by omega) (by omega) (congrFun ((sI_ne (by decide)).trans (sI_ne (by decide))) _) ?_
    refine bx_iast (q := 41) (k := (50 * b) + k) rfl rfl (rfl) (by omega) (by omega) ?_
    refine ax_iinc (q := 44) (z' := ((k + 1 : Nat) : Int)) (L' := [some (am_R 135), some (am_I ((b : Nat) : Int)), some (am_I ((k + 1 : Nat) : Int))]) rfl rfl rfl rfl (am_we (by omega) (by omega) (by omega)) rfl ?_
    refine ax_goto (x := 18) rfl ?_
    have g := ih (k + 1) (by omega)
    rw [← cd_step] at g
    rw [sI_sI, sI_at]
    exact g

theorem m_image {d : Nat} (hd : 2 ≤ d) {σ : am_S} {a : Int} {Q : Option am_V → am_S → Prop} (hN : inr_ 3 a = false → Q (some (am_I (-1))) σ) (hY : ∀ b : Nat, a = (b : Int) → b < 3 → Q (some (am_I (σ.1 163 49))) (am_sI (am_sI σ 176 (am_up (σ.1 176) b 1)) 177 (cd_ (σ.1 163) (σ.1 177) (50 * b) 50))) : am_Ev d 259 [am_R 135, am_I a] σ Q := by
  obtain ⟨d, rfl⟩ : ∃ e, d = e + 1 := ⟨d - 1, by omega⟩
  refine ev_in (m := 259) (c := k_X9_image) (L := [some (am_R 135), some (am_I a), none]) rfl rfl rfl rfl rfl rfl ?_
  refine ax_load (q := 1) rfl rfl rfl rfl rfl ?_
  refine ax_calls (q := 4) rfl rfl rfl rfl rfl ?_
  refine m_isBox (by omega) ?_
  refine ax_if_ne (q := 7) (x := 9) rfl rfl (fun h4 => ?_) (fun h4 => ?_)
  · have hb4 := it_n0 h4
    obtain ⟨b, rfl, hb⟩ := inr_t hb4
    refine ax_load (q := 10) rfl rfl rfl rfl rfl ?_
    refine ax_getf (q := 13) (v := am_R 176) rfl rfl (rfl) ?_
    refine ax_load (q := 14) rfl rfl rfl rfl rfl ?_
    refine ax_const (q := 15) (v := am_I 1) rfl rfl rfl ?_
    refine bx_zast (q := 16) (k := b) rfl rfl (rfl) (by omega) (by omega) (Or.inr rfl) ?_
    refine ax_const (q := 17) (v := am_I 0) rfl rfl rfl ?_
    refine ax_store (q := 18) (L' := [some (am_R 135), some (am_I ((b : Nat) : Int)), some (am_I 0)]) rfl rfl rfl rfl rfl rfl ?_
    have g := l_image (d := d) (σ := σ) (Q := Q) hb ?_ 50 0 (by omega)
    · rw [cd_0, ← sI_ne (show (177 : Nat) ≠ 176 by decide) (σ := σ) (f := am_up (σ.1 176) b 1), sI_id] at g
      exact g
    refine ax_load (q := 48) rfl rfl rfl rfl rfl ?_
    refine ax_getf (q := 51) (v := am_R 163) rfl rfl (rfl) ?_
    refine ax_const (q := 53) (v := am_I 49) rfl rfl rfl ?_
    refine bx_iald (q := 54) (k := 49) (z := σ.1 163 49) rfl rfl (rfl) (by omega) (by omega) (congrFun ((sI_ne (by decide)).trans (sI_ne (by decide))) _) ?_
    refine ax_ret (r := some (am_I (σ.1 163 49))) rfl rfl ?_
    exact hY b rfl hb
  · have hb4 := it_0 h4
    refine ax_const (q := 8) (v := am_I (-1)) rfl rfl rfl ?_
    refine ax_ret (r := some (am_I (-1))) rfl rfl ?_
    exact hN hb4

theorem l_back {d : Nat} {σ : am_S} {b : Nat} (hb : b < 3) {Q : Option am_V → am_S → Prop} (hQ : aW d 0 k_X9_back Q 49 [some (am_R 135), some (am_I ((b : Nat) : Int)), some (am_I ((50 : Nat) : Int))] [] (am_sI σ 163 (cp_ (fun j => σ.1 177 (50 * b + j)) (σ.1 163) 50))) : ∀ (m k : Nat), k + m = 50 → aW d 0 k_X9_back Q 20 [some (am_R 135), some (am_I ((b : Nat) : Int)), some (am_I ((k : Nat) : Int))] [] (am_sI σ 163 (cp_ (fun j => σ.1 177 (50 * b + j)) (σ.1 163) k)) := by
  intro m
  induction m with
  | zero =>
    intro k hk
    obtain rfl : k = 50 := by omega
    refine ax_load (q := 21) rfl rfl rfl rfl rfl ?_
    refine ax_const (q := 23) (v := am_I 50) rfl rfl rfl ?_
    refine ax_icmp_ge (q := 26) (x := 49) rfl rfl (fun h23 => ?_) (fun h => absurd h (by omega))
    exact hQ
  | succ m ih =>
    intro k hk
    refine ax_load (q := 21) rfl rfl rfl rfl rfl ?_
    refine ax_const (q := 23) (v := am_I 50) rfl rfl rfl ?_
    refine ax_icmp_ge (q := 26) (x := 49) rfl rfl (fun h => absurd h (by omega)) (fun h23 => ?_)
    refine ax_load (q := 27) rfl rfl rfl rfl rfl ?_
    refine ax_getf (q := 30) (v := am_R 163) rfl rfl (rfl) ?_
    refine ax_load (q := 31) rfl rfl rfl rfl rfl ?_
    refine ax_load (q := 32) rfl rfl rfl rfl rfl ?_
    refine ax_getf (q := 35) (v := am_R 177) rfl rfl (rfl) ?_
    refine ax_const (q := 37) (v := am_I 50) rfl rfl rfl ?_
    refine ax_load (q := 38) rfl rfl rfl rfl rfl ?_
    refine ax_imul (q := 39) (z := ((50 * b : Nat) : Int)) rfl rfl (am_we (by omega) (by omega) (by omega)) ?_
    refine ax_load (q := 40) rfl rfl rfl rfl rfl ?_
    refine ax_iadd (q := 41) (z := (((50 * b) + k : Nat) : Int)) rfl rfl (am_we (by omega) (by omega) (by omega)) ?_
    refine bx_iald (q := 42) (k := (50 * b) + k) (z := σ.1 177 (50 * b + k)) rfl rfl (rfl) (by omega) (by omega) (congrFun (sI_ne (by decide)) _) ?_
    refine bx_iast (q := 43) (k := k) rfl rfl (rfl) (by omega) (by omega) ?_
    refine ax_iinc (q := 46) (z' := ((k + 1 : Nat) : Int)) (L' := [some (am_R 135), some (am_I ((b : Nat) : Int)), some (am_I ((k + 1 : Nat) : Int))]) rfl rfl rfl rfl (am_we (by omega) (by omega) (by omega)) rfl ?_
    refine ax_goto (x := 20) rfl ?_
    have g := ih (k + 1) (by omega)
    rw [← cp_step] at g
    rw [sI_sI, sI_at]
    exact g

def bk_ (σ : am_S) (b : Nat) : am_S := am_sI (am_sI σ 163 (cp_ (fun j => σ.1 177 (50 * b + j)) (σ.1 163) 50)) 135 (am_up (am_up (σ.1 135) 64 0) 65 0)

theorem m_back {d : Nat} (hd : 2 ≤ d) {σ : am_S} {a : Int} (h176 : ∀ b, b < 3 → σ.1 176 b = 0 ∨ σ.1 176 b = 1) {Q : Option am_V → am_S → Prop} (hN : (inr_ 3 a && decide (σ.1 176 a.toNat = 1)) = false → Q (some (am_I (-1))) σ) (hY : ∀ b : Nat, a = (b : Int) → b < 3 → σ.1 176 b = 1 → Q (some (am_I (σ.1 177 (50 * b + 49)))) (bk_ σ b)) : am_Ev d 260 [am_R 135, am_I a] σ Q := by
  obtain ⟨d, rfl⟩ : ∃ e, d = e + 1 := ⟨d - 1, by omega⟩
  refine ev_in (m := 260) (c := k_X9_back) (L := [some (am_R 135), some (am_I a), none]) rfl rfl rfl rfl rfl rfl ?_
  refine ax_load (q := 1) rfl rfl rfl rfl rfl ?_
  refine ax_calls (q := 4) rfl rfl rfl rfl rfl ?_
  refine m_isBox (by omega) ?_
  refine ax_if_eq (q := 7) (x := 16) rfl rfl (fun h4 => ?_) (fun h4 => ?_)
  · have hb4 := it_0 h4
    refine ax_const (q := 17) (v := am_I (-1)) rfl rfl rfl ?_
    refine ax_ret (r := some (am_I (-1))) rfl rfl ?_
    exact hN (by first | (rw [hb4]; rfl) | (rw [hb4, Bool.true_and]; exact decide_eq_false (by rw [Int.toNat_natCast]; omega)))
  · have hb4 := it_n0 h4
    obtain ⟨b, rfl, hb⟩ := inr_t hb4
    refine ax_load (q := 8) rfl rfl rfl rfl rfl ?_
    refine ax_getf (q := 11) (v := am_R 176) rfl rfl (rfl) ?_
    refine ax_load (q := 12) rfl rfl rfl rfl rfl ?_
    refine bx_bald (q := 13) (k := b) (z := σ.1 176 b) rfl rfl (Or.inr rfl) (by omega) (by omega) (rfl) ?_
    refine ax_if_ne (q := 16) (x := 18) rfl rfl (fun h13 => ?_) (fun h13 => ?_)
    · refine ax_const (q := 19) (v := am_I 0) rfl rfl rfl ?_
      refine ax_store (q := 20) (L' := [some (am_R 135), some (am_I ((b : Nat) : Int)), some (am_I 0)]) rfl rfl rfl rfl rfl rfl ?_
      have h1 : σ.1 176 b = 1 := by have := h176 b hb; omega
      have g := l_back (d := d) (σ := σ) (Q := Q) hb ?_ 50 0 (by omega)
      · rw [cp_0, sI_id] at g
        exact g
      refine ax_load (q := 50) rfl rfl rfl rfl rfl ?_
      refine ax_const (q := 51) (v := am_I 0) rfl rfl rfl ?_
      refine ax_putf (q := 54) rfl rfl rfl ?_
      refine ax_load (q := 55) rfl rfl rfl rfl rfl ?_
      refine ax_const (q := 56) (v := am_I 0) rfl rfl rfl ?_
      refine ax_putf (q := 59) rfl rfl rfl ?_
      refine ax_load (q := 60) rfl rfl rfl rfl rfl ?_
      refine ax_getf (q := 63) (v := am_R 163) rfl rfl (rfl) ?_
      refine ax_const (q := 65) (v := am_I 49) rfl rfl rfl ?_
      refine bx_iald (q := 66) (k := 49) (z := σ.1 177 (50 * b + 49)) rfl rfl (rfl) (by omega) (by omega) ((congrFun ((sI_ne (by decide)).trans ((sI_ne (by decide)).trans (sI_at _ _ _))) _).trans (cp_at (by decide))) ?_
      refine ax_ret (r := some (am_I (σ.1 177 (50 * b + 49)))) rfl rfl ?_
      refine Eq.mp (congrArg (fun s => Q _ s) ?_) (hY b rfl hb h1)
      unfold bk_
      simp only [sI_sI, sI_at, sI_ne (show (135 : Nat) ≠ 163 by decide)]
    · refine ax_const (q := 17) (v := am_I (-1)) rfl rfl rfl ?_
      refine ax_ret (r := some (am_I (-1))) rfl rfl ?_
      exact hN (by first | (rw [hb4]; rfl) | (rw [hb4, Bool.true_and]; exact decide_eq_false (by rw [Int.toNat_natCast]; omega)))

def F_about (σ : am_S) (k : Int) : Int := if k = 0 then σ.1 135 53 else if k = 1 then σ.1 135 50 else if k = 2 then σ.1 135 51 else if k = 3 then σ.1 135 52 else if k = 4 then σ.1 135 54 else if k = 5 then σ.1 163 49 else if k = 6 then σ.1 135 56 else if k = 7 then σ.1 135 55 else if k = 8 then σ.1 135 64 else if k = 9 then σ.1 135 65 else if k = 10 then σ.1 135 77 else if k = 11 then σ.1 135 78 else if k = 12 then σ.1 135 1 else if k = 13 then σ.1 135 21 else if k = 14 then σ.1 135 68 else -1

theorem m_about {d : Nat} (hd : 1 ≤ d) {σ : am_S} {k : Int} {Q : Option am_V → am_S → Prop} (hQ : Q (some (am_I (F_about σ k))) σ) : am_Ev d 261 [am_R 135, am_I k] σ Q := by
  obtain ⟨d, rfl⟩ : ∃ e, d = e + 1 := ⟨d - 1, by omega⟩
  refine ev_in (m := 261) (c := k_X9_about) (L := [some (am_R 135), some (am_I k)]) rfl rfl rfl rfl rfl rfl ?_
  refine ax_load (q := 1) rfl rfl rfl rfl rfl ?_
  by_cases hk : k = 0 ∨ k = 1 ∨ k = 2 ∨ k = 3 ∨ k = 4 ∨ k = 5 ∨ k = 6 ∨ k = 7 ∨ k = 8 ∨ k = 9 ∨ k = 10 ∨ k = 11 ∨ k = 12 ∨ k = 13 ∨ k = 14
  rcases hk with rfl | rfl | rfl | rfl | rfl | rfl | rfl | rfl | rfl | rfl | rfl | rfl | rfl | rfl | rfl
  · refine ax_tsw (q := 76) rfl (by decide) ?_
    refine ax_load (q := 77) rfl rfl rfl rfl rfl ?_
    refine ax_getf (q := 80) (v := am_I (σ.1 135 53)) rfl rfl (rfl) ?_
    refine ax_ret (r := some (am_I (σ.1 135 53))) rfl rfl ?_
    refine Eq.mp (congrArg (fun z => Q (some (am_I z)) σ) ?_) hQ
    unfold F_about
    first | rfl | simp [*]
  · refine ax_tsw (q := 81) rfl (by decide) ?_
    refine ax_load (q := 82) rfl rfl rfl rfl rfl ?_
    refine ax_getf (q := 85) (v := am_I (σ.1 135 50)) rfl rfl (rfl) ?_
    refine ax_ret (r := some (am_I (σ.1 135 50))) rfl rfl ?_
    refine Eq.mp (congrArg (fun z => Q (some (am_I z)) σ) ?_) hQ
    unfold F_about
    first | rfl | simp [*]
  · refine ax_tsw (q := 86) rfl (by decide) ?_
    refine ax_load (q := 87) rfl rfl rfl rfl rfl ?_
    refine ax_getf (q := 90) (v := am_I (σ.1 135 51)) rfl rfl (rfl) ?_
    refine ax_ret (r := some (am_I (σ.1 135 51))) rfl rfl ?_
    refine Eq.mp (congrArg (fun z => Q (some (am_I z)) σ) ?_) hQ
    unfold F_about
    first | rfl | simp [*]
  · refine ax_tsw (q := 91) rfl (by decide) ?_
    refine ax_load (q := 92) rfl rfl rfl rfl rfl ?_
    refine ax_getf (q := 95) (v := am_I (σ.1 135 52)) rfl rfl (rfl) ?_
    refine ax_ret (r := some (am_I (σ.1 135 52))) rfl rfl ?_
    refine Eq.mp (congrArg (fun z => Q (some (am_I z)) σ) ?_) hQ
    unfold F_about
    first | rfl | simp [*]
  · refine ax_tsw (q := 96) rfl (by decide) ?_
    refine ax_load (q := 97) rfl rfl rfl rfl rfl ?_
    refine ax_getf (q := 100) (v := am_I (σ.1 135 54)) rfl rfl (rfl) ?_
    refine ax_ret (r := some (am_I (σ.1 135 54))) rfl rfl ?_
    refine Eq.mp (congrArg (fun z => Q (some (am_I z)) σ) ?_) hQ
    unfold F_about
    first | rfl | simp [*]
  · refine ax_tsw (q := 101) rfl (by decide) ?_
    refine ax_load (q := 102) rfl rfl rfl rfl rfl ?_
    refine ax_getf (q := 105) (v := am_R 163) rfl rfl (rfl) ?_
    refine ax_const (q := 107) (v := am_I 49) rfl rfl rfl ?_
    refine bx_iald (q := 108) (k := 49) (z := σ.1 163 49) rfl rfl (rfl) (by omega) (by omega) (rfl) ?_
    refine ax_ret (r := some (am_I (σ.1 163 49))) rfl rfl ?_
    refine Eq.mp (congrArg (fun z => Q (some (am_I z)) σ) ?_) hQ
    unfold F_about
    first | rfl | simp [*]
  · refine ax_tsw (q := 109) rfl (by decide) ?_
    refine ax_load (q := 110) rfl rfl rfl rfl rfl ?_
    refine ax_getf (q := 113) (v := am_I (σ.1 135 56)) rfl rfl (rfl) ?_
    refine ax_ret (r := some (am_I (σ.1 135 56))) rfl rfl ?_
    refine Eq.mp (congrArg (fun z => Q (some (am_I z)) σ) ?_) hQ
    unfold F_about
    first | rfl | simp [*]
  · refine ax_tsw (q := 114) rfl (by decide) ?_
    refine ax_load (q := 115) rfl rfl rfl rfl rfl ?_
    refine ax_getf (q := 118) (v := am_I (σ.1 135 55)) rfl rfl (rfl) ?_
    refine ax_ret (r := some (am_I (σ.1 135 55))) rfl rfl ?_
    refine Eq.mp (congrArg (fun z => Q (some (am_I z)) σ) ?_) hQ
    unfold F_about
    first | rfl | simp [*]
  · refine ax_tsw (q := 119) rfl (by decide) ?_
    refine ax_load (q := 120) rfl rfl rfl rfl rfl ?_
    refine ax_getf (q := 123) (v := am_I (σ.1 135 64)) rfl rfl (rfl) ?_
    refine ax_ret (r := some (am_I (σ.1 135 64))) rfl rfl ?_
    refine Eq.mp (congrArg (fun z => Q (some (am_I z)) σ) ?_) hQ
    unfold F_about
    first | rfl | simp [*]
  · refine ax_tsw (q := 124) rfl (by decide) ?_
    refine ax_load (q := 125) rfl rfl rfl rfl rfl ?_
    refine ax_getf (q := 128) (v := am_I (σ.1 135 65)) rfl rfl (rfl) ?_
    refine ax_ret (r := some (am_I (σ.1 135 65))) rfl rfl ?_
    refine Eq.mp (congrArg (fun z => Q (some (am_I z)) σ) ?_) hQ
    unfold F_about
    first | rfl | simp [*]
  · refine ax_tsw (q := 129) rfl (by decide) ?_
    refine ax_load (q := 130) rfl rfl rfl rfl rfl ?_
    refine ax_getf (q := 133) (v := am_I (σ.1 135 77)) rfl rfl (rfl) ?_
    refine ax_ret (r := some (am_I (σ.1 135 77))) rfl rfl ?_
    refine Eq.mp (congrArg (fun z => Q (some (am_I z)) σ) ?_) hQ
    unfold F_about
    first | rfl | simp [*]
  · refine ax_tsw (q := 134) rfl (by decide) ?_
    refine ax_load (q := 135) rfl rfl rfl rfl rfl ?_
    refine ax_getf (q := 138) (v := am_I (σ.1 135 78)) rfl rfl (rfl) ?_
    refine ax_ret (r := some (am_I (σ.1 135 78))) rfl rfl ?_
    refine Eq.mp (congrArg (fun z => Q (some (am_I z)) σ) ?_) hQ
    unfold F_about
    first | rfl | simp [*]
  · refine ax_tsw (q := 139) rfl (by decide) ?_
    refine ax_load (q := 140) rfl rfl rfl rfl rfl ?_
    refine ax_getf (q := 143) (v := am_I (σ.1 135 1)) rfl rfl (rfl) ?_
    refine ax_ret (r := some (am_I (σ.1 135 1))) rfl rfl ?_
    refine Eq.mp (congrArg (fun z => Q (some (am_I z)) σ) ?_) hQ
    unfold F_about
    first | rfl | simp [*]
  · refine ax_tsw (q := 144) rfl (by decide) ?_
    refine ax_load (q := 145) rfl rfl rfl rfl rfl ?_
    refine ax_getf (q := 148) (v := am_I (σ.1 135 21)) rfl rfl (rfl) ?_
    refine ax_ret (r := some (am_I (σ.1 135 21))) rfl rfl ?_
    refine Eq.mp (congrArg (fun z => Q (some (am_I z)) σ) ?_) hQ
    unfold F_about
    first | rfl | simp [*]
  · refine ax_tsw (q := 149) rfl (by decide) ?_
    refine ax_load (q := 150) rfl rfl rfl rfl rfl ?_
    refine ax_getf (q := 153) (v := am_I (σ.1 135 68)) rfl rfl (rfl) ?_
    refine ax_ret (r := some (am_I (σ.1 135 68))) rfl rfl ?_
    refine Eq.mp (congrArg (fun z => Q (some (am_I z)) σ) ?_) hQ
    unfold F_about
    first | rfl | simp [*]
  · simp only [not_or] at hk
    refine ax_tsw (q := 154) rfl (by unfold am_tsw; rw [if_pos (by omega)]; rfl) ?_
    refine ax_const (q := 155) (v := am_I (-1)) rfl rfl rfl ?_
    refine ax_ret (r := some (am_I (-1))) rfl rfl ?_
    refine Eq.mp (congrArg (fun z => Q (some (am_I z)) σ) ?_) hQ
    unfold F_about
    first | rfl | simp [*]

theorem am_andnot {a b : Nat} (ha : a < 2 ^ 31) (hb : b < 2 ^ 31) : am_and (a : Int) (am_xor (b : Int) (-1)) = ((a ^^^ (a &&& b) : Nat) : Int) := by
  unfold am_and am_xor
  have h1 : a &&& b < 2 ^ 31 := Nat.lt_of_le_of_lt Nat.and_le_left ha
  have h : a ^^^ (a &&& b) < 2 ^ 31 := Nat.xor_lt_two_pow ha h1
  rw [show Int32.ofInt (a : Int) &&& Int32.ofInt (Int32.ofInt (b : Int) ^^^ Int32.ofInt (-1)).toInt = Int32.ofInt ((a ^^^ (a &&& b) : Nat) : Int) by
    rw [Int32.ofInt_toInt]
    apply Int32.toBitVec_inj.mp
    rw [Int32.toBitVec_and, Int32.toBitVec_xor]
    have e1 : (Int32.ofInt (-1)).toBitVec = BitVec.allOnes 32 := by decide
    rw [e1, Int32.toBitVec_ofInt, Int32.toBitVec_ofInt, Int32.toBitVec_ofInt]
    apply BitVec.eq_of_getLsbD_eq
    intro i hi
    simp only [BitVec.ofInt_natCast, BitVec.getLsbD_and, BitVec.getLsbD_xor, BitVec.getLsbD_allOnes, BitVec.getLsbD_ofNat, Nat.testBit_xor, Nat.testBit_and, hi, decide_true, Bool.true_and]
    cases a.testBit i <;> cases b.testBit i <;> rfl]
  exact am_t32 (nat32 h)
theorem andnot_bi (p q : Nat → Bool) {n : Nat} (hn : n < 30) : am_and (bi_ n p : Int) (am_xor (bi_ n q : Int) (-1)) = (bi_ n (fun k => p k && !q k) : Int) := by
  have h2 : (2 : Nat) ^ n < 2 ^ 31 := Nat.pow_lt_pow_right (by decide) (by omega)
  have h3 := bi_lt p n
  have h4 := bi_lt q n
  rw [am_andnot (by omega) (by omega)]
  congr 1
  apply Nat.eq_of_testBit_eq
  intro i
  rw [Nat.testBit_xor, Nat.testBit_and, bi_tb, bi_tb, bi_tb]
  cases p i <;> cases q i <;> cases (decide (i < n)) <;> rfl
theorem cn_cg {T : sp_T} (hV : TV_ T) {v w : sp_V} (h : ∀ j, j < 50 → v j = w j) {p o : Nat} (hp : p < 6) (ho : o < nO_ T) : cn_ T v p o = cn_ T w p o := by
  have := (hV.sk ho).2.2
  unfold cn_
  rw [h _ (by omega)]
theorem an_eq {p q : Nat → Bool} : ∀ n, (∀ k, k < n → p k = q k) → an_ n p = an_ n q
  | 0, _ => rfl
  | n + 1, h => by
    show (an_ n p || p n) = (an_ n q || q n)
    rw [an_eq n (fun k hk => h k (by omega)), h n (by omega)]

theorem l_lost1 {d : Nat} (hd : 1 ≤ d) {σ : am_S} {T : sp_T} (hT : TM_ T σ) (hV : TV_ T) {p : Nat} (hp : p < nP_ T) {Q : Option am_V → am_S → Prop} (hQ : aW d 0 k_X9_lost Q 60 [some (am_R 135), some (am_I ((p : Nat) : Int)), some (am_I ((bi_ ((nO_ T)) (fun o => decide (0 < T 158 (8 * pa_ T p + o))) : Nat) : Int)), some (am_I (((nO_ T) : Nat) : Int)), none] [] σ) : ∀ (m k : Nat), k + m = nO_ T → aW d 0 k_X9_lost Q 14 [some (am_R 135), some (am_I ((p : Nat) : Int)), some (am_I ((bi_ k (fun o => decide (0 < T 158 (8 * pa_ T p + o))) : Nat) : Int)), some (am_I ((k : Nat) : Int)), none] [] σ := by
  have h6 := hV.nP
  have hn := hV.nO
  have hR := hV.nR
  have hpa := hV.pa hp
  intro m
  induction m with
  | zero =>
    intro k hk
    obtain rfl : k = nO_ T := by omega
    refine ax_load (q := 15) rfl rfl rfl rfl rfl ?_
    refine ax_load (q := 16) rfl rfl rfl rfl rfl ?_
    refine ax_getf (q := 19) (v := am_I ((nO_ T : Nat) : Int)) rfl rfl (am_fg rfl (hT.s51.trans hV.nO.1)) ?_
    refine ax_icmp_ge (q := 22) (x := 60) rfl rfl (fun h19 => ?_) (fun h => absurd h (by omega))
    exact hQ
  | succ m ih =>
    intro k hk
    refine ax_load (q := 15) rfl rfl rfl rfl rfl ?_
    refine ax_load (q := 16) rfl rfl rfl rfl rfl ?_
    refine ax_getf (q := 19) (v := am_I ((nO_ T : Nat) : Int)) rfl rfl (am_fg rfl (hT.s51.trans hV.nO.1)) ?_
    refine ax_icmp_ge (q := 22) (x := 60) rfl rfl (fun h => absurd h (by omega)) (fun h19 => ?_)
    refine ax_load (q := 23) rfl rfl rfl rfl rfl ?_
    refine ax_load (q := 24) rfl rfl rfl rfl rfl ?_
    refine ax_getf (q := 27) (v := am_R 158) rfl rfl (rfl) ?_
    refine ax_const (q := 29) (v := am_I 8) rfl rfl rfl ?_
    refine ax_load (q := 30) rfl rfl rfl rfl rfl ?_
    refine ax_getf (q := 33) (v := am_R 162) rfl rfl (rfl) ?_
    refine ax_load (q := 34) rfl rfl rfl rfl rfl ?_
    refine bx_iald (q := 35) (k := p) (z := ((pa_ T p : Nat) : Int)) rfl rfl (rfl) (by omega) (by omega) ((congrFun hT.a162 _).trans (hV.pa (by omega)).1) ?_
    refine ax_imul (q := 36) (z := ((8 * (pa_ T p) : Nat) : Int)) rfl rfl (am_we (by omega) (by omega) (by omega)) ?_
    refine ax_load (q := 37) rfl rfl rfl rfl rfl ?_
    refine ax_iadd (q := 38) (z := (((8 * (pa_ T p)) + k : Nat) : Int)) rfl rfl (am_we (by omega) (by omega) (by omega)) ?_
    refine bx_iald (q := 39) (k := (8 * (pa_ T p)) + k) (z := T 158 ((8 * (pa_ T p)) + k)) rfl rfl (rfl) (by omega) (by omega) (congrFun hT.a158 _) ?_
    refine ax_if_le (q := 42) (x := 46) rfl rfl (fun h39 => ?_) (fun h39 => ?_)
    · have hb39 : decide (0 < T 158 (8 * pa_ T p + k)) = false := decide_eq_false (by omega)
      refine ax_const (q := 47) (v := am_I 0) rfl rfl rfl ?_
      refine ax_calls (q := 50) rfl rfl rfl rfl rfl ?_
      refine m_truthz (by omega) (Or.inl rfl) ?_
      refine ax_load (q := 51) rfl rfl rfl rfl rfl ?_
      refine ax_ishl (q := 52) (z := am_shl 0 (k : Int)) rfl rfl (rfl) ?_
      refine ax_ior (q := 53) (z := ((bi_ (k + 1) (fun o => decide (0 < T 158 (8 * pa_ T p + o))) : Nat) : Int)) rfl rfl ((congrArg (fun z => am_or _ (am_shl z _)) (by show (0 : Int) = if decide (0 < T 158 (8 * pa_ T p + k)) = true then 1 else 0; rw [hb39]; rfl)).trans (am_or_bi (fun o => decide (0 < T 158 (8 * pa_ T p + o))) (by omega))) ?_
      refine ax_store (q := 54) (L' := [some (am_R 135), some (am_I ((p : Nat) : Int)), some (am_I ((bi_ (k + 1) (fun o => decide (0 < T 158 (8 * pa_ T p + o))) : Nat) : Int)), some (am_I ((k : Nat) : Int)), none]) rfl rfl rfl rfl rfl rfl ?_
      refine ax_iinc (q := 57) (z' := ((k + 1 : Nat) : Int)) (L' := [some (am_R 135), some (am_I ((p : Nat) : Int)), some (am_I ((bi_ (k + 1) (fun o => decide (0 < T 158 (8 * pa_ T p + o))) : Nat) : Int)), some (am_I ((k + 1 : Nat) : Int)), none]) rfl rfl rfl rfl (am_we (by omega) (by omega) (by omega)) rfl ?_
      refine ax_goto (x := 14) rfl ?_
      exact ih (k + 1) (by omega)
    · have hb39 : decide (0 < T 158 (8 * pa_ T p + k)) = true := decide_eq_true (by omega)
      refine ax_const (q := 43) (v := am_I 1) rfl rfl rfl ?_
      refine ax_goto (x := 47) rfl ?_
      refine ax_calls (q := 50) rfl rfl rfl rfl rfl ?_
      refine m_truthz (by omega) (Or.inr rfl) ?_
      refine ax_load (q := 51) rfl rfl rfl rfl rfl ?_
      refine ax_ishl (q := 52) (z := am_shl 1 (k : Int)) rfl rfl (rfl) ?_
      refine ax_ior (q := 53) (z := ((bi_ (k + 1) (fun o => decide (0 < T 158 (8 * pa_ T p + o))) : Nat) : Int)) rfl rfl ((congrArg (fun z => am_or _ (am_shl z _)) (by show (1 : Int) = if decide (0 < T 158 (8 * pa_ T p + k)) = true then 1 else 0; rw [hb39]; rfl)).trans (am_or_bi (fun o => decide (0 < T 158 (8 * pa_ T p + o))) (by omega))) ?_
      refine ax_store (q := 54) (L' := [some (am_R 135), some (am_I ((p : Nat) : Int)), some (am_I ((bi_ (k + 1) (fun o => decide (0 < T 158 (8 * pa_ T p + o))) : Nat) : Int)), some (am_I ((k : Nat) : Int)), none]) rfl rfl rfl rfl rfl rfl ?_
      refine ax_iinc (q := 57) (z' := ((k + 1 : Nat) : Int)) (L' := [some (am_R 135), some (am_I ((p : Nat) : Int)), some (am_I ((bi_ (k + 1) (fun o => decide (0 < T 158 (8 * pa_ T p + o))) : Nat) : Int)), some (am_I ((k + 1 : Nat) : Int)), none]) rfl rfl rfl rfl (am_we (by omega) (by omega) (by omega)) rfl ?_
      refine ax_goto (x := 14) rfl ?_
      exact ih (k + 1) (by omega)

theorem l_lost2 {d : Nat} (hd : 6 ≤ d) {σ : am_S} {T : sp_T} (hT : TM_ T σ) (hV : TV_ T) {b : Int} {v : sp_V} (hW : VV_ T b v) (hb9 : b ≤ 100000) {p : Nat} (hp : p < nP_ T) {z : Int} (hz : z < T 135 50) {x : Int} {s : Nat} (hsz : (s : Int) = z) {Q : Option am_V → am_S → Prop} {N : Nat} (hN : N ≤ 100) (hQ : ∀ σ', fr_ [143, 144, 164] σ σ' → σ'.1 164 = gz_ T v p z N → aW d 0 k_X9_lost Q 98 [some (am_R 135), some (am_I ((p : Nat) : Int)), some (am_I x), some (am_I ((s : Nat) : Int)), some (am_I ((0 : Nat) : Int))] [] σ') : ∀ (k n : Nat) σ', fr_ [143, 144, 164] σ σ' → σ'.1 164 = gz_ T v p z n → n + k = N → aW d 0 k_X9_lost Q 81 [some (am_R 135), some (am_I ((p : Nat) : Int)), some (am_I x), some (am_I ((s : Nat) : Int)), some (am_I ((k : Nat) : Int))] [] σ' := by
  have h6 := hV.nP
  intro k
  induction k with
  | zero =>
    intro n σ' hf hx hn
    obtain rfl : n = N := by omega
    refine ax_load (q := 83) rfl rfl rfl rfl rfl ?_
    refine ax_if_le (q := 86) (x := 98) rfl rfl (fun h83 => ?_) (fun h => absurd h (by omega))
    exact hQ σ' hf hx
  | succ k ih =>
    intro n σ' hf hx hn
    refine ax_load (q := 83) rfl rfl rfl rfl rfl ?_
    refine ax_if_le (q := 86) (x := 98) rfl rfl (fun h => absurd h (by omega)) (fun h83 => ?_)
    refine ax_load (q := 87) rfl rfl rfl rfl rfl ?_
    refine ax_load (q := 88) rfl rfl rfl rfl rfl ?_
    refine ax_load (q := 89) rfl rfl rfl rfl rfl ?_
    refine ax_callv (q := 92) rfl rfl rfl rfl rfl rfl ?_
    subst hsz
    refine m_goAlone (by omega) (hT.fr hf (by decide)) hV hx (hW.gz hV hp hz n) hp hz (by omega) (fun σ1 hf1 hx1 => ?_)
    refine ax_iinc (q := 95) (z' := ((k : Nat) : Int)) (L' := [some (am_R 135), some (am_I ((p : Nat) : Int)), some (am_I x), some (am_I ((s : Nat) : Int)), some (am_I ((k : Nat) : Int))]) rfl rfl rfl rfl (am_we (by omega) (by omega) (by omega)) rfl ?_
    refine ax_goto (x := 81) rfl ?_
    exact ih (n + 1) σ1 (fr_tr hf hf1 (fun a h => h)) hx1 (by omega)

theorem ga_cg {T : sp_T} (hV : TV_ T) {v w : sp_V} (h : ∀ j, j < 50 → v j = w j) {p : Nat} (hp : p < 6) {z : Int} (hz : z < T 135 50) : ∀ j, j < 50 → ga_ T v p z j = ga_ T w p z j := by
  have hS := hV.nS
  have hl : ∀ j, j < 50 → ln_ T v p z j = ln_ T w p z j := by
    intro j hj
    unfold ln_
    split
    · exact h j hj
    · rw [h (24 + 4 * p + z.toNat) (by omega), h p (by omega), h 49 (by omega)]
      by_cases q : j = 24 + 4 * p + z.toNat
      · subst q; rw [am_up_same, am_up_same]
      · rw [am_up_ne q, am_up_ne q]; exact h j hj
  intro j hj
  unfold ga_
  rw [hl p (by omega), hl 49 (by omega)]
  by_cases q : j = 49
  · subst q; rw [am_up_same, am_up_same]
  · rw [am_up_ne q, am_up_ne q]
    by_cases q2 : j = p
    · subst q2; rw [am_up_same, am_up_same]
    · rw [am_up_ne q2, am_up_ne q2]; exact hl j hj
theorem gz_cg {T : sp_T} (hV : TV_ T) {v w : sp_V} (h : ∀ j, j < 50 → v j = w j) {p : Nat} (hp : p < 6) {z : Int} (hz : z < T 135 50) : ∀ n j, j < 50 → gz_ T v p z n j = gz_ T w p z n j
  | 0 => h
  | n + 1 => ga_cg hV (gz_cg hV h hp hz n) hp hz
theorem lo_st {T : sp_T} (hV : TV_ T) {u v w : sp_V} (hv : ∀ j, j < 50 → v j = w j) (hu : ∀ j, j < 50 → u j = w j) {p k : Nat} (hk : p < 6 ∧ k < nS_ T) : am_and (lo_ T v p k : Int) (am_xor (cs_ T (gz_ T u p (k : Int) (yf_ T w p)) p : Int) (-1)) = (lo_ T v p (k + 1) : Int) := by
  have hO := hV.nO
  have hS := hV.nS
  unfold lo_ cs_
  rw [andnot_bi _ _ (by omega)]
  congr 1
  apply bi_eq
  intro o ho
  have e : cn_ T (gz_ T u p (k : Int) (yf_ T w p)) p o = cn_ T (gz_ T v p (k : Int) (yf_ T v p)) p o := by
    rw [yf_cg (hv p (by omega))]
    exact cn_cg hV (gz_cg hV (fun j hj => (hu j hj).trans (hv j hj).symm) hk.1 (by omega) _) hk.1 ho
  show ((decide (0 < T 158 (8 * pa_ T p + o)) && !an_ k (fun s => cn_ T (gz_ T v p s (yf_ T v p)) p o)) && !cn_ T (gz_ T u p (k : Int) (yf_ T w p)) p o) = (decide (0 < T 158 (8 * pa_ T p + o)) && !(an_ k (fun s => cn_ T (gz_ T v p s (yf_ T v p)) p o) || cn_ T (gz_ T v p (k : Int) (yf_ T v p)) p o))
  rw [e, Bool.not_or, Bool.and_assoc]
theorem l_lost3 {d : Nat} (hd : 6 ≤ d) {σ : am_S} {T : sp_T} (hT : TM_ T σ) (hV : TV_ T) {b : Int} {v w : sp_V} (hw : σ.1 163 = w) (hvw : ∀ j, j < 50 → v j = w j) (hW : VV_ T b w) (hb9 : b ≤ 100000) {p : Nat} (hp : p < nP_ T) {Q : Option am_V → am_S → Prop} (hQ : ∀ σ', fr_ [143, 144, 164] σ σ' → Q (some (am_I ((lo_ T v p (nS_ T) : Nat) : Int))) σ') : ∀ (m k : Nat) σ' (o4 : Option am_V), k + m = nS_ T → fr_ [143, 144, 164] σ σ' → aW d 0 k_X9_lost Q 62 [some (am_R 135), some (am_I ((p : Nat) : Int)), some (am_I ((lo_ T v p k : Nat) : Int)), some (am_I ((k : Nat) : Int)), o4] [] σ' := by
  have h6 := hV.nP
  have hn := hV.nS
  have hO := hV.nO
  intro m
  induction m with
  | zero =>
    intro k σ' o4 hk hf
    obtain rfl : k = nS_ T := by omega
    refine ax_load (q := 63) rfl rfl rfl rfl rfl ?_
    refine ax_load (q := 64) rfl rfl rfl rfl rfl ?_
    refine ax_getf (q := 67) (v := am_I ((nS_ T : Nat) : Int)) rfl rfl (am_fg rfl ((hT.fr hf (by decide)).s50.trans hV.nS.1)) ?_
    refine ax_icmp_ge (q := 70) (x := 114) rfl rfl (fun h67 => ?_) (fun h => absurd h (by omega))
    refine ax_load (q := 115) rfl rfl rfl rfl rfl ?_
    refine ax_ret (r := some (am_I ((lo_ T v p ((nS_ T)) : Nat) : Int))) rfl rfl ?_
    exact hQ σ' hf
  | succ m ih =>
    intro k σ' o4 hk hf
    refine ax_load (q := 63) rfl rfl rfl rfl rfl ?_
    refine ax_load (q := 64) rfl rfl rfl rfl rfl ?_
    refine ax_getf (q := 67) (v := am_I ((nS_ T : Nat) : Int)) rfl rfl (am_fg rfl ((hT.fr hf (by decide)).s50.trans hV.nS.1)) ?_
    refine ax_icmp_ge (q := 70) (x := 114) rfl rfl (fun h => absurd h (by omega)) (fun h67 => ?_)
    refine ax_load (q := 71) rfl rfl rfl rfl rfl ?_
    refine ax_callv (q := 74) rfl rfl rfl rfl rfl rfl ?_
    refine m_load (by omega) ?_
    rw [hf.1 163 (by decide), hw]
    refine ax_load (q := 75) rfl rfl rfl rfl rfl ?_
    refine ax_load (q := 76) rfl rfl rfl rfl rfl ?_
    refine ax_callv (q := 79) rfl rfl rfl rfl rfl rfl ?_
    refine m_yearsLeft (by omega) (TM_.sI (hT.fr hf (by decide)) (by decide)) hV ((sI_ne (by decide)).trans ((hf.1 163 (by decide)).trans hw)) (by omega) (by have := (hW.2.2 p hp).1; omega) ?_
    refine ax_store (q := 81) (L' := [some (am_R 135), some (am_I ((p : Nat) : Int)), some (am_I ((lo_ T v p k : Nat) : Int)), some (am_I ((k : Nat) : Int)), some (am_I ((yf_ T w p : Nat) : Int))]) rfl rfl rfl rfl rfl rfl ?_
    obtain ⟨u, hu⟩ : ∃ u, u = cp_ w (σ'.1 164) 50 := ⟨_, rfl⟩
    have huw : ∀ j, j < 50 → u j = w j := fun j hj => by rw [hu]; exact cp_at hj
    rw [← hu]
    have hWu : VV_ T b u := hW.cg hV huw
    have hy1 : yf_ T w p ≤ 60 := (yf_bd hV hW hp).2
    refine l_lost2 (σ := am_sI σ' 164 u) (by omega) (TM_.sI (hT.fr hf (by decide)) (by decide)) hV hWu hb9 hp (z := (k : Int)) (by omega) (x := ((lo_ T v p k : Nat) : Int)) rfl (N := yf_ T w p) (by omega) (fun σ1 hf1' hx1 => ?_) (yf_ T w p) 0 _ (fr_rf _ _) (sI_at _ _ _) (by omega)
    have hf1 : fr_ [143, 144, 164] σ' σ1 := fr_tr (l := [143, 144, 164]) (fr_sI (fr_rf _ _) (by decide)) hf1' (fun a h => h)
    refine ax_load (q := 99) rfl rfl rfl rfl rfl ?_
    refine ax_load (q := 100) rfl rfl rfl rfl rfl ?_
    refine ax_load (q := 101) rfl rfl rfl rfl rfl ?_
    refine ax_callv (q := 104) rfl rfl rfl rfl rfl rfl ?_
    refine m_canSet (by omega) ((hT.fr hf (by decide)).fr hf1 (by decide)) hV hx1 (by omega) ?_
    refine ax_const (q := 105) (v := am_I (-1)) rfl rfl rfl ?_
    refine ax_ixor (q := 106) (z := am_xor ((cs_ T (gz_ T u p (k : Int) (yf_ T w p)) p : Nat) : Int) (-1)) rfl rfl (rfl) ?_
    refine ax_iand (q := 107) (z := ((lo_ T v p (k + 1) : Nat) : Int)) rfl rfl (lo_st hV hvw huw (by omega)) ?_
    refine ax_store (q := 108) (L' := [some (am_R 135), some (am_I ((p : Nat) : Int)), some (am_I ((lo_ T v p (k + 1) : Nat) : Int)), some (am_I ((k : Nat) : Int)), some (am_I ((0 : Nat) : Int))]) rfl rfl rfl rfl rfl rfl ?_
    refine ax_iinc (q := 111) (z' := ((k + 1 : Nat) : Int)) (L' := [some (am_R 135), some (am_I ((p : Nat) : Int)), some (am_I ((lo_ T v p (k + 1) : Nat) : Int)), some (am_I ((k + 1 : Nat) : Int)), some (am_I ((0 : Nat) : Int))]) rfl rfl rfl rfl (am_we (by omega) (by omega) (by omega)) rfl ?_
    refine ax_goto (x := 62) rfl ?_
    exact ih (k + 1) σ1 _ (by omega) (fr_tr hf hf1 (fun a h => h))

theorem m_lost {d : Nat} (hd : 8 ≤ d) {σ : am_S} {T : sp_T} (hT : TM_ T σ) (hV : TV_ T) {b : Int} {w v : sp_V} (hw : σ.1 163 = w) (hv : v = cp_ w (σ.1 164) 50) (hW : VV_ T b w) (hb9 : b ≤ 100000) {a : Int} {Q : Option am_V → am_S → Prop} (hQ : ∀ σ', fr_ [143, 144, 164] σ σ' → Q (some (am_I (F_lost T v a))) σ') : am_Ev d 230 [am_R 135, am_I a] σ Q := by
  obtain ⟨d, rfl⟩ : ∃ e, d = e + 1 := ⟨d - 1, by omega⟩
  have h6 := hV.nP
  have hO := hV.nO
  have hS := hV.nS
  have hR := hV.nR
  have hvw : ∀ j, j < 50 → v j = w j := fun j hj => by rw [hv]; exact cp_at hj
  have hW2 : VV_ T b v := hW.cg hV hvw
  refine ev_in (m := 230) (c := k_X9_lost) (L := [some (am_R 135), some (am_I a), none, none, none]) rfl rfl rfl rfl rfl rfl ?_
  refine ax_load (q := 1) rfl rfl rfl rfl rfl ?_
  refine ax_load (q := 2) rfl rfl rfl rfl rfl ?_
  refine ax_callv (q := 5) rfl rfl rfl rfl rfl rfl ?_
  refine m_isShutNow (by omega) hT hV hw ?_
  rw [← sn_cg hV hvw]
  refine ax_if_ne (q := 8) (x := 10) rfl rfl (fun h5 => ?_) (fun h5 => ?_)
  · have hb5 := it_n0 h5
    obtain ⟨p, rfl, hp, hsp⟩ := sn_t hb5
    refine ax_const (q := 11) (v := am_I 0) rfl rfl rfl ?_
    refine ax_store (q := 12) (L' := [some (am_R 135), some (am_I ((p : Nat) : Int)), some (am_I 0), none, none]) rfl rfl rfl rfl rfl rfl ?_
    refine ax_const (q := 13) (v := am_I 0) rfl rfl rfl ?_
    refine ax_store (q := 14) (L' := [some (am_R 135), some (am_I ((p : Nat) : Int)), some (am_I 0), some (am_I 0), none]) rfl rfl rfl rfl rfl rfl ?_
    refine l_lost1 (by omega) hT hV hp ?_ (nO_ T) 0 (by omega)
    refine ax_const (q := 61) (v := am_I 0) rfl rfl rfl ?_
    refine ax_store (q := 62) (L' := [some (am_R 135), some (am_I ((p : Nat) : Int)), some (am_I ((bi_ ((nO_ T)) (fun o => decide (0 < T 158 (8 * pa_ T p + o))) : Nat) : Int)), some (am_I 0), none]) rfl rfl rfl rfl rfl rfl ?_
    have e : F_lost T v (p : Int) = ((lo_ T v p (nS_ T) : Nat) : Int) := by unfold F_lost; rw [hb5]; rfl
    rw [e] at hQ
    have g := l_lost3 (d := d) (by omega) hT hV hw hvw hW hb9 hp hQ (nS_ T) 0 σ none (by omega) (fr_rf _ _)
    rw [show lo_ T v p 0 = bi_ (nO_ T) (fun o => decide (0 < T 158 (8 * pa_ T p + o))) by unfold lo_; exact bi_eq _ (fun o ho => by show (decide _ && !false) = _; simp)] at g
    exact g
  · have hb5 := it_0 h5
    refine ax_const (q := 9) (v := am_I (-1)) rfl rfl rfl ?_
    refine ax_ret (r := some (am_I (-1))) rfl rfl ?_
    have e : F_lost T v a = -1 := by unfold F_lost; rw [hb5]; rfl
    rw [← e]
    exact hQ _ (fr_rf _ _)

