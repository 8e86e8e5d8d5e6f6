/-! the signs told of a letter; boxes -/
/-- the signs: G tells the six rows, n how many stand -/
def SG_ (G : Nat → Nat → Int) (n : Nat) (σ : am_S) : Prop := σ.1 135 77 = (n : Int) ∧ n ≤ 30 ∧ (σ.1 170 = G 0 ∧ σ.1 171 = G 1 ∧ σ.1 172 = G 2 ∧ σ.1 173 = G 3 ∧ σ.1 174 = G 4 ∧ σ.1 175 = G 5) ∧ ∀ j, j < n → (0 ≤ G 1 j ∧ G 1 j ≤ 2) ∧ (G 5 j = 0 ∨ G 5 j = 1)
def mk_ (T : sp_T) (o : Nat) (z : Int) : Int := if z = 0 then T 153 o else if z = 1 then T 154 o else (sk_ T o : Int)
def me_ (T : sp_T) (G : Nat → Nat → Int) (p o : Nat) (t : Int) (j : Nat) : Bool := !(decide (G 0 j = (p : Int)) && (decide (G 3 j ≤ t) && (decide (G 4 j < 0) || decide (t < G 4 j)))) || (decide (mk_ T o (G 1 j) = G 2 j) == decide (G 5 j = 1))
def im_ (T : sp_T) (G : Nat → Nat → Int) (p o : Nat) (t : Int) : Nat → Bool
  | 0 => decide (0 < T 158 (8 * pa_ T p + o))
  | j + 1 => im_ T G p o t j && me_ T G p o t j
theorem im_f {T : sp_T} {G : Nat → Nat → Int} {p o : Nat} {t : Int} {k : Nat} (h : im_ T G p o t k = false) : ∀ m, im_ T G p o t (k + m) = false
  | 0 => h
  | m + 1 => by
    show (im_ T G p o t (k + m) && _) = false
    rw [im_f h m, Bool.false_and]
def ms_ (T : sp_T) (G : Nat → Nat → Int) (n p : Nat) (t : Int) : Nat := bi_ (nO_ T) (fun o => im_ T G p o t n)
def F_meant (T : sp_T) (G : Nat → Nat → Int) (n : Nat) (a t : Int) : Int := if inr_ (nP_ T) a then (ms_ T G n a.toNat t : Int) else -1
/-- the likeliest so far: the ORDER, its chances -/
def lk_ (T : sp_T) (G : Nat → Nat → Int) (n p : Nat) (t : Int) : Nat → Int × Int
  | 0 => (-1, 0)
  | o + 1 => if im_ T G p o t n && decide ((lk_ T G n p t o).2 < T 158 (8 * pa_ T p + o)) then ((o : Int), T 158 (8 * pa_ T p + o)) else lk_ T G n p t o
def F_likely (T : sp_T) (G : Nat → Nat → Int) (n : Nat) (a t : Int) : Int := if inr_ (nP_ T) a then (lk_ T G n a.toNat t (nO_ T)).1 else -1
def cm_ (T : sp_T) (s : Nat) (z : Int) (v : Nat) : Nat := ct_ (nO_ T) (fun o => s.testBit o && decide (mk_ T o z = (v : Int)))
def ml_ (T : sp_T) (s : Nat) (z : Int) : Nat → Nat
  | 0 => 0
  | v + 1 => if ml_ T s z v < cm_ T s z v then cm_ T s z v else ml_ T s z v
theorem ml_le (T : sp_T) (s : Nat) (z : Int) : ∀ v, ml_ T s z v ≤ nO_ T
  | 0 => Nat.zero_le _
  | v + 1 => by
    have := ml_le T s z v
    have h2 : cm_ T s z v ≤ nO_ T := ct_le _ _
    unfold ml_
    split
    · exact h2
    · exact this
def ab_ (T : sp_T) (s : Nat) : Nat := if ml_ T s 2 10 < ml_ T s (if ml_ T s 1 10 < ml_ T s 0 10 then 1 else 0) 10 then 2 else if ml_ T s 1 10 < ml_ T s 0 10 then 1 else 0
def F_ask (T : sp_T) (G : Nat → Nat → Int) (n : Nat) (a k t : Int) : Int := if decide (0 ≤ k ∧ k ≤ 1) && decide (0 < F_meant T G n a t) then (if k = 0 then (ab_ T (ms_ T G n a.toNat t) : Int) else (ml_ T (ms_ T G n a.toNat t) (ab_ T (ms_ T G n a.toNat t) : Int) 10 : Int)) else -1

theorem m_lies {d : Nat} (hd : 2 ≤ d) {σ : am_S} {l : Nat} (hl : σ.1 135 68 = (l : Int)) (hl6 : l ≤ 6) {a : Int} {Q : Option am_V → am_S → Prop} (hQ : ∀ σ', fr_ [] σ σ' → Q (some (am_I (if inr_ l a then σ.1 167 a.toNat else -2))) σ') : am_Ev d 248 [am_R 135, am_I a] σ Q := by
  obtain ⟨d, rfl⟩ : ∃ e, d = e + 1 := ⟨d - 1, by omega⟩
  refine ev_in (m := 248) (c := k_X9_lies) (L := [some (am_R 135), some (am_I a)]) rfl rfl rfl rfl rfl rfl ?_
  refine ax_load (q := 1) rfl rfl rfl rfl rfl ?_
  refine ax_const (q := 2) (v := am_I 0) rfl rfl rfl ?_
  refine ax_load (q := 3) rfl rfl rfl rfl rfl ?_
  refine ax_getf (q := 6) (v := am_I ((l : Nat) : Int)) rfl rfl (am_fg rfl hl) ?_
  refine ax_const (q := 7) (v := am_I 1) rfl rfl rfl ?_
  refine ax_isub (q := 8) (z := ((l : Nat) : Int) - 1) rfl rfl (am_we (by omega) (by omega) (by omega)) ?_
  refine ax_calls (q := 11) rfl rfl rfl rfl rfl ?_
  refine m_isIn (by omega) ?_
  rw [show decide (0 ≤ a ∧ a ≤ ((l : Nat) : Int) - 1) = inr_ l a by unfold inr_; congr 1; apply propext; constructor <;> intro h <;> omega]
  refine ax_if_eq (q := 14) (x := 23) rfl rfl (fun h11 => ?_) (fun h11 => ?_)
  · have hb11 := it_0 h11
    refine ax_const (q := 25) (v := am_I (-2)) rfl rfl rfl ?_
    refine ax_ret (r := some (am_I (-2))) rfl rfl ?_
    have e := hQ _ (fr_rf _ _)
    rw [hb11] at e
    exact e
  · have hb11 := it_n0 h11
    obtain ⟨p, rfl, hp⟩ := inr_t hb11
    refine ax_load (q := 15) rfl rfl rfl rfl rfl ?_
    refine ax_getf (q := 18) (v := am_R 167) rfl rfl (rfl) ?_
    refine ax_load (q := 19) rfl rfl rfl rfl rfl ?_
    refine bx_iald (q := 20) (k := p) (z := σ.1 167 p) rfl rfl (rfl) (by omega) (by omega) (rfl) ?_
    refine ax_goto (x := 25) rfl ?_
    refine ax_ret (r := some (am_I (σ.1 167 p))) rfl rfl ?_
    have e := hQ _ (fr_rf _ _)
    rw [hb11] at e
    exact e

theorem m_fault {d : Nat} (hd : 1 ≤ d) {σ : am_S}  {a : Int} {Q : Option am_V → am_S → Prop} (hQ : ∀ σ', fr_ [] σ σ' → Q (some (am_I (if a = 0 then σ.1 135 2 else if a = 1 then σ.1 135 3 else -1))) σ') : am_Ev d 186 [am_R 135, am_I a] σ Q := by
  obtain ⟨d, rfl⟩ : ∃ e, d = e + 1 := ⟨d - 1, by omega⟩
  refine ev_in (m := 186) (c := k_X9_fault) (L := [some (am_R 135), some (am_I a)]) rfl rfl rfl rfl rfl rfl ?_
  refine ax_load (q := 1) rfl rfl rfl rfl rfl ?_
  refine ax_if_ne (q := 4) (x := 11) rfl rfl (fun h1 => ?_) (fun h1 => ?_)
  · refine ax_load (q := 12) rfl rfl rfl rfl rfl ?_
    refine ax_const (q := 13) (v := am_I 1) rfl rfl rfl ?_
    refine ax_icmp_ne (q := 16) (x := 23) rfl rfl (fun h13 => ?_) (fun h13 => ?_)
    · refine ax_const (q := 24) (v := am_I (-1)) rfl rfl rfl ?_
      refine ax_ret (r := some (am_I (-1))) rfl rfl ?_
      have e := hQ _ (fr_rf _ _)
      first | (rw [if_pos (by omega)] at e; exact e) | (rw [if_neg (by omega), if_pos (by omega)] at e; exact e) | (rw [if_neg (by omega), if_neg (by omega)] at e; exact e)
    · refine ax_load (q := 17) rfl rfl rfl rfl rfl ?_
      refine ax_getf (q := 20) (v := am_I (σ.1 135 3)) rfl rfl (rfl) ?_
      refine ax_goto (x := 24) rfl ?_
      refine ax_ret (r := some (am_I (σ.1 135 3))) rfl rfl ?_
      have e := hQ _ (fr_rf _ _)
      first | (rw [if_pos (by omega)] at e; exact e) | (rw [if_neg (by omega), if_pos (by omega)] at e; exact e) | (rw [if_neg (by omega), if_neg (by omega)] at e; exact e)
  · refine ax_load (q := 5) rfl rfl rfl rfl rfl ?_
    refine ax_getf (q := 8) (v := am_I (σ.1 135 2)) rfl rfl (rfl) ?_
    refine ax_goto (x := 24) rfl ?_
    refine ax_ret (r := some (am_I (σ.1 135 2))) rfl rfl ?_
    have e := hQ _ (fr_rf _ _)
    first | (rw [if_pos (by omega)] at e; exact e) | (rw [if_neg (by omega), if_pos (by omega)] at e; exact e) | (rw [if_neg (by omega), if_neg (by omega)] at e; exact e)

theorem m_untell {d : Nat} (hd : 2 ≤ d) {σ : am_S} {G : Nat → Nat → Int} {n : Nat} (hG : SG_ G n σ) {t : Nat} (ht : σ.1 135 78 = (t : Int)) {a : Int} {Q : Option am_V → am_S → Prop} (hN : (inr_ n a && decide (G 4 a.toNat < 0)) = false → Q (some (am_I 0)) σ) (hY : (inr_ n a && decide (G 4 a.toNat < 0)) = true → Q (some (am_I 1)) (am_sI σ 174 (am_up (G 4) a.toNat (t : Int)))) : am_Ev d 250 [am_R 135, am_I a] σ Q := by
  obtain ⟨d, rfl⟩ : ∃ e, d = e + 1 := ⟨d - 1, by omega⟩
  obtain ⟨hgn, hn30, ⟨hg0, hg1, hg2, hg3, hg4, hg5⟩, hgv⟩ := hG
  refine ev_in (m := 250) (c := k_X9_untell) (L := [some (am_R 135), some (am_I a)]) rfl rfl rfl rfl rfl rfl ?_
  refine ax_load (q := 1) rfl rfl rfl rfl rfl ?_
  refine ax_const (q := 2) (v := am_I 0) rfl rfl rfl ?_
  refine ax_load (q := 3) rfl rfl rfl rfl rfl ?_
  refine ax_getf (q := 6) (v := am_I ((n : Nat) : Int)) rfl rfl (am_fg rfl hgn) ?_
  refine ax_const (q := 7) (v := am_I 1) rfl rfl rfl ?_
  refine ax_isub (q := 8) (z := ((n : Nat) : Int) - 1) rfl rfl (am_we (by omega) (by omega) (by omega)) ?_
  refine ax_calls (q := 11) rfl rfl rfl rfl rfl ?_
  refine m_isIn (by omega) ?_
  rw [show decide (0 ≤ a ∧ a ≤ ((n : Nat) : Int) - 1) = inr_ n a by unfold inr_; congr 1; apply propext; constructor <;> intro h <;> omega]
  refine ax_if_eq (q := 14) (x := 23) rfl rfl (fun h11 => ?_) (fun h11 => ?_)
  · have hb11 := it_0 h11
    refine ax_const (q := 24) (v := am_I 0) rfl rfl rfl ?_
    refine ax_ret (r := some (am_I 0)) rfl ⟨rfl, Or.inl rfl⟩ ?_
    exact hN (by simp [*])
  · have hb11 := it_n0 h11
    obtain ⟨p, rfl, hp⟩ := inr_t hb11
    refine ax_load (q := 15) rfl rfl rfl rfl rfl ?_
    refine ax_getf (q := 18) (v := am_R 174) rfl rfl (rfl) ?_
    refine ax_load (q := 19) rfl rfl rfl rfl rfl ?_
    refine bx_iald (q := 20) (k := p) (z := G 4 p) rfl rfl (rfl) (by omega) (by omega) (congrFun hg4 _) ?_
    refine ax_if_lt (q := 23) (x := 25) rfl rfl (fun h20 => ?_) (fun h20 => ?_)
    · refine ax_load (q := 26) rfl rfl rfl rfl rfl ?_
      refine ax_getf (q := 29) (v := am_R 174) rfl rfl (rfl) ?_
      refine ax_load (q := 30) rfl rfl rfl rfl rfl ?_
      refine ax_load (q := 31) rfl rfl rfl rfl rfl ?_
      refine ax_getf (q := 34) (v := am_I ((t : Nat) : Int)) rfl rfl (am_fg rfl ht) ?_
      refine bx_iast (q := 35) (k := p) rfl rfl (rfl) (by omega) (by omega) ?_
      refine ax_const (q := 36) (v := am_I 1) rfl rfl rfl ?_
      refine ax_ret (r := some (am_I 1)) rfl ⟨rfl, Or.inr rfl⟩ ?_
      have e := hY (by simp [*])
      rw [hg4]
      exact e
    · refine ax_const (q := 24) (v := am_I 0) rfl rfl rfl ?_
      refine ax_ret (r := some (am_I 0)) rfl ⟨rfl, Or.inl rfl⟩ ?_
      exact hN (by simp [*])

theorem m_later {d : Nat} (hd : 1 ≤ d) {σ : am_S} {t : Nat} (ht : σ.1 135 78 = (t : Int)) (ht9 : t ≤ 1000000) {a : Int} {Q : Option am_V → am_S → Prop} (hN : decide (0 ≤ a ∧ a ≤ 1000 ∧ (t : Int) + a ≤ 100000) = false → Q (some (am_I (-1))) σ) (hY : decide (0 ≤ a ∧ a ≤ 1000 ∧ (t : Int) + a ≤ 100000) = true → Q (some (am_I ((t : Int) + a))) (am_sI σ 135 (am_up (σ.1 135) 78 ((t : Int) + a)))) : am_Ev d 251 [am_R 135, am_I a] σ Q := by
  obtain ⟨d, rfl⟩ : ∃ e, d = e + 1 := ⟨d - 1, by omega⟩
  refine ev_in (m := 251) (c := k_X9_later) (L := [some (am_R 135), some (am_I a)]) rfl rfl rfl rfl rfl rfl ?_
  refine ax_load (q := 1) rfl rfl rfl rfl rfl ?_
  refine ax_if_lt (q := 4) (x := 23) rfl rfl (fun h1 => ?_) (fun h1 => ?_)
  · refine ax_const (q := 24) (v := am_I (-1)) rfl rfl rfl ?_
    refine ax_ret (r := some (am_I (-1))) rfl rfl ?_
    exact hN (decide_eq_false (by omega))
  · refine ax_load (q := 5) rfl rfl rfl rfl rfl ?_
    refine ax_const (q := 8) (v := am_I 1000) rfl rfl rfl ?_
    refine ax_icmp_gt (q := 11) (x := 23) rfl rfl (fun h8 => ?_) (fun h8 => ?_)
    · refine ax_const (q := 24) (v := am_I (-1)) rfl rfl rfl ?_
      refine ax_ret (r := some (am_I (-1))) rfl rfl ?_
      exact hN (decide_eq_false (by omega))
    · refine ax_load (q := 12) rfl rfl rfl rfl rfl ?_
      refine ax_getf (q := 15) (v := am_I ((t : Nat) : Int)) rfl rfl (am_fg rfl ht) ?_
      refine ax_load (q := 16) rfl rfl rfl rfl rfl ?_
      refine ax_iadd (q := 17) (z := ((t : Nat) : Int) + a) rfl rfl (am_we (by omega) (by omega) (by omega)) ?_
      refine ax_const (q := 20) (v := am_I 100000) rfl rfl rfl ?_
      refine ax_icmp_le (q := 23) (x := 25) rfl rfl (fun h20 => ?_) (fun h20 => ?_)
      · refine ax_load (q := 26) rfl rfl rfl rfl rfl ?_
        refine ax_dup (q := 27) rfl rfl rfl ?_
        refine ax_getf (q := 30) (v := am_I ((t : Nat) : Int)) rfl rfl (am_fg rfl ht) ?_
        refine ax_load (q := 31) rfl rfl rfl rfl rfl ?_
        refine ax_iadd (q := 32) (z := ((t : Nat) : Int) + a) rfl rfl (am_we (by omega) (by omega) (by omega)) ?_
        refine ax_putf (q := 35) rfl rfl rfl ?_
        refine ax_load (q := 36) rfl rfl rfl rfl rfl ?_
        refine ax_getf (q := 39) (v := am_I (((t : Nat) : Int) + a)) rfl rfl (am_fg rfl (by rw [sI_at, am_up_same])) ?_
        refine ax_ret (r := some (am_I (((t : Nat) : Int) + a))) rfl rfl ?_
        exact hY (decide_eq_true (by omega))
      · refine ax_const (q := 24) (v := am_I (-1)) rfl rfl rfl ?_
        refine ax_ret (r := some (am_I (-1))) rfl rfl ?_
        exact hN (decide_eq_false (by omega))

theorem m_markOf {d : Nat} (hd : 1 ≤ d) {σ : am_S} {T : sp_T} (hT : TM_ T σ) (hV : TV_ T) {o : Nat} (ho : o < nO_ T) {z : Int} {Q : Option am_V → am_S → Prop} (hQ : Q (some (am_I (mk_ T o z))) σ) : am_Ev d 252 [am_R 135, am_I ((o : Nat) : Int), am_I z] σ Q := by
  obtain ⟨d, rfl⟩ : ∃ e, d = e + 1 := ⟨d - 1, by omega⟩
  have hO := hV.nO
  refine ev_in (m := 252) (c := k_X9_markOf) (L := [some (am_R 135), some (am_I ((o : Nat) : Int)), some (am_I z)]) rfl rfl rfl rfl rfl rfl ?_
  refine ax_load (q := 1) rfl rfl rfl rfl rfl ?_
  refine ax_if_ne (q := 4) (x := 13) rfl rfl (fun h1 => ?_) (fun h1 => ?_)
  · refine ax_load (q := 14) rfl rfl rfl rfl rfl ?_
    refine ax_const (q := 15) (v := am_I 1) rfl rfl rfl ?_
    refine ax_icmp_ne (q := 18) (x := 27) rfl rfl (fun h15 => ?_) (fun h15 => ?_)
    · refine ax_load (q := 28) rfl rfl rfl rfl rfl ?_
      refine ax_getf (q := 31) (v := am_R 151) rfl rfl (rfl) ?_
      refine ax_load (q := 32) rfl rfl rfl rfl rfl ?_
      refine bx_iald (q := 33) (k := o) (z := ((sk_ T o : Nat) : Int)) rfl rfl (rfl) (by omega) (by omega) ((congrFun hT.a151 _).trans (hV.sk (by omega)).1) ?_
      refine ax_ret (r := some (am_I ((sk_ T o : Nat) : Int))) rfl rfl ?_
      have e : mk_ T o z = ((sk_ T o : Nat) : Int) := by unfold mk_; simp [*]
      rw [← e]
      exact hQ
    · refine ax_load (q := 19) rfl rfl rfl rfl rfl ?_
      refine ax_getf (q := 22) (v := am_R 154) rfl rfl (rfl) ?_
      refine ax_load (q := 23) rfl rfl rfl rfl rfl ?_
      refine bx_iald (q := 24) (k := o) (z := T 154 o) rfl rfl (rfl) (by omega) (by omega) (congrFun hT.a154 _) ?_
      refine ax_goto (x := 33) rfl ?_
      refine ax_ret (r := some (am_I (T 154 o))) rfl rfl ?_
      have e : mk_ T o z = T 154 o := by unfold mk_; simp [*]
      rw [← e]
      exact hQ
  · refine ax_load (q := 5) rfl rfl rfl rfl rfl ?_
    refine ax_getf (q := 8) (v := am_R 153) rfl rfl (rfl) ?_
    refine ax_load (q := 9) rfl rfl rfl rfl rfl ?_
    refine bx_iald (q := 10) (k := o) (z := T 153 o) rfl rfl (rfl) (by omega) (by omega) (congrFun hT.a153 _) ?_
    refine ax_goto (x := 33) rfl ?_
    refine ax_ret (r := some (am_I (T 153 o))) rfl rfl ?_
    have e : mk_ T o z = T 153 o := by unfold mk_; simp [*]
    rw [← e]
    exact hQ

theorem l_isMeant {d : Nat} (hd : 1 ≤ d) {σ : am_S} {T : sp_T} (hT : TM_ T σ) (hV : TV_ T) {G : Nat → Nat → Int} {n : Nat} (hG : SG_ G n σ) {p o : Nat} (hp : p < nP_ T) (ho : o < nO_ T) {t : Int} {Q : Option am_V → am_S → Prop} (hQ : Q (some (am_I (if im_ T G p o t n then 1 else 0))) σ) : ∀ (m k : Nat), k + m = n → aW d 1 k_X9_isMeant Q 29 [some (am_R 135), some (am_I ((p : Nat) : Int)), some (am_I ((o : Nat) : Int)), some (am_I t), some (am_I (if im_ T G p o t k then 1 else 0)), some (am_I ((k : Nat) : Int))] [] σ := by
  have h6 := hV.nP
  have hO := hV.nO
  have hR := hV.nR
  have hpa := hV.pa hp
  obtain ⟨hgn, hn30, ⟨hg0, hg1, hg2, hg3, hg4, hg5⟩, hgv⟩ := hG
  intro m
  induction m with
  | zero =>
    intro k hk
    obtain rfl : k = n := by omega
    refine ax_load (q := 31) rfl rfl rfl rfl rfl ?_
    refine ax_load (q := 32) rfl rfl rfl rfl rfl ?_
    refine ax_getf (q := 35) (v := am_I ((k : Nat) : Int)) rfl rfl (am_fg rfl hgn) ?_
    refine ax_icmp_ge (q := 38) (x := 136) rfl rfl (fun h35 => ?_) (fun h => absurd h (by omega))
    refine ax_load (q := 138) rfl rfl rfl rfl rfl ?_
    refine ax_ret (r := some (am_I (if im_ T G p o t k then 1 else 0))) rfl ⟨rfl, by split <;> simp⟩ ?_
    exact hQ
  | succ m ih =>
    intro k hk
    have hgk := hgv k (by omega)
    refine ax_load (q := 31) rfl rfl rfl rfl rfl ?_
    refine ax_load (q := 32) rfl rfl rfl rfl rfl ?_
    refine ax_getf (q := 35) (v := am_I ((n : Nat) : Int)) rfl rfl (am_fg rfl hgn) ?_
    refine ax_icmp_ge (q := 38) (x := 136) rfl rfl (fun h => absurd h (by omega)) (fun h35 => ?_)
    refine ax_load (q := 40) rfl rfl rfl rfl rfl ?_
    refine ax_if_eq (q := 43) (x := 136) rfl rfl (fun h40 => ?_) (fun h40 => ?_)
    · have hb40 := it_0 h40
      refine ax_load (q := 138) rfl rfl rfl rfl rfl ?_
      refine ax_ret (r := some (am_I (if im_ T G p o t k then 1 else 0))) rfl ⟨rfl, by split <;> simp⟩ ?_
      rw [show im_ T G p o t n = im_ T G p o t k by rw [hb40, show n = k + (m + 1) by omega]; exact im_f hb40 _] at hQ
      exact hQ
    · have hb40 := it_n0 h40
      refine ax_load (q := 44) rfl rfl rfl rfl rfl ?_
      refine ax_getf (q := 47) (v := am_R 170) rfl rfl (rfl) ?_
      refine ax_load (q := 49) rfl rfl rfl rfl rfl ?_
      refine bx_iald (q := 50) (k := k) (z := G 0 k) rfl rfl (rfl) (by omega) (by omega) (congrFun hg0 _) ?_
      refine ax_load (q := 51) rfl rfl rfl rfl rfl ?_
      refine ax_icmp_ne (q := 54) (x := 130) rfl rfl (fun h51 => ?_) (fun h51 => ?_)
      · refine ax_iinc (q := 133) (z' := ((k + 1 : Nat) : Int)) (L' := [some (am_R 135), some (am_I ((p : Nat) : Int)), some (am_I ((o : Nat) : Int)), some (am_I t), some (am_I (if im_ T G p o t k then 1 else 0)), some (am_I ((k + 1 : Nat) : Int))]) rfl rfl rfl rfl (am_we (by omega) (by omega) (by omega)) rfl ?_
        refine ax_goto (x := 29) rfl ?_
        have e : im_ T G p o t (k + 1) = im_ T G p o t k := by show (im_ T G p o t k && me_ T G p o t k) = _; unfold me_; first | (rw [decide_eq_false h51]; simp; done) | (rw [decide_eq_false (show ¬ G 3 k ≤ t by omega)]; simp; done) | (rw [decide_eq_false (show ¬ G 4 k < 0 by omega), decide_eq_false (show ¬ t < G 4 k by omega)]; simp; done)
        rw [← e]
        exact ih (k + 1) (by omega)
      · refine ax_load (q := 55) rfl rfl rfl rfl rfl ?_
        refine ax_getf (q := 58) (v := am_R 173) rfl rfl (rfl) ?_
        refine ax_load (q := 60) rfl rfl rfl rfl rfl ?_
        refine bx_iald (q := 61) (k := k) (z := G 3 k) rfl rfl (rfl) (by omega) (by omega) (congrFun hg3 _) ?_
        refine ax_load (q := 62) rfl rfl rfl rfl rfl ?_
        refine ax_icmp_gt (q := 65) (x := 130) rfl rfl (fun h62 => ?_) (fun h62 => ?_)
        · refine ax_iinc (q := 133) (z' := ((k + 1 : Nat) : Int)) (L' := [some (am_R 135), some (am_I ((p : Nat) : Int)), some (am_I ((o : Nat) : Int)), some (am_I t), some (am_I (if im_ T G p o t k then 1 else 0)), some (am_I ((k + 1 : Nat) : Int))]) rfl rfl rfl rfl (am_we (by omega) (by omega) (by omega)) rfl ?_
          refine ax_goto (x := 29) rfl ?_
          have e : im_ T G p o t (k + 1) = im_ T G p o t k := by show (im_ T G p o t k && me_ T G p o t k) = _; unfold me_; first | (rw [decide_eq_false h51]; simp; done) | (rw [decide_eq_false (show ¬ G 3 k ≤ t by omega)]; simp; done) | (rw [decide_eq_false (show ¬ G 4 k < 0 by omega), decide_eq_false (show ¬ t < G 4 k by omega)]; simp; done)
          rw [← e]
          exact ih (k + 1) (by omega)
        · refine ax_load (q := 66) rfl rfl rfl rfl rfl ?_
          refine ax_getf (q := 69) (v := am_R 174) rfl rfl (rfl) ?_
          refine ax_load (q := 71) rfl rfl rfl rfl rfl ?_
          refine bx_iald (q := 72) (k := k) (z := G 4 k) rfl rfl (rfl) (by omega) (by omega) (congrFun hg4 _) ?_
          refine ax_if_lt (q := 75) (x := 86) rfl rfl (fun h72 => ?_) (fun h72 => ?_)
          · refine ax_load (q := 87) rfl rfl rfl rfl rfl ?_
            refine ax_load (q := 88) rfl rfl rfl rfl rfl ?_
            refine ax_load (q := 89) rfl rfl rfl rfl rfl ?_
            refine ax_getf (q := 92) (v := am_R 171) rfl rfl (rfl) ?_
            refine ax_load (q := 94) rfl rfl rfl rfl rfl ?_
            refine bx_iald (q := 95) (k := k) (z := G 1 k) rfl rfl (rfl) (by omega) (by omega) (congrFun hg1 _) ?_
            refine ax_callv (q := 98) rfl rfl rfl rfl rfl rfl ?_
            refine m_markOf (by omega) hT hV ho ?_
            refine ax_load (q := 99) rfl rfl rfl rfl rfl ?_
            refine ax_getf (q := 102) (v := am_R 172) rfl rfl (rfl) ?_
            refine ax_load (q := 104) rfl rfl rfl rfl rfl ?_
            refine bx_iald (q := 105) (k := k) (z := G 2 k) rfl rfl (rfl) (by omega) (by omega) (congrFun hg2 _) ?_
            refine ax_icmp_ne (q := 108) (x := 112) rfl rfl (fun h105 => ?_) (fun h105 => ?_)
            · refine ax_const (q := 113) (v := am_I 0) rfl rfl rfl ?_
              refine ax_load (q := 114) rfl rfl rfl rfl rfl ?_
              refine ax_getf (q := 117) (v := am_R 175) rfl rfl (rfl) ?_
              refine ax_load (q := 119) rfl rfl rfl rfl rfl ?_
              refine bx_bald (q := 120) (k := k) (z := G 5 k) rfl rfl (Or.inr rfl) (by omega) (by omega) (congrFun hg5 _) ?_
              refine ax_icmp_ne (q := 123) (x := 127) rfl rfl (fun h120 => ?_) (fun h120 => ?_)
              · refine ax_const (q := 128) (v := am_I 0) rfl rfl rfl ?_
                refine ax_store (q := 130) (L' := [some (am_R 135), some (am_I ((p : Nat) : Int)), some (am_I ((o : Nat) : Int)), some (am_I t), some (am_I 0), some (am_I ((k : Nat) : Int))]) rfl rfl rfl rfl rfl rfl ?_
                refine ax_iinc (q := 133) (z' := ((k + 1 : Nat) : Int)) (L' := [some (am_R 135), some (am_I ((p : Nat) : Int)), some (am_I ((o : Nat) : Int)), some (am_I t), some (am_I 0), some (am_I ((k + 1 : Nat) : Int))]) rfl rfl rfl rfl (am_we (by omega) (by omega) (by omega)) rfl ?_
                refine ax_goto (x := 29) rfl ?_
                have e : im_ T G p o t (k + 1) = false := by
                  show (im_ T G p o t k && me_ T G p o t k) = _
                  unfold me_
                  have q4 : (decide (G 4 k < 0) || decide (t < G 4 k)) = true := by first | (rw [decide_eq_true (show G 4 k < 0 by omega)]; rfl) | (rw [decide_eq_true (show t < G 4 k by omega)]; simp)
                  rw [hb40, decide_eq_true h51, decide_eq_true (show G 3 k ≤ t by omega), q4]
                  by_cases q : mk_ T o (G 1 k) = G 2 k <;> by_cases q1 : G 5 k = 1 <;> first | (exfalso; omega) | (rw [decide_eq_true q, decide_eq_true q1]; rfl) | (rw [decide_eq_true q, decide_eq_false q1]; rfl) | (rw [decide_eq_false q, decide_eq_true q1]; rfl) | (rw [decide_eq_false q, decide_eq_false q1]; rfl)
                have g := ih (k + 1) (by omega)
                rw [e] at g
                exact g
              · refine ax_const (q := 124) (v := am_I 1) rfl rfl rfl ?_
                refine ax_goto (x := 128) rfl ?_
                refine ax_store (q := 130) (L' := [some (am_R 135), some (am_I ((p : Nat) : Int)), some (am_I ((o : Nat) : Int)), some (am_I t), some (am_I 1), some (am_I ((k : Nat) : Int))]) rfl rfl rfl rfl rfl rfl ?_
                refine ax_iinc (q := 133) (z' := ((k + 1 : Nat) : Int)) (L' := [some (am_R 135), some (am_I ((p : Nat) : Int)), some (am_I ((o : Nat) : Int)), some (am_I t), some (am_I 1), some (am_I ((k + 1 : Nat) : Int))]) rfl rfl rfl rfl (am_we (by omega) (by omega) (by omega)) rfl ?_
                refine ax_goto (x := 29) rfl ?_
                have e : im_ T G p o t (k + 1) = true := by
                  show (im_ T G p o t k && me_ T G p o t k) = _
                  unfold me_
                  have q4 : (decide (G 4 k < 0) || decide (t < G 4 k)) = true := by first | (rw [decide_eq_true (show G 4 k < 0 by omega)]; rfl) | (rw [decide_eq_true (show t < G 4 k by omega)]; simp)
                  rw [hb40, decide_eq_true h51, decide_eq_true (show G 3 k ≤ t by omega), q4]
                  by_cases q : mk_ T o (G 1 k) = G 2 k <;> by_cases q1 : G 5 k = 1 <;> first | (exfalso; omega) | (rw [decide_eq_true q, decide_eq_true q1]; rfl) | (rw [decide_eq_true q, decide_eq_false q1]; rfl) | (rw [decide_eq_false q, decide_eq_true q1]; rfl) | (rw [decide_eq_false q, decide_eq_false q1]; rfl)
                have g := ih (k + 1) (by omega)
                rw [e] at g
                exact g
            · refine ax_const (q := 109) (v := am_I 1) rfl rfl rfl ?_
              refine ax_goto (x := 113) rfl ?_
              refine ax_load (q := 114) rfl rfl rfl rfl rfl ?_
              refine ax_getf (q := 117) (v := am_R 175) rfl rfl (rfl) ?_
              refine ax_load (q := 119) rfl rfl rfl rfl rfl ?_
              refine bx_bald (q := 120) (k := k) (z := G 5 k) rfl rfl (Or.inr rfl) (by omega) (by omega) (congrFun hg5 _) ?_
              refine ax_icmp_ne (q := 123) (x := 127) rfl rfl (fun h120 => ?_) (fun h120 => ?_)
              · refine ax_const (q := 128) (v := am_I 0) rfl rfl rfl ?_
                refine ax_store (q := 130) (L' := [some (am_R 135), some (am_I ((p : Nat) : Int)), some (am_I ((o : Nat) : Int)), some (am_I t), some (am_I 0), some (am_I ((k : Nat) : Int))]) rfl rfl rfl rfl rfl rfl ?_
                refine ax_iinc (q := 133) (z' := ((k + 1 : Nat) : Int)) (L' := [some (am_R 135), some (am_I ((p : Nat) : Int)), some (am_I ((o : Nat) : Int)), some (am_I t), some (am_I 0), some (am_I ((k + 1 : Nat) : Int))]) rfl rfl rfl rfl (am_we (by omega) (by omega) (by omega)) rfl ?_
                refine ax_goto (x := 29) rfl ?_
                have e : im_ T G p o t (k + 1) = false := by
                  show (im_ T G p o t k && me_ T G p o t k) = _
                  unfold me_
                  have q4 : (decide (G 4 k < 0) || decide (t < G 4 k)) = true := by first | (rw [decide_eq_true (show G 4 k < 0 by omega)]; rfl) | (rw [decide_eq_true (show t < G 4 k by omega)]; simp)
                  rw [hb40, decide_eq_true h51, decide_eq_true (show G 3 k ≤ t by omega), q4]
                  by_cases q : mk_ T o (G 1 k) = G 2 k <;> by_cases q1 : G 5 k = 1 <;> first | (exfalso; omega) | (rw [decide_eq_true q, decide_eq_true q1]; rfl) | (rw [decide_eq_true q, decide_eq_false q1]; rfl) | (rw [decide_eq_false q, decide_eq_true q1]; rfl) | (rw [decide_eq_false q, decide_eq_false q1]; rfl)
                have g := ih (k + 1) (by omega)
                rw [e] at g
                exact g
              · refine ax_const (q := 124) (v := am_I 1) rfl rfl rfl ?_
                refine ax_goto (x := 128) rfl ?_
                refine ax_store (q := 130) (L' := [some (am_R 135), some (am_I ((p : Nat) : Int)), some (am_I ((o : Nat) : Int)), some (am_I t), some (am_I 1), some (am_I ((k : Nat) : Int))]) rfl rfl rfl rfl rfl rfl ?_
                refine ax_iinc (q := 133) (z' := ((k + 1 : Nat) : Int)) (L' := [some (am_R 135), some (am_I ((p : Nat) : Int)), some (am_I ((o : Nat) : Int)), some (am_I t), some (am_I 1), some (am_I ((k + 1 : Nat) : Int))]) rfl rfl rfl rfl (am_we (by omega) (by omega) (by omega)) rfl ?_
                refine ax_goto (x := 29) rfl ?_
                have e : im_ T G p o t (k + 1) = true := by
                  show (im_ T G p o t k && me_ T G p o t k) = _
                  unfold me_
                  have q4 : (decide (G 4 k < 0) || decide (t < G 4 k)) = true := by first | (rw [decide_eq_true (show G 4 k < 0 by omega)]; rfl) | (rw [decide_eq_true (show t < G 4 k by omega)]; simp)
                  rw [hb40, decide_eq_true h51, decide_eq_true (show G 3 k ≤ t by omega), q4]
                  by_cases q : mk_ T o (G 1 k) = G 2 k <;> by_cases q1 : G 5 k = 1 <;> first | (exfalso; omega) | (rw [decide_eq_true q, decide_eq_true q1]; rfl) | (rw [decide_eq_true q, decide_eq_false q1]; rfl) | (rw [decide_eq_false q, decide_eq_true q1]; rfl) | (rw [decide_eq_false q, decide_eq_false q1]; rfl)
                have g := ih (k + 1) (by omega)
                rw [e] at g
                exact g
          · refine ax_load (q := 76) rfl rfl rfl rfl rfl ?_
            refine ax_getf (q := 79) (v := am_R 174) rfl rfl (rfl) ?_
            refine ax_load (q := 81) rfl rfl rfl rfl rfl ?_
            refine bx_iald (q := 82) (k := k) (z := G 4 k) rfl rfl (rfl) (by omega) (by omega) (congrFun hg4 _) ?_
            refine ax_load (q := 83) rfl rfl rfl rfl rfl ?_
            refine ax_icmp_le (q := 86) (x := 130) rfl rfl (fun h83 => ?_) (fun h83 => ?_)
            · refine ax_iinc (q := 133) (z' := ((k + 1 : Nat) : Int)) (L' := [some (am_R 135), some (am_I ((p : Nat) : Int)), some (am_I ((o : Nat) : Int)), some (am_I t), some (am_I (if im_ T G p o t k then 1 else 0)), some (am_I ((k + 1 : Nat) : Int))]) rfl rfl rfl rfl (am_we (by omega) (by omega) (by omega)) rfl ?_
              refine ax_goto (x := 29) rfl ?_
              have e : im_ T G p o t (k + 1) = im_ T G p o t k := by show (im_ T G p o t k && me_ T G p o t k) = _; unfold me_; first | (rw [decide_eq_false h51]; simp; done) | (rw [decide_eq_false (show ¬ G 3 k ≤ t by omega)]; simp; done) | (rw [decide_eq_false (show ¬ G 4 k < 0 by omega), decide_eq_false (show ¬ t < G 4 k by omega)]; simp; done)
              rw [← e]
              exact ih (k + 1) (by omega)
            · refine ax_load (q := 87) rfl rfl rfl rfl rfl ?_
              refine ax_load (q := 88) rfl rfl rfl rfl rfl ?_
              refine ax_load (q := 89) rfl rfl rfl rfl rfl ?_
              refine ax_getf (q := 92) (v := am_R 171) rfl rfl (rfl) ?_
              refine ax_load (q := 94) rfl rfl rfl rfl rfl ?_
              refine bx_iald (q := 95) (k := k) (z := G 1 k) rfl rfl (rfl) (by omega) (by omega) (congrFun hg1 _) ?_
              refine ax_callv (q := 98) rfl rfl rfl rfl rfl rfl ?_
              refine m_markOf (by omega) hT hV ho ?_
              refine ax_load (q := 99) rfl rfl rfl rfl rfl ?_
              refine ax_getf (q := 102) (v := am_R 172) rfl rfl (rfl) ?_
              refine ax_load (q := 104) rfl rfl rfl rfl rfl ?_
              refine bx_iald (q := 105) (k := k) (z := G 2 k) rfl rfl (rfl) (by omega) (by omega) (congrFun hg2 _) ?_
              refine ax_icmp_ne (q := 108) (x := 112) rfl rfl (fun h105 => ?_) (fun h105 => ?_)
              · refine ax_const (q := 113) (v := am_I 0) rfl rfl rfl ?_
                refine ax_load (q := 114) rfl rfl rfl rfl rfl ?_
                refine ax_getf (q := 117) (v := am_R 175) rfl rfl (rfl) ?_
                refine ax_load (q := 119) rfl rfl rfl rfl rfl ?_
                refine bx_bald (q := 120) (k := k) (z := G 5 k) rfl rfl (Or.inr rfl) (by omega) (by omega) (congrFun hg5 _) ?_
                refine ax_icmp_ne (q := 123) (x := 127) rfl rfl (fun h120 => ?_) (fun h120 => ?_)
                · refine ax_const (q := 128) (v := am_I 0) rfl rfl rfl ?_
                  refine ax_store (q := 130) (L' := [some (am_R 135), some (am_I ((p : Nat) : Int)), some (am_I ((o : Nat) : Int)), some (am_I t), some (am_I 0), some (am_I ((k : Nat) : Int))]) rfl rfl rfl rfl rfl rfl ?_
                  refine ax_iinc (q := 133) (z' := ((k + 1 : Nat) : Int)) (L' := [some (am_R 135), some (am_I ((p : Nat) : Int)), some (am_I ((o : Nat) : Int)), some (am_I t), some (am_I 0), some (am_I ((k + 1 : Nat) : Int))]) rfl rfl rfl rfl (am_we (by omega) (by omega) (by omega)) rfl ?_
                  refine ax_goto (x := 29) rfl ?_
                  have e : im_ T G p o t (k + 1) = false := by
                    show (im_ T G p o t k && me_ T G p o t k) = _
                    unfold me_
                    have q4 : (decide (G 4 k < 0) || decide (t < G 4 k)) = true := by first | (rw [decide_eq_true (show G 4 k < 0 by omega)]; rfl) | (rw [decide_eq_true (show t < G 4 k by omega)]; simp)
                    rw [hb40, decide_eq_true h51, decide_eq_true (show G 3 k ≤ t by omega), q4]
                    by_cases q : mk_ T o (G 1 k) = G 2 k <;> by_cases q1 : G 5 k = 1 <;> first | (exfalso; omega) | (rw [decide_eq_true q, decide_eq_true q1]; rfl) | (rw [decide_eq_true q, decide_eq_false q1]; rfl) | (rw [decide_eq_false q, decide_eq_true q1]; rfl) | (rw [decide_eq_false q, decide_eq_false q1]; rfl)
                  have g := ih (k + 1) (by omega)
                  rw [e] at g
                  exact g
                · refine ax_const (q := 124) (v := am_I 1) rfl rfl rfl ?_
                  refine ax_goto (x := 128) rfl ?_
                  refine ax_store (q := 130) (L' := [some (am_R 135), some (am_I ((p : Nat) : Int)), some (am_I ((o : Nat) : Int)), some (am_I t), some (am_I 1), some (am_I ((k : Nat) : Int))]) rfl rfl rfl rfl rfl rfl ?_
                  refine ax_iinc (q := 133) (z' := ((k + 1 : Nat) : Int)) (L' := [some (am_R 135), some (am_I ((p : Nat) : Int)), some (am_I ((o : Nat) : Int)), some (am_I t), some (am_I 1), some (am_I ((k + 1 : Nat) : Int))]) rfl rfl rfl rfl (am_we (by omega) (by omega) (by omega)) rfl ?_
                  refine ax_goto (x := 29) rfl ?_
                  have e : im_ T G p o t (k + 1) = true := by
                    show (im_ T G p o t k && me_ T G p o t k) = _
                    unfold me_
                    have q4 : (decide (G 4 k < 0) || decide (t < G 4 k)) = true := by first | (rw [decide_eq_true (show G 4 k < 0 by omega)]; rfl) | (rw [decide_eq_true (show t < G 4 k by omega)]; simp)
                    rw [hb40, decide_eq_true h51, decide_eq_true (show G 3 k ≤ t by omega), q4]
                    by_cases q : mk_ T o (G 1 k) = G 2 k <;> by_cases q1 : G 5 k = 1 <;> first | (exfalso; omega) | (rw [decide_eq_true q, decide_eq_true q1]; rfl) | (rw [decide_eq_true q, decide_eq_false q1]; rfl) | (rw [decide_eq_false q, decide_eq_true q1]; rfl) | (rw [decide_eq_false q, decide_eq_false q1]; rfl)
                  have g := ih (k + 1) (by omega)
                  rw [e] at g
                  exact g
              · refine ax_const (q := 109) (v := am_I 1) rfl rfl rfl ?_
                refine ax_goto (x := 113) rfl ?_
                refine ax_load (q := 114) rfl rfl rfl rfl rfl ?_
                refine ax_getf (q := 117) (v := am_R 175) rfl rfl (rfl) ?_
                refine ax_load (q := 119) rfl rfl rfl rfl rfl ?_
                refine bx_bald (q := 120) (k := k) (z := G 5 k) rfl rfl (Or.inr rfl) (by omega) (by omega) (congrFun hg5 _) ?_
                refine ax_icmp_ne (q := 123) (x := 127) rfl rfl (fun h120 => ?_) (fun h120 => ?_)
                · refine ax_const (q := 128) (v := am_I 0) rfl rfl rfl ?_
                  refine ax_store (q := 130) (L' := [some (am_R 135), some (am_I ((p : Nat) : Int)), some (am_I ((o : Nat) : Int)), some (am_I t), some (am_I 0), some (am_I ((k : Nat) : Int))]) rfl rfl rfl rfl rfl rfl ?_
                  refine ax_iinc (q := 133) (z' := ((k + 1 : Nat) : Int)) (L' := [some (am_R 135), some (am_I ((p : Nat) : Int)), some (am_I ((o : Nat) : Int)), some (am_I t), some (am_I 0), some (am_I ((k + 1 : Nat) : Int))]) rfl rfl rfl rfl (am_we (by omega) (by omega) (by omega)) rfl ?_
                  refine ax_goto (x := 29) rfl ?_
                  have e : im_ T G p o t (k + 1) = false := by
                    show (im_ T G p o t k && me_ T G p o t k) = _
                    unfold me_
                    have q4 : (decide (G 4 k < 0) || decide (t < G 4 k)) = true := by first | (rw [decide_eq_true (show G 4 k < 0 by omega)]; rfl) | (rw [decide_eq_true (show t < G 4 k by omega)]; simp)
                    rw [hb40, decide_eq_true h51, decide_eq_true (show G 3 k ≤ t by omega), q4]
                    by_cases q : mk_ T o (G 1 k) = G 2 k <;> by_cases q1 : G 5 k = 1 <;> first | (exfalso; omega) | (rw [decide_eq_true q, decide_eq_true q1]; rfl) | (rw [decide_eq_true q, decide_eq_false q1]; rfl) | (rw [decide_eq_false q, decide_eq_true q1]; rfl) | (rw [decide_eq_false q, decide_eq_false q1]; rfl)
                  have g := ih (k + 1) (by omega)
                  rw [e] at g
                  exact g
                · refine ax_const (q := 124) (v := am_I 1) rfl rfl rfl ?_
                  refine ax_goto (x := 128) rfl ?_
                  refine ax_store (q := 130) (L' := [some (am_R 135), some (am_I ((p : Nat) : Int)), some (am_I ((o : Nat) : Int)), some (am_I t), some (am_I 1), some (am_I ((k : Nat) : Int))]) rfl rfl rfl rfl rfl rfl ?_
                  refine ax_iinc (q := 133) (z' := ((k + 1 : Nat) : Int)) (L' := [some (am_R 135), some (am_I ((p : Nat) : Int)), some (am_I ((o : Nat) : Int)), some (am_I t), some (am_I 1), some (am_I ((k + 1 : Nat) : Int))]) rfl rfl rfl rfl (am_we (by omega) (by omega) (by omega)) rfl ?_
                  refine ax_goto (x := 29) rfl ?_
                  have e : im_ T G p o t (k + 1) = true := by
                    show (im_ T G p o t k && me_ T G p o t k) = _
                    unfold me_
                    have q4 : (decide (G 4 k < 0) || decide (t < G 4 k)) = true := by first | (rw [decide_eq_true (show G 4 k < 0 by omega)]; rfl) | (rw [decide_eq_true (show t < G 4 k by omega)]; simp)
                    rw [hb40, decide_eq_true h51, decide_eq_true (show G 3 k ≤ t by omega), q4]
                    by_cases q : mk_ T o (G 1 k) = G 2 k <;> by_cases q1 : G 5 k = 1 <;> first | (exfalso; omega) | (rw [decide_eq_true q, decide_eq_true q1]; rfl) | (rw [decide_eq_true q, decide_eq_false q1]; rfl) | (rw [decide_eq_false q, decide_eq_true q1]; rfl) | (rw [decide_eq_false q, decide_eq_false q1]; rfl)
                  have g := ih (k + 1) (by omega)
                  rw [e] at g
                  exact g

theorem m_isMeant {d : Nat} (hd : 2 ≤ d) {σ : am_S} {T : sp_T} (hT : TM_ T σ) (hV : TV_ T) {G : Nat → Nat → Int} {n : Nat} (hG : SG_ G n σ) {p o : Nat} (hp : p < nP_ T) (ho : o < nO_ T) {t : Int} {Q : Option am_V → am_S → Prop} (hQ : Q (some (am_I (if im_ T G p o t n then 1 else 0))) σ) : am_Ev d 253 [am_R 135, am_I ((p : Nat) : Int), am_I ((o : Nat) : Int), am_I t] σ Q := by
  obtain ⟨d, rfl⟩ : ∃ e, d = e + 1 := ⟨d - 1, by omega⟩
  have h6 := hV.nP
  have hO := hV.nO
  have hR := hV.nR
  have hpa := hV.pa hp
  refine ev_in (m := 253) (c := k_X9_isMeant) (L := [some (am_R 135), some (am_I ((p : Nat) : Int)), some (am_I ((o : Nat) : Int)), some (am_I t), none, none]) rfl rfl rfl rfl rfl rfl ?_
  refine ax_load (q := 1) rfl rfl rfl rfl rfl ?_
  refine ax_getf (q := 4) (v := am_R 158) rfl rfl (rfl) ?_
  refine ax_const (q := 6) (v := am_I 8) rfl rfl rfl ?_
  refine ax_load (q := 7) rfl rfl rfl rfl rfl ?_
  refine ax_getf (q := 10) (v := am_R 162) rfl rfl (rfl) ?_
  refine ax_load (q := 11) rfl rfl rfl rfl rfl ?_
  refine bx_iald (q := 12) (k := p) (z := ((pa_ T p : Nat) : Int)) rfl rfl (rfl) (by omega) (by omega) ((congrFun hT.a162 _).trans (hV.pa (by omega)).1) ?_
  refine ax_imul (q := 13) (z := ((8 * (pa_ T p) : Nat) : Int)) rfl rfl (am_we (by omega) (by omega) (by omega)) ?_
  refine ax_load (q := 14) rfl rfl rfl rfl rfl ?_
  refine ax_iadd (q := 15) (z := (((8 * (pa_ T p)) + o : Nat) : Int)) rfl rfl (am_we (by omega) (by omega) (by omega)) ?_
  refine bx_iald (q := 16) (k := (8 * (pa_ T p)) + o) (z := T 158 ((8 * (pa_ T p)) + o)) rfl rfl (rfl) (by omega) (by omega) (congrFun hT.a158 _) ?_
  refine ax_if_le (q := 19) (x := 23) rfl rfl (fun h16 => ?_) (fun h16 => ?_)
  · have g := l_isMeant (d := d) (by omega) hT hV hG hp ho hQ (t := t) n 0 (by omega)
    rw [show im_ T G p o t 0 = false from decide_eq_false (show ¬ 0 < T 158 (8 * pa_ T p + o) by omega)] at g
    refine ax_const (q := 24) (v := am_I 0) rfl rfl rfl ?_
    refine ax_store (q := 26) (L' := [some (am_R 135), some (am_I ((p : Nat) : Int)), some (am_I ((o : Nat) : Int)), some (am_I t), some (am_I 0), none]) rfl rfl rfl rfl rfl rfl ?_
    refine ax_const (q := 27) (v := am_I 0) rfl rfl rfl ?_
    refine ax_store (q := 29) (L' := [some (am_R 135), some (am_I ((p : Nat) : Int)), some (am_I ((o : Nat) : Int)), some (am_I t), some (am_I 0), some (am_I 0)]) rfl rfl rfl rfl rfl rfl ?_
    exact g
  · have g := l_isMeant (d := d) (by omega) hT hV hG hp ho hQ (t := t) n 0 (by omega)
    rw [show im_ T G p o t 0 = true from decide_eq_true (show 0 < T 158 (8 * pa_ T p + o) by omega)] at g
    refine ax_const (q := 20) (v := am_I 1) rfl rfl rfl ?_
    refine ax_goto (x := 24) rfl ?_
    refine ax_store (q := 26) (L' := [some (am_R 135), some (am_I ((p : Nat) : Int)), some (am_I ((o : Nat) : Int)), some (am_I t), some (am_I 1), none]) rfl rfl rfl rfl rfl rfl ?_
    refine ax_const (q := 27) (v := am_I 0) rfl rfl rfl ?_
    refine ax_store (q := 29) (L' := [some (am_R 135), some (am_I ((p : Nat) : Int)), some (am_I ((o : Nat) : Int)), some (am_I t), some (am_I 1), some (am_I 0)]) rfl rfl rfl rfl rfl rfl ?_
    exact g

theorem l_meant {d : Nat} (hd : 2 ≤ d) {σ : am_S} {T : sp_T} (hT : TM_ T σ) (hV : TV_ T) {G : Nat → Nat → Int} {n : Nat} (hG : SG_ G n σ) {p : Nat} (hp : p < nP_ T) {t : Int} {Q : Option am_V → am_S → Prop} (hQ : Q (some (am_I ((ms_ T G n p t : Nat) : Int))) σ) : ∀ (m k : Nat), k + m = nO_ T → aW d 0 k_X9_meant Q 15 [some (am_R 135), some (am_I ((p : Nat) : Int)), some (am_I t), some (am_I ((bi_ k (fun o => im_ T G p o t n) : Nat) : Int)), some (am_I ((k : Nat) : Int))] [] σ := by
  have hn := hV.nO
  intro m
  induction m with
  | zero =>
    intro k hk
    obtain rfl : k = nO_ T := by omega
    refine ax_load (q := 17) rfl rfl rfl rfl rfl ?_
    refine ax_load (q := 18) rfl rfl rfl rfl rfl ?_
    refine ax_getf (q := 21) (v := am_I ((nO_ T : Nat) : Int)) rfl rfl (am_fg rfl (hT.s51.trans hV.nO.1)) ?_
    refine ax_icmp_ge (q := 24) (x := 47) rfl rfl (fun h21 => ?_) (fun h => absurd h (by omega))
    refine ax_load (q := 48) rfl rfl rfl rfl rfl ?_
    refine ax_ret (r := some (am_I ((bi_ (nO_ T) (fun o => im_ T G p o t n) : Nat) : Int))) rfl rfl ?_
    exact hQ
  | succ m ih =>
    intro k hk
    refine ax_load (q := 17) rfl rfl rfl rfl rfl ?_
    refine ax_load (q := 18) rfl rfl rfl rfl rfl ?_
    refine ax_getf (q := 21) (v := am_I ((nO_ T : Nat) : Int)) rfl rfl (am_fg rfl (hT.s51.trans hV.nO.1)) ?_
    refine ax_icmp_ge (q := 24) (x := 47) rfl rfl (fun h => absurd h (by omega)) (fun h21 => ?_)
    refine ax_load (q := 25) rfl rfl rfl rfl rfl ?_
    refine ax_load (q := 26) rfl rfl rfl rfl rfl ?_
    refine ax_load (q := 27) rfl rfl rfl rfl rfl ?_
    refine ax_load (q := 29) rfl rfl rfl rfl rfl ?_
    refine ax_load (q := 30) rfl rfl rfl rfl rfl ?_
    refine ax_callv (q := 33) rfl rfl rfl rfl rfl rfl ?_
    refine m_isMeant (by omega) hT hV hG hp (by omega) ?_
    refine ax_calls (q := 36) rfl rfl rfl rfl rfl ?_
    refine m_truthz (by omega) (by split <;> simp) ?_
    refine ax_load (q := 38) rfl rfl rfl rfl rfl ?_
    refine ax_ishl (q := 39) (z := am_shl (if im_ T G p k t n then 1 else 0) (k : Int)) rfl rfl (rfl) ?_
    refine ax_ior (q := 40) (z := ((bi_ (k + 1) (fun o => im_ T G p o t n) : Nat) : Int)) rfl rfl (am_or_bi (fun o => im_ T G p o t n) (by omega)) ?_
    refine ax_store (q := 41) (L' := [some (am_R 135), some (am_I ((p : Nat) : Int)), some (am_I t), some (am_I ((bi_ (k + 1) (fun o => im_ T G p o t n) : Nat) : Int)), some (am_I ((k : Nat) : Int))]) rfl rfl rfl rfl rfl rfl ?_
    refine ax_iinc (q := 44) (z' := ((k + 1 : Nat) : Int)) (L' := [some (am_R 135), some (am_I ((p : Nat) : Int)), some (am_I t), some (am_I ((bi_ (k + 1) (fun o => im_ T G p o t n) : Nat) : Int)), some (am_I ((k + 1 : Nat) : Int))]) rfl rfl rfl rfl (am_we (by omega) (by omega) (by omega)) rfl ?_
    refine ax_goto (x := 15) rfl ?_
    exact ih (k + 1) (by omega)

theorem m_meant {d : Nat} (hd : 3 ≤ d) {σ : am_S} {T : sp_T} (hT : TM_ T σ) (hV : TV_ T) {G : Nat → Nat → Int} {n : Nat} (hG : SG_ G n σ) {a t : Int} {Q : Option am_V → am_S → Prop} (hQ : ∀ σ', fr_ [] σ σ' → Q (some (am_I (F_meant T G n a t))) σ') : am_Ev d 254 [am_R 135, am_I a, am_I t] σ Q := by
  obtain ⟨d, rfl⟩ : ∃ e, d = e + 1 := ⟨d - 1, by omega⟩
  have hO := hV.nO
  refine ev_in (m := 254) (c := k_X9_meant) (L := [some (am_R 135), some (am_I a), some (am_I t), none, none]) rfl rfl rfl rfl rfl rfl ?_
  refine ax_load (q := 1) rfl rfl rfl rfl rfl ?_
  refine ax_load (q := 2) rfl rfl rfl rfl rfl ?_
  refine ax_callv (q := 5) rfl rfl rfl rfl rfl rfl ?_
  refine m_isPerson (by omega) hT hV ?_
  refine ax_if_ne (q := 8) (x := 10) rfl rfl (fun h5 => ?_) (fun h5 => ?_)
  · have hb5 := it_n0 h5
    obtain ⟨p, rfl, hp⟩ := inr_t hb5
    refine ax_const (q := 11) (v := am_I 0) rfl rfl rfl ?_
    refine ax_store (q := 12) (L' := [some (am_R 135), some (am_I ((p : Nat) : Int)), some (am_I t), some (am_I 0), none]) rfl rfl rfl rfl rfl rfl ?_
    refine ax_const (q := 13) (v := am_I 0) rfl rfl rfl ?_
    refine ax_store (q := 15) (L' := [some (am_R 135), some (am_I ((p : Nat) : Int)), some (am_I t), some (am_I 0), some (am_I 0)]) rfl rfl rfl rfl rfl rfl ?_
    have e : F_meant T G n (p : Int) t = ((ms_ T G n p t : Nat) : Int) := by unfold F_meant inr_; rw [hb5]; rfl
    exact l_meant (by omega) hT hV hG hp (by rw [← e]; exact hQ _ (fr_rf _ _)) (nO_ T) 0 (by omega)
  · have hb5 := it_0 h5
    refine ax_const (q := 9) (v := am_I (-1)) rfl rfl rfl ?_
    refine ax_ret (r := some (am_I (-1))) rfl rfl ?_
    have e : F_meant T G n a t = (-1) := by unfold F_meant; unfold inr_ at *; simp [*]
    rw [← e]
    exact hQ _ (fr_rf _ _)

theorem l_likely {d : Nat} (hd : 2 ≤ d) {σ : am_S} {T : sp_T} (hT : TM_ T σ) (hV : TV_ T) {G : Nat → Nat → Int} {n : Nat} (hG : SG_ G n σ) {p : Nat} (hp : p < nP_ T) {t : Int} {Q : Option am_V → am_S → Prop} (hQ : Q (some (am_I ((lk_ T G n p t (nO_ T)).1))) σ) : ∀ (m k : Nat) (o6 : Option am_V), k + m = nO_ T → aW d 0 k_X9_likely Q 18 [some (am_R 135), some (am_I ((p : Nat) : Int)), some (am_I t), some (am_I ((lk_ T G n p t k).1)), some (am_I ((lk_ T G n p t k).2)), some (am_I ((k : Nat) : Int)), o6] [] σ := by
  have h6 := hV.nP
  have hn := hV.nO
  have hR := hV.nR
  have hpa := hV.pa hp
  intro m
  induction m with
  | zero =>
    intro k o6 hk
    obtain rfl : k = nO_ T := by omega
    refine ax_load (q := 20) rfl rfl rfl rfl rfl ?_
    refine ax_load (q := 21) rfl rfl rfl rfl rfl ?_
    refine ax_getf (q := 24) (v := am_I ((nO_ T : Nat) : Int)) rfl rfl (am_fg rfl (hT.s51.trans hV.nO.1)) ?_
    refine ax_icmp_ge (q := 27) (x := 80) rfl rfl (fun h24 => ?_) (fun h => absurd h (by omega))
    refine ax_load (q := 81) rfl rfl rfl rfl rfl ?_
    refine ax_ret (r := some (am_I ((lk_ T G n p t ((nO_ T))).1))) rfl rfl ?_
    exact hQ
  | succ m ih =>
    intro k o6 hk
    refine ax_load (q := 20) rfl rfl rfl rfl rfl ?_
    refine ax_load (q := 21) rfl rfl rfl rfl rfl ?_
    refine ax_getf (q := 24) (v := am_I ((nO_ T : Nat) : Int)) rfl rfl (am_fg rfl (hT.s51.trans hV.nO.1)) ?_
    refine ax_icmp_ge (q := 27) (x := 80) rfl rfl (fun h => absurd h (by omega)) (fun h24 => ?_)
    refine ax_load (q := 28) rfl rfl rfl rfl rfl ?_
    refine ax_getf (q := 31) (v := am_R 158) rfl rfl (rfl) ?_
    refine ax_const (q := 33) (v := am_I 8) rfl rfl rfl ?_
    refine ax_load (q := 34) rfl rfl rfl rfl rfl ?_
    refine ax_getf (q := 37) (v := am_R 162) rfl rfl (rfl) ?_
    refine ax_load (q := 38) rfl rfl rfl rfl rfl ?_
    refine bx_iald (q := 39) (k := p) (z := ((pa_ T p : Nat) : Int)) rfl rfl (rfl) (by omega) (by omega) ((congrFun hT.a162 _).trans (hV.pa (by omega)).1) ?_
    refine ax_imul (q := 40) (z := ((8 * (pa_ T p) : Nat) : Int)) rfl rfl (am_we (by omega) (by omega) (by omega)) ?_
    refine ax_load (q := 42) rfl rfl rfl rfl rfl ?_
    refine ax_iadd (q := 43) (z := (((8 * (pa_ T p)) + k : Nat) : Int)) rfl rfl (am_we (by omega) (by omega) (by omega)) ?_
    refine bx_iald (q := 44) (k := (8 * (pa_ T p)) + k) (z := T 158 ((8 * (pa_ T p)) + k)) rfl rfl (rfl) (by omega) (by omega) (congrFun hT.a158 _) ?_
    refine ax_store (q := 46) (L' := [some (am_R 135), some (am_I ((p : Nat) : Int)), some (am_I t), some (am_I ((lk_ T G n p t k).1)), some (am_I ((lk_ T G n p t k).2)), some (am_I ((k : Nat) : Int)), some (am_I (T 158 ((8 * (pa_ T p)) + k)))]) rfl rfl rfl rfl rfl rfl ?_
    refine ax_load (q := 47) rfl rfl rfl rfl rfl ?_
    refine ax_load (q := 48) rfl rfl rfl rfl rfl ?_
    refine ax_load (q := 50) rfl rfl rfl rfl rfl ?_
    refine ax_load (q := 51) rfl rfl rfl rfl rfl ?_
    refine ax_callv (q := 54) rfl rfl rfl rfl rfl rfl ?_
    refine m_isMeant (by omega) hT hV hG hp (by omega) ?_
    refine ax_if_eq (q := 57) (x := 74) rfl rfl (fun h54 => ?_) (fun h54 => ?_)
    · have hb54 := it_0 h54
      refine ax_iinc (q := 77) (z' := ((k + 1 : Nat) : Int)) (L' := [some (am_R 135), some (am_I ((p : Nat) : Int)), some (am_I t), some (am_I ((lk_ T G n p t k).1)), some (am_I ((lk_ T G n p t k).2)), some (am_I ((k + 1 : Nat) : Int)), some (am_I (T 158 ((8 * (pa_ T p)) + k)))]) rfl rfl rfl rfl (am_we (by omega) (by omega) (by omega)) rfl ?_
      refine ax_goto (x := 18) rfl ?_
      have e : lk_ T G n p t (k + 1) = lk_ T G n p t k := by
        show (if im_ T G p k t n && decide ((lk_ T G n p t k).2 < T 158 (8 * pa_ T p + k)) then _ else _) = _
        first | (rw [hb54, Bool.false_and]; rfl) | (rw [decide_eq_false (show ¬ (lk_ T G n p t k).2 < T 158 (8 * pa_ T p + k) by omega), Bool.and_false]; rfl)
      have g := ih (k + 1) (some (am_I (T 158 ((8 * (pa_ T p)) + k)))) (by omega)
      rw [e] at g
      exact g
    · have hb54 := it_n0 h54
      refine ax_load (q := 59) rfl rfl rfl rfl rfl ?_
      refine ax_load (q := 61) rfl rfl rfl rfl rfl ?_
      refine ax_icmp_gt (q := 64) (x := 67) rfl rfl (fun h61 => ?_) (fun h61 => ?_)
      · refine ax_load (q := 69) rfl rfl rfl rfl rfl ?_
        refine ax_store (q := 70) (L' := [some (am_R 135), some (am_I ((p : Nat) : Int)), some (am_I t), some (am_I ((k : Nat) : Int)), some (am_I ((lk_ T G n p t k).2)), some (am_I ((k : Nat) : Int)), some (am_I (T 158 ((8 * (pa_ T p)) + k)))]) rfl rfl rfl rfl rfl rfl ?_
        refine ax_load (q := 72) rfl rfl rfl rfl rfl ?_
        refine ax_store (q := 74) (L' := [some (am_R 135), some (am_I ((p : Nat) : Int)), some (am_I t), some (am_I ((k : Nat) : Int)), some (am_I (T 158 ((8 * (pa_ T p)) + k))), some (am_I ((k : Nat) : Int)), some (am_I (T 158 ((8 * (pa_ T p)) + k)))]) rfl rfl rfl rfl rfl rfl ?_
        refine ax_iinc (q := 77) (z' := ((k + 1 : Nat) : Int)) (L' := [some (am_R 135), some (am_I ((p : Nat) : Int)), some (am_I t), some (am_I ((k : Nat) : Int)), some (am_I (T 158 ((8 * (pa_ T p)) + k))), some (am_I ((k + 1 : Nat) : Int)), some (am_I (T 158 ((8 * (pa_ T p)) + k)))]) rfl rfl rfl rfl (am_we (by omega) (by omega) (by omega)) rfl ?_
        refine ax_goto (x := 18) rfl ?_
        have e : lk_ T G n p t (k + 1) = (((k : Nat) : Int), T 158 ((8 * (pa_ T p)) + k)) := by
          show (if im_ T G p k t n && decide ((lk_ T G n p t k).2 < T 158 (8 * pa_ T p + k)) then _ else _) = _
          rw [hb54, decide_eq_true (by omega)]
          rfl
        have g := ih (k + 1) (some (am_I (T 158 ((8 * (pa_ T p)) + k)))) (by omega)
        rw [e] at g
        exact g
      · refine ax_goto (x := 74) rfl ?_
        refine ax_iinc (q := 77) (z' := ((k + 1 : Nat) : Int)) (L' := [some (am_R 135), some (am_I ((p : Nat) : Int)), some (am_I t), some (am_I ((lk_ T G n p t k).1)), some (am_I ((lk_ T G n p t k).2)), some (am_I ((k + 1 : Nat) : Int)), some (am_I (T 158 ((8 * (pa_ T p)) + k)))]) rfl rfl rfl rfl (am_we (by omega) (by omega) (by omega)) rfl ?_
        refine ax_goto (x := 18) rfl ?_
        have e : lk_ T G n p t (k + 1) = lk_ T G n p t k := by
          show (if im_ T G p k t n && decide ((lk_ T G n p t k).2 < T 158 (8 * pa_ T p + k)) then _ else _) = _
          first | (rw [hb54, Bool.false_and]; rfl) | (rw [decide_eq_false (show ¬ (lk_ T G n p t k).2 < T 158 (8 * pa_ T p + k) by omega), Bool.and_false]; rfl)
        have g := ih (k + 1) (some (am_I (T 158 ((8 * (pa_ T p)) + k)))) (by omega)
        rw [e] at g
        exact g

theorem m_likely {d : Nat} (hd : 3 ≤ d) {σ : am_S} {T : sp_T} (hT : TM_ T σ) (hV : TV_ T) {G : Nat → Nat → Int} {n : Nat} (hG : SG_ G n σ) {a t : Int} {Q : Option am_V → am_S → Prop} (hQ : ∀ σ', fr_ [] σ σ' → Q (some (am_I (F_likely T G n a t))) σ') : am_Ev d 255 [am_R 135, am_I a, am_I t] σ Q := by
  obtain ⟨d, rfl⟩ : ∃ e, d = e + 1 := ⟨d - 1, by omega⟩
  have hO := hV.nO
  refine ev_in (m := 255) (c := k_X9_likely) (L := [some (am_R 135), some (am_I a), some (am_I t), none, none, none, none]) rfl rfl rfl rfl rfl rfl ?_
  refine ax_load (q := 1) rfl rfl rfl rfl rfl ?_
  refine ax_load (q := 2) rfl rfl rfl rfl rfl ?_
  refine ax_callv (q := 5) rfl rfl rfl rfl rfl rfl ?_
  refine m_isPerson (by omega) hT hV ?_
  refine ax_if_ne (q := 8) (x := 10) rfl rfl (fun h5 => ?_) (fun h5 => ?_)
  · have hb5 := it_n0 h5
    obtain ⟨p, rfl, hp⟩ := inr_t hb5
    refine ax_const (q := 11) (v := am_I (-1)) rfl rfl rfl ?_
    refine ax_store (q := 12) (L' := [some (am_R 135), some (am_I ((p : Nat) : Int)), some (am_I t), some (am_I (-1)), none, none, none]) rfl rfl rfl rfl rfl rfl ?_
    refine ax_const (q := 13) (v := am_I 0) rfl rfl rfl ?_
    refine ax_store (q := 15) (L' := [some (am_R 135), some (am_I ((p : Nat) : Int)), some (am_I t), some (am_I (-1)), some (am_I 0), none, none]) rfl rfl rfl rfl rfl rfl ?_
    refine ax_const (q := 16) (v := am_I 0) rfl rfl rfl ?_
    refine ax_store (q := 18) (L' := [some (am_R 135), some (am_I ((p : Nat) : Int)), some (am_I t), some (am_I (-1)), some (am_I 0), some (am_I 0), none]) rfl rfl rfl rfl rfl rfl ?_
    have e : F_likely T G n (p : Int) t = (lk_ T G n p t (nO_ T)).1 := by unfold F_likely inr_; rw [hb5]; rfl
    exact l_likely (by omega) hT hV hG hp (by rw [← e]; exact hQ _ (fr_rf _ _)) (nO_ T) 0 none (by omega)
  · have hb5 := it_0 h5
    refine ax_const (q := 9) (v := am_I (-1)) rfl rfl rfl ?_
    refine ax_ret (r := some (am_I (-1))) rfl rfl ?_
    have e : F_likely T G n a t = (-1) := by unfold F_likely; unfold inr_ at *; simp [*]
    rw [← e]
    exact hQ _ (fr_rf _ _)

