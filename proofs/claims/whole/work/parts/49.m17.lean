/-! the best of a row of tries; shares of the years -/
/-- the best of l, the first of like ones; b is the best so far -/
def be_ {α : Type} (f : α → Int) : List α → Int × α → Int × α
  | [], b => b
  | x :: l, b => be_ f l (if b.1 < f x then (f x, x) else b)
/-- l goes on by next, and ends where next ends -/
def sq_ {α : Type} (next : α → Option α) : List α → Prop
  | [] => False
  | [x] => next x = none
  | x :: y :: l => next x = some y ∧ sq_ next (y :: l)
def fl_ (S : List Nat) : Nat → Nat
  | 0 => 0
  | s + 1 => if S.getD (s + 1) 0 = 0 then fl_ S s else s + 1
def nx_ (n : Nat) (S : List Nat) : Option (List Nat) := if fl_ S (n - 1) = 0 then none else some (((S.set (fl_ S (n - 1)) 0).set (fl_ S (n - 1) - 1) (S.getD (fl_ S (n - 1) - 1) 0 + 1)).set (n - 1) (S.getD (fl_ S (n - 1)) 0 - 1))
/-- the row after years shared so, SKILL by SKILL -/
def gs_ (T : sp_T) (v : sp_V) (p : Nat) (S : List Nat) : Nat → sp_V
  | 0 => v
  | s + 1 => gz_ T (gs_ T v p S s) p (s : Int) (S.getD s 0)
def SH_ (S : List Nat) (σ : am_S) : Prop := (∀ k, k < 4 → σ.1 166 k = (S.getD k 0 : Int)) ∧ S.length = 4 ∧ ∀ k, S.getD k 0 ≤ 12
theorem getD_set {S : List Nat} {i j x : Nat} (h : i < S.length) : (S.set i x).getD j 0 = if j = i then x else S.getD j 0 := by
  rw [List.getD_eq_getElem?_getD, List.getElem?_set, List.getD_eq_getElem?_getD]
  by_cases q : i = j
  · subst q; simp [h]
  · rw [if_neg q, if_neg (fun e => q e.symm)]
theorem fl_le (S : List Nat) : ∀ s, fl_ S s ≤ s
  | 0 => Nat.le_refl _
  | s + 1 => by
    have := fl_le S s
    unfold fl_
    split <;> omega
theorem VV_.gs {T : sp_T} {b : Int} {v : sp_V} (h : VV_ T b v) (hV : TV_ T) {p : Nat} (hp : p < nP_ T) {S : List Nat} (hS : ∀ k, S.getD k 0 ≤ 12) : ∀ s : Nat, s ≤ nS_ T → VV_ T (b + 12 * s) (gs_ T v p S s)
  | 0, _ => h.le (by omega)
  | s + 1, hs => by
    have := (VV_.gs h hV hp hS s (by omega)).gz hV hp (z := (s : Int)) (by have := hV.nS; omega) (S.getD s 0)
    exact this.le (by have := hS s; omega)

theorem l_pbs1 {d : Nat} (hd : 6 ≤ d) {σ : am_S} {T : sp_T} (hT : TM_ T σ) (hV : TV_ T) {b : Int} {v : sp_V} (hW : VV_ T b v) (hb9 : b ≤ 100000) {p : Nat} (hp : p < nP_ T) {s : Nat} (hs : s < nS_ T) {S : List Nat} (hS : SH_ S σ) {Q : Option am_V → am_S → Prop} (hQ : ∀ σ', fr_ [143, 144, 164] σ σ' → σ'.1 164 = gz_ T v p (s : Int) (S.getD s 0) → aW d 0 k_X9_partsByShares Q 38 [some (am_R 135), some (am_I ((p : Nat) : Int)), some (am_I ((s : Nat) : Int)), some (am_I ((S.getD s 0 : Nat) : Int))] [] σ') : ∀ (m k : Nat) σ', fr_ [143, 144, 164] σ σ' → σ'.1 164 = gz_ T v p (s : Int) k → k + m = S.getD s 0 → aW d 0 k_X9_partsByShares Q 16 [some (am_R 135), some (am_I ((p : Nat) : Int)), some (am_I ((s : Nat) : Int)), some (am_I ((k : Nat) : Int))] [] σ' := by
  have h6 := hV.nP
  have hn := hV.nS
  have hS12 := hS.2.2 s
  intro m
  induction m with
  | zero =>
    intro k σ' hf hx hk
    obtain rfl : k = S.getD s 0 := by omega
    refine ax_load (q := 17) rfl rfl rfl rfl rfl ?_
    refine ax_load (q := 18) rfl rfl rfl rfl rfl ?_
    refine ax_getf (q := 21) (v := am_R 166) rfl rfl (rfl) ?_
    refine ax_load (q := 22) rfl rfl rfl rfl rfl ?_
    refine bx_iald (q := 23) (k := s) (z := ((S.getD s 0 : Nat) : Int)) rfl rfl (rfl) (by omega) (by omega) ((congrFun (hf.1 166 (by decide)) _).trans (hS.1 s (by omega))) ?_
    refine ax_icmp_ge (q := 26) (x := 38) rfl rfl (fun h23 => ?_) (fun h => absurd h (by omega))
    exact hQ σ' hf hx
  | succ m ih =>
    intro k σ' hf hx hk
    refine ax_load (q := 17) rfl rfl rfl rfl rfl ?_
    refine ax_load (q := 18) rfl rfl rfl rfl rfl ?_
    refine ax_getf (q := 21) (v := am_R 166) rfl rfl (rfl) ?_
    refine ax_load (q := 22) rfl rfl rfl rfl rfl ?_
    refine bx_iald (q := 23) (k := s) (z := ((S.getD s 0 : Nat) : Int)) rfl rfl (rfl) (by omega) (by omega) ((congrFun (hf.1 166 (by decide)) _).trans (hS.1 s (by omega))) ?_
    refine ax_icmp_ge (q := 26) (x := 38) rfl rfl (fun h => absurd h (by omega)) (fun h23 => ?_)
    refine ax_load (q := 27) rfl rfl rfl rfl rfl ?_
    refine ax_load (q := 28) rfl rfl rfl rfl rfl ?_
    refine ax_load (q := 29) rfl rfl rfl rfl rfl ?_
    refine ax_callv (q := 32) rfl rfl rfl rfl rfl rfl ?_
    refine m_goAlone (by omega) (hT.fr hf (by decide)) hV hx (hW.gz hV hp (z := (s : Int)) (by omega) k) hp (by omega) (by omega) (fun σ1 hf1 hx1 => ?_)
    refine ax_iinc (q := 35) (z' := ((k + 1 : Nat) : Int)) (L' := [some (am_R 135), some (am_I ((p : Nat) : Int)), some (am_I ((s : Nat) : Int)), some (am_I ((k + 1 : Nat) : Int))]) rfl rfl rfl rfl (am_we (by omega) (by omega) (by omega)) rfl ?_
    refine ax_goto (x := 16) rfl ?_
    exact ih (k + 1) σ1 (fr_tr hf hf1 (fun a h => h)) hx1 (by omega)

theorem l_pbs {d : Nat} (hd : 6 ≤ d) {σ : am_S} {T : sp_T} (hT : TM_ T σ) (hV : TV_ T) {b : Int} {v : sp_V} (hW : VV_ T b v) (hb9 : b ≤ 90000) {p : Nat} (hp : p < nP_ T) {S : List Nat} (hS : SH_ S σ) {Q : Option am_V → am_S → Prop} (hQ : ∀ σ', fr_ [143, 144, 164] σ σ' → Q (some (am_I (po_ T (gs_ T v p S (nS_ T)) p))) σ') : ∀ (m k : Nat) σ' (o3 : Option am_V), fr_ [143, 144, 164] σ σ' → σ'.1 164 = gs_ T v p S k → k + m = nS_ T → aW d 0 k_X9_partsByShares Q 6 [some (am_R 135), some (am_I ((p : Nat) : Int)), some (am_I ((k : Nat) : Int)), o3] [] σ' := by
  have h6 := hV.nP
  have hn := hV.nS
  intro m
  induction m with
  | zero =>
    intro k σ' o3 hf hx hk
    obtain rfl : k = nS_ T := by omega
    refine ax_load (q := 7) rfl rfl rfl rfl rfl ?_
    refine ax_load (q := 8) rfl rfl rfl rfl rfl ?_
    refine ax_getf (q := 11) (v := am_I ((nS_ T : Nat) : Int)) rfl rfl (am_fg rfl ((hT.fr hf (by decide)).s50.trans hV.nS.1)) ?_
    refine ax_icmp_ge (q := 14) (x := 44) rfl rfl (fun h11 => ?_) (fun h => absurd h (by omega))
    refine ax_load (q := 45) rfl rfl rfl rfl rfl ?_
    refine ax_load (q := 46) rfl rfl rfl rfl rfl ?_
    refine ax_callv (q := 49) rfl rfl rfl rfl rfl rfl ?_
    refine m_partsOf (by omega) (hT.fr hf (by decide)) hV hx (hW.gs hV hp hS.2.2 (nS_ T) (by omega)) hp ?_
    refine ax_ret (r := some (am_I (po_ T (gs_ T v p S (nS_ T)) p))) rfl rfl ?_
    exact hQ σ' hf
  | succ m ih =>
    intro k σ' o3 hf hx hk
    refine ax_load (q := 7) rfl rfl rfl rfl rfl ?_
    refine ax_load (q := 8) rfl rfl rfl rfl rfl ?_
    refine ax_getf (q := 11) (v := am_I ((nS_ T : Nat) : Int)) rfl rfl (am_fg rfl ((hT.fr hf (by decide)).s50.trans hV.nS.1)) ?_
    refine ax_icmp_ge (q := 14) (x := 44) rfl rfl (fun h => absurd h (by omega)) (fun h11 => ?_)
    refine ax_const (q := 15) (v := am_I 0) rfl rfl rfl ?_
    refine ax_store (q := 16) (L' := [some (am_R 135), some (am_I ((p : Nat) : Int)), some (am_I ((k : Nat) : Int)), some (am_I 0)]) rfl rfl rfl rfl rfl rfl ?_
    refine l_pbs1 (σ := σ') (by omega) (hT.fr hf (by decide)) hV (hW.gs hV hp hS.2.2 k (by omega)) (by omega) hp (s := k) (by omega) (⟨fun k hk => by rw [hf.1 166 (by decide)]; exact hS.1 k hk, hS.2⟩ : SH_ S σ') (fun σ1 hf1 hx1 => ?_) (S.getD k 0) 0 σ' (fr_rf _ _) hx (by omega)
    refine ax_iinc (q := 41) (z' := ((k + 1 : Nat) : Int)) (L' := [some (am_R 135), some (am_I ((p : Nat) : Int)), some (am_I ((k + 1 : Nat) : Int)), some (am_I ((S.getD k 0 : Nat) : Int))]) rfl rfl rfl rfl (am_we (by omega) (by omega) (by omega)) rfl ?_
    refine ax_goto (x := 6) rfl ?_
    exact ih (k + 1) σ1 _ (fr_tr hf hf1 (fun a h => h)) hx1 (by omega)

theorem gs_cg {T : sp_T} (hV : TV_ T) {v w : sp_V} (h : ∀ j, j < 50 → v j = w j) {p : Nat} (hp : p < 6) {S : List Nat} : ∀ n, n ≤ nS_ T → ∀ j, j < 50 → gs_ T v p S n j = gs_ T w p S n j
  | 0, _ => h
  | n + 1, hn => gz_cg hV (gs_cg hV h hp n (by omega)) hp (by have := hV.nS; omega) _
theorem po_cg {T : sp_T} (hV : TV_ T) {b : Int} {v w : sp_V} (h : ∀ j, j < 50 → v j = w j) {p : Nat} (hp : p < nP_ T) (hW : VV_ T b w) : po_ T v p = po_ T w p := by
  have h6 := hV.nP
  have hO := hV.nO
  have h1 := (hW.2.2 p hp).2.1
  have e : ib_ T v p = ib_ T w p := by unfold ib_; rw [h (12 + p) (by omega), h (6 + p) (by omega)]
  unfold po_
  rw [e, h (12 + p) (by omega), h (6 + p) (by omega)]
  split
  · rfl
  · next q =>
    split
    · next q1 =>
      have h0 : ¬ w (6 + p) < 0 := by
        unfold ib_ at q
        rw [if_pos q1] at q
        simpa using q
      rw [cn_cg hV h (by omega) (by omega)]
    · exact su_eq _ (fun o ho => by rw [cn_cg hV h (by omega) ho])

theorem m_partsByShares {d : Nat} (hd : 7 ≤ d) {σ : am_S} {T : sp_T} (hT : TM_ T σ) (hV : TV_ T) {b : Int} {v w : sp_V} (hw : σ.1 163 = w) (hvw : ∀ j, j < 50 → v j = w j) (hW : VV_ T b w) (hb9 : b ≤ 90000) {p : Nat} (hp : p < nP_ T) {S : List Nat} (hS : SH_ S σ) {Q : Option am_V → am_S → Prop} (hQ : ∀ σ', fr_ [143, 144, 164] σ σ' → Q (some (am_I (po_ T (gs_ T v p S (nS_ T)) p))) σ') : am_Ev d 231 [am_R 135, am_I ((p : Nat) : Int)] σ Q := by
  obtain ⟨d, rfl⟩ : ∃ e, d = e + 1 := ⟨d - 1, by omega⟩
  have h6 := hV.nP
  obtain ⟨u, hu⟩ : ∃ u, u = cp_ w (σ.1 164) 50 := ⟨_, rfl⟩
  have huw : ∀ j, j < 50 → u j = w j := fun j hj => by rw [hu]; exact cp_at hj
  have hWu : VV_ T b u := hW.cg hV huw
  have e : po_ T (gs_ T v p S (nS_ T)) p = po_ T (gs_ T u p S (nS_ T)) p := po_cg hV (gs_cg hV (fun j hj => (hvw j hj).trans (huw j hj).symm) (by omega) _ (Nat.le_refl _)) hp (hWu.gs hV hp hS.2.2 (nS_ T) (Nat.le_refl _))
  rw [e] at hQ
  refine ev_in (m := 231) (c := k_X9_partsByShares) (L := [some (am_R 135), some (am_I ((p : Nat) : Int)), none, none]) rfl rfl rfl rfl rfl rfl ?_
  refine ax_load (q := 1) rfl rfl rfl rfl rfl ?_
  refine ax_callv (q := 4) rfl rfl rfl rfl rfl rfl ?_
  refine m_load (by omega) ?_
  rw [hw, ← hu]
  refine ax_const (q := 5) (v := am_I 0) rfl rfl rfl ?_
  refine ax_store (q := 6) (L' := [some (am_R 135), some (am_I ((p : Nat) : Int)), some (am_I 0), none]) rfl rfl rfl rfl rfl rfl ?_
  exact l_pbs (σ := am_sI σ 164 u) (by omega) (hT.sI (by decide)) hV hWu hb9 hp (S := S) ⟨fun k hk => by rw [sI_ne (by decide)]; exact hS.1 k hk, hS.2⟩ (fun σ' hf => hQ σ' (fr_tr (l := [143, 144, 164]) (fr_sI (fr_rf _ _) (by decide)) hf (fun a h => h))) (nS_ T) 0 _ none (fr_rf _ _) (sI_at _ _ _) (by omega)

/-- what nextShare leaves -/
def NS_ (n : Nat) (S : List Nat) (σ : am_S) (Q : Option am_V → am_S → Prop) : Prop := (nx_ n S = none → Q (some (am_I 0)) σ) ∧ ∀ S', nx_ n S = some S' → ∀ σ', fr_ [166] σ σ' → (∀ k, k < 4 → σ'.1 166 k = (S'.getD k 0 : Int)) → Q (some (am_I 1)) σ'

theorem l_nextShare {d : Nat} {σ : am_S} {T : sp_T} (hT : TM_ T σ) (hV : TV_ T) {S : List Nat} (hS : SH_ S σ) (hn1 : 1 ≤ nS_ T) {Q : Option am_V → am_S → Prop} (hQ : NS_ (nS_ T) S σ Q) : ∀ s : Nat, s ≤ nS_ T - 1 → fl_ S (nS_ T - 1) = fl_ S s → aW d 1 k_X9_nextShare Q 9 [some (am_R 135), some (am_I (((nS_ T - 1) : Nat) : Int)), some (am_I ((s : Nat) : Int)), none] [] σ := by
  have hn := hV.nS
  have hS12 := hS.2.2
  intro s
  induction s with
  | zero =>
    intro hs hfl
    have e : nx_ (nS_ T) S = none := by unfold nx_; rw [hfl]; rfl
    refine ax_load (q := 10) rfl rfl rfl rfl rfl ?_
    refine ax_if_le (q := 13) (x := 28) rfl rfl (fun h10 => ?_) (fun h => absurd h (by omega))
    refine ax_load (q := 29) rfl rfl rfl rfl rfl ?_
    refine ax_if_gt (q := 32) (x := 34) rfl rfl (fun h => absurd h (by omega)) (fun h29 => ?_)
    refine ax_const (q := 33) (v := am_I 0) rfl rfl rfl ?_
    refine ax_ret (r := some (am_I 0)) rfl ⟨rfl, Or.inl rfl⟩ ?_
    exact hQ.1 e
  | succ s ih =>
    intro hs hfl
    have b1 := hS12 (s + 1)
    have b2 := hS12 s
    refine ax_load (q := 10) rfl rfl rfl rfl rfl ?_
    refine ax_if_le (q := 13) (x := 28) rfl rfl (fun h => absurd h (by omega)) (fun h10 => ?_)
    refine ax_load (q := 14) rfl rfl rfl rfl rfl ?_
    refine ax_getf (q := 17) (v := am_R 166) rfl rfl (rfl) ?_
    refine ax_load (q := 18) rfl rfl rfl rfl rfl ?_
    refine bx_iald (q := 19) (k := s + 1) (z := ((S.getD (s + 1) 0 : Nat) : Int)) rfl rfl (rfl) (by omega) (by omega) (hS.1 (s + 1) (by omega)) ?_
    refine ax_if_ne (q := 22) (x := 28) rfl rfl (fun h19 => ?_) (fun h19 => ?_)
    · refine ax_load (q := 29) rfl rfl rfl rfl rfl ?_
      refine ax_if_gt (q := 32) (x := 34) rfl rfl (fun h29 => ?_) (fun h => absurd h (by omega))
      refine ax_load (q := 35) rfl rfl rfl rfl rfl ?_
      refine ax_getf (q := 38) (v := am_R 166) rfl rfl (rfl) ?_
      refine ax_load (q := 39) rfl rfl rfl rfl rfl ?_
      refine bx_iald (q := 40) (k := s + 1) (z := ((S.getD (s + 1) 0 : Nat) : Int)) rfl rfl (rfl) (by omega) (by omega) (hS.1 (s + 1) (by omega)) ?_
      refine ax_const (q := 41) (v := am_I 1) rfl rfl rfl ?_
      refine ax_isub (q := 42) (z := (((S.getD (s + 1) 0 - 1) : Nat) : Int)) rfl rfl (am_we (by omega) (by omega) (by omega)) ?_
      refine ax_store (q := 43) (L' := [some (am_R 135), some (am_I (((nS_ T - 1) : Nat) : Int)), some (am_I ((s + 1 : Nat) : Int)), some (am_I (((S.getD (s + 1) 0 - 1) : Nat) : Int))]) rfl rfl rfl rfl rfl rfl ?_
      refine ax_load (q := 44) rfl rfl rfl rfl rfl ?_
      refine ax_getf (q := 47) (v := am_R 166) rfl rfl (rfl) ?_
      refine ax_load (q := 48) rfl rfl rfl rfl rfl ?_
      refine ax_const (q := 49) (v := am_I 0) rfl rfl rfl ?_
      refine bx_iast (q := 50) (k := s + 1) rfl rfl (rfl) (by omega) (by omega) ?_
      refine ax_load (q := 51) rfl rfl rfl rfl rfl ?_
      refine ax_getf (q := 54) (v := am_R 166) rfl rfl (rfl) ?_
      refine ax_load (q := 55) rfl rfl rfl rfl rfl ?_
      refine ax_const (q := 56) (v := am_I 1) rfl rfl rfl ?_
      refine ax_isub (q := 57) (z := ((s : Nat) : Int)) rfl rfl (am_we (by omega) (by omega) (by omega)) ?_
      refine ax_dup2 (q := 58) rfl rfl rfl rfl ?_
      refine bx_iald (q := 59) (k := s) (z := ((S.getD s 0 : Nat) : Int)) rfl rfl (rfl) (by omega) (by omega) (by rw [sI_at, am_up_ne (by omega)]; exact hS.1 s (by omega)) ?_
      refine ax_const (q := 60) (v := am_I 1) rfl rfl rfl ?_
      refine ax_iadd (q := 61) (z := (((S.getD s 0) + 1 : Nat) : Int)) rfl rfl (am_we (by omega) (by omega) (by omega)) ?_
      refine bx_iast (q := 62) (k := s) rfl rfl (rfl) (by omega) (by omega) ?_
      refine ax_load (q := 63) rfl rfl rfl rfl rfl ?_
      refine ax_getf (q := 66) (v := am_R 166) rfl rfl (rfl) ?_
      refine ax_load (q := 67) rfl rfl rfl rfl rfl ?_
      refine ax_load (q := 68) rfl rfl rfl rfl rfl ?_
      refine bx_iast (q := 69) (k := (nS_ T - 1)) rfl rfl (rfl) (by omega) (by omega) ?_
      refine ax_const (q := 70) (v := am_I 1) rfl rfl rfl ?_
      have hsl : s + 1 < S.length := by rw [hS.2.1]; omega
      have e1 : fl_ S (s + 1) = s + 1 := by show (if _ then _ else _) = _; rw [if_neg (by omega)]
      refine ax_ret (r := some (am_I 1)) rfl ⟨rfl, Or.inr rfl⟩ ?_
      have e : nx_ (nS_ T) S = some (((S.set (s + 1) 0).set s (S.getD s 0 + 1)).set (nS_ T - 1) (S.getD (s + 1) 0 - 1)) := by unfold nx_; rw [hfl, e1, if_neg (by omega)]; rfl
      refine hQ.2 _ e _ (fr_sI (fr_sI (fr_sI (fr_rf _ _) (by decide)) (by decide)) (by decide)) (fun k hk => ?_)
      have hl4 := hS.2.1
      rw [sI_at, sI_at, sI_at, getD_set (by simp only [List.length_set]; omega), getD_set (by simp only [List.length_set]; omega), getD_set (by omega)]
      by_cases q1 : k = nS_ T - 1
      · subst q1; rw [am_up_same, if_pos rfl]
      · rw [am_up_ne q1, if_neg q1]
        by_cases q2 : k = s
        · subst q2; rw [am_up_same, if_pos rfl]
        · rw [am_up_ne q2, if_neg q2]
          by_cases q3 : k = s + 1
          · subst q3; rw [am_up_same, if_pos rfl]; rfl
          · rw [am_up_ne q3, if_neg q3]; exact hS.1 k hk
    · refine ax_iinc (q := 25) (z' := ((s : Nat) : Int)) (L' := [some (am_R 135), some (am_I (((nS_ T - 1) : Nat) : Int)), some (am_I ((s : Nat) : Int)), none]) rfl rfl rfl rfl (am_we (by omega) (by omega) (by omega)) rfl ?_
      refine ax_goto (x := 9) rfl ?_
      exact ih (by omega) (hfl.trans (by show (if _ then _ else _) = _; rw [if_pos (by omega)]))

theorem m_nextShare {d : Nat} (hd : 1 ≤ d) {σ : am_S} {T : sp_T} (hT : TM_ T σ) (hV : TV_ T) {S : List Nat} (hS : SH_ S σ) (hn1 : 1 ≤ nS_ T) {Q : Option am_V → am_S → Prop} (hQ : NS_ (nS_ T) S σ Q) : am_Ev d 232 [am_R 135] σ Q := by
  obtain ⟨d, rfl⟩ : ∃ e, d = e + 1 := ⟨d - 1, by omega⟩
  have hn := hV.nS
  refine ev_in (m := 232) (c := k_X9_nextShare) (L := [some (am_R 135), none, none, none]) rfl rfl rfl rfl rfl rfl ?_
  refine ax_load (q := 1) rfl rfl rfl rfl rfl ?_
  refine ax_getf (q := 4) (v := am_I ((nS_ T : Nat) : Int)) rfl rfl (am_fg rfl (hT.s50.trans hV.nS.1)) ?_
  refine ax_const (q := 5) (v := am_I 1) rfl rfl rfl ?_
  refine ax_isub (q := 6) (z := (((nS_ T - 1) : Nat) : Int)) rfl rfl (am_we (by omega) (by omega) (by omega)) ?_
  refine ax_store (q := 7) (L' := [some (am_R 135), some (am_I (((nS_ T - 1) : Nat) : Int)), none, none]) rfl rfl rfl rfl rfl rfl ?_
  refine ax_load (q := 8) rfl rfl rfl rfl rfl ?_
  refine ax_store (q := 9) (L' := [some (am_R 135), some (am_I (((nS_ T - 1) : Nat) : Int)), some (am_I (((nS_ T - 1) : Nat) : Int)), none]) rfl rfl rfl rfl rfl rfl ?_
  exact l_nextShare hT hV hS hn1 hQ (nS_ T - 1) (Nat.le_refl _) rfl

theorem l_life_cp {d : Nat} {σ : am_S} {T : sp_T} (hT : TM_ T σ) (hV : TV_ T) {p : Nat} {x y : Int} {Q : Option am_V → am_S → Prop} (hQ : aW d 0 k_X9_life Q 124 [some (am_R 135), some (am_I ((p : Nat) : Int)), some (am_I x), some (am_I 1), some (am_I y), some (am_I ((nS_ T : Nat) : Int))] [] (am_sI σ 167 (cp_ (σ.1 166) (σ.1 167) (nS_ T)))) : ∀ (m k : Nat), k + m = nS_ T → aW d 0 k_X9_life Q 95 [some (am_R 135), some (am_I ((p : Nat) : Int)), some (am_I x), some (am_I 1), some (am_I y), some (am_I ((k : Nat) : Int))] [] (am_sI σ 167 (cp_ (σ.1 166) (σ.1 167) k)) := by
  have hn := hV.nS
  intro m
  induction m with
  | zero =>
    intro k hk
    obtain rfl : k = nS_ T := by omega
    refine ax_load (q := 97) rfl rfl rfl rfl rfl ?_
    refine ax_load (q := 98) rfl rfl rfl rfl rfl ?_
    refine ax_getf (q := 101) (v := am_I ((nS_ T : Nat) : Int)) rfl rfl (am_fg rfl ((hT.sI (a := 167) (by decide)).s50.trans hV.nS.1)) ?_
    refine ax_icmp_ge (q := 104) (x := 124) rfl rfl (fun h101 => ?_) (fun h => absurd h (by omega))
    exact hQ
  | succ m ih =>
    intro k hk
    refine ax_load (q := 97) rfl rfl rfl rfl rfl ?_
    refine ax_load (q := 98) rfl rfl rfl rfl rfl ?_
    refine ax_getf (q := 101) (v := am_I ((nS_ T : Nat) : Int)) rfl rfl (am_fg rfl ((hT.sI (a := 167) (by decide)).s50.trans hV.nS.1)) ?_
    refine ax_icmp_ge (q := 104) (x := 124) rfl rfl (fun h => absurd h (by omega)) (fun h101 => ?_)
    refine ax_load (q := 105) rfl rfl rfl rfl rfl ?_
    refine ax_getf (q := 108) (v := am_R 167) rfl rfl (rfl) ?_
    refine ax_load (q := 110) rfl rfl rfl rfl rfl ?_
    refine ax_load (q := 111) rfl rfl rfl rfl rfl ?_
    refine ax_getf (q := 114) (v := am_R 166) rfl rfl (rfl) ?_
    refine ax_load (q := 116) rfl rfl rfl rfl rfl ?_
    refine bx_iald (q := 117) (k := k) (z := σ.1 166 k) rfl rfl (rfl) (by omega) (by omega) (congrFun (sI_ne (by decide)) _) ?_
    refine bx_iast (q := 118) (k := k) rfl rfl (rfl) (by omega) (by omega) ?_
    refine ax_iinc (q := 121) (z' := ((k + 1 : Nat) : Int)) (L' := [some (am_R 135), some (am_I ((p : Nat) : Int)), some (am_I x), some (am_I 1), some (am_I y), some (am_I ((k + 1 : Nat) : Int))]) rfl rfl rfl rfl (am_we (by omega) (by omega) (by omega)) rfl ?_
    refine ax_goto (x := 95) rfl ?_
    have g := ih (k + 1) (by omega)
    rw [← cp_step] at g
    rw [sI_sI, sI_at]
    exact g

theorem TM_.f5 {T : sp_T} {σ σ' : am_S} (h : TM_ T σ) {l : List Nat} (hf : fr_ l σ σ') (hl : ∀ a, a ∈ tm_a → a ∉ l) (h5 : 135 ∉ l) : TM_ T σ' := h.fq (fq_fr hf h5 (fun _ q => q) : fq_ l [] σ σ') hl (by decide)

theorem l_life {d : Nat} (hd : 7 ≤ d) {T : sp_T} (hV : TV_ T) (hn1 : 1 ≤ nS_ T) {b : Int} {v w : sp_V} (hvw : ∀ j, j < 50 → v j = w j) (hW : VV_ T b w) (hb9 : b ≤ 90000) {p : Nat} (hp : p < nP_ T) {Q : Option am_V → am_S → Prop} : ∀ (l : List (List Nat)) (S : List Nat) (B : Int × List Nat) (σ : am_S) (o4 o5 : Option am_V), TM_ T σ → σ.1 163 = w → SH_ S σ → sq_ (nx_ (nS_ T)) (S :: l) → (∀ S', S' ∈ S :: l → S'.length = 4 ∧ ∀ k, S'.getD k 0 ≤ 12) → (B.1 < 0 ∨ ∀ k, k < nS_ T → σ.1 167 k = (B.2.getD k 0 : Int)) → (∀ σ' o4 o5, fr_ [143, 144, 164, 166, 167] σ σ' → (∀ k, k < nS_ T → σ'.1 167 k = ((be_ (fun S => po_ T (gs_ T v p S (nS_ T)) p) (S :: l) B).2.getD k 0 : Int)) → aW d 0 k_X9_life Q 132 [some (am_R 135), some (am_I ((p : Nat) : Int)), some (am_I (be_ (fun S => po_ T (gs_ T v p S (nS_ T)) p) (S :: l) B).1), some (am_I 0), o4, o5] [] σ') → aW d 0 k_X9_life Q 72 [some (am_R 135), some (am_I ((p : Nat) : Int)), some (am_I B.1), some (am_I 1), o4, o5] [] σ := by
  have hn := hV.nS
  intro l
  induction l with
  | nil =>
    intro S B σ o4 o5 hT hw hS hsq hok hB hQ
    refine ax_load (q := 73) rfl rfl rfl rfl rfl ?_
    refine ax_if_eq (q := 76) (x := 132) rfl rfl (fun h => absurd h (by omega)) (fun h73 => ?_)
    refine ax_load (q := 77) rfl rfl rfl rfl rfl ?_
    refine ax_load (q := 78) rfl rfl rfl rfl rfl ?_
    refine ax_callv (q := 81) rfl rfl rfl rfl rfl rfl ?_
    refine m_partsByShares (by omega) hT hV hw hvw hW hb9 hp hS (fun σ1 hf1 => ?_)
    have hT1 : TM_ T σ1 := hT.f5 hf1 (by decide) (by decide)
    have hS1 : SH_ S σ1 := ⟨fun k hk => by rw [hf1.1 166 (by decide)]; exact hS.1 k hk, hS.2⟩
    have hpo := (po_bd (v := gs_ T v p S (nS_ T)) hV hp).1
    refine ax_store (q := 83) (L' := [some (am_R 135), some (am_I ((p : Nat) : Int)), some (am_I B.1), some (am_I 1), some (am_I (po_ T (gs_ T v p S (nS_ T)) p)), o5]) rfl rfl rfl rfl rfl rfl ?_
    refine ax_load (q := 85) rfl rfl rfl rfl rfl ?_
    refine ax_load (q := 86) rfl rfl rfl rfl rfl ?_
    refine ax_icmp_le (q := 89) (x := 124) rfl rfl (fun h86 => ?_) (fun h86 => ?_)
    · refine ax_load (q := 125) rfl rfl rfl rfl rfl ?_
      refine ax_callv (q := 128) rfl rfl rfl rfl rfl rfl ?_
      refine m_nextShare (by omega) hT1 hV hS1 hn1 ⟨fun _ => ?_, fun S' hS' => absurd ((show nx_ (nS_ T) S = none from hsq).symm.trans hS') (by simp)⟩
      refine ax_store (q := 129) (L' := [some (am_R 135), some (am_I ((p : Nat) : Int)), some (am_I B.1), some (am_I 0), some (am_I (po_ T (gs_ T v p S (nS_ T)) p)), o5]) rfl rfl rfl rfl rfl rfl ?_
      refine ax_goto (x := 72) rfl ?_
      refine ax_load (q := 73) rfl rfl rfl rfl rfl ?_
      refine ax_if_eq (q := 76) (x := 132) rfl rfl (fun h73 => ?_) (fun h => absurd h (by omega))
      have e : (if B.1 < (fun S => po_ T (gs_ T v p S (nS_ T)) p) S then ((fun S => po_ T (gs_ T v p S (nS_ T)) p) S, S) else B) = B := by first | exact if_pos (by show _ < po_ T (gs_ T v p S (nS_ T)) p; omega) | exact if_neg (by show ¬ _ < po_ T (gs_ T v p S (nS_ T)) p; omega)
      have g := hQ σ1 (some (am_I (po_ T (gs_ T v p S (nS_ T)) p))) (o5) (fr_sub hf1 (by decide)) (by show ∀ k, k < nS_ T → _ = (((if B.1 < (fun S => po_ T (gs_ T v p S (nS_ T)) p) S then ((fun S => po_ T (gs_ T v p S (nS_ T)) p) S, S) else B).2.getD k 0 : Nat) : Int); rw [e]; exact fun k hk => by rw [hf1.1 167 (by decide)]; rcases hB with hB | hB; exact absurd hB (by omega); exact hB k hk)
      rw [show be_ (fun S => po_ T (gs_ T v p S (nS_ T)) p) [S] B = (if B.1 < (fun S => po_ T (gs_ T v p S (nS_ T)) p) S then ((fun S => po_ T (gs_ T v p S (nS_ T)) p) S, S) else B) from rfl, e] at g
      exact g
    · refine ax_load (q := 91) rfl rfl rfl rfl rfl ?_
      refine ax_store (q := 92) (L' := [some (am_R 135), some (am_I ((p : Nat) : Int)), some (am_I (po_ T (gs_ T v p S (nS_ T)) p)), some (am_I 1), some (am_I (po_ T (gs_ T v p S (nS_ T)) p)), o5]) rfl rfl rfl rfl rfl rfl ?_
      refine ax_const (q := 93) (v := am_I 0) rfl rfl rfl ?_
      refine ax_store (q := 95) (L' := [some (am_R 135), some (am_I ((p : Nat) : Int)), some (am_I (po_ T (gs_ T v p S (nS_ T)) p)), some (am_I 1), some (am_I (po_ T (gs_ T v p S (nS_ T)) p)), some (am_I 0)]) rfl rfl rfl rfl rfl rfl ?_
      have g := l_life_cp (σ := σ1) (d := d) hT1 hV (p := p) (x := po_ T (gs_ T v p S (nS_ T)) p) (y := po_ T (gs_ T v p S (nS_ T)) p) (Q := Q) ?_ (nS_ T) 0 (by omega)
      · rw [cp_0, sI_id] at g
        exact g
      have hT2 : TM_ T (am_sI σ1 167 (cp_ (σ1.1 166) (σ1.1 167) (nS_ T))) := hT1.sI (by decide)
      have hS2 : SH_ S (am_sI σ1 167 (cp_ (σ1.1 166) (σ1.1 167) (nS_ T))) := ⟨fun k hk => by rw [sI_ne (by decide)]; exact hS1.1 k hk, hS1.2⟩
      have hl2 : ∀ k, k < nS_ T → (am_sI σ1 167 (cp_ (σ1.1 166) (σ1.1 167) (nS_ T))).1 167 k = (S.getD k 0 : Int) := fun k hk => by rw [sI_at, cp_at hk]; exact hS1.1 k (by omega)
      refine ax_load (q := 125) rfl rfl rfl rfl rfl ?_
      refine ax_callv (q := 128) rfl rfl rfl rfl rfl rfl ?_
      refine m_nextShare (by omega) hT2 hV hS2 hn1 ⟨fun _ => ?_, fun S' hS' => absurd ((show nx_ (nS_ T) S = none from hsq).symm.trans hS') (by simp)⟩
      refine ax_store (q := 129) (L' := [some (am_R 135), some (am_I ((p : Nat) : Int)), some (am_I (po_ T (gs_ T v p S (nS_ T)) p)), some (am_I 0), some (am_I (po_ T (gs_ T v p S (nS_ T)) p)), some (am_I ((nS_ T : Nat) : Int))]) rfl rfl rfl rfl rfl rfl ?_
      refine ax_goto (x := 72) rfl ?_
      refine ax_load (q := 73) rfl rfl rfl rfl rfl ?_
      refine ax_if_eq (q := 76) (x := 132) rfl rfl (fun h73 => ?_) (fun h => absurd h (by omega))
      have e : (if B.1 < (fun S => po_ T (gs_ T v p S (nS_ T)) p) S then ((fun S => po_ T (gs_ T v p S (nS_ T)) p) S, S) else B) = ((fun S => po_ T (gs_ T v p S (nS_ T)) p) S, S) := by first | exact if_pos (by show _ < po_ T (gs_ T v p S (nS_ T)) p; omega) | exact if_neg (by show ¬ _ < po_ T (gs_ T v p S (nS_ T)) p; omega)
      have g := hQ (am_sI σ1 167 (cp_ (σ1.1 166) (σ1.1 167) (nS_ T))) (some (am_I (po_ T (gs_ T v p S (nS_ T)) p))) (some (am_I ((nS_ T : Nat) : Int))) (fr_sI (fr_sub hf1 (by decide)) (by decide)) (by show ∀ k, k < nS_ T → _ = (((if B.1 < (fun S => po_ T (gs_ T v p S (nS_ T)) p) S then ((fun S => po_ T (gs_ T v p S (nS_ T)) p) S, S) else B).2.getD k 0 : Nat) : Int); rw [e]; exact fun k hk => hl2 k hk)
      rw [show be_ (fun S => po_ T (gs_ T v p S (nS_ T)) p) [S] B = (if B.1 < (fun S => po_ T (gs_ T v p S (nS_ T)) p) S then ((fun S => po_ T (gs_ T v p S (nS_ T)) p) S, S) else B) from rfl, e] at g
      exact g
  | cons S2 l ih =>
    intro S B σ o4 o5 hT hw hS hsq hok hB hQ
    refine ax_load (q := 73) rfl rfl rfl rfl rfl ?_
    refine ax_if_eq (q := 76) (x := 132) rfl rfl (fun h => absurd h (by omega)) (fun h73 => ?_)
    refine ax_load (q := 77) rfl rfl rfl rfl rfl ?_
    refine ax_load (q := 78) rfl rfl rfl rfl rfl ?_
    refine ax_callv (q := 81) rfl rfl rfl rfl rfl rfl ?_
    refine m_partsByShares (by omega) hT hV hw hvw hW hb9 hp hS (fun σ1 hf1 => ?_)
    have hT1 : TM_ T σ1 := hT.f5 hf1 (by decide) (by decide)
    have hS1 : SH_ S σ1 := ⟨fun k hk => by rw [hf1.1 166 (by decide)]; exact hS.1 k hk, hS.2⟩
    have hpo := (po_bd (v := gs_ T v p S (nS_ T)) hV hp).1
    refine ax_store (q := 83) (L' := [some (am_R 135), some (am_I ((p : Nat) : Int)), some (am_I B.1), some (am_I 1), some (am_I (po_ T (gs_ T v p S (nS_ T)) p)), o5]) rfl rfl rfl rfl rfl rfl ?_
    refine ax_load (q := 85) rfl rfl rfl rfl rfl ?_
    refine ax_load (q := 86) rfl rfl rfl rfl rfl ?_
    refine ax_icmp_le (q := 89) (x := 124) rfl rfl (fun h86 => ?_) (fun h86 => ?_)
    · refine ax_load (q := 125) rfl rfl rfl rfl rfl ?_
      refine ax_callv (q := 128) rfl rfl rfl rfl rfl rfl ?_
      refine m_nextShare (by omega) hT1 hV hS1 hn1 ⟨fun hno => absurd (hno.symm.trans hsq.1) (by simp), fun S' hS' σ3 hf3 hx3 => ?_⟩
      obtain rfl : S2 = S' := Option.some.inj (hsq.1.symm.trans hS')
      refine ax_store (q := 129) (L' := [some (am_R 135), some (am_I ((p : Nat) : Int)), some (am_I B.1), some (am_I 1), some (am_I (po_ T (gs_ T v p S (nS_ T)) p)), o5]) rfl rfl rfl rfl rfl rfl ?_
      refine ax_goto (x := 72) rfl ?_
      have e : (if B.1 < (fun S => po_ T (gs_ T v p S (nS_ T)) p) S then ((fun S => po_ T (gs_ T v p S (nS_ T)) p) S, S) else B) = B := by first | exact if_pos (by show _ < po_ T (gs_ T v p S (nS_ T)) p; omega) | exact if_neg (by show ¬ _ < po_ T (gs_ T v p S (nS_ T)) p; omega)
      have g := fun hb => ih S2 (if B.1 < (fun S => po_ T (gs_ T v p S (nS_ T)) p) S then ((fun S => po_ T (gs_ T v p S (nS_ T)) p) S, S) else B) σ3 (some (am_I (po_ T (gs_ T v p S (nS_ T)) p))) (o5) (hT1.f5 hf3 (by decide) (by decide)) ((hf3.1 163 (by decide)).trans ((hf1.1 163 (by decide)).trans hw)) ⟨hx3, hok S2 (by simp)⟩ hsq.2 (fun S' h' => hok S' (List.mem_cons_of_mem _ h')) hb (fun σ' o4 o5 hf' hl' => hQ σ' o4 o5 (fr_tr (fr_tr (fr_sub hf1 (by decide)) hf3 (by decide)) hf' (fun a h => h)) hl')
      rw [e] at g
      exact g (Or.inr (fun k hk => by rw [hf3.1 167 (by decide)]; rw [hf1.1 167 (by decide)]; rcases hB with hB | hB; exact absurd hB (by omega); exact hB k hk))
    · refine ax_load (q := 91) rfl rfl rfl rfl rfl ?_
      refine ax_store (q := 92) (L' := [some (am_R 135), some (am_I ((p : Nat) : Int)), some (am_I (po_ T (gs_ T v p S (nS_ T)) p)), some (am_I 1), some (am_I (po_ T (gs_ T v p S (nS_ T)) p)), o5]) rfl rfl rfl rfl rfl rfl ?_
      refine ax_const (q := 93) (v := am_I 0) rfl rfl rfl ?_
      refine ax_store (q := 95) (L' := [some (am_R 135), some (am_I ((p : Nat) : Int)), some (am_I (po_ T (gs_ T v p S (nS_ T)) p)), some (am_I 1), some (am_I (po_ T (gs_ T v p S (nS_ T)) p)), some (am_I 0)]) rfl rfl rfl rfl rfl rfl ?_
      have g := l_life_cp (σ := σ1) (d := d) hT1 hV (p := p) (x := po_ T (gs_ T v p S (nS_ T)) p) (y := po_ T (gs_ T v p S (nS_ T)) p) (Q := Q) ?_ (nS_ T) 0 (by omega)
      · rw [cp_0, sI_id] at g
        exact g
      have hT2 : TM_ T (am_sI σ1 167 (cp_ (σ1.1 166) (σ1.1 167) (nS_ T))) := hT1.sI (by decide)
      have hS2 : SH_ S (am_sI σ1 167 (cp_ (σ1.1 166) (σ1.1 167) (nS_ T))) := ⟨fun k hk => by rw [sI_ne (by decide)]; exact hS1.1 k hk, hS1.2⟩
      have hl2 : ∀ k, k < nS_ T → (am_sI σ1 167 (cp_ (σ1.1 166) (σ1.1 167) (nS_ T))).1 167 k = (S.getD k 0 : Int) := fun k hk => by rw [sI_at, cp_at hk]; exact hS1.1 k (by omega)
      refine ax_load (q := 125) rfl rfl rfl rfl rfl ?_
      refine ax_callv (q := 128) rfl rfl rfl rfl rfl rfl ?_
      refine m_nextShare (by omega) hT2 hV hS2 hn1 ⟨fun hno => absurd (hno.symm.trans hsq.1) (by simp), fun S' hS' σ3 hf3 hx3 => ?_⟩
      obtain rfl : S2 = S' := Option.some.inj (hsq.1.symm.trans hS')
      refine ax_store (q := 129) (L' := [some (am_R 135), some (am_I ((p : Nat) : Int)), some (am_I (po_ T (gs_ T v p S (nS_ T)) p)), some (am_I 1), some (am_I (po_ T (gs_ T v p S (nS_ T)) p)), some (am_I ((nS_ T : Nat) : Int))]) rfl rfl rfl rfl rfl rfl ?_
      refine ax_goto (x := 72) rfl ?_
      have e : (if B.1 < (fun S => po_ T (gs_ T v p S (nS_ T)) p) S then ((fun S => po_ T (gs_ T v p S (nS_ T)) p) S, S) else B) = ((fun S => po_ T (gs_ T v p S (nS_ T)) p) S, S) := by first | exact if_pos (by show _ < po_ T (gs_ T v p S (nS_ T)) p; omega) | exact if_neg (by show ¬ _ < po_ T (gs_ T v p S (nS_ T)) p; omega)
      have g := fun hb => ih S2 (if B.1 < (fun S => po_ T (gs_ T v p S (nS_ T)) p) S then ((fun S => po_ T (gs_ T v p S (nS_ T)) p) S, S) else B) σ3 (some (am_I (po_ T (gs_ T v p S (nS_ T)) p))) (some (am_I ((nS_ T : Nat) : Int))) (hT2.f5 hf3 (by decide) (by decide)) ((hf3.1 163 (by decide)).trans ((sI_ne (by decide)).trans ((hf1.1 163 (by decide)).trans hw))) ⟨hx3, hok S2 (by simp)⟩ hsq.2 (fun S' h' => hok S' (List.mem_cons_of_mem _ h')) hb (fun σ' o4 o5 hf' hl' => hQ σ' o4 o5 (fr_tr (fr_tr (fr_sI (fr_sub hf1 (by decide)) (by decide)) hf3 (by decide)) hf' (fun a h => h)) hl')
      rw [e] at g
      exact g (Or.inr (fun k hk => by rw [hf3.1 167 (by decide)]; exact hl2 k hk))

/-! life: the shares as the numbers tell them, and as one goes on from the other -/
def dg_ (y i k : Nat) : Nat := (i / (y + 1) ^ k) % (y + 1)
/-- the shares of y years among n SKILLS that number i tells -/
def cf_ (n y i : Nat) : Option (List Nat) := if n ≤ 1 then some [y, 0, 0, 0] else if n = 2 then some [dg_ y i 0, y - dg_ y i 0, 0, 0] else if n = 3 then (if dg_ y i 1 + dg_ y i 0 ≤ y then some [dg_ y i 1, dg_ y i 0, y - (dg_ y i 1 + dg_ y i 0), 0] else none) else (if dg_ y i 2 + dg_ y i 1 + dg_ y i 0 ≤ y then some [dg_ y i 2, dg_ y i 1, dg_ y i 0, y - (dg_ y i 2 + dg_ y i 1 + dg_ y i 0)] else none)
def en_ (n y : Nat) : List (List Nat) := (List.range ((y + 1) ^ (n - 1))).filterMap (cf_ n y)
def s0_ (n y : Nat) : List Nat := [0, 0, 0, 0].set (n - 1) y
def sqb_ {α : Type} [DecidableEq α] (next : α → Option α) : List α → Bool
  | [] => false
  | [x] => decide (next x = none)
  | x :: y :: l => decide (next x = some y) && sqb_ next (y :: l)
theorem sqb_t {α : Type} [DecidableEq α] {next : α → Option α} : ∀ l, sqb_ next l = true → sq_ next l
  | [], h => by cases h
  | [x], h => of_decide_eq_true (p := next x = none) h
  | x :: y :: l, h => by
    unfold sqb_ at h
    rw [Bool.and_eq_true] at h
    exact ⟨of_decide_eq_true h.1, sqb_t (y :: l) h.2⟩
def ok4_ (S : List Nat) : Bool := match S with
  | [a, b, c, e] => decide (a ≤ 12) && (decide (b ≤ 12) && (decide (c ≤ 12) && decide (e ≤ 12)))
  | _ => false
theorem ok4_t {S : List Nat} (h : ok4_ S = true) : S.length = 4 ∧ ∀ k, S.getD k 0 ≤ 12 := by
  unfold ok4_ at h
  split at h
  · simp only [Bool.and_eq_true, decide_eq_true_eq] at h
    refine ⟨rfl, fun k => ?_⟩
    rcases k with _ | _ | _ | _ | k <;> simp <;> omega
  · cases h
theorem en_all : ((List.range 4).all fun n => (List.range 12).all fun y => sqb_ (nx_ (n + 1)) (en_ (n + 1) (y + 1)) && ((en_ (n + 1) (y + 1)).all ok4_ && decide ((en_ (n + 1) (y + 1)).head? = some (s0_ (n + 1) (y + 1))))) = true := by decide +kernel
theorem en_ok {n y : Nat} (h1 : 1 ≤ n) (h4 : n ≤ 4) (h0 : 1 ≤ y) (h12 : y ≤ 12) : ∃ l, en_ n y = s0_ n y :: l ∧ sq_ (nx_ n) (s0_ n y :: l) ∧ ∀ S, S ∈ s0_ n y :: l → S.length = 4 ∧ ∀ k, S.getD k 0 ≤ 12 := by
  have h := en_all
  rw [List.all_eq_true] at h
  have h := h (n - 1) (List.mem_range.mpr (by omega))
  rw [List.all_eq_true] at h
  have h := h (y - 1) (List.mem_range.mpr (by omega))
  rw [show n - 1 + 1 = n by omega, show y - 1 + 1 = y by omega, Bool.and_eq_true, Bool.and_eq_true, decide_eq_true_eq, List.all_eq_true] at h
  obtain ⟨g1, g2, g3⟩ := h
  cases e : en_ n y with
  | nil => rw [e] at g3; cases g3
  | cons S l =>
    rw [e] at g1 g2 g3
    have : S = s0_ n y := Option.some.inj g3
    subst this
    exact ⟨l, rfl, sqb_t _ g1, fun S hS => ok4_t (g2 S hS)⟩
/-- a life: the most PARTS, and the shares -/
def lf_ (T : sp_T) (v : sp_V) (p : Nat) : Int × List Nat := be_ (fun S => po_ T (gs_ T v p S (nS_ T)) p) (en_ (nS_ T) (yf_ T v p)) (-1, [])
def lc_ (T : sp_T) (v : sp_V) (a : Int) : Bool := sn_ T v a && (decide (yf_ T v a.toNat ≤ 12) && decide (¬ nS_ T = 0))

theorem m_life {d : Nat} (hd : 8 ≤ d) {σ : am_S} {T : sp_T} (hT : TM_ T σ) (hV : TV_ T) {b : Int} {v w : sp_V} (hw : σ.1 163 = w) (hvw : ∀ j, j < 50 → v j = w j) (hW : VV_ T b w) (hb9 : b ≤ 90000) {a : Int} {Q : Option am_V → am_S → Prop} (hN : lc_ T v a = false → ∀ σ', fq_ [] [68] σ σ' → σ'.1 135 68 = 0 → Q (some (am_I (-1))) σ') (hY : lc_ T v a = true → ∀ σ', fq_ [143, 144, 164, 166, 167] [68] σ σ' → σ'.1 135 68 = (nS_ T : Int) → (∀ k, k < nS_ T → σ'.1 167 k = ((lf_ T v a.toNat).2.getD k 0 : Int)) → Q (some (am_I (lf_ T v a.toNat).1)) σ') : am_Ev d 233 [am_R 135, am_I a] σ Q := by
  obtain ⟨d, rfl⟩ : ∃ e, d = e + 1 := ⟨d - 1, by omega⟩
  have h6 := hV.nP
  have hn := hV.nS
  obtain ⟨σ0, hσ0⟩ : ∃ s, s = am_sI σ 135 (am_up (σ.1 135) 68 0) := ⟨_, rfl⟩
  have hf0 : fq_ [] [68] σ σ0 := by rw [hσ0]; exact fq_s5 (fq_rf _ _ _) (by decide)
  have h68 : σ0.1 135 68 = 0 := by rw [hσ0, sI_at, am_up_same]
  have hT0 : TM_ T σ0 := hT.fq hf0 (by decide) (by decide)
  have hw0 : σ0.1 163 = w := (hf0.1 163 (by decide) (by decide)).trans hw
  refine ev_in (m := 233) (c := k_X9_life) (L := [some (am_R 135), some (am_I a), none, none, none, none]) rfl rfl rfl rfl rfl rfl ?_
  refine ax_load (q := 1) rfl rfl rfl rfl rfl ?_
  refine ax_const (q := 2) (v := am_I 0) rfl rfl rfl ?_
  refine ax_putf (q := 5) rfl rfl rfl ?_
  refine ax_load (q := 6) rfl rfl rfl rfl rfl ?_
  refine ax_load (q := 7) rfl rfl rfl rfl rfl ?_
  refine ax_callv (q := 10) rfl rfl rfl rfl rfl rfl ?_
  rw [← hσ0]
  refine m_isShutNow (by omega) hT0 hV hw0 ?_
  rw [← sn_cg hV hvw]
  refine ax_if_eq (q := 13) (x := 30) rfl rfl (fun h10 => ?_) (fun h10 => ?_)
  · have hb10 := it_0 h10
    refine ax_const (q := 31) (v := am_I (-1)) rfl rfl rfl ?_
    refine ax_ret (r := some (am_I (-1))) rfl rfl ?_
    exact hN (by unfold lc_; first | (rw [hb10]; rfl) | (rw [hb10, hyv, Int.toNat_natCast, hyv, decide_eq_false (by omega)]; rfl) | (rw [hb10, Int.toNat_natCast, hyv, decide_eq_false (by omega)]; rfl) | (rw [hb10, show nS_ T = 0 by omega]; simp)) σ0 hf0 h68
  · have hb10 := it_n0 h10
    obtain ⟨p, rfl, hp, hsp⟩ := sn_t hb10
    refine ax_load (q := 14) rfl rfl rfl rfl rfl ?_
    refine ax_load (q := 15) rfl rfl rfl rfl rfl ?_
    refine ax_callv (q := 18) rfl rfl rfl rfl rfl rfl ?_
    have hy1 := yf_bd hV hW hp
    have hyv : yf_ T v p = yf_ T w p := yf_cg (hvw p (by omega))
    refine m_yearsLeft (by omega) hT0 hV hw0 (by omega) (by have := (hW.2.2 p hp).1; omega) ?_
    refine ax_const (q := 20) (v := am_I 12) rfl rfl rfl ?_
    refine ax_icmp_gt (q := 23) (x := 30) rfl rfl (fun h20 => ?_) (fun h20 => ?_)
    · refine ax_const (q := 31) (v := am_I (-1)) rfl rfl rfl ?_
      refine ax_ret (r := some (am_I (-1))) rfl rfl ?_
      exact hN (by unfold lc_; first | (rw [hb10]; rfl) | (rw [hb10, hyv, Int.toNat_natCast, hyv, decide_eq_false (by omega)]; rfl) | (rw [hb10, Int.toNat_natCast, hyv, decide_eq_false (by omega)]; rfl) | (rw [hb10, show nS_ T = 0 by omega]; simp)) σ0 hf0 h68
    · refine ax_load (q := 24) rfl rfl rfl rfl rfl ?_
      refine ax_getf (q := 27) (v := am_I ((nS_ T : Nat) : Int)) rfl rfl (am_fg rfl (hT0.s50.trans hV.nS.1)) ?_
      refine ax_if_ne (q := 30) (x := 32) rfl rfl (fun h27 => ?_) (fun h27 => ?_)
      · refine ax_const (q := 33) (v := am_I 0) rfl rfl rfl ?_
        refine ax_store (q := 34) (L' := [some (am_R 135), some (am_I ((p : Nat) : Int)), some (am_I 0), none, none, none]) rfl rfl rfl rfl rfl rfl ?_
        refine ax_load (q := 35) rfl rfl rfl rfl rfl ?_
        refine ax_const (q := 36) (v := am_I 4) rfl rfl rfl ?_
        refine ax_icmp_ge (q := 39) (x := 52) rfl rfl (fun h => absurd h (by omega)) (fun h36 => ?_)
        refine ax_load (q := 40) rfl rfl rfl rfl rfl ?_
        refine ax_getf (q := 43) (v := am_R 166) rfl rfl (rfl) ?_
        refine ax_load (q := 44) rfl rfl rfl rfl rfl ?_
        refine ax_const (q := 45) (v := am_I 0) rfl rfl rfl ?_
        refine bx_iast (q := 46) (k := 0) rfl rfl (rfl) (by omega) (by omega) ?_
        refine ax_iinc (q := 49) (z' := ((1 : Nat) : Int)) (L' := [some (am_R 135), some (am_I ((p : Nat) : Int)), some (am_I ((1 : Nat) : Int)), none, none, none]) rfl rfl rfl rfl (am_we (by omega) (by omega) (by omega)) rfl ?_
        refine ax_goto (x := 34) rfl ?_
        refine ax_load (q := 35) rfl rfl rfl rfl rfl ?_
        refine ax_const (q := 36) (v := am_I 4) rfl rfl rfl ?_
        refine ax_icmp_ge (q := 39) (x := 52) rfl rfl (fun h => absurd h (by omega)) (fun h36 => ?_)
        refine ax_load (q := 40) rfl rfl rfl rfl rfl ?_
        refine ax_getf (q := 43) (v := am_R 166) rfl rfl (rfl) ?_
        refine ax_load (q := 44) rfl rfl rfl rfl rfl ?_
        refine ax_const (q := 45) (v := am_I 0) rfl rfl rfl ?_
        refine bx_iast (q := 46) (k := 1) rfl rfl (rfl) (by omega) (by omega) ?_
        refine ax_iinc (q := 49) (z' := ((2 : Nat) : Int)) (L' := [some (am_R 135), some (am_I ((p : Nat) : Int)), some (am_I ((2 : Nat) : Int)), none, none, none]) rfl rfl rfl rfl (am_we (by omega) (by omega) (by omega)) rfl ?_
        refine ax_goto (x := 34) rfl ?_
        refine ax_load (q := 35) rfl rfl rfl rfl rfl ?_
        refine ax_const (q := 36) (v := am_I 4) rfl rfl rfl ?_
        refine ax_icmp_ge (q := 39) (x := 52) rfl rfl (fun h => absurd h (by omega)) (fun h36 => ?_)
        refine ax_load (q := 40) rfl rfl rfl rfl rfl ?_
        refine ax_getf (q := 43) (v := am_R 166) rfl rfl (rfl) ?_
        refine ax_load (q := 44) rfl rfl rfl rfl rfl ?_
        refine ax_const (q := 45) (v := am_I 0) rfl rfl rfl ?_
        refine bx_iast (q := 46) (k := 2) rfl rfl (rfl) (by omega) (by omega) ?_
        refine ax_iinc (q := 49) (z' := ((3 : Nat) : Int)) (L' := [some (am_R 135), some (am_I ((p : Nat) : Int)), some (am_I ((3 : Nat) : Int)), none, none, none]) rfl rfl rfl rfl (am_we (by omega) (by omega) (by omega)) rfl ?_
        refine ax_goto (x := 34) rfl ?_
        refine ax_load (q := 35) rfl rfl rfl rfl rfl ?_
        refine ax_const (q := 36) (v := am_I 4) rfl rfl rfl ?_
        refine ax_icmp_ge (q := 39) (x := 52) rfl rfl (fun h => absurd h (by omega)) (fun h36 => ?_)
        refine ax_load (q := 40) rfl rfl rfl rfl rfl ?_
        refine ax_getf (q := 43) (v := am_R 166) rfl rfl (rfl) ?_
        refine ax_load (q := 44) rfl rfl rfl rfl rfl ?_
        refine ax_const (q := 45) (v := am_I 0) rfl rfl rfl ?_
        refine bx_iast (q := 46) (k := 3) rfl rfl (rfl) (by omega) (by omega) ?_
        refine ax_iinc (q := 49) (z' := ((4 : Nat) : Int)) (L' := [some (am_R 135), some (am_I ((p : Nat) : Int)), some (am_I ((4 : Nat) : Int)), none, none, none]) rfl rfl rfl rfl (am_we (by omega) (by omega) (by omega)) rfl ?_
        refine ax_goto (x := 34) rfl ?_
        refine ax_load (q := 35) rfl rfl rfl rfl rfl ?_
        refine ax_const (q := 36) (v := am_I 4) rfl rfl rfl ?_
        refine ax_icmp_ge (q := 39) (x := 52) rfl rfl (fun h36 => ?_) (fun h => absurd h (by omega))
        obtain ⟨σz, hσz⟩ : ∃ s, s = (am_sI (am_sI (am_sI (am_sI σ0 166 (am_up (σ0.1 166) 0 0)) 166 (am_up ((am_sI σ0 166 (am_up (σ0.1 166) 0 0)).1 166) 1 0)) 166 (am_up ((am_sI (am_sI σ0 166 (am_up (σ0.1 166) 0 0)) 166 (am_up ((am_sI σ0 166 (am_up (σ0.1 166) 0 0)).1 166) 1 0)).1 166) 2 0)) 166 (am_up ((am_sI (am_sI (am_sI σ0 166 (am_up (σ0.1 166) 0 0)) 166 (am_up ((am_sI σ0 166 (am_up (σ0.1 166) 0 0)).1 166) 1 0)) 166 (am_up ((am_sI (am_sI σ0 166 (am_up (σ0.1 166) 0 0)) 166 (am_up ((am_sI σ0 166 (am_up (σ0.1 166) 0 0)).1 166) 1 0)).1 166) 2 0)).1 166) 3 0)) := ⟨_, rfl⟩
        rw [← hσz]
        have hfz0 : fr_ [166] σ0 σz := by rw [hσz]; exact fr_sI (fr_sI (fr_sI (fr_sI (fr_rf _ _) (by decide)) (by decide)) (by decide)) (by decide)
        have hz0 : ∀ k, k < 4 → σz.1 166 k = 0 := fun k hk => by rw [hσz]; rcases (show k = 0 ∨ k = 1 ∨ k = 2 ∨ k = 3 by omega) with rfl | rfl | rfl | rfl <;> simp [am_sI, am_up]
        have hTz : TM_ T σz := hT0.f5 hfz0 (by decide) (by decide)
        have hwz : σz.1 163 = w := (hfz0.1 163 (by decide)).trans hw0
        refine ax_load (q := 53) rfl rfl rfl rfl rfl ?_
        refine ax_getf (q := 56) (v := am_R 166) rfl rfl (rfl) ?_
        refine ax_load (q := 57) rfl rfl rfl rfl rfl ?_
        refine ax_getf (q := 60) (v := am_I ((nS_ T : Nat) : Int)) rfl rfl (am_fg rfl (hTz.s50.trans hV.nS.1)) ?_
        refine ax_const (q := 61) (v := am_I 1) rfl rfl rfl ?_
        refine ax_isub (q := 62) (z := (((nS_ T - 1) : Nat) : Int)) rfl rfl (am_we (by omega) (by omega) (by omega)) ?_
        refine ax_load (q := 63) rfl rfl rfl rfl rfl ?_
        refine ax_load (q := 64) rfl rfl rfl rfl rfl ?_
        refine ax_callv (q := 67) rfl rfl rfl rfl rfl rfl ?_
        refine m_yearsLeft (by omega) hTz hV hwz (by omega) (by have := (hW.2.2 p hp).1; omega) ?_
        refine bx_iast (q := 68) (k := (nS_ T - 1)) rfl rfl (rfl) (by omega) (by omega) ?_
        refine ax_const (q := 69) (v := am_I (-1)) rfl rfl rfl ?_
        refine ax_store (q := 70) (L' := [some (am_R 135), some (am_I ((p : Nat) : Int)), some (am_I (-1)), none, none, none]) rfl rfl rfl rfl rfl rfl ?_
        refine ax_const (q := 71) (v := am_I 1) rfl rfl rfl ?_
        refine ax_store (q := 72) (L' := [some (am_R 135), some (am_I ((p : Nat) : Int)), some (am_I (-1)), some (am_I 1), none, none]) rfl rfl rfl rfl rfl rfl ?_
        obtain ⟨l, he, hsq, hok⟩ := en_ok (n := nS_ T) (y := yf_ T w p) (by omega) (by omega) (by omega) (by omega)
        have hfz : fr_ [166] σ0 (am_sI σz 166 (am_up (σz.1 166) (nS_ T - 1) ((yf_ T w p : Nat) : Int))) := fr_sI hfz0 (by decide)
        have hlc : lc_ T v (p : Int) = true := by unfold lc_; rw [hb10, Int.toNat_natCast, hyv, decide_eq_true (show yf_ T w p ≤ 12 by omega), decide_eq_true (show ¬ nS_ T = 0 by omega)]; rfl
        have hok0 := hok _ (List.mem_cons_self ..)
        have hSz : SH_ (s0_ (nS_ T) (yf_ T w p)) (am_sI σz 166 (am_up (σz.1 166) (nS_ T - 1) ((yf_ T w p : Nat) : Int))) := ⟨fun k hk => by
            rw [sI_at]
            unfold s0_
            rw [getD_set (by simp; omega)]
            by_cases q : k = nS_ T - 1
            · subst q; rw [am_up_same, if_pos rfl]
            · rw [am_up_ne q, if_neg q, hz0 k hk]
              rcases (show k = 0 ∨ k = 1 ∨ k = 2 ∨ k = 3 by omega) with rfl | rfl | rfl | rfl <;> rfl, hok0⟩
        refine l_life (by omega) hV (by omega) hvw hW hb9 hp l (s0_ (nS_ T) (yf_ T w p)) (-1, []) _ none none (hTz.sI (by decide)) ((sI_ne (by decide)).trans hwz) hSz hsq hok (Or.inl (by decide)) (fun σ1 o4 o5 hf1 hl1 => ?_)
        have hT1 : TM_ T σ1 := TM_.f5 (hTz.sI (a := 166) (by decide)) hf1 (by decide) (by decide)
        refine ax_load (q := 133) rfl rfl rfl rfl rfl ?_
        refine ax_load (q := 134) rfl rfl rfl rfl rfl ?_
        refine ax_getf (q := 137) (v := am_I ((nS_ T : Nat) : Int)) rfl rfl (am_fg rfl (hT1.s50.trans hV.nS.1)) ?_
        refine ax_putf (q := 140) rfl rfl rfl ?_
        refine ax_load (q := 141) rfl rfl rfl rfl rfl ?_
        refine ax_ret (r := some (am_I ((be_ (fun S => po_ T (gs_ T v p S (nS_ T)) p) (s0_ (nS_ T) (yf_ T w p) :: l) (-1, [])).1))) rfl rfl ?_
        have g := hY hlc (am_sI σ1 135 (am_up (σ1.1 135) 68 ((nS_ T : Nat) : Int))) (fq_s5 (fq_tr (fq_tr (fq_tr (fq_rf [143, 144, 164, 166, 167] [68] σ) hf0 (by decide) (by decide)) (fq_fr hfz (by decide) (fun _ q => q) : fq_ [166] [68] σ0 _) (by decide) (by decide)) (fq_fr hf1 (by decide) (fun _ q => q) : fq_ [143, 144, 164, 166, 167] [68] _ σ1) (by decide) (by decide)) (by decide)) (by rw [sI_at, am_up_same]) (fun k hk => by rw [sI_ne (by decide)]; have q := hl1 k hk; rw [Int.toNat_natCast]; unfold lf_; rw [hyv, he]; exact q)
        rw [show (lf_ T v (p : Int).toNat).1 = (be_ (fun S => po_ T (gs_ T v p S (nS_ T)) p) (s0_ (nS_ T) (yf_ T w p) :: l) (-1, [])).1 by rw [Int.toNat_natCast]; unfold lf_; rw [hyv, he]] at g
        exact g
      · refine ax_const (q := 31) (v := am_I (-1)) rfl rfl rfl ?_
        refine ax_ret (r := some (am_I (-1))) rfl rfl ?_
        exact hN (by unfold lc_; first | (rw [hb10]; rfl) | (rw [hb10, hyv, Int.toNat_natCast, hyv, decide_eq_false (by omega)]; rfl) | (rw [hb10, Int.toNat_natCast, hyv, decide_eq_false (by omega)]; rfl) | (rw [hb10, show nS_ T = 0 by omega]; simp)) σ0 hf0 h68

