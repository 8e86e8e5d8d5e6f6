/-! the best of a row of tries; shares of the years -/
/-- the best of l, the first of like ones; b is the best so far -/
def be_ {α : Type} (f : α → Int) : List α → Int × α → Int × α
  | [], b => b
  | x :: l, b => be_ f l (if b.1 < f x then (f x, x) else b)
/-- l goes on by next, and ends where next ends -/
def sq_ {α : Type} (next : α → Option α) : List α → Prop
  | [] => False
  | [x] => next x = none
  | x :: y :: l => next x = some y ∧ sq_ next (y :: l)
def fl_ (S : List Nat) : Nat → Nat
  | 0 => 0
  | s + 1 => if S.getD (s + 1) 0 = 0 then fl_ S s else s + 1
def nx_ (n : Nat) (S : List Nat) : Option (List Nat) := if fl_ S (n - 1) = 0 then none else some (((S.set (fl_ S (n - 1)) 0).set (fl_ S (n - 1) - 1) (S.getD (fl_ S (n - 1) - 1) 0 + 1)).set (n - 1) (S.getD (fl_ S (n - 1)) 0 - 1))
/-- the row after years shared so, SKILL by SKILL -/
def gs_ (T : sp_T) (v : sp_V) (p : Nat) (S : List Nat) : Nat → sp_V
  | 0 => v
  | s + 1 => gz_ T (gs_ T v p S s) p (s : Int) (S.getD s 0)
def SH_ (S : List Nat) (σ : am_S) : Prop := (∀ k, k < 4 → σ.1 166 k = (S.getD k 0 : Int)) ∧ S.length = 4 ∧ ∀ k, S.getD k 0 ≤ 12
theorem getD_set {S : List Nat} {i j x : Nat} (h : i < S.length) : (S.set i x).getD j 0 = if j = i then x else S.getD j 0 := by
  rw [List.getD_eq_getElem?_getD, List.getElem?_set, List.getD_eq_getElem?_getD]
  by_cases q : i = j
  · subst q; simp [h]
  · rw [if_neg q, if_neg (fun e => q e.symm)]
theorem fl_le (S : List Nat) : ∀ s, fl_ S s ≤ s
  | 0 => Nat.le_refl _
  | s + 1 => by
    have := fl_le S s
    unfold fl_
    split <;> omega
theorem VV_.gs {T : sp_T} {b : Int} {v : sp_V} (h : VV_ T b v) (hV : TV_ T) {p : Nat} (hp : p < nP_ T) {S : List Nat} (hS : ∀ k, S.getD k 0 ≤ 12) : ∀ s : Nat, s ≤ nS_ T → VV_ T (b + 12 * s) (gs_ T v p S s)
  | 0, _ => h.le (by omega)
  | s + 1, hs => by
    have := (VV_.gs h hV hp hS s (by omega)).gz hV hp (z := (s : Int)) (by have := hV.nS; omega) (S.getD s 0)
    exact this.le (by have := hS s; omega)

theorem l_pbs1 {d : Nat} (hd : 6 ≤ d) {σ : am_S} {T : sp_T} (hT : TM_ T σ) (hV : TV_ T) {b : Int} {v : sp_V} (hW : VV_ T b v) (hb9 : b ≤ 100000) {p : Nat} (hp : p < nP_ T) {s : Nat} (hs : s < nS_ T) {S : List Nat} (hS : SH_ S σ) {Q : Option am_V → am_S → Prop} (hQ : ∀ σ', fr_ [143, 144, 164] σ σ' → σ'.1 164 = gz_ T v p (s : Int) (S.getD s 0) → aW d 0 k_X9_partsByShares Q 38 [some (am_R 135), some (am_I ((p : Nat) : Int)), some (am_I ((s : Nat) : Int)), some (am_I ((S.getD s 0 : Nat) : Int))] [] σ') : ∀ (m k : Nat) σ', fr_ [143, 144, 164] σ σ' → σ'.1 164 = gz_ T v p (s : Int) k → k + m = S.getD s 0 → aW d 0 k_X9_partsByShares Q 16 [some (am_R 135), some (am_I ((p : Nat) : Int)), some (am_I ((s : Nat) : Int)), some (am_I ((k : Nat) : Int))] [] σ' := by
  have h6 := hV.nP
  have hn := hV.nS
  have hS12 := hS.2.2 s
  intro m
  induction m with
  | zero =>
    intro k σ' hf hx hk
    obtain rfl : k = S.getD s 0 := by omega
    refine ax_load (q := 17) rfl rfl rfl rfl rfl ?_
    refine ax_load (q := 18) rfl rfl rfl rfl rfl ?_
    refine ax_getf (q := 21) (v := am_R 166) rfl rfl (rfl) ?_
    refine ax_load (q := 22) rfl rfl rfl rfl rfl ?_
    refine bx_iald (q := 23) (k := s) (z := ((S.getD s 0 : Nat) : Int)) rfl rfl (rfl) (by omega) (by omega) ((congrFun (hf.1 166 (by decide)) _).trans (hS.1 s (by omega))) ?_
    refine ax_icmp_ge (q := 26) (x := 38) rfl rfl (fun h23 => ?_) (fun h => absurd h (by omega))
    exact hQ σ' hf hx
  | succ m ih =>
    intro k σ' hf hx hk
    refine ax_load (q := 17) rfl rfl rfl rfl rfl ?_
    refine ax_load (q := 18) rfl rfl rfl rfl rfl ?_
    refine ax_getf (q := 21) (v := am_R 166) rfl rfl (rfl) ?_
    refine ax_load (q := 22) rfl rfl rfl rfl rfl ?_
    refine bx_iald (q := 23) (k := s) (z := ((S.getD s 0 : Nat) : Int)) rfl rfl (rfl) (by omega) (by omega) ((congrFun (hf.1 166 (by decide)) _).trans (hS.1 s (by omega))) ?_
    refine ax_icmp_ge (q := 26) (x := 38) rfl rfl (fun h => absurd h (by omega)) (fun h23 => ?_)
    refine ax_load (q := 27) rfl rfl rfl rfl rfl ?_
    refine ax_load (q := 28) rfl rfl rfl rfl rfl ?_
    refine ax_load (q := 29) rfl rfl rfl rfl rfl ?_
    refine ax_callv (q := 32) rfl rfl rfl rfl rfl rfl ?_
    refine m_goAlone (by omega) (hT.fr hf (by decide)) hV hx (hW.gz hV hp (z := (s : Int)) (by omega) k) hp (by omega) (by omega) (fun σ1 hf1 hx1 => ?_)
    refine ax_iinc (q := 35) (z' := ((k + 1 : Nat) : Int)) (L' := [some (am_R 135), some (am_I ((p : Nat) : Int)), some (am_I ((s : Nat) : Int)), some (am_I ((k + 1 : Nat) : Int))]) rfl rfl rfl rfl (am_we (by omega) (by omega) (by omega)) rfl ?_
    refine ax_goto (x := 16) rfl ?_
    exact ih (k + 1) σ1 (fr_tr hf hf1 (fun a h => h)) hx1 (by omega)

theorem l_pbs {d : Nat} (hd : 6 ≤ d) {σ : am_S} {T : sp_T} (hT : TM_ T σ) (hV : TV_ T) {b : Int} {v : sp_V} (hW : VV_ T b v) (hb9 : b ≤ 90000) {p : Nat} (hp : p < nP_ T) {S : List Nat} (hS : SH_ S σ) {Q : Option am_V → am_S → Prop} (hQ : ∀ σ', fr_ [143, 144, 164] σ σ' → Q (some (am_I (po_ T (gs_ T v p S (nS_ T)) p))) σ') : ∀ (m k : Nat) σ' (o3 : Option am_V), fr_ [143, 144, 164] σ σ' → σ'.1 164 = gs_ T v p S k → k + m = nS_ T → aW d 0 k_X9_partsByShares Q 6 [some (am_R 135), some (am_I ((p : Nat) : Int)), some (am_I ((k : Nat) : Int)), o3] [] σ' := by
  have h6 := hV.nP
  have hn := hV.nS
  intro m
  induction m with
  | zero =>
    intro k σ' o3 hf hx hk
    obtain rfl : k = nS_ T := by omega
    refine ax_load (q := 7) rfl rfl rfl rfl rfl ?_
    refine ax_load (q := 8) rfl rfl rfl rfl rfl ?_
    refine ax_getf (q := 11) (v := am_I ((nS_ T : Nat) : Int)) rfl rfl (am_fg rfl ((hT.fr hf (by decide)).s50.trans hV.nS.1)) ?_
    refine ax_icmp_ge (q := 14) (x := 44) rfl rfl (fun h11 => ?_) (fun h => absurd h (by omega))
    refine ax_load (q := 45) rfl rfl rfl rfl rfl ?_
    refine ax_load (q := 46) rfl rfl rfl rfl rfl ?_
    refine ax_callv (q := 49) rfl rfl rfl rfl rfl rfl ?_
    refine m_partsOf (by omega) (hT.fr hf (by decide)) hV hx (hW.gs hV hp hS.2.2 (nS_ T) (by omega)) hp ?_
    refine ax_ret (r := some (am_I (po_ T (gs_ T v p S (nS_ T)) p))) rfl rfl ?_
    exact hQ σ' hf
  | succ m ih =>
    intro k σ' o3 hf hx hk
    refine ax_load (q := 7) rfl rfl rfl rfl rfl ?_
    refine ax_load (q := 8) rfl rfl rfl rfl rfl ?_
    refine ax_getf (q := 11) (v := am_I ((nS_ T : Nat) : Int)) rfl rfl (am_fg rfl ((hT.fr hf (by decide)).s50.trans hV.nS.1)) ?_
    refine ax_icmp_ge (q := 14) (x := 44) rfl rfl (fun h => absurd h (by omega)) (fun h11 => ?_)
    refine ax_const (q := 15) (v := am_I 0) rfl rfl rfl ?_
    refine ax_store (q := 16) (L' := [some (am_R 135), some (am_I ((p : Nat) : Int)), some (am_I ((k : Nat) : Int)), some (am_I 0)]) rfl rfl rfl rfl rfl rfl ?_
    refine l_pbs1 (σ := σ') (by omega) (hT.fr hf (by decide)) hV (hW.gs hV hp hS.2.2 k (by omega)) (by omega) hp (s := k) (by omega) (⟨fun k hk => by rw [hf.1 166 (by decide)]; exact hS.1 k hk, hS.2⟩ : SH_ S σ') (fun σ1 hf1 hx1 => ?_) (S.getD k 0) 0 σ' (fr_rf _ _) hx (by omega)
    refine ax_iinc (q := 41) (z' := ((k + 1 : Nat) : Int)) (L' := [some (am_R 135), some (am_I ((p : Nat) : Int)), some (am_I ((k + 1 : Nat) : Int)), some (am_I ((S.getD k 0 : Nat) : Int))]) rfl rfl rfl rfl (am_we (by omega) (by omega) (by omega)) rfl ?_
    refine ax_goto (x := 6) rfl ?_
    exact ih (k + 1) σ1 _ (fr_tr hf hf1 (fun a h => h)) hx1 (by omega)

theorem gs_cg {T : sp_T} (hV : TV_ T) {v w : sp_V} (h : ∀ j, j < 50 → v j = w j) {p : Nat} (hp : p < 6) {S : List Nat} : ∀ n, n ≤ nS_ T → ∀ j, j < 50 → gs_ T v p S n j = gs_ T w p S n j
  | 0, _ => h
  | n + 1, hn => gz_cg hV (gs_cg hV h hp n (by omega)) hp (by have := hV.nS; omega) _
theorem po_cg {T : sp_T} (hV : TV_ T) {b : Int} {v w : sp_V} (h : ∀ j, j < 50 → v j = w j) {p : Nat} (hp : p < nP_ T) (hW : VV_ T b w) : po_ T v p = po_ T w p := by
  have h6 := hV.nP
  have hO := hV.nO
  have h1 := (hW.2.2 p hp).2.1
  have e : ib_ T v p = ib_ T w p := by unfold ib_; rw [h (12 + p) (by omega), h (6 + p) (by omega)]
  unfold po_
  rw [e, h (12 + p) (by omega), h (6 + p) (by omega)]
  split
  · rfl
  · next q =>
    split
    · next q1 =>
      have h0 : ¬ w (6 + p) < 0 := by
        unfold ib_ at q
        rw [if_pos q1] at q
        simpa using q
      rw [cn_cg hV h (by omega) (by omega)]
    · exact su_eq _ (fun o ho => by rw [cn_cg hV h (by omega) ho])

theorem m_partsByShares {d : Nat} (hd : 7 ≤ d) {σ : am_S} {T : sp_T} (hT : TM_ T σ) (hV : TV_ T) {b : Int} {v w : sp_V} (hw : σ.1 163 = w) (hvw : ∀ j, j < 50 → v j = w j) (hW : VV_ T b w) (hb9 : b ≤ 90000) {p : Nat} (hp : p < nP_ T) {S : List Nat} (hS : SH_ S σ) {Q : Option am_V → am_S → Prop} (hQ : ∀ σ', fr_ [143, 144, 164] σ σ' → Q (some (am_I (po_ T (gs_ T v p S (nS_ T)) p))) σ') : am_Ev d 231 [am_R 135, am_I ((p : Nat) : Int)] σ Q := by
  obtain ⟨d, rfl⟩ : ∃ e, d = e + 1 := ⟨d - 1, by omega⟩
  have h6 := hV.nP
  obtain ⟨u, hu⟩ : ∃ u, u = cp_ w (σ.1 164) 50 := ⟨_, rfl⟩
  have huw : ∀ j, j < 50 → u j = w j := fun j hj => by rw [hu]; exact cp_at hj
  have hWu : VV_ T b u := hW.cg hV huw
  have e : po_ T (gs_ T v p S (nS_ T)) p = po_ T (gs_ T u p S (nS_ T)) p := po_cg hV (gs_cg hV (fun j hj => (hvw j hj).trans (huw j hj).symm) (by omega) _ (Nat.le_refl _)) hp (hWu.gs hV hp hS.2.2 (nS_ T) (Nat.le_refl _))
  rw [e] at hQ
  refine ev_in (m := 231) (c := k_X9_partsByShares) (L := [some (am_R 135), some (am_I ((p : Nat) : Int)), none, none]) rfl rfl rfl rfl rfl rfl ?_
  refine ax_load (q := 1) rfl rfl rfl rfl rfl ?_
  refine ax_callv (q := 4) rfl rfl rfl rfl rfl rfl ?_
  refine m_load (by omega) ?_
  rw [hw, ← hu]
  refine ax_const (q := 5) (v := am_I 0) rfl rfl rfl ?_
  refine ax_store (q := 6) (L' := [some (am_R 135), some (am_I ((p : Nat) : Int)), some (am_I 0), none]) rfl rfl rfl rfl rfl rfl ?_
  exact l_pbs (σ := am_sI σ 164 u) (by omega) (hT.sI (by decide)) hV hWu hb9 hp (S := S) ⟨fun k hk => by rw [sI_ne (by decide)]; exact hS.1 k hk, hS.2⟩ (fun σ' hf => hQ σ' (fr_tr (l := [143, 144, 164]) (fr_sI (fr_rf _ _) (by decide)) hf (fun a h => h))) (nS_ T) 0 _ none (fr_rf _ _) (sI_at _ _ _) (by omega)

/-- what nextShare leaves -/
def NS_ (n : Nat) (S : List Nat) (σ : am_S) (Q : Option am_V → am_S → Prop) : Prop := (nx_ n S = none → Q (some (am_I 0)) σ) ∧ ∀ S', nx_ n S = some S' → ∀ σ', fr_ [166] σ σ' → (∀ k, k < 4 → σ'.1 166 k = (S'.getD k 0 : Int)) → Q (some (am_I 1)) σ'

theorem l_nextShare {d : Nat} {σ : am_S} {T : sp_T} (hT : TM_ T σ) (hV : TV_ T) {S : List Nat} (hS : SH_ S σ) (hn1 : 1 ≤ nS_ T) {Q : Option am_V → am_S → Prop} (hQ : NS_ (nS_ T) S σ Q) : ∀ s : Nat, s ≤ nS_ T - 1 → fl_ S (nS_ T - 1) = fl_ S s → aW d 1 k_X9_nextShare Q 9 [some (am_R 135), some (am_I (((nS_ T - 1) : Nat) : Int)), some (am_I ((s : Nat) : Int)), none] [] σ := by
  have hn := hV.nS
  have hS12 := hS.2.2
  intro s
  induction s with
  | zero =>
    intro hs hfl
    have e : nx_ (nS_ T) S = none := by unfold nx_; rw [hfl]; rfl
    refine ax_load (q := 10) rfl rfl rfl rfl rfl ?_
    refine ax_if_le (q := 13) (x := 28) rfl rfl (fun h10 => ?_) (fun h => absurd h (by omega))
    refine ax_load (q := 29) rfl rfl rfl rfl rfl ?_
    refine ax_if_gt (q := 32) (x := 34) rfl rfl (fun h => absurd h (by omega)) (fun h29 => ?_)
    refine ax_const (q := 33) (v := am_I 0) rfl rfl rfl ?_
    refine ax_ret (r := some (am_I 0)) rfl ⟨rfl, Or.inl rfl⟩ ?_
    exact hQ.1 e
  | succ s ih =>
    intro hs hfl
    have b1 := hS12 (s + 1)
    have b2 := hS12 s
    refine ax_load (q := 10) rfl rfl rfl rfl rfl ?_
    refine ax_if_le (q := 13) (x := 28) rfl rfl (fun h => absurd h (by omega)) (fun h10 => ?_)
    refine ax_load (q := 14) rfl rfl rfl rfl rfl ?_
    refine ax_getf (q := 17) (v := am_R 166) rfl rfl (rfl) ?_
    refine ax_load (q := 18) rfl rfl rfl rfl rfl ?_
    refine bx_iald (q := 19) (k := s + 1) (z := ((S.getD (s + 1) 0 : Nat) : Int)) rfl rfl (rfl) (by omega) (by omega) (hS.1 (s + 1) (by omega)) ?_
    refine ax_if_ne (q := 22) (x := 28) rfl rfl (fun h19 => ?_) (fun h19 => ?_)
    · refine ax_load (q := 29) rfl rfl rfl rfl rfl ?_
      refine ax_if_gt (q := 32) (x := 34) rfl rfl (fun h29 => ?_) (fun h => absurd h (by omega))
      refine ax_load (q := 35) rfl rfl rfl rfl rfl ?_
      refine ax_getf (q := 38) (v := am_R 166) rfl rfl (rfl) ?_
      refine ax_load (q := 39) rfl rfl rfl rfl rfl ?_
      refine bx_iald (q := 40) (k := s + 1) (z := ((S.getD (s + 1) 0 : Nat) : Int)) rfl rfl (rfl) (by omega) (by omega) (hS.1 (s + 1) (by omega)) ?_
      refine ax_const (q := 41) (v := am_I 1) rfl rfl rfl ?_
      refine ax_isub (q := 42) (z := (((S.getD (s + 1) 0 - 1) : Nat) : Int)) rfl rfl (am_we (by omega) (by omega) (by omega)) ?_
      refine ax_store (q := 43) (L' := [some (am_R 135), some (am_I (((nS_ T - 1) : Nat) : Int)), some (am_I ((s + 1 : Nat) : Int)), some (am_I (((S.getD (s + 1) 0 - 1) : Nat) : Int))]) rfl rfl rfl rfl rfl rfl ?_
      refine ax_load (q := 44) rfl rfl rfl rfl rfl ?_
      refine ax_getf (q := 47) (v := am_R 166) rfl rfl (rfl) ?_
      refine ax_load (q := 48) rfl rfl rfl rfl rfl ?_
      refine ax_const (q := 49) (v := am_I 0) rfl rfl rfl ?_
      refine bx_iast (q := 50) (k := s + 1) rfl rfl (rfl) (by omega) (by omega) ?_
      refine ax_load (q := 51) rfl rfl rfl rfl rfl ?_
      refine ax_getf (q := 54) (v := am_R 166) rfl rfl (rfl) ?_
      refine ax_load (q := 55) rfl rfl rfl rfl rfl ?_
      refine ax_const (q := 56) (v := am_I 1) rfl rfl rfl ?_
      refine ax_isub (q := 57) (z := ((s : Nat) : Int)) rfl rfl (am_we (by omega) (by omega) (by omega)) ?_
      refine ax_dup2 (q := 58) rfl rfl rfl rfl ?_
      refine bx_iald (q := 59) (k := s) (z := ((S.getD s 0 : Nat) : Int)) rfl rfl (rfl) (by omega) (by omega) (by rw [sI_at, am_up_ne (by omega)]; exact hS.1 s (by omega)) ?_
      refine ax_const (q := 60) (v := am_I 1) rfl rfl rfl ?_
      refine ax_iadd (q := 61) (z := (((S.getD s 0) + 1 : Nat) : Int)) rfl rfl (am_we (by omega) (by omega) (by omega)) ?_
      refine bx_iast (q := 62) (k := s) rfl rfl (rfl) (by omega) (by omega) ?_
      refine ax_load (q := 63) rfl rfl rfl rfl rfl ?_
      refine ax_getf (q := 66) (v := am_R 166) rfl rfl (rfl) ?_
      refine ax_load (q := 67) rfl rfl rfl rfl rfl ?_
      refine ax_load (q := 68) rfl rfl rfl rfl rfl ?_
      refine bx_iast (q := 69) (k := (nS_ T - 1)) rfl rfl (rfl) (by omega) (by omega) ?_
      refine ax_const (q := 70) (v := am_I 1) rfl rfl rfl ?_
      have hsl : s + 1 < S.length := by rw [hS.2.1]; omega
      have e1 : fl_ S (s + 1) = s + 1 := by show (if _ then _ else _) = _; rw [if_neg (by omega)]
      refine ax_ret (r := some (am_I 1)) rfl ⟨rfl, Or.inr rfl⟩ ?_
      have e : nx_ (nS_ T) S = some (((S.set (s + 1) 0).set s (S.getD s 0 + 1)).set (nS_ T - 1) (S.getD (s + 1) 0 - 1)) := by unfold nx_; rw [hfl, e1, if_neg (by omega)]; rfl
      refine hQ.2 _ e _ (fr_sI (fr_sI (fr_sI (fr_rf _ _) (by decide)) (by decide)) (by decide)) (fun k hk => ?_)
      have hl4 := hS.2.1
      rw [sI_at, sI_at, sI_at, getD_set (by simp only [List.length_set]; omega), getD_set (by simp only [List.length_set]; omega), getD_set (by omega)]
      by_cases q1 : k = nS_ T - 1
      · subst q1; rw [am_up_same, if_pos rfl]
      · rw [am_up_ne q1, if_neg q1]
        by_cases q2 : k = s
        · subst q2; rw [am_up_same, if_pos rfl]
        · rw [am_up_ne q2, if_neg q2]
          by_cases q3 : k = s + 1
          · subst q3; rw [am_up_same, if_pos rfl]; rfl
          · rw [am_up_ne q3, if_neg q3]; exact hS.1 k hk
    · refine ax_iinc (q := 25) (z' := ((s : Nat) : Int)) (L' := [some (am_R 135), some (am_I (((nS_ T - 1) : Nat) : Int)), some (am_I ((s : Nat) : Int)), none]) rfl rfl rfl rfl (am_we (by omega) (by omega) (by omega)) rfl ?_
      refine ax_goto (x := 9) rfl ?_
      exact ih (by omega) (hfl.trans (by show (if _ then _ else _) = _; rw [if_pos (by omega)]))

theorem m_nextShare {d : Nat} (hd : 1 ≤ d) {σ : am_S} {T : sp_T} (hT : TM_ T σ) (hV : TV_ T) {S : List Nat} (hS : SH_ S σ) (hn1 : 1 ≤ nS_ T) {Q : Option am_V → am_S → Prop} (hQ : NS_ (nS_ T) S σ Q) : am_Ev d 232 [am_R 135] σ Q := by
  obtain ⟨d, rfl⟩ : ∃ e, d = e + 1 := ⟨d - 1, by omega⟩
  have hn := hV.nS
  refine ev_in (m := 232) (c := k_X9_nextShare) (L := [some (am_R 135), none, none, none]) rfl rfl rfl rfl rfl rfl ?_
  refine ax_load (q := 1) rfl rfl rfl rfl rfl ?_
  refine ax_getf (q := 4) (v := am_I ((nS_ T : Nat) : Int)) rfl rfl (am_fg rfl (hT.s50.trans hV.nS.1)) ?_
  refine ax_const (q := 5) (v := am_I 1) rfl rfl rfl ?_
  refine ax_isub (q := 6) (z := (((nS_ T - 1) : Nat) : Int)) rfl rfl (am_we (by omega) (by omega) (by omega)) ?_
  refine ax_store (q := 7) (L' := [some (am_R 135), some (am_I (((nS_ T - 1) : Nat) : Int)), none, none]) rfl rfl rfl rfl rfl rfl ?_
  refine ax_load (q := 8) rfl rfl rfl rfl rfl ?_
  refine ax_store (q := 9) (L' := [some (am_R 135), some (am_I (((nS_ T - 1) : Nat) : Int)), some (am_I (((nS_ T - 1) : Nat) : Int)), none]) rfl rfl rfl rfl rfl rfl ?_
  exact l_nextShare hT hV hS hn1 hQ (nS_ T - 1) (Nat.le_refl _) rfl

