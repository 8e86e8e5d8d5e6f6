/-! the formula's grammar, read from above: what the class does; and it is what shift and reduce does -/
abbrev sp_E : Type := Sum (Int × Nat) (Nat × Nat × List (Int × Int))
section RD
variable (tp : Nat → Int) (n : Nat)
/-- sub, and then as many more, joined by signs of tightness t -/
def lp_ (sub : Nat → Nat → sp_E) (t : Nat) : Nat → Nat → Nat → List (Int × Int) → sp_E
  | 0, p, u, s => Sum.inr (p, u, s)
  | k + 1, p, u, s => if sg2_ tp n p ≠ 0 ∧ ti_ (sg2_ tp n p) = t then sb_ (sub (nxp_ tp n p) u) fun r => lp_ sub t k r.1 r.2.1 (s ++ r.2.2 ++ [(3, sg2_ tp n p)]) else Sum.inr (p, u, s)
def rdx_ (sub : Nat → Nat → sp_E) (t : Nat) (p u : Nat) : sp_E := sb_ (sub p u) fun r => lp_ tp n sub t 30 r.1 r.2.1 r.2.2
def rdu_ (ei : Option (Nat → Nat → sp_E)) (p u : Nat) : sp_E := if tks_ tp n p = 40 then (match ei with
    | none => Sum.inl (2, p)
    | some f => if u = 30 then Sum.inl (2, p) else sb_ (f (nxp_ tp n p) (u + 1)) fun r => if tks_ tp n r.1 = 41 then Sum.inr (nxp_ tp n r.1, r.2.1, r.2.2) else Sum.inl (2, r.1)) else if (tks_ tp n p ≠ 2 ∧ as2_ tp n p < 0) ∨ u = 30 then Sum.inl (2, p) else Sum.inr (nxp_ tp n p, u + 1, [sp1_ tp n p])
def rdt_ (ei : Option (Nat → Nat → sp_E)) : Nat → Nat → sp_E := rdx_ tp n (rdu_ tp n ei) 6
def rds_ (ei : Option (Nat → Nat → sp_E)) : Nat → Nat → sp_E := rdx_ tp n (rdt_ tp n ei) 5
def rdr_ (ei : Option (Nat → Nat → sp_E)) (p u : Nat) : sp_E := sb_ (rds_ tp n ei p u) fun r => if sg2_ tp n r.1 ≠ 0 ∧ ti_ (sg2_ tp n r.1) = 4 then sb_ (rds_ tp n ei (nxp_ tp n r.1) r.2.1) fun q => Sum.inr (q.1, q.2.1, r.2.2 ++ q.2.2 ++ [(3, sg2_ tp n r.1)]) else Sum.inr r
def rdo_ (ei on : Option (Nat → Nat → sp_E)) (p u : Nat) : sp_E := if nt_ tp n p = true then (match on with
    | none => Sum.inl (2, p)
    | some f => sb_ (f (nxp_ tp n p) u) fun r => Sum.inr (r.1, r.2.1, r.2.2 ++ [(2, 0)])) else rdr_ tp n ei p u
def rdb_ (on : Nat → Nat → sp_E) : Nat → Nat → sp_E := rdx_ tp n on 2
def rde_ (on : Nat → Nat → sp_E) : Nat → Nat → sp_E := rdx_ tp n (rdb_ tp n on) 1
/-- one and either, m more may stand open -/
def rdl_ : Nat → (Nat → Nat → sp_E) × (Nat → Nat → sp_E)
  | 0 => (rdo_ tp n none none, rde_ tp n (rdo_ tp n none none))
  | m + 1 => (rdo_ tp n (some (rdl_ m).2) (some (rdl_ m).1), rde_ tp n (rdo_ tp n (some (rdl_ m).2) (some (rdl_ m).1)))
end RD
section CZ
theorem ti_le (x : Int) : 1 ≤ ti_ x ∧ ti_ x ≤ 6 := ti_bd x
theorem czl_tr (t t' : Nat) (h : t ≤ t') : ∀ os, czl_ (t : Nat) os = czl_ (t : Nat) (czl_ (t' : Nat) os) ∧ cel_ (t : Nat) os = cel_ (t' : Nat) os ++ cel_ (t : Nat) (czl_ (t' : Nat) os)
  | [] => ⟨rfl, rfl⟩
  | x :: r => by
    have ih := czl_tr t t' h r
    by_cases q : x = 20 ∨ (ti_ x : Int) < (t' : Nat)
    · have e1 : czl_ (t' : Nat) (x :: r) = x :: r := if_pos q
      have e2 : cel_ (t' : Nat) (x :: r) = [] := if_pos q
      rw [e1, e2]
      exact ⟨rfl, rfl⟩
    · have q2 : ¬ (x = 20 ∨ (ti_ x : Int) < (t : Nat)) := by
        rintro (w | w)
        · exact q (Or.inl w)
        · exact q (Or.inr (by omega))
      have e1 : czl_ (t' : Nat) (x :: r) = czl_ (t' : Nat) r := if_neg q
      have e2 : cel_ (t' : Nat) (x :: r) = (if x = 21 then ((2 : Int), (0 : Int)) else (3, x)) :: cel_ (t' : Nat) r := if_neg q
      have e3 : czl_ (t : Nat) (x :: r) = czl_ (t : Nat) r := if_neg q2
      have e4 : cel_ (t : Nat) (x :: r) = (if x = 21 then ((2 : Int), (0 : Int)) else (3, x)) :: cel_ (t : Nat) r := if_neg q2
      rw [e1, e2, e3, e4, ih.2]
      exact ⟨ih.1, rfl⟩
theorem cel_nil {t : Int} : ∀ {os}, czl_ t os = os → cel_ t os = []
  | [], _ => rfl
  | x :: r, h => by
    have := cel_len t (x :: r)
    rw [h] at this
    exact List.length_eq_zero_iff.mp (by omega)
theorem czl_up {t t' : Nat} (h : t ≤ t') {os : List Int} (ho : czl_ (t : Nat) os = os) : czl_ (t' : Nat) os = os := by
  cases os with
  | nil => rfl
  | cons x r =>
    by_cases q : x = 20 ∨ (ti_ x : Int) < (t : Nat)
    · exact if_pos (by rcases q with w | w; exact Or.inl w; exact Or.inr (by omega))
    · have e3 : czl_ (t : Nat) (x :: r) = czl_ (t : Nat) r := if_neg q
      have h2 := congrArg List.length (e3.symm.trans ho)
      have h3 := cel_len (t : Nat) r
      rw [List.length_cons] at h2
      omega
theorem czl_7 (os : List Int) : czl_ (7 : Nat) os = os := by
  cases os with
  | nil => rfl
  | cons x r => exact if_pos (Or.inr (by have := ti_bd x; omega))
/-- a sign on top, closed -/
theorem czl_s {t : Nat} {s : Int} {os : List Int} (hs : s ≠ 20) (ht : t ≤ ti_ s) : czl_ (t : Nat) (s :: os) = czl_ (t : Nat) os ∧ (s ≠ 21 → cel_ (t : Nat) (s :: os) = (3, s) :: cel_ (t : Nat) os) := by
  have q : ¬ (s = 20 ∨ (ti_ s : Int) < (t : Nat)) := by rintro (w | w) <;> omega
  refine ⟨if_neg q, fun h => ?_⟩
  have e : cel_ (t : Nat) (s :: os) = (if s = 21 then ((2 : Int), (0 : Int)) else (3, s)) :: cel_ (t : Nat) os := if_neg q
  rw [e, if_neg h]
theorem czl_o {t : Nat} {s : Int} {os : List Int} (ht : ti_ s < t) : czl_ (t : Nat) (s :: os) = s :: os := if_pos (Or.inr (by omega))
theorem hrll_cz : ∀ os, hrll_ os = hrll_ (czl_ (5 : Nat) os)
  | [] => rfl
  | x :: r => by
    by_cases q : x = 20 ∨ (ti_ x : Int) < (5 : Nat)
    · rw [show czl_ (5 : Nat) (x :: r) = x :: r from if_pos q]
    · rw [show czl_ (5 : Nat) (x :: r) = czl_ (5 : Nat) r from if_neg q, ← hrll_cz r]
      show (if x = 20 then false else if 4 < ti_ x then hrll_ r else _) = _
      rw [if_neg (fun w => q (Or.inl w)), if_pos (by omega)]
theorem hrll_4 {os : List Int} (h : czl_ (4 : Nat) os = os) : hrll_ os = false := by
  cases os with
  | nil => rfl
  | cons x r =>
    show (if x = 20 then false else if 4 < ti_ x then hrll_ r else decide (ti_ x = 4)) = false
    by_cases q : x = 20 ∨ (ti_ x : Int) < (4 : Nat)
    · by_cases w : x = 20
      · rw [if_pos w]
      · rw [if_neg w, if_neg (by omega)]
        exact decide_eq_false (by omega)
    · have e3 : czl_ (4 : Nat) (x :: r) = czl_ (4 : Nat) r := if_neg q
      have h2 := congrArg List.length (e3.symm.trans h)
      have h3 := cel_len (4 : Nat) r
      rw [List.length_cons] at h2
      omega
theorem mnl_4 {os : List Int} (h : mnl_ os = true) : czl_ (4 : Nat) os = os := by
  cases os with
  | nil => rfl
  | cons x r =>
    have h2 : x = 20 ∨ ti_ x < 4 := of_decide_eq_true h
    exact if_pos (by rcases h2 with w | w; exact Or.inl w; exact Or.inr (by omega))
theorem mnl_3 {os : List Int} (h : czl_ (3 : Nat) os = os) : mnl_ os = true := by
  cases os with
  | nil => rfl
  | cons x r =>
    by_cases q : x = 20 ∨ (ti_ x : Int) < (3 : Nat)
    · exact decide_eq_true (by rcases q with w | w; exact Or.inl w; exact Or.inr (by omega))
    · have e3 : czl_ (3 : Nat) (x :: r) = czl_ (3 : Nat) r := if_neg q
      have h2 := congrArg List.length (e3.symm.trans h)
      have h3 := cel_len (3 : Nat) r
      rw [List.length_cons] at h2
      omega
theorem czl_01 : ∀ os, czl_ 0 os = czl_ (1 : Nat) os ∧ cel_ 0 os = cel_ (1 : Nat) os
  | [] => ⟨rfl, rfl⟩
  | x :: r => by
    have ih := czl_01 r
    have h := ti_bd x
    by_cases q : x = 20
    · exact ⟨(if_pos (Or.inl q)).trans (if_pos (Or.inl q)).symm, (if_pos (Or.inl q)).trans (if_pos (Or.inl q)).symm⟩
    · have a : ¬ (x = 20 ∨ (ti_ x : Int) < 0) := by rintro (w | w) <;> omega
      have b : ¬ (x = 20 ∨ (ti_ x : Int) < (1 : Nat)) := by rintro (w | w) <;> omega
      rw [show czl_ 0 (x :: r) = czl_ 0 r from if_neg a, show czl_ (1 : Nat) (x :: r) = czl_ (1 : Nat) r from if_neg b, show cel_ 0 (x :: r) = _ :: cel_ 0 r from if_neg a, show cel_ (1 : Nat) (x :: r) = _ :: cel_ (1 : Nat) r from if_neg b, ih.1, ih.2]
      exact ⟨rfl, rfl⟩
theorem hbl_cz (t : Int) : ∀ os, hbl_ (czl_ t os) = hbl_ os
  | [] => rfl
  | x :: r => by
    by_cases q : x = 20 ∨ (ti_ x : Int) < t
    · rw [show czl_ t (x :: r) = x :: r from if_pos q]
    · rw [show czl_ t (x :: r) = czl_ t r from if_neg q, hbl_cz t r]
      show hbl_ r = (hbl_ r || decide (x = 20))
      rw [decide_eq_false (fun w => q (Or.inl w)), Bool.or_false]
theorem sg_3 (so w : Int) (h : sgh_ so w ≠ 0) : ti_ (sgh_ so w) ≠ 3 := by
  revert h
  unfold sgh_
  split
  · intro _; decide
  · split
    · intro _; decide
    · split
      · next q => rcases q with q | q | q | q | q | q | q | q <;> rw [q] <;> intro _ <;> decide
      · intro h; exact absurd rfl h
theorem sg_41 {so w : Int} (h : so = 41) : sgh_ so w = 0 := by
  subst h
  unfold sgh_
  simp
theorem czl_nots (j : Nat) (os : List Int) : czl_ (3 : Nat) (List.replicate j 21 ++ os) = czl_ (3 : Nat) os ∧ cel_ (3 : Nat) (List.replicate j 21 ++ os) = List.replicate j ((2 : Int), (0 : Int)) ++ cel_ (3 : Nat) os := by
  induction j with
  | zero => exact ⟨rfl, rfl⟩
  | succ j ih =>
    have q : ¬ ((21 : Int) = 20 ∨ (ti_ 21 : Int) < (3 : Nat)) := by decide
    rw [List.replicate_succ, List.replicate_succ]
    exact ⟨(if_neg q).trans ih.1, (show cel_ (3 : Nat) (21 :: (List.replicate j 21 ++ os)) = (2, 0) :: cel_ (3 : Nat) (List.replicate j 21 ++ os) from (if_neg q).trans rfl).trans (by rw [ih.2]; rfl)⟩
end CZ
/-- shift and reduce from where a unit is due -/
def EU_ (tp : Nat → Int) (n k p : Nat) (os : List Int) (u : Nat) (st : List (Int × Int)) : sp_M := sb_ (un_ tp n (7 - dpl_ os) p os u) fun r => ml_x tp n k r.1 r.2.1 r.2.2.1 (st ++ [r.2.2.2])
def stp_ (tp : Nat → Int) (n t p : Nat) (os : List Int) : Prop := sg2_ tp n p = 0 ∨ ti_ (sg2_ tp n p) < t ∨ (ti_ (sg2_ tp n p) = 4 ∧ hrll_ os = true)
/-- what a level's reading comes to in shift and reduce -/
def LV_ (tp : Nat → Int) (n t : Nat) (X : Nat → Nat → sp_E) (m : Nat) : Prop := ∀ k p os u st, p ≤ n → n < p + k → dpl_ os + m = 7 → czl_ (t : Nat) os = os → (4 ≤ t → nt_ tp n p = true → mnl_ os = false) → u ≤ 30 →
  (∀ e, X p u = Sum.inl e → EU_ tp n k p os u st = Sum.inl e) ∧
  ∀ p' u' s, X p u = Sum.inr (p', u', s) → ∃ k' os' st', EU_ tp n k p os u st = ml_x tp n k' p' os' u' st' ∧ p < p' ∧ p' ≤ n ∧ n < p' + k' ∧ u < u' ∧ u' ≤ 30 ∧ czl_ (t : Nat) os' = os ∧ st' ++ cel_ (t : Nat) os' = st ++ s ∧ stp_ tp n t p' os'
theorem sb_in {A B : Type} {r : Sum (Int × Nat) A} {f : A → Sum (Int × Nat) B} {b : B} (h : sb_ r f = Sum.inr b) : ∃ a, r = Sum.inr a ∧ f a = Sum.inr b := by
  cases r with
  | inl e => cases h
  | inr a => exact ⟨a, rfl, h⟩
theorem sb_il {A B : Type} {r : Sum (Int × Nat) A} {f : A → Sum (Int × Nat) B} {e : Int × Nat} (h : sb_ r f = Sum.inl e) : r = Sum.inl e ∨ ∃ a, r = Sum.inr a ∧ f a = Sum.inl e := by
  cases r with
  | inl e' => exact Or.inl (by injection h with h; rw [h])
  | inr a => exact Or.inr ⟨a, rfl, h⟩
/-- a sign that may be pushed: shift and reduce goes on so -/
theorem ml_s {tp : Nat → Int} {n k p : Nat} {os : List Int} {u : Nat} {st : List (Int × Int)} (hs : sg2_ tp n p ≠ 0) (hr : ¬ (ti_ (sg2_ tp n p) = 4 ∧ hrll_ os = true)) : ml_x tp n (k + 1) p os u st = EU_ tp n k (nxp_ tp n p) (sg2_ tp n p :: czl_ (ti_ (sg2_ tp n p) : Nat) os) u (st ++ cel_ (ti_ (sg2_ tp n p) : Nat) os) := by
  have h20 := sg_ne (tks_ tp n p) (tkw_ tp n p)
  have hd : dpl_ (sg2_ tp n p :: czl_ (ti_ (sg2_ tp n p) : Nat) os) = dpl_ (czl_ (ti_ (sg2_ tp n p) : Nat) os) := by
    show dpl_ _ + (if _ then 1 else 0) = _
    rw [if_neg (by rintro (q | q); exact h20.1 q; exact h20.2 q)]
    rfl
  rw [ml_x, if_neg (fun q => hs (sg_41 q.1)), if_pos ⟨hs, hr⟩]
  unfold EU_
  rw [hd]
theorem lv_loop {tp : Nat → Int} {n t : Nat} {X : Nat → Nat → sp_E} {m : Nat} (h : LV_ tp n (t + 1) X m) (ht4 : t ≠ 4) (ht1 : 1 ≤ t) (ht3 : t ≠ 3) (ht6 : t ≤ 6) : LV_ tp n t (rdx_ tp n X t) m := by
  intro k p os u st hp hk hd hc hn hu
  have key : ∀ j k' p' os' u' st' s, 31 ≤ u' + j → u' ≤ 30 → p' ≤ n → n < p' + k' → p < p' → u < u' → czl_ (t : Nat) os' = os → st' ++ cel_ (t : Nat) os' = st ++ s → stp_ tp n (t + 1) p' os' →
      (∀ e, lp_ tp n X t j p' u' s = Sum.inl e → ml_x tp n k' p' os' u' st' = Sum.inl e) ∧
      ∀ p2 u2 s2, lp_ tp n X t j p' u' s = Sum.inr (p2, u2, s2) → ∃ k3 os3 st3, ml_x tp n k' p' os' u' st' = ml_x tp n k3 p2 os3 u2 st3 ∧ p < p2 ∧ p2 ≤ n ∧ n < p2 + k3 ∧ u < u2 ∧ u2 ≤ 30 ∧ czl_ (t : Nat) os3 = os ∧ st3 ++ cel_ (t : Nat) os3 = st ++ s2 ∧ stp_ tp n t p2 os3 := by
    intro j
    induction j with
    | zero => intro k' p' os' u' st' s h1 h2; omega
    | succ j ih =>
      intro k' p' os' u' st' s h1 h2 h3 h4 h5 h6 h7 h8 h9
      by_cases q : sg2_ tp n p' ≠ 0 ∧ ti_ (sg2_ tp n p') = t
      · obtain ⟨k2, rfl⟩ : ∃ x, k' = x + 1 := ⟨k' - 1, by omega⟩
        have h20 : sg2_ tp n p' ≠ 20 ∧ sg2_ tp n p' ≠ 21 := sg_ne _ _
        have htk := sg_tk q.1
        have hlt := nxp_lt h3 htk.1 htk.2
        have hle := (nxp_le (tp := tp) h3).2
        have hm : ml_x tp n (k2 + 1) p' os' u' st' = EU_ tp n k2 (nxp_ tp n p') (sg2_ tp n p' :: os) u' (st ++ s) := by
          rw [ml_s q.1 (by omega), q.2, h7, h8]
        have hds : dpl_ (sg2_ tp n p' :: os) = dpl_ os := by
          show dpl_ _ + (if _ then 1 else 0) = _
          rw [if_neg (by rintro (w | w); exact h20.1 w; exact h20.2 w)]
          rfl
        have H := h k2 (nxp_ tp n p') (sg2_ tp n p' :: os) u' (st ++ s) hle (by omega) (by rw [hds]; exact hd) (czl_o (by omega)) (fun w _ => decide_eq_false (by rintro (v | v); exact h20.1 v; omega)) h2
        have hl : lp_ tp n X t (j + 1) p' u' s = sb_ (X (nxp_ tp n p') u') fun r => lp_ tp n X t j r.1 r.2.1 (s ++ r.2.2 ++ [(3, sg2_ tp n p')]) := if_pos q
        rw [hl, hm]
        cases hX : X (nxp_ tp n p') u' with
        | inl e' =>
          refine ⟨fun e he => ?_, fun p2 u2 s2 he => ?_⟩
          · injection he with he
            rw [← he]
            exact H.1 e' hX
          · cases he
        | inr r =>
          obtain ⟨p2, u2, s2⟩ := r
          obtain ⟨k4, os4, st4, e1, e2, e3, e4, e5, e6, e7, e8, e9⟩ := H.2 p2 u2 s2 hX
          have f1 := czl_tr t (t + 1) (by omega) os4
          have f2 := czl_s (t := t) (os := os) h20.1 (by omega : t ≤ ti_ (sg2_ tp n p'))
          have f3 := cel_nil hc
          rw [e7] at f1
          have g1 : czl_ (t : Nat) os4 = os := by rw [f1.1, f2.1, hc]
          have g2 : st4 ++ cel_ (t : Nat) os4 = st ++ (s ++ s2 ++ [(3, sg2_ tp n p')]) := by
            rw [f1.2, f2.2 h20.2, f3, ← List.append_assoc, e8]
            simp only [List.append_assoc]
          rw [e1]
          exact ih k4 p2 os4 u2 st4 _ (by omega) e6 e3 e4 (by omega) (by omega) g1 g2 e9
      · have hl : lp_ tp n X t (j + 1) p' u' s = Sum.inr (p', u', s) := if_neg q
        rw [hl]
        refine ⟨fun e he => (by cases he), fun p2 u2 s2 he => ?_⟩
        injection he with he
        injection he with he1 he
        injection he with he2 he3
        subst he1 he2 he3
        refine ⟨k', os', st', rfl, h5, h3, h4, h6, h2, h7, h8, ?_⟩
        rcases h9 with w | w | w
        · exact Or.inl w
        · by_cases v : sg2_ tp n p' = 0
          · exact Or.inl v
          · exact Or.inr (Or.inl (by
              have : ti_ (sg2_ tp n p') ≠ t := fun z => q ⟨v, z⟩
              omega))
        · exact Or.inr (Or.inr w)
  have H := h k p os u st hp hk hd (czl_up (by omega) hc) (fun w => hn (by omega)) hu
  unfold rdx_
  cases hX : X p u with
  | inl e' =>
    refine ⟨fun e he => ?_, fun p2 u2 s2 he => by cases he⟩
    injection he with he
    rw [← he]
    exact H.1 e' hX
  | inr r =>
    obtain ⟨p2, u2, s2⟩ := r
    obtain ⟨k4, os4, st4, e1, e2, e3, e4, e5, e6, e7, e8, e9⟩ := H.2 p2 u2 s2 hX
    have f1 := czl_tr t (t + 1) (by omega) os4
    rw [e7] at f1
    rw [e1]
    exact key 30 k4 p2 os4 u2 st4 s2 (by omega) e6 e3 e4 e2 e5 (by rw [f1.1, hc]) (by rw [f1.2, cel_nil hc, List.append_nil, e8]) e9
theorem lv_rel {tp : Nat → Int} {n m : Nat} {ei : Option (Nat → Nat → sp_E)} (h : LV_ tp n 5 (rds_ tp n ei) m) : LV_ tp n 4 (rdr_ tp n ei) m := by
  intro k p os u st hp hk hd hc hn hu
  have H := h k p os u st hp hk hd (czl_up (by omega) hc) (fun _ => hn (by omega)) hu
  unfold rdr_
  cases hX : rds_ tp n ei p u with
  | inl e' =>
    refine ⟨fun e he => ?_, fun p2 u2 s2 he => by cases he⟩
    injection he with he
    rw [← he]
    exact H.1 e' hX
  | inr r =>
    obtain ⟨p', u', s⟩ := r
    obtain ⟨k', os', st', e1, e2, e3, e4, e5, e6, e7, e8, e9⟩ := H.2 p' u' s hX
    have f1 := czl_tr 4 5 (by omega) os'
    rw [e7] at f1
    have g1 : czl_ (4 : Nat) os' = os := by rw [f1.1, hc]
    have g2 : st' ++ cel_ (4 : Nat) os' = st ++ s := by rw [f1.2, cel_nil hc, List.append_nil, e8]
    rw [e1]
    show (∀ e, (if sg2_ tp n p' ≠ 0 ∧ ti_ (sg2_ tp n p') = 4 then sb_ (rds_ tp n ei (nxp_ tp n p') u') fun q => Sum.inr (q.1, q.2.1, s ++ q.2.2 ++ [(3, sg2_ tp n p')]) else Sum.inr (p', u', s)) = Sum.inl e → _) ∧ ∀ p2 u2 s2, (if sg2_ tp n p' ≠ 0 ∧ ti_ (sg2_ tp n p') = 4 then sb_ (rds_ tp n ei (nxp_ tp n p') u') fun q => Sum.inr (q.1, q.2.1, s ++ q.2.2 ++ [(3, sg2_ tp n p')]) else Sum.inr (p', u', s)) = Sum.inr (p2, u2, s2) → _
    by_cases q : sg2_ tp n p' ≠ 0 ∧ ti_ (sg2_ tp n p') = 4
    · rw [if_pos q]
      obtain ⟨k2, rfl⟩ : ∃ x, k' = x + 1 := ⟨k' - 1, by omega⟩
      have h20 : sg2_ tp n p' ≠ 20 ∧ sg2_ tp n p' ≠ 21 := sg_ne _ _
      have htk := sg_tk q.1
      have hlt := nxp_lt e3 htk.1 htk.2
      have hle := (nxp_le (tp := tp) e3).2
      have hr : hrll_ os' = false := by rw [hrll_cz, e7]; exact hrll_4 hc
      have hm : ml_x tp n (k2 + 1) p' os' u' st' = EU_ tp n k2 (nxp_ tp n p') (sg2_ tp n p' :: os) u' (st ++ s) := by
        rw [ml_s q.1 (fun w => by rw [hr] at w; cases w.2), q.2, g1, g2]
      have hds : dpl_ (sg2_ tp n p' :: os) = dpl_ os := by
        show dpl_ _ + (if _ then 1 else 0) = _
        rw [if_neg (by rintro (w | w); exact h20.1 w; exact h20.2 w)]
        rfl
      have H2 := h k2 (nxp_ tp n p') (sg2_ tp n p' :: os) u' (st ++ s) hle (by omega) (by rw [hds]; exact hd) (czl_o (by omega)) (fun w _ => decide_eq_false (by rintro (v | v); exact h20.1 v; omega)) e6
      rw [hm]
      cases hY : rds_ tp n ei (nxp_ tp n p') u' with
      | inl e' =>
        refine ⟨fun e he => ?_, fun p2 u2 s2 he => by cases he⟩
        injection he with he
        rw [← he]
        exact H2.1 e' hY
      | inr r =>
        obtain ⟨p2, u2, s2⟩ := r
        obtain ⟨k4, os4, st4, d1, d2, d3, d4, d5, d6, d7, d8, d9⟩ := H2.2 p2 u2 s2 hY
        refine ⟨fun e he => (by cases he), fun p3 u3 s3 he => ?_⟩
        injection he with he
        injection he with he1 he
        injection he with he2 he3
        dsimp only at he1 he2 he3
        subst he1 he2 he3
        have f1 := czl_tr 4 5 (by omega) os4
        have f2 := czl_s (t := 4) (os := os) h20.1 (by omega : 4 ≤ ti_ (sg2_ tp n p'))
        rw [d7] at f1
        refine ⟨k4, os4, st4, d1, by omega, d3, d4, by omega, d6, by rw [f1.1, f2.1, hc], ?_, ?_⟩
        · rw [f1.2, f2.2 h20.2, cel_nil hc, ← List.append_assoc, d8]
          simp only [List.append_assoc]
        · have hh : hrll_ os4 = true := by
            rw [hrll_cz, d7]
            show (if sg2_ tp n p' = 20 then false else if 4 < ti_ (sg2_ tp n p') then hrll_ os else decide (ti_ (sg2_ tp n p') = 4)) = true
            rw [if_neg h20.1, if_neg (by omega)]
            exact decide_eq_true q.2
          rcases d9 with w | w | w
          · exact Or.inl w
          · by_cases v : ti_ (sg2_ tp n p2) = 4
            · exact Or.inr (Or.inr ⟨v, hh⟩)
            · exact Or.inr (Or.inl (by omega))
          · exact Or.inr (Or.inr w)
    · rw [if_neg q]
      refine ⟨fun e he => (by cases he), fun p3 u3 s3 he => ?_⟩
      injection he with he
      injection he with he1 he
      injection he with he2 he3
      subst he1 he2 he3
      refine ⟨k', os', st', rfl, e2, e3, e4, e5, e6, g1, g2, ?_⟩
      rcases e9 with w | w | w
      · exact Or.inl w
      · by_cases v : sg2_ tp n p' = 0
        · exact Or.inl v
        · exact Or.inr (Or.inl (by
            have : ti_ (sg2_ tp n p') ≠ 4 := fun z => q ⟨v, z⟩
            omega))
      · exact Or.inr (Or.inr w)
/-- units and brackets -/
theorem lv_unit {tp : Nat → Int} {n m : Nat} {ei : Option (Nat → Nat → sp_E)} (he : (m = 0 ∧ ei = none) ∨ ∃ m' f, m = m' + 1 ∧ ei = some f ∧ LV_ tp n 1 f m') : LV_ tp n 7 (rdu_ tp n ei) m := by
  intro k p os u st hp hk hd hc hn hu
  have hm : 7 - dpl_ os = m := by omega
  have hnn : ¬ ((nt_ tp n p && mnl_ os) = true) := by
    intro q
    rw [Bool.and_eq_true] at q
    rw [hn (by omega) q.1] at q
    cases q.2
  unfold EU_ rdu_
  rw [hm]
  by_cases h40 : tks_ tp n p = 40
  · rw [if_pos h40]
    have hlt := nxp_lt hp (by omega) (by omega : tks_ tp n p ≠ 3)
    have hle := (nxp_le (tp := tp) hp).2
    rcases he with ⟨rfl, rfl⟩ | ⟨m', f, rfl, rfl, hf⟩
    · refine ⟨fun e h => ?_, fun p' u' s h => by cases h⟩
      rw [← h]
      refine sb_l ?_
      unfold un_
      rw [if_neg hnn, if_pos h40]
    · by_cases hu30 : u = 30
      · refine ⟨fun e h => ?_, fun p' u' s h => ?_⟩
        · have h : (if u = 30 then (Sum.inl (2, p) : sp_E) else _) = _ := h
          rw [if_pos hu30] at h
          injection h with h
          rw [← h]
          refine sb_l ?_
          unfold un_
          rw [if_neg hnn, if_pos h40, if_pos hu30]
        · have h : (if u = 30 then (Sum.inl (2, p) : sp_E) else _) = _ := h
          rw [if_pos hu30] at h
          cases h
      · have hst : un_ tp n (m' + 1) p os u = un_ tp n m' (nxp_ tp n p) (20 :: os) (u + 1) := by
          rw [un_, if_neg hnn, if_pos h40, if_neg hu30]
        have hE : (sb_ (un_ tp n (m' + 1) p os u) fun r => ml_x tp n k r.1 r.2.1 r.2.2.1 (st ++ [r.2.2.2])) = EU_ tp n k (nxp_ tp n p) (20 :: os) (u + 1) st := by
          unfold EU_
          rw [hst, show 7 - dpl_ (20 :: os) = m' by show 7 - (dpl_ os + 1) = m'; omega]
        have H := hf k (nxp_ tp n p) (20 :: os) (u + 1) st hle (by omega) (by show dpl_ os + 1 + m' = 7; omega) (if_pos (Or.inl rfl)) (fun w => by omega) (by omega)
        rw [hE]
        dsimp only
        rw [if_neg hu30]
        cases hX : f (nxp_ tp n p) (u + 1) with
        | inl e' =>
          refine ⟨fun e h => ?_, fun p' u' s h => by cases h⟩
          injection h with h
          rw [← h]
          exact H.1 e' hX
        | inr r =>
          obtain ⟨p', u', s⟩ := r
          obtain ⟨k', os', st', e1, e2, e3, e4, e5, e6, e7, e8, e9⟩ := H.2 p' u' s hX
          obtain ⟨k2, rfl⟩ : ∃ x, k' = x + 1 := ⟨k' - 1, by omega⟩
          have hb : hbl_ os' = true := by
            rw [← hbl_cz (1 : Nat) os', e7]
            show (hbl_ os || decide ((20 : Int) = 20)) = true
            simp
          have h01 := czl_01 os'
          rw [e1]
          show (∀ e, (if tks_ tp n p' = 41 then (Sum.inr (nxp_ tp n p', u', s) : sp_E) else Sum.inl (2, p')) = Sum.inl e → _) ∧ ∀ p2 u2 s2, (if tks_ tp n p' = 41 then (Sum.inr (nxp_ tp n p', u', s) : sp_E) else Sum.inl (2, p')) = Sum.inr (p2, u2, s2) → _
          by_cases h41 : tks_ tp n p' = 41
          · rw [if_pos h41]
            have hlt2 := nxp_lt e3 (by omega) (by omega : tks_ tp n p' ≠ 3)
            have hle2 := (nxp_le (tp := tp) e3).2
            refine ⟨fun e h => (by cases h), fun p2 u2 s2 h => ?_⟩
            injection h with h
            injection h with h1 h
            injection h with h2 h3
            subst h1 h2 h3
            refine ⟨k2, os, st' ++ cel_ (1 : Nat) os', ?_, by omega, hle2, by omega, by omega, e6, czl_7 os, ?_, ?_⟩
            · rw [ml_x, if_pos ⟨h41, hb⟩, h01.1, h01.2, e7]
              rfl
            · rw [e8, cel_nil (czl_7 os), List.append_nil]
            · by_cases v : sg2_ tp n (nxp_ tp n p') = 0
              · exact Or.inl v
              · exact Or.inr (Or.inl (by have := ti_bd (sg2_ tp n (nxp_ tp n p')); omega))
          · rw [if_neg h41]
            refine ⟨fun e h => ?_, fun p2 u2 s2 h => (by cases h)⟩
            injection h with h
            rw [← h, ml_x, if_neg (fun w => h41 w.1), if_neg ?_, if_pos hb]
            rintro ⟨w1, w2⟩
            rcases e9 with v | v | v
            · exact w1 v
            · have := ti_bd (sg2_ tp n p'); omega
            · exact w2 v
  · rw [if_neg h40]
    by_cases hb : (tks_ tp n p ≠ 2 ∧ as2_ tp n p < 0) ∨ u = 30
    · rw [if_pos hb]
      refine ⟨fun e h => ?_, fun p' u' s h => by cases h⟩
      injection h with h
      rw [← h]
      refine sb_l ?_
      cases m <;> unfold un_ <;> rw [if_neg hnn, if_neg h40, if_pos hb]
    · rw [if_neg hb]
      refine ⟨fun e h => (by cases h), fun p' u' s h => ?_⟩
      injection h with h
      injection h with h1 h
      injection h with h2 h3
      subst h1 h2 h3
      have hun : un_ tp n m p os u = Sum.inr (nxp_ tp n p, os, u + 1, sp1_ tp n p) := by
        cases m <;> unfold un_ <;> rw [if_neg hnn, if_neg h40, if_neg hb]
      have hk3 : tks_ tp n p ≠ 0 ∧ tks_ tp n p ≠ 3 := by
        by_cases w : tks_ tp n p = 2
        · omega
        · have : 0 ≤ as2_ tp n p := by
            by_cases v : as2_ tp n p < 0
            · exact absurd (Or.inl ⟨w, v⟩) hb
            · omega
          have h1 : tks_ tp n p = 1 := by
            by_cases v : tks_ tp n p = 1
            · exact v
            · unfold as2_ as_ at this
              rw [if_pos v] at this
              omega
          omega
      have hlt := nxp_lt hp hk3.1 hk3.2
      have hle := (nxp_le (tp := tp) hp).2
      rw [sb_r hun]
      refine ⟨k, os, st ++ [sp1_ tp n p], rfl, hlt, hle, by omega, by omega, by omega, czl_7 os, by rw [cel_nil (czl_7 os), List.append_nil], ?_⟩
      by_cases v : sg2_ tp n (nxp_ tp n p) = 0
      · exact Or.inl v
      · exact Or.inr (Or.inl (by have := ti_bd (sg2_ tp n (nxp_ tp n p)); omega))
/-- one: what stands open of its own when it is read -/
def LO3_ (tp : Nat → Int) (n : Nat) (X : Nat → Nat → sp_E) (m : Nat) : Prop := ∀ k p os u st, p ≤ n → n < p + k → dpl_ os + m = 7 → mnl_ os = true → u ≤ 30 →
  (∀ e, X p u = Sum.inl e → EU_ tp n k p os u st = Sum.inl e) ∧
  ∀ p' u' s, X p u = Sum.inr (p', u', s) → ∃ k' os' st' j s0, EU_ tp n k p os u st = ml_x tp n k' p' os' u' st' ∧ p < p' ∧ p' ≤ n ∧ n < p' + k' ∧ u < u' ∧ u' ≤ 30 ∧ czl_ (4 : Nat) os' = List.replicate j 21 ++ os ∧ st' ++ cel_ (4 : Nat) os' = st ++ s0 ∧ s = s0 ++ List.replicate j ((2 : Int), (0 : Int)) ∧ stp_ tp n 4 p' os'
theorem lv_one {tp : Nat → Int} {n m : Nat} {ei on : Option (Nat → Nat → sp_E)} (hr : LV_ tp n 4 (rdr_ tp n ei) m) (ho : (m = 0 ∧ on = none) ∨ ∃ m' f, m = m' + 1 ∧ on = some f ∧ LO3_ tp n f m') : LO3_ tp n (rdo_ tp n ei on) m := by
  intro k p os u st hp hk hd hmn hu
  unfold rdo_
  by_cases hnt : nt_ tp n p = true
  · rw [if_pos hnt]
    have hb : (nt_ tp n p && mnl_ os) = true := by rw [hnt, hmn]; rfl
    have hk1 : tks_ tp n p = 1 := (of_decide_eq_true hnt).1
    have hlt := nxp_lt hp (by omega) (by omega : tks_ tp n p ≠ 3)
    have hle := (nxp_le (tp := tp) hp).2
    rcases ho with ⟨rfl, rfl⟩ | ⟨m', f, rfl, rfl, hf⟩
    · refine ⟨fun e h => ?_, fun p' u' s h => by cases h⟩
      rw [← h]
      unfold EU_
      refine sb_l ?_
      rw [show 7 - dpl_ os = 0 by omega]
      unfold un_
      rw [if_pos hb]
    · have hE : EU_ tp n k p os u st = EU_ tp n k (nxp_ tp n p) (21 :: os) u st := by
        unfold EU_
        rw [show 7 - dpl_ os = m' + 1 by omega, show 7 - dpl_ (21 :: os) = m' by show 7 - (dpl_ os + 1) = m'; omega, un_, if_pos hb]
      have H := hf k (nxp_ tp n p) (21 :: os) u st hle (by omega) (by show dpl_ os + 1 + m' = 7; omega) (show decide ((21 : Int) = 20 ∨ ti_ 21 < 4) = true by decide) hu
      rw [hE]
      dsimp only
      cases hX : f (nxp_ tp n p) u with
      | inl e' =>
        refine ⟨fun e h => ?_, fun p' u' s h => by cases h⟩
        injection h with h
        rw [← h]
        exact H.1 e' hX
      | inr r =>
        obtain ⟨p', u', s⟩ := r
        obtain ⟨k', os', st', j, s0, e1, e2, e3, e4, e5, e6, e7, e8, e9, e10⟩ := H.2 p' u' s hX
        refine ⟨fun e h => (by cases h), fun p2 u2 s2 h => ?_⟩
        injection h with h
        injection h with h1 h
        injection h with h2 h3
        dsimp only at h1 h2 h3
        subst h1 h2 h3
        refine ⟨k', os', st', j + 1, s0, e1, by omega, e3, e4, e5, e6, ?_, e8, ?_, e10⟩
        · rw [e7, List.replicate_succ', List.append_assoc]
          rfl
        · rw [e9, List.replicate_succ', List.append_assoc]
  · rw [if_neg hnt]
    have H := hr k p os u st hp hk hd (mnl_4 hmn) (fun _ w => absurd w hnt) hu
    refine ⟨H.1, fun p' u' s h => ?_⟩
    obtain ⟨k', os', st', e1, e2, e3, e4, e5, e6, e7, e8, e9⟩ := H.2 p' u' s h
    exact ⟨k', os', st', 0, s, e1, e2, e3, e4, e5, e6, e7, e8, (List.append_nil _).symm, e9⟩
theorem lv_three {tp : Nat → Int} {n m : Nat} {X : Nat → Nat → sp_E} (h : LO3_ tp n X m) : LV_ tp n 3 X m := by
  intro k p os u st hp hk hd hc hn hu
  have H := h k p os u st hp hk hd (mnl_3 hc) hu
  refine ⟨H.1, fun p' u' s hX => ?_⟩
  obtain ⟨k', os', st', j, s0, e1, e2, e3, e4, e5, e6, e7, e8, e9, e10⟩ := H.2 p' u' s hX
  have f1 := czl_tr 3 4 (by omega) os'
  have f2 := czl_nots j os
  rw [e7] at f1
  refine ⟨k', os', st', e1, e2, e3, e4, e5, e6, by rw [f1.1, f2.1, hc], ?_, ?_⟩
  · rw [f1.2, f2.2, cel_nil hc, List.append_nil, ← List.append_assoc, e8, e9, List.append_assoc]
  · rcases e10 with w | w | w
    · exact Or.inl w
    · by_cases v : sg2_ tp n p' = 0
      · exact Or.inl v
      · exact Or.inr (Or.inl (by have := sg_3 _ _ v; have : ti_ (sg2_ tp n p') ≠ 3 := this; omega))
    · exact Or.inr (Or.inr w)
theorem lv_all (tp : Nat → Int) (n : Nat) : ∀ m, LO3_ tp n (rdl_ tp n m).1 m ∧ LV_ tp n 1 (rdl_ tp n m).2 m := by
  have step : ∀ m ei on, ((m = 0 ∧ ei = none) ∨ ∃ m' f, m = m' + 1 ∧ ei = some f ∧ LV_ tp n 1 f m') → ((m = 0 ∧ on = none) ∨ ∃ m' f, m = m' + 1 ∧ on = some f ∧ LO3_ tp n f m') → LO3_ tp n (rdo_ tp n ei on) m ∧ LV_ tp n 1 (rde_ tp n (rdo_ tp n ei on)) m := by
    intro m ei on h1 h2
    have a7 := lv_unit h1
    have a6 : LV_ tp n 6 (rdt_ tp n ei) m := lv_loop a7 (by omega) (by omega) (by omega) (by omega)
    have a5 : LV_ tp n 5 (rds_ tp n ei) m := lv_loop a6 (by omega) (by omega) (by omega) (by omega)
    have a4 := lv_rel a5
    have a3 := lv_one a4 h2
    have a2 : LV_ tp n 2 (rdb_ tp n (rdo_ tp n ei on)) m := lv_loop (lv_three a3) (by omega) (by omega) (by omega) (by omega)
    exact ⟨a3, lv_loop a2 (by omega) (by omega) (by omega) (by omega)⟩
  intro m
  induction m with
  | zero => exact step 0 none none (Or.inl ⟨rfl, rfl⟩) (Or.inl ⟨rfl, rfl⟩)
  | succ m ih => exact step (m + 1) _ _ (Or.inr ⟨m, _, rfl, rfl, ih.2⟩) (Or.inr ⟨m, _, rfl, rfl, ih.1⟩)
/-- shift and reduce reads what the grammar, read from above, does -/
theorem tea_eq (tp : Nat → Int) {n p : Nat} (hp : p ≤ n) : tea_ tp n p = (rdl_ tp n 7).2 (nxp_ tp n p) 0 := by
  have hle := (nxp_le (tp := tp) hp).2
  have H := (lv_all tp n 7).2 (n + 1) (nxp_ tp n p) [] 0 [] hle (by omega) rfl rfl (fun w => by omega) (by omega)
  have hE : tea_ tp n p = EU_ tp n (n + 1) (nxp_ tp n p) [] 0 [] := rfl
  rw [hE]
  cases hX : (rdl_ tp n 7).2 (nxp_ tp n p) 0 with
  | inl e => exact H.1 e hX
  | inr r =>
    obtain ⟨p', u', s⟩ := r
    obtain ⟨k', os', st', e1, e2, e3, e4, e5, e6, e7, e8, e9⟩ := H.2 p' u' s hX
    obtain ⟨k2, rfl⟩ : ∃ x, k' = x + 1 := ⟨k' - 1, by omega⟩
    have hb : hbl_ os' = false := by rw [← hbl_cz (1 : Nat) os', e7]; rfl
    rw [e1, ml_x, if_neg (fun w => by rw [hb] at w; cases w.2), if_neg ?_, if_neg (by rw [hb]; decide), (czl_01 os').2, e8]
    · rfl
    · rintro ⟨w1, w2⟩
      rcases e9 with v | v | v
      · exact w1 v
      · have := ti_bd (sg2_ tp n p'); omega
      · exact w2 v
