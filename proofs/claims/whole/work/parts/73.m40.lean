/-! the formula's reading: shift and reduce, on the list of what stands open -/
def ol_ (g : Nat → Int) : Nat → List Int
  | 0 => []
  | n + 1 => g n :: ol_ g n
def mnl_ : List Int → Bool
  | [] => true
  | x :: _ => decide (x = 20 ∨ ti_ x < 4)
def hrll_ : List Int → Bool
  | [] => false
  | x :: r => if x = 20 then false else if 4 < ti_ x then hrll_ r else decide (ti_ x = 4)
def hbl_ : List Int → Bool
  | [] => false
  | x :: r => hbl_ r || decide (x = 20)
def czl_ (t : Int) : List Int → List Int
  | [] => []
  | x :: r => if x = 20 ∨ (ti_ x : Int) < t then x :: r else czl_ t r
def cel_ (t : Int) : List Int → List (Int × Int)
  | [] => []
  | x :: r => if x = 20 ∨ (ti_ x : Int) < t then [] else (if x = 21 then ((2 : Int), (0 : Int)) else (3, x)) :: cel_ t r
def dpl_ : List Int → Nat
  | [] => 0
  | x :: r => dpl_ r + (if x = 20 ∨ x = 21 then 1 else 0)
theorem ol_len (g : Nat → Int) : ∀ n, (ol_ g n).length = n
  | 0 => rfl
  | n + 1 => by show (ol_ g n).length + 1 = _; rw [ol_len g n]
theorem ol_up (g : Nat → Int) (c : Nat) (x : Int) : ∀ n, n ≤ c → ol_ (am_up g c x) n = ol_ g n
  | 0, _ => rfl
  | n + 1, h => by
    show am_up g c x n :: _ = _
    rw [am_up_ne (by omega), ol_up g c x n (by omega)]
    rfl
theorem ol_pu (g : Nat → Int) (c : Nat) (x : Int) : ol_ (am_up g c x) (c + 1) = x :: ol_ g c := by
  show am_up g c x c :: _ = _
  rw [am_up_same, ol_up g c x c (Nat.le_refl _)]
theorem mn_ol (g : Nat → Int) (c : Nat) : mn_ g c = mnl_ (ol_ g c) := by
  cases c with
  | zero => rfl
  | succ c =>
    show decide _ = decide _
    rw [Nat.add_sub_cancel]
    simp
theorem hrl_ol (g : Nat → Int) : ∀ c, hrl_ g c = hrll_ (ol_ g c)
  | 0 => rfl
  | c + 1 => by
    show (if g c = 20 then false else if 4 < ti_ (g c) then hrl_ g c else _) = (if g c = 20 then false else if 4 < ti_ (g c) then hrll_ (ol_ g c) else _)
    rw [hrl_ol g c]
theorem hb_ol (g : Nat → Int) : ∀ c, an_ c (fun k => decide (g k = 20)) = hbl_ (ol_ g c)
  | 0 => rfl
  | c + 1 => by
    show (an_ c (fun k => decide (g k = 20)) || decide (g c = 20)) = (hbl_ (ol_ g c) || decide (g c = 20))
    rw [hb_ol g c]
theorem cz_ol (g : Nat → Int) (t : Int) : ∀ c, ol_ g (cz_ g t c) = czl_ t (ol_ g c) ∧ cz_ g t c ≤ c
  | 0 => ⟨rfl, Nat.le_refl _⟩
  | c + 1 => by
    have ih := cz_ol g t c
    show ol_ g (if g c = 20 ∨ (ti_ (g c) : Int) < t then c + 1 else cz_ g t c) = (if g c = 20 ∨ (ti_ (g c) : Int) < t then g c :: ol_ g c else czl_ t (ol_ g c)) ∧ (if g c = 20 ∨ (ti_ (g c) : Int) < t then c + 1 else cz_ g t c) ≤ c + 1
    split
    · exact ⟨rfl, Nat.le_refl _⟩
    · exact ⟨ih.1, by omega⟩
theorem ce_ol (g : Nat → Int) (t : Int) : ∀ c, ce_ g t c = cel_ t (ol_ g c)
  | 0 => rfl
  | c + 1 => by
    show (if g c = 20 ∨ (ti_ (g c) : Int) < t then [] else (if g c = 21 then ((2 : Int), (0 : Int)) else (3, g c)) :: ce_ g t c) = (if g c = 20 ∨ (ti_ (g c) : Int) < t then [] else (if g c = 21 then ((2 : Int), (0 : Int)) else (3, g c)) :: cel_ t (ol_ g c))
    rw [ce_ol g t c]
theorem cq_ol (g : Nat → Int) (t : Int) : ∀ c, dpl_ (czl_ t (ol_ g c)) + cq_ g t c = dpl_ (ol_ g c)
  | 0 => rfl
  | c + 1 => by
    have ih := cq_ol g t c
    show dpl_ (if g c = 20 ∨ (ti_ (g c) : Int) < t then g c :: ol_ g c else czl_ t (ol_ g c)) + (if g c = 20 ∨ (ti_ (g c) : Int) < t then 0 else (if g c = 21 then 1 else 0) + cq_ g t c) = dpl_ (ol_ g c) + (if g c = 20 ∨ g c = 21 then 1 else 0)
    by_cases h : g c = 20 ∨ (ti_ (g c) : Int) < t
    · rw [if_pos h, if_pos h]; rfl
    · rw [if_neg h, if_neg h]
      have h2 : ¬ g c = 20 := fun q => h (Or.inl q)
      by_cases h3 : g c = 21
      · rw [if_pos h3, if_pos (Or.inr h3)]; omega
      · rw [if_neg h3, if_neg (by rintro (q | q) <;> omega)]; omega
theorem cel_len (t : Int) : ∀ os, (cel_ t os).length + (czl_ t os).length = os.length
  | [] => rfl
  | x :: r => by
    have ih := cel_len t r
    unfold cel_ czl_
    split
    · simp
    · simp only [List.length_cons]; omega
theorem czl_dp (t : Int) : ∀ os, dpl_ (czl_ t os) ≤ dpl_ os ∧ (czl_ t os).length + dpl_ os ≤ os.length + dpl_ (czl_ t os)
  | [] => ⟨Nat.le_refl _, Nat.le_refl _⟩
  | x :: r => by
    have ih := czl_dp t r
    unfold czl_
    split
    · exact ⟨Nat.le_refl _, Nat.le_refl _⟩
    · have e : dpl_ (x :: r) = dpl_ r + (if x = 20 ∨ x = 21 then 1 else 0) := rfl
      rw [e]
      simp only [List.length_cons]
      split <;> omega
/-- behind a bracket's closing: a bracket on top -/
theorem czl_br : ∀ os, hbl_ os = true → ∃ r, czl_ 0 os = 20 :: r
  | [], h => by cases h
  | x :: r, h => by
    unfold czl_
    by_cases q : x = 20
    · rw [if_pos (Or.inl q), q]; exact ⟨_, rfl⟩
    · have := ti_bd x
      rw [if_neg (by rintro (h | h) <;> omega)]
      refine czl_br r ?_
      unfold hbl_ at h
      rw [decide_eq_false q, Bool.or_false] at h
      exact h
def nt_ (tp : Nat → Int) (n p : Nat) : Bool := decide (tks_ tp n p = 1 ∧ tkw_ tp n p = 7237492)
def as2_ (tp : Nat → Int) (n p : Nat) : Int := as_ (tks_ tp n p) (tkw_ tp n p)
def sg2_ (tp : Nat → Int) (n p : Nat) : Int := sgh_ (tks_ tp n p) (tkw_ tp n p)
def sp1_ (tp : Nat → Int) (n p : Nat) : Int × Int := (if as2_ tp n p < 0 then 0 else 1, if as2_ tp n p < 0 then tkn_ tp n p else as2_ tp n p)
abbrev sp_U : Type := Sum (Int × Nat) (Nat × List Int × Nat × (Int × Int))
/-- a unit, with what opens ahead of it; m: how many more may stand open -/
def un_ (tp : Nat → Int) (n : Nat) : Nat → Nat → List Int → Nat → sp_U
  | 0, p, os, u => if nt_ tp n p && mnl_ os then Sum.inl (2, p) else if tks_ tp n p = 40 then Sum.inl (2, p) else if (tks_ tp n p ≠ 2 ∧ as2_ tp n p < 0) ∨ u = 30 then Sum.inl (2, p) else Sum.inr (nxp_ tp n p, os, u + 1, sp1_ tp n p)
  | m + 1, p, os, u => if nt_ tp n p && mnl_ os then un_ tp n m (nxp_ tp n p) (21 :: os) u else if tks_ tp n p = 40 then (if u = 30 then Sum.inl (2, p) else un_ tp n m (nxp_ tp n p) (20 :: os) (u + 1)) else if (tks_ tp n p ≠ 2 ∧ as2_ tp n p < 0) ∨ u = 30 then Sum.inl (2, p) else Sum.inr (nxp_ tp n p, os, u + 1, sp1_ tp n p)
abbrev sp_M : Type := Sum (Int × Nat) (Nat × Nat × List (Int × Int))
def ml_x (tp : Nat → Int) (n : Nat) : Nat → Nat → List Int → Nat → List (Int × Int) → sp_M
  | 0, p, _, _, _ => Sum.inl (2, p)
  | k + 1, p, os, u, st => if tks_ tp n p = 41 ∧ hbl_ os = true then ml_x tp n k (nxp_ tp n p) (czl_ 0 os).tail u (st ++ cel_ 0 os) else if sg2_ tp n p ≠ 0 ∧ ¬ (ti_ (sg2_ tp n p) = 4 ∧ hrll_ os = true) then sb_ (un_ tp n (7 - dpl_ (czl_ (ti_ (sg2_ tp n p)) os)) (nxp_ tp n p) (sg2_ tp n p :: czl_ (ti_ (sg2_ tp n p)) os) u) fun r => ml_x tp n k r.1 r.2.1 r.2.2.1 (st ++ cel_ (ti_ (sg2_ tp n p)) os ++ [r.2.2.2]) else if hbl_ os = true then Sum.inl (2, p) else Sum.inr (p, u, st ++ cel_ 0 os)
def tea_ (tp : Nat → Int) (n p : Nat) : sp_M := sb_ (un_ tp n 7 (nxp_ tp n p) [] 0) fun r => ml_x tp n (n + 1) r.1 r.2.1 r.2.2.1 ([] ++ [r.2.2.2])
def tq_ (D : sp_T) (u : Nat) (st : List (Int × Int)) : sp_T := du_ (du_ (am_up (am_up D 138 (pe_ (D 138) 0 (st.map (·.1)))) 139 (pe_ (D 139) 0 (st.map (·.2)))) 135 17 ((st.length : Nat) : Int)) 135 20 ((u : Nat) : Int)
def TE_ (tp : Nat → Int) (n : Nat) (D : sp_T) (p : Nat) (os : List Int) (u : Nat) (st : List (Int × Int)) (σ : am_S) : Prop := PS_ tp n p σ ∧ σ.1 135 2 = 0 ∧ σ.1 135 19 = ((os.length : Nat) : Int) ∧ ol_ (σ.1 142) os.length = os ∧ σ.1 135 23 = ((dpl_ os : Nat) : Int) ∧ σ.1 135 22 = ((u : Nat) : Int) ∧ RS_ (tq_ D u st) σ
def AI_ (os : List Int) (u : Nat) (st : List (Int × Int)) : Prop := dpl_ os ≤ 7 ∧ u ≤ 30 ∧ os.length + 1 ≤ dpl_ os + u ∧ st.length + os.length + 1 ≤ 10 * u
theorem pe_app (f : Nat → Int) : ∀ (l l' : List Int) (s : Nat), pe_ f s (l ++ l') = pe_ (pe_ f s l) (s + l.length) l' := by
  intro l
  induction l generalizing f with
  | nil => intro l' s; rfl
  | cons x l ih =>
    intro l' s
    show pe_ (am_up f s x) (s + 1) (l ++ l') = pe_ (pe_ (am_up f s x) (s + 1) l) (s + (l.length + 1)) l'
    rw [ih, show s + 1 + l.length = s + (l.length + 1) by omega]
theorem RS_.fr {D : sp_T} {σ σ' : am_S} {A F : List Nat} (h : RS_ D σ) (hf : fp_ A F [] σ σ') (hA : ∀ a, a ∈ rsA_ → a ∉ A) (hF : ∀ k, k ∈ rsF_ → k ∉ F) : RS_ D σ' :=
  ⟨fun a ha => (hf.1 a (hA a ha) (fun q => by rw [q] at ha; revert ha; decide)).trans (h.1 a ha), fun k hk => (hf.2.1 k (hF k hk)).trans (h.2.1 k hk), (hf.2.2.1 137 (fun q => by cases q) (by decide)).trans h.2.2⟩
theorem tq_17 (D : sp_T) (u : Nat) (st : List (Int × Int)) : tq_ D u st 135 17 = ((st.length : Nat) : Int) := by
  unfold tq_ du_
  rw [am_up_same, am_up_ne (by decide), am_up_same, am_up_same]
theorem tq_20 (D : sp_T) (u : Nat) (st : List (Int × Int)) : tq_ D u st 135 20 = ((u : Nat) : Int) := by
  unfold tq_ du_
  rw [am_up_same, am_up_same]
theorem tq_138 (D : sp_T) (u : Nat) (st : List (Int × Int)) : tq_ D u st 138 = pe_ (D 138) 0 (st.map (·.1)) := by
  unfold tq_ du_
  rw [am_up_ne (by decide), am_up_ne (by decide), am_up_ne (by decide), am_up_same]
theorem tq_139 (D : sp_T) (u : Nat) (st : List (Int × Int)) : tq_ D u st 139 = pe_ (D 139) 0 (st.map (·.2)) := by
  unfold tq_ du_
  rw [am_up_ne (by decide), am_up_ne (by decide), am_up_same]
theorem tq_a (D : sp_T) (u : Nat) (st : List (Int × Int)) {a : Nat} (h5 : a ≠ 135) (h8 : a ≠ 138) (h9 : a ≠ 139) : tq_ D u st a = D a := by
  unfold tq_ du_
  rw [am_up_ne h5, am_up_ne h5, am_up_ne h9, am_up_ne h8]
theorem tq_f (D : sp_T) (u : Nat) (st : List (Int × Int)) {k : Nat} (h5 : k ≠ 17) (h8 : k ≠ 20) : tq_ D u st 135 k = D 135 k := by
  unfold tq_ du_
  rw [am_up_same, am_up_ne h8, am_up_same, am_up_ne h5, am_up_ne (by decide), am_up_ne (by decide)]
/-- steps added -/
theorem RS_.dt {D : sp_T} {u : Nat} {st l : List (Int × Int)} {σ σ' : am_S} {F : List Nat} (h : RS_ (tq_ D u st) σ) (hf : fp_ [138, 139] F [] σ σ') (hF : ∀ k, k ∈ rsF_ → k ≠ 17 → k ∉ F) (h17 : σ'.1 135 17 = ((st.length + l.length : Nat) : Int)) (h8 : σ'.1 138 = pe_ (σ.1 138) st.length (l.map (·.1))) (h9 : σ'.1 139 = pe_ (σ.1 139) st.length (l.map (·.2))) : RS_ (tq_ D u (st ++ l)) σ' := by
  refine ⟨fun a ha => ?_, fun k hk => ?_, ?_⟩
  · have a5 : a ≠ 135 := fun q => by rw [q] at ha; revert ha; decide
    by_cases q8 : a = 138
    · subst q8
      rw [h8, h.1 138 ha, tq_138, tq_138, List.map_append, pe_app, List.length_map, Nat.zero_add]
    · by_cases q9 : a = 139
      · subst q9
        rw [h9, h.1 139 ha, tq_139, tq_139, List.map_append, pe_app, List.length_map, Nat.zero_add]
      · rw [hf.1 a (by simp [q8, q9]) a5, h.1 a ha, tq_a D u _ a5 q8 q9, tq_a D u _ a5 q8 q9]
  · by_cases q : k = 17
    · subst q; rw [h17, tq_17, List.length_append]
    · rw [hf.2.1 k (hF k hk q), h.2.1 k hk]
      by_cases q2 : k = 20
      · subst q2; rw [tq_20, tq_20]
      · rw [tq_f D u _ q q2, tq_f D u _ q q2]
  · rw [hf.2.2.1 137 (fun q => by cases q) (by decide), h.2.2, tq_a D u _ (by decide) (by decide) (by decide), tq_a D u _ (by decide) (by decide) (by decide)]
theorem RS_.cu {D : sp_T} {u o : Nat} {st : List (Int × Int)} {σ : am_S} (h : RS_ (tq_ D u st) σ) : RS_ (tq_ D (u + 1) st) (cu_ σ u o) := by
  refine ⟨fun a ha => ?_, fun k hk => ?_, ?_⟩
  · have a5 : a ≠ 135 := fun q => by rw [q] at ha; revert ha; decide
    unfold cu_
    rw [sI_ne a5, h.1 a ha]
    unfold tq_ du_
    rw [am_up_ne a5, am_up_ne a5, am_up_ne a5, am_up_ne a5]
  · have k2 : k ≠ 22 := fun q => by rw [q] at hk; revert hk; decide
    unfold cu_
    rw [sI_at, am_up_ne k2]
    by_cases q : k = 20
    · subst q; rw [am_up_same, tq_20]
    · rw [am_up_ne q, h.2.1 k hk]
      by_cases q2 : k = 17
      · subst q2; rw [tq_17, tq_17]
      · rw [tq_f D u _ q2 q, tq_f D _ _ q2 q]
  · show σ.2.1 137 = _
    rw [h.2.2, tq_a D u _ (by decide) (by decide) (by decide), tq_a D _ _ (by decide) (by decide) (by decide)]
theorem fp_cu {A F B : List Nat} {σ σ' : am_S} {u o : Nat} (h : fp_ A F B σ σ') (h1 : 20 ∈ F) (h2 : 22 ∈ F) : fp_ A F B σ (cu_ σ' u o) := by
  have h5 := fp_s5 (z := ((o + 1 : Nat) : Int)) (fp_s5 (z := ((u + 1 : Nat) : Int)) h h1) h2
  rw [sI_at, sI_sI] at h5
  exact h5
theorem wr_f (σ : am_S) (z : Int) {k : Nat} (h2 : k ≠ 2) (h3 : k ≠ 3) : (wr_ σ z).1 135 k = σ.1 135 k := by
  unfold wr_
  rw [sI_at, am_up_ne h3, am_up_ne h2]
theorem cu_f (σ : am_S) (u o : Nat) {k : Nat} (h2 : k ≠ 20) (h3 : k ≠ 22) : (cu_ σ u o).1 135 k = σ.1 135 k := by
  unfold cu_
  rw [sI_at, am_up_ne h3, am_up_ne h2]

theorem l_unit {d : Nat} (hd : 4 ≤ d) {tp : Nat → Int} {n : Nat} {D : sp_T} {st : List (Int × Int)} {Q : Option am_V → am_S → Prop} {σ0 : am_S} : ∀ (m p : Nat) (os : List Int) (u : Nat) (x2 : Option am_V) (σ : am_S), TE_ tp n D p os u st σ → RF_ σ0 σ → dpl_ os + m = 7 → u ≤ 30 → os.length ≤ dpl_ os + u → st.length + os.length + m ≤ 10 * u + 8 →
    (hN : ∀ e, un_ tp n m p os u = Sum.inl e → ∀ σ', RF_ σ0 σ' → 0 < e.1 → FT_ tp n e σ' → Q none σ') →
    (hY : ∀ r, un_ tp n m p os u = Sum.inr r → ∀ σ', RF_ σ0 σ' → TE_ tp n D r.1 r.2.1 r.2.2.1 (st ++ [r.2.2.2]) σ' → AI_ r.2.1 r.2.2.1 (st ++ [r.2.2.2]) → Q none σ') →
    aW d 4 k_X9_unit Q 2 [some (am_R 135), some (am_I 1), x2] [] σ := by
  intro m
  induction m with
  | zero =>
    intro p os u x2 σ hT hf hdm hu30 hol hsl hN hY
    obtain ⟨hP, h02, hc, hos, hdp, hu, hR⟩ := hT
    have h20 : σ.1 135 20 = ((u : Nat) : Int) := (hR.2.1 20 (by decide)).trans (tq_20 _ _ _)
    have h17 : σ.1 135 17 = ((st.length : Nat) : Int) := (hR.2.1 17 (by decide)).trans (tq_17 _ _ _)
    have k6 := hP.1.2.1
    have k8 := hP.1.2.2.2.1
    have k9 := hP.1.2.2.2.2
    refine ax_load (q := 3) rfl rfl rfl rfl rfl ?_
    refine ax_if_eq (q := 6) (x := 101) rfl rfl (fun h => absurd h (by omega)) (fun h3 => ?_)
    refine ax_load (q := 7) rfl rfl rfl rfl rfl ?_
    refine ax_getf (q := 10) (v := am_I 0) rfl rfl (am_fg rfl h02) ?_
    refine ax_if_ne (q := 13) (x := 101) rfl rfl (fun h => absurd h (by omega)) (fun h10 => ?_)
    refine ax_load (q := 14) rfl rfl rfl rfl rfl ?_
    refine ax_const (q := 17) (v := am_J 7237492) rfl rfl rfl ?_
    refine ax_callv (q := 20) rfl rfl rfl rfl rfl rfl ?_
    refine m_isWord (by omega) ?_
    rw [k6, k9]
    show aW d 4 k_X9_unit Q 20 _ [am_I (if nt_ tp n p then 1 else 0)] σ
    refine ax_if_eq (q := 23) (x := 53) rfl rfl (fun h20b => ?_) (fun h20b => ?_)
    · have hnn : ¬ (nt_ tp n p = true ∧ mnl_ os = true) := fun q => by rw [it_0 h20b] at q; cases q.1
      refine ax_load (q := 54) rfl rfl rfl rfl rfl ?_
      refine ax_getf (q := 57) (v := am_I (tks_ tp n p)) rfl rfl (am_fg rfl k6) ?_
      refine ax_const (q := 59) (v := am_I 40) rfl rfl rfl ?_
      refine ax_icmp_ne (q := 62) (x := 96) rfl rfl (fun h59b => ?_) (fun h59b => ?_)
      · refine ax_const (q := 97) (v := am_I 0) rfl rfl rfl ?_
        refine ax_store (q := 98) (L' := [some (am_R 135), some (am_I 0), x2]) rfl rfl rfl rfl rfl rfl ?_
        refine ax_goto (x := 2) rfl ?_
        refine ax_load (q := 3) rfl rfl rfl rfl rfl ?_
        refine ax_if_eq (q := 6) (x := 101) rfl rfl (fun h3 => ?_) (fun h => absurd h (by omega))
        refine ax_load (q := 102) rfl rfl rfl rfl rfl ?_
        refine ax_getf (q := 105) (v := am_I 0) rfl rfl (am_fg rfl h02) ?_
        refine ax_if_le (q := 108) (x := 109) rfl rfl (fun h105 => ?_) (fun h => absurd h (by omega))
        refine ax_load (q := 110) rfl rfl rfl rfl rfl ?_
        refine ax_callv (q := 113) rfl rfl rfl rfl rfl rfl ?_
        refine m_asked (by omega) ?_
        rw [k6, k9]
        show aW d 4 k_X9_unit Q 113 _ [am_I (as2_ tp n p)] σ
        refine ax_store (q := 114) (L' := [some (am_R 135), some (am_I 0), some (am_I (as2_ tp n p))]) rfl rfl rfl rfl rfl rfl ?_
        refine ax_load (q := 115) rfl rfl rfl rfl rfl ?_
        refine ax_getf (q := 118) (v := am_I (tks_ tp n p)) rfl rfl (am_fg rfl k6) ?_
        refine ax_const (q := 119) (v := am_I 2) rfl rfl rfl ?_
        refine ax_icmp_eq (q := 122) (x := 126) rfl rfl (fun h119 => ?_) (fun h119 => ?_)
        · refine ax_load (q := 127) rfl rfl rfl rfl rfl ?_
          refine ax_callv (q := 130) rfl rfl rfl rfl rfl rfl ?_
          refine m_isFull (by omega) ?_
          rw [h20, hu]
          rw [show decide (((u : Nat) : Int) = 60 ∨ ((u : Nat) : Int) = 30) = decide (u = 30) from decide_eq_decide.mpr ⟨fun q => by omega, fun q => by omega⟩]
          refine ax_if_eq (q := 133) (x := 138) rfl rfl (fun h130 => ?_) (fun h130 => ?_)
          · have hf130 : ¬ u = 30 := of_decide_eq_false (it_0 h130)
            refine ax_load (q := 139) rfl rfl rfl rfl rfl ?_
            refine ax_getf (q := 142) (v := am_I 0) rfl rfl (am_fg rfl h02) ?_
            refine ax_if_le (q := 145) (x := 146) rfl rfl (fun h142 => ?_) (fun h => absurd h (by omega))
            refine ax_load (q := 147) rfl rfl rfl rfl rfl ?_
            refine ax_callv (q := 150) rfl rfl rfl rfl rfl rfl ?_
            refine m_countUnit (by omega) h20 hu (by omega) (by omega) ?_
            have hPc : PS_ tp n p (cu_ σ u u) := by unfold cu_; rw [← sI_at σ 135 (am_up (σ.1 135) 20 ((u + 1 : Nat) : Int)), ← sI_sI]; exact PS_s5 (PS_s5 hP (by decide)) (by decide)
            have hfc : RF_ σ0 (cu_ σ u u) := fp_cu hf (by decide) (by decide)
            have hRc := RS_.cu (o := u) hR
            have c02 : (cu_ σ u u).1 135 2 = 0 := (cu_f σ u u (by decide) (by decide)).trans h02
            have c19 : (cu_ σ u u).1 135 19 = _ := (cu_f σ u u (by decide) (by decide)).trans hc
            have c23 : (cu_ σ u u).1 135 23 = _ := (cu_f σ u u (by decide) (by decide)).trans hdp
            have c22 : (cu_ σ u u).1 135 22 = ((u + 1 : Nat) : Int) := by unfold cu_; rw [sI_at, am_up_same]
            refine ax_load (q := 151) rfl rfl rfl rfl rfl ?_
            refine ax_load (q := 152) rfl rfl rfl rfl rfl ?_
            refine ax_if_ge (q := 155) (x := 159) rfl rfl (fun h152 => ?_) (fun h152 => ?_)
            · refine ax_const (q := 160) (v := am_I 1) rfl rfl rfl ?_
              refine ax_load (q := 161) rfl rfl rfl rfl rfl ?_
              refine ax_if_ge (q := 164) (x := 171) rfl rfl (fun h161 => ?_) (fun h161 => ?_)
              · refine ax_load (q := 172) rfl rfl rfl rfl rfl ?_
                refine ax_callv (q := 175) rfl rfl rfl rfl rfl rfl ?_
                have hres : un_ tp n 0 p os u = Sum.inr (nxp_ tp n p, os, u + 1, sp1_ tp n p) := by unfold un_; rw [if_neg (by simpa using hnn), if_neg h59b, if_neg (by omega)]
                refine m_add (by omega) (s := st.length) ((hRc.2.1 17 (by decide)).trans (tq_17 _ _ _)) (by omega) ?_
                refine ax_load (q := 176) rfl rfl rfl rfl rfl ?_
                refine ax_callv (q := 179) rfl rfl rfl rfl rfl rfl ?_
                have hfa : fp_ [138, 139] [17] [] (cu_ σ u u) (ad_ (cu_ σ u u) st.length 1 (as2_ tp n p)) := fp_ad (fp_rf _ _ _ _) (by decide) (by decide) (by decide)
                have hRa : RS_ (tq_ D (u + 1) (st ++ [sp1_ tp n p])) (ad_ (cu_ σ u u) st.length 1 (as2_ tp n p)) := by
                  refine RS_.dt hRc hfa (by decide) rfl ?_ ?_
                  · show _ = am_up ((cu_ σ u u).1 138) st.length (sp1_ tp n p).1
                    unfold sp1_; dsimp only; rw [if_neg (by omega)]; rfl
                  · show _ = am_up ((cu_ σ u u).1 139) st.length (sp1_ tp n p).2
                    unfold sp1_; dsimp only; rw [if_neg (by omega)]; rfl
                have hPa : PS_ tp n p (ad_ (cu_ σ u u) st.length 1 (as2_ tp n p)) := PS_s5 (PS_sI (PS_sI hPc (by decide) (by decide)) (by decide) (by decide)) (by decide)
                refine m_tokenN (by omega) hPa (fun σ4 hk4 hP4 => ?_)
                refine ax_ret (r := none) rfl rfl ?_
                refine hY (nxp_ tp n p, os, u + 1, sp1_ tp n p) hres σ4 (RF_.tr (RF_.tr hfc hfa (by decide) (by decide) (by decide)) hk4 (by decide) (by decide) (by decide)) ⟨hP4, ?_, ?_, ?_, ?_, ?_, RS_.tok hRa hk4 (by decide)⟩ ⟨by dsimp only; omega, by dsimp only; omega, by dsimp only; omega, by dsimp only; rw [List.length_append]; show _ + 1 + _ + 1 ≤ _; omega⟩
                · rw [hk4.2.1 2 (by decide), hfa.2.1 2 (by decide)]; exact c02
                · rw [hk4.2.1 19 (by decide), hfa.2.1 19 (by decide)]; exact c19
                · rw [hk4.1 142 (by decide) (by decide), hfa.1 142 (by decide) (by decide)]; exact hos
                · rw [hk4.2.1 23 (by decide), hfa.2.1 23 (by decide)]; exact c23
                · rw [hk4.2.1 22 (by decide), hfa.2.1 22 (by decide)]; exact c22
              · refine ax_load (q := 165) rfl rfl rfl rfl rfl ?_
                refine ax_getf (q := 168) (v := am_I (tkn_ tp n p)) rfl rfl (am_fg rfl ((cu_f σ u u (by decide) (by decide)).trans k8)) ?_
                refine ax_goto (x := 172) rfl ?_
                refine ax_callv (q := 175) rfl rfl rfl rfl rfl rfl ?_
                exfalso; omega
            · refine ax_const (q := 156) (v := am_I 0) rfl rfl rfl ?_
              refine ax_goto (x := 160) rfl ?_
              refine ax_load (q := 161) rfl rfl rfl rfl rfl ?_
              refine ax_if_ge (q := 164) (x := 171) rfl rfl (fun h161 => ?_) (fun h161 => ?_)
              · refine ax_load (q := 172) rfl rfl rfl rfl rfl ?_
                refine ax_callv (q := 175) rfl rfl rfl rfl rfl rfl ?_
                exfalso; omega
              · refine ax_load (q := 165) rfl rfl rfl rfl rfl ?_
                refine ax_getf (q := 168) (v := am_I (tkn_ tp n p)) rfl rfl (am_fg rfl ((cu_f σ u u (by decide) (by decide)).trans k8)) ?_
                refine ax_goto (x := 172) rfl ?_
                refine ax_callv (q := 175) rfl rfl rfl rfl rfl rfl ?_
                have hres : un_ tp n 0 p os u = Sum.inr (nxp_ tp n p, os, u + 1, sp1_ tp n p) := by unfold un_; rw [if_neg (by simpa using hnn), if_neg h59b, if_neg (by omega)]
                refine m_add (by omega) (s := st.length) ((hRc.2.1 17 (by decide)).trans (tq_17 _ _ _)) (by omega) ?_
                refine ax_load (q := 176) rfl rfl rfl rfl rfl ?_
                refine ax_callv (q := 179) rfl rfl rfl rfl rfl rfl ?_
                have hfa : fp_ [138, 139] [17] [] (cu_ σ u u) (ad_ (cu_ σ u u) st.length 0 (tkn_ tp n p)) := fp_ad (fp_rf _ _ _ _) (by decide) (by decide) (by decide)
                have hRa : RS_ (tq_ D (u + 1) (st ++ [sp1_ tp n p])) (ad_ (cu_ σ u u) st.length 0 (tkn_ tp n p)) := by
                  refine RS_.dt hRc hfa (by decide) rfl ?_ ?_
                  · show _ = am_up ((cu_ σ u u).1 138) st.length (sp1_ tp n p).1
                    unfold sp1_; dsimp only; rw [if_pos (by omega)]; rfl
                  · show _ = am_up ((cu_ σ u u).1 139) st.length (sp1_ tp n p).2
                    unfold sp1_; dsimp only; rw [if_pos (by omega)]; rfl
                have hPa : PS_ tp n p (ad_ (cu_ σ u u) st.length 0 (tkn_ tp n p)) := PS_s5 (PS_sI (PS_sI hPc (by decide) (by decide)) (by decide) (by decide)) (by decide)
                refine m_tokenN (by omega) hPa (fun σ4 hk4 hP4 => ?_)
                refine ax_ret (r := none) rfl rfl ?_
                refine hY (nxp_ tp n p, os, u + 1, sp1_ tp n p) hres σ4 (RF_.tr (RF_.tr hfc hfa (by decide) (by decide) (by decide)) hk4 (by decide) (by decide) (by decide)) ⟨hP4, ?_, ?_, ?_, ?_, ?_, RS_.tok hRa hk4 (by decide)⟩ ⟨by dsimp only; omega, by dsimp only; omega, by dsimp only; omega, by dsimp only; rw [List.length_append]; show _ + 1 + _ + 1 ≤ _; omega⟩
                · rw [hk4.2.1 2 (by decide), hfa.2.1 2 (by decide)]; exact c02
                · rw [hk4.2.1 19 (by decide), hfa.2.1 19 (by decide)]; exact c19
                · rw [hk4.1 142 (by decide) (by decide), hfa.1 142 (by decide) (by decide)]; exact hos
                · rw [hk4.2.1 23 (by decide), hfa.2.1 23 (by decide)]; exact c23
                · rw [hk4.2.1 22 (by decide), hfa.2.1 22 (by decide)]; exact c22
          · have hf130 : u = 30 := of_decide_eq_true (it_n0 h130)
            refine ax_load (q := 134) rfl rfl rfl rfl rfl ?_
            refine ax_const (q := 135) (v := am_I 2) rfl rfl rfl ?_
            refine ax_callv (q := 138) rfl rfl rfl rfl rfl rfl ?_
            refine m_wrong (by omega) ?_
            rw [if_neg (by rw [h02]; decide)]
            obtain ⟨x1, hx1⟩ : ∃ s, s = wr_ σ 2 := ⟨_, rfl⟩
            rw [← hx1]
            have hbad : 0 < x1.1 135 2 := by rw [hx1]; exact wr_2 σ (by decide)
            have hfx : RF_ σ0 x1 := by rw [hx1]; exact fp_wr hf (by decide) (by decide)
            have hF : FT_ tp n (2, p) x1 := by rw [hx1]; exact FT_wr hP 2
            have h0 : (0 : Int) < 2 := by decide
            have g19 : x1.1 135 19 = ((os.length : Nat) : Int) := by rw [hx1]; exact (wr_f σ 2 (by decide) (by decide)).trans hc
            have g23 : x1.1 135 23 = ((dpl_ os : Nat) : Int) := by rw [hx1]; exact (wr_f σ 2 (by decide) (by decide)).trans hdp
            have g20 : x1.1 135 20 = ((u : Nat) : Int) := by rw [hx1]; exact (wr_f σ 2 (by decide) (by decide)).trans h20
            have g22 : x1.1 135 22 = ((u : Nat) : Int) := by rw [hx1]; exact (wr_f σ 2 (by decide) (by decide)).trans hu
            have hres : un_ tp n 0 p os u = Sum.inl (2, p) := by unfold un_; rw [if_neg (by simpa using hnn), if_neg h59b, if_pos (by omega)]
            refine ax_load (q := 139) rfl rfl rfl rfl rfl ?_
            refine ax_getf (q := 142) (v := am_I (x1.1 135 2)) rfl rfl (rfl) ?_
            refine ax_if_le (q := 145) (x := 146) rfl rfl (fun h => absurd h (by omega)) (fun h142 => ?_)
            refine ax_ret (r := none) rfl rfl ?_
            exact hN (2, p) hres _ hfx h0 hF
        · refine ax_load (q := 123) rfl rfl rfl rfl rfl ?_
          refine ax_if_lt (q := 126) (x := 133) rfl rfl (fun h123 => ?_) (fun h123 => ?_)
          · refine ax_load (q := 134) rfl rfl rfl rfl rfl ?_
            refine ax_const (q := 135) (v := am_I 2) rfl rfl rfl ?_
            refine ax_callv (q := 138) rfl rfl rfl rfl rfl rfl ?_
            refine m_wrong (by omega) ?_
            rw [if_neg (by rw [h02]; decide)]
            obtain ⟨x1, hx1⟩ : ∃ s, s = wr_ σ 2 := ⟨_, rfl⟩
            rw [← hx1]
            have hbad : 0 < x1.1 135 2 := by rw [hx1]; exact wr_2 σ (by decide)
            have hfx : RF_ σ0 x1 := by rw [hx1]; exact fp_wr hf (by decide) (by decide)
            have hF : FT_ tp n (2, p) x1 := by rw [hx1]; exact FT_wr hP 2
            have h0 : (0 : Int) < 2 := by decide
            have g19 : x1.1 135 19 = ((os.length : Nat) : Int) := by rw [hx1]; exact (wr_f σ 2 (by decide) (by decide)).trans hc
            have g23 : x1.1 135 23 = ((dpl_ os : Nat) : Int) := by rw [hx1]; exact (wr_f σ 2 (by decide) (by decide)).trans hdp
            have g20 : x1.1 135 20 = ((u : Nat) : Int) := by rw [hx1]; exact (wr_f σ 2 (by decide) (by decide)).trans h20
            have g22 : x1.1 135 22 = ((u : Nat) : Int) := by rw [hx1]; exact (wr_f σ 2 (by decide) (by decide)).trans hu
            have hres : un_ tp n 0 p os u = Sum.inl (2, p) := by unfold un_; rw [if_neg (by simpa using hnn), if_neg h59b, if_pos (by omega)]
            refine ax_load (q := 139) rfl rfl rfl rfl rfl ?_
            refine ax_getf (q := 142) (v := am_I (x1.1 135 2)) rfl rfl (rfl) ?_
            refine ax_if_le (q := 145) (x := 146) rfl rfl (fun h => absurd h (by omega)) (fun h142 => ?_)
            refine ax_ret (r := none) rfl rfl ?_
            exact hN (2, p) hres _ hfx h0 hF
          · refine ax_load (q := 127) rfl rfl rfl rfl rfl ?_
            refine ax_callv (q := 130) rfl rfl rfl rfl rfl rfl ?_
            refine m_isFull (by omega) ?_
            rw [h20, hu]
            rw [show decide (((u : Nat) : Int) = 60 ∨ ((u : Nat) : Int) = 30) = decide (u = 30) from decide_eq_decide.mpr ⟨fun q => by omega, fun q => by omega⟩]
            refine ax_if_eq (q := 133) (x := 138) rfl rfl (fun h130 => ?_) (fun h130 => ?_)
            · have hf130 : ¬ u = 30 := of_decide_eq_false (it_0 h130)
              refine ax_load (q := 139) rfl rfl rfl rfl rfl ?_
              refine ax_getf (q := 142) (v := am_I 0) rfl rfl (am_fg rfl h02) ?_
              refine ax_if_le (q := 145) (x := 146) rfl rfl (fun h142 => ?_) (fun h => absurd h (by omega))
              refine ax_load (q := 147) rfl rfl rfl rfl rfl ?_
              refine ax_callv (q := 150) rfl rfl rfl rfl rfl rfl ?_
              refine m_countUnit (by omega) h20 hu (by omega) (by omega) ?_
              have hPc : PS_ tp n p (cu_ σ u u) := by unfold cu_; rw [← sI_at σ 135 (am_up (σ.1 135) 20 ((u + 1 : Nat) : Int)), ← sI_sI]; exact PS_s5 (PS_s5 hP (by decide)) (by decide)
              have hfc : RF_ σ0 (cu_ σ u u) := fp_cu hf (by decide) (by decide)
              have hRc := RS_.cu (o := u) hR
              have c02 : (cu_ σ u u).1 135 2 = 0 := (cu_f σ u u (by decide) (by decide)).trans h02
              have c19 : (cu_ σ u u).1 135 19 = _ := (cu_f σ u u (by decide) (by decide)).trans hc
              have c23 : (cu_ σ u u).1 135 23 = _ := (cu_f σ u u (by decide) (by decide)).trans hdp
              have c22 : (cu_ σ u u).1 135 22 = ((u + 1 : Nat) : Int) := by unfold cu_; rw [sI_at, am_up_same]
              refine ax_load (q := 151) rfl rfl rfl rfl rfl ?_
              refine ax_load (q := 152) rfl rfl rfl rfl rfl ?_
              refine ax_if_ge (q := 155) (x := 159) rfl rfl (fun h152 => ?_) (fun h152 => ?_)
              · refine ax_const (q := 160) (v := am_I 1) rfl rfl rfl ?_
                refine ax_load (q := 161) rfl rfl rfl rfl rfl ?_
                refine ax_if_ge (q := 164) (x := 171) rfl rfl (fun h161 => ?_) (fun h161 => ?_)
                · refine ax_load (q := 172) rfl rfl rfl rfl rfl ?_
                  refine ax_callv (q := 175) rfl rfl rfl rfl rfl rfl ?_
                  have hres : un_ tp n 0 p os u = Sum.inr (nxp_ tp n p, os, u + 1, sp1_ tp n p) := by unfold un_; rw [if_neg (by simpa using hnn), if_neg h59b, if_neg (by omega)]
                  refine m_add (by omega) (s := st.length) ((hRc.2.1 17 (by decide)).trans (tq_17 _ _ _)) (by omega) ?_
                  refine ax_load (q := 176) rfl rfl rfl rfl rfl ?_
                  refine ax_callv (q := 179) rfl rfl rfl rfl rfl rfl ?_
                  have hfa : fp_ [138, 139] [17] [] (cu_ σ u u) (ad_ (cu_ σ u u) st.length 1 (as2_ tp n p)) := fp_ad (fp_rf _ _ _ _) (by decide) (by decide) (by decide)
                  have hRa : RS_ (tq_ D (u + 1) (st ++ [sp1_ tp n p])) (ad_ (cu_ σ u u) st.length 1 (as2_ tp n p)) := by
                    refine RS_.dt hRc hfa (by decide) rfl ?_ ?_
                    · show _ = am_up ((cu_ σ u u).1 138) st.length (sp1_ tp n p).1
                      unfold sp1_; dsimp only; rw [if_neg (by omega)]; rfl
                    · show _ = am_up ((cu_ σ u u).1 139) st.length (sp1_ tp n p).2
                      unfold sp1_; dsimp only; rw [if_neg (by omega)]; rfl
                  have hPa : PS_ tp n p (ad_ (cu_ σ u u) st.length 1 (as2_ tp n p)) := PS_s5 (PS_sI (PS_sI hPc (by decide) (by decide)) (by decide) (by decide)) (by decide)
                  refine m_tokenN (by omega) hPa (fun σ4 hk4 hP4 => ?_)
                  refine ax_ret (r := none) rfl rfl ?_
                  refine hY (nxp_ tp n p, os, u + 1, sp1_ tp n p) hres σ4 (RF_.tr (RF_.tr hfc hfa (by decide) (by decide) (by decide)) hk4 (by decide) (by decide) (by decide)) ⟨hP4, ?_, ?_, ?_, ?_, ?_, RS_.tok hRa hk4 (by decide)⟩ ⟨by dsimp only; omega, by dsimp only; omega, by dsimp only; omega, by dsimp only; rw [List.length_append]; show _ + 1 + _ + 1 ≤ _; omega⟩
                  · rw [hk4.2.1 2 (by decide), hfa.2.1 2 (by decide)]; exact c02
                  · rw [hk4.2.1 19 (by decide), hfa.2.1 19 (by decide)]; exact c19
                  · rw [hk4.1 142 (by decide) (by decide), hfa.1 142 (by decide) (by decide)]; exact hos
                  · rw [hk4.2.1 23 (by decide), hfa.2.1 23 (by decide)]; exact c23
                  · rw [hk4.2.1 22 (by decide), hfa.2.1 22 (by decide)]; exact c22
                · refine ax_load (q := 165) rfl rfl rfl rfl rfl ?_
                  refine ax_getf (q := 168) (v := am_I (tkn_ tp n p)) rfl rfl (am_fg rfl ((cu_f σ u u (by decide) (by decide)).trans k8)) ?_
                  refine ax_goto (x := 172) rfl ?_
                  refine ax_callv (q := 175) rfl rfl rfl rfl rfl rfl ?_
                  exfalso; omega
              · refine ax_const (q := 156) (v := am_I 0) rfl rfl rfl ?_
                refine ax_goto (x := 160) rfl ?_
                refine ax_load (q := 161) rfl rfl rfl rfl rfl ?_
                refine ax_if_ge (q := 164) (x := 171) rfl rfl (fun h161 => ?_) (fun h161 => ?_)
                · refine ax_load (q := 172) rfl rfl rfl rfl rfl ?_
                  refine ax_callv (q := 175) rfl rfl rfl rfl rfl rfl ?_
                  exfalso; omega
                · refine ax_load (q := 165) rfl rfl rfl rfl rfl ?_
                  refine ax_getf (q := 168) (v := am_I (tkn_ tp n p)) rfl rfl (am_fg rfl ((cu_f σ u u (by decide) (by decide)).trans k8)) ?_
                  refine ax_goto (x := 172) rfl ?_
                  refine ax_callv (q := 175) rfl rfl rfl rfl rfl rfl ?_
                  have hres : un_ tp n 0 p os u = Sum.inr (nxp_ tp n p, os, u + 1, sp1_ tp n p) := by unfold un_; rw [if_neg (by simpa using hnn), if_neg h59b, if_neg (by omega)]
                  refine m_add (by omega) (s := st.length) ((hRc.2.1 17 (by decide)).trans (tq_17 _ _ _)) (by omega) ?_
                  refine ax_load (q := 176) rfl rfl rfl rfl rfl ?_
                  refine ax_callv (q := 179) rfl rfl rfl rfl rfl rfl ?_
                  have hfa : fp_ [138, 139] [17] [] (cu_ σ u u) (ad_ (cu_ σ u u) st.length 0 (tkn_ tp n p)) := fp_ad (fp_rf _ _ _ _) (by decide) (by decide) (by decide)
                  have hRa : RS_ (tq_ D (u + 1) (st ++ [sp1_ tp n p])) (ad_ (cu_ σ u u) st.length 0 (tkn_ tp n p)) := by
                    refine RS_.dt hRc hfa (by decide) rfl ?_ ?_
                    · show _ = am_up ((cu_ σ u u).1 138) st.length (sp1_ tp n p).1
                      unfold sp1_; dsimp only; rw [if_pos (by omega)]; rfl
                    · show _ = am_up ((cu_ σ u u).1 139) st.length (sp1_ tp n p).2
                      unfold sp1_; dsimp only; rw [if_pos (by omega)]; rfl
                  have hPa : PS_ tp n p (ad_ (cu_ σ u u) st.length 0 (tkn_ tp n p)) := PS_s5 (PS_sI (PS_sI hPc (by decide) (by decide)) (by decide) (by decide)) (by decide)
                  refine m_tokenN (by omega) hPa (fun σ4 hk4 hP4 => ?_)
                  refine ax_ret (r := none) rfl rfl ?_
                  refine hY (nxp_ tp n p, os, u + 1, sp1_ tp n p) hres σ4 (RF_.tr (RF_.tr hfc hfa (by decide) (by decide) (by decide)) hk4 (by decide) (by decide) (by decide)) ⟨hP4, ?_, ?_, ?_, ?_, ?_, RS_.tok hRa hk4 (by decide)⟩ ⟨by dsimp only; omega, by dsimp only; omega, by dsimp only; omega, by dsimp only; rw [List.length_append]; show _ + 1 + _ + 1 ≤ _; omega⟩
                  · rw [hk4.2.1 2 (by decide), hfa.2.1 2 (by decide)]; exact c02
                  · rw [hk4.2.1 19 (by decide), hfa.2.1 19 (by decide)]; exact c19
                  · rw [hk4.1 142 (by decide) (by decide), hfa.1 142 (by decide) (by decide)]; exact hos
                  · rw [hk4.2.1 23 (by decide), hfa.2.1 23 (by decide)]; exact c23
                  · rw [hk4.2.1 22 (by decide), hfa.2.1 22 (by decide)]; exact c22
            · have hf130 : u = 30 := of_decide_eq_true (it_n0 h130)
              refine ax_load (q := 134) rfl rfl rfl rfl rfl ?_
              refine ax_const (q := 135) (v := am_I 2) rfl rfl rfl ?_
              refine ax_callv (q := 138) rfl rfl rfl rfl rfl rfl ?_
              refine m_wrong (by omega) ?_
              rw [if_neg (by rw [h02]; decide)]
              obtain ⟨x1, hx1⟩ : ∃ s, s = wr_ σ 2 := ⟨_, rfl⟩
              rw [← hx1]
              have hbad : 0 < x1.1 135 2 := by rw [hx1]; exact wr_2 σ (by decide)
              have hfx : RF_ σ0 x1 := by rw [hx1]; exact fp_wr hf (by decide) (by decide)
              have hF : FT_ tp n (2, p) x1 := by rw [hx1]; exact FT_wr hP 2
              have h0 : (0 : Int) < 2 := by decide
              have g19 : x1.1 135 19 = ((os.length : Nat) : Int) := by rw [hx1]; exact (wr_f σ 2 (by decide) (by decide)).trans hc
              have g23 : x1.1 135 23 = ((dpl_ os : Nat) : Int) := by rw [hx1]; exact (wr_f σ 2 (by decide) (by decide)).trans hdp
              have g20 : x1.1 135 20 = ((u : Nat) : Int) := by rw [hx1]; exact (wr_f σ 2 (by decide) (by decide)).trans h20
              have g22 : x1.1 135 22 = ((u : Nat) : Int) := by rw [hx1]; exact (wr_f σ 2 (by decide) (by decide)).trans hu
              have hres : un_ tp n 0 p os u = Sum.inl (2, p) := by unfold un_; rw [if_neg (by simpa using hnn), if_neg h59b, if_pos (by omega)]
              refine ax_load (q := 139) rfl rfl rfl rfl rfl ?_
              refine ax_getf (q := 142) (v := am_I (x1.1 135 2)) rfl rfl (rfl) ?_
              refine ax_if_le (q := 145) (x := 146) rfl rfl (fun h => absurd h (by omega)) (fun h142 => ?_)
              refine ax_ret (r := none) rfl rfl ?_
              exact hN (2, p) hres _ hfx h0 hF
      · refine ax_load (q := 63) rfl rfl rfl rfl rfl ?_
        refine ax_callv (q := 66) rfl rfl rfl rfl rfl rfl ?_
        refine m_isFull (by omega) ?_
        rw [h20, hu]
        rw [show decide (((u : Nat) : Int) = 60 ∨ ((u : Nat) : Int) = 30) = decide (u = 30) from decide_eq_decide.mpr ⟨fun q => by omega, fun q => by omega⟩]
        refine ax_if_ne (q := 69) (x := 78) rfl rfl (fun h66 => ?_) (fun h66 => ?_)
        · have hf66 : u = 30 := of_decide_eq_true (it_n0 h66)
          refine ax_load (q := 79) rfl rfl rfl rfl rfl ?_
          refine ax_const (q := 80) (v := am_I 2) rfl rfl rfl ?_
          refine ax_callv (q := 83) rfl rfl rfl rfl rfl rfl ?_
          refine m_wrong (by omega) ?_
          rw [if_neg (by rw [h02]; decide)]
          obtain ⟨x1, hx1⟩ : ∃ s, s = wr_ σ 2 := ⟨_, rfl⟩
          rw [← hx1]
          have hbad : 0 < x1.1 135 2 := by rw [hx1]; exact wr_2 σ (by decide)
          have hfx : RF_ σ0 x1 := by rw [hx1]; exact fp_wr hf (by decide) (by decide)
          have hF : FT_ tp n (2, p) x1 := by rw [hx1]; exact FT_wr hP 2
          have h0 : (0 : Int) < 2 := by decide
          have g19 : x1.1 135 19 = ((os.length : Nat) : Int) := by rw [hx1]; exact (wr_f σ 2 (by decide) (by decide)).trans hc
          have g23 : x1.1 135 23 = ((dpl_ os : Nat) : Int) := by rw [hx1]; exact (wr_f σ 2 (by decide) (by decide)).trans hdp
          have g20 : x1.1 135 20 = ((u : Nat) : Int) := by rw [hx1]; exact (wr_f σ 2 (by decide) (by decide)).trans h20
          have g22 : x1.1 135 22 = ((u : Nat) : Int) := by rw [hx1]; exact (wr_f σ 2 (by decide) (by decide)).trans hu
          have hres : un_ tp n 0 p os u = Sum.inl (2, p) := by unfold un_; rw [if_neg (by simpa using hnn), if_pos h59b]
          refine ax_load (q := 84) rfl rfl rfl rfl rfl ?_
          refine ax_callv (q := 87) rfl rfl rfl rfl rfl rfl ?_
          refine m_countUnit (by omega) g20 g22 (by omega) (by omega) ?_
          obtain ⟨x2b, hx2⟩ : ∃ s, s = cu_ x1 u u := ⟨_, rfl⟩
          rw [← hx2]
          have hbad2 : 0 < x2b.1 135 2 := by rw [hx2, cu_f x1 u u (by decide) (by decide)]; exact hbad
          have hfx2 : RF_ σ0 x2b := by rw [hx2]; exact fp_cu hfx (by decide) (by decide)
          have hF2 : FT_ tp n (2, p) x2b := by rw [hx2]; exact ⟨(cu_f x1 u u (by decide) (by decide)).trans hF.1, (cu_f x1 u u (by decide) (by decide)).trans hF.2⟩
          have e19 : x2b.1 135 19 = ((os.length : Nat) : Int) := by rw [hx2]; exact (cu_f x1 u u (by decide) (by decide)).trans g19
          have e23 : x2b.1 135 23 = ((dpl_ os : Nat) : Int) := by rw [hx2]; exact (cu_f x1 u u (by decide) (by decide)).trans g23
          refine ax_load (q := 88) rfl rfl rfl rfl rfl ?_
          refine ax_const (q := 90) (v := am_I 20) rfl rfl rfl ?_
          refine ax_callv (q := 93) rfl rfl rfl rfl rfl rfl ?_
          refine z_openUp (by omega) hbad2 e19 (by omega) e23 (by omega) (by omega) (fun x3 hk3 => ?_)
          have hbad3 : 0 < x3.1 135 2 := by rw [hk3.2.1 2 (by decide)]; exact hbad2
          have hfx3 : RF_ σ0 x3 := RF_.tr hfx2 hk3 (by decide) (by decide) (by decide)
          have hF3 : FT_ tp n (2, p) x3 := ⟨(hk3.2.1 2 (by decide)).trans hF2.1, (hk3.2.1 3 (by decide)).trans hF2.2⟩
          refine ax_goto (x := 2) rfl ?_
          refine ax_load (q := 3) rfl rfl rfl rfl rfl ?_
          refine ax_if_eq (q := 6) (x := 101) rfl rfl (fun h => absurd h (by omega)) (fun h3 => ?_)
          refine ax_load (q := 7) rfl rfl rfl rfl rfl ?_
          refine ax_getf (q := 10) (v := am_I (x3.1 135 2)) rfl rfl (rfl) ?_
          refine ax_if_ne (q := 13) (x := 101) rfl rfl (fun h10 => ?_) (fun h => absurd h (by omega))
          refine ax_load (q := 102) rfl rfl rfl rfl rfl ?_
          refine ax_getf (q := 105) (v := am_I (x3.1 135 2)) rfl rfl (rfl) ?_
          refine ax_if_le (q := 108) (x := 109) rfl rfl (fun h => absurd h (by omega)) (fun h105 => ?_)
          refine ax_ret (r := none) rfl rfl ?_
          exact hN (2, p) hres _ hfx3 h0 hF3
        · have hf66 : ¬ u = 30 := of_decide_eq_false (it_0 (by omega))
          refine ax_load (q := 70) rfl rfl rfl rfl rfl ?_
          refine ax_getf (q := 73) (v := am_I (((dpl_ os) : Nat) : Int)) rfl rfl (am_fg rfl hdp) ?_
          refine ax_const (q := 75) (v := am_I 6) rfl rfl rfl ?_
          refine ax_icmp_le (q := 78) (x := 83) rfl rfl (fun h => absurd h (by omega)) (fun h75 => ?_)
          refine ax_load (q := 79) rfl rfl rfl rfl rfl ?_
          refine ax_const (q := 80) (v := am_I 2) rfl rfl rfl ?_
          refine ax_callv (q := 83) rfl rfl rfl rfl rfl rfl ?_
          refine m_wrong (by omega) ?_
          rw [if_neg (by rw [h02]; decide)]
          obtain ⟨x1, hx1⟩ : ∃ s, s = wr_ σ 2 := ⟨_, rfl⟩
          rw [← hx1]
          have hbad : 0 < x1.1 135 2 := by rw [hx1]; exact wr_2 σ (by decide)
          have hfx : RF_ σ0 x1 := by rw [hx1]; exact fp_wr hf (by decide) (by decide)
          have hF : FT_ tp n (2, p) x1 := by rw [hx1]; exact FT_wr hP 2
          have h0 : (0 : Int) < 2 := by decide
          have g19 : x1.1 135 19 = ((os.length : Nat) : Int) := by rw [hx1]; exact (wr_f σ 2 (by decide) (by decide)).trans hc
          have g23 : x1.1 135 23 = ((dpl_ os : Nat) : Int) := by rw [hx1]; exact (wr_f σ 2 (by decide) (by decide)).trans hdp
          have g20 : x1.1 135 20 = ((u : Nat) : Int) := by rw [hx1]; exact (wr_f σ 2 (by decide) (by decide)).trans h20
          have g22 : x1.1 135 22 = ((u : Nat) : Int) := by rw [hx1]; exact (wr_f σ 2 (by decide) (by decide)).trans hu
          have hres : un_ tp n 0 p os u = Sum.inl (2, p) := by unfold un_; rw [if_neg (by simpa using hnn), if_pos h59b]
          refine ax_load (q := 84) rfl rfl rfl rfl rfl ?_
          refine ax_callv (q := 87) rfl rfl rfl rfl rfl rfl ?_
          refine m_countUnit (by omega) g20 g22 (by omega) (by omega) ?_
          obtain ⟨x2b, hx2⟩ : ∃ s, s = cu_ x1 u u := ⟨_, rfl⟩
          rw [← hx2]
          have hbad2 : 0 < x2b.1 135 2 := by rw [hx2, cu_f x1 u u (by decide) (by decide)]; exact hbad
          have hfx2 : RF_ σ0 x2b := by rw [hx2]; exact fp_cu hfx (by decide) (by decide)
          have hF2 : FT_ tp n (2, p) x2b := by rw [hx2]; exact ⟨(cu_f x1 u u (by decide) (by decide)).trans hF.1, (cu_f x1 u u (by decide) (by decide)).trans hF.2⟩
          have e19 : x2b.1 135 19 = ((os.length : Nat) : Int) := by rw [hx2]; exact (cu_f x1 u u (by decide) (by decide)).trans g19
          have e23 : x2b.1 135 23 = ((dpl_ os : Nat) : Int) := by rw [hx2]; exact (cu_f x1 u u (by decide) (by decide)).trans g23
          refine ax_load (q := 88) rfl rfl rfl rfl rfl ?_
          refine ax_const (q := 90) (v := am_I 20) rfl rfl rfl ?_
          refine ax_callv (q := 93) rfl rfl rfl rfl rfl rfl ?_
          refine z_openUp (by omega) hbad2 e19 (by omega) e23 (by omega) (by omega) (fun x3 hk3 => ?_)
          have hbad3 : 0 < x3.1 135 2 := by rw [hk3.2.1 2 (by decide)]; exact hbad2
          have hfx3 : RF_ σ0 x3 := RF_.tr hfx2 hk3 (by decide) (by decide) (by decide)
          have hF3 : FT_ tp n (2, p) x3 := ⟨(hk3.2.1 2 (by decide)).trans hF2.1, (hk3.2.1 3 (by decide)).trans hF2.2⟩
          refine ax_goto (x := 2) rfl ?_
          refine ax_load (q := 3) rfl rfl rfl rfl rfl ?_
          refine ax_if_eq (q := 6) (x := 101) rfl rfl (fun h => absurd h (by omega)) (fun h3 => ?_)
          refine ax_load (q := 7) rfl rfl rfl rfl rfl ?_
          refine ax_getf (q := 10) (v := am_I (x3.1 135 2)) rfl rfl (rfl) ?_
          refine ax_if_ne (q := 13) (x := 101) rfl rfl (fun h10 => ?_) (fun h => absurd h (by omega))
          refine ax_load (q := 102) rfl rfl rfl rfl rfl ?_
          refine ax_getf (q := 105) (v := am_I (x3.1 135 2)) rfl rfl (rfl) ?_
          refine ax_if_le (q := 108) (x := 109) rfl rfl (fun h => absurd h (by omega)) (fun h105 => ?_)
          refine ax_ret (r := none) rfl rfl ?_
          exact hN (2, p) hres _ hfx3 h0 hF3
    · have hb20 := it_n0 h20b
      refine ax_load (q := 24) rfl rfl rfl rfl rfl ?_
      refine ax_callv (q := 27) rfl rfl rfl rfl rfl rfl ?_
      refine m_mayNot (by omega) rfl hc (by omega) ?_
      rw [mn_ol, hos]
      refine ax_if_eq (q := 30) (x := 53) rfl rfl (fun h27 => ?_) (fun h27 => ?_)
      · have hnn : ¬ (nt_ tp n p = true ∧ mnl_ os = true) := fun q => by rw [it_0 h27] at q; cases q.2
        refine ax_load (q := 54) rfl rfl rfl rfl rfl ?_
        refine ax_getf (q := 57) (v := am_I (tks_ tp n p)) rfl rfl (am_fg rfl k6) ?_
        refine ax_const (q := 59) (v := am_I 40) rfl rfl rfl ?_
        refine ax_icmp_ne (q := 62) (x := 96) rfl rfl (fun h59b => ?_) (fun h59b => ?_)
        · refine ax_const (q := 97) (v := am_I 0) rfl rfl rfl ?_
          refine ax_store (q := 98) (L' := [some (am_R 135), some (am_I 0), x2]) rfl rfl rfl rfl rfl rfl ?_
          refine ax_goto (x := 2) rfl ?_
          refine ax_load (q := 3) rfl rfl rfl rfl rfl ?_
          refine ax_if_eq (q := 6) (x := 101) rfl rfl (fun h3 => ?_) (fun h => absurd h (by omega))
          refine ax_load (q := 102) rfl rfl rfl rfl rfl ?_
          refine ax_getf (q := 105) (v := am_I 0) rfl rfl (am_fg rfl h02) ?_
          refine ax_if_le (q := 108) (x := 109) rfl rfl (fun h105 => ?_) (fun h => absurd h (by omega))
          refine ax_load (q := 110) rfl rfl rfl rfl rfl ?_
          refine ax_callv (q := 113) rfl rfl rfl rfl rfl rfl ?_
          refine m_asked (by omega) ?_
          rw [k6, k9]
          show aW d 4 k_X9_unit Q 113 _ [am_I (as2_ tp n p)] σ
          refine ax_store (q := 114) (L' := [some (am_R 135), some (am_I 0), some (am_I (as2_ tp n p))]) rfl rfl rfl rfl rfl rfl ?_
          refine ax_load (q := 115) rfl rfl rfl rfl rfl ?_
          refine ax_getf (q := 118) (v := am_I (tks_ tp n p)) rfl rfl (am_fg rfl k6) ?_
          refine ax_const (q := 119) (v := am_I 2) rfl rfl rfl ?_
          refine ax_icmp_eq (q := 122) (x := 126) rfl rfl (fun h119 => ?_) (fun h119 => ?_)
          · refine ax_load (q := 127) rfl rfl rfl rfl rfl ?_
            refine ax_callv (q := 130) rfl rfl rfl rfl rfl rfl ?_
            refine m_isFull (by omega) ?_
            rw [h20, hu]
            rw [show decide (((u : Nat) : Int) = 60 ∨ ((u : Nat) : Int) = 30) = decide (u = 30) from decide_eq_decide.mpr ⟨fun q => by omega, fun q => by omega⟩]
            refine ax_if_eq (q := 133) (x := 138) rfl rfl (fun h130 => ?_) (fun h130 => ?_)
            · have hf130 : ¬ u = 30 := of_decide_eq_false (it_0 h130)
              refine ax_load (q := 139) rfl rfl rfl rfl rfl ?_
              refine ax_getf (q := 142) (v := am_I 0) rfl rfl (am_fg rfl h02) ?_
              refine ax_if_le (q := 145) (x := 146) rfl rfl (fun h142 => ?_) (fun h => absurd h (by omega))
              refine ax_load (q := 147) rfl rfl rfl rfl rfl ?_
              refine ax_callv (q := 150) rfl rfl rfl rfl rfl rfl ?_
              refine m_countUnit (by omega) h20 hu (by omega) (by omega) ?_
              have hPc : PS_ tp n p (cu_ σ u u) := by unfold cu_; rw [← sI_at σ 135 (am_up (σ.1 135) 20 ((u + 1 : Nat) : Int)), ← sI_sI]; exact PS_s5 (PS_s5 hP (by decide)) (by decide)
              have hfc : RF_ σ0 (cu_ σ u u) := fp_cu hf (by decide) (by decide)
              have hRc := RS_.cu (o := u) hR
              have c02 : (cu_ σ u u).1 135 2 = 0 := (cu_f σ u u (by decide) (by decide)).trans h02
              have c19 : (cu_ σ u u).1 135 19 = _ := (cu_f σ u u (by decide) (by decide)).trans hc
              have c23 : (cu_ σ u u).1 135 23 = _ := (cu_f σ u u (by decide) (by decide)).trans hdp
              have c22 : (cu_ σ u u).1 135 22 = ((u + 1 : Nat) : Int) := by unfold cu_; rw [sI_at, am_up_same]
              refine ax_load (q := 151) rfl rfl rfl rfl rfl ?_
              refine ax_load (q := 152) rfl rfl rfl rfl rfl ?_
              refine ax_if_ge (q := 155) (x := 159) rfl rfl (fun h152 => ?_) (fun h152 => ?_)
              · refine ax_const (q := 160) (v := am_I 1) rfl rfl rfl ?_
                refine ax_load (q := 161) rfl rfl rfl rfl rfl ?_
                refine ax_if_ge (q := 164) (x := 171) rfl rfl (fun h161 => ?_) (fun h161 => ?_)
                · refine ax_load (q := 172) rfl rfl rfl rfl rfl ?_
                  refine ax_callv (q := 175) rfl rfl rfl rfl rfl rfl ?_
                  have hres : un_ tp n 0 p os u = Sum.inr (nxp_ tp n p, os, u + 1, sp1_ tp n p) := by unfold un_; rw [if_neg (by simpa using hnn), if_neg h59b, if_neg (by omega)]
                  refine m_add (by omega) (s := st.length) ((hRc.2.1 17 (by decide)).trans (tq_17 _ _ _)) (by omega) ?_
                  refine ax_load (q := 176) rfl rfl rfl rfl rfl ?_
                  refine ax_callv (q := 179) rfl rfl rfl rfl rfl rfl ?_
                  have hfa : fp_ [138, 139] [17] [] (cu_ σ u u) (ad_ (cu_ σ u u) st.length 1 (as2_ tp n p)) := fp_ad (fp_rf _ _ _ _) (by decide) (by decide) (by decide)
                  have hRa : RS_ (tq_ D (u + 1) (st ++ [sp1_ tp n p])) (ad_ (cu_ σ u u) st.length 1 (as2_ tp n p)) := by
                    refine RS_.dt hRc hfa (by decide) rfl ?_ ?_
                    · show _ = am_up ((cu_ σ u u).1 138) st.length (sp1_ tp n p).1
                      unfold sp1_; dsimp only; rw [if_neg (by omega)]; rfl
                    · show _ = am_up ((cu_ σ u u).1 139) st.length (sp1_ tp n p).2
                      unfold sp1_; dsimp only; rw [if_neg (by omega)]; rfl
                  have hPa : PS_ tp n p (ad_ (cu_ σ u u) st.length 1 (as2_ tp n p)) := PS_s5 (PS_sI (PS_sI hPc (by decide) (by decide)) (by decide) (by decide)) (by decide)
                  refine m_tokenN (by omega) hPa (fun σ4 hk4 hP4 => ?_)
                  refine ax_ret (r := none) rfl rfl ?_
                  refine hY (nxp_ tp n p, os, u + 1, sp1_ tp n p) hres σ4 (RF_.tr (RF_.tr hfc hfa (by decide) (by decide) (by decide)) hk4 (by decide) (by decide) (by decide)) ⟨hP4, ?_, ?_, ?_, ?_, ?_, RS_.tok hRa hk4 (by decide)⟩ ⟨by dsimp only; omega, by dsimp only; omega, by dsimp only; omega, by dsimp only; rw [List.length_append]; show _ + 1 + _ + 1 ≤ _; omega⟩
                  · rw [hk4.2.1 2 (by decide), hfa.2.1 2 (by decide)]; exact c02
                  · rw [hk4.2.1 19 (by decide), hfa.2.1 19 (by decide)]; exact c19
                  · rw [hk4.1 142 (by decide) (by decide), hfa.1 142 (by decide) (by decide)]; exact hos
                  · rw [hk4.2.1 23 (by decide), hfa.2.1 23 (by decide)]; exact c23
                  · rw [hk4.2.1 22 (by decide), hfa.2.1 22 (by decide)]; exact c22
                · refine ax_load (q := 165) rfl rfl rfl rfl rfl ?_
                  refine ax_getf (q := 168) (v := am_I (tkn_ tp n p)) rfl rfl (am_fg rfl ((cu_f σ u u (by decide) (by decide)).trans k8)) ?_
                  refine ax_goto (x := 172) rfl ?_
                  refine ax_callv (q := 175) rfl rfl rfl rfl rfl rfl ?_
                  exfalso; omega
              · refine ax_const (q := 156) (v := am_I 0) rfl rfl rfl ?_
                refine ax_goto (x := 160) rfl ?_
                refine ax_load (q := 161) rfl rfl rfl rfl rfl ?_
                refine ax_if_ge (q := 164) (x := 171) rfl rfl (fun h161 => ?_) (fun h161 => ?_)
                · refine ax_load (q := 172) rfl rfl rfl rfl rfl ?_
                  refine ax_callv (q := 175) rfl rfl rfl rfl rfl rfl ?_
                  exfalso; omega
                · refine ax_load (q := 165) rfl rfl rfl rfl rfl ?_
                  refine ax_getf (q := 168) (v := am_I (tkn_ tp n p)) rfl rfl (am_fg rfl ((cu_f σ u u (by decide) (by decide)).trans k8)) ?_
                  refine ax_goto (x := 172) rfl ?_
                  refine ax_callv (q := 175) rfl rfl rfl rfl rfl rfl ?_
                  have hres : un_ tp n 0 p os u = Sum.inr (nxp_ tp n p, os, u + 1, sp1_ tp n p) := by unfold un_; rw [if_neg (by simpa using hnn), if_neg h59b, if_neg (by omega)]
                  refine m_add (by omega) (s := st.length) ((hRc.2.1 17 (by decide)).trans (tq_17 _ _ _)) (by omega) ?_
                  refine ax_load (q := 176) rfl rfl rfl rfl rfl ?_
                  refine ax_callv (q := 179) rfl rfl rfl rfl rfl rfl ?_
                  have hfa : fp_ [138, 139] [17] [] (cu_ σ u u) (ad_ (cu_ σ u u) st.length 0 (tkn_ tp n p)) := fp_ad (fp_rf _ _ _ _) (by decide) (by decide) (by decide)
                  have hRa : RS_ (tq_ D (u + 1) (st ++ [sp1_ tp n p])) (ad_ (cu_ σ u u) st.length 0 (tkn_ tp n p)) := by
                    refine RS_.dt hRc hfa (by decide) rfl ?_ ?_
                    · show _ = am_up ((cu_ σ u u).1 138) st.length (sp1_ tp n p).1
                      unfold sp1_; dsimp only; rw [if_pos (by omega)]; rfl
                    · show _ = am_up ((cu_ σ u u).1 139) st.length (sp1_ tp n p).2
                      unfold sp1_; dsimp only; rw [if_pos (by omega)]; rfl
                  have hPa : PS_ tp n p (ad_ (cu_ σ u u) st.length 0 (tkn_ tp n p)) := PS_s5 (PS_sI (PS_sI hPc (by decide) (by decide)) (by decide) (by decide)) (by decide)
                  refine m_tokenN (by omega) hPa (fun σ4 hk4 hP4 => ?_)
                  refine ax_ret (r := none) rfl rfl ?_
                  refine hY (nxp_ tp n p, os, u + 1, sp1_ tp n p) hres σ4 (RF_.tr (RF_.tr hfc hfa (by decide) (by decide) (by decide)) hk4 (by decide) (by decide) (by decide)) ⟨hP4, ?_, ?_, ?_, ?_, ?_, RS_.tok hRa hk4 (by decide)⟩ ⟨by dsimp only; omega, by dsimp only; omega, by dsimp only; omega, by dsimp only; rw [List.length_append]; show _ + 1 + _ + 1 ≤ _; omega⟩
                  · rw [hk4.2.1 2 (by decide), hfa.2.1 2 (by decide)]; exact c02
                  · rw [hk4.2.1 19 (by decide), hfa.2.1 19 (by decide)]; exact c19
                  · rw [hk4.1 142 (by decide) (by decide), hfa.1 142 (by decide) (by decide)]; exact hos
                  · rw [hk4.2.1 23 (by decide), hfa.2.1 23 (by decide)]; exact c23
                  · rw [hk4.2.1 22 (by decide), hfa.2.1 22 (by decide)]; exact c22
            · have hf130 : u = 30 := of_decide_eq_true (it_n0 h130)
              refine ax_load (q := 134) rfl rfl rfl rfl rfl ?_
              refine ax_const (q := 135) (v := am_I 2) rfl rfl rfl ?_
              refine ax_callv (q := 138) rfl rfl rfl rfl rfl rfl ?_
              refine m_wrong (by omega) ?_
              rw [if_neg (by rw [h02]; decide)]
              obtain ⟨x1, hx1⟩ : ∃ s, s = wr_ σ 2 := ⟨_, rfl⟩
              rw [← hx1]
              have hbad : 0 < x1.1 135 2 := by rw [hx1]; exact wr_2 σ (by decide)
              have hfx : RF_ σ0 x1 := by rw [hx1]; exact fp_wr hf (by decide) (by decide)
              have hF : FT_ tp n (2, p) x1 := by rw [hx1]; exact FT_wr hP 2
              have h0 : (0 : Int) < 2 := by decide
              have g19 : x1.1 135 19 = ((os.length : Nat) : Int) := by rw [hx1]; exact (wr_f σ 2 (by decide) (by decide)).trans hc
              have g23 : x1.1 135 23 = ((dpl_ os : Nat) : Int) := by rw [hx1]; exact (wr_f σ 2 (by decide) (by decide)).trans hdp
              have g20 : x1.1 135 20 = ((u : Nat) : Int) := by rw [hx1]; exact (wr_f σ 2 (by decide) (by decide)).trans h20
              have g22 : x1.1 135 22 = ((u : Nat) : Int) := by rw [hx1]; exact (wr_f σ 2 (by decide) (by decide)).trans hu
              have hres : un_ tp n 0 p os u = Sum.inl (2, p) := by unfold un_; rw [if_neg (by simpa using hnn), if_neg h59b, if_pos (by omega)]
              refine ax_load (q := 139) rfl rfl rfl rfl rfl ?_
              refine ax_getf (q := 142) (v := am_I (x1.1 135 2)) rfl rfl (rfl) ?_
              refine ax_if_le (q := 145) (x := 146) rfl rfl (fun h => absurd h (by omega)) (fun h142 => ?_)
              refine ax_ret (r := none) rfl rfl ?_
              exact hN (2, p) hres _ hfx h0 hF
          · refine ax_load (q := 123) rfl rfl rfl rfl rfl ?_
            refine ax_if_lt (q := 126) (x := 133) rfl rfl (fun h123 => ?_) (fun h123 => ?_)
            · refine ax_load (q := 134) rfl rfl rfl rfl rfl ?_
              refine ax_const (q := 135) (v := am_I 2) rfl rfl rfl ?_
              refine ax_callv (q := 138) rfl rfl rfl rfl rfl rfl ?_
              refine m_wrong (by omega) ?_
              rw [if_neg (by rw [h02]; decide)]
              obtain ⟨x1, hx1⟩ : ∃ s, s = wr_ σ 2 := ⟨_, rfl⟩
              rw [← hx1]
              have hbad : 0 < x1.1 135 2 := by rw [hx1]; exact wr_2 σ (by decide)
              have hfx : RF_ σ0 x1 := by rw [hx1]; exact fp_wr hf (by decide) (by decide)
              have hF : FT_ tp n (2, p) x1 := by rw [hx1]; exact FT_wr hP 2
              have h0 : (0 : Int) < 2 := by decide
              have g19 : x1.1 135 19 = ((os.length : Nat) : Int) := by rw [hx1]; exact (wr_f σ 2 (by decide) (by decide)).trans hc
              have g23 : x1.1 135 23 = ((dpl_ os : Nat) : Int) := by rw [hx1]; exact (wr_f σ 2 (by decide) (by decide)).trans hdp
              have g20 : x1.1 135 20 = ((u : Nat) : Int) := by rw [hx1]; exact (wr_f σ 2 (by decide) (by decide)).trans h20
              have g22 : x1.1 135 22 = ((u : Nat) : Int) := by rw [hx1]; exact (wr_f σ 2 (by decide) (by decide)).trans hu
              have hres : un_ tp n 0 p os u = Sum.inl (2, p) := by unfold un_; rw [if_neg (by simpa using hnn), if_neg h59b, if_pos (by omega)]
              refine ax_load (q := 139) rfl rfl rfl rfl rfl ?_
              refine ax_getf (q := 142) (v := am_I (x1.1 135 2)) rfl rfl (rfl) ?_
              refine ax_if_le (q := 145) (x := 146) rfl rfl (fun h => absurd h (by omega)) (fun h142 => ?_)
              refine ax_ret (r := none) rfl rfl ?_
              exact hN (2, p) hres _ hfx h0 hF
            · refine ax_load (q := 127) rfl rfl rfl rfl rfl ?_
              refine ax_callv (q := 130) rfl rfl rfl rfl rfl rfl ?_
              refine m_isFull (by omega) ?_
              rw [h20, hu]
              rw [show decide (((u : Nat) : Int) = 60 ∨ ((u : Nat) : Int) = 30) = decide (u = 30) from decide_eq_decide.mpr ⟨fun q => by omega, fun q => by omega⟩]
              refine ax_if_eq (q := 133) (x := 138) rfl rfl (fun h130 => ?_) (fun h130 => ?_)
              · have hf130 : ¬ u = 30 := of_decide_eq_false (it_0 h130)
                refine ax_load (q := 139) rfl rfl rfl rfl rfl ?_
                refine ax_getf (q := 142) (v := am_I 0) rfl rfl (am_fg rfl h02) ?_
                refine ax_if_le (q := 145) (x := 146) rfl rfl (fun h142 => ?_) (fun h => absurd h (by omega))
                refine ax_load (q := 147) rfl rfl rfl rfl rfl ?_
                refine ax_callv (q := 150) rfl rfl rfl rfl rfl rfl ?_
                refine m_countUnit (by omega) h20 hu (by omega) (by omega) ?_
                have hPc : PS_ tp n p (cu_ σ u u) := by unfold cu_; rw [← sI_at σ 135 (am_up (σ.1 135) 20 ((u + 1 : Nat) : Int)), ← sI_sI]; exact PS_s5 (PS_s5 hP (by decide)) (by decide)
                have hfc : RF_ σ0 (cu_ σ u u) := fp_cu hf (by decide) (by decide)
                have hRc := RS_.cu (o := u) hR
                have c02 : (cu_ σ u u).1 135 2 = 0 := (cu_f σ u u (by decide) (by decide)).trans h02
                have c19 : (cu_ σ u u).1 135 19 = _ := (cu_f σ u u (by decide) (by decide)).trans hc
                have c23 : (cu_ σ u u).1 135 23 = _ := (cu_f σ u u (by decide) (by decide)).trans hdp
                have c22 : (cu_ σ u u).1 135 22 = ((u + 1 : Nat) : Int) := by unfold cu_; rw [sI_at, am_up_same]
                refine ax_load (q := 151) rfl rfl rfl rfl rfl ?_
                refine ax_load (q := 152) rfl rfl rfl rfl rfl ?_
                refine ax_if_ge (q := 155) (x := 159) rfl rfl (fun h152 => ?_) (fun h152 => ?_)
                · refine ax_const (q := 160) (v := am_I 1) rfl rfl rfl ?_
                  refine ax_load (q := 161) rfl rfl rfl rfl rfl ?_
                  refine ax_if_ge (q := 164) (x := 171) rfl rfl (fun h161 => ?_) (fun h161 => ?_)
                  · refine ax_load (q := 172) rfl rfl rfl rfl rfl ?_
                    refine ax_callv (q := 175) rfl rfl rfl rfl rfl rfl ?_
                    have hres : un_ tp n 0 p os u = Sum.inr (nxp_ tp n p, os, u + 1, sp1_ tp n p) := by unfold un_; rw [if_neg (by simpa using hnn), if_neg h59b, if_neg (by omega)]
                    refine m_add (by omega) (s := st.length) ((hRc.2.1 17 (by decide)).trans (tq_17 _ _ _)) (by omega) ?_
                    refine ax_load (q := 176) rfl rfl rfl rfl rfl ?_
                    refine ax_callv (q := 179) rfl rfl rfl rfl rfl rfl ?_
                    have hfa : fp_ [138, 139] [17] [] (cu_ σ u u) (ad_ (cu_ σ u u) st.length 1 (as2_ tp n p)) := fp_ad (fp_rf _ _ _ _) (by decide) (by decide) (by decide)
                    have hRa : RS_ (tq_ D (u + 1) (st ++ [sp1_ tp n p])) (ad_ (cu_ σ u u) st.length 1 (as2_ tp n p)) := by
                      refine RS_.dt hRc hfa (by decide) rfl ?_ ?_
                      · show _ = am_up ((cu_ σ u u).1 138) st.length (sp1_ tp n p).1
                        unfold sp1_; dsimp only; rw [if_neg (by omega)]; rfl
                      · show _ = am_up ((cu_ σ u u).1 139) st.length (sp1_ tp n p).2
                        unfold sp1_; dsimp only; rw [if_neg (by omega)]; rfl
                    have hPa : PS_ tp n p (ad_ (cu_ σ u u) st.length 1 (as2_ tp n p)) := PS_s5 (PS_sI (PS_sI hPc (by decide) (by decide)) (by decide) (by decide)) (by decide)
                    refine m_tokenN (by omega) hPa (fun σ4 hk4 hP4 => ?_)
                    refine ax_ret (r := none) rfl rfl ?_
                    refine hY (nxp_ tp n p, os, u + 1, sp1_ tp n p) hres σ4 (RF_.tr (RF_.tr hfc hfa (by decide) (by decide) (by decide)) hk4 (by decide) (by decide) (by decide)) ⟨hP4, ?_, ?_, ?_, ?_, ?_, RS_.tok hRa hk4 (by decide)⟩ ⟨by dsimp only; omega, by dsimp only; omega, by dsimp only; omega, by dsimp only; rw [List.length_append]; show _ + 1 + _ + 1 ≤ _; omega⟩
                    · rw [hk4.2.1 2 (by decide), hfa.2.1 2 (by decide)]; exact c02
                    · rw [hk4.2.1 19 (by decide), hfa.2.1 19 (by decide)]; exact c19
                    · rw [hk4.1 142 (by decide) (by decide), hfa.1 142 (by decide) (by decide)]; exact hos
                    · rw [hk4.2.1 23 (by decide), hfa.2.1 23 (by decide)]; exact c23
                    · rw [hk4.2.1 22 (by decide), hfa.2.1 22 (by decide)]; exact c22
                  · refine ax_load (q := 165) rfl rfl rfl rfl rfl ?_
                    refine ax_getf (q := 168) (v := am_I (tkn_ tp n p)) rfl rfl (am_fg rfl ((cu_f σ u u (by decide) (by decide)).trans k8)) ?_
                    refine ax_goto (x := 172) rfl ?_
                    refine ax_callv (q := 175) rfl rfl rfl rfl rfl rfl ?_
                    exfalso; omega
                · refine ax_const (q := 156) (v := am_I 0) rfl rfl rfl ?_
                  refine ax_goto (x := 160) rfl ?_
                  refine ax_load (q := 161) rfl rfl rfl rfl rfl ?_
                  refine ax_if_ge (q := 164) (x := 171) rfl rfl (fun h161 => ?_) (fun h161 => ?_)
                  · refine ax_load (q := 172) rfl rfl rfl rfl rfl ?_
                    refine ax_callv (q := 175) rfl rfl rfl rfl rfl rfl ?_
                    exfalso; omega
                  · refine ax_load (q := 165) rfl rfl rfl rfl rfl ?_
                    refine ax_getf (q := 168) (v := am_I (tkn_ tp n p)) rfl rfl (am_fg rfl ((cu_f σ u u (by decide) (by decide)).trans k8)) ?_
                    refine ax_goto (x := 172) rfl ?_
                    refine ax_callv (q := 175) rfl rfl rfl rfl rfl rfl ?_
                    have hres : un_ tp n 0 p os u = Sum.inr (nxp_ tp n p, os, u + 1, sp1_ tp n p) := by unfold un_; rw [if_neg (by simpa using hnn), if_neg h59b, if_neg (by omega)]
                    refine m_add (by omega) (s := st.length) ((hRc.2.1 17 (by decide)).trans (tq_17 _ _ _)) (by omega) ?_
                    refine ax_load (q := 176) rfl rfl rfl rfl rfl ?_
                    refine ax_callv (q := 179) rfl rfl rfl rfl rfl rfl ?_
                    have hfa : fp_ [138, 139] [17] [] (cu_ σ u u) (ad_ (cu_ σ u u) st.length 0 (tkn_ tp n p)) := fp_ad (fp_rf _ _ _ _) (by decide) (by decide) (by decide)
                    have hRa : RS_ (tq_ D (u + 1) (st ++ [sp1_ tp n p])) (ad_ (cu_ σ u u) st.length 0 (tkn_ tp n p)) := by
                      refine RS_.dt hRc hfa (by decide) rfl ?_ ?_
                      · show _ = am_up ((cu_ σ u u).1 138) st.length (sp1_ tp n p).1
                        unfold sp1_; dsimp only; rw [if_pos (by omega)]; rfl
                      · show _ = am_up ((cu_ σ u u).1 139) st.length (sp1_ tp n p).2
                        unfold sp1_; dsimp only; rw [if_pos (by omega)]; rfl
                    have hPa : PS_ tp n p (ad_ (cu_ σ u u) st.length 0 (tkn_ tp n p)) := PS_s5 (PS_sI (PS_sI hPc (by decide) (by decide)) (by decide) (by decide)) (by decide)
                    refine m_tokenN (by omega) hPa (fun σ4 hk4 hP4 => ?_)
                    refine ax_ret (r := none) rfl rfl ?_
                    refine hY (nxp_ tp n p, os, u + 1, sp1_ tp n p) hres σ4 (RF_.tr (RF_.tr hfc hfa (by decide) (by decide) (by decide)) hk4 (by decide) (by decide) (by decide)) ⟨hP4, ?_, ?_, ?_, ?_, ?_, RS_.tok hRa hk4 (by decide)⟩ ⟨by dsimp only; omega, by dsimp only; omega, by dsimp only; omega, by dsimp only; rw [List.length_append]; show _ + 1 + _ + 1 ≤ _; omega⟩
                    · rw [hk4.2.1 2 (by decide), hfa.2.1 2 (by decide)]; exact c02
                    · rw [hk4.2.1 19 (by decide), hfa.2.1 19 (by decide)]; exact c19
                    · rw [hk4.1 142 (by decide) (by decide), hfa.1 142 (by decide) (by decide)]; exact hos
                    · rw [hk4.2.1 23 (by decide), hfa.2.1 23 (by decide)]; exact c23
                    · rw [hk4.2.1 22 (by decide), hfa.2.1 22 (by decide)]; exact c22
              · have hf130 : u = 30 := of_decide_eq_true (it_n0 h130)
                refine ax_load (q := 134) rfl rfl rfl rfl rfl ?_
                refine ax_const (q := 135) (v := am_I 2) rfl rfl rfl ?_
                refine ax_callv (q := 138) rfl rfl rfl rfl rfl rfl ?_
                refine m_wrong (by omega) ?_
                rw [if_neg (by rw [h02]; decide)]
                obtain ⟨x1, hx1⟩ : ∃ s, s = wr_ σ 2 := ⟨_, rfl⟩
                rw [← hx1]
                have hbad : 0 < x1.1 135 2 := by rw [hx1]; exact wr_2 σ (by decide)
                have hfx : RF_ σ0 x1 := by rw [hx1]; exact fp_wr hf (by decide) (by decide)
                have hF : FT_ tp n (2, p) x1 := by rw [hx1]; exact FT_wr hP 2
                have h0 : (0 : Int) < 2 := by decide
                have g19 : x1.1 135 19 = ((os.length : Nat) : Int) := by rw [hx1]; exact (wr_f σ 2 (by decide) (by decide)).trans hc
                have g23 : x1.1 135 23 = ((dpl_ os : Nat) : Int) := by rw [hx1]; exact (wr_f σ 2 (by decide) (by decide)).trans hdp
                have g20 : x1.1 135 20 = ((u : Nat) : Int) := by rw [hx1]; exact (wr_f σ 2 (by decide) (by decide)).trans h20
                have g22 : x1.1 135 22 = ((u : Nat) : Int) := by rw [hx1]; exact (wr_f σ 2 (by decide) (by decide)).trans hu
                have hres : un_ tp n 0 p os u = Sum.inl (2, p) := by unfold un_; rw [if_neg (by simpa using hnn), if_neg h59b, if_pos (by omega)]
                refine ax_load (q := 139) rfl rfl rfl rfl rfl ?_
                refine ax_getf (q := 142) (v := am_I (x1.1 135 2)) rfl rfl (rfl) ?_
                refine ax_if_le (q := 145) (x := 146) rfl rfl (fun h => absurd h (by omega)) (fun h142 => ?_)
                refine ax_ret (r := none) rfl rfl ?_
                exact hN (2, p) hres _ hfx h0 hF
        · refine ax_load (q := 63) rfl rfl rfl rfl rfl ?_
          refine ax_callv (q := 66) rfl rfl rfl rfl rfl rfl ?_
          refine m_isFull (by omega) ?_
          rw [h20, hu]
          rw [show decide (((u : Nat) : Int) = 60 ∨ ((u : Nat) : Int) = 30) = decide (u = 30) from decide_eq_decide.mpr ⟨fun q => by omega, fun q => by omega⟩]
          refine ax_if_ne (q := 69) (x := 78) rfl rfl (fun h66 => ?_) (fun h66 => ?_)
          · have hf66 : u = 30 := of_decide_eq_true (it_n0 h66)
            refine ax_load (q := 79) rfl rfl rfl rfl rfl ?_
            refine ax_const (q := 80) (v := am_I 2) rfl rfl rfl ?_
            refine ax_callv (q := 83) rfl rfl rfl rfl rfl rfl ?_
            refine m_wrong (by omega) ?_
            rw [if_neg (by rw [h02]; decide)]
            obtain ⟨x1, hx1⟩ : ∃ s, s = wr_ σ 2 := ⟨_, rfl⟩
            rw [← hx1]
            have hbad : 0 < x1.1 135 2 := by rw [hx1]; exact wr_2 σ (by decide)
            have hfx : RF_ σ0 x1 := by rw [hx1]; exact fp_wr hf (by decide) (by decide)
            have hF : FT_ tp n (2, p) x1 := by rw [hx1]; exact FT_wr hP 2
            have h0 : (0 : Int) < 2 := by decide
            have g19 : x1.1 135 19 = ((os.length : Nat) : Int) := by rw [hx1]; exact (wr_f σ 2 (by decide) (by decide)).trans hc
            have g23 : x1.1 135 23 = ((dpl_ os : Nat) : Int) := by rw [hx1]; exact (wr_f σ 2 (by decide) (by decide)).trans hdp
            have g20 : x1.1 135 20 = ((u : Nat) : Int) := by rw [hx1]; exact (wr_f σ 2 (by decide) (by decide)).trans h20
            have g22 : x1.1 135 22 = ((u : Nat) : Int) := by rw [hx1]; exact (wr_f σ 2 (by decide) (by decide)).trans hu
            have hres : un_ tp n 0 p os u = Sum.inl (2, p) := by unfold un_; rw [if_neg (by simpa using hnn), if_pos h59b]
            refine ax_load (q := 84) rfl rfl rfl rfl rfl ?_
            refine ax_callv (q := 87) rfl rfl rfl rfl rfl rfl ?_
            refine m_countUnit (by omega) g20 g22 (by omega) (by omega) ?_
            obtain ⟨x2b, hx2⟩ : ∃ s, s = cu_ x1 u u := ⟨_, rfl⟩
            rw [← hx2]
            have hbad2 : 0 < x2b.1 135 2 := by rw [hx2, cu_f x1 u u (by decide) (by decide)]; exact hbad
            have hfx2 : RF_ σ0 x2b := by rw [hx2]; exact fp_cu hfx (by decide) (by decide)
            have hF2 : FT_ tp n (2, p) x2b := by rw [hx2]; exact ⟨(cu_f x1 u u (by decide) (by decide)).trans hF.1, (cu_f x1 u u (by decide) (by decide)).trans hF.2⟩
            have e19 : x2b.1 135 19 = ((os.length : Nat) : Int) := by rw [hx2]; exact (cu_f x1 u u (by decide) (by decide)).trans g19
            have e23 : x2b.1 135 23 = ((dpl_ os : Nat) : Int) := by rw [hx2]; exact (cu_f x1 u u (by decide) (by decide)).trans g23
            refine ax_load (q := 88) rfl rfl rfl rfl rfl ?_
            refine ax_const (q := 90) (v := am_I 20) rfl rfl rfl ?_
            refine ax_callv (q := 93) rfl rfl rfl rfl rfl rfl ?_
            refine z_openUp (by omega) hbad2 e19 (by omega) e23 (by omega) (by omega) (fun x3 hk3 => ?_)
            have hbad3 : 0 < x3.1 135 2 := by rw [hk3.2.1 2 (by decide)]; exact hbad2
            have hfx3 : RF_ σ0 x3 := RF_.tr hfx2 hk3 (by decide) (by decide) (by decide)
            have hF3 : FT_ tp n (2, p) x3 := ⟨(hk3.2.1 2 (by decide)).trans hF2.1, (hk3.2.1 3 (by decide)).trans hF2.2⟩
            refine ax_goto (x := 2) rfl ?_
            refine ax_load (q := 3) rfl rfl rfl rfl rfl ?_
            refine ax_if_eq (q := 6) (x := 101) rfl rfl (fun h => absurd h (by omega)) (fun h3 => ?_)
            refine ax_load (q := 7) rfl rfl rfl rfl rfl ?_
            refine ax_getf (q := 10) (v := am_I (x3.1 135 2)) rfl rfl (rfl) ?_
            refine ax_if_ne (q := 13) (x := 101) rfl rfl (fun h10 => ?_) (fun h => absurd h (by omega))
            refine ax_load (q := 102) rfl rfl rfl rfl rfl ?_
            refine ax_getf (q := 105) (v := am_I (x3.1 135 2)) rfl rfl (rfl) ?_
            refine ax_if_le (q := 108) (x := 109) rfl rfl (fun h => absurd h (by omega)) (fun h105 => ?_)
            refine ax_ret (r := none) rfl rfl ?_
            exact hN (2, p) hres _ hfx3 h0 hF3
          · have hf66 : ¬ u = 30 := of_decide_eq_false (it_0 (by omega))
            refine ax_load (q := 70) rfl rfl rfl rfl rfl ?_
            refine ax_getf (q := 73) (v := am_I (((dpl_ os) : Nat) : Int)) rfl rfl (am_fg rfl hdp) ?_
            refine ax_const (q := 75) (v := am_I 6) rfl rfl rfl ?_
            refine ax_icmp_le (q := 78) (x := 83) rfl rfl (fun h => absurd h (by omega)) (fun h75 => ?_)
            refine ax_load (q := 79) rfl rfl rfl rfl rfl ?_
            refine ax_const (q := 80) (v := am_I 2) rfl rfl rfl ?_
            refine ax_callv (q := 83) rfl rfl rfl rfl rfl rfl ?_
            refine m_wrong (by omega) ?_
            rw [if_neg (by rw [h02]; decide)]
            obtain ⟨x1, hx1⟩ : ∃ s, s = wr_ σ 2 := ⟨_, rfl⟩
            rw [← hx1]
            have hbad : 0 < x1.1 135 2 := by rw [hx1]; exact wr_2 σ (by decide)
            have hfx : RF_ σ0 x1 := by rw [hx1]; exact fp_wr hf (by decide) (by decide)
            have hF : FT_ tp n (2, p) x1 := by rw [hx1]; exact FT_wr hP 2
            have h0 : (0 : Int) < 2 := by decide
            have g19 : x1.1 135 19 = ((os.length : Nat) : Int) := by rw [hx1]; exact (wr_f σ 2 (by decide) (by decide)).trans hc
            have g23 : x1.1 135 23 = ((dpl_ os : Nat) : Int) := by rw [hx1]; exact (wr_f σ 2 (by decide) (by decide)).trans hdp
            have g20 : x1.1 135 20 = ((u : Nat) : Int) := by rw [hx1]; exact (wr_f σ 2 (by decide) (by decide)).trans h20
            have g22 : x1.1 135 22 = ((u : Nat) : Int) := by rw [hx1]; exact (wr_f σ 2 (by decide) (by decide)).trans hu
            have hres : un_ tp n 0 p os u = Sum.inl (2, p) := by unfold un_; rw [if_neg (by simpa using hnn), if_pos h59b]
            refine ax_load (q := 84) rfl rfl rfl rfl rfl ?_
            refine ax_callv (q := 87) rfl rfl rfl rfl rfl rfl ?_
            refine m_countUnit (by omega) g20 g22 (by omega) (by omega) ?_
            obtain ⟨x2b, hx2⟩ : ∃ s, s = cu_ x1 u u := ⟨_, rfl⟩
            rw [← hx2]
            have hbad2 : 0 < x2b.1 135 2 := by rw [hx2, cu_f x1 u u (by decide) (by decide)]; exact hbad
            have hfx2 : RF_ σ0 x2b := by rw [hx2]; exact fp_cu hfx (by decide) (by decide)
            have hF2 : FT_ tp n (2, p) x2b := by rw [hx2]; exact ⟨(cu_f x1 u u (by decide) (by decide)).trans hF.1, (cu_f x1 u u (by decide) (by decide)).trans hF.2⟩
            have e19 : x2b.1 135 19 = ((os.length : Nat) : Int) := by rw [hx2]; exact (cu_f x1 u u (by decide) (by decide)).trans g19
            have e23 : x2b.1 135 23 = ((dpl_ os : Nat) : Int) := by rw [hx2]; exact (cu_f x1 u u (by decide) (by decide)).trans g23
            refine ax_load (q := 88) rfl rfl rfl rfl rfl ?_
            refine ax_const (q := 90) (v := am_I 20) rfl rfl rfl ?_
            refine ax_callv (q := 93) rfl rfl rfl rfl rfl rfl ?_
            refine z_openUp (by omega) hbad2 e19 (by omega) e23 (by omega) (by omega) (fun x3 hk3 => ?_)
            have hbad3 : 0 < x3.1 135 2 := by rw [hk3.2.1 2 (by decide)]; exact hbad2
            have hfx3 : RF_ σ0 x3 := RF_.tr hfx2 hk3 (by decide) (by decide) (by decide)
            have hF3 : FT_ tp n (2, p) x3 := ⟨(hk3.2.1 2 (by decide)).trans hF2.1, (hk3.2.1 3 (by decide)).trans hF2.2⟩
            refine ax_goto (x := 2) rfl ?_
            refine ax_load (q := 3) rfl rfl rfl rfl rfl ?_
            refine ax_if_eq (q := 6) (x := 101) rfl rfl (fun h => absurd h (by omega)) (fun h3 => ?_)
            refine ax_load (q := 7) rfl rfl rfl rfl rfl ?_
            refine ax_getf (q := 10) (v := am_I (x3.1 135 2)) rfl rfl (rfl) ?_
            refine ax_if_ne (q := 13) (x := 101) rfl rfl (fun h10 => ?_) (fun h => absurd h (by omega))
            refine ax_load (q := 102) rfl rfl rfl rfl rfl ?_
            refine ax_getf (q := 105) (v := am_I (x3.1 135 2)) rfl rfl (rfl) ?_
            refine ax_if_le (q := 108) (x := 109) rfl rfl (fun h => absurd h (by omega)) (fun h105 => ?_)
            refine ax_ret (r := none) rfl rfl ?_
            exact hN (2, p) hres _ hfx3 h0 hF3
      · have hb27 := it_n0 h27
        refine ax_load (q := 31) rfl rfl rfl rfl rfl ?_
        refine ax_getf (q := 34) (v := am_I (((dpl_ os) : Nat) : Int)) rfl rfl (am_fg rfl hdp) ?_
        refine ax_const (q := 36) (v := am_I 6) rfl rfl rfl ?_
        refine ax_icmp_le (q := 39) (x := 44) rfl rfl (fun h => absurd h (by omega)) (fun h36 => ?_)
        refine ax_load (q := 40) rfl rfl rfl rfl rfl ?_
        refine ax_const (q := 41) (v := am_I 2) rfl rfl rfl ?_
        refine ax_callv (q := 44) rfl rfl rfl rfl rfl rfl ?_
        refine m_wrong (by omega) ?_
        rw [if_neg (by rw [h02]; decide)]
        obtain ⟨x1, hx1⟩ : ∃ s, s = wr_ σ 2 := ⟨_, rfl⟩
        rw [← hx1]
        have hbad : 0 < x1.1 135 2 := by rw [hx1]; exact wr_2 σ (by decide)
        have hfx : RF_ σ0 x1 := by rw [hx1]; exact fp_wr hf (by decide) (by decide)
        have hF : FT_ tp n (2, p) x1 := by rw [hx1]; exact FT_wr hP 2
        have h0 : (0 : Int) < 2 := by decide
        have g19 : x1.1 135 19 = ((os.length : Nat) : Int) := by rw [hx1]; exact (wr_f σ 2 (by decide) (by decide)).trans hc
        have g23 : x1.1 135 23 = ((dpl_ os : Nat) : Int) := by rw [hx1]; exact (wr_f σ 2 (by decide) (by decide)).trans hdp
        have g20 : x1.1 135 20 = ((u : Nat) : Int) := by rw [hx1]; exact (wr_f σ 2 (by decide) (by decide)).trans h20
        have g22 : x1.1 135 22 = ((u : Nat) : Int) := by rw [hx1]; exact (wr_f σ 2 (by decide) (by decide)).trans hu
        have hres : un_ tp n 0 p os u = Sum.inl (2, p) := by unfold un_; rw [if_pos (by rw [hb20, hb27]; rfl)]
        refine ax_load (q := 45) rfl rfl rfl rfl rfl ?_
        refine ax_const (q := 47) (v := am_I 21) rfl rfl rfl ?_
        refine ax_callv (q := 50) rfl rfl rfl rfl rfl rfl ?_
        refine z_openUp (by omega) hbad g19 (by omega) g23 (by omega) (by omega) (fun x3 hk3 => ?_)
        have hbad3 : 0 < x3.1 135 2 := by rw [hk3.2.1 2 (by decide)]; exact hbad
        have hfx3 : RF_ σ0 x3 := RF_.tr hfx hk3 (by decide) (by decide) (by decide)
        have hF3 : FT_ tp n (2, p) x3 := ⟨(hk3.2.1 2 (by decide)).trans hF.1, (hk3.2.1 3 (by decide)).trans hF.2⟩
        refine ax_goto (x := 2) rfl ?_
        refine ax_load (q := 3) rfl rfl rfl rfl rfl ?_
        refine ax_if_eq (q := 6) (x := 101) rfl rfl (fun h => absurd h (by omega)) (fun h3 => ?_)
        refine ax_load (q := 7) rfl rfl rfl rfl rfl ?_
        refine ax_getf (q := 10) (v := am_I (x3.1 135 2)) rfl rfl (rfl) ?_
        refine ax_if_ne (q := 13) (x := 101) rfl rfl (fun h10 => ?_) (fun h => absurd h (by omega))
        refine ax_load (q := 102) rfl rfl rfl rfl rfl ?_
        refine ax_getf (q := 105) (v := am_I (x3.1 135 2)) rfl rfl (rfl) ?_
        refine ax_if_le (q := 108) (x := 109) rfl rfl (fun h => absurd h (by omega)) (fun h105 => ?_)
        refine ax_ret (r := none) rfl rfl ?_
        exact hN (2, p) hres _ hfx3 h0 hF3
  | succ m ih =>
    intro p os u x2 σ hT hf hdm hu30 hol hsl hN hY
    obtain ⟨hP, h02, hc, hos, hdp, hu, hR⟩ := hT
    have h20 : σ.1 135 20 = ((u : Nat) : Int) := (hR.2.1 20 (by decide)).trans (tq_20 _ _ _)
    have h17 : σ.1 135 17 = ((st.length : Nat) : Int) := (hR.2.1 17 (by decide)).trans (tq_17 _ _ _)
    have k6 := hP.1.2.1
    have k8 := hP.1.2.2.2.1
    have k9 := hP.1.2.2.2.2
    refine ax_load (q := 3) rfl rfl rfl rfl rfl ?_
    refine ax_if_eq (q := 6) (x := 101) rfl rfl (fun h => absurd h (by omega)) (fun h3 => ?_)
    refine ax_load (q := 7) rfl rfl rfl rfl rfl ?_
    refine ax_getf (q := 10) (v := am_I 0) rfl rfl (am_fg rfl h02) ?_
    refine ax_if_ne (q := 13) (x := 101) rfl rfl (fun h => absurd h (by omega)) (fun h10 => ?_)
    refine ax_load (q := 14) rfl rfl rfl rfl rfl ?_
    refine ax_const (q := 17) (v := am_J 7237492) rfl rfl rfl ?_
    refine ax_callv (q := 20) rfl rfl rfl rfl rfl rfl ?_
    refine m_isWord (by omega) ?_
    rw [k6, k9]
    show aW d 4 k_X9_unit Q 20 _ [am_I (if nt_ tp n p then 1 else 0)] σ
    refine ax_if_eq (q := 23) (x := 53) rfl rfl (fun h20b => ?_) (fun h20b => ?_)
    · have hnn : ¬ (nt_ tp n p = true ∧ mnl_ os = true) := fun q => by rw [it_0 h20b] at q; cases q.1
      refine ax_load (q := 54) rfl rfl rfl rfl rfl ?_
      refine ax_getf (q := 57) (v := am_I (tks_ tp n p)) rfl rfl (am_fg rfl k6) ?_
      refine ax_const (q := 59) (v := am_I 40) rfl rfl rfl ?_
      refine ax_icmp_ne (q := 62) (x := 96) rfl rfl (fun h59b => ?_) (fun h59b => ?_)
      · refine ax_const (q := 97) (v := am_I 0) rfl rfl rfl ?_
        refine ax_store (q := 98) (L' := [some (am_R 135), some (am_I 0), x2]) rfl rfl rfl rfl rfl rfl ?_
        refine ax_goto (x := 2) rfl ?_
        refine ax_load (q := 3) rfl rfl rfl rfl rfl ?_
        refine ax_if_eq (q := 6) (x := 101) rfl rfl (fun h3 => ?_) (fun h => absurd h (by omega))
        refine ax_load (q := 102) rfl rfl rfl rfl rfl ?_
        refine ax_getf (q := 105) (v := am_I 0) rfl rfl (am_fg rfl h02) ?_
        refine ax_if_le (q := 108) (x := 109) rfl rfl (fun h105 => ?_) (fun h => absurd h (by omega))
        refine ax_load (q := 110) rfl rfl rfl rfl rfl ?_
        refine ax_callv (q := 113) rfl rfl rfl rfl rfl rfl ?_
        refine m_asked (by omega) ?_
        rw [k6, k9]
        show aW d 4 k_X9_unit Q 113 _ [am_I (as2_ tp n p)] σ
        refine ax_store (q := 114) (L' := [some (am_R 135), some (am_I 0), some (am_I (as2_ tp n p))]) rfl rfl rfl rfl rfl rfl ?_
        refine ax_load (q := 115) rfl rfl rfl rfl rfl ?_
        refine ax_getf (q := 118) (v := am_I (tks_ tp n p)) rfl rfl (am_fg rfl k6) ?_
        refine ax_const (q := 119) (v := am_I 2) rfl rfl rfl ?_
        refine ax_icmp_eq (q := 122) (x := 126) rfl rfl (fun h119 => ?_) (fun h119 => ?_)
        · refine ax_load (q := 127) rfl rfl rfl rfl rfl ?_
          refine ax_callv (q := 130) rfl rfl rfl rfl rfl rfl ?_
          refine m_isFull (by omega) ?_
          rw [h20, hu]
          rw [show decide (((u : Nat) : Int) = 60 ∨ ((u : Nat) : Int) = 30) = decide (u = 30) from decide_eq_decide.mpr ⟨fun q => by omega, fun q => by omega⟩]
          refine ax_if_eq (q := 133) (x := 138) rfl rfl (fun h130 => ?_) (fun h130 => ?_)
          · have hf130 : ¬ u = 30 := of_decide_eq_false (it_0 h130)
            refine ax_load (q := 139) rfl rfl rfl rfl rfl ?_
            refine ax_getf (q := 142) (v := am_I 0) rfl rfl (am_fg rfl h02) ?_
            refine ax_if_le (q := 145) (x := 146) rfl rfl (fun h142 => ?_) (fun h => absurd h (by omega))
            refine ax_load (q := 147) rfl rfl rfl rfl rfl ?_
            refine ax_callv (q := 150) rfl rfl rfl rfl rfl rfl ?_
            refine m_countUnit (by omega) h20 hu (by omega) (by omega) ?_
            have hPc : PS_ tp n p (cu_ σ u u) := by unfold cu_; rw [← sI_at σ 135 (am_up (σ.1 135) 20 ((u + 1 : Nat) : Int)), ← sI_sI]; exact PS_s5 (PS_s5 hP (by decide)) (by decide)
            have hfc : RF_ σ0 (cu_ σ u u) := fp_cu hf (by decide) (by decide)
            have hRc := RS_.cu (o := u) hR
            have c02 : (cu_ σ u u).1 135 2 = 0 := (cu_f σ u u (by decide) (by decide)).trans h02
            have c19 : (cu_ σ u u).1 135 19 = _ := (cu_f σ u u (by decide) (by decide)).trans hc
            have c23 : (cu_ σ u u).1 135 23 = _ := (cu_f σ u u (by decide) (by decide)).trans hdp
            have c22 : (cu_ σ u u).1 135 22 = ((u + 1 : Nat) : Int) := by unfold cu_; rw [sI_at, am_up_same]
            refine ax_load (q := 151) rfl rfl rfl rfl rfl ?_
            refine ax_load (q := 152) rfl rfl rfl rfl rfl ?_
            refine ax_if_ge (q := 155) (x := 159) rfl rfl (fun h152 => ?_) (fun h152 => ?_)
            · refine ax_const (q := 160) (v := am_I 1) rfl rfl rfl ?_
              refine ax_load (q := 161) rfl rfl rfl rfl rfl ?_
              refine ax_if_ge (q := 164) (x := 171) rfl rfl (fun h161 => ?_) (fun h161 => ?_)
              · refine ax_load (q := 172) rfl rfl rfl rfl rfl ?_
                refine ax_callv (q := 175) rfl rfl rfl rfl rfl rfl ?_
                have hres : un_ tp n (m + 1) p os u = Sum.inr (nxp_ tp n p, os, u + 1, sp1_ tp n p) := by unfold un_; rw [if_neg (by simpa using hnn), if_neg h59b, if_neg (by omega)]
                refine m_add (by omega) (s := st.length) ((hRc.2.1 17 (by decide)).trans (tq_17 _ _ _)) (by omega) ?_
                refine ax_load (q := 176) rfl rfl rfl rfl rfl ?_
                refine ax_callv (q := 179) rfl rfl rfl rfl rfl rfl ?_
                have hfa : fp_ [138, 139] [17] [] (cu_ σ u u) (ad_ (cu_ σ u u) st.length 1 (as2_ tp n p)) := fp_ad (fp_rf _ _ _ _) (by decide) (by decide) (by decide)
                have hRa : RS_ (tq_ D (u + 1) (st ++ [sp1_ tp n p])) (ad_ (cu_ σ u u) st.length 1 (as2_ tp n p)) := by
                  refine RS_.dt hRc hfa (by decide) rfl ?_ ?_
                  · show _ = am_up ((cu_ σ u u).1 138) st.length (sp1_ tp n p).1
                    unfold sp1_; dsimp only; rw [if_neg (by omega)]; rfl
                  · show _ = am_up ((cu_ σ u u).1 139) st.length (sp1_ tp n p).2
                    unfold sp1_; dsimp only; rw [if_neg (by omega)]; rfl
                have hPa : PS_ tp n p (ad_ (cu_ σ u u) st.length 1 (as2_ tp n p)) := PS_s5 (PS_sI (PS_sI hPc (by decide) (by decide)) (by decide) (by decide)) (by decide)
                refine m_tokenN (by omega) hPa (fun σ4 hk4 hP4 => ?_)
                refine ax_ret (r := none) rfl rfl ?_
                refine hY (nxp_ tp n p, os, u + 1, sp1_ tp n p) hres σ4 (RF_.tr (RF_.tr hfc hfa (by decide) (by decide) (by decide)) hk4 (by decide) (by decide) (by decide)) ⟨hP4, ?_, ?_, ?_, ?_, ?_, RS_.tok hRa hk4 (by decide)⟩ ⟨by dsimp only; omega, by dsimp only; omega, by dsimp only; omega, by dsimp only; rw [List.length_append]; show _ + 1 + _ + 1 ≤ _; omega⟩
                · rw [hk4.2.1 2 (by decide), hfa.2.1 2 (by decide)]; exact c02
                · rw [hk4.2.1 19 (by decide), hfa.2.1 19 (by decide)]; exact c19
                · rw [hk4.1 142 (by decide) (by decide), hfa.1 142 (by decide) (by decide)]; exact hos
                · rw [hk4.2.1 23 (by decide), hfa.2.1 23 (by decide)]; exact c23
                · rw [hk4.2.1 22 (by decide), hfa.2.1 22 (by decide)]; exact c22
              · refine ax_load (q := 165) rfl rfl rfl rfl rfl ?_
                refine ax_getf (q := 168) (v := am_I (tkn_ tp n p)) rfl rfl (am_fg rfl ((cu_f σ u u (by decide) (by decide)).trans k8)) ?_
                refine ax_goto (x := 172) rfl ?_
                refine ax_callv (q := 175) rfl rfl rfl rfl rfl rfl ?_
                exfalso; omega
            · refine ax_const (q := 156) (v := am_I 0) rfl rfl rfl ?_
              refine ax_goto (x := 160) rfl ?_
              refine ax_load (q := 161) rfl rfl rfl rfl rfl ?_
              refine ax_if_ge (q := 164) (x := 171) rfl rfl (fun h161 => ?_) (fun h161 => ?_)
              · refine ax_load (q := 172) rfl rfl rfl rfl rfl ?_
                refine ax_callv (q := 175) rfl rfl rfl rfl rfl rfl ?_
                exfalso; omega
              · refine ax_load (q := 165) rfl rfl rfl rfl rfl ?_
                refine ax_getf (q := 168) (v := am_I (tkn_ tp n p)) rfl rfl (am_fg rfl ((cu_f σ u u (by decide) (by decide)).trans k8)) ?_
                refine ax_goto (x := 172) rfl ?_
                refine ax_callv (q := 175) rfl rfl rfl rfl rfl rfl ?_
                have hres : un_ tp n (m + 1) p os u = Sum.inr (nxp_ tp n p, os, u + 1, sp1_ tp n p) := by unfold un_; rw [if_neg (by simpa using hnn), if_neg h59b, if_neg (by omega)]
                refine m_add (by omega) (s := st.length) ((hRc.2.1 17 (by decide)).trans (tq_17 _ _ _)) (by omega) ?_
                refine ax_load (q := 176) rfl rfl rfl rfl rfl ?_
                refine ax_callv (q := 179) rfl rfl rfl rfl rfl rfl ?_
                have hfa : fp_ [138, 139] [17] [] (cu_ σ u u) (ad_ (cu_ σ u u) st.length 0 (tkn_ tp n p)) := fp_ad (fp_rf _ _ _ _) (by decide) (by decide) (by decide)
                have hRa : RS_ (tq_ D (u + 1) (st ++ [sp1_ tp n p])) (ad_ (cu_ σ u u) st.length 0 (tkn_ tp n p)) := by
                  refine RS_.dt hRc hfa (by decide) rfl ?_ ?_
                  · show _ = am_up ((cu_ σ u u).1 138) st.length (sp1_ tp n p).1
                    unfold sp1_; dsimp only; rw [if_pos (by omega)]; rfl
                  · show _ = am_up ((cu_ σ u u).1 139) st.length (sp1_ tp n p).2
                    unfold sp1_; dsimp only; rw [if_pos (by omega)]; rfl
                have hPa : PS_ tp n p (ad_ (cu_ σ u u) st.length 0 (tkn_ tp n p)) := PS_s5 (PS_sI (PS_sI hPc (by decide) (by decide)) (by decide) (by decide)) (by decide)
                refine m_tokenN (by omega) hPa (fun σ4 hk4 hP4 => ?_)
                refine ax_ret (r := none) rfl rfl ?_
                refine hY (nxp_ tp n p, os, u + 1, sp1_ tp n p) hres σ4 (RF_.tr (RF_.tr hfc hfa (by decide) (by decide) (by decide)) hk4 (by decide) (by decide) (by decide)) ⟨hP4, ?_, ?_, ?_, ?_, ?_, RS_.tok hRa hk4 (by decide)⟩ ⟨by dsimp only; omega, by dsimp only; omega, by dsimp only; omega, by dsimp only; rw [List.length_append]; show _ + 1 + _ + 1 ≤ _; omega⟩
                · rw [hk4.2.1 2 (by decide), hfa.2.1 2 (by decide)]; exact c02
                · rw [hk4.2.1 19 (by decide), hfa.2.1 19 (by decide)]; exact c19
                · rw [hk4.1 142 (by decide) (by decide), hfa.1 142 (by decide) (by decide)]; exact hos
                · rw [hk4.2.1 23 (by decide), hfa.2.1 23 (by decide)]; exact c23
                · rw [hk4.2.1 22 (by decide), hfa.2.1 22 (by decide)]; exact c22
          · have hf130 : u = 30 := of_decide_eq_true (it_n0 h130)
            refine ax_load (q := 134) rfl rfl rfl rfl rfl ?_
            refine ax_const (q := 135) (v := am_I 2) rfl rfl rfl ?_
            refine ax_callv (q := 138) rfl rfl rfl rfl rfl rfl ?_
            refine m_wrong (by omega) ?_
            rw [if_neg (by rw [h02]; decide)]
            obtain ⟨x1, hx1⟩ : ∃ s, s = wr_ σ 2 := ⟨_, rfl⟩
            rw [← hx1]
            have hbad : 0 < x1.1 135 2 := by rw [hx1]; exact wr_2 σ (by decide)
            have hfx : RF_ σ0 x1 := by rw [hx1]; exact fp_wr hf (by decide) (by decide)
            have hF : FT_ tp n (2, p) x1 := by rw [hx1]; exact FT_wr hP 2
            have h0 : (0 : Int) < 2 := by decide
            have g19 : x1.1 135 19 = ((os.length : Nat) : Int) := by rw [hx1]; exact (wr_f σ 2 (by decide) (by decide)).trans hc
            have g23 : x1.1 135 23 = ((dpl_ os : Nat) : Int) := by rw [hx1]; exact (wr_f σ 2 (by decide) (by decide)).trans hdp
            have g20 : x1.1 135 20 = ((u : Nat) : Int) := by rw [hx1]; exact (wr_f σ 2 (by decide) (by decide)).trans h20
            have g22 : x1.1 135 22 = ((u : Nat) : Int) := by rw [hx1]; exact (wr_f σ 2 (by decide) (by decide)).trans hu
            have hres : un_ tp n (m + 1) p os u = Sum.inl (2, p) := by unfold un_; rw [if_neg (by simpa using hnn), if_neg h59b, if_pos (by omega)]
            refine ax_load (q := 139) rfl rfl rfl rfl rfl ?_
            refine ax_getf (q := 142) (v := am_I (x1.1 135 2)) rfl rfl (rfl) ?_
            refine ax_if_le (q := 145) (x := 146) rfl rfl (fun h => absurd h (by omega)) (fun h142 => ?_)
            refine ax_ret (r := none) rfl rfl ?_
            exact hN (2, p) hres _ hfx h0 hF
        · refine ax_load (q := 123) rfl rfl rfl rfl rfl ?_
          refine ax_if_lt (q := 126) (x := 133) rfl rfl (fun h123 => ?_) (fun h123 => ?_)
          · refine ax_load (q := 134) rfl rfl rfl rfl rfl ?_
            refine ax_const (q := 135) (v := am_I 2) rfl rfl rfl ?_
            refine ax_callv (q := 138) rfl rfl rfl rfl rfl rfl ?_
            refine m_wrong (by omega) ?_
            rw [if_neg (by rw [h02]; decide)]
            obtain ⟨x1, hx1⟩ : ∃ s, s = wr_ σ 2 := ⟨_, rfl⟩
            rw [← hx1]
            have hbad : 0 < x1.1 135 2 := by rw [hx1]; exact wr_2 σ (by decide)
            have hfx : RF_ σ0 x1 := by rw [hx1]; exact fp_wr hf (by decide) (by decide)
            have hF : FT_ tp n (2, p) x1 := by rw [hx1]; exact FT_wr hP 2
            have h0 : (0 : Int) < 2 := by decide
            have g19 : x1.1 135 19 = ((os.length : Nat) : Int) := by rw [hx1]; exact (wr_f σ 2 (by decide) (by decide)).trans hc
            have g23 : x1.1 135 23 = ((dpl_ os : Nat) : Int) := by rw [hx1]; exact (wr_f σ 2 (by decide) (by decide)).trans hdp
            have g20 : x1.1 135 20 = ((u : Nat) : Int) := by rw [hx1]; exact (wr_f σ 2 (by decide) (by decide)).trans h20
            have g22 : x1.1 135 22 = ((u : Nat) : Int) := by rw [hx1]; exact (wr_f σ 2 (by decide) (by decide)).trans hu
            have hres : un_ tp n (m + 1) p os u = Sum.inl (2, p) := by unfold un_; rw [if_neg (by simpa using hnn), if_neg h59b, if_pos (by omega)]
            refine ax_load (q := 139) rfl rfl rfl rfl rfl ?_
            refine ax_getf (q := 142) (v := am_I (x1.1 135 2)) rfl rfl (rfl) ?_
            refine ax_if_le (q := 145) (x := 146) rfl rfl (fun h => absurd h (by omega)) (fun h142 => ?_)
            refine ax_ret (r := none) rfl rfl ?_
            exact hN (2, p) hres _ hfx h0 hF
          · refine ax_load (q := 127) rfl rfl rfl rfl rfl ?_
            refine ax_callv (q := 130) rfl rfl rfl rfl rfl rfl ?_
            refine m_isFull (by omega) ?_
            rw [h20, hu]
            rw [show decide (((u : Nat) : Int) = 60 ∨ ((u : Nat) : Int) = 30) = decide (u = 30) from decide_eq_decide.mpr ⟨fun q => by omega, fun q => by omega⟩]
            refine ax_if_eq (q := 133) (x := 138) rfl rfl (fun h130 => ?_) (fun h130 => ?_)
            · have hf130 : ¬ u = 30 := of_decide_eq_false (it_0 h130)
              refine ax_load (q := 139) rfl rfl rfl rfl rfl ?_
              refine ax_getf (q := 142) (v := am_I 0) rfl rfl (am_fg rfl h02) ?_
              refine ax_if_le (q := 145) (x := 146) rfl rfl (fun h142 => ?_) (fun h => absurd h (by omega))
              refine ax_load (q := 147) rfl rfl rfl rfl rfl ?_
              refine ax_callv (q := 150) rfl rfl rfl rfl rfl rfl ?_
              refine m_countUnit (by omega) h20 hu (by omega) (by omega) ?_
              have hPc : PS_ tp n p (cu_ σ u u) := by unfold cu_; rw [← sI_at σ 135 (am_up (σ.1 135) 20 ((u + 1 : Nat) : Int)), ← sI_sI]; exact PS_s5 (PS_s5 hP (by decide)) (by decide)
              have hfc : RF_ σ0 (cu_ σ u u) := fp_cu hf (by decide) (by decide)
              have hRc := RS_.cu (o := u) hR
              have c02 : (cu_ σ u u).1 135 2 = 0 := (cu_f σ u u (by decide) (by decide)).trans h02
              have c19 : (cu_ σ u u).1 135 19 = _ := (cu_f σ u u (by decide) (by decide)).trans hc
              have c23 : (cu_ σ u u).1 135 23 = _ := (cu_f σ u u (by decide) (by decide)).trans hdp
              have c22 : (cu_ σ u u).1 135 22 = ((u + 1 : Nat) : Int) := by unfold cu_; rw [sI_at, am_up_same]
              refine ax_load (q := 151) rfl rfl rfl rfl rfl ?_
              refine ax_load (q := 152) rfl rfl rfl rfl rfl ?_
              refine ax_if_ge (q := 155) (x := 159) rfl rfl (fun h152 => ?_) (fun h152 => ?_)
              · refine ax_const (q := 160) (v := am_I 1) rfl rfl rfl ?_
                refine ax_load (q := 161) rfl rfl rfl rfl rfl ?_
                refine ax_if_ge (q := 164) (x := 171) rfl rfl (fun h161 => ?_) (fun h161 => ?_)
                · refine ax_load (q := 172) rfl rfl rfl rfl rfl ?_
                  refine ax_callv (q := 175) rfl rfl rfl rfl rfl rfl ?_
                  have hres : un_ tp n (m + 1) p os u = Sum.inr (nxp_ tp n p, os, u + 1, sp1_ tp n p) := by unfold un_; rw [if_neg (by simpa using hnn), if_neg h59b, if_neg (by omega)]
                  refine m_add (by omega) (s := st.length) ((hRc.2.1 17 (by decide)).trans (tq_17 _ _ _)) (by omega) ?_
                  refine ax_load (q := 176) rfl rfl rfl rfl rfl ?_
                  refine ax_callv (q := 179) rfl rfl rfl rfl rfl rfl ?_
                  have hfa : fp_ [138, 139] [17] [] (cu_ σ u u) (ad_ (cu_ σ u u) st.length 1 (as2_ tp n p)) := fp_ad (fp_rf _ _ _ _) (by decide) (by decide) (by decide)
                  have hRa : RS_ (tq_ D (u + 1) (st ++ [sp1_ tp n p])) (ad_ (cu_ σ u u) st.length 1 (as2_ tp n p)) := by
                    refine RS_.dt hRc hfa (by decide) rfl ?_ ?_
                    · show _ = am_up ((cu_ σ u u).1 138) st.length (sp1_ tp n p).1
                      unfold sp1_; dsimp only; rw [if_neg (by omega)]; rfl
                    · show _ = am_up ((cu_ σ u u).1 139) st.length (sp1_ tp n p).2
                      unfold sp1_; dsimp only; rw [if_neg (by omega)]; rfl
                  have hPa : PS_ tp n p (ad_ (cu_ σ u u) st.length 1 (as2_ tp n p)) := PS_s5 (PS_sI (PS_sI hPc (by decide) (by decide)) (by decide) (by decide)) (by decide)
                  refine m_tokenN (by omega) hPa (fun σ4 hk4 hP4 => ?_)
                  refine ax_ret (r := none) rfl rfl ?_
                  refine hY (nxp_ tp n p, os, u + 1, sp1_ tp n p) hres σ4 (RF_.tr (RF_.tr hfc hfa (by decide) (by decide) (by decide)) hk4 (by decide) (by decide) (by decide)) ⟨hP4, ?_, ?_, ?_, ?_, ?_, RS_.tok hRa hk4 (by decide)⟩ ⟨by dsimp only; omega, by dsimp only; omega, by dsimp only; omega, by dsimp only; rw [List.length_append]; show _ + 1 + _ + 1 ≤ _; omega⟩
                  · rw [hk4.2.1 2 (by decide), hfa.2.1 2 (by decide)]; exact c02
                  · rw [hk4.2.1 19 (by decide), hfa.2.1 19 (by decide)]; exact c19
                  · rw [hk4.1 142 (by decide) (by decide), hfa.1 142 (by decide) (by decide)]; exact hos
                  · rw [hk4.2.1 23 (by decide), hfa.2.1 23 (by decide)]; exact c23
                  · rw [hk4.2.1 22 (by decide), hfa.2.1 22 (by decide)]; exact c22
                · refine ax_load (q := 165) rfl rfl rfl rfl rfl ?_
                  refine ax_getf (q := 168) (v := am_I (tkn_ tp n p)) rfl rfl (am_fg rfl ((cu_f σ u u (by decide) (by decide)).trans k8)) ?_
                  refine ax_goto (x := 172) rfl ?_
                  refine ax_callv (q := 175) rfl rfl rfl rfl rfl rfl ?_
                  exfalso; omega
              · refine ax_const (q := 156) (v := am_I 0) rfl rfl rfl ?_
                refine ax_goto (x := 160) rfl ?_
                refine ax_load (q := 161) rfl rfl rfl rfl rfl ?_
                refine ax_if_ge (q := 164) (x := 171) rfl rfl (fun h161 => ?_) (fun h161 => ?_)
                · refine ax_load (q := 172) rfl rfl rfl rfl rfl ?_
                  refine ax_callv (q := 175) rfl rfl rfl rfl rfl rfl ?_
                  exfalso; omega
                · refine ax_load (q := 165) rfl rfl rfl rfl rfl ?_
                  refine ax_getf (q := 168) (v := am_I (tkn_ tp n p)) rfl rfl (am_fg rfl ((cu_f σ u u (by decide) (by decide)).trans k8)) ?_
                  refine ax_goto (x := 172) rfl ?_
                  refine ax_callv (q := 175) rfl rfl rfl rfl rfl rfl ?_
                  have hres : un_ tp n (m + 1) p os u = Sum.inr (nxp_ tp n p, os, u + 1, sp1_ tp n p) := by unfold un_; rw [if_neg (by simpa using hnn), if_neg h59b, if_neg (by omega)]
                  refine m_add (by omega) (s := st.length) ((hRc.2.1 17 (by decide)).trans (tq_17 _ _ _)) (by omega) ?_
                  refine ax_load (q := 176) rfl rfl rfl rfl rfl ?_
                  refine ax_callv (q := 179) rfl rfl rfl rfl rfl rfl ?_
                  have hfa : fp_ [138, 139] [17] [] (cu_ σ u u) (ad_ (cu_ σ u u) st.length 0 (tkn_ tp n p)) := fp_ad (fp_rf _ _ _ _) (by decide) (by decide) (by decide)
                  have hRa : RS_ (tq_ D (u + 1) (st ++ [sp1_ tp n p])) (ad_ (cu_ σ u u) st.length 0 (tkn_ tp n p)) := by
                    refine RS_.dt hRc hfa (by decide) rfl ?_ ?_
                    · show _ = am_up ((cu_ σ u u).1 138) st.length (sp1_ tp n p).1
                      unfold sp1_; dsimp only; rw [if_pos (by omega)]; rfl
                    · show _ = am_up ((cu_ σ u u).1 139) st.length (sp1_ tp n p).2
                      unfold sp1_; dsimp only; rw [if_pos (by omega)]; rfl
                  have hPa : PS_ tp n p (ad_ (cu_ σ u u) st.length 0 (tkn_ tp n p)) := PS_s5 (PS_sI (PS_sI hPc (by decide) (by decide)) (by decide) (by decide)) (by decide)
                  refine m_tokenN (by omega) hPa (fun σ4 hk4 hP4 => ?_)
                  refine ax_ret (r := none) rfl rfl ?_
                  refine hY (nxp_ tp n p, os, u + 1, sp1_ tp n p) hres σ4 (RF_.tr (RF_.tr hfc hfa (by decide) (by decide) (by decide)) hk4 (by decide) (by decide) (by decide)) ⟨hP4, ?_, ?_, ?_, ?_, ?_, RS_.tok hRa hk4 (by decide)⟩ ⟨by dsimp only; omega, by dsimp only; omega, by dsimp only; omega, by dsimp only; rw [List.length_append]; show _ + 1 + _ + 1 ≤ _; omega⟩
                  · rw [hk4.2.1 2 (by decide), hfa.2.1 2 (by decide)]; exact c02
                  · rw [hk4.2.1 19 (by decide), hfa.2.1 19 (by decide)]; exact c19
                  · rw [hk4.1 142 (by decide) (by decide), hfa.1 142 (by decide) (by decide)]; exact hos
                  · rw [hk4.2.1 23 (by decide), hfa.2.1 23 (by decide)]; exact c23
                  · rw [hk4.2.1 22 (by decide), hfa.2.1 22 (by decide)]; exact c22
            · have hf130 : u = 30 := of_decide_eq_true (it_n0 h130)
              refine ax_load (q := 134) rfl rfl rfl rfl rfl ?_
              refine ax_const (q := 135) (v := am_I 2) rfl rfl rfl ?_
              refine ax_callv (q := 138) rfl rfl rfl rfl rfl rfl ?_
              refine m_wrong (by omega) ?_
              rw [if_neg (by rw [h02]; decide)]
              obtain ⟨x1, hx1⟩ : ∃ s, s = wr_ σ 2 := ⟨_, rfl⟩
              rw [← hx1]
              have hbad : 0 < x1.1 135 2 := by rw [hx1]; exact wr_2 σ (by decide)
              have hfx : RF_ σ0 x1 := by rw [hx1]; exact fp_wr hf (by decide) (by decide)
              have hF : FT_ tp n (2, p) x1 := by rw [hx1]; exact FT_wr hP 2
              have h0 : (0 : Int) < 2 := by decide
              have g19 : x1.1 135 19 = ((os.length : Nat) : Int) := by rw [hx1]; exact (wr_f σ 2 (by decide) (by decide)).trans hc
              have g23 : x1.1 135 23 = ((dpl_ os : Nat) : Int) := by rw [hx1]; exact (wr_f σ 2 (by decide) (by decide)).trans hdp
              have g20 : x1.1 135 20 = ((u : Nat) : Int) := by rw [hx1]; exact (wr_f σ 2 (by decide) (by decide)).trans h20
              have g22 : x1.1 135 22 = ((u : Nat) : Int) := by rw [hx1]; exact (wr_f σ 2 (by decide) (by decide)).trans hu
              have hres : un_ tp n (m + 1) p os u = Sum.inl (2, p) := by unfold un_; rw [if_neg (by simpa using hnn), if_neg h59b, if_pos (by omega)]
              refine ax_load (q := 139) rfl rfl rfl rfl rfl ?_
              refine ax_getf (q := 142) (v := am_I (x1.1 135 2)) rfl rfl (rfl) ?_
              refine ax_if_le (q := 145) (x := 146) rfl rfl (fun h => absurd h (by omega)) (fun h142 => ?_)
              refine ax_ret (r := none) rfl rfl ?_
              exact hN (2, p) hres _ hfx h0 hF
      · refine ax_load (q := 63) rfl rfl rfl rfl rfl ?_
        refine ax_callv (q := 66) rfl rfl rfl rfl rfl rfl ?_
        refine m_isFull (by omega) ?_
        rw [h20, hu]
        rw [show decide (((u : Nat) : Int) = 60 ∨ ((u : Nat) : Int) = 30) = decide (u = 30) from decide_eq_decide.mpr ⟨fun q => by omega, fun q => by omega⟩]
        refine ax_if_ne (q := 69) (x := 78) rfl rfl (fun h66 => ?_) (fun h66 => ?_)
        · have hf66 : u = 30 := of_decide_eq_true (it_n0 h66)
          refine ax_load (q := 79) rfl rfl rfl rfl rfl ?_
          refine ax_const (q := 80) (v := am_I 2) rfl rfl rfl ?_
          refine ax_callv (q := 83) rfl rfl rfl rfl rfl rfl ?_
          refine m_wrong (by omega) ?_
          rw [if_neg (by rw [h02]; decide)]
          obtain ⟨x1, hx1⟩ : ∃ s, s = wr_ σ 2 := ⟨_, rfl⟩
          rw [← hx1]
          have hbad : 0 < x1.1 135 2 := by rw [hx1]; exact wr_2 σ (by decide)
          have hfx : RF_ σ0 x1 := by rw [hx1]; exact fp_wr hf (by decide) (by decide)
          have hF : FT_ tp n (2, p) x1 := by rw [hx1]; exact FT_wr hP 2
          have h0 : (0 : Int) < 2 := by decide
          have g19 : x1.1 135 19 = ((os.length : Nat) : Int) := by rw [hx1]; exact (wr_f σ 2 (by decide) (by decide)).trans hc
          have g23 : x1.1 135 23 = ((dpl_ os : Nat) : Int) := by rw [hx1]; exact (wr_f σ 2 (by decide) (by decide)).trans hdp
          have g20 : x1.1 135 20 = ((u : Nat) : Int) := by rw [hx1]; exact (wr_f σ 2 (by decide) (by decide)).trans h20
          have g22 : x1.1 135 22 = ((u : Nat) : Int) := by rw [hx1]; exact (wr_f σ 2 (by decide) (by decide)).trans hu
          have hres : un_ tp n (m + 1) p os u = Sum.inl (2, p) := by unfold un_; rw [if_neg (by simpa using hnn), if_pos h59b]; exact if_pos (by omega)
          refine ax_load (q := 84) rfl rfl rfl rfl rfl ?_
          refine ax_callv (q := 87) rfl rfl rfl rfl rfl rfl ?_
          refine m_countUnit (by omega) g20 g22 (by omega) (by omega) ?_
          obtain ⟨x2b, hx2⟩ : ∃ s, s = cu_ x1 u u := ⟨_, rfl⟩
          rw [← hx2]
          have hbad2 : 0 < x2b.1 135 2 := by rw [hx2, cu_f x1 u u (by decide) (by decide)]; exact hbad
          have hfx2 : RF_ σ0 x2b := by rw [hx2]; exact fp_cu hfx (by decide) (by decide)
          have hF2 : FT_ tp n (2, p) x2b := by rw [hx2]; exact ⟨(cu_f x1 u u (by decide) (by decide)).trans hF.1, (cu_f x1 u u (by decide) (by decide)).trans hF.2⟩
          have e19 : x2b.1 135 19 = ((os.length : Nat) : Int) := by rw [hx2]; exact (cu_f x1 u u (by decide) (by decide)).trans g19
          have e23 : x2b.1 135 23 = ((dpl_ os : Nat) : Int) := by rw [hx2]; exact (cu_f x1 u u (by decide) (by decide)).trans g23
          refine ax_load (q := 88) rfl rfl rfl rfl rfl ?_
          refine ax_const (q := 90) (v := am_I 20) rfl rfl rfl ?_
          refine ax_callv (q := 93) rfl rfl rfl rfl rfl rfl ?_
          refine z_openUp (by omega) hbad2 e19 (by omega) e23 (by omega) (by omega) (fun x3 hk3 => ?_)
          have hbad3 : 0 < x3.1 135 2 := by rw [hk3.2.1 2 (by decide)]; exact hbad2
          have hfx3 : RF_ σ0 x3 := RF_.tr hfx2 hk3 (by decide) (by decide) (by decide)
          have hF3 : FT_ tp n (2, p) x3 := ⟨(hk3.2.1 2 (by decide)).trans hF2.1, (hk3.2.1 3 (by decide)).trans hF2.2⟩
          refine ax_goto (x := 2) rfl ?_
          refine ax_load (q := 3) rfl rfl rfl rfl rfl ?_
          refine ax_if_eq (q := 6) (x := 101) rfl rfl (fun h => absurd h (by omega)) (fun h3 => ?_)
          refine ax_load (q := 7) rfl rfl rfl rfl rfl ?_
          refine ax_getf (q := 10) (v := am_I (x3.1 135 2)) rfl rfl (rfl) ?_
          refine ax_if_ne (q := 13) (x := 101) rfl rfl (fun h10 => ?_) (fun h => absurd h (by omega))
          refine ax_load (q := 102) rfl rfl rfl rfl rfl ?_
          refine ax_getf (q := 105) (v := am_I (x3.1 135 2)) rfl rfl (rfl) ?_
          refine ax_if_le (q := 108) (x := 109) rfl rfl (fun h => absurd h (by omega)) (fun h105 => ?_)
          refine ax_ret (r := none) rfl rfl ?_
          exact hN (2, p) hres _ hfx3 h0 hF3
        · have hf66 : ¬ u = 30 := of_decide_eq_false (it_0 (by omega))
          refine ax_load (q := 70) rfl rfl rfl rfl rfl ?_
          refine ax_getf (q := 73) (v := am_I (((dpl_ os) : Nat) : Int)) rfl rfl (am_fg rfl hdp) ?_
          refine ax_const (q := 75) (v := am_I 6) rfl rfl rfl ?_
          refine ax_icmp_le (q := 78) (x := 83) rfl rfl (fun h75 => ?_) (fun h => absurd h (by omega))
          refine ax_load (q := 84) rfl rfl rfl rfl rfl ?_
          refine ax_callv (q := 87) rfl rfl rfl rfl rfl rfl ?_
          refine m_countUnit (by omega) h20 hu (by omega) (by omega) ?_
          have hPc : PS_ tp n p (cu_ σ u u) := by unfold cu_; rw [← sI_at σ 135 (am_up (σ.1 135) 20 ((u + 1 : Nat) : Int)), ← sI_sI]; exact PS_s5 (PS_s5 hP (by decide)) (by decide)
          have hfc : RF_ σ0 (cu_ σ u u) := fp_cu hf (by decide) (by decide)
          have hRc := RS_.cu (o := u) hR
          have c02 : (cu_ σ u u).1 135 2 = 0 := (cu_f σ u u (by decide) (by decide)).trans h02
          have c19 : (cu_ σ u u).1 135 19 = _ := (cu_f σ u u (by decide) (by decide)).trans hc
          have c23 : (cu_ σ u u).1 135 23 = _ := (cu_f σ u u (by decide) (by decide)).trans hdp
          have c22 : (cu_ σ u u).1 135 22 = ((u + 1 : Nat) : Int) := by unfold cu_; rw [sI_at, am_up_same]
          refine ax_load (q := 88) rfl rfl rfl rfl rfl ?_
          refine ax_const (q := 90) (v := am_I 20) rfl rfl rfl ?_
          refine ax_callv (q := 93) rfl rfl rfl rfl rfl rfl ?_
          refine r_openUp (by omega) hPc c02 c19 (by omega) c23 (by omega) (by omega) (fun σ1 hk1 hP1 h21 h142 h119 h123 => ?_)
          have hn : nt_ tp n p = true ∧ mnl_ os = true → False := hnn
          have hT1 : TE_ tp n D (nxp_ tp n p) (20 :: os) (u + 1) st σ1 := ⟨hP1, h21, h119, by rw [h142]; show ol_ (am_up ((cu_ σ u u).1 142) os.length 20) (os.length + 1) = _; rw [ol_pu]; exact congrArg _ hos, by rw [h123]; show _ = ((dpl_ os + 1 : Nat) : Int); omega, (hk1.2.1 22 (by decide)).trans c22, RS_.fr hRc hk1 (by decide) (by decide)⟩
          have hf1 : RF_ σ0 σ1 := RF_.tr hfc hk1 (by decide) (by decide) (by decide)
          have hst : un_ tp n (m + 1) p os u = un_ tp n m (nxp_ tp n p) (20 :: os) (u + 1) := by rw [un_]; rw [if_neg (by simpa using hnn), if_pos h59b]; exact if_neg hf66
          rw [hst] at hN hY
          refine ax_goto (x := 2) rfl ?_
          exact ih _ _ _ _ _ hT1 hf1 (by show dpl_ os + 1 + m = 7; omega) (by omega) (by show os.length + 1 ≤ dpl_ os + 1 + (u + 1); omega) (by show st.length + (os.length + 1) + m ≤ _; omega) hN hY
    · have hb20 := it_n0 h20b
      refine ax_load (q := 24) rfl rfl rfl rfl rfl ?_
      refine ax_callv (q := 27) rfl rfl rfl rfl rfl rfl ?_
      refine m_mayNot (by omega) rfl hc (by omega) ?_
      rw [mn_ol, hos]
      refine ax_if_eq (q := 30) (x := 53) rfl rfl (fun h27 => ?_) (fun h27 => ?_)
      · have hnn : ¬ (nt_ tp n p = true ∧ mnl_ os = true) := fun q => by rw [it_0 h27] at q; cases q.2
        refine ax_load (q := 54) rfl rfl rfl rfl rfl ?_
        refine ax_getf (q := 57) (v := am_I (tks_ tp n p)) rfl rfl (am_fg rfl k6) ?_
        refine ax_const (q := 59) (v := am_I 40) rfl rfl rfl ?_
        refine ax_icmp_ne (q := 62) (x := 96) rfl rfl (fun h59b => ?_) (fun h59b => ?_)
        · refine ax_const (q := 97) (v := am_I 0) rfl rfl rfl ?_
          refine ax_store (q := 98) (L' := [some (am_R 135), some (am_I 0), x2]) rfl rfl rfl rfl rfl rfl ?_
          refine ax_goto (x := 2) rfl ?_
          refine ax_load (q := 3) rfl rfl rfl rfl rfl ?_
          refine ax_if_eq (q := 6) (x := 101) rfl rfl (fun h3 => ?_) (fun h => absurd h (by omega))
          refine ax_load (q := 102) rfl rfl rfl rfl rfl ?_
          refine ax_getf (q := 105) (v := am_I 0) rfl rfl (am_fg rfl h02) ?_
          refine ax_if_le (q := 108) (x := 109) rfl rfl (fun h105 => ?_) (fun h => absurd h (by omega))
          refine ax_load (q := 110) rfl rfl rfl rfl rfl ?_
          refine ax_callv (q := 113) rfl rfl rfl rfl rfl rfl ?_
          refine m_asked (by omega) ?_
          rw [k6, k9]
          show aW d 4 k_X9_unit Q 113 _ [am_I (as2_ tp n p)] σ
          refine ax_store (q := 114) (L' := [some (am_R 135), some (am_I 0), some (am_I (as2_ tp n p))]) rfl rfl rfl rfl rfl rfl ?_
          refine ax_load (q := 115) rfl rfl rfl rfl rfl ?_
          refine ax_getf (q := 118) (v := am_I (tks_ tp n p)) rfl rfl (am_fg rfl k6) ?_
          refine ax_const (q := 119) (v := am_I 2) rfl rfl rfl ?_
          refine ax_icmp_eq (q := 122) (x := 126) rfl rfl (fun h119 => ?_) (fun h119 => ?_)
          · refine ax_load (q := 127) rfl rfl rfl rfl rfl ?_
            refine ax_callv (q := 130) rfl rfl rfl rfl rfl rfl ?_
            refine m_isFull (by omega) ?_
            rw [h20, hu]
            rw [show decide (((u : Nat) : Int) = 60 ∨ ((u : Nat) : Int) = 30) = decide (u = 30) from decide_eq_decide.mpr ⟨fun q => by omega, fun q => by omega⟩]
            refine ax_if_eq (q := 133) (x := 138) rfl rfl (fun h130 => ?_) (fun h130 => ?_)
            · have hf130 : ¬ u = 30 := of_decide_eq_false (it_0 h130)
              refine ax_load (q := 139) rfl rfl rfl rfl rfl ?_
              refine ax_getf (q := 142) (v := am_I 0) rfl rfl (am_fg rfl h02) ?_
              refine ax_if_le (q := 145) (x := 146) rfl rfl (fun h142 => ?_) (fun h => absurd h (by omega))
              refine ax_load (q := 147) rfl rfl rfl rfl rfl ?_
              refine ax_callv (q := 150) rfl rfl rfl rfl rfl rfl ?_
              refine m_countUnit (by omega) h20 hu (by omega) (by omega) ?_
              have hPc : PS_ tp n p (cu_ σ u u) := by unfold cu_; rw [← sI_at σ 135 (am_up (σ.1 135) 20 ((u + 1 : Nat) : Int)), ← sI_sI]; exact PS_s5 (PS_s5 hP (by decide)) (by decide)
              have hfc : RF_ σ0 (cu_ σ u u) := fp_cu hf (by decide) (by decide)
              have hRc := RS_.cu (o := u) hR
              have c02 : (cu_ σ u u).1 135 2 = 0 := (cu_f σ u u (by decide) (by decide)).trans h02
              have c19 : (cu_ σ u u).1 135 19 = _ := (cu_f σ u u (by decide) (by decide)).trans hc
              have c23 : (cu_ σ u u).1 135 23 = _ := (cu_f σ u u (by decide) (by decide)).trans hdp
              have c22 : (cu_ σ u u).1 135 22 = ((u + 1 : Nat) : Int) := by unfold cu_; rw [sI_at, am_up_same]
              refine ax_load (q := 151) rfl rfl rfl rfl rfl ?_
              refine ax_load (q := 152) rfl rfl rfl rfl rfl ?_
              refine ax_if_ge (q := 155) (x := 159) rfl rfl (fun h152 => ?_) (fun h152 => ?_)
              · refine ax_const (q := 160) (v := am_I 1) rfl rfl rfl ?_
                refine ax_load (q := 161) rfl rfl rfl rfl rfl ?_
                refine ax_if_ge (q := 164) (x := 171) rfl rfl (fun h161 => ?_) (fun h161 => ?_)
                · refine ax_load (q := 172) rfl rfl rfl rfl rfl ?_
                  refine ax_callv (q := 175) rfl rfl rfl rfl rfl rfl ?_
                  have hres : un_ tp n (m + 1) p os u = Sum.inr (nxp_ tp n p, os, u + 1, sp1_ tp n p) := by unfold un_; rw [if_neg (by simpa using hnn), if_neg h59b, if_neg (by omega)]
                  refine m_add (by omega) (s := st.length) ((hRc.2.1 17 (by decide)).trans (tq_17 _ _ _)) (by omega) ?_
                  refine ax_load (q := 176) rfl rfl rfl rfl rfl ?_
                  refine ax_callv (q := 179) rfl rfl rfl rfl rfl rfl ?_
                  have hfa : fp_ [138, 139] [17] [] (cu_ σ u u) (ad_ (cu_ σ u u) st.length 1 (as2_ tp n p)) := fp_ad (fp_rf _ _ _ _) (by decide) (by decide) (by decide)
                  have hRa : RS_ (tq_ D (u + 1) (st ++ [sp1_ tp n p])) (ad_ (cu_ σ u u) st.length 1 (as2_ tp n p)) := by
                    refine RS_.dt hRc hfa (by decide) rfl ?_ ?_
                    · show _ = am_up ((cu_ σ u u).1 138) st.length (sp1_ tp n p).1
                      unfold sp1_; dsimp only; rw [if_neg (by omega)]; rfl
                    · show _ = am_up ((cu_ σ u u).1 139) st.length (sp1_ tp n p).2
                      unfold sp1_; dsimp only; rw [if_neg (by omega)]; rfl
                  have hPa : PS_ tp n p (ad_ (cu_ σ u u) st.length 1 (as2_ tp n p)) := PS_s5 (PS_sI (PS_sI hPc (by decide) (by decide)) (by decide) (by decide)) (by decide)
                  refine m_tokenN (by omega) hPa (fun σ4 hk4 hP4 => ?_)
                  refine ax_ret (r := none) rfl rfl ?_
                  refine hY (nxp_ tp n p, os, u + 1, sp1_ tp n p) hres σ4 (RF_.tr (RF_.tr hfc hfa (by decide) (by decide) (by decide)) hk4 (by decide) (by decide) (by decide)) ⟨hP4, ?_, ?_, ?_, ?_, ?_, RS_.tok hRa hk4 (by decide)⟩ ⟨by dsimp only; omega, by dsimp only; omega, by dsimp only; omega, by dsimp only; rw [List.length_append]; show _ + 1 + _ + 1 ≤ _; omega⟩
                  · rw [hk4.2.1 2 (by decide), hfa.2.1 2 (by decide)]; exact c02
                  · rw [hk4.2.1 19 (by decide), hfa.2.1 19 (by decide)]; exact c19
                  · rw [hk4.1 142 (by decide) (by decide), hfa.1 142 (by decide) (by decide)]; exact hos
                  · rw [hk4.2.1 23 (by decide), hfa.2.1 23 (by decide)]; exact c23
                  · rw [hk4.2.1 22 (by decide), hfa.2.1 22 (by decide)]; exact c22
                · refine ax_load (q := 165) rfl rfl rfl rfl rfl ?_
                  refine ax_getf (q := 168) (v := am_I (tkn_ tp n p)) rfl rfl (am_fg rfl ((cu_f σ u u (by decide) (by decide)).trans k8)) ?_
                  refine ax_goto (x := 172) rfl ?_
                  refine ax_callv (q := 175) rfl rfl rfl rfl rfl rfl ?_
                  exfalso; omega
              · refine ax_const (q := 156) (v := am_I 0) rfl rfl rfl ?_
                refine ax_goto (x := 160) rfl ?_
                refine ax_load (q := 161) rfl rfl rfl rfl rfl ?_
                refine ax_if_ge (q := 164) (x := 171) rfl rfl (fun h161 => ?_) (fun h161 => ?_)
                · refine ax_load (q := 172) rfl rfl rfl rfl rfl ?_
                  refine ax_callv (q := 175) rfl rfl rfl rfl rfl rfl ?_
                  exfalso; omega
                · refine ax_load (q := 165) rfl rfl rfl rfl rfl ?_
                  refine ax_getf (q := 168) (v := am_I (tkn_ tp n p)) rfl rfl (am_fg rfl ((cu_f σ u u (by decide) (by decide)).trans k8)) ?_
                  refine ax_goto (x := 172) rfl ?_
                  refine ax_callv (q := 175) rfl rfl rfl rfl rfl rfl ?_
                  have hres : un_ tp n (m + 1) p os u = Sum.inr (nxp_ tp n p, os, u + 1, sp1_ tp n p) := by unfold un_; rw [if_neg (by simpa using hnn), if_neg h59b, if_neg (by omega)]
                  refine m_add (by omega) (s := st.length) ((hRc.2.1 17 (by decide)).trans (tq_17 _ _ _)) (by omega) ?_
                  refine ax_load (q := 176) rfl rfl rfl rfl rfl ?_
                  refine ax_callv (q := 179) rfl rfl rfl rfl rfl rfl ?_
                  have hfa : fp_ [138, 139] [17] [] (cu_ σ u u) (ad_ (cu_ σ u u) st.length 0 (tkn_ tp n p)) := fp_ad (fp_rf _ _ _ _) (by decide) (by decide) (by decide)
                  have hRa : RS_ (tq_ D (u + 1) (st ++ [sp1_ tp n p])) (ad_ (cu_ σ u u) st.length 0 (tkn_ tp n p)) := by
                    refine RS_.dt hRc hfa (by decide) rfl ?_ ?_
                    · show _ = am_up ((cu_ σ u u).1 138) st.length (sp1_ tp n p).1
                      unfold sp1_; dsimp only; rw [if_pos (by omega)]; rfl
                    · show _ = am_up ((cu_ σ u u).1 139) st.length (sp1_ tp n p).2
                      unfold sp1_; dsimp only; rw [if_pos (by omega)]; rfl
                  have hPa : PS_ tp n p (ad_ (cu_ σ u u) st.length 0 (tkn_ tp n p)) := PS_s5 (PS_sI (PS_sI hPc (by decide) (by decide)) (by decide) (by decide)) (by decide)
                  refine m_tokenN (by omega) hPa (fun σ4 hk4 hP4 => ?_)
                  refine ax_ret (r := none) rfl rfl ?_
                  refine hY (nxp_ tp n p, os, u + 1, sp1_ tp n p) hres σ4 (RF_.tr (RF_.tr hfc hfa (by decide) (by decide) (by decide)) hk4 (by decide) (by decide) (by decide)) ⟨hP4, ?_, ?_, ?_, ?_, ?_, RS_.tok hRa hk4 (by decide)⟩ ⟨by dsimp only; omega, by dsimp only; omega, by dsimp only; omega, by dsimp only; rw [List.length_append]; show _ + 1 + _ + 1 ≤ _; omega⟩
                  · rw [hk4.2.1 2 (by decide), hfa.2.1 2 (by decide)]; exact c02
                  · rw [hk4.2.1 19 (by decide), hfa.2.1 19 (by decide)]; exact c19
                  · rw [hk4.1 142 (by decide) (by decide), hfa.1 142 (by decide) (by decide)]; exact hos
                  · rw [hk4.2.1 23 (by decide), hfa.2.1 23 (by decide)]; exact c23
                  · rw [hk4.2.1 22 (by decide), hfa.2.1 22 (by decide)]; exact c22
            · have hf130 : u = 30 := of_decide_eq_true (it_n0 h130)
              refine ax_load (q := 134) rfl rfl rfl rfl rfl ?_
              refine ax_const (q := 135) (v := am_I 2) rfl rfl rfl ?_
              refine ax_callv (q := 138) rfl rfl rfl rfl rfl rfl ?_
              refine m_wrong (by omega) ?_
              rw [if_neg (by rw [h02]; decide)]
              obtain ⟨x1, hx1⟩ : ∃ s, s = wr_ σ 2 := ⟨_, rfl⟩
              rw [← hx1]
              have hbad : 0 < x1.1 135 2 := by rw [hx1]; exact wr_2 σ (by decide)
              have hfx : RF_ σ0 x1 := by rw [hx1]; exact fp_wr hf (by decide) (by decide)
              have hF : FT_ tp n (2, p) x1 := by rw [hx1]; exact FT_wr hP 2
              have h0 : (0 : Int) < 2 := by decide
              have g19 : x1.1 135 19 = ((os.length : Nat) : Int) := by rw [hx1]; exact (wr_f σ 2 (by decide) (by decide)).trans hc
              have g23 : x1.1 135 23 = ((dpl_ os : Nat) : Int) := by rw [hx1]; exact (wr_f σ 2 (by decide) (by decide)).trans hdp
              have g20 : x1.1 135 20 = ((u : Nat) : Int) := by rw [hx1]; exact (wr_f σ 2 (by decide) (by decide)).trans h20
              have g22 : x1.1 135 22 = ((u : Nat) : Int) := by rw [hx1]; exact (wr_f σ 2 (by decide) (by decide)).trans hu
              have hres : un_ tp n (m + 1) p os u = Sum.inl (2, p) := by unfold un_; rw [if_neg (by simpa using hnn), if_neg h59b, if_pos (by omega)]
              refine ax_load (q := 139) rfl rfl rfl rfl rfl ?_
              refine ax_getf (q := 142) (v := am_I (x1.1 135 2)) rfl rfl (rfl) ?_
              refine ax_if_le (q := 145) (x := 146) rfl rfl (fun h => absurd h (by omega)) (fun h142 => ?_)
              refine ax_ret (r := none) rfl rfl ?_
              exact hN (2, p) hres _ hfx h0 hF
          · refine ax_load (q := 123) rfl rfl rfl rfl rfl ?_
            refine ax_if_lt (q := 126) (x := 133) rfl rfl (fun h123 => ?_) (fun h123 => ?_)
            · refine ax_load (q := 134) rfl rfl rfl rfl rfl ?_
              refine ax_const (q := 135) (v := am_I 2) rfl rfl rfl ?_
              refine ax_callv (q := 138) rfl rfl rfl rfl rfl rfl ?_
              refine m_wrong (by omega) ?_
              rw [if_neg (by rw [h02]; decide)]
              obtain ⟨x1, hx1⟩ : ∃ s, s = wr_ σ 2 := ⟨_, rfl⟩
              rw [← hx1]
              have hbad : 0 < x1.1 135 2 := by rw [hx1]; exact wr_2 σ (by decide)
              have hfx : RF_ σ0 x1 := by rw [hx1]; exact fp_wr hf (by decide) (by decide)
              have hF : FT_ tp n (2, p) x1 := by rw [hx1]; exact FT_wr hP 2
              have h0 : (0 : Int) < 2 := by decide
              have g19 : x1.1 135 19 = ((os.length : Nat) : Int) := by rw [hx1]; exact (wr_f σ 2 (by decide) (by decide)).trans hc
              have g23 : x1.1 135 23 = ((dpl_ os : Nat) : Int) := by rw [hx1]; exact (wr_f σ 2 (by decide) (by decide)).trans hdp
              have g20 : x1.1 135 20 = ((u : Nat) : Int) := by rw [hx1]; exact (wr_f σ 2 (by decide) (by decide)).trans h20
              have g22 : x1.1 135 22 = ((u : Nat) : Int) := by rw [hx1]; exact (wr_f σ 2 (by decide) (by decide)).trans hu
              have hres : un_ tp n (m + 1) p os u = Sum.inl (2, p) := by unfold un_; rw [if_neg (by simpa using hnn), if_neg h59b, if_pos (by omega)]
              refine ax_load (q := 139) rfl rfl rfl rfl rfl ?_
              refine ax_getf (q := 142) (v := am_I (x1.1 135 2)) rfl rfl (rfl) ?_
              refine ax_if_le (q := 145) (x := 146) rfl rfl (fun h => absurd h (by omega)) (fun h142 => ?_)
              refine ax_ret (r := none) rfl rfl ?_
              exact hN (2, p) hres _ hfx h0 hF
            · refine ax_load (q := 127) rfl rfl rfl rfl rfl ?_
              refine ax_callv (q := 130) rfl rfl rfl rfl rfl rfl ?_
              refine m_isFull (by omega) ?_
              rw [h20, hu]
              rw [show decide (((u : Nat) : Int) = 60 ∨ ((u : Nat) : Int) = 30) = decide (u = 30) from decide_eq_decide.mpr ⟨fun q => by omega, fun q => by omega⟩]
              refine ax_if_eq (q := 133) (x := 138) rfl rfl (fun h130 => ?_) (fun h130 => ?_)
              · have hf130 : ¬ u = 30 := of_decide_eq_false (it_0 h130)
                refine ax_load (q := 139) rfl rfl rfl rfl rfl ?_
                refine ax_getf (q := 142) (v := am_I 0) rfl rfl (am_fg rfl h02) ?_
                refine ax_if_le (q := 145) (x := 146) rfl rfl (fun h142 => ?_) (fun h => absurd h (by omega))
                refine ax_load (q := 147) rfl rfl rfl rfl rfl ?_
                refine ax_callv (q := 150) rfl rfl rfl rfl rfl rfl ?_
                refine m_countUnit (by omega) h20 hu (by omega) (by omega) ?_
                have hPc : PS_ tp n p (cu_ σ u u) := by unfold cu_; rw [← sI_at σ 135 (am_up (σ.1 135) 20 ((u + 1 : Nat) : Int)), ← sI_sI]; exact PS_s5 (PS_s5 hP (by decide)) (by decide)
                have hfc : RF_ σ0 (cu_ σ u u) := fp_cu hf (by decide) (by decide)
                have hRc := RS_.cu (o := u) hR
                have c02 : (cu_ σ u u).1 135 2 = 0 := (cu_f σ u u (by decide) (by decide)).trans h02
                have c19 : (cu_ σ u u).1 135 19 = _ := (cu_f σ u u (by decide) (by decide)).trans hc
                have c23 : (cu_ σ u u).1 135 23 = _ := (cu_f σ u u (by decide) (by decide)).trans hdp
                have c22 : (cu_ σ u u).1 135 22 = ((u + 1 : Nat) : Int) := by unfold cu_; rw [sI_at, am_up_same]
                refine ax_load (q := 151) rfl rfl rfl rfl rfl ?_
                refine ax_load (q := 152) rfl rfl rfl rfl rfl ?_
                refine ax_if_ge (q := 155) (x := 159) rfl rfl (fun h152 => ?_) (fun h152 => ?_)
                · refine ax_const (q := 160) (v := am_I 1) rfl rfl rfl ?_
                  refine ax_load (q := 161) rfl rfl rfl rfl rfl ?_
                  refine ax_if_ge (q := 164) (x := 171) rfl rfl (fun h161 => ?_) (fun h161 => ?_)
                  · refine ax_load (q := 172) rfl rfl rfl rfl rfl ?_
                    refine ax_callv (q := 175) rfl rfl rfl rfl rfl rfl ?_
                    have hres : un_ tp n (m + 1) p os u = Sum.inr (nxp_ tp n p, os, u + 1, sp1_ tp n p) := by unfold un_; rw [if_neg (by simpa using hnn), if_neg h59b, if_neg (by omega)]
                    refine m_add (by omega) (s := st.length) ((hRc.2.1 17 (by decide)).trans (tq_17 _ _ _)) (by omega) ?_
                    refine ax_load (q := 176) rfl rfl rfl rfl rfl ?_
                    refine ax_callv (q := 179) rfl rfl rfl rfl rfl rfl ?_
                    have hfa : fp_ [138, 139] [17] [] (cu_ σ u u) (ad_ (cu_ σ u u) st.length 1 (as2_ tp n p)) := fp_ad (fp_rf _ _ _ _) (by decide) (by decide) (by decide)
                    have hRa : RS_ (tq_ D (u + 1) (st ++ [sp1_ tp n p])) (ad_ (cu_ σ u u) st.length 1 (as2_ tp n p)) := by
                      refine RS_.dt hRc hfa (by decide) rfl ?_ ?_
                      · show _ = am_up ((cu_ σ u u).1 138) st.length (sp1_ tp n p).1
                        unfold sp1_; dsimp only; rw [if_neg (by omega)]; rfl
                      · show _ = am_up ((cu_ σ u u).1 139) st.length (sp1_ tp n p).2
                        unfold sp1_; dsimp only; rw [if_neg (by omega)]; rfl
                    have hPa : PS_ tp n p (ad_ (cu_ σ u u) st.length 1 (as2_ tp n p)) := PS_s5 (PS_sI (PS_sI hPc (by decide) (by decide)) (by decide) (by decide)) (by decide)
                    refine m_tokenN (by omega) hPa (fun σ4 hk4 hP4 => ?_)
                    refine ax_ret (r := none) rfl rfl ?_
                    refine hY (nxp_ tp n p, os, u + 1, sp1_ tp n p) hres σ4 (RF_.tr (RF_.tr hfc hfa (by decide) (by decide) (by decide)) hk4 (by decide) (by decide) (by decide)) ⟨hP4, ?_, ?_, ?_, ?_, ?_, RS_.tok hRa hk4 (by decide)⟩ ⟨by dsimp only; omega, by dsimp only; omega, by dsimp only; omega, by dsimp only; rw [List.length_append]; show _ + 1 + _ + 1 ≤ _; omega⟩
                    · rw [hk4.2.1 2 (by decide), hfa.2.1 2 (by decide)]; exact c02
                    · rw [hk4.2.1 19 (by decide), hfa.2.1 19 (by decide)]; exact c19
                    · rw [hk4.1 142 (by decide) (by decide), hfa.1 142 (by decide) (by decide)]; exact hos
                    · rw [hk4.2.1 23 (by decide), hfa.2.1 23 (by decide)]; exact c23
                    · rw [hk4.2.1 22 (by decide), hfa.2.1 22 (by decide)]; exact c22
                  · refine ax_load (q := 165) rfl rfl rfl rfl rfl ?_
                    refine ax_getf (q := 168) (v := am_I (tkn_ tp n p)) rfl rfl (am_fg rfl ((cu_f σ u u (by decide) (by decide)).trans k8)) ?_
                    refine ax_goto (x := 172) rfl ?_
                    refine ax_callv (q := 175) rfl rfl rfl rfl rfl rfl ?_
                    exfalso; omega
                · refine ax_const (q := 156) (v := am_I 0) rfl rfl rfl ?_
                  refine ax_goto (x := 160) rfl ?_
                  refine ax_load (q := 161) rfl rfl rfl rfl rfl ?_
                  refine ax_if_ge (q := 164) (x := 171) rfl rfl (fun h161 => ?_) (fun h161 => ?_)
                  · refine ax_load (q := 172) rfl rfl rfl rfl rfl ?_
                    refine ax_callv (q := 175) rfl rfl rfl rfl rfl rfl ?_
                    exfalso; omega
                  · refine ax_load (q := 165) rfl rfl rfl rfl rfl ?_
                    refine ax_getf (q := 168) (v := am_I (tkn_ tp n p)) rfl rfl (am_fg rfl ((cu_f σ u u (by decide) (by decide)).trans k8)) ?_
                    refine ax_goto (x := 172) rfl ?_
                    refine ax_callv (q := 175) rfl rfl rfl rfl rfl rfl ?_
                    have hres : un_ tp n (m + 1) p os u = Sum.inr (nxp_ tp n p, os, u + 1, sp1_ tp n p) := by unfold un_; rw [if_neg (by simpa using hnn), if_neg h59b, if_neg (by omega)]
                    refine m_add (by omega) (s := st.length) ((hRc.2.1 17 (by decide)).trans (tq_17 _ _ _)) (by omega) ?_
                    refine ax_load (q := 176) rfl rfl rfl rfl rfl ?_
                    refine ax_callv (q := 179) rfl rfl rfl rfl rfl rfl ?_
                    have hfa : fp_ [138, 139] [17] [] (cu_ σ u u) (ad_ (cu_ σ u u) st.length 0 (tkn_ tp n p)) := fp_ad (fp_rf _ _ _ _) (by decide) (by decide) (by decide)
                    have hRa : RS_ (tq_ D (u + 1) (st ++ [sp1_ tp n p])) (ad_ (cu_ σ u u) st.length 0 (tkn_ tp n p)) := by
                      refine RS_.dt hRc hfa (by decide) rfl ?_ ?_
                      · show _ = am_up ((cu_ σ u u).1 138) st.length (sp1_ tp n p).1
                        unfold sp1_; dsimp only; rw [if_pos (by omega)]; rfl
                      · show _ = am_up ((cu_ σ u u).1 139) st.length (sp1_ tp n p).2
                        unfold sp1_; dsimp only; rw [if_pos (by omega)]; rfl
                    have hPa : PS_ tp n p (ad_ (cu_ σ u u) st.length 0 (tkn_ tp n p)) := PS_s5 (PS_sI (PS_sI hPc (by decide) (by decide)) (by decide) (by decide)) (by decide)
                    refine m_tokenN (by omega) hPa (fun σ4 hk4 hP4 => ?_)
                    refine ax_ret (r := none) rfl rfl ?_
                    refine hY (nxp_ tp n p, os, u + 1, sp1_ tp n p) hres σ4 (RF_.tr (RF_.tr hfc hfa (by decide) (by decide) (by decide)) hk4 (by decide) (by decide) (by decide)) ⟨hP4, ?_, ?_, ?_, ?_, ?_, RS_.tok hRa hk4 (by decide)⟩ ⟨by dsimp only; omega, by dsimp only; omega, by dsimp only; omega, by dsimp only; rw [List.length_append]; show _ + 1 + _ + 1 ≤ _; omega⟩
                    · rw [hk4.2.1 2 (by decide), hfa.2.1 2 (by decide)]; exact c02
                    · rw [hk4.2.1 19 (by decide), hfa.2.1 19 (by decide)]; exact c19
                    · rw [hk4.1 142 (by decide) (by decide), hfa.1 142 (by decide) (by decide)]; exact hos
                    · rw [hk4.2.1 23 (by decide), hfa.2.1 23 (by decide)]; exact c23
                    · rw [hk4.2.1 22 (by decide), hfa.2.1 22 (by decide)]; exact c22
              · have hf130 : u = 30 := of_decide_eq_true (it_n0 h130)
                refine ax_load (q := 134) rfl rfl rfl rfl rfl ?_
                refine ax_const (q := 135) (v := am_I 2) rfl rfl rfl ?_
                refine ax_callv (q := 138) rfl rfl rfl rfl rfl rfl ?_
                refine m_wrong (by omega) ?_
                rw [if_neg (by rw [h02]; decide)]
                obtain ⟨x1, hx1⟩ : ∃ s, s = wr_ σ 2 := ⟨_, rfl⟩
                rw [← hx1]
                have hbad : 0 < x1.1 135 2 := by rw [hx1]; exact wr_2 σ (by decide)
                have hfx : RF_ σ0 x1 := by rw [hx1]; exact fp_wr hf (by decide) (by decide)
                have hF : FT_ tp n (2, p) x1 := by rw [hx1]; exact FT_wr hP 2
                have h0 : (0 : Int) < 2 := by decide
                have g19 : x1.1 135 19 = ((os.length : Nat) : Int) := by rw [hx1]; exact (wr_f σ 2 (by decide) (by decide)).trans hc
                have g23 : x1.1 135 23 = ((dpl_ os : Nat) : Int) := by rw [hx1]; exact (wr_f σ 2 (by decide) (by decide)).trans hdp
                have g20 : x1.1 135 20 = ((u : Nat) : Int) := by rw [hx1]; exact (wr_f σ 2 (by decide) (by decide)).trans h20
                have g22 : x1.1 135 22 = ((u : Nat) : Int) := by rw [hx1]; exact (wr_f σ 2 (by decide) (by decide)).trans hu
                have hres : un_ tp n (m + 1) p os u = Sum.inl (2, p) := by unfold un_; rw [if_neg (by simpa using hnn), if_neg h59b, if_pos (by omega)]
                refine ax_load (q := 139) rfl rfl rfl rfl rfl ?_
                refine ax_getf (q := 142) (v := am_I (x1.1 135 2)) rfl rfl (rfl) ?_
                refine ax_if_le (q := 145) (x := 146) rfl rfl (fun h => absurd h (by omega)) (fun h142 => ?_)
                refine ax_ret (r := none) rfl rfl ?_
                exact hN (2, p) hres _ hfx h0 hF
        · refine ax_load (q := 63) rfl rfl rfl rfl rfl ?_
          refine ax_callv (q := 66) rfl rfl rfl rfl rfl rfl ?_
          refine m_isFull (by omega) ?_
          rw [h20, hu]
          rw [show decide (((u : Nat) : Int) = 60 ∨ ((u : Nat) : Int) = 30) = decide (u = 30) from decide_eq_decide.mpr ⟨fun q => by omega, fun q => by omega⟩]
          refine ax_if_ne (q := 69) (x := 78) rfl rfl (fun h66 => ?_) (fun h66 => ?_)
          · have hf66 : u = 30 := of_decide_eq_true (it_n0 h66)
            refine ax_load (q := 79) rfl rfl rfl rfl rfl ?_
            refine ax_const (q := 80) (v := am_I 2) rfl rfl rfl ?_
            refine ax_callv (q := 83) rfl rfl rfl rfl rfl rfl ?_
            refine m_wrong (by omega) ?_
            rw [if_neg (by rw [h02]; decide)]
            obtain ⟨x1, hx1⟩ : ∃ s, s = wr_ σ 2 := ⟨_, rfl⟩
            rw [← hx1]
            have hbad : 0 < x1.1 135 2 := by rw [hx1]; exact wr_2 σ (by decide)
            have hfx : RF_ σ0 x1 := by rw [hx1]; exact fp_wr hf (by decide) (by decide)
            have hF : FT_ tp n (2, p) x1 := by rw [hx1]; exact FT_wr hP 2
            have h0 : (0 : Int) < 2 := by decide
            have g19 : x1.1 135 19 = ((os.length : Nat) : Int) := by rw [hx1]; exact (wr_f σ 2 (by decide) (by decide)).trans hc
            have g23 : x1.1 135 23 = ((dpl_ os : Nat) : Int) := by rw [hx1]; exact (wr_f σ 2 (by decide) (by decide)).trans hdp
            have g20 : x1.1 135 20 = ((u : Nat) : Int) := by rw [hx1]; exact (wr_f σ 2 (by decide) (by decide)).trans h20
            have g22 : x1.1 135 22 = ((u : Nat) : Int) := by rw [hx1]; exact (wr_f σ 2 (by decide) (by decide)).trans hu
            have hres : un_ tp n (m + 1) p os u = Sum.inl (2, p) := by unfold un_; rw [if_neg (by simpa using hnn), if_pos h59b]; exact if_pos (by omega)
            refine ax_load (q := 84) rfl rfl rfl rfl rfl ?_
            refine ax_callv (q := 87) rfl rfl rfl rfl rfl rfl ?_
            refine m_countUnit (by omega) g20 g22 (by omega) (by omega) ?_
            obtain ⟨x2b, hx2⟩ : ∃ s, s = cu_ x1 u u := ⟨_, rfl⟩
            rw [← hx2]
            have hbad2 : 0 < x2b.1 135 2 := by rw [hx2, cu_f x1 u u (by decide) (by decide)]; exact hbad
            have hfx2 : RF_ σ0 x2b := by rw [hx2]; exact fp_cu hfx (by decide) (by decide)
            have hF2 : FT_ tp n (2, p) x2b := by rw [hx2]; exact ⟨(cu_f x1 u u (by decide) (by decide)).trans hF.1, (cu_f x1 u u (by decide) (by decide)).trans hF.2⟩
            have e19 : x2b.1 135 19 = ((os.length : Nat) : Int) := by rw [hx2]; exact (cu_f x1 u u (by decide) (by decide)).trans g19
            have e23 : x2b.1 135 23 = ((dpl_ os : Nat) : Int) := by rw [hx2]; exact (cu_f x1 u u (by decide) (by decide)).trans g23
            refine ax_load (q := 88) rfl rfl rfl rfl rfl ?_
            refine ax_const (q := 90) (v := am_I 20) rfl rfl rfl ?_
            refine ax_callv (q := 93) rfl rfl rfl rfl rfl rfl ?_
            refine z_openUp (by omega) hbad2 e19 (by omega) e23 (by omega) (by omega) (fun x3 hk3 => ?_)
            have hbad3 : 0 < x3.1 135 2 := by rw [hk3.2.1 2 (by decide)]; exact hbad2
            have hfx3 : RF_ σ0 x3 := RF_.tr hfx2 hk3 (by decide) (by decide) (by decide)
            have hF3 : FT_ tp n (2, p) x3 := ⟨(hk3.2.1 2 (by decide)).trans hF2.1, (hk3.2.1 3 (by decide)).trans hF2.2⟩
            refine ax_goto (x := 2) rfl ?_
            refine ax_load (q := 3) rfl rfl rfl rfl rfl ?_
            refine ax_if_eq (q := 6) (x := 101) rfl rfl (fun h => absurd h (by omega)) (fun h3 => ?_)
            refine ax_load (q := 7) rfl rfl rfl rfl rfl ?_
            refine ax_getf (q := 10) (v := am_I (x3.1 135 2)) rfl rfl (rfl) ?_
            refine ax_if_ne (q := 13) (x := 101) rfl rfl (fun h10 => ?_) (fun h => absurd h (by omega))
            refine ax_load (q := 102) rfl rfl rfl rfl rfl ?_
            refine ax_getf (q := 105) (v := am_I (x3.1 135 2)) rfl rfl (rfl) ?_
            refine ax_if_le (q := 108) (x := 109) rfl rfl (fun h => absurd h (by omega)) (fun h105 => ?_)
            refine ax_ret (r := none) rfl rfl ?_
            exact hN (2, p) hres _ hfx3 h0 hF3
          · have hf66 : ¬ u = 30 := of_decide_eq_false (it_0 (by omega))
            refine ax_load (q := 70) rfl rfl rfl rfl rfl ?_
            refine ax_getf (q := 73) (v := am_I (((dpl_ os) : Nat) : Int)) rfl rfl (am_fg rfl hdp) ?_
            refine ax_const (q := 75) (v := am_I 6) rfl rfl rfl ?_
            refine ax_icmp_le (q := 78) (x := 83) rfl rfl (fun h75 => ?_) (fun h => absurd h (by omega))
            refine ax_load (q := 84) rfl rfl rfl rfl rfl ?_
            refine ax_callv (q := 87) rfl rfl rfl rfl rfl rfl ?_
            refine m_countUnit (by omega) h20 hu (by omega) (by omega) ?_
            have hPc : PS_ tp n p (cu_ σ u u) := by unfold cu_; rw [← sI_at σ 135 (am_up (σ.1 135) 20 ((u + 1 : Nat) : Int)), ← sI_sI]; exact PS_s5 (PS_s5 hP (by decide)) (by decide)
            have hfc : RF_ σ0 (cu_ σ u u) := fp_cu hf (by decide) (by decide)
            have hRc := RS_.cu (o := u) hR
            have c02 : (cu_ σ u u).1 135 2 = 0 := (cu_f σ u u (by decide) (by decide)).trans h02
            have c19 : (cu_ σ u u).1 135 19 = _ := (cu_f σ u u (by decide) (by decide)).trans hc
            have c23 : (cu_ σ u u).1 135 23 = _ := (cu_f σ u u (by decide) (by decide)).trans hdp
            have c22 : (cu_ σ u u).1 135 22 = ((u + 1 : Nat) : Int) := by unfold cu_; rw [sI_at, am_up_same]
            refine ax_load (q := 88) rfl rfl rfl rfl rfl ?_
            refine ax_const (q := 90) (v := am_I 20) rfl rfl rfl ?_
            refine ax_callv (q := 93) rfl rfl rfl rfl rfl rfl ?_
            refine r_openUp (by omega) hPc c02 c19 (by omega) c23 (by omega) (by omega) (fun σ1 hk1 hP1 h21 h142 h119 h123 => ?_)
            have hn : nt_ tp n p = true ∧ mnl_ os = true → False := hnn
            have hT1 : TE_ tp n D (nxp_ tp n p) (20 :: os) (u + 1) st σ1 := ⟨hP1, h21, h119, by rw [h142]; show ol_ (am_up ((cu_ σ u u).1 142) os.length 20) (os.length + 1) = _; rw [ol_pu]; exact congrArg _ hos, by rw [h123]; show _ = ((dpl_ os + 1 : Nat) : Int); omega, (hk1.2.1 22 (by decide)).trans c22, RS_.fr hRc hk1 (by decide) (by decide)⟩
            have hf1 : RF_ σ0 σ1 := RF_.tr hfc hk1 (by decide) (by decide) (by decide)
            have hst : un_ tp n (m + 1) p os u = un_ tp n m (nxp_ tp n p) (20 :: os) (u + 1) := by rw [un_]; rw [if_neg (by simpa using hnn), if_pos h59b]; exact if_neg hf66
            rw [hst] at hN hY
            refine ax_goto (x := 2) rfl ?_
            exact ih _ _ _ _ _ hT1 hf1 (by show dpl_ os + 1 + m = 7; omega) (by omega) (by show os.length + 1 ≤ dpl_ os + 1 + (u + 1); omega) (by show st.length + (os.length + 1) + m ≤ _; omega) hN hY
      · have hb27 := it_n0 h27
        refine ax_load (q := 31) rfl rfl rfl rfl rfl ?_
        refine ax_getf (q := 34) (v := am_I (((dpl_ os) : Nat) : Int)) rfl rfl (am_fg rfl hdp) ?_
        refine ax_const (q := 36) (v := am_I 6) rfl rfl rfl ?_
        refine ax_icmp_le (q := 39) (x := 44) rfl rfl (fun h36 => ?_) (fun h => absurd h (by omega))
        refine ax_load (q := 45) rfl rfl rfl rfl rfl ?_
        refine ax_const (q := 47) (v := am_I 21) rfl rfl rfl ?_
        refine ax_callv (q := 50) rfl rfl rfl rfl rfl rfl ?_
        refine r_openUp (by omega) hP h02 hc (by omega) hdp (by omega) (by omega) (fun σ1 hk1 hP1 h21 h142 h119 h123 => ?_)
        have hT1 : TE_ tp n D (nxp_ tp n p) (21 :: os) u st σ1 := ⟨hP1, h21, h119, by rw [h142]; show ol_ (am_up (σ.1 142) os.length 21) (os.length + 1) = _; rw [ol_pu, hos], by rw [h123]; show _ = ((dpl_ os + 1 : Nat) : Int); omega, (hk1.2.1 22 (by decide)).trans hu, RS_.fr hR hk1 (by decide) (by decide)⟩
        have hf1 : RF_ σ0 σ1 := RF_.tr hf hk1 (by decide) (by decide) (by decide)
        have hst : un_ tp n (m + 1) p os u = un_ tp n m (nxp_ tp n p) (21 :: os) u := by rw [un_]; rw [if_pos (by rw [hb20, hb27]; rfl)]
        rw [hst] at hN hY
        refine ax_goto (x := 2) rfl ?_
        exact ih _ _ _ _ _ hT1 hf1 (by show dpl_ os + 1 + m = 7; omega) (by omega) (by show os.length + 1 ≤ dpl_ os + 1 + u; omega) (by show st.length + (os.length + 1) + m ≤ _; omega) hN hY

