theorem l_hasRelation {d : Nat} (hd : 1 ≤ d) {σ : am_S} {g : Nat → Int} (hg : σ.1 142 = g) {Q : Option am_V → am_S → Prop} : ∀ k : Nat, k ≤ 160 → (hQ : Q (some (am_I (if hrl_ g k then 1 else 0))) σ) → aW d 1 k_X9_hasRelation Q 7 [some (am_R 135), some (am_I (((k : Nat) : Int) - 1))] [] σ := by
  intro k
  induction k with
  | zero =>
    intro hk hQ
    rw [show (((0 : Nat) : Int) - 1) = -1 from rfl]
    refine ax_load (q := 8) rfl rfl rfl rfl rfl ?_
    refine ax_if_lt (q := 11) (x := 41) rfl rfl (fun h8 => ?_) (fun h => absurd h (by omega))
    refine ax_load (q := 42) rfl rfl rfl rfl rfl ?_
    refine ax_if_lt (q := 45) (x := 73) rfl rfl (fun h42 => ?_) (fun h => absurd h (by omega))
    refine ax_const (q := 74) (v := am_I 0) rfl rfl rfl ?_
    refine ax_ret (r := some (am_I 0)) rfl ⟨rfl, Or.inl rfl⟩ ?_
    exact hQ
  | succ k ih =>
    intro hk hQ
    have htb := ti_bd (g k)
    rw [show (((k + 1 : Nat) : Int) - 1) = ((k : Nat) : Int) by omega]
    refine ax_load (q := 8) rfl rfl rfl rfl rfl ?_
    refine ax_if_lt (q := 11) (x := 41) rfl rfl (fun h => absurd h (by omega)) (fun h8 => ?_)
    refine ax_load (q := 12) rfl rfl rfl rfl rfl ?_
    refine ax_getf (q := 15) (v := am_R 142) rfl rfl (rfl) ?_
    refine ax_load (q := 16) rfl rfl rfl rfl rfl ?_
    refine bx_iald (q := 17) (k := k) (z := g k) rfl rfl (rfl) (by omega) (by omega) (congrFun hg _) ?_
    refine ax_const (q := 19) (v := am_I 20) rfl rfl rfl ?_
    refine ax_icmp_eq (q := 22) (x := 41) rfl rfl (fun h19 => ?_) (fun h19 => ?_)
    · refine ax_load (q := 42) rfl rfl rfl rfl rfl ?_
      refine ax_if_lt (q := 45) (x := 73) rfl rfl (fun h => absurd h (by omega)) (fun h42 => ?_)
      refine ax_load (q := 46) rfl rfl rfl rfl rfl ?_
      refine ax_getf (q := 49) (v := am_R 142) rfl rfl (rfl) ?_
      refine ax_load (q := 50) rfl rfl rfl rfl rfl ?_
      refine bx_iald (q := 51) (k := k) (z := g k) rfl rfl (rfl) (by omega) (by omega) (congrFun hg _) ?_
      refine ax_const (q := 53) (v := am_I 20) rfl rfl rfl ?_
      refine ax_icmp_eq (q := 56) (x := 73) rfl rfl (fun h53 => ?_) (fun h53 => ?_)
      · refine ax_const (q := 74) (v := am_I 0) rfl rfl rfl ?_
        refine ax_ret (r := some (am_I 0)) rfl ⟨rfl, Or.inl rfl⟩ ?_
        have e : hrl_ g (k + 1) = false := by
          unfold hrl_
          first | (rw [if_pos (by assumption)]; done) | (rw [if_neg (by assumption), if_neg (by omega)]; first | exact decide_eq_true (by omega) | exact decide_eq_false (by omega))
        rw [e] at hQ
        exact hQ
      · refine ax_load (q := 57) rfl rfl rfl rfl rfl ?_
        refine ax_getf (q := 60) (v := am_R 142) rfl rfl (rfl) ?_
        refine ax_load (q := 61) rfl rfl rfl rfl rfl ?_
        refine bx_iald (q := 62) (k := k) (z := g k) rfl rfl (rfl) (by omega) (by omega) (congrFun hg _) ?_
        refine ax_calls (q := 65) rfl rfl rfl rfl rfl ?_
        refine m_tight (by omega) ?_
        refine ax_const (q := 66) (v := am_I 4) rfl rfl rfl ?_
        refine ax_icmp_ne (q := 69) (x := 73) rfl rfl (fun h66 => ?_) (fun h66 => ?_)
        · refine ax_const (q := 74) (v := am_I 0) rfl rfl rfl ?_
          refine ax_ret (r := some (am_I 0)) rfl ⟨rfl, Or.inl rfl⟩ ?_
          have e : hrl_ g (k + 1) = false := by
            unfold hrl_
            first | (rw [if_pos (by assumption)]; done) | (rw [if_neg (by assumption), if_neg (by omega)]; first | exact decide_eq_true (by omega) | exact decide_eq_false (by omega))
          rw [e] at hQ
          exact hQ
        · refine ax_const (q := 70) (v := am_I 1) rfl rfl rfl ?_
          refine ax_goto (x := 74) rfl ?_
          refine ax_ret (r := some (am_I 1)) rfl ⟨rfl, Or.inr rfl⟩ ?_
          have e : hrl_ g (k + 1) = true := by
            unfold hrl_
            first | (rw [if_pos (by assumption)]; done) | (rw [if_neg (by assumption), if_neg (by omega)]; first | exact decide_eq_true (by omega) | exact decide_eq_false (by omega))
          rw [e] at hQ
          exact hQ
    · refine ax_load (q := 23) rfl rfl rfl rfl rfl ?_
      refine ax_getf (q := 26) (v := am_R 142) rfl rfl (rfl) ?_
      refine ax_load (q := 27) rfl rfl rfl rfl rfl ?_
      refine bx_iald (q := 28) (k := k) (z := g k) rfl rfl (rfl) (by omega) (by omega) (congrFun hg _) ?_
      refine ax_calls (q := 31) rfl rfl rfl rfl rfl ?_
      refine m_tight (by omega) ?_
      refine ax_const (q := 32) (v := am_I 4) rfl rfl rfl ?_
      refine ax_icmp_le (q := 35) (x := 41) rfl rfl (fun h32 => ?_) (fun h32 => ?_)
      · refine ax_load (q := 42) rfl rfl rfl rfl rfl ?_
        refine ax_if_lt (q := 45) (x := 73) rfl rfl (fun h => absurd h (by omega)) (fun h42 => ?_)
        refine ax_load (q := 46) rfl rfl rfl rfl rfl ?_
        refine ax_getf (q := 49) (v := am_R 142) rfl rfl (rfl) ?_
        refine ax_load (q := 50) rfl rfl rfl rfl rfl ?_
        refine bx_iald (q := 51) (k := k) (z := g k) rfl rfl (rfl) (by omega) (by omega) (congrFun hg _) ?_
        refine ax_const (q := 53) (v := am_I 20) rfl rfl rfl ?_
        refine ax_icmp_eq (q := 56) (x := 73) rfl rfl (fun h53 => ?_) (fun h53 => ?_)
        · refine ax_const (q := 74) (v := am_I 0) rfl rfl rfl ?_
          refine ax_ret (r := some (am_I 0)) rfl ⟨rfl, Or.inl rfl⟩ ?_
          have e : hrl_ g (k + 1) = false := by
            unfold hrl_
            first | (rw [if_pos (by assumption)]; done) | (rw [if_neg (by assumption), if_neg (by omega)]; first | exact decide_eq_true (by omega) | exact decide_eq_false (by omega))
          rw [e] at hQ
          exact hQ
        · refine ax_load (q := 57) rfl rfl rfl rfl rfl ?_
          refine ax_getf (q := 60) (v := am_R 142) rfl rfl (rfl) ?_
          refine ax_load (q := 61) rfl rfl rfl rfl rfl ?_
          refine bx_iald (q := 62) (k := k) (z := g k) rfl rfl (rfl) (by omega) (by omega) (congrFun hg _) ?_
          refine ax_calls (q := 65) rfl rfl rfl rfl rfl ?_
          refine m_tight (by omega) ?_
          refine ax_const (q := 66) (v := am_I 4) rfl rfl rfl ?_
          refine ax_icmp_ne (q := 69) (x := 73) rfl rfl (fun h66 => ?_) (fun h66 => ?_)
          · refine ax_const (q := 74) (v := am_I 0) rfl rfl rfl ?_
            refine ax_ret (r := some (am_I 0)) rfl ⟨rfl, Or.inl rfl⟩ ?_
            have e : hrl_ g (k + 1) = false := by
              unfold hrl_
              first | (rw [if_pos (by assumption)]; done) | (rw [if_neg (by assumption), if_neg (by omega)]; first | exact decide_eq_true (by omega) | exact decide_eq_false (by omega))
            rw [e] at hQ
            exact hQ
          · refine ax_const (q := 70) (v := am_I 1) rfl rfl rfl ?_
            refine ax_goto (x := 74) rfl ?_
            refine ax_ret (r := some (am_I 1)) rfl ⟨rfl, Or.inr rfl⟩ ?_
            have e : hrl_ g (k + 1) = true := by
              unfold hrl_
              first | (rw [if_pos (by assumption)]; done) | (rw [if_neg (by assumption), if_neg (by omega)]; first | exact decide_eq_true (by omega) | exact decide_eq_false (by omega))
            rw [e] at hQ
            exact hQ
      · refine ax_iinc (q := 38) (z' := ((k : Nat) : Int) - 1) (L' := [some (am_R 135), some (am_I (((k : Nat) : Int) - 1))]) rfl rfl rfl rfl (am_we (by omega) (by omega) (by omega)) rfl ?_
        refine ax_goto (x := 7) rfl ?_
        exact ih (by omega) (by rw [show hrl_ g (k + 1) = hrl_ g k by show (if _ then _ else if _ then _ else _) = _; rw [if_neg (by assumption), if_pos (by omega)]] at hQ; exact hQ)

theorem m_hasRelation {d : Nat} (hd : 2 ≤ d) {σ : am_S} {g : Nat → Int} {n : Nat} (hg : σ.1 142 = g) (hn : σ.1 135 19 = (n : Int)) (hn9 : n ≤ 160) {Q : Option am_V → am_S → Prop} (hQ : Q (some (am_I (if hrl_ g n then 1 else 0))) σ) : am_Ev d 161 [am_R 135] σ Q := by
  obtain ⟨d, rfl⟩ : ∃ e, d = e + 1 := ⟨d - 1, by omega⟩
  refine ev_in (m := 161) (c := k_X9_hasRelation) (L := [some (am_R 135), none]) rfl rfl rfl rfl rfl rfl ?_
  refine ax_load (q := 1) rfl rfl rfl rfl rfl ?_
  refine ax_getf (q := 4) (v := am_I ((n : Nat) : Int)) rfl rfl (am_fg rfl hn) ?_
  refine ax_const (q := 5) (v := am_I 1) rfl rfl rfl ?_
  refine ax_isub (q := 6) (z := ((n : Nat) : Int) - 1) rfl rfl (am_we (by omega) (by omega) (by omega)) ?_
  refine ax_store (q := 7) (L' := [some (am_R 135), some (am_I (((n : Nat) : Int) - 1))]) rfl rfl rfl rfl rfl rfl ?_
  exact l_hasRelation (by omega) hg n hn9 hQ

def cz_ (g : Nat → Int) (t : Int) : Nat → Nat
  | 0 => 0
  | n + 1 => if g n = 20 ∨ (ti_ (g n) : Int) < t then n + 1 else cz_ g t n
/-- what close adds -/
def ce_ (g : Nat → Int) (t : Int) : Nat → List (Int × Int)
  | 0 => []
  | n + 1 => if g n = 20 ∨ (ti_ (g n) : Int) < t then [] else (if g n = 21 then ((2 : Int), (0 : Int)) else (3, g n)) :: ce_ g t n
def cq_ (g : Nat → Int) (t : Int) : Nat → Nat
  | 0 => 0
  | n + 1 => if g n = 20 ∨ (ti_ (g n) : Int) < t then 0 else (if g n = 21 then 1 else 0) + cq_ g t n
def pe_ (f : Nat → Int) (s : Nat) : List Int → Nat → Int
  | [] => f
  | x :: l => pe_ (am_up f s x) (s + 1) l
theorem fp_ad {A F B : List Nat} {σ σ' : am_S} {s : Nat} {x y : Int} (h : fp_ A F B σ σ') (h1 : 138 ∈ A) (h2 : 139 ∈ A) (h3 : 17 ∈ F) : fp_ A F B σ (ad_ σ' s x y) := by
  have h5 := fp_s5 (z := ((s + 1 : Nat) : Int)) (fp_sI (fp_sI (f := am_up (σ'.1 138) s x) h h1 (by decide)) (a := 139) (f := am_up (σ'.1 139) s y) h2 (by decide)) h3
  rw [sI_ne (by decide), sI_ne (by decide)] at h5
  exact h5
def CL_ (σ σ' : am_S) (s n : Nat) (dp : Int) (l : List (Int × Int)) : Prop := fp_ [138, 139] [17, 19, 23] [] σ σ' ∧ σ'.1 135 17 = ((s + l.length : Nat) : Int) ∧ σ'.1 135 19 = (n : Int) ∧ σ'.1 135 23 = dp ∧ σ'.1 138 = pe_ (σ.1 138) s (l.map (·.1)) ∧ σ'.1 139 = pe_ (σ.1 139) s (l.map (·.2))

theorem l_close {d : Nat} (hd : 2 ≤ d) {g : Nat → Int} {t : Int} {Q : Option am_V → am_S → Prop} : ∀ (n s : Nat) (dp : Int) (σ : am_S), σ.1 142 = g → σ.1 135 19 = (n : Int) → σ.1 135 17 = (s : Int) → σ.1 135 23 = dp → n ≤ 160 → s + n ≤ 320 → (n : Int) - 1000 ≤ dp → dp ≤ 1000 → (hQ : ∀ σ', CL_ σ σ' s (cz_ g t n) (dp - (cq_ g t n : Nat)) (ce_ g t n) → Q none σ') → aW d 4 k_X9_close Q 0 [some (am_R 135), some (am_I t)] [] σ := by
  intro n
  induction n with
  | zero =>
    intro s dp σ hg hn hs hdp hn9 hsn hd1 hd2 hQ
    refine ax_load (q := 1) rfl rfl rfl rfl rfl ?_
    refine ax_getf (q := 4) (v := am_I ((0 : Nat) : Int)) rfl rfl (am_fg rfl hn) ?_
    refine ax_if_le (q := 7) (x := 101) rfl rfl (fun h4 => ?_) (fun h => absurd h (by omega))
    refine ax_ret (r := none) rfl rfl ?_
    exact hQ σ ⟨fp_rf _ _ _ _, by rw [hs]; rfl, hn, by rw [hdp]; show dp = dp - 0; omega, rfl, rfl⟩
  | succ n ih =>
    intro s dp σ hg hn hs hdp hn9 hsn hd1 hd2 hQ
    refine ax_load (q := 1) rfl rfl rfl rfl rfl ?_
    refine ax_getf (q := 4) (v := am_I ((n + 1 : Nat) : Int)) rfl rfl (am_fg rfl hn) ?_
    refine ax_if_le (q := 7) (x := 101) rfl rfl (fun h => absurd h (by omega)) (fun h4 => ?_)
    refine ax_load (q := 8) rfl rfl rfl rfl rfl ?_
    refine ax_getf (q := 11) (v := am_R 142) rfl rfl (rfl) ?_
    refine ax_load (q := 12) rfl rfl rfl rfl rfl ?_
    refine ax_getf (q := 15) (v := am_I ((n + 1 : Nat) : Int)) rfl rfl (am_fg rfl hn) ?_
    refine ax_const (q := 16) (v := am_I 1) rfl rfl rfl ?_
    refine ax_isub (q := 17) (z := ((n : Nat) : Int)) rfl rfl (am_we (by omega) (by omega) (by omega)) ?_
    refine bx_iald (q := 18) (k := n) (z := g n) rfl rfl (rfl) (by omega) (by omega) ((congrFun (by first | exact hg | (rw [sI_ne (by decide)]; exact hg)) _)) ?_
    refine ax_const (q := 20) (v := am_I 20) rfl rfl rfl ?_
    refine ax_icmp_eq (q := 23) (x := 101) rfl rfl (fun h20 => ?_) (fun h20 => ?_)
    · refine ax_ret (r := none) rfl rfl ?_
      have c : g n = 20 ∨ (ti_ (g n) : Int) < t := by first | exact Or.inl (by assumption) | exact Or.inr (by omega)
      exact hQ σ ⟨fp_rf _ _ _ _, by rw [hs]; unfold ce_; rw [if_pos c]; rfl, by unfold cz_; rw [if_pos c]; exact hn, by unfold cq_; rw [if_pos c, hdp]; show dp = dp - 0; omega, by unfold ce_; rw [if_pos c]; rfl, by unfold ce_; rw [if_pos c]; rfl⟩
    · refine ax_load (q := 24) rfl rfl rfl rfl rfl ?_
      refine ax_getf (q := 27) (v := am_R 142) rfl rfl (rfl) ?_
      refine ax_load (q := 28) rfl rfl rfl rfl rfl ?_
      refine ax_getf (q := 31) (v := am_I ((n + 1 : Nat) : Int)) rfl rfl (am_fg rfl hn) ?_
      refine ax_const (q := 32) (v := am_I 1) rfl rfl rfl ?_
      refine ax_isub (q := 33) (z := ((n : Nat) : Int)) rfl rfl (am_we (by omega) (by omega) (by omega)) ?_
      refine bx_iald (q := 34) (k := n) (z := g n) rfl rfl (rfl) (by omega) (by omega) ((congrFun (by first | exact hg | (rw [sI_ne (by decide)]; exact hg)) _)) ?_
      refine ax_calls (q := 37) rfl rfl rfl rfl rfl ?_
      refine m_tight (by omega) ?_
      refine ax_load (q := 38) rfl rfl rfl rfl rfl ?_
      refine ax_icmp_lt (q := 41) (x := 101) rfl rfl (fun h38 => ?_) (fun h38 => ?_)
      · refine ax_ret (r := none) rfl rfl ?_
        have c : g n = 20 ∨ (ti_ (g n) : Int) < t := by first | exact Or.inl (by assumption) | exact Or.inr (by omega)
        exact hQ σ ⟨fp_rf _ _ _ _, by rw [hs]; unfold ce_; rw [if_pos c]; rfl, by unfold cz_; rw [if_pos c]; exact hn, by unfold cq_; rw [if_pos c, hdp]; show dp = dp - 0; omega, by unfold ce_; rw [if_pos c]; rfl, by unfold ce_; rw [if_pos c]; rfl⟩
      · refine ax_load (q := 42) rfl rfl rfl rfl rfl ?_
        refine ax_dup (q := 43) rfl rfl rfl ?_
        refine ax_getf (q := 46) (v := am_I ((n + 1 : Nat) : Int)) rfl rfl (am_fg rfl hn) ?_
        refine ax_const (q := 47) (v := am_I 1) rfl rfl rfl ?_
        refine ax_isub (q := 48) (z := ((n : Nat) : Int)) rfl rfl (am_we (by omega) (by omega) (by omega)) ?_
        refine ax_putf (q := 51) rfl rfl rfl ?_
        refine ax_load (q := 52) rfl rfl rfl rfl rfl ?_
        refine ax_getf (q := 55) (v := am_R 142) rfl rfl (rfl) ?_
        refine ax_load (q := 56) rfl rfl rfl rfl rfl ?_
        refine ax_getf (q := 59) (v := am_I ((n : Nat) : Int)) rfl rfl (am_fg rfl (by first | (rw [sI_at, am_up_same]) | (simp [ad_, am_sI, am_up]))) ?_
        refine bx_iald (q := 60) (k := n) (z := g n) rfl rfl (rfl) (by omega) (by omega) ((congrFun (by first | exact hg | (rw [sI_ne (by decide)]; exact hg)) _)) ?_
        refine ax_const (q := 62) (v := am_I 21) rfl rfl rfl ?_
        refine ax_icmp_ne (q := 65) (x := 84) rfl rfl (fun h62 => ?_) (fun h62 => ?_)
        · refine ax_load (q := 85) rfl rfl rfl rfl rfl ?_
          refine ax_const (q := 86) (v := am_I 3) rfl rfl rfl ?_
          refine ax_load (q := 87) rfl rfl rfl rfl rfl ?_
          refine ax_getf (q := 90) (v := am_R 142) rfl rfl (rfl) ?_
          refine ax_load (q := 91) rfl rfl rfl rfl rfl ?_
          refine ax_getf (q := 94) (v := am_I ((n : Nat) : Int)) rfl rfl (am_fg rfl (by first | (rw [sI_at, am_up_same]) | (simp [ad_, am_sI, am_up]))) ?_
          refine bx_iald (q := 95) (k := n) (z := g n) rfl rfl (rfl) (by omega) (by omega) ((congrFun (by first | exact hg | (rw [sI_ne (by decide)]; exact hg)) _)) ?_
          refine ax_callv (q := 98) rfl rfl rfl rfl rfl rfl ?_
          refine m_add (s := s) (by omega) (by rw [sI_at, am_up_ne (by decide)]; exact hs) (by omega) ?_
          refine ax_goto (x := 0) rfl ?_
          have c : ¬ (g n = 20 ∨ (ti_ (g n) : Int) < t) := by rintro (q | q); (first | exact absurd q (by assumption) | omega); omega
          have e1 : cz_ g t (n + 1) = cz_ g t n := if_neg c
          have e2 : ce_ g t (n + 1) = ((3, (g n)) : Int × Int) :: ce_ g t n := by show (if _ then _ else (if _ then _ else _) :: _) = _; rw [if_neg c, if_neg (by assumption)]
          have e3 : cq_ g t (n + 1) = 0 + cq_ g t n := by show (if _ then _ else (if _ then _ else _) + _) = _; rw [if_neg c, if_neg (by assumption)]
          rw [e1, e2, e3] at hQ
          refine ih (s + 1) (dp - 0) _ (by simp [ad_, am_sI, am_up, hg]) (by simp [ad_, am_sI, am_up]) (by simp [ad_, am_sI, am_up]) (by simp [ad_, am_sI, am_up, hdp]) (by omega) (by omega) (by omega) (by omega) (fun σ' h => hQ σ' ?_)
          obtain ⟨f1, f2, f3, f4, f5, f6⟩ := h
          refine ⟨fp_tr (fp_ad (fp_s5 (fp_rf _ _ _ _) (by decide)) (by decide) (by decide) (by decide)) f1 (fun _ q => q) (fun _ q => q) (fun _ q => q), ?_, f3, ?_, ?_, ?_⟩
          · rw [f2, List.length_cons]; congr 1; omega
          · rw [f4]; omega
          · rw [f5]; simp [ad_, am_sI, am_up, pe_]
          · rw [f6]; simp [ad_, am_sI, am_up, pe_]
        · refine ax_load (q := 66) rfl rfl rfl rfl rfl ?_
          refine ax_const (q := 67) (v := am_I 2) rfl rfl rfl ?_
          refine ax_const (q := 68) (v := am_I 0) rfl rfl rfl ?_
          refine ax_callv (q := 71) rfl rfl rfl rfl rfl rfl ?_
          refine m_add (s := s) (by omega) (by rw [sI_at, am_up_ne (by decide)]; exact hs) (by omega) ?_
          refine ax_load (q := 72) rfl rfl rfl rfl rfl ?_
          refine ax_dup (q := 73) rfl rfl rfl ?_
          refine ax_getf (q := 76) (v := am_I dp) rfl rfl (am_fg rfl (by simp [ad_, am_sI, am_up, hdp])) ?_
          refine ax_const (q := 77) (v := am_I 1) rfl rfl rfl ?_
          refine ax_isub (q := 78) (z := dp - 1) rfl rfl (am_we (by omega) (by omega) (by omega)) ?_
          refine ax_putf (q := 81) rfl rfl rfl ?_
          refine ax_goto (x := 0) rfl ?_
          have c : ¬ (g n = 20 ∨ (ti_ (g n) : Int) < t) := by rintro (q | q); (first | exact absurd q (by assumption) | omega); omega
          have e1 : cz_ g t (n + 1) = cz_ g t n := if_neg c
          have e2 : ce_ g t (n + 1) = ((2, 0) : Int × Int) :: ce_ g t n := by show (if _ then _ else (if _ then _ else _) :: _) = _; rw [if_neg c, if_pos (by assumption)]
          have e3 : cq_ g t (n + 1) = 1 + cq_ g t n := by show (if _ then _ else (if _ then _ else _) + _) = _; rw [if_neg c, if_pos (by assumption)]
          rw [e1, e2, e3] at hQ
          refine ih (s + 1) (dp - 1) _ (by simp [ad_, am_sI, am_up, hg]) (by simp [ad_, am_sI, am_up]) (by simp [ad_, am_sI, am_up]) (by simp [ad_, am_sI, am_up, hdp]) (by omega) (by omega) (by omega) (by omega) (fun σ' h => hQ σ' ?_)
          obtain ⟨f1, f2, f3, f4, f5, f6⟩ := h
          refine ⟨fp_tr (fp_s5 (fp_ad (fp_s5 (fp_rf _ _ _ _) (by decide)) (by decide) (by decide) (by decide)) (by decide)) f1 (fun _ q => q) (fun _ q => q) (fun _ q => q), ?_, f3, ?_, ?_, ?_⟩
          · rw [f2, List.length_cons]; congr 1; omega
          · rw [f4]; omega
          · rw [f5]; simp [ad_, am_sI, am_up, pe_]
          · rw [f6]; simp [ad_, am_sI, am_up, pe_]

theorem m_close {d : Nat} (hd : 3 ≤ d) {σ : am_S} {g : Nat → Int} {t : Int} {n s : Nat} {dp : Int} (hg : σ.1 142 = g) (hn : σ.1 135 19 = (n : Int)) (hs : σ.1 135 17 = (s : Int)) (hdp : σ.1 135 23 = dp) (hn9 : n ≤ 160) (hsn : s + n ≤ 320) (hd1 : (n : Int) - 1000 ≤ dp) (hd2 : dp ≤ 1000) {Q : Option am_V → am_S → Prop} (hQ : ∀ σ', CL_ σ σ' s (cz_ g t n) (dp - (cq_ g t n : Nat)) (ce_ g t n) → Q none σ') : am_Ev d 160 [am_R 135, am_I t] σ Q := by
  obtain ⟨d, rfl⟩ : ∃ e, d = e + 1 := ⟨d - 1, by omega⟩
  refine ev_in (m := 160) (c := k_X9_close) (L := [some (am_R 135), some (am_I t)]) rfl rfl rfl rfl rfl rfl ?_
  exact l_close (by omega) n s dp σ hg hn hs hdp hn9 hsn hd1 hd2 hQ

