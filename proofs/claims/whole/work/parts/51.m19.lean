/-! life: the shares as the numbers tell them, and as one goes on from the other -/
def dg_ (y i k : Nat) : Nat := (i / (y + 1) ^ k) % (y + 1)
/-- the shares of y years among n SKILLS that number i tells -/
def cf_ (n y i : Nat) : Option (List Nat) := if n ≤ 1 then some [y, 0, 0, 0] else if n = 2 then some [dg_ y i 0, y - dg_ y i 0, 0, 0] else if n = 3 then (if dg_ y i 1 + dg_ y i 0 ≤ y then some [dg_ y i 1, dg_ y i 0, y - (dg_ y i 1 + dg_ y i 0), 0] else none) else (if dg_ y i 2 + dg_ y i 1 + dg_ y i 0 ≤ y then some [dg_ y i 2, dg_ y i 1, dg_ y i 0, y - (dg_ y i 2 + dg_ y i 1 + dg_ y i 0)] else none)
def en_ (n y : Nat) : List (List Nat) := (List.range ((y + 1) ^ (n - 1))).filterMap (cf_ n y)
def s0_ (n y : Nat) : List Nat := [0, 0, 0, 0].set (n - 1) y
def sqb_ {α : Type} [DecidableEq α] (next : α → Option α) : List α → Bool
  | [] => false
  | [x] => decide (next x = none)
  | x :: y :: l => decide (next x = some y) && sqb_ next (y :: l)
theorem sqb_t {α : Type} [DecidableEq α] {next : α → Option α} : ∀ l, sqb_ next l = true → sq_ next l
  | [], h => by cases h
  | [x], h => of_decide_eq_true (p := next x = none) h
  | x :: y :: l, h => by
    unfold sqb_ at h
    rw [Bool.and_eq_true] at h
    exact ⟨of_decide_eq_true h.1, sqb_t (y :: l) h.2⟩
def ok4_ (S : List Nat) : Bool := match S with
  | [a, b, c, e] => decide (a ≤ 12) && (decide (b ≤ 12) && (decide (c ≤ 12) && decide (e ≤ 12)))
  | _ => false
theorem ok4_t {S : List Nat} (h : ok4_ S = true) : S.length = 4 ∧ ∀ k, S.getD k 0 ≤ 12 := by
  unfold ok4_ at h
  split at h
  · simp only [Bool.and_eq_true, decide_eq_true_eq] at h
    refine ⟨rfl, fun k => ?_⟩
    rcases k with _ | _ | _ | _ | k <;> simp <;> omega
  · cases h
theorem en_all : ((List.range 4).all fun n => (List.range 12).all fun y => sqb_ (nx_ (n + 1)) (en_ (n + 1) (y + 1)) && ((en_ (n + 1) (y + 1)).all ok4_ && decide ((en_ (n + 1) (y + 1)).head? = some (s0_ (n + 1) (y + 1))))) = true := by decide +kernel
theorem en_ok {n y : Nat} (h1 : 1 ≤ n) (h4 : n ≤ 4) (h0 : 1 ≤ y) (h12 : y ≤ 12) : ∃ l, en_ n y = s0_ n y :: l ∧ sq_ (nx_ n) (s0_ n y :: l) ∧ ∀ S, S ∈ s0_ n y :: l → S.length = 4 ∧ ∀ k, S.getD k 0 ≤ 12 := by
  have h := en_all
  rw [List.all_eq_true] at h
  have h := h (n - 1) (List.mem_range.mpr (by omega))
  rw [List.all_eq_true] at h
  have h := h (y - 1) (List.mem_range.mpr (by omega))
  rw [show n - 1 + 1 = n by omega, show y - 1 + 1 = y by omega, Bool.and_eq_true, Bool.and_eq_true, decide_eq_true_eq, List.all_eq_true] at h
  obtain ⟨g1, g2, g3⟩ := h
  cases e : en_ n y with
  | nil => rw [e] at g3; cases g3
  | cons S l =>
    rw [e] at g1 g2 g3
    have : S = s0_ n y := Option.some.inj g3
    subst this
    exact ⟨l, rfl, sqb_t _ g1, fun S hS => ok4_t (g2 S hS)⟩
/-- a life: the most PARTS, and the shares -/
def lf_ (T : sp_T) (v : sp_V) (p : Nat) : Int × List Nat := be_ (fun S => po_ T (gs_ T v p S (nS_ T)) p) (en_ (nS_ T) (yf_ T v p)) (-1, [])
def lc_ (T : sp_T) (v : sp_V) (a : Int) : Bool := sn_ T v a && (decide (yf_ T v a.toNat ≤ 12) && decide (¬ nS_ T = 0))

theorem m_life {d : Nat} (hd : 8 ≤ d) {σ : am_S} {T : sp_T} (hT : TM_ T σ) (hV : TV_ T) {b : Int} {v w : sp_V} (hw : σ.1 163 = w) (hvw : ∀ j, j < 50 → v j = w j) (hW : VV_ T b w) (hb9 : b ≤ 90000) {a : Int} {Q : Option am_V → am_S → Prop} (hN : lc_ T v a = false → ∀ σ', fq_ [] [68] σ σ' → σ'.1 135 68 = 0 → Q (some (am_I (-1))) σ') (hY : lc_ T v a = true → ∀ σ', fq_ [143, 144, 164, 166, 167] [68] σ σ' → σ'.1 135 68 = (nS_ T : Int) → (∀ k, k < nS_ T → σ'.1 167 k = ((lf_ T v a.toNat).2.getD k 0 : Int)) → Q (some (am_I (lf_ T v a.toNat).1)) σ') : am_Ev d 233 [am_R 135, am_I a] σ Q := by
  obtain ⟨d, rfl⟩ : ∃ e, d = e + 1 := ⟨d - 1, by omega⟩
  have h6 := hV.nP
  have hn := hV.nS
  obtain ⟨σ0, hσ0⟩ : ∃ s, s = am_sI σ 135 (am_up (σ.1 135) 68 0) := ⟨_, rfl⟩
  have hf0 : fq_ [] [68] σ σ0 := by rw [hσ0]; exact fq_s5 (fq_rf _ _ _) (by decide)
  have h68 : σ0.1 135 68 = 0 := by rw [hσ0, sI_at, am_up_same]
  have hT0 : TM_ T σ0 := hT.fq hf0 (by decide) (by decide)
  have hw0 : σ0.1 163 = w := (hf0.1 163 (by decide) (by decide)).trans hw
  refine ev_in (m := 233) (c := k_X9_life) (L := [some (am_R 135), some (am_I a), none, none, none, none]) rfl rfl rfl rfl rfl rfl ?_
  refine ax_load (q := 1) rfl rfl rfl rfl rfl ?_
  refine ax_const (q := 2) (v := am_I 0) rfl rfl rfl ?_
  refine ax_putf (q := 5) rfl rfl rfl ?_
  refine ax_load (q := 6) rfl rfl rfl rfl rfl ?_
  refine ax_load (q := 7) rfl rfl rfl rfl rfl ?_
  refine ax_callv (q := 10) rfl rfl rfl rfl rfl rfl ?_
  rw [← hσ0]
  refine m_isShutNow (by omega) hT0 hV hw0 ?_
  rw [← sn_cg hV hvw]
  refine ax_if_eq (q := 13) (x := 30) rfl rfl (fun h10 => ?_) (fun h10 => ?_)
  · have hb10 := it_0 h10
    refine ax_const (q := 31) (v := am_I (-1)) rfl rfl rfl ?_
    refine ax_ret (r := some (am_I (-1))) rfl rfl ?_
    exact hN (by unfold lc_; first | (rw [hb10]; rfl) | (rw [hb10, hyv, Int.toNat_natCast, hyv, decide_eq_false (by omega)]; rfl) | (rw [hb10, Int.toNat_natCast, hyv, decide_eq_false (by omega)]; rfl) | (rw [hb10, show nS_ T = 0 by omega]; simp)) σ0 hf0 h68
  · have hb10 := it_n0 h10
    obtain ⟨p, rfl, hp, hsp⟩ := sn_t hb10
    refine ax_load (q := 14) rfl rfl rfl rfl rfl ?_
    refine ax_load (q := 15) rfl rfl rfl rfl rfl ?_
    refine ax_callv (q := 18) rfl rfl rfl rfl rfl rfl ?_
    have hy1 := yf_bd hV hW hp
    have hyv : yf_ T v p = yf_ T w p := yf_cg (hvw p (by omega))
    refine m_yearsLeft (by omega) hT0 hV hw0 (by omega) (by have := (hW.2.2 p hp).1; omega) ?_
    refine ax_const (q := 20) (v := am_I 12) rfl rfl rfl ?_
    refine ax_icmp_gt (q := 23) (x := 30) rfl rfl (fun h20 => ?_) (fun h20 => ?_)
    · refine ax_const (q := 31) (v := am_I (-1)) rfl rfl rfl ?_
      refine ax_ret (r := some (am_I (-1))) rfl rfl ?_
      exact hN (by unfold lc_; first | (rw [hb10]; rfl) | (rw [hb10, hyv, Int.toNat_natCast, hyv, decide_eq_false (by omega)]; rfl) | (rw [hb10, Int.toNat_natCast, hyv, decide_eq_false (by omega)]; rfl) | (rw [hb10, show nS_ T = 0 by omega]; simp)) σ0 hf0 h68
    · refine ax_load (q := 24) rfl rfl rfl rfl rfl ?_
      refine ax_getf (q := 27) (v := am_I ((nS_ T : Nat) : Int)) rfl rfl (am_fg rfl (hT0.s50.trans hV.nS.1)) ?_
      refine ax_if_ne (q := 30) (x := 32) rfl rfl (fun h27 => ?_) (fun h27 => ?_)
      · refine ax_const (q := 33) (v := am_I 0) rfl rfl rfl ?_
        refine ax_store (q := 34) (L' := [some (am_R 135), some (am_I ((p : Nat) : Int)), some (am_I 0), none, none, none]) rfl rfl rfl rfl rfl rfl ?_
        refine ax_load (q := 35) rfl rfl rfl rfl rfl ?_
        refine ax_const (q := 36) (v := am_I 4) rfl rfl rfl ?_
        refine ax_icmp_ge (q := 39) (x := 52) rfl rfl (fun h => absurd h (by omega)) (fun h36 => ?_)
        refine ax_load (q := 40) rfl rfl rfl rfl rfl ?_
        refine ax_getf (q := 43) (v := am_R 166) rfl rfl (rfl) ?_
        refine ax_load (q := 44) rfl rfl rfl rfl rfl ?_
        refine ax_const (q := 45) (v := am_I 0) rfl rfl rfl ?_
        refine bx_iast (q := 46) (k := 0) rfl rfl (rfl) (by omega) (by omega) ?_
        refine ax_iinc (q := 49) (z' := ((1 : Nat) : Int)) (L' := [some (am_R 135), some (am_I ((p : Nat) : Int)), some (am_I ((1 : Nat) : Int)), none, none, none]) rfl rfl rfl rfl (am_we (by omega) (by omega) (by omega)) rfl ?_
        refine ax_goto (x := 34) rfl ?_
        refine ax_load (q := 35) rfl rfl rfl rfl rfl ?_
        refine ax_const (q := 36) (v := am_I 4) rfl rfl rfl ?_
        refine ax_icmp_ge (q := 39) (x := 52) rfl rfl (fun h => absurd h (by omega)) (fun h36 => ?_)
        refine ax_load (q := 40) rfl rfl rfl rfl rfl ?_
        refine ax_getf (q := 43) (v := am_R 166) rfl rfl (rfl) ?_
        refine ax_load (q := 44) rfl rfl rfl rfl rfl ?_
        refine ax_const (q := 45) (v := am_I 0) rfl rfl rfl ?_
        refine bx_iast (q := 46) (k := 1) rfl rfl (rfl) (by omega) (by omega) ?_
        refine ax_iinc (q := 49) (z' := ((2 : Nat) : Int)) (L' := [some (am_R 135), some (am_I ((p : Nat) : Int)), some (am_I ((2 : Nat) : Int)), none, none, none]) rfl rfl rfl rfl (am_we (by omega) (by omega) (by omega)) rfl ?_
        refine ax_goto (x := 34) rfl ?_
        refine ax_load (q := 35) rfl rfl rfl rfl rfl ?_
        refine ax_const (q := 36) (v := am_I 4) rfl rfl rfl ?_
        refine ax_icmp_ge (q := 39) (x := 52) rfl rfl (fun h => absurd h (by omega)) (fun h36 => ?_)
        refine ax_load (q := 40) rfl rfl rfl rfl rfl ?_
        refine ax_getf (q := 43) (v := am_R 166) rfl rfl (rfl) ?_
        refine ax_load (q := 44) rfl rfl rfl rfl rfl ?_
        refine ax_const (q := 45) (v := am_I 0) rfl rfl rfl ?_
        refine bx_iast (q := 46) (k := 2) rfl rfl (rfl) (by omega) (by omega) ?_
        refine ax_iinc (q := 49) (z' := ((3 : Nat) : Int)) (L' := [some (am_R 135), some (am_I ((p : Nat) : Int)), some (am_I ((3 : Nat) : Int)), none, none, none]) rfl rfl rfl rfl (am_we (by omega) (by omega) (by omega)) rfl ?_
        refine ax_goto (x := 34) rfl ?_
        refine ax_load (q := 35) rfl rfl rfl rfl rfl ?_
        refine ax_const (q := 36) (v := am_I 4) rfl rfl rfl ?_
        refine ax_icmp_ge (q := 39) (x := 52) rfl rfl (fun h => absurd h (by omega)) (fun h36 => ?_)
        refine ax_load (q := 40) rfl rfl rfl rfl rfl ?_
        refine ax_getf (q := 43) (v := am_R 166) rfl rfl (rfl) ?_
        refine ax_load (q := 44) rfl rfl rfl rfl rfl ?_
        refine ax_const (q := 45) (v := am_I 0) rfl rfl rfl ?_
        refine bx_iast (q := 46) (k := 3) rfl rfl (rfl) (by omega) (by omega) ?_
        refine ax_iinc (q := 49) (z' := ((4 : Nat) : Int)) (L' := [some (am_R 135), some (am_I ((p : Nat) : Int)), some (am_I ((4 : Nat) : Int)), none, none, none]) rfl rfl rfl rfl (am_we (by omega) (by omega) (by omega)) rfl ?_
        refine ax_goto (x := 34) rfl ?_
        refine ax_load (q := 35) rfl rfl rfl rfl rfl ?_
        refine ax_const (q := 36) (v := am_I 4) rfl rfl rfl ?_
        refine ax_icmp_ge (q := 39) (x := 52) rfl rfl (fun h36 => ?_) (fun h => absurd h (by omega))
        obtain ⟨σz, hσz⟩ : ∃ s, s = (am_sI (am_sI (am_sI (am_sI σ0 166 (am_up (σ0.1 166) 0 0)) 166 (am_up ((am_sI σ0 166 (am_up (σ0.1 166) 0 0)).1 166) 1 0)) 166 (am_up ((am_sI (am_sI σ0 166 (am_up (σ0.1 166) 0 0)) 166 (am_up ((am_sI σ0 166 (am_up (σ0.1 166) 0 0)).1 166) 1 0)).1 166) 2 0)) 166 (am_up ((am_sI (am_sI (am_sI σ0 166 (am_up (σ0.1 166) 0 0)) 166 (am_up ((am_sI σ0 166 (am_up (σ0.1 166) 0 0)).1 166) 1 0)) 166 (am_up ((am_sI (am_sI σ0 166 (am_up (σ0.1 166) 0 0)) 166 (am_up ((am_sI σ0 166 (am_up (σ0.1 166) 0 0)).1 166) 1 0)).1 166) 2 0)).1 166) 3 0)) := ⟨_, rfl⟩
        rw [← hσz]
        have hfz0 : fr_ [166] σ0 σz := by rw [hσz]; exact fr_sI (fr_sI (fr_sI (fr_sI (fr_rf _ _) (by decide)) (by decide)) (by decide)) (by decide)
        have hz0 : ∀ k, k < 4 → σz.1 166 k = 0 := fun k hk => by rw [hσz]; rcases (show k = 0 ∨ k = 1 ∨ k = 2 ∨ k = 3 by omega) with rfl | rfl | rfl | rfl <;> simp [am_sI, am_up]
        have hTz : TM_ T σz := hT0.f5 hfz0 (by decide) (by decide)
        have hwz : σz.1 163 = w := (hfz0.1 163 (by decide)).trans hw0
        refine ax_load (q := 53) rfl rfl rfl rfl rfl ?_
        refine ax_getf (q := 56) (v := am_R 166) rfl rfl (rfl) ?_
        refine ax_load (q := 57) rfl rfl rfl rfl rfl ?_
        refine ax_getf (q := 60) (v := am_I ((nS_ T : Nat) : Int)) rfl rfl (am_fg rfl (hTz.s50.trans hV.nS.1)) ?_
        refine ax_const (q := 61) (v := am_I 1) rfl rfl rfl ?_
        refine ax_isub (q := 62) (z := (((nS_ T - 1) : Nat) : Int)) rfl rfl (am_we (by omega) (by omega) (by omega)) ?_
        refine ax_load (q := 63) rfl rfl rfl rfl rfl ?_
        refine ax_load (q := 64) rfl rfl rfl rfl rfl ?_
        refine ax_callv (q := 67) rfl rfl rfl rfl rfl rfl ?_
        refine m_yearsLeft (by omega) hTz hV hwz (by omega) (by have := (hW.2.2 p hp).1; omega) ?_
        refine bx_iast (q := 68) (k := (nS_ T - 1)) rfl rfl (rfl) (by omega) (by omega) ?_
        refine ax_const (q := 69) (v := am_I (-1)) rfl rfl rfl ?_
        refine ax_store (q := 70) (L' := [some (am_R 135), some (am_I ((p : Nat) : Int)), some (am_I (-1)), none, none, none]) rfl rfl rfl rfl rfl rfl ?_
        refine ax_const (q := 71) (v := am_I 1) rfl rfl rfl ?_
        refine ax_store (q := 72) (L' := [some (am_R 135), some (am_I ((p : Nat) : Int)), some (am_I (-1)), some (am_I 1), none, none]) rfl rfl rfl rfl rfl rfl ?_
        obtain ⟨l, he, hsq, hok⟩ := en_ok (n := nS_ T) (y := yf_ T w p) (by omega) (by omega) (by omega) (by omega)
        have hfz : fr_ [166] σ0 (am_sI σz 166 (am_up (σz.1 166) (nS_ T - 1) ((yf_ T w p : Nat) : Int))) := fr_sI hfz0 (by decide)
        have hlc : lc_ T v (p : Int) = true := by unfold lc_; rw [hb10, Int.toNat_natCast, hyv, decide_eq_true (show yf_ T w p ≤ 12 by omega), decide_eq_true (show ¬ nS_ T = 0 by omega)]; rfl
        have hok0 := hok _ (List.mem_cons_self ..)
        have hSz : SH_ (s0_ (nS_ T) (yf_ T w p)) (am_sI σz 166 (am_up (σz.1 166) (nS_ T - 1) ((yf_ T w p : Nat) : Int))) := ⟨fun k hk => by
            rw [sI_at]
            unfold s0_
            rw [getD_set (by simp; omega)]
            by_cases q : k = nS_ T - 1
            · subst q; rw [am_up_same, if_pos rfl]
            · rw [am_up_ne q, if_neg q, hz0 k hk]
              rcases (show k = 0 ∨ k = 1 ∨ k = 2 ∨ k = 3 by omega) with rfl | rfl | rfl | rfl <;> rfl, hok0⟩
        refine l_life (by omega) hV (by omega) hvw hW hb9 hp l (s0_ (nS_ T) (yf_ T w p)) (-1, []) _ none none (hTz.sI (by decide)) ((sI_ne (by decide)).trans hwz) hSz hsq hok (Or.inl (by decide)) (fun σ1 o4 o5 hf1 hl1 => ?_)
        have hT1 : TM_ T σ1 := TM_.f5 (hTz.sI (a := 166) (by decide)) hf1 (by decide) (by decide)
        refine ax_load (q := 133) rfl rfl rfl rfl rfl ?_
        refine ax_load (q := 134) rfl rfl rfl rfl rfl ?_
        refine ax_getf (q := 137) (v := am_I ((nS_ T : Nat) : Int)) rfl rfl (am_fg rfl (hT1.s50.trans hV.nS.1)) ?_
        refine ax_putf (q := 140) rfl rfl rfl ?_
        refine ax_load (q := 141) rfl rfl rfl rfl rfl ?_
        refine ax_ret (r := some (am_I ((be_ (fun S => po_ T (gs_ T v p S (nS_ T)) p) (s0_ (nS_ T) (yf_ T w p) :: l) (-1, [])).1))) rfl rfl ?_
        have g := hY hlc (am_sI σ1 135 (am_up (σ1.1 135) 68 ((nS_ T : Nat) : Int))) (fq_s5 (fq_tr (fq_tr (fq_tr (fq_rf [143, 144, 164, 166, 167] [68] σ) hf0 (by decide) (by decide)) (fq_fr hfz (by decide) (fun _ q => q) : fq_ [166] [68] σ0 _) (by decide) (by decide)) (fq_fr hf1 (by decide) (fun _ q => q) : fq_ [143, 144, 164, 166, 167] [68] _ σ1) (by decide) (by decide)) (by decide)) (by rw [sI_at, am_up_same]) (fun k hk => by rw [sI_ne (by decide)]; have q := hl1 k hk; rw [Int.toNat_natCast]; unfold lf_; rw [hyv, he]; exact q)
        rw [show (lf_ T v (p : Int).toNat).1 = (be_ (fun S => po_ T (gs_ T v p S (nS_ T)) p) (s0_ (nS_ T) (yf_ T w p) :: l) (-1, [])).1 by rw [Int.toNat_natCast]; unfold lf_; rw [hyv, he]] at g
        exact g
      · refine ax_const (q := 31) (v := am_I (-1)) rfl rfl rfl ?_
        refine ax_ret (r := some (am_I (-1))) rfl rfl ?_
        exact hN (by unfold lc_; first | (rw [hb10]; rfl) | (rw [hb10, hyv, Int.toNat_natCast, hyv, decide_eq_false (by omega)]; rfl) | (rw [hb10, Int.toNat_natCast, hyv, decide_eq_false (by omega)]; rfl) | (rw [hb10, show nS_ T = 0 by omega]; simp)) σ0 hf0 h68

