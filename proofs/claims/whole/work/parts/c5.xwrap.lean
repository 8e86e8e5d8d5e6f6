theorem sbr_ {A B : Type} (a : A) (f : A → Sum (Int × Nat) B) : sb_ (Sum.inr a) f = f a := rfl
theorem sbl_ {A B : Type} (e : Int × Nat) (f : A → Sum (Int × Nat) B) : sb_ (Sum.inl e : Sum (Int × Nat) A) f = Sum.inl e := rfl
/-- the end of a line -/
def eol_ (tp : Nat → Int) (n : Nat) (r : sp_T × Nat) : sp_L := if tks_ tp n r.2 = 59 then Sum.inr (r.1, nxp_ tp n r.2) else Sum.inl (2, r.2)
theorem line_eol (tp : Nat → Int) (n : Nat) (D : sp_T) (p : Nat) : line_ tp n D p = sb_ (lin_ tp n D p) (eol_ tp n) := rfl
theorem eol_y {tp : Nat → Int} {n : Nat} {D : sp_T} {p : Nat} (h : tks_ tp n p = 59) : eol_ tp n (D, p) = Sum.inr (D, nxp_ tp n p) := if_pos h
theorem eol_n {tp : Nat → Int} {n : Nat} {D : sp_T} {p : Nat} (h : ¬ tks_ tp n p = 59) : eol_ tp n (D, p) = Sum.inl (2, p) := if_neg h
theorem old_k {tp : Nat → Int} {n : Nat} {g : Nat → Int} {b m p : Nat} (h : ¬ (tks_ tp n p = 1 ∧ own_ (tkw_ tp n p) = false)) : old_ tp n g b m p = Sum.inl (2, p) := by unfold old_; rw [if_pos h]
theorem old_u {tp : Nat → Int} {n : Nat} {g : Nat → Int} {b m p : Nat} (h : tks_ tp n p = 1 ∧ own_ (tkw_ tp n p) = false) (h2 : fi_ g (tkw_ tp n p) b m < 0) : old_ tp n g b m p = Sum.inl (5, p) := by unfold old_; rw [if_neg (fun e => e h), if_pos h2]
theorem old_y {tp : Nat → Int} {n : Nat} {g : Nat → Int} {b m p : Nat} (h : tks_ tp n p = 1 ∧ own_ (tkw_ tp n p) = false) (h2 : 0 ≤ fi_ g (tkw_ tp n p) b m) : old_ tp n g b m p = Sum.inr (fi_ g (tkw_ tp n p) b m, p) := by unfold old_; rw [if_neg (fun e => e h), if_neg (by omega)]
theorem nwn_k {tp : Nat → Int} {n : Nat} {g : Nat → Int} {b m p : Nat} (h : ¬ (tks_ tp n (nxp_ tp n p) = 1 ∧ own_ (tkw_ tp n (nxp_ tp n p)) = false)) : nwn_ tp n g b m p = Sum.inl (2, nxp_ tp n p) := by unfold nwn_; rw [if_pos h]
theorem nwn_d {tp : Nat → Int} {n : Nat} {g : Nat → Int} {b m p : Nat} (h : tks_ tp n (nxp_ tp n p) = 1 ∧ own_ (tkw_ tp n (nxp_ tp n p)) = false) (h2 : 0 ≤ fi_ g (tkw_ tp n (nxp_ tp n p)) b m) : nwn_ tp n g b m p = Sum.inl (3, nxp_ tp n p) := by unfold nwn_; rw [if_neg (fun e => e h), if_neg (by omega)]
theorem nwn_y {tp : Nat → Int} {n : Nat} {g : Nat → Int} {b m p : Nat} (h : tks_ tp n (nxp_ tp n p) = 1 ∧ own_ (tkw_ tp n (nxp_ tp n p)) = false) (h2 : fi_ g (tkw_ tp n (nxp_ tp n p)) b m < 0) : nwn_ tp n g b m p = Sum.inr (nxp_ tp n (nxp_ tp n p)) := by unfold nwn_; rw [if_neg (fun e => e h), if_pos h2]
theorem num_n {tp : Nat → Int} {n p : Nat} {x y : Int} (h : tks_ tp n p ≠ 2) : num_ tp n x y p = Sum.inl (2, p) := if_pos h
theorem num_o {tp : Nat → Int} {n p : Nat} {x y : Int} (h : tks_ tp n p = 2) (h2 : ¬ (x ≤ tkn_ tp n p ∧ tkn_ tp n p ≤ y)) : num_ tp n x y p = Sum.inl (4, p) := by unfold num_; rw [if_neg (fun e => e h), if_neg h2]
theorem num_y {tp : Nat → Int} {n p : Nat} {x y : Int} (h : tks_ tp n p = 2) (h1 : x ≤ tkn_ tp n p) (h2 : tkn_ tp n p ≤ y) : num_ tp n x y p = Sum.inr (tkn_ tp n p, nxp_ tp n p) := by unfold num_; rw [if_neg (fun e => e h), if_pos ⟨h1, h2⟩]
theorem wan_n {tp : Nat → Int} {n p i : Nat} {w : Int} (hw : (wc_ i : Int) = w) (hi : i < 21) (h : kx_ tp n p ≠ (i : Int)) : wan_ tp n w p = Sum.inl (2, p) := if_neg (fun e => h ((kx_w hi).mpr (by rw [hw]; exact e)))
theorem wan_y {tp : Nat → Int} {n p i : Nat} {w : Int} (hw : (wc_ i : Int) = w) (hi : i < 21) (h : kx_ tp n p = (i : Int)) : wan_ tp n w p = Sum.inr (nxp_ tp n p) := if_pos (by rw [← hw]; exact (kx_w hi).mp h)
theorem tol_n {tp : Nat → Int} {n p i : Nat} {w x y : Int} (hw : (wc_ i : Int) = w) (hi : i < 21) (h : kx_ tp n p ≠ (i : Int)) : tol_ tp n w x y p = Sum.inl (2, p) := if_neg (fun e => h ((kx_w hi).mpr (by rw [hw]; exact e)))
theorem tol_y {tp : Nat → Int} {n p i : Nat} {w x y : Int} (hw : (wc_ i : Int) = w) (hi : i < 21) (h : kx_ tp n p = (i : Int)) : tol_ tp n w x y p = num_ tp n x y (nxp_ tp n p) := if_pos (by rw [← hw]; exact (kx_w hi).mp h)
theorem k59 {tp : Nat → Int} {n p : Nat} : kx_ tp n p = 59 ↔ tks_ tp n p = 59 := kx_s (by omega)
/-- where one sort's names lie: its place among the rows of names, in the reference's row -/
theorem x_old1 {d : Nat} (hd : 3 ≤ d) {σ : am_S} {tp : Nat → Int} {n t p : Nat} (hC : RC_ tp n t p σ) {g : Nat → Int} {b m : Nat} (hN : NM_ (t + 4) (t + 1) 1 g b m σ) {Q : Option am_V → am_S → Prop} (hE : ∀ e, old_ tp n g b m p = Sum.inl e → ∀ σ', gx_ [] [] [0, 1] σ σ' → FX_ tp n e σ' → Q (some (am_I (-1))) σ') (hY : ∀ a : Nat, old_ tp n g b m p = Sum.inr ((a : Int), p) → a < m → tks_ tp n p = 1 → Q (some (am_I (a : Int))) σ) : am_Ev d 60 [am_R 66, am_I 1] σ Q := by
  refine x_known1 hd hC hN (fun hk σ' hf _ g0 => hE _ (old_k hk) _ hf g0) (fun hk hu σ' hf _ g0 => hE _ (old_u hk hu) _ hf g0) (fun hk hu => ?_)
  have hb := fi_bd g (tkw_ tp n p) b m
  obtain ⟨a, ha⟩ : ∃ a : Nat, fi_ g (tkw_ tp n p) b m = (a : Int) := ⟨(fi_ g (tkw_ tp n p) b m).toNat, by omega⟩
  rw [ha]
  exact hY a (by rw [old_y hk hu, ha]) (by omega) hk.1
theorem x_old2 {d : Nat} (hd : 3 ≤ d) {σ : am_S} {tp : Nat → Int} {n t p : Nat} (hC : RC_ tp n t p σ) {g : Nat → Int} {b m : Nat} (hN : NM_ (t + 5) (t + 1) 2 g b m σ) {Q : Option am_V → am_S → Prop} (hE : ∀ e, old_ tp n g b m p = Sum.inl e → ∀ σ', gx_ [] [] [0, 1] σ σ' → FX_ tp n e σ' → Q (some (am_I (-1))) σ') (hY : ∀ a : Nat, old_ tp n g b m p = Sum.inr ((a : Int), p) → a < m → tks_ tp n p = 1 → Q (some (am_I (a : Int))) σ) : am_Ev d 60 [am_R 66, am_I 2] σ Q := by
  refine x_known2 hd hC hN (fun hk σ' hf _ g0 => hE _ (old_k hk) _ hf g0) (fun hk hu σ' hf _ g0 => hE _ (old_u hk hu) _ hf g0) (fun hk hu => ?_)
  have hb := fi_bd g (tkw_ tp n p) b m
  obtain ⟨a, ha⟩ : ∃ a : Nat, fi_ g (tkw_ tp n p) b m = (a : Int) := ⟨(fi_ g (tkw_ tp n p) b m).toNat, by omega⟩
  rw [ha]
  exact hY a (by rw [old_y hk hu, ha]) (by omega) hk.1
theorem x_old3 {d : Nat} (hd : 3 ≤ d) {σ : am_S} {tp : Nat → Int} {n t p : Nat} (hC : RC_ tp n t p σ) {g : Nat → Int} {b m : Nat} (hN : NM_ (t + 6) (t + 1) 3 g b m σ) {Q : Option am_V → am_S → Prop} (hE : ∀ e, old_ tp n g b m p = Sum.inl e → ∀ σ', gx_ [] [] [0, 1] σ σ' → FX_ tp n e σ' → Q (some (am_I (-1))) σ') (hY : ∀ a : Nat, old_ tp n g b m p = Sum.inr ((a : Int), p) → a < m → tks_ tp n p = 1 → Q (some (am_I (a : Int))) σ) : am_Ev d 60 [am_R 66, am_I 3] σ Q := by
  refine x_known3 hd hC hN (fun hk σ' hf _ g0 => hE _ (old_k hk) _ hf g0) (fun hk hu σ' hf _ g0 => hE _ (old_u hk hu) _ hf g0) (fun hk hu => ?_)
  have hb := fi_bd g (tkw_ tp n p) b m
  obtain ⟨a, ha⟩ : ∃ a : Nat, fi_ g (tkw_ tp n p) b m = (a : Int) := ⟨(fi_ g (tkw_ tp n p) b m).toNat, by omega⟩
  rw [ha]
  exact hY a (by rw [old_y hk hu, ha]) (by omega) hk.1
theorem x_num {d : Nat} (hd : 3 ≤ d) {σ : am_S} {tp : Nat → Int} {n t p : Nat} (hC : RC_ tp n t p σ) {x y : Int} {Q : Option am_V → am_S → Prop} (hE : ∀ e, num_ tp n x y p = Sum.inl e → ∀ σ', gx_ [] [] [0, 1] σ σ' → FX_ tp n e σ' → Q (some (am_I (-1))) σ') (hY : ∀ v : Int, num_ tp n x y p = Sum.inr (v, nxp_ tp n p) → x ≤ v → v ≤ y → tks_ tp n p = 2 → Q (some (am_I v)) σ) : am_Ev d 62 [am_R 66, am_I x, am_I y] σ Q :=
  x_number hd hC (fun h σ' hf _ g0 => hE _ (num_n h) _ hf g0) (fun h h2 σ' hf _ g0 => hE _ (num_o h h2) _ hf g0) (fun h h1 h2 => hY _ (num_y h h1 h2) h1 h2 h)
theorem x_wan {d : Nat} (hd : 4 ≤ d) {σ : am_S} {tp : Nat → Int} {n t p : Nat} (hC : RC_ tp n t p σ) {i : Nat} {w : Int} (hw : (wc_ i : Int) = w) (hi : i < 21) {z : Int} (hz : z = (i : Int)) {Q : Option am_V → am_S → Prop} (hE : ∀ e, wan_ tp n w p = Sum.inl e → ∀ σ', gx_ [] [] [0, 1] σ σ' → FX_ tp n e σ' → Q (some (am_I 0)) σ') (hY : wan_ tp n w p = Sum.inr (nxp_ tp n p) → kx_ tp n p = (i : Int) → ∀ σ', gx_ [] [] [5, 6, 7, 9] σ σ' → RC_ tp n t (nxp_ tp n p) σ' → Q (some (am_I 1)) σ') : am_Ev d 59 [am_R 66, am_I z] σ Q := by
  subst hz
  exact x_take hd hC (by omega) (fun h σ' hf _ g0 => hE _ (wan_n hw hi h) _ hf g0) (fun h σ' hf hR => hY (wan_y hw hi h) h _ hf hR)
theorem x_semi {d : Nat} (hd : 4 ≤ d) {σ : am_S} {tp : Nat → Int} {n t p : Nat} (hC : RC_ tp n t p σ) {Q : Option am_V → am_S → Prop} (hE : ¬ tks_ tp n p = 59 → ∀ σ', gx_ [] [] [0, 1] σ σ' → FX_ tp n (2, p) σ' → Q (some (am_I 0)) σ') (hY : tks_ tp n p = 59 → ∀ σ', gx_ [] [] [5, 6, 7, 9] σ σ' → RC_ tp n t (nxp_ tp n p) σ' → Q (some (am_I 1)) σ') : am_Ev d 59 [am_R 66, am_I 59] σ Q :=
  x_take hd hC (by decide) (fun h σ' hf _ g0 => hE (fun e => h (k59.mpr e)) _ hf g0) (fun h σ' hf hR => hY (k59.mp h) _ hf hR)
theorem wk_tk {tp : Nat → Int} {n p : Nat} (hpn : p ≤ n) (h : tks_ tp n p = 1) : WK_ (tkw_ tp n p) := by
  unfold tks_ at h
  by_cases h0 : hr_ tp n p < 0
  · rw [if_pos h0] at h
    omega
  rw [if_neg h0] at h
  by_cases hl : lt_ (hr_ tp n p) = true
  · rw [if_pos hl] at h
    have e : tkl_ tp n p = rl_ lt_ tp n (n - p) p := by unfold tkl_; rw [if_neg h0, if_pos hl]
    have e2 : tkw_ tp n p = wdv_ tp n p (tkl_ tp n p) := by unfold tkw_; rw [if_neg h0, if_pos hl]
    have h8 : tkl_ tp n p ≤ 8 := by
      by_cases q : 8 < tkl_ tp n p
      · rw [if_pos q] at h
        omega
      · omega
    rw [e2]
    obtain ⟨r1, r2⟩ := rl_at lt_ tp n (by decide) (n - p) p (by omega)
    exact (bw_n5 h8 (fun i hi => r1 i (by rw [← e]; exact hi))).2
  · rw [if_neg hl] at h
    by_cases hd : dt_ (hr_ tp n p) = true
    · rw [if_pos hd] at h
      split at h <;> omega
    · rw [if_neg hd] at h
      by_cases hs : si_ (hr_ tp n p) = true
      · rw [if_pos hs] at h
        unfold si_ at hs
        rw [decide_eq_true_eq] at hs
        omega
      · rw [if_neg hs] at h
        omega
theorem x_named0 {d : Nat} (hd : 5 ≤ d) {σ : am_S} {tp : Nat → Int} {n t p : Nat} (hC : RC_ tp n t p σ) (h3 : tks_ tp n p ≠ 3) {g : Nat → Int} {b m : Nat} (hN : NM_ (t + 3) (t + 1) 0 g b m σ) {Q : Option am_V → am_S → Prop} (hF : 6 ≤ m → ∀ σ', gx_ [] [] [0, 1, 5, 6, 7, 9] σ σ' → FX_ tp n (2, p) σ' → Q (some (am_I 0)) σ') (hE : m < 6 → ∀ e, nwn_ tp n g b m p = Sum.inl e → ∀ σ', gx_ [] [] [0, 1, 5, 6, 7, 9] σ σ' → FX_ tp n e σ' → Q (some (am_I 0)) σ') (hY : m < 6 → nwn_ tp n g b m p = Sum.inr (nxp_ tp n (nxp_ tp n p)) → ∀ σ', gx_ [t + 1] [t + 3] [5, 6, 7, 9] σ σ' → σ'.1 (t + 1) = am_up (σ.1 (t + 1)) 0 ((m + 1 : Nat) : Int) → NM_ (t + 3) (t + 1) 0 (am_up g (b + m) (tkw_ tp n (nxp_ tp n p))) b (m + 1) σ' → RC_ tp n t (nxp_ tp n (nxp_ tp n p)) σ' → Q (some (am_I 1)) σ') : am_Ev d 42 [am_R 66, am_I 0] σ Q := by
  refine x_readsNamed0 hd hC h3 hN hF (fun hm hk σ' hf g0 => hE hm _ (nwn_k hk) _ hf g0) (fun hm hk hu σ' hf g0 => hE hm _ (nwn_d hk hu) _ hf g0) (fun hm hk hu σ' hf e1 e2 hR => hY hm (nwn_y hk hu) σ' hf e1 ?_ hR)
  exact hN.add (by omega) (by rw [e1, am_up_same]) e2 (wk_tk (nxp_le hC.pn).2 hk.1) hu (fun i hi => am_up_ne (by omega)) (am_up_same _ _ _) rfl
theorem x_named1 {d : Nat} (hd : 5 ≤ d) {σ : am_S} {tp : Nat → Int} {n t p : Nat} (hC : RC_ tp n t p σ) (h3 : tks_ tp n p ≠ 3) {g : Nat → Int} {b m : Nat} (hN : NM_ (t + 4) (t + 1) 1 g b m σ) {Q : Option am_V → am_S → Prop} (hF : 4 ≤ m → ∀ σ', gx_ [] [] [0, 1, 5, 6, 7, 9] σ σ' → FX_ tp n (2, p) σ' → Q (some (am_I 0)) σ') (hE : m < 4 → ∀ e, nwn_ tp n g b m p = Sum.inl e → ∀ σ', gx_ [] [] [0, 1, 5, 6, 7, 9] σ σ' → FX_ tp n e σ' → Q (some (am_I 0)) σ') (hY : m < 4 → nwn_ tp n g b m p = Sum.inr (nxp_ tp n (nxp_ tp n p)) → ∀ σ', gx_ [t + 1] [t + 4] [5, 6, 7, 9] σ σ' → σ'.1 (t + 1) = am_up (σ.1 (t + 1)) 1 ((m + 1 : Nat) : Int) → NM_ (t + 4) (t + 1) 1 (am_up g (b + m) (tkw_ tp n (nxp_ tp n p))) b (m + 1) σ' → RC_ tp n t (nxp_ tp n (nxp_ tp n p)) σ' → Q (some (am_I 1)) σ') : am_Ev d 42 [am_R 66, am_I 1] σ Q := by
  refine x_readsNamed1 hd hC h3 hN hF (fun hm hk σ' hf g0 => hE hm _ (nwn_k hk) _ hf g0) (fun hm hk hu σ' hf g0 => hE hm _ (nwn_d hk hu) _ hf g0) (fun hm hk hu σ' hf e1 e2 hR => hY hm (nwn_y hk hu) σ' hf e1 ?_ hR)
  exact hN.add (by omega) (by rw [e1, am_up_same]) e2 (wk_tk (nxp_le hC.pn).2 hk.1) hu (fun i hi => am_up_ne (by omega)) (am_up_same _ _ _) rfl
theorem x_named2 {d : Nat} (hd : 5 ≤ d) {σ : am_S} {tp : Nat → Int} {n t p : Nat} (hC : RC_ tp n t p σ) (h3 : tks_ tp n p ≠ 3) {g : Nat → Int} {b m : Nat} (hN : NM_ (t + 5) (t + 1) 2 g b m σ) {Q : Option am_V → am_S → Prop} (hF : 8 ≤ m → ∀ σ', gx_ [] [] [0, 1, 5, 6, 7, 9] σ σ' → FX_ tp n (2, p) σ' → Q (some (am_I 0)) σ') (hE : m < 8 → ∀ e, nwn_ tp n g b m p = Sum.inl e → ∀ σ', gx_ [] [] [0, 1, 5, 6, 7, 9] σ σ' → FX_ tp n e σ' → Q (some (am_I 0)) σ') (hY : m < 8 → nwn_ tp n g b m p = Sum.inr (nxp_ tp n (nxp_ tp n p)) → ∀ σ', gx_ [t + 1] [t + 5] [5, 6, 7, 9] σ σ' → σ'.1 (t + 1) = am_up (σ.1 (t + 1)) 2 ((m + 1 : Nat) : Int) → NM_ (t + 5) (t + 1) 2 (am_up g (b + m) (tkw_ tp n (nxp_ tp n p))) b (m + 1) σ' → RC_ tp n t (nxp_ tp n (nxp_ tp n p)) σ' → Q (some (am_I 1)) σ') : am_Ev d 42 [am_R 66, am_I 2] σ Q := by
  refine x_readsNamed2 hd hC h3 hN hF (fun hm hk σ' hf g0 => hE hm _ (nwn_k hk) _ hf g0) (fun hm hk hu σ' hf g0 => hE hm _ (nwn_d hk hu) _ hf g0) (fun hm hk hu σ' hf e1 e2 hR => hY hm (nwn_y hk hu) σ' hf e1 ?_ hR)
  exact hN.add (by omega) (by rw [e1, am_up_same]) e2 (wk_tk (nxp_le hC.pn).2 hk.1) hu (fun i hi => am_up_ne (by omega)) (am_up_same _ _ _) rfl
theorem x_named3 {d : Nat} (hd : 5 ≤ d) {σ : am_S} {tp : Nat → Int} {n t p : Nat} (hC : RC_ tp n t p σ) (h3 : tks_ tp n p ≠ 3) {g : Nat → Int} {b m : Nat} (hN : NM_ (t + 6) (t + 1) 3 g b m σ) {Q : Option am_V → am_S → Prop} (hF : 3 ≤ m → ∀ σ', gx_ [] [] [0, 1, 5, 6, 7, 9] σ σ' → FX_ tp n (2, p) σ' → Q (some (am_I 0)) σ') (hE : m < 3 → ∀ e, nwn_ tp n g b m p = Sum.inl e → ∀ σ', gx_ [] [] [0, 1, 5, 6, 7, 9] σ σ' → FX_ tp n e σ' → Q (some (am_I 0)) σ') (hY : m < 3 → nwn_ tp n g b m p = Sum.inr (nxp_ tp n (nxp_ tp n p)) → ∀ σ', gx_ [t + 1] [t + 6] [5, 6, 7, 9] σ σ' → σ'.1 (t + 1) = am_up (σ.1 (t + 1)) 3 ((m + 1 : Nat) : Int) → NM_ (t + 6) (t + 1) 3 (am_up g (b + m) (tkw_ tp n (nxp_ tp n p))) b (m + 1) σ' → RC_ tp n t (nxp_ tp n (nxp_ tp n p)) σ' → Q (some (am_I 1)) σ') : am_Ev d 42 [am_R 66, am_I 3] σ Q := by
  refine x_readsNamed3 hd hC h3 hN hF (fun hm hk σ' hf g0 => hE hm _ (nwn_k hk) _ hf g0) (fun hm hk hu σ' hf g0 => hE hm _ (nwn_d hk hu) _ hf g0) (fun hm hk hu σ' hf e1 e2 hR => hY hm (nwn_y hk hu) σ' hf e1 ?_ hR)
  exact hN.add (by omega) (by rw [e1, am_up_same]) e2 (wk_tk (nxp_le hC.pn).2 hk.1) hu (fun i hi => am_up_ne (by omega)) (am_up_same _ _ _) rfl
