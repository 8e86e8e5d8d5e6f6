theorem m_doneByN {d : Nat} (hd : 6 ≤ d) {σ : am_S} {T : sp_T} (hT : TM_ T σ) (hV : TV_ T) {b : Int} {v w : sp_V} (hw : σ.1 163 = w) (hvw : ∀ j, j < 50 → v j = w j) (hW : VV_ T b w) {l : List Nat} (hl : WL_ l σ) {n : Nat} (hn : l.length = n) (hlp : ∀ k, k < n → l.getD k 0 < nP_ T) {Q : Option am_V → am_S → Prop} (hQ : ∀ σ', fr_ [164] σ σ' → Q (some (am_I ((db_ T v l : Nat) : Int))) σ') : am_Ev d 244 [am_R 135, am_I ((n : Nat) : Int)] σ Q := by
  subst hn
  exact m_doneBy hd hT hV hw hvw hW hl hlp hQ
theorem m_nextRowN {d : Nat} (hd : 2 ≤ d) {σ : am_S} {l : List Nat} (hl : WL_ l σ) {n : Nat} (hn : l.length = n) {Q : Option am_V → am_S → Prop} (hQ : (nr_ n l = none → Q (some (am_I 0)) σ) ∧ ∀ l', nr_ n l = some l' → ∀ σ', fr_ [168] σ σ' → WL_ l' σ' → Q (some (am_I 1)) σ') : am_Ev d 239 [am_R 135, am_I ((n : Nat) : Int)] σ Q := by
  subst hn
  exact m_nextRow hd hl hQ

theorem l_open_cp {d : Nat} {σ : am_S} {n : Nat} (hn6 : n ≤ 6) {a x y : Int} {Q : Option am_V → am_S → Prop} (hQ : aW d 0 k_X9_opening Q 99 [some (am_R 135), some (am_I a), some (am_I ((n : Nat) : Int)), some (am_I x), some (am_I 1), some (am_I y), some (am_I ((n : Nat) : Int))] [] (am_sI σ 167 (cp_ (σ.1 168) (σ.1 167) n))) : ∀ (m k : Nat), k + m = n → aW d 0 k_X9_opening Q 73 [some (am_R 135), some (am_I a), some (am_I ((n : Nat) : Int)), some (am_I x), some (am_I 1), some (am_I y), some (am_I ((k : Nat) : Int))] [] (am_sI σ 167 (cp_ (σ.1 168) (σ.1 167) k)) := by
  intro m
  induction m with
  | zero =>
    intro k hk
    obtain rfl : k = n := by omega
    refine ax_load (q := 75) rfl rfl rfl rfl rfl ?_
    refine ax_load (q := 76) rfl rfl rfl rfl rfl ?_
    refine ax_icmp_ge (q := 79) (x := 99) rfl rfl (fun h76 => ?_) (fun h => absurd h (by omega))
    exact hQ
  | succ m ih =>
    intro k hk
    refine ax_load (q := 75) rfl rfl rfl rfl rfl ?_
    refine ax_load (q := 76) rfl rfl rfl rfl rfl ?_
    refine ax_icmp_ge (q := 79) (x := 99) rfl rfl (fun h => absurd h (by omega)) (fun h76 => ?_)
    refine ax_load (q := 80) rfl rfl rfl rfl rfl ?_
    refine ax_getf (q := 83) (v := am_R 167) rfl rfl (rfl) ?_
    refine ax_load (q := 85) rfl rfl rfl rfl rfl ?_
    refine ax_load (q := 86) rfl rfl rfl rfl rfl ?_
    refine ax_getf (q := 89) (v := am_R 168) rfl rfl (rfl) ?_
    refine ax_load (q := 91) rfl rfl rfl rfl rfl ?_
    refine bx_iald (q := 92) (k := k) (z := σ.1 168 k) rfl rfl (rfl) (by omega) (by omega) (congrFun (sI_ne (by decide)) _) ?_
    refine bx_iast (q := 93) (k := k) rfl rfl (rfl) (by omega) (by omega) ?_
    refine ax_iinc (q := 96) (z' := ((k + 1 : Nat) : Int)) (L' := [some (am_R 135), some (am_I a), some (am_I ((n : Nat) : Int)), some (am_I x), some (am_I 1), some (am_I y), some (am_I ((k + 1 : Nat) : Int))]) rfl rfl rfl rfl (am_we (by omega) (by omega) (by omega)) rfl ?_
    refine ax_goto (x := 73) rfl ?_
    have g := ih (k + 1) (by omega)
    rw [← cp_step] at g
    rw [sI_sI, sI_at]
    exact g

theorem l_opening {d : Nat} (hd : 6 ≤ d) {T : sp_T} (hV : TV_ T) {b : Int} {v w : sp_V} (hvw : ∀ j, j < 50 → v j = w j) (hW : VV_ T b w) {n : Nat} {a : Int} {Q : Option am_V → am_S → Prop} : ∀ (ls : List (List Nat)) (l : List Nat) (B : Int × List Nat) (σ : am_S) (o5 o6 : Option am_V), TM_ T σ → σ.1 163 = w → WL_ l σ → sq_ (nr_ n) (l :: ls) → (∀ r, r ∈ l :: ls → r.length = n ∧ ∀ k, k < n → r.getD k 0 < nP_ T) → (B.1 < 0 ∨ ∀ k, k < n → σ.1 167 k = (B.2.getD k 0 : Int)) → (∀ σ' o5 o6, fr_ [164, 167, 168] σ σ' → (∀ k, k < n → σ'.1 167 k = ((be_ (fun r => ((db_ T v r : Nat) : Int)) (l :: ls) B).2.getD k 0 : Int)) → aW d 0 k_X9_opening Q 109 [some (am_R 135), some (am_I a), some (am_I ((n : Nat) : Int)), some (am_I (be_ (fun r => ((db_ T v r : Nat) : Int)) (l :: ls) B).1), some (am_I 0), o5, o6] [] σ') → aW d 0 k_X9_opening Q 49 [some (am_R 135), some (am_I a), some (am_I ((n : Nat) : Int)), some (am_I B.1), some (am_I 1), o5, o6] [] σ := by
  intro ls
  induction ls with
  | nil =>
    intro l B σ o5 o6 hT hw hS hsq hok hB hQ
    have hok0 := hok l (List.mem_cons_self ..)
    refine ax_load (q := 51) rfl rfl rfl rfl rfl ?_
    refine ax_if_eq (q := 54) (x := 109) rfl rfl (fun h => absurd h (by omega)) (fun h51 => ?_)
    refine ax_load (q := 55) rfl rfl rfl rfl rfl ?_
    refine ax_load (q := 56) rfl rfl rfl rfl rfl ?_
    refine ax_callv (q := 59) rfl rfl rfl rfl rfl rfl ?_
    refine m_doneByN (by omega) hT hV hw hvw hW hS hok0.1 hok0.2 (fun σ1 hf1 => ?_)
    have hT1 : TM_ T σ1 := hT.f5 hf1 (by decide) (by decide)
    have hS1 : WL_ l σ1 := ⟨hS.1, fun k hk => by rw [hf1.1 168 (by decide)]; exact hS.2 k hk⟩
    have hn6 : n ≤ 6 := by have := hS.1; omega
    refine ax_store (q := 61) (L' := [some (am_R 135), some (am_I a), some (am_I ((n : Nat) : Int)), some (am_I B.1), some (am_I 1), some (am_I ((db_ T v l : Nat) : Int)), o6]) rfl rfl rfl rfl rfl rfl ?_
    refine ax_load (q := 63) rfl rfl rfl rfl rfl ?_
    refine ax_load (q := 64) rfl rfl rfl rfl rfl ?_
    refine ax_icmp_le (q := 67) (x := 99) rfl rfl (fun h64 => ?_) (fun h64 => ?_)
    · refine ax_load (q := 100) rfl rfl rfl rfl rfl ?_
      refine ax_load (q := 101) rfl rfl rfl rfl rfl ?_
      refine ax_callv (q := 104) rfl rfl rfl rfl rfl rfl ?_
      refine m_nextRowN (by omega) hS1 hok0.1 ⟨fun _ => ?_, fun S' hS' => absurd ((show nr_ n l = none from hsq).symm.trans hS') (by simp)⟩
      refine ax_store (q := 106) (L' := [some (am_R 135), some (am_I a), some (am_I ((n : Nat) : Int)), some (am_I B.1), some (am_I 0), some (am_I ((db_ T v l : Nat) : Int)), o6]) rfl rfl rfl rfl rfl rfl ?_
      refine ax_goto (x := 49) rfl ?_
      refine ax_load (q := 51) rfl rfl rfl rfl rfl ?_
      refine ax_if_eq (q := 54) (x := 109) rfl rfl (fun h51 => ?_) (fun h => absurd h (by omega))
      have e : (if B.1 < (fun r => ((db_ T v r : Nat) : Int)) l then ((fun r => ((db_ T v r : Nat) : Int)) l, l) else B) = B := by first | exact if_pos (by show _ < ((db_ T v l : Nat) : Int); omega) | exact if_neg (by show ¬ _ < ((db_ T v l : Nat) : Int); omega)
      have g := hQ σ1 (some (am_I ((db_ T v l : Nat) : Int))) (o6) (fr_sub hf1 (by decide)) (by show ∀ k, k < n → _ = (((if B.1 < (fun r => ((db_ T v r : Nat) : Int)) l then ((fun r => ((db_ T v r : Nat) : Int)) l, l) else B).2.getD k 0 : Nat) : Int); rw [e]; exact fun k hk => by rw [hf1.1 167 (by decide)]; rcases hB with hB | hB; exact absurd hB (by omega); exact hB k hk)
      rw [show be_ (fun r => ((db_ T v r : Nat) : Int)) [l] B = (if B.1 < (fun r => ((db_ T v r : Nat) : Int)) l then ((fun r => ((db_ T v r : Nat) : Int)) l, l) else B) from rfl, e] at g
      exact g
    · refine ax_load (q := 69) rfl rfl rfl rfl rfl ?_
      refine ax_store (q := 70) (L' := [some (am_R 135), some (am_I a), some (am_I ((n : Nat) : Int)), some (am_I ((db_ T v l : Nat) : Int)), some (am_I 1), some (am_I ((db_ T v l : Nat) : Int)), o6]) rfl rfl rfl rfl rfl rfl ?_
      refine ax_const (q := 71) (v := am_I 0) rfl rfl rfl ?_
      refine ax_store (q := 73) (L' := [some (am_R 135), some (am_I a), some (am_I ((n : Nat) : Int)), some (am_I ((db_ T v l : Nat) : Int)), some (am_I 1), some (am_I ((db_ T v l : Nat) : Int)), some (am_I 0)]) rfl rfl rfl rfl rfl rfl ?_
      have g := l_open_cp (σ := σ1) (d := d) hn6 (a := a) (x := ((db_ T v l : Nat) : Int)) (y := ((db_ T v l : Nat) : Int)) (Q := Q) ?_ n 0 (by omega)
      · rw [cp_0, sI_id] at g
        exact g
      have hT2 : TM_ T (am_sI σ1 167 (cp_ (σ1.1 168) (σ1.1 167) n)) := hT1.sI (by decide)
      have hS2 : WL_ l (am_sI σ1 167 (cp_ (σ1.1 168) (σ1.1 167) n)) := ⟨hS1.1, fun k hk => by rw [sI_ne (by decide)]; exact hS1.2 k hk⟩
      have hl2 : ∀ k, k < n → (am_sI σ1 167 (cp_ (σ1.1 168) (σ1.1 167) n)).1 167 k = (l.getD k 0 : Int) := fun k hk => by rw [sI_at, cp_at hk]; exact hS1.2 k (by omega)
      refine ax_load (q := 100) rfl rfl rfl rfl rfl ?_
      refine ax_load (q := 101) rfl rfl rfl rfl rfl ?_
      refine ax_callv (q := 104) rfl rfl rfl rfl rfl rfl ?_
      refine m_nextRowN (by omega) hS2 hok0.1 ⟨fun _ => ?_, fun S' hS' => absurd ((show nr_ n l = none from hsq).symm.trans hS') (by simp)⟩
      refine ax_store (q := 106) (L' := [some (am_R 135), some (am_I a), some (am_I ((n : Nat) : Int)), some (am_I ((db_ T v l : Nat) : Int)), some (am_I 0), some (am_I ((db_ T v l : Nat) : Int)), some (am_I ((n : Nat) : Int))]) rfl rfl rfl rfl rfl rfl ?_
      refine ax_goto (x := 49) rfl ?_
      refine ax_load (q := 51) rfl rfl rfl rfl rfl ?_
      refine ax_if_eq (q := 54) (x := 109) rfl rfl (fun h51 => ?_) (fun h => absurd h (by omega))
      have e : (if B.1 < (fun r => ((db_ T v r : Nat) : Int)) l then ((fun r => ((db_ T v r : Nat) : Int)) l, l) else B) = ((fun r => ((db_ T v r : Nat) : Int)) l, l) := by first | exact if_pos (by show _ < ((db_ T v l : Nat) : Int); omega) | exact if_neg (by show ¬ _ < ((db_ T v l : Nat) : Int); omega)
      have g := hQ (am_sI σ1 167 (cp_ (σ1.1 168) (σ1.1 167) n)) (some (am_I ((db_ T v l : Nat) : Int))) (some (am_I ((n : Nat) : Int))) (fr_sI (fr_sub hf1 (by decide)) (by decide)) (by show ∀ k, k < n → _ = (((if B.1 < (fun r => ((db_ T v r : Nat) : Int)) l then ((fun r => ((db_ T v r : Nat) : Int)) l, l) else B).2.getD k 0 : Nat) : Int); rw [e]; exact fun k hk => hl2 k hk)
      rw [show be_ (fun r => ((db_ T v r : Nat) : Int)) [l] B = (if B.1 < (fun r => ((db_ T v r : Nat) : Int)) l then ((fun r => ((db_ T v r : Nat) : Int)) l, l) else B) from rfl, e] at g
      exact g
  | cons l2 ls ih =>
    intro l B σ o5 o6 hT hw hS hsq hok hB hQ
    have hok0 := hok l (List.mem_cons_self ..)
    refine ax_load (q := 51) rfl rfl rfl rfl rfl ?_
    refine ax_if_eq (q := 54) (x := 109) rfl rfl (fun h => absurd h (by omega)) (fun h51 => ?_)
    refine ax_load (q := 55) rfl rfl rfl rfl rfl ?_
    refine ax_load (q := 56) rfl rfl rfl rfl rfl ?_
    refine ax_callv (q := 59) rfl rfl rfl rfl rfl rfl ?_
    refine m_doneByN (by omega) hT hV hw hvw hW hS hok0.1 hok0.2 (fun σ1 hf1 => ?_)
    have hT1 : TM_ T σ1 := hT.f5 hf1 (by decide) (by decide)
    have hS1 : WL_ l σ1 := ⟨hS.1, fun k hk => by rw [hf1.1 168 (by decide)]; exact hS.2 k hk⟩
    have hn6 : n ≤ 6 := by have := hS.1; omega
    refine ax_store (q := 61) (L' := [some (am_R 135), some (am_I a), some (am_I ((n : Nat) : Int)), some (am_I B.1), some (am_I 1), some (am_I ((db_ T v l : Nat) : Int)), o6]) rfl rfl rfl rfl rfl rfl ?_
    refine ax_load (q := 63) rfl rfl rfl rfl rfl ?_
    refine ax_load (q := 64) rfl rfl rfl rfl rfl ?_
    refine ax_icmp_le (q := 67) (x := 99) rfl rfl (fun h64 => ?_) (fun h64 => ?_)
    · refine ax_load (q := 100) rfl rfl rfl rfl rfl ?_
      refine ax_load (q := 101) rfl rfl rfl rfl rfl ?_
      refine ax_callv (q := 104) rfl rfl rfl rfl rfl rfl ?_
      refine m_nextRowN (by omega) hS1 hok0.1 ⟨fun hno => absurd (hno.symm.trans hsq.1) (by simp), fun S' hS' σ3 hf3 hx3 => ?_⟩
      obtain rfl : l2 = S' := Option.some.inj (hsq.1.symm.trans hS')
      refine ax_store (q := 106) (L' := [some (am_R 135), some (am_I a), some (am_I ((n : Nat) : Int)), some (am_I B.1), some (am_I 1), some (am_I ((db_ T v l : Nat) : Int)), o6]) rfl rfl rfl rfl rfl rfl ?_
      refine ax_goto (x := 49) rfl ?_
      have e : (if B.1 < (fun r => ((db_ T v r : Nat) : Int)) l then ((fun r => ((db_ T v r : Nat) : Int)) l, l) else B) = B := by first | exact if_pos (by show _ < ((db_ T v l : Nat) : Int); omega) | exact if_neg (by show ¬ _ < ((db_ T v l : Nat) : Int); omega)
      have g := fun hb => ih l2 (if B.1 < (fun r => ((db_ T v r : Nat) : Int)) l then ((fun r => ((db_ T v r : Nat) : Int)) l, l) else B) σ3 (some (am_I ((db_ T v l : Nat) : Int))) (o6) (hT1.f5 hf3 (by decide) (by decide)) ((hf3.1 163 (by decide)).trans ((hf1.1 163 (by decide)).trans hw)) hx3 hsq.2 (fun S' h' => hok S' (List.mem_cons_of_mem _ h')) hb (fun σ' o5 o6 hf' hl' => hQ σ' o5 o6 (fr_tr (fr_tr (fr_sub hf1 (by decide)) hf3 (by decide)) hf' (fun a h => h)) hl')
      rw [e] at g
      exact g (Or.inr (fun k hk => by rw [hf3.1 167 (by decide)]; rw [hf1.1 167 (by decide)]; rcases hB with hB | hB; exact absurd hB (by omega); exact hB k hk))
    · refine ax_load (q := 69) rfl rfl rfl rfl rfl ?_
      refine ax_store (q := 70) (L' := [some (am_R 135), some (am_I a), some (am_I ((n : Nat) : Int)), some (am_I ((db_ T v l : Nat) : Int)), some (am_I 1), some (am_I ((db_ T v l : Nat) : Int)), o6]) rfl rfl rfl rfl rfl rfl ?_
      refine ax_const (q := 71) (v := am_I 0) rfl rfl rfl ?_
      refine ax_store (q := 73) (L' := [some (am_R 135), some (am_I a), some (am_I ((n : Nat) : Int)), some (am_I ((db_ T v l : Nat) : Int)), some (am_I 1), some (am_I ((db_ T v l : Nat) : Int)), some (am_I 0)]) rfl rfl rfl rfl rfl rfl ?_
      have g := l_open_cp (σ := σ1) (d := d) hn6 (a := a) (x := ((db_ T v l : Nat) : Int)) (y := ((db_ T v l : Nat) : Int)) (Q := Q) ?_ n 0 (by omega)
      · rw [cp_0, sI_id] at g
        exact g
      have hT2 : TM_ T (am_sI σ1 167 (cp_ (σ1.1 168) (σ1.1 167) n)) := hT1.sI (by decide)
      have hS2 : WL_ l (am_sI σ1 167 (cp_ (σ1.1 168) (σ1.1 167) n)) := ⟨hS1.1, fun k hk => by rw [sI_ne (by decide)]; exact hS1.2 k hk⟩
      have hl2 : ∀ k, k < n → (am_sI σ1 167 (cp_ (σ1.1 168) (σ1.1 167) n)).1 167 k = (l.getD k 0 : Int) := fun k hk => by rw [sI_at, cp_at hk]; exact hS1.2 k (by omega)
      refine ax_load (q := 100) rfl rfl rfl rfl rfl ?_
      refine ax_load (q := 101) rfl rfl rfl rfl rfl ?_
      refine ax_callv (q := 104) rfl rfl rfl rfl rfl rfl ?_
      refine m_nextRowN (by omega) hS2 hok0.1 ⟨fun hno => absurd (hno.symm.trans hsq.1) (by simp), fun S' hS' σ3 hf3 hx3 => ?_⟩
      obtain rfl : l2 = S' := Option.some.inj (hsq.1.symm.trans hS')
      refine ax_store (q := 106) (L' := [some (am_R 135), some (am_I a), some (am_I ((n : Nat) : Int)), some (am_I ((db_ T v l : Nat) : Int)), some (am_I 1), some (am_I ((db_ T v l : Nat) : Int)), some (am_I ((n : Nat) : Int))]) rfl rfl rfl rfl rfl rfl ?_
      refine ax_goto (x := 49) rfl ?_
      have e : (if B.1 < (fun r => ((db_ T v r : Nat) : Int)) l then ((fun r => ((db_ T v r : Nat) : Int)) l, l) else B) = ((fun r => ((db_ T v r : Nat) : Int)) l, l) := by first | exact if_pos (by show _ < ((db_ T v l : Nat) : Int); omega) | exact if_neg (by show ¬ _ < ((db_ T v l : Nat) : Int); omega)
      have g := fun hb => ih l2 (if B.1 < (fun r => ((db_ T v r : Nat) : Int)) l then ((fun r => ((db_ T v r : Nat) : Int)) l, l) else B) σ3 (some (am_I ((db_ T v l : Nat) : Int))) (some (am_I ((n : Nat) : Int))) (hT2.f5 hf3 (by decide) (by decide)) ((hf3.1 163 (by decide)).trans ((sI_ne (by decide)).trans ((hf1.1 163 (by decide)).trans hw))) hx3 hsq.2 (fun S' h' => hok S' (List.mem_cons_of_mem _ h')) hb (fun σ' o5 o6 hf' hl' => hQ σ' o5 o6 (fr_tr (fr_tr (fr_sI (fr_sub hf1 (by decide)) (by decide)) hf3 (by decide)) hf' (fun a h => h)) hl')
      rw [e] at g
      exact g (Or.inr (fun k hk => by rw [hf3.1 167 (by decide)]; exact hl2 k hk))

def of_ (T : sp_T) (v : sp_V) (s : Nat) : Int × List Nat := be_ (fun r => ((db_ T v r : Nat) : Int)) (rs_ (mb_ s (nP_ T))) (-1, [])
def oc_ (T : sp_T) (v : sp_V) (a : Int) : Bool := decide (0 ≤ a ∧ a < ((2 ^ nP_ T : Nat) : Int)) && decide (a.toNat ^^^ (a.toNat &&& bi_ (nP_ T) (sh_ v)) = 0)

theorem m_opening {d : Nat} (hd : 8 ≤ d) {σ : am_S} {T : sp_T} (hT : TM_ T σ) (hV : TV_ T) {b : Int} {v w : sp_V} (hw : σ.1 163 = w) (hv : v = cp_ w (σ.1 164) 50) (hW : VV_ T b w) {a : Int} {Q : Option am_V → am_S → Prop} (hN : oc_ T v a = false → ∀ σ', fq_ [164] [68] σ σ' → σ'.1 135 68 = 0 → Q (some (am_I (-1))) σ') (hY : oc_ T v a = true → ∀ σ', fq_ [164, 167, 168] [68] σ σ' → σ'.1 135 68 = ((mb_ a.toNat (nP_ T)).length : Int) → (∀ k, k < (mb_ a.toNat (nP_ T)).length → σ'.1 167 k = ((of_ T v a.toNat).2.getD k 0 : Int)) → Q (some (am_I (of_ T v a.toNat).1)) σ') : am_Ev d 245 [am_R 135, am_I a] σ Q := by
  obtain ⟨d, rfl⟩ : ∃ e, d = e + 1 := ⟨d - 1, by omega⟩
  have h6 := hV.nP
  obtain ⟨c2, hc2⟩ : ∃ c, c = 2 ^ nP_ T := ⟨_, rfl⟩
  have hc64 : c2 ≤ 64 := by rw [hc2]; show 2 ^ nP_ T ≤ 2 ^ 6; exact Nat.pow_le_pow_right (by decide) (by omega)
  have hvw : ∀ j, j < 50 → v j = w j := fun j hj => by rw [hv]; exact cp_at hj
  obtain ⟨σ0, hσ0⟩ : ∃ s, s = am_sI σ 135 (am_up (σ.1 135) 68 0) := ⟨_, rfl⟩
  have hf0 : fq_ [164] [68] σ σ0 := by rw [hσ0]; exact fq_s5 (fq_rf _ _ _) (by decide)
  have h164 : σ0.1 164 = σ.1 164 := by rw [hσ0, sI_ne (by decide)]
  have h68 : σ0.1 135 68 = 0 := by rw [hσ0, sI_at, am_up_same]
  have hT0 : TM_ T σ0 := hT.fq hf0 (by decide) (by decide)
  have hw0 : σ0.1 163 = w := by rw [hσ0, sI_ne (by decide)]; exact hw
  have hTv : TM_ T (am_sI σ0 164 v) := hT0.sI (by decide)
  have hwv : (am_sI σ0 164 v).1 163 = w := (sI_ne (by decide)).trans hw0
  have hfv : fq_ [164] [68] σ (am_sI σ0 164 v) := fq_sI hf0 (by decide) (by decide)
  have h68v : (am_sI σ0 164 v).1 135 68 = 0 := by rw [sI_ne (by decide)]; exact h68
  refine ev_in (m := 245) (c := k_X9_opening) (L := [some (am_R 135), some (am_I a), none, none, none, none, none]) rfl rfl rfl rfl rfl rfl ?_
  refine ax_load (q := 1) rfl rfl rfl rfl rfl ?_
  refine ax_const (q := 2) (v := am_I 0) rfl rfl rfl ?_
  refine ax_putf (q := 5) rfl rfl rfl ?_
  refine ax_load (q := 6) rfl rfl rfl rfl rfl ?_
  refine ax_callv (q := 9) rfl rfl rfl rfl rfl rfl ?_
  rw [← hσ0]
  refine m_load (by omega) ?_
  rw [hw0, h164, ← hv]
  refine ax_load (q := 10) rfl rfl rfl rfl rfl ?_
  refine ax_const (q := 11) (v := am_I 0) rfl rfl rfl ?_
  refine ax_const (q := 12) (v := am_I 1) rfl rfl rfl ?_
  refine ax_load (q := 13) rfl rfl rfl rfl rfl ?_
  refine ax_getf (q := 16) (v := am_I ((nP_ T : Nat) : Int)) rfl rfl (am_fg rfl (hTv.s53.trans hV.nP.1)) ?_
  refine ax_ishl (q := 17) (z := ((c2 : Nat) : Int)) rfl rfl ((am_shl1 _ (by omega)).trans (by rw [← hc2])) ?_
  refine ax_const (q := 18) (v := am_I 1) rfl rfl rfl ?_
  refine ax_isub (q := 19) (z := ((c2 : Nat) : Int) - 1) rfl rfl (am_we (by omega) (by omega) (by omega)) ?_
  refine ax_calls (q := 22) rfl rfl rfl rfl rfl ?_
  refine m_isIn (by omega) ?_
  refine ax_if_eq (q := 25) (x := 36) rfl rfl (fun h22 => ?_) (fun h22 => ?_)
  · have hb22 := it_0 h22
    refine ax_const (q := 37) (v := am_I (-1)) rfl rfl rfl ?_
    refine ax_ret (r := some (am_I (-1))) rfl rfl ?_
    exact hN (by unfold oc_; first | (rw [← hc2, show decide (0 ≤ a ∧ a < (c2 : Int)) = false by rw [decide_eq_false_iff_not] at hb22 ⊢; omega]; rfl) | (rw [Int.toNat_natCast, decide_eq_false (show ¬ s ^^^ (s &&& bi_ (nP_ T) (sh_ v)) = 0 by omega), Bool.and_false])) _ hfv h68v
  · have hb22 := it_n0 h22
    obtain ⟨s, rfl, hs⟩ : ∃ s : Nat, a = (s : Int) ∧ s < c2 := by rw [decide_eq_true_eq] at hb22; exact ⟨a.toNat, by omega, by omega⟩
    refine ax_load (q := 26) rfl rfl rfl rfl rfl ?_
    refine ax_load (q := 27) rfl rfl rfl rfl rfl ?_
    refine ax_callv (q := 30) rfl rfl rfl rfl rfl rfl ?_
    refine m_shutSet (by omega) hTv hV (sI_at _ _ _) ?_
    have hsb := bi_lt (sh_ v) (nP_ T)
    refine ax_const (q := 31) (v := am_I (-1)) rfl rfl rfl ?_
    refine ax_ixor (q := 32) (z := am_xor ((bi_ (nP_ T) (sh_ v) : Nat) : Int) (-1)) rfl rfl (rfl) ?_
    refine ax_iand (q := 33) (z := ((s ^^^ (s &&& bi_ (nP_ T) (sh_ v)) : Nat) : Int)) rfl rfl (am_andnot (by omega) (by rw [← hc2] at hsb; omega)) ?_
    refine ax_if_eq (q := 36) (x := 38) rfl rfl (fun h33 => ?_) (fun h33 => ?_)
    · refine ax_load (q := 39) rfl rfl rfl rfl rfl ?_
      refine ax_load (q := 40) rfl rfl rfl rfl rfl ?_
      refine ax_callv (q := 43) rfl rfl rfl rfl rfl rfl ?_
      refine m_layFirst (by omega) hTv hV (by omega) (fun σl hfl hwl => ?_)
      refine ax_store (q := 44) (L' := [some (am_R 135), some (am_I ((s : Nat) : Int)), some (am_I (((mb_ s (nP_ T)).length : Nat) : Int)), none, none, none, none]) rfl rfl rfl rfl rfl rfl ?_
      refine ax_const (q := 45) (v := am_I (-1)) rfl rfl rfl ?_
      refine ax_store (q := 46) (L' := [some (am_R 135), some (am_I ((s : Nat) : Int)), some (am_I (((mb_ s (nP_ T)).length : Nat) : Int)), some (am_I (-1)), none, none, none]) rfl rfl rfl rfl rfl rfl ?_
      refine ax_const (q := 47) (v := am_I 1) rfl rfl rfl ?_
      refine ax_store (q := 49) (L' := [some (am_R 135), some (am_I ((s : Nat) : Int)), some (am_I (((mb_ s (nP_ T)).length : Nat) : Int)), some (am_I (-1)), some (am_I 1), none, none]) rfl rfl rfl rfl rfl rfl ?_
      obtain ⟨ls, he, hsq, hok, hnd⟩ := rs_ok (n := nP_ T) (s := s) (by omega) (by omega)
      have hoc : oc_ T v (s : Int) = true := by unfold oc_; rw [← hc2, Int.toNat_natCast, decide_eq_true (show (0 : Int) ≤ (s : Int) ∧ (s : Int) < (c2 : Int) by omega), decide_eq_true (show s ^^^ (s &&& bi_ (nP_ T) (sh_ v)) = 0 by omega)]; rfl
      refine l_opening (by omega) hV hvw hW (n := (mb_ s (nP_ T)).length) ls (mb_ s (nP_ T)) (-1, []) σl none none (hTv.f5 hfl (by decide) (by decide)) ((hfl.1 163 (by decide)).trans hwv) hwl hsq (fun r hr => ⟨(hok r hr).1, fun k hk => ((hok r hr).2 k (by rw [(hok r hr).1]; exact hk)).2⟩) (Or.inl (by decide)) (fun σ1 o5 o6 hf1 hl1 => ?_)
      refine ax_load (q := 110) rfl rfl rfl rfl rfl ?_
      refine ax_load (q := 111) rfl rfl rfl rfl rfl ?_
      refine ax_putf (q := 114) rfl rfl rfl ?_
      refine ax_load (q := 115) rfl rfl rfl rfl rfl ?_
      refine ax_ret (r := some (am_I ((be_ (fun r => ((db_ T v r : Nat) : Int)) (mb_ s (nP_ T) :: ls) (-1, [])).1))) rfl rfl ?_
      have hfz : fq_ [164, 167, 168] [68] σ σ1 := fq_tr (fq_tr (fq_tr (fq_rf _ _ _) hfv (by decide) (by decide)) (fq_fr hfl (by decide) (fun _ q => q) : fq_ [168] [68] _ σl) (by decide) (by decide)) (fq_fr hf1 (by decide) (fun _ q => q) : fq_ [164, 167, 168] [68] _ σ1) (by decide) (by decide)
      have g := hY hoc (am_sI σ1 135 (am_up (σ1.1 135) 68 (((mb_ s (nP_ T)).length : Nat) : Int))) (fq_s5 hfz (by decide)) (by rw [sI_at, am_up_same, Int.toNat_natCast]) (fun k hk => by rw [sI_ne (by decide), Int.toNat_natCast]; unfold of_; rw [he]; exact hl1 k (by rw [Int.toNat_natCast] at hk; exact hk))
      rw [Int.toNat_natCast, show (of_ T v s).1 = (be_ (fun r => ((db_ T v r : Nat) : Int)) (mb_ s (nP_ T) :: ls) (-1, [])).1 by unfold of_; rw [he]] at g
      exact g
    · refine ax_const (q := 37) (v := am_I (-1)) rfl rfl rfl ?_
      refine ax_ret (r := some (am_I (-1))) rfl rfl ?_
      exact hN (by unfold oc_; first | (rw [← hc2, show decide (0 ≤ a ∧ a < (c2 : Int)) = false by rw [decide_eq_false_iff_not] at hb22 ⊢; omega]; rfl) | (rw [Int.toNat_natCast, decide_eq_false (show ¬ s ^^^ (s &&& bi_ (nP_ T) (sh_ v)) = 0 by omega), Bool.and_false])) _ hfv h68v

