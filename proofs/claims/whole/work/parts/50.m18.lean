theorem l_life_cp {d : Nat} {σ : am_S} {T : sp_T} (hT : TM_ T σ) (hV : TV_ T) {p : Nat} {x y : Int} {Q : Option am_V → am_S → Prop} (hQ : aW d 0 k_X9_life Q 124 [some (am_R 135), some (am_I ((p : Nat) : Int)), some (am_I x), some (am_I 1), some (am_I y), some (am_I ((nS_ T : Nat) : Int))] [] (am_sI σ 167 (cp_ (σ.1 166) (σ.1 167) (nS_ T)))) : ∀ (m k : Nat), k + m = nS_ T → aW d 0 k_X9_life Q 95 [some (am_R 135), some (am_I ((p : Nat) : Int)), some (am_I x), some (am_I 1), some (am_I y), some (am_I ((k : Nat) : Int))] [] (am_sI σ 167 (cp_ (σ.1 166) (σ.1 167) k)) := by
  have hn := hV.nS
  intro m
  induction m with
  | zero =>
    intro k hk
    obtain rfl : k = nS_ T := by omega
    refine ax_load (q := 97) rfl rfl rfl rfl rfl ?_
    refine ax_load (q := 98) rfl rfl rfl rfl rfl ?_
    refine ax_getf (q := 101) (v := am_I ((nS_ T : Nat) : Int)) rfl rfl (am_fg rfl ((hT.sI (a := 167) (by decide)).s50.trans hV.nS.1)) ?_
    refine ax_icmp_ge (q := 104) (x := 124) rfl rfl (fun h101 => ?_) (fun h => absurd h (by omega))
    exact hQ
  | succ m ih =>
    intro k hk
    refine ax_load (q := 97) rfl rfl rfl rfl rfl ?_
    refine ax_load (q := 98) rfl rfl rfl rfl rfl ?_
    refine ax_getf (q := 101) (v := am_I ((nS_ T : Nat) : Int)) rfl rfl (am_fg rfl ((hT.sI (a := 167) (by decide)).s50.trans hV.nS.1)) ?_
    refine ax_icmp_ge (q := 104) (x := 124) rfl rfl (fun h => absurd h (by omega)) (fun h101 => ?_)
    refine ax_load (q := 105) rfl rfl rfl rfl rfl ?_
    refine ax_getf (q := 108) (v := am_R 167) rfl rfl (rfl) ?_
    refine ax_load (q := 110) rfl rfl rfl rfl rfl ?_
    refine ax_load (q := 111) rfl rfl rfl rfl rfl ?_
    refine ax_getf (q := 114) (v := am_R 166) rfl rfl (rfl) ?_
    refine ax_load (q := 116) rfl rfl rfl rfl rfl ?_
    refine bx_iald (q := 117) (k := k) (z := σ.1 166 k) rfl rfl (rfl) (by omega) (by omega) (congrFun (sI_ne (by decide)) _) ?_
    refine bx_iast (q := 118) (k := k) rfl rfl (rfl) (by omega) (by omega) ?_
    refine ax_iinc (q := 121) (z' := ((k + 1 : Nat) : Int)) (L' := [some (am_R 135), some (am_I ((p : Nat) : Int)), some (am_I x), some (am_I 1), some (am_I y), some (am_I ((k + 1 : Nat) : Int))]) rfl rfl rfl rfl (am_we (by omega) (by omega) (by omega)) rfl ?_
    refine ax_goto (x := 95) rfl ?_
    have g := ih (k + 1) (by omega)
    rw [← cp_step] at g
    rw [sI_sI, sI_at]
    exact g

theorem TM_.f5 {T : sp_T} {σ σ' : am_S} (h : TM_ T σ) {l : List Nat} (hf : fr_ l σ σ') (hl : ∀ a, a ∈ tm_a → a ∉ l) (h5 : 135 ∉ l) : TM_ T σ' := h.fq (fq_fr hf h5 (fun _ q => q) : fq_ l [] σ σ') hl (by decide)

theorem l_life {d : Nat} (hd : 7 ≤ d) {T : sp_T} (hV : TV_ T) (hn1 : 1 ≤ nS_ T) {b : Int} {v w : sp_V} (hvw : ∀ j, j < 50 → v j = w j) (hW : VV_ T b w) (hb9 : b ≤ 90000) {p : Nat} (hp : p < nP_ T) {Q : Option am_V → am_S → Prop} : ∀ (l : List (List Nat)) (S : List Nat) (B : Int × List Nat) (σ : am_S) (o4 o5 : Option am_V), TM_ T σ → σ.1 163 = w → SH_ S σ → sq_ (nx_ (nS_ T)) (S :: l) → (∀ S', S' ∈ S :: l → S'.length = 4 ∧ ∀ k, S'.getD k 0 ≤ 12) → (B.1 < 0 ∨ ∀ k, k < nS_ T → σ.1 167 k = (B.2.getD k 0 : Int)) → (∀ σ' o4 o5, fr_ [143, 144, 164, 166, 167] σ σ' → (∀ k, k < nS_ T → σ'.1 167 k = ((be_ (fun S => po_ T (gs_ T v p S (nS_ T)) p) (S :: l) B).2.getD k 0 : Int)) → aW d 0 k_X9_life Q 132 [some (am_R 135), some (am_I ((p : Nat) : Int)), some (am_I (be_ (fun S => po_ T (gs_ T v p S (nS_ T)) p) (S :: l) B).1), some (am_I 0), o4, o5] [] σ') → aW d 0 k_X9_life Q 72 [some (am_R 135), some (am_I ((p : Nat) : Int)), some (am_I B.1), some (am_I 1), o4, o5] [] σ := by
  have hn := hV.nS
  intro l
  induction l with
  | nil =>
    intro S B σ o4 o5 hT hw hS hsq hok hB hQ
    refine ax_load (q := 73) rfl rfl rfl rfl rfl ?_
    refine ax_if_eq (q := 76) (x := 132) rfl rfl (fun h => absurd h (by omega)) (fun h73 => ?_)
    refine ax_load (q := 77) rfl rfl rfl rfl rfl ?_
    refine ax_load (q := 78) rfl rfl rfl rfl rfl ?_
    refine ax_callv (q := 81) rfl rfl rfl rfl rfl rfl ?_
    refine m_partsByShares (by omega) hT hV hw hvw hW hb9 hp hS (fun σ1 hf1 => ?_)
    have hT1 : TM_ T σ1 := hT.f5 hf1 (by decide) (by decide)
    have hS1 : SH_ S σ1 := ⟨fun k hk => by rw [hf1.1 166 (by decide)]; exact hS.1 k hk, hS.2⟩
    have hpo := (po_bd (v := gs_ T v p S (nS_ T)) hV hp).1
    refine ax_store (q := 83) (L' := [some (am_R 135), some (am_I ((p : Nat) : Int)), some (am_I B.1), some (am_I 1), some (am_I (po_ T (gs_ T v p S (nS_ T)) p)), o5]) rfl rfl rfl rfl rfl rfl ?_
    refine ax_load (q := 85) rfl rfl rfl rfl rfl ?_
    refine ax_load (q := 86) rfl rfl rfl rfl rfl ?_
    refine ax_icmp_le (q := 89) (x := 124) rfl rfl (fun h86 => ?_) (fun h86 => ?_)
    · refine ax_load (q := 125) rfl rfl rfl rfl rfl ?_
      refine ax_callv (q := 128) rfl rfl rfl rfl rfl rfl ?_
      refine m_nextShare (by omega) hT1 hV hS1 hn1 ⟨fun _ => ?_, fun S' hS' => absurd ((show nx_ (nS_ T) S = none from hsq).symm.trans hS') (by simp)⟩
      refine ax_store (q := 129) (L' := [some (am_R 135), some (am_I ((p : Nat) : Int)), some (am_I B.1), some (am_I 0), some (am_I (po_ T (gs_ T v p S (nS_ T)) p)), o5]) rfl rfl rfl rfl rfl rfl ?_
      refine ax_goto (x := 72) rfl ?_
      refine ax_load (q := 73) rfl rfl rfl rfl rfl ?_
      refine ax_if_eq (q := 76) (x := 132) rfl rfl (fun h73 => ?_) (fun h => absurd h (by omega))
      have e : (if B.1 < (fun S => po_ T (gs_ T v p S (nS_ T)) p) S then ((fun S => po_ T (gs_ T v p S (nS_ T)) p) S, S) else B) = B := by first | exact if_pos (by show _ < po_ T (gs_ T v p S (nS_ T)) p; omega) | exact if_neg (by show ¬ _ < po_ T (gs_ T v p S (nS_ T)) p; omega)
      have g := hQ σ1 (some (am_I (po_ T (gs_ T v p S (nS_ T)) p))) (o5) (fr_sub hf1 (by decide)) (by show ∀ k, k < nS_ T → _ = (((if B.1 < (fun S => po_ T (gs_ T v p S (nS_ T)) p) S then ((fun S => po_ T (gs_ T v p S (nS_ T)) p) S, S) else B).2.getD k 0 : Nat) : Int); rw [e]; exact fun k hk => by rw [hf1.1 167 (by decide)]; rcases hB with hB | hB; exact absurd hB (by omega); exact hB k hk)
      rw [show be_ (fun S => po_ T (gs_ T v p S (nS_ T)) p) [S] B = (if B.1 < (fun S => po_ T (gs_ T v p S (nS_ T)) p) S then ((fun S => po_ T (gs_ T v p S (nS_ T)) p) S, S) else B) from rfl, e] at g
      exact g
    · refine ax_load (q := 91) rfl rfl rfl rfl rfl ?_
      refine ax_store (q := 92) (L' := [some (am_R 135), some (am_I ((p : Nat) : Int)), some (am_I (po_ T (gs_ T v p S (nS_ T)) p)), some (am_I 1), some (am_I (po_ T (gs_ T v p S (nS_ T)) p)), o5]) rfl rfl rfl rfl rfl rfl ?_
      refine ax_const (q := 93) (v := am_I 0) rfl rfl rfl ?_
      refine ax_store (q := 95) (L' := [some (am_R 135), some (am_I ((p : Nat) : Int)), some (am_I (po_ T (gs_ T v p S (nS_ T)) p)), some (am_I 1), some (am_I (po_ T (gs_ T v p S (nS_ T)) p)), some (am_I 0)]) rfl rfl rfl rfl rfl rfl ?_
      have g := l_life_cp (σ := σ1) (d := d) hT1 hV (p := p) (x := po_ T (gs_ T v p S (nS_ T)) p) (y := po_ T (gs_ T v p S (nS_ T)) p) (Q := Q) ?_ (nS_ T) 0 (by omega)
      · rw [cp_0, sI_id] at g
        exact g
      have hT2 : TM_ T (am_sI σ1 167 (cp_ (σ1.1 166) (σ1.1 167) (nS_ T))) := hT1.sI (by decide)
      have hS2 : SH_ S (am_sI σ1 167 (cp_ (σ1.1 166) (σ1.1 167) (nS_ T))) := ⟨fun k hk => by rw [sI_ne (by decide)]; exact hS1.1 k hk, hS1.2⟩
      have hl2 : ∀ k, k < nS_ T → (am_sI σ1 167 (cp_ (σ1.1 166) (σ1.1 167) (nS_ T))).1 167 k = (S.getD k 0 : Int) := fun k hk => by rw [sI_at, cp_at hk]; exact hS1.1 k (by omega)
      refine ax_load (q := 125) rfl rfl rfl rfl rfl ?_
      refine ax_callv (q := 128) rfl rfl rfl rfl rfl rfl ?_
      refine m_nextShare (by omega) hT2 hV hS2 hn1 ⟨fun _ => ?_, fun S' hS' => absurd ((show nx_ (nS_ T) S = none from hsq).symm.trans hS') (by simp)⟩
      refine ax_store (q := 129) (L' := [some (am_R 135), some (am_I ((p : Nat) : Int)), some (am_I (po_ T (gs_ T v p S (nS_ T)) p)), some (am_I 0), some (am_I (po_ T (gs_ T v p S (nS_ T)) p)), some (am_I ((nS_ T : Nat) : Int))]) rfl rfl rfl rfl rfl rfl ?_
      refine ax_goto (x := 72) rfl ?_
      refine ax_load (q := 73) rfl rfl rfl rfl rfl ?_
      refine ax_if_eq (q := 76) (x := 132) rfl rfl (fun h73 => ?_) (fun h => absurd h (by omega))
      have e : (if B.1 < (fun S => po_ T (gs_ T v p S (nS_ T)) p) S then ((fun S => po_ T (gs_ T v p S (nS_ T)) p) S, S) else B) = ((fun S => po_ T (gs_ T v p S (nS_ T)) p) S, S) := by first | exact if_pos (by show _ < po_ T (gs_ T v p S (nS_ T)) p; omega) | exact if_neg (by show ¬ _ < po_ T (gs_ T v p S (nS_ T)) p; omega)
      have g := hQ (am_sI σ1 167 (cp_ (σ1.1 166) (σ1.1 167) (nS_ T))) (some (am_I (po_ T (gs_ T v p S (nS_ T)) p))) (some (am_I ((nS_ T : Nat) : Int))) (fr_sI (fr_sub hf1 (by decide)) (by decide)) (by show ∀ k, k < nS_ T → _ = (((if B.1 < (fun S => po_ T (gs_ T v p S (nS_ T)) p) S then ((fun S => po_ T (gs_ T v p S (nS_ T)) p) S, S) else B).2.getD k 0 : Nat) : Int); rw [e]; exact fun k hk => hl2 k hk)
      rw [show be_ (fun S => po_ T (gs_ T v p S (nS_ T)) p) [S] B = (if B.1 < (fun S => po_ T (gs_ T v p S (nS_ T)) p) S then ((fun S => po_ T (gs_ T v p S (nS_ T)) p) S, S) else B) from rfl, e] at g
      exact g
  | cons S2 l ih =>
    intro S B σ o4 o5 hT hw hS hsq hok hB hQ
    refine ax_load (q := 73) rfl rfl rfl rfl rfl ?_
    refine ax_if_eq (q := 76) (x := 132) rfl rfl (fun h => absurd h (by omega)) (fun h73 => ?_)
    refine ax_load (q := 77) rfl rfl rfl rfl rfl ?_
    refine ax_load (q := 78) rfl rfl rfl rfl rfl ?_
    refine ax_callv (q := 81) rfl rfl rfl rfl rfl rfl ?_
    refine m_partsByShares (by omega) hT hV hw hvw hW hb9 hp hS (fun σ1 hf1 => ?_)
    have hT1 : TM_ T σ1 := hT.f5 hf1 (by decide) (by decide)
    have hS1 : SH_ S σ1 := ⟨fun k hk => by rw [hf1.1 166 (by decide)]; exact hS.1 k hk, hS.2⟩
    have hpo := (po_bd (v := gs_ T v p S (nS_ T)) hV hp).1
    refine ax_store (q := 83) (L' := [some (am_R 135), some (am_I ((p : Nat) : Int)), some (am_I B.1), some (am_I 1), some (am_I (po_ T (gs_ T v p S (nS_ T)) p)), o5]) rfl rfl rfl rfl rfl rfl ?_
    refine ax_load (q := 85) rfl rfl rfl rfl rfl ?_
    refine ax_load (q := 86) rfl rfl rfl rfl rfl ?_
    refine ax_icmp_le (q := 89) (x := 124) rfl rfl (fun h86 => ?_) (fun h86 => ?_)
    · refine ax_load (q := 125) rfl rfl rfl rfl rfl ?_
      refine ax_callv (q := 128) rfl rfl rfl rfl rfl rfl ?_
      refine m_nextShare (by omega) hT1 hV hS1 hn1 ⟨fun hno => absurd (hno.symm.trans hsq.1) (by simp), fun S' hS' σ3 hf3 hx3 => ?_⟩
      obtain rfl : S2 = S' := Option.some.inj (hsq.1.symm.trans hS')
      refine ax_store (q := 129) (L' := [some (am_R 135), some (am_I ((p : Nat) : Int)), some (am_I B.1), some (am_I 1), some (am_I (po_ T (gs_ T v p S (nS_ T)) p)), o5]) rfl rfl rfl rfl rfl rfl ?_
      refine ax_goto (x := 72) rfl ?_
      have e : (if B.1 < (fun S => po_ T (gs_ T v p S (nS_ T)) p) S then ((fun S => po_ T (gs_ T v p S (nS_ T)) p) S, S) else B) = B := by first | exact if_pos (by show _ < po_ T (gs_ T v p S (nS_ T)) p; omega) | exact if_neg (by show ¬ _ < po_ T (gs_ T v p S (nS_ T)) p; omega)
      have g := fun hb => ih S2 (if B.1 < (fun S => po_ T (gs_ T v p S (nS_ T)) p) S then ((fun S => po_ T (gs_ T v p S (nS_ T)) p) S, S) else B) σ3 (some (am_I (po_ T (gs_ T v p S (nS_ T)) p))) (o5) (hT1.f5 hf3 (by decide) (by decide)) ((hf3.1 163 (by decide)).trans ((hf1.1 163 (by decide)).trans hw)) ⟨hx3, hok S2 (by simp)⟩ hsq.2 (fun S' h' => hok S' (List.mem_cons_of_mem _ h')) hb (fun σ' o4 o5 hf' hl' => hQ σ' o4 o5 (fr_tr (fr_tr (fr_sub hf1 (by decide)) hf3 (by decide)) hf' (fun a h => h)) hl')
      rw [e] at g
      exact g (Or.inr (fun k hk => by rw [hf3.1 167 (by decide)]; rw [hf1.1 167 (by decide)]; rcases hB with hB | hB; exact absurd hB (by omega); exact hB k hk))
    · refine ax_load (q := 91) rfl rfl rfl rfl rfl ?_
      refine ax_store (q := 92) (L' := [some (am_R 135), some (am_I ((p : Nat) : Int)), some (am_I (po_ T (gs_ T v p S (nS_ T)) p)), some (am_I 1), some (am_I (po_ T (gs_ T v p S (nS_ T)) p)), o5]) rfl rfl rfl rfl rfl rfl ?_
      refine ax_const (q := 93) (v := am_I 0) rfl rfl rfl ?_
      refine ax_store (q := 95) (L' := [some (am_R 135), some (am_I ((p : Nat) : Int)), some (am_I (po_ T (gs_ T v p S (nS_ T)) p)), some (am_I 1), some (am_I (po_ T (gs_ T v p S (nS_ T)) p)), some (am_I 0)]) rfl rfl rfl rfl rfl rfl ?_
      have g := l_life_cp (σ := σ1) (d := d) hT1 hV (p := p) (x := po_ T (gs_ T v p S (nS_ T)) p) (y := po_ T (gs_ T v p S (nS_ T)) p) (Q := Q) ?_ (nS_ T) 0 (by omega)
      · rw [cp_0, sI_id] at g
        exact g
      have hT2 : TM_ T (am_sI σ1 167 (cp_ (σ1.1 166) (σ1.1 167) (nS_ T))) := hT1.sI (by decide)
      have hS2 : SH_ S (am_sI σ1 167 (cp_ (σ1.1 166) (σ1.1 167) (nS_ T))) := ⟨fun k hk => by rw [sI_ne (by decide)]; exact hS1.1 k hk, hS1.2⟩
      have hl2 : ∀ k, k < nS_ T → (am_sI σ1 167 (cp_ (σ1.1 166) (σ1.1 167) (nS_ T))).1 167 k = (S.getD k 0 : Int) := fun k hk => by rw [sI_at, cp_at hk]; exact hS1.1 k (by omega)
      refine ax_load (q := 125) rfl rfl rfl rfl rfl ?_
      refine ax_callv (q := 128) rfl rfl rfl rfl rfl rfl ?_
      refine m_nextShare (by omega) hT2 hV hS2 hn1 ⟨fun hno => absurd (hno.symm.trans hsq.1) (by simp), fun S' hS' σ3 hf3 hx3 => ?_⟩
      obtain rfl : S2 = S' := Option.some.inj (hsq.1.symm.trans hS')
      refine ax_store (q := 129) (L' := [some (am_R 135), some (am_I ((p : Nat) : Int)), some (am_I (po_ T (gs_ T v p S (nS_ T)) p)), some (am_I 1), some (am_I (po_ T (gs_ T v p S (nS_ T)) p)), some (am_I ((nS_ T : Nat) : Int))]) rfl rfl rfl rfl rfl rfl ?_
      refine ax_goto (x := 72) rfl ?_
      have e : (if B.1 < (fun S => po_ T (gs_ T v p S (nS_ T)) p) S then ((fun S => po_ T (gs_ T v p S (nS_ T)) p) S, S) else B) = ((fun S => po_ T (gs_ T v p S (nS_ T)) p) S, S) := by first | exact if_pos (by show _ < po_ T (gs_ T v p S (nS_ T)) p; omega) | exact if_neg (by show ¬ _ < po_ T (gs_ T v p S (nS_ T)) p; omega)
      have g := fun hb => ih S2 (if B.1 < (fun S => po_ T (gs_ T v p S (nS_ T)) p) S then ((fun S => po_ T (gs_ T v p S (nS_ T)) p) S, S) else B) σ3 (some (am_I (po_ T (gs_ T v p S (nS_ T)) p))) (some (am_I ((nS_ T : Nat) : Int))) (hT2.f5 hf3 (by decide) (by decide)) ((hf3.1 163 (by decide)).trans ((sI_ne (by decide)).trans ((hf1.1 163 (by decide)).trans hw))) ⟨hx3, hok S2 (by simp)⟩ hsq.2 (fun S' h' => hok S' (List.mem_cons_of_mem _ h')) hb (fun σ' o4 o5 hf' hl' => hQ σ' o4 o5 (fr_tr (fr_tr (fr_sI (fr_sub hf1 (by decide)) (by decide)) hf3 (by decide)) hf' (fun a h => h)) hl')
      rw [e] at g
      exact g (Or.inr (fun k hk => by rw [hf3.1 167 (by decide)]; exact hl2 k hk))

