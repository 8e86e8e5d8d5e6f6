def ly_ (M l : List Nat) (y : Nat → Int) : Nat → Nat → Int
  | 0 => y
  | k + 1 => am_up (ly_ M l y k) (M.getD k 0) (l.getD k 0 : Int)
theorem ly_out {M l : List Nat} {y : Nat → Int} {p : Nat} : ∀ n, (∀ k, k < n → M.getD k 0 ≠ p) → ly_ M l y n p = y p
  | 0, _ => rfl
  | n + 1, h => by
    show am_up (ly_ M l y n) (M.getD n 0) _ p = y p
    rw [am_up_ne (fun q => h n (by omega) q.symm)]
    exact ly_out n (fun k hk => h k (by omega))
theorem ly_in {M l : List Nat} {y : Nat → Int} : ∀ n, (∀ i j, i < n → j < n → M.getD i 0 = M.getD j 0 → i = j) → ∀ k, k < n → ly_ M l y n (M.getD k 0) = (l.getD k 0 : Int)
  | 0, _, k, hk => absurd hk (by omega)
  | n + 1, h, k, hk => by
    show am_up (ly_ M l y n) (M.getD n 0) _ (M.getD k 0) = _
    by_cases q : k = n
    · subst q; rw [am_up_same]
    · rw [am_up_ne (fun e => q (h k n hk (by omega) e))]
      exact ly_in n (fun i j hi hj => h i j (by omega) (by omega)) k (by omega)
theorem be_ge {α : Type} (f : α → Int) : ∀ (l : List α) (b : Int × α), b.1 ≤ (be_ f l b).1
  | [], _ => Int.le_refl _
  | x :: l, b => by
    refine Int.le_trans ?_ (be_ge f l _)
    split <;> (try dsimp only) <;> omega
theorem be_1 {α : Type} (f : α → Int) (x : α) (l : List α) (b : Int × α) : f x ≤ (be_ f (x :: l) b).1 := by
  refine Int.le_trans ?_ (be_ge f l _)
  split <;> (try dsimp only) <;> omega
theorem rg_self {T : sp_T} {b : Int} {v : sp_V} (hV : TV_ T) (hW : VV_ T b v) {M : List Nat} (hM : ∀ k, k < M.length → M.getD k 0 < nP_ T) : 0 ≤ rg_ T v M M := by
  unfold rg_
  split
  · next h =>
    have : ∀ n, an_ n (fun k => decide (ow_ T v M M k < ow_ T v M M k)) = false := by
      intro n
      induction n with
      | zero => rfl
      | succ n ih =>
        show (an_ n _ || decide (ow_ T v M M n < ow_ T v M M n)) = false
        rw [ih, decide_eq_false (by omega)]; rfl
    rw [this] at h
    cases h
  · exact (su_bd (b := 9) (by omega) _ (fun k hk => ho_bd hV hW (hM k hk))).1
theorem m_ringWorthN {d : Nat} (hd : 4 ≤ d) {σ : am_S} {T : sp_T} (hT : TM_ T σ) (hV : TV_ T) {b : Int} {v : sp_V} (ha : σ.1 164 = v) (hW : VV_ T b v) {M l : List Nat} (hM : RG_ M σ) (hl : WL_ l σ) {n : Nat} (hn : M.length = n) (hlen : l.length = n) (hMp : ∀ k, k < n → M.getD k 0 < nP_ T) (hlp : ∀ k, k < n → l.getD k 0 < nP_ T) {Q : Option am_V → am_S → Prop} (hQ : Q (some (am_I (rg_ T v M l))) σ) : am_Ev d 242 [am_R 135, am_I ((n : Nat) : Int)] σ Q := by
  subst hn
  exact m_ringWorth hd hT hV ha hW hM hl hlen hMp hlp hQ

theorem l_rings1 {d : Nat} {σ : am_S} {n : Nat} (hn6 : n ≤ 6) {Q : Option am_V → am_S → Prop} (hQ : aW d 0 k_X9_rings Q 38 [some (am_R 135), some (am_I ((n : Nat) : Int)), some (am_I ((n : Nat) : Int)), none, none, none] [] (am_sI σ 169 (cp_ (σ.1 168) (σ.1 169) n))) : ∀ (m k : Nat), k + m = n → aW d 0 k_X9_rings Q 15 [some (am_R 135), some (am_I ((n : Nat) : Int)), some (am_I ((k : Nat) : Int)), none, none, none] [] (am_sI σ 169 (cp_ (σ.1 168) (σ.1 169) k)) := by
  intro m
  induction m with
  | zero =>
    intro k hk
    obtain rfl : k = n := by omega
    refine ax_load (q := 16) rfl rfl rfl rfl rfl ?_
    refine ax_load (q := 17) rfl rfl rfl rfl rfl ?_
    refine ax_icmp_ge (q := 20) (x := 38) rfl rfl (fun h17 => ?_) (fun h => absurd h (by omega))
    exact hQ
  | succ m ih =>
    intro k hk
    refine ax_load (q := 16) rfl rfl rfl rfl rfl ?_
    refine ax_load (q := 17) rfl rfl rfl rfl rfl ?_
    refine ax_icmp_ge (q := 20) (x := 38) rfl rfl (fun h => absurd h (by omega)) (fun h17 => ?_)
    refine ax_load (q := 21) rfl rfl rfl rfl rfl ?_
    refine ax_getf (q := 24) (v := am_R 169) rfl rfl (rfl) ?_
    refine ax_load (q := 25) rfl rfl rfl rfl rfl ?_
    refine ax_load (q := 26) rfl rfl rfl rfl rfl ?_
    refine ax_getf (q := 29) (v := am_R 168) rfl rfl (rfl) ?_
    refine ax_load (q := 30) rfl rfl rfl rfl rfl ?_
    refine bx_iald (q := 31) (k := k) (z := σ.1 168 k) rfl rfl (rfl) (by omega) (by omega) (congrFun (sI_ne (by decide)) _) ?_
    refine bx_iast (q := 32) (k := k) rfl rfl (rfl) (by omega) (by omega) ?_
    refine ax_iinc (q := 35) (z' := ((k + 1 : Nat) : Int)) (L' := [some (am_R 135), some (am_I ((n : Nat) : Int)), some (am_I ((k + 1 : Nat) : Int)), none, none, none]) rfl rfl rfl rfl (am_we (by omega) (by omega) (by omega)) rfl ?_
    refine ax_goto (x := 15) rfl ?_
    have g := ih (k + 1) (by omega)
    rw [← cp_step] at g
    rw [sI_sI, sI_at]
    exact g

theorem l_rings2 {d : Nat} {σ : am_S} {T : sp_T} (hT : TM_ T σ) (hV : TV_ T) {n : Nat} {Q : Option am_V → am_S → Prop} (hQ : aW d 0 k_X9_rings Q 61 [some (am_R 135), some (am_I ((n : Nat) : Int)), some (am_I ((nP_ T : Nat) : Int)), none, none, none] [] (am_sI σ 167 (cp_ (fun _ => -1) (σ.1 167) (nP_ T)))) : ∀ (m k : Nat), k + m = nP_ T → aW d 0 k_X9_rings Q 40 [some (am_R 135), some (am_I ((n : Nat) : Int)), some (am_I ((k : Nat) : Int)), none, none, none] [] (am_sI σ 167 (cp_ (fun _ => -1) (σ.1 167) k)) := by
  have h6 := hV.nP
  intro m
  induction m with
  | zero =>
    intro k hk
    obtain rfl : k = nP_ T := by omega
    refine ax_load (q := 41) rfl rfl rfl rfl rfl ?_
    refine ax_load (q := 42) rfl rfl rfl rfl rfl ?_
    refine ax_getf (q := 45) (v := am_I ((nP_ T : Nat) : Int)) rfl rfl (am_fg rfl ((hT.sI (a := 167) (by decide)).s53.trans hV.nP.1)) ?_
    refine ax_icmp_ge (q := 48) (x := 61) rfl rfl (fun h45 => ?_) (fun h => absurd h (by omega))
    exact hQ
  | succ m ih =>
    intro k hk
    refine ax_load (q := 41) rfl rfl rfl rfl rfl ?_
    refine ax_load (q := 42) rfl rfl rfl rfl rfl ?_
    refine ax_getf (q := 45) (v := am_I ((nP_ T : Nat) : Int)) rfl rfl (am_fg rfl ((hT.sI (a := 167) (by decide)).s53.trans hV.nP.1)) ?_
    refine ax_icmp_ge (q := 48) (x := 61) rfl rfl (fun h => absurd h (by omega)) (fun h45 => ?_)
    refine ax_load (q := 49) rfl rfl rfl rfl rfl ?_
    refine ax_getf (q := 52) (v := am_R 167) rfl rfl (rfl) ?_
    refine ax_load (q := 53) rfl rfl rfl rfl rfl ?_
    refine ax_const (q := 54) (v := am_I (-1)) rfl rfl rfl ?_
    refine bx_iast (q := 55) (k := k) rfl rfl (rfl) (by omega) (by omega) ?_
    refine ax_iinc (q := 58) (z' := ((k + 1 : Nat) : Int)) (L' := [some (am_R 135), some (am_I ((n : Nat) : Int)), some (am_I ((k + 1 : Nat) : Int)), none, none, none]) rfl rfl rfl rfl (am_we (by omega) (by omega) (by omega)) rfl ?_
    refine ax_goto (x := 40) rfl ?_
    have g := ih (k + 1) (by omega)
    rw [← cp_step] at g
    rw [sI_sI, sI_at]
    exact g

theorem l_rings3 {d : Nat} {σ : am_S} {M l : List Nat} (hM : RG_ M σ) (hl : WL_ l σ) {n : Nat} (hn : M.length = n) (hlen : l.length = n) (hM6 : ∀ k, k < n → M.getD k 0 < 6) {x y : Int} {Q : Option am_V → am_S → Prop} (hQ : aW d 0 k_X9_rings Q 119 [some (am_R 135), some (am_I ((n : Nat) : Int)), some (am_I x), some (am_I 1), some (am_I y), some (am_I ((n : Nat) : Int))] [] (am_sI σ 167 (ly_ M l (σ.1 167) n))) : ∀ (m k : Nat), k + m = n → aW d 0 k_X9_rings Q 88 [some (am_R 135), some (am_I ((n : Nat) : Int)), some (am_I x), some (am_I 1), some (am_I y), some (am_I ((k : Nat) : Int))] [] (am_sI σ 167 (ly_ M l (σ.1 167) k)) := by
  have h66 := hl.1
  intro m
  induction m with
  | zero =>
    intro k hk
    obtain rfl : k = n := by omega
    refine ax_load (q := 90) rfl rfl rfl rfl rfl ?_
    refine ax_load (q := 91) rfl rfl rfl rfl rfl ?_
    refine ax_icmp_ge (q := 94) (x := 119) rfl rfl (fun h91 => ?_) (fun h => absurd h (by omega))
    exact hQ
  | succ m ih =>
    intro k hk
    have hm6 := hM6 k (by omega)
    refine ax_load (q := 90) rfl rfl rfl rfl rfl ?_
    refine ax_load (q := 91) rfl rfl rfl rfl rfl ?_
    refine ax_icmp_ge (q := 94) (x := 119) rfl rfl (fun h => absurd h (by omega)) (fun h91 => ?_)
    refine ax_load (q := 95) rfl rfl rfl rfl rfl ?_
    refine ax_getf (q := 98) (v := am_R 167) rfl rfl (rfl) ?_
    refine ax_load (q := 99) rfl rfl rfl rfl rfl ?_
    refine ax_getf (q := 102) (v := am_R 169) rfl rfl (rfl) ?_
    refine ax_load (q := 104) rfl rfl rfl rfl rfl ?_
    refine bx_iald (q := 105) (k := k) (z := ((M.getD k 0 : Nat) : Int)) rfl rfl (rfl) (by omega) (by omega) ((congrFun (sI_ne (by decide)) _).trans (hM k (by omega))) ?_
    refine ax_load (q := 106) rfl rfl rfl rfl rfl ?_
    refine ax_getf (q := 109) (v := am_R 168) rfl rfl (rfl) ?_
    refine ax_load (q := 111) rfl rfl rfl rfl rfl ?_
    refine bx_iald (q := 112) (k := k) (z := ((l.getD k 0 : Nat) : Int)) rfl rfl (rfl) (by omega) (by omega) ((congrFun (sI_ne (by decide)) _).trans (hl.2 k (by omega))) ?_
    refine bx_iast (q := 113) (k := M.getD k 0) rfl rfl (rfl) (by omega) (by omega) ?_
    refine ax_iinc (q := 116) (z' := ((k + 1 : Nat) : Int)) (L' := [some (am_R 135), some (am_I ((n : Nat) : Int)), some (am_I x), some (am_I 1), some (am_I y), some (am_I ((k + 1 : Nat) : Int))]) rfl rfl rfl rfl (am_we (by omega) (by omega) (by omega)) rfl ?_
    refine ax_goto (x := 88) rfl ?_
    have g := ih (k + 1) (by omega)
    rw [sI_sI, sI_at]
    exact g

theorem l_rings {d : Nat} (hd : 4 ≤ d) {T : sp_T} (hV : TV_ T) {b : Int} {v : sp_V} (hW : VV_ T b v) {M : List Nat} {n : Nat} (hn : M.length = n) (hMp : ∀ k, k < n → M.getD k 0 < nP_ T) (hnd : ∀ i j, i < n → j < n → M.getD i 0 = M.getD j 0 → i = j) {Q : Option am_V → am_S → Prop} : ∀ (ls : List (List Nat)) (l : List Nat) (B : Int × List Nat) (σ : am_S) (o4 o5 : Option am_V), TM_ T σ → σ.1 164 = v → RG_ M σ → WL_ l σ → sq_ (nr_ n) (l :: ls) → (∀ r, r ∈ l :: ls → r.length = n ∧ ∀ k, k < n → r.getD k 0 < nP_ T) → (B.1 < 0 ∨ ∀ k, k < n → σ.1 167 (M.getD k 0) = (B.2.getD k 0 : Int)) → (∀ p, p < nP_ T → (∀ k, k < n → M.getD k 0 ≠ p) → σ.1 167 p = -1) → (∀ σ' o4 o5, fr_ [167, 168] σ σ' → ((be_ (fun r => rg_ T v M r) (l :: ls) B).1 < 0 ∨ ∀ k, k < n → σ'.1 167 (M.getD k 0) = ((be_ (fun r => rg_ T v M r) (l :: ls) B).2.getD k 0 : Int)) → (∀ p, p < nP_ T → (∀ k, k < n → M.getD k 0 ≠ p) → σ'.1 167 p = -1) → aW d 0 k_X9_rings Q 128 [some (am_R 135), some (am_I ((n : Nat) : Int)), some (am_I (be_ (fun r => rg_ T v M r) (l :: ls) B).1), some (am_I 0), o4, o5] [] σ') → aW d 0 k_X9_rings Q 65 [some (am_R 135), some (am_I ((n : Nat) : Int)), some (am_I B.1), some (am_I 1), o4, o5] [] σ := by
  have h6 := hV.nP
  intro ls
  induction ls with
  | nil =>
    intro l B σ o4 o5 hT ha hR hS hsq hok hB hE hQ
    have hok0 := hok l (List.mem_cons_self ..)
    refine ax_load (q := 66) rfl rfl rfl rfl rfl ?_
    refine ax_if_eq (q := 69) (x := 128) rfl rfl (fun h => absurd h (by omega)) (fun h66 => ?_)
    refine ax_load (q := 70) rfl rfl rfl rfl rfl ?_
    refine ax_load (q := 71) rfl rfl rfl rfl rfl ?_
    refine ax_callv (q := 74) rfl rfl rfl rfl rfl rfl ?_
    refine m_ringWorthN (by omega) hT hV ha hW hR hS hn hok0.1 hMp hok0.2 ?_
    have hn6 : n ≤ 6 := by have := hS.1; omega
    refine ax_store (q := 76) (L' := [some (am_R 135), some (am_I ((n : Nat) : Int)), some (am_I B.1), some (am_I 1), some (am_I (rg_ T v M l)), o5]) rfl rfl rfl rfl rfl rfl ?_
    refine ax_load (q := 78) rfl rfl rfl rfl rfl ?_
    refine ax_load (q := 79) rfl rfl rfl rfl rfl ?_
    refine ax_icmp_le (q := 82) (x := 119) rfl rfl (fun h79 => ?_) (fun h79 => ?_)
    · refine ax_load (q := 120) rfl rfl rfl rfl rfl ?_
      refine ax_load (q := 121) rfl rfl rfl rfl rfl ?_
      refine ax_callv (q := 124) rfl rfl rfl rfl rfl rfl ?_
      refine m_nextRowN (by omega) hS hok0.1 ⟨fun _ => ?_, fun S' hS' => absurd ((show nr_ n l = none from hsq).symm.trans hS') (by simp)⟩
      refine ax_store (q := 125) (L' := [some (am_R 135), some (am_I ((n : Nat) : Int)), some (am_I B.1), some (am_I 0), some (am_I (rg_ T v M l)), o5]) rfl rfl rfl rfl rfl rfl ?_
      refine ax_goto (x := 65) rfl ?_
      refine ax_load (q := 66) rfl rfl rfl rfl rfl ?_
      refine ax_if_eq (q := 69) (x := 128) rfl rfl (fun h66 => ?_) (fun h => absurd h (by omega))
      have e : (if B.1 < (fun r => rg_ T v M r) l then ((fun r => rg_ T v M r) l, l) else B) = B := by first | exact if_pos (by show _ < rg_ T v M l; omega) | exact if_neg (by show ¬ _ < rg_ T v M l; omega)
      have g := hQ σ (some (am_I (rg_ T v M l))) (o5) (fr_rf _ _) (by show (((if B.1 < (fun r => rg_ T v M r) l then ((fun r => rg_ T v M r) l, l) else B).1) < 0 ∨ ∀ k, k < n → _ = (((if B.1 < (fun r => rg_ T v M r) l then ((fun r => rg_ T v M r) l, l) else B).2.getD k 0 : Nat) : Int)); rw [e]; exact hB) hE
      rw [show be_ (fun r => rg_ T v M r) [l] B = (if B.1 < (fun r => rg_ T v M r) l then ((fun r => rg_ T v M r) l, l) else B) from rfl, e] at g
      exact g
    · refine ax_load (q := 84) rfl rfl rfl rfl rfl ?_
      refine ax_store (q := 85) (L' := [some (am_R 135), some (am_I ((n : Nat) : Int)), some (am_I (rg_ T v M l)), some (am_I 1), some (am_I (rg_ T v M l)), o5]) rfl rfl rfl rfl rfl rfl ?_
      refine ax_const (q := 86) (v := am_I 0) rfl rfl rfl ?_
      refine ax_store (q := 88) (L' := [some (am_R 135), some (am_I ((n : Nat) : Int)), some (am_I (rg_ T v M l)), some (am_I 1), some (am_I (rg_ T v M l)), some (am_I 0)]) rfl rfl rfl rfl rfl rfl ?_
      have g := l_rings3 (d := d) hR hS hn hok0.1 (fun k hk => by have := hMp k hk; omega) (x := rg_ T v M l) (y := rg_ T v M l) (Q := Q) ?_ n 0 (by omega)
      · rw [show ly_ M l (σ.1 167) 0 = σ.1 167 from rfl, sI_id] at g
        exact g
      have hT2 : TM_ T (am_sI σ 167 (ly_ M l (σ.1 167) n)) := hT.sI (by decide)
      have hS2 : WL_ l (am_sI σ 167 (ly_ M l (σ.1 167) n)) := ⟨hS.1, fun k hk => by rw [sI_ne (by decide)]; exact hS.2 k hk⟩
      have hl2 : ∀ k, k < n → (am_sI σ 167 (ly_ M l (σ.1 167) n)).1 167 (M.getD k 0) = (l.getD k 0 : Int) := fun k hk => by rw [sI_at]; exact ly_in n hnd k hk
      have hE2 : ∀ p, p < nP_ T → (∀ k, k < n → M.getD k 0 ≠ p) → (am_sI σ 167 (ly_ M l (σ.1 167) n)).1 167 p = -1 := fun p hp hk => by rw [sI_at, ly_out n hk]; exact hE p hp hk
      refine ax_load (q := 120) rfl rfl rfl rfl rfl ?_
      refine ax_load (q := 121) rfl rfl rfl rfl rfl ?_
      refine ax_callv (q := 124) rfl rfl rfl rfl rfl rfl ?_
      refine m_nextRowN (by omega) hS2 hok0.1 ⟨fun _ => ?_, fun S' hS' => absurd ((show nr_ n l = none from hsq).symm.trans hS') (by simp)⟩
      refine ax_store (q := 125) (L' := [some (am_R 135), some (am_I ((n : Nat) : Int)), some (am_I (rg_ T v M l)), some (am_I 0), some (am_I (rg_ T v M l)), some (am_I ((n : Nat) : Int))]) rfl rfl rfl rfl rfl rfl ?_
      refine ax_goto (x := 65) rfl ?_
      refine ax_load (q := 66) rfl rfl rfl rfl rfl ?_
      refine ax_if_eq (q := 69) (x := 128) rfl rfl (fun h66 => ?_) (fun h => absurd h (by omega))
      have e : (if B.1 < (fun r => rg_ T v M r) l then ((fun r => rg_ T v M r) l, l) else B) = ((fun r => rg_ T v M r) l, l) := by first | exact if_pos (by show _ < rg_ T v M l; omega) | exact if_neg (by show ¬ _ < rg_ T v M l; omega)
      have g := hQ (am_sI σ 167 (ly_ M l (σ.1 167) n)) (some (am_I (rg_ T v M l))) (some (am_I ((n : Nat) : Int))) (fr_sI (fr_rf _ _) (by decide)) (by show (((if B.1 < (fun r => rg_ T v M r) l then ((fun r => rg_ T v M r) l, l) else B).1) < 0 ∨ ∀ k, k < n → _ = (((if B.1 < (fun r => rg_ T v M r) l then ((fun r => rg_ T v M r) l, l) else B).2.getD k 0 : Nat) : Int)); rw [e]; exact Or.inr hl2) hE2
      rw [show be_ (fun r => rg_ T v M r) [l] B = (if B.1 < (fun r => rg_ T v M r) l then ((fun r => rg_ T v M r) l, l) else B) from rfl, e] at g
      exact g
  | cons l2 ls ih =>
    intro l B σ o4 o5 hT ha hR hS hsq hok hB hE hQ
    have hok0 := hok l (List.mem_cons_self ..)
    refine ax_load (q := 66) rfl rfl rfl rfl rfl ?_
    refine ax_if_eq (q := 69) (x := 128) rfl rfl (fun h => absurd h (by omega)) (fun h66 => ?_)
    refine ax_load (q := 70) rfl rfl rfl rfl rfl ?_
    refine ax_load (q := 71) rfl rfl rfl rfl rfl ?_
    refine ax_callv (q := 74) rfl rfl rfl rfl rfl rfl ?_
    refine m_ringWorthN (by omega) hT hV ha hW hR hS hn hok0.1 hMp hok0.2 ?_
    have hn6 : n ≤ 6 := by have := hS.1; omega
    refine ax_store (q := 76) (L' := [some (am_R 135), some (am_I ((n : Nat) : Int)), some (am_I B.1), some (am_I 1), some (am_I (rg_ T v M l)), o5]) rfl rfl rfl rfl rfl rfl ?_
    refine ax_load (q := 78) rfl rfl rfl rfl rfl ?_
    refine ax_load (q := 79) rfl rfl rfl rfl rfl ?_
    refine ax_icmp_le (q := 82) (x := 119) rfl rfl (fun h79 => ?_) (fun h79 => ?_)
    · refine ax_load (q := 120) rfl rfl rfl rfl rfl ?_
      refine ax_load (q := 121) rfl rfl rfl rfl rfl ?_
      refine ax_callv (q := 124) rfl rfl rfl rfl rfl rfl ?_
      refine m_nextRowN (by omega) hS hok0.1 ⟨fun hno => absurd (hno.symm.trans hsq.1) (by simp), fun S' hS' σ3 hf3 hx3 => ?_⟩
      obtain rfl : l2 = S' := Option.some.inj (hsq.1.symm.trans hS')
      refine ax_store (q := 125) (L' := [some (am_R 135), some (am_I ((n : Nat) : Int)), some (am_I B.1), some (am_I 1), some (am_I (rg_ T v M l)), o5]) rfl rfl rfl rfl rfl rfl ?_
      refine ax_goto (x := 65) rfl ?_
      have e : (if B.1 < (fun r => rg_ T v M r) l then ((fun r => rg_ T v M r) l, l) else B) = B := by first | exact if_pos (by show _ < rg_ T v M l; omega) | exact if_neg (by show ¬ _ < rg_ T v M l; omega)
      have g := fun hb => ih l2 (if B.1 < (fun r => rg_ T v M r) l then ((fun r => rg_ T v M r) l, l) else B) σ3 (some (am_I (rg_ T v M l))) (o5) (hT.f5 hf3 (by decide) (by decide)) ((hf3.1 164 (by decide)).trans (ha)) (fun k hk => by rw [hf3.1 169 (by decide)]; exact hR k hk) hx3 hsq.2 (fun S' h' => hok S' (List.mem_cons_of_mem _ h')) hb (fun p hp hk => by rw [hf3.1 167 (by decide)]; exact hE p hp hk) (fun σ' o4 o5 hf' hl' hE' => hQ σ' o4 o5 (fr_tr (fr_tr (fr_rf _ _) hf3 (by decide)) hf' (fun a h => h)) hl' hE')
      rw [e] at g
      exact g (hB.imp_right (fun hB k hk => by rw [hf3.1 167 (by decide)]; exact hB k hk))
    · refine ax_load (q := 84) rfl rfl rfl rfl rfl ?_
      refine ax_store (q := 85) (L' := [some (am_R 135), some (am_I ((n : Nat) : Int)), some (am_I (rg_ T v M l)), some (am_I 1), some (am_I (rg_ T v M l)), o5]) rfl rfl rfl rfl rfl rfl ?_
      refine ax_const (q := 86) (v := am_I 0) rfl rfl rfl ?_
      refine ax_store (q := 88) (L' := [some (am_R 135), some (am_I ((n : Nat) : Int)), some (am_I (rg_ T v M l)), some (am_I 1), some (am_I (rg_ T v M l)), some (am_I 0)]) rfl rfl rfl rfl rfl rfl ?_
      have g := l_rings3 (d := d) hR hS hn hok0.1 (fun k hk => by have := hMp k hk; omega) (x := rg_ T v M l) (y := rg_ T v M l) (Q := Q) ?_ n 0 (by omega)
      · rw [show ly_ M l (σ.1 167) 0 = σ.1 167 from rfl, sI_id] at g
        exact g
      have hT2 : TM_ T (am_sI σ 167 (ly_ M l (σ.1 167) n)) := hT.sI (by decide)
      have hS2 : WL_ l (am_sI σ 167 (ly_ M l (σ.1 167) n)) := ⟨hS.1, fun k hk => by rw [sI_ne (by decide)]; exact hS.2 k hk⟩
      have hl2 : ∀ k, k < n → (am_sI σ 167 (ly_ M l (σ.1 167) n)).1 167 (M.getD k 0) = (l.getD k 0 : Int) := fun k hk => by rw [sI_at]; exact ly_in n hnd k hk
      have hE2 : ∀ p, p < nP_ T → (∀ k, k < n → M.getD k 0 ≠ p) → (am_sI σ 167 (ly_ M l (σ.1 167) n)).1 167 p = -1 := fun p hp hk => by rw [sI_at, ly_out n hk]; exact hE p hp hk
      refine ax_load (q := 120) rfl rfl rfl rfl rfl ?_
      refine ax_load (q := 121) rfl rfl rfl rfl rfl ?_
      refine ax_callv (q := 124) rfl rfl rfl rfl rfl rfl ?_
      refine m_nextRowN (by omega) hS2 hok0.1 ⟨fun hno => absurd (hno.symm.trans hsq.1) (by simp), fun S' hS' σ3 hf3 hx3 => ?_⟩
      obtain rfl : l2 = S' := Option.some.inj (hsq.1.symm.trans hS')
      refine ax_store (q := 125) (L' := [some (am_R 135), some (am_I ((n : Nat) : Int)), some (am_I (rg_ T v M l)), some (am_I 1), some (am_I (rg_ T v M l)), some (am_I ((n : Nat) : Int))]) rfl rfl rfl rfl rfl rfl ?_
      refine ax_goto (x := 65) rfl ?_
      have e : (if B.1 < (fun r => rg_ T v M r) l then ((fun r => rg_ T v M r) l, l) else B) = ((fun r => rg_ T v M r) l, l) := by first | exact if_pos (by show _ < rg_ T v M l; omega) | exact if_neg (by show ¬ _ < rg_ T v M l; omega)
      have g := fun hb => ih l2 (if B.1 < (fun r => rg_ T v M r) l then ((fun r => rg_ T v M r) l, l) else B) σ3 (some (am_I (rg_ T v M l))) (some (am_I ((n : Nat) : Int))) (hT2.f5 hf3 (by decide) (by decide)) ((hf3.1 164 (by decide)).trans ((sI_ne (by decide)).trans ha)) (fun k hk => by rw [hf3.1 169 (by decide), sI_ne (by decide)]; exact hR k hk) hx3 hsq.2 (fun S' h' => hok S' (List.mem_cons_of_mem _ h')) hb (fun p hp hk => by rw [hf3.1 167 (by decide)]; exact hE2 p hp hk) (fun σ' o4 o5 hf' hl' hE' => hQ σ' o4 o5 (fr_tr (fr_tr (fr_sI (fr_rf _ _) (by decide)) hf3 (by decide)) hf' (fun a h => h)) hl' hE')
      rw [e] at g
      exact g (Or.inr (fun k hk => by rw [hf3.1 167 (by decide)]; exact hl2 k hk))

def rm_ (T : sp_T) (v : sp_V) : List Nat := mb_ (bi_ (nP_ T) (sh_ v)) (nP_ T)
def ri_ (T : sp_T) (v : sp_V) : Int × List Nat := be_ (fun r => rg_ T v (rm_ T v) r) (rs_ (rm_ T v)) (-1, [])

theorem m_rings {d : Nat} (hd : 5 ≤ d) {σ : am_S} {T : sp_T} (hT : TM_ T σ) (hV : TV_ T) {b : Int} {v w : sp_V} (hw : σ.1 163 = w) (hv : v = cp_ w (σ.1 164) 50) (hW : VV_ T b w) {Q : Option am_V → am_S → Prop} (hQ : ∀ σ', fq_ [164, 167, 168, 169] [68] σ σ' → σ'.1 135 68 = (nP_ T : Int) → (∀ k, k < (rm_ T v).length → σ'.1 167 ((rm_ T v).getD k 0) = ((ri_ T v).2.getD k 0 : Int)) → (∀ p, p < nP_ T → (∀ k, k < (rm_ T v).length → (rm_ T v).getD k 0 ≠ p) → σ'.1 167 p = -1) → Q (some (am_I (ri_ T v).1)) σ') : am_Ev d 243 [am_R 135] σ Q := by
  obtain ⟨d, rfl⟩ : ∃ e, d = e + 1 := ⟨d - 1, by omega⟩
  have h6 := hV.nP
  have hvw : ∀ j, j < 50 → v j = w j := fun j hj => by rw [hv]; exact cp_at hj
  have hW2 : VV_ T b v := hW.cg hV hvw
  have hsb := bi_lt (sh_ v) (nP_ T)
  have h264 : 2 ^ nP_ T ≤ 64 := by show 2 ^ nP_ T ≤ 2 ^ 6; exact Nat.pow_le_pow_right (by decide) (by omega)
  obtain ⟨M, hMd⟩ : ∃ M, M = rm_ T v := ⟨_, rfl⟩
  obtain ⟨ls, he, hsq, hok, hnd⟩ := rs_ok (n := nP_ T) (s := bi_ (nP_ T) (sh_ v)) (by omega) hsb
  rw [show mb_ (bi_ (nP_ T) (sh_ v)) (nP_ T) = M from hMd.symm] at he hsq hok hnd
  have hM6 : M.length ≤ 6 := by have := mb_le (bi_ (nP_ T) (sh_ v)) (nP_ T); rw [show mb_ (bi_ (nP_ T) (sh_ v)) (nP_ T) = M from hMd.symm] at this; omega
  have hMp : ∀ k, k < M.length → M.getD k 0 < nP_ T := fun k hk => ((hok M (List.mem_cons_self ..)).2 k hk).2
  have hTv : TM_ T (am_sI σ 164 v) := hT.sI (by decide)
  rw [← hMd] at hQ
  refine ev_in (m := 243) (c := k_X9_rings) (L := [some (am_R 135), none, none, none, none, none]) rfl rfl rfl rfl rfl rfl ?_
  refine ax_load (q := 1) rfl rfl rfl rfl rfl ?_
  refine ax_callv (q := 4) rfl rfl rfl rfl rfl rfl ?_
  refine m_load (by omega) ?_
  rw [hw, ← hv]
  refine ax_load (q := 5) rfl rfl rfl rfl rfl ?_
  refine ax_load (q := 6) rfl rfl rfl rfl rfl ?_
  refine ax_callv (q := 9) rfl rfl rfl rfl rfl rfl ?_
  refine m_shutSet (by omega) hTv hV (sI_at _ _ _) ?_
  refine ax_callv (q := 12) rfl rfl rfl rfl rfl rfl ?_
  refine m_layFirst (by omega) hTv hV (by omega) (fun σl hfl hwl => ?_)
  rw [show mb_ (bi_ (nP_ T) (sh_ v)) (nP_ T) = M from hMd.symm] at hwl ⊢
  have hTl : TM_ T σl := hTv.f5 hfl (by decide) (by decide)
  have hal : σl.1 164 = v := (hfl.1 164 (by decide)).trans (sI_at _ _ _)
  refine ax_store (q := 13) (L' := [some (am_R 135), some (am_I ((M.length : Nat) : Int)), none, none, none, none]) rfl rfl rfl rfl rfl rfl ?_
  refine ax_const (q := 14) (v := am_I 0) rfl rfl rfl ?_
  refine ax_store (q := 15) (L' := [some (am_R 135), some (am_I ((M.length : Nat) : Int)), some (am_I 0), none, none, none]) rfl rfl rfl rfl rfl rfl ?_
  have g := l_rings1 (d := d) (σ := σl) (n := M.length) hM6 (Q := Q) ?_ M.length 0 (by omega)
  · rw [cp_0, sI_id] at g
    exact g
  obtain ⟨σr, hσr⟩ : ∃ s, s = (am_sI σl 169 (cp_ (σl.1 168) (σl.1 169) M.length)) := ⟨_, rfl⟩
  rw [← hσr]
  have hRr : RG_ M σr := fun k hk => by rw [hσr, sI_at, cp_at hk]; exact hwl.2 k hk
  have hTr : TM_ T σr := by rw [hσr]; exact hTl.sI (by decide)
  have hfr : fr_ [169] σl σr := by rw [hσr]; exact fr_sI (fr_rf _ _) (by decide)
  refine ax_const (q := 39) (v := am_I 0) rfl rfl rfl ?_
  refine ax_store (q := 40) (L' := [some (am_R 135), some (am_I ((M.length : Nat) : Int)), some (am_I 0), none, none, none]) rfl rfl rfl rfl rfl rfl ?_
  have g := l_rings2 (d := d) (σ := σr) hTr hV (n := M.length) (Q := Q) ?_ (nP_ T) 0 (by omega)
  · rw [cp_0, sI_id] at g
    exact g
  refine ax_const (q := 62) (v := am_I (-1)) rfl rfl rfl ?_
  refine ax_store (q := 63) (L' := [some (am_R 135), some (am_I ((M.length : Nat) : Int)), some (am_I (-1)), none, none, none]) rfl rfl rfl rfl rfl rfl ?_
  refine ax_const (q := 64) (v := am_I 1) rfl rfl rfl ?_
  refine ax_store (q := 65) (L' := [some (am_R 135), some (am_I ((M.length : Nat) : Int)), some (am_I (-1)), some (am_I 1), none, none]) rfl rfl rfl rfl rfl rfl ?_
  have hn0 : ¬ (be_ (fun r => rg_ T v M r) (M :: ls) (-1, [])).1 < 0 := by have q1 := be_1 (fun r => rg_ T v M r) M ls (-1, []); have q2 := rg_self hV hW2 hMp; omega
  refine l_rings (by omega) hV hW2 rfl hMp hnd ls M (-1, []) (am_sI σr 167 (cp_ (fun _ => -1) (σr.1 167) (nP_ T))) none none (hTr.sI (by decide)) ((sI_ne (by decide)).trans ((hfr.1 164 (by decide)).trans hal)) (fun k hk => by rw [sI_ne (by decide)]; exact hRr k hk) ⟨hM6, fun k hk => by rw [sI_ne (by decide), hfr.1 168 (by decide)]; exact hwl.2 k hk⟩ hsq (fun r hr => ⟨(hok r hr).1, fun k hk => ((hok r hr).2 k (by rw [(hok r hr).1]; exact hk)).2⟩) (Or.inl (by decide)) (fun p hp _ => by rw [sI_at, cp_at hp]) (fun σ1 o4 o5 hf1 hl1 hE1 => ?_)
  have hT1 : TM_ T σ1 := TM_.f5 (hTr.sI (a := 167) (by decide)) hf1 (by decide) (by decide)
  refine ax_load (q := 129) rfl rfl rfl rfl rfl ?_
  refine ax_load (q := 130) rfl rfl rfl rfl rfl ?_
  refine ax_getf (q := 133) (v := am_I ((nP_ T : Nat) : Int)) rfl rfl (am_fg rfl (hT1.s53.trans hV.nP.1)) ?_
  refine ax_putf (q := 136) rfl rfl rfl ?_
  refine ax_load (q := 137) rfl rfl rfl rfl rfl ?_
  refine ax_ret (r := some (am_I ((be_ (fun r => rg_ T v M r) (M :: ls) (-1, [])).1))) rfl rfl ?_
  have hf0 : fr_ [164, 167, 168, 169] σ σ1 := fr_tr (fr_tr (l := [164, 167, 168, 169]) (fr_tr (l := [164, 167, 168, 169]) (fr_sI (fr_rf _ _) (by decide)) hfl (by decide)) hfr (by decide)) (fr_tr (l := [167, 168]) (fr_sI (fr_rf _ _) (by decide)) hf1 (fun a h => h)) (by decide)
  have g := hQ (am_sI σ1 135 (am_up (σ1.1 135) 68 ((nP_ T : Nat) : Int))) (fq_s5 (fq_fr hf0 (by decide) (fun _ q => q)) (by decide)) (by rw [sI_at, am_up_same]) (fun k hk => by rw [sI_ne (by decide)]; unfold ri_; rw [← hMd, he]; exact (hl1.resolve_left hn0) k hk) (fun p hp hk => by rw [sI_ne (by decide)]; exact hE1 p hp hk)
  rw [show (ri_ T v).1 = (be_ (fun r => rg_ T v M r) (M :: ls) (-1, [])).1 by unfold ri_; rw [← hMd, he]] at g
  exact g

