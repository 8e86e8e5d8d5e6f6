theorem l_able {d : Nat} (hd : 2 ≤ d) {σ : am_S} {T : sp_T} (hT : TM_ T σ) (hV : TV_ T) {v : sp_V} (ha : σ.1 164 = v) {o : Nat} (ho : o < nO_ T) {Q : Option am_V → am_S → Prop} (hQ : Q (some (am_I ((bi_ (nP_ T) (fun p => sh_ v p && cn_ T v p o) : Nat) : Int))) σ) : ∀ (m k : Nat), k + m = nP_ T → aW d 0 k_X9_able Q 18 [some (am_R 135), some (am_I ((o : Nat) : Int)), some (am_I ((bi_ k (fun p => sh_ v p && cn_ T v p o) : Nat) : Int)), some (am_I ((k : Nat) : Int))] [] σ := by
  have hn := hV.nP
  intro m
  induction m with
  | zero =>
    intro k hk
    obtain rfl : k = nP_ T := by omega
    refine ax_load (q := 19) rfl rfl rfl rfl rfl ?_
    refine ax_load (q := 20) rfl rfl rfl rfl rfl ?_
    refine ax_getf (q := 23) (v := am_I ((nP_ T : Nat) : Int)) rfl rfl (am_fg rfl (hT.s53.trans hV.nP.1)) ?_
    refine ax_icmp_ge (q := 26) (x := 62) rfl rfl (fun h23 => ?_) (fun h => absurd h (by omega))
    refine ax_load (q := 63) rfl rfl rfl rfl rfl ?_
    refine ax_ret (r := some (am_I ((bi_ (nP_ T) (fun p => sh_ v p && cn_ T v p o) : Nat) : Int))) rfl rfl ?_
    exact hQ
  | succ m ih =>
    intro k hk
    refine ax_load (q := 19) rfl rfl rfl rfl rfl ?_
    refine ax_load (q := 20) rfl rfl rfl rfl rfl ?_
    refine ax_getf (q := 23) (v := am_I ((nP_ T : Nat) : Int)) rfl rfl (am_fg rfl (hT.s53.trans hV.nP.1)) ?_
    refine ax_icmp_ge (q := 26) (x := 62) rfl rfl (fun h => absurd h (by omega)) (fun h23 => ?_)
    refine ax_load (q := 27) rfl rfl rfl rfl rfl ?_
    refine ax_load (q := 28) rfl rfl rfl rfl rfl ?_
    refine ax_load (q := 29) rfl rfl rfl rfl rfl ?_
    refine ax_callv (q := 32) rfl rfl rfl rfl rfl rfl ?_
    refine m_isShut (by omega) ha (by omega) ?_
    refine ax_if_eq (q := 35) (x := 48) rfl rfl (fun h32 => ?_) (fun h32 => ?_)
    · have hb32 := it_0 h32
      refine ax_const (q := 49) (v := am_I 0) rfl rfl rfl ?_
      refine ax_calls (q := 52) rfl rfl rfl rfl rfl ?_
      refine m_truthz (by omega) (Or.inl rfl) ?_
      refine ax_load (q := 53) rfl rfl rfl rfl rfl ?_
      refine ax_ishl (q := 54) (z := am_shl 0 (k : Int)) rfl rfl (rfl) ?_
      refine ax_ior (q := 55) (z := ((bi_ (k + 1) (fun p => sh_ v p && cn_ T v p o) : Nat) : Int)) rfl rfl ((congrArg (fun z => am_or _ (am_shl z _)) (by simp [*] : (0 : Int) = if (fun p => sh_ v p && cn_ T v p o) k then 1 else 0)).trans (am_or_bi (fun p => sh_ v p && cn_ T v p o) (by omega))) ?_
      refine ax_store (q := 56) (L' := [some (am_R 135), some (am_I ((o : Nat) : Int)), some (am_I ((bi_ (k + 1) (fun p => sh_ v p && cn_ T v p o) : Nat) : Int)), some (am_I ((k : Nat) : Int))]) rfl rfl rfl rfl rfl rfl ?_
      refine ax_iinc (q := 59) (z' := ((k + 1 : Nat) : Int)) (L' := [some (am_R 135), some (am_I ((o : Nat) : Int)), some (am_I ((bi_ (k + 1) (fun p => sh_ v p && cn_ T v p o) : Nat) : Int)), some (am_I ((k + 1 : Nat) : Int))]) rfl rfl rfl rfl (am_we (by omega) (by omega) (by omega)) rfl ?_
      refine ax_goto (x := 18) rfl ?_
      exact ih (k + 1) (by omega)
    · have hb32 := it_n0 h32
      refine ax_load (q := 36) rfl rfl rfl rfl rfl ?_
      refine ax_load (q := 37) rfl rfl rfl rfl rfl ?_
      refine ax_load (q := 38) rfl rfl rfl rfl rfl ?_
      refine ax_callv (q := 41) rfl rfl rfl rfl rfl rfl ?_
      refine m_can (by omega) hT hV ha (by omega) ho ?_
      refine ax_if_eq (q := 44) (x := 48) rfl rfl (fun h41 => ?_) (fun h41 => ?_)
      · have hb41 := it_0 h41
        refine ax_const (q := 49) (v := am_I 0) rfl rfl rfl ?_
        refine ax_calls (q := 52) rfl rfl rfl rfl rfl ?_
        refine m_truthz (by omega) (Or.inl rfl) ?_
        refine ax_load (q := 53) rfl rfl rfl rfl rfl ?_
        refine ax_ishl (q := 54) (z := am_shl 0 (k : Int)) rfl rfl (rfl) ?_
        refine ax_ior (q := 55) (z := ((bi_ (k + 1) (fun p => sh_ v p && cn_ T v p o) : Nat) : Int)) rfl rfl ((congrArg (fun z => am_or _ (am_shl z _)) (by simp [*] : (0 : Int) = if (fun p => sh_ v p && cn_ T v p o) k then 1 else 0)).trans (am_or_bi (fun p => sh_ v p && cn_ T v p o) (by omega))) ?_
        refine ax_store (q := 56) (L' := [some (am_R 135), some (am_I ((o : Nat) : Int)), some (am_I ((bi_ (k + 1) (fun p => sh_ v p && cn_ T v p o) : Nat) : Int)), some (am_I ((k : Nat) : Int))]) rfl rfl rfl rfl rfl rfl ?_
        refine ax_iinc (q := 59) (z' := ((k + 1 : Nat) : Int)) (L' := [some (am_R 135), some (am_I ((o : Nat) : Int)), some (am_I ((bi_ (k + 1) (fun p => sh_ v p && cn_ T v p o) : Nat) : Int)), some (am_I ((k + 1 : Nat) : Int))]) rfl rfl rfl rfl (am_we (by omega) (by omega) (by omega)) rfl ?_
        refine ax_goto (x := 18) rfl ?_
        exact ih (k + 1) (by omega)
      · have hb41 := it_n0 h41
        refine ax_const (q := 45) (v := am_I 1) rfl rfl rfl ?_
        refine ax_goto (x := 49) rfl ?_
        refine ax_calls (q := 52) rfl rfl rfl rfl rfl ?_
        refine m_truthz (by omega) (Or.inr rfl) ?_
        refine ax_load (q := 53) rfl rfl rfl rfl rfl ?_
        refine ax_ishl (q := 54) (z := am_shl 1 (k : Int)) rfl rfl (rfl) ?_
        refine ax_ior (q := 55) (z := ((bi_ (k + 1) (fun p => sh_ v p && cn_ T v p o) : Nat) : Int)) rfl rfl ((congrArg (fun z => am_or _ (am_shl z _)) (by simp [*] : (1 : Int) = if (fun p => sh_ v p && cn_ T v p o) k then 1 else 0)).trans (am_or_bi (fun p => sh_ v p && cn_ T v p o) (by omega))) ?_
        refine ax_store (q := 56) (L' := [some (am_R 135), some (am_I ((o : Nat) : Int)), some (am_I ((bi_ (k + 1) (fun p => sh_ v p && cn_ T v p o) : Nat) : Int)), some (am_I ((k : Nat) : Int))]) rfl rfl rfl rfl rfl rfl ?_
        refine ax_iinc (q := 59) (z' := ((k + 1 : Nat) : Int)) (L' := [some (am_R 135), some (am_I ((o : Nat) : Int)), some (am_I ((bi_ (k + 1) (fun p => sh_ v p && cn_ T v p o) : Nat) : Int)), some (am_I ((k + 1 : Nat) : Int))]) rfl rfl rfl rfl (am_we (by omega) (by omega) (by omega)) rfl ?_
        refine ax_goto (x := 18) rfl ?_
        exact ih (k + 1) (by omega)

theorem m_able {d : Nat} (hd : 4 ≤ d) {σ : am_S} {T : sp_T} (hT : TM_ T σ) (hV : TV_ T) {b : Int} {w v : sp_V} (hw : σ.1 163 = w) (hv : v = cp_ w (σ.1 164) 50) (hW : VV_ T b w) (hb9 : b ≤ 100000) {a : Int} {Q : Option am_V → am_S → Prop} (hQ : ∀ σ', fr_ [164] σ σ' → Q (some (am_I (F_able T v a))) σ') : am_Ev d 228 [am_R 135, am_I a] σ Q := by
  obtain ⟨d, rfl⟩ : ∃ e, d = e + 1 := ⟨d - 1, by omega⟩
  have h6 := hV.nP
  have hO := hV.nO
  have hS := hV.nS
  have hR := hV.nR
  have hvw : ∀ j, j < 50 → v j = w j := fun j hj => by rw [hv]; exact cp_at hj
  have hW2 : VV_ T b v := hW.cg hV hvw
  refine ev_in (m := 228) (c := k_X9_able) (L := [some (am_R 135), some (am_I a), none, none]) rfl rfl rfl rfl rfl rfl ?_
  refine ax_load (q := 1) rfl rfl rfl rfl rfl ?_
  refine ax_load (q := 2) rfl rfl rfl rfl rfl ?_
  refine ax_callv (q := 5) rfl rfl rfl rfl rfl rfl ?_
  refine m_isOrder (by omega) hT hV ?_
  refine ax_if_ne (q := 8) (x := 10) rfl rfl (fun h5 => ?_) (fun h5 => ?_)
  · have hb5 := it_n0 h5
    obtain ⟨o, rfl, ho⟩ := inr_t hb5
    refine ax_load (q := 11) rfl rfl rfl rfl rfl ?_
    refine ax_callv (q := 14) rfl rfl rfl rfl rfl rfl ?_
    refine m_load (by omega) ?_
    rw [hw, ← hv]
    refine ax_const (q := 15) (v := am_I 0) rfl rfl rfl ?_
    refine ax_store (q := 16) (L' := [some (am_R 135), some (am_I ((o : Nat) : Int)), some (am_I 0), none]) rfl rfl rfl rfl rfl rfl ?_
    refine ax_const (q := 17) (v := am_I 0) rfl rfl rfl ?_
    refine ax_store (q := 18) (L' := [some (am_R 135), some (am_I ((o : Nat) : Int)), some (am_I 0), some (am_I 0)]) rfl rfl rfl rfl rfl rfl ?_
    have e : F_able T v (o : Int) = ((bi_ (nP_ T) (fun p => sh_ v p && cn_ T v p o) : Nat) : Int) := by unfold F_able; unfold inr_ at *; simp [*]
    exact l_able (by omega) (hT.sI (by decide)) hV (sI_at _ _ _) ho (by rw [← e]; exact hQ _ (fr_sI (fr_rf _ _) (by decide))) (nP_ T) 0 (by omega)
  · have hb5 := it_0 h5
    refine ax_const (q := 9) (v := am_I (-1)) rfl rfl rfl ?_
    refine ax_ret (r := some (am_I (-1))) rfl rfl ?_
    have e : F_able T v a = (-1) := by unfold F_able; unfold inr_ at *; simp [*]
    rw [← e]
    exact hQ _ (fr_rf _ _)

theorem l_odds {d : Nat} (hd : 6 ≤ d) {σ : am_S} {T : sp_T} (hT : TM_ T σ) (hV : TV_ T) {b : Int} {v : sp_V} (hW : VV_ T b v) (hb9 : b ≤ 100000) {p : Nat} (hp : p < nP_ T) {z : Int} (hz : z < T 135 50) {c : Int} (hzv : v (18 + p) = z) {Q : Option am_V → am_S → Prop} {N : Nat} (hN : N ≤ 100) (hQ : ∀ σ', fr_ [143, 144, 164] σ σ' → σ'.1 164 = gz_ T v p z N → aW d 0 k_X9_odds Q 53 [some (am_R 135), some (am_I ((p : Nat) : Int)), some (am_I c), some (am_I ((0 : Nat) : Int)), none, none] [] σ') : ∀ (k n : Nat) σ', fr_ [143, 144, 164] σ σ' → σ'.1 164 = gz_ T v p z n → n + k = N → aW d 0 k_X9_odds Q 29 [some (am_R 135), some (am_I ((p : Nat) : Int)), some (am_I c), some (am_I ((k : Nat) : Int)), none, none] [] σ' := by
  have h6 := hV.nP
  intro k
  induction k with
  | zero =>
    intro n σ' hf hx hn
    obtain rfl : n = N := by omega
    refine ax_load (q := 30) rfl rfl rfl rfl rfl ?_
    refine ax_if_le (q := 33) (x := 53) rfl rfl (fun h30 => ?_) (fun h => absurd h (by omega))
    exact hQ σ' hf hx
  | succ k ih =>
    intro n σ' hf hx hn
    refine ax_load (q := 30) rfl rfl rfl rfl rfl ?_
    refine ax_if_le (q := 33) (x := 53) rfl rfl (fun h => absurd h (by omega)) (fun h30 => ?_)
    refine ax_load (q := 34) rfl rfl rfl rfl rfl ?_
    refine ax_load (q := 35) rfl rfl rfl rfl rfl ?_
    refine ax_load (q := 36) rfl rfl rfl rfl rfl ?_
    refine ax_getf (q := 39) (v := am_R 164) rfl rfl (rfl) ?_
    refine ax_const (q := 41) (v := am_I 18) rfl rfl rfl ?_
    refine ax_load (q := 42) rfl rfl rfl rfl rfl ?_
    refine ax_iadd (q := 43) (z := ((18 + p : Nat) : Int)) rfl rfl (am_we (by omega) (by omega) (by omega)) ?_
    refine bx_iald (q := 44) (k := 18 + p) (z := z) rfl rfl (rfl) (by omega) (by omega) ((congrFun hx _).trans ((gz_ne hV (by omega) hz (by omega) (by omega) (by omega) n).trans hzv)) ?_
    refine ax_callv (q := 47) rfl rfl rfl rfl rfl rfl ?_
    refine m_goAlone (by omega) (hT.fr hf (by decide)) hV hx (hW.gz hV hp hz n) hp hz (by omega) (fun σ1 hf1 hx1 => ?_)
    refine ax_iinc (q := 50) (z' := ((k : Nat) : Int)) (L' := [some (am_R 135), some (am_I ((p : Nat) : Int)), some (am_I c), some (am_I ((k : Nat) : Int)), none, none]) rfl rfl rfl rfl (am_we (by omega) (by omega) (by omega)) rfl ?_
    refine ax_goto (x := 29) rfl ?_
    exact ih (n + 1) σ1 (fr_tr hf hf1 (fun a h => h)) hx1 (by omega)

theorem l_hope {d : Nat} (hd : 6 ≤ d) {σ : am_S} {T : sp_T} (hT : TM_ T σ) (hV : TV_ T) {b : Int} {v : sp_V} (hW : VV_ T b v) (hb9 : b ≤ 100000) {p : Nat} (hp : p < nP_ T) {z : Int} (hz : z < T 135 50) {c : Int} (hzv : v (18 + p) = z) {Q : Option am_V → am_S → Prop} {N : Nat} (hN : N ≤ 100) (hQ : ∀ σ', fr_ [143, 144, 164] σ σ' → σ'.1 164 = gz_ T v p z N → aW d 0 k_X9_hope Q 53 [some (am_R 135), some (am_I ((p : Nat) : Int)), some (am_I c), some (am_I ((0 : Nat) : Int)), none, none] [] σ') : ∀ (k n : Nat) σ', fr_ [143, 144, 164] σ σ' → σ'.1 164 = gz_ T v p z n → n + k = N → aW d 0 k_X9_hope Q 29 [some (am_R 135), some (am_I ((p : Nat) : Int)), some (am_I c), some (am_I ((k : Nat) : Int)), none, none] [] σ' := by
  have h6 := hV.nP
  intro k
  induction k with
  | zero =>
    intro n σ' hf hx hn
    obtain rfl : n = N := by omega
    refine ax_load (q := 30) rfl rfl rfl rfl rfl ?_
    refine ax_if_le (q := 33) (x := 53) rfl rfl (fun h30 => ?_) (fun h => absurd h (by omega))
    exact hQ σ' hf hx
  | succ k ih =>
    intro n σ' hf hx hn
    refine ax_load (q := 30) rfl rfl rfl rfl rfl ?_
    refine ax_if_le (q := 33) (x := 53) rfl rfl (fun h => absurd h (by omega)) (fun h30 => ?_)
    refine ax_load (q := 34) rfl rfl rfl rfl rfl ?_
    refine ax_load (q := 35) rfl rfl rfl rfl rfl ?_
    refine ax_load (q := 36) rfl rfl rfl rfl rfl ?_
    refine ax_getf (q := 39) (v := am_R 164) rfl rfl (rfl) ?_
    refine ax_const (q := 41) (v := am_I 18) rfl rfl rfl ?_
    refine ax_load (q := 42) rfl rfl rfl rfl rfl ?_
    refine ax_iadd (q := 43) (z := ((18 + p : Nat) : Int)) rfl rfl (am_we (by omega) (by omega) (by omega)) ?_
    refine bx_iald (q := 44) (k := 18 + p) (z := z) rfl rfl (rfl) (by omega) (by omega) ((congrFun hx _).trans ((gz_ne hV (by omega) hz (by omega) (by omega) (by omega) n).trans hzv)) ?_
    refine ax_callv (q := 47) rfl rfl rfl rfl rfl rfl ?_
    refine m_goAlone (by omega) (hT.fr hf (by decide)) hV hx (hW.gz hV hp hz n) hp hz (by omega) (fun σ1 hf1 hx1 => ?_)
    refine ax_iinc (q := 50) (z' := ((k : Nat) : Int)) (L' := [some (am_R 135), some (am_I ((p : Nat) : Int)), some (am_I c), some (am_I ((k : Nat) : Int)), none, none]) rfl rfl rfl rfl (am_we (by omega) (by omega) (by omega)) rfl ?_
    refine ax_goto (x := 29) rfl ?_
    exact ih (n + 1) σ1 (fr_tr hf hf1 (fun a h => h)) hx1 (by omega)

theorem l_common {d : Nat} {σ : am_S} {a0 b0 : Nat} {r : Option am_V} : ∀ (m : Nat) (x y : Nat) (o4 : Option am_V) {Q : Option am_V → am_S → Prop}, y ≤ m → x < 100000 → y < 100000 → (hQ : Q (some (am_I ((Nat.gcd x y : Nat) : Int))) σ) → aW d 0 k_X9_common Q 4 [some (am_I ((a0 : Nat) : Int)), some (am_I ((b0 : Nat) : Int)), some (am_I ((x : Nat) : Int)), some (am_I ((y : Nat) : Int)), o4] [] σ := by
  intro m
  induction m with
  | zero =>
    intro x y o4 Q hy hx hy2 hQ
    obtain rfl : y = 0 := by omega
    refine ax_load (q := 5) rfl rfl rfl rfl rfl ?_
    refine ax_if_le (q := 8) (x := 21) rfl rfl (fun h5 => ?_) (fun h => absurd h (by omega))
    refine ax_load (q := 22) rfl rfl rfl rfl rfl ?_
    refine ax_ret (r := some (am_I ((x : Nat) : Int))) rfl rfl ?_
    rw [Nat.gcd_zero_right] at hQ
    exact hQ
  | succ m ih =>
    intro x y o4 Q hy hx hy2 hQ
    by_cases h0 : y = 0
    · subst h0
      refine ax_load (q := 5) rfl rfl rfl rfl rfl ?_
      refine ax_if_le (q := 8) (x := 21) rfl rfl (fun h5 => ?_) (fun h => absurd h (by omega))
      refine ax_load (q := 22) rfl rfl rfl rfl rfl ?_
      refine ax_ret (r := some (am_I ((x : Nat) : Int))) rfl rfl ?_
      rw [Nat.gcd_zero_right] at hQ
      exact hQ
    · refine ax_load (q := 5) rfl rfl rfl rfl rfl ?_
      refine ax_if_le (q := 8) (x := 21) rfl rfl (fun h => absurd h (by omega)) (fun h5 => ?_)
      refine ax_load (q := 9) rfl rfl rfl rfl rfl ?_
      refine ax_load (q := 10) rfl rfl rfl rfl rfl ?_
      refine ax_irem (q := 11) (z := ((x % y : Nat) : Int)) rfl rfl (by omega) (am_rem_nat (by omega) (by omega) (by omega)) ?_
      refine ax_store (q := 13) (L' := [some (am_I ((a0 : Nat) : Int)), some (am_I ((b0 : Nat) : Int)), some (am_I ((x : Nat) : Int)), some (am_I ((y : Nat) : Int)), some (am_I ((x % y : Nat) : Int))]) rfl rfl rfl rfl rfl rfl ?_
      refine ax_load (q := 14) rfl rfl rfl rfl rfl ?_
      refine ax_store (q := 15) (L' := [some (am_I ((a0 : Nat) : Int)), some (am_I ((b0 : Nat) : Int)), some (am_I ((y : Nat) : Int)), some (am_I ((y : Nat) : Int)), some (am_I ((x % y : Nat) : Int))]) rfl rfl rfl rfl rfl rfl ?_
      refine ax_load (q := 17) rfl rfl rfl rfl rfl ?_
      refine ax_store (q := 18) (L' := [some (am_I ((a0 : Nat) : Int)), some (am_I ((b0 : Nat) : Int)), some (am_I ((y : Nat) : Int)), some (am_I ((x % y : Nat) : Int)), some (am_I ((x % y : Nat) : Int))]) rfl rfl rfl rfl rfl rfl ?_
      refine ax_goto (x := 4) rfl ?_
      have hl : x % y < y := Nat.mod_lt _ (by omega)
      refine ih y (x % y) _ (by omega) (by omega) (by omega) ?_
      rw [Nat.gcd_comm, ← Nat.gcd_rec, Nat.gcd_comm] 
      exact hQ

theorem m_common {d : Nat} (hd : 1 ≤ d) {σ : am_S} {x y : Nat} (hx : x < 100000) (hy : y < 100000) {Q : Option am_V → am_S → Prop} (hQ : Q (some (am_I ((Nat.gcd x y : Nat) : Int))) σ) : am_Ev d 224 [am_I ((x : Nat) : Int), am_I ((y : Nat) : Int)] σ Q := by
  obtain ⟨d, rfl⟩ : ∃ e, d = e + 1 := ⟨d - 1, by omega⟩
  refine ev_in (m := 224) (c := k_X9_common) (L := [some (am_I ((x : Nat) : Int)), some (am_I ((y : Nat) : Int)), none, none, none]) rfl rfl rfl rfl rfl rfl ?_
  refine ax_load (q := 1) rfl rfl rfl rfl rfl ?_
  refine ax_store (q := 2) (L' := [some (am_I ((x : Nat) : Int)), some (am_I ((y : Nat) : Int)), some (am_I ((x : Nat) : Int)), none, none]) rfl rfl rfl rfl rfl rfl ?_
  refine ax_load (q := 3) rfl rfl rfl rfl rfl ?_
  refine ax_store (q := 4) (L' := [some (am_I ((x : Nat) : Int)), some (am_I ((y : Nat) : Int)), some (am_I ((x : Nat) : Int)), some (am_I ((y : Nat) : Int)), none]) rfl rfl rfl rfl rfl rfl ?_
  exact l_common (r := none) y x y none (Nat.le_refl _) hx hy hQ

theorem m_odds {d : Nat} (hd : 7 ≤ d) {σ : am_S} {T : sp_T} (hT : TM_ T σ) (hV : TV_ T) {b : Int} {w v : sp_V} (hw : σ.1 163 = w) (hv : v = cp_ w (σ.1 164) 50) (hW : VV_ T b w) (hb9 : b ≤ 100000) {a k : Int} {Q : Option am_V → am_S → Prop} (hQ : ∀ σ', fr_ [143, 144, 164] σ σ' → Q (some (am_I (F_odds T v a k))) σ') : am_Ev d 225 [am_R 135, am_I a, am_I k] σ Q := by
  obtain ⟨d, rfl⟩ : ∃ e, d = e + 1 := ⟨d - 1, by omega⟩
  have h6 := hV.nP
  have hO := hV.nO
  have hS := hV.nS
  have hR := hV.nR
  have hvw : ∀ j, j < 50 → v j = w j := fun j hj => by rw [hv]; exact cp_at hj
  have hW2 : VV_ T b v := hW.cg hV hvw
  refine ev_in (m := 225) (c := k_X9_odds) (L := [some (am_R 135), some (am_I a), some (am_I k), none, none, none]) rfl rfl rfl rfl rfl rfl ?_
  refine ax_load (q := 1) rfl rfl rfl rfl rfl ?_
  refine ax_load (q := 2) rfl rfl rfl rfl rfl ?_
  refine ax_callv (q := 5) rfl rfl rfl rfl rfl rfl ?_
  refine m_isShutNow (by omega) hT hV hw ?_
  rw [← sn_cg hV hvw]
  refine ax_if_eq (q := 8) (x := 17) rfl rfl (fun h5 => ?_) (fun h5 => ?_)
  · have hb5 := it_0 h5
    refine ax_const (q := 18) (v := am_I (-1)) rfl rfl rfl ?_
    refine ax_ret (r := some (am_I (-1))) rfl rfl ?_
    have e : F_odds T v a k = -1 := by unfold F_odds; first | (rw [hb5, Bool.false_and]; rfl) | (rw [hb14, Bool.and_false]; rfl)
    rw [← e]
    exact hQ _ (fr_rf _ _)
  · have hb5 := it_n0 h5
    obtain ⟨p, rfl, hp, hsp⟩ := sn_t hb5
    refine ax_load (q := 9) rfl rfl rfl rfl rfl ?_
    refine ax_const (q := 10) (v := am_I 0) rfl rfl rfl ?_
    refine ax_const (q := 11) (v := am_I 1) rfl rfl rfl ?_
    refine ax_calls (q := 14) rfl rfl rfl rfl rfl ?_
    refine m_isIn (by omega) ?_
    refine ax_if_ne (q := 17) (x := 19) rfl rfl (fun h14 => ?_) (fun h14 => ?_)
    · have hb14 := it_n0 h14
      refine ax_load (q := 20) rfl rfl rfl rfl rfl ?_
      refine ax_callv (q := 23) rfl rfl rfl rfl rfl rfl ?_
      refine m_load (by omega) ?_
      rw [hw, ← hv]
      refine ax_load (q := 24) rfl rfl rfl rfl rfl ?_
      refine ax_load (q := 25) rfl rfl rfl rfl rfl ?_
      refine ax_callv (q := 28) rfl rfl rfl rfl rfl rfl ?_
      refine m_yearsLeft (by omega) (hT.sI (by decide)) hV (w := w) ((sI_ne (by decide)).trans hw) (by omega) (by have := (hW.2.2 p hp).1; omega) ?_
      refine ax_store (q := 29) (L' := [some (am_R 135), some (am_I ((p : Nat) : Int)), some (am_I k), some (am_I ((yf_ T w p : Nat) : Int)), none, none]) rfl rfl rfl rfl rfl rfl ?_
      have hz : v (18 + p) < T 135 50 := (hW2.2.2 p hp).2.2.2.1.2
      have hyv := yf_bd hV hW2 hp
      have hyw : yf_ T w p = yf_ T v p := yf_cg (hvw p (by omega)).symm
      rw [hyw]
      obtain ⟨u, hu⟩ : ∃ u, u = gz_ T v p (v (18 + p)) (yf_ T v p) := ⟨_, rfl⟩
      refine l_odds (by omega) (hT.sI (by decide)) hV hW2 hb9 hp hz (c := k) rfl (N := yf_ T v p) (by omega) (fun σ1 hf1 hx1 => ?_) (yf_ T v p) 0 _ (fr_rf _ _) (sI_at _ _ _) (by omega)
      have hT1 : TM_ T σ1 := TM_.fr (hT.sI (by decide)) hf1 (by decide)
      rw [← hu] at hx1
      have hWu : VV_ T (b + (yf_ T v p : Nat)) u := by rw [hu]; exact hW2.gz hV hp hz _
      refine ax_load (q := 54) rfl rfl rfl rfl rfl ?_
      refine ax_load (q := 55) rfl rfl rfl rfl rfl ?_
      refine ax_callv (q := 58) rfl rfl rfl rfl rfl rfl ?_
      refine m_partsAll (by omega) hT1 hV hx1 hp ?_
      have hpl := pl_bd hV hp (v := u)
      obtain ⟨x, hxe⟩ : ∃ x : Nat, pl_ T u p = (x : Int) := ⟨(pl_ T u p).toNat, by omega⟩
      rw [hxe]
      refine ax_store (q := 59) (L' := [some (am_R 135), some (am_I ((p : Nat) : Int)), some (am_I k), some (am_I ((x : Nat) : Int)), none, none]) rfl rfl rfl rfl rfl rfl ?_
      refine ax_load (q := 60) rfl rfl rfl rfl rfl ?_
      refine ax_load (q := 61) rfl rfl rfl rfl rfl ?_
      refine ax_callv (q := 64) rfl rfl rfl rfl rfl rfl ?_
      refine m_partsOf (by omega) hT1 hV hx1 hWu hp ?_
      have hpo := po_bd hV hp (v := u)
      obtain ⟨y, hye⟩ : ∃ y : Nat, po_ T u p = (y : Int) := ⟨(po_ T u p).toNat, by omega⟩
      rw [hye]
      refine ax_store (q := 66) (L' := [some (am_R 135), some (am_I ((p : Nat) : Int)), some (am_I k), some (am_I ((x : Nat) : Int)), some (am_I ((y : Nat) : Int)), none]) rfl rfl rfl rfl rfl rfl ?_
      refine ax_load (q := 67) rfl rfl rfl rfl rfl ?_
      refine ax_load (q := 69) rfl rfl rfl rfl rfl ?_
      refine ax_calls (q := 72) rfl rfl rfl rfl rfl ?_
      refine m_common (by omega) (by omega) (by omega) ?_
      have hg0 : 0 < Nat.gcd x y := Nat.gcd_pos_of_pos_left _ (by omega)
      have hg1 : Nat.gcd x y ≤ x := Nat.gcd_le_left _ (by omega)
      refine ax_store (q := 74) (L' := [some (am_R 135), some (am_I ((p : Nat) : Int)), some (am_I k), some (am_I ((x : Nat) : Int)), some (am_I ((y : Nat) : Int)), some (am_I ((Nat.gcd x y : Nat) : Int))]) rfl rfl rfl rfl rfl rfl ?_
      refine ax_load (q := 75) rfl rfl rfl rfl rfl ?_
      refine ax_if_ne (q := 78) (x := 86) rfl rfl (fun h75 => ?_) (fun h75 => ?_)
      · refine ax_load (q := 87) rfl rfl rfl rfl rfl ?_
        refine ax_load (q := 89) rfl rfl rfl rfl rfl ?_
        refine ax_idiv (q := 90) (z := ((x / Nat.gcd x y : Nat) : Int)) rfl rfl (by omega) (am_div_nat (by omega) (by omega) (by omega)) ?_
        refine ax_ret (r := some (am_I ((x / Nat.gcd x y : Nat) : Int))) rfl rfl ?_
        have e : F_odds T v (p : Int) k = ((x / Nat.gcd x y : Nat) : Int) := by rw [F_odds_u hb5 (by simpa using hb14) hu, hxe, hye]; unfold gcd_; simp [*]
        rw [← e]
        exact hQ _ (fr_tr (l := [143, 144, 164]) (fr_sI (fr_rf _ _) (by decide)) hf1 (fun a h => h))
      · refine ax_load (q := 80) rfl rfl rfl rfl rfl ?_
        refine ax_load (q := 82) rfl rfl rfl rfl rfl ?_
        refine ax_idiv (q := 83) (z := ((y / Nat.gcd x y : Nat) : Int)) rfl rfl (by omega) (am_div_nat (by omega) (by omega) (by omega)) ?_
        refine ax_goto (x := 90) rfl ?_
        refine ax_ret (r := some (am_I ((y / Nat.gcd x y : Nat) : Int))) rfl rfl ?_
        have e : F_odds T v (p : Int) k = ((y / Nat.gcd x y : Nat) : Int) := by rw [F_odds_u hb5 (by simpa using hb14) hu, hxe, hye]; unfold gcd_; simp [*]
        rw [← e]
        exact hQ _ (fr_tr (l := [143, 144, 164]) (fr_sI (fr_rf _ _) (by decide)) hf1 (fun a h => h))
    · have hb14 := it_0 h14
      refine ax_const (q := 18) (v := am_I (-1)) rfl rfl rfl ?_
      refine ax_ret (r := some (am_I (-1))) rfl rfl ?_
      have e : F_odds T v ((p : Nat) : Int) k = -1 := by unfold F_odds; first | (rw [hb5, Bool.false_and]; rfl) | (rw [hb14, Bool.and_false]; rfl)
      rw [← e]
      exact hQ _ (fr_rf _ _)

theorem m_hope {d : Nat} (hd : 7 ≤ d) {σ : am_S} {T : sp_T} (hT : TM_ T σ) (hV : TV_ T) {b : Int} {w v : sp_V} (hw : σ.1 163 = w) (hv : v = cp_ w (σ.1 164) 50) (hW : VV_ T b w) (hb9 : b ≤ 100000) {a k : Int} {Q : Option am_V → am_S → Prop} (hQ : ∀ σ', fr_ [143, 144, 164] σ σ' → Q (some (am_I (F_hope T v a k))) σ') : am_Ev d 227 [am_R 135, am_I a, am_I k] σ Q := by
  obtain ⟨d, rfl⟩ : ∃ e, d = e + 1 := ⟨d - 1, by omega⟩
  have h6 := hV.nP
  have hO := hV.nO
  have hS := hV.nS
  have hR := hV.nR
  have hvw : ∀ j, j < 50 → v j = w j := fun j hj => by rw [hv]; exact cp_at hj
  have hW2 : VV_ T b v := hW.cg hV hvw
  refine ev_in (m := 227) (c := k_X9_hope) (L := [some (am_R 135), some (am_I a), some (am_I k), none, none, none]) rfl rfl rfl rfl rfl rfl ?_
  refine ax_load (q := 1) rfl rfl rfl rfl rfl ?_
  refine ax_load (q := 2) rfl rfl rfl rfl rfl ?_
  refine ax_callv (q := 5) rfl rfl rfl rfl rfl rfl ?_
  refine m_isShutNow (by omega) hT hV hw ?_
  rw [← sn_cg hV hvw]
  refine ax_if_eq (q := 8) (x := 17) rfl rfl (fun h5 => ?_) (fun h5 => ?_)
  · have hb5 := it_0 h5
    refine ax_const (q := 18) (v := am_I (-1)) rfl rfl rfl ?_
    refine ax_ret (r := some (am_I (-1))) rfl rfl ?_
    have e : F_hope T v a k = -1 := by unfold F_hope; first | (rw [hb5, Bool.false_and]; rfl) | (rw [hb14, Bool.and_false]; rfl)
    rw [← e]
    exact hQ _ (fr_rf _ _)
  · have hb5 := it_n0 h5
    obtain ⟨p, rfl, hp, hsp⟩ := sn_t hb5
    refine ax_load (q := 9) rfl rfl rfl rfl rfl ?_
    refine ax_const (q := 10) (v := am_I 0) rfl rfl rfl ?_
    refine ax_const (q := 11) (v := am_I 1) rfl rfl rfl ?_
    refine ax_calls (q := 14) rfl rfl rfl rfl rfl ?_
    refine m_isIn (by omega) ?_
    refine ax_if_ne (q := 17) (x := 19) rfl rfl (fun h14 => ?_) (fun h14 => ?_)
    · have hb14 := it_n0 h14
      refine ax_load (q := 20) rfl rfl rfl rfl rfl ?_
      refine ax_callv (q := 23) rfl rfl rfl rfl rfl rfl ?_
      refine m_load (by omega) ?_
      rw [hw, ← hv]
      refine ax_load (q := 24) rfl rfl rfl rfl rfl ?_
      refine ax_load (q := 25) rfl rfl rfl rfl rfl ?_
      refine ax_callv (q := 28) rfl rfl rfl rfl rfl rfl ?_
      refine m_yearsLeft (by omega) (hT.sI (by decide)) hV (w := w) ((sI_ne (by decide)).trans hw) (by omega) (by have := (hW.2.2 p hp).1; omega) ?_
      refine ax_store (q := 29) (L' := [some (am_R 135), some (am_I ((p : Nat) : Int)), some (am_I k), some (am_I ((yf_ T w p : Nat) : Int)), none, none]) rfl rfl rfl rfl rfl rfl ?_
      have hz : v (18 + p) < T 135 50 := (hW2.2.2 p hp).2.2.2.1.2
      have hyv := yf_bd hV hW2 hp
      have hyw : yf_ T w p = yf_ T v p := yf_cg (hvw p (by omega)).symm
      rw [hyw]
      obtain ⟨u, hu⟩ : ∃ u, u = gz_ T v p (v (18 + p)) (yf_ T v p) := ⟨_, rfl⟩
      refine l_hope (by omega) (hT.sI (by decide)) hV hW2 hb9 hp hz (c := k) rfl (N := yf_ T v p) (by omega) (fun σ1 hf1 hx1 => ?_) (yf_ T v p) 0 _ (fr_rf _ _) (sI_at _ _ _) (by omega)
      have hT1 : TM_ T σ1 := TM_.fr (hT.sI (by decide)) hf1 (by decide)
      rw [← hu] at hx1
      have hWu : VV_ T (b + (yf_ T v p : Nat)) u := by rw [hu]; exact hW2.gz hV hp hz _
      refine ax_load (q := 54) rfl rfl rfl rfl rfl ?_
      refine ax_load (q := 55) rfl rfl rfl rfl rfl ?_
      refine ax_callv (q := 58) rfl rfl rfl rfl rfl rfl ?_
      refine m_partsAll (by omega) hT1 hV hx1 hp ?_
      have hpl := pl_bd hV hp (v := u)
      obtain ⟨x, hxe⟩ : ∃ x : Nat, pl_ T u p = (x : Int) := ⟨(pl_ T u p).toNat, by omega⟩
      rw [hxe]
      refine ax_store (q := 59) (L' := [some (am_R 135), some (am_I ((p : Nat) : Int)), some (am_I k), some (am_I ((x : Nat) : Int)), none, none]) rfl rfl rfl rfl rfl rfl ?_
      refine ax_load (q := 60) rfl rfl rfl rfl rfl ?_
      refine ax_load (q := 61) rfl rfl rfl rfl rfl ?_
      refine ax_callv (q := 64) rfl rfl rfl rfl rfl rfl ?_
      refine m_worthsOf (by omega) hT1 hV hx1 hWu hp ?_
      have hpo := wo_bd hV hWu hp (v := u)
      obtain ⟨y, hye⟩ : ∃ y : Nat, wo_ T u p = (y : Int) := ⟨(wo_ T u p).toNat, by omega⟩
      rw [hye]
      refine ax_store (q := 66) (L' := [some (am_R 135), some (am_I ((p : Nat) : Int)), some (am_I k), some (am_I ((x : Nat) : Int)), some (am_I ((y : Nat) : Int)), none]) rfl rfl rfl rfl rfl rfl ?_
      refine ax_load (q := 67) rfl rfl rfl rfl rfl ?_
      refine ax_load (q := 69) rfl rfl rfl rfl rfl ?_
      refine ax_calls (q := 72) rfl rfl rfl rfl rfl ?_
      refine m_common (by omega) (by omega) (by omega) ?_
      have hg0 : 0 < Nat.gcd x y := Nat.gcd_pos_of_pos_left _ (by omega)
      have hg1 : Nat.gcd x y ≤ x := Nat.gcd_le_left _ (by omega)
      refine ax_store (q := 74) (L' := [some (am_R 135), some (am_I ((p : Nat) : Int)), some (am_I k), some (am_I ((x : Nat) : Int)), some (am_I ((y : Nat) : Int)), some (am_I ((Nat.gcd x y : Nat) : Int))]) rfl rfl rfl rfl rfl rfl ?_
      refine ax_load (q := 75) rfl rfl rfl rfl rfl ?_
      refine ax_if_ne (q := 78) (x := 86) rfl rfl (fun h75 => ?_) (fun h75 => ?_)
      · refine ax_load (q := 87) rfl rfl rfl rfl rfl ?_
        refine ax_load (q := 89) rfl rfl rfl rfl rfl ?_
        refine ax_idiv (q := 90) (z := ((x / Nat.gcd x y : Nat) : Int)) rfl rfl (by omega) (am_div_nat (by omega) (by omega) (by omega)) ?_
        refine ax_ret (r := some (am_I ((x / Nat.gcd x y : Nat) : Int))) rfl rfl ?_
        have e : F_hope T v (p : Int) k = ((x / Nat.gcd x y : Nat) : Int) := by rw [F_hope_u hb5 (by simpa using hb14) hu, hxe, hye]; unfold gcd_; simp [*]
        rw [← e]
        exact hQ _ (fr_tr (l := [143, 144, 164]) (fr_sI (fr_rf _ _) (by decide)) hf1 (fun a h => h))
      · refine ax_load (q := 80) rfl rfl rfl rfl rfl ?_
        refine ax_load (q := 82) rfl rfl rfl rfl rfl ?_
        refine ax_idiv (q := 83) (z := ((y / Nat.gcd x y : Nat) : Int)) rfl rfl (by omega) (am_div_nat (by omega) (by omega) (by omega)) ?_
        refine ax_goto (x := 90) rfl ?_
        refine ax_ret (r := some (am_I ((y / Nat.gcd x y : Nat) : Int))) rfl rfl ?_
        have e : F_hope T v (p : Int) k = ((y / Nat.gcd x y : Nat) : Int) := by rw [F_hope_u hb5 (by simpa using hb14) hu, hxe, hye]; unfold gcd_; simp [*]
        rw [← e]
        exact hQ _ (fr_tr (l := [143, 144, 164]) (fr_sI (fr_rf _ _) (by decide)) hf1 (fun a h => h))
    · have hb14 := it_0 h14
      refine ax_const (q := 18) (v := am_I (-1)) rfl rfl rfl ?_
      refine ax_ret (r := some (am_I (-1))) rfl rfl ?_
      have e : F_hope T v ((p : Nat) : Int) k = -1 := by unfold F_hope; first | (rw [hb5, Bool.false_and]; rfl) | (rw [hb14, Bool.and_false]; rfl)
      rw [← e]
      exact hQ _ (fr_rf _ _)

