theorem l_mostLeft {d : Nat} (hd : 1 ≤ d) {σ : am_S} {T : sp_T} (hT : TM_ T σ) (hV : TV_ T) {s : Nat} (hs : s < 2 ^ 30) {z : Int} {v : Nat} {Q : Option am_V → am_S → Prop} (hQ : aW d 0 k_X9_mostLeft Q 68 [some (am_R 135), some (am_I ((s : Nat) : Int)), some (am_I z), some (am_I ((ml_ T s z v : Nat) : Int)), some (am_I ((v : Nat) : Int)), some (am_I ((ct_ ((nO_ T)) (fun o => s.testBit o && decide (mk_ T o z = (v : Int))) : Nat) : Int)), some (am_I (((nO_ T) : Nat) : Int))] [] σ) : ∀ (m k : Nat), k + m = nO_ T → aW d 0 k_X9_mostLeft Q 18 [some (am_R 135), some (am_I ((s : Nat) : Int)), some (am_I z), some (am_I ((ml_ T s z v : Nat) : Int)), some (am_I ((v : Nat) : Int)), some (am_I ((ct_ k (fun o => s.testBit o && decide (mk_ T o z = (v : Int))) : Nat) : Int)), some (am_I ((k : Nat) : Int))] [] σ := by
  have hn := hV.nO
  intro m
  induction m with
  | zero =>
    intro k hk
    obtain rfl : k = nO_ T := by omega
    refine ax_load (q := 20) rfl rfl rfl rfl rfl ?_
    refine ax_load (q := 21) rfl rfl rfl rfl rfl ?_
    refine ax_getf (q := 24) (v := am_I ((nO_ T : Nat) : Int)) rfl rfl (am_fg rfl (hT.s51.trans hV.nO.1)) ?_
    refine ax_icmp_ge (q := 27) (x := 68) rfl rfl (fun h24 => ?_) (fun h => absurd h (by omega))
    exact hQ
  | succ m ih =>
    intro k hk
    have hc := ct_le (fun o => s.testBit o && decide (mk_ T o z = (v : Int))) k
    refine ax_load (q := 20) rfl rfl rfl rfl rfl ?_
    refine ax_load (q := 21) rfl rfl rfl rfl rfl ?_
    refine ax_getf (q := 24) (v := am_I ((nO_ T : Nat) : Int)) rfl rfl (am_fg rfl (hT.s51.trans hV.nO.1)) ?_
    refine ax_icmp_ge (q := 27) (x := 68) rfl rfl (fun h => absurd h (by omega)) (fun h24 => ?_)
    refine ax_load (q := 29) rfl rfl rfl rfl rfl ?_
    refine ax_load (q := 30) rfl rfl rfl rfl rfl ?_
    refine ax_load (q := 32) rfl rfl rfl rfl rfl ?_
    refine ax_ishr (q := 33) (z := am_shr (s : Int) (k : Int)) rfl rfl (rfl) ?_
    refine ax_const (q := 34) (v := am_I 1) rfl rfl rfl ?_
    refine ax_iand (q := 35) (z := if s.testBit k then 1 else 0) rfl rfl (am_bit (by omega) (by omega)) ?_
    refine ax_const (q := 36) (v := am_I 1) rfl rfl rfl ?_
    refine ax_icmp_ne (q := 39) (x := 55) rfl rfl (fun h36 => ?_) (fun h36 => ?_)
    · have hb36 := it_n1 h36
      refine ax_const (q := 56) (v := am_I 0) rfl rfl rfl ?_
      refine ax_calls (q := 59) rfl rfl rfl rfl rfl ?_
      refine m_truthz (by omega) (Or.inl rfl) ?_
      refine ax_iadd (q := 60) (z := (((ct_ k (fun o => s.testBit o && decide (mk_ T o z = (v : Int)))) + 0 : Nat) : Int)) rfl rfl (am_we (by omega) (by omega) (by omega)) ?_
      refine ax_store (q := 62) (L' := [some (am_R 135), some (am_I ((s : Nat) : Int)), some (am_I z), some (am_I ((ml_ T s z v : Nat) : Int)), some (am_I ((v : Nat) : Int)), some (am_I (((ct_ k (fun o => s.testBit o && decide (mk_ T o z = (v : Int)))) + 0 : Nat) : Int)), some (am_I ((k : Nat) : Int))]) rfl rfl rfl rfl rfl rfl ?_
      refine ax_iinc (q := 65) (z' := ((k + 1 : Nat) : Int)) (L' := [some (am_R 135), some (am_I ((s : Nat) : Int)), some (am_I z), some (am_I ((ml_ T s z v : Nat) : Int)), some (am_I ((v : Nat) : Int)), some (am_I (((ct_ k (fun o => s.testBit o && decide (mk_ T o z = (v : Int)))) + 0 : Nat) : Int)), some (am_I ((k + 1 : Nat) : Int))]) rfl rfl rfl rfl (am_we (by omega) (by omega) (by omega)) rfl ?_
      refine ax_goto (x := 18) rfl ?_
      have e : ct_ (k + 1) (fun o => s.testBit o && decide (mk_ T o z = (v : Int))) = ct_ k (fun o => s.testBit o && decide (mk_ T o z = (v : Int))) + 0 := by
        show ct_ k _ + (if (s.testBit k && decide (mk_ T k z = (v : Int))) = true then 1 else 0) = _
        first | (rw [hb36, Bool.false_and]; rfl) | (rw [decide_eq_false h48, Bool.and_false]; rfl)
      have g := ih (k + 1) (by omega)
      rw [e] at g
      exact g
    · have hb36 := it_1 h36
      refine ax_load (q := 40) rfl rfl rfl rfl rfl ?_
      refine ax_load (q := 42) rfl rfl rfl rfl rfl ?_
      refine ax_load (q := 43) rfl rfl rfl rfl rfl ?_
      refine ax_callv (q := 46) rfl rfl rfl rfl rfl rfl ?_
      refine m_markOf (by omega) hT hV (by omega) ?_
      refine ax_load (q := 48) rfl rfl rfl rfl rfl ?_
      refine ax_icmp_ne (q := 51) (x := 55) rfl rfl (fun h48 => ?_) (fun h48 => ?_)
      · refine ax_const (q := 56) (v := am_I 0) rfl rfl rfl ?_
        refine ax_calls (q := 59) rfl rfl rfl rfl rfl ?_
        refine m_truthz (by omega) (Or.inl rfl) ?_
        refine ax_iadd (q := 60) (z := (((ct_ k (fun o => s.testBit o && decide (mk_ T o z = (v : Int)))) + 0 : Nat) : Int)) rfl rfl (am_we (by omega) (by omega) (by omega)) ?_
        refine ax_store (q := 62) (L' := [some (am_R 135), some (am_I ((s : Nat) : Int)), some (am_I z), some (am_I ((ml_ T s z v : Nat) : Int)), some (am_I ((v : Nat) : Int)), some (am_I (((ct_ k (fun o => s.testBit o && decide (mk_ T o z = (v : Int)))) + 0 : Nat) : Int)), some (am_I ((k : Nat) : Int))]) rfl rfl rfl rfl rfl rfl ?_
        refine ax_iinc (q := 65) (z' := ((k + 1 : Nat) : Int)) (L' := [some (am_R 135), some (am_I ((s : Nat) : Int)), some (am_I z), some (am_I ((ml_ T s z v : Nat) : Int)), some (am_I ((v : Nat) : Int)), some (am_I (((ct_ k (fun o => s.testBit o && decide (mk_ T o z = (v : Int)))) + 0 : Nat) : Int)), some (am_I ((k + 1 : Nat) : Int))]) rfl rfl rfl rfl (am_we (by omega) (by omega) (by omega)) rfl ?_
        refine ax_goto (x := 18) rfl ?_
        have e : ct_ (k + 1) (fun o => s.testBit o && decide (mk_ T o z = (v : Int))) = ct_ k (fun o => s.testBit o && decide (mk_ T o z = (v : Int))) + 0 := by
          show ct_ k _ + (if (s.testBit k && decide (mk_ T k z = (v : Int))) = true then 1 else 0) = _
          first | (rw [hb36, Bool.false_and]; rfl) | (rw [decide_eq_false h48, Bool.and_false]; rfl)
        have g := ih (k + 1) (by omega)
        rw [e] at g
        exact g
      · refine ax_const (q := 52) (v := am_I 1) rfl rfl rfl ?_
        refine ax_goto (x := 56) rfl ?_
        refine ax_calls (q := 59) rfl rfl rfl rfl rfl ?_
        refine m_truthz (by omega) (Or.inr rfl) ?_
        refine ax_iadd (q := 60) (z := (((ct_ k (fun o => s.testBit o && decide (mk_ T o z = (v : Int)))) + 1 : Nat) : Int)) rfl rfl (am_we (by omega) (by omega) (by omega)) ?_
        refine ax_store (q := 62) (L' := [some (am_R 135), some (am_I ((s : Nat) : Int)), some (am_I z), some (am_I ((ml_ T s z v : Nat) : Int)), some (am_I ((v : Nat) : Int)), some (am_I (((ct_ k (fun o => s.testBit o && decide (mk_ T o z = (v : Int)))) + 1 : Nat) : Int)), some (am_I ((k : Nat) : Int))]) rfl rfl rfl rfl rfl rfl ?_
        refine ax_iinc (q := 65) (z' := ((k + 1 : Nat) : Int)) (L' := [some (am_R 135), some (am_I ((s : Nat) : Int)), some (am_I z), some (am_I ((ml_ T s z v : Nat) : Int)), some (am_I ((v : Nat) : Int)), some (am_I (((ct_ k (fun o => s.testBit o && decide (mk_ T o z = (v : Int)))) + 1 : Nat) : Int)), some (am_I ((k + 1 : Nat) : Int))]) rfl rfl rfl rfl (am_we (by omega) (by omega) (by omega)) rfl ?_
        refine ax_goto (x := 18) rfl ?_
        have e : ct_ (k + 1) (fun o => s.testBit o && decide (mk_ T o z = (v : Int))) = ct_ k (fun o => s.testBit o && decide (mk_ T o z = (v : Int))) + 1 := by
          show ct_ k _ + (if (s.testBit k && decide (mk_ T k z = (v : Int))) = true then 1 else 0) = _
          rw [hb36, decide_eq_true h48]
          rfl
        have g := ih (k + 1) (by omega)
        rw [e] at g
        exact g

theorem l_mostLeft2 {d : Nat} (hd : 1 ≤ d) {σ : am_S} {T : sp_T} (hT : TM_ T σ) (hV : TV_ T) {s : Nat} (hs : s < 2 ^ 30) {z : Int} {Q : Option am_V → am_S → Prop} (hQ : Q (some (am_I ((ml_ T s z 10 : Nat) : Int))) σ) : ∀ (m v : Nat) (o5 o6 : Option am_V), v + m = 10 → aW d 0 k_X9_mostLeft Q 5 [some (am_R 135), some (am_I ((s : Nat) : Int)), some (am_I z), some (am_I ((ml_ T s z v : Nat) : Int)), some (am_I ((v : Nat) : Int)), o5, o6] [] σ := by
  have hn := hV.nO
  intro m
  induction m with
  | zero =>
    intro v o5 o6 hk
    obtain rfl : v = 10 := by omega
    refine ax_load (q := 7) rfl rfl rfl rfl rfl ?_
    refine ax_const (q := 9) (v := am_I 9) rfl rfl rfl ?_
    refine ax_icmp_gt (q := 12) (x := 87) rfl rfl (fun h9 => ?_) (fun h => absurd h (by omega))
    refine ax_load (q := 88) rfl rfl rfl rfl rfl ?_
    refine ax_ret (r := some (am_I ((ml_ T s z 10 : Nat) : Int))) rfl rfl ?_
    exact hQ
  | succ m ih =>
    intro v o5 o6 hk
    refine ax_load (q := 7) rfl rfl rfl rfl rfl ?_
    refine ax_const (q := 9) (v := am_I 9) rfl rfl rfl ?_
    refine ax_icmp_gt (q := 12) (x := 87) rfl rfl (fun h => absurd h (by omega)) (fun h9 => ?_)
    refine ax_const (q := 13) (v := am_I 0) rfl rfl rfl ?_
    refine ax_store (q := 15) (L' := [some (am_R 135), some (am_I ((s : Nat) : Int)), some (am_I z), some (am_I ((ml_ T s z v : Nat) : Int)), some (am_I ((v : Nat) : Int)), some (am_I 0), o6]) rfl rfl rfl rfl rfl rfl ?_
    refine ax_const (q := 16) (v := am_I 0) rfl rfl rfl ?_
    refine ax_store (q := 18) (L' := [some (am_R 135), some (am_I ((s : Nat) : Int)), some (am_I z), some (am_I ((ml_ T s z v : Nat) : Int)), some (am_I ((v : Nat) : Int)), some (am_I 0), some (am_I 0)]) rfl rfl rfl rfl rfl rfl ?_
    refine l_mostLeft (by omega) hT hV hs ?_ (nO_ T) 0 (by omega)
    refine ax_load (q := 70) rfl rfl rfl rfl rfl ?_
    refine ax_load (q := 71) rfl rfl rfl rfl rfl ?_
    refine ax_icmp_le (q := 74) (x := 79) rfl rfl (fun h71 => ?_) (fun h71 => ?_)
    · refine ax_load (q := 80) rfl rfl rfl rfl rfl ?_
      refine ax_store (q := 81) (L' := [some (am_R 135), some (am_I ((s : Nat) : Int)), some (am_I z), some (am_I ((ml_ T s z v : Nat) : Int)), some (am_I ((v : Nat) : Int)), some (am_I ((ct_ (nO_ T) (fun o => s.testBit o && decide (mk_ T o z = (v : Int))) : Nat) : Int)), some (am_I ((nO_ T : Nat) : Int))]) rfl rfl rfl rfl rfl rfl ?_
      refine ax_iinc (q := 84) (z' := ((v + 1 : Nat) : Int)) (L' := [some (am_R 135), some (am_I ((s : Nat) : Int)), some (am_I z), some (am_I ((ml_ T s z v : Nat) : Int)), some (am_I ((v + 1 : Nat) : Int)), some (am_I ((ct_ (nO_ T) (fun o => s.testBit o && decide (mk_ T o z = (v : Int))) : Nat) : Int)), some (am_I ((nO_ T : Nat) : Int))]) rfl rfl rfl rfl (am_we (by omega) (by omega) (by omega)) rfl ?_
      refine ax_goto (x := 5) rfl ?_
      have e : ml_ T s z (v + 1) = ml_ T s z v := by show (if ml_ T s z v < ct_ (nO_ T) (fun o => s.testBit o && decide (mk_ T o z = (v : Int))) then ct_ (nO_ T) (fun o => s.testBit o && decide (mk_ T o z = (v : Int))) else ml_ T s z v) = _; first | rw [if_pos (by omega)] | rw [if_neg (by omega)]
      have g := ih (v + 1) (some (am_I ((ct_ (nO_ T) (fun o => s.testBit o && decide (mk_ T o z = (v : Int))) : Nat) : Int))) (some (am_I ((nO_ T : Nat) : Int))) (by omega)
      rw [e] at g
      exact g
    · refine ax_load (q := 76) rfl rfl rfl rfl rfl ?_
      refine ax_goto (x := 80) rfl ?_
      refine ax_store (q := 81) (L' := [some (am_R 135), some (am_I ((s : Nat) : Int)), some (am_I z), some (am_I ((ct_ (nO_ T) (fun o => s.testBit o && decide (mk_ T o z = (v : Int))) : Nat) : Int)), some (am_I ((v : Nat) : Int)), some (am_I ((ct_ (nO_ T) (fun o => s.testBit o && decide (mk_ T o z = (v : Int))) : Nat) : Int)), some (am_I ((nO_ T : Nat) : Int))]) rfl rfl rfl rfl rfl rfl ?_
      refine ax_iinc (q := 84) (z' := ((v + 1 : Nat) : Int)) (L' := [some (am_R 135), some (am_I ((s : Nat) : Int)), some (am_I z), some (am_I ((ct_ (nO_ T) (fun o => s.testBit o && decide (mk_ T o z = (v : Int))) : Nat) : Int)), some (am_I ((v + 1 : Nat) : Int)), some (am_I ((ct_ (nO_ T) (fun o => s.testBit o && decide (mk_ T o z = (v : Int))) : Nat) : Int)), some (am_I ((nO_ T : Nat) : Int))]) rfl rfl rfl rfl (am_we (by omega) (by omega) (by omega)) rfl ?_
      refine ax_goto (x := 5) rfl ?_
      have e : ml_ T s z (v + 1) = ct_ (nO_ T) (fun o => s.testBit o && decide (mk_ T o z = (v : Int))) := by show (if ml_ T s z v < ct_ (nO_ T) (fun o => s.testBit o && decide (mk_ T o z = (v : Int))) then ct_ (nO_ T) (fun o => s.testBit o && decide (mk_ T o z = (v : Int))) else ml_ T s z v) = _; first | rw [if_pos (by omega)] | rw [if_neg (by omega)]
      have g := ih (v + 1) (some (am_I ((ct_ (nO_ T) (fun o => s.testBit o && decide (mk_ T o z = (v : Int))) : Nat) : Int))) (some (am_I ((nO_ T : Nat) : Int))) (by omega)
      rw [e] at g
      exact g

theorem m_mostLeft {d : Nat} (hd : 2 ≤ d) {σ : am_S} {T : sp_T} (hT : TM_ T σ) (hV : TV_ T) {s : Nat} (hs : s < 2 ^ 30) {z : Int} {Q : Option am_V → am_S → Prop} (hQ : Q (some (am_I ((ml_ T s z 10 : Nat) : Int))) σ) : am_Ev d 256 [am_R 135, am_I ((s : Nat) : Int), am_I z] σ Q := by
  obtain ⟨d, rfl⟩ : ∃ e, d = e + 1 := ⟨d - 1, by omega⟩
  refine ev_in (m := 256) (c := k_X9_mostLeft) (L := [some (am_R 135), some (am_I ((s : Nat) : Int)), some (am_I z), none, none, none, none]) rfl rfl rfl rfl rfl rfl ?_
  refine ax_const (q := 1) (v := am_I 0) rfl rfl rfl ?_
  refine ax_store (q := 2) (L' := [some (am_R 135), some (am_I ((s : Nat) : Int)), some (am_I z), some (am_I 0), none, none, none]) rfl rfl rfl rfl rfl rfl ?_
  refine ax_const (q := 3) (v := am_I 0) rfl rfl rfl ?_
  refine ax_store (q := 5) (L' := [some (am_R 135), some (am_I ((s : Nat) : Int)), some (am_I z), some (am_I 0), some (am_I 0), none, none]) rfl rfl rfl rfl rfl rfl ?_
  exact l_mostLeft2 (by omega) hT hV hs hQ 10 0 none none (by omega)

theorem F_meant_in {T : sp_T} (hV : TV_ T) {G : Nat → Nat → Int} {n : Nat} {a t : Int} (h : 0 < F_meant T G n a t) : F_meant T G n a t = (ms_ T G n a.toNat t : Int) ∧ ms_ T G n a.toNat t < 2 ^ 30 := by
  unfold F_meant at *
  split at h
  · next q =>
    rw [if_pos q]
    refine ⟨rfl, Nat.lt_of_lt_of_le (bi_lt _ _) (Nat.pow_le_pow_right (by decide) (by have := hV.nO; omega))⟩
  · omega

theorem l_ask {d : Nat} (hd : 2 ≤ d) {σ : am_S} {T : sp_T} (hT : TM_ T σ) (hV : TV_ T) {s : Nat} (hs : s < 2 ^ 30) {a k t : Int} {Q : Option am_V → am_S → Prop} (hQ : Q (some (am_I (if k = 0 then (ab_ T s : Int) else (ml_ T s (ab_ T s : Int) 10 : Int)))) σ) : aW d 0 k_X9_ask Q 24 [some (am_R 135), some (am_I a), some (am_I k), some (am_I t), some (am_I ((s : Nat) : Int)), none, none] [] σ := by
  refine ax_const (q := 25) (v := am_I 0) rfl rfl rfl ?_
  refine ax_store (q := 27) (L' := [some (am_R 135), some (am_I a), some (am_I k), some (am_I t), some (am_I ((s : Nat) : Int)), some (am_I 0), none]) rfl rfl rfl rfl rfl rfl ?_
  refine ax_const (q := 28) (v := am_I 1) rfl rfl rfl ?_
  refine ax_store (q := 30) (L' := [some (am_R 135), some (am_I a), some (am_I k), some (am_I t), some (am_I ((s : Nat) : Int)), some (am_I 0), some (am_I 1)]) rfl rfl rfl rfl rfl rfl ?_
  refine ax_load (q := 32) rfl rfl rfl rfl rfl ?_
  refine ax_const (q := 33) (v := am_I 3) rfl rfl rfl ?_
  refine ax_icmp_ge (q := 36) (x := 70) rfl rfl (fun h => absurd h (by omega)) (fun h33 => ?_)
  refine ax_load (q := 37) rfl rfl rfl rfl rfl ?_
  refine ax_load (q := 39) rfl rfl rfl rfl rfl ?_
  refine ax_load (q := 41) rfl rfl rfl rfl rfl ?_
  refine ax_callv (q := 44) rfl rfl rfl rfl rfl rfl ?_
  refine m_mostLeft (by omega) hT hV hs (z := 1) ?_
  refine ax_load (q := 45) rfl rfl rfl rfl rfl ?_
  refine ax_load (q := 47) rfl rfl rfl rfl rfl ?_
  refine ax_load (q := 49) rfl rfl rfl rfl rfl ?_
  refine ax_callv (q := 52) rfl rfl rfl rfl rfl rfl ?_
  refine m_mostLeft (by omega) hT hV hs (z := 0) ?_
  refine ax_icmp_ge (q := 55) (x := 60) rfl rfl (fun h52 => ?_) (fun h52 => ?_)
  · refine ax_load (q := 62) rfl rfl rfl rfl rfl ?_
    refine ax_store (q := 64) (L' := [some (am_R 135), some (am_I a), some (am_I k), some (am_I t), some (am_I ((s : Nat) : Int)), some (am_I 0), some (am_I 1)]) rfl rfl rfl rfl rfl rfl ?_
    refine ax_iinc (q := 67) (z' := ((2 : Nat) : Int)) (L' := [some (am_R 135), some (am_I a), some (am_I k), some (am_I t), some (am_I ((s : Nat) : Int)), some (am_I 0), some (am_I ((2 : Nat) : Int))]) rfl rfl rfl rfl (am_we (by omega) (by omega) (by omega)) rfl ?_
    refine ax_goto (x := 30) rfl ?_
    refine ax_load (q := 32) rfl rfl rfl rfl rfl ?_
    refine ax_const (q := 33) (v := am_I 3) rfl rfl rfl ?_
    refine ax_icmp_ge (q := 36) (x := 70) rfl rfl (fun h => absurd h (by omega)) (fun h33 => ?_)
    refine ax_load (q := 37) rfl rfl rfl rfl rfl ?_
    refine ax_load (q := 39) rfl rfl rfl rfl rfl ?_
    refine ax_load (q := 41) rfl rfl rfl rfl rfl ?_
    refine ax_callv (q := 44) rfl rfl rfl rfl rfl rfl ?_
    refine m_mostLeft (by omega) hT hV hs (z := 2) ?_
    refine ax_load (q := 45) rfl rfl rfl rfl rfl ?_
    refine ax_load (q := 47) rfl rfl rfl rfl rfl ?_
    refine ax_load (q := 49) rfl rfl rfl rfl rfl ?_
    refine ax_callv (q := 52) rfl rfl rfl rfl rfl rfl ?_
    refine m_mostLeft (by omega) hT hV hs (z := 0) ?_
    refine ax_icmp_ge (q := 55) (x := 60) rfl rfl (fun h52 => ?_) (fun h52 => ?_)
    · refine ax_load (q := 62) rfl rfl rfl rfl rfl ?_
      refine ax_store (q := 64) (L' := [some (am_R 135), some (am_I a), some (am_I k), some (am_I t), some (am_I ((s : Nat) : Int)), some (am_I 0), some (am_I ((2 : Nat) : Int))]) rfl rfl rfl rfl rfl rfl ?_
      refine ax_iinc (q := 67) (z' := ((3 : Nat) : Int)) (L' := [some (am_R 135), some (am_I a), some (am_I k), some (am_I t), some (am_I ((s : Nat) : Int)), some (am_I 0), some (am_I ((3 : Nat) : Int))]) rfl rfl rfl rfl (am_we (by omega) (by omega) (by omega)) rfl ?_
      refine ax_goto (x := 30) rfl ?_
      refine ax_load (q := 32) rfl rfl rfl rfl rfl ?_
      refine ax_const (q := 33) (v := am_I 3) rfl rfl rfl ?_
      refine ax_icmp_ge (q := 36) (x := 70) rfl rfl (fun h33 => ?_) (fun h => absurd h (by omega))
      refine ax_load (q := 71) rfl rfl rfl rfl rfl ?_
      refine ax_if_ne (q := 74) (x := 79) rfl rfl (fun h71 => ?_) (fun h71 => ?_)
      · refine ax_load (q := 80) rfl rfl rfl rfl rfl ?_
        refine ax_load (q := 82) rfl rfl rfl rfl rfl ?_
        refine ax_load (q := 84) rfl rfl rfl rfl rfl ?_
        refine ax_callv (q := 87) rfl rfl rfl rfl rfl rfl ?_
        refine m_mostLeft (by omega) hT hV hs (z := 0) ?_
        refine ax_ret (r := some (am_I ((ml_ T s 0 10 : Nat) : Int))) rfl rfl ?_
        have e : ab_ T s = 0 := by
          unfold ab_
          by_cases q1 : ml_ T s 1 10 < ml_ T s 0 10
          · simp only [if_pos q1]
            by_cases q2 : ml_ T s 2 10 < ml_ T s 1 10
            · first | (exfalso; omega) | simp only [if_pos q2]
            · first | (exfalso; omega) | simp only [if_neg q2]
          · simp only [if_neg q1]
            by_cases q2 : ml_ T s 2 10 < ml_ T s 0 10
            · first | (exfalso; omega) | simp only [if_pos q2]
            · first | (exfalso; omega) | simp only [if_neg q2]
        rw [e] at hQ
        first | (rw [if_pos h71] at hQ; exact hQ) | (rw [if_neg h71] at hQ; exact hQ)
      · refine ax_load (q := 76) rfl rfl rfl rfl rfl ?_
        refine ax_goto (x := 87) rfl ?_
        refine ax_ret (r := some (am_I 0)) rfl rfl ?_
        have e : ab_ T s = 0 := by
          unfold ab_
          by_cases q1 : ml_ T s 1 10 < ml_ T s 0 10
          · simp only [if_pos q1]
            by_cases q2 : ml_ T s 2 10 < ml_ T s 1 10
            · first | (exfalso; omega) | simp only [if_pos q2]
            · first | (exfalso; omega) | simp only [if_neg q2]
          · simp only [if_neg q1]
            by_cases q2 : ml_ T s 2 10 < ml_ T s 0 10
            · first | (exfalso; omega) | simp only [if_pos q2]
            · first | (exfalso; omega) | simp only [if_neg q2]
        rw [e] at hQ
        first | (rw [if_pos h71] at hQ; exact hQ) | (rw [if_neg h71] at hQ; exact hQ)
    · refine ax_load (q := 57) rfl rfl rfl rfl rfl ?_
      refine ax_goto (x := 62) rfl ?_
      refine ax_store (q := 64) (L' := [some (am_R 135), some (am_I a), some (am_I k), some (am_I t), some (am_I ((s : Nat) : Int)), some (am_I ((2 : Nat) : Int)), some (am_I ((2 : Nat) : Int))]) rfl rfl rfl rfl rfl rfl ?_
      refine ax_iinc (q := 67) (z' := ((3 : Nat) : Int)) (L' := [some (am_R 135), some (am_I a), some (am_I k), some (am_I t), some (am_I ((s : Nat) : Int)), some (am_I ((2 : Nat) : Int)), some (am_I ((3 : Nat) : Int))]) rfl rfl rfl rfl (am_we (by omega) (by omega) (by omega)) rfl ?_
      refine ax_goto (x := 30) rfl ?_
      refine ax_load (q := 32) rfl rfl rfl rfl rfl ?_
      refine ax_const (q := 33) (v := am_I 3) rfl rfl rfl ?_
      refine ax_icmp_ge (q := 36) (x := 70) rfl rfl (fun h33 => ?_) (fun h => absurd h (by omega))
      refine ax_load (q := 71) rfl rfl rfl rfl rfl ?_
      refine ax_if_ne (q := 74) (x := 79) rfl rfl (fun h71 => ?_) (fun h71 => ?_)
      · refine ax_load (q := 80) rfl rfl rfl rfl rfl ?_
        refine ax_load (q := 82) rfl rfl rfl rfl rfl ?_
        refine ax_load (q := 84) rfl rfl rfl rfl rfl ?_
        refine ax_callv (q := 87) rfl rfl rfl rfl rfl rfl ?_
        refine m_mostLeft (by omega) hT hV hs (z := 2) ?_
        refine ax_ret (r := some (am_I ((ml_ T s 2 10 : Nat) : Int))) rfl rfl ?_
        have e : ab_ T s = 2 := by
          unfold ab_
          by_cases q1 : ml_ T s 1 10 < ml_ T s 0 10
          · simp only [if_pos q1]
            by_cases q2 : ml_ T s 2 10 < ml_ T s 1 10
            · first | (exfalso; omega) | simp only [if_pos q2]
            · first | (exfalso; omega) | simp only [if_neg q2]
          · simp only [if_neg q1]
            by_cases q2 : ml_ T s 2 10 < ml_ T s 0 10
            · first | (exfalso; omega) | simp only [if_pos q2]
            · first | (exfalso; omega) | simp only [if_neg q2]
        rw [e] at hQ
        first | (rw [if_pos h71] at hQ; exact hQ) | (rw [if_neg h71] at hQ; exact hQ)
      · refine ax_load (q := 76) rfl rfl rfl rfl rfl ?_
        refine ax_goto (x := 87) rfl ?_
        refine ax_ret (r := some (am_I ((2 : Nat) : Int))) rfl rfl ?_
        have e : ab_ T s = 2 := by
          unfold ab_
          by_cases q1 : ml_ T s 1 10 < ml_ T s 0 10
          · simp only [if_pos q1]
            by_cases q2 : ml_ T s 2 10 < ml_ T s 1 10
            · first | (exfalso; omega) | simp only [if_pos q2]
            · first | (exfalso; omega) | simp only [if_neg q2]
          · simp only [if_neg q1]
            by_cases q2 : ml_ T s 2 10 < ml_ T s 0 10
            · first | (exfalso; omega) | simp only [if_pos q2]
            · first | (exfalso; omega) | simp only [if_neg q2]
        rw [e] at hQ
        first | (rw [if_pos h71] at hQ; exact hQ) | (rw [if_neg h71] at hQ; exact hQ)
  · refine ax_load (q := 57) rfl rfl rfl rfl rfl ?_
    refine ax_goto (x := 62) rfl ?_
    refine ax_store (q := 64) (L' := [some (am_R 135), some (am_I a), some (am_I k), some (am_I t), some (am_I ((s : Nat) : Int)), some (am_I 1), some (am_I 1)]) rfl rfl rfl rfl rfl rfl ?_
    refine ax_iinc (q := 67) (z' := ((2 : Nat) : Int)) (L' := [some (am_R 135), some (am_I a), some (am_I k), some (am_I t), some (am_I ((s : Nat) : Int)), some (am_I 1), some (am_I ((2 : Nat) : Int))]) rfl rfl rfl rfl (am_we (by omega) (by omega) (by omega)) rfl ?_
    refine ax_goto (x := 30) rfl ?_
    refine ax_load (q := 32) rfl rfl rfl rfl rfl ?_
    refine ax_const (q := 33) (v := am_I 3) rfl rfl rfl ?_
    refine ax_icmp_ge (q := 36) (x := 70) rfl rfl (fun h => absurd h (by omega)) (fun h33 => ?_)
    refine ax_load (q := 37) rfl rfl rfl rfl rfl ?_
    refine ax_load (q := 39) rfl rfl rfl rfl rfl ?_
    refine ax_load (q := 41) rfl rfl rfl rfl rfl ?_
    refine ax_callv (q := 44) rfl rfl rfl rfl rfl rfl ?_
    refine m_mostLeft (by omega) hT hV hs (z := 2) ?_
    refine ax_load (q := 45) rfl rfl rfl rfl rfl ?_
    refine ax_load (q := 47) rfl rfl rfl rfl rfl ?_
    refine ax_load (q := 49) rfl rfl rfl rfl rfl ?_
    refine ax_callv (q := 52) rfl rfl rfl rfl rfl rfl ?_
    refine m_mostLeft (by omega) hT hV hs (z := 1) ?_
    refine ax_icmp_ge (q := 55) (x := 60) rfl rfl (fun h52 => ?_) (fun h52 => ?_)
    · refine ax_load (q := 62) rfl rfl rfl rfl rfl ?_
      refine ax_store (q := 64) (L' := [some (am_R 135), some (am_I a), some (am_I k), some (am_I t), some (am_I ((s : Nat) : Int)), some (am_I 1), some (am_I ((2 : Nat) : Int))]) rfl rfl rfl rfl rfl rfl ?_
      refine ax_iinc (q := 67) (z' := ((3 : Nat) : Int)) (L' := [some (am_R 135), some (am_I a), some (am_I k), some (am_I t), some (am_I ((s : Nat) : Int)), some (am_I 1), some (am_I ((3 : Nat) : Int))]) rfl rfl rfl rfl (am_we (by omega) (by omega) (by omega)) rfl ?_
      refine ax_goto (x := 30) rfl ?_
      refine ax_load (q := 32) rfl rfl rfl rfl rfl ?_
      refine ax_const (q := 33) (v := am_I 3) rfl rfl rfl ?_
      refine ax_icmp_ge (q := 36) (x := 70) rfl rfl (fun h33 => ?_) (fun h => absurd h (by omega))
      refine ax_load (q := 71) rfl rfl rfl rfl rfl ?_
      refine ax_if_ne (q := 74) (x := 79) rfl rfl (fun h71 => ?_) (fun h71 => ?_)
      · refine ax_load (q := 80) rfl rfl rfl rfl rfl ?_
        refine ax_load (q := 82) rfl rfl rfl rfl rfl ?_
        refine ax_load (q := 84) rfl rfl rfl rfl rfl ?_
        refine ax_callv (q := 87) rfl rfl rfl rfl rfl rfl ?_
        refine m_mostLeft (by omega) hT hV hs (z := 1) ?_
        refine ax_ret (r := some (am_I ((ml_ T s 1 10 : Nat) : Int))) rfl rfl ?_
        have e : ab_ T s = 1 := by
          unfold ab_
          by_cases q1 : ml_ T s 1 10 < ml_ T s 0 10
          · simp only [if_pos q1]
            by_cases q2 : ml_ T s 2 10 < ml_ T s 1 10
            · first | (exfalso; omega) | simp only [if_pos q2]
            · first | (exfalso; omega) | simp only [if_neg q2]
          · simp only [if_neg q1]
            by_cases q2 : ml_ T s 2 10 < ml_ T s 0 10
            · first | (exfalso; omega) | simp only [if_pos q2]
            · first | (exfalso; omega) | simp only [if_neg q2]
        rw [e] at hQ
        first | (rw [if_pos h71] at hQ; exact hQ) | (rw [if_neg h71] at hQ; exact hQ)
      · refine ax_load (q := 76) rfl rfl rfl rfl rfl ?_
        refine ax_goto (x := 87) rfl ?_
        refine ax_ret (r := some (am_I 1)) rfl rfl ?_
        have e : ab_ T s = 1 := by
          unfold ab_
          by_cases q1 : ml_ T s 1 10 < ml_ T s 0 10
          · simp only [if_pos q1]
            by_cases q2 : ml_ T s 2 10 < ml_ T s 1 10
            · first | (exfalso; omega) | simp only [if_pos q2]
            · first | (exfalso; omega) | simp only [if_neg q2]
          · simp only [if_neg q1]
            by_cases q2 : ml_ T s 2 10 < ml_ T s 0 10
            · first | (exfalso; omega) | simp only [if_pos q2]
            · first | (exfalso; omega) | simp only [if_neg q2]
        rw [e] at hQ
        first | (rw [if_pos h71] at hQ; exact hQ) | (rw [if_neg h71] at hQ; exact hQ)
    · refine ax_load (q := 57) rfl rfl rfl rfl rfl ?_
      refine ax_goto (x := 62) rfl ?_
      refine ax_store (q := 64) (L' := [some (am_R 135), some (am_I a), some (am_I k), some (am_I t), some (am_I ((s : Nat) : Int)), some (am_I ((2 : Nat) : Int)), some (am_I ((2 : Nat) : Int))]) rfl rfl rfl rfl rfl rfl ?_
      refine ax_iinc (q := 67) (z' := ((3 : Nat) : Int)) (L' := [some (am_R 135), some (am_I a), some (am_I k), some (am_I t), some (am_I ((s : Nat) : Int)), some (am_I ((2 : Nat) : Int)), some (am_I ((3 : Nat) : Int))]) rfl rfl rfl rfl (am_we (by omega) (by omega) (by omega)) rfl ?_
      refine ax_goto (x := 30) rfl ?_
      refine ax_load (q := 32) rfl rfl rfl rfl rfl ?_
      refine ax_const (q := 33) (v := am_I 3) rfl rfl rfl ?_
      refine ax_icmp_ge (q := 36) (x := 70) rfl rfl (fun h33 => ?_) (fun h => absurd h (by omega))
      refine ax_load (q := 71) rfl rfl rfl rfl rfl ?_
      refine ax_if_ne (q := 74) (x := 79) rfl rfl (fun h71 => ?_) (fun h71 => ?_)
      · refine ax_load (q := 80) rfl rfl rfl rfl rfl ?_
        refine ax_load (q := 82) rfl rfl rfl rfl rfl ?_
        refine ax_load (q := 84) rfl rfl rfl rfl rfl ?_
        refine ax_callv (q := 87) rfl rfl rfl rfl rfl rfl ?_
        refine m_mostLeft (by omega) hT hV hs (z := 2) ?_
        refine ax_ret (r := some (am_I ((ml_ T s 2 10 : Nat) : Int))) rfl rfl ?_
        have e : ab_ T s = 2 := by
          unfold ab_
          by_cases q1 : ml_ T s 1 10 < ml_ T s 0 10
          · simp only [if_pos q1]
            by_cases q2 : ml_ T s 2 10 < ml_ T s 1 10
            · first | (exfalso; omega) | simp only [if_pos q2]
            · first | (exfalso; omega) | simp only [if_neg q2]
          · simp only [if_neg q1]
            by_cases q2 : ml_ T s 2 10 < ml_ T s 0 10
            · first | (exfalso; omega) | simp only [if_pos q2]
            · first | (exfalso; omega) | simp only [if_neg q2]
        rw [e] at hQ
        first | (rw [if_pos h71] at hQ; exact hQ) | (rw [if_neg h71] at hQ; exact hQ)
      · refine ax_load (q := 76) rfl rfl rfl rfl rfl ?_
        refine ax_goto (x := 87) rfl ?_
        refine ax_ret (r := some (am_I ((2 : Nat) : Int))) rfl rfl ?_
        have e : ab_ T s = 2 := by
          unfold ab_
          by_cases q1 : ml_ T s 1 10 < ml_ T s 0 10
          · simp only [if_pos q1]
            by_cases q2 : ml_ T s 2 10 < ml_ T s 1 10
            · first | (exfalso; omega) | simp only [if_pos q2]
            · first | (exfalso; omega) | simp only [if_neg q2]
          · simp only [if_neg q1]
            by_cases q2 : ml_ T s 2 10 < ml_ T s 0 10
            · first | (exfalso; omega) | simp only [if_pos q2]
            · first | (exfalso; omega) | simp only [if_neg q2]
        rw [e] at hQ
        first | (rw [if_pos h71] at hQ; exact hQ) | (rw [if_neg h71] at hQ; exact hQ)

theorem m_ask {d : Nat} (hd : 4 ≤ d) {σ : am_S} {T : sp_T} (hT : TM_ T σ) (hV : TV_ T) {G : Nat → Nat → Int} {n : Nat} (hG : SG_ G n σ) {a k t : Int} {Q : Option am_V → am_S → Prop} (hQ : ∀ σ', fr_ [] σ σ' → Q (some (am_I (F_ask T G n a k t))) σ') : am_Ev d 257 [am_R 135, am_I a, am_I k, am_I t] σ Q := by
  obtain ⟨d, rfl⟩ : ∃ e, d = e + 1 := ⟨d - 1, by omega⟩
  have hO := hV.nO
  refine ev_in (m := 257) (c := k_X9_ask) (L := [some (am_R 135), some (am_I a), some (am_I k), some (am_I t), none, none, none]) rfl rfl rfl rfl rfl rfl ?_
  refine ax_load (q := 1) rfl rfl rfl rfl rfl ?_
  refine ax_load (q := 2) rfl rfl rfl rfl rfl ?_
  refine ax_load (q := 3) rfl rfl rfl rfl rfl ?_
  refine ax_callv (q := 6) rfl rfl rfl rfl rfl rfl ?_
  refine m_meant (by omega) hT hV hG (fun σ1 hf1 => ?_)
  obtain rfl : σ1 = σ := Prod.ext (funext fun j => hf1.1 j (by simp)) hf1.2
  refine ax_store (q := 8) (L' := [some (am_R 135), some (am_I a), some (am_I k), some (am_I t), some (am_I (F_meant T G n a t)), none, none]) rfl rfl rfl rfl rfl rfl ?_
  refine ax_load (q := 9) rfl rfl rfl rfl rfl ?_
  refine ax_const (q := 10) (v := am_I 0) rfl rfl rfl ?_
  refine ax_const (q := 11) (v := am_I 1) rfl rfl rfl ?_
  refine ax_calls (q := 14) rfl rfl rfl rfl rfl ?_
  refine m_isIn (by omega) ?_
  refine ax_if_eq (q := 17) (x := 22) rfl rfl (fun h14 => ?_) (fun h14 => ?_)
  · have hb14 := it_0 h14
    refine ax_const (q := 23) (v := am_I (-1)) rfl rfl rfl ?_
    refine ax_ret (r := some (am_I (-1))) rfl rfl ?_
    have e : F_ask T G n a k t = -1 := by unfold F_ask; first | (rw [hb14, Bool.false_and]; rfl) | (rw [decide_eq_false (show ¬ 0 < F_meant T G n a t by omega), Bool.and_false]; rfl)
    rw [← e]
    exact hQ _ (fr_rf _ _)
  · have hb14 := it_n0 h14
    refine ax_load (q := 19) rfl rfl rfl rfl rfl ?_
    refine ax_if_gt (q := 22) (x := 24) rfl rfl (fun h19 => ?_) (fun h19 => ?_)
    · obtain ⟨e1, e2⟩ := F_meant_in hV h19
      have e : F_ask T G n a k t = (if k = 0 then (ab_ T (ms_ T G n a.toNat t) : Int) else (ml_ T (ms_ T G n a.toNat t) (ab_ T (ms_ T G n a.toNat t) : Int) 10 : Int)) := by unfold F_ask; rw [hb14, decide_eq_true h19]; rfl
      rw [e1]
      exact l_ask (by omega) hT hV e2 (by rw [← e]; exact hQ _ (fr_rf _ _))
    · refine ax_const (q := 23) (v := am_I (-1)) rfl rfl rfl ?_
      refine ax_ret (r := some (am_I (-1))) rfl rfl ?_
      have e : F_ask T G n a k t = -1 := by unfold F_ask; first | (rw [hb14, Bool.false_and]; rfl) | (rw [decide_eq_false (show ¬ 0 < F_meant T G n a t by omega), Bool.and_false]; rfl)
      rw [← e]
      exact hQ _ (fr_rf _ _)

