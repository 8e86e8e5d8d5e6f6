theorem m_swap {d : Nat} (hd : 4 ≤ d) {σ : am_S} {T : sp_T} (hT : TM_ T σ) (hV : TV_ T) {b : Int} {w : sp_V} (hw : σ.1 163 = w) (hW : VV_ T b w) (hb9 : b ≤ 100000) {a e : Nat} {hs : Nat → sp_V} (hH : MH_ a e hs σ) {x y : Int} {Q : Option am_V → am_S → Prop} (hN : (sn_ T w x && (sn_ T w y && decide (¬ x = y))) = false → Q (some (am_I (0))) σ) (hY : (sn_ T w x && (sn_ T w y && decide (¬ x = y))) = true → ∀ σ', fq_ [163, 165] [64, 65] σ σ' → MH_ (ha_ a) 0 (hk_ a hs (am_up (am_up (am_up (am_up w (6 + x.toNat) (w (6 + y.toNat))) (6 + y.toNat) (w (6 + x.toNat))) (12 + x.toNat) 0) (12 + y.toNat) 0)) σ' → Q (some (am_I (1))) σ') : am_Ev d 213 [am_R 135, am_I x, am_I y] σ Q := by
  obtain ⟨d, rfl⟩ : ∃ e, d = e + 1 := ⟨d - 1, by omega⟩
  have h6 := hV.nP
  have hO := hV.nO
  have hS := hV.nS
  have hR := hV.nR
  refine ev_in (m := 213) (c := k_X9_swap) (L := [some (am_R 135), some (am_I x), some (am_I y), none]) rfl rfl rfl rfl rfl rfl ?_
  refine ax_load (q := 1) rfl rfl rfl rfl rfl ?_
  refine ax_load (q := 2) rfl rfl rfl rfl rfl ?_
  refine ax_callv (q := 5) rfl rfl rfl rfl rfl rfl ?_
  refine m_isShutNow (by omega) hT hV hw ?_
  refine ax_if_eq (q := 8) (x := 21) rfl rfl (fun h5 => ?_) (fun h5 => ?_)
  · have hb5 := it_0 h5
    refine ax_const (q := 22) (v := am_I 0) rfl rfl rfl ?_
    refine ax_ret (r := some (am_I 0)) rfl ⟨rfl, Or.inl rfl⟩ ?_
    exact hN (by first | (unfold inr_ at *; simp [*]; done) | simp [*])
  · have hb5 := it_n0 h5
    obtain ⟨p, rfl, hp, hsp⟩ := sn_t hb5
    refine ax_load (q := 9) rfl rfl rfl rfl rfl ?_
    refine ax_load (q := 10) rfl rfl rfl rfl rfl ?_
    refine ax_callv (q := 13) rfl rfl rfl rfl rfl rfl ?_
    refine m_isShutNow (by omega) hT hV hw ?_
    refine ax_if_eq (q := 16) (x := 21) rfl rfl (fun h13 => ?_) (fun h13 => ?_)
    · have hb13 := it_0 h13
      refine ax_const (q := 22) (v := am_I 0) rfl rfl rfl ?_
      refine ax_ret (r := some (am_I 0)) rfl ⟨rfl, Or.inl rfl⟩ ?_
      exact hN (by first | (unfold inr_ at *; simp [*]; done) | simp [*])
    · have hb13 := it_n0 h13
      obtain ⟨q, rfl, hq, hsq⟩ := sn_t hb13
      refine ax_load (q := 17) rfl rfl rfl rfl rfl ?_
      refine ax_load (q := 18) rfl rfl rfl rfl rfl ?_
      refine ax_icmp_ne (q := 21) (x := 23) rfl rfl (fun h18 => ?_) (fun h18 => ?_)
      · refine ax_load (q := 24) rfl rfl rfl rfl rfl ?_
        refine ax_callv (q := 27) rfl rfl rfl rfl rfl rfl ?_
        refine m_act (by omega) hH (fun σ1 hf1 hA1 => ?_)
        have hT1 := hT.fq hf1 (by decide) (by decide)
        have hw1 : σ1.1 163 = w := (hf1.1 163 (by decide) (by decide)).trans hw
        refine ax_load (q := 28) rfl rfl rfl rfl rfl ?_
        refine ax_getf (q := 31) (v := am_R 163) rfl rfl (rfl) ?_
        refine ax_const (q := 33) (v := am_I 6) rfl rfl rfl ?_
        refine ax_load (q := 34) rfl rfl rfl rfl rfl ?_
        refine ax_iadd (q := 35) (z := ((6 + p : Nat) : Int)) rfl rfl (am_we (by omega) (by omega) (by omega)) ?_
        refine bx_iald (q := 36) (k := 6 + p) (z := w (6 + p)) rfl rfl (rfl) (by omega) (by omega) (congrFun hw1 _) ?_
        refine ax_store (q := 37) (L' := [some (am_R 135), some (am_I ((p : Nat) : Int)), some (am_I ((q : Nat) : Int)), some (am_I (w (6 + p)))]) rfl rfl rfl rfl rfl rfl ?_
        refine ax_load (q := 38) rfl rfl rfl rfl rfl ?_
        refine ax_getf (q := 41) (v := am_R 163) rfl rfl (rfl) ?_
        refine ax_const (q := 43) (v := am_I 6) rfl rfl rfl ?_
        refine ax_load (q := 44) rfl rfl rfl rfl rfl ?_
        refine ax_iadd (q := 45) (z := ((6 + p : Nat) : Int)) rfl rfl (am_we (by omega) (by omega) (by omega)) ?_
        refine ax_load (q := 46) rfl rfl rfl rfl rfl ?_
        refine ax_getf (q := 49) (v := am_R 163) rfl rfl (rfl) ?_
        refine ax_const (q := 51) (v := am_I 6) rfl rfl rfl ?_
        refine ax_load (q := 52) rfl rfl rfl rfl rfl ?_
        refine ax_iadd (q := 53) (z := ((6 + q : Nat) : Int)) rfl rfl (am_we (by omega) (by omega) (by omega)) ?_
        refine bx_iald (q := 54) (k := 6 + q) (z := w (6 + q)) rfl rfl (rfl) (by omega) (by omega) (congrFun hw1 _) ?_
        refine bx_iast (q := 55) (k := 6 + p) rfl rfl (rfl) (by omega) (by omega) ?_
        refine ax_load (q := 56) rfl rfl rfl rfl rfl ?_
        refine ax_getf (q := 59) (v := am_R 163) rfl rfl (rfl) ?_
        refine ax_const (q := 61) (v := am_I 6) rfl rfl rfl ?_
        refine ax_load (q := 62) rfl rfl rfl rfl rfl ?_
        refine ax_iadd (q := 63) (z := ((6 + q : Nat) : Int)) rfl rfl (am_we (by omega) (by omega) (by omega)) ?_
        refine ax_load (q := 64) rfl rfl rfl rfl rfl ?_
        refine bx_iast (q := 65) (k := 6 + q) rfl rfl (rfl) (by omega) (by omega) ?_
        refine ax_load (q := 66) rfl rfl rfl rfl rfl ?_
        refine ax_getf (q := 69) (v := am_R 163) rfl rfl (rfl) ?_
        refine ax_const (q := 71) (v := am_I 12) rfl rfl rfl ?_
        refine ax_load (q := 72) rfl rfl rfl rfl rfl ?_
        refine ax_iadd (q := 73) (z := ((12 + p : Nat) : Int)) rfl rfl (am_we (by omega) (by omega) (by omega)) ?_
        refine ax_const (q := 74) (v := am_I 0) rfl rfl rfl ?_
        refine bx_iast (q := 75) (k := 12 + p) rfl rfl (rfl) (by omega) (by omega) ?_
        refine ax_load (q := 76) rfl rfl rfl rfl rfl ?_
        refine ax_getf (q := 79) (v := am_R 163) rfl rfl (rfl) ?_
        refine ax_const (q := 81) (v := am_I 12) rfl rfl rfl ?_
        refine ax_load (q := 82) rfl rfl rfl rfl rfl ?_
        refine ax_iadd (q := 83) (z := ((12 + q : Nat) : Int)) rfl rfl (am_we (by omega) (by omega) (by omega)) ?_
        refine ax_const (q := 84) (v := am_I 0) rfl rfl rfl ?_
        refine bx_iast (q := 85) (k := 12 + q) rfl rfl (rfl) (by omega) (by omega) ?_
        refine ax_const (q := 86) (v := am_I 1) rfl rfl rfl ?_
        refine ax_ret (r := some (am_I 1)) rfl ⟨rfl, Or.inr rfl⟩ ?_
        refine hY (by first | (unfold inr_ at *; simp [*]; done) | simp [*]) _ (fq_sI (fq_sI (fq_sI (fq_sI (fq_tr hf1 (fq_rf [] [] _) (by decide) (by decide) |> fun h => (⟨fun b hb h9 => h.1 b (fun q => hb (by revert q; simp; omega)) h9, h.2.1, h.2.2⟩ : fq_ [163, 165] [64, 65] σ σ1)) (by decide) (by decide)) (by decide) (by decide)) (by decide) (by decide)) (by decide) (by decide)) (MA_.mh (MA_.fq hA1 (A := [163]) (F := []) (fq_sI (fq_sI (fq_sI (fq_sI (fq_rf [163] [] σ1) (by decide) (by decide)) (by decide) (by decide)) (by decide) (by decide)) (by decide) (by decide)) (by decide) (by decide) (by decide)) (fun j hj => ?_))
        rw [sI_at]
        simp only [sI_at, hw1, Int.toNat_natCast]
      · refine ax_const (q := 22) (v := am_I 0) rfl rfl rfl ?_
        refine ax_ret (r := some (am_I 0)) rfl ⟨rfl, Or.inl rfl⟩ ?_
        exact hN (by first | (unfold inr_ at *; simp [*]; done) | simp [*])

theorem m_done {d : Nat} (hd : 1 ≤ d) {σ : am_S} {w : sp_V} (hw : σ.1 163 = w) {Q : Option am_V → am_S → Prop} (hQ : Q (some (am_I (w 48))) σ) : am_Ev d 206 [am_R 135] σ Q := by
  obtain ⟨d, rfl⟩ : ∃ e, d = e + 1 := ⟨d - 1, by omega⟩
  refine ev_in (m := 206) (c := k_X9_done) (L := [some (am_R 135)]) rfl rfl rfl rfl rfl rfl ?_
  refine ax_load (q := 1) rfl rfl rfl rfl rfl ?_
  refine ax_getf (q := 4) (v := am_R 163) rfl rfl (rfl) ?_
  refine ax_const (q := 6) (v := am_I 48) rfl rfl rfl ?_
  refine bx_iald (q := 7) (k := 48) (z := w 48) rfl rfl (rfl) (by omega) (by omega) (congrFun hw _) ?_
  refine ax_ret (r := some (am_I (w 48))) rfl rfl ?_
  exact hQ

theorem m_opens {d : Nat} (hd : 5 ≤ d) {σ : am_S} {T : sp_T} (hT : TM_ T σ) (hV : TV_ T) {b : Int} {w v : sp_V} (hw : σ.1 163 = w) (hv : v = cp_ w (σ.1 164) 50) (hW : VV_ T b w) (hb9 : b ≤ 100000) {a e : Nat} {hs : Nat → sp_V} (hH : MH_ a e hs σ) {x : Int} {Q : Option am_V → am_S → Prop} (hN : (sn_ T w x) = false → Q (some (am_I (-1))) σ) (hY : (sn_ T w x) = true → ∀ σ', fq_ [163, 164, 165] [64, 65] σ σ' → MH_ (ha_ a) 0 (hk_ a hs (op_ T v x.toNat)) σ' → Q (some (am_I (op_ T v x.toNat (12 + x.toNat)))) σ') : am_Ev d 215 [am_R 135, am_I x] σ Q := by
  obtain ⟨d, rfl⟩ : ∃ e, d = e + 1 := ⟨d - 1, by omega⟩
  have h6 := hV.nP
  have hO := hV.nO
  have hS := hV.nS
  have hR := hV.nR
  have hvw : ∀ j, j < 50 → v j = w j := fun j hj => by rw [hv]; exact cp_at hj
  have hW2 : VV_ T b v := hW.cg hV hvw
  refine ev_in (m := 215) (c := k_X9_opens) (L := [some (am_R 135), some (am_I x)]) rfl rfl rfl rfl rfl rfl ?_
  refine ax_load (q := 1) rfl rfl rfl rfl rfl ?_
  refine ax_load (q := 2) rfl rfl rfl rfl rfl ?_
  refine ax_callv (q := 5) rfl rfl rfl rfl rfl rfl ?_
  refine m_isShutNow (by omega) hT hV hw ?_
  refine ax_if_ne (q := 8) (x := 10) rfl rfl (fun h5 => ?_) (fun h5 => ?_)
  · have hb5 := it_n0 h5
    obtain ⟨p, rfl, hp, hsp⟩ := sn_t hb5
    refine ax_load (q := 11) rfl rfl rfl rfl rfl ?_
    refine ax_callv (q := 14) rfl rfl rfl rfl rfl rfl ?_
    refine m_act (by omega) hH (fun σ1 hf1 hA1 => ?_)
    have hT1 := hT.fq hf1 (by decide) (by decide)
    have hw1 : σ1.1 163 = w := (hf1.1 163 (by decide) (by decide)).trans hw
    refine ax_load (q := 15) rfl rfl rfl rfl rfl ?_
    refine ax_callv (q := 18) rfl rfl rfl rfl rfl rfl ?_
    refine m_load (by omega) ?_
    rw [hw1, hf1.1 164 (by decide) (by decide), ← hv]
    refine ax_load (q := 19) rfl rfl rfl rfl rfl ?_
    refine ax_load (q := 20) rfl rfl rfl rfl rfl ?_
    refine ax_callv (q := 23) rfl rfl rfl rfl rfl rfl ?_
    refine m_openOf (by omega) (hT1.sI (by decide)) hV (sI_at _ _ _) hW2 hp ?_
    refine ax_load (q := 24) rfl rfl rfl rfl rfl ?_
    refine ax_callv (q := 27) rfl rfl rfl rfl rfl rfl ?_
    refine m_keep (by omega) ?_
    refine ax_load (q := 28) rfl rfl rfl rfl rfl ?_
    refine ax_getf (q := 31) (v := am_R 163) rfl rfl (rfl) ?_
    refine ax_const (q := 33) (v := am_I 12) rfl rfl rfl ?_
    refine ax_load (q := 34) rfl rfl rfl rfl rfl ?_
    refine ax_iadd (q := 35) (z := ((12 + p : Nat) : Int)) rfl rfl (am_we (by omega) (by omega) (by omega)) ?_
    refine bx_iald (q := 36) (k := 12 + p) (z := op_ T v p (12 + p)) rfl rfl (rfl) (by omega) (by omega) (by rw [sI_at, cp_at (by omega), sI_at]) ?_
    refine ax_ret (r := some (am_I (op_ T v p (12 + p)))) rfl rfl ?_
    refine hY (by simp [*]) _ (fq_sI (fq_sI (fq_sI (⟨fun b hb h9 => hf1.1 b (fun q => hb (by revert q; simp; omega)) h9, hf1.2.1, hf1.2.2⟩ : fq_ [163, 164, 165] [64, 65] σ σ1) (by decide) (by decide)) (by decide) (by decide)) (by decide) (by decide)) (MA_.mh (MA_.fq hA1 (A := [163, 164]) (F := []) (fq_sI (fq_sI (fq_sI (fq_rf _ _ _) (by decide) (by decide)) (by decide) (by decide)) (by decide) (by decide)) (by decide) (by decide) (by decide)) (fun j hj => ?_))
    rw [sI_at, cp_at hj, sI_at]
    simp only [Int.toNat_natCast]
  · have hb5 := it_0 h5
    refine ax_const (q := 9) (v := am_I (-1)) rfl rfl rfl ?_
    refine ax_ret (r := some (am_I (-1))) rfl rfl ?_
    exact hN (by simp [*])

theorem m_year {d : Nat} (hd : 8 ≤ d) {σ : am_S} {T : sp_T} (hT : TM_ T σ) (hV : TV_ T) {b : Int} {w v : sp_V} (hw : σ.1 163 = w) (hv : v = cp_ w (σ.1 164) 50) (hW : VV_ T b w) (hb9 : b ≤ 100000) {a e : Nat} {hs : Nat → sp_V} (hH : MH_ a e hs σ)  {Q : Option am_V → am_S → Prop} (hN : (decide (¬ w 49 = 999)) = false → Q (some (am_I (-1))) σ) (hY : (decide (¬ w 49 = 999)) = true → ∀ σ', fq_ [143, 144, 163, 164, 165] [64, 65] σ σ' → MH_ (ha_ a) 0 (hk_ a hs (yr_ T v)) σ' → Q (some (am_I (((yo_ T v : Nat) : Int)))) σ') : am_Ev d 216 [am_R 135] σ Q := by
  obtain ⟨d, rfl⟩ : ∃ e, d = e + 1 := ⟨d - 1, by omega⟩
  have h6 := hV.nP
  have hO := hV.nO
  have hS := hV.nS
  have hR := hV.nR
  have hvw : ∀ j, j < 50 → v j = w j := fun j hj => by rw [hv]; exact cp_at hj
  have hW2 : VV_ T b v := hW.cg hV hvw
  refine ev_in (m := 216) (c := k_X9_year) (L := [some (am_R 135), none]) rfl rfl rfl rfl rfl rfl ?_
  refine ax_load (q := 1) rfl rfl rfl rfl rfl ?_
  refine ax_getf (q := 4) (v := am_R 163) rfl rfl (rfl) ?_
  refine ax_const (q := 6) (v := am_I 49) rfl rfl rfl ?_
  refine bx_iald (q := 7) (k := 49) (z := w 49) rfl rfl (rfl) (by omega) (by omega) (congrFun hw _) ?_
  refine ax_const (q := 10) (v := am_I 999) rfl rfl rfl ?_
  refine ax_icmp_ne (q := 13) (x := 15) rfl rfl (fun h10 => ?_) (fun h10 => ?_)
  · refine ax_load (q := 16) rfl rfl rfl rfl rfl ?_
    refine ax_callv (q := 19) rfl rfl rfl rfl rfl rfl ?_
    refine m_act (by omega) hH (fun σ1 hf1 hA1 => ?_)
    have hT1 := hT.fq hf1 (by decide) (by decide)
    have hw1 : σ1.1 163 = w := (hf1.1 163 (by decide) (by decide)).trans hw
    refine ax_load (q := 20) rfl rfl rfl rfl rfl ?_
    refine ax_callv (q := 23) rfl rfl rfl rfl rfl rfl ?_
    refine m_load (by omega) ?_
    rw [hw1, hf1.1 164 (by decide) (by decide), ← hv]
    refine ax_load (q := 24) rfl rfl rfl rfl rfl ?_
    refine ax_callv (q := 27) rfl rfl rfl rfl rfl rfl ?_
    refine m_goYear (by omega) (hT1.sI (by decide)) hV (sI_at _ _ _) hW2 (by omega) (fun σ2 hf2 hx2 => ?_)
    refine ax_store (q := 28) (L' := [some (am_R 135), some (am_I ((yo_ T v : Nat) : Int))]) rfl rfl rfl rfl rfl rfl ?_
    refine ax_load (q := 29) rfl rfl rfl rfl rfl ?_
    refine ax_callv (q := 32) rfl rfl rfl rfl rfl rfl ?_
    refine m_keep (by omega) ?_
    refine ax_load (q := 33) rfl rfl rfl rfl rfl ?_
    refine ax_ret (r := some (am_I ((yo_ T v : Nat) : Int))) rfl rfl ?_
    refine hY (by simp [*]) _ (fq_sI (fq_tr (fq_sI (⟨fun b hb h9 => hf1.1 b (fun q => hb (by revert q; simp; omega)) h9, hf1.2.1, hf1.2.2⟩ : fq_ [143, 144, 163, 164, 165] [64, 65] σ σ1) (by decide) (by decide)) (fq_fr (A := [143, 144, 164]) (F := []) hf2 (by decide) (fun a h => h)) (by decide) (by decide)) (by decide) (by decide)) (MA_.mh (MA_.fq hA1 (A := [143, 144, 163, 164]) (F := []) (fq_sI (fq_tr (fq_sI (fq_rf _ _ _) (by decide) (by decide)) (fq_fr (A := [143, 144, 164]) (F := []) hf2 (by decide) (fun a h => h)) (by decide) (by decide)) (by decide) (by decide)) (by decide) (by decide) (by decide)) (fun j hj => ?_))
    rw [sI_at, cp_at hj, hx2]
  · refine ax_const (q := 14) (v := am_I (-1)) rfl rfl rfl ?_
    refine ax_ret (r := some (am_I (-1))) rfl rfl ?_
    exact hN (by simp [*])

theorem m_undo {d : Nat} (hd : 2 ≤ d) {σ : am_S} {a e : Nat} {hs : Nat → sp_V} (hH : MH_ a e hs σ) {Q : Option am_V → am_S → Prop} (hN : a = 0 → Q (some (am_I 0)) σ) (hY : 0 < a → ∀ σ', fq_ [163, 165] [64, 65] σ σ' → MH_ (a - 1) (e + 1) hs σ' → Q (some (am_I 1)) σ') : am_Ev d 217 [am_R 135] σ Q := by
  obtain ⟨d, rfl⟩ : ∃ e, d = e + 1 := ⟨d - 1, by omega⟩
  obtain ⟨k1, k2, k3, k4, k5, k6⟩ := hH
  refine ev_in (m := 217) (c := k_X9_undo) (L := [some (am_R 135)]) rfl rfl rfl rfl rfl rfl ?_
  refine ax_load (q := 1) rfl rfl rfl rfl rfl ?_
  refine ax_getf (q := 4) (v := am_I ((a : Nat) : Int)) rfl rfl (am_fg rfl k1) ?_
  refine ax_if_ne (q := 7) (x := 9) rfl rfl (fun h4 => ?_) (fun h4 => ?_)
  · refine ax_load (q := 10) rfl rfl rfl rfl rfl ?_
    refine ax_dup (q := 11) rfl rfl rfl ?_
    refine ax_getf (q := 14) (v := am_I ((a : Nat) : Int)) rfl rfl (am_fg rfl k1) ?_
    refine ax_const (q := 15) (v := am_I 1) rfl rfl rfl ?_
    refine ax_isub (q := 16) (z := (((a - 1) : Nat) : Int)) rfl rfl (am_we (by omega) (by omega) (by omega)) ?_
    refine ax_putf (q := 19) rfl rfl rfl ?_
    refine ax_load (q := 20) rfl rfl rfl rfl rfl ?_
    refine ax_dup (q := 21) rfl rfl rfl ?_
    refine ax_getf (q := 24) (v := am_I ((e : Nat) : Int)) rfl rfl (am_fg rfl (by simp [am_sI, am_up, k2])) ?_
    refine ax_const (q := 25) (v := am_I 1) rfl rfl rfl ?_
    refine ax_iadd (q := 26) (z := ((e + 1 : Nat) : Int)) rfl rfl (am_we (by omega) (by omega) (by omega)) ?_
    refine ax_putf (q := 29) rfl rfl rfl ?_
    refine ax_load (q := 30) rfl rfl rfl rfl rfl ?_
    refine ax_const (q := 32) (v := am_I 50) rfl rfl rfl ?_
    refine ax_load (q := 33) rfl rfl rfl rfl rfl ?_
    refine ax_getf (q := 36) (v := am_I (((a - 1) : Nat) : Int)) rfl rfl (am_fg rfl (by simp [am_sI, am_up])) ?_
    refine ax_imul (q := 37) (z := ((50 * (a - 1) : Nat) : Int)) rfl rfl (am_we (by omega) (by omega) (by omega)) ?_
    refine ax_callv (q := 40) rfl rfl rfl rfl rfl rfl ?_
    refine m_exchange (by omega) (f := 50 * (a - 1)) (by omega) ?_
    refine ax_const (q := 41) (v := am_I 1) rfl rfl rfl ?_
    refine ax_ret (r := some (am_I 1)) rfl ⟨rfl, Or.inr rfl⟩ ?_
    refine hY (by omega) _ (fq_sI (fq_sI (fq_s5 (fq_s5 (fq_rf _ _ _) (by decide)) (by decide)) (by decide) (by decide)) (by decide) (by decide)) ⟨by simp [am_sI, am_up], by simp [am_sI, am_up], by omega, fun i j hi hj => ?_, fun i j hi hj => ?_, fun j hj => ?_⟩
    · rw [sI_ne (by decide), sI_at, cd_out (by omega)]
      exact k4 i j (by omega) hj
    · rw [sI_ne (by decide), sI_at]
      by_cases hi0 : i = 0
      · subst hi0
        rw [show 50 * (a - 1 + 0) + j = 50 * (a - 1) + j by omega, cd_in hj, show a - 1 + 1 + 0 = a by omega]
        exact k6 j hj
      · rw [cd_out (by omega), show 50 * (a - 1 + i) + j = 50 * (a + (i - 1)) + j by omega, show a - 1 + 1 + i = a + 1 + (i - 1) by omega]
        exact k5 (i - 1) j (by omega) hj
    · rw [sI_at, cp_at hj]
      exact k4 (a - 1) j (by omega) hj
  · refine ax_const (q := 8) (v := am_I 0) rfl rfl rfl ?_
    refine ax_ret (r := some (am_I 0)) rfl ⟨rfl, Or.inl rfl⟩ ?_
    exact hN (by omega)

theorem m_redo {d : Nat} (hd : 2 ≤ d) {σ : am_S} {a e : Nat} {hs : Nat → sp_V} (hH : MH_ a e hs σ) {Q : Option am_V → am_S → Prop} (hN : e = 0 → Q (some (am_I 0)) σ) (hY : 0 < e → ∀ σ', fq_ [163, 165] [64, 65] σ σ' → MH_ (a + 1) (e - 1) hs σ' → Q (some (am_I 1)) σ') : am_Ev d 218 [am_R 135] σ Q := by
  obtain ⟨d, rfl⟩ : ∃ e, d = e + 1 := ⟨d - 1, by omega⟩
  obtain ⟨k1, k2, k3, k4, k5, k6⟩ := hH
  refine ev_in (m := 218) (c := k_X9_redo) (L := [some (am_R 135)]) rfl rfl rfl rfl rfl rfl ?_
  refine ax_load (q := 1) rfl rfl rfl rfl rfl ?_
  refine ax_getf (q := 4) (v := am_I ((e : Nat) : Int)) rfl rfl (am_fg rfl k2) ?_
  refine ax_if_ne (q := 7) (x := 9) rfl rfl (fun h4 => ?_) (fun h4 => ?_)
  · refine ax_load (q := 10) rfl rfl rfl rfl rfl ?_
    refine ax_const (q := 12) (v := am_I 50) rfl rfl rfl ?_
    refine ax_load (q := 13) rfl rfl rfl rfl rfl ?_
    refine ax_getf (q := 16) (v := am_I ((a : Nat) : Int)) rfl rfl (am_fg rfl k1) ?_
    refine ax_imul (q := 17) (z := ((50 * a : Nat) : Int)) rfl rfl (am_we (by omega) (by omega) (by omega)) ?_
    refine ax_callv (q := 20) rfl rfl rfl rfl rfl rfl ?_
    refine m_exchange (by omega) (f := 50 * a) (by omega) ?_
    refine ax_load (q := 21) rfl rfl rfl rfl rfl ?_
    refine ax_dup (q := 22) rfl rfl rfl ?_
    refine ax_getf (q := 25) (v := am_I ((a : Nat) : Int)) rfl rfl (am_fg rfl (by simp [am_sI, am_up, k1])) ?_
    refine ax_const (q := 26) (v := am_I 1) rfl rfl rfl ?_
    refine ax_iadd (q := 27) (z := ((a + 1 : Nat) : Int)) rfl rfl (am_we (by omega) (by omega) (by omega)) ?_
    refine ax_putf (q := 30) rfl rfl rfl ?_
    refine ax_load (q := 31) rfl rfl rfl rfl rfl ?_
    refine ax_dup (q := 32) rfl rfl rfl ?_
    refine ax_getf (q := 35) (v := am_I ((e : Nat) : Int)) rfl rfl (am_fg rfl (by simp [am_sI, am_up, k2])) ?_
    refine ax_const (q := 36) (v := am_I 1) rfl rfl rfl ?_
    refine ax_isub (q := 37) (z := (((e - 1) : Nat) : Int)) rfl rfl (am_we (by omega) (by omega) (by omega)) ?_
    refine ax_putf (q := 40) rfl rfl rfl ?_
    refine ax_const (q := 41) (v := am_I 1) rfl rfl rfl ?_
    refine ax_ret (r := some (am_I 1)) rfl ⟨rfl, Or.inr rfl⟩ ?_
    refine hY (by omega) _ (fq_s5 (fq_s5 (fq_sI (fq_sI (fq_rf _ _ _) (by decide) (by decide)) (by decide) (by decide)) (by decide)) (by decide)) ⟨by simp [am_sI, am_up], by simp [am_sI, am_up], by omega, fun i j hi hj => ?_, fun i j hi hj => ?_, fun j hj => ?_⟩
    · rw [sI_ne (by decide), sI_ne (by decide), sI_ne (by decide), sI_at]
      by_cases hi0 : i = a
      · subst hi0
        rw [cd_in hj]
        exact k6 j hj
      · rw [cd_out (by omega)]
        exact k4 i j (by omega) hj
    · rw [sI_ne (by decide), sI_ne (by decide), sI_ne (by decide), sI_at, cd_out (by omega), show 50 * (a + 1 + i) + j = 50 * (a + (i + 1)) + j by omega, show a + 1 + 1 + i = a + 1 + (i + 1) by omega]
      exact k5 (i + 1) j (by omega) hj
    · rw [sI_ne (by decide), sI_ne (by decide), sI_at, cp_at hj, show 50 * a + j = 50 * (a + 0) + j by omega]
      exact k5 0 j (by omega) hj
  · refine ax_const (q := 8) (v := am_I 0) rfl rfl rfl ?_
    refine ax_ret (r := some (am_I 0)) rfl ⟨rfl, Or.inl rfl⟩ ?_
    exact hN (by omega)

