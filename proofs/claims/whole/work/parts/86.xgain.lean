theorem x_isUnitT {d : Nat} (hd : 1 ≤ d) {σ : am_S} {s : Int} (hs : s = 10 ∨ s = 18 ∨ s = 19 ∨ s = 20 ∨ s = 101) {Q : Option am_V → am_S → Prop} (hQ : Q (some (am_I 1)) σ) : am_Ev d 3 [am_I s] σ Q := by
  obtain ⟨d, rfl⟩ : ∃ e, d = e + 1 := ⟨d - 1, by omega⟩
  refine ev_in (m := 3) (c := k_X0_isUnit) (L := [some (am_I s)]) rfl rfl rfl rfl rfl rfl ?_
  refine ax_load (q := 1) rfl rfl rfl rfl rfl ?_
  rcases hs with rfl | rfl | rfl | rfl | rfl
  · refine ax_lsw (q := 52) rfl (by decide) ?_
    refine ax_const (q := 53) (v := am_I 1) rfl rfl rfl ?_
    refine ax_ret (r := some (am_I 1)) rfl ⟨rfl, Or.inr rfl⟩ ?_
    exact hQ
  · refine ax_lsw (q := 52) rfl (by decide) ?_
    refine ax_const (q := 53) (v := am_I 1) rfl rfl rfl ?_
    refine ax_ret (r := some (am_I 1)) rfl ⟨rfl, Or.inr rfl⟩ ?_
    exact hQ
  · refine ax_lsw (q := 52) rfl (by decide) ?_
    refine ax_const (q := 53) (v := am_I 1) rfl rfl rfl ?_
    refine ax_ret (r := some (am_I 1)) rfl ⟨rfl, Or.inr rfl⟩ ?_
    exact hQ
  · refine ax_lsw (q := 52) rfl (by decide) ?_
    refine ax_const (q := 53) (v := am_I 1) rfl rfl rfl ?_
    refine ax_ret (r := some (am_I 1)) rfl ⟨rfl, Or.inr rfl⟩ ?_
    exact hQ
  · refine ax_lsw (q := 52) rfl (by decide) ?_
    refine ax_const (q := 53) (v := am_I 1) rfl rfl rfl ?_
    refine ax_ret (r := some (am_I 1)) rfl ⟨rfl, Or.inr rfl⟩ ?_
    exact hQ

theorem x_isUnitF {d : Nat} (hd : 1 ≤ d) {σ : am_S} {s : Int} (hs : ¬ (s = 10 ∨ s = 18 ∨ s = 19 ∨ s = 20 ∨ s = 101)) {Q : Option am_V → am_S → Prop} (hQ : Q (some (am_I 0)) σ) : am_Ev d 3 [am_I s] σ Q := by
  obtain ⟨d, rfl⟩ : ∃ e, d = e + 1 := ⟨d - 1, by omega⟩
  refine ev_in (m := 3) (c := k_X0_isUnit) (L := [some (am_I s)]) rfl rfl rfl rfl rfl rfl ?_
  refine ax_load (q := 1) rfl rfl rfl rfl rfl ?_
  simp only [not_or] at hs
  obtain ⟨k1, k2, k3, k4, k5⟩ := hs
  refine ax_lsw (q := 54) rfl (by unfold am_lsw; simp [Op.lookupswitch.offset, Ne.symm k1, Ne.symm k2, Ne.symm k3, Ne.symm k4, Ne.symm k5]) ?_
  refine ax_const (q := 55) (v := am_I 0) rfl rfl rfl ?_
  refine ax_ret (r := some (am_I 0)) rfl ⟨rfl, Or.inl rfl⟩ ?_
  exact hQ

theorem x_joined {d : Nat} (hd : 1 ≤ d) {σ : am_S} {s x y : Int} (hs : s = 43 ∨ s = 45 ∨ s = 42 ∨ s = 47 ∨ s = 37 ∨ s = 60 ∨ s = 62 ∨ s = 61 ∨ s = 38 ∨ s = 124) {Q : Option am_V → am_S → Prop} (hQ : Q (some (am_I (wk_ s x y))) σ) : am_Ev d 5 [am_I (fk_ 3 s), am_I x, am_I y] σ Q := by
  obtain ⟨d, rfl⟩ : ∃ e, d = e + 1 := ⟨d - 1, by omega⟩
  refine ev_in (m := 5) (c := k_X0_joined) (L := [some (am_I (fk_ 3 s)), some (am_I x), some (am_I y)]) rfl rfl rfl rfl rfl rfl ?_
  refine ax_load (q := 1) rfl rfl rfl rfl rfl ?_
  rcases hs with rfl | rfl | rfl | rfl | rfl | rfl | rfl | rfl | rfl | rfl
  · refine ax_lsw (q := 84) rfl (by decide) ?_
    refine ax_load (q := 85) rfl rfl rfl rfl rfl ?_
    refine ax_load (q := 86) rfl rfl rfl rfl rfl ?_
    refine ax_iadd (q := 87) (z := am_w (x + y)) rfl rfl (rfl) ?_
    refine ax_ret (r := some (am_I (am_w (x + y)))) rfl rfl ?_
    refine Eq.mp (congrArg (fun z => Q (some (am_I z)) σ) ?_) hQ
    simp [wk_, *]
  · refine ax_lsw (q := 88) rfl (by decide) ?_
    refine ax_load (q := 89) rfl rfl rfl rfl rfl ?_
    refine ax_load (q := 90) rfl rfl rfl rfl rfl ?_
    refine ax_isub (q := 91) (z := am_w (x - y)) rfl rfl (rfl) ?_
    refine ax_ret (r := some (am_I (am_w (x - y)))) rfl rfl ?_
    refine Eq.mp (congrArg (fun z => Q (some (am_I z)) σ) ?_) hQ
    simp [wk_, *]
  · refine ax_lsw (q := 92) rfl (by decide) ?_
    refine ax_load (q := 93) rfl rfl rfl rfl rfl ?_
    refine ax_load (q := 94) rfl rfl rfl rfl rfl ?_
    refine ax_imul (q := 95) (z := am_w (x * y)) rfl rfl (rfl) ?_
    refine ax_ret (r := some (am_I (am_w (x * y)))) rfl rfl ?_
    refine Eq.mp (congrArg (fun z => Q (some (am_I z)) σ) ?_) hQ
    simp [wk_, *]
  · refine ax_lsw (q := 96) rfl (by decide) ?_
    refine ax_load (q := 97) rfl rfl rfl rfl rfl ?_
    refine ax_if_ne (q := 100) (x := 104) rfl rfl (fun h97 => ?_) (fun h97 => ?_)
    · refine ax_load (q := 105) rfl rfl rfl rfl rfl ?_
      refine ax_load (q := 106) rfl rfl rfl rfl rfl ?_
      refine ax_idiv (q := 107) (z := am_div x y) rfl rfl (h97) (rfl) ?_
      refine ax_ret (r := some (am_I (am_div x y))) rfl rfl ?_
      refine Eq.mp (congrArg (fun z => Q (some (am_I z)) σ) ?_) hQ
      simp [wk_, *]
    · refine ax_const (q := 101) (v := am_I 0) rfl rfl rfl ?_
      refine ax_goto (x := 107) rfl ?_
      refine ax_ret (r := some (am_I 0)) rfl rfl ?_
      refine Eq.mp (congrArg (fun z => Q (some (am_I z)) σ) ?_) hQ
      simp [wk_, *]
  · refine ax_lsw (q := 108) rfl (by decide) ?_
    refine ax_load (q := 109) rfl rfl rfl rfl rfl ?_
    refine ax_if_ne (q := 112) (x := 116) rfl rfl (fun h109 => ?_) (fun h109 => ?_)
    · refine ax_load (q := 117) rfl rfl rfl rfl rfl ?_
      refine ax_load (q := 118) rfl rfl rfl rfl rfl ?_
      refine ax_irem (q := 119) (z := am_rem x y) rfl rfl (h109) (rfl) ?_
      refine ax_ret (r := some (am_I (am_rem x y))) rfl rfl ?_
      refine Eq.mp (congrArg (fun z => Q (some (am_I z)) σ) ?_) hQ
      simp [wk_, *]
    · refine ax_const (q := 113) (v := am_I 0) rfl rfl rfl ?_
      refine ax_goto (x := 119) rfl ?_
      refine ax_ret (r := some (am_I 0)) rfl rfl ?_
      refine Eq.mp (congrArg (fun z => Q (some (am_I z)) σ) ?_) hQ
      simp [wk_, *]
  · refine ax_lsw (q := 120) rfl (by decide) ?_
    refine ax_load (q := 121) rfl rfl rfl rfl rfl ?_
    refine ax_load (q := 122) rfl rfl rfl rfl rfl ?_
    refine ax_icmp_ge (q := 125) (x := 129) rfl rfl (fun h122 => ?_) (fun h122 => ?_)
    · refine ax_const (q := 130) (v := am_I 0) rfl rfl rfl ?_
      refine ax_ret (r := some (am_I 0)) rfl rfl ?_
      refine Eq.mp (congrArg (fun z => Q (some (am_I z)) σ) ?_) hQ
      simp [wk_, *]
    · refine ax_const (q := 126) (v := am_I 1) rfl rfl rfl ?_
      refine ax_goto (x := 130) rfl ?_
      refine ax_ret (r := some (am_I 1)) rfl rfl ?_
      refine Eq.mp (congrArg (fun z => Q (some (am_I z)) σ) ?_) hQ
      simp [wk_, *]
  · refine ax_lsw (q := 131) rfl (by decide) ?_
    refine ax_load (q := 132) rfl rfl rfl rfl rfl ?_
    refine ax_load (q := 133) rfl rfl rfl rfl rfl ?_
    refine ax_icmp_le (q := 136) (x := 140) rfl rfl (fun h133 => ?_) (fun h133 => ?_)
    · refine ax_const (q := 141) (v := am_I 0) rfl rfl rfl ?_
      refine ax_ret (r := some (am_I 0)) rfl rfl ?_
      refine Eq.mp (congrArg (fun z => Q (some (am_I z)) σ) ?_) hQ
      simp [wk_, *]
    · refine ax_const (q := 137) (v := am_I 1) rfl rfl rfl ?_
      refine ax_goto (x := 141) rfl ?_
      refine ax_ret (r := some (am_I 1)) rfl rfl ?_
      refine Eq.mp (congrArg (fun z => Q (some (am_I z)) σ) ?_) hQ
      simp [wk_, *]
  · refine ax_lsw (q := 142) rfl (by decide) ?_
    refine ax_load (q := 143) rfl rfl rfl rfl rfl ?_
    refine ax_load (q := 144) rfl rfl rfl rfl rfl ?_
    refine ax_icmp_ne (q := 147) (x := 151) rfl rfl (fun h144 => ?_) (fun h144 => ?_)
    · refine ax_const (q := 152) (v := am_I 0) rfl rfl rfl ?_
      refine ax_ret (r := some (am_I 0)) rfl rfl ?_
      refine Eq.mp (congrArg (fun z => Q (some (am_I z)) σ) ?_) hQ
      simp [wk_, *]
    · refine ax_const (q := 148) (v := am_I 1) rfl rfl rfl ?_
      refine ax_goto (x := 152) rfl ?_
      refine ax_ret (r := some (am_I 1)) rfl rfl ?_
      refine Eq.mp (congrArg (fun z => Q (some (am_I z)) σ) ?_) hQ
      simp [wk_, *]
  · refine ax_lsw (q := 153) rfl (by decide) ?_
    refine ax_load (q := 154) rfl rfl rfl rfl rfl ?_
    refine ax_if_eq (q := 157) (x := 165) rfl rfl (fun h154 => ?_) (fun h154 => ?_)
    · refine ax_const (q := 166) (v := am_I 0) rfl rfl rfl ?_
      refine ax_ret (r := some (am_I 0)) rfl rfl ?_
      refine Eq.mp (congrArg (fun z => Q (some (am_I z)) σ) ?_) hQ
      simp [wk_, *]
    · refine ax_load (q := 158) rfl rfl rfl rfl rfl ?_
      refine ax_if_eq (q := 161) (x := 165) rfl rfl (fun h158 => ?_) (fun h158 => ?_)
      · refine ax_const (q := 166) (v := am_I 0) rfl rfl rfl ?_
        refine ax_ret (r := some (am_I 0)) rfl rfl ?_
        refine Eq.mp (congrArg (fun z => Q (some (am_I z)) σ) ?_) hQ
        simp [wk_, *]
      · refine ax_const (q := 162) (v := am_I 1) rfl rfl rfl ?_
        refine ax_goto (x := 166) rfl ?_
        refine ax_ret (r := some (am_I 1)) rfl rfl ?_
        refine Eq.mp (congrArg (fun z => Q (some (am_I z)) σ) ?_) hQ
        simp [wk_, *]
  · refine ax_lsw (q := 167) rfl (by decide) ?_
    refine ax_load (q := 168) rfl rfl rfl rfl rfl ?_
    refine ax_if_ne (q := 171) (x := 175) rfl rfl (fun h168 => ?_) (fun h168 => ?_)
    · refine ax_const (q := 176) (v := am_I 1) rfl rfl rfl ?_
      refine ax_goto (x := 180) rfl ?_
      refine ax_ret (r := some (am_I 1)) rfl rfl ?_
      refine Eq.mp (congrArg (fun z => Q (some (am_I z)) σ) ?_) hQ
      simp [wk_, *]
    · refine ax_load (q := 172) rfl rfl rfl rfl rfl ?_
      refine ax_if_eq (q := 175) (x := 179) rfl rfl (fun h172 => ?_) (fun h172 => ?_)
      · refine ax_const (q := 180) (v := am_I 0) rfl rfl rfl ?_
        refine ax_ret (r := some (am_I 0)) rfl rfl ?_
        refine Eq.mp (congrArg (fun z => Q (some (am_I z)) σ) ?_) hQ
        simp [wk_, *]
      · refine ax_const (q := 176) (v := am_I 1) rfl rfl rfl ?_
        refine ax_goto (x := 180) rfl ?_
        refine ax_ret (r := some (am_I 1)) rfl rfl ?_
        refine Eq.mp (congrArg (fun z => Q (some (am_I z)) σ) ?_) hQ
        simp [wk_, *]

theorem x_valueOf0 {d : Nat} (hd : 1 ≤ d) {σ : am_S} {t : Nat} {T : sp_T} (hX : XT_ t T σ) (hV : TV_ T) {k : Nat} (hk : k < nF_ T) (hn3 : nF_ T ≤ 300) {l a y s : Int} (h0 : T 140 k = 0) {Q : Option am_V → am_S → Prop} (hQ : Q (some (am_I (T 141 k))) σ) : am_Ev d 4 [am_R (t + 28), am_I ((k : Nat) : Int), am_I l, am_I a, am_I y, am_I s] σ Q := by
  obtain ⟨d, rfl⟩ : ∃ e, d = e + 1 := ⟨d - 1, by omega⟩
  refine ev_in (m := 4) (c := k_X0_valueOf) (L := [some (am_R (t + 28)), some (am_I ((k : Nat) : Int)), some (am_I l), some (am_I a), some (am_I y), some (am_I s)]) rfl rfl rfl rfl rfl rfl ?_
  refine ax_load (q := 1) rfl rfl rfl rfl rfl ?_
  refine ax_getf (q := 4) (v := am_R (t + 29)) rfl rfl (xg0_0 hX.ht) ?_
  refine ax_load (q := 5) rfl rfl rfl rfl rfl ?_
  refine bx_iald (q := 6) (k := k) (z := 101) rfl rfl (kd_29 hX.ht) (by omega) (by omega) ((hX.stp _ hk).trans (by unfold fk_; simp [h0])) ?_
  refine ax_lsw (q := 58) rfl (by decide) ?_
  refine ax_load (q := 59) rfl rfl rfl rfl rfl ?_
  refine ax_getf (q := 62) (v := am_R (t + 30)) rfl rfl (xg0_1 hX.ht) ?_
  refine ax_load (q := 63) rfl rfl rfl rfl rfl ?_
  refine bx_iald (q := 64) (k := k) (z := T 141 k) rfl rfl (kd_30 hX.ht) (by omega) (by omega) (hX.num _ hk h0) ?_
  refine ax_ret (r := some (am_I (T 141 k))) rfl rfl ?_
  exact hQ

theorem x_valueOf10 {d : Nat} (hd : 1 ≤ d) {σ : am_S} {t : Nat} {T : sp_T} (hX : XT_ t T σ) (hV : TV_ T) {k : Nat} (hk : k < nF_ T) (hn3 : nF_ T ≤ 300) {l a y s : Int} (h0 : T 140 k = 1) (h1 : T 141 k = 0) {Q : Option am_V → am_S → Prop} (hQ : Q (some (am_I (ak_ l a y s 0))) σ) : am_Ev d 4 [am_R (t + 28), am_I ((k : Nat) : Int), am_I l, am_I a, am_I y, am_I s] σ Q := by
  obtain ⟨d, rfl⟩ : ∃ e, d = e + 1 := ⟨d - 1, by omega⟩
  refine ev_in (m := 4) (c := k_X0_valueOf) (L := [some (am_R (t + 28)), some (am_I ((k : Nat) : Int)), some (am_I l), some (am_I a), some (am_I y), some (am_I s)]) rfl rfl rfl rfl rfl rfl ?_
  refine ax_load (q := 1) rfl rfl rfl rfl rfl ?_
  refine ax_getf (q := 4) (v := am_R (t + 29)) rfl rfl (xg0_0 hX.ht) ?_
  refine ax_load (q := 5) rfl rfl rfl rfl rfl ?_
  refine bx_iald (q := 6) (k := k) (z := 18) rfl rfl (kd_29 hX.ht) (by omega) (by omega) ((hX.stp _ hk).trans (by unfold fk_; simp [h0, h1])) ?_
  refine ax_lsw (q := 48) rfl (by decide) ?_
  refine ax_load (q := 49) rfl rfl rfl rfl rfl ?_
  refine ax_ret (r := some (am_I l)) rfl rfl ?_
  exact hQ

theorem x_valueOf11 {d : Nat} (hd : 1 ≤ d) {σ : am_S} {t : Nat} {T : sp_T} (hX : XT_ t T σ) (hV : TV_ T) {k : Nat} (hk : k < nF_ T) (hn3 : nF_ T ≤ 300) {l a y s : Int} (h0 : T 140 k = 1) (h1 : T 141 k = 1) {Q : Option am_V → am_S → Prop} (hQ : Q (some (am_I (ak_ l a y s 1))) σ) : am_Ev d 4 [am_R (t + 28), am_I ((k : Nat) : Int), am_I l, am_I a, am_I y, am_I s] σ Q := by
  obtain ⟨d, rfl⟩ : ∃ e, d = e + 1 := ⟨d - 1, by omega⟩
  refine ev_in (m := 4) (c := k_X0_valueOf) (L := [some (am_R (t + 28)), some (am_I ((k : Nat) : Int)), some (am_I l), some (am_I a), some (am_I y), some (am_I s)]) rfl rfl rfl rfl rfl rfl ?_
  refine ax_load (q := 1) rfl rfl rfl rfl rfl ?_
  refine ax_getf (q := 4) (v := am_R (t + 29)) rfl rfl (xg0_0 hX.ht) ?_
  refine ax_load (q := 5) rfl rfl rfl rfl rfl ?_
  refine bx_iald (q := 6) (k := k) (z := 10) rfl rfl (kd_29 hX.ht) (by omega) (by omega) ((hX.stp _ hk).trans (by unfold fk_; simp [h0, h1])) ?_
  refine ax_lsw (q := 50) rfl (by decide) ?_
  refine ax_load (q := 51) rfl rfl rfl rfl rfl ?_
  refine ax_ret (r := some (am_I a)) rfl rfl ?_
  exact hQ

theorem x_valueOf12 {d : Nat} (hd : 1 ≤ d) {σ : am_S} {t : Nat} {T : sp_T} (hX : XT_ t T σ) (hV : TV_ T) {k : Nat} (hk : k < nF_ T) (hn3 : nF_ T ≤ 300) {l a y s : Int} (h0 : T 140 k = 1) (h1 : T 141 k = 2) {Q : Option am_V → am_S → Prop} (hQ : Q (some (am_I (ak_ l a y s 2))) σ) : am_Ev d 4 [am_R (t + 28), am_I ((k : Nat) : Int), am_I l, am_I a, am_I y, am_I s] σ Q := by
  obtain ⟨d, rfl⟩ : ∃ e, d = e + 1 := ⟨d - 1, by omega⟩
  refine ev_in (m := 4) (c := k_X0_valueOf) (L := [some (am_R (t + 28)), some (am_I ((k : Nat) : Int)), some (am_I l), some (am_I a), some (am_I y), some (am_I s)]) rfl rfl rfl rfl rfl rfl ?_
  refine ax_load (q := 1) rfl rfl rfl rfl rfl ?_
  refine ax_getf (q := 4) (v := am_R (t + 29)) rfl rfl (xg0_0 hX.ht) ?_
  refine ax_load (q := 5) rfl rfl rfl rfl rfl ?_
  refine bx_iald (q := 6) (k := k) (z := 19) rfl rfl (kd_29 hX.ht) (by omega) (by omega) ((hX.stp _ hk).trans (by unfold fk_; simp [h0, h1])) ?_
  refine ax_lsw (q := 52) rfl (by decide) ?_
  refine ax_load (q := 54) rfl rfl rfl rfl rfl ?_
  refine ax_ret (r := some (am_I y)) rfl rfl ?_
  exact hQ

theorem x_valueOf13 {d : Nat} (hd : 1 ≤ d) {σ : am_S} {t : Nat} {T : sp_T} (hX : XT_ t T σ) (hV : TV_ T) {k : Nat} (hk : k < nF_ T) (hn3 : nF_ T ≤ 300) {l a y s : Int} (h0 : T 140 k = 1) (h1 : T 141 k = 3) {Q : Option am_V → am_S → Prop} (hQ : Q (some (am_I (ak_ l a y s 3))) σ) : am_Ev d 4 [am_R (t + 28), am_I ((k : Nat) : Int), am_I l, am_I a, am_I y, am_I s] σ Q := by
  obtain ⟨d, rfl⟩ : ∃ e, d = e + 1 := ⟨d - 1, by omega⟩
  refine ev_in (m := 4) (c := k_X0_valueOf) (L := [some (am_R (t + 28)), some (am_I ((k : Nat) : Int)), some (am_I l), some (am_I a), some (am_I y), some (am_I s)]) rfl rfl rfl rfl rfl rfl ?_
  refine ax_load (q := 1) rfl rfl rfl rfl rfl ?_
  refine ax_getf (q := 4) (v := am_R (t + 29)) rfl rfl (xg0_0 hX.ht) ?_
  refine ax_load (q := 5) rfl rfl rfl rfl rfl ?_
  refine bx_iald (q := 6) (k := k) (z := 20) rfl rfl (kd_29 hX.ht) (by omega) (by omega) ((hX.stp _ hk).trans (by unfold fk_; simp [h0, h1])) ?_
  refine ax_lsw (q := 55) rfl (by decide) ?_
  refine ax_load (q := 57) rfl rfl rfl rfl rfl ?_
  refine ax_ret (r := some (am_I s)) rfl rfl ?_
  exact hQ

theorem gn_eq {T : sp_T} (hF : FV_ T) (ask : Nat → Int) : gn_ T ask = cl_ ((ru_ T ask (nF_ T)).getLastD 1) := by
  unfold gn_
  by_cases q : T 135 60 = 0
  · have h0 : nF_ T = 0 := by
      have := hF.1
      have := hF.2.2.1
      unfold nF_
      omega
    rw [if_pos q, h0]
    rfl
  · rw [if_neg q]
theorem ne_ru {T : sp_T} (hF : FV_ T) (ask : Nat → Int) : ru_ T ask (nF_ T) = [] ∨ ru_ T ask (nF_ T) ≠ [] := by
  cases ru_ T ask (nF_ T) with
  | nil => exact Or.inl rfl
  | cons x r => exact Or.inr (by simp)

theorem xl_gain {d : Nat} (hd : 1 ≤ d) {σ : am_S} {t : Nat} {T : sp_T} (hX : XT_ t T σ) (hV : TV_ T) {l a y s : Int} {Q : Option am_V → am_S → Prop} (hQ : ∀ σ', fr_ [t + 31] σ σ' → Q (some (am_I (gn_ T (ak_ l a y s)))) σ') : ∀ (m k : Nat), k + m = nF_ T → ∀ σ', fr_ [t + 31] σ σ' → vr_ (σ'.1 (t + 31)) (ru_ T (ak_ l a y s) k) → aW d 0 k_X0_gain Q 6 [some (am_R (t + 28)), some (am_I l), some (am_I a), some (am_I y), some (am_I s), some (am_I (((ru_ T (ak_ l a y s) k).length : Nat) : Int)), some (am_I ((k : Nat) : Int))] [] σ' := by
  have hF := hV.fv
  have hn : T 135 18 = (nF_ T : Int) ∧ nF_ T ≤ 300 := by have := hF.1; unfold nF_; omega
  obtain ⟨hn, hn3⟩ := hn
  intro m
  induction m with
  | zero =>
    intro k hk σ' hf hv
    obtain rfl : k = nF_ T := by omega
    have hX2 : XT_ t T σ' := hX.fr (fun b h1 h2 => hf.1 b (by simp; omega))
    have hlen := ru_len hF (ak_ l a y s) (nF_ T) (Nat.le_refl _)
    have hd1 : de_ T (nF_ T) ≤ 30 := by
      cases q : nF_ T with
      | zero => exact Nat.zero_le _
      | succ j => exact (hF.2.2.2 j (by omega)).1
    refine ax_load (q := 8) rfl rfl rfl rfl rfl ?_
    refine ax_load (q := 9) rfl rfl rfl rfl rfl ?_
    refine ax_getf (q := 12) (v := am_I (((nF_ T) : Nat) : Int)) rfl rfl (am_fg (xg0_3 hX2.ht) (hX2.len.trans hn)) ?_
    refine ax_icmp_ge (q := 15) (x := 155) rfl rfl (fun h12 => ?_) (fun h => absurd h (by omega))
    refine ax_load (q := 157) rfl rfl rfl rfl rfl ?_
    refine ax_if_le (q := 160) (x := 169) rfl rfl (fun h157 => ?_) (fun h157 => ?_)
    · refine ax_const (q := 170) (v := am_I 1) rfl rfl rfl ?_
      refine ax_store (q := 172) (L' := [some (am_R (t + 28)), some (am_I l), some (am_I a), some (am_I y), some (am_I s), some (am_I (((ru_ T (ak_ l a y s) (nF_ T)).length : Nat) : Int)), some (am_I 1)]) rfl rfl rfl rfl rfl rfl ?_
      refine ax_const (q := 173) (v := am_I 0) rfl rfl rfl ?_
      refine ax_const (q := 175) (v := am_I 9) rfl rfl rfl ?_
      refine ax_load (q := 177) rfl rfl rfl rfl rfl ?_
      refine ax_min (q := 180) (z := if 1 < 9 then 1 else 9) rfl rfl rfl (rfl) ?_
      refine ax_max (q := 183) (z := if 0 < if 1 < 9 then 1 else 9 then if 1 < 9 then 1 else 9 else 0) rfl rfl rfl (rfl) ?_
      refine ax_ret (r := some (am_I (if 0 < if 1 < 9 then 1 else 9 then if 1 < 9 then 1 else 9 else 0))) rfl rfl ?_
      have e : gn_ T (ak_ l a y s) = if 0 < if 1 < 9 then 1 else 9 then if 1 < 9 then 1 else 9 else 0 := by
        rw [gn_eq hF]
        unfold cl_
        have q : (ru_ T (ak_ l a y s) (nF_ T)).getLastD 1 = 1 := by
          cases w : ru_ T (ak_ l a y s) (nF_ T) with
          | nil => rfl
          | cons x r => rw [w] at h157; simp at h157; omega
        rw [q]
        decide
      exact Eq.mp (congrArg (fun z => Q (some (am_I z)) σ') e) (hQ _ hf)
    · refine ax_load (q := 161) rfl rfl rfl rfl rfl ?_
      refine ax_getf (q := 164) (v := am_R (t + 31)) rfl rfl (xg0_2 hX2.ht) ?_
      refine ax_const (q := 165) (v := am_I 0) rfl rfl rfl ?_
      refine bx_iald (q := 166) (k := 0) (z := ((ru_ T (ak_ l a y s) (nF_ T)).getLastD 1)) rfl rfl (kd_31 hX2.ht) (by omega) (by omega) (vr_last (by intro q; rw [q] at h157; exact absurd h157 (by decide)) hv) ?_
      refine ax_goto (x := 170) rfl ?_
      refine ax_store (q := 172) (L' := [some (am_R (t + 28)), some (am_I l), some (am_I a), some (am_I y), some (am_I s), some (am_I (((ru_ T (ak_ l a y s) (nF_ T)).length : Nat) : Int)), some (am_I ((ru_ T (ak_ l a y s) (nF_ T)).getLastD 1))]) rfl rfl rfl rfl rfl rfl ?_
      refine ax_const (q := 173) (v := am_I 0) rfl rfl rfl ?_
      refine ax_const (q := 175) (v := am_I 9) rfl rfl rfl ?_
      refine ax_load (q := 177) rfl rfl rfl rfl rfl ?_
      refine ax_min (q := 180) (z := if ((ru_ T (ak_ l a y s) (nF_ T)).getLastD 1) < 9 then ((ru_ T (ak_ l a y s) (nF_ T)).getLastD 1) else 9) rfl rfl rfl (rfl) ?_
      refine ax_max (q := 183) (z := if 0 < if ((ru_ T (ak_ l a y s) (nF_ T)).getLastD 1) < 9 then ((ru_ T (ak_ l a y s) (nF_ T)).getLastD 1) else 9 then if ((ru_ T (ak_ l a y s) (nF_ T)).getLastD 1) < 9 then ((ru_ T (ak_ l a y s) (nF_ T)).getLastD 1) else 9 else 0) rfl rfl rfl (rfl) ?_
      refine ax_ret (r := some (am_I (if 0 < if ((ru_ T (ak_ l a y s) (nF_ T)).getLastD 1) < 9 then ((ru_ T (ak_ l a y s) (nF_ T)).getLastD 1) else 9 then if ((ru_ T (ak_ l a y s) (nF_ T)).getLastD 1) < 9 then ((ru_ T (ak_ l a y s) (nF_ T)).getLastD 1) else 9 else 0))) rfl rfl ?_
      have e : gn_ T (ak_ l a y s) = if 0 < if ((ru_ T (ak_ l a y s) (nF_ T)).getLastD 1) < 9 then ((ru_ T (ak_ l a y s) (nF_ T)).getLastD 1) else 9 then if ((ru_ T (ak_ l a y s) (nF_ T)).getLastD 1) < 9 then ((ru_ T (ak_ l a y s) (nF_ T)).getLastD 1) else 9 else 0 := by
        rw [gn_eq hF]
        unfold cl_
        (repeat' split) <;> omega
      exact Eq.mp (congrArg (fun z => Q (some (am_I z)) σ') e) (hQ _ hf)
  | succ m ih =>
    intro k hk σ' hf hv
    have hX2 : XT_ t T σ' := hX.fr (fun b h1 h2 => hf.1 b (by simp; omega))
    have hk2 : k < nF_ T := by omega
    have hlen := ru_len hF (ak_ l a y s) k (by omega)
    have hk1 := hF.2.2.2 k hk2
    have hd2 : de_ T (k + 1) = (if T 140 k = 0 ∨ T 140 k = 1 then de_ T k + 1 else if T 140 k = 2 then de_ T k else de_ T k - 1) := rfl
    rcases hk1 with ⟨hk9, h0 | ⟨h0, h1, h2⟩ | ⟨h0, h2⟩ | ⟨h0, h3, h2⟩⟩
    · rw [hd2, if_pos (by omega)] at hk9
      refine ax_load (q := 8) rfl rfl rfl rfl rfl ?_
      refine ax_load (q := 9) rfl rfl rfl rfl rfl ?_
      refine ax_getf (q := 12) (v := am_I (((nF_ T) : Nat) : Int)) rfl rfl (am_fg (xg0_3 hX2.ht) (hX2.len.trans hn)) ?_
      refine ax_icmp_ge (q := 15) (x := 155) rfl rfl (fun h => absurd h (by omega)) (fun h12 => ?_)
      refine ax_load (q := 16) rfl rfl rfl rfl rfl ?_
      refine ax_getf (q := 19) (v := am_R (t + 29)) rfl rfl (xg0_0 hX2.ht) ?_
      refine ax_load (q := 21) rfl rfl rfl rfl rfl ?_
      refine bx_iald (q := 22) (k := k) (z := 101) rfl rfl (kd_29 hX2.ht) (by omega) (by omega) ((hX2.stp _ hk2).trans (by unfold fk_; simp [h0])) ?_
      refine ax_calls (q := 25) rfl rfl rfl rfl rfl ?_
      refine x_isUnitT (by omega) (by decide) ?_
      refine ax_if_eq (q := 28) (x := 59) rfl rfl (fun h => absurd h (by omega)) (fun h25 => ?_)
      refine ax_load (q := 30) rfl rfl rfl rfl rfl ?_
      refine ax_const (q := 32) (v := am_I 30) rfl rfl rfl ?_
      refine ax_icmp_ge (q := 35) (x := 149) rfl rfl (fun h => absurd h (by omega)) (fun h32 => ?_)
      refine ax_load (q := 36) rfl rfl rfl rfl rfl ?_
      refine ax_getf (q := 39) (v := am_R (t + 31)) rfl rfl (xg0_2 hX2.ht) ?_
      refine ax_load (q := 41) rfl rfl rfl rfl rfl ?_
      refine ax_load (q := 42) rfl rfl rfl rfl rfl ?_
      refine ax_load (q := 44) rfl rfl rfl rfl rfl ?_
      refine ax_load (q := 45) rfl rfl rfl rfl rfl ?_
      refine ax_load (q := 46) rfl rfl rfl rfl rfl ?_
      refine ax_load (q := 47) rfl rfl rfl rfl rfl ?_
      refine ax_load (q := 49) rfl rfl rfl rfl rfl ?_
      refine ax_callv (q := 52) rfl rfl rfl rfl rfl (kd_28 hX2.ht) ?_
      refine x_valueOf0 (by omega) hX2 hV hk2 hn3 h0 ?_
      refine bx_iast (q := 53) (k := (ru_ T (ak_ l a y s) k).length) rfl rfl (kd_31 hX2.ht) (by omega) (by omega) ?_
      refine ax_iinc (q := 56) (z' := ((((ru_ T (ak_ l a y s) k).length) + 1 : Nat) : Int)) (L' := [some (am_R (t + 28)), some (am_I l), some (am_I a), some (am_I y), some (am_I s), some (am_I ((((ru_ T (ak_ l a y s) k).length) + 1 : Nat) : Int)), some (am_I ((k : Nat) : Int))]) rfl rfl rfl rfl (am_we (by omega) (by omega) (by omega)) rfl ?_
      refine ax_goto (x := 149) rfl ?_
      refine ax_iinc (q := 152) (z' := ((k + 1 : Nat) : Int)) (L' := [some (am_R (t + 28)), some (am_I l), some (am_I a), some (am_I y), some (am_I s), some (am_I ((((ru_ T (ak_ l a y s) k).length) + 1 : Nat) : Int)), some (am_I ((k + 1 : Nat) : Int))]) rfl rfl rfl rfl (am_we (by omega) (by omega) (by omega)) rfl ?_
      refine ax_goto (x := 6) rfl ?_
      have e : ru_ T (ak_ l a y s) (k + 1) = T 141 k :: ru_ T (ak_ l a y s) k := by show st_ T (ak_ l a y s) k _ = _; simp [st_, h0]
      have g := ih (k + 1) (by omega) (am_sI σ' (t + 31) (am_up (σ'.1 (t + 31)) ((ru_ T (ak_ l a y s) k).length) (T 141 k))) (fr_sI hf (by simp)) (by rw [sI_at, e]; exact vr_push hv _)
      rw [e] at g
      exact g
    · rw [hd2, if_pos (by omega)] at hk9
      rcases (by omega : T 141 k = 0 ∨ T 141 k = 1 ∨ T 141 k = 2 ∨ T 141 k = 3) with h1 | h1 | h1 | h1
      · refine ax_load (q := 8) rfl rfl rfl rfl rfl ?_
        refine ax_load (q := 9) rfl rfl rfl rfl rfl ?_
        refine ax_getf (q := 12) (v := am_I (((nF_ T) : Nat) : Int)) rfl rfl (am_fg (xg0_3 hX2.ht) (hX2.len.trans hn)) ?_
        refine ax_icmp_ge (q := 15) (x := 155) rfl rfl (fun h => absurd h (by omega)) (fun h12 => ?_)
        refine ax_load (q := 16) rfl rfl rfl rfl rfl ?_
        refine ax_getf (q := 19) (v := am_R (t + 29)) rfl rfl (xg0_0 hX2.ht) ?_
        refine ax_load (q := 21) rfl rfl rfl rfl rfl ?_
        refine bx_iald (q := 22) (k := k) (z := 18) rfl rfl (kd_29 hX2.ht) (by omega) (by omega) ((hX2.stp _ hk2).trans (by unfold fk_; simp [h0, h1])) ?_
        refine ax_calls (q := 25) rfl rfl rfl rfl rfl ?_
        refine x_isUnitT (by omega) (by decide) ?_
        refine ax_if_eq (q := 28) (x := 59) rfl rfl (fun h => absurd h (by omega)) (fun h25 => ?_)
        refine ax_load (q := 30) rfl rfl rfl rfl rfl ?_
        refine ax_const (q := 32) (v := am_I 30) rfl rfl rfl ?_
        refine ax_icmp_ge (q := 35) (x := 149) rfl rfl (fun h => absurd h (by omega)) (fun h32 => ?_)
        refine ax_load (q := 36) rfl rfl rfl rfl rfl ?_
        refine ax_getf (q := 39) (v := am_R (t + 31)) rfl rfl (xg0_2 hX2.ht) ?_
        refine ax_load (q := 41) rfl rfl rfl rfl rfl ?_
        refine ax_load (q := 42) rfl rfl rfl rfl rfl ?_
        refine ax_load (q := 44) rfl rfl rfl rfl rfl ?_
        refine ax_load (q := 45) rfl rfl rfl rfl rfl ?_
        refine ax_load (q := 46) rfl rfl rfl rfl rfl ?_
        refine ax_load (q := 47) rfl rfl rfl rfl rfl ?_
        refine ax_load (q := 49) rfl rfl rfl rfl rfl ?_
        refine ax_callv (q := 52) rfl rfl rfl rfl rfl (kd_28 hX2.ht) ?_
        refine x_valueOf10 (by omega) hX2 hV hk2 hn3 h0 h1 ?_
        refine bx_iast (q := 53) (k := (ru_ T (ak_ l a y s) k).length) rfl rfl (kd_31 hX2.ht) (by omega) (by omega) ?_
        refine ax_iinc (q := 56) (z' := ((((ru_ T (ak_ l a y s) k).length) + 1 : Nat) : Int)) (L' := [some (am_R (t + 28)), some (am_I l), some (am_I a), some (am_I y), some (am_I s), some (am_I ((((ru_ T (ak_ l a y s) k).length) + 1 : Nat) : Int)), some (am_I ((k : Nat) : Int))]) rfl rfl rfl rfl (am_we (by omega) (by omega) (by omega)) rfl ?_
        refine ax_goto (x := 149) rfl ?_
        refine ax_iinc (q := 152) (z' := ((k + 1 : Nat) : Int)) (L' := [some (am_R (t + 28)), some (am_I l), some (am_I a), some (am_I y), some (am_I s), some (am_I ((((ru_ T (ak_ l a y s) k).length) + 1 : Nat) : Int)), some (am_I ((k + 1 : Nat) : Int))]) rfl rfl rfl rfl (am_we (by omega) (by omega) (by omega)) rfl ?_
        refine ax_goto (x := 6) rfl ?_
        have e : ru_ T (ak_ l a y s) (k + 1) = ak_ l a y s 0 :: ru_ T (ak_ l a y s) k := by show st_ T (ak_ l a y s) k _ = _; simp [st_, h0, h1]
        have g := ih (k + 1) (by omega) (am_sI σ' (t + 31) (am_up (σ'.1 (t + 31)) ((ru_ T (ak_ l a y s) k).length) (ak_ l a y s 0))) (fr_sI hf (by simp)) (by rw [sI_at, e]; exact vr_push hv _)
        rw [e] at g
        exact g
      · refine ax_load (q := 8) rfl rfl rfl rfl rfl ?_
        refine ax_load (q := 9) rfl rfl rfl rfl rfl ?_
        refine ax_getf (q := 12) (v := am_I (((nF_ T) : Nat) : Int)) rfl rfl (am_fg (xg0_3 hX2.ht) (hX2.len.trans hn)) ?_
        refine ax_icmp_ge (q := 15) (x := 155) rfl rfl (fun h => absurd h (by omega)) (fun h12 => ?_)
        refine ax_load (q := 16) rfl rfl rfl rfl rfl ?_
        refine ax_getf (q := 19) (v := am_R (t + 29)) rfl rfl (xg0_0 hX2.ht) ?_
        refine ax_load (q := 21) rfl rfl rfl rfl rfl ?_
        refine bx_iald (q := 22) (k := k) (z := 10) rfl rfl (kd_29 hX2.ht) (by omega) (by omega) ((hX2.stp _ hk2).trans (by unfold fk_; simp [h0, h1])) ?_
        refine ax_calls (q := 25) rfl rfl rfl rfl rfl ?_
        refine x_isUnitT (by omega) (by decide) ?_
        refine ax_if_eq (q := 28) (x := 59) rfl rfl (fun h => absurd h (by omega)) (fun h25 => ?_)
        refine ax_load (q := 30) rfl rfl rfl rfl rfl ?_
        refine ax_const (q := 32) (v := am_I 30) rfl rfl rfl ?_
        refine ax_icmp_ge (q := 35) (x := 149) rfl rfl (fun h => absurd h (by omega)) (fun h32 => ?_)
        refine ax_load (q := 36) rfl rfl rfl rfl rfl ?_
        refine ax_getf (q := 39) (v := am_R (t + 31)) rfl rfl (xg0_2 hX2.ht) ?_
        refine ax_load (q := 41) rfl rfl rfl rfl rfl ?_
        refine ax_load (q := 42) rfl rfl rfl rfl rfl ?_
        refine ax_load (q := 44) rfl rfl rfl rfl rfl ?_
        refine ax_load (q := 45) rfl rfl rfl rfl rfl ?_
        refine ax_load (q := 46) rfl rfl rfl rfl rfl ?_
        refine ax_load (q := 47) rfl rfl rfl rfl rfl ?_
        refine ax_load (q := 49) rfl rfl rfl rfl rfl ?_
        refine ax_callv (q := 52) rfl rfl rfl rfl rfl (kd_28 hX2.ht) ?_
        refine x_valueOf11 (by omega) hX2 hV hk2 hn3 h0 h1 ?_
        refine bx_iast (q := 53) (k := (ru_ T (ak_ l a y s) k).length) rfl rfl (kd_31 hX2.ht) (by omega) (by omega) ?_
        refine ax_iinc (q := 56) (z' := ((((ru_ T (ak_ l a y s) k).length) + 1 : Nat) : Int)) (L' := [some (am_R (t + 28)), some (am_I l), some (am_I a), some (am_I y), some (am_I s), some (am_I ((((ru_ T (ak_ l a y s) k).length) + 1 : Nat) : Int)), some (am_I ((k : Nat) : Int))]) rfl rfl rfl rfl (am_we (by omega) (by omega) (by omega)) rfl ?_
        refine ax_goto (x := 149) rfl ?_
        refine ax_iinc (q := 152) (z' := ((k + 1 : Nat) : Int)) (L' := [some (am_R (t + 28)), some (am_I l), some (am_I a), some (am_I y), some (am_I s), some (am_I ((((ru_ T (ak_ l a y s) k).length) + 1 : Nat) : Int)), some (am_I ((k + 1 : Nat) : Int))]) rfl rfl rfl rfl (am_we (by omega) (by omega) (by omega)) rfl ?_
        refine ax_goto (x := 6) rfl ?_
        have e : ru_ T (ak_ l a y s) (k + 1) = ak_ l a y s 1 :: ru_ T (ak_ l a y s) k := by show st_ T (ak_ l a y s) k _ = _; simp [st_, h0, h1]
        have g := ih (k + 1) (by omega) (am_sI σ' (t + 31) (am_up (σ'.1 (t + 31)) ((ru_ T (ak_ l a y s) k).length) (ak_ l a y s 1))) (fr_sI hf (by simp)) (by rw [sI_at, e]; exact vr_push hv _)
        rw [e] at g
        exact g
      · refine ax_load (q := 8) rfl rfl rfl rfl rfl ?_
        refine ax_load (q := 9) rfl rfl rfl rfl rfl ?_
        refine ax_getf (q := 12) (v := am_I (((nF_ T) : Nat) : Int)) rfl rfl (am_fg (xg0_3 hX2.ht) (hX2.len.trans hn)) ?_
        refine ax_icmp_ge (q := 15) (x := 155) rfl rfl (fun h => absurd h (by omega)) (fun h12 => ?_)
        refine ax_load (q := 16) rfl rfl rfl rfl rfl ?_
        refine ax_getf (q := 19) (v := am_R (t + 29)) rfl rfl (xg0_0 hX2.ht) ?_
        refine ax_load (q := 21) rfl rfl rfl rfl rfl ?_
        refine bx_iald (q := 22) (k := k) (z := 19) rfl rfl (kd_29 hX2.ht) (by omega) (by omega) ((hX2.stp _ hk2).trans (by unfold fk_; simp [h0, h1])) ?_
        refine ax_calls (q := 25) rfl rfl rfl rfl rfl ?_
        refine x_isUnitT (by omega) (by decide) ?_
        refine ax_if_eq (q := 28) (x := 59) rfl rfl (fun h => absurd h (by omega)) (fun h25 => ?_)
        refine ax_load (q := 30) rfl rfl rfl rfl rfl ?_
        refine ax_const (q := 32) (v := am_I 30) rfl rfl rfl ?_
        refine ax_icmp_ge (q := 35) (x := 149) rfl rfl (fun h => absurd h (by omega)) (fun h32 => ?_)
        refine ax_load (q := 36) rfl rfl rfl rfl rfl ?_
        refine ax_getf (q := 39) (v := am_R (t + 31)) rfl rfl (xg0_2 hX2.ht) ?_
        refine ax_load (q := 41) rfl rfl rfl rfl rfl ?_
        refine ax_load (q := 42) rfl rfl rfl rfl rfl ?_
        refine ax_load (q := 44) rfl rfl rfl rfl rfl ?_
        refine ax_load (q := 45) rfl rfl rfl rfl rfl ?_
        refine ax_load (q := 46) rfl rfl rfl rfl rfl ?_
        refine ax_load (q := 47) rfl rfl rfl rfl rfl ?_
        refine ax_load (q := 49) rfl rfl rfl rfl rfl ?_
        refine ax_callv (q := 52) rfl rfl rfl rfl rfl (kd_28 hX2.ht) ?_
        refine x_valueOf12 (by omega) hX2 hV hk2 hn3 h0 h1 ?_
        refine bx_iast (q := 53) (k := (ru_ T (ak_ l a y s) k).length) rfl rfl (kd_31 hX2.ht) (by omega) (by omega) ?_
        refine ax_iinc (q := 56) (z' := ((((ru_ T (ak_ l a y s) k).length) + 1 : Nat) : Int)) (L' := [some (am_R (t + 28)), some (am_I l), some (am_I a), some (am_I y), some (am_I s), some (am_I ((((ru_ T (ak_ l a y s) k).length) + 1 : Nat) : Int)), some (am_I ((k : Nat) : Int))]) rfl rfl rfl rfl (am_we (by omega) (by omega) (by omega)) rfl ?_
        refine ax_goto (x := 149) rfl ?_
        refine ax_iinc (q := 152) (z' := ((k + 1 : Nat) : Int)) (L' := [some (am_R (t + 28)), some (am_I l), some (am_I a), some (am_I y), some (am_I s), some (am_I ((((ru_ T (ak_ l a y s) k).length) + 1 : Nat) : Int)), some (am_I ((k + 1 : Nat) : Int))]) rfl rfl rfl rfl (am_we (by omega) (by omega) (by omega)) rfl ?_
        refine ax_goto (x := 6) rfl ?_
        have e : ru_ T (ak_ l a y s) (k + 1) = ak_ l a y s 2 :: ru_ T (ak_ l a y s) k := by show st_ T (ak_ l a y s) k _ = _; simp [st_, h0, h1]
        have g := ih (k + 1) (by omega) (am_sI σ' (t + 31) (am_up (σ'.1 (t + 31)) ((ru_ T (ak_ l a y s) k).length) (ak_ l a y s 2))) (fr_sI hf (by simp)) (by rw [sI_at, e]; exact vr_push hv _)
        rw [e] at g
        exact g
      · refine ax_load (q := 8) rfl rfl rfl rfl rfl ?_
        refine ax_load (q := 9) rfl rfl rfl rfl rfl ?_
        refine ax_getf (q := 12) (v := am_I (((nF_ T) : Nat) : Int)) rfl rfl (am_fg (xg0_3 hX2.ht) (hX2.len.trans hn)) ?_
        refine ax_icmp_ge (q := 15) (x := 155) rfl rfl (fun h => absurd h (by omega)) (fun h12 => ?_)
        refine ax_load (q := 16) rfl rfl rfl rfl rfl ?_
        refine ax_getf (q := 19) (v := am_R (t + 29)) rfl rfl (xg0_0 hX2.ht) ?_
        refine ax_load (q := 21) rfl rfl rfl rfl rfl ?_
        refine bx_iald (q := 22) (k := k) (z := 20) rfl rfl (kd_29 hX2.ht) (by omega) (by omega) ((hX2.stp _ hk2).trans (by unfold fk_; simp [h0, h1])) ?_
        refine ax_calls (q := 25) rfl rfl rfl rfl rfl ?_
        refine x_isUnitT (by omega) (by decide) ?_
        refine ax_if_eq (q := 28) (x := 59) rfl rfl (fun h => absurd h (by omega)) (fun h25 => ?_)
        refine ax_load (q := 30) rfl rfl rfl rfl rfl ?_
        refine ax_const (q := 32) (v := am_I 30) rfl rfl rfl ?_
        refine ax_icmp_ge (q := 35) (x := 149) rfl rfl (fun h => absurd h (by omega)) (fun h32 => ?_)
        refine ax_load (q := 36) rfl rfl rfl rfl rfl ?_
        refine ax_getf (q := 39) (v := am_R (t + 31)) rfl rfl (xg0_2 hX2.ht) ?_
        refine ax_load (q := 41) rfl rfl rfl rfl rfl ?_
        refine ax_load (q := 42) rfl rfl rfl rfl rfl ?_
        refine ax_load (q := 44) rfl rfl rfl rfl rfl ?_
        refine ax_load (q := 45) rfl rfl rfl rfl rfl ?_
        refine ax_load (q := 46) rfl rfl rfl rfl rfl ?_
        refine ax_load (q := 47) rfl rfl rfl rfl rfl ?_
        refine ax_load (q := 49) rfl rfl rfl rfl rfl ?_
        refine ax_callv (q := 52) rfl rfl rfl rfl rfl (kd_28 hX2.ht) ?_
        refine x_valueOf13 (by omega) hX2 hV hk2 hn3 h0 h1 ?_
        refine bx_iast (q := 53) (k := (ru_ T (ak_ l a y s) k).length) rfl rfl (kd_31 hX2.ht) (by omega) (by omega) ?_
        refine ax_iinc (q := 56) (z' := ((((ru_ T (ak_ l a y s) k).length) + 1 : Nat) : Int)) (L' := [some (am_R (t + 28)), some (am_I l), some (am_I a), some (am_I y), some (am_I s), some (am_I ((((ru_ T (ak_ l a y s) k).length) + 1 : Nat) : Int)), some (am_I ((k : Nat) : Int))]) rfl rfl rfl rfl (am_we (by omega) (by omega) (by omega)) rfl ?_
        refine ax_goto (x := 149) rfl ?_
        refine ax_iinc (q := 152) (z' := ((k + 1 : Nat) : Int)) (L' := [some (am_R (t + 28)), some (am_I l), some (am_I a), some (am_I y), some (am_I s), some (am_I ((((ru_ T (ak_ l a y s) k).length) + 1 : Nat) : Int)), some (am_I ((k + 1 : Nat) : Int))]) rfl rfl rfl rfl (am_we (by omega) (by omega) (by omega)) rfl ?_
        refine ax_goto (x := 6) rfl ?_
        have e : ru_ T (ak_ l a y s) (k + 1) = ak_ l a y s 3 :: ru_ T (ak_ l a y s) k := by show st_ T (ak_ l a y s) k _ = _; simp [st_, h0, h1]
        have g := ih (k + 1) (by omega) (am_sI σ' (t + 31) (am_up (σ'.1 (t + 31)) ((ru_ T (ak_ l a y s) k).length) (ak_ l a y s 3))) (fr_sI hf (by simp)) (by rw [sI_at, e]; exact vr_push hv _)
        rw [e] at g
        exact g
    · rw [← hlen] at h2
      obtain ⟨x, r, hr⟩ : ∃ x r, ru_ T (ak_ l a y s) k = x :: r := by
        cases q : ru_ T (ak_ l a y s) k with
        | nil => rw [q] at h2; simp at h2
        | cons x r => exact ⟨x, r, rfl⟩
      rw [hd2, if_neg (by omega), if_pos h0, ← hlen] at hk9
      rw [hr] at hv hlen hk9 ⊢
      rw [List.length_cons] at hlen hk9
      show aW d 0 k_X0_gain Q 6 [some (am_R (t + 28)), some (am_I l), some (am_I a), some (am_I y), some (am_I s), some (am_I ((r.length + 1 : Nat) : Int)), some (am_I ((k : Nat) : Int))] [] σ'
      refine ax_load (q := 8) rfl rfl rfl rfl rfl ?_
      refine ax_load (q := 9) rfl rfl rfl rfl rfl ?_
      refine ax_getf (q := 12) (v := am_I (((nF_ T) : Nat) : Int)) rfl rfl (am_fg (xg0_3 hX2.ht) (hX2.len.trans hn)) ?_
      refine ax_icmp_ge (q := 15) (x := 155) rfl rfl (fun h => absurd h (by omega)) (fun h12 => ?_)
      refine ax_load (q := 16) rfl rfl rfl rfl rfl ?_
      refine ax_getf (q := 19) (v := am_R (t + 29)) rfl rfl (xg0_0 hX2.ht) ?_
      refine ax_load (q := 21) rfl rfl rfl rfl rfl ?_
      refine bx_iald (q := 22) (k := k) (z := 17) rfl rfl (kd_29 hX2.ht) (by omega) (by omega) ((hX2.stp _ hk2).trans (by unfold fk_; simp [h0])) ?_
      refine ax_calls (q := 25) rfl rfl rfl rfl rfl ?_
      refine x_isUnitF (by omega) (by decide) ?_
      refine ax_if_eq (q := 28) (x := 59) rfl rfl (fun h25 => ?_) (fun h => absurd h (by omega))
      refine ax_load (q := 60) rfl rfl rfl rfl rfl ?_
      refine ax_getf (q := 63) (v := am_R (t + 29)) rfl rfl (xg0_0 hX2.ht) ?_
      refine ax_load (q := 65) rfl rfl rfl rfl rfl ?_
      refine bx_iald (q := 66) (k := k) (z := 17) rfl rfl (kd_29 hX2.ht) (by omega) (by omega) ((hX2.stp _ hk2).trans (by unfold fk_; simp [h0])) ?_
      refine ax_const (q := 68) (v := am_I 17) rfl rfl rfl ?_
      refine ax_icmp_ne (q := 71) (x := 105) rfl rfl (fun h => absurd h (by omega)) (fun h68 => ?_)
      refine ax_load (q := 73) rfl rfl rfl rfl rfl ?_
      refine ax_if_le (q := 76) (x := 149) rfl rfl (fun h => absurd h (by omega)) (fun h73 => ?_)
      refine ax_load (q := 77) rfl rfl rfl rfl rfl ?_
      refine ax_getf (q := 80) (v := am_R (t + 31)) rfl rfl (xg0_2 hX2.ht) ?_
      refine ax_load (q := 82) rfl rfl rfl rfl rfl ?_
      refine ax_const (q := 83) (v := am_I 1) rfl rfl rfl ?_
      refine ax_isub (q := 84) (z := ((r.length : Nat) : Int)) rfl rfl (am_we (by omega) (by omega) (by omega)) ?_
      refine ax_load (q := 85) rfl rfl rfl rfl rfl ?_
      refine ax_getf (q := 88) (v := am_R (t + 31)) rfl rfl (xg0_2 hX2.ht) ?_
      refine ax_load (q := 90) rfl rfl rfl rfl rfl ?_
      refine ax_const (q := 91) (v := am_I 1) rfl rfl rfl ?_
      refine ax_isub (q := 92) (z := ((r.length : Nat) : Int)) rfl rfl (am_we (by omega) (by omega) (by omega)) ?_
      refine bx_iald (q := 93) (k := r.length) (z := x) rfl rfl (kd_31 hX2.ht) (by omega) (by omega) (vr_top hv) ?_
      refine ax_if_ne (q := 96) (x := 100) rfl rfl (fun h93 => ?_) (fun h93 => ?_)
      · refine ax_const (q := 101) (v := am_I 0) rfl rfl rfl ?_
        refine bx_iast (q := 102) (k := r.length) rfl rfl (kd_31 hX2.ht) (by omega) (by omega) ?_
        refine ax_goto (x := 149) rfl ?_
        refine ax_iinc (q := 152) (z' := ((k + 1 : Nat) : Int)) (L' := [some (am_R (t + 28)), some (am_I l), some (am_I a), some (am_I y), some (am_I s), some (am_I ((r.length + 1 : Nat) : Int)), some (am_I ((k + 1 : Nat) : Int))]) rfl rfl rfl rfl (am_we (by omega) (by omega) (by omega)) rfl ?_
        refine ax_goto (x := 6) rfl ?_
        have e : ru_ T (ak_ l a y s) (k + 1) = (if x = 0 then 1 else 0) :: r := by show st_ T (ak_ l a y s) k _ = _; simp [st_, h0, hr]
        simp only [h93, if_true, if_false] at e
        have g := ih (k + 1) (by omega) (am_sI σ' (t + 31) (am_up (σ'.1 (t + 31)) r.length 0)) (fr_sI hf (by simp)) (by rw [sI_at, e]; exact vr_set hv _)
        rw [e] at g
        exact g
      · refine ax_const (q := 97) (v := am_I 1) rfl rfl rfl ?_
        refine ax_goto (x := 101) rfl ?_
        refine bx_iast (q := 102) (k := r.length) rfl rfl (kd_31 hX2.ht) (by omega) (by omega) ?_
        refine ax_goto (x := 149) rfl ?_
        refine ax_iinc (q := 152) (z' := ((k + 1 : Nat) : Int)) (L' := [some (am_R (t + 28)), some (am_I l), some (am_I a), some (am_I y), some (am_I s), some (am_I ((r.length + 1 : Nat) : Int)), some (am_I ((k + 1 : Nat) : Int))]) rfl rfl rfl rfl (am_we (by omega) (by omega) (by omega)) rfl ?_
        refine ax_goto (x := 6) rfl ?_
        have e : ru_ T (ak_ l a y s) (k + 1) = (if x = 0 then 1 else 0) :: r := by show st_ T (ak_ l a y s) k _ = _; simp [st_, h0, hr]
        simp only [h93, if_true, if_false] at e
        have g := ih (k + 1) (by omega) (am_sI σ' (t + 31) (am_up (σ'.1 (t + 31)) r.length 1)) (fr_sI hf (by simp)) (by rw [sI_at, e]; exact vr_set hv _)
        rw [e] at g
        exact g
    · rw [← hlen] at h3
      obtain ⟨yy, x, r, hr⟩ : ∃ b x r, ru_ T (ak_ l a y s) k = b :: x :: r := by
        match q : ru_ T (ak_ l a y s) k with
        | [] => rw [q] at h3; simp at h3
        | [b] => rw [q] at h3; simp at h3
        | b :: x :: r => exact ⟨b, x, r, rfl⟩
      have hfk : fk_ 3 (T 141 k) = 16 ∨ fk_ 3 (T 141 k) = 15 ∨ (30 < fk_ 3 (T 141 k) ∧ fk_ 3 (T 141 k) < 70) := by
        rcases h2 with h2 | h2 | h2 | h2 | h2 | h2 | h2 | h2 | h2 | h2 <;> rw [h2] <;> decide
      have hnu : ¬ (fk_ 3 (T 141 k) = 10 ∨ fk_ 3 (T 141 k) = 18 ∨ fk_ 3 (T 141 k) = 19 ∨ fk_ 3 (T 141 k) = 20 ∨ fk_ 3 (T 141 k) = 101) := by omega
      have hd30 : de_ T k ≤ 30 := by
        cases k with
        | zero => exact Nat.zero_le _
        | succ j => exact (hF.2.2.2 j (by omega)).1
      rw [hr] at hv hlen ⊢
      rw [List.length_cons, List.length_cons] at hlen
      show aW d 0 k_X0_gain Q 6 [some (am_R (t + 28)), some (am_I l), some (am_I a), some (am_I y), some (am_I s), some (am_I ((r.length + 2 : Nat) : Int)), some (am_I ((k : Nat) : Int))] [] σ'
      refine ax_load (q := 8) rfl rfl rfl rfl rfl ?_
      refine ax_load (q := 9) rfl rfl rfl rfl rfl ?_
      refine ax_getf (q := 12) (v := am_I (((nF_ T) : Nat) : Int)) rfl rfl (am_fg (xg0_3 hX2.ht) (hX2.len.trans hn)) ?_
      refine ax_icmp_ge (q := 15) (x := 155) rfl rfl (fun h => absurd h (by omega)) (fun h12 => ?_)
      refine ax_load (q := 16) rfl rfl rfl rfl rfl ?_
      refine ax_getf (q := 19) (v := am_R (t + 29)) rfl rfl (xg0_0 hX2.ht) ?_
      refine ax_load (q := 21) rfl rfl rfl rfl rfl ?_
      refine bx_iald (q := 22) (k := k) (z := fk_ 3 (T 141 k)) rfl rfl (kd_29 hX2.ht) (by omega) (by omega) ((hX2.stp _ hk2).trans (by rw [h0])) ?_
      refine ax_calls (q := 25) rfl rfl rfl rfl rfl ?_
      refine x_isUnitF (by omega) (hnu) ?_
      refine ax_if_eq (q := 28) (x := 59) rfl rfl (fun h25 => ?_) (fun h => absurd h (by omega))
      refine ax_load (q := 60) rfl rfl rfl rfl rfl ?_
      refine ax_getf (q := 63) (v := am_R (t + 29)) rfl rfl (xg0_0 hX2.ht) ?_
      refine ax_load (q := 65) rfl rfl rfl rfl rfl ?_
      refine bx_iald (q := 66) (k := k) (z := fk_ 3 (T 141 k)) rfl rfl (kd_29 hX2.ht) (by omega) (by omega) ((hX2.stp _ hk2).trans (by rw [h0])) ?_
      refine ax_const (q := 68) (v := am_I 17) rfl rfl rfl ?_
      refine ax_icmp_ne (q := 71) (x := 105) rfl rfl (fun h68 => ?_) (fun h => absurd h (by omega))
      refine ax_load (q := 107) rfl rfl rfl rfl rfl ?_
      refine ax_const (q := 108) (v := am_I 1) rfl rfl rfl ?_
      refine ax_icmp_le (q := 111) (x := 149) rfl rfl (fun h => absurd h (by omega)) (fun h108 => ?_)
      refine ax_iinc (q := 114) (z' := ((r.length + 1 : Nat) : Int)) (L' := [some (am_R (t + 28)), some (am_I l), some (am_I a), some (am_I y), some (am_I s), some (am_I ((r.length + 1 : Nat) : Int)), some (am_I ((k : Nat) : Int))]) rfl rfl rfl rfl (am_we (by omega) (by omega) (by omega)) rfl ?_
      refine ax_load (q := 115) rfl rfl rfl rfl rfl ?_
      refine ax_getf (q := 118) (v := am_R (t + 31)) rfl rfl (xg0_2 hX2.ht) ?_
      refine ax_load (q := 120) rfl rfl rfl rfl rfl ?_
      refine ax_const (q := 121) (v := am_I 1) rfl rfl rfl ?_
      refine ax_isub (q := 122) (z := ((r.length : Nat) : Int)) rfl rfl (am_we (by omega) (by omega) (by omega)) ?_
      refine ax_load (q := 123) rfl rfl rfl rfl rfl ?_
      refine ax_getf (q := 126) (v := am_R (t + 29)) rfl rfl (xg0_0 hX2.ht) ?_
      refine ax_load (q := 128) rfl rfl rfl rfl rfl ?_
      refine bx_iald (q := 129) (k := k) (z := fk_ 3 (T 141 k)) rfl rfl (kd_29 hX2.ht) (by omega) (by omega) ((hX2.stp _ hk2).trans (by rw [h0])) ?_
      refine ax_load (q := 130) rfl rfl rfl rfl rfl ?_
      refine ax_getf (q := 133) (v := am_R (t + 31)) rfl rfl (xg0_2 hX2.ht) ?_
      refine ax_load (q := 135) rfl rfl rfl rfl rfl ?_
      refine ax_const (q := 136) (v := am_I 1) rfl rfl rfl ?_
      refine ax_isub (q := 137) (z := ((r.length : Nat) : Int)) rfl rfl (am_we (by omega) (by omega) (by omega)) ?_
      refine bx_iald (q := 138) (k := r.length) (z := x) rfl rfl (kd_31 hX2.ht) (by omega) (by omega) (vr_top (vr_pop hv)) ?_
      refine ax_load (q := 139) rfl rfl rfl rfl rfl ?_
      refine ax_getf (q := 142) (v := am_R (t + 31)) rfl rfl (xg0_2 hX2.ht) ?_
      refine ax_load (q := 144) rfl rfl rfl rfl rfl ?_
      refine bx_iald (q := 145) (k := r.length + 1) (z := yy) rfl rfl (kd_31 hX2.ht) (by omega) (by omega) (vr_top hv) ?_
      refine ax_calls (q := 148) rfl rfl rfl rfl rfl ?_
      refine x_joined (by omega) h2 ?_
      refine bx_iast (q := 149) (k := r.length) rfl rfl (kd_31 hX2.ht) (by omega) (by omega) ?_
      refine ax_iinc (q := 152) (z' := ((k + 1 : Nat) : Int)) (L' := [some (am_R (t + 28)), some (am_I l), some (am_I a), some (am_I y), some (am_I s), some (am_I ((r.length + 1 : Nat) : Int)), some (am_I ((k + 1 : Nat) : Int))]) rfl rfl rfl rfl (am_we (by omega) (by omega) (by omega)) rfl ?_
      refine ax_goto (x := 6) rfl ?_
      have e : ru_ T (ak_ l a y s) (k + 1) = wk_ (T 141 k) x yy :: r := by show st_ T (ak_ l a y s) k _ = _; simp [st_, h0, hr]
      have g := ih (k + 1) (by omega) (am_sI σ' (t + 31) (am_up (σ'.1 (t + 31)) r.length (wk_ (T 141 k) x yy))) (fr_sI hf (by simp)) (by rw [sI_at, e]; exact vr_set (vr_pop hv) _)
      rw [e] at g
      exact g

theorem x_gain {d : Nat} (hd : 2 ≤ d) {σ : am_S} {t : Nat} {T : sp_T} (hX : XT_ t T σ) (hV : TV_ T) {l a y s : Int} {Q : Option am_V → am_S → Prop} (hQ : ∀ σ', fr_ [t + 31] σ σ' → Q (some (am_I (gn_ T (ak_ l a y s)))) σ') : am_Ev d 2 [am_R (t + 28), am_I l, am_I a, am_I y, am_I s] σ Q := by
  obtain ⟨d, rfl⟩ : ∃ e, d = e + 1 := ⟨d - 1, by omega⟩
  refine ev_in (m := 2) (c := k_X0_gain) (L := [some (am_R (t + 28)), some (am_I l), some (am_I a), some (am_I y), some (am_I s), none, none]) rfl rfl rfl rfl rfl rfl ?_
  refine ax_const (q := 1) (v := am_I 0) rfl rfl rfl ?_
  refine ax_store (q := 3) (L' := [some (am_R (t + 28)), some (am_I l), some (am_I a), some (am_I y), some (am_I s), some (am_I 0), none]) rfl rfl rfl rfl rfl rfl ?_
  refine ax_const (q := 4) (v := am_I 0) rfl rfl rfl ?_
  refine ax_store (q := 6) (L' := [some (am_R (t + 28)), some (am_I l), some (am_I a), some (am_I y), some (am_I s), some (am_I 0), some (am_I 0)]) rfl rfl rfl rfl rfl rfl ?_
  exact xl_gain (by omega) hX hV hQ (nF_ T) 0 (by omega) σ (fr_rf _ _) (fun i x h => by simp [ru_] at h)

