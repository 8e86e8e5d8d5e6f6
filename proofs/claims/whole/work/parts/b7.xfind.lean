theorem fi_no {g : Nat → Int} {w : Int} {b : Nat} : ∀ m, (∀ j, j < m → g (b + j) ≠ w) → fi_ g w b m = -1
  | 0, _ => rfl
  | m + 1, h => by
    show (if g (b + m) = w then (m : Int) else fi_ g w b m) = -1
    rw [if_neg (h m (by omega))]
    exact fi_no m (fun j hj => h j (by omega))
theorem fi_at {g : Nat → Int} {w : Int} {b i : Nat} (hi : g (b + i) = w) : ∀ m, i < m → (∀ j, j < m → g (b + j) = w → j = i) → fi_ g w b m = (i : Int)
  | 0, h, _ => absurd h (by omega)
  | m + 1, h, hu => by
    show (if g (b + m) = w then (m : Int) else fi_ g w b m) = (i : Int)
    by_cases q : g (b + m) = w
    · rw [if_pos q, hu m (by omega) q]
    · rw [if_neg q]
      exact fi_at hi m (by by_cases e : i = m; exact absurd (by rw [← e]; exact hi) q; omega) (fun j hj => hu j (by omega))
/-- the names of one sort, told so far -/
def NM_ (a c : Nat) (s : Nat) (g : Nat → Int) (b m : Nat) (σ : am_S) : Prop := σ.1 c s = (m : Int) ∧ m ≤ 8 ∧ (∀ i, i < m → σ.2.1 a i = n5_ (g (b + i)) ∧ WK_ (g (b + i))) ∧ ∀ i j, i < m → j < m → g (b + i) = g (b + j) → i = j

theorem xl_find0 {d : Nat} {σ : am_S} {tp : Nat → Int} {n t p : Nat} (hC : RC_ tp n t p σ) {g : Nat → Int} {b m : Nat} (hN : NM_ (t + 3) (t + 1) 0 g b m σ) {w : Int} (hw : σ.2.1 66 8 = n5_ w) (hk : WK_ w) {Q : Option am_V → am_S → Prop} (hQ : Q (some (am_I (fi_ g w b m))) σ) : ∀ (r i : Nat), i + r = m → (∀ j, j < i → g (b + j) ≠ w) → aW d 0 k_X4_find Q 2 [some (am_R 66), some (am_I 0), some (am_I ((i : Nat) : Int))] [] σ := by
  have hm8 := hN.2.1
  intro r
  induction r with
  | zero =>
    intro i hi hj
    obtain hi2 : i = m := by omega
    subst hi2
    refine ax_load (q := 3) rfl rfl rfl rfl rfl ?_
    refine ax_load (q := 4) rfl rfl rfl rfl rfl ?_
    refine ax_getf (q := 7) (v := am_R t) rfl rfl (am_fgR rfl hC.tn) ?_
    refine ax_getf (q := 10) (v := am_R (t + 1)) rfl rfl (xg7_0 hC.ht) ?_
    refine ax_load (q := 11) rfl rfl rfl rfl rfl ?_
    refine bx_iald (q := 12) (k := 0) (z := ((i : Nat) : Int)) rfl rfl (kd_1 hC.ht) (by omega) (by omega) (hN.1) ?_
    refine ax_icmp_ge (q := 15) (x := 42) rfl rfl (fun h12 => ?_) (fun h => absurd h (by omega))
    refine ax_const (q := 43) (v := am_I (-1)) rfl rfl rfl ?_
    refine ax_ret (r := some (am_I (-1))) rfl rfl ?_
    rw [fi_no _ hj] at hQ
    exact hQ
  | succ r ih =>
    intro i hi hj
    have hn := hN.2.2.1 i (by omega)
    have hij := n5_inj hn.2 hk
    refine ax_load (q := 3) rfl rfl rfl rfl rfl ?_
    refine ax_load (q := 4) rfl rfl rfl rfl rfl ?_
    refine ax_getf (q := 7) (v := am_R t) rfl rfl (am_fgR rfl hC.tn) ?_
    refine ax_getf (q := 10) (v := am_R (t + 1)) rfl rfl (xg7_0 hC.ht) ?_
    refine ax_load (q := 11) rfl rfl rfl rfl rfl ?_
    refine bx_iald (q := 12) (k := 0) (z := ((m : Nat) : Int)) rfl rfl (kd_1 hC.ht) (by omega) (by omega) (hN.1) ?_
    refine ax_icmp_ge (q := 15) (x := 42) rfl rfl (fun h => absurd h (by omega)) (fun h12 => ?_)
    refine ax_load (q := 16) rfl rfl rfl rfl rfl ?_
    refine ax_getf (q := 19) (v := am_R t) rfl rfl (am_fgR rfl hC.tn) ?_
    refine ax_getf (q := 22) (v := am_R (t + 2)) rfl rfl (xg7_1 hC.ht) ?_
    refine ax_load (q := 23) rfl rfl rfl rfl rfl ?_
    refine bx_aald (q := 24) (k := 0) (z := t + 3) rfl rfl (Or.inr (kd_2 hC.ht)) (by omega) (by omega) (by omega) ?_
    refine ax_load (q := 25) rfl rfl rfl rfl rfl ?_
    refine bx_lald (q := 26) (k := i) (z := n5_ (g (b + i))) rfl rfl (kd_3 hC.ht) (by omega) (by omega) (hn.1) ?_
    refine ax_load (q := 27) rfl rfl rfl rfl rfl ?_
    refine ax_getf (q := 30) (v := am_J (n5_ w)) rfl rfl (am_fgJ rfl hw) ?_
    refine ax_lcmp (q := 31) rfl rfl ?_
    refine ax_if_ne (q := 34) (x := 36) rfl rfl (fun h31 => ?_) (fun h31 => ?_)
    · refine ax_iinc (q := 39) (z' := ((i + 1 : Nat) : Int)) (L' := [some (am_R 66), some (am_I 0), some (am_I ((i + 1 : Nat) : Int))]) rfl rfl rfl rfl (am_we (by omega) (by omega) (by omega)) rfl ?_
      refine ax_goto (x := 2) rfl ?_
      rw [lc_0] at h31
      refine ih (i + 1) (by omega) (fun j hj2 => ?_)
      by_cases q : j = i
      · rw [q]; exact fun e => h31 (hij.mpr e)
      · exact hj j (by omega)
    · refine ax_load (q := 35) rfl rfl rfl rfl rfl ?_
      refine ax_ret (r := some (am_I ((i : Nat) : Int))) rfl rfl ?_
      rw [lc_0] at h31
      have e := hij.mp h31
      rw [fi_at e m (by omega) (fun j hj2 hj3 => hN.2.2.2 j i hj2 (by omega) (by rw [hj3, e]))] at hQ
      exact hQ

theorem x_find0 {d : Nat} (hd : 1 ≤ d) {σ : am_S} {tp : Nat → Int} {n t p : Nat} (hC : RC_ tp n t p σ) {g : Nat → Int} {b m : Nat} (hN : NM_ (t + 3) (t + 1) 0 g b m σ) {w : Int} (hw : σ.2.1 66 8 = n5_ w) (hk : WK_ w) {Q : Option am_V → am_S → Prop} (hQ : Q (some (am_I (fi_ g w b m))) σ) : am_Ev d 61 [am_R 66, am_I 0] σ Q := by
  obtain ⟨d, rfl⟩ : ∃ e, d = e + 1 := ⟨d - 1, by omega⟩
  refine ev_in (m := 61) (c := k_X4_find) (L := [some (am_R 66), some (am_I 0), none]) rfl rfl rfl rfl rfl rfl ?_
  refine ax_const (q := 1) (v := am_I 0) rfl rfl rfl ?_
  refine ax_store (q := 2) (L' := [some (am_R 66), some (am_I 0), some (am_I 0)]) rfl rfl rfl rfl rfl rfl ?_
  exact xl_find0 hC hN hw hk hQ m 0 (by omega) (fun j hj => absurd hj (by omega))

theorem xl_find1 {d : Nat} {σ : am_S} {tp : Nat → Int} {n t p : Nat} (hC : RC_ tp n t p σ) {g : Nat → Int} {b m : Nat} (hN : NM_ (t + 4) (t + 1) 1 g b m σ) {w : Int} (hw : σ.2.1 66 8 = n5_ w) (hk : WK_ w) {Q : Option am_V → am_S → Prop} (hQ : Q (some (am_I (fi_ g w b m))) σ) : ∀ (r i : Nat), i + r = m → (∀ j, j < i → g (b + j) ≠ w) → aW d 0 k_X4_find Q 2 [some (am_R 66), some (am_I 1), some (am_I ((i : Nat) : Int))] [] σ := by
  have hm8 := hN.2.1
  intro r
  induction r with
  | zero =>
    intro i hi hj
    obtain hi2 : i = m := by omega
    subst hi2
    refine ax_load (q := 3) rfl rfl rfl rfl rfl ?_
    refine ax_load (q := 4) rfl rfl rfl rfl rfl ?_
    refine ax_getf (q := 7) (v := am_R t) rfl rfl (am_fgR rfl hC.tn) ?_
    refine ax_getf (q := 10) (v := am_R (t + 1)) rfl rfl (xg7_0 hC.ht) ?_
    refine ax_load (q := 11) rfl rfl rfl rfl rfl ?_
    refine bx_iald (q := 12) (k := 1) (z := ((i : Nat) : Int)) rfl rfl (kd_1 hC.ht) (by omega) (by omega) (hN.1) ?_
    refine ax_icmp_ge (q := 15) (x := 42) rfl rfl (fun h12 => ?_) (fun h => absurd h (by omega))
    refine ax_const (q := 43) (v := am_I (-1)) rfl rfl rfl ?_
    refine ax_ret (r := some (am_I (-1))) rfl rfl ?_
    rw [fi_no _ hj] at hQ
    exact hQ
  | succ r ih =>
    intro i hi hj
    have hn := hN.2.2.1 i (by omega)
    have hij := n5_inj hn.2 hk
    refine ax_load (q := 3) rfl rfl rfl rfl rfl ?_
    refine ax_load (q := 4) rfl rfl rfl rfl rfl ?_
    refine ax_getf (q := 7) (v := am_R t) rfl rfl (am_fgR rfl hC.tn) ?_
    refine ax_getf (q := 10) (v := am_R (t + 1)) rfl rfl (xg7_0 hC.ht) ?_
    refine ax_load (q := 11) rfl rfl rfl rfl rfl ?_
    refine bx_iald (q := 12) (k := 1) (z := ((m : Nat) : Int)) rfl rfl (kd_1 hC.ht) (by omega) (by omega) (hN.1) ?_
    refine ax_icmp_ge (q := 15) (x := 42) rfl rfl (fun h => absurd h (by omega)) (fun h12 => ?_)
    refine ax_load (q := 16) rfl rfl rfl rfl rfl ?_
    refine ax_getf (q := 19) (v := am_R t) rfl rfl (am_fgR rfl hC.tn) ?_
    refine ax_getf (q := 22) (v := am_R (t + 2)) rfl rfl (xg7_1 hC.ht) ?_
    refine ax_load (q := 23) rfl rfl rfl rfl rfl ?_
    refine bx_aald (q := 24) (k := 1) (z := t + 4) rfl rfl (Or.inr (kd_2 hC.ht)) (by omega) (by omega) (by omega) ?_
    refine ax_load (q := 25) rfl rfl rfl rfl rfl ?_
    refine bx_lald (q := 26) (k := i) (z := n5_ (g (b + i))) rfl rfl (kd_4 hC.ht) (by omega) (by omega) (hn.1) ?_
    refine ax_load (q := 27) rfl rfl rfl rfl rfl ?_
    refine ax_getf (q := 30) (v := am_J (n5_ w)) rfl rfl (am_fgJ rfl hw) ?_
    refine ax_lcmp (q := 31) rfl rfl ?_
    refine ax_if_ne (q := 34) (x := 36) rfl rfl (fun h31 => ?_) (fun h31 => ?_)
    · refine ax_iinc (q := 39) (z' := ((i + 1 : Nat) : Int)) (L' := [some (am_R 66), some (am_I 1), some (am_I ((i + 1 : Nat) : Int))]) rfl rfl rfl rfl (am_we (by omega) (by omega) (by omega)) rfl ?_
      refine ax_goto (x := 2) rfl ?_
      rw [lc_0] at h31
      refine ih (i + 1) (by omega) (fun j hj2 => ?_)
      by_cases q : j = i
      · rw [q]; exact fun e => h31 (hij.mpr e)
      · exact hj j (by omega)
    · refine ax_load (q := 35) rfl rfl rfl rfl rfl ?_
      refine ax_ret (r := some (am_I ((i : Nat) : Int))) rfl rfl ?_
      rw [lc_0] at h31
      have e := hij.mp h31
      rw [fi_at e m (by omega) (fun j hj2 hj3 => hN.2.2.2 j i hj2 (by omega) (by rw [hj3, e]))] at hQ
      exact hQ

theorem x_find1 {d : Nat} (hd : 1 ≤ d) {σ : am_S} {tp : Nat → Int} {n t p : Nat} (hC : RC_ tp n t p σ) {g : Nat → Int} {b m : Nat} (hN : NM_ (t + 4) (t + 1) 1 g b m σ) {w : Int} (hw : σ.2.1 66 8 = n5_ w) (hk : WK_ w) {Q : Option am_V → am_S → Prop} (hQ : Q (some (am_I (fi_ g w b m))) σ) : am_Ev d 61 [am_R 66, am_I 1] σ Q := by
  obtain ⟨d, rfl⟩ : ∃ e, d = e + 1 := ⟨d - 1, by omega⟩
  refine ev_in (m := 61) (c := k_X4_find) (L := [some (am_R 66), some (am_I 1), none]) rfl rfl rfl rfl rfl rfl ?_
  refine ax_const (q := 1) (v := am_I 0) rfl rfl rfl ?_
  refine ax_store (q := 2) (L' := [some (am_R 66), some (am_I 1), some (am_I 0)]) rfl rfl rfl rfl rfl rfl ?_
  exact xl_find1 hC hN hw hk hQ m 0 (by omega) (fun j hj => absurd hj (by omega))

theorem xl_find2 {d : Nat} {σ : am_S} {tp : Nat → Int} {n t p : Nat} (hC : RC_ tp n t p σ) {g : Nat → Int} {b m : Nat} (hN : NM_ (t + 5) (t + 1) 2 g b m σ) {w : Int} (hw : σ.2.1 66 8 = n5_ w) (hk : WK_ w) {Q : Option am_V → am_S → Prop} (hQ : Q (some (am_I (fi_ g w b m))) σ) : ∀ (r i : Nat), i + r = m → (∀ j, j < i → g (b + j) ≠ w) → aW d 0 k_X4_find Q 2 [some (am_R 66), some (am_I 2), some (am_I ((i : Nat) : Int))] [] σ := by
  have hm8 := hN.2.1
  intro r
  induction r with
  | zero =>
    intro i hi hj
    obtain hi2 : i = m := by omega
    subst hi2
    refine ax_load (q := 3) rfl rfl rfl rfl rfl ?_
    refine ax_load (q := 4) rfl rfl rfl rfl rfl ?_
    refine ax_getf (q := 7) (v := am_R t) rfl rfl (am_fgR rfl hC.tn) ?_
    refine ax_getf (q := 10) (v := am_R (t + 1)) rfl rfl (xg7_0 hC.ht) ?_
    refine ax_load (q := 11) rfl rfl rfl rfl rfl ?_
    refine bx_iald (q := 12) (k := 2) (z := ((i : Nat) : Int)) rfl rfl (kd_1 hC.ht) (by omega) (by omega) (hN.1) ?_
    refine ax_icmp_ge (q := 15) (x := 42) rfl rfl (fun h12 => ?_) (fun h => absurd h (by omega))
    refine ax_const (q := 43) (v := am_I (-1)) rfl rfl rfl ?_
    refine ax_ret (r := some (am_I (-1))) rfl rfl ?_
    rw [fi_no _ hj] at hQ
    exact hQ
  | succ r ih =>
    intro i hi hj
    have hn := hN.2.2.1 i (by omega)
    have hij := n5_inj hn.2 hk
    refine ax_load (q := 3) rfl rfl rfl rfl rfl ?_
    refine ax_load (q := 4) rfl rfl rfl rfl rfl ?_
    refine ax_getf (q := 7) (v := am_R t) rfl rfl (am_fgR rfl hC.tn) ?_
    refine ax_getf (q := 10) (v := am_R (t + 1)) rfl rfl (xg7_0 hC.ht) ?_
    refine ax_load (q := 11) rfl rfl rfl rfl rfl ?_
    refine bx_iald (q := 12) (k := 2) (z := ((m : Nat) : Int)) rfl rfl (kd_1 hC.ht) (by omega) (by omega) (hN.1) ?_
    refine ax_icmp_ge (q := 15) (x := 42) rfl rfl (fun h => absurd h (by omega)) (fun h12 => ?_)
    refine ax_load (q := 16) rfl rfl rfl rfl rfl ?_
    refine ax_getf (q := 19) (v := am_R t) rfl rfl (am_fgR rfl hC.tn) ?_
    refine ax_getf (q := 22) (v := am_R (t + 2)) rfl rfl (xg7_1 hC.ht) ?_
    refine ax_load (q := 23) rfl rfl rfl rfl rfl ?_
    refine bx_aald (q := 24) (k := 2) (z := t + 5) rfl rfl (Or.inr (kd_2 hC.ht)) (by omega) (by omega) (by omega) ?_
    refine ax_load (q := 25) rfl rfl rfl rfl rfl ?_
    refine bx_lald (q := 26) (k := i) (z := n5_ (g (b + i))) rfl rfl (kd_5 hC.ht) (by omega) (by omega) (hn.1) ?_
    refine ax_load (q := 27) rfl rfl rfl rfl rfl ?_
    refine ax_getf (q := 30) (v := am_J (n5_ w)) rfl rfl (am_fgJ rfl hw) ?_
    refine ax_lcmp (q := 31) rfl rfl ?_
    refine ax_if_ne (q := 34) (x := 36) rfl rfl (fun h31 => ?_) (fun h31 => ?_)
    · refine ax_iinc (q := 39) (z' := ((i + 1 : Nat) : Int)) (L' := [some (am_R 66), some (am_I 2), some (am_I ((i + 1 : Nat) : Int))]) rfl rfl rfl rfl (am_we (by omega) (by omega) (by omega)) rfl ?_
      refine ax_goto (x := 2) rfl ?_
      rw [lc_0] at h31
      refine ih (i + 1) (by omega) (fun j hj2 => ?_)
      by_cases q : j = i
      · rw [q]; exact fun e => h31 (hij.mpr e)
      · exact hj j (by omega)
    · refine ax_load (q := 35) rfl rfl rfl rfl rfl ?_
      refine ax_ret (r := some (am_I ((i : Nat) : Int))) rfl rfl ?_
      rw [lc_0] at h31
      have e := hij.mp h31
      rw [fi_at e m (by omega) (fun j hj2 hj3 => hN.2.2.2 j i hj2 (by omega) (by rw [hj3, e]))] at hQ
      exact hQ

theorem x_find2 {d : Nat} (hd : 1 ≤ d) {σ : am_S} {tp : Nat → Int} {n t p : Nat} (hC : RC_ tp n t p σ) {g : Nat → Int} {b m : Nat} (hN : NM_ (t + 5) (t + 1) 2 g b m σ) {w : Int} (hw : σ.2.1 66 8 = n5_ w) (hk : WK_ w) {Q : Option am_V → am_S → Prop} (hQ : Q (some (am_I (fi_ g w b m))) σ) : am_Ev d 61 [am_R 66, am_I 2] σ Q := by
  obtain ⟨d, rfl⟩ : ∃ e, d = e + 1 := ⟨d - 1, by omega⟩
  refine ev_in (m := 61) (c := k_X4_find) (L := [some (am_R 66), some (am_I 2), none]) rfl rfl rfl rfl rfl rfl ?_
  refine ax_const (q := 1) (v := am_I 0) rfl rfl rfl ?_
  refine ax_store (q := 2) (L' := [some (am_R 66), some (am_I 2), some (am_I 0)]) rfl rfl rfl rfl rfl rfl ?_
  exact xl_find2 hC hN hw hk hQ m 0 (by omega) (fun j hj => absurd hj (by omega))

theorem xl_find3 {d : Nat} {σ : am_S} {tp : Nat → Int} {n t p : Nat} (hC : RC_ tp n t p σ) {g : Nat → Int} {b m : Nat} (hN : NM_ (t + 6) (t + 1) 3 g b m σ) {w : Int} (hw : σ.2.1 66 8 = n5_ w) (hk : WK_ w) {Q : Option am_V → am_S → Prop} (hQ : Q (some (am_I (fi_ g w b m))) σ) : ∀ (r i : Nat), i + r = m → (∀ j, j < i → g (b + j) ≠ w) → aW d 0 k_X4_find Q 2 [some (am_R 66), some (am_I 3), some (am_I ((i : Nat) : Int))] [] σ := by
  have hm8 := hN.2.1
  intro r
  induction r with
  | zero =>
    intro i hi hj
    obtain hi2 : i = m := by omega
    subst hi2
    refine ax_load (q := 3) rfl rfl rfl rfl rfl ?_
    refine ax_load (q := 4) rfl rfl rfl rfl rfl ?_
    refine ax_getf (q := 7) (v := am_R t) rfl rfl (am_fgR rfl hC.tn) ?_
    refine ax_getf (q := 10) (v := am_R (t + 1)) rfl rfl (xg7_0 hC.ht) ?_
    refine ax_load (q := 11) rfl rfl rfl rfl rfl ?_
    refine bx_iald (q := 12) (k := 3) (z := ((i : Nat) : Int)) rfl rfl (kd_1 hC.ht) (by omega) (by omega) (hN.1) ?_
    refine ax_icmp_ge (q := 15) (x := 42) rfl rfl (fun h12 => ?_) (fun h => absurd h (by omega))
    refine ax_const (q := 43) (v := am_I (-1)) rfl rfl rfl ?_
    refine ax_ret (r := some (am_I (-1))) rfl rfl ?_
    rw [fi_no _ hj] at hQ
    exact hQ
  | succ r ih =>
    intro i hi hj
    have hn := hN.2.2.1 i (by omega)
    have hij := n5_inj hn.2 hk
    refine ax_load (q := 3) rfl rfl rfl rfl rfl ?_
    refine ax_load (q := 4) rfl rfl rfl rfl rfl ?_
    refine ax_getf (q := 7) (v := am_R t) rfl rfl (am_fgR rfl hC.tn) ?_
    refine ax_getf (q := 10) (v := am_R (t + 1)) rfl rfl (xg7_0 hC.ht) ?_
    refine ax_load (q := 11) rfl rfl rfl rfl rfl ?_
    refine bx_iald (q := 12) (k := 3) (z := ((m : Nat) : Int)) rfl rfl (kd_1 hC.ht) (by omega) (by omega) (hN.1) ?_
    refine ax_icmp_ge (q := 15) (x := 42) rfl rfl (fun h => absurd h (by omega)) (fun h12 => ?_)
    refine ax_load (q := 16) rfl rfl rfl rfl rfl ?_
    refine ax_getf (q := 19) (v := am_R t) rfl rfl (am_fgR rfl hC.tn) ?_
    refine ax_getf (q := 22) (v := am_R (t + 2)) rfl rfl (xg7_1 hC.ht) ?_
    refine ax_load (q := 23) rfl rfl rfl rfl rfl ?_
    refine bx_aald (q := 24) (k := 3) (z := t + 6) rfl rfl (Or.inr (kd_2 hC.ht)) (by omega) (by omega) (by omega) ?_
    refine ax_load (q := 25) rfl rfl rfl rfl rfl ?_
    refine bx_lald (q := 26) (k := i) (z := n5_ (g (b + i))) rfl rfl (kd_6 hC.ht) (by omega) (by omega) (hn.1) ?_
    refine ax_load (q := 27) rfl rfl rfl rfl rfl ?_
    refine ax_getf (q := 30) (v := am_J (n5_ w)) rfl rfl (am_fgJ rfl hw) ?_
    refine ax_lcmp (q := 31) rfl rfl ?_
    refine ax_if_ne (q := 34) (x := 36) rfl rfl (fun h31 => ?_) (fun h31 => ?_)
    · refine ax_iinc (q := 39) (z' := ((i + 1 : Nat) : Int)) (L' := [some (am_R 66), some (am_I 3), some (am_I ((i + 1 : Nat) : Int))]) rfl rfl rfl rfl (am_we (by omega) (by omega) (by omega)) rfl ?_
      refine ax_goto (x := 2) rfl ?_
      rw [lc_0] at h31
      refine ih (i + 1) (by omega) (fun j hj2 => ?_)
      by_cases q : j = i
      · rw [q]; exact fun e => h31 (hij.mpr e)
      · exact hj j (by omega)
    · refine ax_load (q := 35) rfl rfl rfl rfl rfl ?_
      refine ax_ret (r := some (am_I ((i : Nat) : Int))) rfl rfl ?_
      rw [lc_0] at h31
      have e := hij.mp h31
      rw [fi_at e m (by omega) (fun j hj2 hj3 => hN.2.2.2 j i hj2 (by omega) (by rw [hj3, e]))] at hQ
      exact hQ

theorem x_find3 {d : Nat} (hd : 1 ≤ d) {σ : am_S} {tp : Nat → Int} {n t p : Nat} (hC : RC_ tp n t p σ) {g : Nat → Int} {b m : Nat} (hN : NM_ (t + 6) (t + 1) 3 g b m σ) {w : Int} (hw : σ.2.1 66 8 = n5_ w) (hk : WK_ w) {Q : Option am_V → am_S → Prop} (hQ : Q (some (am_I (fi_ g w b m))) σ) : am_Ev d 61 [am_R 66, am_I 3] σ Q := by
  obtain ⟨d, rfl⟩ : ∃ e, d = e + 1 := ⟨d - 1, by omega⟩
  refine ev_in (m := 61) (c := k_X4_find) (L := [some (am_R 66), some (am_I 3), none]) rfl rfl rfl rfl rfl rfl ?_
  refine ax_const (q := 1) (v := am_I 0) rfl rfl rfl ?_
  refine ax_store (q := 2) (L' := [some (am_R 66), some (am_I 3), some (am_I 0)]) rfl rfl rfl rfl rfl rfl ?_
  exact xl_find3 hC hN hw hk hQ m 0 (by omega) (fun j hj => absurd hj (by omega))

