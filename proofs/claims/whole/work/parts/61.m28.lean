def sgh_ (so w : Int) : Int := if so = 1 ∧ w = 6385252 then 38 else if so = 1 ∧ w = 28530 then 124 else if so = 60 ∨ so = 62 ∨ so = 61 ∨ so = 43 ∨ so = 45 ∨ so = 42 ∨ so = 47 ∨ so = 37 then so else 0
def ad_ (σ : am_S) (s : Nat) (x y : Int) : am_S := am_sI (am_sI (am_sI σ 138 (am_up (σ.1 138) s x)) 139 (am_up (σ.1 139) s y)) 135 (am_up (σ.1 135) 17 ((s + 1 : Nat) : Int))
def cu_ (σ : am_S) (u o : Nat) : am_S := am_sI σ 135 (am_up (am_up (σ.1 135) 20 ((u + 1 : Nat) : Int)) 22 ((o + 1 : Nat) : Int))
def mn_ (g : Nat → Int) (n : Nat) : Bool := decide (n = 0 ∨ g (n - 1) = 20 ∨ ti_ (g (n - 1)) < 4)
def hrl_ (g : Nat → Int) : Nat → Bool
  | 0 => false
  | k + 1 => if g k = 20 then false else if 4 < ti_ (g k) then hrl_ g k else decide (ti_ (g k) = 4)
theorem ti_bd (z : Int) : 1 ≤ ti_ z ∧ ti_ z ≤ 6 := by
  unfold ti_
  (repeat' split) <;> omega

theorem m_add {d : Nat} (hd : 1 ≤ d) {σ : am_S} {s : Nat} (hs : σ.1 135 17 = (s : Int)) (hs9 : s < 320) {x y : Int} {Q : Option am_V → am_S → Prop} (hQ : Q (none) (ad_ σ s x y)) : am_Ev d 158 [am_R 135, am_I x, am_I y] σ Q := by
  obtain ⟨d, rfl⟩ : ∃ e, d = e + 1 := ⟨d - 1, by omega⟩
  refine ev_in (m := 158) (c := k_X9_add) (L := [some (am_R 135), some (am_I x), some (am_I y)]) rfl rfl rfl rfl rfl rfl ?_
  refine ax_load (q := 1) rfl rfl rfl rfl rfl ?_
  refine ax_getf (q := 4) (v := am_R 138) rfl rfl (rfl) ?_
  refine ax_load (q := 5) rfl rfl rfl rfl rfl ?_
  refine ax_getf (q := 8) (v := am_I ((s : Nat) : Int)) rfl rfl (am_fg rfl (by first | exact hs | (rw [sI_ne (by decide)]; exact hs) | (rw [sI_ne (by decide), sI_ne (by decide)]; exact hs))) ?_
  refine ax_load (q := 9) rfl rfl rfl rfl rfl ?_
  refine bx_iast (q := 10) (k := s) rfl rfl (rfl) (by omega) (by omega) ?_
  refine ax_load (q := 11) rfl rfl rfl rfl rfl ?_
  refine ax_getf (q := 14) (v := am_R 139) rfl rfl (rfl) ?_
  refine ax_load (q := 15) rfl rfl rfl rfl rfl ?_
  refine ax_getf (q := 18) (v := am_I ((s : Nat) : Int)) rfl rfl (am_fg rfl (by first | exact hs | (rw [sI_ne (by decide)]; exact hs) | (rw [sI_ne (by decide), sI_ne (by decide)]; exact hs))) ?_
  refine ax_load (q := 19) rfl rfl rfl rfl rfl ?_
  refine bx_iast (q := 20) (k := s) rfl rfl (rfl) (by omega) (by omega) ?_
  refine ax_load (q := 21) rfl rfl rfl rfl rfl ?_
  refine ax_dup (q := 22) rfl rfl rfl ?_
  refine ax_getf (q := 25) (v := am_I ((s : Nat) : Int)) rfl rfl (am_fg rfl (by first | exact hs | (rw [sI_ne (by decide)]; exact hs) | (rw [sI_ne (by decide), sI_ne (by decide)]; exact hs))) ?_
  refine ax_const (q := 26) (v := am_I 1) rfl rfl rfl ?_
  refine ax_iadd (q := 27) (z := ((s + 1 : Nat) : Int)) rfl rfl (am_we (by omega) (by omega) (by omega)) ?_
  refine ax_putf (q := 30) rfl rfl rfl ?_
  refine ax_ret (r := none) rfl rfl ?_
  exact hQ

theorem m_countUnit {d : Nat} (hd : 1 ≤ d) {σ : am_S} {u o : Nat} (hu : σ.1 135 20 = (u : Int)) (ho : σ.1 135 22 = (o : Int)) (hu9 : u < 1000) (ho9 : o < 1000) {Q : Option am_V → am_S → Prop} (hQ : Q (none) (cu_ σ u o)) : am_Ev d 165 [am_R 135] σ Q := by
  obtain ⟨d, rfl⟩ : ∃ e, d = e + 1 := ⟨d - 1, by omega⟩
  refine ev_in (m := 165) (c := k_X9_countUnit) (L := [some (am_R 135)]) rfl rfl rfl rfl rfl rfl ?_
  refine ax_load (q := 1) rfl rfl rfl rfl rfl ?_
  refine ax_dup (q := 2) rfl rfl rfl ?_
  refine ax_getf (q := 5) (v := am_I ((u : Nat) : Int)) rfl rfl (am_fg rfl hu) ?_
  refine ax_const (q := 6) (v := am_I 1) rfl rfl rfl ?_
  refine ax_iadd (q := 7) (z := ((u + 1 : Nat) : Int)) rfl rfl (am_we (by omega) (by omega) (by omega)) ?_
  refine ax_putf (q := 10) rfl rfl rfl ?_
  refine ax_load (q := 11) rfl rfl rfl rfl rfl ?_
  refine ax_dup (q := 12) rfl rfl rfl ?_
  refine ax_getf (q := 15) (v := am_I ((o : Nat) : Int)) rfl rfl (am_fg rfl (by rw [sI_at, am_up_ne (by decide)]; exact ho)) ?_
  refine ax_const (q := 16) (v := am_I 1) rfl rfl rfl ?_
  refine ax_iadd (q := 17) (z := ((o + 1 : Nat) : Int)) rfl rfl (am_we (by omega) (by omega) (by omega)) ?_
  refine ax_putf (q := 20) rfl rfl rfl ?_
  refine ax_ret (r := none) rfl rfl ?_
  unfold cu_ at hQ
  rw [sI_sI, sI_at]
  exact hQ

theorem m_signHere {d : Nat} (hd : 2 ≤ d) {σ : am_S}  {Q : Option am_V → am_S → Prop} (hQ : Q (some (am_I (sgh_ (σ.1 135 6) (σ.2.1 135 9)))) σ) : am_Ev d 168 [am_R 135] σ Q := by
  obtain ⟨d, rfl⟩ : ∃ e, d = e + 1 := ⟨d - 1, by omega⟩
  refine ev_in (m := 168) (c := k_X9_signHere) (L := [some (am_R 135)]) rfl rfl rfl rfl rfl rfl ?_
  refine ax_load (q := 1) rfl rfl rfl rfl rfl ?_
  refine ax_const (q := 4) (v := am_J 6385252) rfl rfl rfl ?_
  refine ax_callv (q := 7) rfl rfl rfl rfl rfl rfl ?_
  refine m_isWord (by omega) ?_
  refine ax_if_eq (q := 10) (x := 13) rfl rfl (fun h7 => ?_) (fun h7 => ?_)
  · have hb7 := of_decide_eq_false (it_0 h7)
    refine ax_load (q := 14) rfl rfl rfl rfl rfl ?_
    refine ax_const (q := 17) (v := am_J 28530) rfl rfl rfl ?_
    refine ax_callv (q := 20) rfl rfl rfl rfl rfl rfl ?_
    refine m_isWord (by omega) ?_
    refine ax_if_eq (q := 23) (x := 26) rfl rfl (fun h20 => ?_) (fun h20 => ?_)
    · have hb20 := of_decide_eq_false (it_0 h20)
      refine ax_load (q := 27) rfl rfl rfl rfl rfl ?_
      refine ax_getf (q := 30) (v := am_I (σ.1 135 6)) rfl rfl (rfl) ?_
      refine ax_const (q := 32) (v := am_I 60) rfl rfl rfl ?_
      refine ax_icmp_eq (q := 35) (x := 98) rfl rfl (fun h32 => ?_) (fun h32 => ?_)
      · refine ax_load (q := 99) rfl rfl rfl rfl rfl ?_
        refine ax_getf (q := 102) (v := am_I (σ.1 135 6)) rfl rfl (rfl) ?_
        refine ax_goto (x := 106) rfl ?_
        refine ax_ret (r := some (am_I (σ.1 135 6))) rfl rfl ?_
        have e : sgh_ (σ.1 135 6) (σ.2.1 135 9) = σ.1 135 6 := by unfold sgh_; first | (rw [if_pos hb7]; done) | (rw [if_neg hb7, if_pos hb20]; done) | (rw [if_neg hb7, if_neg hb20, if_pos (by omega)]; done) | (rw [if_neg hb7, if_neg hb20, if_neg (by omega)]; done)
        rw [e] at hQ
        exact hQ
      · refine ax_load (q := 36) rfl rfl rfl rfl rfl ?_
        refine ax_getf (q := 39) (v := am_I (σ.1 135 6)) rfl rfl (rfl) ?_
        refine ax_const (q := 41) (v := am_I 62) rfl rfl rfl ?_
        refine ax_icmp_eq (q := 44) (x := 98) rfl rfl (fun h41 => ?_) (fun h41 => ?_)
        · refine ax_load (q := 99) rfl rfl rfl rfl rfl ?_
          refine ax_getf (q := 102) (v := am_I (σ.1 135 6)) rfl rfl (rfl) ?_
          refine ax_goto (x := 106) rfl ?_
          refine ax_ret (r := some (am_I (σ.1 135 6))) rfl rfl ?_
          have e : sgh_ (σ.1 135 6) (σ.2.1 135 9) = σ.1 135 6 := by unfold sgh_; first | (rw [if_pos hb7]; done) | (rw [if_neg hb7, if_pos hb20]; done) | (rw [if_neg hb7, if_neg hb20, if_pos (by omega)]; done) | (rw [if_neg hb7, if_neg hb20, if_neg (by omega)]; done)
          rw [e] at hQ
          exact hQ
        · refine ax_load (q := 45) rfl rfl rfl rfl rfl ?_
          refine ax_getf (q := 48) (v := am_I (σ.1 135 6)) rfl rfl (rfl) ?_
          refine ax_const (q := 50) (v := am_I 61) rfl rfl rfl ?_
          refine ax_icmp_eq (q := 53) (x := 98) rfl rfl (fun h50 => ?_) (fun h50 => ?_)
          · refine ax_load (q := 99) rfl rfl rfl rfl rfl ?_
            refine ax_getf (q := 102) (v := am_I (σ.1 135 6)) rfl rfl (rfl) ?_
            refine ax_goto (x := 106) rfl ?_
            refine ax_ret (r := some (am_I (σ.1 135 6))) rfl rfl ?_
            have e : sgh_ (σ.1 135 6) (σ.2.1 135 9) = σ.1 135 6 := by unfold sgh_; first | (rw [if_pos hb7]; done) | (rw [if_neg hb7, if_pos hb20]; done) | (rw [if_neg hb7, if_neg hb20, if_pos (by omega)]; done) | (rw [if_neg hb7, if_neg hb20, if_neg (by omega)]; done)
            rw [e] at hQ
            exact hQ
          · refine ax_load (q := 54) rfl rfl rfl rfl rfl ?_
            refine ax_getf (q := 57) (v := am_I (σ.1 135 6)) rfl rfl (rfl) ?_
            refine ax_const (q := 59) (v := am_I 43) rfl rfl rfl ?_
            refine ax_icmp_eq (q := 62) (x := 98) rfl rfl (fun h59 => ?_) (fun h59 => ?_)
            · refine ax_load (q := 99) rfl rfl rfl rfl rfl ?_
              refine ax_getf (q := 102) (v := am_I (σ.1 135 6)) rfl rfl (rfl) ?_
              refine ax_goto (x := 106) rfl ?_
              refine ax_ret (r := some (am_I (σ.1 135 6))) rfl rfl ?_
              have e : sgh_ (σ.1 135 6) (σ.2.1 135 9) = σ.1 135 6 := by unfold sgh_; first | (rw [if_pos hb7]; done) | (rw [if_neg hb7, if_pos hb20]; done) | (rw [if_neg hb7, if_neg hb20, if_pos (by omega)]; done) | (rw [if_neg hb7, if_neg hb20, if_neg (by omega)]; done)
              rw [e] at hQ
              exact hQ
            · refine ax_load (q := 63) rfl rfl rfl rfl rfl ?_
              refine ax_getf (q := 66) (v := am_I (σ.1 135 6)) rfl rfl (rfl) ?_
              refine ax_const (q := 68) (v := am_I 45) rfl rfl rfl ?_
              refine ax_icmp_eq (q := 71) (x := 98) rfl rfl (fun h68 => ?_) (fun h68 => ?_)
              · refine ax_load (q := 99) rfl rfl rfl rfl rfl ?_
                refine ax_getf (q := 102) (v := am_I (σ.1 135 6)) rfl rfl (rfl) ?_
                refine ax_goto (x := 106) rfl ?_
                refine ax_ret (r := some (am_I (σ.1 135 6))) rfl rfl ?_
                have e : sgh_ (σ.1 135 6) (σ.2.1 135 9) = σ.1 135 6 := by unfold sgh_; first | (rw [if_pos hb7]; done) | (rw [if_neg hb7, if_pos hb20]; done) | (rw [if_neg hb7, if_neg hb20, if_pos (by omega)]; done) | (rw [if_neg hb7, if_neg hb20, if_neg (by omega)]; done)
                rw [e] at hQ
                exact hQ
              · refine ax_load (q := 72) rfl rfl rfl rfl rfl ?_
                refine ax_getf (q := 75) (v := am_I (σ.1 135 6)) rfl rfl (rfl) ?_
                refine ax_const (q := 77) (v := am_I 42) rfl rfl rfl ?_
                refine ax_icmp_eq (q := 80) (x := 98) rfl rfl (fun h77 => ?_) (fun h77 => ?_)
                · refine ax_load (q := 99) rfl rfl rfl rfl rfl ?_
                  refine ax_getf (q := 102) (v := am_I (σ.1 135 6)) rfl rfl (rfl) ?_
                  refine ax_goto (x := 106) rfl ?_
                  refine ax_ret (r := some (am_I (σ.1 135 6))) rfl rfl ?_
                  have e : sgh_ (σ.1 135 6) (σ.2.1 135 9) = σ.1 135 6 := by unfold sgh_; first | (rw [if_pos hb7]; done) | (rw [if_neg hb7, if_pos hb20]; done) | (rw [if_neg hb7, if_neg hb20, if_pos (by omega)]; done) | (rw [if_neg hb7, if_neg hb20, if_neg (by omega)]; done)
                  rw [e] at hQ
                  exact hQ
                · refine ax_load (q := 81) rfl rfl rfl rfl rfl ?_
                  refine ax_getf (q := 84) (v := am_I (σ.1 135 6)) rfl rfl (rfl) ?_
                  refine ax_const (q := 86) (v := am_I 47) rfl rfl rfl ?_
                  refine ax_icmp_eq (q := 89) (x := 98) rfl rfl (fun h86 => ?_) (fun h86 => ?_)
                  · refine ax_load (q := 99) rfl rfl rfl rfl rfl ?_
                    refine ax_getf (q := 102) (v := am_I (σ.1 135 6)) rfl rfl (rfl) ?_
                    refine ax_goto (x := 106) rfl ?_
                    refine ax_ret (r := some (am_I (σ.1 135 6))) rfl rfl ?_
                    have e : sgh_ (σ.1 135 6) (σ.2.1 135 9) = σ.1 135 6 := by unfold sgh_; first | (rw [if_pos hb7]; done) | (rw [if_neg hb7, if_pos hb20]; done) | (rw [if_neg hb7, if_neg hb20, if_pos (by omega)]; done) | (rw [if_neg hb7, if_neg hb20, if_neg (by omega)]; done)
                    rw [e] at hQ
                    exact hQ
                  · refine ax_load (q := 90) rfl rfl rfl rfl rfl ?_
                    refine ax_getf (q := 93) (v := am_I (σ.1 135 6)) rfl rfl (rfl) ?_
                    refine ax_const (q := 95) (v := am_I 37) rfl rfl rfl ?_
                    refine ax_icmp_ne (q := 98) (x := 105) rfl rfl (fun h95 => ?_) (fun h95 => ?_)
                    · refine ax_const (q := 106) (v := am_I 0) rfl rfl rfl ?_
                      refine ax_ret (r := some (am_I 0)) rfl rfl ?_
                      have e : sgh_ (σ.1 135 6) (σ.2.1 135 9) = 0 := by unfold sgh_; first | (rw [if_pos hb7]; done) | (rw [if_neg hb7, if_pos hb20]; done) | (rw [if_neg hb7, if_neg hb20, if_pos (by omega)]; done) | (rw [if_neg hb7, if_neg hb20, if_neg (by omega)]; done)
                      rw [e] at hQ
                      exact hQ
                    · refine ax_load (q := 99) rfl rfl rfl rfl rfl ?_
                      refine ax_getf (q := 102) (v := am_I (σ.1 135 6)) rfl rfl (rfl) ?_
                      refine ax_goto (x := 106) rfl ?_
                      refine ax_ret (r := some (am_I (σ.1 135 6))) rfl rfl ?_
                      have e : sgh_ (σ.1 135 6) (σ.2.1 135 9) = σ.1 135 6 := by unfold sgh_; first | (rw [if_pos hb7]; done) | (rw [if_neg hb7, if_pos hb20]; done) | (rw [if_neg hb7, if_neg hb20, if_pos (by omega)]; done) | (rw [if_neg hb7, if_neg hb20, if_neg (by omega)]; done)
                      rw [e] at hQ
                      exact hQ
    · have hb20 := of_decide_eq_true (it_n0 h20)
      refine ax_const (q := 25) (v := am_I 124) rfl rfl rfl ?_
      refine ax_ret (r := some (am_I 124)) rfl rfl ?_
      have e : sgh_ (σ.1 135 6) (σ.2.1 135 9) = 124 := by unfold sgh_; first | (rw [if_pos hb7]; done) | (rw [if_neg hb7, if_pos hb20]; done) | (rw [if_neg hb7, if_neg hb20, if_pos (by omega)]; done) | (rw [if_neg hb7, if_neg hb20, if_neg (by omega)]; done)
      rw [e] at hQ
      exact hQ
  · have hb7 := of_decide_eq_true (it_n0 h7)
    refine ax_const (q := 12) (v := am_I 38) rfl rfl rfl ?_
    refine ax_ret (r := some (am_I 38)) rfl rfl ?_
    have e : sgh_ (σ.1 135 6) (σ.2.1 135 9) = 38 := by unfold sgh_; first | (rw [if_pos hb7]; done) | (rw [if_neg hb7, if_pos hb20]; done) | (rw [if_neg hb7, if_neg hb20, if_pos (by omega)]; done) | (rw [if_neg hb7, if_neg hb20, if_neg (by omega)]; done)
    rw [e] at hQ
    exact hQ

theorem m_mayNot {d : Nat} (hd : 2 ≤ d) {σ : am_S} {g : Nat → Int} {n : Nat} (hg : σ.1 142 = g) (hn : σ.1 135 19 = (n : Int)) (hn9 : n ≤ 160) {Q : Option am_V → am_S → Prop} (hQ : Q (some (am_I (if mn_ g n then 1 else 0))) σ) : am_Ev d 162 [am_R 135] σ Q := by
  obtain ⟨d, rfl⟩ : ∃ e, d = e + 1 := ⟨d - 1, by omega⟩
  refine ev_in (m := 162) (c := k_X9_mayNot) (L := [some (am_R 135)]) rfl rfl rfl rfl rfl rfl ?_
  refine ax_load (q := 1) rfl rfl rfl rfl rfl ?_
  refine ax_getf (q := 4) (v := am_I ((n : Nat) : Int)) rfl rfl (am_fg rfl hn) ?_
  refine ax_if_eq (q := 7) (x := 41) rfl rfl (fun h4 => ?_) (fun h4 => ?_)
  · refine ax_const (q := 42) (v := am_I 1) rfl rfl rfl ?_
    refine ax_goto (x := 46) rfl ?_
    refine ax_ret (r := some (am_I 1)) rfl ⟨rfl, Or.inr rfl⟩ ?_
    have e : mn_ g n = true := by unfold mn_; first | exact decide_eq_true (by omega) | exact decide_eq_false (by omega)
    rw [e] at hQ
    exact hQ
  · refine ax_load (q := 8) rfl rfl rfl rfl rfl ?_
    refine ax_getf (q := 11) (v := am_R 142) rfl rfl (rfl) ?_
    refine ax_load (q := 12) rfl rfl rfl rfl rfl ?_
    refine ax_getf (q := 15) (v := am_I ((n : Nat) : Int)) rfl rfl (am_fg rfl hn) ?_
    refine ax_const (q := 16) (v := am_I 1) rfl rfl rfl ?_
    refine ax_isub (q := 17) (z := (((n - 1) : Nat) : Int)) rfl rfl (am_we (by omega) (by omega) (by omega)) ?_
    refine bx_iald (q := 18) (k := (n - 1)) (z := g (n - 1)) rfl rfl (rfl) (by omega) (by omega) (congrFun hg _) ?_
    refine ax_const (q := 20) (v := am_I 20) rfl rfl rfl ?_
    refine ax_icmp_eq (q := 23) (x := 41) rfl rfl (fun h20 => ?_) (fun h20 => ?_)
    · refine ax_const (q := 42) (v := am_I 1) rfl rfl rfl ?_
      refine ax_goto (x := 46) rfl ?_
      refine ax_ret (r := some (am_I 1)) rfl ⟨rfl, Or.inr rfl⟩ ?_
      have e : mn_ g n = true := by unfold mn_; first | exact decide_eq_true (by omega) | exact decide_eq_false (by omega)
      rw [e] at hQ
      exact hQ
    · refine ax_load (q := 24) rfl rfl rfl rfl rfl ?_
      refine ax_getf (q := 27) (v := am_R 142) rfl rfl (rfl) ?_
      refine ax_load (q := 28) rfl rfl rfl rfl rfl ?_
      refine ax_getf (q := 31) (v := am_I ((n : Nat) : Int)) rfl rfl (am_fg rfl hn) ?_
      refine ax_const (q := 32) (v := am_I 1) rfl rfl rfl ?_
      refine ax_isub (q := 33) (z := (((n - 1) : Nat) : Int)) rfl rfl (am_we (by omega) (by omega) (by omega)) ?_
      refine bx_iald (q := 34) (k := (n - 1)) (z := g (n - 1)) rfl rfl (rfl) (by omega) (by omega) (congrFun hg _) ?_
      refine ax_calls (q := 37) rfl rfl rfl rfl rfl ?_
      refine m_tight (by omega) ?_
      refine ax_const (q := 38) (v := am_I 4) rfl rfl rfl ?_
      refine ax_icmp_ge (q := 41) (x := 45) rfl rfl (fun h38 => ?_) (fun h38 => ?_)
      · refine ax_const (q := 46) (v := am_I 0) rfl rfl rfl ?_
        refine ax_ret (r := some (am_I 0)) rfl ⟨rfl, Or.inl rfl⟩ ?_
        have e : mn_ g n = false := by unfold mn_; first | exact decide_eq_true (by omega) | exact decide_eq_false (by omega)
        rw [e] at hQ
        exact hQ
      · refine ax_const (q := 42) (v := am_I 1) rfl rfl rfl ?_
        refine ax_goto (x := 46) rfl ?_
        refine ax_ret (r := some (am_I 1)) rfl ⟨rfl, Or.inr rfl⟩ ?_
        have e : mn_ g n = true := by unfold mn_; first | exact decide_eq_true (by omega) | exact decide_eq_false (by omega)
        rw [e] at hQ
        exact hQ

theorem l_hasBracket {d : Nat} {σ : am_S} {g : Nat → Int} {n : Nat} (hg : σ.1 142 = g) (hn : σ.1 135 19 = (n : Int)) (hn9 : n ≤ 160) {Q : Option am_V → am_S → Prop} (hQ : Q (some (am_I (if an_ n (fun k => decide (g k = 20)) then 1 else 0))) σ) : ∀ (m k : Nat), k + m = n → aW d 1 k_X9_hasBracket Q 4 [some (am_R 135), some (am_I (if an_ k (fun k => decide (g k = 20)) then 1 else 0)), some (am_I ((k : Nat) : Int))] [] σ := by
  intro m
  induction m with
  | zero =>
    intro k hk
    obtain rfl : k = n := by omega
    refine ax_load (q := 5) rfl rfl rfl rfl rfl ?_
    refine ax_load (q := 6) rfl rfl rfl rfl rfl ?_
    refine ax_getf (q := 9) (v := am_I ((k : Nat) : Int)) rfl rfl (am_fg rfl hn) ?_
    refine ax_icmp_ge (q := 12) (x := 39) rfl rfl (fun h9 => ?_) (fun h => absurd h (by omega))
    refine ax_load (q := 40) rfl rfl rfl rfl rfl ?_
    refine ax_ret (r := some (am_I (if an_ k (fun k => decide (g k = 20)) then 1 else 0))) rfl ⟨rfl, by split <;> simp⟩ ?_
    exact hQ
  | succ m ih =>
    intro k hk
    refine ax_load (q := 5) rfl rfl rfl rfl rfl ?_
    refine ax_load (q := 6) rfl rfl rfl rfl rfl ?_
    refine ax_getf (q := 9) (v := am_I ((n : Nat) : Int)) rfl rfl (am_fg rfl hn) ?_
    refine ax_icmp_ge (q := 12) (x := 39) rfl rfl (fun h => absurd h (by omega)) (fun h9 => ?_)
    refine ax_load (q := 13) rfl rfl rfl rfl rfl ?_
    refine ax_if_ne (q := 16) (x := 27) rfl rfl (fun h13 => ?_) (fun h13 => ?_)
    · have hb13 := it_n0 h13
      refine ax_const (q := 28) (v := am_I 1) rfl rfl rfl ?_
      refine ax_goto (x := 32) rfl ?_
      refine ax_store (q := 33) (L' := [some (am_R 135), some (am_I 1), some (am_I ((k : Nat) : Int))]) rfl rfl rfl rfl rfl rfl ?_
      refine ax_iinc (q := 36) (z' := ((k + 1 : Nat) : Int)) (L' := [some (am_R 135), some (am_I 1), some (am_I ((k + 1 : Nat) : Int))]) rfl rfl rfl rfl (am_we (by omega) (by omega) (by omega)) rfl ?_
      refine ax_goto (x := 4) rfl ?_
      have e : an_ (k + 1) (fun k => decide (g k = 20)) = true := by show (an_ k _ || decide (g k = 20)) = _; first | (rw [hb13]; rfl) | (rw [decide_eq_true (by assumption), Bool.or_true]; done) | (rw [hb13, decide_eq_false (by assumption)]; rfl)
      have q := ih (k + 1) (by omega)
      rw [e] at q
      exact q
    · have hb13 := it_0 h13
      refine ax_load (q := 17) rfl rfl rfl rfl rfl ?_
      refine ax_getf (q := 20) (v := am_R 142) rfl rfl (rfl) ?_
      refine ax_load (q := 21) rfl rfl rfl rfl rfl ?_
      refine bx_iald (q := 22) (k := k) (z := g k) rfl rfl (rfl) (by omega) (by omega) (congrFun hg _) ?_
      refine ax_const (q := 24) (v := am_I 20) rfl rfl rfl ?_
      refine ax_icmp_ne (q := 27) (x := 31) rfl rfl (fun h24 => ?_) (fun h24 => ?_)
      · refine ax_const (q := 32) (v := am_I 0) rfl rfl rfl ?_
        refine ax_store (q := 33) (L' := [some (am_R 135), some (am_I 0), some (am_I ((k : Nat) : Int))]) rfl rfl rfl rfl rfl rfl ?_
        refine ax_iinc (q := 36) (z' := ((k + 1 : Nat) : Int)) (L' := [some (am_R 135), some (am_I 0), some (am_I ((k + 1 : Nat) : Int))]) rfl rfl rfl rfl (am_we (by omega) (by omega) (by omega)) rfl ?_
        refine ax_goto (x := 4) rfl ?_
        have e : an_ (k + 1) (fun k => decide (g k = 20)) = false := by show (an_ k _ || decide (g k = 20)) = _; first | (rw [hb13]; rfl) | (rw [decide_eq_true (by assumption), Bool.or_true]; done) | (rw [hb13, decide_eq_false (by assumption)]; rfl)
        have q := ih (k + 1) (by omega)
        rw [e] at q
        exact q
      · refine ax_const (q := 28) (v := am_I 1) rfl rfl rfl ?_
        refine ax_goto (x := 32) rfl ?_
        refine ax_store (q := 33) (L' := [some (am_R 135), some (am_I 1), some (am_I ((k : Nat) : Int))]) rfl rfl rfl rfl rfl rfl ?_
        refine ax_iinc (q := 36) (z' := ((k + 1 : Nat) : Int)) (L' := [some (am_R 135), some (am_I 1), some (am_I ((k + 1 : Nat) : Int))]) rfl rfl rfl rfl (am_we (by omega) (by omega) (by omega)) rfl ?_
        refine ax_goto (x := 4) rfl ?_
        have e : an_ (k + 1) (fun k => decide (g k = 20)) = true := by show (an_ k _ || decide (g k = 20)) = _; first | (rw [hb13]; rfl) | (rw [decide_eq_true (by assumption), Bool.or_true]; done) | (rw [hb13, decide_eq_false (by assumption)]; rfl)
        have q := ih (k + 1) (by omega)
        rw [e] at q
        exact q

theorem m_hasBracket {d : Nat} (hd : 1 ≤ d) {σ : am_S} {g : Nat → Int} {n : Nat} (hg : σ.1 142 = g) (hn : σ.1 135 19 = (n : Int)) (hn9 : n ≤ 160) {Q : Option am_V → am_S → Prop} (hQ : Q (some (am_I (if an_ n (fun k => decide (g k = 20)) then 1 else 0))) σ) : am_Ev d 169 [am_R 135] σ Q := by
  obtain ⟨d, rfl⟩ : ∃ e, d = e + 1 := ⟨d - 1, by omega⟩
  refine ev_in (m := 169) (c := k_X9_hasBracket) (L := [some (am_R 135), none, none]) rfl rfl rfl rfl rfl rfl ?_
  refine ax_const (q := 1) (v := am_I 0) rfl rfl rfl ?_
  refine ax_store (q := 2) (L' := [some (am_R 135), some (am_I 0), none]) rfl rfl rfl rfl rfl rfl ?_
  refine ax_const (q := 3) (v := am_I 0) rfl rfl rfl ?_
  refine ax_store (q := 4) (L' := [some (am_R 135), some (am_I 0), some (am_I 0)]) rfl rfl rfl rfl rfl rfl ?_
  exact l_hasBracket hg hn hn9 hQ n 0 (by omega)

