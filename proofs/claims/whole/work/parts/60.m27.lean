/-! the parser's small words -/
theorem lc_0 {a b : Int} : am_lcmp a b = 0 ↔ a = b := by
  unfold am_lcmp
  split
  · constructor <;> intro h <;> omega
  · split
    · constructor <;> intro h
      · assumption
      · rfl
    · constructor <;> intro h <;> omega
def own_ (w : Int) : Bool := decide (w = 495723310188 ∨ w = 478660552050 ∨ w = 1634954099 ∨ w = 1936023916 ∨ w = 131277443786868 ∨ w = 512970880104 ∨ w = 123563833652072 ∨ w = 1868850291 ∨ w = 123581014175598 ∨ w = 28518 ∨ w = 6383461 ∨ w = 129116991874419 ∨ w = 499917087592 ∨ w = 1869636974 ∨ w = 1685217655 ∨ w = 465558725996 ∨ w = 2036687218 ∨ w = 512852845416 ∨ w = 6385252 ∨ w = 28530 ∨ w = 7237492)
/-- what wrong leaves -/
def wr_ (σ : am_S) (z : Int) : am_S := am_sI (am_sI σ 135 (am_up (σ.1 135) 2 (if σ.1 135 6 = 3 then 1 else z))) 135 (am_up (am_up (σ.1 135) 2 (if σ.1 135 6 = 3 then 1 else z)) 3 (σ.1 135 7))
def ti_ (z : Int) : Nat := if z = 124 then 1 else if z = 38 then 2 else if z = 21 then 3 else if z = 60 ∨ z = 62 ∨ z = 61 then 4 else if z = 43 ∨ z = 45 then 5 else 6
def as_ (so w : Int) : Int := if ¬ so = 1 then -1 else if w = 465558725996 then 0 else if w = 6383461 then 1 else if w = 2036687218 then 2 else if w = 512852845416 then 3 else -1
/-- where a name stands -/
def fi_ (g : Nat → Int) (w : Int) (b : Nat) : Nat → Int
  | 0 => -1
  | k + 1 => if g (b + k) = w then (k : Int) else fi_ g w b k
theorem fi_bd (g : Nat → Int) (w : Int) (b : Nat) : ∀ k, -1 ≤ fi_ g w b k ∧ fi_ g w b k < k
  | 0 => ⟨Int.le_refl _, by show (-1 : Int) < ((0 : Nat) : Int); decide⟩
  | k + 1 => by
    have := fi_bd g w b k
    unfold fi_
    split <;> omega

theorem m_wrong {d : Nat} (hd : 1 ≤ d) {σ : am_S} {z : Int} {Q : Option am_V → am_S → Prop} (hQ : Q none (if 0 < σ.1 135 2 then σ else wr_ σ z)) : am_Ev d 147 [am_R 135, am_I z] σ Q := by
  obtain ⟨d, rfl⟩ : ∃ e, d = e + 1 := ⟨d - 1, by omega⟩
  refine ev_in (m := 147) (c := k_X9_wrong) (L := [some (am_R 135), some (am_I z)]) rfl rfl rfl rfl rfl rfl ?_
  refine ax_load (q := 1) rfl rfl rfl rfl rfl ?_
  refine ax_getf (q := 4) (v := am_I (σ.1 135 2)) rfl rfl (rfl) ?_
  refine ax_if_le (q := 7) (x := 8) rfl rfl (fun h4 => ?_) (fun h4 => ?_)
  · refine ax_load (q := 9) rfl rfl rfl rfl rfl ?_
    refine ax_load (q := 10) rfl rfl rfl rfl rfl ?_
    refine ax_getf (q := 13) (v := am_I (σ.1 135 6)) rfl rfl (rfl) ?_
    refine ax_const (q := 14) (v := am_I 3) rfl rfl rfl ?_
    refine ax_icmp_ne (q := 17) (x := 21) rfl rfl (fun h14 => ?_) (fun h14 => ?_)
    · refine ax_load (q := 22) rfl rfl rfl rfl rfl ?_
      refine ax_putf (q := 25) rfl rfl rfl ?_
      refine ax_load (q := 26) rfl rfl rfl rfl rfl ?_
      refine ax_load (q := 27) rfl rfl rfl rfl rfl ?_
      refine ax_getf (q := 30) (v := am_I (σ.1 135 7)) rfl rfl (am_fg rfl (by first | rfl | (rw [sI_at, am_up_ne (by decide)]))) ?_
      refine ax_putf (q := 33) rfl rfl rfl ?_
      refine ax_ret (r := none) rfl rfl ?_
      rw [if_neg (by omega)] at hQ
      refine Eq.mp (congrArg (fun s => Q none s) ?_) hQ
      unfold wr_
      first | rw [if_pos (by omega)] | rw [if_neg (by omega)]
      all_goals (try simp only [sI_sI, sI_at])
      all_goals (try first | rfl | (rw [am_up_ne (by decide)]))
    · refine ax_const (q := 18) (v := am_I 1) rfl rfl rfl ?_
      refine ax_goto (x := 22) rfl ?_
      refine ax_putf (q := 25) rfl rfl rfl ?_
      refine ax_load (q := 26) rfl rfl rfl rfl rfl ?_
      refine ax_load (q := 27) rfl rfl rfl rfl rfl ?_
      refine ax_getf (q := 30) (v := am_I (σ.1 135 7)) rfl rfl (am_fg rfl (by first | rfl | (rw [sI_at, am_up_ne (by decide)]))) ?_
      refine ax_putf (q := 33) rfl rfl rfl ?_
      refine ax_ret (r := none) rfl rfl ?_
      rw [if_neg (by omega)] at hQ
      refine Eq.mp (congrArg (fun s => Q none s) ?_) hQ
      unfold wr_
      first | rw [if_pos (by omega)] | rw [if_neg (by omega)]
      all_goals (try simp only [sI_sI, sI_at])
      all_goals (try first | rfl | (rw [am_up_ne (by decide)]))
  · refine ax_ret (r := none) rfl rfl ?_
    rw [if_pos (by omega)] at hQ
    exact hQ

theorem m_isWord {d : Nat} (hd : 1 ≤ d) {σ : am_S} {w : Int} {Q : Option am_V → am_S → Prop} (hQ : Q (some (am_I (if decide (σ.1 135 6 = 1 ∧ σ.2.1 135 9 = w) then 1 else 0))) σ) : am_Ev d 148 [am_R 135, am_J w] σ Q := by
  obtain ⟨d, rfl⟩ : ∃ e, d = e + 1 := ⟨d - 1, by omega⟩
  refine ev_in (m := 148) (c := k_X9_isWord) (L := [some (am_R 135), some (am_J w), none]) rfl rfl rfl rfl rfl rfl ?_
  refine ax_load (q := 1) rfl rfl rfl rfl rfl ?_
  refine ax_getf (q := 4) (v := am_I (σ.1 135 6)) rfl rfl (rfl) ?_
  refine ax_const (q := 5) (v := am_I 1) rfl rfl rfl ?_
  refine ax_icmp_ne (q := 8) (x := 21) rfl rfl (fun h5 => ?_) (fun h5 => ?_)
  · refine ax_const (q := 22) (v := am_I 0) rfl rfl rfl ?_
    refine ax_ret (r := some (am_I 0)) rfl ⟨rfl, Or.inl rfl⟩ ?_
    have e : decide (σ.1 135 6 = 1 ∧ σ.2.1 135 9 = w) = false := by first | exact decide_eq_true ⟨by assumption, by assumption⟩ | exact decide_eq_false (fun q => by first | exact absurd q.1 (by assumption) | exact absurd q.2 (by assumption))
    rw [e] at hQ
    exact hQ
  · refine ax_load (q := 9) rfl rfl rfl rfl rfl ?_
    refine ax_getf (q := 12) (v := am_J (σ.2.1 135 9)) rfl rfl (rfl) ?_
    refine ax_load (q := 13) rfl rfl rfl rfl rfl ?_
    refine ax_lcmp (q := 14) rfl rfl ?_
    refine ax_if_ne (q := 17) (x := 21) rfl rfl (fun h14 => ?_) (fun h14 => ?_)
    · have hb14 := mt lc_0.mpr h14
      refine ax_const (q := 22) (v := am_I 0) rfl rfl rfl ?_
      refine ax_ret (r := some (am_I 0)) rfl ⟨rfl, Or.inl rfl⟩ ?_
      have e : decide (σ.1 135 6 = 1 ∧ σ.2.1 135 9 = w) = false := by first | exact decide_eq_true ⟨by assumption, by assumption⟩ | exact decide_eq_false (fun q => by first | exact absurd q.1 (by assumption) | exact absurd q.2 (by assumption))
      rw [e] at hQ
      exact hQ
    · have hb14 := lc_0.mp h14
      refine ax_const (q := 18) (v := am_I 1) rfl rfl rfl ?_
      refine ax_goto (x := 22) rfl ?_
      refine ax_ret (r := some (am_I 1)) rfl ⟨rfl, Or.inr rfl⟩ ?_
      have e : decide (σ.1 135 6 = 1 ∧ σ.2.1 135 9 = w) = true := by first | exact decide_eq_true ⟨by assumption, by assumption⟩ | exact decide_eq_false (fun q => by first | exact absurd q.1 (by assumption) | exact absurd q.2 (by assumption))
      rw [e] at hQ
      exact hQ

theorem m_isOwn {d : Nat} (hd : 1 ≤ d) {σ : am_S}  {Q : Option am_V → am_S → Prop} (hQ : Q (some (am_I (if own_ (σ.2.1 135 9) then 1 else 0))) σ) : am_Ev d 149 [am_R 135] σ Q := by
  obtain ⟨d, rfl⟩ : ∃ e, d = e + 1 := ⟨d - 1, by omega⟩
  refine ev_in (m := 149) (c := k_X9_isOwn) (L := [some (am_R 135)]) rfl rfl rfl rfl rfl rfl ?_
  refine ax_load (q := 1) rfl rfl rfl rfl rfl ?_
  refine ax_getf (q := 4) (v := am_J (σ.2.1 135 9)) rfl rfl (rfl) ?_
  refine ax_const (q := 7) (v := am_J 495723310188) rfl rfl rfl ?_
  refine ax_lcmp (q := 8) rfl rfl ?_
  refine ax_if_eq (q := 11) (x := 231) rfl rfl (fun h8 => ?_) (fun h8 => ?_)
  · have hb8 := lc_0.mp h8
    refine ax_const (q := 232) (v := am_I 1) rfl rfl rfl ?_
    refine ax_goto (x := 236) rfl ?_
    refine ax_ret (r := some (am_I 1)) rfl ⟨rfl, Or.inr rfl⟩ ?_
    have e : own_ (σ.2.1 135 9) = true := by unfold own_; rw [hb8]; decide
    rw [e] at hQ
    exact hQ
  · have hb8 := mt lc_0.mpr h8
    refine ax_load (q := 12) rfl rfl rfl rfl rfl ?_
    refine ax_getf (q := 15) (v := am_J (σ.2.1 135 9)) rfl rfl (rfl) ?_
    refine ax_const (q := 18) (v := am_J 478660552050) rfl rfl rfl ?_
    refine ax_lcmp (q := 19) rfl rfl ?_
    refine ax_if_eq (q := 22) (x := 231) rfl rfl (fun h19 => ?_) (fun h19 => ?_)
    · have hb19 := lc_0.mp h19
      refine ax_const (q := 232) (v := am_I 1) rfl rfl rfl ?_
      refine ax_goto (x := 236) rfl ?_
      refine ax_ret (r := some (am_I 1)) rfl ⟨rfl, Or.inr rfl⟩ ?_
      have e : own_ (σ.2.1 135 9) = true := by unfold own_; rw [hb19]; decide
      rw [e] at hQ
      exact hQ
    · have hb19 := mt lc_0.mpr h19
      refine ax_load (q := 23) rfl rfl rfl rfl rfl ?_
      refine ax_getf (q := 26) (v := am_J (σ.2.1 135 9)) rfl rfl (rfl) ?_
      refine ax_const (q := 29) (v := am_J 1634954099) rfl rfl rfl ?_
      refine ax_lcmp (q := 30) rfl rfl ?_
      refine ax_if_eq (q := 33) (x := 231) rfl rfl (fun h30 => ?_) (fun h30 => ?_)
      · have hb30 := lc_0.mp h30
        refine ax_const (q := 232) (v := am_I 1) rfl rfl rfl ?_
        refine ax_goto (x := 236) rfl ?_
        refine ax_ret (r := some (am_I 1)) rfl ⟨rfl, Or.inr rfl⟩ ?_
        have e : own_ (σ.2.1 135 9) = true := by unfold own_; rw [hb30]; decide
        rw [e] at hQ
        exact hQ
      · have hb30 := mt lc_0.mpr h30
        refine ax_load (q := 34) rfl rfl rfl rfl rfl ?_
        refine ax_getf (q := 37) (v := am_J (σ.2.1 135 9)) rfl rfl (rfl) ?_
        refine ax_const (q := 40) (v := am_J 1936023916) rfl rfl rfl ?_
        refine ax_lcmp (q := 41) rfl rfl ?_
        refine ax_if_eq (q := 44) (x := 231) rfl rfl (fun h41 => ?_) (fun h41 => ?_)
        · have hb41 := lc_0.mp h41
          refine ax_const (q := 232) (v := am_I 1) rfl rfl rfl ?_
          refine ax_goto (x := 236) rfl ?_
          refine ax_ret (r := some (am_I 1)) rfl ⟨rfl, Or.inr rfl⟩ ?_
          have e : own_ (σ.2.1 135 9) = true := by unfold own_; rw [hb41]; decide
          rw [e] at hQ
          exact hQ
        · have hb41 := mt lc_0.mpr h41
          refine ax_load (q := 45) rfl rfl rfl rfl rfl ?_
          refine ax_getf (q := 48) (v := am_J (σ.2.1 135 9)) rfl rfl (rfl) ?_
          refine ax_const (q := 51) (v := am_J 131277443786868) rfl rfl rfl ?_
          refine ax_lcmp (q := 52) rfl rfl ?_
          refine ax_if_eq (q := 55) (x := 231) rfl rfl (fun h52 => ?_) (fun h52 => ?_)
          · have hb52 := lc_0.mp h52
            refine ax_const (q := 232) (v := am_I 1) rfl rfl rfl ?_
            refine ax_goto (x := 236) rfl ?_
            refine ax_ret (r := some (am_I 1)) rfl ⟨rfl, Or.inr rfl⟩ ?_
            have e : own_ (σ.2.1 135 9) = true := by unfold own_; rw [hb52]; decide
            rw [e] at hQ
            exact hQ
          · have hb52 := mt lc_0.mpr h52
            refine ax_load (q := 56) rfl rfl rfl rfl rfl ?_
            refine ax_getf (q := 59) (v := am_J (σ.2.1 135 9)) rfl rfl (rfl) ?_
            refine ax_const (q := 62) (v := am_J 512970880104) rfl rfl rfl ?_
            refine ax_lcmp (q := 63) rfl rfl ?_
            refine ax_if_eq (q := 66) (x := 231) rfl rfl (fun h63 => ?_) (fun h63 => ?_)
            · have hb63 := lc_0.mp h63
              refine ax_const (q := 232) (v := am_I 1) rfl rfl rfl ?_
              refine ax_goto (x := 236) rfl ?_
              refine ax_ret (r := some (am_I 1)) rfl ⟨rfl, Or.inr rfl⟩ ?_
              have e : own_ (σ.2.1 135 9) = true := by unfold own_; rw [hb63]; decide
              rw [e] at hQ
              exact hQ
            · have hb63 := mt lc_0.mpr h63
              refine ax_load (q := 67) rfl rfl rfl rfl rfl ?_
              refine ax_getf (q := 70) (v := am_J (σ.2.1 135 9)) rfl rfl (rfl) ?_
              refine ax_const (q := 73) (v := am_J 123563833652072) rfl rfl rfl ?_
              refine ax_lcmp (q := 74) rfl rfl ?_
              refine ax_if_eq (q := 77) (x := 231) rfl rfl (fun h74 => ?_) (fun h74 => ?_)
              · have hb74 := lc_0.mp h74
                refine ax_const (q := 232) (v := am_I 1) rfl rfl rfl ?_
                refine ax_goto (x := 236) rfl ?_
                refine ax_ret (r := some (am_I 1)) rfl ⟨rfl, Or.inr rfl⟩ ?_
                have e : own_ (σ.2.1 135 9) = true := by unfold own_; rw [hb74]; decide
                rw [e] at hQ
                exact hQ
              · have hb74 := mt lc_0.mpr h74
                refine ax_load (q := 78) rfl rfl rfl rfl rfl ?_
                refine ax_getf (q := 81) (v := am_J (σ.2.1 135 9)) rfl rfl (rfl) ?_
                refine ax_const (q := 84) (v := am_J 1868850291) rfl rfl rfl ?_
                refine ax_lcmp (q := 85) rfl rfl ?_
                refine ax_if_eq (q := 88) (x := 231) rfl rfl (fun h85 => ?_) (fun h85 => ?_)
                · have hb85 := lc_0.mp h85
                  refine ax_const (q := 232) (v := am_I 1) rfl rfl rfl ?_
                  refine ax_goto (x := 236) rfl ?_
                  refine ax_ret (r := some (am_I 1)) rfl ⟨rfl, Or.inr rfl⟩ ?_
                  have e : own_ (σ.2.1 135 9) = true := by unfold own_; rw [hb85]; decide
                  rw [e] at hQ
                  exact hQ
                · have hb85 := mt lc_0.mpr h85
                  refine ax_load (q := 89) rfl rfl rfl rfl rfl ?_
                  refine ax_getf (q := 92) (v := am_J (σ.2.1 135 9)) rfl rfl (rfl) ?_
                  refine ax_const (q := 95) (v := am_J 123581014175598) rfl rfl rfl ?_
                  refine ax_lcmp (q := 96) rfl rfl ?_
                  refine ax_if_eq (q := 99) (x := 231) rfl rfl (fun h96 => ?_) (fun h96 => ?_)
                  · have hb96 := lc_0.mp h96
                    refine ax_const (q := 232) (v := am_I 1) rfl rfl rfl ?_
                    refine ax_goto (x := 236) rfl ?_
                    refine ax_ret (r := some (am_I 1)) rfl ⟨rfl, Or.inr rfl⟩ ?_
                    have e : own_ (σ.2.1 135 9) = true := by unfold own_; rw [hb96]; decide
                    rw [e] at hQ
                    exact hQ
                  · have hb96 := mt lc_0.mpr h96
                    refine ax_load (q := 100) rfl rfl rfl rfl rfl ?_
                    refine ax_getf (q := 103) (v := am_J (σ.2.1 135 9)) rfl rfl (rfl) ?_
                    refine ax_const (q := 106) (v := am_J 28518) rfl rfl rfl ?_
                    refine ax_lcmp (q := 107) rfl rfl ?_
                    refine ax_if_eq (q := 110) (x := 231) rfl rfl (fun h107 => ?_) (fun h107 => ?_)
                    · have hb107 := lc_0.mp h107
                      refine ax_const (q := 232) (v := am_I 1) rfl rfl rfl ?_
                      refine ax_goto (x := 236) rfl ?_
                      refine ax_ret (r := some (am_I 1)) rfl ⟨rfl, Or.inr rfl⟩ ?_
                      have e : own_ (σ.2.1 135 9) = true := by unfold own_; rw [hb107]; decide
                      rw [e] at hQ
                      exact hQ
                    · have hb107 := mt lc_0.mpr h107
                      refine ax_load (q := 111) rfl rfl rfl rfl rfl ?_
                      refine ax_getf (q := 114) (v := am_J (σ.2.1 135 9)) rfl rfl (rfl) ?_
                      refine ax_const (q := 117) (v := am_J 6383461) rfl rfl rfl ?_
                      refine ax_lcmp (q := 118) rfl rfl ?_
                      refine ax_if_eq (q := 121) (x := 231) rfl rfl (fun h118 => ?_) (fun h118 => ?_)
                      · have hb118 := lc_0.mp h118
                        refine ax_const (q := 232) (v := am_I 1) rfl rfl rfl ?_
                        refine ax_goto (x := 236) rfl ?_
                        refine ax_ret (r := some (am_I 1)) rfl ⟨rfl, Or.inr rfl⟩ ?_
                        have e : own_ (σ.2.1 135 9) = true := by unfold own_; rw [hb118]; decide
                        rw [e] at hQ
                        exact hQ
                      · have hb118 := mt lc_0.mpr h118
                        refine ax_load (q := 122) rfl rfl rfl rfl rfl ?_
                        refine ax_getf (q := 125) (v := am_J (σ.2.1 135 9)) rfl rfl (rfl) ?_
                        refine ax_const (q := 128) (v := am_J 129116991874419) rfl rfl rfl ?_
                        refine ax_lcmp (q := 129) rfl rfl ?_
                        refine ax_if_eq (q := 132) (x := 231) rfl rfl (fun h129 => ?_) (fun h129 => ?_)
                        · have hb129 := lc_0.mp h129
                          refine ax_const (q := 232) (v := am_I 1) rfl rfl rfl ?_
                          refine ax_goto (x := 236) rfl ?_
                          refine ax_ret (r := some (am_I 1)) rfl ⟨rfl, Or.inr rfl⟩ ?_
                          have e : own_ (σ.2.1 135 9) = true := by unfold own_; rw [hb129]; decide
                          rw [e] at hQ
                          exact hQ
                        · have hb129 := mt lc_0.mpr h129
                          refine ax_load (q := 133) rfl rfl rfl rfl rfl ?_
                          refine ax_getf (q := 136) (v := am_J (σ.2.1 135 9)) rfl rfl (rfl) ?_
                          refine ax_const (q := 139) (v := am_J 499917087592) rfl rfl rfl ?_
                          refine ax_lcmp (q := 140) rfl rfl ?_
                          refine ax_if_eq (q := 143) (x := 231) rfl rfl (fun h140 => ?_) (fun h140 => ?_)
                          · have hb140 := lc_0.mp h140
                            refine ax_const (q := 232) (v := am_I 1) rfl rfl rfl ?_
                            refine ax_goto (x := 236) rfl ?_
                            refine ax_ret (r := some (am_I 1)) rfl ⟨rfl, Or.inr rfl⟩ ?_
                            have e : own_ (σ.2.1 135 9) = true := by unfold own_; rw [hb140]; decide
                            rw [e] at hQ
                            exact hQ
                          · have hb140 := mt lc_0.mpr h140
                            refine ax_load (q := 144) rfl rfl rfl rfl rfl ?_
                            refine ax_getf (q := 147) (v := am_J (σ.2.1 135 9)) rfl rfl (rfl) ?_
                            refine ax_const (q := 150) (v := am_J 1869636974) rfl rfl rfl ?_
                            refine ax_lcmp (q := 151) rfl rfl ?_
                            refine ax_if_eq (q := 154) (x := 231) rfl rfl (fun h151 => ?_) (fun h151 => ?_)
                            · have hb151 := lc_0.mp h151
                              refine ax_const (q := 232) (v := am_I 1) rfl rfl rfl ?_
                              refine ax_goto (x := 236) rfl ?_
                              refine ax_ret (r := some (am_I 1)) rfl ⟨rfl, Or.inr rfl⟩ ?_
                              have e : own_ (σ.2.1 135 9) = true := by unfold own_; rw [hb151]; decide
                              rw [e] at hQ
                              exact hQ
                            · have hb151 := mt lc_0.mpr h151
                              refine ax_load (q := 155) rfl rfl rfl rfl rfl ?_
                              refine ax_getf (q := 158) (v := am_J (σ.2.1 135 9)) rfl rfl (rfl) ?_
                              refine ax_const (q := 161) (v := am_J 1685217655) rfl rfl rfl ?_
                              refine ax_lcmp (q := 162) rfl rfl ?_
                              refine ax_if_eq (q := 165) (x := 231) rfl rfl (fun h162 => ?_) (fun h162 => ?_)
                              · have hb162 := lc_0.mp h162
                                refine ax_const (q := 232) (v := am_I 1) rfl rfl rfl ?_
                                refine ax_goto (x := 236) rfl ?_
                                refine ax_ret (r := some (am_I 1)) rfl ⟨rfl, Or.inr rfl⟩ ?_
                                have e : own_ (σ.2.1 135 9) = true := by unfold own_; rw [hb162]; decide
                                rw [e] at hQ
                                exact hQ
                              · have hb162 := mt lc_0.mpr h162
                                refine ax_load (q := 166) rfl rfl rfl rfl rfl ?_
                                refine ax_getf (q := 169) (v := am_J (σ.2.1 135 9)) rfl rfl (rfl) ?_
                                refine ax_const (q := 172) (v := am_J 465558725996) rfl rfl rfl ?_
                                refine ax_lcmp (q := 173) rfl rfl ?_
                                refine ax_if_eq (q := 176) (x := 231) rfl rfl (fun h173 => ?_) (fun h173 => ?_)
                                · have hb173 := lc_0.mp h173
                                  refine ax_const (q := 232) (v := am_I 1) rfl rfl rfl ?_
                                  refine ax_goto (x := 236) rfl ?_
                                  refine ax_ret (r := some (am_I 1)) rfl ⟨rfl, Or.inr rfl⟩ ?_
                                  have e : own_ (σ.2.1 135 9) = true := by unfold own_; rw [hb173]; decide
                                  rw [e] at hQ
                                  exact hQ
                                · have hb173 := mt lc_0.mpr h173
                                  refine ax_load (q := 177) rfl rfl rfl rfl rfl ?_
                                  refine ax_getf (q := 180) (v := am_J (σ.2.1 135 9)) rfl rfl (rfl) ?_
                                  refine ax_const (q := 183) (v := am_J 2036687218) rfl rfl rfl ?_
                                  refine ax_lcmp (q := 184) rfl rfl ?_
                                  refine ax_if_eq (q := 187) (x := 231) rfl rfl (fun h184 => ?_) (fun h184 => ?_)
                                  · have hb184 := lc_0.mp h184
                                    refine ax_const (q := 232) (v := am_I 1) rfl rfl rfl ?_
                                    refine ax_goto (x := 236) rfl ?_
                                    refine ax_ret (r := some (am_I 1)) rfl ⟨rfl, Or.inr rfl⟩ ?_
                                    have e : own_ (σ.2.1 135 9) = true := by unfold own_; rw [hb184]; decide
                                    rw [e] at hQ
                                    exact hQ
                                  · have hb184 := mt lc_0.mpr h184
                                    refine ax_load (q := 188) rfl rfl rfl rfl rfl ?_
                                    refine ax_getf (q := 191) (v := am_J (σ.2.1 135 9)) rfl rfl (rfl) ?_
                                    refine ax_const (q := 194) (v := am_J 512852845416) rfl rfl rfl ?_
                                    refine ax_lcmp (q := 195) rfl rfl ?_
                                    refine ax_if_eq (q := 198) (x := 231) rfl rfl (fun h195 => ?_) (fun h195 => ?_)
                                    · have hb195 := lc_0.mp h195
                                      refine ax_const (q := 232) (v := am_I 1) rfl rfl rfl ?_
                                      refine ax_goto (x := 236) rfl ?_
                                      refine ax_ret (r := some (am_I 1)) rfl ⟨rfl, Or.inr rfl⟩ ?_
                                      have e : own_ (σ.2.1 135 9) = true := by unfold own_; rw [hb195]; decide
                                      rw [e] at hQ
                                      exact hQ
                                    · have hb195 := mt lc_0.mpr h195
                                      refine ax_load (q := 199) rfl rfl rfl rfl rfl ?_
                                      refine ax_getf (q := 202) (v := am_J (σ.2.1 135 9)) rfl rfl (rfl) ?_
                                      refine ax_const (q := 205) (v := am_J 6385252) rfl rfl rfl ?_
                                      refine ax_lcmp (q := 206) rfl rfl ?_
                                      refine ax_if_eq (q := 209) (x := 231) rfl rfl (fun h206 => ?_) (fun h206 => ?_)
                                      · have hb206 := lc_0.mp h206
                                        refine ax_const (q := 232) (v := am_I 1) rfl rfl rfl ?_
                                        refine ax_goto (x := 236) rfl ?_
                                        refine ax_ret (r := some (am_I 1)) rfl ⟨rfl, Or.inr rfl⟩ ?_
                                        have e : own_ (σ.2.1 135 9) = true := by unfold own_; rw [hb206]; decide
                                        rw [e] at hQ
                                        exact hQ
                                      · have hb206 := mt lc_0.mpr h206
                                        refine ax_load (q := 210) rfl rfl rfl rfl rfl ?_
                                        refine ax_getf (q := 213) (v := am_J (σ.2.1 135 9)) rfl rfl (rfl) ?_
                                        refine ax_const (q := 216) (v := am_J 28530) rfl rfl rfl ?_
                                        refine ax_lcmp (q := 217) rfl rfl ?_
                                        refine ax_if_eq (q := 220) (x := 231) rfl rfl (fun h217 => ?_) (fun h217 => ?_)
                                        · have hb217 := lc_0.mp h217
                                          refine ax_const (q := 232) (v := am_I 1) rfl rfl rfl ?_
                                          refine ax_goto (x := 236) rfl ?_
                                          refine ax_ret (r := some (am_I 1)) rfl ⟨rfl, Or.inr rfl⟩ ?_
                                          have e : own_ (σ.2.1 135 9) = true := by unfold own_; rw [hb217]; decide
                                          rw [e] at hQ
                                          exact hQ
                                        · have hb217 := mt lc_0.mpr h217
                                          refine ax_load (q := 221) rfl rfl rfl rfl rfl ?_
                                          refine ax_getf (q := 224) (v := am_J (σ.2.1 135 9)) rfl rfl (rfl) ?_
                                          refine ax_const (q := 227) (v := am_J 7237492) rfl rfl rfl ?_
                                          refine ax_lcmp (q := 228) rfl rfl ?_
                                          refine ax_if_ne (q := 231) (x := 235) rfl rfl (fun h228 => ?_) (fun h228 => ?_)
                                          · have hb228 := mt lc_0.mpr h228
                                            refine ax_const (q := 236) (v := am_I 0) rfl rfl rfl ?_
                                            refine ax_ret (r := some (am_I 0)) rfl ⟨rfl, Or.inl rfl⟩ ?_
                                            have e : own_ (σ.2.1 135 9) = false := by refine decide_eq_false (fun q => ?_); rcases q with q | q | q | q | q | q | q | q | q | q | q | q | q | q | q | q | q | q | q | q | q <;> exact absurd q (by assumption)
                                            rw [e] at hQ
                                            exact hQ
                                          · have hb228 := lc_0.mp h228
                                            refine ax_const (q := 232) (v := am_I 1) rfl rfl rfl ?_
                                            refine ax_goto (x := 236) rfl ?_
                                            refine ax_ret (r := some (am_I 1)) rfl ⟨rfl, Or.inr rfl⟩ ?_
                                            have e : own_ (σ.2.1 135 9) = true := by unfold own_; rw [hb228]; decide
                                            rw [e] at hQ
                                            exact hQ

theorem m_isName {d : Nat} (hd : 2 ≤ d) {σ : am_S}  {Q : Option am_V → am_S → Prop} (hQ : Q (some (am_I (if decide (σ.1 135 6 = 1) && !own_ (σ.2.1 135 9) then 1 else 0))) σ) : am_Ev d 150 [am_R 135] σ Q := by
  obtain ⟨d, rfl⟩ : ∃ e, d = e + 1 := ⟨d - 1, by omega⟩
  refine ev_in (m := 150) (c := k_X9_isName) (L := [some (am_R 135)]) rfl rfl rfl rfl rfl rfl ?_
  refine ax_load (q := 1) rfl rfl rfl rfl rfl ?_
  refine ax_getf (q := 4) (v := am_I (σ.1 135 6)) rfl rfl (rfl) ?_
  refine ax_const (q := 5) (v := am_I 1) rfl rfl rfl ?_
  refine ax_icmp_ne (q := 8) (x := 19) rfl rfl (fun h5 => ?_) (fun h5 => ?_)
  · refine ax_const (q := 20) (v := am_I 0) rfl rfl rfl ?_
    refine ax_ret (r := some (am_I 0)) rfl ⟨rfl, Or.inl rfl⟩ ?_
    have e : (decide (σ.1 135 6 = 1) && !own_ (σ.2.1 135 9)) = false := by first | (rw [decide_eq_true h5, hb12]; rfl) | (rw [decide_eq_false h5]; rfl)
    rw [e] at hQ
    exact hQ
  · refine ax_load (q := 9) rfl rfl rfl rfl rfl ?_
    refine ax_callv (q := 12) rfl rfl rfl rfl rfl rfl ?_
    refine m_isOwn (by omega) ?_
    refine ax_if_ne (q := 15) (x := 19) rfl rfl (fun h12 => ?_) (fun h12 => ?_)
    · have hb12 := it_n0 h12
      refine ax_const (q := 20) (v := am_I 0) rfl rfl rfl ?_
      refine ax_ret (r := some (am_I 0)) rfl ⟨rfl, Or.inl rfl⟩ ?_
      have e : (decide (σ.1 135 6 = 1) && !own_ (σ.2.1 135 9)) = false := by first | (rw [decide_eq_true h5, hb12]; rfl) | (rw [decide_eq_false h5]; rfl)
      rw [e] at hQ
      exact hQ
    · have hb12 := it_0 h12
      refine ax_const (q := 16) (v := am_I 1) rfl rfl rfl ?_
      refine ax_goto (x := 20) rfl ?_
      refine ax_ret (r := some (am_I 1)) rfl ⟨rfl, Or.inr rfl⟩ ?_
      have e : (decide (σ.1 135 6 = 1) && !own_ (σ.2.1 135 9)) = true := by first | (rw [decide_eq_true h5, hb12]; rfl) | (rw [decide_eq_false h5]; rfl)
      rw [e] at hQ
      exact hQ

theorem m_tight {d : Nat} (hd : 1 ≤ d) {σ : am_S} {z : Int} {Q : Option am_V → am_S → Prop} (hQ : Q (some (am_I ((ti_ z : Nat) : Int))) σ) : am_Ev d 159 [am_I z] σ Q := by
  obtain ⟨d, rfl⟩ : ∃ e, d = e + 1 := ⟨d - 1, by omega⟩
  refine ev_in (m := 159) (c := k_X9_tight) (L := [some (am_I z)]) rfl rfl rfl rfl rfl rfl ?_
  refine ax_load (q := 1) rfl rfl rfl rfl rfl ?_
  by_cases hk : z = 124 ∨ z = 38 ∨ z = 21 ∨ z = 60 ∨ z = 61 ∨ z = 62 ∨ z = 43 ∨ z = 45
  rcases hk with rfl | rfl | rfl | rfl | rfl | rfl | rfl | rfl
  · refine ax_lsw (q := 76) rfl (by decide) ?_
    refine ax_const (q := 77) (v := am_I 1) rfl rfl rfl ?_
    refine ax_ret (r := some (am_I 1)) rfl rfl ?_
    refine Eq.mp (congrArg (fun z => Q (some (am_I z)) σ) ?_) hQ
    first | rfl | (unfold ti_; simp [*])
  · refine ax_lsw (q := 78) rfl (by decide) ?_
    refine ax_const (q := 79) (v := am_I 2) rfl rfl rfl ?_
    refine ax_ret (r := some (am_I 2)) rfl rfl ?_
    refine Eq.mp (congrArg (fun z => Q (some (am_I z)) σ) ?_) hQ
    first | rfl | (unfold ti_; simp [*])
  · refine ax_lsw (q := 80) rfl (by decide) ?_
    refine ax_const (q := 81) (v := am_I 3) rfl rfl rfl ?_
    refine ax_ret (r := some (am_I 3)) rfl rfl ?_
    refine Eq.mp (congrArg (fun z => Q (some (am_I z)) σ) ?_) hQ
    first | rfl | (unfold ti_; simp [*])
  · refine ax_lsw (q := 82) rfl (by decide) ?_
    refine ax_const (q := 83) (v := am_I 4) rfl rfl rfl ?_
    refine ax_ret (r := some (am_I 4)) rfl rfl ?_
    refine Eq.mp (congrArg (fun z => Q (some (am_I z)) σ) ?_) hQ
    first | rfl | (unfold ti_; simp [*])
  · refine ax_lsw (q := 82) rfl (by decide) ?_
    refine ax_const (q := 83) (v := am_I 4) rfl rfl rfl ?_
    refine ax_ret (r := some (am_I 4)) rfl rfl ?_
    refine Eq.mp (congrArg (fun z => Q (some (am_I z)) σ) ?_) hQ
    first | rfl | (unfold ti_; simp [*])
  · refine ax_lsw (q := 82) rfl (by decide) ?_
    refine ax_const (q := 83) (v := am_I 4) rfl rfl rfl ?_
    refine ax_ret (r := some (am_I 4)) rfl rfl ?_
    refine Eq.mp (congrArg (fun z => Q (some (am_I z)) σ) ?_) hQ
    first | rfl | (unfold ti_; simp [*])
  · refine ax_lsw (q := 84) rfl (by decide) ?_
    refine ax_const (q := 85) (v := am_I 5) rfl rfl rfl ?_
    refine ax_ret (r := some (am_I 5)) rfl rfl ?_
    refine Eq.mp (congrArg (fun z => Q (some (am_I z)) σ) ?_) hQ
    first | rfl | (unfold ti_; simp [*])
  · refine ax_lsw (q := 84) rfl (by decide) ?_
    refine ax_const (q := 85) (v := am_I 5) rfl rfl rfl ?_
    refine ax_ret (r := some (am_I 5)) rfl rfl ?_
    refine Eq.mp (congrArg (fun z => Q (some (am_I z)) σ) ?_) hQ
    first | rfl | (unfold ti_; simp [*])
  · simp only [not_or] at hk
    obtain ⟨k1, k2, k3, k4, k5, k6, k7, k8⟩ := hk
    refine ax_lsw (q := 86) rfl (by unfold am_lsw; simp [Op.lookupswitch.offset, Ne.symm k1, Ne.symm k2, Ne.symm k3, Ne.symm k4, Ne.symm k5, Ne.symm k6, Ne.symm k7, Ne.symm k8]) ?_
    refine ax_const (q := 88) (v := am_I 6) rfl rfl rfl ?_
    refine ax_ret (r := some (am_I 6)) rfl rfl ?_
    refine Eq.mp (congrArg (fun z => Q (some (am_I z)) σ) ?_) hQ
    first | rfl | (unfold ti_; simp [*])

theorem m_asked {d : Nat} (hd : 1 ≤ d) {σ : am_S}  {Q : Option am_V → am_S → Prop} (hQ : Q (some (am_I (as_ (σ.1 135 6) (σ.2.1 135 9)))) σ) : am_Ev d 163 [am_R 135] σ Q := by
  obtain ⟨d, rfl⟩ : ∃ e, d = e + 1 := ⟨d - 1, by omega⟩
  refine ev_in (m := 163) (c := k_X9_asked) (L := [some (am_R 135)]) rfl rfl rfl rfl rfl rfl ?_
  refine ax_load (q := 1) rfl rfl rfl rfl rfl ?_
  refine ax_getf (q := 4) (v := am_I (σ.1 135 6)) rfl rfl (rfl) ?_
  refine ax_const (q := 5) (v := am_I 1) rfl rfl rfl ?_
  refine ax_icmp_eq (q := 8) (x := 10) rfl rfl (fun h5 => ?_) (fun h5 => ?_)
  · refine ax_load (q := 11) rfl rfl rfl rfl rfl ?_
    refine ax_getf (q := 14) (v := am_J (σ.2.1 135 9)) rfl rfl (rfl) ?_
    refine ax_const (q := 17) (v := am_J 465558725996) rfl rfl rfl ?_
    refine ax_lcmp (q := 18) rfl rfl ?_
    refine ax_if_ne (q := 21) (x := 23) rfl rfl (fun h18 => ?_) (fun h18 => ?_)
    · have hb18 := mt lc_0.mpr h18
      refine ax_load (q := 24) rfl rfl rfl rfl rfl ?_
      refine ax_getf (q := 27) (v := am_J (σ.2.1 135 9)) rfl rfl (rfl) ?_
      refine ax_const (q := 30) (v := am_J 6383461) rfl rfl rfl ?_
      refine ax_lcmp (q := 31) rfl rfl ?_
      refine ax_if_ne (q := 34) (x := 36) rfl rfl (fun h31 => ?_) (fun h31 => ?_)
      · have hb31 := mt lc_0.mpr h31
        refine ax_load (q := 37) rfl rfl rfl rfl rfl ?_
        refine ax_getf (q := 40) (v := am_J (σ.2.1 135 9)) rfl rfl (rfl) ?_
        refine ax_const (q := 43) (v := am_J 2036687218) rfl rfl rfl ?_
        refine ax_lcmp (q := 44) rfl rfl ?_
        refine ax_if_ne (q := 47) (x := 49) rfl rfl (fun h44 => ?_) (fun h44 => ?_)
        · have hb44 := mt lc_0.mpr h44
          refine ax_load (q := 50) rfl rfl rfl rfl rfl ?_
          refine ax_getf (q := 53) (v := am_J (σ.2.1 135 9)) rfl rfl (rfl) ?_
          refine ax_const (q := 56) (v := am_J 512852845416) rfl rfl rfl ?_
          refine ax_lcmp (q := 57) rfl rfl ?_
          refine ax_if_ne (q := 60) (x := 64) rfl rfl (fun h57 => ?_) (fun h57 => ?_)
          · have hb57 := mt lc_0.mpr h57
            refine ax_const (q := 65) (v := am_I (-1)) rfl rfl rfl ?_
            refine ax_ret (r := some (am_I (-1))) rfl rfl ?_
            have e : as_ (σ.1 135 6) (σ.2.1 135 9) = (-1) := by unfold as_; simp [*]
            rw [e] at hQ
            exact hQ
          · have hb57 := lc_0.mp h57
            refine ax_const (q := 61) (v := am_I 3) rfl rfl rfl ?_
            refine ax_goto (x := 65) rfl ?_
            refine ax_ret (r := some (am_I 3)) rfl rfl ?_
            have e : as_ (σ.1 135 6) (σ.2.1 135 9) = 3 := by unfold as_; simp [*]
            rw [e] at hQ
            exact hQ
        · have hb44 := lc_0.mp h44
          refine ax_const (q := 48) (v := am_I 2) rfl rfl rfl ?_
          refine ax_ret (r := some (am_I 2)) rfl rfl ?_
          have e : as_ (σ.1 135 6) (σ.2.1 135 9) = 2 := by unfold as_; simp [*]
          rw [e] at hQ
          exact hQ
      · have hb31 := lc_0.mp h31
        refine ax_const (q := 35) (v := am_I 1) rfl rfl rfl ?_
        refine ax_ret (r := some (am_I 1)) rfl rfl ?_
        have e : as_ (σ.1 135 6) (σ.2.1 135 9) = 1 := by unfold as_; simp [*]
        rw [e] at hQ
        exact hQ
    · have hb18 := lc_0.mp h18
      refine ax_const (q := 22) (v := am_I 0) rfl rfl rfl ?_
      refine ax_ret (r := some (am_I 0)) rfl rfl ?_
      have e : as_ (σ.1 135 6) (σ.2.1 135 9) = 0 := by unfold as_; simp [*]
      rw [e] at hQ
      exact hQ
  · refine ax_const (q := 9) (v := am_I (-1)) rfl rfl rfl ?_
    refine ax_ret (r := some (am_I (-1))) rfl rfl ?_
    have e : as_ (σ.1 135 6) (σ.2.1 135 9) = (-1) := by unfold as_; simp [*]
    rw [e] at hQ
    exact hQ

theorem m_isFull {d : Nat} (hd : 1 ≤ d) {σ : am_S}  {Q : Option am_V → am_S → Prop} (hQ : Q (some (am_I (if decide (σ.1 135 20 = 60 ∨ σ.1 135 22 = 30) then 1 else 0))) σ) : am_Ev d 164 [am_R 135] σ Q := by
  obtain ⟨d, rfl⟩ : ∃ e, d = e + 1 := ⟨d - 1, by omega⟩
  refine ev_in (m := 164) (c := k_X9_isFull) (L := [some (am_R 135)]) rfl rfl rfl rfl rfl rfl ?_
  refine ax_load (q := 1) rfl rfl rfl rfl rfl ?_
  refine ax_getf (q := 4) (v := am_I (σ.1 135 20)) rfl rfl (rfl) ?_
  refine ax_const (q := 6) (v := am_I 60) rfl rfl rfl ?_
  refine ax_icmp_eq (q := 9) (x := 18) rfl rfl (fun h6 => ?_) (fun h6 => ?_)
  · refine ax_const (q := 19) (v := am_I 1) rfl rfl rfl ?_
    refine ax_goto (x := 23) rfl ?_
    refine ax_ret (r := some (am_I 1)) rfl ⟨rfl, Or.inr rfl⟩ ?_
    have e : decide (σ.1 135 20 = 60 ∨ σ.1 135 22 = 30) = true := by first | exact decide_eq_true (by omega) | exact decide_eq_false (by omega)
    rw [e] at hQ
    exact hQ
  · refine ax_load (q := 10) rfl rfl rfl rfl rfl ?_
    refine ax_getf (q := 13) (v := am_I (σ.1 135 22)) rfl rfl (rfl) ?_
    refine ax_const (q := 15) (v := am_I 30) rfl rfl rfl ?_
    refine ax_icmp_ne (q := 18) (x := 22) rfl rfl (fun h15 => ?_) (fun h15 => ?_)
    · refine ax_const (q := 23) (v := am_I 0) rfl rfl rfl ?_
      refine ax_ret (r := some (am_I 0)) rfl ⟨rfl, Or.inl rfl⟩ ?_
      have e : decide (σ.1 135 20 = 60 ∨ σ.1 135 22 = 30) = false := by first | exact decide_eq_true (by omega) | exact decide_eq_false (by omega)
      rw [e] at hQ
      exact hQ
    · refine ax_const (q := 19) (v := am_I 1) rfl rfl rfl ?_
      refine ax_goto (x := 23) rfl ?_
      refine ax_ret (r := some (am_I 1)) rfl ⟨rfl, Or.inr rfl⟩ ?_
      have e : decide (σ.1 135 20 = 60 ∨ σ.1 135 22 = 30) = true := by first | exact decide_eq_true (by omega) | exact decide_eq_false (by omega)
      rw [e] at hQ
      exact hQ

theorem l_find {d : Nat} {σ : am_S} {g : Nat → Int} {w : Int} (hg : σ.2.1 137 = g) (hw : σ.2.1 135 9 = w) {b n : Nat} (hbn : b + n ≤ 21) {Q : Option am_V → am_S → Prop} (hQ : Q (some (am_I (fi_ g w b n))) σ) : ∀ (m k : Nat), k + m = n → aW d 0 k_X9_find Q 5 [some (am_R 135), some (am_I ((b : Nat) : Int)), some (am_I ((n : Nat) : Int)), some (am_I (fi_ g w b k)), some (am_I ((k : Nat) : Int))] [] σ := by
  intro m
  induction m with
  | zero =>
    intro k hk
    obtain rfl : k = n := by omega
    refine ax_load (q := 7) rfl rfl rfl rfl rfl ?_
    refine ax_load (q := 8) rfl rfl rfl rfl rfl ?_
    refine ax_icmp_ge (q := 11) (x := 41) rfl rfl (fun h8 => ?_) (fun h => absurd h (by omega))
    refine ax_load (q := 42) rfl rfl rfl rfl rfl ?_
    refine ax_ret (r := some (am_I (fi_ g w b k))) rfl rfl ?_
    exact hQ
  | succ m ih =>
    intro k hk
    refine ax_load (q := 7) rfl rfl rfl rfl rfl ?_
    refine ax_load (q := 8) rfl rfl rfl rfl rfl ?_
    refine ax_icmp_ge (q := 11) (x := 41) rfl rfl (fun h => absurd h (by omega)) (fun h8 => ?_)
    refine ax_load (q := 12) rfl rfl rfl rfl rfl ?_
    refine ax_getf (q := 15) (v := am_R 137) rfl rfl (rfl) ?_
    refine ax_load (q := 16) rfl rfl rfl rfl rfl ?_
    refine ax_load (q := 18) rfl rfl rfl rfl rfl ?_
    refine ax_iadd (q := 19) (z := ((b + k : Nat) : Int)) rfl rfl (am_we (by omega) (by omega) (by omega)) ?_
    refine bx_lald (q := 20) (k := b + k) (z := g (b + k)) rfl rfl (rfl) (by omega) (by omega) (congrFun hg _) ?_
    refine ax_load (q := 21) rfl rfl rfl rfl rfl ?_
    refine ax_getf (q := 24) (v := am_J w) rfl rfl (am_fgJ rfl hw) ?_
    refine ax_lcmp (q := 25) rfl rfl ?_
    refine ax_if_ne (q := 28) (x := 33) rfl rfl (fun h25 => ?_) (fun h25 => ?_)
    · have hb25 := mt lc_0.mpr h25
      refine ax_load (q := 34) rfl rfl rfl rfl rfl ?_
      refine ax_store (q := 35) (L' := [some (am_R 135), some (am_I ((b : Nat) : Int)), some (am_I ((n : Nat) : Int)), some (am_I (fi_ g w b k)), some (am_I ((k : Nat) : Int))]) rfl rfl rfl rfl rfl rfl ?_
      refine ax_iinc (q := 38) (z' := ((k + 1 : Nat) : Int)) (L' := [some (am_R 135), some (am_I ((b : Nat) : Int)), some (am_I ((n : Nat) : Int)), some (am_I (fi_ g w b k)), some (am_I ((k + 1 : Nat) : Int))]) rfl rfl rfl rfl (am_we (by omega) (by omega) (by omega)) rfl ?_
      refine ax_goto (x := 5) rfl ?_
      have e : fi_ g w b (k + 1) = fi_ g w b k := if_neg hb25
      have g := ih (k + 1) (by omega)
      rw [e] at g
      exact g
    · have hb25 := lc_0.mp h25
      refine ax_load (q := 30) rfl rfl rfl rfl rfl ?_
      refine ax_goto (x := 34) rfl ?_
      refine ax_store (q := 35) (L' := [some (am_R 135), some (am_I ((b : Nat) : Int)), some (am_I ((n : Nat) : Int)), some (am_I ((k : Nat) : Int)), some (am_I ((k : Nat) : Int))]) rfl rfl rfl rfl rfl rfl ?_
      refine ax_iinc (q := 38) (z' := ((k + 1 : Nat) : Int)) (L' := [some (am_R 135), some (am_I ((b : Nat) : Int)), some (am_I ((n : Nat) : Int)), some (am_I ((k : Nat) : Int)), some (am_I ((k + 1 : Nat) : Int))]) rfl rfl rfl rfl (am_we (by omega) (by omega) (by omega)) rfl ?_
      refine ax_goto (x := 5) rfl ?_
      have e : fi_ g w b (k + 1) = ((k : Nat) : Int) := if_pos hb25
      have g := ih (k + 1) (by omega)
      rw [e] at g
      exact g

theorem m_find {d : Nat} (hd : 1 ≤ d) {σ : am_S} {g : Nat → Int} {w : Int} (hg : σ.2.1 137 = g) (hw : σ.2.1 135 9 = w) {b n : Nat} (hbn : b + n ≤ 21) {Q : Option am_V → am_S → Prop} (hQ : Q (some (am_I (fi_ g w b n))) σ) : am_Ev d 155 [am_R 135, am_I ((b : Nat) : Int), am_I ((n : Nat) : Int)] σ Q := by
  obtain ⟨d, rfl⟩ : ∃ e, d = e + 1 := ⟨d - 1, by omega⟩
  refine ev_in (m := 155) (c := k_X9_find) (L := [some (am_R 135), some (am_I ((b : Nat) : Int)), some (am_I ((n : Nat) : Int)), none, none]) rfl rfl rfl rfl rfl rfl ?_
  refine ax_const (q := 1) (v := am_I (-1)) rfl rfl rfl ?_
  refine ax_store (q := 2) (L' := [some (am_R 135), some (am_I ((b : Nat) : Int)), some (am_I ((n : Nat) : Int)), some (am_I (-1)), none]) rfl rfl rfl rfl rfl rfl ?_
  refine ax_const (q := 3) (v := am_I 0) rfl rfl rfl ?_
  refine ax_store (q := 5) (L' := [some (am_R 135), some (am_I ((b : Nat) : Int)), some (am_I ((n : Nat) : Int)), some (am_I (-1)), some (am_I 0)]) rfl rfl rfl rfl rfl rfl ?_
  exact l_find hg hw hbn hQ n 0 (by omega)

