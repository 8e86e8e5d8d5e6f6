theorem m_truth {d : Nat} (hd : 1 ≤ d) {σ : am_S} {b : Bool} {Q : Option am_V → am_S → Prop} (hQ : Q (some (am_I (if b then 1 else 0))) σ) : am_Ev d 171 [am_I (if b then 1 else 0)] σ Q := by
  obtain ⟨d, rfl⟩ : ∃ e, d = e + 1 := ⟨d - 1, by omega⟩
  refine ev_in (m := 171) (c := k_X9_truth) (L := [some (am_I (if b then 1 else 0))]) rfl rfl rfl rfl rfl rfl ?_
  refine ax_load (q := 1) rfl rfl rfl rfl rfl ?_
  refine ax_if_eq (q := 4) (x := 8) rfl rfl (fun h1 => ?_) (fun h1 => ?_)
  · have hb : b = false := by cases b <;> simp_all
    subst hb
    refine ax_const (q := 9) (v := am_I 0) rfl rfl rfl ?_
    refine ax_ret (r := some (am_I 0)) rfl rfl ?_
    exact hQ
  · have hb : b = true := by cases b <;> simp_all
    subst hb
    refine ax_const (q := 5) (v := am_I 1) rfl rfl rfl ?_
    refine ax_goto (x := 9) rfl ?_
    refine ax_ret (r := some (am_I 1)) rfl rfl ?_
    exact hQ

theorem m_isIn {d : Nat} (hd : 1 ≤ d) {σ : am_S} {a b c : Int} {Q : Option am_V → am_S → Prop} (hQ : Q (some (am_I (if decide (b ≤ a ∧ a ≤ c) then 1 else 0))) σ) : am_Ev d 187 [am_I a, am_I b, am_I c] σ Q := by
  obtain ⟨d, rfl⟩ : ∃ e, d = e + 1 := ⟨d - 1, by omega⟩
  refine ev_in (m := 187) (c := k_X9_isIn) (L := [some (am_I a), some (am_I b), some (am_I c)]) rfl rfl rfl rfl rfl rfl ?_
  refine ax_load (q := 1) rfl rfl rfl rfl rfl ?_
  refine ax_load (q := 2) rfl rfl rfl rfl rfl ?_
  refine ax_icmp_lt (q := 5) (x := 14) rfl rfl (fun h2 => ?_) (fun h2 => ?_)
  · refine ax_const (q := 15) (v := am_I 0) rfl rfl rfl ?_
    refine ax_ret (r := some (am_I 0)) rfl ⟨rfl, Or.inl rfl⟩ ?_
    have e : decide (b ≤ a ∧ a ≤ c) = false := by simp; omega
    rw [e] at hQ
    exact hQ
  · refine ax_load (q := 6) rfl rfl rfl rfl rfl ?_
    refine ax_load (q := 7) rfl rfl rfl rfl rfl ?_
    refine ax_icmp_gt (q := 10) (x := 14) rfl rfl (fun h7 => ?_) (fun h7 => ?_)
    · refine ax_const (q := 15) (v := am_I 0) rfl rfl rfl ?_
      refine ax_ret (r := some (am_I 0)) rfl ⟨rfl, Or.inl rfl⟩ ?_
      have e : decide (b ≤ a ∧ a ≤ c) = false := by simp; omega
      rw [e] at hQ
      exact hQ
    · refine ax_const (q := 11) (v := am_I 1) rfl rfl rfl ?_
      refine ax_goto (x := 15) rfl ?_
      refine ax_ret (r := some (am_I 1)) rfl ⟨rfl, Or.inr rfl⟩ ?_
      have e : decide (b ≤ a ∧ a ≤ c) = true := by simp; omega
      rw [e] at hQ
      exact hQ

theorem m_isPerson {d : Nat} (hd : 2 ≤ d) {σ : am_S} {T : sp_T} (hT : TM_ T σ) (hV : TV_ T) {a : Int} {Q : Option am_V → am_S → Prop} (hQ : Q (some (am_I (if decide (0 ≤ a ∧ a < nP_ T) then 1 else 0))) σ) : am_Ev d 188 [am_R 135, am_I a] σ Q := by
  obtain ⟨d, rfl⟩ : ∃ e, d = e + 1 := ⟨d - 1, by omega⟩
  have h9 := hV.nP
  refine ev_in (m := 188) (c := k_X9_isPerson) (L := [some (am_R 135), some (am_I a)]) rfl rfl rfl rfl rfl rfl ?_
  refine ax_load (q := 1) rfl rfl rfl rfl rfl ?_
  refine ax_const (q := 2) (v := am_I 0) rfl rfl rfl ?_
  refine ax_load (q := 3) rfl rfl rfl rfl rfl ?_
  refine ax_getf (q := 6) (v := am_I ((nP_ T : Nat) : Int)) rfl rfl (am_fg rfl (hT.s53.trans hV.nP.1)) ?_
  refine ax_const (q := 7) (v := am_I 1) rfl rfl rfl ?_
  refine ax_isub (q := 8) (z := ((nP_ T : Nat) : Int) - 1) rfl rfl (am_we (by omega) (by omega) (by omega)) ?_
  refine ax_calls (q := 11) rfl rfl rfl rfl rfl ?_
  refine m_isIn (by omega) ?_
  refine ax_ret (r := some (am_I (if decide (0 ≤ a ∧ a ≤ (nP_ T : Int) - 1) then 1 else 0))) rfl ⟨rfl, by split <;> simp⟩ ?_
  have e : decide (0 ≤ a ∧ a ≤ (nP_ T : Int) - 1) = decide (0 ≤ a ∧ a < nP_ T) := by congr 1; apply propext; constructor <;> intro h <;> omega
  rw [e]
  exact hQ

theorem m_isSkill {d : Nat} (hd : 2 ≤ d) {σ : am_S} {T : sp_T} (hT : TM_ T σ) (hV : TV_ T) {a : Int} {Q : Option am_V → am_S → Prop} (hQ : Q (some (am_I (if decide (0 ≤ a ∧ a < nS_ T) then 1 else 0))) σ) : am_Ev d 189 [am_R 135, am_I a] σ Q := by
  obtain ⟨d, rfl⟩ : ∃ e, d = e + 1 := ⟨d - 1, by omega⟩
  have h9 := hV.nS
  refine ev_in (m := 189) (c := k_X9_isSkill) (L := [some (am_R 135), some (am_I a)]) rfl rfl rfl rfl rfl rfl ?_
  refine ax_load (q := 1) rfl rfl rfl rfl rfl ?_
  refine ax_const (q := 2) (v := am_I 0) rfl rfl rfl ?_
  refine ax_load (q := 3) rfl rfl rfl rfl rfl ?_
  refine ax_getf (q := 6) (v := am_I ((nS_ T : Nat) : Int)) rfl rfl (am_fg rfl (hT.s50.trans hV.nS.1)) ?_
  refine ax_const (q := 7) (v := am_I 1) rfl rfl rfl ?_
  refine ax_isub (q := 8) (z := ((nS_ T : Nat) : Int) - 1) rfl rfl (am_we (by omega) (by omega) (by omega)) ?_
  refine ax_calls (q := 11) rfl rfl rfl rfl rfl ?_
  refine m_isIn (by omega) ?_
  refine ax_ret (r := some (am_I (if decide (0 ≤ a ∧ a ≤ (nS_ T : Int) - 1) then 1 else 0))) rfl ⟨rfl, by split <;> simp⟩ ?_
  have e : decide (0 ≤ a ∧ a ≤ (nS_ T : Int) - 1) = decide (0 ≤ a ∧ a < nS_ T) := by congr 1; apply propext; constructor <;> intro h <;> omega
  rw [e]
  exact hQ

theorem m_isOrder {d : Nat} (hd : 2 ≤ d) {σ : am_S} {T : sp_T} (hT : TM_ T σ) (hV : TV_ T) {a : Int} {Q : Option am_V → am_S → Prop} (hQ : Q (some (am_I (if decide (0 ≤ a ∧ a < nO_ T) then 1 else 0))) σ) : am_Ev d 190 [am_R 135, am_I a] σ Q := by
  obtain ⟨d, rfl⟩ : ∃ e, d = e + 1 := ⟨d - 1, by omega⟩
  have h9 := hV.nO
  refine ev_in (m := 190) (c := k_X9_isOrder) (L := [some (am_R 135), some (am_I a)]) rfl rfl rfl rfl rfl rfl ?_
  refine ax_load (q := 1) rfl rfl rfl rfl rfl ?_
  refine ax_const (q := 2) (v := am_I 0) rfl rfl rfl ?_
  refine ax_load (q := 3) rfl rfl rfl rfl rfl ?_
  refine ax_getf (q := 6) (v := am_I ((nO_ T : Nat) : Int)) rfl rfl (am_fg rfl (hT.s51.trans hV.nO.1)) ?_
  refine ax_const (q := 7) (v := am_I 1) rfl rfl rfl ?_
  refine ax_isub (q := 8) (z := ((nO_ T : Nat) : Int) - 1) rfl rfl (am_we (by omega) (by omega) (by omega)) ?_
  refine ax_calls (q := 11) rfl rfl rfl rfl rfl ?_
  refine m_isIn (by omega) ?_
  refine ax_ret (r := some (am_I (if decide (0 ≤ a ∧ a ≤ (nO_ T : Int) - 1) then 1 else 0))) rfl ⟨rfl, by split <;> simp⟩ ?_
  have e : decide (0 ≤ a ∧ a ≤ (nO_ T : Int) - 1) = decide (0 ≤ a ∧ a < nO_ T) := by congr 1; apply propext; constructor <;> intro h <;> omega
  rw [e]
  exact hQ

theorem m_isShut {d : Nat} (hd : 1 ≤ d) {σ : am_S} {v : sp_V} (ha : σ.1 164 = v) {p : Nat} (hp : p < 6) {Q : Option am_V → am_S → Prop} (hQ : Q (some (am_I (if sh_ v p then 1 else 0))) σ) : am_Ev d 192 [am_R 135, am_I ((p : Nat) : Int)] σ Q := by
  obtain ⟨d, rfl⟩ : ∃ e, d = e + 1 := ⟨d - 1, by omega⟩
  refine ev_in (m := 192) (c := k_X9_isShut) (L := [some (am_R 135), some (am_I ((p : Nat) : Int))]) rfl rfl rfl rfl rfl rfl ?_
  refine ax_load (q := 1) rfl rfl rfl rfl rfl ?_
  refine ax_getf (q := 4) (v := am_R 164) rfl rfl (rfl) ?_
  refine ax_const (q := 6) (v := am_I 12) rfl rfl rfl ?_
  refine ax_load (q := 7) rfl rfl rfl rfl rfl ?_
  refine ax_iadd (q := 8) (z := ((12 + p : Nat) : Int)) rfl rfl (am_we (by omega) (by omega) (by omega)) ?_
  refine bx_iald (q := 9) (k := 12 + p) (z := v (12 + p)) rfl rfl (rfl) (by omega) (by omega) (congrFun ha _) ?_
  refine ax_const (q := 10) (v := am_I 2) rfl rfl rfl ?_
  refine ax_icmp_ge (q := 13) (x := 17) rfl rfl (fun h10 => ?_) (fun h10 => ?_)
  · refine ax_const (q := 18) (v := am_I 0) rfl rfl rfl ?_
    refine ax_ret (r := some (am_I 0)) rfl ⟨rfl, Or.inl rfl⟩ ?_
    have e : sh_ v p = false := by unfold sh_; simp; omega
    rw [e] at hQ
    exact hQ
  · refine ax_const (q := 14) (v := am_I 1) rfl rfl rfl ?_
    refine ax_goto (x := 18) rfl ?_
    refine ax_ret (r := some (am_I 1)) rfl ⟨rfl, Or.inr rfl⟩ ?_
    have e : sh_ v p = true := by unfold sh_; simp; omega
    rw [e] at hQ
    exact hQ

theorem m_levelOf {d : Nat} (hd : 1 ≤ d) {σ : am_S} {v : sp_V} (ha : σ.1 164 = v) {p s : Nat} (hp : p < 6) (hs : s < 4) {Q : Option am_V → am_S → Prop} (hQ : Q (some (am_I (v (24 + 4 * p + s)))) σ) : am_Ev d 193 [am_R 135, am_I ((p : Nat) : Int), am_I ((s : Nat) : Int)] σ Q := by
  obtain ⟨d, rfl⟩ : ∃ e, d = e + 1 := ⟨d - 1, by omega⟩
  refine ev_in (m := 193) (c := k_X9_levelOf) (L := [some (am_R 135), some (am_I ((p : Nat) : Int)), some (am_I ((s : Nat) : Int))]) rfl rfl rfl rfl rfl rfl ?_
  refine ax_load (q := 1) rfl rfl rfl rfl rfl ?_
  refine ax_getf (q := 4) (v := am_R 164) rfl rfl (rfl) ?_
  refine ax_const (q := 6) (v := am_I 24) rfl rfl rfl ?_
  refine ax_const (q := 7) (v := am_I 4) rfl rfl rfl ?_
  refine ax_load (q := 8) rfl rfl rfl rfl rfl ?_
  refine ax_imul (q := 9) (z := ((4 * p : Nat) : Int)) rfl rfl (am_we (by omega) (by omega) (by omega)) ?_
  refine ax_iadd (q := 10) (z := ((24 + (4 * p) : Nat) : Int)) rfl rfl (am_we (by omega) (by omega) (by omega)) ?_
  refine ax_load (q := 11) rfl rfl rfl rfl rfl ?_
  refine ax_iadd (q := 12) (z := (((24 + (4 * p)) + s : Nat) : Int)) rfl rfl (am_we (by omega) (by omega) (by omega)) ?_
  refine bx_iald (q := 13) (k := (24 + (4 * p)) + s) (z := v ((24 + (4 * p)) + s)) rfl rfl (rfl) (by omega) (by omega) (congrFun ha _) ?_
  refine ax_ret (r := some (am_I (v ((24 + (4 * p)) + s)))) rfl rfl ?_
  exact hQ

theorem m_can {d : Nat} (hd : 2 ≤ d) {σ : am_S} {T : sp_T} (hT : TM_ T σ) (hV : TV_ T) {v : sp_V} (ha : σ.1 164 = v) {p o : Nat} (hp : p < 6) (ho : o < nO_ T) {Q : Option am_V → am_S → Prop} (hQ : Q (some (am_I (if cn_ T v p o then 1 else 0))) σ) : am_Ev d 194 [am_R 135, am_I ((p : Nat) : Int), am_I ((o : Nat) : Int)] σ Q := by
  obtain ⟨d, rfl⟩ : ∃ e, d = e + 1 := ⟨d - 1, by omega⟩
  have h8 := hV.sk ho
  have h7 := hV.nO
  refine ev_in (m := 194) (c := k_X9_can) (L := [some (am_R 135), some (am_I ((p : Nat) : Int)), some (am_I ((o : Nat) : Int))]) rfl rfl rfl rfl rfl rfl ?_
  refine ax_load (q := 1) rfl rfl rfl rfl rfl ?_
  refine ax_load (q := 2) rfl rfl rfl rfl rfl ?_
  refine ax_load (q := 3) rfl rfl rfl rfl rfl ?_
  refine ax_getf (q := 6) (v := am_R 151) rfl rfl (rfl) ?_
  refine ax_load (q := 7) rfl rfl rfl rfl rfl ?_
  refine bx_iald (q := 8) (k := o) (z := ((sk_ T o : Nat) : Int)) rfl rfl (rfl) (by omega) (by omega) ((congrFun hT.a151 _).trans (hV.sk (by omega)).1) ?_
  refine ax_callv (q := 11) rfl rfl rfl rfl rfl rfl ?_
  refine m_levelOf (by omega) ha hp h8.2.2 ?_
  refine ax_load (q := 12) rfl rfl rfl rfl rfl ?_
  refine ax_getf (q := 15) (v := am_R 152) rfl rfl (rfl) ?_
  refine ax_load (q := 16) rfl rfl rfl rfl rfl ?_
  refine bx_iald (q := 17) (k := o) (z := T 152 o) rfl rfl (rfl) (by omega) (by omega) (congrFun hT.a152 _) ?_
  refine ax_icmp_lt (q := 20) (x := 24) rfl rfl (fun h17 => ?_) (fun h17 => ?_)
  · refine ax_const (q := 25) (v := am_I 0) rfl rfl rfl ?_
    refine ax_ret (r := some (am_I 0)) rfl ⟨rfl, Or.inl rfl⟩ ?_
    have e : cn_ T v p o = false := by unfold cn_; simp; omega
    rw [e] at hQ
    exact hQ
  · refine ax_const (q := 21) (v := am_I 1) rfl rfl rfl ?_
    refine ax_goto (x := 25) rfl ?_
    refine ax_ret (r := some (am_I 1)) rfl ⟨rfl, Or.inr rfl⟩ ?_
    have e : cn_ T v p o = true := by unfold cn_; simp; omega
    rw [e] at hQ
    exact hQ

