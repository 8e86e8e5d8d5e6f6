theorem l_tw1 {d : Nat} {σ0 : am_S} {D : sp_T} (hR : RS_ D σ0) {N : Nat} (hN : σ0.1 135 18 = (N : Int)) (hN3 : N ≤ 320) {Q : Option am_V → am_S → Prop} (hQ : ∀ σ, fp_ [140, 141] [] [] σ0 σ → σ.1 140 = cp_ (D 138) (σ0.1 140) N → σ.1 141 = cp_ (D 139) (σ0.1 141) N → aW d 0 k_X9_town Q 136 [some (am_R 135), some (am_I ((N : Nat) : Int))] [] σ) : ∀ (m k : Nat) (σ : am_S), k + m = N → fp_ [140, 141] [] [] σ0 σ → σ.1 140 = cp_ (D 138) (σ0.1 140) k → σ.1 141 = cp_ (D 139) (σ0.1 141) k → aW d 0 k_X9_town Q 98 [some (am_R 135), some (am_I ((k : Nat) : Int))] [] σ := by
  intro m
  induction m with
  | zero =>
    intro k σ hk hf g140 g141
    obtain rfl : k = N := by omega
    refine ax_load (q := 99) rfl rfl rfl rfl rfl ?_
    refine ax_load (q := 100) rfl rfl rfl rfl rfl ?_
    refine ax_getf (q := 103) (v := am_I ((k : Nat) : Int)) rfl rfl (am_fg rfl ((hf.2.1 18 (by decide)).trans hN)) ?_
    refine ax_icmp_ge (q := 106) (x := 136) rfl rfl (fun h103 => ?_) (fun h => absurd h (by omega))
    exact hQ σ hf g140 g141
  | succ m ih =>
    intro k σ hk hf g140 g141
    refine ax_load (q := 99) rfl rfl rfl rfl rfl ?_
    refine ax_load (q := 100) rfl rfl rfl rfl rfl ?_
    refine ax_getf (q := 103) (v := am_I ((N : Nat) : Int)) rfl rfl (am_fg rfl ((hf.2.1 18 (by decide)).trans hN)) ?_
    refine ax_icmp_ge (q := 106) (x := 136) rfl rfl (fun h => absurd h (by omega)) (fun h103 => ?_)
    refine ax_load (q := 107) rfl rfl rfl rfl rfl ?_
    refine ax_getf (q := 110) (v := am_R 140) rfl rfl (rfl) ?_
    refine ax_load (q := 111) rfl rfl rfl rfl rfl ?_
    refine ax_load (q := 112) rfl rfl rfl rfl rfl ?_
    refine ax_getf (q := 115) (v := am_R 138) rfl rfl (rfl) ?_
    refine ax_load (q := 116) rfl rfl rfl rfl rfl ?_
    refine bx_iald (q := 117) (k := k) (z := D 138 k) rfl rfl (rfl) (by omega) (by omega) (congrFun ((hf.1 138 (by decide) (by decide)).trans (hR.1 138 (by decide))) _) ?_
    refine bx_iast (q := 118) (k := k) rfl rfl (rfl) (by omega) (by omega) ?_
    obtain ⟨σ21, he⟩ : ∃ s, s = (am_sI σ 140 (am_up (σ.1 140) k (D 138 k))) := ⟨_, rfl⟩
    rw [← he]
    have hf21 : fp_ [140, 141] [] [] σ0 σ21 := by rw [he]; exact fp_sI hf (by decide) (by decide)
    have g140x21 : σ21.1 140 = cp_ (D 138) (σ0.1 140) (k + 1) := by rw [he, sI_at, g140]; exact cp_step _ _ k
    have g141x21 : σ21.1 141 = cp_ (D 139) (σ0.1 141) k := by rw [he, sI_ne (by decide)]; exact g141
    clear he
    refine ax_load (q := 119) rfl rfl rfl rfl rfl ?_
    refine ax_getf (q := 122) (v := am_R 141) rfl rfl (rfl) ?_
    refine ax_load (q := 123) rfl rfl rfl rfl rfl ?_
    refine ax_load (q := 124) rfl rfl rfl rfl rfl ?_
    refine ax_getf (q := 127) (v := am_R 139) rfl rfl (rfl) ?_
    refine ax_load (q := 128) rfl rfl rfl rfl rfl ?_
    refine bx_iald (q := 129) (k := k) (z := D 139 k) rfl rfl (rfl) (by omega) (by omega) (congrFun ((hf21.1 139 (by decide) (by decide)).trans (hR.1 139 (by decide))) _) ?_
    refine bx_iast (q := 130) (k := k) rfl rfl (rfl) (by omega) (by omega) ?_
    obtain ⟨σ22, he⟩ : ∃ s, s = (am_sI σ21 141 (am_up (σ21.1 141) k (D 139 k))) := ⟨_, rfl⟩
    rw [← he]
    have hf22 : fp_ [140, 141] [] [] σ0 σ22 := by rw [he]; exact fp_sI hf21 (by decide) (by decide)
    have g140x22 : σ22.1 140 = cp_ (D 138) (σ0.1 140) (k + 1) := by rw [he, sI_ne (by decide)]; exact g140x21
    have g141x22 : σ22.1 141 = cp_ (D 139) (σ0.1 141) (k + 1) := by rw [he, sI_at, g141x21]; exact cp_step _ _ k
    clear he
    refine ax_iinc (q := 133) (z' := ((k + 1 : Nat) : Int)) (L' := [some (am_R 135), some (am_I ((k + 1 : Nat) : Int))]) rfl rfl rfl rfl (am_we (by omega) (by omega) (by omega)) rfl ?_
    refine ax_goto (x := 98) rfl ?_
    exact ih (k + 1) _ (by omega) hf22 g140x22 g141x22

theorem l_tw2 {d : Nat} {σ0 : am_S} {D : sp_T} (hR : RS_ D σ0) {Q : Option am_V → am_S → Prop} (hQ : ∀ σ, fp_ [151, 152, 153, 154, 155, 156] [] [] σ0 σ → σ.1 151 = cp_ (D 145) (σ0.1 151) 8 → σ.1 152 = cp_ (D 146) (σ0.1 152) 8 → σ.1 153 = cp_ (D 147) (σ0.1 153) 8 → σ.1 154 = cp_ (D 148) (σ0.1 154) 8 → σ.1 155 = cp_ (D 149) (σ0.1 155) 8 → σ.1 156 = cp_ (D 150) (σ0.1 156) 8 → aW d 0 k_X9_town Q 222 [some (am_R 135), some (am_I ((8 : Nat) : Int))] [] σ) : ∀ (m k : Nat) (σ : am_S), k + m = 8 → fp_ [151, 152, 153, 154, 155, 156] [] [] σ0 σ → σ.1 151 = cp_ (D 145) (σ0.1 151) k → σ.1 152 = cp_ (D 146) (σ0.1 152) k → σ.1 153 = cp_ (D 147) (σ0.1 153) k → σ.1 154 = cp_ (D 148) (σ0.1 154) k → σ.1 155 = cp_ (D 149) (σ0.1 155) k → σ.1 156 = cp_ (D 150) (σ0.1 156) k → aW d 0 k_X9_town Q 138 [some (am_R 135), some (am_I ((k : Nat) : Int))] [] σ := by
  intro m
  induction m with
  | zero =>
    intro k σ hk hf g151 g152 g153 g154 g155 g156
    obtain rfl : k = 8 := by omega
    refine ax_load (q := 139) rfl rfl rfl rfl rfl ?_
    refine ax_const (q := 141) (v := am_I 8) rfl rfl rfl ?_
    refine ax_icmp_ge (q := 144) (x := 222) rfl rfl (fun h141 => ?_) (fun h => absurd h (by omega))
    exact hQ σ hf g151 g152 g153 g154 g155 g156
  | succ m ih =>
    intro k σ hk hf g151 g152 g153 g154 g155 g156
    refine ax_load (q := 139) rfl rfl rfl rfl rfl ?_
    refine ax_const (q := 141) (v := am_I 8) rfl rfl rfl ?_
    refine ax_icmp_ge (q := 144) (x := 222) rfl rfl (fun h => absurd h (by omega)) (fun h141 => ?_)
    refine ax_load (q := 145) rfl rfl rfl rfl rfl ?_
    refine ax_getf (q := 148) (v := am_R 151) rfl rfl (rfl) ?_
    refine ax_load (q := 149) rfl rfl rfl rfl rfl ?_
    refine ax_load (q := 150) rfl rfl rfl rfl rfl ?_
    refine ax_getf (q := 153) (v := am_R 145) rfl rfl (rfl) ?_
    refine ax_load (q := 154) rfl rfl rfl rfl rfl ?_
    refine bx_iald (q := 155) (k := k) (z := D 145 k) rfl rfl (rfl) (by omega) (by omega) (congrFun ((hf.1 145 (by decide) (by decide)).trans (hR.1 145 (by decide))) _) ?_
    refine bx_iast (q := 156) (k := k) rfl rfl (rfl) (by omega) (by omega) ?_
    obtain ⟨σ21, he⟩ : ∃ s, s = (am_sI σ 151 (am_up (σ.1 151) k (D 145 k))) := ⟨_, rfl⟩
    rw [← he]
    have hf21 : fp_ [151, 152, 153, 154, 155, 156] [] [] σ0 σ21 := by rw [he]; exact fp_sI hf (by decide) (by decide)
    have g151x21 : σ21.1 151 = cp_ (D 145) (σ0.1 151) (k + 1) := by rw [he, sI_at, g151]; exact cp_step _ _ k
    have g152x21 : σ21.1 152 = cp_ (D 146) (σ0.1 152) k := by rw [he, sI_ne (by decide)]; exact g152
    have g153x21 : σ21.1 153 = cp_ (D 147) (σ0.1 153) k := by rw [he, sI_ne (by decide)]; exact g153
    have g154x21 : σ21.1 154 = cp_ (D 148) (σ0.1 154) k := by rw [he, sI_ne (by decide)]; exact g154
    have g155x21 : σ21.1 155 = cp_ (D 149) (σ0.1 155) k := by rw [he, sI_ne (by decide)]; exact g155
    have g156x21 : σ21.1 156 = cp_ (D 150) (σ0.1 156) k := by rw [he, sI_ne (by decide)]; exact g156
    clear he
    refine ax_load (q := 157) rfl rfl rfl rfl rfl ?_
    refine ax_getf (q := 160) (v := am_R 152) rfl rfl (rfl) ?_
    refine ax_load (q := 161) rfl rfl rfl rfl rfl ?_
    refine ax_load (q := 162) rfl rfl rfl rfl rfl ?_
    refine ax_getf (q := 165) (v := am_R 146) rfl rfl (rfl) ?_
    refine ax_load (q := 166) rfl rfl rfl rfl rfl ?_
    refine bx_iald (q := 167) (k := k) (z := D 146 k) rfl rfl (rfl) (by omega) (by omega) (congrFun ((hf21.1 146 (by decide) (by decide)).trans (hR.1 146 (by decide))) _) ?_
    refine bx_iast (q := 168) (k := k) rfl rfl (rfl) (by omega) (by omega) ?_
    obtain ⟨σ22, he⟩ : ∃ s, s = (am_sI σ21 152 (am_up (σ21.1 152) k (D 146 k))) := ⟨_, rfl⟩
    rw [← he]
    have hf22 : fp_ [151, 152, 153, 154, 155, 156] [] [] σ0 σ22 := by rw [he]; exact fp_sI hf21 (by decide) (by decide)
    have g151x22 : σ22.1 151 = cp_ (D 145) (σ0.1 151) (k + 1) := by rw [he, sI_ne (by decide)]; exact g151x21
    have g152x22 : σ22.1 152 = cp_ (D 146) (σ0.1 152) (k + 1) := by rw [he, sI_at, g152x21]; exact cp_step _ _ k
    have g153x22 : σ22.1 153 = cp_ (D 147) (σ0.1 153) k := by rw [he, sI_ne (by decide)]; exact g153x21
    have g154x22 : σ22.1 154 = cp_ (D 148) (σ0.1 154) k := by rw [he, sI_ne (by decide)]; exact g154x21
    have g155x22 : σ22.1 155 = cp_ (D 149) (σ0.1 155) k := by rw [he, sI_ne (by decide)]; exact g155x21
    have g156x22 : σ22.1 156 = cp_ (D 150) (σ0.1 156) k := by rw [he, sI_ne (by decide)]; exact g156x21
    clear he
    refine ax_load (q := 169) rfl rfl rfl rfl rfl ?_
    refine ax_getf (q := 172) (v := am_R 153) rfl rfl (rfl) ?_
    refine ax_load (q := 173) rfl rfl rfl rfl rfl ?_
    refine ax_load (q := 174) rfl rfl rfl rfl rfl ?_
    refine ax_getf (q := 177) (v := am_R 147) rfl rfl (rfl) ?_
    refine ax_load (q := 178) rfl rfl rfl rfl rfl ?_
    refine bx_iald (q := 179) (k := k) (z := D 147 k) rfl rfl (rfl) (by omega) (by omega) (congrFun ((hf22.1 147 (by decide) (by decide)).trans (hR.1 147 (by decide))) _) ?_
    refine bx_iast (q := 180) (k := k) rfl rfl (rfl) (by omega) (by omega) ?_
    obtain ⟨σ23, he⟩ : ∃ s, s = (am_sI σ22 153 (am_up (σ22.1 153) k (D 147 k))) := ⟨_, rfl⟩
    rw [← he]
    have hf23 : fp_ [151, 152, 153, 154, 155, 156] [] [] σ0 σ23 := by rw [he]; exact fp_sI hf22 (by decide) (by decide)
    have g151x23 : σ23.1 151 = cp_ (D 145) (σ0.1 151) (k + 1) := by rw [he, sI_ne (by decide)]; exact g151x22
    have g152x23 : σ23.1 152 = cp_ (D 146) (σ0.1 152) (k + 1) := by rw [he, sI_ne (by decide)]; exact g152x22
    have g153x23 : σ23.1 153 = cp_ (D 147) (σ0.1 153) (k + 1) := by rw [he, sI_at, g153x22]; exact cp_step _ _ k
    have g154x23 : σ23.1 154 = cp_ (D 148) (σ0.1 154) k := by rw [he, sI_ne (by decide)]; exact g154x22
    have g155x23 : σ23.1 155 = cp_ (D 149) (σ0.1 155) k := by rw [he, sI_ne (by decide)]; exact g155x22
    have g156x23 : σ23.1 156 = cp_ (D 150) (σ0.1 156) k := by rw [he, sI_ne (by decide)]; exact g156x22
    clear he
    refine ax_load (q := 181) rfl rfl rfl rfl rfl ?_
    refine ax_getf (q := 184) (v := am_R 154) rfl rfl (rfl) ?_
    refine ax_load (q := 185) rfl rfl rfl rfl rfl ?_
    refine ax_load (q := 186) rfl rfl rfl rfl rfl ?_
    refine ax_getf (q := 189) (v := am_R 148) rfl rfl (rfl) ?_
    refine ax_load (q := 190) rfl rfl rfl rfl rfl ?_
    refine bx_iald (q := 191) (k := k) (z := D 148 k) rfl rfl (rfl) (by omega) (by omega) (congrFun ((hf23.1 148 (by decide) (by decide)).trans (hR.1 148 (by decide))) _) ?_
    refine bx_iast (q := 192) (k := k) rfl rfl (rfl) (by omega) (by omega) ?_
    obtain ⟨σ24, he⟩ : ∃ s, s = (am_sI σ23 154 (am_up (σ23.1 154) k (D 148 k))) := ⟨_, rfl⟩
    rw [← he]
    have hf24 : fp_ [151, 152, 153, 154, 155, 156] [] [] σ0 σ24 := by rw [he]; exact fp_sI hf23 (by decide) (by decide)
    have g151x24 : σ24.1 151 = cp_ (D 145) (σ0.1 151) (k + 1) := by rw [he, sI_ne (by decide)]; exact g151x23
    have g152x24 : σ24.1 152 = cp_ (D 146) (σ0.1 152) (k + 1) := by rw [he, sI_ne (by decide)]; exact g152x23
    have g153x24 : σ24.1 153 = cp_ (D 147) (σ0.1 153) (k + 1) := by rw [he, sI_ne (by decide)]; exact g153x23
    have g154x24 : σ24.1 154 = cp_ (D 148) (σ0.1 154) (k + 1) := by rw [he, sI_at, g154x23]; exact cp_step _ _ k
    have g155x24 : σ24.1 155 = cp_ (D 149) (σ0.1 155) k := by rw [he, sI_ne (by decide)]; exact g155x23
    have g156x24 : σ24.1 156 = cp_ (D 150) (σ0.1 156) k := by rw [he, sI_ne (by decide)]; exact g156x23
    clear he
    refine ax_load (q := 193) rfl rfl rfl rfl rfl ?_
    refine ax_getf (q := 196) (v := am_R 155) rfl rfl (rfl) ?_
    refine ax_load (q := 197) rfl rfl rfl rfl rfl ?_
    refine ax_load (q := 198) rfl rfl rfl rfl rfl ?_
    refine ax_getf (q := 201) (v := am_R 149) rfl rfl (rfl) ?_
    refine ax_load (q := 202) rfl rfl rfl rfl rfl ?_
    refine bx_iald (q := 203) (k := k) (z := D 149 k) rfl rfl (rfl) (by omega) (by omega) (congrFun ((hf24.1 149 (by decide) (by decide)).trans (hR.1 149 (by decide))) _) ?_
    refine bx_iast (q := 204) (k := k) rfl rfl (rfl) (by omega) (by omega) ?_
    obtain ⟨σ25, he⟩ : ∃ s, s = (am_sI σ24 155 (am_up (σ24.1 155) k (D 149 k))) := ⟨_, rfl⟩
    rw [← he]
    have hf25 : fp_ [151, 152, 153, 154, 155, 156] [] [] σ0 σ25 := by rw [he]; exact fp_sI hf24 (by decide) (by decide)
    have g151x25 : σ25.1 151 = cp_ (D 145) (σ0.1 151) (k + 1) := by rw [he, sI_ne (by decide)]; exact g151x24
    have g152x25 : σ25.1 152 = cp_ (D 146) (σ0.1 152) (k + 1) := by rw [he, sI_ne (by decide)]; exact g152x24
    have g153x25 : σ25.1 153 = cp_ (D 147) (σ0.1 153) (k + 1) := by rw [he, sI_ne (by decide)]; exact g153x24
    have g154x25 : σ25.1 154 = cp_ (D 148) (σ0.1 154) (k + 1) := by rw [he, sI_ne (by decide)]; exact g154x24
    have g155x25 : σ25.1 155 = cp_ (D 149) (σ0.1 155) (k + 1) := by rw [he, sI_at, g155x24]; exact cp_step _ _ k
    have g156x25 : σ25.1 156 = cp_ (D 150) (σ0.1 156) k := by rw [he, sI_ne (by decide)]; exact g156x24
    clear he
    refine ax_load (q := 205) rfl rfl rfl rfl rfl ?_
    refine ax_getf (q := 208) (v := am_R 156) rfl rfl (rfl) ?_
    refine ax_load (q := 209) rfl rfl rfl rfl rfl ?_
    refine ax_load (q := 210) rfl rfl rfl rfl rfl ?_
    refine ax_getf (q := 213) (v := am_R 150) rfl rfl (rfl) ?_
    refine ax_load (q := 214) rfl rfl rfl rfl rfl ?_
    refine bx_iald (q := 215) (k := k) (z := D 150 k) rfl rfl (rfl) (by omega) (by omega) (congrFun ((hf25.1 150 (by decide) (by decide)).trans (hR.1 150 (by decide))) _) ?_
    refine bx_iast (q := 216) (k := k) rfl rfl (rfl) (by omega) (by omega) ?_
    obtain ⟨σ26, he⟩ : ∃ s, s = (am_sI σ25 156 (am_up (σ25.1 156) k (D 150 k))) := ⟨_, rfl⟩
    rw [← he]
    have hf26 : fp_ [151, 152, 153, 154, 155, 156] [] [] σ0 σ26 := by rw [he]; exact fp_sI hf25 (by decide) (by decide)
    have g151x26 : σ26.1 151 = cp_ (D 145) (σ0.1 151) (k + 1) := by rw [he, sI_ne (by decide)]; exact g151x25
    have g152x26 : σ26.1 152 = cp_ (D 146) (σ0.1 152) (k + 1) := by rw [he, sI_ne (by decide)]; exact g152x25
    have g153x26 : σ26.1 153 = cp_ (D 147) (σ0.1 153) (k + 1) := by rw [he, sI_ne (by decide)]; exact g153x25
    have g154x26 : σ26.1 154 = cp_ (D 148) (σ0.1 154) (k + 1) := by rw [he, sI_ne (by decide)]; exact g154x25
    have g155x26 : σ26.1 155 = cp_ (D 149) (σ0.1 155) (k + 1) := by rw [he, sI_ne (by decide)]; exact g155x25
    have g156x26 : σ26.1 156 = cp_ (D 150) (σ0.1 156) (k + 1) := by rw [he, sI_at, g156x25]; exact cp_step _ _ k
    clear he
    refine ax_iinc (q := 219) (z' := ((k + 1 : Nat) : Int)) (L' := [some (am_R 135), some (am_I ((k + 1 : Nat) : Int))]) rfl rfl rfl rfl (am_we (by omega) (by omega) (by omega)) rfl ?_
    refine ax_goto (x := 138) rfl ?_
    exact ih (k + 1) _ (by omega) hf26 g151x26 g152x26 g153x26 g154x26 g155x26 g156x26

theorem l_tw3 {d : Nat} {σ0 : am_S} {D : sp_T} (hR : RS_ D σ0) {Q : Option am_V → am_S → Prop} (hQ : ∀ σ, fp_ [158] [] [] σ0 σ → σ.1 158 = cp_ (D 157) (σ0.1 158) 24 → aW d 0 k_X9_town Q 248 [some (am_R 135), some (am_I ((24 : Nat) : Int))] [] σ) : ∀ (m k : Nat) (σ : am_S), k + m = 24 → fp_ [158] [] [] σ0 σ → σ.1 158 = cp_ (D 157) (σ0.1 158) k → aW d 0 k_X9_town Q 224 [some (am_R 135), some (am_I ((k : Nat) : Int))] [] σ := by
  intro m
  induction m with
  | zero =>
    intro k σ hk hf g158
    obtain rfl : k = 24 := by omega
    refine ax_load (q := 225) rfl rfl rfl rfl rfl ?_
    refine ax_const (q := 227) (v := am_I 24) rfl rfl rfl ?_
    refine ax_icmp_ge (q := 230) (x := 248) rfl rfl (fun h227 => ?_) (fun h => absurd h (by omega))
    exact hQ σ hf g158
  | succ m ih =>
    intro k σ hk hf g158
    refine ax_load (q := 225) rfl rfl rfl rfl rfl ?_
    refine ax_const (q := 227) (v := am_I 24) rfl rfl rfl ?_
    refine ax_icmp_ge (q := 230) (x := 248) rfl rfl (fun h => absurd h (by omega)) (fun h227 => ?_)
    refine ax_load (q := 231) rfl rfl rfl rfl rfl ?_
    refine ax_getf (q := 234) (v := am_R 158) rfl rfl (rfl) ?_
    refine ax_load (q := 235) rfl rfl rfl rfl rfl ?_
    refine ax_load (q := 236) rfl rfl rfl rfl rfl ?_
    refine ax_getf (q := 239) (v := am_R 157) rfl rfl (rfl) ?_
    refine ax_load (q := 240) rfl rfl rfl rfl rfl ?_
    refine bx_iald (q := 241) (k := k) (z := D 157 k) rfl rfl (rfl) (by omega) (by omega) (congrFun ((hf.1 157 (by decide) (by decide)).trans (hR.1 157 (by decide))) _) ?_
    refine bx_iast (q := 242) (k := k) rfl rfl (rfl) (by omega) (by omega) ?_
    obtain ⟨σ21, he⟩ : ∃ s, s = (am_sI σ 158 (am_up (σ.1 158) k (D 157 k))) := ⟨_, rfl⟩
    rw [← he]
    have hf21 : fp_ [158] [] [] σ0 σ21 := by rw [he]; exact fp_sI hf (by decide) (by decide)
    have g158x21 : σ21.1 158 = cp_ (D 157) (σ0.1 158) (k + 1) := by rw [he, sI_at, g158]; exact cp_step _ _ k
    clear he
    refine ax_iinc (q := 245) (z' := ((k + 1 : Nat) : Int)) (L' := [some (am_R 135), some (am_I ((k + 1 : Nat) : Int))]) rfl rfl rfl rfl (am_we (by omega) (by omega) (by omega)) rfl ?_
    refine ax_goto (x := 224) rfl ?_
    exact ih (k + 1) _ (by omega) hf21 g158x21

theorem l_tw4 {d : Nat} {σ0 : am_S} {D : sp_T} (hR : RS_ D σ0) {Q : Option am_V → am_S → Prop} (hQ : ∀ σ, fp_ [176] [] [] σ0 σ → σ.1 176 = cp_ (fun _ => 0) (σ0.1 176) 3 → aW d 0 k_X9_town Q 292 [some (am_R 135), some (am_I ((3 : Nat) : Int))] [] σ) : ∀ (m k : Nat) (σ : am_S), k + m = 3 → fp_ [176] [] [] σ0 σ → σ.1 176 = cp_ (fun _ => 0) (σ0.1 176) k → aW d 0 k_X9_town Q 274 [some (am_R 135), some (am_I ((k : Nat) : Int))] [] σ := by
  intro m
  induction m with
  | zero =>
    intro k σ hk hf g176
    obtain rfl : k = 3 := by omega
    refine ax_load (q := 275) rfl rfl rfl rfl rfl ?_
    refine ax_const (q := 276) (v := am_I 3) rfl rfl rfl ?_
    refine ax_icmp_ge (q := 279) (x := 292) rfl rfl (fun h276 => ?_) (fun h => absurd h (by omega))
    exact hQ σ hf g176
  | succ m ih =>
    intro k σ hk hf g176
    refine ax_load (q := 275) rfl rfl rfl rfl rfl ?_
    refine ax_const (q := 276) (v := am_I 3) rfl rfl rfl ?_
    refine ax_icmp_ge (q := 279) (x := 292) rfl rfl (fun h => absurd h (by omega)) (fun h276 => ?_)
    refine ax_load (q := 280) rfl rfl rfl rfl rfl ?_
    refine ax_getf (q := 283) (v := am_R 176) rfl rfl (rfl) ?_
    refine ax_load (q := 284) rfl rfl rfl rfl rfl ?_
    refine ax_const (q := 285) (v := am_I 0) rfl rfl rfl ?_
    refine bx_zast (q := 286) (k := k) rfl rfl (rfl) (by omega) (by omega) (Or.inl rfl) ?_
    obtain ⟨σ21, he⟩ : ∃ s, s = (am_sI σ 176 (am_up (σ.1 176) k 0)) := ⟨_, rfl⟩
    rw [← he]
    have hf21 : fp_ [176] [] [] σ0 σ21 := by rw [he]; exact fp_sI hf (by decide) (by decide)
    have g176x21 : σ21.1 176 = cp_ (fun _ => 0) (σ0.1 176) (k + 1) := by rw [he, sI_at, g176]; exact cp_step _ _ k
    clear he
    refine ax_iinc (q := 289) (z' := ((k + 1 : Nat) : Int)) (L' := [some (am_R 135), some (am_I ((k + 1 : Nat) : Int))]) rfl rfl rfl rfl (am_we (by omega) (by omega) (by omega)) rfl ?_
    refine ax_goto (x := 274) rfl ?_
    exact ih (k + 1) _ (by omega) hf21 g176x21

theorem pe_lt (f : Nat → Int) : ∀ (l : List Int) (s j : Nat), j < s → pe_ f s l j = f j := by
  intro l
  induction l generalizing f with
  | nil => intro s j h; rfl
  | cons x l ih =>
    intro s j h
    show pe_ (am_up f s x) (s + 1) l j = f j
    rw [ih _ _ _ (by omega), am_up_ne (by omega)]
theorem pe_at (f : Nat → Int) : ∀ (l : List Int) (s k : Nat) (h : k < l.length), pe_ f s l (s + k) = l[k] := by
  intro l
  induction l generalizing f with
  | nil => intro s k h; cases h
  | cons x l ih =>
    intro s k h
    show pe_ (am_up f s x) (s + 1) l (s + k) = _
    cases k with
    | zero => rw [pe_lt _ _ _ _ (by omega)]; exact am_up_same _ _ _
    | succ k =>
      rw [show s + (k + 1) = s + 1 + k by omega, ih _ _ _ (by simpa using h)]
      rfl
theorem okl_at (b : Nat) : ∀ (s : List (Int × Int)) (d k : Nat) (h : k < s.length), okl_ b d s → okx_ (dl_ d (s.take k)) s[k] ∧ sx_ (dl_ d (s.take k)) s[k] ≤ b := by
  intro s
  induction s with
  | nil => intro d k h; cases h
  | cons x s ih =>
    intro d k h ho
    cases k with
    | zero => exact ⟨ho.1, ho.2.1⟩
    | succ k => exact ih (sx_ d x) k (by simpa using h) ho.2.2
theorem dl_take (s : List (Int × Int)) : ∀ (d k : Nat) (h : k < s.length), dl_ d (s.take (k + 1)) = sx_ (dl_ d (s.take k)) s[k] := by
  induction s with
  | nil => intro d k h; cases h
  | cons x s ih =>
    intro d k h
    cases k with
    | zero => rfl
    | succ k => exact ih (sx_ d x) k (by simpa using h)
theorem fv_of {T : sp_T} {s : List (Int × Int)} (hs : ∀ k (h : k < s.length), T 140 k = s[k].1 ∧ T 141 k = s[k].2) (ho : okl_ 30 0 s) (h3 : s.length ≤ 300) (h0 : 0 < s.length) (h18 : T 135 18 = ((s.length : Nat) : Int)) (h60 : T 135 60 = 1) : FV_ T := by
  have hF : nF_ T = s.length := by unfold nF_; rw [h18]; exact Int.toNat_natCast _
  have hde : ∀ k, k ≤ s.length → de_ T k = dl_ 0 (s.take k) := by
    intro k
    induction k with
    | zero => intro _; rfl
    | succ k ih =>
      intro hk
      rw [dl_take s 0 k (by omega), ← ih (by omega)]
      have h1 := (hs k (by omega)).1
      show (if T 140 k = 0 ∨ T 140 k = 1 then de_ T k + 1 else if T 140 k = 2 then de_ T k else de_ T k - 1) = (if s[k].1 = 0 ∨ s[k].1 = 1 then de_ T k + 1 else if s[k].1 = 2 then de_ T k else de_ T k - 1)
      rw [h1]
  refine ⟨by omega, Or.inr h60, ⟨fun _ => by omega, fun _ => h60⟩, fun k hk => ?_⟩
  rw [hF] at hk
  have h1 := hs k hk
  have h2 := okl_at 30 s 0 k hk ho
  rw [hde (k + 1) (by omega), hde k (by omega), dl_take s 0 k hk, h1.1, h1.2]
  refine ⟨h2.2, ?_⟩
  have h4 := h2.1
  unfold okx_ opx_ at h4
  exact h4
/-- the town that a table tells -/
def TD_ (T D : sp_T) (nP nF : Nat) : Prop :=
  (T 135 50 = D 135 43) ∧ (T 135 51 = D 135 44) ∧ (T 135 52 = D 135 45) ∧ (T 135 53 = D 135 46) ∧ (T 135 54 = D 135 47) ∧ (T 135 55 = D 135 48) ∧ (T 135 21 = D 135 20) ∧ (T 135 60 = D 135 57) ∧ (T 135 18 = (if D 135 57 = 0 then 0 else D 135 17)) ∧ (∀ o, o < 8 → T 151 o = D 145 o ∧ T 152 o = D 146 o ∧ T 153 o = D 147 o ∧ T 154 o = D 148 o ∧ T 155 o = D 149 o ∧ T 156 o = D 150 o) ∧ (∀ i, i < 24 → T 158 i = D 157 i) ∧ (∀ p, p < nP → T 162 p = D 159 p) ∧ (∀ k, k < nF → T 140 k = D 138 k ∧ T 141 k = D 139 k)
theorem TD_.e50 {T D : sp_T} {nP nF : Nat} (h : TD_ T D nP nF) : T 135 50 = D 135 43 := h.1
theorem TD_.e51 {T D : sp_T} {nP nF : Nat} (h : TD_ T D nP nF) : T 135 51 = D 135 44 := h.2.1
theorem TD_.e52 {T D : sp_T} {nP nF : Nat} (h : TD_ T D nP nF) : T 135 52 = D 135 45 := h.2.2.1
theorem TD_.e53 {T D : sp_T} {nP nF : Nat} (h : TD_ T D nP nF) : T 135 53 = D 135 46 := h.2.2.2.1
theorem TD_.e54 {T D : sp_T} {nP nF : Nat} (h : TD_ T D nP nF) : T 135 54 = D 135 47 := h.2.2.2.2.1
theorem TD_.e55 {T D : sp_T} {nP nF : Nat} (h : TD_ T D nP nF) : T 135 55 = D 135 48 := h.2.2.2.2.2.1
theorem TD_.e21 {T D : sp_T} {nP nF : Nat} (h : TD_ T D nP nF) : T 135 21 = D 135 20 := h.2.2.2.2.2.2.1
theorem TD_.e60 {T D : sp_T} {nP nF : Nat} (h : TD_ T D nP nF) : T 135 60 = D 135 57 := h.2.2.2.2.2.2.2.1
theorem TD_.e18 {T D : sp_T} {nP nF : Nat} (h : TD_ T D nP nF) : T 135 18 = (if D 135 57 = 0 then 0 else D 135 17) := h.2.2.2.2.2.2.2.2.1
theorem TD_.o {T D : sp_T} {nP nF : Nat} (h : TD_ T D nP nF) : ∀ o, o < 8 → T 151 o = D 145 o ∧ T 152 o = D 146 o ∧ T 153 o = D 147 o ∧ T 154 o = D 148 o ∧ T 155 o = D 149 o ∧ T 156 o = D 150 o := h.2.2.2.2.2.2.2.2.2.1
theorem TD_.r {T D : sp_T} {nP nF : Nat} (h : TD_ T D nP nF) : ∀ i, i < 24 → T 158 i = D 157 i := h.2.2.2.2.2.2.2.2.2.2.1
theorem TD_.p {T D : sp_T} {nP nF : Nat} (h : TD_ T D nP nF) : ∀ p, p < nP → T 162 p = D 159 p := h.2.2.2.2.2.2.2.2.2.2.2.1
theorem TD_.f {T D : sp_T} {nP nF : Nat} (h : TD_ T D nP nF) : ∀ k, k < nF → T 140 k = D 138 k ∧ T 141 k = D 139 k := h.2.2.2.2.2.2.2.2.2.2.2.2
theorem TD_.tv {T D : sp_T} {nS nO nR nP nU nF : Nat} (h : TD_ T D nP nF) (hV : DW_ D nS nO nR nP nU) (hF : (nF : Int) = T 135 18) : TV_ T ∧ nP_ T = nP ∧ nR_ T = nR ∧ nO_ T = nO ∧ nS_ T = nS := by
  have e50 := h.e50.trans hV.hS
  have e51 := h.e51.trans hV.hO
  have e52 := h.e52.trans hV.hR
  have e53 := h.e53.trans hV.hP
  have b1 := hV.S4
  have b2 := hV.O8
  have b3 := hV.R3
  have b4 := hV.P6
  have n1 : nP_ T = nP := by unfold nP_; rw [e53]; exact Int.toNat_natCast _
  have n2 : nR_ T = nR := by unfold nR_; rw [e52]; exact Int.toNat_natCast _
  have n3 : nO_ T = nO := by unfold nO_; rw [e51]; exact Int.toNat_natCast _
  have n4 : nS_ T = nS := by unfold nS_; rw [e50]; exact Int.toNat_natCast _
  refine ⟨⟨by omega, by omega, by omega, by omega, by rw [h.e55]; exact hV.op, fun o ho => ?_, fun q o hq ho => ?_, fun p hp => ?_, ?_⟩, n1, n2, n3, n4⟩
  · rw [n3] at ho
    have := hV.or o ho
    obtain ⟨a1, a2, a3, a4, a5, a6⟩ := h.o o (by omega)
    rw [a1, a2, a3, a4, a5, a6, e50]
    exact this
  · rw [n2] at hq
    rw [n3] at ho
    rw [h.r _ (by omega)]
    exact hV.od q hq o (by omega)
  · rw [n1] at hp
    rw [h.p p hp, e52]
    exact (hV.pe p hp).1
  · obtain ⟨t1, t2, t3, t4⟩ := hV.tc
    by_cases q : D 135 57 = 0
    · have e18 : T 135 18 = 0 := by rw [h.e18, if_pos q]
      have e60 : T 135 60 = 0 := by rw [h.e60, q]
      refine ⟨by omega, Or.inl e60, ⟨fun w => by omega, fun w => by omega⟩, fun k hk => ?_⟩
      unfold nF_ at hk
      omega
    · obtain ⟨s, g8, g9, s1, s2, s3, s4, s5, s6⟩ := t4 (t2.resolve_left q)
      have e18 : T 135 18 = ((s.length : Nat) : Int) := by rw [h.e18, if_neg q, s1]
      have hFs : nF = s.length := by omega
      refine fv_of (s := s) (fun k hk => ?_) s4 s2 s3 e18 (h.e60.trans (t2.resolve_left q))
      obtain ⟨f1, f2⟩ := h.f k (by omega)
      rw [f1, f2, s5, s6]
      have p1 := pe_at g8 (s.map (·.1)) 0 k (by simpa using hk)
      have p2 := pe_at g9 (s.map (·.2)) 0 k (by simpa using hk)
      rw [Nat.zero_add] at p1 p2
      rw [p1, p2, List.getElem_map, List.getElem_map]
      exact ⟨rfl, rfl⟩
def pr_ (D : sp_T) (f : Nat → Int) : Nat → Nat → Int
  | 0 => f
  | k + 1 => am_up (pr_ D f k) k (D 159 k)
theorem lyt_pr (T D : sp_T) (g f : Nat → Int) (s : Nat) : ∀ k, (lyt_ T D g f s k).2.1 = pr_ D f k
  | 0 => rfl
  | k + 1 => by show am_up (lyt_ T D g f s k).2.1 k _ = am_up (pr_ D f k) k _; rw [lyt_pr T D g f s k]
theorem pr_at (D : sp_T) (f : Nat → Int) : ∀ k p, p < k → pr_ D f k p = D 159 p
  | 0, p, h => absurd h (by omega)
  | k + 1, p, h => by
    show am_up (pr_ D f k) k _ p = _
    by_cases q : p = k
    · rw [q, am_up_same]
    · rw [am_up_ne q]; exact pr_at D f k p (by omega)

theorem l_townB {d : Nat} (hd : 3 ≤ d) {σ : am_S} {D : sp_T} {nS nO nR nP nU : Nat} (hV : DW_ D nS nO nR nP nU) (hR : RS_ D σ) (h50 : σ.1 135 50 = D 135 43) (h51 : σ.1 135 51 = D 135 44) (h52 : σ.1 135 52 = D 135 45) (h53 : σ.1 135 53 = D 135 46) (h54 : σ.1 135 54 = D 135 47) (h55 : σ.1 135 55 = D 135 48) (h21 : σ.1 135 21 = D 135 20) (h60 : σ.1 135 60 = D 135 57) (h18 : σ.1 135 18 = (if D 135 57 = 0 then 0 else D 135 17)) {Q : Option am_V → am_S → Prop} (hQ : ∀ T nF σ' g f s, TD_ T D nP nF → (nF : Int) = T 135 18 → TM_ T σ' → fp_ [140, 141, 151, 152, 153, 154, 155, 156, 158, 162, 163, 176] [56, 64, 65, 68, 77] [] σ σ' → (∀ j, j < 50 → g j = 0) → D 135 49 = ((s : Nat) : Int) → σ'.1 163 = (lyt_ T D g f s nP).1 → σ'.1 135 56 = (((lyt_ T D g f s nP).2.2 : Nat) : Int) → σ'.1 135 64 = 0 → σ'.1 135 65 = 0 → σ'.1 135 68 = 0 → σ'.1 135 77 = 0 → (∀ b, b < 3 → σ'.1 176 b = 0) → Q (some (am_I (D 135 46))) σ') : aW d 0 k_X9_town Q 96 [some (am_R 135), none] [] σ := by
  obtain ⟨N, hN, hN3⟩ : ∃ N : Nat, σ.1 135 18 = (N : Int) ∧ N ≤ 300 := by
    obtain ⟨t1, t2, t3, t4⟩ := hV.tc
    by_cases q : D 135 57 = 0
    · exact ⟨0, by rw [h18, if_pos q]; rfl, by decide⟩
    · obtain ⟨s, g8, g9, s1, s2, s3⟩ := t4 (t2.resolve_left q)
      exact ⟨s.length, by rw [h18, if_neg q, s1], s2⟩
  obtain ⟨s, hs, hs9⟩ : ∃ s : Nat, D 135 49 = (s : Int) ∧ s < 1000 := ⟨(D 135 49).toNat, by have := hV.dr; omega, by have := hV.dr; omega⟩
  refine ax_const (q := 97) (v := am_I 0) rfl rfl rfl ?_
  refine ax_store (q := 98) (L' := [some (am_R 135), some (am_I 0)]) rfl rfl rfl rfl rfl rfl ?_
  refine l_tw1 (N := N) hR hN (by omega) (fun σ1 hf1 a140 a141 => ?_) N 0 σ (by omega) (fp_rf _ _ _ _) (cp_0 _ _).symm (cp_0 _ _).symm
  have hR1 := RS_.fr hR hf1 (by decide) (by decide)
  refine ax_const (q := 137) (v := am_I 0) rfl rfl rfl ?_
  refine ax_store (q := 138) (L' := [some (am_R 135), some (am_I 0)]) rfl rfl rfl rfl rfl rfl ?_
  refine l_tw2 hR1 (fun σ2 hf2 a151 a152 a153 a154 a155 a156 => ?_) 8 0 σ1 (by omega) (fp_rf _ _ _ _) (cp_0 _ _).symm (cp_0 _ _).symm (cp_0 _ _).symm (cp_0 _ _).symm (cp_0 _ _).symm (cp_0 _ _).symm
  have hR2 := RS_.fr hR1 hf2 (by decide) (by decide)
  refine ax_const (q := 223) (v := am_I 0) rfl rfl rfl ?_
  refine ax_store (q := 224) (L' := [some (am_R 135), some (am_I 0)]) rfl rfl rfl rfl rfl rfl ?_
  refine l_tw3 hR2 (fun σ3 hf3 a158 => ?_) 24 0 σ2 (by omega) (fp_rf _ _ _ _) (cp_0 _ _).symm
  have hR3 := RS_.fr hR2 hf3 (by decide) (by decide)
  have hf03 : fp_ [140, 141, 151, 152, 153, 154, 155, 156, 158] [] [] σ σ3 := fp_tr (fp_tr (fp_tr (fp_rf _ _ _ _) hf1 (by decide) (by decide) (by decide)) hf2 (by decide) (by decide) (by decide)) hf3 (by decide) (by decide) (by decide)
  obtain ⟨T, hT⟩ : ∃ T : sp_T, T = am_up σ3.1 162 (pr_ D (σ3.1 162) nP) := ⟨_, rfl⟩
  have tf : ∀ k, T 135 k = σ.1 135 k := fun k => by rw [hT, am_up_ne (by decide)]; exact hf03.2.1 k (by simp)
  have ta : ∀ a, a ≠ 162 → T a = σ3.1 a := fun a ha => by rw [hT, am_up_ne ha]
  have k151 : σ3.1 151 = cp_ (D 145) (σ1.1 151) 8 := (hf3.1 151 (by decide) (by decide)).trans a151
  have k152 : σ3.1 152 = cp_ (D 146) (σ1.1 152) 8 := (hf3.1 152 (by decide) (by decide)).trans a152
  have k153 : σ3.1 153 = cp_ (D 147) (σ1.1 153) 8 := (hf3.1 153 (by decide) (by decide)).trans a153
  have k154 : σ3.1 154 = cp_ (D 148) (σ1.1 154) 8 := (hf3.1 154 (by decide) (by decide)).trans a154
  have k155 : σ3.1 155 = cp_ (D 149) (σ1.1 155) 8 := (hf3.1 155 (by decide) (by decide)).trans a155
  have k156 : σ3.1 156 = cp_ (D 150) (σ1.1 156) 8 := (hf3.1 156 (by decide) (by decide)).trans a156
  have k140 : σ3.1 140 = cp_ (D 138) (σ.1 140) N := ((hf3.1 140 (by decide) (by decide)).trans (hf2.1 140 (by decide) (by decide))).trans a140
  have k141 : σ3.1 141 = cp_ (D 139) (σ.1 141) N := ((hf3.1 141 (by decide) (by decide)).trans (hf2.1 141 (by decide) (by decide))).trans a141
  have hTD : TD_ T D nP N := by
    refine ⟨(tf 50).trans h50, (tf 51).trans h51, (tf 52).trans h52, (tf 53).trans h53, (tf 54).trans h54, (tf 55).trans h55, (tf 21).trans h21, (tf 60).trans h60, (tf 18).trans h18, fun o ho => ?_, fun i hi => ?_, fun p hp => ?_, fun k hk => ?_⟩
    · rw [ta 151 (by decide), ta 152 (by decide), ta 153 (by decide), ta 154 (by decide), ta 155 (by decide), ta 156 (by decide), k151, k152, k153, k154, k155, k156]
      exact ⟨cp_at ho, cp_at ho, cp_at ho, cp_at ho, cp_at ho, cp_at ho⟩
    · rw [ta 158 (by decide), a158]; exact cp_at hi
    · rw [hT, am_up_same]; exact pr_at D _ _ _ hp
    · rw [ta 140 (by decide), ta 141 (by decide), k140, k141]; exact ⟨cp_at hk, cp_at hk⟩
  have hNT : (N : Int) = T 135 18 := by rw [tf 18, hN]
  obtain ⟨hTV, n1, n2, n3, n4⟩ := hTD.tv hV hNT
  have hO : TO_ T σ3 := ⟨(ta 158 (by decide)).symm, by rw [tf 51]; exact hf03.2.1 51 (by simp), by rw [tf 53]; exact hf03.2.1 53 (by simp)⟩
  refine ax_load (q := 249) rfl rfl rfl rfl rfl ?_
  refine ax_callv (q := 252) rfl rfl rfl rfl rfl rfl ?_
  refine m_layTown (by omega) hTV (D := D) (by rw [n1]; exact hV) n2.symm hO hR3 hs hs9 (fun σ4 hf4 a163 a162 a56 => ?_)
  rw [n1] at a163 a162 a56
  refine ax_load (q := 253) rfl rfl rfl rfl rfl ?_
  refine ax_const (q := 254) (v := am_I 0) rfl rfl rfl ?_
  refine ax_putf (q := 257) rfl rfl (nm50_ (k := 64) (z := 0) rfl) ?_
  refine ax_load (q := 258) rfl rfl rfl rfl rfl ?_
  refine ax_const (q := 259) (v := am_I 0) rfl rfl rfl ?_
  refine ax_putf (q := 262) rfl rfl (nm5p_ (k := 65) (z := 0) rfl) ?_
  refine ax_load (q := 263) rfl rfl rfl rfl rfl ?_
  refine ax_const (q := 264) (v := am_I 0) rfl rfl rfl ?_
  refine ax_putf (q := 267) rfl rfl (nm5p_ (k := 77) (z := 0) rfl) ?_
  refine ax_load (q := 268) rfl rfl rfl rfl rfl ?_
  refine ax_const (q := 269) (v := am_I 0) rfl rfl rfl ?_
  refine ax_putf (q := 272) rfl rfl (nm5p_ (k := 68) (z := 0) rfl) ?_
  refine ax_const (q := 273) (v := am_I 0) rfl rfl rfl ?_
  refine ax_store (q := 274) (L' := [some (am_R 135), some (am_I 0)]) rfl rfl rfl rfl rfl rfl ?_
  obtain ⟨H, hH⟩ : ∃ h, h = (am_up (am_up (am_up (am_up (σ4.1 135) 64 0) 65 0) 77 0) 68 0) := ⟨_, rfl⟩
  rw [← hH]
  obtain ⟨σ5, h5⟩ : ∃ s, s = am_sI σ4 135 H := ⟨_, rfl⟩
  rw [← h5]
  have hf5 : fp_ [] [64, 65, 68, 77] [] σ4 σ5 := by rw [h5]; exact fp_h5 (by rw [hH]; exact fh_up (fh_up (fh_up (fh_up (fun _ _ => rfl) (by decide)) (by decide)) (by decide)) (by decide))
  have zz : ∀ k, σ5.1 135 k = H k := fun k => by rw [h5, sI_at]
  have z64 : σ5.1 135 64 = 0 := by rw [zz, hH]; simp only [am_up_same, am_up_ne, ne_eq, Nat.reduceEqDiff, not_false_eq_true]
  have z65 : σ5.1 135 65 = 0 := by rw [zz, hH]; simp only [am_up_same, am_up_ne, ne_eq, Nat.reduceEqDiff, not_false_eq_true]
  have z68 : σ5.1 135 68 = 0 := by rw [zz, hH]; simp only [am_up_same, am_up_ne, ne_eq, Nat.reduceEqDiff, not_false_eq_true]
  have z77 : σ5.1 135 77 = 0 := by rw [zz, hH]; simp only [am_up_same, am_up_ne, ne_eq, Nat.reduceEqDiff, not_false_eq_true]
  have hR5 : RS_ D σ5 := RS_.fr (RS_.fr hR3 hf4 (by decide) (by decide)) hf5 (by decide) (by decide)
  refine l_tw4 hR5 (fun σ6 hf6 a176 => ?_) 3 0 σ5 (by omega) (fp_rf _ _ _ _) (cp_0 _ _).symm
  refine ax_load (q := 293) rfl rfl rfl rfl rfl ?_
  refine ax_getf (q := 296) (v := am_I (D 135 46)) rfl rfl (am_fg rfl ((hf6.2.1 53 (by decide)).trans (((hf5.2.1 53 (by decide)).trans ((hf4.2.1 53 (by decide)).trans (hf03.2.1 53 (by simp)))).trans h53))) ?_
  refine ax_ret (r := some (am_I (D 135 46))) rfl rfl ?_
  have q5 : fp_ [162, 163, 176] [56, 64, 65, 68, 77] [] σ3 σ6 := fp_tr (fp_tr (fp_tr (fp_rf _ _ _ _) hf4 (by decide) (by decide) (by decide)) hf5 (by decide) (by decide) (by decide)) hf6 (by decide) (by decide) (by decide)
  refine hQ T N σ6 (cp_ (fun _ => 0) (σ3.1 163) 50) (σ3.1 162) s hTD hNT ?_ (fp_tr (fp_tr (fp_rf _ _ _ _) hf03 (by decide) (by decide) (by decide)) q5 (by decide) (by decide) (by decide)) (fun j hj => cp_at hj) hs (((hf6.1 163 (by decide) (by decide)).trans (hf5.1 163 (by decide) (by decide))).trans a163) (((hf6.2.1 56 (by decide)).trans (hf5.2.1 56 (by decide))).trans a56) ((hf6.2.1 64 (by decide)).trans z64) ((hf6.2.1 65 (by decide)).trans z65) ((hf6.2.1 68 (by decide)).trans z68) ((hf6.2.1 77 (by decide)).trans z77) (fun b hb => by rw [a176]; exact cp_at hb)
  have e162 : σ6.1 162 = T 162 := by rw [hf6.1 162 (by decide) (by decide), hf5.1 162 (by decide) (by decide), a162, lyt_pr, hT, am_up_same]
  refine ⟨(q5.1 140 (by decide) (by decide)).trans (ta 140 (by decide)).symm, (q5.1 141 (by decide) (by decide)).trans (ta 141 (by decide)).symm, (q5.1 151 (by decide) (by decide)).trans (ta 151 (by decide)).symm, (q5.1 152 (by decide) (by decide)).trans (ta 152 (by decide)).symm, (q5.1 153 (by decide) (by decide)).trans (ta 153 (by decide)).symm, (q5.1 154 (by decide) (by decide)).trans (ta 154 (by decide)).symm, (q5.1 155 (by decide) (by decide)).trans (ta 155 (by decide)).symm, (q5.1 156 (by decide) (by decide)).trans (ta 156 (by decide)).symm, (q5.1 158 (by decide) (by decide)).trans (ta 158 (by decide)).symm, e162, ((q5.2.1 18 (by decide)).trans (hf03.2.1 18 (by simp))).trans (tf 18).symm, ((q5.2.1 21 (by decide)).trans (hf03.2.1 21 (by simp))).trans (tf 21).symm, ((q5.2.1 50 (by decide)).trans (hf03.2.1 50 (by simp))).trans (tf 50).symm, ((q5.2.1 51 (by decide)).trans (hf03.2.1 51 (by simp))).trans (tf 51).symm, ((q5.2.1 52 (by decide)).trans (hf03.2.1 52 (by simp))).trans (tf 52).symm, ((q5.2.1 53 (by decide)).trans (hf03.2.1 53 (by simp))).trans (tf 53).symm, ((q5.2.1 54 (by decide)).trans (hf03.2.1 54 (by simp))).trans (tf 54).symm, ((q5.2.1 55 (by decide)).trans (hf03.2.1 55 (by simp))).trans (tf 55).symm, ((q5.2.1 60 (by decide)).trans (hf03.2.1 60 (by simp))).trans (tf 60).symm⟩

theorem m_town {d : Nat} (hd : 11 ≤ d) {σ : am_S} {tp : Nat → Int} (h136 : σ.1 136 = tp) {t : Nat} (ht : σ.1 135 1 = (t : Int)) (ht9 : t ≤ 1600) {Q : Option am_V → am_S → Prop} (hQ : ∀ D, D = dz_ σ → (∀ e, rall_ tp t D = Sum.inl e → ∀ σ', fp_ rfA_ (1 :: 5 :: rfF_) [137] σ σ' → σ'.1 135 1 = 0 → FT_ tp t e σ' → Q (some (am_I (-1))) σ') ∧ (∀ D' p', rall_ tp t D = Sum.inr (D', p') → ∀ T nS nO nR nP nU nF σ' g f s, DW_ D' nS nO nR nP nU → TD_ T D' nP nF → (nF : Int) = T 135 18 → TM_ T σ' → fp_ ([140, 141, 151, 152, 153, 154, 155, 156, 158, 162, 163, 176] ++ rfA_) ([18, 21, 50, 51, 52, 53, 54, 55, 56, 60, 64, 65, 68, 77, 1, 5] ++ rfF_) [137] σ σ' → (∀ j, j < 50 → g j = 0) → D' 135 49 = ((s : Nat) : Int) → σ'.1 163 = (lyt_ T D' g f s nP).1 → σ'.1 135 56 = (((lyt_ T D' g f s nP).2.2 : Nat) : Int) → σ'.1 135 64 = 0 → σ'.1 135 65 = 0 → σ'.1 135 68 = 0 → σ'.1 135 77 = 0 → (∀ b, b < 3 → σ'.1 176 b = 0) → σ'.1 135 1 = 0 → σ'.1 135 2 = 0 → σ'.1 135 3 = -1 → Q (some (am_I (D' 135 46))) σ')) : am_Ev d 182 [am_R 135] σ Q := by
  obtain ⟨d, rfl⟩ : ∃ e, d = e + 1 := ⟨d - 1, by omega⟩
  refine ev_in (m := 182) (c := k_X9_town) (L := [some (am_R 135), none]) rfl rfl rfl rfl rfl rfl ?_
  refine ax_load (q := 1) rfl rfl rfl rfl rfl ?_
  refine ax_callv (q := 4) rfl rfl rfl rfl rfl rfl ?_
  refine r_readAll (by omega) h136 ht ht9 (fun D hZ => ⟨fun e he σ1 hf1 h11 h0 hF => ?_, fun D' p' he σ1 hf1 h11 h21 h31 hR1 hV1 => ?_⟩)
  · have hbad := FT_pos hF h0
    refine ax_load (q := 5) rfl rfl rfl rfl rfl ?_
    refine ax_getf (q := 8) (v := am_I (σ1.1 135 2)) rfl rfl (rfl) ?_
    refine ax_if_le (q := 11) (x := 13) rfl rfl (fun h => absurd h (by omega)) (fun h8 => ?_)
    refine ax_const (q := 12) (v := am_I (-1)) rfl rfl rfl ?_
    refine ax_ret (r := some (am_I (-1))) rfl rfl ?_
    exact (hQ D hZ).1 e he _ hf1 h11 hF
  · obtain ⟨nS, nO, nR, nP, nU, hV⟩ := hV1
    refine ax_load (q := 5) rfl rfl rfl rfl rfl ?_
    refine ax_getf (q := 8) (v := am_I 0) rfl rfl (am_fg rfl h21) ?_
    refine ax_if_le (q := 11) (x := 13) rfl rfl (fun h8 => ?_) (fun h => absurd h (by omega))
    refine ax_load (q := 14) rfl rfl rfl rfl rfl ?_
    refine ax_load (q := 15) rfl rfl rfl rfl rfl ?_
    refine ax_getf (q := 18) (v := am_I (D' 135 43)) rfl rfl (am_fg rfl (hR1.2.1 43 (by decide))) ?_
    refine ax_putf (q := 21) rfl rfl (nm50_ (k := 50) (z := D' 135 43) rfl) ?_
    refine ax_load (q := 22) rfl rfl rfl rfl rfl ?_
    refine ax_load (q := 23) rfl rfl rfl rfl rfl ?_
    refine ax_getf (q := 26) (v := am_I (D' 135 44)) rfl rfl (am_fg rfl (by rw [sI_at]; simp only [Nat.reduceMod, am_up_ne, ne_eq, Nat.reduceEqDiff, not_false_eq_true]; exact hR1.2.1 44 (by decide))) ?_
    refine ax_putf (q := 29) rfl rfl (nm5p_ (k := 51) (z := D' 135 44) rfl) ?_
    refine ax_load (q := 30) rfl rfl rfl rfl rfl ?_
    refine ax_load (q := 31) rfl rfl rfl rfl rfl ?_
    refine ax_getf (q := 34) (v := am_I (D' 135 45)) rfl rfl (am_fg rfl (by rw [sI_at]; simp only [Nat.reduceMod, am_up_ne, ne_eq, Nat.reduceEqDiff, not_false_eq_true]; exact hR1.2.1 45 (by decide))) ?_
    refine ax_putf (q := 37) rfl rfl (nm5p_ (k := 52) (z := D' 135 45) rfl) ?_
    refine ax_load (q := 38) rfl rfl rfl rfl rfl ?_
    refine ax_load (q := 39) rfl rfl rfl rfl rfl ?_
    refine ax_getf (q := 42) (v := am_I (D' 135 46)) rfl rfl (am_fg rfl (by rw [sI_at]; simp only [Nat.reduceMod, am_up_ne, ne_eq, Nat.reduceEqDiff, not_false_eq_true]; exact hR1.2.1 46 (by decide))) ?_
    refine ax_putf (q := 45) rfl rfl (nm5p_ (k := 53) (z := D' 135 46) rfl) ?_
    refine ax_load (q := 46) rfl rfl rfl rfl rfl ?_
    refine ax_load (q := 47) rfl rfl rfl rfl rfl ?_
    refine ax_getf (q := 50) (v := am_I (D' 135 47)) rfl rfl (am_fg rfl (by rw [sI_at]; simp only [Nat.reduceMod, am_up_ne, ne_eq, Nat.reduceEqDiff, not_false_eq_true]; exact hR1.2.1 47 (by decide))) ?_
    refine ax_putf (q := 53) rfl rfl (nm5p_ (k := 54) (z := D' 135 47) rfl) ?_
    refine ax_load (q := 54) rfl rfl rfl rfl rfl ?_
    refine ax_load (q := 55) rfl rfl rfl rfl rfl ?_
    refine ax_getf (q := 58) (v := am_I (D' 135 48)) rfl rfl (am_fg rfl (by rw [sI_at]; simp only [Nat.reduceMod, am_up_ne, ne_eq, Nat.reduceEqDiff, not_false_eq_true]; exact hR1.2.1 48 (by decide))) ?_
    refine ax_putf (q := 61) rfl rfl (nm5p_ (k := 55) (z := D' 135 48) rfl) ?_
    refine ax_load (q := 62) rfl rfl rfl rfl rfl ?_
    refine ax_load (q := 63) rfl rfl rfl rfl rfl ?_
    refine ax_getf (q := 66) (v := am_I (D' 135 20)) rfl rfl (am_fg rfl (by rw [sI_at]; simp only [Nat.reduceMod, am_up_ne, ne_eq, Nat.reduceEqDiff, not_false_eq_true]; exact hR1.2.1 20 (by decide))) ?_
    refine ax_putf (q := 69) rfl rfl (nm5p_ (k := 21) (z := D' 135 20) rfl) ?_
    refine ax_load (q := 70) rfl rfl rfl rfl rfl ?_
    refine ax_load (q := 71) rfl rfl rfl rfl rfl ?_
    refine ax_getf (q := 74) (v := am_I (D' 135 57)) rfl rfl (am_fg rfl (by rw [sI_at]; simp only [Nat.reduceMod, am_up_ne, ne_eq, Nat.reduceEqDiff, not_false_eq_true]; exact hR1.2.1 57 (by decide))) ?_
    refine ax_putz (q := 77) rfl rfl (nm5z_ (k := 60) (z := D' 135 57) rfl) ((by rcases hV.tc.2.1 with q | q; exact Or.inl q; exact Or.inr q)) ?_
    refine ax_load (q := 78) rfl rfl rfl rfl rfl ?_
    refine ax_load (q := 79) rfl rfl rfl rfl rfl ?_
    refine ax_getf (q := 82) (v := am_I (D' 135 57)) rfl rfl (am_fg rfl (by rw [sI_at]; simp only [Nat.reduceMod, am_up_ne, ne_eq, Nat.reduceEqDiff, not_false_eq_true]; exact hR1.2.1 57 (by decide))) ?_
    refine ax_if_eq (q := 85) (x := 92) rfl rfl (fun h82 => ?_) (fun h82 => ?_)
    · refine ax_const (q := 93) (v := am_I 0) rfl rfl rfl ?_
      refine ax_putf (q := 96) rfl rfl (nm5p_ (k := 18) (z := 0) rfl) ?_
      obtain ⟨H, hH⟩ : ∃ h, h = (am_up (am_up (am_up (am_up (am_up (am_up (am_up (am_up (am_up (σ1.1 135) 50 (D' 135 43)) 51 (D' 135 44)) 52 (D' 135 45)) 53 (D' 135 46)) 54 (D' 135 47)) 55 (D' 135 48)) 21 (D' 135 20)) 60 (D' 135 57)) 18 0) := ⟨_, rfl⟩
      rw [← hH]
      obtain ⟨σ5, h5⟩ : ∃ s, s = am_sI σ1 135 H := ⟨_, rfl⟩
      rw [← h5]
      have hf5 : fp_ [] [18, 21, 50, 51, 52, 53, 54, 55, 60] [] σ1 σ5 := by rw [h5]; exact fp_h5 (by rw [hH]; exact fh_up (fh_up (fh_up (fh_up (fh_up (fh_up (fh_up (fh_up (fh_up (fun _ _ => rfl) (by decide)) (by decide)) (by decide)) (by decide)) (by decide)) (by decide)) (by decide)) (by decide)) (by decide))
      have zz : ∀ k, σ5.1 135 k = H k := fun k => by rw [h5, sI_at]
      have z50 : σ5.1 135 50 = D' 135 43 := by rw [zz, hH]; simp only [am_up_same, am_up_ne, ne_eq, Nat.reduceEqDiff, not_false_eq_true]
      have z51 : σ5.1 135 51 = D' 135 44 := by rw [zz, hH]; simp only [am_up_same, am_up_ne, ne_eq, Nat.reduceEqDiff, not_false_eq_true]
      have z52 : σ5.1 135 52 = D' 135 45 := by rw [zz, hH]; simp only [am_up_same, am_up_ne, ne_eq, Nat.reduceEqDiff, not_false_eq_true]
      have z53 : σ5.1 135 53 = D' 135 46 := by rw [zz, hH]; simp only [am_up_same, am_up_ne, ne_eq, Nat.reduceEqDiff, not_false_eq_true]
      have z54 : σ5.1 135 54 = D' 135 47 := by rw [zz, hH]; simp only [am_up_same, am_up_ne, ne_eq, Nat.reduceEqDiff, not_false_eq_true]
      have z55 : σ5.1 135 55 = D' 135 48 := by rw [zz, hH]; simp only [am_up_same, am_up_ne, ne_eq, Nat.reduceEqDiff, not_false_eq_true]
      have z21 : σ5.1 135 21 = D' 135 20 := by rw [zz, hH]; simp only [am_up_same, am_up_ne, ne_eq, Nat.reduceEqDiff, not_false_eq_true]
      have z60 : σ5.1 135 60 = D' 135 57 := by rw [zz, hH]; simp only [am_up_same, am_up_ne, ne_eq, Nat.reduceEqDiff, not_false_eq_true]
      have z18 : σ5.1 135 18 = (if D' 135 57 = 0 then 0 else D' 135 17) := by rw [if_pos h82, zz, hH]; simp only [am_up_same]
      refine l_townB (by omega) hV (RS_.fr hR1 hf5 (by decide) (by decide)) z50 z51 z52 z53 z54 z55 z21 z60 z18 (fun T nF σ' g f s b1 b2 b3 b4 b5 b6 b7 b8 b9 b10 b11 b12 b13 => ?_)
      exact (hQ D hZ).2 D' p' he T nS nO nR nP nU nF σ' g f s hV b1 b2 b3 (fp_tr (fp_tr (fp_tr (fp_rf _ _ _ _) hf1 (by decide) (by decide) (by decide)) hf5 (by decide) (by decide) (by decide)) b4 (by decide) (by decide) (by decide)) b5 b6 b7 b8 b9 b10 b11 b12 b13 ((b4.2.1 1 (by decide)).trans ((hf5.2.1 1 (by decide)).trans h11)) ((b4.2.1 2 (by decide)).trans ((hf5.2.1 2 (by decide)).trans h21)) ((b4.2.1 3 (by decide)).trans ((hf5.2.1 3 (by decide)).trans h31))
    · refine ax_load (q := 86) rfl rfl rfl rfl rfl ?_
      refine ax_getf (q := 89) (v := am_I (D' 135 17)) rfl rfl (am_fg rfl (by rw [sI_at]; simp only [Nat.reduceMod, am_up_ne, ne_eq, Nat.reduceEqDiff, not_false_eq_true]; exact hR1.2.1 17 (by decide))) ?_
      refine ax_goto (x := 93) rfl ?_
      refine ax_putf (q := 96) rfl rfl (nm5p_ (k := 18) (z := D' 135 17) rfl) ?_
      obtain ⟨H, hH⟩ : ∃ h, h = (am_up (am_up (am_up (am_up (am_up (am_up (am_up (am_up (am_up (σ1.1 135) 50 (D' 135 43)) 51 (D' 135 44)) 52 (D' 135 45)) 53 (D' 135 46)) 54 (D' 135 47)) 55 (D' 135 48)) 21 (D' 135 20)) 60 (D' 135 57)) 18 (D' 135 17)) := ⟨_, rfl⟩
      rw [← hH]
      obtain ⟨σ5, h5⟩ : ∃ s, s = am_sI σ1 135 H := ⟨_, rfl⟩
      rw [← h5]
      have hf5 : fp_ [] [18, 21, 50, 51, 52, 53, 54, 55, 60] [] σ1 σ5 := by rw [h5]; exact fp_h5 (by rw [hH]; exact fh_up (fh_up (fh_up (fh_up (fh_up (fh_up (fh_up (fh_up (fh_up (fun _ _ => rfl) (by decide)) (by decide)) (by decide)) (by decide)) (by decide)) (by decide)) (by decide)) (by decide)) (by decide))
      have zz : ∀ k, σ5.1 135 k = H k := fun k => by rw [h5, sI_at]
      have z50 : σ5.1 135 50 = D' 135 43 := by rw [zz, hH]; simp only [am_up_same, am_up_ne, ne_eq, Nat.reduceEqDiff, not_false_eq_true]
      have z51 : σ5.1 135 51 = D' 135 44 := by rw [zz, hH]; simp only [am_up_same, am_up_ne, ne_eq, Nat.reduceEqDiff, not_false_eq_true]
      have z52 : σ5.1 135 52 = D' 135 45 := by rw [zz, hH]; simp only [am_up_same, am_up_ne, ne_eq, Nat.reduceEqDiff, not_false_eq_true]
      have z53 : σ5.1 135 53 = D' 135 46 := by rw [zz, hH]; simp only [am_up_same, am_up_ne, ne_eq, Nat.reduceEqDiff, not_false_eq_true]
      have z54 : σ5.1 135 54 = D' 135 47 := by rw [zz, hH]; simp only [am_up_same, am_up_ne, ne_eq, Nat.reduceEqDiff, not_false_eq_true]
      have z55 : σ5.1 135 55 = D' 135 48 := by rw [zz, hH]; simp only [am_up_same, am_up_ne, ne_eq, Nat.reduceEqDiff, not_false_eq_true]
      have z21 : σ5.1 135 21 = D' 135 20 := by rw [zz, hH]; simp only [am_up_same, am_up_ne, ne_eq, Nat.reduceEqDiff, not_false_eq_true]
      have z60 : σ5.1 135 60 = D' 135 57 := by rw [zz, hH]; simp only [am_up_same, am_up_ne, ne_eq, Nat.reduceEqDiff, not_false_eq_true]
      have z18 : σ5.1 135 18 = (if D' 135 57 = 0 then 0 else D' 135 17) := by rw [if_neg h82, zz, hH]; simp only [am_up_same]
      refine l_townB (by omega) hV (RS_.fr hR1 hf5 (by decide) (by decide)) z50 z51 z52 z53 z54 z55 z21 z60 z18 (fun T nF σ' g f s b1 b2 b3 b4 b5 b6 b7 b8 b9 b10 b11 b12 b13 => ?_)
      exact (hQ D hZ).2 D' p' he T nS nO nR nP nU nF σ' g f s hV b1 b2 b3 (fp_tr (fp_tr (fp_tr (fp_rf _ _ _ _) hf1 (by decide) (by decide) (by decide)) hf5 (by decide) (by decide) (by decide)) b4 (by decide) (by decide) (by decide)) b5 b6 b7 b8 b9 b10 b11 b12 b13 ((b4.2.1 1 (by decide)).trans ((hf5.2.1 1 (by decide)).trans h11)) ((b4.2.1 2 (by decide)).trans ((hf5.2.1 2 (by decide)).trans h21)) ((b4.2.1 3 (by decide)).trans ((hf5.2.1 3 (by decide)).trans h31))

