set_option maxRecDepth 65536 in
theorem lc_feed {d : Nat} (hd : 80 ≤ d) {b : Int} (hb0 : b ≤ 60000) (hb1 : 100 ≤ b) {σ : am_S} (hC : CP_ b σ) {i n : Nat} (hn : σ.2.2.2.2 = n) (hi : i + 6 ≤ n) (hn9 : n ≤ 3072) (hscr : ∀ j, j < n → -2147483648 ≤ σ.2.2.2.1 j ∧ σ.2.2.2.1 j ≤ 2147483647) {Q : Option am_V → am_S → Prop} (hQ : ∀ σ', CP_ (b + 1) σ' → σ'.2.2.2 = σ.2.2.2 → aW d 1 k_L_law Q 1287 [some (am_R 900), some (am_R 0), some (am_R 135), some (am_I ((i : Nat) : Int))] [] σ') : aW d 1 k_L_law Q 204 [some (am_R 900), some (am_R 0), some (am_R 135), some (am_I ((i : Nat) : Int))] [] σ := by
  refine ax_load (q := 205) rfl rfl rfl rfl rfl ?_
  refine ax_load (q := 206) rfl rfl rfl rfl rfl ?_
  refine ax_load (q := 207) rfl rfl rfl rfl rfl ?_
  refine ax_const (q := 208) (v := am_I 1) rfl rfl rfl ?_
  refine ax_iadd (q := 209) (z := ((i + 1 : Nat) : Int)) rfl rfl (am_we (by omega) (by omega) (by omega)) ?_
  refine bx_sld (q := 210) (k := i + 1) (z := σ.2.2.2.1 (i + 1)) rfl rfl (by omega) (by omega) (rfl) ?_
  refine ax_load (q := 211) rfl rfl rfl rfl rfl ?_
  refine ax_load (q := 212) rfl rfl rfl rfl rfl ?_
  refine ax_const (q := 213) (v := am_I 2) rfl rfl rfl ?_
  refine ax_iadd (q := 214) (z := ((i + 2 : Nat) : Int)) rfl rfl (am_we (by omega) (by omega) (by omega)) ?_
  refine bx_sld (q := 215) (k := i + 2) (z := σ.2.2.2.1 (i + 2)) rfl rfl (by omega) (by omega) (rfl) ?_
  refine ax_load (q := 216) rfl rfl rfl rfl rfl ?_
  refine ax_load (q := 217) rfl rfl rfl rfl rfl ?_
  refine ax_const (q := 218) (v := am_I 3) rfl rfl rfl ?_
  refine ax_iadd (q := 219) (z := ((i + 3 : Nat) : Int)) rfl rfl (am_we (by omega) (by omega) (by omega)) ?_
  refine bx_sld (q := 220) (k := i + 3) (z := σ.2.2.2.1 (i + 3)) rfl rfl (by omega) (by omega) (rfl) ?_
  refine ax_load (q := 221) rfl rfl rfl rfl rfl ?_
  refine ax_load (q := 222) rfl rfl rfl rfl rfl ?_
  refine ax_const (q := 223) (v := am_I 4) rfl rfl rfl ?_
  refine ax_iadd (q := 224) (z := ((i + 4 : Nat) : Int)) rfl rfl (am_we (by omega) (by omega) (by omega)) ?_
  refine bx_sld (q := 225) (k := i + 4) (z := σ.2.2.2.1 (i + 4)) rfl rfl (by omega) (by omega) (rfl) ?_
  refine ax_load (q := 226) rfl rfl rfl rfl rfl ?_
  refine ax_load (q := 227) rfl rfl rfl rfl rfl ?_
  refine ax_const (q := 228) (v := am_I 5) rfl rfl rfl ?_
  refine ax_iadd (q := 229) (z := ((i + 5 : Nat) : Int)) rfl rfl (am_we (by omega) (by omega) (by omega)) ?_
  refine bx_sld (q := 230) (k := i + 5) (z := σ.2.2.2.1 (i + 5)) rfl rfl (by omega) (by omega) (rfl) ?_
  refine ax_callv (q := 233) rfl rfl rfl rfl rfl rfl ?_
  refine am_Ev_mono _ _ _ _ _ _ (fun r σ1 h => ?_) (cc_feed (by omega) hb0 hC)
  obtain ⟨z, rfl, hs1, hM⟩ := h
  have hn1 : σ1.2.2.2.2 = n := by rw [hs1]; exact hn
  refine ax_load (q := 234) rfl rfl rfl rfl rfl ?_
  refine ax_load (q := 235) rfl rfl rfl rfl rfl ?_
  refine ax_load (q := 236) rfl rfl rfl rfl rfl ?_
  refine ax_const (q := 237) (v := am_I 1) rfl rfl rfl ?_
  refine ax_iadd (q := 238) (z := ((i + 1 : Nat) : Int)) rfl rfl (am_we (by omega) (by omega) (by omega)) ?_
  refine bx_sld (q := 239) (k := i + 1) (z := σ.2.2.2.1 (i + 1)) rfl rfl (by omega) (by omega) (by rw [hs1]) ?_
  refine ax_load (q := 240) rfl rfl rfl rfl rfl ?_
  refine ax_load (q := 241) rfl rfl rfl rfl rfl ?_
  refine ax_const (q := 242) (v := am_I 2) rfl rfl rfl ?_
  refine ax_iadd (q := 243) (z := ((i + 2 : Nat) : Int)) rfl rfl (am_we (by omega) (by omega) (by omega)) ?_
  refine bx_sld (q := 244) (k := i + 2) (z := σ.2.2.2.1 (i + 2)) rfl rfl (by omega) (by omega) (by rw [hs1]) ?_
  refine ax_load (q := 245) rfl rfl rfl rfl rfl ?_
  refine ax_load (q := 246) rfl rfl rfl rfl rfl ?_
  refine ax_const (q := 247) (v := am_I 3) rfl rfl rfl ?_
  refine ax_iadd (q := 248) (z := ((i + 3 : Nat) : Int)) rfl rfl (am_we (by omega) (by omega) (by omega)) ?_
  refine bx_sld (q := 249) (k := i + 3) (z := σ.2.2.2.1 (i + 3)) rfl rfl (by omega) (by omega) (by rw [hs1]) ?_
  refine ax_load (q := 250) rfl rfl rfl rfl rfl ?_
  refine ax_load (q := 251) rfl rfl rfl rfl rfl ?_
  refine ax_const (q := 252) (v := am_I 4) rfl rfl rfl ?_
  refine ax_iadd (q := 253) (z := ((i + 4 : Nat) : Int)) rfl rfl (am_we (by omega) (by omega) (by omega)) ?_
  refine bx_sld (q := 254) (k := i + 4) (z := σ.2.2.2.1 (i + 4)) rfl rfl (by omega) (by omega) (by rw [hs1]) ?_
  refine ax_load (q := 255) rfl rfl rfl rfl rfl ?_
  refine ax_load (q := 256) rfl rfl rfl rfl rfl ?_
  refine ax_const (q := 257) (v := am_I 5) rfl rfl rfl ?_
  refine ax_iadd (q := 258) (z := ((i + 5 : Nat) : Int)) rfl rfl (am_we (by omega) (by omega) (by omega)) ?_
  refine bx_sld (q := 259) (k := i + 5) (z := σ.2.2.2.1 (i + 5)) rfl rfl (by omega) (by omega) (by rw [hs1]) ?_
  refine ax_callv (q := 262) rfl rfl rfl rfl rfl rfl ?_
  refine am_Ev_mono _ _ _ _ _ _ (fun r2 σ2 h2 => ?_) hM
  obtain ⟨rfl, hC2, hs2⟩ := h2
  refine ax_icmp_eq (q := 265) (x := 1287) rfl rfl (fun h262 => ?_) (fun h => absurd rfl h)
  exact hQ σ2 hC2 (hs2)

set_option maxRecDepth 65536 in
theorem lc_end {d : Nat} (hd : 80 ≤ d) {b : Int} (hb0 : b ≤ 60000) (hb1 : 100 ≤ b) {σ : am_S} (hC : CP_ b σ) {i n : Nat} (hn : σ.2.2.2.2 = n) (hi : i + 6 ≤ n) (hn9 : n ≤ 3072) (hscr : ∀ j, j < n → -2147483648 ≤ σ.2.2.2.1 j ∧ σ.2.2.2.1 j ≤ 2147483647) {Q : Option am_V → am_S → Prop} (hQ : ∀ σ', CP_ (b + 1) σ' → σ'.2.2.2 = σ.2.2.2 → aW d 1 k_L_law Q 1287 [some (am_R 900), some (am_R 0), some (am_R 135), some (am_I ((i : Nat) : Int))] [] σ') : aW d 1 k_L_law Q 267 [some (am_R 900), some (am_R 0), some (am_R 135), some (am_I ((i : Nat) : Int))] [] σ := by
  refine ax_load (q := 268) rfl rfl rfl rfl rfl ?_
  refine ax_load (q := 269) rfl rfl rfl rfl rfl ?_
  refine ax_load (q := 270) rfl rfl rfl rfl rfl ?_
  refine ax_const (q := 271) (v := am_I 1) rfl rfl rfl ?_
  refine ax_iadd (q := 272) (z := ((i + 1 : Nat) : Int)) rfl rfl (am_we (by omega) (by omega) (by omega)) ?_
  refine bx_sld (q := 273) (k := i + 1) (z := σ.2.2.2.1 (i + 1)) rfl rfl (by omega) (by omega) (rfl) ?_
  refine ax_callv (q := 276) rfl rfl rfl rfl rfl rfl ?_
  refine am_Ev_mono _ _ _ _ _ _ (fun r σ1 h => ?_) (cc_end (by omega) hb0 hC)
  obtain ⟨z, rfl, hs1, hM⟩ := h
  have hn1 : σ1.2.2.2.2 = n := by rw [hs1]; exact hn
  refine ax_load (q := 277) rfl rfl rfl rfl rfl ?_
  refine ax_load (q := 278) rfl rfl rfl rfl rfl ?_
  refine ax_load (q := 279) rfl rfl rfl rfl rfl ?_
  refine ax_const (q := 280) (v := am_I 1) rfl rfl rfl ?_
  refine ax_iadd (q := 281) (z := ((i + 1 : Nat) : Int)) rfl rfl (am_we (by omega) (by omega) (by omega)) ?_
  refine bx_sld (q := 282) (k := i + 1) (z := σ.2.2.2.1 (i + 1)) rfl rfl (by omega) (by omega) (by rw [hs1]) ?_
  refine ax_callv (q := 285) rfl rfl rfl rfl rfl rfl ?_
  refine am_Ev_mono _ _ _ _ _ _ (fun r2 σ2 h2 => ?_) hM
  obtain ⟨rfl, hC2, hs2⟩ := h2
  refine ax_icmp_eq (q := 288) (x := 1287) rfl rfl (fun h285 => ?_) (fun h => absurd rfl h)
  exact hQ σ2 hC2 (hs2)

set_option maxRecDepth 65536 in
theorem lc_town {d : Nat} (hd : 80 ≤ d) {b : Int} (hb0 : b ≤ 60000) (hb1 : 100 ≤ b) {σ : am_S} (hC : CP_ b σ) {i n : Nat} (hn : σ.2.2.2.2 = n) (hi : i + 6 ≤ n) (hn9 : n ≤ 3072) (hscr : ∀ j, j < n → -2147483648 ≤ σ.2.2.2.1 j ∧ σ.2.2.2.1 j ≤ 2147483647) {Q : Option am_V → am_S → Prop} (hQ : ∀ σ', CP_ (b + 1) σ' → σ'.2.2.2 = σ.2.2.2 → aW d 1 k_L_law Q 1287 [some (am_R 900), some (am_R 0), some (am_R 135), some (am_I ((i : Nat) : Int))] [] σ') : aW d 1 k_L_law Q 290 [some (am_R 900), some (am_R 0), some (am_R 135), some (am_I ((i : Nat) : Int))] [] σ := by
  refine ax_load (q := 291) rfl rfl rfl rfl rfl ?_
  refine ax_callv (q := 294) rfl rfl rfl rfl rfl rfl ?_
  refine am_Ev_mono _ _ _ _ _ _ (fun r σ1 h => ?_) (cc_town (by omega) hb0 hb1 hC)
  obtain ⟨z, rfl, hs1, hM⟩ := h
  have hn1 : σ1.2.2.2.2 = n := by rw [hs1]; exact hn
  refine ax_load (q := 295) rfl rfl rfl rfl rfl ?_
  refine ax_callv (q := 298) rfl rfl rfl rfl rfl rfl ?_
  refine am_Ev_mono _ _ _ _ _ _ (fun r2 σ2 h2 => ?_) hM
  obtain ⟨rfl, hC2, hs2⟩ := h2
  refine ax_icmp_eq (q := 301) (x := 1287) rfl rfl (fun h298 => ?_) (fun h => absurd rfl h)
  exact hQ σ2 hC2 (hs2)

set_option maxRecDepth 65536 in
theorem lc_fault {d : Nat} (hd : 80 ≤ d) {b : Int} (hb0 : b ≤ 60000) (hb1 : 100 ≤ b) {σ : am_S} (hC : CP_ b σ) {i n : Nat} (hn : σ.2.2.2.2 = n) (hi : i + 6 ≤ n) (hn9 : n ≤ 3072) (hscr : ∀ j, j < n → -2147483648 ≤ σ.2.2.2.1 j ∧ σ.2.2.2.1 j ≤ 2147483647) {Q : Option am_V → am_S → Prop} (hQ : ∀ σ', CP_ (b + 1) σ' → σ'.2.2.2 = σ.2.2.2 → aW d 1 k_L_law Q 1287 [some (am_R 900), some (am_R 0), some (am_R 135), some (am_I ((i : Nat) : Int))] [] σ') : aW d 1 k_L_law Q 303 [some (am_R 900), some (am_R 0), some (am_R 135), some (am_I ((i : Nat) : Int))] [] σ := by
  refine ax_load (q := 304) rfl rfl rfl rfl rfl ?_
  refine ax_load (q := 305) rfl rfl rfl rfl rfl ?_
  refine ax_load (q := 306) rfl rfl rfl rfl rfl ?_
  refine ax_const (q := 307) (v := am_I 1) rfl rfl rfl ?_
  refine ax_iadd (q := 308) (z := ((i + 1 : Nat) : Int)) rfl rfl (am_we (by omega) (by omega) (by omega)) ?_
  refine bx_sld (q := 309) (k := i + 1) (z := σ.2.2.2.1 (i + 1)) rfl rfl (by omega) (by omega) (rfl) ?_
  refine ax_callv (q := 312) rfl rfl rfl rfl rfl rfl ?_
  refine am_Ev_mono _ _ _ _ _ _ (fun r σ1 h => ?_) (cc_fault (by omega) hb0 hC)
  obtain ⟨z, rfl, hs1, hM⟩ := h
  have hn1 : σ1.2.2.2.2 = n := by rw [hs1]; exact hn
  refine ax_load (q := 313) rfl rfl rfl rfl rfl ?_
  refine ax_load (q := 314) rfl rfl rfl rfl rfl ?_
  refine ax_load (q := 315) rfl rfl rfl rfl rfl ?_
  refine ax_const (q := 316) (v := am_I 1) rfl rfl rfl ?_
  refine ax_iadd (q := 317) (z := ((i + 1 : Nat) : Int)) rfl rfl (am_we (by omega) (by omega) (by omega)) ?_
  refine bx_sld (q := 318) (k := i + 1) (z := σ.2.2.2.1 (i + 1)) rfl rfl (by omega) (by omega) (by rw [hs1]) ?_
  refine ax_callv (q := 321) rfl rfl rfl rfl rfl rfl ?_
  refine am_Ev_mono _ _ _ _ _ _ (fun r2 σ2 h2 => ?_) hM
  obtain ⟨rfl, hC2, hs2⟩ := h2
  refine ax_icmp_eq (q := 324) (x := 1287) rfl rfl (fun h321 => ?_) (fun h => absurd rfl h)
  exact hQ σ2 hC2 (hs2)

set_option maxRecDepth 65536 in
theorem lc_person {d : Nat} (hd : 80 ≤ d) {b : Int} (hb0 : b ≤ 60000) (hb1 : 100 ≤ b) {σ : am_S} (hC : CP_ b σ) {i n : Nat} (hn : σ.2.2.2.2 = n) (hi : i + 6 ≤ n) (hn9 : n ≤ 3072) (hscr : ∀ j, j < n → -2147483648 ≤ σ.2.2.2.1 j ∧ σ.2.2.2.1 j ≤ 2147483647) {Q : Option am_V → am_S → Prop} (hQ : ∀ σ', CP_ (b + 1) σ' → σ'.2.2.2 = σ.2.2.2 → aW d 1 k_L_law Q 1287 [some (am_R 900), some (am_R 0), some (am_R 135), some (am_I ((i : Nat) : Int))] [] σ') : aW d 1 k_L_law Q 326 [some (am_R 900), some (am_R 0), some (am_R 135), some (am_I ((i : Nat) : Int))] [] σ := by
  refine ax_load (q := 327) rfl rfl rfl rfl rfl ?_
  refine ax_load (q := 328) rfl rfl rfl rfl rfl ?_
  refine ax_load (q := 329) rfl rfl rfl rfl rfl ?_
  refine ax_const (q := 330) (v := am_I 1) rfl rfl rfl ?_
  refine ax_iadd (q := 331) (z := ((i + 1 : Nat) : Int)) rfl rfl (am_we (by omega) (by omega) (by omega)) ?_
  refine bx_sld (q := 332) (k := i + 1) (z := σ.2.2.2.1 (i + 1)) rfl rfl (by omega) (by omega) (rfl) ?_
  refine ax_load (q := 333) rfl rfl rfl rfl rfl ?_
  refine ax_load (q := 334) rfl rfl rfl rfl rfl ?_
  refine ax_const (q := 335) (v := am_I 2) rfl rfl rfl ?_
  refine ax_iadd (q := 336) (z := ((i + 2 : Nat) : Int)) rfl rfl (am_we (by omega) (by omega) (by omega)) ?_
  refine bx_sld (q := 337) (k := i + 2) (z := σ.2.2.2.1 (i + 2)) rfl rfl (by omega) (by omega) (rfl) ?_
  refine ax_callv (q := 340) rfl rfl rfl rfl rfl rfl ?_
  refine am_Ev_mono _ _ _ _ _ _ (fun r σ1 h => ?_) (cc_person (by omega) hb0 hC)
  obtain ⟨z, rfl, hs1, hM⟩ := h
  have hn1 : σ1.2.2.2.2 = n := by rw [hs1]; exact hn
  refine ax_load (q := 341) rfl rfl rfl rfl rfl ?_
  refine ax_load (q := 342) rfl rfl rfl rfl rfl ?_
  refine ax_load (q := 343) rfl rfl rfl rfl rfl ?_
  refine ax_const (q := 344) (v := am_I 1) rfl rfl rfl ?_
  refine ax_iadd (q := 345) (z := ((i + 1 : Nat) : Int)) rfl rfl (am_we (by omega) (by omega) (by omega)) ?_
  refine bx_sld (q := 346) (k := i + 1) (z := σ.2.2.2.1 (i + 1)) rfl rfl (by omega) (by omega) (by rw [hs1]) ?_
  refine ax_load (q := 347) rfl rfl rfl rfl rfl ?_
  refine ax_load (q := 348) rfl rfl rfl rfl rfl ?_
  refine ax_const (q := 349) (v := am_I 2) rfl rfl rfl ?_
  refine ax_iadd (q := 350) (z := ((i + 2 : Nat) : Int)) rfl rfl (am_we (by omega) (by omega) (by omega)) ?_
  refine bx_sld (q := 351) (k := i + 2) (z := σ.2.2.2.1 (i + 2)) rfl rfl (by omega) (by omega) (by rw [hs1]) ?_
  refine ax_callv (q := 354) rfl rfl rfl rfl rfl rfl ?_
  refine am_Ev_mono _ _ _ _ _ _ (fun r2 σ2 h2 => ?_) hM
  obtain ⟨rfl, hC2, hs2⟩ := h2
  refine ax_icmp_eq (q := 357) (x := 1287) rfl rfl (fun h354 => ?_) (fun h => absurd rfl h)
  exact hQ σ2 hC2 (hs2)

set_option maxRecDepth 65536 in
theorem lc_level {d : Nat} (hd : 80 ≤ d) {b : Int} (hb0 : b ≤ 60000) (hb1 : 100 ≤ b) {σ : am_S} (hC : CP_ b σ) {i n : Nat} (hn : σ.2.2.2.2 = n) (hi : i + 6 ≤ n) (hn9 : n ≤ 3072) (hscr : ∀ j, j < n → -2147483648 ≤ σ.2.2.2.1 j ∧ σ.2.2.2.1 j ≤ 2147483647) {Q : Option am_V → am_S → Prop} (hQ : ∀ σ', CP_ (b + 1) σ' → σ'.2.2.2 = σ.2.2.2 → aW d 1 k_L_law Q 1287 [some (am_R 900), some (am_R 0), some (am_R 135), some (am_I ((i : Nat) : Int))] [] σ') : aW d 1 k_L_law Q 359 [some (am_R 900), some (am_R 0), some (am_R 135), some (am_I ((i : Nat) : Int))] [] σ := by
  refine ax_load (q := 360) rfl rfl rfl rfl rfl ?_
  refine ax_load (q := 361) rfl rfl rfl rfl rfl ?_
  refine ax_load (q := 362) rfl rfl rfl rfl rfl ?_
  refine ax_const (q := 363) (v := am_I 1) rfl rfl rfl ?_
  refine ax_iadd (q := 364) (z := ((i + 1 : Nat) : Int)) rfl rfl (am_we (by omega) (by omega) (by omega)) ?_
  refine bx_sld (q := 365) (k := i + 1) (z := σ.2.2.2.1 (i + 1)) rfl rfl (by omega) (by omega) (rfl) ?_
  refine ax_load (q := 366) rfl rfl rfl rfl rfl ?_
  refine ax_load (q := 367) rfl rfl rfl rfl rfl ?_
  refine ax_const (q := 368) (v := am_I 2) rfl rfl rfl ?_
  refine ax_iadd (q := 369) (z := ((i + 2 : Nat) : Int)) rfl rfl (am_we (by omega) (by omega) (by omega)) ?_
  refine bx_sld (q := 370) (k := i + 2) (z := σ.2.2.2.1 (i + 2)) rfl rfl (by omega) (by omega) (rfl) ?_
  refine ax_callv (q := 373) rfl rfl rfl rfl rfl rfl ?_
  refine am_Ev_mono _ _ _ _ _ _ (fun r σ1 h => ?_) (cc_level (by omega) hb0 hC)
  obtain ⟨z, rfl, hs1, hM⟩ := h
  have hn1 : σ1.2.2.2.2 = n := by rw [hs1]; exact hn
  refine ax_load (q := 374) rfl rfl rfl rfl rfl ?_
  refine ax_load (q := 375) rfl rfl rfl rfl rfl ?_
  refine ax_load (q := 376) rfl rfl rfl rfl rfl ?_
  refine ax_const (q := 377) (v := am_I 1) rfl rfl rfl ?_
  refine ax_iadd (q := 378) (z := ((i + 1 : Nat) : Int)) rfl rfl (am_we (by omega) (by omega) (by omega)) ?_
  refine bx_sld (q := 379) (k := i + 1) (z := σ.2.2.2.1 (i + 1)) rfl rfl (by omega) (by omega) (by rw [hs1]) ?_
  refine ax_load (q := 380) rfl rfl rfl rfl rfl ?_
  refine ax_load (q := 381) rfl rfl rfl rfl rfl ?_
  refine ax_const (q := 382) (v := am_I 2) rfl rfl rfl ?_
  refine ax_iadd (q := 383) (z := ((i + 2 : Nat) : Int)) rfl rfl (am_we (by omega) (by omega) (by omega)) ?_
  refine bx_sld (q := 384) (k := i + 2) (z := σ.2.2.2.1 (i + 2)) rfl rfl (by omega) (by omega) (by rw [hs1]) ?_
  refine ax_callv (q := 387) rfl rfl rfl rfl rfl rfl ?_
  refine am_Ev_mono _ _ _ _ _ _ (fun r2 σ2 h2 => ?_) hM
  obtain ⟨rfl, hC2, hs2⟩ := h2
  refine ax_icmp_eq (q := 390) (x := 1287) rfl rfl (fun h387 => ?_) (fun h => absurd rfl h)
  exact hQ σ2 hC2 (hs2)

set_option maxRecDepth 65536 in
theorem lc_order {d : Nat} (hd : 80 ≤ d) {b : Int} (hb0 : b ≤ 60000) (hb1 : 100 ≤ b) {σ : am_S} (hC : CP_ b σ) {i n : Nat} (hn : σ.2.2.2.2 = n) (hi : i + 6 ≤ n) (hn9 : n ≤ 3072) (hscr : ∀ j, j < n → -2147483648 ≤ σ.2.2.2.1 j ∧ σ.2.2.2.1 j ≤ 2147483647) {Q : Option am_V → am_S → Prop} (hQ : ∀ σ', CP_ (b + 1) σ' → σ'.2.2.2 = σ.2.2.2 → aW d 1 k_L_law Q 1287 [some (am_R 900), some (am_R 0), some (am_R 135), some (am_I ((i : Nat) : Int))] [] σ') : aW d 1 k_L_law Q 392 [some (am_R 900), some (am_R 0), some (am_R 135), some (am_I ((i : Nat) : Int))] [] σ := by
  refine ax_load (q := 393) rfl rfl rfl rfl rfl ?_
  refine ax_load (q := 394) rfl rfl rfl rfl rfl ?_
  refine ax_load (q := 395) rfl rfl rfl rfl rfl ?_
  refine ax_const (q := 396) (v := am_I 1) rfl rfl rfl ?_
  refine ax_iadd (q := 397) (z := ((i + 1 : Nat) : Int)) rfl rfl (am_we (by omega) (by omega) (by omega)) ?_
  refine bx_sld (q := 398) (k := i + 1) (z := σ.2.2.2.1 (i + 1)) rfl rfl (by omega) (by omega) (rfl) ?_
  refine ax_load (q := 399) rfl rfl rfl rfl rfl ?_
  refine ax_load (q := 400) rfl rfl rfl rfl rfl ?_
  refine ax_const (q := 401) (v := am_I 2) rfl rfl rfl ?_
  refine ax_iadd (q := 402) (z := ((i + 2 : Nat) : Int)) rfl rfl (am_we (by omega) (by omega) (by omega)) ?_
  refine bx_sld (q := 403) (k := i + 2) (z := σ.2.2.2.1 (i + 2)) rfl rfl (by omega) (by omega) (rfl) ?_
  refine ax_callv (q := 406) rfl rfl rfl rfl rfl rfl ?_
  refine am_Ev_mono _ _ _ _ _ _ (fun r σ1 h => ?_) (cc_order (by omega) hb0 hC)
  obtain ⟨z, rfl, hs1, hM⟩ := h
  have hn1 : σ1.2.2.2.2 = n := by rw [hs1]; exact hn
  refine ax_load (q := 407) rfl rfl rfl rfl rfl ?_
  refine ax_load (q := 408) rfl rfl rfl rfl rfl ?_
  refine ax_load (q := 409) rfl rfl rfl rfl rfl ?_
  refine ax_const (q := 410) (v := am_I 1) rfl rfl rfl ?_
  refine ax_iadd (q := 411) (z := ((i + 1 : Nat) : Int)) rfl rfl (am_we (by omega) (by omega) (by omega)) ?_
  refine bx_sld (q := 412) (k := i + 1) (z := σ.2.2.2.1 (i + 1)) rfl rfl (by omega) (by omega) (by rw [hs1]) ?_
  refine ax_load (q := 413) rfl rfl rfl rfl rfl ?_
  refine ax_load (q := 414) rfl rfl rfl rfl rfl ?_
  refine ax_const (q := 415) (v := am_I 2) rfl rfl rfl ?_
  refine ax_iadd (q := 416) (z := ((i + 2 : Nat) : Int)) rfl rfl (am_we (by omega) (by omega) (by omega)) ?_
  refine bx_sld (q := 417) (k := i + 2) (z := σ.2.2.2.1 (i + 2)) rfl rfl (by omega) (by omega) (by rw [hs1]) ?_
  refine ax_callv (q := 420) rfl rfl rfl rfl rfl rfl ?_
  refine am_Ev_mono _ _ _ _ _ _ (fun r2 σ2 h2 => ?_) hM
  obtain ⟨rfl, hC2, hs2⟩ := h2
  refine ax_icmp_eq (q := 423) (x := 1287) rfl rfl (fun h420 => ?_) (fun h => absurd rfl h)
  exact hQ σ2 hC2 (hs2)

set_option maxRecDepth 65536 in
theorem lc_share {d : Nat} (hd : 80 ≤ d) {b : Int} (hb0 : b ≤ 60000) (hb1 : 100 ≤ b) {σ : am_S} (hC : CP_ b σ) {i n : Nat} (hn : σ.2.2.2.2 = n) (hi : i + 6 ≤ n) (hn9 : n ≤ 3072) (hscr : ∀ j, j < n → -2147483648 ≤ σ.2.2.2.1 j ∧ σ.2.2.2.1 j ≤ 2147483647) {Q : Option am_V → am_S → Prop} (hQ : ∀ σ', CP_ (b + 1) σ' → σ'.2.2.2 = σ.2.2.2 → aW d 1 k_L_law Q 1287 [some (am_R 900), some (am_R 0), some (am_R 135), some (am_I ((i : Nat) : Int))] [] σ') : aW d 1 k_L_law Q 425 [some (am_R 900), some (am_R 0), some (am_R 135), some (am_I ((i : Nat) : Int))] [] σ := by
  refine ax_load (q := 426) rfl rfl rfl rfl rfl ?_
  refine ax_load (q := 427) rfl rfl rfl rfl rfl ?_
  refine ax_load (q := 428) rfl rfl rfl rfl rfl ?_
  refine ax_const (q := 429) (v := am_I 1) rfl rfl rfl ?_
  refine ax_iadd (q := 430) (z := ((i + 1 : Nat) : Int)) rfl rfl (am_we (by omega) (by omega) (by omega)) ?_
  refine bx_sld (q := 431) (k := i + 1) (z := σ.2.2.2.1 (i + 1)) rfl rfl (by omega) (by omega) (rfl) ?_
  refine ax_load (q := 432) rfl rfl rfl rfl rfl ?_
  refine ax_load (q := 433) rfl rfl rfl rfl rfl ?_
  refine ax_const (q := 434) (v := am_I 2) rfl rfl rfl ?_
  refine ax_iadd (q := 435) (z := ((i + 2 : Nat) : Int)) rfl rfl (am_we (by omega) (by omega) (by omega)) ?_
  refine bx_sld (q := 436) (k := i + 2) (z := σ.2.2.2.1 (i + 2)) rfl rfl (by omega) (by omega) (rfl) ?_
  refine ax_callv (q := 439) rfl rfl rfl rfl rfl rfl ?_
  refine am_Ev_mono _ _ _ _ _ _ (fun r σ1 h => ?_) (cc_share (by omega) hb0 hC)
  obtain ⟨z, rfl, hs1, hM⟩ := h
  have hn1 : σ1.2.2.2.2 = n := by rw [hs1]; exact hn
  refine ax_load (q := 440) rfl rfl rfl rfl rfl ?_
  refine ax_load (q := 441) rfl rfl rfl rfl rfl ?_
  refine ax_load (q := 442) rfl rfl rfl rfl rfl ?_
  refine ax_const (q := 443) (v := am_I 1) rfl rfl rfl ?_
  refine ax_iadd (q := 444) (z := ((i + 1 : Nat) : Int)) rfl rfl (am_we (by omega) (by omega) (by omega)) ?_
  refine bx_sld (q := 445) (k := i + 1) (z := σ.2.2.2.1 (i + 1)) rfl rfl (by omega) (by omega) (by rw [hs1]) ?_
  refine ax_load (q := 446) rfl rfl rfl rfl rfl ?_
  refine ax_load (q := 447) rfl rfl rfl rfl rfl ?_
  refine ax_const (q := 448) (v := am_I 2) rfl rfl rfl ?_
  refine ax_iadd (q := 449) (z := ((i + 2 : Nat) : Int)) rfl rfl (am_we (by omega) (by omega) (by omega)) ?_
  refine bx_sld (q := 450) (k := i + 2) (z := σ.2.2.2.1 (i + 2)) rfl rfl (by omega) (by omega) (by rw [hs1]) ?_
  refine ax_callv (q := 453) rfl rfl rfl rfl rfl rfl ?_
  refine am_Ev_mono _ _ _ _ _ _ (fun r2 σ2 h2 => ?_) hM
  obtain ⟨rfl, hC2, hs2⟩ := h2
  refine ax_icmp_eq (q := 456) (x := 1287) rfl rfl (fun h453 => ?_) (fun h => absurd rfl h)
  exact hQ σ2 hC2 (hs2)

set_option maxRecDepth 65536 in
theorem lc_many {d : Nat} (hd : 80 ≤ d) {b : Int} (hb0 : b ≤ 60000) (hb1 : 100 ≤ b) {σ : am_S} (hC : CP_ b σ) {i n : Nat} (hn : σ.2.2.2.2 = n) (hi : i + 6 ≤ n) (hn9 : n ≤ 3072) (hscr : ∀ j, j < n → -2147483648 ≤ σ.2.2.2.1 j ∧ σ.2.2.2.1 j ≤ 2147483647) {Q : Option am_V → am_S → Prop} (hQ : ∀ σ', CP_ (b + 1) σ' → σ'.2.2.2 = σ.2.2.2 → aW d 1 k_L_law Q 1287 [some (am_R 900), some (am_R 0), some (am_R 135), some (am_I ((i : Nat) : Int))] [] σ') : aW d 1 k_L_law Q 458 [some (am_R 900), some (am_R 0), some (am_R 135), some (am_I ((i : Nat) : Int))] [] σ := by
  refine ax_load (q := 459) rfl rfl rfl rfl rfl ?_
  refine ax_load (q := 460) rfl rfl rfl rfl rfl ?_
  refine ax_load (q := 461) rfl rfl rfl rfl rfl ?_
  refine ax_const (q := 462) (v := am_I 1) rfl rfl rfl ?_
  refine ax_iadd (q := 463) (z := ((i + 1 : Nat) : Int)) rfl rfl (am_we (by omega) (by omega) (by omega)) ?_
  refine bx_sld (q := 464) (k := i + 1) (z := σ.2.2.2.1 (i + 1)) rfl rfl (by omega) (by omega) (rfl) ?_
  refine ax_callv (q := 467) rfl rfl rfl rfl rfl rfl ?_
  refine am_Ev_mono _ _ _ _ _ _ (fun r σ1 h => ?_) (cc_many (by omega) hb0 hC)
  obtain ⟨z, rfl, hs1, hM⟩ := h
  have hn1 : σ1.2.2.2.2 = n := by rw [hs1]; exact hn
  refine ax_load (q := 468) rfl rfl rfl rfl rfl ?_
  refine ax_load (q := 469) rfl rfl rfl rfl rfl ?_
  refine ax_load (q := 470) rfl rfl rfl rfl rfl ?_
  refine ax_const (q := 471) (v := am_I 1) rfl rfl rfl ?_
  refine ax_iadd (q := 472) (z := ((i + 1 : Nat) : Int)) rfl rfl (am_we (by omega) (by omega) (by omega)) ?_
  refine bx_sld (q := 473) (k := i + 1) (z := σ.2.2.2.1 (i + 1)) rfl rfl (by omega) (by omega) (by rw [hs1]) ?_
  refine ax_callv (q := 476) rfl rfl rfl rfl rfl rfl ?_
  refine am_Ev_mono _ _ _ _ _ _ (fun r2 σ2 h2 => ?_) hM
  obtain ⟨rfl, hC2, hs2⟩ := h2
  refine ax_icmp_eq (q := 479) (x := 1287) rfl rfl (fun h476 => ?_) (fun h => absurd rfl h)
  exact hQ σ2 hC2 (hs2)

set_option maxRecDepth 65536 in
theorem lc_done {d : Nat} (hd : 80 ≤ d) {b : Int} (hb0 : b ≤ 60000) (hb1 : 100 ≤ b) {σ : am_S} (hC : CP_ b σ) {i n : Nat} (hn : σ.2.2.2.2 = n) (hi : i + 6 ≤ n) (hn9 : n ≤ 3072) (hscr : ∀ j, j < n → -2147483648 ≤ σ.2.2.2.1 j ∧ σ.2.2.2.1 j ≤ 2147483647) {Q : Option am_V → am_S → Prop} (hQ : ∀ σ', CP_ (b + 1) σ' → σ'.2.2.2 = σ.2.2.2 → aW d 1 k_L_law Q 1287 [some (am_R 900), some (am_R 0), some (am_R 135), some (am_I ((i : Nat) : Int))] [] σ') : aW d 1 k_L_law Q 481 [some (am_R 900), some (am_R 0), some (am_R 135), some (am_I ((i : Nat) : Int))] [] σ := by
  refine ax_load (q := 482) rfl rfl rfl rfl rfl ?_
  refine ax_callv (q := 485) rfl rfl rfl rfl rfl rfl ?_
  refine am_Ev_mono _ _ _ _ _ _ (fun r σ1 h => ?_) (cc_done (by omega) hb0 hC)
  obtain ⟨z, rfl, hs1, hM⟩ := h
  have hn1 : σ1.2.2.2.2 = n := by rw [hs1]; exact hn
  refine ax_load (q := 486) rfl rfl rfl rfl rfl ?_
  refine ax_callv (q := 489) rfl rfl rfl rfl rfl rfl ?_
  refine am_Ev_mono _ _ _ _ _ _ (fun r2 σ2 h2 => ?_) hM
  obtain ⟨rfl, hC2, hs2⟩ := h2
  refine ax_icmp_eq (q := 492) (x := 1287) rfl rfl (fun h489 => ?_) (fun h => absurd rfl h)
  exact hQ σ2 hC2 (hs2)

set_option maxRecDepth 65536 in
theorem lc_prepare {d : Nat} (hd : 80 ≤ d) {b : Int} (hb0 : b ≤ 60000) (hb1 : 100 ≤ b) {σ : am_S} (hC : CP_ b σ) {i n : Nat} (hn : σ.2.2.2.2 = n) (hi : i + 6 ≤ n) (hn9 : n ≤ 3072) (hscr : ∀ j, j < n → -2147483648 ≤ σ.2.2.2.1 j ∧ σ.2.2.2.1 j ≤ 2147483647) {Q : Option am_V → am_S → Prop} (hQ : ∀ σ', CP_ (b + 1) σ' → σ'.2.2.2 = σ.2.2.2 → aW d 1 k_L_law Q 1287 [some (am_R 900), some (am_R 0), some (am_R 135), some (am_I ((i : Nat) : Int))] [] σ') : aW d 1 k_L_law Q 494 [some (am_R 900), some (am_R 0), some (am_R 135), some (am_I ((i : Nat) : Int))] [] σ := by
  refine ax_load (q := 495) rfl rfl rfl rfl rfl ?_
  refine ax_load (q := 496) rfl rfl rfl rfl rfl ?_
  refine ax_load (q := 497) rfl rfl rfl rfl rfl ?_
  refine ax_const (q := 498) (v := am_I 1) rfl rfl rfl ?_
  refine ax_iadd (q := 499) (z := ((i + 1 : Nat) : Int)) rfl rfl (am_we (by omega) (by omega) (by omega)) ?_
  refine bx_sld (q := 500) (k := i + 1) (z := σ.2.2.2.1 (i + 1)) rfl rfl (by omega) (by omega) (rfl) ?_
  refine ax_load (q := 501) rfl rfl rfl rfl rfl ?_
  refine ax_load (q := 502) rfl rfl rfl rfl rfl ?_
  refine ax_const (q := 503) (v := am_I 2) rfl rfl rfl ?_
  refine ax_iadd (q := 504) (z := ((i + 2 : Nat) : Int)) rfl rfl (am_we (by omega) (by omega) (by omega)) ?_
  refine bx_sld (q := 505) (k := i + 2) (z := σ.2.2.2.1 (i + 2)) rfl rfl (by omega) (by omega) (rfl) ?_
  refine ax_callv (q := 508) rfl rfl rfl rfl rfl rfl ?_
  refine am_Ev_mono _ _ _ _ _ _ (fun r σ1 h => ?_) (cc_prepare (by omega) hb0 hC)
  obtain ⟨z, rfl, hs1, hM⟩ := h
  have hn1 : σ1.2.2.2.2 = n := by rw [hs1]; exact hn
  refine ax_load (q := 509) rfl rfl rfl rfl rfl ?_
  refine ax_load (q := 510) rfl rfl rfl rfl rfl ?_
  refine ax_load (q := 511) rfl rfl rfl rfl rfl ?_
  refine ax_const (q := 512) (v := am_I 1) rfl rfl rfl ?_
  refine ax_iadd (q := 513) (z := ((i + 1 : Nat) : Int)) rfl rfl (am_we (by omega) (by omega) (by omega)) ?_
  refine bx_sld (q := 514) (k := i + 1) (z := σ.2.2.2.1 (i + 1)) rfl rfl (by omega) (by omega) (by rw [hs1]) ?_
  refine ax_load (q := 515) rfl rfl rfl rfl rfl ?_
  refine ax_load (q := 516) rfl rfl rfl rfl rfl ?_
  refine ax_const (q := 517) (v := am_I 2) rfl rfl rfl ?_
  refine ax_iadd (q := 518) (z := ((i + 2 : Nat) : Int)) rfl rfl (am_we (by omega) (by omega) (by omega)) ?_
  refine bx_sld (q := 519) (k := i + 2) (z := σ.2.2.2.1 (i + 2)) rfl rfl (by omega) (by omega) (by rw [hs1]) ?_
  refine ax_callv (q := 522) rfl rfl rfl rfl rfl rfl ?_
  refine am_Ev_mono _ _ _ _ _ _ (fun r2 σ2 h2 => ?_) hM
  obtain ⟨rfl, hC2, hs2⟩ := h2
  refine ax_icmp_eq (q := 525) (x := 1287) rfl rfl (fun h522 => ?_) (fun h => absurd rfl h)
  exact hQ σ2 hC2 (hs2)

set_option maxRecDepth 65536 in
theorem lc_steam {d : Nat} (hd : 80 ≤ d) {b : Int} (hb0 : b ≤ 60000) (hb1 : 100 ≤ b) {σ : am_S} (hC : CP_ b σ) {i n : Nat} (hn : σ.2.2.2.2 = n) (hi : i + 6 ≤ n) (hn9 : n ≤ 3072) (hscr : ∀ j, j < n → -2147483648 ≤ σ.2.2.2.1 j ∧ σ.2.2.2.1 j ≤ 2147483647) {Q : Option am_V → am_S → Prop} (hQ : ∀ σ', CP_ (b + 1) σ' → σ'.2.2.2 = σ.2.2.2 → aW d 1 k_L_law Q 1287 [some (am_R 900), some (am_R 0), some (am_R 135), some (am_I ((i : Nat) : Int))] [] σ') : aW d 1 k_L_law Q 527 [some (am_R 900), some (am_R 0), some (am_R 135), some (am_I ((i : Nat) : Int))] [] σ := by
  refine ax_load (q := 528) rfl rfl rfl rfl rfl ?_
  refine ax_load (q := 529) rfl rfl rfl rfl rfl ?_
  refine ax_load (q := 530) rfl rfl rfl rfl rfl ?_
  refine ax_const (q := 531) (v := am_I 1) rfl rfl rfl ?_
  refine ax_iadd (q := 532) (z := ((i + 1 : Nat) : Int)) rfl rfl (am_we (by omega) (by omega) (by omega)) ?_
  refine bx_sld (q := 533) (k := i + 1) (z := σ.2.2.2.1 (i + 1)) rfl rfl (by omega) (by omega) (rfl) ?_
  refine ax_callv (q := 536) rfl rfl rfl rfl rfl rfl ?_
  refine am_Ev_mono _ _ _ _ _ _ (fun r σ1 h => ?_) (cc_steam (by omega) hb0 hC)
  obtain ⟨z, rfl, hs1, hM⟩ := h
  have hn1 : σ1.2.2.2.2 = n := by rw [hs1]; exact hn
  refine ax_load (q := 537) rfl rfl rfl rfl rfl ?_
  refine ax_load (q := 538) rfl rfl rfl rfl rfl ?_
  refine ax_load (q := 539) rfl rfl rfl rfl rfl ?_
  refine ax_const (q := 540) (v := am_I 1) rfl rfl rfl ?_
  refine ax_iadd (q := 541) (z := ((i + 1 : Nat) : Int)) rfl rfl (am_we (by omega) (by omega) (by omega)) ?_
  refine bx_sld (q := 542) (k := i + 1) (z := σ.2.2.2.1 (i + 1)) rfl rfl (by omega) (by omega) (by rw [hs1]) ?_
  refine ax_callv (q := 545) rfl rfl rfl rfl rfl rfl ?_
  refine am_Ev_mono _ _ _ _ _ _ (fun r2 σ2 h2 => ?_) hM
  obtain ⟨rfl, hC2, hs2⟩ := h2
  refine ax_icmp_eq (q := 548) (x := 1287) rfl rfl (fun h545 => ?_) (fun h => absurd rfl h)
  exact hQ σ2 hC2 (hs2)

set_option maxRecDepth 65536 in
theorem lc_swap {d : Nat} (hd : 80 ≤ d) {b : Int} (hb0 : b ≤ 60000) (hb1 : 100 ≤ b) {σ : am_S} (hC : CP_ b σ) {i n : Nat} (hn : σ.2.2.2.2 = n) (hi : i + 6 ≤ n) (hn9 : n ≤ 3072) (hscr : ∀ j, j < n → -2147483648 ≤ σ.2.2.2.1 j ∧ σ.2.2.2.1 j ≤ 2147483647) {Q : Option am_V → am_S → Prop} (hQ : ∀ σ', CP_ (b + 1) σ' → σ'.2.2.2 = σ.2.2.2 → aW d 1 k_L_law Q 1287 [some (am_R 900), some (am_R 0), some (am_R 135), some (am_I ((i : Nat) : Int))] [] σ') : aW d 1 k_L_law Q 550 [some (am_R 900), some (am_R 0), some (am_R 135), some (am_I ((i : Nat) : Int))] [] σ := by
  refine ax_load (q := 551) rfl rfl rfl rfl rfl ?_
  refine ax_load (q := 552) rfl rfl rfl rfl rfl ?_
  refine ax_load (q := 553) rfl rfl rfl rfl rfl ?_
  refine ax_const (q := 554) (v := am_I 1) rfl rfl rfl ?_
  refine ax_iadd (q := 555) (z := ((i + 1 : Nat) : Int)) rfl rfl (am_we (by omega) (by omega) (by omega)) ?_
  refine bx_sld (q := 556) (k := i + 1) (z := σ.2.2.2.1 (i + 1)) rfl rfl (by omega) (by omega) (rfl) ?_
  refine ax_load (q := 557) rfl rfl rfl rfl rfl ?_
  refine ax_load (q := 558) rfl rfl rfl rfl rfl ?_
  refine ax_const (q := 559) (v := am_I 2) rfl rfl rfl ?_
  refine ax_iadd (q := 560) (z := ((i + 2 : Nat) : Int)) rfl rfl (am_we (by omega) (by omega) (by omega)) ?_
  refine bx_sld (q := 561) (k := i + 2) (z := σ.2.2.2.1 (i + 2)) rfl rfl (by omega) (by omega) (rfl) ?_
  refine ax_callv (q := 564) rfl rfl rfl rfl rfl rfl ?_
  refine am_Ev_mono _ _ _ _ _ _ (fun r σ1 h => ?_) (cc_swap (by omega) hb0 hC)
  obtain ⟨z, rfl, hs1, hM⟩ := h
  have hn1 : σ1.2.2.2.2 = n := by rw [hs1]; exact hn
  refine ax_load (q := 565) rfl rfl rfl rfl rfl ?_
  refine ax_load (q := 566) rfl rfl rfl rfl rfl ?_
  refine ax_load (q := 567) rfl rfl rfl rfl rfl ?_
  refine ax_const (q := 568) (v := am_I 1) rfl rfl rfl ?_
  refine ax_iadd (q := 569) (z := ((i + 1 : Nat) : Int)) rfl rfl (am_we (by omega) (by omega) (by omega)) ?_
  refine bx_sld (q := 570) (k := i + 1) (z := σ.2.2.2.1 (i + 1)) rfl rfl (by omega) (by omega) (by rw [hs1]) ?_
  refine ax_load (q := 571) rfl rfl rfl rfl rfl ?_
  refine ax_load (q := 572) rfl rfl rfl rfl rfl ?_
  refine ax_const (q := 573) (v := am_I 2) rfl rfl rfl ?_
  refine ax_iadd (q := 574) (z := ((i + 2 : Nat) : Int)) rfl rfl (am_we (by omega) (by omega) (by omega)) ?_
  refine bx_sld (q := 575) (k := i + 2) (z := σ.2.2.2.1 (i + 2)) rfl rfl (by omega) (by omega) (by rw [hs1]) ?_
  refine ax_callv (q := 578) rfl rfl rfl rfl rfl rfl ?_
  refine am_Ev_mono _ _ _ _ _ _ (fun r2 σ2 h2 => ?_) hM
  obtain ⟨rfl, hC2, hs2⟩ := h2
  refine ax_icmp_eq (q := 581) (x := 1287) rfl rfl (fun h578 => ?_) (fun h => absurd rfl h)
  exact hQ σ2 hC2 (hs2)

set_option maxRecDepth 65536 in
theorem lc_forge {d : Nat} (hd : 80 ≤ d) {b : Int} (hb0 : b ≤ 60000) (hb1 : 100 ≤ b) {σ : am_S} (hC : CP_ b σ) {i n : Nat} (hn : σ.2.2.2.2 = n) (hi : i + 6 ≤ n) (hn9 : n ≤ 3072) (hscr : ∀ j, j < n → -2147483648 ≤ σ.2.2.2.1 j ∧ σ.2.2.2.1 j ≤ 2147483647) {Q : Option am_V → am_S → Prop} (hQ : ∀ σ', CP_ (b + 1) σ' → σ'.2.2.2 = σ.2.2.2 → aW d 1 k_L_law Q 1287 [some (am_R 900), some (am_R 0), some (am_R 135), some (am_I ((i : Nat) : Int))] [] σ') : aW d 1 k_L_law Q 583 [some (am_R 900), some (am_R 0), some (am_R 135), some (am_I ((i : Nat) : Int))] [] σ := by
  refine ax_load (q := 584) rfl rfl rfl rfl rfl ?_
  refine ax_load (q := 585) rfl rfl rfl rfl rfl ?_
  refine ax_load (q := 586) rfl rfl rfl rfl rfl ?_
  refine ax_const (q := 587) (v := am_I 1) rfl rfl rfl ?_
  refine ax_iadd (q := 588) (z := ((i + 1 : Nat) : Int)) rfl rfl (am_we (by omega) (by omega) (by omega)) ?_
  refine bx_sld (q := 589) (k := i + 1) (z := σ.2.2.2.1 (i + 1)) rfl rfl (by omega) (by omega) (rfl) ?_
  refine ax_load (q := 590) rfl rfl rfl rfl rfl ?_
  refine ax_load (q := 591) rfl rfl rfl rfl rfl ?_
  refine ax_const (q := 592) (v := am_I 2) rfl rfl rfl ?_
  refine ax_iadd (q := 593) (z := ((i + 2 : Nat) : Int)) rfl rfl (am_we (by omega) (by omega) (by omega)) ?_
  refine bx_sld (q := 594) (k := i + 2) (z := σ.2.2.2.1 (i + 2)) rfl rfl (by omega) (by omega) (rfl) ?_
  refine ax_callv (q := 597) rfl rfl rfl rfl rfl rfl ?_
  refine am_Ev_mono _ _ _ _ _ _ (fun r σ1 h => ?_) (cc_forge (by omega) hb0 hC)
  obtain ⟨z, rfl, hs1, hM⟩ := h
  have hn1 : σ1.2.2.2.2 = n := by rw [hs1]; exact hn
  refine ax_load (q := 598) rfl rfl rfl rfl rfl ?_
  refine ax_load (q := 599) rfl rfl rfl rfl rfl ?_
  refine ax_load (q := 600) rfl rfl rfl rfl rfl ?_
  refine ax_const (q := 601) (v := am_I 1) rfl rfl rfl ?_
  refine ax_iadd (q := 602) (z := ((i + 1 : Nat) : Int)) rfl rfl (am_we (by omega) (by omega) (by omega)) ?_
  refine bx_sld (q := 603) (k := i + 1) (z := σ.2.2.2.1 (i + 1)) rfl rfl (by omega) (by omega) (by rw [hs1]) ?_
  refine ax_load (q := 604) rfl rfl rfl rfl rfl ?_
  refine ax_load (q := 605) rfl rfl rfl rfl rfl ?_
  refine ax_const (q := 606) (v := am_I 2) rfl rfl rfl ?_
  refine ax_iadd (q := 607) (z := ((i + 2 : Nat) : Int)) rfl rfl (am_we (by omega) (by omega) (by omega)) ?_
  refine bx_sld (q := 608) (k := i + 2) (z := σ.2.2.2.1 (i + 2)) rfl rfl (by omega) (by omega) (by rw [hs1]) ?_
  refine ax_callv (q := 611) rfl rfl rfl rfl rfl rfl ?_
  refine am_Ev_mono _ _ _ _ _ _ (fun r2 σ2 h2 => ?_) hM
  obtain ⟨rfl, hC2, hs2⟩ := h2
  refine ax_icmp_eq (q := 614) (x := 1287) rfl rfl (fun h611 => ?_) (fun h => absurd rfl h)
  exact hQ σ2 hC2 (hs2)

set_option maxRecDepth 65536 in
theorem lc_opens {d : Nat} (hd : 80 ≤ d) {b : Int} (hb0 : b ≤ 60000) (hb1 : 100 ≤ b) {σ : am_S} (hC : CP_ b σ) {i n : Nat} (hn : σ.2.2.2.2 = n) (hi : i + 6 ≤ n) (hn9 : n ≤ 3072) (hscr : ∀ j, j < n → -2147483648 ≤ σ.2.2.2.1 j ∧ σ.2.2.2.1 j ≤ 2147483647) {Q : Option am_V → am_S → Prop} (hQ : ∀ σ', CP_ (b + 1) σ' → σ'.2.2.2 = σ.2.2.2 → aW d 1 k_L_law Q 1287 [some (am_R 900), some (am_R 0), some (am_R 135), some (am_I ((i : Nat) : Int))] [] σ') : aW d 1 k_L_law Q 616 [some (am_R 900), some (am_R 0), some (am_R 135), some (am_I ((i : Nat) : Int))] [] σ := by
  refine ax_load (q := 617) rfl rfl rfl rfl rfl ?_
  refine ax_load (q := 618) rfl rfl rfl rfl rfl ?_
  refine ax_load (q := 619) rfl rfl rfl rfl rfl ?_
  refine ax_const (q := 620) (v := am_I 1) rfl rfl rfl ?_
  refine ax_iadd (q := 621) (z := ((i + 1 : Nat) : Int)) rfl rfl (am_we (by omega) (by omega) (by omega)) ?_
  refine bx_sld (q := 622) (k := i + 1) (z := σ.2.2.2.1 (i + 1)) rfl rfl (by omega) (by omega) (rfl) ?_
  refine ax_callv (q := 625) rfl rfl rfl rfl rfl rfl ?_
  refine am_Ev_mono _ _ _ _ _ _ (fun r σ1 h => ?_) (cc_opens (by omega) hb0 hC)
  obtain ⟨z, rfl, hs1, hM⟩ := h
  have hn1 : σ1.2.2.2.2 = n := by rw [hs1]; exact hn
  refine ax_load (q := 626) rfl rfl rfl rfl rfl ?_
  refine ax_load (q := 627) rfl rfl rfl rfl rfl ?_
  refine ax_load (q := 628) rfl rfl rfl rfl rfl ?_
  refine ax_const (q := 629) (v := am_I 1) rfl rfl rfl ?_
  refine ax_iadd (q := 630) (z := ((i + 1 : Nat) : Int)) rfl rfl (am_we (by omega) (by omega) (by omega)) ?_
  refine bx_sld (q := 631) (k := i + 1) (z := σ.2.2.2.1 (i + 1)) rfl rfl (by omega) (by omega) (by rw [hs1]) ?_
  refine ax_callv (q := 634) rfl rfl rfl rfl rfl rfl ?_
  refine am_Ev_mono _ _ _ _ _ _ (fun r2 σ2 h2 => ?_) hM
  obtain ⟨rfl, hC2, hs2⟩ := h2
  refine ax_icmp_eq (q := 637) (x := 1287) rfl rfl (fun h634 => ?_) (fun h => absurd rfl h)
  exact hQ σ2 hC2 (hs2)

set_option maxRecDepth 65536 in
theorem lc_year {d : Nat} (hd : 80 ≤ d) {b : Int} (hb0 : b ≤ 60000) (hb1 : 100 ≤ b) {σ : am_S} (hC : CP_ b σ) {i n : Nat} (hn : σ.2.2.2.2 = n) (hi : i + 6 ≤ n) (hn9 : n ≤ 3072) (hscr : ∀ j, j < n → -2147483648 ≤ σ.2.2.2.1 j ∧ σ.2.2.2.1 j ≤ 2147483647) {Q : Option am_V → am_S → Prop} (hQ : ∀ σ', CP_ (b + 1) σ' → σ'.2.2.2 = σ.2.2.2 → aW d 1 k_L_law Q 1287 [some (am_R 900), some (am_R 0), some (am_R 135), some (am_I ((i : Nat) : Int))] [] σ') : aW d 1 k_L_law Q 639 [some (am_R 900), some (am_R 0), some (am_R 135), some (am_I ((i : Nat) : Int))] [] σ := by
  refine ax_load (q := 640) rfl rfl rfl rfl rfl ?_
  refine ax_callv (q := 643) rfl rfl rfl rfl rfl rfl ?_
  refine am_Ev_mono _ _ _ _ _ _ (fun r σ1 h => ?_) (cc_year (by omega) hb0 hC)
  obtain ⟨z, rfl, hs1, hM⟩ := h
  have hn1 : σ1.2.2.2.2 = n := by rw [hs1]; exact hn
  refine ax_load (q := 644) rfl rfl rfl rfl rfl ?_
  refine ax_callv (q := 647) rfl rfl rfl rfl rfl rfl ?_
  refine am_Ev_mono _ _ _ _ _ _ (fun r2 σ2 h2 => ?_) hM
  obtain ⟨rfl, hC2, hs2⟩ := h2
  refine ax_icmp_eq (q := 650) (x := 1287) rfl rfl (fun h647 => ?_) (fun h => absurd rfl h)
  exact hQ σ2 hC2 (hs2)

set_option maxRecDepth 65536 in
theorem lc_undo {d : Nat} (hd : 80 ≤ d) {b : Int} (hb0 : b ≤ 60000) (hb1 : 100 ≤ b) {σ : am_S} (hC : CP_ b σ) {i n : Nat} (hn : σ.2.2.2.2 = n) (hi : i + 6 ≤ n) (hn9 : n ≤ 3072) (hscr : ∀ j, j < n → -2147483648 ≤ σ.2.2.2.1 j ∧ σ.2.2.2.1 j ≤ 2147483647) {Q : Option am_V → am_S → Prop} (hQ : ∀ σ', CP_ (b + 1) σ' → σ'.2.2.2 = σ.2.2.2 → aW d 1 k_L_law Q 1287 [some (am_R 900), some (am_R 0), some (am_R 135), some (am_I ((i : Nat) : Int))] [] σ') : aW d 1 k_L_law Q 652 [some (am_R 900), some (am_R 0), some (am_R 135), some (am_I ((i : Nat) : Int))] [] σ := by
  refine ax_load (q := 653) rfl rfl rfl rfl rfl ?_
  refine ax_callv (q := 656) rfl rfl rfl rfl rfl rfl ?_
  refine am_Ev_mono _ _ _ _ _ _ (fun r σ1 h => ?_) (cc_undo (by omega) hb0 hC)
  obtain ⟨z, rfl, hs1, hM⟩ := h
  have hn1 : σ1.2.2.2.2 = n := by rw [hs1]; exact hn
  refine ax_load (q := 657) rfl rfl rfl rfl rfl ?_
  refine ax_callv (q := 660) rfl rfl rfl rfl rfl rfl ?_
  refine am_Ev_mono _ _ _ _ _ _ (fun r2 σ2 h2 => ?_) hM
  obtain ⟨rfl, hC2, hs2⟩ := h2
  refine ax_icmp_eq (q := 663) (x := 1287) rfl rfl (fun h660 => ?_) (fun h => absurd rfl h)
  exact hQ σ2 hC2 (hs2)

set_option maxRecDepth 65536 in
theorem lc_redo {d : Nat} (hd : 80 ≤ d) {b : Int} (hb0 : b ≤ 60000) (hb1 : 100 ≤ b) {σ : am_S} (hC : CP_ b σ) {i n : Nat} (hn : σ.2.2.2.2 = n) (hi : i + 6 ≤ n) (hn9 : n ≤ 3072) (hscr : ∀ j, j < n → -2147483648 ≤ σ.2.2.2.1 j ∧ σ.2.2.2.1 j ≤ 2147483647) {Q : Option am_V → am_S → Prop} (hQ : ∀ σ', CP_ (b + 1) σ' → σ'.2.2.2 = σ.2.2.2 → aW d 1 k_L_law Q 1287 [some (am_R 900), some (am_R 0), some (am_R 135), some (am_I ((i : Nat) : Int))] [] σ') : aW d 1 k_L_law Q 665 [some (am_R 900), some (am_R 0), some (am_R 135), some (am_I ((i : Nat) : Int))] [] σ := by
  refine ax_load (q := 666) rfl rfl rfl rfl rfl ?_
  refine ax_callv (q := 669) rfl rfl rfl rfl rfl rfl ?_
  refine am_Ev_mono _ _ _ _ _ _ (fun r σ1 h => ?_) (cc_redo (by omega) hb0 hC)
  obtain ⟨z, rfl, hs1, hM⟩ := h
  have hn1 : σ1.2.2.2.2 = n := by rw [hs1]; exact hn
  refine ax_load (q := 670) rfl rfl rfl rfl rfl ?_
  refine ax_callv (q := 673) rfl rfl rfl rfl rfl rfl ?_
  refine am_Ev_mono _ _ _ _ _ _ (fun r2 σ2 h2 => ?_) hM
  obtain ⟨rfl, hC2, hs2⟩ := h2
  refine ax_icmp_eq (q := 676) (x := 1287) rfl rfl (fun h673 => ?_) (fun h => absurd rfl h)
  exact hQ σ2 hC2 (hs2)

set_option maxRecDepth 65536 in
theorem lc_odds {d : Nat} (hd : 80 ≤ d) {b : Int} (hb0 : b ≤ 60000) (hb1 : 100 ≤ b) {σ : am_S} (hC : CP_ b σ) {i n : Nat} (hn : σ.2.2.2.2 = n) (hi : i + 6 ≤ n) (hn9 : n ≤ 3072) (hscr : ∀ j, j < n → -2147483648 ≤ σ.2.2.2.1 j ∧ σ.2.2.2.1 j ≤ 2147483647) {Q : Option am_V → am_S → Prop} (hQ : ∀ σ', CP_ (b + 1) σ' → σ'.2.2.2 = σ.2.2.2 → aW d 1 k_L_law Q 1287 [some (am_R 900), some (am_R 0), some (am_R 135), some (am_I ((i : Nat) : Int))] [] σ') : aW d 1 k_L_law Q 678 [some (am_R 900), some (am_R 0), some (am_R 135), some (am_I ((i : Nat) : Int))] [] σ := by
  refine ax_load (q := 679) rfl rfl rfl rfl rfl ?_
  refine ax_load (q := 680) rfl rfl rfl rfl rfl ?_
  refine ax_load (q := 681) rfl rfl rfl rfl rfl ?_
  refine ax_const (q := 682) (v := am_I 1) rfl rfl rfl ?_
  refine ax_iadd (q := 683) (z := ((i + 1 : Nat) : Int)) rfl rfl (am_we (by omega) (by omega) (by omega)) ?_
  refine bx_sld (q := 684) (k := i + 1) (z := σ.2.2.2.1 (i + 1)) rfl rfl (by omega) (by omega) (rfl) ?_
  refine ax_load (q := 685) rfl rfl rfl rfl rfl ?_
  refine ax_load (q := 686) rfl rfl rfl rfl rfl ?_
  refine ax_const (q := 687) (v := am_I 2) rfl rfl rfl ?_
  refine ax_iadd (q := 688) (z := ((i + 2 : Nat) : Int)) rfl rfl (am_we (by omega) (by omega) (by omega)) ?_
  refine bx_sld (q := 689) (k := i + 2) (z := σ.2.2.2.1 (i + 2)) rfl rfl (by omega) (by omega) (rfl) ?_
  refine ax_callv (q := 692) rfl rfl rfl rfl rfl rfl ?_
  refine am_Ev_mono _ _ _ _ _ _ (fun r σ1 h => ?_) (cc_odds (by omega) hb0 hC)
  obtain ⟨z, rfl, hs1, hM⟩ := h
  have hn1 : σ1.2.2.2.2 = n := by rw [hs1]; exact hn
  refine ax_load (q := 693) rfl rfl rfl rfl rfl ?_
  refine ax_load (q := 694) rfl rfl rfl rfl rfl ?_
  refine ax_load (q := 695) rfl rfl rfl rfl rfl ?_
  refine ax_const (q := 696) (v := am_I 1) rfl rfl rfl ?_
  refine ax_iadd (q := 697) (z := ((i + 1 : Nat) : Int)) rfl rfl (am_we (by omega) (by omega) (by omega)) ?_
  refine bx_sld (q := 698) (k := i + 1) (z := σ.2.2.2.1 (i + 1)) rfl rfl (by omega) (by omega) (by rw [hs1]) ?_
  refine ax_load (q := 699) rfl rfl rfl rfl rfl ?_
  refine ax_load (q := 700) rfl rfl rfl rfl rfl ?_
  refine ax_const (q := 701) (v := am_I 2) rfl rfl rfl ?_
  refine ax_iadd (q := 702) (z := ((i + 2 : Nat) : Int)) rfl rfl (am_we (by omega) (by omega) (by omega)) ?_
  refine bx_sld (q := 703) (k := i + 2) (z := σ.2.2.2.1 (i + 2)) rfl rfl (by omega) (by omega) (by rw [hs1]) ?_
  refine ax_callv (q := 706) rfl rfl rfl rfl rfl rfl ?_
  refine am_Ev_mono _ _ _ _ _ _ (fun r2 σ2 h2 => ?_) hM
  obtain ⟨rfl, hC2, hs2⟩ := h2
  refine ax_icmp_eq (q := 709) (x := 1287) rfl rfl (fun h706 => ?_) (fun h => absurd rfl h)
  exact hQ σ2 hC2 (hs2)

set_option maxRecDepth 65536 in
theorem lc_life {d : Nat} (hd : 80 ≤ d) {b : Int} (hb0 : b ≤ 60000) (hb1 : 100 ≤ b) {σ : am_S} (hC : CP_ b σ) {i n : Nat} (hn : σ.2.2.2.2 = n) (hi : i + 6 ≤ n) (hn9 : n ≤ 3072) (hscr : ∀ j, j < n → -2147483648 ≤ σ.2.2.2.1 j ∧ σ.2.2.2.1 j ≤ 2147483647) {Q : Option am_V → am_S → Prop} (hQ : ∀ σ', CP_ (b + 1) σ' → σ'.2.2.2 = σ.2.2.2 → aW d 1 k_L_law Q 1287 [some (am_R 900), some (am_R 0), some (am_R 135), some (am_I ((i : Nat) : Int))] [] σ') : aW d 1 k_L_law Q 711 [some (am_R 900), some (am_R 0), some (am_R 135), some (am_I ((i : Nat) : Int))] [] σ := by
  refine ax_load (q := 712) rfl rfl rfl rfl rfl ?_
  refine ax_load (q := 713) rfl rfl rfl rfl rfl ?_
  refine ax_load (q := 714) rfl rfl rfl rfl rfl ?_
  refine ax_const (q := 715) (v := am_I 1) rfl rfl rfl ?_
  refine ax_iadd (q := 716) (z := ((i + 1 : Nat) : Int)) rfl rfl (am_we (by omega) (by omega) (by omega)) ?_
  refine bx_sld (q := 717) (k := i + 1) (z := σ.2.2.2.1 (i + 1)) rfl rfl (by omega) (by omega) (rfl) ?_
  refine ax_callv (q := 720) rfl rfl rfl rfl rfl rfl ?_
  refine am_Ev_mono _ _ _ _ _ _ (fun r σ1 h => ?_) (cc_life (by omega) hb0 hC)
  obtain ⟨z, rfl, hs1, hM⟩ := h
  have hn1 : σ1.2.2.2.2 = n := by rw [hs1]; exact hn
  refine ax_load (q := 721) rfl rfl rfl rfl rfl ?_
  refine ax_load (q := 722) rfl rfl rfl rfl rfl ?_
  refine ax_load (q := 723) rfl rfl rfl rfl rfl ?_
  refine ax_const (q := 724) (v := am_I 1) rfl rfl rfl ?_
  refine ax_iadd (q := 725) (z := ((i + 1 : Nat) : Int)) rfl rfl (am_we (by omega) (by omega) (by omega)) ?_
  refine bx_sld (q := 726) (k := i + 1) (z := σ.2.2.2.1 (i + 1)) rfl rfl (by omega) (by omega) (by rw [hs1]) ?_
  refine ax_callv (q := 729) rfl rfl rfl rfl rfl rfl ?_
  refine am_Ev_mono _ _ _ _ _ _ (fun r2 σ2 h2 => ?_) hM
  obtain ⟨rfl, hC2, hs2⟩ := h2
  refine ax_icmp_eq (q := 732) (x := 1287) rfl rfl (fun h729 => ?_) (fun h => absurd rfl h)
  exact hQ σ2 hC2 (hs2)

set_option maxRecDepth 65536 in
theorem lc_hope {d : Nat} (hd : 80 ≤ d) {b : Int} (hb0 : b ≤ 60000) (hb1 : 100 ≤ b) {σ : am_S} (hC : CP_ b σ) {i n : Nat} (hn : σ.2.2.2.2 = n) (hi : i + 6 ≤ n) (hn9 : n ≤ 3072) (hscr : ∀ j, j < n → -2147483648 ≤ σ.2.2.2.1 j ∧ σ.2.2.2.1 j ≤ 2147483647) {Q : Option am_V → am_S → Prop} (hQ : ∀ σ', CP_ (b + 1) σ' → σ'.2.2.2 = σ.2.2.2 → aW d 1 k_L_law Q 1287 [some (am_R 900), some (am_R 0), some (am_R 135), some (am_I ((i : Nat) : Int))] [] σ') : aW d 1 k_L_law Q 734 [some (am_R 900), some (am_R 0), some (am_R 135), some (am_I ((i : Nat) : Int))] [] σ := by
  refine ax_load (q := 735) rfl rfl rfl rfl rfl ?_
  refine ax_load (q := 736) rfl rfl rfl rfl rfl ?_
  refine ax_load (q := 737) rfl rfl rfl rfl rfl ?_
  refine ax_const (q := 738) (v := am_I 1) rfl rfl rfl ?_
  refine ax_iadd (q := 739) (z := ((i + 1 : Nat) : Int)) rfl rfl (am_we (by omega) (by omega) (by omega)) ?_
  refine bx_sld (q := 740) (k := i + 1) (z := σ.2.2.2.1 (i + 1)) rfl rfl (by omega) (by omega) (rfl) ?_
  refine ax_load (q := 741) rfl rfl rfl rfl rfl ?_
  refine ax_load (q := 742) rfl rfl rfl rfl rfl ?_
  refine ax_const (q := 743) (v := am_I 2) rfl rfl rfl ?_
  refine ax_iadd (q := 744) (z := ((i + 2 : Nat) : Int)) rfl rfl (am_we (by omega) (by omega) (by omega)) ?_
  refine bx_sld (q := 745) (k := i + 2) (z := σ.2.2.2.1 (i + 2)) rfl rfl (by omega) (by omega) (rfl) ?_
  refine ax_callv (q := 748) rfl rfl rfl rfl rfl rfl ?_
  refine am_Ev_mono _ _ _ _ _ _ (fun r σ1 h => ?_) (cc_hope (by omega) hb0 hC)
  obtain ⟨z, rfl, hs1, hM⟩ := h
  have hn1 : σ1.2.2.2.2 = n := by rw [hs1]; exact hn
  refine ax_load (q := 749) rfl rfl rfl rfl rfl ?_
  refine ax_load (q := 750) rfl rfl rfl rfl rfl ?_
  refine ax_load (q := 751) rfl rfl rfl rfl rfl ?_
  refine ax_const (q := 752) (v := am_I 1) rfl rfl rfl ?_
  refine ax_iadd (q := 753) (z := ((i + 1 : Nat) : Int)) rfl rfl (am_we (by omega) (by omega) (by omega)) ?_
  refine bx_sld (q := 754) (k := i + 1) (z := σ.2.2.2.1 (i + 1)) rfl rfl (by omega) (by omega) (by rw [hs1]) ?_
  refine ax_load (q := 755) rfl rfl rfl rfl rfl ?_
  refine ax_load (q := 756) rfl rfl rfl rfl rfl ?_
  refine ax_const (q := 757) (v := am_I 2) rfl rfl rfl ?_
  refine ax_iadd (q := 758) (z := ((i + 2 : Nat) : Int)) rfl rfl (am_we (by omega) (by omega) (by omega)) ?_
  refine bx_sld (q := 759) (k := i + 2) (z := σ.2.2.2.1 (i + 2)) rfl rfl (by omega) (by omega) (by rw [hs1]) ?_
  refine ax_callv (q := 762) rfl rfl rfl rfl rfl rfl ?_
  refine am_Ev_mono _ _ _ _ _ _ (fun r2 σ2 h2 => ?_) hM
  obtain ⟨rfl, hC2, hs2⟩ := h2
  refine ax_icmp_eq (q := 765) (x := 1287) rfl rfl (fun h762 => ?_) (fun h => absurd rfl h)
  exact hQ σ2 hC2 (hs2)

set_option maxRecDepth 65536 in
theorem lc_able {d : Nat} (hd : 80 ≤ d) {b : Int} (hb0 : b ≤ 60000) (hb1 : 100 ≤ b) {σ : am_S} (hC : CP_ b σ) {i n : Nat} (hn : σ.2.2.2.2 = n) (hi : i + 6 ≤ n) (hn9 : n ≤ 3072) (hscr : ∀ j, j < n → -2147483648 ≤ σ.2.2.2.1 j ∧ σ.2.2.2.1 j ≤ 2147483647) {Q : Option am_V → am_S → Prop} (hQ : ∀ σ', CP_ (b + 1) σ' → σ'.2.2.2 = σ.2.2.2 → aW d 1 k_L_law Q 1287 [some (am_R 900), some (am_R 0), some (am_R 135), some (am_I ((i : Nat) : Int))] [] σ') : aW d 1 k_L_law Q 767 [some (am_R 900), some (am_R 0), some (am_R 135), some (am_I ((i : Nat) : Int))] [] σ := by
  refine ax_load (q := 768) rfl rfl rfl rfl rfl ?_
  refine ax_load (q := 769) rfl rfl rfl rfl rfl ?_
  refine ax_load (q := 770) rfl rfl rfl rfl rfl ?_
  refine ax_const (q := 771) (v := am_I 1) rfl rfl rfl ?_
  refine ax_iadd (q := 772) (z := ((i + 1 : Nat) : Int)) rfl rfl (am_we (by omega) (by omega) (by omega)) ?_
  refine bx_sld (q := 773) (k := i + 1) (z := σ.2.2.2.1 (i + 1)) rfl rfl (by omega) (by omega) (rfl) ?_
  refine ax_callv (q := 776) rfl rfl rfl rfl rfl rfl ?_
  refine am_Ev_mono _ _ _ _ _ _ (fun r σ1 h => ?_) (cc_able (by omega) hb0 hC)
  obtain ⟨z, rfl, hs1, hM⟩ := h
  have hn1 : σ1.2.2.2.2 = n := by rw [hs1]; exact hn
  refine ax_load (q := 777) rfl rfl rfl rfl rfl ?_
  refine ax_load (q := 778) rfl rfl rfl rfl rfl ?_
  refine ax_load (q := 779) rfl rfl rfl rfl rfl ?_
  refine ax_const (q := 780) (v := am_I 1) rfl rfl rfl ?_
  refine ax_iadd (q := 781) (z := ((i + 1 : Nat) : Int)) rfl rfl (am_we (by omega) (by omega) (by omega)) ?_
  refine bx_sld (q := 782) (k := i + 1) (z := σ.2.2.2.1 (i + 1)) rfl rfl (by omega) (by omega) (by rw [hs1]) ?_
  refine ax_callv (q := 785) rfl rfl rfl rfl rfl rfl ?_
  refine am_Ev_mono _ _ _ _ _ _ (fun r2 σ2 h2 => ?_) hM
  obtain ⟨rfl, hC2, hs2⟩ := h2
  refine ax_icmp_eq (q := 788) (x := 1287) rfl rfl (fun h785 => ?_) (fun h => absurd rfl h)
  exact hQ σ2 hC2 (hs2)

set_option maxRecDepth 65536 in
theorem lc_ready {d : Nat} (hd : 80 ≤ d) {b : Int} (hb0 : b ≤ 60000) (hb1 : 100 ≤ b) {σ : am_S} (hC : CP_ b σ) {i n : Nat} (hn : σ.2.2.2.2 = n) (hi : i + 6 ≤ n) (hn9 : n ≤ 3072) (hscr : ∀ j, j < n → -2147483648 ≤ σ.2.2.2.1 j ∧ σ.2.2.2.1 j ≤ 2147483647) {Q : Option am_V → am_S → Prop} (hQ : ∀ σ', CP_ (b + 1) σ' → σ'.2.2.2 = σ.2.2.2 → aW d 1 k_L_law Q 1287 [some (am_R 900), some (am_R 0), some (am_R 135), some (am_I ((i : Nat) : Int))] [] σ') : aW d 1 k_L_law Q 790 [some (am_R 900), some (am_R 0), some (am_R 135), some (am_I ((i : Nat) : Int))] [] σ := by
  refine ax_load (q := 791) rfl rfl rfl rfl rfl ?_
  refine ax_load (q := 792) rfl rfl rfl rfl rfl ?_
  refine ax_load (q := 793) rfl rfl rfl rfl rfl ?_
  refine ax_const (q := 794) (v := am_I 1) rfl rfl rfl ?_
  refine ax_iadd (q := 795) (z := ((i + 1 : Nat) : Int)) rfl rfl (am_we (by omega) (by omega) (by omega)) ?_
  refine bx_sld (q := 796) (k := i + 1) (z := σ.2.2.2.1 (i + 1)) rfl rfl (by omega) (by omega) (rfl) ?_
  refine ax_load (q := 797) rfl rfl rfl rfl rfl ?_
  refine ax_load (q := 798) rfl rfl rfl rfl rfl ?_
  refine ax_const (q := 799) (v := am_I 2) rfl rfl rfl ?_
  refine ax_iadd (q := 800) (z := ((i + 2 : Nat) : Int)) rfl rfl (am_we (by omega) (by omega) (by omega)) ?_
  refine bx_sld (q := 801) (k := i + 2) (z := σ.2.2.2.1 (i + 2)) rfl rfl (by omega) (by omega) (rfl) ?_
  refine ax_callv (q := 804) rfl rfl rfl rfl rfl rfl ?_
  refine am_Ev_mono _ _ _ _ _ _ (fun r σ1 h => ?_) (cc_ready (by omega) hb0 hC)
  obtain ⟨z, rfl, hs1, hM⟩ := h
  have hn1 : σ1.2.2.2.2 = n := by rw [hs1]; exact hn
  refine ax_load (q := 805) rfl rfl rfl rfl rfl ?_
  refine ax_load (q := 806) rfl rfl rfl rfl rfl ?_
  refine ax_load (q := 807) rfl rfl rfl rfl rfl ?_
  refine ax_const (q := 808) (v := am_I 1) rfl rfl rfl ?_
  refine ax_iadd (q := 809) (z := ((i + 1 : Nat) : Int)) rfl rfl (am_we (by omega) (by omega) (by omega)) ?_
  refine bx_sld (q := 810) (k := i + 1) (z := σ.2.2.2.1 (i + 1)) rfl rfl (by omega) (by omega) (by rw [hs1]) ?_
  refine ax_load (q := 811) rfl rfl rfl rfl rfl ?_
  refine ax_load (q := 812) rfl rfl rfl rfl rfl ?_
  refine ax_const (q := 813) (v := am_I 2) rfl rfl rfl ?_
  refine ax_iadd (q := 814) (z := ((i + 2 : Nat) : Int)) rfl rfl (am_we (by omega) (by omega) (by omega)) ?_
  refine bx_sld (q := 815) (k := i + 2) (z := σ.2.2.2.1 (i + 2)) rfl rfl (by omega) (by omega) (by rw [hs1]) ?_
  refine ax_callv (q := 818) rfl rfl rfl rfl rfl rfl ?_
  refine am_Ev_mono _ _ _ _ _ _ (fun r2 σ2 h2 => ?_) hM
  obtain ⟨rfl, hC2, hs2⟩ := h2
  refine ax_icmp_eq (q := 821) (x := 1287) rfl rfl (fun h818 => ?_) (fun h => absurd rfl h)
  exact hQ σ2 hC2 (hs2)

set_option maxRecDepth 65536 in
theorem lc_lost {d : Nat} (hd : 80 ≤ d) {b : Int} (hb0 : b ≤ 60000) (hb1 : 100 ≤ b) {σ : am_S} (hC : CP_ b σ) {i n : Nat} (hn : σ.2.2.2.2 = n) (hi : i + 6 ≤ n) (hn9 : n ≤ 3072) (hscr : ∀ j, j < n → -2147483648 ≤ σ.2.2.2.1 j ∧ σ.2.2.2.1 j ≤ 2147483647) {Q : Option am_V → am_S → Prop} (hQ : ∀ σ', CP_ (b + 1) σ' → σ'.2.2.2 = σ.2.2.2 → aW d 1 k_L_law Q 1287 [some (am_R 900), some (am_R 0), some (am_R 135), some (am_I ((i : Nat) : Int))] [] σ') : aW d 1 k_L_law Q 823 [some (am_R 900), some (am_R 0), some (am_R 135), some (am_I ((i : Nat) : Int))] [] σ := by
  refine ax_load (q := 824) rfl rfl rfl rfl rfl ?_
  refine ax_load (q := 825) rfl rfl rfl rfl rfl ?_
  refine ax_load (q := 826) rfl rfl rfl rfl rfl ?_
  refine ax_const (q := 827) (v := am_I 1) rfl rfl rfl ?_
  refine ax_iadd (q := 828) (z := ((i + 1 : Nat) : Int)) rfl rfl (am_we (by omega) (by omega) (by omega)) ?_
  refine bx_sld (q := 829) (k := i + 1) (z := σ.2.2.2.1 (i + 1)) rfl rfl (by omega) (by omega) (rfl) ?_
  refine ax_callv (q := 832) rfl rfl rfl rfl rfl rfl ?_
  refine am_Ev_mono _ _ _ _ _ _ (fun r σ1 h => ?_) (cc_lost (by omega) hb0 hC)
  obtain ⟨z, rfl, hs1, hM⟩ := h
  have hn1 : σ1.2.2.2.2 = n := by rw [hs1]; exact hn
  refine ax_load (q := 833) rfl rfl rfl rfl rfl ?_
  refine ax_load (q := 834) rfl rfl rfl rfl rfl ?_
  refine ax_load (q := 835) rfl rfl rfl rfl rfl ?_
  refine ax_const (q := 836) (v := am_I 1) rfl rfl rfl ?_
  refine ax_iadd (q := 837) (z := ((i + 1 : Nat) : Int)) rfl rfl (am_we (by omega) (by omega) (by omega)) ?_
  refine bx_sld (q := 838) (k := i + 1) (z := σ.2.2.2.1 (i + 1)) rfl rfl (by omega) (by omega) (by rw [hs1]) ?_
  refine ax_callv (q := 841) rfl rfl rfl rfl rfl rfl ?_
  refine am_Ev_mono _ _ _ _ _ _ (fun r2 σ2 h2 => ?_) hM
  obtain ⟨rfl, hC2, hs2⟩ := h2
  refine ax_icmp_eq (q := 844) (x := 1287) rfl rfl (fun h841 => ?_) (fun h => absurd rfl h)
  exact hQ σ2 hC2 (hs2)

set_option maxRecDepth 65536 in
theorem lc_will {d : Nat} (hd : 80 ≤ d) {b : Int} (hb0 : b ≤ 60000) (hb1 : 100 ≤ b) {σ : am_S} (hC : CP_ b σ) {i n : Nat} (hn : σ.2.2.2.2 = n) (hi : i + 6 ≤ n) (hn9 : n ≤ 3072) (hscr : ∀ j, j < n → -2147483648 ≤ σ.2.2.2.1 j ∧ σ.2.2.2.1 j ≤ 2147483647) {Q : Option am_V → am_S → Prop} (hQ : ∀ σ', CP_ (b + 1) σ' → σ'.2.2.2 = σ.2.2.2 → aW d 1 k_L_law Q 1287 [some (am_R 900), some (am_R 0), some (am_R 135), some (am_I ((i : Nat) : Int))] [] σ') : aW d 1 k_L_law Q 846 [some (am_R 900), some (am_R 0), some (am_R 135), some (am_I ((i : Nat) : Int))] [] σ := by
  refine ax_load (q := 847) rfl rfl rfl rfl rfl ?_
  refine ax_load (q := 848) rfl rfl rfl rfl rfl ?_
  refine ax_load (q := 849) rfl rfl rfl rfl rfl ?_
  refine ax_const (q := 850) (v := am_I 1) rfl rfl rfl ?_
  refine ax_iadd (q := 851) (z := ((i + 1 : Nat) : Int)) rfl rfl (am_we (by omega) (by omega) (by omega)) ?_
  refine bx_sld (q := 852) (k := i + 1) (z := σ.2.2.2.1 (i + 1)) rfl rfl (by omega) (by omega) (rfl) ?_
  refine ax_load (q := 853) rfl rfl rfl rfl rfl ?_
  refine ax_load (q := 854) rfl rfl rfl rfl rfl ?_
  refine ax_const (q := 855) (v := am_I 2) rfl rfl rfl ?_
  refine ax_iadd (q := 856) (z := ((i + 2 : Nat) : Int)) rfl rfl (am_we (by omega) (by omega) (by omega)) ?_
  refine bx_sld (q := 857) (k := i + 2) (z := σ.2.2.2.1 (i + 2)) rfl rfl (by omega) (by omega) (rfl) ?_
  refine ax_callv (q := 860) rfl rfl rfl rfl rfl rfl ?_
  refine am_Ev_mono _ _ _ _ _ _ (fun r σ1 h => ?_) (cc_will (by omega) hb0 hC)
  obtain ⟨z, rfl, hs1, hM⟩ := h
  have hn1 : σ1.2.2.2.2 = n := by rw [hs1]; exact hn
  refine ax_load (q := 861) rfl rfl rfl rfl rfl ?_
  refine ax_load (q := 862) rfl rfl rfl rfl rfl ?_
  refine ax_load (q := 863) rfl rfl rfl rfl rfl ?_
  refine ax_const (q := 864) (v := am_I 1) rfl rfl rfl ?_
  refine ax_iadd (q := 865) (z := ((i + 1 : Nat) : Int)) rfl rfl (am_we (by omega) (by omega) (by omega)) ?_
  refine bx_sld (q := 866) (k := i + 1) (z := σ.2.2.2.1 (i + 1)) rfl rfl (by omega) (by omega) (by rw [hs1]) ?_
  refine ax_load (q := 867) rfl rfl rfl rfl rfl ?_
  refine ax_load (q := 868) rfl rfl rfl rfl rfl ?_
  refine ax_const (q := 869) (v := am_I 2) rfl rfl rfl ?_
  refine ax_iadd (q := 870) (z := ((i + 2 : Nat) : Int)) rfl rfl (am_we (by omega) (by omega) (by omega)) ?_
  refine bx_sld (q := 871) (k := i + 2) (z := σ.2.2.2.1 (i + 2)) rfl rfl (by omega) (by omega) (by rw [hs1]) ?_
  refine ax_callv (q := 874) rfl rfl rfl rfl rfl rfl ?_
  refine am_Ev_mono _ _ _ _ _ _ (fun r2 σ2 h2 => ?_) hM
  obtain ⟨rfl, hC2, hs2⟩ := h2
  refine ax_icmp_eq (q := 877) (x := 1287) rfl rfl (fun h874 => ?_) (fun h => absurd rfl h)
  exact hQ σ2 hC2 (hs2)

set_option maxRecDepth 65536 in
theorem lc_first {d : Nat} (hd : 80 ≤ d) {b : Int} (hb0 : b ≤ 60000) (hb1 : 100 ≤ b) {σ : am_S} (hC : CP_ b σ) {i n : Nat} (hn : σ.2.2.2.2 = n) (hi : i + 6 ≤ n) (hn9 : n ≤ 3072) (hscr : ∀ j, j < n → -2147483648 ≤ σ.2.2.2.1 j ∧ σ.2.2.2.1 j ≤ 2147483647) {Q : Option am_V → am_S → Prop} (hQ : ∀ σ', CP_ (b + 1) σ' → σ'.2.2.2 = σ.2.2.2 → aW d 1 k_L_law Q 1287 [some (am_R 900), some (am_R 0), some (am_R 135), some (am_I ((i : Nat) : Int))] [] σ') : aW d 1 k_L_law Q 879 [some (am_R 900), some (am_R 0), some (am_R 135), some (am_I ((i : Nat) : Int))] [] σ := by
  refine ax_load (q := 880) rfl rfl rfl rfl rfl ?_
  refine ax_load (q := 881) rfl rfl rfl rfl rfl ?_
  refine ax_load (q := 882) rfl rfl rfl rfl rfl ?_
  refine ax_const (q := 883) (v := am_I 1) rfl rfl rfl ?_
  refine ax_iadd (q := 884) (z := ((i + 1 : Nat) : Int)) rfl rfl (am_we (by omega) (by omega) (by omega)) ?_
  refine bx_sld (q := 885) (k := i + 1) (z := σ.2.2.2.1 (i + 1)) rfl rfl (by omega) (by omega) (rfl) ?_
  refine ax_callv (q := 888) rfl rfl rfl rfl rfl rfl ?_
  refine am_Ev_mono _ _ _ _ _ _ (fun r σ1 h => ?_) (cc_first (by omega) hb0 hC)
  obtain ⟨z, rfl, hs1, hM⟩ := h
  have hn1 : σ1.2.2.2.2 = n := by rw [hs1]; exact hn
  refine ax_load (q := 889) rfl rfl rfl rfl rfl ?_
  refine ax_load (q := 890) rfl rfl rfl rfl rfl ?_
  refine ax_load (q := 891) rfl rfl rfl rfl rfl ?_
  refine ax_const (q := 892) (v := am_I 1) rfl rfl rfl ?_
  refine ax_iadd (q := 893) (z := ((i + 1 : Nat) : Int)) rfl rfl (am_we (by omega) (by omega) (by omega)) ?_
  refine bx_sld (q := 894) (k := i + 1) (z := σ.2.2.2.1 (i + 1)) rfl rfl (by omega) (by omega) (by rw [hs1]) ?_
  refine ax_callv (q := 897) rfl rfl rfl rfl rfl rfl ?_
  refine am_Ev_mono _ _ _ _ _ _ (fun r2 σ2 h2 => ?_) hM
  obtain ⟨rfl, hC2, hs2⟩ := h2
  refine ax_icmp_eq (q := 900) (x := 1287) rfl rfl (fun h897 => ?_) (fun h => absurd rfl h)
  exact hQ σ2 hC2 (hs2)

set_option maxRecDepth 65536 in
theorem lc_rings {d : Nat} (hd : 80 ≤ d) {b : Int} (hb0 : b ≤ 60000) (hb1 : 100 ≤ b) {σ : am_S} (hC : CP_ b σ) {i n : Nat} (hn : σ.2.2.2.2 = n) (hi : i + 6 ≤ n) (hn9 : n ≤ 3072) (hscr : ∀ j, j < n → -2147483648 ≤ σ.2.2.2.1 j ∧ σ.2.2.2.1 j ≤ 2147483647) {Q : Option am_V → am_S → Prop} (hQ : ∀ σ', CP_ (b + 1) σ' → σ'.2.2.2 = σ.2.2.2 → aW d 1 k_L_law Q 1287 [some (am_R 900), some (am_R 0), some (am_R 135), some (am_I ((i : Nat) : Int))] [] σ') : aW d 1 k_L_law Q 902 [some (am_R 900), some (am_R 0), some (am_R 135), some (am_I ((i : Nat) : Int))] [] σ := by
  refine ax_load (q := 903) rfl rfl rfl rfl rfl ?_
  refine ax_callv (q := 906) rfl rfl rfl rfl rfl rfl ?_
  refine am_Ev_mono _ _ _ _ _ _ (fun r σ1 h => ?_) (cc_rings (by omega) hb0 hC)
  obtain ⟨z, rfl, hs1, hM⟩ := h
  have hn1 : σ1.2.2.2.2 = n := by rw [hs1]; exact hn
  refine ax_load (q := 907) rfl rfl rfl rfl rfl ?_
  refine ax_callv (q := 910) rfl rfl rfl rfl rfl rfl ?_
  refine am_Ev_mono _ _ _ _ _ _ (fun r2 σ2 h2 => ?_) hM
  obtain ⟨rfl, hC2, hs2⟩ := h2
  refine ax_icmp_eq (q := 913) (x := 1287) rfl rfl (fun h910 => ?_) (fun h => absurd rfl h)
  exact hQ σ2 hC2 (hs2)

set_option maxRecDepth 65536 in
theorem lc_opening {d : Nat} (hd : 80 ≤ d) {b : Int} (hb0 : b ≤ 60000) (hb1 : 100 ≤ b) {σ : am_S} (hC : CP_ b σ) {i n : Nat} (hn : σ.2.2.2.2 = n) (hi : i + 6 ≤ n) (hn9 : n ≤ 3072) (hscr : ∀ j, j < n → -2147483648 ≤ σ.2.2.2.1 j ∧ σ.2.2.2.1 j ≤ 2147483647) {Q : Option am_V → am_S → Prop} (hQ : ∀ σ', CP_ (b + 1) σ' → σ'.2.2.2 = σ.2.2.2 → aW d 1 k_L_law Q 1287 [some (am_R 900), some (am_R 0), some (am_R 135), some (am_I ((i : Nat) : Int))] [] σ') : aW d 1 k_L_law Q 915 [some (am_R 900), some (am_R 0), some (am_R 135), some (am_I ((i : Nat) : Int))] [] σ := by
  refine ax_load (q := 916) rfl rfl rfl rfl rfl ?_
  refine ax_load (q := 917) rfl rfl rfl rfl rfl ?_
  refine ax_load (q := 918) rfl rfl rfl rfl rfl ?_
  refine ax_const (q := 919) (v := am_I 1) rfl rfl rfl ?_
  refine ax_iadd (q := 920) (z := ((i + 1 : Nat) : Int)) rfl rfl (am_we (by omega) (by omega) (by omega)) ?_
  refine bx_sld (q := 921) (k := i + 1) (z := σ.2.2.2.1 (i + 1)) rfl rfl (by omega) (by omega) (rfl) ?_
  refine ax_callv (q := 924) rfl rfl rfl rfl rfl rfl ?_
  refine am_Ev_mono _ _ _ _ _ _ (fun r σ1 h => ?_) (cc_opening (by omega) hb0 hC (hscr _ (by omega)))
  obtain ⟨z, rfl, hs1, hM⟩ := h
  have hn1 : σ1.2.2.2.2 = n := by rw [hs1]; exact hn
  refine ax_load (q := 925) rfl rfl rfl rfl rfl ?_
  refine ax_load (q := 926) rfl rfl rfl rfl rfl ?_
  refine ax_load (q := 927) rfl rfl rfl rfl rfl ?_
  refine ax_const (q := 928) (v := am_I 1) rfl rfl rfl ?_
  refine ax_iadd (q := 929) (z := ((i + 1 : Nat) : Int)) rfl rfl (am_we (by omega) (by omega) (by omega)) ?_
  refine bx_sld (q := 930) (k := i + 1) (z := σ.2.2.2.1 (i + 1)) rfl rfl (by omega) (by omega) (by rw [hs1]) ?_
  refine ax_callv (q := 933) rfl rfl rfl rfl rfl rfl ?_
  refine am_Ev_mono _ _ _ _ _ _ (fun r2 σ2 h2 => ?_) hM
  obtain ⟨rfl, hC2, hs2⟩ := h2
  refine ax_icmp_eq (q := 936) (x := 1287) rfl rfl (fun h933 => ?_) (fun h => absurd rfl h)
  exact hQ σ2 hC2 (hs2)

set_option maxRecDepth 65536 in
theorem lc_law {d : Nat} (hd : 80 ≤ d) {b : Int} (hb0 : b ≤ 60000) (hb1 : 100 ≤ b) {σ : am_S} (hC : CP_ b σ) {i n : Nat} (hn : σ.2.2.2.2 = n) (hi : i + 6 ≤ n) (hn9 : n ≤ 3072) (hscr : ∀ j, j < n → -2147483648 ≤ σ.2.2.2.1 j ∧ σ.2.2.2.1 j ≤ 2147483647) {Q : Option am_V → am_S → Prop} (hQ : ∀ σ', CP_ (b + 1) σ' → σ'.2.2.2 = σ.2.2.2 → aW d 1 k_L_law Q 1287 [some (am_R 900), some (am_R 0), some (am_R 135), some (am_I ((i : Nat) : Int))] [] σ') : aW d 1 k_L_law Q 938 [some (am_R 900), some (am_R 0), some (am_R 135), some (am_I ((i : Nat) : Int))] [] σ := by
  refine ax_load (q := 939) rfl rfl rfl rfl rfl ?_
  refine ax_load (q := 940) rfl rfl rfl rfl rfl ?_
  refine ax_load (q := 941) rfl rfl rfl rfl rfl ?_
  refine ax_const (q := 942) (v := am_I 1) rfl rfl rfl ?_
  refine ax_iadd (q := 943) (z := ((i + 1 : Nat) : Int)) rfl rfl (am_we (by omega) (by omega) (by omega)) ?_
  refine bx_sld (q := 944) (k := i + 1) (z := σ.2.2.2.1 (i + 1)) rfl rfl (by omega) (by omega) (rfl) ?_
  refine ax_load (q := 945) rfl rfl rfl rfl rfl ?_
  refine ax_load (q := 946) rfl rfl rfl rfl rfl ?_
  refine ax_const (q := 947) (v := am_I 2) rfl rfl rfl ?_
  refine ax_iadd (q := 948) (z := ((i + 2 : Nat) : Int)) rfl rfl (am_we (by omega) (by omega) (by omega)) ?_
  refine bx_sld (q := 949) (k := i + 2) (z := σ.2.2.2.1 (i + 2)) rfl rfl (by omega) (by omega) (rfl) ?_
  refine ax_callv (q := 952) rfl rfl rfl rfl rfl rfl ?_
  refine am_Ev_mono _ _ _ _ _ _ (fun r σ1 h => ?_) (cc_law (by omega) hb0 hC)
  obtain ⟨z, rfl, hs1, hM⟩ := h
  have hn1 : σ1.2.2.2.2 = n := by rw [hs1]; exact hn
  refine ax_load (q := 953) rfl rfl rfl rfl rfl ?_
  refine ax_load (q := 954) rfl rfl rfl rfl rfl ?_
  refine ax_load (q := 955) rfl rfl rfl rfl rfl ?_
  refine ax_const (q := 956) (v := am_I 1) rfl rfl rfl ?_
  refine ax_iadd (q := 957) (z := ((i + 1 : Nat) : Int)) rfl rfl (am_we (by omega) (by omega) (by omega)) ?_
  refine bx_sld (q := 958) (k := i + 1) (z := σ.2.2.2.1 (i + 1)) rfl rfl (by omega) (by omega) (by rw [hs1]) ?_
  refine ax_load (q := 959) rfl rfl rfl rfl rfl ?_
  refine ax_load (q := 960) rfl rfl rfl rfl rfl ?_
  refine ax_const (q := 961) (v := am_I 2) rfl rfl rfl ?_
  refine ax_iadd (q := 962) (z := ((i + 2 : Nat) : Int)) rfl rfl (am_we (by omega) (by omega) (by omega)) ?_
  refine bx_sld (q := 963) (k := i + 2) (z := σ.2.2.2.1 (i + 2)) rfl rfl (by omega) (by omega) (by rw [hs1]) ?_
  refine ax_callv (q := 966) rfl rfl rfl rfl rfl rfl ?_
  refine am_Ev_mono _ _ _ _ _ _ (fun r2 σ2 h2 => ?_) hM
  obtain ⟨rfl, hC2, hs2⟩ := h2
  refine ax_icmp_eq (q := 969) (x := 1287) rfl rfl (fun h966 => ?_) (fun h => absurd rfl h)
  exact hQ σ2 hC2 (hs2)

set_option maxRecDepth 65536 in
theorem lc_lies {d : Nat} (hd : 80 ≤ d) {b : Int} (hb0 : b ≤ 60000) (hb1 : 100 ≤ b) {σ : am_S} (hC : CP_ b σ) {i n : Nat} (hn : σ.2.2.2.2 = n) (hi : i + 6 ≤ n) (hn9 : n ≤ 3072) (hscr : ∀ j, j < n → -2147483648 ≤ σ.2.2.2.1 j ∧ σ.2.2.2.1 j ≤ 2147483647) {Q : Option am_V → am_S → Prop} (hQ : ∀ σ', CP_ (b + 1) σ' → σ'.2.2.2 = σ.2.2.2 → aW d 1 k_L_law Q 1287 [some (am_R 900), some (am_R 0), some (am_R 135), some (am_I ((i : Nat) : Int))] [] σ') : aW d 1 k_L_law Q 971 [some (am_R 900), some (am_R 0), some (am_R 135), some (am_I ((i : Nat) : Int))] [] σ := by
  refine ax_load (q := 972) rfl rfl rfl rfl rfl ?_
  refine ax_load (q := 973) rfl rfl rfl rfl rfl ?_
  refine ax_load (q := 974) rfl rfl rfl rfl rfl ?_
  refine ax_const (q := 975) (v := am_I 1) rfl rfl rfl ?_
  refine ax_iadd (q := 976) (z := ((i + 1 : Nat) : Int)) rfl rfl (am_we (by omega) (by omega) (by omega)) ?_
  refine bx_sld (q := 977) (k := i + 1) (z := σ.2.2.2.1 (i + 1)) rfl rfl (by omega) (by omega) (rfl) ?_
  refine ax_callv (q := 980) rfl rfl rfl rfl rfl rfl ?_
  refine am_Ev_mono _ _ _ _ _ _ (fun r σ1 h => ?_) (cc_lies (by omega) hb0 hC)
  obtain ⟨z, rfl, hs1, hM⟩ := h
  have hn1 : σ1.2.2.2.2 = n := by rw [hs1]; exact hn
  refine ax_load (q := 981) rfl rfl rfl rfl rfl ?_
  refine ax_load (q := 982) rfl rfl rfl rfl rfl ?_
  refine ax_load (q := 983) rfl rfl rfl rfl rfl ?_
  refine ax_const (q := 984) (v := am_I 1) rfl rfl rfl ?_
  refine ax_iadd (q := 985) (z := ((i + 1 : Nat) : Int)) rfl rfl (am_we (by omega) (by omega) (by omega)) ?_
  refine bx_sld (q := 986) (k := i + 1) (z := σ.2.2.2.1 (i + 1)) rfl rfl (by omega) (by omega) (by rw [hs1]) ?_
  refine ax_callv (q := 989) rfl rfl rfl rfl rfl rfl ?_
  refine am_Ev_mono _ _ _ _ _ _ (fun r2 σ2 h2 => ?_) hM
  obtain ⟨rfl, hC2, hs2⟩ := h2
  refine ax_icmp_eq (q := 992) (x := 1287) rfl rfl (fun h989 => ?_) (fun h => absurd rfl h)
  exact hQ σ2 hC2 (hs2)

set_option maxRecDepth 65536 in
theorem lc_sign {d : Nat} (hd : 80 ≤ d) {b : Int} (hb0 : b ≤ 60000) (hb1 : 100 ≤ b) {σ : am_S} (hC : CP_ b σ) {i n : Nat} (hn : σ.2.2.2.2 = n) (hi : i + 6 ≤ n) (hn9 : n ≤ 3072) (hscr : ∀ j, j < n → -2147483648 ≤ σ.2.2.2.1 j ∧ σ.2.2.2.1 j ≤ 2147483647) {Q : Option am_V → am_S → Prop} (hQ : ∀ σ', CP_ (b + 1) σ' → σ'.2.2.2 = σ.2.2.2 → aW d 1 k_L_law Q 1287 [some (am_R 900), some (am_R 0), some (am_R 135), some (am_I ((i : Nat) : Int))] [] σ') : aW d 1 k_L_law Q 994 [some (am_R 900), some (am_R 0), some (am_R 135), some (am_I ((i : Nat) : Int))] [] σ := by
  refine ax_load (q := 995) rfl rfl rfl rfl rfl ?_
  refine ax_load (q := 996) rfl rfl rfl rfl rfl ?_
  refine ax_load (q := 997) rfl rfl rfl rfl rfl ?_
  refine ax_const (q := 998) (v := am_I 1) rfl rfl rfl ?_
  refine ax_iadd (q := 999) (z := ((i + 1 : Nat) : Int)) rfl rfl (am_we (by omega) (by omega) (by omega)) ?_
  refine bx_sld (q := 1000) (k := i + 1) (z := σ.2.2.2.1 (i + 1)) rfl rfl (by omega) (by omega) (rfl) ?_
  refine ax_load (q := 1001) rfl rfl rfl rfl rfl ?_
  refine ax_load (q := 1002) rfl rfl rfl rfl rfl ?_
  refine ax_const (q := 1003) (v := am_I 2) rfl rfl rfl ?_
  refine ax_iadd (q := 1004) (z := ((i + 2 : Nat) : Int)) rfl rfl (am_we (by omega) (by omega) (by omega)) ?_
  refine bx_sld (q := 1005) (k := i + 2) (z := σ.2.2.2.1 (i + 2)) rfl rfl (by omega) (by omega) (rfl) ?_
  refine ax_load (q := 1006) rfl rfl rfl rfl rfl ?_
  refine ax_load (q := 1007) rfl rfl rfl rfl rfl ?_
  refine ax_const (q := 1008) (v := am_I 3) rfl rfl rfl ?_
  refine ax_iadd (q := 1009) (z := ((i + 3 : Nat) : Int)) rfl rfl (am_we (by omega) (by omega) (by omega)) ?_
  refine bx_sld (q := 1010) (k := i + 3) (z := σ.2.2.2.1 (i + 3)) rfl rfl (by omega) (by omega) (rfl) ?_
  refine ax_load (q := 1011) rfl rfl rfl rfl rfl ?_
  refine ax_load (q := 1012) rfl rfl rfl rfl rfl ?_
  refine ax_const (q := 1013) (v := am_I 4) rfl rfl rfl ?_
  refine ax_iadd (q := 1014) (z := ((i + 4 : Nat) : Int)) rfl rfl (am_we (by omega) (by omega) (by omega)) ?_
  refine bx_sld (q := 1015) (k := i + 4) (z := σ.2.2.2.1 (i + 4)) rfl rfl (by omega) (by omega) (rfl) ?_
  refine ax_if_eq (q := 1018) (x := 1022) rfl rfl (fun h1015 => ?_) (fun h1015 => ?_)
  · refine ax_const (q := 1023) (v := am_I 0) rfl rfl rfl ?_
    refine ax_callv (q := 1026) rfl rfl rfl rfl rfl rfl ?_
    refine am_Ev_mono _ _ _ _ _ _ (fun r σ1 h => ?_) (cc_sign (by omega) hb0 hC (Or.inl rfl))
    obtain ⟨z, rfl, hs1, hM⟩ := h
    have hn1 : σ1.2.2.2.2 = n := by rw [hs1]; exact hn
    refine ax_load (q := 1027) rfl rfl rfl rfl rfl ?_
    refine ax_load (q := 1028) rfl rfl rfl rfl rfl ?_
    refine ax_load (q := 1029) rfl rfl rfl rfl rfl ?_
    refine ax_const (q := 1030) (v := am_I 1) rfl rfl rfl ?_
    refine ax_iadd (q := 1031) (z := ((i + 1 : Nat) : Int)) rfl rfl (am_we (by omega) (by omega) (by omega)) ?_
    refine bx_sld (q := 1032) (k := i + 1) (z := σ.2.2.2.1 (i + 1)) rfl rfl (by omega) (by omega) (by rw [hs1]) ?_
    refine ax_load (q := 1033) rfl rfl rfl rfl rfl ?_
    refine ax_load (q := 1034) rfl rfl rfl rfl rfl ?_
    refine ax_const (q := 1035) (v := am_I 2) rfl rfl rfl ?_
    refine ax_iadd (q := 1036) (z := ((i + 2 : Nat) : Int)) rfl rfl (am_we (by omega) (by omega) (by omega)) ?_
    refine bx_sld (q := 1037) (k := i + 2) (z := σ.2.2.2.1 (i + 2)) rfl rfl (by omega) (by omega) (by rw [hs1]) ?_
    refine ax_load (q := 1038) rfl rfl rfl rfl rfl ?_
    refine ax_load (q := 1039) rfl rfl rfl rfl rfl ?_
    refine ax_const (q := 1040) (v := am_I 3) rfl rfl rfl ?_
    refine ax_iadd (q := 1041) (z := ((i + 3 : Nat) : Int)) rfl rfl (am_we (by omega) (by omega) (by omega)) ?_
    refine bx_sld (q := 1042) (k := i + 3) (z := σ.2.2.2.1 (i + 3)) rfl rfl (by omega) (by omega) (by rw [hs1]) ?_
    refine ax_load (q := 1043) rfl rfl rfl rfl rfl ?_
    refine ax_load (q := 1044) rfl rfl rfl rfl rfl ?_
    refine ax_const (q := 1045) (v := am_I 4) rfl rfl rfl ?_
    refine ax_iadd (q := 1046) (z := ((i + 4 : Nat) : Int)) rfl rfl (am_we (by omega) (by omega) (by omega)) ?_
    refine bx_sld (q := 1047) (k := i + 4) (z := σ.2.2.2.1 (i + 4)) rfl rfl (by omega) (by omega) (by rw [hs1]) ?_
    refine ax_if_eq (q := 1050) (x := 1054) rfl rfl (fun h1047 => ?_) (fun h => absurd h1015 h)
    refine ax_const (q := 1055) (v := am_I 0) rfl rfl rfl ?_
    refine ax_callv (q := 1058) rfl rfl rfl rfl rfl rfl ?_
    refine am_Ev_mono _ _ _ _ _ _ (fun r2 σ2 h2 => ?_) hM
    obtain ⟨rfl, hC2, hs2⟩ := h2
    refine ax_icmp_eq (q := 1061) (x := 1287) rfl rfl (fun h1058 => ?_) (fun h => absurd rfl h)
    exact hQ σ2 hC2 (hs2)
  · refine ax_const (q := 1019) (v := am_I 1) rfl rfl rfl ?_
    refine ax_goto (x := 1023) rfl ?_
    refine ax_callv (q := 1026) rfl rfl rfl rfl rfl rfl ?_
    refine am_Ev_mono _ _ _ _ _ _ (fun r σ1 h => ?_) (cc_sign (by omega) hb0 hC (Or.inr rfl))
    obtain ⟨z, rfl, hs1, hM⟩ := h
    have hn1 : σ1.2.2.2.2 = n := by rw [hs1]; exact hn
    refine ax_load (q := 1027) rfl rfl rfl rfl rfl ?_
    refine ax_load (q := 1028) rfl rfl rfl rfl rfl ?_
    refine ax_load (q := 1029) rfl rfl rfl rfl rfl ?_
    refine ax_const (q := 1030) (v := am_I 1) rfl rfl rfl ?_
    refine ax_iadd (q := 1031) (z := ((i + 1 : Nat) : Int)) rfl rfl (am_we (by omega) (by omega) (by omega)) ?_
    refine bx_sld (q := 1032) (k := i + 1) (z := σ.2.2.2.1 (i + 1)) rfl rfl (by omega) (by omega) (by rw [hs1]) ?_
    refine ax_load (q := 1033) rfl rfl rfl rfl rfl ?_
    refine ax_load (q := 1034) rfl rfl rfl rfl rfl ?_
    refine ax_const (q := 1035) (v := am_I 2) rfl rfl rfl ?_
    refine ax_iadd (q := 1036) (z := ((i + 2 : Nat) : Int)) rfl rfl (am_we (by omega) (by omega) (by omega)) ?_
    refine bx_sld (q := 1037) (k := i + 2) (z := σ.2.2.2.1 (i + 2)) rfl rfl (by omega) (by omega) (by rw [hs1]) ?_
    refine ax_load (q := 1038) rfl rfl rfl rfl rfl ?_
    refine ax_load (q := 1039) rfl rfl rfl rfl rfl ?_
    refine ax_const (q := 1040) (v := am_I 3) rfl rfl rfl ?_
    refine ax_iadd (q := 1041) (z := ((i + 3 : Nat) : Int)) rfl rfl (am_we (by omega) (by omega) (by omega)) ?_
    refine bx_sld (q := 1042) (k := i + 3) (z := σ.2.2.2.1 (i + 3)) rfl rfl (by omega) (by omega) (by rw [hs1]) ?_
    refine ax_load (q := 1043) rfl rfl rfl rfl rfl ?_
    refine ax_load (q := 1044) rfl rfl rfl rfl rfl ?_
    refine ax_const (q := 1045) (v := am_I 4) rfl rfl rfl ?_
    refine ax_iadd (q := 1046) (z := ((i + 4 : Nat) : Int)) rfl rfl (am_we (by omega) (by omega) (by omega)) ?_
    refine bx_sld (q := 1047) (k := i + 4) (z := σ.2.2.2.1 (i + 4)) rfl rfl (by omega) (by omega) (by rw [hs1]) ?_
    refine ax_if_eq (q := 1050) (x := 1054) rfl rfl (fun h => absurd h h1015) (fun h1047 => ?_)
    refine ax_const (q := 1051) (v := am_I 1) rfl rfl rfl ?_
    refine ax_goto (x := 1055) rfl ?_
    refine ax_callv (q := 1058) rfl rfl rfl rfl rfl rfl ?_
    refine am_Ev_mono _ _ _ _ _ _ (fun r2 σ2 h2 => ?_) hM
    obtain ⟨rfl, hC2, hs2⟩ := h2
    refine ax_icmp_eq (q := 1061) (x := 1287) rfl rfl (fun h1058 => ?_) (fun h => absurd rfl h)
    exact hQ σ2 hC2 (hs2)

set_option maxRecDepth 65536 in
theorem lc_untell {d : Nat} (hd : 80 ≤ d) {b : Int} (hb0 : b ≤ 60000) (hb1 : 100 ≤ b) {σ : am_S} (hC : CP_ b σ) {i n : Nat} (hn : σ.2.2.2.2 = n) (hi : i + 6 ≤ n) (hn9 : n ≤ 3072) (hscr : ∀ j, j < n → -2147483648 ≤ σ.2.2.2.1 j ∧ σ.2.2.2.1 j ≤ 2147483647) {Q : Option am_V → am_S → Prop} (hQ : ∀ σ', CP_ (b + 1) σ' → σ'.2.2.2 = σ.2.2.2 → aW d 1 k_L_law Q 1287 [some (am_R 900), some (am_R 0), some (am_R 135), some (am_I ((i : Nat) : Int))] [] σ') : aW d 1 k_L_law Q 1063 [some (am_R 900), some (am_R 0), some (am_R 135), some (am_I ((i : Nat) : Int))] [] σ := by
  refine ax_load (q := 1064) rfl rfl rfl rfl rfl ?_
  refine ax_load (q := 1065) rfl rfl rfl rfl rfl ?_
  refine ax_load (q := 1066) rfl rfl rfl rfl rfl ?_
  refine ax_const (q := 1067) (v := am_I 1) rfl rfl rfl ?_
  refine ax_iadd (q := 1068) (z := ((i + 1 : Nat) : Int)) rfl rfl (am_we (by omega) (by omega) (by omega)) ?_
  refine bx_sld (q := 1069) (k := i + 1) (z := σ.2.2.2.1 (i + 1)) rfl rfl (by omega) (by omega) (rfl) ?_
  refine ax_callv (q := 1072) rfl rfl rfl rfl rfl rfl ?_
  refine am_Ev_mono _ _ _ _ _ _ (fun r σ1 h => ?_) (cc_untell (by omega) hb0 hC)
  obtain ⟨z, rfl, hs1, hM⟩ := h
  have hn1 : σ1.2.2.2.2 = n := by rw [hs1]; exact hn
  refine ax_load (q := 1073) rfl rfl rfl rfl rfl ?_
  refine ax_load (q := 1074) rfl rfl rfl rfl rfl ?_
  refine ax_load (q := 1075) rfl rfl rfl rfl rfl ?_
  refine ax_const (q := 1076) (v := am_I 1) rfl rfl rfl ?_
  refine ax_iadd (q := 1077) (z := ((i + 1 : Nat) : Int)) rfl rfl (am_we (by omega) (by omega) (by omega)) ?_
  refine bx_sld (q := 1078) (k := i + 1) (z := σ.2.2.2.1 (i + 1)) rfl rfl (by omega) (by omega) (by rw [hs1]) ?_
  refine ax_callv (q := 1081) rfl rfl rfl rfl rfl rfl ?_
  refine am_Ev_mono _ _ _ _ _ _ (fun r2 σ2 h2 => ?_) hM
  obtain ⟨rfl, hC2, hs2⟩ := h2
  refine ax_icmp_eq (q := 1084) (x := 1287) rfl rfl (fun h1081 => ?_) (fun h => absurd rfl h)
  exact hQ σ2 hC2 (hs2)

set_option maxRecDepth 65536 in
theorem lc_later {d : Nat} (hd : 80 ≤ d) {b : Int} (hb0 : b ≤ 60000) (hb1 : 100 ≤ b) {σ : am_S} (hC : CP_ b σ) {i n : Nat} (hn : σ.2.2.2.2 = n) (hi : i + 6 ≤ n) (hn9 : n ≤ 3072) (hscr : ∀ j, j < n → -2147483648 ≤ σ.2.2.2.1 j ∧ σ.2.2.2.1 j ≤ 2147483647) {Q : Option am_V → am_S → Prop} (hQ : ∀ σ', CP_ (b + 1) σ' → σ'.2.2.2 = σ.2.2.2 → aW d 1 k_L_law Q 1287 [some (am_R 900), some (am_R 0), some (am_R 135), some (am_I ((i : Nat) : Int))] [] σ') : aW d 1 k_L_law Q 1086 [some (am_R 900), some (am_R 0), some (am_R 135), some (am_I ((i : Nat) : Int))] [] σ := by
  refine ax_load (q := 1087) rfl rfl rfl rfl rfl ?_
  refine ax_load (q := 1088) rfl rfl rfl rfl rfl ?_
  refine ax_load (q := 1089) rfl rfl rfl rfl rfl ?_
  refine ax_const (q := 1090) (v := am_I 1) rfl rfl rfl ?_
  refine ax_iadd (q := 1091) (z := ((i + 1 : Nat) : Int)) rfl rfl (am_we (by omega) (by omega) (by omega)) ?_
  refine bx_sld (q := 1092) (k := i + 1) (z := σ.2.2.2.1 (i + 1)) rfl rfl (by omega) (by omega) (rfl) ?_
  refine ax_callv (q := 1095) rfl rfl rfl rfl rfl rfl ?_
  refine am_Ev_mono _ _ _ _ _ _ (fun r σ1 h => ?_) (cc_later (by omega) hb0 hC)
  obtain ⟨z, rfl, hs1, hM⟩ := h
  have hn1 : σ1.2.2.2.2 = n := by rw [hs1]; exact hn
  refine ax_load (q := 1096) rfl rfl rfl rfl rfl ?_
  refine ax_load (q := 1097) rfl rfl rfl rfl rfl ?_
  refine ax_load (q := 1098) rfl rfl rfl rfl rfl ?_
  refine ax_const (q := 1099) (v := am_I 1) rfl rfl rfl ?_
  refine ax_iadd (q := 1100) (z := ((i + 1 : Nat) : Int)) rfl rfl (am_we (by omega) (by omega) (by omega)) ?_
  refine bx_sld (q := 1101) (k := i + 1) (z := σ.2.2.2.1 (i + 1)) rfl rfl (by omega) (by omega) (by rw [hs1]) ?_
  refine ax_callv (q := 1104) rfl rfl rfl rfl rfl rfl ?_
  refine am_Ev_mono _ _ _ _ _ _ (fun r2 σ2 h2 => ?_) hM
  obtain ⟨rfl, hC2, hs2⟩ := h2
  refine ax_icmp_eq (q := 1107) (x := 1287) rfl rfl (fun h1104 => ?_) (fun h => absurd rfl h)
  exact hQ σ2 hC2 (hs2)

set_option maxRecDepth 65536 in
theorem lc_meant {d : Nat} (hd : 80 ≤ d) {b : Int} (hb0 : b ≤ 60000) (hb1 : 100 ≤ b) {σ : am_S} (hC : CP_ b σ) {i n : Nat} (hn : σ.2.2.2.2 = n) (hi : i + 6 ≤ n) (hn9 : n ≤ 3072) (hscr : ∀ j, j < n → -2147483648 ≤ σ.2.2.2.1 j ∧ σ.2.2.2.1 j ≤ 2147483647) {Q : Option am_V → am_S → Prop} (hQ : ∀ σ', CP_ (b + 1) σ' → σ'.2.2.2 = σ.2.2.2 → aW d 1 k_L_law Q 1287 [some (am_R 900), some (am_R 0), some (am_R 135), some (am_I ((i : Nat) : Int))] [] σ') : aW d 1 k_L_law Q 1109 [some (am_R 900), some (am_R 0), some (am_R 135), some (am_I ((i : Nat) : Int))] [] σ := by
  refine ax_load (q := 1110) rfl rfl rfl rfl rfl ?_
  refine ax_load (q := 1111) rfl rfl rfl rfl rfl ?_
  refine ax_load (q := 1112) rfl rfl rfl rfl rfl ?_
  refine ax_const (q := 1113) (v := am_I 1) rfl rfl rfl ?_
  refine ax_iadd (q := 1114) (z := ((i + 1 : Nat) : Int)) rfl rfl (am_we (by omega) (by omega) (by omega)) ?_
  refine bx_sld (q := 1115) (k := i + 1) (z := σ.2.2.2.1 (i + 1)) rfl rfl (by omega) (by omega) (rfl) ?_
  refine ax_load (q := 1116) rfl rfl rfl rfl rfl ?_
  refine ax_load (q := 1117) rfl rfl rfl rfl rfl ?_
  refine ax_const (q := 1118) (v := am_I 2) rfl rfl rfl ?_
  refine ax_iadd (q := 1119) (z := ((i + 2 : Nat) : Int)) rfl rfl (am_we (by omega) (by omega) (by omega)) ?_
  refine bx_sld (q := 1120) (k := i + 2) (z := σ.2.2.2.1 (i + 2)) rfl rfl (by omega) (by omega) (rfl) ?_
  refine ax_callv (q := 1123) rfl rfl rfl rfl rfl rfl ?_
  refine am_Ev_mono _ _ _ _ _ _ (fun r σ1 h => ?_) (cc_meant (by omega) hb0 hC)
  obtain ⟨z, rfl, hs1, hM⟩ := h
  have hn1 : σ1.2.2.2.2 = n := by rw [hs1]; exact hn
  refine ax_load (q := 1124) rfl rfl rfl rfl rfl ?_
  refine ax_load (q := 1125) rfl rfl rfl rfl rfl ?_
  refine ax_load (q := 1126) rfl rfl rfl rfl rfl ?_
  refine ax_const (q := 1127) (v := am_I 1) rfl rfl rfl ?_
  refine ax_iadd (q := 1128) (z := ((i + 1 : Nat) : Int)) rfl rfl (am_we (by omega) (by omega) (by omega)) ?_
  refine bx_sld (q := 1129) (k := i + 1) (z := σ.2.2.2.1 (i + 1)) rfl rfl (by omega) (by omega) (by rw [hs1]) ?_
  refine ax_load (q := 1130) rfl rfl rfl rfl rfl ?_
  refine ax_load (q := 1131) rfl rfl rfl rfl rfl ?_
  refine ax_const (q := 1132) (v := am_I 2) rfl rfl rfl ?_
  refine ax_iadd (q := 1133) (z := ((i + 2 : Nat) : Int)) rfl rfl (am_we (by omega) (by omega) (by omega)) ?_
  refine bx_sld (q := 1134) (k := i + 2) (z := σ.2.2.2.1 (i + 2)) rfl rfl (by omega) (by omega) (by rw [hs1]) ?_
  refine ax_callv (q := 1137) rfl rfl rfl rfl rfl rfl ?_
  refine am_Ev_mono _ _ _ _ _ _ (fun r2 σ2 h2 => ?_) hM
  obtain ⟨rfl, hC2, hs2⟩ := h2
  refine ax_icmp_eq (q := 1140) (x := 1287) rfl rfl (fun h1137 => ?_) (fun h => absurd rfl h)
  exact hQ σ2 hC2 (hs2)

set_option maxRecDepth 65536 in
theorem lc_likely {d : Nat} (hd : 80 ≤ d) {b : Int} (hb0 : b ≤ 60000) (hb1 : 100 ≤ b) {σ : am_S} (hC : CP_ b σ) {i n : Nat} (hn : σ.2.2.2.2 = n) (hi : i + 6 ≤ n) (hn9 : n ≤ 3072) (hscr : ∀ j, j < n → -2147483648 ≤ σ.2.2.2.1 j ∧ σ.2.2.2.1 j ≤ 2147483647) {Q : Option am_V → am_S → Prop} (hQ : ∀ σ', CP_ (b + 1) σ' → σ'.2.2.2 = σ.2.2.2 → aW d 1 k_L_law Q 1287 [some (am_R 900), some (am_R 0), some (am_R 135), some (am_I ((i : Nat) : Int))] [] σ') : aW d 1 k_L_law Q 1142 [some (am_R 900), some (am_R 0), some (am_R 135), some (am_I ((i : Nat) : Int))] [] σ := by
  refine ax_load (q := 1143) rfl rfl rfl rfl rfl ?_
  refine ax_load (q := 1144) rfl rfl rfl rfl rfl ?_
  refine ax_load (q := 1145) rfl rfl rfl rfl rfl ?_
  refine ax_const (q := 1146) (v := am_I 1) rfl rfl rfl ?_
  refine ax_iadd (q := 1147) (z := ((i + 1 : Nat) : Int)) rfl rfl (am_we (by omega) (by omega) (by omega)) ?_
  refine bx_sld (q := 1148) (k := i + 1) (z := σ.2.2.2.1 (i + 1)) rfl rfl (by omega) (by omega) (rfl) ?_
  refine ax_load (q := 1149) rfl rfl rfl rfl rfl ?_
  refine ax_load (q := 1150) rfl rfl rfl rfl rfl ?_
  refine ax_const (q := 1151) (v := am_I 2) rfl rfl rfl ?_
  refine ax_iadd (q := 1152) (z := ((i + 2 : Nat) : Int)) rfl rfl (am_we (by omega) (by omega) (by omega)) ?_
  refine bx_sld (q := 1153) (k := i + 2) (z := σ.2.2.2.1 (i + 2)) rfl rfl (by omega) (by omega) (rfl) ?_
  refine ax_callv (q := 1156) rfl rfl rfl rfl rfl rfl ?_
  refine am_Ev_mono _ _ _ _ _ _ (fun r σ1 h => ?_) (cc_likely (by omega) hb0 hC)
  obtain ⟨z, rfl, hs1, hM⟩ := h
  have hn1 : σ1.2.2.2.2 = n := by rw [hs1]; exact hn
  refine ax_load (q := 1157) rfl rfl rfl rfl rfl ?_
  refine ax_load (q := 1158) rfl rfl rfl rfl rfl ?_
  refine ax_load (q := 1159) rfl rfl rfl rfl rfl ?_
  refine ax_const (q := 1160) (v := am_I 1) rfl rfl rfl ?_
  refine ax_iadd (q := 1161) (z := ((i + 1 : Nat) : Int)) rfl rfl (am_we (by omega) (by omega) (by omega)) ?_
  refine bx_sld (q := 1162) (k := i + 1) (z := σ.2.2.2.1 (i + 1)) rfl rfl (by omega) (by omega) (by rw [hs1]) ?_
  refine ax_load (q := 1163) rfl rfl rfl rfl rfl ?_
  refine ax_load (q := 1164) rfl rfl rfl rfl rfl ?_
  refine ax_const (q := 1165) (v := am_I 2) rfl rfl rfl ?_
  refine ax_iadd (q := 1166) (z := ((i + 2 : Nat) : Int)) rfl rfl (am_we (by omega) (by omega) (by omega)) ?_
  refine bx_sld (q := 1167) (k := i + 2) (z := σ.2.2.2.1 (i + 2)) rfl rfl (by omega) (by omega) (by rw [hs1]) ?_
  refine ax_callv (q := 1170) rfl rfl rfl rfl rfl rfl ?_
  refine am_Ev_mono _ _ _ _ _ _ (fun r2 σ2 h2 => ?_) hM
  obtain ⟨rfl, hC2, hs2⟩ := h2
  refine ax_icmp_eq (q := 1173) (x := 1287) rfl rfl (fun h1170 => ?_) (fun h => absurd rfl h)
  exact hQ σ2 hC2 (hs2)

set_option maxRecDepth 65536 in
theorem lc_ask {d : Nat} (hd : 80 ≤ d) {b : Int} (hb0 : b ≤ 60000) (hb1 : 100 ≤ b) {σ : am_S} (hC : CP_ b σ) {i n : Nat} (hn : σ.2.2.2.2 = n) (hi : i + 6 ≤ n) (hn9 : n ≤ 3072) (hscr : ∀ j, j < n → -2147483648 ≤ σ.2.2.2.1 j ∧ σ.2.2.2.1 j ≤ 2147483647) {Q : Option am_V → am_S → Prop} (hQ : ∀ σ', CP_ (b + 1) σ' → σ'.2.2.2 = σ.2.2.2 → aW d 1 k_L_law Q 1287 [some (am_R 900), some (am_R 0), some (am_R 135), some (am_I ((i : Nat) : Int))] [] σ') : aW d 1 k_L_law Q 1175 [some (am_R 900), some (am_R 0), some (am_R 135), some (am_I ((i : Nat) : Int))] [] σ := by
  refine ax_load (q := 1176) rfl rfl rfl rfl rfl ?_
  refine ax_load (q := 1177) rfl rfl rfl rfl rfl ?_
  refine ax_load (q := 1178) rfl rfl rfl rfl rfl ?_
  refine ax_const (q := 1179) (v := am_I 1) rfl rfl rfl ?_
  refine ax_iadd (q := 1180) (z := ((i + 1 : Nat) : Int)) rfl rfl (am_we (by omega) (by omega) (by omega)) ?_
  refine bx_sld (q := 1181) (k := i + 1) (z := σ.2.2.2.1 (i + 1)) rfl rfl (by omega) (by omega) (rfl) ?_
  refine ax_load (q := 1182) rfl rfl rfl rfl rfl ?_
  refine ax_load (q := 1183) rfl rfl rfl rfl rfl ?_
  refine ax_const (q := 1184) (v := am_I 2) rfl rfl rfl ?_
  refine ax_iadd (q := 1185) (z := ((i + 2 : Nat) : Int)) rfl rfl (am_we (by omega) (by omega) (by omega)) ?_
  refine bx_sld (q := 1186) (k := i + 2) (z := σ.2.2.2.1 (i + 2)) rfl rfl (by omega) (by omega) (rfl) ?_
  refine ax_load (q := 1187) rfl rfl rfl rfl rfl ?_
  refine ax_load (q := 1188) rfl rfl rfl rfl rfl ?_
  refine ax_const (q := 1189) (v := am_I 3) rfl rfl rfl ?_
  refine ax_iadd (q := 1190) (z := ((i + 3 : Nat) : Int)) rfl rfl (am_we (by omega) (by omega) (by omega)) ?_
  refine bx_sld (q := 1191) (k := i + 3) (z := σ.2.2.2.1 (i + 3)) rfl rfl (by omega) (by omega) (rfl) ?_
  refine ax_callv (q := 1194) rfl rfl rfl rfl rfl rfl ?_
  refine am_Ev_mono _ _ _ _ _ _ (fun r σ1 h => ?_) (cc_ask (by omega) hb0 hC)
  obtain ⟨z, rfl, hs1, hM⟩ := h
  have hn1 : σ1.2.2.2.2 = n := by rw [hs1]; exact hn
  refine ax_load (q := 1195) rfl rfl rfl rfl rfl ?_
  refine ax_load (q := 1196) rfl rfl rfl rfl rfl ?_
  refine ax_load (q := 1197) rfl rfl rfl rfl rfl ?_
  refine ax_const (q := 1198) (v := am_I 1) rfl rfl rfl ?_
  refine ax_iadd (q := 1199) (z := ((i + 1 : Nat) : Int)) rfl rfl (am_we (by omega) (by omega) (by omega)) ?_
  refine bx_sld (q := 1200) (k := i + 1) (z := σ.2.2.2.1 (i + 1)) rfl rfl (by omega) (by omega) (by rw [hs1]) ?_
  refine ax_load (q := 1201) rfl rfl rfl rfl rfl ?_
  refine ax_load (q := 1202) rfl rfl rfl rfl rfl ?_
  refine ax_const (q := 1203) (v := am_I 2) rfl rfl rfl ?_
  refine ax_iadd (q := 1204) (z := ((i + 2 : Nat) : Int)) rfl rfl (am_we (by omega) (by omega) (by omega)) ?_
  refine bx_sld (q := 1205) (k := i + 2) (z := σ.2.2.2.1 (i + 2)) rfl rfl (by omega) (by omega) (by rw [hs1]) ?_
  refine ax_load (q := 1206) rfl rfl rfl rfl rfl ?_
  refine ax_load (q := 1207) rfl rfl rfl rfl rfl ?_
  refine ax_const (q := 1208) (v := am_I 3) rfl rfl rfl ?_
  refine ax_iadd (q := 1209) (z := ((i + 3 : Nat) : Int)) rfl rfl (am_we (by omega) (by omega) (by omega)) ?_
  refine bx_sld (q := 1210) (k := i + 3) (z := σ.2.2.2.1 (i + 3)) rfl rfl (by omega) (by omega) (by rw [hs1]) ?_
  refine ax_callv (q := 1213) rfl rfl rfl rfl rfl rfl ?_
  refine am_Ev_mono _ _ _ _ _ _ (fun r2 σ2 h2 => ?_) hM
  obtain ⟨rfl, hC2, hs2⟩ := h2
  refine ax_icmp_eq (q := 1216) (x := 1287) rfl rfl (fun h1213 => ?_) (fun h => absurd rfl h)
  exact hQ σ2 hC2 (hs2)

set_option maxRecDepth 65536 in
theorem lc_image {d : Nat} (hd : 80 ≤ d) {b : Int} (hb0 : b ≤ 60000) (hb1 : 100 ≤ b) {σ : am_S} (hC : CP_ b σ) {i n : Nat} (hn : σ.2.2.2.2 = n) (hi : i + 6 ≤ n) (hn9 : n ≤ 3072) (hscr : ∀ j, j < n → -2147483648 ≤ σ.2.2.2.1 j ∧ σ.2.2.2.1 j ≤ 2147483647) {Q : Option am_V → am_S → Prop} (hQ : ∀ σ', CP_ (b + 1) σ' → σ'.2.2.2 = σ.2.2.2 → aW d 1 k_L_law Q 1287 [some (am_R 900), some (am_R 0), some (am_R 135), some (am_I ((i : Nat) : Int))] [] σ') : aW d 1 k_L_law Q 1218 [some (am_R 900), some (am_R 0), some (am_R 135), some (am_I ((i : Nat) : Int))] [] σ := by
  refine ax_load (q := 1219) rfl rfl rfl rfl rfl ?_
  refine ax_load (q := 1220) rfl rfl rfl rfl rfl ?_
  refine ax_load (q := 1221) rfl rfl rfl rfl rfl ?_
  refine ax_const (q := 1222) (v := am_I 1) rfl rfl rfl ?_
  refine ax_iadd (q := 1223) (z := ((i + 1 : Nat) : Int)) rfl rfl (am_we (by omega) (by omega) (by omega)) ?_
  refine bx_sld (q := 1224) (k := i + 1) (z := σ.2.2.2.1 (i + 1)) rfl rfl (by omega) (by omega) (rfl) ?_
  refine ax_callv (q := 1227) rfl rfl rfl rfl rfl rfl ?_
  refine am_Ev_mono _ _ _ _ _ _ (fun r σ1 h => ?_) (cc_image (by omega) hb0 hC)
  obtain ⟨z, rfl, hs1, hM⟩ := h
  have hn1 : σ1.2.2.2.2 = n := by rw [hs1]; exact hn
  refine ax_load (q := 1228) rfl rfl rfl rfl rfl ?_
  refine ax_load (q := 1229) rfl rfl rfl rfl rfl ?_
  refine ax_load (q := 1230) rfl rfl rfl rfl rfl ?_
  refine ax_const (q := 1231) (v := am_I 1) rfl rfl rfl ?_
  refine ax_iadd (q := 1232) (z := ((i + 1 : Nat) : Int)) rfl rfl (am_we (by omega) (by omega) (by omega)) ?_
  refine bx_sld (q := 1233) (k := i + 1) (z := σ.2.2.2.1 (i + 1)) rfl rfl (by omega) (by omega) (by rw [hs1]) ?_
  refine ax_callv (q := 1236) rfl rfl rfl rfl rfl rfl ?_
  refine am_Ev_mono _ _ _ _ _ _ (fun r2 σ2 h2 => ?_) hM
  obtain ⟨rfl, hC2, hs2⟩ := h2
  refine ax_icmp_eq (q := 1239) (x := 1287) rfl rfl (fun h1236 => ?_) (fun h => absurd rfl h)
  exact hQ σ2 hC2 (hs2)

set_option maxRecDepth 65536 in
theorem lc_back {d : Nat} (hd : 80 ≤ d) {b : Int} (hb0 : b ≤ 60000) (hb1 : 100 ≤ b) {σ : am_S} (hC : CP_ b σ) {i n : Nat} (hn : σ.2.2.2.2 = n) (hi : i + 6 ≤ n) (hn9 : n ≤ 3072) (hscr : ∀ j, j < n → -2147483648 ≤ σ.2.2.2.1 j ∧ σ.2.2.2.1 j ≤ 2147483647) {Q : Option am_V → am_S → Prop} (hQ : ∀ σ', CP_ (b + 1) σ' → σ'.2.2.2 = σ.2.2.2 → aW d 1 k_L_law Q 1287 [some (am_R 900), some (am_R 0), some (am_R 135), some (am_I ((i : Nat) : Int))] [] σ') : aW d 1 k_L_law Q 1241 [some (am_R 900), some (am_R 0), some (am_R 135), some (am_I ((i : Nat) : Int))] [] σ := by
  refine ax_load (q := 1242) rfl rfl rfl rfl rfl ?_
  refine ax_load (q := 1243) rfl rfl rfl rfl rfl ?_
  refine ax_load (q := 1244) rfl rfl rfl rfl rfl ?_
  refine ax_const (q := 1245) (v := am_I 1) rfl rfl rfl ?_
  refine ax_iadd (q := 1246) (z := ((i + 1 : Nat) : Int)) rfl rfl (am_we (by omega) (by omega) (by omega)) ?_
  refine bx_sld (q := 1247) (k := i + 1) (z := σ.2.2.2.1 (i + 1)) rfl rfl (by omega) (by omega) (rfl) ?_
  refine ax_callv (q := 1250) rfl rfl rfl rfl rfl rfl ?_
  refine am_Ev_mono _ _ _ _ _ _ (fun r σ1 h => ?_) (cc_back (by omega) hb0 hC)
  obtain ⟨z, rfl, hs1, hM⟩ := h
  have hn1 : σ1.2.2.2.2 = n := by rw [hs1]; exact hn
  refine ax_load (q := 1251) rfl rfl rfl rfl rfl ?_
  refine ax_load (q := 1252) rfl rfl rfl rfl rfl ?_
  refine ax_load (q := 1253) rfl rfl rfl rfl rfl ?_
  refine ax_const (q := 1254) (v := am_I 1) rfl rfl rfl ?_
  refine ax_iadd (q := 1255) (z := ((i + 1 : Nat) : Int)) rfl rfl (am_we (by omega) (by omega) (by omega)) ?_
  refine bx_sld (q := 1256) (k := i + 1) (z := σ.2.2.2.1 (i + 1)) rfl rfl (by omega) (by omega) (by rw [hs1]) ?_
  refine ax_callv (q := 1259) rfl rfl rfl rfl rfl rfl ?_
  refine am_Ev_mono _ _ _ _ _ _ (fun r2 σ2 h2 => ?_) hM
  obtain ⟨rfl, hC2, hs2⟩ := h2
  refine ax_icmp_eq (q := 1262) (x := 1287) rfl rfl (fun h1259 => ?_) (fun h => absurd rfl h)
  exact hQ σ2 hC2 (hs2)

set_option maxRecDepth 65536 in
theorem lc_about {d : Nat} (hd : 80 ≤ d) {b : Int} (hb0 : b ≤ 60000) (hb1 : 100 ≤ b) {σ : am_S} (hC : CP_ b σ) {i n : Nat} (hn : σ.2.2.2.2 = n) (hi : i + 6 ≤ n) (hn9 : n ≤ 3072) (hscr : ∀ j, j < n → -2147483648 ≤ σ.2.2.2.1 j ∧ σ.2.2.2.1 j ≤ 2147483647) {Q : Option am_V → am_S → Prop} (hQ : ∀ σ', CP_ (b + 1) σ' → σ'.2.2.2 = σ.2.2.2 → aW d 1 k_L_law Q 1287 [some (am_R 900), some (am_R 0), some (am_R 135), some (am_I ((i : Nat) : Int))] [] σ') : aW d 1 k_L_law Q 1264 [some (am_R 900), some (am_R 0), some (am_R 135), some (am_I ((i : Nat) : Int))] [] σ := by
  refine ax_load (q := 1265) rfl rfl rfl rfl rfl ?_
  refine ax_load (q := 1266) rfl rfl rfl rfl rfl ?_
  refine ax_load (q := 1267) rfl rfl rfl rfl rfl ?_
  refine ax_const (q := 1268) (v := am_I 1) rfl rfl rfl ?_
  refine ax_iadd (q := 1269) (z := ((i + 1 : Nat) : Int)) rfl rfl (am_we (by omega) (by omega) (by omega)) ?_
  refine bx_sld (q := 1270) (k := i + 1) (z := σ.2.2.2.1 (i + 1)) rfl rfl (by omega) (by omega) (rfl) ?_
  refine ax_callv (q := 1273) rfl rfl rfl rfl rfl rfl ?_
  refine am_Ev_mono _ _ _ _ _ _ (fun r σ1 h => ?_) (cc_about (by omega) hb0 hC)
  obtain ⟨z, rfl, hs1, hM⟩ := h
  have hn1 : σ1.2.2.2.2 = n := by rw [hs1]; exact hn
  refine ax_load (q := 1274) rfl rfl rfl rfl rfl ?_
  refine ax_load (q := 1275) rfl rfl rfl rfl rfl ?_
  refine ax_load (q := 1276) rfl rfl rfl rfl rfl ?_
  refine ax_const (q := 1277) (v := am_I 1) rfl rfl rfl ?_
  refine ax_iadd (q := 1278) (z := ((i + 1 : Nat) : Int)) rfl rfl (am_we (by omega) (by omega) (by omega)) ?_
  refine bx_sld (q := 1279) (k := i + 1) (z := σ.2.2.2.1 (i + 1)) rfl rfl (by omega) (by omega) (by rw [hs1]) ?_
  refine ax_callv (q := 1282) rfl rfl rfl rfl rfl rfl ?_
  refine am_Ev_mono _ _ _ _ _ _ (fun r2 σ2 h2 => ?_) hM
  obtain ⟨rfl, hC2, hs2⟩ := h2
  refine ax_icmp_eq (q := 1285) (x := 1287) rfl rfl (fun h1282 => ?_) (fun h => absurd rfl h)
  exact hQ σ2 hC2 (hs2)

