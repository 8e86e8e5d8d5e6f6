set_option maxHeartbeats 4000000 in
set_option maxRecDepth 100000 in
theorem ws_K {s : State} {A : Array Value} (hts : ∀ w ∈ lw_tbl, w.before A s = true) : ∃ (D : va_G) (cT : Nat → ClassId), kC_ cT D s := by
  have ht : ∀ w ∈ am_WL, w.before A s = true := fun w hw => hts w (List.mem_filter.mp hw).1
  obtain ⟨c0, i0, k0⟩ := u_known (C := RX0) (T := TX0) (N := 5) (n := 5) ht am_ws_0 (ht _ (tb_1 (n := 38) rfl rfl))
  obtain ⟨c1, i1, k1⟩ := u_known (C := RX1) (T := TX1) (N := 4) (n := 4) ht am_ws_1 (ht _ (tb_2 (n := 12) rfl rfl))
  obtain ⟨c2, i2, k2⟩ := u_known (C := RX2) (T := TX2) (N := 3) (n := 3) ht am_ws_2 (ht _ (tb_1 (n := 230) rfl rfl))
  obtain ⟨c3, i3, k3⟩ := u_known (C := RX3) (T := TX3) (N := 6) (n := 6) ht am_ws_3 (ht _ (tb_2 (n := 35) rfl rfl))
  obtain ⟨c4, i4, k4⟩ := u_known (C := RX4) (T := TX4) (N := 12) (n := 12) ht am_ws_4 (ht _ (tb_1 (n := 133) rfl rfl))
  obtain ⟨c5, i5, k5⟩ := u_known (C := RX5) (T := TX5) (N := 5) (n := 5) ht am_ws_5 (ht _ (tb_2 (n := 61) rfl rfl))
  obtain ⟨c6, i6, k6⟩ := u_known (C := RX6) (T := TX6) (N := 7) (n := 7) ht am_ws_6 (ht _ (tb_2 (n := 84) rfl rfl))
  obtain ⟨c7, i7, k7⟩ := u_known (C := RX7) (T := TX7) (N := 12) (n := 12) ht am_ws_7 (ht _ (tb_1 (n := 28) rfl rfl))
  obtain ⟨c8, i8, k8⟩ := u_known (C := RX8) (T := TX8) (N := 15) (n := 15) ht am_ws_8 (ht _ (tb_1 (n := 20) rfl rfl))
  obtain ⟨c9, i9, k9⟩ := u_known (C := RX9) (T := TX9) (N := 81) (n := 81) ht am_ws_9 (ht _ (tb_5 (n := 88) rfl rfl))
  obtain ⟨ai, aiO, aiF⟩ := ws_arr (ty := .int) (hts (.arrayClass .int) (tt_1 (n := 62) rfl))
  obtain ⟨ab, abO, abF⟩ := ws_arr (ty := .byte) (hts (.arrayClass .byte) (tt_1 (n := 61) rfl))
  obtain ⟨az, azO, azF⟩ := ws_arr (ty := .boolean) (hts (.arrayClass .boolean) (tt_2 (n := 112) rfl))
  obtain ⟨al, alO, alF⟩ := ws_arr (ty := .long) (hts (.arrayClass .long) (tt_1 (n := 63) rfl))
  have oi : (Cond.arrayOver (.array .int)).before A s = true := hts _ (tt_1 (n := 36) rfl)
  have ol : (Cond.arrayOver (.array .long)).before A s = true := hts _ (tt_1 (n := 34) rfl)
  obtain ⟨aai, aaiO, aaiF⟩ := ws_aa oi
  obtain ⟨aal, aalO, aalF⟩ := ws_aa ol
  refine ⟨(fun k => match k with | 0 => c0 | 1 => c1 | 2 => c2 | 3 => c3 | 4 => c4 | 5 => c5 | 6 => c6 | 7 => c7 | 8 => c8 | _ => c9, fun k => match k with | 0 => i0 | 1 => i1 | 2 => i2 | 3 => i3 | 4 => i4 | 5 => i5 | 6 => i6 | 7 => i7 | 8 => i8 | _ => i9), fun k => match k with | 0 => ai | 1 => ab | 2 => az | 3 => al | 4 => aai | _ => aal, ⟨fun k q hq => ?_, fun k q hq => ?_⟩, kM_same rfl oi, kM_same rfl ol, va_Nw.of rfl (hts _ (tt_1 (n := 29) rfl)), va_Nw.of rfl (hts _ (tt_1 (n := 39) rfl)), va_Nw.of rfl (hts _ (tt_2 (n := 13) rfl)), va_Nw.of rfl (hts _ (tt_2 (n := 85) rfl))⟩
  · match k, hq with
    | 0, hq => cases hq; exact k0
    | 1, hq => cases hq; exact k1
    | 2, hq => cases hq; exact k2
    | 3, hq => cases hq; exact k3
    | 4, hq => cases hq; exact k4
    | 5, hq => cases hq; exact k5
    | 6, hq => cases hq; exact k6
    | 7, hq => cases hq; exact k7
    | 8, hq => cases hq; exact k8
    | 9, hq => cases hq; exact k9
    | k + 10, hq => simp [am_cl] at hq
  · match k, hq with
    | 0, hq => cases hq; exact ⟨aiO, aiF⟩
    | 1, hq => cases hq; exact ⟨abO, abF⟩
    | 2, hq => cases hq; exact ⟨azO, azF⟩
    | 3, hq => cases hq; exact ⟨alO, alF⟩
    | 4, hq => cases hq; exact ⟨aaiO, aaiF⟩
    | 5, hq => cases hq; exact ⟨aalO, aalF⟩
    | k + 6, hq => simp [am_tys] at hq
