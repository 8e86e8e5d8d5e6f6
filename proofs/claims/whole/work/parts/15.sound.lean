theorem am_lay_ok : ∀ {as : List am_V}, (∀ v ∈ as, am_ok v) → ∀ v, some v ∈ am_lay as → am_ok v
  | [], _, v, hv => by cases hv
  | u :: as, h, v, hv => by
    obtain ⟨h1, h2⟩ := List.forall_mem_cons.mp h
    rcases u with z | z | r
    · have hv : some v ∈ some (am_I z) :: am_lay as := hv
      rcases List.mem_cons.mp hv with q | q
      · cases q; exact h1
      · exact am_lay_ok h2 v q
    · have hv : some v ∈ some (am_J z) :: none :: am_lay as := hv
      rcases List.mem_cons.mp hv with q | q
      · cases q; exact h1
      · rcases List.mem_cons.mp q with q | q
        · cases q
        · exact am_lay_ok h2 v q
    · have hv : some v ∈ some (am_q r) :: am_lay as := hv
      rcases List.mem_cons.mp hv with q | q
      · cases q; exact h1
      · exact am_lay_ok h2 v q
section AS
variable {p : Program} {l : Launch} {e : Env} {R : Room} {s : State} {m : MethodId} {args : Array Value} {below : List Frame} {meth : Method} {c : Code} {cells slots : Nat} {Qf : State → Prop} {ad : Nat → Nat} {cT : Nat → ClassId} {D : va_G} {scr : (Nat → Int) × Nat} {own : Nat} {cc : ByteArray} {kc : List am_O}
/-- the contract of String.indexOf(int) on the text of TOKEN_SIGNS -/
def am_Ix (l : Launch) : Prop := ∀ (z : Int) (σ : am_S) (ad : Nat → Nat) (cT : Nat → ClassId) (D : va_G) (scr : (Nat → Int) × Nat), am_r32 z → Met l yJ0_indexOf_0f7a4 (Cond.code yJ0_indexOf_0f7a4 cJ0_indexOf_0f7a4 2 (some .int) :: am_WL) (am_rm 0) (va_Pc [.ref (ad 902), .int (Int32.ofInt z)] (am_Pic ad cT D scr σ)) (am_QC ad cT D scr (fun r σ' => r = some (am_I (am_idx z)) ∧ σ' = σ)) 0 0 (am_A ad)
theorem am_ixw : Cond.code yJ0_indexOf_0f7a4 cJ0_indexOf_0f7a4 2 (some .int) ∈ am_WL := (tb_3 (n := 1) rfl rfl)
theorem as_index {d : Nat} (hx : p.tables.exec = Jvm.exec) (hb : c.code = cc) (hown : s.vm.findClass (am_own own) = some m.cls) (hts : ∀ w ∈ am_WL, w.before args s = true) (ho : own < 12) (hc : am_okc own cc kc = true) (hK : va_K D am_cl (am_tys cT) s) (hSt : am_St ad scr s s.heap) (hR : d + 9 ≤ R.frames ∧ 40 * d + 440 ≤ R.locals ∧ cells ≤ R.cells ∧ slots ≤ R.slots) (hIx : am_Ix l) : ar_index (am_Ev d) kc (am_Sim p l e R s m args below meth c cells slots Qf ad cT D scr) := by
  intro pc L S σ j z rest h1 h3 hS0 h5 hL hs hS hA H locs ls hP hV hl
  subst hS0
  have hcs : am_cats rest ≤ 8 := Nat.le_of_ble_eq_true h3
  obtain ⟨hz, hS1⟩ := List.forall_mem_cons.mp hS
  obtain ⟨-, hrest⟩ := List.forall_mem_cons.mp hS1
  have pics : ∀ U : State, U.heap = H → s.WarmedH U.vm → am_Pic ad cT D scr σ U := fun U hU hW => ⟨by rw [hU]; exact hP, hK.moved hW.alike, hs, by rw [hU]; exact am_St_go hW hV hSt⟩
  have hml : c.maxLocals = L.length := hL.symm
  obtain ⟨hd, ha, hn⟩ := am_okc_lk hc h1
  have ha1 : (am_has (j, 1900) (am_ml own) && true && true) = true := ha
  rw [Bool.and_true, Bool.and_true] at ha1
  have hq : (fun r σ' => am_Sim p l e R s m args below meth c cells slots Qf ad cT D scr (pc + 3) L (am_ret r rest) σ') (some (am_I (am_idx z))) σ := by
    cases d with
    | zero => exact h5.elim
    | succ d =>
      rcases h5 with ⟨-, z', e1, e2⟩ | ⟨q, -⟩
      · cases e1
        exact e2
      · cases q
  have hcb : CallB R s args (am_own own) j yJ0_indexOf_0f7a4 cJ0_indexOf_0f7a4 2 (some .int) (Cond.code yJ0_indexOf_0f7a4 cJ0_indexOf_0f7a4 2 (some .int) :: am_WL) (am_rm 0) 0 0 1 :=
    callB_of 1 hts (fun w hw => by
      rcases List.mem_cons.mp hw with rfl | h1
      · exact ⟨am_ixw, good_of_word (List.mem_filter.mp am_ixw).2⟩
      · exact ⟨h1, good_of_word (List.mem_filter.mp h1).2⟩) rfl rfl rfl (hts _ (tb_1 (n := 5) rfl rfl)) (hts _ (am_ml_in ho (am_has_mem ha1))) ⟨by decide +kernel, by decide +kernel, by decide +kernel⟩ ⟨by show 0 + 8 + 1 ≤ R.frames; omega, by show 8 + (2 + 11) + (40 * 0 + 400) ≤ R.locals; omega⟩
  refine am_callX (va_runV (C := "java/lang/String") (b := ad 902) (As := [.int (Int32.ofInt z)]) (rest := rest.map (am_tr ad)) ⟨hx, hb, hml, hown, hts⟩ (hIx z σ ad cT D scr hz) ⟨hcb, hts _ (tb_2 (n := 239) rfl rfl), hts _ (tb_3 (n := 0) rfl rfl)⟩ ⟨am_blind ad cT D scr σ _, vk_recv (i := 0) hSt.2.2.2.2.1 (by decide) hV, fun U hU hW => ⟨rfl, pics U hU hW⟩⟩ rfl rfl hl.1 rfl (lv_room (by rw [am_cats_sum]; exact hcs)) hd ⟨hR.2.2.1, hR.2.2.2⟩) hV (fun r σ' H1 locs1 hq1 hP1 hs1 hk hV1 => ?_)
  obtain ⟨rfl, rfl⟩ := hq1
  exact hq hL hs1 (List.forall_mem_cons.mpr ⟨hk _ rfl, hrest⟩) hA H1 locs1 ls hP1 hV1 hl
theorem as_ret {x rk : Nat} {Q : Option am_V → am_S → Prop} (hx : p.tables.exec = Jvm.exec) (hb : c.code = cc) (hc : am_okc own cc kc = true) (hlocks : meth.locks = false) (hr : meth.sig.returnType = (match rk with
  | 0 => some .int
  | 1 => some .boolean
  | 2 => some .long
  | 3 => some (.array .int)
  | 4 => none
  | _ => some .double)) : ar_ret rk kc Q (am_Sim p l e R s m args below meth c 0 0 (MQ below (am_QC ad cT D scr Q) args s 0 0 (am_A ad)) ad cT D scr) := by
  intro pc L S σ i x r h1 h2 hQ hL hs hS hA H locs ls hP hV hl
  obtain ⟨hd, ha, hn⟩ := am_okc_lk hc h1
  unfold am_rok at h2
  split at h2
  · subst h2
    exact W.iret hx hb hr (fun t ht hW => ⟨⟨_, σ, hQ, rfl, by rw [ht]; exact hP, hs, fun v hv => by cases hv; exact hS _ List.mem_cons_self⟩, hV.F ht⟩) hV.2.2 hd hlocks
  · next z r =>
    obtain ⟨rfl, hz⟩ := h2
    exact W.zret hx hb hr (by rcases hz with rfl | rfl <;> rfl) (fun t ht hW => ⟨⟨_, σ, hQ, rfl, by rw [ht]; exact hP, hs, fun v hv => by cases hv; exact hS _ List.mem_cons_self⟩, hV.F ht⟩) hV.2.2 hd hlocks
  · subst h2
    exact W.lret hx hb hr (fun t ht hW => ⟨⟨_, σ, hQ, rfl, by rw [ht]; exact hP, hs, fun v hv => by cases hv; exact hS _ List.mem_cons_self⟩, hV.F ht⟩) hV.2.2 hd hlocks
  · subst h2
    exact W.aret hx hb hr (Or.inr ⟨_, rfl⟩) (Or.inr ⟨_, rfl⟩) (fun t ht hW => ⟨⟨_, σ, hQ, rfl, by rw [ht]; exact hP, hs, fun v hv => by cases hv; trivial⟩, hV.F ht⟩) hV.2.2 hd hlocks
  · subst h2
    exact W.vret hx hb hr (fun t ht hW => ⟨⟨_, σ, hQ, rfl, by rw [ht]; exact hP, hs, fun v hv => by cases hv⟩, hV.F ht⟩) hV.2.2 hd hlocks
  · exact h2.elim
/-- all rules but the return -/
theorem as_all {d rk : Nat} {Q : Option am_V → am_S → Prop} (hx : p.tables.exec = Jvm.exec) (hb : c.code = cc) (hown : s.vm.findClass (am_own own) = some m.cls) (hts : ∀ w ∈ am_WL, w.before args s = true) (ho : own < 12) (hc : am_okc own cc kc = true) (hK : va_K D am_cl (am_tys cT) s) (hinj : ∀ i j, i < am_NC → j < am_NC → ad i = ad j → i = j) (hSt : am_St ad scr s s.heap) (hR : d + 9 ≤ R.frames ∧ 40 * d + 440 ≤ R.locals ∧ cells ≤ R.cells ∧ slots ≤ R.slots) (hE : am_Ct l d (am_Ev d)) (hIx : am_Ix l) (hret : ar_ret rk kc Q (am_Sim p l e R s m args below meth c cells slots Qf ad cT D scr)) : am_C (am_Ev d) am_na am_rcv rk kc Q (am_Sim p l e R s m args below meth c cells slots Qf ad cT D scr) :=
  have hR1 : 1 ≤ R.frames ∧ 40 ≤ R.locals ∧ cells ≤ R.cells ∧ slots ≤ R.slots := ⟨by omega, by omega, hR.2.2.1, hR.2.2.2⟩
  ⟨as_const hx hb hown hts ho hc, as_load hx hb hc, as_store hx hb hc, as_iinc hx hb hc, as_bop hx hb hc, as_div hx hb hc, as_rem hx hb hc, as_i2l hx hb hc, as_lor hx hb hc, as_lshl hx hb hc, as_lcmp hx hb hc, as_i2b hx hb hc, as_i2c hx hb hc, as_dup hx hb hc, as_pop hx hb hc, as_dup2 hx hb hc, as_if hx hb hc, as_icmp hx hb hc, as_goto hx hb hc, as_tsw hx hb hc, as_lsw hx hb hc, as_getf hx hb hown hts ho hc hK, as_putf hx hb hown hts ho hc hK hinj, as_putz hx hb hown hts ho hc hK hinj, as_gets hx hb hown hts hc hSt, as_iald hx hb hc hK, as_bald hx hb hc hK, as_lald hx hb hc hK, as_aald hx hb hc hK, as_iast hx hb hc hK hinj, as_bast hx hb hc hK hinj, as_zast hx hb hc hK hinj, as_last hx hb hc hK hinj, as_alen hx hb hc hK, as_sld hx hb hc hSt, as_slen hx hb hc hSt, as_tld hx hb hc hSt, as_ldcs hx hb hown hc hSt, as_call hx hb hown hts ho hc hK hinj hSt hR hE, as_index hx hb hown hts ho hc hK hSt hR hIx, as_max hx hb hown hts ho hc hR1, as_min hx hb hown hts ho hc hR1, as_copy hx hb hown hts ho hc hK hinj hR1, hret⟩
end AS
/-- what a method's relation says, the machine does -/
theorem am_sound (l : Launch) (hIx : am_Ix l) (hby : ∀ m, m < 263 → am_okc (am_ow m) (am_b m) (am_cd m) = true) : ∀ d, am_Ct l d (am_Ev d)
  | 0 => fun _ _ _ _ h => h.elim
  | d + 1 => by
    have ih := am_sound l hIx hby d
    intro x as σ Q hEv hx1 hx2 hok ad cT D scr hinj
    have hnb : Nat.ble x 1899 = true ∧ Nat.ble (am_lay as).length (am_nL x) = true ∧ am_W (am_Ev d) am_na am_rcv (am_rkd x) (am_cd x) Q 0 (am_pad (am_nL x) (am_lay as)) [] σ := by
      rcases hEv with ⟨q, -⟩ | q
      · omega
      · exact q
    obtain ⟨-, hlen, hW⟩ := hnb
    have hlen : (am_lay as).length ≤ am_nL x := Nat.le_of_ble_eq_true hlen
    have mr := am_mre hx2
    unfold am_mrest at mr
    simp only [Bool.and_eq_true, decide_eq_true_eq] at mr
    obtain ⟨⟨⟨⟨⟨⟨⟨⟨⟨⟨r1, r2⟩, r3⟩, r4⟩, r5⟩, r6⟩, r7⟩, r8⟩, r9⟩, r10⟩, r11⟩ := mr
    refine Met.ofW (cc := am_b x) (maxL := am_nL x) (ret := am_rt x) r1 rfl ?_
    intro p e s m args below meth c s₁ B hml hv
    obtain ⟨rfl, hP, hK, hs, hSt⟩ := hv
    have hts0 := atoms_spec (ws := Cond.code (am_y x) (am_b x) (am_nL x) (am_rt x) :: am_WL) B.pre
    have hts : ∀ w ∈ am_WL, w.before ((as.map (am_tr ad)).toArray) s = true := fun w hw => hts0 w (List.mem_cons_of_mem _ hw)
    have hown : s.vm.findClass (am_own (am_ow x)) = some m.cls := by rw [r6]; exact findClass_of_methodNamed B.named
    rw [lg_entry_eq]
    have hrep := am_lrep_entry ad as hlen
    have hLl : (am_pad (am_nL x) (am_lay as)).length = am_nL x := by
      unfold am_pad
      rw [List.length_append, List.length_replicate]
      omega
    refine hW (am_Sim p l e _ s m _ below meth c 0 0 (MQ below (am_QC ad cT D scr Q) _ s 0 0 (am_A ad)) ad cT D scr) (as_all B.exec B.bytes hown hts (Nat.lt_of_succ_le (by simpa [Nat.blt] using r10)) (hby x hx2) hK hinj hSt ⟨by show d + 9 ≤ d + 1 + 8; omega, by show 40 * d + 440 ≤ 40 * (d + 1) + 400; omega, Nat.zero_le _, Nat.zero_le _⟩ ih hIx (as_ret (x := x) B.exec B.bytes (hby x hx2) B.notSynchronized (by rw [B.returns]; exact r9))) (by rw [hLl, hml]) hs (fun v hv => by cases hv) (fun v hv => ?_) s.heap [] _ hP va_S.rf hrep
    unfold am_pad at hv
    rcases List.mem_append.mp hv with h | h
    · exact am_lay_ok hok v h
    · have := List.eq_of_mem_replicate h
      cases this
