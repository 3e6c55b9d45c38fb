set_option maxHeartbeats 4000000 in
set_option maxRecDepth 100000 in
theorem c_X11_fee (l : Launch) (g : xG) (σ : xS) (ph : Nat) (tk : Int) (hx0 : XObj g σ.1 ph tk) (hH : HsOk σ) (Kf : Int → Option Nat) (So Sz : Int → Int) (h25 : MRef g σ.1 25 8 Kf) (h26 : MArr g σ.1 26 8 So) (h27 : MArr g σ.1 27 8 Sz) (hxs : XsOk σ Kf So Sz) (d : Int) (hd : inR d) : Met l yX11_fee wsX11_fee ({ frames := 4, cells := 0, slots := 0, locals := 128 }) (va_Pc [.ref (g.2.2 0), .int (iI (d))] (xPre g σ)) (x_Si (fun r => r = (if zKeptR (xKp Kf So) d ≠ 0 then zKeptR (xKp Kf So) d else zFee (sK σ Kf d) (sF σ Kf d)))) (0) (0) (fun _ => False) := by
  refine Met.ofW (cc := cX11_fee) (maxL := 3) (ret := (some .int)) (by decide) rfl ?_
  intro p e s m args below meth c s₁ B hml hv
  obtain ⟨rfl, hP, hK⟩ := hv
  have hx := B.exec
  have hb := B.bytes
  have hr := B.returns
  have hts := atoms_spec (ws := wsX11_fee) B.pre
  have hown : s.vm.findClass RX11 = some m.cls := findClass_of_methodNamed B.named
  have hlocks := B.notSynchronized
  have hl := lv_entry ([.ref (g.2.2 0), .int (iI (d))]) (n := 3) (Nat.le_of_ble_eq_true rfl)
  rw [lg_entry_eq]
  generalize (lg_sl ([.ref (g.2.2 0), .int (iI (d))]) ++ List.replicate (3 - (lg_sl ([.ref (g.2.2 0), .int (iI (d))])).length) Slot.unset).toArray = ls at hl ⊢
  have hl : lv_has ls 3 [(0, .ref (g.2.2 0)), (1, .int (iI (d)))] := hl
  have hw_0 := hts (.fieldLink RX11 45 "TwiceAsRich" "kept" "[LTwiceAsRich$House;") (by decide +kernel)
  have hin_X11 : ∀ w ∈ wsX110, w ∈ wsX11_fee := by decide +kernel
  have hw_2 := (show (Cond.code yX3_price cX3_price 1 (some .int)) ∈ wsX11_fee by decide +kernel)
  refine lv_aload_n hx hb dX11_fee_0 rfl (lv_at hl 0 rfl) ?_
  refine lv_iload_n hx hb dX11_fee_1 rfl (lv_at hl 1 rfl) ?_
  refine x_ci (va_runV (As := [.int (iI (d))]) (rest := []) ⟨hx, hb, hml, hown, hts⟩ (c_X11_houseRefusal l g σ ph tk hx0 Kf So Sz h25 h26 h27 hxs (d) (by omega)) (cwV 1 hts gX11_fee_X11_houseRefusal rfl rfl rfl (by decide +kernel) ⟨Nat.le_of_ble_eq_true rfl, Nat.le_of_ble_eq_true rfl⟩) (x_preV hK hP (x_recv hK hP (i := 0) (by decide) hx0 rfl)) rfl rfl hl.1 rfl (lv_room (Nat.le_of_ble_eq_true rfl)) dX11_fee_2 ⟨Nat.le_of_ble_eq_true rfl, Nat.le_of_ble_eq_true rfl⟩) (fun r_2 hr_2 qr_2 => ?_)
  replace qr_2 : r_2 = zKeptR (xKp Kf So) (d) := qr_2
  refine lv_istore_n (lv' := [(2, .int (iI (r_2))), (0, .ref (g.2.2 0)), (1, .int (iI (d)))]) hx hb dX11_fee_5 rfl hl (by decide) rfl (fun ls hl => ?_)
  refine lv_iload_n hx hb dX11_fee_6 rfl (lv_at hl 0 rfl) ?_
  refine x_if_eq (tgt := 14) hx hb (by omega) dX11_fee_7 (by decide) (fun c_7 => ?_) (fun c_7 => ?_)
  · have hk9 := zKeptR_0 qr_2 (by omega)
    refine lv_aload_n hx hb dX11_fee_14 rfl (lv_at hl 1 rfl) ?_
    refine x_get (C := RX11) (T := TX11) (N := 11) hx hb hts hin_X11 hown hK hP (0) (by decide) hx0 rfl 7 (by decide) hw_0 (fun _ h9 => h9) rfl dX11_fee_15 ?_
    refine lv_iload_n hx hb dX11_fee_18 rfl (lv_at hl 2 rfl) ?_
    rcases hG_a_1 : Kf (d) with _ | a_1
    · refine x_aaldN (C := RX3) (f := Kf) 1 hx hb hK hP (25) (by decide) h25 rfl (by omega) (by omega) (by decide) hG_a_1 dX11_fee_19 ?_
      exfalso; have z9 := zKeptR_0 qr_2 (by omega); (have e9 : xKp Kf So d = if So d = -1 then 0 else 2 := by simp only [xKp, kpO, hG_a_1]); split at e9 <;> omega
    · have ha_a_1 := hxs.2.2.1 _ _ hG_a_1
      refine x_aaldS (C := RX3) (f := Kf) 1 hx hb hK hP (25) (by decide) h25 rfl (by omega) (by omega) (by decide) hG_a_1 dX11_fee_19 ?_
      have eK : sK σ Kf d = σ.2.2.1 a_1 := by simp only [sK, kdO, hG_a_1]
      have eF : sF σ Kf d = σ.2.2.2 a_1 := by simp only [sF, fgO, hG_a_1]
      refine x_ci (rest := []) (a := ([.ref a_1] : List Value).toArray) (post := fun r => r = zFee (σ.2.2.1 a_1) (σ.2.2.2 a_1)) (by
        have hk0 := (hH a_1 ha_a_1).1
        have hk : σ.2.2.1 a_1 = 0 ∨ σ.2.2.1 a_1 = 1 ∨ σ.2.2.1 a_1 = 2 ∨ σ.2.2.1 a_1 = 3 ∨ σ.2.2.1 a_1 = 4 ∨ σ.2.2.1 a_1 = 5 ∨ σ.2.2.1 a_1 = 6 ∨ σ.2.2.1 a_1 = 7 := by omega
        rcases hk with hk | hk | hk | hk | hk | hk | hk | hk
        · exact x_run_mono (va_runV (As := []) (rest := []) ⟨hx, hb, hml, hown, hts⟩ (c_X3_price l g σ hH a_1 ha_a_1) (cwV 0 hts gX11_fee_X3_price rfl rfl rfl (by decide +kernel) ⟨Nat.le_of_ble_eq_true rfl, Nat.le_of_ble_eq_true rfl⟩) (x_preV hK hP (x_recvH (q := (RX3, TX3, 1)) hK hP ha_a_1 (by rw [hk]; rfl))) rfl rfl hl.1 rfl (lv_room (Nat.le_of_ble_eq_true rfl)) dX11_fee_20 ⟨Nat.le_of_ble_eq_true rfl, Nat.le_of_ble_eq_true rfl⟩) (fun r hr => hr.trans (by rw [hk]; rfl))
        · exact x_run_mono (va_runU (As := []) (rest := []) ⟨hx, hb, hml, hown, hts⟩ (c_X2_price l g σ hH a_1 ha_a_1) (va_cwO 0 hts gX11_fee_X2_price_u267X2 rfl rfl rfl (b0 := cX3_price) (m0 := 1) (r0 := (some .int)) hw_2 (by decide +kernel) ⟨Nat.le_of_ble_eq_true rfl, Nat.le_of_ble_eq_true rfl⟩) (x_preV hK hP (x_recvH (q := (RX2, TX2, 1)) hK hP ha_a_1 (by rw [hk]; rfl))) rfl rfl hl.1 rfl (lv_room (Nat.le_of_ble_eq_true rfl)) dX11_fee_20 ⟨Nat.le_of_ble_eq_true rfl, Nat.le_of_ble_eq_true rfl⟩) (fun r hr => hr.trans (by rw [hk]; rfl))
        · exact x_run_mono (va_runU (As := []) (rest := []) ⟨hx, hb, hml, hown, hts⟩ (c_X6_price l g σ hH a_1 ha_a_1) (va_cwO 0 hts gX11_fee_X6_price_u267X6 rfl rfl rfl (b0 := cX3_price) (m0 := 1) (r0 := (some .int)) hw_2 (by decide +kernel) ⟨Nat.le_of_ble_eq_true rfl, Nat.le_of_ble_eq_true rfl⟩) (x_preV hK hP (x_recvH (q := (RX6, TX6, 1)) hK hP ha_a_1 (by rw [hk]; rfl))) rfl rfl hl.1 rfl (lv_room (Nat.le_of_ble_eq_true rfl)) dX11_fee_20 ⟨Nat.le_of_ble_eq_true rfl, Nat.le_of_ble_eq_true rfl⟩) (fun r hr => hr.trans (by rw [hk]; rfl))
        · exact x_run_mono (va_runU (As := []) (rest := []) ⟨hx, hb, hml, hown, hts⟩ (c_X10_price l g σ hH a_1 ha_a_1) (va_cwO 0 hts gX11_fee_X10_price_u267X10 rfl rfl rfl (b0 := cX3_price) (m0 := 1) (r0 := (some .int)) hw_2 (by decide +kernel) ⟨Nat.le_of_ble_eq_true rfl, Nat.le_of_ble_eq_true rfl⟩) (x_preV hK hP (x_recvH (q := (RX10, TX10, 1)) hK hP ha_a_1 (by rw [hk]; rfl))) rfl rfl hl.1 rfl (lv_room (Nat.le_of_ble_eq_true rfl)) dX11_fee_20 ⟨Nat.le_of_ble_eq_true rfl, Nat.le_of_ble_eq_true rfl⟩) (fun r hr => hr.trans (by rw [hk]; rfl))
        · exact x_run_mono (va_runU (As := []) (rest := []) ⟨hx, hb, hml, hown, hts⟩ (c_X4_price l g σ hH a_1 ha_a_1) (va_cwO 0 hts gX11_fee_X4_price_u267X4 rfl rfl rfl (b0 := cX3_price) (m0 := 1) (r0 := (some .int)) hw_2 (by decide +kernel) ⟨Nat.le_of_ble_eq_true rfl, Nat.le_of_ble_eq_true rfl⟩) (x_preV hK hP (x_recvH (q := (RX4, TX4, 1)) hK hP ha_a_1 (by rw [hk]; rfl))) rfl rfl hl.1 rfl (lv_room (Nat.le_of_ble_eq_true rfl)) dX11_fee_20 ⟨Nat.le_of_ble_eq_true rfl, Nat.le_of_ble_eq_true rfl⟩) (fun r hr => hr.trans (by rw [hk]; rfl))
        · exact x_run_mono (va_runU (As := []) (rest := []) ⟨hx, hb, hml, hown, hts⟩ (c_X0_price l g σ hH a_1 ha_a_1) (va_cwO 0 hts gX11_fee_X0_price_u267X0 rfl rfl rfl (b0 := cX3_price) (m0 := 1) (r0 := (some .int)) hw_2 (by decide +kernel) ⟨Nat.le_of_ble_eq_true rfl, Nat.le_of_ble_eq_true rfl⟩) (x_preV hK hP (x_recvH (q := (RX0, TX0, 1)) hK hP ha_a_1 (by rw [hk]; rfl))) rfl rfl hl.1 rfl (lv_room (Nat.le_of_ble_eq_true rfl)) dX11_fee_20 ⟨Nat.le_of_ble_eq_true rfl, Nat.le_of_ble_eq_true rfl⟩) (fun r hr => hr.trans (by rw [hk]; rfl))
        · exact x_run_mono (va_runU (As := []) (rest := []) ⟨hx, hb, hml, hown, hts⟩ (c_X9_price l g σ hH a_1 ha_a_1) (va_cwO 0 hts gX11_fee_X9_price_u267X9 rfl rfl rfl (b0 := cX3_price) (m0 := 1) (r0 := (some .int)) hw_2 (by decide +kernel) ⟨Nat.le_of_ble_eq_true rfl, Nat.le_of_ble_eq_true rfl⟩) (x_preV hK hP (x_recvH (q := (RX9, TX9, 1)) hK hP ha_a_1 (by rw [hk]; rfl))) rfl rfl hl.1 rfl (lv_room (Nat.le_of_ble_eq_true rfl)) dX11_fee_20 ⟨Nat.le_of_ble_eq_true rfl, Nat.le_of_ble_eq_true rfl⟩) (fun r hr => hr.trans (by rw [hk]; rfl))
        · exact x_run_mono (va_runU (As := []) (rest := []) ⟨hx, hb, hml, hown, hts⟩ (c_X1_price l g σ hH a_1 ha_a_1) (va_cwO 0 hts gX11_fee_X1_price_u267X1 rfl rfl rfl (b0 := cX3_price) (m0 := 1) (r0 := (some .int)) hw_2 (by decide +kernel) ⟨Nat.le_of_ble_eq_true rfl, Nat.le_of_ble_eq_true rfl⟩) (x_preV hK hP (x_recvH (q := (RX1, TX1, 1)) hK hP ha_a_1 (by rw [hk]; rfl))) rfl rfl hl.1 rfl (lv_room (Nat.le_of_ble_eq_true rfl)) dX11_fee_20 ⟨Nat.le_of_ble_eq_true rfl, Nat.le_of_ble_eq_true rfl⟩) (fun r hr => hr.trans (by rw [hk]; rfl))) (fun r_20 hr_20 qr_20 => ?_)
      replace qr_20 : r_20 = zFee (σ.2.2.1 a_1) (σ.2.2.2 a_1) := qr_20
      have br_20 := zFee_rng (σ.2.2.1 a_1) (hH a_1 ha_a_1).2; rw [← qr_20] at br_20
      refine x_retP hx hb hr (by omega) ?_ dX11_fee_23 hlocks
      first | (rw [if_pos (by omega)]; omega) | (rw [if_neg (by omega), eK, eF]; exact qr_20)
  · refine lv_iload_n hx hb dX11_fee_10 rfl (lv_at hl 0 rfl) ?_
    refine lv_goto (tgt := 23) hx hb dX11_fee_11 (by decide) ?_
    refine x_retP hx hb hr (by omega) ?_ dX11_fee_23 hlocks
    first | (rw [if_pos (by omega)]; omega) | (rw [if_neg (by omega), eK, eF]; exact qr_20)

set_option maxHeartbeats 4000000 in
set_option maxRecDepth 100000 in
theorem c_X11_comes (l : Launch) (g : xG) (σ : xS) (A : Nat → Prop) (ph : Nat) (tk : Int) (hx0 : XObj g σ.1 ph tk) (n rd : Int) (P : Int → Int) (G : Int → Option Nat) (hst : StAt g σ.1 1 n rd P G) (hok : StOk σ n rd P G) (hH : HsOk σ) (Kf : Int → Option Nat) (So Sz : Int → Int) (h25 : MRef g σ.1 25 8 Kf) (h26 : MArr g σ.1 26 8 So) (h27 : MArr g σ.1 27 8 Sz) (hxs : XsOk σ Kf So Sz) (hn8 : n ≤ 8) (d : Int) (hd : inR d) (pu : Int) (hpu : inR pu) : Met l yX11_comes wsX11_comes ({ frames := 3, cells := 0, slots := 0, locals := 96 }) (va_Pc [.ref (g.2.2 0), .int (iI (d)), .int (iI (pu))] (xPreQ g A σ)) (x_Qi g A (fun r σ1 => σ1.2 = σ.2 ∧ (∀ j, j ≠ 1 ∧ j ≠ 2 ∧ j ≠ 3 → σ1.1 j = σ.1 j) ∧ r = zComesR (xKp Kf So) n d pu ∧ ((r < 0 ∧ StAt g σ1.1 1 (n) (rd) (P) (G)) ∨ (0 ≤ r ∧ r = n ∧ StAt g σ1.1 1 (n + 1) (rd) (upI P n pu) (upI G n (Kf d)))))) (0) (0) A := by
  refine Met.ofW (cc := cX11_comes) (maxL := 4) (ret := (some .int)) (by decide) rfl ?_
  intro p e s m args below meth c s₁ B hml hv
  obtain ⟨rfl, hP, hK, hD, hA⟩ := hv
  have hx := B.exec
  have hb := B.bytes
  have hr := B.returns
  have hts := atoms_spec (ws := wsX11_comes) B.pre
  have hown : s.vm.findClass RX11 = some m.cls := findClass_of_methodNamed B.named
  have hlocks := B.notSynchronized
  have hS : va_S A s.heap s.heap [] := va_S.rf
  have hfr : ∀ j, (j ≠ 1 ∧ j ≠ 2 ∧ j ≠ 3) → σ.1 j = σ.1 j := fun _ _ => rfl
  have hl := lv_entry ([.ref (g.2.2 0), .int (iI (d)), .int (iI (pu))]) (n := 4) (Nat.le_of_ble_eq_true rfl)
  rw [lg_entry_eq]
  generalize (lg_sl ([.ref (g.2.2 0), .int (iI (d)), .int (iI (pu))]) ++ List.replicate (4 - (lg_sl ([.ref (g.2.2 0), .int (iI (d)), .int (iI (pu))])).length) Slot.unset).toArray = ls at hl ⊢
  have hl : lv_has ls 4 [(0, .ref (g.2.2 0)), (1, .int (iI (d))), (2, .int (iI (pu)))] := hl
  have hm0 : σ.1 1 = .inr (7, [.ref (g.2.2 2), .ref (g.2.2 3), .int (iI n), .int (iI rd)]) := hst.1
  have hm1 : MRef g σ.1 2 9 G := hst.2.1
  have hm2 : MArr g σ.1 3 9 P := hst.2.2
  have hok1 := hok.1
  have hok2 := hok.2.1
  have hok3 := hok.2.2.1
  have hw_0 := hts (.fieldLink RX11 10 "TwiceAsRich" "street" "LTwiceAsRich$Street;") (by decide +kernel)
  have hin_X11 : ∀ w ∈ wsX110, w ∈ wsX11_comes := by decide +kernel
  have hw_2 := hts (.fieldLink RX11 126 "TwiceAsRich$Street" "count" "I") (by decide +kernel)
  have hin_X7 : ∀ w ∈ wsX70, w ∈ wsX11_comes := by decide +kernel
  have hw_4 := hts (.fieldLink RX11 45 "TwiceAsRich" "kept" "[LTwiceAsRich$House;") (by decide +kernel)
  refine lv_iload_n hx hb dX11_comes_0 rfl (lv_at hl 2 rfl) ?_
  refine x_ci (va_runS (As := [.int (iI (pu))]) (rest := []) ⟨hx, hb, hml, hown, hts⟩ (c_X11_isPurse l g σ  (pu) (by omega)) (va_cwS 1 hts gX11_comes_X11_isPurse rfl rfl rfl (by decide +kernel) ⟨Nat.le_of_ble_eq_true rfl, Nat.le_of_ble_eq_true rfl⟩) (x_preS hK hP) rfl rfl hl.1 rfl (lv_room (Nat.le_of_ble_eq_true rfl)) dX11_comes_1 ⟨Nat.le_of_ble_eq_true rfl, Nat.le_of_ble_eq_true rfl⟩) (fun r_1 hr_1 qr_1 => ?_)
  replace qr_1 : (r_1 = 1 ∧ 0 ≤ (pu) ∧ (pu) ≤ 9999) ∨ (r_1 = 0 ∧ ¬ (0 ≤ (pu) ∧ (pu) ≤ 9999)) := qr_1
  refine x_if_ne (tgt := 9) hx hb (by omega) dX11_comes_4 (by decide) (fun c_4 => ?_) (fun c_4 => ?_)
  · refine lv_aload_n hx hb dX11_comes_9 rfl (lv_at hl 0 rfl) ?_
    refine lv_iload_n hx hb dX11_comes_10 rfl (lv_at hl 1 rfl) ?_
    refine x_ci (va_runV (As := [.int (iI (d))]) (rest := []) ⟨hx, hb, hml, hown, hts⟩ (c_X11_houseRefusal l g σ ph tk hx0 Kf So Sz h25 h26 h27 hxs (d) (by omega)) (cwV 1 hts gX11_comes_X11_houseRefusal rfl rfl rfl (by decide +kernel) ⟨Nat.le_of_ble_eq_true rfl, Nat.le_of_ble_eq_true rfl⟩) (x_preV hK hP (x_recv hK hP (i := 0) (by decide) hx0 rfl)) rfl rfl hl.1 rfl (lv_room (Nat.le_of_ble_eq_true rfl)) dX11_comes_11 ⟨Nat.le_of_ble_eq_true rfl, Nat.le_of_ble_eq_true rfl⟩) (fun r_11 hr_11 qr_11 => ?_)
    replace qr_11 : r_11 = zKeptR (xKp Kf So) (d) := qr_11
    refine lv_istore_n (lv' := [(3, .int (iI (r_11))), (0, .ref (g.2.2 0)), (1, .int (iI (d))), (2, .int (iI (pu)))]) hx hb dX11_comes_14 rfl hl (by decide) rfl (fun ls hl => ?_)
    refine lv_iload_n hx hb dX11_comes_15 rfl (lv_at hl 0 rfl) ?_
    refine x_if_eq (tgt := 21) hx hb (by omega) dX11_comes_16 (by decide) (fun c_16 => ?_) (fun c_16 => ?_)
    · have hk9 := zKeptR_0 qr_11 (by omega)
      refine lv_aload_n hx hb dX11_comes_21 rfl (lv_at hl 1 rfl) ?_
      refine x_get (C := RX11) (T := TX11) (N := 11) hx hb hts hin_X11 hown hK hP (0) (by decide) hx0 rfl 0 (by decide) hw_0 (fun _ h9 => h9) rfl dX11_comes_22 ?_
      refine x_get (C := RX7) (T := TX7) (N := 4) hx hb hts hin_X7 hown hK hP (1) (by decide) hm0 rfl 2 (by decide) hw_2 (fun _ h9 => h9) rfl dX11_comes_25 ?_
      refine x_bipush (n := 8) hx hb (by decide +kernel) dX11_comes_28 ?_
      refine x_icmp_lt (tgt := 36) hx hb (by omega) (by omega) dX11_comes_30 (by decide) (fun c_30 => ?_) (fun c_30 => ?_)
      · refine lv_aload_n hx hb dX11_comes_36 rfl (lv_at hl 1 rfl) ?_
        refine x_get (C := RX11) (T := TX11) (N := 11) hx hb hts hin_X11 hown hK hP (0) (by decide) hx0 rfl 0 (by decide) hw_0 (fun _ h9 => h9) rfl dX11_comes_37 ?_
        refine lv_aload_n hx hb dX11_comes_40 rfl (lv_at hl 1 rfl) ?_
        refine x_get (C := RX11) (T := TX11) (N := 11) hx hb hts hin_X11 hown hK hP (0) (by decide) hx0 rfl 0 (by decide) hw_0 (fun _ h9 => h9) rfl dX11_comes_41 ?_
        refine x_get (C := RX7) (T := TX7) (N := 4) hx hb hts hin_X7 hown hK hP (1) (by decide) hm0 rfl 2 (by decide) hw_2 (fun _ h9 => h9) rfl dX11_comes_44 ?_
        refine lv_aload_n hx hb dX11_comes_47 rfl (lv_at hl 1 rfl) ?_
        refine x_get (C := RX11) (T := TX11) (N := 11) hx hb hts hin_X11 hown hK hP (0) (by decide) hx0 rfl 7 (by decide) hw_4 (fun _ h9 => h9) rfl dX11_comes_48 ?_
        refine lv_iload_n hx hb dX11_comes_51 rfl (lv_at hl 2 rfl) ?_
        rcases hG_a_1 : Kf (d) with _ | a_1
        · refine x_aaldN (C := RX3) (f := Kf) 1 hx hb hK hP (25) (by decide) h25 rfl (by omega) (by omega) (by decide) hG_a_1 dX11_comes_52 ?_
          exfalso; have z9 := zKeptR_0 qr_11 (by omega); (have e9 : xKp Kf So d = if So d = -1 then 0 else 2 := by simp only [xKp, kpO, hG_a_1]); split at e9 <;> omega
        · have ha_a_1 := hxs.2.2.1 _ _ hG_a_1
          refine x_aaldS (C := RX3) (f := Kf) 1 hx hb hK hP (25) (by decide) h25 rfl (by omega) (by omega) (by decide) hG_a_1 dX11_comes_52 ?_
          refine lv_iload_n hx hb dX11_comes_53 rfl (lv_at hl 3 rfl) ?_
          have hKd : Kf d = some a_1 := hG_a_1
          refine x_cqv0 (va_runV (As := [.int (iI (n)), .ref a_1, .int (iI (pu))]) (rest := []) ⟨hx, hb, hml, hown, hts⟩ (c_X7_insert l g σ A (1) (by decide) (n) (rd) P G ⟨hm0, hm1, hm2⟩ hok hH (by omega) (n) (by omega) a_1 ha_a_1 (pu) (by omega)) (cwV 3 hts gX11_comes_X7_insert rfl rfl rfl (by decide +kernel) ⟨Nat.le_of_ble_eq_true rfl, Nat.le_of_ble_eq_true rfl⟩) (x_preVQ hK hP hD hS hA (x_recv hK hP (i := 1) (by decide) hm0 rfl)) rfl rfl hl.1 rfl (lv_room (Nat.le_of_ble_eq_true rfl)) dX11_comes_54 ⟨by decide, by decide⟩) hS (fun σ1 H locs hpost hP hD hS => ?_)
          obtain ⟨M_2, p1⟩ := σ1
          obtain ⟨hp0, hfrc, hnst⟩ := hpost
          obtain rfl : p1 = σ.2 := hp0
          have hP : xP g (M_2, σ.2) H := hP
          have hD : xD g A (M_2, σ.2) := hD
          have hx0 := (hfrc (0) (by omega)).trans hx0
          have h25 := (hfrc (25) (by omega)).trans h25
          have h26 := (hfrc (26) (by omega)).trans h26
          have h27 := (hfrc (27) (by omega)).trans h27
          have hfr := x_frc (F := fun j => j ≠ 1 ∧ j ≠ 2 ∧ j ≠ 3) hfr hfrc (fun j h => by have h : j ≠ 1 ∧ j ≠ 2 ∧ j ≠ 3 := h; omega)
          obtain ⟨Pn_3, hPn_3⟩ : ∃ q : Int → Int, q = upI (zUp P (n) (n)) (n) (pu) := ⟨_, rfl⟩
          obtain ⟨Gn_4, hGn_4⟩ : ∃ q : Int → Option Nat, q = upI (zUp G (n) (n)) (n) (some a_1) := ⟨_, rfl⟩
          have ost_5 : StOk σ (n + 1) (rd) Pn_3 Gn_4 := by rw [hPn_3, hGn_4]; exact StOk_insert hok (by omega) (by omega) ha_a_1 (by omega)
          rw [← hPn_3, ← hGn_4] at hnst
          have hm0 : M_2 (1) = .inr (7, [.ref (g.2.2 2), .ref (g.2.2 3), .int (iI (n + 1)), .int (iI (rd))]) := hnst.1
          have hm1 : MRef g M_2 2 9 Gn_4 := hnst.2.1
          have hm2 : MArr g M_2 3 9 Pn_3 := hnst.2.2
          refine lv_aload_n hx hb dX11_comes_57 rfl (lv_at hl 1 rfl) ?_
          refine x_get (C := RX11) (T := TX11) (N := 11) hx hb hts hin_X11 hown hK hP (0) (by decide) hx0 rfl 0 (by decide) hw_0 (fun _ h9 => h9) rfl dX11_comes_58 ?_
          refine x_get (C := RX7) (T := TX7) (N := 4) hx hb hts hin_X7 hown hK hP (1) (by decide) hm0 rfl 2 (by decide) hw_2 (fun _ h9 => h9) rfl dX11_comes_61 ?_
          refine x_iconst hx hb dX11_comes_64 ?_
          refine x_isub hx hb dX11_comes_65 ?_
          refine x_retQ hx hb hr (by omega) ?_ hP hD hS dX11_comes_66 hlocks
          have e : zComesR (xKp Kf So) n d pu = n := by (unfold zComesR; rw [if_neg (by omega), if_neg (by omega), if_neg (by omega)])
          refine ⟨rfl, hfr, by omega, Or.inr ⟨by omega, by omega, hm0, ?_, ?_⟩⟩
          · rw [hGn_4, zUp_0] at hm1; first | exact hm1 | (rw [← hKd] at hm1; exact hm1)
          · rw [hPn_3, zUp_0] at hm2; exact hm2
      · refine x_bipush (n := -2) hx hb (by decide +kernel) dX11_comes_33 ?_
        refine x_retQ hx hb hr (by omega) ?_ hP hD hS dX11_comes_35 hlocks
        have e : zComesR (xKp Kf So) n d pu = -2 := by (unfold zComesR; rw [if_neg (by omega), if_neg (by omega), if_pos (by omega)])
        exact ⟨rfl, hfr, e.symm, Or.inl ⟨by omega, hm0, hm1, hm2⟩⟩
    · refine lv_iload_n hx hb dX11_comes_19 rfl (lv_at hl 0 rfl) ?_
      refine x_retQ hx hb hr (by omega) ?_ hP hD hS dX11_comes_20 hlocks
      have e : zComesR (xKp Kf So) n d pu = zKeptR (xKp Kf So) d := by (unfold zComesR; rw [if_neg (by omega), if_pos (by omega)])
      have z := zKeptR_rng (xKp Kf So) d
      exact ⟨rfl, hfr, by omega, Or.inl ⟨by omega, hm0, hm1, hm2⟩⟩
  · refine x_iconst hx hb dX11_comes_7 ?_
    refine x_retQ hx hb hr (by omega) ?_ hP hD hS dX11_comes_8 hlocks
    have e : zComesR (xKp Kf So) n d pu = -1 := by (unfold zComesR; rw [if_pos (by omega)])
    exact ⟨rfl, hfr, e.symm, Or.inl ⟨by omega, hm0, hm1, hm2⟩⟩
