set_option maxHeartbeats 4000000 in
set_option maxRecDepth 100000 in
theorem c_X11_fee (l : Launch) (g : xG) (σ : xS) (ph : Nat) (tk : Int) (hx0 : XObj g σ.1 ph tk) (hH : HsOk σ) (Kf : Int → Option Nat) (So Sz : Int → Int) (h25 : MRef g σ.1 25 8 Kf) (h26 : MArr g σ.1 26 8 So) (h27 : MArr g σ.1 27 8 Sz) (hxs : XsOk σ Kf So Sz) (d : Int) (hd : inR d) : Met l yX11_fee wsX11_fee ({ frames := 4, cells := 0, slots := 0, locals := 128 }) (va_Pc [.ref (g.2.2 0), .int (iI (d))] (xPre g σ)) (x_Si (fun r => r = (if zKeptR (xKp Kf So) d ≠ 0 then zKeptR (xKp Kf So) d else zFee (sK σ Kf d) (sF σ Kf d)))) (0) (0) (fun _ => False) := by
  refine Met.ofW (cc := cX11_fee) (maxL := 3) (ret := (some .int)) (by decide) rfl ?_
  intro p e s m args below meth c s₁ B hml hv
  obtain ⟨rfl, hP, hK⟩ := hv
  have hx := B.exec
  have hb := B.bytes
  have hr := B.returns
  have hts := atoms_spec (ws := wsX11_fee) B.pre
  have hown : s.vm.findClass RX11 = some m.cls := findClass_of_methodNamed B.named
  have hlocks := B.notSynchronized
  have hl := lv_entry ([.ref (g.2.2 0), .int (iI (d))]) (n := 3) (Nat.le_of_ble_eq_true rfl)
  rw [lg_entry_eq]
  generalize (lg_sl ([.ref (g.2.2 0), .int (iI (d))]) ++ List.replicate (3 - (lg_sl ([.ref (g.2.2 0), .int (iI (d))])).length) Slot.unset).toArray = ls at hl ⊢
  have hl : lv_has ls 3 [(0, .ref (g.2.2 0)), (1, .int (iI (d)))] := hl
  have hw_0 := hts (.fieldLink RX11 45 "TwiceAsRich" "kept" "[LTwiceAsRich$House;") (by decide +kernel)
  have hin_X11 : ∀ w ∈ wsX110, w ∈ wsX11_fee := by decide +kernel
  have hw_2 := (show (Cond.code yX3_price cX3_price 1 (some .int)) ∈ wsX11_fee by decide +kernel)
  refine lv_aload_n hx hb dX11_fee_0 rfl (lv_at hl 0 rfl) ?_
  refine lv_iload_n hx hb dX11_fee_1 rfl (lv_at hl 1 rfl) ?_
  refine x_ci (va_runV (As := [.int (iI (d))]) (rest := []) ⟨hx, hb, hml, hown, hts⟩ (c_X11_houseRefusal l g σ ph tk hx0 Kf So Sz h25 h26 h27 hxs (d) (by omega)) (cwV 1 hts gX11_fee_X11_houseRefusal rfl rfl rfl (by decide +kernel) ⟨Nat.le_of_ble_eq_true rfl, Nat.le_of_ble_eq_true rfl⟩) (x_preV hK hP (x_recv hK hP (i := 0) (by decide) hx0 rfl)) rfl rfl hl.1 rfl (lv_room (Nat.le_of_ble_eq_true rfl)) dX11_fee_2 ⟨Nat.le_of_ble_eq_true rfl, Nat.le_of_ble_eq_true rfl⟩) (fun r_2 hr_2 qr_2 => ?_)
  replace qr_2 : r_2 = zKeptR (xKp Kf So) (d) := qr_2
  refine lv_istore_n (lv' := [(2, .int (iI (r_2))), (0, .ref (g.2.2 0)), (1, .int (iI (d)))]) hx hb dX11_fee_5 rfl hl (by decide) rfl (fun ls hl => ?_)
  refine lv_iload_n hx hb dX11_fee_6 rfl (lv_at hl 0 rfl) ?_
  refine x_if_eq (tgt := 14) hx hb (by omega) dX11_fee_7 (by decide) (fun c_7 => ?_) (fun c_7 => ?_)
  · have hk9 := zKeptR_0 qr_2 (by omega)
    refine lv_aload_n hx hb dX11_fee_14 rfl (lv_at hl 1 rfl) ?_
    refine x_get (C := RX11) (T := TX11) (N := 11) hx hb hts hin_X11 hown hK hP (0) (by decide) hx0 rfl 7 (by decide) hw_0 (fun _ h9 => h9) rfl dX11_fee_15 ?_
    refine lv_iload_n hx hb dX11_fee_18 rfl (lv_at hl 2 rfl) ?_
    rcases hG_a_1 : Kf (d) with _ | a_1
    · refine x_aaldN (C := RX3) (f := Kf) 1 hx hb hK hP (25) (by decide) h25 rfl (by omega) (by omega) (by decide) hG_a_1 dX11_fee_19 ?_
      exfalso; have z9 := zKeptR_0 qr_2 (by omega); (have e9 : xKp Kf So d = if So d = -1 then 0 else 2 := by simp only [xKp, kpO, hG_a_1]); split at e9 <;> omega
    · have ha_a_1 := hxs.2.2.1 _ _ hG_a_1
      refine x_aaldS (C := RX3) (f := Kf) 1 hx hb hK hP (25) (by decide) h25 rfl (by omega) (by omega) (by decide) hG_a_1 dX11_fee_19 ?_
      have eK : sK σ Kf d = σ.2.2.1 a_1 := by simp only [sK, kdO, hG_a_1]
      have eF : sF σ Kf d = σ.2.2.2 a_1 := by simp only [sF, fgO, hG_a_1]
      refine x_ci (rest := []) (a := ([.ref a_1] : List Value).toArray) (post := fun r => r = zFee (σ.2.2.1 a_1) (σ.2.2.2 a_1)) (by
        have hk0 := (hH a_1 ha_a_1).1
        have hk : σ.2.2.1 a_1 = 0 ∨ σ.2.2.1 a_1 = 1 ∨ σ.2.2.1 a_1 = 2 ∨ σ.2.2.1 a_1 = 3 ∨ σ.2.2.1 a_1 = 4 ∨ σ.2.2.1 a_1 = 5 ∨ σ.2.2.1 a_1 = 6 ∨ σ.2.2.1 a_1 = 7 := by omega
        rcases hk with hk | hk | hk | hk | hk | hk | hk | hk
        · exact x_run_mono (va_runV (As := []) (rest := []) ⟨hx, hb, hml, hown, hts⟩ (c_X3_price l g σ hH a_1 ha_a_1) (cwV 0 hts gX11_fee_X3_price rfl rfl rfl (by decide +kernel) ⟨Nat.le_of_ble_eq_true rfl, Nat.le_of_ble_eq_true rfl⟩) (x_preV hK hP (x_recvH (q := (RX3, TX3, 1)) hK hP ha_a_1 (by rw [hk]; rfl))) rfl rfl hl.1 rfl (lv_room (Nat.le_of_ble_eq_true rfl)) dX11_fee_20 ⟨Nat.le_of_ble_eq_true rfl, Nat.le_of_ble_eq_true rfl⟩) (fun r hr => hr.trans (by rw [hk]; rfl))
        · exact x_run_mono (va_runU (As := []) (rest := []) ⟨hx, hb, hml, hown, hts⟩ (c_X2_price l g σ hH a_1 ha_a_1) (va_cwO 0 hts gX11_fee_X2_price_u267X2 rfl rfl rfl (b0 := cX3_price) (m0 := 1) (r0 := (some .int)) hw_2 (by decide +kernel) ⟨Nat.le_of_ble_eq_true rfl, Nat.le_of_ble_eq_true rfl⟩) (x_preV hK hP (x_recvH (q := (RX2, TX2, 1)) hK hP ha_a_1 (by rw [hk]; rfl))) rfl rfl hl.1 rfl (lv_room (Nat.le_of_ble_eq_true rfl)) dX11_fee_20 ⟨Nat.le_of_ble_eq_true rfl, Nat.le_of_ble_eq_true rfl⟩) (fun r hr => hr.trans (by rw [hk]; rfl))
        · exact x_run_mono (va_runU (As := []) (rest := []) ⟨hx, hb, hml, hown, hts⟩ (c_X6_price l g σ hH a_1 ha_a_1) (va_cwO 0 hts gX11_fee_X6_price_u267X6 rfl rfl rfl (b0 := cX3_price) (m0 := 1) (r0 := (some .int)) hw_2 (by decide +kernel) ⟨Nat.le_of_ble_eq_true rfl, Nat.le_of_ble_eq_true rfl⟩) (x_preV hK hP (x_recvH (q := (RX6, TX6, 1)) hK hP ha_a_1 (by rw [hk]; rfl))) rfl rfl hl.1 rfl (lv_room (Nat.le_of_ble_eq_true rfl)) dX11_fee_20 ⟨Nat.le_of_ble_eq_true rfl, Nat.le_of_ble_eq_true rfl⟩) (fun r hr => hr.trans (by rw [hk]; rfl))
        · exact x_run_mono (va_runU (As := []) (rest := []) ⟨hx, hb, hml, hown, hts⟩ (c_X10_price l g σ hH a_1 ha_a_1) (va_cwO 0 hts gX11_fee_X10_price_u267X10 rfl rfl rfl (b0 := cX3_price) (m0 := 1) (r0 := (some .int)) hw_2 (by decide +kernel) ⟨Nat.le_of_ble_eq_true rfl, Nat.le_of_ble_eq_true rfl⟩) (x_preV hK hP (x_recvH (q := (RX10, TX10, 1)) hK hP ha_a_1 (by rw [hk]; rfl))) rfl rfl hl.1 rfl (lv_room (Nat.le_of_ble_eq_true rfl)) dX11_fee_20 ⟨Nat.le_of_ble_eq_true rfl, Nat.le_of_ble_eq_true rfl⟩) (fun r hr => hr.trans (by rw [hk]; rfl))
        · exact x_run_mono (va_runU (As := []) (rest := []) ⟨hx, hb, hml, hown, hts⟩ (c_X4_price l g σ hH a_1 ha_a_1) (va_cwO 0 hts gX11_fee_X4_price_u267X4 rfl rfl rfl (b0 := cX3_price) (m0 := 1) (r0 := (some .int)) hw_2 (by decide +kernel) ⟨Nat.le_of_ble_eq_true rfl, Nat.le_of_ble_eq_true rfl⟩) (x_preV hK hP (x_recvH (q := (RX4, TX4, 1)) hK hP ha_a_1 (by rw [hk]; rfl))) rfl rfl hl.1 rfl (lv_room (Nat.le_of_ble_eq_true rfl)) dX11_fee_20 ⟨Nat.le_of_ble_eq_true rfl, Nat.le_of_ble_eq_true rfl⟩) (fun r hr => hr.trans (by rw [hk]; rfl))
        · exact x_run_mono (va_runU (As := []) (rest := []) ⟨hx, hb, hml, hown, hts⟩ (c_X0_price l g σ hH a_1 ha_a_1) (va_cwO 0 hts gX11_fee_X0_price_u267X0 rfl rfl rfl (b0 := cX3_price) (m0 := 1) (r0 := (some .int)) hw_2 (by decide +kernel) ⟨Nat.le_of_ble_eq_true rfl, Nat.le_of_ble_eq_true rfl⟩) (x_preV hK hP (x_recvH (q := (RX0, TX0, 1)) hK hP ha_a_1 (by rw [hk]; rfl))) rfl rfl hl.1 rfl (lv_room (Nat.le_of_ble_eq_true rfl)) dX11_fee_20 ⟨Nat.le_of_ble_eq_true rfl, Nat.le_of_ble_eq_true rfl⟩) (fun r hr => hr.trans (by rw [hk]; rfl))
        · exact x_run_mono (va_runU (As := []) (rest := []) ⟨hx, hb, hml, hown, hts⟩ (c_X9_price l g σ hH a_1 ha_a_1) (va_cwO 0 hts gX11_fee_X9_price_u267X9 rfl rfl rfl (b0 := cX3_price) (m0 := 1) (r0 := (some .int)) hw_2 (by decide +kernel) ⟨Nat.le_of_ble_eq_true rfl, Nat.le_of_ble_eq_true rfl⟩) (x_preV hK hP (x_recvH (q := (RX9, TX9, 1)) hK hP ha_a_1 (by rw [hk]; rfl))) rfl rfl hl.1 rfl (lv_room (Nat.le_of_ble_eq_true rfl)) dX11_fee_20 ⟨Nat.le_of_ble_eq_true rfl, Nat.le_of_ble_eq_true rfl⟩) (fun r hr => hr.trans (by rw [hk]; rfl))
        · exact x_run_mono (va_runU (As := []) (rest := []) ⟨hx, hb, hml, hown, hts⟩ (c_X1_price l g σ hH a_1 ha_a_1) (va_cwO 0 hts gX11_fee_X1_price_u267X1 rfl rfl rfl (b0 := cX3_price) (m0 := 1) (r0 := (some .int)) hw_2 (by decide +kernel) ⟨Nat.le_of_ble_eq_true rfl, Nat.le_of_ble_eq_true rfl⟩) (x_preV hK hP (x_recvH (q := (RX1, TX1, 1)) hK hP ha_a_1 (by rw [hk]; rfl))) rfl rfl hl.1 rfl (lv_room (Nat.le_of_ble_eq_true rfl)) dX11_fee_20 ⟨Nat.le_of_ble_eq_true rfl, Nat.le_of_ble_eq_true rfl⟩) (fun r hr => hr.trans (by rw [hk]; rfl))) (fun r_20 hr_20 qr_20 => ?_)
      replace qr_20 : r_20 = zFee (σ.2.2.1 a_1) (σ.2.2.2 a_1) := qr_20
      have br_20 := zFee_rng (σ.2.2.1 a_1) (hH a_1 ha_a_1).2; rw [← qr_20] at br_20
      refine x_retP hx hb hr (by omega) ?_ dX11_fee_23 hlocks
      first | (rw [if_pos (by omega)]; omega) | (rw [if_neg (by omega), eK, eF]; exact qr_20)
  · refine lv_iload_n hx hb dX11_fee_10 rfl (lv_at hl 0 rfl) ?_
    refine lv_goto (tgt := 23) hx hb dX11_fee_11 (by decide) ?_
    refine x_retP hx hb hr (by omega) ?_ dX11_fee_23 hlocks
    first | (rw [if_pos (by omega)]; omega) | (rw [if_neg (by omega), eK, eF]; exact qr_20)
