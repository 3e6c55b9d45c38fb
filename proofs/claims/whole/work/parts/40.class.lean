set_option maxHeartbeats 4000000 in
set_option maxRecDepth 100000 in
theorem c_X5_part0 (l : Launch) (g : xG) (σ : xS) (A : Nat → Prop) (wy un hd9 mv : Int) (hp13 : PObj g σ.1 wy un hd9 mv) (na ra : Int) (Pa : Int → Int) (Ga : Int → Option Nat) (hsa9 : StAt g σ.1 10 na ra Pa Ga) (hoa : StOk σ na ra Pa Ga) (hH : HsOk σ) (Wb : Int → Int) (h15 : MArr g σ.1 15 6 Wb) (hWb : ∀ i, 0 ≤ i → i < na → 0 ≤ Wb i ∧ Wb i ≤ 9999) (hn6 : na ≤ 6) (Rc : Int → Int) (h14 : MArr g σ.1 14 6 Rc) (Su : Int → Int → Int) (h16 : MGrs g σ.1) (hsr : ∀ d, 0 ≤ d → d ≤ 5 → MArr g σ.1 (17 + d.toNat) 21 (Su d)) (hSr : ∀ d k, inR (Su d k)) (c0 : Int) (hc0 : 0 ≤ c0 ∧ c0 ≤ 20) (hsu : zSuOk (sK σ Ga) (sF σ Ga) na ra c0 Su) (Q : Int → zAcc) (hQ : zRl na wy un hd9 mv Rc Q) (h : Int) (hh : 0 ≤ h ∧ h ≤ na ∧ na - h ≤ 0) (lf : Int) (hlf : 0 ≤ lf ∧ lf ≤ c0) (hwr : wy + zB (na - h).toNat ≤ 100000000) (hpth : zPth (sK σ Ga) (sF σ Ga) Pa c0 h lf) : Met l yX5_part wsX5_part ({ frames := 5, cells := 0, slots := 0, locals := 160 }) (va_Pc [.ref (g.2.2 13), .int (iI (h)), .int (iI (lf))] (xPreQ g A σ)) (x_Qv g A (fun σ1 => σ1.2 = σ.2 ∧ (∀ j, j ≠ 12 ∧ j ≠ 13 ∧ j ≠ 14 → σ1.1 j = σ.1 j) ∧ ∃ wy2 un2 hd2 mv2 T Rc2, PObj g σ1.1 wy2 un2 hd2 mv2 ∧ MArr g σ1.1 12 9 T ∧ MArr g σ1.1 14 6 Rc2 ∧ StOk σ na ra T Ga ∧ (∀ i, 0 ≤ i → i < h → T i = Pa i) ∧ zRl na wy2 un2 hd2 mv2 Rc2 (fun o => zParts (zNote (sK σ Ga) (sF σ Ga) Wb na ra o) (na - h).toNat h lf Pa (Q o)))) (0) (0) A := by
  refine Met.ofW (cc := cX5_part) (maxL := 6) (ret := none) (by decide) rfl ?_
  intro p e s m args below meth c s₁ B hml hv
  obtain ⟨rfl, hP, hK, hD, hA⟩ := hv
  have hx := B.exec
  have hb := B.bytes
  have hr := B.returns
  have hts := atoms_spec (ws := wsX5_part) B.pre
  have hown : s.vm.findClass RX5 = some m.cls := findClass_of_methodNamed B.named
  have hlocks := B.notSynchronized
  have hS : va_S A s.heap s.heap [] := va_S.rf
  have hfr : ∀ j, (j ≠ 12 ∧ j ≠ 13 ∧ j ≠ 14) → σ.1 j = σ.1 j := fun _ _ => rfl
  have hl := lv_entry ([.ref (g.2.2 13), .int (iI (h)), .int (iI (lf))]) (n := 6) (Nat.le_of_ble_eq_true rfl)
  rw [lg_entry_eq]
  generalize (lg_sl ([.ref (g.2.2 13), .int (iI (h)), .int (iI (lf))]) ++ List.replicate (6 - (lg_sl ([.ref (g.2.2 13), .int (iI (h)), .int (iI (lf))])).length) Slot.unset).toArray = ls at hl ⊢
  have hl : lv_has ls 6 [(0, .ref (g.2.2 13)), (1, .int (iI (h))), (2, .int (iI (lf)))] := hl
  have hqa0 : σ.1 10 = .inr (7, [.ref (g.2.2 11), .ref (g.2.2 12), .int (iI na), .int (iI ra)]) := hsa9.1
  have hqa1 : MRef g σ.1 11 9 Ga := hsa9.2.1
  have hqa2 : MArr g σ.1 12 9 Pa := hsa9.2.2
  have hoa1 := hoa.1
  have hoa2 := hoa.2.1
  have hoa3 := hoa.2.2.1
  have hq1 := hQ.1
  have hok1a : 0 ≤ na := hoa.1
  have hP99 : ∀ i, 0 ≤ i → i < na → Pa i ≤ 9999 := fun i a b => (hoa.2.2.2.2.2 i a b).2.2
  have hw_0 := hts (.fieldLink RX5 18 "TwiceAsRich$Partings" "parted" "LTwiceAsRich$Street;") (by decide +kernel)
  have hin_X5 : ∀ w ∈ wsX50, w ∈ wsX5_part := by decide +kernel
  have hw_2 := hts (.fieldLink RX5 49 "TwiceAsRich$Street" "count" "I") (by decide +kernel)
  have hin_X7 : ∀ w ∈ wsX70, w ∈ wsX5_part := by decide +kernel
  refine lv_iload_n hx hb dX5_part_0 rfl (lv_at hl 1 rfl) ?_
  refine lv_aload_n hx hb dX5_part_1 rfl (lv_at hl 0 rfl) ?_
  refine x_get (C := RX5) (T := TX5) (N := 8) hx hb hts hin_X5 hown hK hP (13) (by decide) hp13 rfl 5 (by decide) hw_0 (fun _ h9 => h9) rfl dX5_part_2 ?_
  refine x_get (C := RX7) (T := TX7) (N := 4) hx hb hts hin_X7 hown hK hP (10) (by decide) hqa0 rfl 2 (by decide) hw_2 (fun _ h9 => h9) rfl dX5_part_5 ?_
  refine x_icmp_lt (tgt := 27) hx hb (by omega) (by omega) dX5_part_8 (by decide) (fun c_8 => ?_) (fun c_8 => ?_)
  · exfalso; omega
  · refine lv_iload_n hx hb dX5_part_11 rfl (lv_at hl 2 rfl) ?_
    refine x_if_ne (tgt := 26) hx hb (by omega) dX5_part_12 (by decide) (fun c_12 => ?_) (fun c_12 => ?_)
    · refine x_retQv hx hb hr ?_ hP hD hS dX5_part_26 hlocks
      refine ⟨rfl, hfr, _, _, _, _, _, _, hp13, hqa2, h14, hoa, fun _ _ _ => rfl, ?_⟩
      have e : (fun o => zParts (zNote (sK σ Ga) (sF σ Ga) Wb na ra o) (na - h).toNat h lf Pa (Q o)) = Q := funext (fun o => by (rw [zParts_end _ _ _ _ (by omega), if_neg (by omega)]))
      rw [e]; exact hQ
    · have hna : h = na := by omega
      have hlz : zAll (sK σ Ga) (sF σ Ga) Pa na ra = 0 ↔ (ra = 1 ∧ 3 ≤ na → zBt (Su (na - 1) (Pa (na - 1))) (Pa (0))) := by (rw [zAll_leaf hok1a hP99 (by rw [← hna]; exact hpth.2.2)]; refine imp_congr_right (fun hc => ?_); have e0 : zBehind na ra (na - 1) = 0 := (by (unfold zBehind; rw [if_neg (by omega), if_pos hc])); have z := hsu (na - 1) (by omega) (by omega) (by rw [e0]; omega) (Pa (na - 1)) (Pa 0) (hpth.1 (na - 1) (by omega) (by omega)).1 (hpth.1 0 (by omega) (by omega)).1 (by have z2 := hpth.2.1 (na - 1) 0 (by omega) (by omega) (by omega) (by omega) (by omega); omega); rw [e0] at z; exact z.symm)
      refine lv_aload_n hx hb dX5_part_15 rfl (lv_at hl 0 rfl) ?_
      refine x_ci (va_runV (As := []) (rest := []) ⟨hx, hb, hml, hown, hts⟩ (c_X5_isClosedWell l g σ (wy) (un) (hd9) (mv) hp13 (na) (ra) Pa Ga ⟨hqa0, hqa1, hqa2⟩ hoa hH Su h16 hsr hSr hn6 (fun i a b => by have z1 := hpth.1 i a (by omega); omega)) (cwV 0 hts gX5_part_X5_isClosedWell rfl rfl rfl (by decide +kernel) ⟨Nat.le_of_ble_eq_true rfl, Nat.le_of_ble_eq_true rfl⟩) (x_preV hK hP (x_recv hK hP (i := 13) (by decide) hp13 rfl)) rfl rfl hl.1 rfl (lv_room (Nat.le_of_ble_eq_true rfl)) dX5_part_16 ⟨Nat.le_of_ble_eq_true rfl, Nat.le_of_ble_eq_true rfl⟩) (fun r_16 hr_16 qr_16 => ?_)
      replace qr_16 : (r_16 = 1 ∧ (ra = 1 ∧ 3 ≤ na → zBt (Su (na - 1) (Pa (na - 1))) (Pa (0)))) ∨ (r_16 = 0 ∧ (ra = 1 ∧ 3 ≤ na) ∧ ¬ zBt (Su (na - 1) (Pa (na - 1))) (Pa (0))) := qr_16
      refine x_if_eq (tgt := 26) hx hb (by omega) dX5_part_19 (by decide) (fun c_19 => ?_) (fun c_19 => ?_)
      · have hnz : ¬ zAll (sK σ Ga) (sF σ Ga) Pa na ra = 0 := by (rw [hlz]; rcases qr_16 with q | q; omega; exact fun q2 => q.2.2 (q2 q.2.1))
        refine x_retQv hx hb hr ?_ hP hD hS dX5_part_26 hlocks
        refine ⟨rfl, hfr, _, _, _, _, _, _, hp13, hqa2, h14, hoa, fun _ _ _ => rfl, ?_⟩
        have e : (fun o => zParts (zNote (sK σ Ga) (sF σ Ga) Wb na ra o) (na - h).toNat h lf Pa (Q o)) = Q := funext (fun o => by (rw [zParts_end _ _ _ _ (by omega), if_pos (by omega)]; unfold zNote; rw [if_pos hnz]))
        rw [e]; exact hQ
      · have hz0 : zAll (sK σ Ga) (sF σ Ga) Pa na ra = 0 := by (rw [hlz]; rcases qr_16 with q | q; exact q.2; omega)
        have hzb := zB_pos (na - h).toNat
        have hzb1 : zB (na - h).toNat = 1 := by (rw [show (na - h).toNat = 0 by omega]; rfl)
        refine lv_aload_n hx hb dX5_part_22 rfl (lv_at hl 0 rfl) ?_
        refine x_cqv0 (va_runV (As := []) (rest := []) ⟨hx, hb, hml, hown, hts⟩ (c_X5_note l g σ A (wy) (un) (hd9) (mv) hp13 (na) (ra) Pa Ga ⟨hqa0, hqa1, hqa2⟩ hoa hH Wb h15 hWb hn6 Rc h14 Q hQ (by omega) hz0) (cwV 0 hts gX5_part_X5_note rfl rfl rfl (by decide +kernel) ⟨Nat.le_of_ble_eq_true rfl, Nat.le_of_ble_eq_true rfl⟩) (x_preVQ hK hP hD hS hA (x_recv hK hP (i := 13) (by decide) hp13 rfl)) rfl rfl hl.1 rfl (lv_room (Nat.le_of_ble_eq_true rfl)) dX5_part_23 ⟨by decide, by decide⟩) hS (fun σ1 H locs hpost hP hD hS => ?_)
        obtain ⟨M_1, p1⟩ := σ1
        obtain ⟨hp0, hfrc, wn_2, un_3, hn_4, mn_5, Rn_6, hn13, hn14, hnQ⟩ := hpost
        obtain rfl : p1 = σ.2 := hp0
        have hP : xP g (M_1, σ.2) H := hP
        have hD : xD g A (M_1, σ.2) := hD
        have h15 := (hfrc (15) (by omega)).trans h15
        have hqa0 := (hfrc (10) (by omega)).trans hqa0
        have hqa1 := (hfrc (11) (by omega)).trans hqa1
        have hqa2 := (hfrc (12) (by omega)).trans hqa2
        have h16 := (hfrc (16) (by omega)).trans h16
        have hfr := x_frc (F := fun j => j ≠ 12 ∧ j ≠ 13 ∧ j ≠ 14) hfr hfrc (fun j h => by have h : j ≠ 12 ∧ j ≠ 13 ∧ j ≠ 14 := h; omega)
        have hp13 : PObj g M_1 wn_2 un_3 hn_4 mn_5 := hn13
        have h14 : MArr g M_1 14 6 Rn_6 := hn14
        replace hnQ : zRl na wn_2 un_3 hn_4 mn_5 Rn_6 (fun o => zNote (sK σ Ga) (sF σ Ga) Wb na ra o Pa (Q o)) := hnQ
        refine x_retQv hx hb hr ?_ hP hD hS dX5_part_26 hlocks
        refine ⟨rfl, hfr, _, _, _, _, _, _, hp13, hqa2, h14, hoa, fun _ _ _ => rfl, ?_⟩
        have e : (fun o => zParts (zNote (sK σ Ga) (sF σ Ga) Wb na ra o) (na - h).toNat h lf Pa (Q o)) = (fun o => zNote (sK σ Ga) (sF σ Ga) Wb na ra o Pa (Q o)) := funext (fun o => by (rw [zParts_end _ _ _ _ (by omega), if_pos (by omega)]))
        rw [e]; exact hnQ

set_option maxHeartbeats 4000000 in
set_option maxRecDepth 100000 in
theorem c_X5_part1 (l : Launch) (g : xG) (σ : xS) (A : Nat → Prop) (wy un hd9 mv : Int) (hp13 : PObj g σ.1 wy un hd9 mv) (na ra : Int) (Pa : Int → Int) (Ga : Int → Option Nat) (hsa9 : StAt g σ.1 10 na ra Pa Ga) (hoa : StOk σ na ra Pa Ga) (hH : HsOk σ) (Wb : Int → Int) (h15 : MArr g σ.1 15 6 Wb) (hWb : ∀ i, 0 ≤ i → i < na → 0 ≤ Wb i ∧ Wb i ≤ 9999) (hn6 : na ≤ 6) (Rc : Int → Int) (h14 : MArr g σ.1 14 6 Rc) (Su : Int → Int → Int) (h16 : MGrs g σ.1) (hsr : ∀ d, 0 ≤ d → d ≤ 5 → MArr g σ.1 (17 + d.toNat) 21 (Su d)) (hSr : ∀ d k, inR (Su d k)) (c0 : Int) (hc0 : 0 ≤ c0 ∧ c0 ≤ 20) (hsu : zSuOk (sK σ Ga) (sF σ Ga) na ra c0 Su) (Q : Int → zAcc) (hQ : zRl na wy un hd9 mv Rc Q) (h : Int) (hh : 0 ≤ h ∧ h ≤ na ∧ na - h ≤ 1) (lf : Int) (hlf : 0 ≤ lf ∧ lf ≤ c0) (hwr : wy + zB (na - h).toNat ≤ 100000000) (hpth : zPth (sK σ Ga) (sF σ Ga) Pa c0 h lf) : Met l yX5_part wsX5_part ({ frames := 6, cells := 0, slots := 0, locals := 192 }) (va_Pc [.ref (g.2.2 13), .int (iI (h)), .int (iI (lf))] (xPreQ g A σ)) (x_Qv g A (fun σ1 => σ1.2 = σ.2 ∧ (∀ j, j ≠ 12 ∧ j ≠ 13 ∧ j ≠ 14 → σ1.1 j = σ.1 j) ∧ ∃ wy2 un2 hd2 mv2 T Rc2, PObj g σ1.1 wy2 un2 hd2 mv2 ∧ MArr g σ1.1 12 9 T ∧ MArr g σ1.1 14 6 Rc2 ∧ StOk σ na ra T Ga ∧ (∀ i, 0 ≤ i → i < h → T i = Pa i) ∧ zRl na wy2 un2 hd2 mv2 Rc2 (fun o => zParts (zNote (sK σ Ga) (sF σ Ga) Wb na ra o) (na - h).toNat h lf Pa (Q o)))) (0) (0) A := by
  refine Met.ofW (cc := cX5_part) (maxL := 6) (ret := none) (by decide) rfl ?_
  intro p e s m args below meth c s₁ B hml hv
  obtain ⟨rfl, hP, hK, hD, hA⟩ := hv
  have hx := B.exec
  have hb := B.bytes
  have hr := B.returns
  have hts := atoms_spec (ws := wsX5_part) B.pre
  have hown : s.vm.findClass RX5 = some m.cls := findClass_of_methodNamed B.named
  have hlocks := B.notSynchronized
  have hS : va_S A s.heap s.heap [] := va_S.rf
  have hfr : ∀ j, (j ≠ 12 ∧ j ≠ 13 ∧ j ≠ 14) → σ.1 j = σ.1 j := fun _ _ => rfl
  have hl := lv_entry ([.ref (g.2.2 13), .int (iI (h)), .int (iI (lf))]) (n := 6) (Nat.le_of_ble_eq_true rfl)
  rw [lg_entry_eq]
  generalize (lg_sl ([.ref (g.2.2 13), .int (iI (h)), .int (iI (lf))]) ++ List.replicate (6 - (lg_sl ([.ref (g.2.2 13), .int (iI (h)), .int (iI (lf))])).length) Slot.unset).toArray = ls at hl ⊢
  have hl : lv_has ls 6 [(0, .ref (g.2.2 13)), (1, .int (iI (h))), (2, .int (iI (lf)))] := hl
  have hqa0 : σ.1 10 = .inr (7, [.ref (g.2.2 11), .ref (g.2.2 12), .int (iI na), .int (iI ra)]) := hsa9.1
  have hqa1 : MRef g σ.1 11 9 Ga := hsa9.2.1
  have hqa2 : MArr g σ.1 12 9 Pa := hsa9.2.2
  have hoa1 := hoa.1
  have hoa2 := hoa.2.1
  have hoa3 := hoa.2.2.1
  have hq1 := hQ.1
  have hok1a : 0 ≤ na := hoa.1
  have hP99 : ∀ i, 0 ≤ i → i < na → Pa i ≤ 9999 := fun i a b => (hoa.2.2.2.2.2 i a b).2.2
  have hw_0 := hts (.fieldLink RX5 18 "TwiceAsRich$Partings" "parted" "LTwiceAsRich$Street;") (by decide +kernel)
  have hin_X5 : ∀ w ∈ wsX50, w ∈ wsX5_part := by decide +kernel
  have hw_2 := hts (.fieldLink RX5 49 "TwiceAsRich$Street" "count" "I") (by decide +kernel)
  have hin_X7 : ∀ w ∈ wsX70, w ∈ wsX5_part := by decide +kernel
  have hw_4 := hts (.methodLink RX5 88 Lib.Math.max.name) (by decide +kernel)
  have hw_5 := hts (.static Lib.Math.max.name) (by decide +kernel)
  have hw_6 := hts (.initialized "java/lang/Math") (by decide +kernel)
  have hw_7 := hts (.code Lib.Math.max.name Lib.Math.max.code 2 (some .int)) (by decide +kernel)
  have hw_8 := hts (.fieldLink RX5 56 "TwiceAsRich$Street" "purses" "[I") (by decide +kernel)
  refine lv_iload_n hx hb dX5_part_0 rfl (lv_at hl 1 rfl) ?_
  refine lv_aload_n hx hb dX5_part_1 rfl (lv_at hl 0 rfl) ?_
  refine x_get (C := RX5) (T := TX5) (N := 8) hx hb hts hin_X5 hown hK hP (13) (by decide) hp13 rfl 5 (by decide) hw_0 (fun _ h9 => h9) rfl dX5_part_2 ?_
  refine x_get (C := RX7) (T := TX7) (N := 4) hx hb hts hin_X7 hown hK hP (10) (by decide) hqa0 rfl 2 (by decide) hw_2 (fun _ h9 => h9) rfl dX5_part_5 ?_
  refine x_icmp_lt (tgt := 27) hx hb (by omega) (by omega) dX5_part_8 (by decide) (fun c_8 => ?_) (fun c_8 => ?_)
  · refine lv_iload_n hx hb dX5_part_27 rfl (lv_at hl 2 rfl) ?_
    refine lv_aload_n hx hb dX5_part_28 rfl (lv_at hl 0 rfl) ?_
    refine x_get (C := RX5) (T := TX5) (N := 8) hx hb hts hin_X5 hown hK hP (13) (by decide) hp13 rfl 5 (by decide) hw_0 (fun _ h9 => h9) rfl dX5_part_29 ?_
    refine x_get (C := RX7) (T := TX7) (N := 4) hx hb hts hin_X7 hown hK hP (10) (by decide) hqa0 rfl 2 (by decide) hw_2 (fun _ h9 => h9) rfl dX5_part_32 ?_
    refine x_iconst hx hb dX5_part_35 ?_
    refine x_isub hx hb dX5_part_36 ?_
    refine lv_iload_n hx hb dX5_part_37 rfl (lv_at hl 1 rfl) ?_
    refine x_isub hx hb dX5_part_38 ?_
    refine x_isub hx hb dX5_part_39 ?_
    refine lv_istore_n (lv' := [(3, .int (iI (lf - ((na - 1) - h)))), (0, .ref (g.2.2 13)), (1, .int (iI (h))), (2, .int (iI (lf)))]) hx hb dX5_part_40 rfl hl (by decide) rfl (fun ls hl => ?_)
    refine lv_iload_n hx hb dX5_part_41 rfl (lv_at hl 2 rfl) ?_
    refine lv_aload_n hx hb dX5_part_42 rfl (lv_at hl 1 rfl) ?_
    refine x_get (C := RX5) (T := TX5) (N := 8) hx hb hts hin_X5 hown hK hP (13) (by decide) hp13 rfl 5 (by decide) hw_0 (fun _ h9 => h9) rfl dX5_part_43 ?_
    refine x_get (C := RX7) (T := TX7) (N := 4) hx hb hts hin_X7 hown hK hP (10) (by decide) hqa0 rfl 2 (by decide) hw_2 (fun _ h9 => h9) rfl dX5_part_46 ?_
    refine x_iconst hx hb dX5_part_49 ?_
    refine x_isub hx hb dX5_part_50 ?_
    refine x_icmp_ne (tgt := 58) hx hb (by omega) (by omega) dX5_part_51 (by decide) (fun c_51 => ?_) (fun c_51 => ?_)
    · refine x_iconst hx hb dX5_part_58 ?_
      refine lv_istore (lv' := [(4, .int (iI (1))), (3, .int (iI (lf - ((na - 1) - h)))), (0, .ref (g.2.2 13)), (1, .int (iI (h))), (2, .int (iI (lf)))]) hx hb dX5_part_59 hl (by decide) rfl (fun ls hl => ?_)
      refine x_iconst hx hb dX5_part_61 ?_
      refine lv_iload hx hb dX5_part_62 (lv_at hl 0 rfl) ?_
      refine x_max hx hb (hml.trans hl.1.symm) hown hw_4 hw_5 hw_6 hw_7 (Nat.le_of_ble_eq_true rfl) (Nat.le_of_ble_eq_true rfl) (Nat.le_of_ble_eq_true rfl) (Nat.le_of_ble_eq_true rfl) (by omega) (by omega) dX5_part_64 (fun q_1 hq_1 => ?_)
      have hls : zLst (na - 1 - h) lf = (q_1) := by (unfold zLst; split <;> omega)
      refine lv_istore (lv' := [(5, .int (iI (q_1))), (4, .int (iI (1))), (3, .int (iI (lf - ((na - 1) - h)))), (0, .ref (g.2.2 13)), (1, .int (iI (h))), (2, .int (iI (lf)))]) hx hb dX5_part_67 hl (by decide) rfl (fun ls hl => ?_)
      have hloop_69 : ∀ (k : Nat) (T : Int → Int) (wz : Int) (uz : Int) (hz : Int) (mz : Int) (Rz : Int → Int) (p9 : Int), ((40 : Int) - p9).toNat < k → (hTo : StOk σ na ra T Ga) → (hpr : ∀ i, 0 ≤ i → i < h → T i = Pa i) → (hp0 : zLst (na - 1 - h) lf ≤ p9) → (hp1 : p9 = zLst (na - 1 - h) lf ∨ p9 ≤ lf - (na - 1 - h) + 1) → (hp2 : 1 ≤ p9 ∧ p9 ≤ 21) → (hR : zRl na wz uz hz mz Rz (fun o => zFold (fun p q => zParts (zNote (sK σ Ga) (sF σ Ga) Wb na ra o) (na - (h + 1)).toNat (h + 1) (lf - p) (upI Pa h p) q) (zLst (na - 1 - h) lf) (Q o) (p9 - zLst (na - 1 - h) lf).toNat)) → ∀ (M : xM) (H : Heap) (locs : List Loc), (hp13 : M (13) = .inr (5, [.int (iI (wz)), .int (iI (uz)), .int (iI (hz)), .int (iI (mz)), .ref (g.2.2 14), .ref (g.2.2 10), .ref (g.2.2 15), .ref (g.2.2 16)])) → (h15 : M (15) = .inl (g.2.1 0, 6, .inl (fun k => iI (Wb (k : Int))))) → (hqa0 : M (10) = .inr (7, [.ref (g.2.2 11), .ref (g.2.2 12), .int (iI (na)), .int (iI (ra))])) → (hqa1 : M (11) = .inl (g.2.1 1, 9, .inr (.inr (.inr (.inr (fun k => Ga (k : Int))))))) → (hqa2 : M (12) = .inl (g.2.1 0, 9, .inl (fun k => iI (T (k : Int))))) → (h14 : M (14) = .inl (g.2.1 0, 6, .inl (fun k => iI (Rz (k : Int))))) → (h16 : M (16) = .inl (g.2.1 2, 6, .inr (.inr (.inr (.inr (fun k => xGs g (k : Int))))))) → (hfr : ∀ j, (j ≠ 12 ∧ j ≠ 13 ∧ j ≠ 14) → M j = σ.1 j) → xP g (M, σ.2) H → xD g A (M, σ.2) → va_S A s.heap H locs → ∀ (ls : Array Slot), lv_has ls 6 [(5, .int (iI (p9))), (4, .int (iI (1))), (3, .int (iI (lf - ((na - 1) - h)))), (0, .ref (g.2.2 13)), (1, .int (iI (h))), (2, .int (iI (lf)))] → W p l e (headSpec wsX5_part ({ frames := 6, cells := 0, slots := 0, locals := 192 })).room s m ([.ref (g.2.2 13), .int (iI (h)), .int (iI (lf))] : List Value).toArray below meth c H locs 0 0 (MQ below (x_Qv g A (fun σ1 => σ1.2 = σ.2 ∧ (∀ j, j ≠ 12 ∧ j ≠ 13 ∧ j ≠ 14 → σ1.1 j = σ.1 j) ∧ ∃ wy2 un2 hd2 mv2 T Rc2, PObj g σ1.1 wy2 un2 hd2 mv2 ∧ MArr g σ1.1 12 9 T ∧ MArr g σ1.1 14 6 Rc2 ∧ StOk σ na ra T Ga ∧ (∀ i, 0 ≤ i → i < h → T i = Pa i) ∧ zRl na wy2 un2 hd2 mv2 Rc2 (fun o => zParts (zNote (sK σ Ga) (sF σ Ga) Wb na ra o) (na - h).toNat h lf Pa (Q o)))) ([.ref (g.2.2 13), .int (iI (h)), .int (iI (lf))] : List Value).toArray s (0) (0) A) (F0 m 69 ls []) := by
        intro k
        induction k with
        | zero =>
          intros; exact absurd (by assumption) (Nat.not_lt_zero _)
        | succ k ih =>
          intro T wz uz hz mz Rz p9 hmeas hTo hpr hp0 hp1 hp2 hR M H locs hp13 h15 hqa0 hqa1 hqa2 h14 h16 hfr hP hD hS ls hl
          have ih_2 := ih
          refine lv_iload hx hb dX5_part_69 (lv_at hl 0 rfl) ?_
          refine lv_iload_n hx hb dX5_part_71 rfl (lv_at hl 2 rfl) ?_
          refine x_icmp_gt (tgt := 118) hx hb (by omega) (by omega) dX5_part_72 (by decide) (fun c_72 => ?_) (fun c_72 => ?_)
          · refine x_retQv hx hb hr ?_ hP hD hS dX5_part_118 hlocks
            refine ⟨rfl, hfr, _, _, _, _, _, _, hp13, hqa2, h14, hTo, hpr, ?_⟩
            have e : (fun o => zParts (zNote (sK σ Ga) (sF σ Ga) Wb na ra o) (na - h).toNat h lf Pa (Q o)) = (fun o => zFold (fun p q => zParts (zNote (sK σ Ga) (sF σ Ga) Wb na ra o) (na - (h + 1)).toNat (h + 1) (lf - p) (upI Pa h p) q) (zLst (na - 1 - h) lf) (Q o) (p9 - zLst (na - 1 - h) lf).toNat) := funext (fun o => by (rw [zParts_step _ _ _ _ (by omega), show (lf - (na - 1 - h) + 1 - zLst (na - 1 - h) lf).toNat = (p9 - zLst (na - 1 - h) lf).toNat by omega]))
            rw [e]; exact hR
          · refine lv_aload_n hx hb dX5_part_75 rfl (lv_at hl 3 rfl) ?_
            refine x_get (C := RX5) (T := TX5) (N := 8) hx hb hts hin_X5 hown hK hP (13) (by decide) hp13 rfl 5 (by decide) hw_0 (fun _ h9 => h9) rfl dX5_part_76 ?_
            refine x_get (C := RX7) (T := TX7) (N := 4) hx hb hts hin_X7 hown hK hP (10) (by decide) hqa0 rfl 1 (by decide) hw_8 (fun _ h9 => h9) rfl dX5_part_79 ?_
            refine lv_iload_n hx hb dX5_part_82 rfl (lv_at hl 4 rfl) ?_
            refine lv_iload hx hb dX5_part_83 (lv_at hl 0 rfl) ?_
            refine x_iast (f := T) hx hb hK hP hD hS (12) (by decide) hqa2 (by omega) (by omega) (by decide) dX5_part_85 (fun M_3 H locs hnew hne hP hD hS => ?_)
            obtain ⟨f_4, hf_4⟩ : ∃ q : Int → Int, q = (upI T (h) (p9)) := ⟨_, rfl⟩
            rw [← hf_4] at hnew
            have hP : xP g (M_3, σ.2) H := hP
            have hD : xD g A (M_3, σ.2) := hD
            have hqa2 : M_3 (12) = .inl (g.2.1 0, 9, .inl (fun k => iI (f_4 (k : Int)))) := hnew
            have hp13 := (hne (13) (by decide)).trans hp13
            have h15 := (hne (15) (by decide)).trans h15
            have hqa0 := (hne (10) (by decide)).trans hqa0
            have hqa1 := (hne (11) (by decide)).trans hqa1
            have h14 := (hne (14) (by decide)).trans h14
            have h16 := (hne (16) (by decide)).trans h16
            have hfr := x_fr (F := fun j => j ≠ 12 ∧ j ≠ 13 ∧ j ≠ 14) hfr hne (fun j h => by have h : j ≠ 12 ∧ j ≠ 13 ∧ j ≠ 14 := h; omega)
            have ost_5 : StOk σ (na) (ra) f_4 Ga := by (rw [hf_4]; exact StOk_purse hTo (by omega))
            have hTf : ∀ i, f_4 i = upI T h p9 i := fun i => by (rw [hf_4])
            have hT9 : ∀ i, 0 ≤ i → i < h + 1 → upI Pa h p9 i = f_4 i := fun i a b => by (rw [hTf i]; unfold upI; split; (rfl); exact (hpr i a (by omega)).symm)
            have hpT := zPth_congr hpth hpr
            have hTh : f_4 h = p9 := by (rw [hTf, upI_s])
            have hTg : f_4 (h - 1) = Pa (h - 1) ∨ h = 0 := by (by_cases e9 : h = 0; (exact Or.inr e9); (left; rw [hTf, upI_n (by omega)]; exact hpr _ (by omega) (by omega)))
            have hb1 : h ≠ 0 → 1 ≤ Pa (h - 1) ∧ Pa (h - 1) + lf ≤ c0 := fun q => hpth.1 (h - 1) (by omega) (by omega)
            refine lv_iload_n hx hb dX5_part_86 rfl (lv_at hl 4 rfl) ?_
            refine x_if_eq (tgt := 101) hx hb (by omega) dX5_part_87 (by decide) (fun c_87 => ?_) (fun c_87 => ?_)
            · have hyP : h = 0 ∨ zPr (sK σ Ga) (sF σ Ga) (h - 1) h (T (h - 1)) p9 := by (left; omega)
              refine lv_aload_n hx hb dX5_part_101 rfl (lv_at hl 3 rfl) ?_
              refine lv_iload_n hx hb dX5_part_102 rfl (lv_at hl 4 rfl) ?_
              refine x_iconst hx hb dX5_part_103 ?_
              refine x_iadd hx hb dX5_part_104 ?_
              refine lv_iload_n hx hb dX5_part_105 rfl (lv_at hl 5 rfl) ?_
              refine lv_iload hx hb dX5_part_106 (lv_at hl 0 rfl) ?_
              refine x_isub hx hb dX5_part_108 ?_
              refine x_cqv0 (va_runV (As := [.int (iI (h + 1)), .int (iI (lf - p9))]) (rest := []) ⟨hx, hb, hml, hown, hts⟩ (c_X5_part0 l g (M_3, σ.2) A (wz) (uz) (hz) (mz) hp13 (na) (ra) f_4 Ga ⟨hqa0, hqa1, hqa2⟩ ost_5 hH Wb h15 hWb hn6 Rz h14 Su h16 (fun d a b => (hfr _ (by omega)).trans (hsr d a b)) hSr c0 hc0 hsu (fun o => zFold (fun p q => zParts (zNote (sK σ Ga) (sF σ Ga) Wb na ra o) (na - (h + 1)).toNat (h + 1) (lf - p) (upI Pa h p) q) (zLst (na - 1 - h) lf) (Q o) (p9 - zLst (na - 1 - h) lf).toNat) hR (h + 1) (by omega) (lf - p9) (by omega) (zPart_room (zNote_ways (sK σ Ga) (sF σ Ga) Wb na ra 0) hh.1 (by omega) (by omega) hp0 (by omega) (hQ.2.2.2.2.2 0).1 (hR.2.2.2.2.2 0).1 hwr) (by rw [hf_4]; exact zPth_go hpT hh.1 (by omega) (by omega) (by omega) hyP)) (cwV 2 hts gX5_part_X5_part rfl rfl rfl (by decide +kernel) ⟨Nat.le_of_ble_eq_true rfl, Nat.le_of_ble_eq_true rfl⟩) (x_preVQ hK hP hD hS hA (x_recv hK hP (i := 13) (by decide) hp13 rfl)) rfl rfl hl.1 rfl (lv_room (Nat.le_of_ble_eq_true rfl)) dX5_part_109 ⟨by decide, by decide⟩) hS (fun σ1 H locs hpost hP hD hS => ?_)
              obtain ⟨M_6, p1⟩ := σ1
              obtain ⟨hp0, hfrc, wn_7, un_8, hn_9, mn_10, T_12, Rn_11, hn13, hn12, hn14, ost_13, hnT, hnQ⟩ := hpost
              obtain rfl : p1 = σ.2 := hp0
              have hP : xP g (M_6, σ.2) H := hP
              have hD : xD g A (M_6, σ.2) := hD
              have h15 := (hfrc (15) (by omega)).trans h15
              have hqa0 := (hfrc (10) (by omega)).trans hqa0
              have hqa1 := (hfrc (11) (by omega)).trans hqa1
              have h16 := (hfrc (16) (by omega)).trans h16
              have hfr := x_frc (F := fun j => j ≠ 12 ∧ j ≠ 13 ∧ j ≠ 14) hfr hfrc (fun j h => by have h : j ≠ 12 ∧ j ≠ 13 ∧ j ≠ 14 := h; omega)
              have hp13 : PObj g M_6 wn_7 un_8 hn_9 mn_10 := hn13
              have h14 : MArr g M_6 14 6 Rn_11 := hn14
              have hqa2 : MArr g M_6 12 9 T_12 := hn12
              replace hnQ : zRl na wn_7 un_8 hn_9 mn_10 Rn_11 (fun o => zParts (zNote (sK σ Ga) (sF σ Ga) Wb na ra o) (na - (h + 1)).toNat (h + 1) (lf - p9) f_4 ((fun o => zFold (fun p q => zParts (zNote (sK σ Ga) (sF σ Ga) Wb na ra o) (na - (h + 1)).toNat (h + 1) (lf - p) (upI Pa h p) q) (zLst (na - 1 - h) lf) (Q o) (p9 - zLst (na - 1 - h) lf).toNat) o)) := hnQ
              refine x_iinc (k0 := 0) (lv' := [(5, .int (iI (p9 + 1))), (4, .int (iI (1))), (3, .int (iI (lf - ((na - 1) - h)))), (0, .ref (g.2.2 13)), (1, .int (iI (h))), (2, .int (iI (lf)))]) hx hb dX5_part_112 hl rfl (by decide) rfl (fun ls hl => ?_)
              refine lv_goto (tgt := 69) hx hb dX5_part_115 (by decide) ?_
              exact ih_2 (T_12) (wn_7) (un_8) (hn_9) (mn_10) (Rn_11) (p9 + 1) (by omega) (by exact ost_13) (by (intro i a b; rw [hnT i a (by omega), hTf i, upI_n (by omega)]; exact hpr i a b)) (by omega) (by omega) (by omega) (by (have e : (fun o => zFold (fun p q => zParts (zNote (sK σ Ga) (sF σ Ga) Wb na ra o) (na - (h + 1)).toNat (h + 1) (lf - p) (upI Pa h p) q) (zLst (na - 1 - h) lf) (Q o) ((p9 + 1) - zLst (na - 1 - h) lf).toNat) = (fun o => zParts (zNote (sK σ Ga) (sF σ Ga) Wb na ra o) (na - (h + 1)).toNat (h + 1) (lf - p9) f_4 ((fun o => zFold (fun p q => zParts (zNote (sK σ Ga) (sF σ Ga) Wb na ra o) (na - (h + 1)).toNat (h + 1) (lf - p) (upI Pa h p) q) (zLst (na - 1 - h) lf) (Q o) (p9 - zLst (na - 1 - h) lf).toNat) o)) := funext (fun o => by (rw [zFold_succ _ _ hp0]; exact zParts_congr (zNote_local (fun _ _ _ => rfl)) _ _ _ _ _ _ (by omega) hT9))); rw [e]; exact hnQ) (M_6) _ _ hp13 h15 hqa0 hqa1 hqa2 h14 h16 hfr hP hD hS ls (lv_sub hl [0, 1, 2, 3, 4, 5] rfl)
            · refine lv_aload_n hx hb dX5_part_90 rfl (lv_at hl 3 rfl) ?_
              refine lv_iload_n hx hb dX5_part_91 rfl (lv_at hl 4 rfl) ?_
              refine x_iconst hx hb dX5_part_92 ?_
              refine x_isub hx hb dX5_part_93 ?_
              refine lv_iload_n hx hb dX5_part_94 rfl (lv_at hl 4 rfl) ?_
              refine x_ci (va_runV (As := [.int (iI (h - 1)), .int (iI (h))]) (rest := []) ⟨hx, hb, hml, hown, hts⟩ (c_X5_suit l g (M_3, σ.2) (wz) (uz) (hz) (mz) hp13 (na) (ra) f_4 Ga ⟨hqa0, hqa1, hqa2⟩ ost_5 hH (17 + (h - 1).toNat) h16 (h - 1) (by omega) (h) (by omega) rfl (Su (h - 1)) ((hfr _ (by omega)).trans (hsr (h - 1) (by omega) (by omega))) (fun k => hSr _ k) (by omega)) (cwV 2 hts gX5_part_X5_suit rfl rfl rfl (by decide +kernel) ⟨Nat.le_of_ble_eq_true rfl, Nat.le_of_ble_eq_true rfl⟩) (x_preV hK hP (x_recv hK hP (i := 13) (by decide) hp13 rfl)) rfl rfl hl.1 rfl (lv_room (Nat.le_of_ble_eq_true rfl)) dX5_part_95 ⟨Nat.le_of_ble_eq_true rfl, Nat.le_of_ble_eq_true rfl⟩) (fun r_95 hr_95 qr_95 => ?_)
              replace qr_95 : (r_95 = 1 ∧ zBt (Su (h - 1) (f_4 (h - 1))) (f_4 (h))) ∨ (r_95 = 0 ∧ ¬ zBt (Su (h - 1) (f_4 (h - 1))) (f_4 (h))) := qr_95
              have hTg : f_4 (h - 1) = Pa (h - 1) := by omega
              have hsz : zBt (Su (h - 1) (Pa (h - 1))) p9 ↔ zPr (sK σ Ga) (sF σ Ga) (h - 1) h (Pa (h - 1)) p9 := by (have e0 : zBehind na ra (h - 1) = h := (by (unfold zBehind; rw [if_pos (by omega)]; omega)); have z := hsu (h - 1) (by omega) (by omega) (by rw [e0]; omega) (Pa (h - 1)) p9 (by omega) (by omega) (by omega); rw [e0] at z; exact z)
              rw [hTg, hTh] at qr_95
              refine x_if_eq (tgt := 112) hx hb (by omega) dX5_part_98 (by decide) (fun c_98 => ?_) (fun c_98 => ?_)
              · have hnP : ¬ zPr (sK σ Ga) (sF σ Ga) (h - 1) h (Pa (h - 1)) p9 := by (rw [← hsz]; rcases qr_95 with q | q; omega; exact q.2)
                refine x_iinc (k0 := 0) (lv' := [(5, .int (iI (p9 + 1))), (4, .int (iI (1))), (3, .int (iI (lf - ((na - 1) - h)))), (0, .ref (g.2.2 13)), (1, .int (iI (h))), (2, .int (iI (lf)))]) hx hb dX5_part_112 hl rfl (by decide) rfl (fun ls hl => ?_)
                refine lv_goto (tgt := 69) hx hb dX5_part_115 (by decide) ?_
                exact ih_2 (f_4) (wz) (uz) (hz) (mz) (Rz) (p9 + 1) (by omega) (by exact ost_5) (by (intro i a b; rw [hTf i, upI_n (by omega)]; exact hpr i a b)) (by omega) (by omega) (by omega) (by (have e : (fun o => zFold (fun p q => zParts (zNote (sK σ Ga) (sF σ Ga) Wb na ra o) (na - (h + 1)).toNat (h + 1) (lf - p) (upI Pa h p) q) (zLst (na - 1 - h) lf) (Q o) ((p9 + 1) - zLst (na - 1 - h) lf).toNat) = (fun o => zFold (fun p q => zParts (zNote (sK σ Ga) (sF σ Ga) Wb na ra o) (na - (h + 1)).toNat (h + 1) (lf - p) (upI Pa h p) q) (zLst (na - 1 - h) lf) (Q o) (p9 - zLst (na - 1 - h) lf).toNat) := funext (fun o => by (rw [zFold_succ _ _ hp0]; exact zParts_bad2 _ (by omega) (by omega) (by rw [upI_n (by omega), upI_s]; exact hnP)))); rw [e]; exact hR) (M_3) _ _ hp13 h15 hqa0 hqa1 hqa2 h14 h16 hfr hP hD hS ls (lv_sub hl [0, 1, 2, 3, 4, 5] rfl)
              · have hyP : h = 0 ∨ zPr (sK σ Ga) (sF σ Ga) (h - 1) h (T (h - 1)) p9 := by (right; rw [hpr (h - 1) (by omega) (by omega), ← hsz]; rcases qr_95 with q | q; exact q.2; omega)
                refine lv_aload_n hx hb dX5_part_101 rfl (lv_at hl 3 rfl) ?_
                refine lv_iload_n hx hb dX5_part_102 rfl (lv_at hl 4 rfl) ?_
                refine x_iconst hx hb dX5_part_103 ?_
                refine x_iadd hx hb dX5_part_104 ?_
                refine lv_iload_n hx hb dX5_part_105 rfl (lv_at hl 5 rfl) ?_
                refine lv_iload hx hb dX5_part_106 (lv_at hl 0 rfl) ?_
                refine x_isub hx hb dX5_part_108 ?_
                refine x_cqv0 (va_runV (As := [.int (iI (h + 1)), .int (iI (lf - p9))]) (rest := []) ⟨hx, hb, hml, hown, hts⟩ (c_X5_part0 l g (M_3, σ.2) A (wz) (uz) (hz) (mz) hp13 (na) (ra) f_4 Ga ⟨hqa0, hqa1, hqa2⟩ ost_5 hH Wb h15 hWb hn6 Rz h14 Su h16 (fun d a b => (hfr _ (by omega)).trans (hsr d a b)) hSr c0 hc0 hsu (fun o => zFold (fun p q => zParts (zNote (sK σ Ga) (sF σ Ga) Wb na ra o) (na - (h + 1)).toNat (h + 1) (lf - p) (upI Pa h p) q) (zLst (na - 1 - h) lf) (Q o) (p9 - zLst (na - 1 - h) lf).toNat) hR (h + 1) (by omega) (lf - p9) (by omega) (zPart_room (zNote_ways (sK σ Ga) (sF σ Ga) Wb na ra 0) hh.1 (by omega) (by omega) hp0 (by omega) (hQ.2.2.2.2.2 0).1 (hR.2.2.2.2.2 0).1 hwr) (by rw [hf_4]; exact zPth_go hpT hh.1 (by omega) (by omega) (by omega) hyP)) (cwV 2 hts gX5_part_X5_part rfl rfl rfl (by decide +kernel) ⟨Nat.le_of_ble_eq_true rfl, Nat.le_of_ble_eq_true rfl⟩) (x_preVQ hK hP hD hS hA (x_recv hK hP (i := 13) (by decide) hp13 rfl)) rfl rfl hl.1 rfl (lv_room (Nat.le_of_ble_eq_true rfl)) dX5_part_109 ⟨by decide, by decide⟩) hS (fun σ1 H locs hpost hP hD hS => ?_)
                obtain ⟨M_14, p1⟩ := σ1
                obtain ⟨hp0, hfrc, wn_15, un_16, hn_17, mn_18, T_20, Rn_19, hn13, hn12, hn14, ost_21, hnT, hnQ⟩ := hpost
                obtain rfl : p1 = σ.2 := hp0
                have hP : xP g (M_14, σ.2) H := hP
                have hD : xD g A (M_14, σ.2) := hD
                have h15 := (hfrc (15) (by omega)).trans h15
                have hqa0 := (hfrc (10) (by omega)).trans hqa0
                have hqa1 := (hfrc (11) (by omega)).trans hqa1
                have h16 := (hfrc (16) (by omega)).trans h16
                have hfr := x_frc (F := fun j => j ≠ 12 ∧ j ≠ 13 ∧ j ≠ 14) hfr hfrc (fun j h => by have h : j ≠ 12 ∧ j ≠ 13 ∧ j ≠ 14 := h; omega)
                have hp13 : PObj g M_14 wn_15 un_16 hn_17 mn_18 := hn13
                have h14 : MArr g M_14 14 6 Rn_19 := hn14
                have hqa2 : MArr g M_14 12 9 T_20 := hn12
                replace hnQ : zRl na wn_15 un_16 hn_17 mn_18 Rn_19 (fun o => zParts (zNote (sK σ Ga) (sF σ Ga) Wb na ra o) (na - (h + 1)).toNat (h + 1) (lf - p9) f_4 ((fun o => zFold (fun p q => zParts (zNote (sK σ Ga) (sF σ Ga) Wb na ra o) (na - (h + 1)).toNat (h + 1) (lf - p) (upI Pa h p) q) (zLst (na - 1 - h) lf) (Q o) (p9 - zLst (na - 1 - h) lf).toNat) o)) := hnQ
                refine x_iinc (k0 := 0) (lv' := [(5, .int (iI (p9 + 1))), (4, .int (iI (1))), (3, .int (iI (lf - ((na - 1) - h)))), (0, .ref (g.2.2 13)), (1, .int (iI (h))), (2, .int (iI (lf)))]) hx hb dX5_part_112 hl rfl (by decide) rfl (fun ls hl => ?_)
                refine lv_goto (tgt := 69) hx hb dX5_part_115 (by decide) ?_
                exact ih_2 (T_20) (wn_15) (un_16) (hn_17) (mn_18) (Rn_19) (p9 + 1) (by omega) (by exact ost_21) (by (intro i a b; rw [hnT i a (by omega), hTf i, upI_n (by omega)]; exact hpr i a b)) (by omega) (by omega) (by omega) (by (have e : (fun o => zFold (fun p q => zParts (zNote (sK σ Ga) (sF σ Ga) Wb na ra o) (na - (h + 1)).toNat (h + 1) (lf - p) (upI Pa h p) q) (zLst (na - 1 - h) lf) (Q o) ((p9 + 1) - zLst (na - 1 - h) lf).toNat) = (fun o => zParts (zNote (sK σ Ga) (sF σ Ga) Wb na ra o) (na - (h + 1)).toNat (h + 1) (lf - p9) f_4 ((fun o => zFold (fun p q => zParts (zNote (sK σ Ga) (sF σ Ga) Wb na ra o) (na - (h + 1)).toNat (h + 1) (lf - p) (upI Pa h p) q) (zLst (na - 1 - h) lf) (Q o) (p9 - zLst (na - 1 - h) lf).toNat) o)) := funext (fun o => by (rw [zFold_succ _ _ hp0]; exact zParts_congr (zNote_local (fun _ _ _ => rfl)) _ _ _ _ _ _ (by omega) hT9))); rw [e]; exact hnQ) (M_14) _ _ hp13 h15 hqa0 hqa1 hqa2 h14 h16 hfr hP hD hS ls (lv_sub hl [0, 1, 2, 3, 4, 5] rfl)
      exact hloop_69 ((((40 : Int) - ((q_1))).toNat) + 1) (Pa) (wy) (un) (hd9) (mv) (Rc) ((q_1)) (by omega) (by exact hoa) (by exact fun _ _ _ => rfl) (by omega) (by omega) (by omega) (by (have e : (fun o => zFold (fun p q => zParts (zNote (sK σ Ga) (sF σ Ga) Wb na ra o) (na - (h + 1)).toNat (h + 1) (lf - p) (upI Pa h p) q) (zLst (na - 1 - h) lf) (Q o) ((q_1) - zLst (na - 1 - h) lf).toNat) = Q := funext (fun o => zFold_0 _ _ (by omega))); rw [e]; exact hQ) (σ.1) _ _ hp13 h15 hqa0 hqa1 hqa2 h14 h16 hfr hP hD hS ls (lv_sub hl [0, 1, 2, 3, 4, 5] rfl)
    · refine lv_iload_n hx hb dX5_part_54 rfl (lv_at hl 3 rfl) ?_
      refine lv_goto (tgt := 59) hx hb dX5_part_55 (by decide) ?_
      refine lv_istore (lv' := [(4, .int (iI (lf))), (3, .int (iI (lf - ((na - 1) - h)))), (0, .ref (g.2.2 13)), (1, .int (iI (h))), (2, .int (iI (lf)))]) hx hb dX5_part_59 hl (by decide) rfl (fun ls hl => ?_)
      refine x_iconst hx hb dX5_part_61 ?_
      refine lv_iload hx hb dX5_part_62 (lv_at hl 0 rfl) ?_
      refine x_max hx hb (hml.trans hl.1.symm) hown hw_4 hw_5 hw_6 hw_7 (Nat.le_of_ble_eq_true rfl) (Nat.le_of_ble_eq_true rfl) (Nat.le_of_ble_eq_true rfl) (Nat.le_of_ble_eq_true rfl) (by omega) (by omega) dX5_part_64 (fun q_22 hq_22 => ?_)
      have hls : zLst (na - 1 - h) lf = (q_22) := by (unfold zLst; split <;> omega)
      refine lv_istore (lv' := [(5, .int (iI (q_22))), (4, .int (iI (lf))), (3, .int (iI (lf - ((na - 1) - h)))), (0, .ref (g.2.2 13)), (1, .int (iI (h))), (2, .int (iI (lf)))]) hx hb dX5_part_67 hl (by decide) rfl (fun ls hl => ?_)
      have hloop_69 : ∀ (k : Nat) (T : Int → Int) (wz : Int) (uz : Int) (hz : Int) (mz : Int) (Rz : Int → Int) (p9 : Int), ((40 : Int) - p9).toNat < k → (hTo : StOk σ na ra T Ga) → (hpr : ∀ i, 0 ≤ i → i < h → T i = Pa i) → (hp0 : zLst (na - 1 - h) lf ≤ p9) → (hp1 : p9 = zLst (na - 1 - h) lf ∨ p9 ≤ lf - (na - 1 - h) + 1) → (hp2 : 1 ≤ p9 ∧ p9 ≤ 21) → (hR : zRl na wz uz hz mz Rz (fun o => zFold (fun p q => zParts (zNote (sK σ Ga) (sF σ Ga) Wb na ra o) (na - (h + 1)).toNat (h + 1) (lf - p) (upI Pa h p) q) (zLst (na - 1 - h) lf) (Q o) (p9 - zLst (na - 1 - h) lf).toNat)) → ∀ (M : xM) (H : Heap) (locs : List Loc), (hp13 : M (13) = .inr (5, [.int (iI (wz)), .int (iI (uz)), .int (iI (hz)), .int (iI (mz)), .ref (g.2.2 14), .ref (g.2.2 10), .ref (g.2.2 15), .ref (g.2.2 16)])) → (h15 : M (15) = .inl (g.2.1 0, 6, .inl (fun k => iI (Wb (k : Int))))) → (hqa0 : M (10) = .inr (7, [.ref (g.2.2 11), .ref (g.2.2 12), .int (iI (na)), .int (iI (ra))])) → (hqa1 : M (11) = .inl (g.2.1 1, 9, .inr (.inr (.inr (.inr (fun k => Ga (k : Int))))))) → (hqa2 : M (12) = .inl (g.2.1 0, 9, .inl (fun k => iI (T (k : Int))))) → (h14 : M (14) = .inl (g.2.1 0, 6, .inl (fun k => iI (Rz (k : Int))))) → (h16 : M (16) = .inl (g.2.1 2, 6, .inr (.inr (.inr (.inr (fun k => xGs g (k : Int))))))) → (hfr : ∀ j, (j ≠ 12 ∧ j ≠ 13 ∧ j ≠ 14) → M j = σ.1 j) → xP g (M, σ.2) H → xD g A (M, σ.2) → va_S A s.heap H locs → ∀ (ls : Array Slot), lv_has ls 6 [(5, .int (iI (p9))), (4, .int (iI (lf))), (3, .int (iI (lf - ((na - 1) - h)))), (0, .ref (g.2.2 13)), (1, .int (iI (h))), (2, .int (iI (lf)))] → W p l e (headSpec wsX5_part ({ frames := 6, cells := 0, slots := 0, locals := 192 })).room s m ([.ref (g.2.2 13), .int (iI (h)), .int (iI (lf))] : List Value).toArray below meth c H locs 0 0 (MQ below (x_Qv g A (fun σ1 => σ1.2 = σ.2 ∧ (∀ j, j ≠ 12 ∧ j ≠ 13 ∧ j ≠ 14 → σ1.1 j = σ.1 j) ∧ ∃ wy2 un2 hd2 mv2 T Rc2, PObj g σ1.1 wy2 un2 hd2 mv2 ∧ MArr g σ1.1 12 9 T ∧ MArr g σ1.1 14 6 Rc2 ∧ StOk σ na ra T Ga ∧ (∀ i, 0 ≤ i → i < h → T i = Pa i) ∧ zRl na wy2 un2 hd2 mv2 Rc2 (fun o => zParts (zNote (sK σ Ga) (sF σ Ga) Wb na ra o) (na - h).toNat h lf Pa (Q o)))) ([.ref (g.2.2 13), .int (iI (h)), .int (iI (lf))] : List Value).toArray s (0) (0) A) (F0 m 69 ls []) := by
        intro k
        induction k with
        | zero =>
          intros; exact absurd (by assumption) (Nat.not_lt_zero _)
        | succ k ih =>
          intro T wz uz hz mz Rz p9 hmeas hTo hpr hp0 hp1 hp2 hR M H locs hp13 h15 hqa0 hqa1 hqa2 h14 h16 hfr hP hD hS ls hl
          have ih_23 := ih
          refine lv_iload hx hb dX5_part_69 (lv_at hl 0 rfl) ?_
          refine lv_iload_n hx hb dX5_part_71 rfl (lv_at hl 2 rfl) ?_
          refine x_icmp_gt (tgt := 118) hx hb (by omega) (by omega) dX5_part_72 (by decide) (fun c_72 => ?_) (fun c_72 => ?_)
          · refine x_retQv hx hb hr ?_ hP hD hS dX5_part_118 hlocks
            refine ⟨rfl, hfr, _, _, _, _, _, _, hp13, hqa2, h14, hTo, hpr, ?_⟩
            have e : (fun o => zParts (zNote (sK σ Ga) (sF σ Ga) Wb na ra o) (na - h).toNat h lf Pa (Q o)) = (fun o => zFold (fun p q => zParts (zNote (sK σ Ga) (sF σ Ga) Wb na ra o) (na - (h + 1)).toNat (h + 1) (lf - p) (upI Pa h p) q) (zLst (na - 1 - h) lf) (Q o) (p9 - zLst (na - 1 - h) lf).toNat) := funext (fun o => by (rw [zParts_step _ _ _ _ (by omega), show (lf - (na - 1 - h) + 1 - zLst (na - 1 - h) lf).toNat = (p9 - zLst (na - 1 - h) lf).toNat by omega]))
            rw [e]; exact hR
          · refine lv_aload_n hx hb dX5_part_75 rfl (lv_at hl 3 rfl) ?_
            refine x_get (C := RX5) (T := TX5) (N := 8) hx hb hts hin_X5 hown hK hP (13) (by decide) hp13 rfl 5 (by decide) hw_0 (fun _ h9 => h9) rfl dX5_part_76 ?_
            refine x_get (C := RX7) (T := TX7) (N := 4) hx hb hts hin_X7 hown hK hP (10) (by decide) hqa0 rfl 1 (by decide) hw_8 (fun _ h9 => h9) rfl dX5_part_79 ?_
            refine lv_iload_n hx hb dX5_part_82 rfl (lv_at hl 4 rfl) ?_
            refine lv_iload hx hb dX5_part_83 (lv_at hl 0 rfl) ?_
            refine x_iast (f := T) hx hb hK hP hD hS (12) (by decide) hqa2 (by omega) (by omega) (by decide) dX5_part_85 (fun M_24 H locs hnew hne hP hD hS => ?_)
            obtain ⟨f_25, hf_25⟩ : ∃ q : Int → Int, q = (upI T (h) (p9)) := ⟨_, rfl⟩
            rw [← hf_25] at hnew
            have hP : xP g (M_24, σ.2) H := hP
            have hD : xD g A (M_24, σ.2) := hD
            have hqa2 : M_24 (12) = .inl (g.2.1 0, 9, .inl (fun k => iI (f_25 (k : Int)))) := hnew
            have hp13 := (hne (13) (by decide)).trans hp13
            have h15 := (hne (15) (by decide)).trans h15
            have hqa0 := (hne (10) (by decide)).trans hqa0
            have hqa1 := (hne (11) (by decide)).trans hqa1
            have h14 := (hne (14) (by decide)).trans h14
            have h16 := (hne (16) (by decide)).trans h16
            have hfr := x_fr (F := fun j => j ≠ 12 ∧ j ≠ 13 ∧ j ≠ 14) hfr hne (fun j h => by have h : j ≠ 12 ∧ j ≠ 13 ∧ j ≠ 14 := h; omega)
            have ost_26 : StOk σ (na) (ra) f_25 Ga := by (rw [hf_25]; exact StOk_purse hTo (by omega))
            have hTf : ∀ i, f_25 i = upI T h p9 i := fun i => by (rw [hf_25])
            have hT9 : ∀ i, 0 ≤ i → i < h + 1 → upI Pa h p9 i = f_25 i := fun i a b => by (rw [hTf i]; unfold upI; split; (rfl); exact (hpr i a (by omega)).symm)
            have hpT := zPth_congr hpth hpr
            have hTh : f_25 h = p9 := by (rw [hTf, upI_s])
            have hTg : f_25 (h - 1) = Pa (h - 1) ∨ h = 0 := by (by_cases e9 : h = 0; (exact Or.inr e9); (left; rw [hTf, upI_n (by omega)]; exact hpr _ (by omega) (by omega)))
            have hb1 : h ≠ 0 → 1 ≤ Pa (h - 1) ∧ Pa (h - 1) + lf ≤ c0 := fun q => hpth.1 (h - 1) (by omega) (by omega)
            refine lv_iload_n hx hb dX5_part_86 rfl (lv_at hl 4 rfl) ?_
            refine x_if_eq (tgt := 101) hx hb (by omega) dX5_part_87 (by decide) (fun c_87 => ?_) (fun c_87 => ?_)
            · have hyP : h = 0 ∨ zPr (sK σ Ga) (sF σ Ga) (h - 1) h (T (h - 1)) p9 := by (left; omega)
              refine lv_aload_n hx hb dX5_part_101 rfl (lv_at hl 3 rfl) ?_
              refine lv_iload_n hx hb dX5_part_102 rfl (lv_at hl 4 rfl) ?_
              refine x_iconst hx hb dX5_part_103 ?_
              refine x_iadd hx hb dX5_part_104 ?_
              refine lv_iload_n hx hb dX5_part_105 rfl (lv_at hl 5 rfl) ?_
              refine lv_iload hx hb dX5_part_106 (lv_at hl 0 rfl) ?_
              refine x_isub hx hb dX5_part_108 ?_
              refine x_cqv0 (va_runV (As := [.int (iI (h + 1)), .int (iI (lf - p9))]) (rest := []) ⟨hx, hb, hml, hown, hts⟩ (c_X5_part0 l g (M_24, σ.2) A (wz) (uz) (hz) (mz) hp13 (na) (ra) f_25 Ga ⟨hqa0, hqa1, hqa2⟩ ost_26 hH Wb h15 hWb hn6 Rz h14 Su h16 (fun d a b => (hfr _ (by omega)).trans (hsr d a b)) hSr c0 hc0 hsu (fun o => zFold (fun p q => zParts (zNote (sK σ Ga) (sF σ Ga) Wb na ra o) (na - (h + 1)).toNat (h + 1) (lf - p) (upI Pa h p) q) (zLst (na - 1 - h) lf) (Q o) (p9 - zLst (na - 1 - h) lf).toNat) hR (h + 1) (by omega) (lf - p9) (by omega) (zPart_room (zNote_ways (sK σ Ga) (sF σ Ga) Wb na ra 0) hh.1 (by omega) (by omega) hp0 (by omega) (hQ.2.2.2.2.2 0).1 (hR.2.2.2.2.2 0).1 hwr) (by rw [hf_25]; exact zPth_go hpT hh.1 (by omega) (by omega) (by omega) hyP)) (cwV 2 hts gX5_part_X5_part rfl rfl rfl (by decide +kernel) ⟨Nat.le_of_ble_eq_true rfl, Nat.le_of_ble_eq_true rfl⟩) (x_preVQ hK hP hD hS hA (x_recv hK hP (i := 13) (by decide) hp13 rfl)) rfl rfl hl.1 rfl (lv_room (Nat.le_of_ble_eq_true rfl)) dX5_part_109 ⟨by decide, by decide⟩) hS (fun σ1 H locs hpost hP hD hS => ?_)
              obtain ⟨M_27, p1⟩ := σ1
              obtain ⟨hp0, hfrc, wn_28, un_29, hn_30, mn_31, T_33, Rn_32, hn13, hn12, hn14, ost_34, hnT, hnQ⟩ := hpost
              obtain rfl : p1 = σ.2 := hp0
              have hP : xP g (M_27, σ.2) H := hP
              have hD : xD g A (M_27, σ.2) := hD
              have h15 := (hfrc (15) (by omega)).trans h15
              have hqa0 := (hfrc (10) (by omega)).trans hqa0
              have hqa1 := (hfrc (11) (by omega)).trans hqa1
              have h16 := (hfrc (16) (by omega)).trans h16
              have hfr := x_frc (F := fun j => j ≠ 12 ∧ j ≠ 13 ∧ j ≠ 14) hfr hfrc (fun j h => by have h : j ≠ 12 ∧ j ≠ 13 ∧ j ≠ 14 := h; omega)
              have hp13 : PObj g M_27 wn_28 un_29 hn_30 mn_31 := hn13
              have h14 : MArr g M_27 14 6 Rn_32 := hn14
              have hqa2 : MArr g M_27 12 9 T_33 := hn12
              replace hnQ : zRl na wn_28 un_29 hn_30 mn_31 Rn_32 (fun o => zParts (zNote (sK σ Ga) (sF σ Ga) Wb na ra o) (na - (h + 1)).toNat (h + 1) (lf - p9) f_25 ((fun o => zFold (fun p q => zParts (zNote (sK σ Ga) (sF σ Ga) Wb na ra o) (na - (h + 1)).toNat (h + 1) (lf - p) (upI Pa h p) q) (zLst (na - 1 - h) lf) (Q o) (p9 - zLst (na - 1 - h) lf).toNat) o)) := hnQ
              refine x_iinc (k0 := 0) (lv' := [(5, .int (iI (p9 + 1))), (4, .int (iI (lf))), (3, .int (iI (lf - ((na - 1) - h)))), (0, .ref (g.2.2 13)), (1, .int (iI (h))), (2, .int (iI (lf)))]) hx hb dX5_part_112 hl rfl (by decide) rfl (fun ls hl => ?_)
              refine lv_goto (tgt := 69) hx hb dX5_part_115 (by decide) ?_
              exact ih_23 (T_33) (wn_28) (un_29) (hn_30) (mn_31) (Rn_32) (p9 + 1) (by omega) (by exact ost_34) (by (intro i a b; rw [hnT i a (by omega), hTf i, upI_n (by omega)]; exact hpr i a b)) (by omega) (by omega) (by omega) (by (have e : (fun o => zFold (fun p q => zParts (zNote (sK σ Ga) (sF σ Ga) Wb na ra o) (na - (h + 1)).toNat (h + 1) (lf - p) (upI Pa h p) q) (zLst (na - 1 - h) lf) (Q o) ((p9 + 1) - zLst (na - 1 - h) lf).toNat) = (fun o => zParts (zNote (sK σ Ga) (sF σ Ga) Wb na ra o) (na - (h + 1)).toNat (h + 1) (lf - p9) f_25 ((fun o => zFold (fun p q => zParts (zNote (sK σ Ga) (sF σ Ga) Wb na ra o) (na - (h + 1)).toNat (h + 1) (lf - p) (upI Pa h p) q) (zLst (na - 1 - h) lf) (Q o) (p9 - zLst (na - 1 - h) lf).toNat) o)) := funext (fun o => by (rw [zFold_succ _ _ hp0]; exact zParts_congr (zNote_local (fun _ _ _ => rfl)) _ _ _ _ _ _ (by omega) hT9))); rw [e]; exact hnQ) (M_27) _ _ hp13 h15 hqa0 hqa1 hqa2 h14 h16 hfr hP hD hS ls (lv_sub hl [0, 1, 2, 3, 4, 5] rfl)
            · refine lv_aload_n hx hb dX5_part_90 rfl (lv_at hl 3 rfl) ?_
              refine lv_iload_n hx hb dX5_part_91 rfl (lv_at hl 4 rfl) ?_
              refine x_iconst hx hb dX5_part_92 ?_
              refine x_isub hx hb dX5_part_93 ?_
              refine lv_iload_n hx hb dX5_part_94 rfl (lv_at hl 4 rfl) ?_
              refine x_ci (va_runV (As := [.int (iI (h - 1)), .int (iI (h))]) (rest := []) ⟨hx, hb, hml, hown, hts⟩ (c_X5_suit l g (M_24, σ.2) (wz) (uz) (hz) (mz) hp13 (na) (ra) f_25 Ga ⟨hqa0, hqa1, hqa2⟩ ost_26 hH (17 + (h - 1).toNat) h16 (h - 1) (by omega) (h) (by omega) rfl (Su (h - 1)) ((hfr _ (by omega)).trans (hsr (h - 1) (by omega) (by omega))) (fun k => hSr _ k) (by omega)) (cwV 2 hts gX5_part_X5_suit rfl rfl rfl (by decide +kernel) ⟨Nat.le_of_ble_eq_true rfl, Nat.le_of_ble_eq_true rfl⟩) (x_preV hK hP (x_recv hK hP (i := 13) (by decide) hp13 rfl)) rfl rfl hl.1 rfl (lv_room (Nat.le_of_ble_eq_true rfl)) dX5_part_95 ⟨Nat.le_of_ble_eq_true rfl, Nat.le_of_ble_eq_true rfl⟩) (fun r_95 hr_95 qr_95 => ?_)
              replace qr_95 : (r_95 = 1 ∧ zBt (Su (h - 1) (f_25 (h - 1))) (f_25 (h))) ∨ (r_95 = 0 ∧ ¬ zBt (Su (h - 1) (f_25 (h - 1))) (f_25 (h))) := qr_95
              have hTg : f_25 (h - 1) = Pa (h - 1) := by omega
              have hsz : zBt (Su (h - 1) (Pa (h - 1))) p9 ↔ zPr (sK σ Ga) (sF σ Ga) (h - 1) h (Pa (h - 1)) p9 := by (have e0 : zBehind na ra (h - 1) = h := (by (unfold zBehind; rw [if_pos (by omega)]; omega)); have z := hsu (h - 1) (by omega) (by omega) (by rw [e0]; omega) (Pa (h - 1)) p9 (by omega) (by omega) (by omega); rw [e0] at z; exact z)
              rw [hTg, hTh] at qr_95
              refine x_if_eq (tgt := 112) hx hb (by omega) dX5_part_98 (by decide) (fun c_98 => ?_) (fun c_98 => ?_)
              · have hnP : ¬ zPr (sK σ Ga) (sF σ Ga) (h - 1) h (Pa (h - 1)) p9 := by (rw [← hsz]; rcases qr_95 with q | q; omega; exact q.2)
                refine x_iinc (k0 := 0) (lv' := [(5, .int (iI (p9 + 1))), (4, .int (iI (lf))), (3, .int (iI (lf - ((na - 1) - h)))), (0, .ref (g.2.2 13)), (1, .int (iI (h))), (2, .int (iI (lf)))]) hx hb dX5_part_112 hl rfl (by decide) rfl (fun ls hl => ?_)
                refine lv_goto (tgt := 69) hx hb dX5_part_115 (by decide) ?_
                exact ih_23 (f_25) (wz) (uz) (hz) (mz) (Rz) (p9 + 1) (by omega) (by exact ost_26) (by (intro i a b; rw [hTf i, upI_n (by omega)]; exact hpr i a b)) (by omega) (by omega) (by omega) (by (have e : (fun o => zFold (fun p q => zParts (zNote (sK σ Ga) (sF σ Ga) Wb na ra o) (na - (h + 1)).toNat (h + 1) (lf - p) (upI Pa h p) q) (zLst (na - 1 - h) lf) (Q o) ((p9 + 1) - zLst (na - 1 - h) lf).toNat) = (fun o => zFold (fun p q => zParts (zNote (sK σ Ga) (sF σ Ga) Wb na ra o) (na - (h + 1)).toNat (h + 1) (lf - p) (upI Pa h p) q) (zLst (na - 1 - h) lf) (Q o) (p9 - zLst (na - 1 - h) lf).toNat) := funext (fun o => by (rw [zFold_succ _ _ hp0]; exact zParts_bad2 _ (by omega) (by omega) (by rw [upI_n (by omega), upI_s]; exact hnP)))); rw [e]; exact hR) (M_24) _ _ hp13 h15 hqa0 hqa1 hqa2 h14 h16 hfr hP hD hS ls (lv_sub hl [0, 1, 2, 3, 4, 5] rfl)
              · have hyP : h = 0 ∨ zPr (sK σ Ga) (sF σ Ga) (h - 1) h (T (h - 1)) p9 := by (right; rw [hpr (h - 1) (by omega) (by omega), ← hsz]; rcases qr_95 with q | q; exact q.2; omega)
                refine lv_aload_n hx hb dX5_part_101 rfl (lv_at hl 3 rfl) ?_
                refine lv_iload_n hx hb dX5_part_102 rfl (lv_at hl 4 rfl) ?_
                refine x_iconst hx hb dX5_part_103 ?_
                refine x_iadd hx hb dX5_part_104 ?_
                refine lv_iload_n hx hb dX5_part_105 rfl (lv_at hl 5 rfl) ?_
                refine lv_iload hx hb dX5_part_106 (lv_at hl 0 rfl) ?_
                refine x_isub hx hb dX5_part_108 ?_
                refine x_cqv0 (va_runV (As := [.int (iI (h + 1)), .int (iI (lf - p9))]) (rest := []) ⟨hx, hb, hml, hown, hts⟩ (c_X5_part0 l g (M_24, σ.2) A (wz) (uz) (hz) (mz) hp13 (na) (ra) f_25 Ga ⟨hqa0, hqa1, hqa2⟩ ost_26 hH Wb h15 hWb hn6 Rz h14 Su h16 (fun d a b => (hfr _ (by omega)).trans (hsr d a b)) hSr c0 hc0 hsu (fun o => zFold (fun p q => zParts (zNote (sK σ Ga) (sF σ Ga) Wb na ra o) (na - (h + 1)).toNat (h + 1) (lf - p) (upI Pa h p) q) (zLst (na - 1 - h) lf) (Q o) (p9 - zLst (na - 1 - h) lf).toNat) hR (h + 1) (by omega) (lf - p9) (by omega) (zPart_room (zNote_ways (sK σ Ga) (sF σ Ga) Wb na ra 0) hh.1 (by omega) (by omega) hp0 (by omega) (hQ.2.2.2.2.2 0).1 (hR.2.2.2.2.2 0).1 hwr) (by rw [hf_25]; exact zPth_go hpT hh.1 (by omega) (by omega) (by omega) hyP)) (cwV 2 hts gX5_part_X5_part rfl rfl rfl (by decide +kernel) ⟨Nat.le_of_ble_eq_true rfl, Nat.le_of_ble_eq_true rfl⟩) (x_preVQ hK hP hD hS hA (x_recv hK hP (i := 13) (by decide) hp13 rfl)) rfl rfl hl.1 rfl (lv_room (Nat.le_of_ble_eq_true rfl)) dX5_part_109 ⟨by decide, by decide⟩) hS (fun σ1 H locs hpost hP hD hS => ?_)
                obtain ⟨M_35, p1⟩ := σ1
                obtain ⟨hp0, hfrc, wn_36, un_37, hn_38, mn_39, T_41, Rn_40, hn13, hn12, hn14, ost_42, hnT, hnQ⟩ := hpost
                obtain rfl : p1 = σ.2 := hp0
                have hP : xP g (M_35, σ.2) H := hP
                have hD : xD g A (M_35, σ.2) := hD
                have h15 := (hfrc (15) (by omega)).trans h15
                have hqa0 := (hfrc (10) (by omega)).trans hqa0
                have hqa1 := (hfrc (11) (by omega)).trans hqa1
                have h16 := (hfrc (16) (by omega)).trans h16
                have hfr := x_frc (F := fun j => j ≠ 12 ∧ j ≠ 13 ∧ j ≠ 14) hfr hfrc (fun j h => by have h : j ≠ 12 ∧ j ≠ 13 ∧ j ≠ 14 := h; omega)
                have hp13 : PObj g M_35 wn_36 un_37 hn_38 mn_39 := hn13
                have h14 : MArr g M_35 14 6 Rn_40 := hn14
                have hqa2 : MArr g M_35 12 9 T_41 := hn12
                replace hnQ : zRl na wn_36 un_37 hn_38 mn_39 Rn_40 (fun o => zParts (zNote (sK σ Ga) (sF σ Ga) Wb na ra o) (na - (h + 1)).toNat (h + 1) (lf - p9) f_25 ((fun o => zFold (fun p q => zParts (zNote (sK σ Ga) (sF σ Ga) Wb na ra o) (na - (h + 1)).toNat (h + 1) (lf - p) (upI Pa h p) q) (zLst (na - 1 - h) lf) (Q o) (p9 - zLst (na - 1 - h) lf).toNat) o)) := hnQ
                refine x_iinc (k0 := 0) (lv' := [(5, .int (iI (p9 + 1))), (4, .int (iI (lf))), (3, .int (iI (lf - ((na - 1) - h)))), (0, .ref (g.2.2 13)), (1, .int (iI (h))), (2, .int (iI (lf)))]) hx hb dX5_part_112 hl rfl (by decide) rfl (fun ls hl => ?_)
                refine lv_goto (tgt := 69) hx hb dX5_part_115 (by decide) ?_
                exact ih_23 (T_41) (wn_36) (un_37) (hn_38) (mn_39) (Rn_40) (p9 + 1) (by omega) (by exact ost_42) (by (intro i a b; rw [hnT i a (by omega), hTf i, upI_n (by omega)]; exact hpr i a b)) (by omega) (by omega) (by omega) (by (have e : (fun o => zFold (fun p q => zParts (zNote (sK σ Ga) (sF σ Ga) Wb na ra o) (na - (h + 1)).toNat (h + 1) (lf - p) (upI Pa h p) q) (zLst (na - 1 - h) lf) (Q o) ((p9 + 1) - zLst (na - 1 - h) lf).toNat) = (fun o => zParts (zNote (sK σ Ga) (sF σ Ga) Wb na ra o) (na - (h + 1)).toNat (h + 1) (lf - p9) f_25 ((fun o => zFold (fun p q => zParts (zNote (sK σ Ga) (sF σ Ga) Wb na ra o) (na - (h + 1)).toNat (h + 1) (lf - p) (upI Pa h p) q) (zLst (na - 1 - h) lf) (Q o) (p9 - zLst (na - 1 - h) lf).toNat) o)) := funext (fun o => by (rw [zFold_succ _ _ hp0]; exact zParts_congr (zNote_local (fun _ _ _ => rfl)) _ _ _ _ _ _ (by omega) hT9))); rw [e]; exact hnQ) (M_35) _ _ hp13 h15 hqa0 hqa1 hqa2 h14 h16 hfr hP hD hS ls (lv_sub hl [0, 1, 2, 3, 4, 5] rfl)
      exact hloop_69 ((((40 : Int) - ((q_22))).toNat) + 1) (Pa) (wy) (un) (hd9) (mv) (Rc) ((q_22)) (by omega) (by exact hoa) (by exact fun _ _ _ => rfl) (by omega) (by omega) (by omega) (by (have e : (fun o => zFold (fun p q => zParts (zNote (sK σ Ga) (sF σ Ga) Wb na ra o) (na - (h + 1)).toNat (h + 1) (lf - p) (upI Pa h p) q) (zLst (na - 1 - h) lf) (Q o) ((q_22) - zLst (na - 1 - h) lf).toNat) = Q := funext (fun o => zFold_0 _ _ (by omega))); rw [e]; exact hQ) (σ.1) _ _ hp13 h15 hqa0 hqa1 hqa2 h14 h16 hfr hP hD hS ls (lv_sub hl [0, 1, 2, 3, 4, 5] rfl)
  · refine lv_iload_n hx hb dX5_part_11 rfl (lv_at hl 2 rfl) ?_
    refine x_if_ne (tgt := 26) hx hb (by omega) dX5_part_12 (by decide) (fun c_12 => ?_) (fun c_12 => ?_)
    · refine x_retQv hx hb hr ?_ hP hD hS dX5_part_26 hlocks
      refine ⟨rfl, hfr, _, _, _, _, _, _, hp13, hqa2, h14, hoa, fun _ _ _ => rfl, ?_⟩
      have e : (fun o => zParts (zNote (sK σ Ga) (sF σ Ga) Wb na ra o) (na - h).toNat h lf Pa (Q o)) = Q := funext (fun o => by (rw [zParts_end _ _ _ _ (by omega), if_neg (by omega)]))
      rw [e]; exact hQ
    · have hna : h = na := by omega
      have hlz : zAll (sK σ Ga) (sF σ Ga) Pa na ra = 0 ↔ (ra = 1 ∧ 3 ≤ na → zBt (Su (na - 1) (Pa (na - 1))) (Pa (0))) := by (rw [zAll_leaf hok1a hP99 (by rw [← hna]; exact hpth.2.2)]; refine imp_congr_right (fun hc => ?_); have e0 : zBehind na ra (na - 1) = 0 := (by (unfold zBehind; rw [if_neg (by omega), if_pos hc])); have z := hsu (na - 1) (by omega) (by omega) (by rw [e0]; omega) (Pa (na - 1)) (Pa 0) (hpth.1 (na - 1) (by omega) (by omega)).1 (hpth.1 0 (by omega) (by omega)).1 (by have z2 := hpth.2.1 (na - 1) 0 (by omega) (by omega) (by omega) (by omega) (by omega); omega); rw [e0] at z; exact z.symm)
      refine lv_aload_n hx hb dX5_part_15 rfl (lv_at hl 0 rfl) ?_
      refine x_ci (va_runV (As := []) (rest := []) ⟨hx, hb, hml, hown, hts⟩ (c_X5_isClosedWell l g σ (wy) (un) (hd9) (mv) hp13 (na) (ra) Pa Ga ⟨hqa0, hqa1, hqa2⟩ hoa hH Su h16 hsr hSr hn6 (fun i a b => by have z1 := hpth.1 i a (by omega); omega)) (cwV 0 hts gX5_part_X5_isClosedWell rfl rfl rfl (by decide +kernel) ⟨Nat.le_of_ble_eq_true rfl, Nat.le_of_ble_eq_true rfl⟩) (x_preV hK hP (x_recv hK hP (i := 13) (by decide) hp13 rfl)) rfl rfl hl.1 rfl (lv_room (Nat.le_of_ble_eq_true rfl)) dX5_part_16 ⟨Nat.le_of_ble_eq_true rfl, Nat.le_of_ble_eq_true rfl⟩) (fun r_16 hr_16 qr_16 => ?_)
      replace qr_16 : (r_16 = 1 ∧ (ra = 1 ∧ 3 ≤ na → zBt (Su (na - 1) (Pa (na - 1))) (Pa (0)))) ∨ (r_16 = 0 ∧ (ra = 1 ∧ 3 ≤ na) ∧ ¬ zBt (Su (na - 1) (Pa (na - 1))) (Pa (0))) := qr_16
      refine x_if_eq (tgt := 26) hx hb (by omega) dX5_part_19 (by decide) (fun c_19 => ?_) (fun c_19 => ?_)
      · have hnz : ¬ zAll (sK σ Ga) (sF σ Ga) Pa na ra = 0 := by (rw [hlz]; rcases qr_16 with q | q; omega; exact fun q2 => q.2.2 (q2 q.2.1))
        refine x_retQv hx hb hr ?_ hP hD hS dX5_part_26 hlocks
        refine ⟨rfl, hfr, _, _, _, _, _, _, hp13, hqa2, h14, hoa, fun _ _ _ => rfl, ?_⟩
        have e : (fun o => zParts (zNote (sK σ Ga) (sF σ Ga) Wb na ra o) (na - h).toNat h lf Pa (Q o)) = Q := funext (fun o => by (rw [zParts_end _ _ _ _ (by omega), if_pos (by omega)]; unfold zNote; rw [if_pos hnz]))
        rw [e]; exact hQ
      · have hz0 : zAll (sK σ Ga) (sF σ Ga) Pa na ra = 0 := by (rw [hlz]; rcases qr_16 with q | q; exact q.2; omega)
        have hzb := zB_pos (na - h).toNat
        have hzb1 : zB (na - h).toNat = 1 := by (rw [show (na - h).toNat = 0 by omega]; rfl)
        refine lv_aload_n hx hb dX5_part_22 rfl (lv_at hl 0 rfl) ?_
        refine x_cqv0 (va_runV (As := []) (rest := []) ⟨hx, hb, hml, hown, hts⟩ (c_X5_note l g σ A (wy) (un) (hd9) (mv) hp13 (na) (ra) Pa Ga ⟨hqa0, hqa1, hqa2⟩ hoa hH Wb h15 hWb hn6 Rc h14 Q hQ (by omega) hz0) (cwV 0 hts gX5_part_X5_note rfl rfl rfl (by decide +kernel) ⟨Nat.le_of_ble_eq_true rfl, Nat.le_of_ble_eq_true rfl⟩) (x_preVQ hK hP hD hS hA (x_recv hK hP (i := 13) (by decide) hp13 rfl)) rfl rfl hl.1 rfl (lv_room (Nat.le_of_ble_eq_true rfl)) dX5_part_23 ⟨by decide, by decide⟩) hS (fun σ1 H locs hpost hP hD hS => ?_)
        obtain ⟨M_43, p1⟩ := σ1
        obtain ⟨hp0, hfrc, wn_44, un_45, hn_46, mn_47, Rn_48, hn13, hn14, hnQ⟩ := hpost
        obtain rfl : p1 = σ.2 := hp0
        have hP : xP g (M_43, σ.2) H := hP
        have hD : xD g A (M_43, σ.2) := hD
        have h15 := (hfrc (15) (by omega)).trans h15
        have hqa0 := (hfrc (10) (by omega)).trans hqa0
        have hqa1 := (hfrc (11) (by omega)).trans hqa1
        have hqa2 := (hfrc (12) (by omega)).trans hqa2
        have h16 := (hfrc (16) (by omega)).trans h16
        have hfr := x_frc (F := fun j => j ≠ 12 ∧ j ≠ 13 ∧ j ≠ 14) hfr hfrc (fun j h => by have h : j ≠ 12 ∧ j ≠ 13 ∧ j ≠ 14 := h; omega)
        have hp13 : PObj g M_43 wn_44 un_45 hn_46 mn_47 := hn13
        have h14 : MArr g M_43 14 6 Rn_48 := hn14
        replace hnQ : zRl na wn_44 un_45 hn_46 mn_47 Rn_48 (fun o => zNote (sK σ Ga) (sF σ Ga) Wb na ra o Pa (Q o)) := hnQ
        refine x_retQv hx hb hr ?_ hP hD hS dX5_part_26 hlocks
        refine ⟨rfl, hfr, _, _, _, _, _, _, hp13, hqa2, h14, hoa, fun _ _ _ => rfl, ?_⟩
        have e : (fun o => zParts (zNote (sK σ Ga) (sF σ Ga) Wb na ra o) (na - h).toNat h lf Pa (Q o)) = (fun o => zNote (sK σ Ga) (sF σ Ga) Wb na ra o Pa (Q o)) := funext (fun o => by (rw [zParts_end _ _ _ _ (by omega), if_pos (by omega)]))
        rw [e]; exact hnQ

set_option maxHeartbeats 4000000 in
set_option maxRecDepth 100000 in
theorem c_X5_part2 (l : Launch) (g : xG) (σ : xS) (A : Nat → Prop) (wy un hd9 mv : Int) (hp13 : PObj g σ.1 wy un hd9 mv) (na ra : Int) (Pa : Int → Int) (Ga : Int → Option Nat) (hsa9 : StAt g σ.1 10 na ra Pa Ga) (hoa : StOk σ na ra Pa Ga) (hH : HsOk σ) (Wb : Int → Int) (h15 : MArr g σ.1 15 6 Wb) (hWb : ∀ i, 0 ≤ i → i < na → 0 ≤ Wb i ∧ Wb i ≤ 9999) (hn6 : na ≤ 6) (Rc : Int → Int) (h14 : MArr g σ.1 14 6 Rc) (Su : Int → Int → Int) (h16 : MGrs g σ.1) (hsr : ∀ d, 0 ≤ d → d ≤ 5 → MArr g σ.1 (17 + d.toNat) 21 (Su d)) (hSr : ∀ d k, inR (Su d k)) (c0 : Int) (hc0 : 0 ≤ c0 ∧ c0 ≤ 20) (hsu : zSuOk (sK σ Ga) (sF σ Ga) na ra c0 Su) (Q : Int → zAcc) (hQ : zRl na wy un hd9 mv Rc Q) (h : Int) (hh : 0 ≤ h ∧ h ≤ na ∧ na - h ≤ 2) (lf : Int) (hlf : 0 ≤ lf ∧ lf ≤ c0) (hwr : wy + zB (na - h).toNat ≤ 100000000) (hpth : zPth (sK σ Ga) (sF σ Ga) Pa c0 h lf) : Met l yX5_part wsX5_part ({ frames := 7, cells := 0, slots := 0, locals := 224 }) (va_Pc [.ref (g.2.2 13), .int (iI (h)), .int (iI (lf))] (xPreQ g A σ)) (x_Qv g A (fun σ1 => σ1.2 = σ.2 ∧ (∀ j, j ≠ 12 ∧ j ≠ 13 ∧ j ≠ 14 → σ1.1 j = σ.1 j) ∧ ∃ wy2 un2 hd2 mv2 T Rc2, PObj g σ1.1 wy2 un2 hd2 mv2 ∧ MArr g σ1.1 12 9 T ∧ MArr g σ1.1 14 6 Rc2 ∧ StOk σ na ra T Ga ∧ (∀ i, 0 ≤ i → i < h → T i = Pa i) ∧ zRl na wy2 un2 hd2 mv2 Rc2 (fun o => zParts (zNote (sK σ Ga) (sF σ Ga) Wb na ra o) (na - h).toNat h lf Pa (Q o)))) (0) (0) A := by
  refine Met.ofW (cc := cX5_part) (maxL := 6) (ret := none) (by decide) rfl ?_
  intro p e s m args below meth c s₁ B hml hv
  obtain ⟨rfl, hP, hK, hD, hA⟩ := hv
  have hx := B.exec
  have hb := B.bytes
  have hr := B.returns
  have hts := atoms_spec (ws := wsX5_part) B.pre
  have hown : s.vm.findClass RX5 = some m.cls := findClass_of_methodNamed B.named
  have hlocks := B.notSynchronized
  have hS : va_S A s.heap s.heap [] := va_S.rf
  have hfr : ∀ j, (j ≠ 12 ∧ j ≠ 13 ∧ j ≠ 14) → σ.1 j = σ.1 j := fun _ _ => rfl
  have hl := lv_entry ([.ref (g.2.2 13), .int (iI (h)), .int (iI (lf))]) (n := 6) (Nat.le_of_ble_eq_true rfl)
  rw [lg_entry_eq]
  generalize (lg_sl ([.ref (g.2.2 13), .int (iI (h)), .int (iI (lf))]) ++ List.replicate (6 - (lg_sl ([.ref (g.2.2 13), .int (iI (h)), .int (iI (lf))])).length) Slot.unset).toArray = ls at hl ⊢
  have hl : lv_has ls 6 [(0, .ref (g.2.2 13)), (1, .int (iI (h))), (2, .int (iI (lf)))] := hl
  have hqa0 : σ.1 10 = .inr (7, [.ref (g.2.2 11), .ref (g.2.2 12), .int (iI na), .int (iI ra)]) := hsa9.1
  have hqa1 : MRef g σ.1 11 9 Ga := hsa9.2.1
  have hqa2 : MArr g σ.1 12 9 Pa := hsa9.2.2
  have hoa1 := hoa.1
  have hoa2 := hoa.2.1
  have hoa3 := hoa.2.2.1
  have hq1 := hQ.1
  have hok1a : 0 ≤ na := hoa.1
  have hP99 : ∀ i, 0 ≤ i → i < na → Pa i ≤ 9999 := fun i a b => (hoa.2.2.2.2.2 i a b).2.2
  have hw_0 := hts (.fieldLink RX5 18 "TwiceAsRich$Partings" "parted" "LTwiceAsRich$Street;") (by decide +kernel)
  have hin_X5 : ∀ w ∈ wsX50, w ∈ wsX5_part := by decide +kernel
  have hw_2 := hts (.fieldLink RX5 49 "TwiceAsRich$Street" "count" "I") (by decide +kernel)
  have hin_X7 : ∀ w ∈ wsX70, w ∈ wsX5_part := by decide +kernel
  have hw_4 := hts (.methodLink RX5 88 Lib.Math.max.name) (by decide +kernel)
  have hw_5 := hts (.static Lib.Math.max.name) (by decide +kernel)
  have hw_6 := hts (.initialized "java/lang/Math") (by decide +kernel)
  have hw_7 := hts (.code Lib.Math.max.name Lib.Math.max.code 2 (some .int)) (by decide +kernel)
  have hw_8 := hts (.fieldLink RX5 56 "TwiceAsRich$Street" "purses" "[I") (by decide +kernel)
  refine lv_iload_n hx hb dX5_part_0 rfl (lv_at hl 1 rfl) ?_
  refine lv_aload_n hx hb dX5_part_1 rfl (lv_at hl 0 rfl) ?_
  refine x_get (C := RX5) (T := TX5) (N := 8) hx hb hts hin_X5 hown hK hP (13) (by decide) hp13 rfl 5 (by decide) hw_0 (fun _ h9 => h9) rfl dX5_part_2 ?_
  refine x_get (C := RX7) (T := TX7) (N := 4) hx hb hts hin_X7 hown hK hP (10) (by decide) hqa0 rfl 2 (by decide) hw_2 (fun _ h9 => h9) rfl dX5_part_5 ?_
  refine x_icmp_lt (tgt := 27) hx hb (by omega) (by omega) dX5_part_8 (by decide) (fun c_8 => ?_) (fun c_8 => ?_)
  · refine lv_iload_n hx hb dX5_part_27 rfl (lv_at hl 2 rfl) ?_
    refine lv_aload_n hx hb dX5_part_28 rfl (lv_at hl 0 rfl) ?_
    refine x_get (C := RX5) (T := TX5) (N := 8) hx hb hts hin_X5 hown hK hP (13) (by decide) hp13 rfl 5 (by decide) hw_0 (fun _ h9 => h9) rfl dX5_part_29 ?_
    refine x_get (C := RX7) (T := TX7) (N := 4) hx hb hts hin_X7 hown hK hP (10) (by decide) hqa0 rfl 2 (by decide) hw_2 (fun _ h9 => h9) rfl dX5_part_32 ?_
    refine x_iconst hx hb dX5_part_35 ?_
    refine x_isub hx hb dX5_part_36 ?_
    refine lv_iload_n hx hb dX5_part_37 rfl (lv_at hl 1 rfl) ?_
    refine x_isub hx hb dX5_part_38 ?_
    refine x_isub hx hb dX5_part_39 ?_
    refine lv_istore_n (lv' := [(3, .int (iI (lf - ((na - 1) - h)))), (0, .ref (g.2.2 13)), (1, .int (iI (h))), (2, .int (iI (lf)))]) hx hb dX5_part_40 rfl hl (by decide) rfl (fun ls hl => ?_)
    refine lv_iload_n hx hb dX5_part_41 rfl (lv_at hl 2 rfl) ?_
    refine lv_aload_n hx hb dX5_part_42 rfl (lv_at hl 1 rfl) ?_
    refine x_get (C := RX5) (T := TX5) (N := 8) hx hb hts hin_X5 hown hK hP (13) (by decide) hp13 rfl 5 (by decide) hw_0 (fun _ h9 => h9) rfl dX5_part_43 ?_
    refine x_get (C := RX7) (T := TX7) (N := 4) hx hb hts hin_X7 hown hK hP (10) (by decide) hqa0 rfl 2 (by decide) hw_2 (fun _ h9 => h9) rfl dX5_part_46 ?_
    refine x_iconst hx hb dX5_part_49 ?_
    refine x_isub hx hb dX5_part_50 ?_
    refine x_icmp_ne (tgt := 58) hx hb (by omega) (by omega) dX5_part_51 (by decide) (fun c_51 => ?_) (fun c_51 => ?_)
    · refine x_iconst hx hb dX5_part_58 ?_
      refine lv_istore (lv' := [(4, .int (iI (1))), (3, .int (iI (lf - ((na - 1) - h)))), (0, .ref (g.2.2 13)), (1, .int (iI (h))), (2, .int (iI (lf)))]) hx hb dX5_part_59 hl (by decide) rfl (fun ls hl => ?_)
      refine x_iconst hx hb dX5_part_61 ?_
      refine lv_iload hx hb dX5_part_62 (lv_at hl 0 rfl) ?_
      refine x_max hx hb (hml.trans hl.1.symm) hown hw_4 hw_5 hw_6 hw_7 (Nat.le_of_ble_eq_true rfl) (Nat.le_of_ble_eq_true rfl) (Nat.le_of_ble_eq_true rfl) (Nat.le_of_ble_eq_true rfl) (by omega) (by omega) dX5_part_64 (fun q_1 hq_1 => ?_)
      have hls : zLst (na - 1 - h) lf = (q_1) := by (unfold zLst; split <;> omega)
      refine lv_istore (lv' := [(5, .int (iI (q_1))), (4, .int (iI (1))), (3, .int (iI (lf - ((na - 1) - h)))), (0, .ref (g.2.2 13)), (1, .int (iI (h))), (2, .int (iI (lf)))]) hx hb dX5_part_67 hl (by decide) rfl (fun ls hl => ?_)
      have hloop_69 : ∀ (k : Nat) (T : Int → Int) (wz : Int) (uz : Int) (hz : Int) (mz : Int) (Rz : Int → Int) (p9 : Int), ((40 : Int) - p9).toNat < k → (hTo : StOk σ na ra T Ga) → (hpr : ∀ i, 0 ≤ i → i < h → T i = Pa i) → (hp0 : zLst (na - 1 - h) lf ≤ p9) → (hp1 : p9 = zLst (na - 1 - h) lf ∨ p9 ≤ lf - (na - 1 - h) + 1) → (hp2 : 1 ≤ p9 ∧ p9 ≤ 21) → (hR : zRl na wz uz hz mz Rz (fun o => zFold (fun p q => zParts (zNote (sK σ Ga) (sF σ Ga) Wb na ra o) (na - (h + 1)).toNat (h + 1) (lf - p) (upI Pa h p) q) (zLst (na - 1 - h) lf) (Q o) (p9 - zLst (na - 1 - h) lf).toNat)) → ∀ (M : xM) (H : Heap) (locs : List Loc), (hp13 : M (13) = .inr (5, [.int (iI (wz)), .int (iI (uz)), .int (iI (hz)), .int (iI (mz)), .ref (g.2.2 14), .ref (g.2.2 10), .ref (g.2.2 15), .ref (g.2.2 16)])) → (h15 : M (15) = .inl (g.2.1 0, 6, .inl (fun k => iI (Wb (k : Int))))) → (hqa0 : M (10) = .inr (7, [.ref (g.2.2 11), .ref (g.2.2 12), .int (iI (na)), .int (iI (ra))])) → (hqa1 : M (11) = .inl (g.2.1 1, 9, .inr (.inr (.inr (.inr (fun k => Ga (k : Int))))))) → (hqa2 : M (12) = .inl (g.2.1 0, 9, .inl (fun k => iI (T (k : Int))))) → (h14 : M (14) = .inl (g.2.1 0, 6, .inl (fun k => iI (Rz (k : Int))))) → (h16 : M (16) = .inl (g.2.1 2, 6, .inr (.inr (.inr (.inr (fun k => xGs g (k : Int))))))) → (hfr : ∀ j, (j ≠ 12 ∧ j ≠ 13 ∧ j ≠ 14) → M j = σ.1 j) → xP g (M, σ.2) H → xD g A (M, σ.2) → va_S A s.heap H locs → ∀ (ls : Array Slot), lv_has ls 6 [(5, .int (iI (p9))), (4, .int (iI (1))), (3, .int (iI (lf - ((na - 1) - h)))), (0, .ref (g.2.2 13)), (1, .int (iI (h))), (2, .int (iI (lf)))] → W p l e (headSpec wsX5_part ({ frames := 7, cells := 0, slots := 0, locals := 224 })).room s m ([.ref (g.2.2 13), .int (iI (h)), .int (iI (lf))] : List Value).toArray below meth c H locs 0 0 (MQ below (x_Qv g A (fun σ1 => σ1.2 = σ.2 ∧ (∀ j, j ≠ 12 ∧ j ≠ 13 ∧ j ≠ 14 → σ1.1 j = σ.1 j) ∧ ∃ wy2 un2 hd2 mv2 T Rc2, PObj g σ1.1 wy2 un2 hd2 mv2 ∧ MArr g σ1.1 12 9 T ∧ MArr g σ1.1 14 6 Rc2 ∧ StOk σ na ra T Ga ∧ (∀ i, 0 ≤ i → i < h → T i = Pa i) ∧ zRl na wy2 un2 hd2 mv2 Rc2 (fun o => zParts (zNote (sK σ Ga) (sF σ Ga) Wb na ra o) (na - h).toNat h lf Pa (Q o)))) ([.ref (g.2.2 13), .int (iI (h)), .int (iI (lf))] : List Value).toArray s (0) (0) A) (F0 m 69 ls []) := by
        intro k
        induction k with
        | zero =>
          intros; exact absurd (by assumption) (Nat.not_lt_zero _)
        | succ k ih =>
          intro T wz uz hz mz Rz p9 hmeas hTo hpr hp0 hp1 hp2 hR M H locs hp13 h15 hqa0 hqa1 hqa2 h14 h16 hfr hP hD hS ls hl
          have ih_2 := ih
          refine lv_iload hx hb dX5_part_69 (lv_at hl 0 rfl) ?_
          refine lv_iload_n hx hb dX5_part_71 rfl (lv_at hl 2 rfl) ?_
          refine x_icmp_gt (tgt := 118) hx hb (by omega) (by omega) dX5_part_72 (by decide) (fun c_72 => ?_) (fun c_72 => ?_)
          · refine x_retQv hx hb hr ?_ hP hD hS dX5_part_118 hlocks
            refine ⟨rfl, hfr, _, _, _, _, _, _, hp13, hqa2, h14, hTo, hpr, ?_⟩
            have e : (fun o => zParts (zNote (sK σ Ga) (sF σ Ga) Wb na ra o) (na - h).toNat h lf Pa (Q o)) = (fun o => zFold (fun p q => zParts (zNote (sK σ Ga) (sF σ Ga) Wb na ra o) (na - (h + 1)).toNat (h + 1) (lf - p) (upI Pa h p) q) (zLst (na - 1 - h) lf) (Q o) (p9 - zLst (na - 1 - h) lf).toNat) := funext (fun o => by (rw [zParts_step _ _ _ _ (by omega), show (lf - (na - 1 - h) + 1 - zLst (na - 1 - h) lf).toNat = (p9 - zLst (na - 1 - h) lf).toNat by omega]))
            rw [e]; exact hR
          · refine lv_aload_n hx hb dX5_part_75 rfl (lv_at hl 3 rfl) ?_
            refine x_get (C := RX5) (T := TX5) (N := 8) hx hb hts hin_X5 hown hK hP (13) (by decide) hp13 rfl 5 (by decide) hw_0 (fun _ h9 => h9) rfl dX5_part_76 ?_
            refine x_get (C := RX7) (T := TX7) (N := 4) hx hb hts hin_X7 hown hK hP (10) (by decide) hqa0 rfl 1 (by decide) hw_8 (fun _ h9 => h9) rfl dX5_part_79 ?_
            refine lv_iload_n hx hb dX5_part_82 rfl (lv_at hl 4 rfl) ?_
            refine lv_iload hx hb dX5_part_83 (lv_at hl 0 rfl) ?_
            refine x_iast (f := T) hx hb hK hP hD hS (12) (by decide) hqa2 (by omega) (by omega) (by decide) dX5_part_85 (fun M_3 H locs hnew hne hP hD hS => ?_)
            obtain ⟨f_4, hf_4⟩ : ∃ q : Int → Int, q = (upI T (h) (p9)) := ⟨_, rfl⟩
            rw [← hf_4] at hnew
            have hP : xP g (M_3, σ.2) H := hP
            have hD : xD g A (M_3, σ.2) := hD
            have hqa2 : M_3 (12) = .inl (g.2.1 0, 9, .inl (fun k => iI (f_4 (k : Int)))) := hnew
            have hp13 := (hne (13) (by decide)).trans hp13
            have h15 := (hne (15) (by decide)).trans h15
            have hqa0 := (hne (10) (by decide)).trans hqa0
            have hqa1 := (hne (11) (by decide)).trans hqa1
            have h14 := (hne (14) (by decide)).trans h14
            have h16 := (hne (16) (by decide)).trans h16
            have hfr := x_fr (F := fun j => j ≠ 12 ∧ j ≠ 13 ∧ j ≠ 14) hfr hne (fun j h => by have h : j ≠ 12 ∧ j ≠ 13 ∧ j ≠ 14 := h; omega)
            have ost_5 : StOk σ (na) (ra) f_4 Ga := by (rw [hf_4]; exact StOk_purse hTo (by omega))
            have hTf : ∀ i, f_4 i = upI T h p9 i := fun i => by (rw [hf_4])
            have hT9 : ∀ i, 0 ≤ i → i < h + 1 → upI Pa h p9 i = f_4 i := fun i a b => by (rw [hTf i]; unfold upI; split; (rfl); exact (hpr i a (by omega)).symm)
            have hpT := zPth_congr hpth hpr
            have hTh : f_4 h = p9 := by (rw [hTf, upI_s])
            have hTg : f_4 (h - 1) = Pa (h - 1) ∨ h = 0 := by (by_cases e9 : h = 0; (exact Or.inr e9); (left; rw [hTf, upI_n (by omega)]; exact hpr _ (by omega) (by omega)))
            have hb1 : h ≠ 0 → 1 ≤ Pa (h - 1) ∧ Pa (h - 1) + lf ≤ c0 := fun q => hpth.1 (h - 1) (by omega) (by omega)
            refine lv_iload_n hx hb dX5_part_86 rfl (lv_at hl 4 rfl) ?_
            refine x_if_eq (tgt := 101) hx hb (by omega) dX5_part_87 (by decide) (fun c_87 => ?_) (fun c_87 => ?_)
            · have hyP : h = 0 ∨ zPr (sK σ Ga) (sF σ Ga) (h - 1) h (T (h - 1)) p9 := by (left; omega)
              refine lv_aload_n hx hb dX5_part_101 rfl (lv_at hl 3 rfl) ?_
              refine lv_iload_n hx hb dX5_part_102 rfl (lv_at hl 4 rfl) ?_
              refine x_iconst hx hb dX5_part_103 ?_
              refine x_iadd hx hb dX5_part_104 ?_
              refine lv_iload_n hx hb dX5_part_105 rfl (lv_at hl 5 rfl) ?_
              refine lv_iload hx hb dX5_part_106 (lv_at hl 0 rfl) ?_
              refine x_isub hx hb dX5_part_108 ?_
              refine x_cqv0 (va_runV (As := [.int (iI (h + 1)), .int (iI (lf - p9))]) (rest := []) ⟨hx, hb, hml, hown, hts⟩ (c_X5_part1 l g (M_3, σ.2) A (wz) (uz) (hz) (mz) hp13 (na) (ra) f_4 Ga ⟨hqa0, hqa1, hqa2⟩ ost_5 hH Wb h15 hWb hn6 Rz h14 Su h16 (fun d a b => (hfr _ (by omega)).trans (hsr d a b)) hSr c0 hc0 hsu (fun o => zFold (fun p q => zParts (zNote (sK σ Ga) (sF σ Ga) Wb na ra o) (na - (h + 1)).toNat (h + 1) (lf - p) (upI Pa h p) q) (zLst (na - 1 - h) lf) (Q o) (p9 - zLst (na - 1 - h) lf).toNat) hR (h + 1) (by omega) (lf - p9) (by omega) (zPart_room (zNote_ways (sK σ Ga) (sF σ Ga) Wb na ra 0) hh.1 (by omega) (by omega) hp0 (by omega) (hQ.2.2.2.2.2 0).1 (hR.2.2.2.2.2 0).1 hwr) (by rw [hf_4]; exact zPth_go hpT hh.1 (by omega) (by omega) (by omega) hyP)) (cwV 2 hts gX5_part_X5_part rfl rfl rfl (by decide +kernel) ⟨Nat.le_of_ble_eq_true rfl, Nat.le_of_ble_eq_true rfl⟩) (x_preVQ hK hP hD hS hA (x_recv hK hP (i := 13) (by decide) hp13 rfl)) rfl rfl hl.1 rfl (lv_room (Nat.le_of_ble_eq_true rfl)) dX5_part_109 ⟨by decide, by decide⟩) hS (fun σ1 H locs hpost hP hD hS => ?_)
              obtain ⟨M_6, p1⟩ := σ1
              obtain ⟨hp0, hfrc, wn_7, un_8, hn_9, mn_10, T_12, Rn_11, hn13, hn12, hn14, ost_13, hnT, hnQ⟩ := hpost
              obtain rfl : p1 = σ.2 := hp0
              have hP : xP g (M_6, σ.2) H := hP
              have hD : xD g A (M_6, σ.2) := hD
              have h15 := (hfrc (15) (by omega)).trans h15
              have hqa0 := (hfrc (10) (by omega)).trans hqa0
              have hqa1 := (hfrc (11) (by omega)).trans hqa1
              have h16 := (hfrc (16) (by omega)).trans h16
              have hfr := x_frc (F := fun j => j ≠ 12 ∧ j ≠ 13 ∧ j ≠ 14) hfr hfrc (fun j h => by have h : j ≠ 12 ∧ j ≠ 13 ∧ j ≠ 14 := h; omega)
              have hp13 : PObj g M_6 wn_7 un_8 hn_9 mn_10 := hn13
              have h14 : MArr g M_6 14 6 Rn_11 := hn14
              have hqa2 : MArr g M_6 12 9 T_12 := hn12
              replace hnQ : zRl na wn_7 un_8 hn_9 mn_10 Rn_11 (fun o => zParts (zNote (sK σ Ga) (sF σ Ga) Wb na ra o) (na - (h + 1)).toNat (h + 1) (lf - p9) f_4 ((fun o => zFold (fun p q => zParts (zNote (sK σ Ga) (sF σ Ga) Wb na ra o) (na - (h + 1)).toNat (h + 1) (lf - p) (upI Pa h p) q) (zLst (na - 1 - h) lf) (Q o) (p9 - zLst (na - 1 - h) lf).toNat) o)) := hnQ
              refine x_iinc (k0 := 0) (lv' := [(5, .int (iI (p9 + 1))), (4, .int (iI (1))), (3, .int (iI (lf - ((na - 1) - h)))), (0, .ref (g.2.2 13)), (1, .int (iI (h))), (2, .int (iI (lf)))]) hx hb dX5_part_112 hl rfl (by decide) rfl (fun ls hl => ?_)
              refine lv_goto (tgt := 69) hx hb dX5_part_115 (by decide) ?_
              exact ih_2 (T_12) (wn_7) (un_8) (hn_9) (mn_10) (Rn_11) (p9 + 1) (by omega) (by exact ost_13) (by (intro i a b; rw [hnT i a (by omega), hTf i, upI_n (by omega)]; exact hpr i a b)) (by omega) (by omega) (by omega) (by (have e : (fun o => zFold (fun p q => zParts (zNote (sK σ Ga) (sF σ Ga) Wb na ra o) (na - (h + 1)).toNat (h + 1) (lf - p) (upI Pa h p) q) (zLst (na - 1 - h) lf) (Q o) ((p9 + 1) - zLst (na - 1 - h) lf).toNat) = (fun o => zParts (zNote (sK σ Ga) (sF σ Ga) Wb na ra o) (na - (h + 1)).toNat (h + 1) (lf - p9) f_4 ((fun o => zFold (fun p q => zParts (zNote (sK σ Ga) (sF σ Ga) Wb na ra o) (na - (h + 1)).toNat (h + 1) (lf - p) (upI Pa h p) q) (zLst (na - 1 - h) lf) (Q o) (p9 - zLst (na - 1 - h) lf).toNat) o)) := funext (fun o => by (rw [zFold_succ _ _ hp0]; exact zParts_congr (zNote_local (fun _ _ _ => rfl)) _ _ _ _ _ _ (by omega) hT9))); rw [e]; exact hnQ) (M_6) _ _ hp13 h15 hqa0 hqa1 hqa2 h14 h16 hfr hP hD hS ls (lv_sub hl [0, 1, 2, 3, 4, 5] rfl)
            · refine lv_aload_n hx hb dX5_part_90 rfl (lv_at hl 3 rfl) ?_
              refine lv_iload_n hx hb dX5_part_91 rfl (lv_at hl 4 rfl) ?_
              refine x_iconst hx hb dX5_part_92 ?_
              refine x_isub hx hb dX5_part_93 ?_
              refine lv_iload_n hx hb dX5_part_94 rfl (lv_at hl 4 rfl) ?_
              refine x_ci (va_runV (As := [.int (iI (h - 1)), .int (iI (h))]) (rest := []) ⟨hx, hb, hml, hown, hts⟩ (c_X5_suit l g (M_3, σ.2) (wz) (uz) (hz) (mz) hp13 (na) (ra) f_4 Ga ⟨hqa0, hqa1, hqa2⟩ ost_5 hH (17 + (h - 1).toNat) h16 (h - 1) (by omega) (h) (by omega) rfl (Su (h - 1)) ((hfr _ (by omega)).trans (hsr (h - 1) (by omega) (by omega))) (fun k => hSr _ k) (by omega)) (cwV 2 hts gX5_part_X5_suit rfl rfl rfl (by decide +kernel) ⟨Nat.le_of_ble_eq_true rfl, Nat.le_of_ble_eq_true rfl⟩) (x_preV hK hP (x_recv hK hP (i := 13) (by decide) hp13 rfl)) rfl rfl hl.1 rfl (lv_room (Nat.le_of_ble_eq_true rfl)) dX5_part_95 ⟨Nat.le_of_ble_eq_true rfl, Nat.le_of_ble_eq_true rfl⟩) (fun r_95 hr_95 qr_95 => ?_)
              replace qr_95 : (r_95 = 1 ∧ zBt (Su (h - 1) (f_4 (h - 1))) (f_4 (h))) ∨ (r_95 = 0 ∧ ¬ zBt (Su (h - 1) (f_4 (h - 1))) (f_4 (h))) := qr_95
              have hTg : f_4 (h - 1) = Pa (h - 1) := by omega
              have hsz : zBt (Su (h - 1) (Pa (h - 1))) p9 ↔ zPr (sK σ Ga) (sF σ Ga) (h - 1) h (Pa (h - 1)) p9 := by (have e0 : zBehind na ra (h - 1) = h := (by (unfold zBehind; rw [if_pos (by omega)]; omega)); have z := hsu (h - 1) (by omega) (by omega) (by rw [e0]; omega) (Pa (h - 1)) p9 (by omega) (by omega) (by omega); rw [e0] at z; exact z)
              rw [hTg, hTh] at qr_95
              refine x_if_eq (tgt := 112) hx hb (by omega) dX5_part_98 (by decide) (fun c_98 => ?_) (fun c_98 => ?_)
              · have hnP : ¬ zPr (sK σ Ga) (sF σ Ga) (h - 1) h (Pa (h - 1)) p9 := by (rw [← hsz]; rcases qr_95 with q | q; omega; exact q.2)
                refine x_iinc (k0 := 0) (lv' := [(5, .int (iI (p9 + 1))), (4, .int (iI (1))), (3, .int (iI (lf - ((na - 1) - h)))), (0, .ref (g.2.2 13)), (1, .int (iI (h))), (2, .int (iI (lf)))]) hx hb dX5_part_112 hl rfl (by decide) rfl (fun ls hl => ?_)
                refine lv_goto (tgt := 69) hx hb dX5_part_115 (by decide) ?_
                exact ih_2 (f_4) (wz) (uz) (hz) (mz) (Rz) (p9 + 1) (by omega) (by exact ost_5) (by (intro i a b; rw [hTf i, upI_n (by omega)]; exact hpr i a b)) (by omega) (by omega) (by omega) (by (have e : (fun o => zFold (fun p q => zParts (zNote (sK σ Ga) (sF σ Ga) Wb na ra o) (na - (h + 1)).toNat (h + 1) (lf - p) (upI Pa h p) q) (zLst (na - 1 - h) lf) (Q o) ((p9 + 1) - zLst (na - 1 - h) lf).toNat) = (fun o => zFold (fun p q => zParts (zNote (sK σ Ga) (sF σ Ga) Wb na ra o) (na - (h + 1)).toNat (h + 1) (lf - p) (upI Pa h p) q) (zLst (na - 1 - h) lf) (Q o) (p9 - zLst (na - 1 - h) lf).toNat) := funext (fun o => by (rw [zFold_succ _ _ hp0]; exact zParts_bad2 _ (by omega) (by omega) (by rw [upI_n (by omega), upI_s]; exact hnP)))); rw [e]; exact hR) (M_3) _ _ hp13 h15 hqa0 hqa1 hqa2 h14 h16 hfr hP hD hS ls (lv_sub hl [0, 1, 2, 3, 4, 5] rfl)
              · have hyP : h = 0 ∨ zPr (sK σ Ga) (sF σ Ga) (h - 1) h (T (h - 1)) p9 := by (right; rw [hpr (h - 1) (by omega) (by omega), ← hsz]; rcases qr_95 with q | q; exact q.2; omega)
                refine lv_aload_n hx hb dX5_part_101 rfl (lv_at hl 3 rfl) ?_
                refine lv_iload_n hx hb dX5_part_102 rfl (lv_at hl 4 rfl) ?_
                refine x_iconst hx hb dX5_part_103 ?_
                refine x_iadd hx hb dX5_part_104 ?_
                refine lv_iload_n hx hb dX5_part_105 rfl (lv_at hl 5 rfl) ?_
                refine lv_iload hx hb dX5_part_106 (lv_at hl 0 rfl) ?_
                refine x_isub hx hb dX5_part_108 ?_
                refine x_cqv0 (va_runV (As := [.int (iI (h + 1)), .int (iI (lf - p9))]) (rest := []) ⟨hx, hb, hml, hown, hts⟩ (c_X5_part1 l g (M_3, σ.2) A (wz) (uz) (hz) (mz) hp13 (na) (ra) f_4 Ga ⟨hqa0, hqa1, hqa2⟩ ost_5 hH Wb h15 hWb hn6 Rz h14 Su h16 (fun d a b => (hfr _ (by omega)).trans (hsr d a b)) hSr c0 hc0 hsu (fun o => zFold (fun p q => zParts (zNote (sK σ Ga) (sF σ Ga) Wb na ra o) (na - (h + 1)).toNat (h + 1) (lf - p) (upI Pa h p) q) (zLst (na - 1 - h) lf) (Q o) (p9 - zLst (na - 1 - h) lf).toNat) hR (h + 1) (by omega) (lf - p9) (by omega) (zPart_room (zNote_ways (sK σ Ga) (sF σ Ga) Wb na ra 0) hh.1 (by omega) (by omega) hp0 (by omega) (hQ.2.2.2.2.2 0).1 (hR.2.2.2.2.2 0).1 hwr) (by rw [hf_4]; exact zPth_go hpT hh.1 (by omega) (by omega) (by omega) hyP)) (cwV 2 hts gX5_part_X5_part rfl rfl rfl (by decide +kernel) ⟨Nat.le_of_ble_eq_true rfl, Nat.le_of_ble_eq_true rfl⟩) (x_preVQ hK hP hD hS hA (x_recv hK hP (i := 13) (by decide) hp13 rfl)) rfl rfl hl.1 rfl (lv_room (Nat.le_of_ble_eq_true rfl)) dX5_part_109 ⟨by decide, by decide⟩) hS (fun σ1 H locs hpost hP hD hS => ?_)
                obtain ⟨M_14, p1⟩ := σ1
                obtain ⟨hp0, hfrc, wn_15, un_16, hn_17, mn_18, T_20, Rn_19, hn13, hn12, hn14, ost_21, hnT, hnQ⟩ := hpost
                obtain rfl : p1 = σ.2 := hp0
                have hP : xP g (M_14, σ.2) H := hP
                have hD : xD g A (M_14, σ.2) := hD
                have h15 := (hfrc (15) (by omega)).trans h15
                have hqa0 := (hfrc (10) (by omega)).trans hqa0
                have hqa1 := (hfrc (11) (by omega)).trans hqa1
                have h16 := (hfrc (16) (by omega)).trans h16
                have hfr := x_frc (F := fun j => j ≠ 12 ∧ j ≠ 13 ∧ j ≠ 14) hfr hfrc (fun j h => by have h : j ≠ 12 ∧ j ≠ 13 ∧ j ≠ 14 := h; omega)
                have hp13 : PObj g M_14 wn_15 un_16 hn_17 mn_18 := hn13
                have h14 : MArr g M_14 14 6 Rn_19 := hn14
                have hqa2 : MArr g M_14 12 9 T_20 := hn12
                replace hnQ : zRl na wn_15 un_16 hn_17 mn_18 Rn_19 (fun o => zParts (zNote (sK σ Ga) (sF σ Ga) Wb na ra o) (na - (h + 1)).toNat (h + 1) (lf - p9) f_4 ((fun o => zFold (fun p q => zParts (zNote (sK σ Ga) (sF σ Ga) Wb na ra o) (na - (h + 1)).toNat (h + 1) (lf - p) (upI Pa h p) q) (zLst (na - 1 - h) lf) (Q o) (p9 - zLst (na - 1 - h) lf).toNat) o)) := hnQ
                refine x_iinc (k0 := 0) (lv' := [(5, .int (iI (p9 + 1))), (4, .int (iI (1))), (3, .int (iI (lf - ((na - 1) - h)))), (0, .ref (g.2.2 13)), (1, .int (iI (h))), (2, .int (iI (lf)))]) hx hb dX5_part_112 hl rfl (by decide) rfl (fun ls hl => ?_)
                refine lv_goto (tgt := 69) hx hb dX5_part_115 (by decide) ?_
                exact ih_2 (T_20) (wn_15) (un_16) (hn_17) (mn_18) (Rn_19) (p9 + 1) (by omega) (by exact ost_21) (by (intro i a b; rw [hnT i a (by omega), hTf i, upI_n (by omega)]; exact hpr i a b)) (by omega) (by omega) (by omega) (by (have e : (fun o => zFold (fun p q => zParts (zNote (sK σ Ga) (sF σ Ga) Wb na ra o) (na - (h + 1)).toNat (h + 1) (lf - p) (upI Pa h p) q) (zLst (na - 1 - h) lf) (Q o) ((p9 + 1) - zLst (na - 1 - h) lf).toNat) = (fun o => zParts (zNote (sK σ Ga) (sF σ Ga) Wb na ra o) (na - (h + 1)).toNat (h + 1) (lf - p9) f_4 ((fun o => zFold (fun p q => zParts (zNote (sK σ Ga) (sF σ Ga) Wb na ra o) (na - (h + 1)).toNat (h + 1) (lf - p) (upI Pa h p) q) (zLst (na - 1 - h) lf) (Q o) (p9 - zLst (na - 1 - h) lf).toNat) o)) := funext (fun o => by (rw [zFold_succ _ _ hp0]; exact zParts_congr (zNote_local (fun _ _ _ => rfl)) _ _ _ _ _ _ (by omega) hT9))); rw [e]; exact hnQ) (M_14) _ _ hp13 h15 hqa0 hqa1 hqa2 h14 h16 hfr hP hD hS ls (lv_sub hl [0, 1, 2, 3, 4, 5] rfl)
      exact hloop_69 ((((40 : Int) - ((q_1))).toNat) + 1) (Pa) (wy) (un) (hd9) (mv) (Rc) ((q_1)) (by omega) (by exact hoa) (by exact fun _ _ _ => rfl) (by omega) (by omega) (by omega) (by (have e : (fun o => zFold (fun p q => zParts (zNote (sK σ Ga) (sF σ Ga) Wb na ra o) (na - (h + 1)).toNat (h + 1) (lf - p) (upI Pa h p) q) (zLst (na - 1 - h) lf) (Q o) ((q_1) - zLst (na - 1 - h) lf).toNat) = Q := funext (fun o => zFold_0 _ _ (by omega))); rw [e]; exact hQ) (σ.1) _ _ hp13 h15 hqa0 hqa1 hqa2 h14 h16 hfr hP hD hS ls (lv_sub hl [0, 1, 2, 3, 4, 5] rfl)
    · refine lv_iload_n hx hb dX5_part_54 rfl (lv_at hl 3 rfl) ?_
      refine lv_goto (tgt := 59) hx hb dX5_part_55 (by decide) ?_
      refine lv_istore (lv' := [(4, .int (iI (lf))), (3, .int (iI (lf - ((na - 1) - h)))), (0, .ref (g.2.2 13)), (1, .int (iI (h))), (2, .int (iI (lf)))]) hx hb dX5_part_59 hl (by decide) rfl (fun ls hl => ?_)
      refine x_iconst hx hb dX5_part_61 ?_
      refine lv_iload hx hb dX5_part_62 (lv_at hl 0 rfl) ?_
      refine x_max hx hb (hml.trans hl.1.symm) hown hw_4 hw_5 hw_6 hw_7 (Nat.le_of_ble_eq_true rfl) (Nat.le_of_ble_eq_true rfl) (Nat.le_of_ble_eq_true rfl) (Nat.le_of_ble_eq_true rfl) (by omega) (by omega) dX5_part_64 (fun q_22 hq_22 => ?_)
      have hls : zLst (na - 1 - h) lf = (q_22) := by (unfold zLst; split <;> omega)
      refine lv_istore (lv' := [(5, .int (iI (q_22))), (4, .int (iI (lf))), (3, .int (iI (lf - ((na - 1) - h)))), (0, .ref (g.2.2 13)), (1, .int (iI (h))), (2, .int (iI (lf)))]) hx hb dX5_part_67 hl (by decide) rfl (fun ls hl => ?_)
      have hloop_69 : ∀ (k : Nat) (T : Int → Int) (wz : Int) (uz : Int) (hz : Int) (mz : Int) (Rz : Int → Int) (p9 : Int), ((40 : Int) - p9).toNat < k → (hTo : StOk σ na ra T Ga) → (hpr : ∀ i, 0 ≤ i → i < h → T i = Pa i) → (hp0 : zLst (na - 1 - h) lf ≤ p9) → (hp1 : p9 = zLst (na - 1 - h) lf ∨ p9 ≤ lf - (na - 1 - h) + 1) → (hp2 : 1 ≤ p9 ∧ p9 ≤ 21) → (hR : zRl na wz uz hz mz Rz (fun o => zFold (fun p q => zParts (zNote (sK σ Ga) (sF σ Ga) Wb na ra o) (na - (h + 1)).toNat (h + 1) (lf - p) (upI Pa h p) q) (zLst (na - 1 - h) lf) (Q o) (p9 - zLst (na - 1 - h) lf).toNat)) → ∀ (M : xM) (H : Heap) (locs : List Loc), (hp13 : M (13) = .inr (5, [.int (iI (wz)), .int (iI (uz)), .int (iI (hz)), .int (iI (mz)), .ref (g.2.2 14), .ref (g.2.2 10), .ref (g.2.2 15), .ref (g.2.2 16)])) → (h15 : M (15) = .inl (g.2.1 0, 6, .inl (fun k => iI (Wb (k : Int))))) → (hqa0 : M (10) = .inr (7, [.ref (g.2.2 11), .ref (g.2.2 12), .int (iI (na)), .int (iI (ra))])) → (hqa1 : M (11) = .inl (g.2.1 1, 9, .inr (.inr (.inr (.inr (fun k => Ga (k : Int))))))) → (hqa2 : M (12) = .inl (g.2.1 0, 9, .inl (fun k => iI (T (k : Int))))) → (h14 : M (14) = .inl (g.2.1 0, 6, .inl (fun k => iI (Rz (k : Int))))) → (h16 : M (16) = .inl (g.2.1 2, 6, .inr (.inr (.inr (.inr (fun k => xGs g (k : Int))))))) → (hfr : ∀ j, (j ≠ 12 ∧ j ≠ 13 ∧ j ≠ 14) → M j = σ.1 j) → xP g (M, σ.2) H → xD g A (M, σ.2) → va_S A s.heap H locs → ∀ (ls : Array Slot), lv_has ls 6 [(5, .int (iI (p9))), (4, .int (iI (lf))), (3, .int (iI (lf - ((na - 1) - h)))), (0, .ref (g.2.2 13)), (1, .int (iI (h))), (2, .int (iI (lf)))] → W p l e (headSpec wsX5_part ({ frames := 7, cells := 0, slots := 0, locals := 224 })).room s m ([.ref (g.2.2 13), .int (iI (h)), .int (iI (lf))] : List Value).toArray below meth c H locs 0 0 (MQ below (x_Qv g A (fun σ1 => σ1.2 = σ.2 ∧ (∀ j, j ≠ 12 ∧ j ≠ 13 ∧ j ≠ 14 → σ1.1 j = σ.1 j) ∧ ∃ wy2 un2 hd2 mv2 T Rc2, PObj g σ1.1 wy2 un2 hd2 mv2 ∧ MArr g σ1.1 12 9 T ∧ MArr g σ1.1 14 6 Rc2 ∧ StOk σ na ra T Ga ∧ (∀ i, 0 ≤ i → i < h → T i = Pa i) ∧ zRl na wy2 un2 hd2 mv2 Rc2 (fun o => zParts (zNote (sK σ Ga) (sF σ Ga) Wb na ra o) (na - h).toNat h lf Pa (Q o)))) ([.ref (g.2.2 13), .int (iI (h)), .int (iI (lf))] : List Value).toArray s (0) (0) A) (F0 m 69 ls []) := by
        intro k
        induction k with
        | zero =>
          intros; exact absurd (by assumption) (Nat.not_lt_zero _)
        | succ k ih =>
          intro T wz uz hz mz Rz p9 hmeas hTo hpr hp0 hp1 hp2 hR M H locs hp13 h15 hqa0 hqa1 hqa2 h14 h16 hfr hP hD hS ls hl
          have ih_23 := ih
          refine lv_iload hx hb dX5_part_69 (lv_at hl 0 rfl) ?_
          refine lv_iload_n hx hb dX5_part_71 rfl (lv_at hl 2 rfl) ?_
          refine x_icmp_gt (tgt := 118) hx hb (by omega) (by omega) dX5_part_72 (by decide) (fun c_72 => ?_) (fun c_72 => ?_)
          · refine x_retQv hx hb hr ?_ hP hD hS dX5_part_118 hlocks
            refine ⟨rfl, hfr, _, _, _, _, _, _, hp13, hqa2, h14, hTo, hpr, ?_⟩
            have e : (fun o => zParts (zNote (sK σ Ga) (sF σ Ga) Wb na ra o) (na - h).toNat h lf Pa (Q o)) = (fun o => zFold (fun p q => zParts (zNote (sK σ Ga) (sF σ Ga) Wb na ra o) (na - (h + 1)).toNat (h + 1) (lf - p) (upI Pa h p) q) (zLst (na - 1 - h) lf) (Q o) (p9 - zLst (na - 1 - h) lf).toNat) := funext (fun o => by (rw [zParts_step _ _ _ _ (by omega), show (lf - (na - 1 - h) + 1 - zLst (na - 1 - h) lf).toNat = (p9 - zLst (na - 1 - h) lf).toNat by omega]))
            rw [e]; exact hR
          · refine lv_aload_n hx hb dX5_part_75 rfl (lv_at hl 3 rfl) ?_
            refine x_get (C := RX5) (T := TX5) (N := 8) hx hb hts hin_X5 hown hK hP (13) (by decide) hp13 rfl 5 (by decide) hw_0 (fun _ h9 => h9) rfl dX5_part_76 ?_
            refine x_get (C := RX7) (T := TX7) (N := 4) hx hb hts hin_X7 hown hK hP (10) (by decide) hqa0 rfl 1 (by decide) hw_8 (fun _ h9 => h9) rfl dX5_part_79 ?_
            refine lv_iload_n hx hb dX5_part_82 rfl (lv_at hl 4 rfl) ?_
            refine lv_iload hx hb dX5_part_83 (lv_at hl 0 rfl) ?_
            refine x_iast (f := T) hx hb hK hP hD hS (12) (by decide) hqa2 (by omega) (by omega) (by decide) dX5_part_85 (fun M_24 H locs hnew hne hP hD hS => ?_)
            obtain ⟨f_25, hf_25⟩ : ∃ q : Int → Int, q = (upI T (h) (p9)) := ⟨_, rfl⟩
            rw [← hf_25] at hnew
            have hP : xP g (M_24, σ.2) H := hP
            have hD : xD g A (M_24, σ.2) := hD
            have hqa2 : M_24 (12) = .inl (g.2.1 0, 9, .inl (fun k => iI (f_25 (k : Int)))) := hnew
            have hp13 := (hne (13) (by decide)).trans hp13
            have h15 := (hne (15) (by decide)).trans h15
            have hqa0 := (hne (10) (by decide)).trans hqa0
            have hqa1 := (hne (11) (by decide)).trans hqa1
            have h14 := (hne (14) (by decide)).trans h14
            have h16 := (hne (16) (by decide)).trans h16
            have hfr := x_fr (F := fun j => j ≠ 12 ∧ j ≠ 13 ∧ j ≠ 14) hfr hne (fun j h => by have h : j ≠ 12 ∧ j ≠ 13 ∧ j ≠ 14 := h; omega)
            have ost_26 : StOk σ (na) (ra) f_25 Ga := by (rw [hf_25]; exact StOk_purse hTo (by omega))
            have hTf : ∀ i, f_25 i = upI T h p9 i := fun i => by (rw [hf_25])
            have hT9 : ∀ i, 0 ≤ i → i < h + 1 → upI Pa h p9 i = f_25 i := fun i a b => by (rw [hTf i]; unfold upI; split; (rfl); exact (hpr i a (by omega)).symm)
            have hpT := zPth_congr hpth hpr
            have hTh : f_25 h = p9 := by (rw [hTf, upI_s])
            have hTg : f_25 (h - 1) = Pa (h - 1) ∨ h = 0 := by (by_cases e9 : h = 0; (exact Or.inr e9); (left; rw [hTf, upI_n (by omega)]; exact hpr _ (by omega) (by omega)))
            have hb1 : h ≠ 0 → 1 ≤ Pa (h - 1) ∧ Pa (h - 1) + lf ≤ c0 := fun q => hpth.1 (h - 1) (by omega) (by omega)
            refine lv_iload_n hx hb dX5_part_86 rfl (lv_at hl 4 rfl) ?_
            refine x_if_eq (tgt := 101) hx hb (by omega) dX5_part_87 (by decide) (fun c_87 => ?_) (fun c_87 => ?_)
            · have hyP : h = 0 ∨ zPr (sK σ Ga) (sF σ Ga) (h - 1) h (T (h - 1)) p9 := by (left; omega)
              refine lv_aload_n hx hb dX5_part_101 rfl (lv_at hl 3 rfl) ?_
              refine lv_iload_n hx hb dX5_part_102 rfl (lv_at hl 4 rfl) ?_
              refine x_iconst hx hb dX5_part_103 ?_
              refine x_iadd hx hb dX5_part_104 ?_
              refine lv_iload_n hx hb dX5_part_105 rfl (lv_at hl 5 rfl) ?_
              refine lv_iload hx hb dX5_part_106 (lv_at hl 0 rfl) ?_
              refine x_isub hx hb dX5_part_108 ?_
              refine x_cqv0 (va_runV (As := [.int (iI (h + 1)), .int (iI (lf - p9))]) (rest := []) ⟨hx, hb, hml, hown, hts⟩ (c_X5_part1 l g (M_24, σ.2) A (wz) (uz) (hz) (mz) hp13 (na) (ra) f_25 Ga ⟨hqa0, hqa1, hqa2⟩ ost_26 hH Wb h15 hWb hn6 Rz h14 Su h16 (fun d a b => (hfr _ (by omega)).trans (hsr d a b)) hSr c0 hc0 hsu (fun o => zFold (fun p q => zParts (zNote (sK σ Ga) (sF σ Ga) Wb na ra o) (na - (h + 1)).toNat (h + 1) (lf - p) (upI Pa h p) q) (zLst (na - 1 - h) lf) (Q o) (p9 - zLst (na - 1 - h) lf).toNat) hR (h + 1) (by omega) (lf - p9) (by omega) (zPart_room (zNote_ways (sK σ Ga) (sF σ Ga) Wb na ra 0) hh.1 (by omega) (by omega) hp0 (by omega) (hQ.2.2.2.2.2 0).1 (hR.2.2.2.2.2 0).1 hwr) (by rw [hf_25]; exact zPth_go hpT hh.1 (by omega) (by omega) (by omega) hyP)) (cwV 2 hts gX5_part_X5_part rfl rfl rfl (by decide +kernel) ⟨Nat.le_of_ble_eq_true rfl, Nat.le_of_ble_eq_true rfl⟩) (x_preVQ hK hP hD hS hA (x_recv hK hP (i := 13) (by decide) hp13 rfl)) rfl rfl hl.1 rfl (lv_room (Nat.le_of_ble_eq_true rfl)) dX5_part_109 ⟨by decide, by decide⟩) hS (fun σ1 H locs hpost hP hD hS => ?_)
              obtain ⟨M_27, p1⟩ := σ1
              obtain ⟨hp0, hfrc, wn_28, un_29, hn_30, mn_31, T_33, Rn_32, hn13, hn12, hn14, ost_34, hnT, hnQ⟩ := hpost
              obtain rfl : p1 = σ.2 := hp0
              have hP : xP g (M_27, σ.2) H := hP
              have hD : xD g A (M_27, σ.2) := hD
              have h15 := (hfrc (15) (by omega)).trans h15
              have hqa0 := (hfrc (10) (by omega)).trans hqa0
              have hqa1 := (hfrc (11) (by omega)).trans hqa1
              have h16 := (hfrc (16) (by omega)).trans h16
              have hfr := x_frc (F := fun j => j ≠ 12 ∧ j ≠ 13 ∧ j ≠ 14) hfr hfrc (fun j h => by have h : j ≠ 12 ∧ j ≠ 13 ∧ j ≠ 14 := h; omega)
              have hp13 : PObj g M_27 wn_28 un_29 hn_30 mn_31 := hn13
              have h14 : MArr g M_27 14 6 Rn_32 := hn14
              have hqa2 : MArr g M_27 12 9 T_33 := hn12
              replace hnQ : zRl na wn_28 un_29 hn_30 mn_31 Rn_32 (fun o => zParts (zNote (sK σ Ga) (sF σ Ga) Wb na ra o) (na - (h + 1)).toNat (h + 1) (lf - p9) f_25 ((fun o => zFold (fun p q => zParts (zNote (sK σ Ga) (sF σ Ga) Wb na ra o) (na - (h + 1)).toNat (h + 1) (lf - p) (upI Pa h p) q) (zLst (na - 1 - h) lf) (Q o) (p9 - zLst (na - 1 - h) lf).toNat) o)) := hnQ
              refine x_iinc (k0 := 0) (lv' := [(5, .int (iI (p9 + 1))), (4, .int (iI (lf))), (3, .int (iI (lf - ((na - 1) - h)))), (0, .ref (g.2.2 13)), (1, .int (iI (h))), (2, .int (iI (lf)))]) hx hb dX5_part_112 hl rfl (by decide) rfl (fun ls hl => ?_)
              refine lv_goto (tgt := 69) hx hb dX5_part_115 (by decide) ?_
              exact ih_23 (T_33) (wn_28) (un_29) (hn_30) (mn_31) (Rn_32) (p9 + 1) (by omega) (by exact ost_34) (by (intro i a b; rw [hnT i a (by omega), hTf i, upI_n (by omega)]; exact hpr i a b)) (by omega) (by omega) (by omega) (by (have e : (fun o => zFold (fun p q => zParts (zNote (sK σ Ga) (sF σ Ga) Wb na ra o) (na - (h + 1)).toNat (h + 1) (lf - p) (upI Pa h p) q) (zLst (na - 1 - h) lf) (Q o) ((p9 + 1) - zLst (na - 1 - h) lf).toNat) = (fun o => zParts (zNote (sK σ Ga) (sF σ Ga) Wb na ra o) (na - (h + 1)).toNat (h + 1) (lf - p9) f_25 ((fun o => zFold (fun p q => zParts (zNote (sK σ Ga) (sF σ Ga) Wb na ra o) (na - (h + 1)).toNat (h + 1) (lf - p) (upI Pa h p) q) (zLst (na - 1 - h) lf) (Q o) (p9 - zLst (na - 1 - h) lf).toNat) o)) := funext (fun o => by (rw [zFold_succ _ _ hp0]; exact zParts_congr (zNote_local (fun _ _ _ => rfl)) _ _ _ _ _ _ (by omega) hT9))); rw [e]; exact hnQ) (M_27) _ _ hp13 h15 hqa0 hqa1 hqa2 h14 h16 hfr hP hD hS ls (lv_sub hl [0, 1, 2, 3, 4, 5] rfl)
            · refine lv_aload_n hx hb dX5_part_90 rfl (lv_at hl 3 rfl) ?_
              refine lv_iload_n hx hb dX5_part_91 rfl (lv_at hl 4 rfl) ?_
              refine x_iconst hx hb dX5_part_92 ?_
              refine x_isub hx hb dX5_part_93 ?_
              refine lv_iload_n hx hb dX5_part_94 rfl (lv_at hl 4 rfl) ?_
              refine x_ci (va_runV (As := [.int (iI (h - 1)), .int (iI (h))]) (rest := []) ⟨hx, hb, hml, hown, hts⟩ (c_X5_suit l g (M_24, σ.2) (wz) (uz) (hz) (mz) hp13 (na) (ra) f_25 Ga ⟨hqa0, hqa1, hqa2⟩ ost_26 hH (17 + (h - 1).toNat) h16 (h - 1) (by omega) (h) (by omega) rfl (Su (h - 1)) ((hfr _ (by omega)).trans (hsr (h - 1) (by omega) (by omega))) (fun k => hSr _ k) (by omega)) (cwV 2 hts gX5_part_X5_suit rfl rfl rfl (by decide +kernel) ⟨Nat.le_of_ble_eq_true rfl, Nat.le_of_ble_eq_true rfl⟩) (x_preV hK hP (x_recv hK hP (i := 13) (by decide) hp13 rfl)) rfl rfl hl.1 rfl (lv_room (Nat.le_of_ble_eq_true rfl)) dX5_part_95 ⟨Nat.le_of_ble_eq_true rfl, Nat.le_of_ble_eq_true rfl⟩) (fun r_95 hr_95 qr_95 => ?_)
              replace qr_95 : (r_95 = 1 ∧ zBt (Su (h - 1) (f_25 (h - 1))) (f_25 (h))) ∨ (r_95 = 0 ∧ ¬ zBt (Su (h - 1) (f_25 (h - 1))) (f_25 (h))) := qr_95
              have hTg : f_25 (h - 1) = Pa (h - 1) := by omega
              have hsz : zBt (Su (h - 1) (Pa (h - 1))) p9 ↔ zPr (sK σ Ga) (sF σ Ga) (h - 1) h (Pa (h - 1)) p9 := by (have e0 : zBehind na ra (h - 1) = h := (by (unfold zBehind; rw [if_pos (by omega)]; omega)); have z := hsu (h - 1) (by omega) (by omega) (by rw [e0]; omega) (Pa (h - 1)) p9 (by omega) (by omega) (by omega); rw [e0] at z; exact z)
              rw [hTg, hTh] at qr_95
              refine x_if_eq (tgt := 112) hx hb (by omega) dX5_part_98 (by decide) (fun c_98 => ?_) (fun c_98 => ?_)
              · have hnP : ¬ zPr (sK σ Ga) (sF σ Ga) (h - 1) h (Pa (h - 1)) p9 := by (rw [← hsz]; rcases qr_95 with q | q; omega; exact q.2)
                refine x_iinc (k0 := 0) (lv' := [(5, .int (iI (p9 + 1))), (4, .int (iI (lf))), (3, .int (iI (lf - ((na - 1) - h)))), (0, .ref (g.2.2 13)), (1, .int (iI (h))), (2, .int (iI (lf)))]) hx hb dX5_part_112 hl rfl (by decide) rfl (fun ls hl => ?_)
                refine lv_goto (tgt := 69) hx hb dX5_part_115 (by decide) ?_
                exact ih_23 (f_25) (wz) (uz) (hz) (mz) (Rz) (p9 + 1) (by omega) (by exact ost_26) (by (intro i a b; rw [hTf i, upI_n (by omega)]; exact hpr i a b)) (by omega) (by omega) (by omega) (by (have e : (fun o => zFold (fun p q => zParts (zNote (sK σ Ga) (sF σ Ga) Wb na ra o) (na - (h + 1)).toNat (h + 1) (lf - p) (upI Pa h p) q) (zLst (na - 1 - h) lf) (Q o) ((p9 + 1) - zLst (na - 1 - h) lf).toNat) = (fun o => zFold (fun p q => zParts (zNote (sK σ Ga) (sF σ Ga) Wb na ra o) (na - (h + 1)).toNat (h + 1) (lf - p) (upI Pa h p) q) (zLst (na - 1 - h) lf) (Q o) (p9 - zLst (na - 1 - h) lf).toNat) := funext (fun o => by (rw [zFold_succ _ _ hp0]; exact zParts_bad2 _ (by omega) (by omega) (by rw [upI_n (by omega), upI_s]; exact hnP)))); rw [e]; exact hR) (M_24) _ _ hp13 h15 hqa0 hqa1 hqa2 h14 h16 hfr hP hD hS ls (lv_sub hl [0, 1, 2, 3, 4, 5] rfl)
              · have hyP : h = 0 ∨ zPr (sK σ Ga) (sF σ Ga) (h - 1) h (T (h - 1)) p9 := by (right; rw [hpr (h - 1) (by omega) (by omega), ← hsz]; rcases qr_95 with q | q; exact q.2; omega)
                refine lv_aload_n hx hb dX5_part_101 rfl (lv_at hl 3 rfl) ?_
                refine lv_iload_n hx hb dX5_part_102 rfl (lv_at hl 4 rfl) ?_
                refine x_iconst hx hb dX5_part_103 ?_
                refine x_iadd hx hb dX5_part_104 ?_
                refine lv_iload_n hx hb dX5_part_105 rfl (lv_at hl 5 rfl) ?_
                refine lv_iload hx hb dX5_part_106 (lv_at hl 0 rfl) ?_
                refine x_isub hx hb dX5_part_108 ?_
                refine x_cqv0 (va_runV (As := [.int (iI (h + 1)), .int (iI (lf - p9))]) (rest := []) ⟨hx, hb, hml, hown, hts⟩ (c_X5_part1 l g (M_24, σ.2) A (wz) (uz) (hz) (mz) hp13 (na) (ra) f_25 Ga ⟨hqa0, hqa1, hqa2⟩ ost_26 hH Wb h15 hWb hn6 Rz h14 Su h16 (fun d a b => (hfr _ (by omega)).trans (hsr d a b)) hSr c0 hc0 hsu (fun o => zFold (fun p q => zParts (zNote (sK σ Ga) (sF σ Ga) Wb na ra o) (na - (h + 1)).toNat (h + 1) (lf - p) (upI Pa h p) q) (zLst (na - 1 - h) lf) (Q o) (p9 - zLst (na - 1 - h) lf).toNat) hR (h + 1) (by omega) (lf - p9) (by omega) (zPart_room (zNote_ways (sK σ Ga) (sF σ Ga) Wb na ra 0) hh.1 (by omega) (by omega) hp0 (by omega) (hQ.2.2.2.2.2 0).1 (hR.2.2.2.2.2 0).1 hwr) (by rw [hf_25]; exact zPth_go hpT hh.1 (by omega) (by omega) (by omega) hyP)) (cwV 2 hts gX5_part_X5_part rfl rfl rfl (by decide +kernel) ⟨Nat.le_of_ble_eq_true rfl, Nat.le_of_ble_eq_true rfl⟩) (x_preVQ hK hP hD hS hA (x_recv hK hP (i := 13) (by decide) hp13 rfl)) rfl rfl hl.1 rfl (lv_room (Nat.le_of_ble_eq_true rfl)) dX5_part_109 ⟨by decide, by decide⟩) hS (fun σ1 H locs hpost hP hD hS => ?_)
                obtain ⟨M_35, p1⟩ := σ1
                obtain ⟨hp0, hfrc, wn_36, un_37, hn_38, mn_39, T_41, Rn_40, hn13, hn12, hn14, ost_42, hnT, hnQ⟩ := hpost
                obtain rfl : p1 = σ.2 := hp0
                have hP : xP g (M_35, σ.2) H := hP
                have hD : xD g A (M_35, σ.2) := hD
                have h15 := (hfrc (15) (by omega)).trans h15
                have hqa0 := (hfrc (10) (by omega)).trans hqa0
                have hqa1 := (hfrc (11) (by omega)).trans hqa1
                have h16 := (hfrc (16) (by omega)).trans h16
                have hfr := x_frc (F := fun j => j ≠ 12 ∧ j ≠ 13 ∧ j ≠ 14) hfr hfrc (fun j h => by have h : j ≠ 12 ∧ j ≠ 13 ∧ j ≠ 14 := h; omega)
                have hp13 : PObj g M_35 wn_36 un_37 hn_38 mn_39 := hn13
                have h14 : MArr g M_35 14 6 Rn_40 := hn14
                have hqa2 : MArr g M_35 12 9 T_41 := hn12
                replace hnQ : zRl na wn_36 un_37 hn_38 mn_39 Rn_40 (fun o => zParts (zNote (sK σ Ga) (sF σ Ga) Wb na ra o) (na - (h + 1)).toNat (h + 1) (lf - p9) f_25 ((fun o => zFold (fun p q => zParts (zNote (sK σ Ga) (sF σ Ga) Wb na ra o) (na - (h + 1)).toNat (h + 1) (lf - p) (upI Pa h p) q) (zLst (na - 1 - h) lf) (Q o) (p9 - zLst (na - 1 - h) lf).toNat) o)) := hnQ
                refine x_iinc (k0 := 0) (lv' := [(5, .int (iI (p9 + 1))), (4, .int (iI (lf))), (3, .int (iI (lf - ((na - 1) - h)))), (0, .ref (g.2.2 13)), (1, .int (iI (h))), (2, .int (iI (lf)))]) hx hb dX5_part_112 hl rfl (by decide) rfl (fun ls hl => ?_)
                refine lv_goto (tgt := 69) hx hb dX5_part_115 (by decide) ?_
                exact ih_23 (T_41) (wn_36) (un_37) (hn_38) (mn_39) (Rn_40) (p9 + 1) (by omega) (by exact ost_42) (by (intro i a b; rw [hnT i a (by omega), hTf i, upI_n (by omega)]; exact hpr i a b)) (by omega) (by omega) (by omega) (by (have e : (fun o => zFold (fun p q => zParts (zNote (sK σ Ga) (sF σ Ga) Wb na ra o) (na - (h + 1)).toNat (h + 1) (lf - p) (upI Pa h p) q) (zLst (na - 1 - h) lf) (Q o) ((p9 + 1) - zLst (na - 1 - h) lf).toNat) = (fun o => zParts (zNote (sK σ Ga) (sF σ Ga) Wb na ra o) (na - (h + 1)).toNat (h + 1) (lf - p9) f_25 ((fun o => zFold (fun p q => zParts (zNote (sK σ Ga) (sF σ Ga) Wb na ra o) (na - (h + 1)).toNat (h + 1) (lf - p) (upI Pa h p) q) (zLst (na - 1 - h) lf) (Q o) (p9 - zLst (na - 1 - h) lf).toNat) o)) := funext (fun o => by (rw [zFold_succ _ _ hp0]; exact zParts_congr (zNote_local (fun _ _ _ => rfl)) _ _ _ _ _ _ (by omega) hT9))); rw [e]; exact hnQ) (M_35) _ _ hp13 h15 hqa0 hqa1 hqa2 h14 h16 hfr hP hD hS ls (lv_sub hl [0, 1, 2, 3, 4, 5] rfl)
      exact hloop_69 ((((40 : Int) - ((q_22))).toNat) + 1) (Pa) (wy) (un) (hd9) (mv) (Rc) ((q_22)) (by omega) (by exact hoa) (by exact fun _ _ _ => rfl) (by omega) (by omega) (by omega) (by (have e : (fun o => zFold (fun p q => zParts (zNote (sK σ Ga) (sF σ Ga) Wb na ra o) (na - (h + 1)).toNat (h + 1) (lf - p) (upI Pa h p) q) (zLst (na - 1 - h) lf) (Q o) ((q_22) - zLst (na - 1 - h) lf).toNat) = Q := funext (fun o => zFold_0 _ _ (by omega))); rw [e]; exact hQ) (σ.1) _ _ hp13 h15 hqa0 hqa1 hqa2 h14 h16 hfr hP hD hS ls (lv_sub hl [0, 1, 2, 3, 4, 5] rfl)
  · refine lv_iload_n hx hb dX5_part_11 rfl (lv_at hl 2 rfl) ?_
    refine x_if_ne (tgt := 26) hx hb (by omega) dX5_part_12 (by decide) (fun c_12 => ?_) (fun c_12 => ?_)
    · refine x_retQv hx hb hr ?_ hP hD hS dX5_part_26 hlocks
      refine ⟨rfl, hfr, _, _, _, _, _, _, hp13, hqa2, h14, hoa, fun _ _ _ => rfl, ?_⟩
      have e : (fun o => zParts (zNote (sK σ Ga) (sF σ Ga) Wb na ra o) (na - h).toNat h lf Pa (Q o)) = Q := funext (fun o => by (rw [zParts_end _ _ _ _ (by omega), if_neg (by omega)]))
      rw [e]; exact hQ
    · have hna : h = na := by omega
      have hlz : zAll (sK σ Ga) (sF σ Ga) Pa na ra = 0 ↔ (ra = 1 ∧ 3 ≤ na → zBt (Su (na - 1) (Pa (na - 1))) (Pa (0))) := by (rw [zAll_leaf hok1a hP99 (by rw [← hna]; exact hpth.2.2)]; refine imp_congr_right (fun hc => ?_); have e0 : zBehind na ra (na - 1) = 0 := (by (unfold zBehind; rw [if_neg (by omega), if_pos hc])); have z := hsu (na - 1) (by omega) (by omega) (by rw [e0]; omega) (Pa (na - 1)) (Pa 0) (hpth.1 (na - 1) (by omega) (by omega)).1 (hpth.1 0 (by omega) (by omega)).1 (by have z2 := hpth.2.1 (na - 1) 0 (by omega) (by omega) (by omega) (by omega) (by omega); omega); rw [e0] at z; exact z.symm)
      refine lv_aload_n hx hb dX5_part_15 rfl (lv_at hl 0 rfl) ?_
      refine x_ci (va_runV (As := []) (rest := []) ⟨hx, hb, hml, hown, hts⟩ (c_X5_isClosedWell l g σ (wy) (un) (hd9) (mv) hp13 (na) (ra) Pa Ga ⟨hqa0, hqa1, hqa2⟩ hoa hH Su h16 hsr hSr hn6 (fun i a b => by have z1 := hpth.1 i a (by omega); omega)) (cwV 0 hts gX5_part_X5_isClosedWell rfl rfl rfl (by decide +kernel) ⟨Nat.le_of_ble_eq_true rfl, Nat.le_of_ble_eq_true rfl⟩) (x_preV hK hP (x_recv hK hP (i := 13) (by decide) hp13 rfl)) rfl rfl hl.1 rfl (lv_room (Nat.le_of_ble_eq_true rfl)) dX5_part_16 ⟨Nat.le_of_ble_eq_true rfl, Nat.le_of_ble_eq_true rfl⟩) (fun r_16 hr_16 qr_16 => ?_)
      replace qr_16 : (r_16 = 1 ∧ (ra = 1 ∧ 3 ≤ na → zBt (Su (na - 1) (Pa (na - 1))) (Pa (0)))) ∨ (r_16 = 0 ∧ (ra = 1 ∧ 3 ≤ na) ∧ ¬ zBt (Su (na - 1) (Pa (na - 1))) (Pa (0))) := qr_16
      refine x_if_eq (tgt := 26) hx hb (by omega) dX5_part_19 (by decide) (fun c_19 => ?_) (fun c_19 => ?_)
      · have hnz : ¬ zAll (sK σ Ga) (sF σ Ga) Pa na ra = 0 := by (rw [hlz]; rcases qr_16 with q | q; omega; exact fun q2 => q.2.2 (q2 q.2.1))
        refine x_retQv hx hb hr ?_ hP hD hS dX5_part_26 hlocks
        refine ⟨rfl, hfr, _, _, _, _, _, _, hp13, hqa2, h14, hoa, fun _ _ _ => rfl, ?_⟩
        have e : (fun o => zParts (zNote (sK σ Ga) (sF σ Ga) Wb na ra o) (na - h).toNat h lf Pa (Q o)) = Q := funext (fun o => by (rw [zParts_end _ _ _ _ (by omega), if_pos (by omega)]; unfold zNote; rw [if_pos hnz]))
        rw [e]; exact hQ
      · have hz0 : zAll (sK σ Ga) (sF σ Ga) Pa na ra = 0 := by (rw [hlz]; rcases qr_16 with q | q; exact q.2; omega)
        have hzb := zB_pos (na - h).toNat
        have hzb1 : zB (na - h).toNat = 1 := by (rw [show (na - h).toNat = 0 by omega]; rfl)
        refine lv_aload_n hx hb dX5_part_22 rfl (lv_at hl 0 rfl) ?_
        refine x_cqv0 (va_runV (As := []) (rest := []) ⟨hx, hb, hml, hown, hts⟩ (c_X5_note l g σ A (wy) (un) (hd9) (mv) hp13 (na) (ra) Pa Ga ⟨hqa0, hqa1, hqa2⟩ hoa hH Wb h15 hWb hn6 Rc h14 Q hQ (by omega) hz0) (cwV 0 hts gX5_part_X5_note rfl rfl rfl (by decide +kernel) ⟨Nat.le_of_ble_eq_true rfl, Nat.le_of_ble_eq_true rfl⟩) (x_preVQ hK hP hD hS hA (x_recv hK hP (i := 13) (by decide) hp13 rfl)) rfl rfl hl.1 rfl (lv_room (Nat.le_of_ble_eq_true rfl)) dX5_part_23 ⟨by decide, by decide⟩) hS (fun σ1 H locs hpost hP hD hS => ?_)
        obtain ⟨M_43, p1⟩ := σ1
        obtain ⟨hp0, hfrc, wn_44, un_45, hn_46, mn_47, Rn_48, hn13, hn14, hnQ⟩ := hpost
        obtain rfl : p1 = σ.2 := hp0
        have hP : xP g (M_43, σ.2) H := hP
        have hD : xD g A (M_43, σ.2) := hD
        have h15 := (hfrc (15) (by omega)).trans h15
        have hqa0 := (hfrc (10) (by omega)).trans hqa0
        have hqa1 := (hfrc (11) (by omega)).trans hqa1
        have hqa2 := (hfrc (12) (by omega)).trans hqa2
        have h16 := (hfrc (16) (by omega)).trans h16
        have hfr := x_frc (F := fun j => j ≠ 12 ∧ j ≠ 13 ∧ j ≠ 14) hfr hfrc (fun j h => by have h : j ≠ 12 ∧ j ≠ 13 ∧ j ≠ 14 := h; omega)
        have hp13 : PObj g M_43 wn_44 un_45 hn_46 mn_47 := hn13
        have h14 : MArr g M_43 14 6 Rn_48 := hn14
        replace hnQ : zRl na wn_44 un_45 hn_46 mn_47 Rn_48 (fun o => zNote (sK σ Ga) (sF σ Ga) Wb na ra o Pa (Q o)) := hnQ
        refine x_retQv hx hb hr ?_ hP hD hS dX5_part_26 hlocks
        refine ⟨rfl, hfr, _, _, _, _, _, _, hp13, hqa2, h14, hoa, fun _ _ _ => rfl, ?_⟩
        have e : (fun o => zParts (zNote (sK σ Ga) (sF σ Ga) Wb na ra o) (na - h).toNat h lf Pa (Q o)) = (fun o => zNote (sK σ Ga) (sF σ Ga) Wb na ra o Pa (Q o)) := funext (fun o => by (rw [zParts_end _ _ _ _ (by omega), if_pos (by omega)]))
        rw [e]; exact hnQ

set_option maxHeartbeats 4000000 in
set_option maxRecDepth 100000 in
theorem c_X5_part3 (l : Launch) (g : xG) (σ : xS) (A : Nat → Prop) (wy un hd9 mv : Int) (hp13 : PObj g σ.1 wy un hd9 mv) (na ra : Int) (Pa : Int → Int) (Ga : Int → Option Nat) (hsa9 : StAt g σ.1 10 na ra Pa Ga) (hoa : StOk σ na ra Pa Ga) (hH : HsOk σ) (Wb : Int → Int) (h15 : MArr g σ.1 15 6 Wb) (hWb : ∀ i, 0 ≤ i → i < na → 0 ≤ Wb i ∧ Wb i ≤ 9999) (hn6 : na ≤ 6) (Rc : Int → Int) (h14 : MArr g σ.1 14 6 Rc) (Su : Int → Int → Int) (h16 : MGrs g σ.1) (hsr : ∀ d, 0 ≤ d → d ≤ 5 → MArr g σ.1 (17 + d.toNat) 21 (Su d)) (hSr : ∀ d k, inR (Su d k)) (c0 : Int) (hc0 : 0 ≤ c0 ∧ c0 ≤ 20) (hsu : zSuOk (sK σ Ga) (sF σ Ga) na ra c0 Su) (Q : Int → zAcc) (hQ : zRl na wy un hd9 mv Rc Q) (h : Int) (hh : 0 ≤ h ∧ h ≤ na ∧ na - h ≤ 3) (lf : Int) (hlf : 0 ≤ lf ∧ lf ≤ c0) (hwr : wy + zB (na - h).toNat ≤ 100000000) (hpth : zPth (sK σ Ga) (sF σ Ga) Pa c0 h lf) : Met l yX5_part wsX5_part ({ frames := 8, cells := 0, slots := 0, locals := 256 }) (va_Pc [.ref (g.2.2 13), .int (iI (h)), .int (iI (lf))] (xPreQ g A σ)) (x_Qv g A (fun σ1 => σ1.2 = σ.2 ∧ (∀ j, j ≠ 12 ∧ j ≠ 13 ∧ j ≠ 14 → σ1.1 j = σ.1 j) ∧ ∃ wy2 un2 hd2 mv2 T Rc2, PObj g σ1.1 wy2 un2 hd2 mv2 ∧ MArr g σ1.1 12 9 T ∧ MArr g σ1.1 14 6 Rc2 ∧ StOk σ na ra T Ga ∧ (∀ i, 0 ≤ i → i < h → T i = Pa i) ∧ zRl na wy2 un2 hd2 mv2 Rc2 (fun o => zParts (zNote (sK σ Ga) (sF σ Ga) Wb na ra o) (na - h).toNat h lf Pa (Q o)))) (0) (0) A := by
  refine Met.ofW (cc := cX5_part) (maxL := 6) (ret := none) (by decide) rfl ?_
  intro p e s m args below meth c s₁ B hml hv
  obtain ⟨rfl, hP, hK, hD, hA⟩ := hv
  have hx := B.exec
  have hb := B.bytes
  have hr := B.returns
  have hts := atoms_spec (ws := wsX5_part) B.pre
  have hown : s.vm.findClass RX5 = some m.cls := findClass_of_methodNamed B.named
  have hlocks := B.notSynchronized
  have hS : va_S A s.heap s.heap [] := va_S.rf
  have hfr : ∀ j, (j ≠ 12 ∧ j ≠ 13 ∧ j ≠ 14) → σ.1 j = σ.1 j := fun _ _ => rfl
  have hl := lv_entry ([.ref (g.2.2 13), .int (iI (h)), .int (iI (lf))]) (n := 6) (Nat.le_of_ble_eq_true rfl)
  rw [lg_entry_eq]
  generalize (lg_sl ([.ref (g.2.2 13), .int (iI (h)), .int (iI (lf))]) ++ List.replicate (6 - (lg_sl ([.ref (g.2.2 13), .int (iI (h)), .int (iI (lf))])).length) Slot.unset).toArray = ls at hl ⊢
  have hl : lv_has ls 6 [(0, .ref (g.2.2 13)), (1, .int (iI (h))), (2, .int (iI (lf)))] := hl
  have hqa0 : σ.1 10 = .inr (7, [.ref (g.2.2 11), .ref (g.2.2 12), .int (iI na), .int (iI ra)]) := hsa9.1
  have hqa1 : MRef g σ.1 11 9 Ga := hsa9.2.1
  have hqa2 : MArr g σ.1 12 9 Pa := hsa9.2.2
  have hoa1 := hoa.1
  have hoa2 := hoa.2.1
  have hoa3 := hoa.2.2.1
  have hq1 := hQ.1
  have hok1a : 0 ≤ na := hoa.1
  have hP99 : ∀ i, 0 ≤ i → i < na → Pa i ≤ 9999 := fun i a b => (hoa.2.2.2.2.2 i a b).2.2
  have hw_0 := hts (.fieldLink RX5 18 "TwiceAsRich$Partings" "parted" "LTwiceAsRich$Street;") (by decide +kernel)
  have hin_X5 : ∀ w ∈ wsX50, w ∈ wsX5_part := by decide +kernel
  have hw_2 := hts (.fieldLink RX5 49 "TwiceAsRich$Street" "count" "I") (by decide +kernel)
  have hin_X7 : ∀ w ∈ wsX70, w ∈ wsX5_part := by decide +kernel
  have hw_4 := hts (.methodLink RX5 88 Lib.Math.max.name) (by decide +kernel)
  have hw_5 := hts (.static Lib.Math.max.name) (by decide +kernel)
  have hw_6 := hts (.initialized "java/lang/Math") (by decide +kernel)
  have hw_7 := hts (.code Lib.Math.max.name Lib.Math.max.code 2 (some .int)) (by decide +kernel)
  have hw_8 := hts (.fieldLink RX5 56 "TwiceAsRich$Street" "purses" "[I") (by decide +kernel)
  refine lv_iload_n hx hb dX5_part_0 rfl (lv_at hl 1 rfl) ?_
  refine lv_aload_n hx hb dX5_part_1 rfl (lv_at hl 0 rfl) ?_
  refine x_get (C := RX5) (T := TX5) (N := 8) hx hb hts hin_X5 hown hK hP (13) (by decide) hp13 rfl 5 (by decide) hw_0 (fun _ h9 => h9) rfl dX5_part_2 ?_
  refine x_get (C := RX7) (T := TX7) (N := 4) hx hb hts hin_X7 hown hK hP (10) (by decide) hqa0 rfl 2 (by decide) hw_2 (fun _ h9 => h9) rfl dX5_part_5 ?_
  refine x_icmp_lt (tgt := 27) hx hb (by omega) (by omega) dX5_part_8 (by decide) (fun c_8 => ?_) (fun c_8 => ?_)
  · refine lv_iload_n hx hb dX5_part_27 rfl (lv_at hl 2 rfl) ?_
    refine lv_aload_n hx hb dX5_part_28 rfl (lv_at hl 0 rfl) ?_
    refine x_get (C := RX5) (T := TX5) (N := 8) hx hb hts hin_X5 hown hK hP (13) (by decide) hp13 rfl 5 (by decide) hw_0 (fun _ h9 => h9) rfl dX5_part_29 ?_
    refine x_get (C := RX7) (T := TX7) (N := 4) hx hb hts hin_X7 hown hK hP (10) (by decide) hqa0 rfl 2 (by decide) hw_2 (fun _ h9 => h9) rfl dX5_part_32 ?_
    refine x_iconst hx hb dX5_part_35 ?_
    refine x_isub hx hb dX5_part_36 ?_
    refine lv_iload_n hx hb dX5_part_37 rfl (lv_at hl 1 rfl) ?_
    refine x_isub hx hb dX5_part_38 ?_
    refine x_isub hx hb dX5_part_39 ?_
    refine lv_istore_n (lv' := [(3, .int (iI (lf - ((na - 1) - h)))), (0, .ref (g.2.2 13)), (1, .int (iI (h))), (2, .int (iI (lf)))]) hx hb dX5_part_40 rfl hl (by decide) rfl (fun ls hl => ?_)
    refine lv_iload_n hx hb dX5_part_41 rfl (lv_at hl 2 rfl) ?_
    refine lv_aload_n hx hb dX5_part_42 rfl (lv_at hl 1 rfl) ?_
    refine x_get (C := RX5) (T := TX5) (N := 8) hx hb hts hin_X5 hown hK hP (13) (by decide) hp13 rfl 5 (by decide) hw_0 (fun _ h9 => h9) rfl dX5_part_43 ?_
    refine x_get (C := RX7) (T := TX7) (N := 4) hx hb hts hin_X7 hown hK hP (10) (by decide) hqa0 rfl 2 (by decide) hw_2 (fun _ h9 => h9) rfl dX5_part_46 ?_
    refine x_iconst hx hb dX5_part_49 ?_
    refine x_isub hx hb dX5_part_50 ?_
    refine x_icmp_ne (tgt := 58) hx hb (by omega) (by omega) dX5_part_51 (by decide) (fun c_51 => ?_) (fun c_51 => ?_)
    · refine x_iconst hx hb dX5_part_58 ?_
      refine lv_istore (lv' := [(4, .int (iI (1))), (3, .int (iI (lf - ((na - 1) - h)))), (0, .ref (g.2.2 13)), (1, .int (iI (h))), (2, .int (iI (lf)))]) hx hb dX5_part_59 hl (by decide) rfl (fun ls hl => ?_)
      refine x_iconst hx hb dX5_part_61 ?_
      refine lv_iload hx hb dX5_part_62 (lv_at hl 0 rfl) ?_
      refine x_max hx hb (hml.trans hl.1.symm) hown hw_4 hw_5 hw_6 hw_7 (Nat.le_of_ble_eq_true rfl) (Nat.le_of_ble_eq_true rfl) (Nat.le_of_ble_eq_true rfl) (Nat.le_of_ble_eq_true rfl) (by omega) (by omega) dX5_part_64 (fun q_1 hq_1 => ?_)
      have hls : zLst (na - 1 - h) lf = (q_1) := by (unfold zLst; split <;> omega)
      refine lv_istore (lv' := [(5, .int (iI (q_1))), (4, .int (iI (1))), (3, .int (iI (lf - ((na - 1) - h)))), (0, .ref (g.2.2 13)), (1, .int (iI (h))), (2, .int (iI (lf)))]) hx hb dX5_part_67 hl (by decide) rfl (fun ls hl => ?_)
      have hloop_69 : ∀ (k : Nat) (T : Int → Int) (wz : Int) (uz : Int) (hz : Int) (mz : Int) (Rz : Int → Int) (p9 : Int), ((40 : Int) - p9).toNat < k → (hTo : StOk σ na ra T Ga) → (hpr : ∀ i, 0 ≤ i → i < h → T i = Pa i) → (hp0 : zLst (na - 1 - h) lf ≤ p9) → (hp1 : p9 = zLst (na - 1 - h) lf ∨ p9 ≤ lf - (na - 1 - h) + 1) → (hp2 : 1 ≤ p9 ∧ p9 ≤ 21) → (hR : zRl na wz uz hz mz Rz (fun o => zFold (fun p q => zParts (zNote (sK σ Ga) (sF σ Ga) Wb na ra o) (na - (h + 1)).toNat (h + 1) (lf - p) (upI Pa h p) q) (zLst (na - 1 - h) lf) (Q o) (p9 - zLst (na - 1 - h) lf).toNat)) → ∀ (M : xM) (H : Heap) (locs : List Loc), (hp13 : M (13) = .inr (5, [.int (iI (wz)), .int (iI (uz)), .int (iI (hz)), .int (iI (mz)), .ref (g.2.2 14), .ref (g.2.2 10), .ref (g.2.2 15), .ref (g.2.2 16)])) → (h15 : M (15) = .inl (g.2.1 0, 6, .inl (fun k => iI (Wb (k : Int))))) → (hqa0 : M (10) = .inr (7, [.ref (g.2.2 11), .ref (g.2.2 12), .int (iI (na)), .int (iI (ra))])) → (hqa1 : M (11) = .inl (g.2.1 1, 9, .inr (.inr (.inr (.inr (fun k => Ga (k : Int))))))) → (hqa2 : M (12) = .inl (g.2.1 0, 9, .inl (fun k => iI (T (k : Int))))) → (h14 : M (14) = .inl (g.2.1 0, 6, .inl (fun k => iI (Rz (k : Int))))) → (h16 : M (16) = .inl (g.2.1 2, 6, .inr (.inr (.inr (.inr (fun k => xGs g (k : Int))))))) → (hfr : ∀ j, (j ≠ 12 ∧ j ≠ 13 ∧ j ≠ 14) → M j = σ.1 j) → xP g (M, σ.2) H → xD g A (M, σ.2) → va_S A s.heap H locs → ∀ (ls : Array Slot), lv_has ls 6 [(5, .int (iI (p9))), (4, .int (iI (1))), (3, .int (iI (lf - ((na - 1) - h)))), (0, .ref (g.2.2 13)), (1, .int (iI (h))), (2, .int (iI (lf)))] → W p l e (headSpec wsX5_part ({ frames := 8, cells := 0, slots := 0, locals := 256 })).room s m ([.ref (g.2.2 13), .int (iI (h)), .int (iI (lf))] : List Value).toArray below meth c H locs 0 0 (MQ below (x_Qv g A (fun σ1 => σ1.2 = σ.2 ∧ (∀ j, j ≠ 12 ∧ j ≠ 13 ∧ j ≠ 14 → σ1.1 j = σ.1 j) ∧ ∃ wy2 un2 hd2 mv2 T Rc2, PObj g σ1.1 wy2 un2 hd2 mv2 ∧ MArr g σ1.1 12 9 T ∧ MArr g σ1.1 14 6 Rc2 ∧ StOk σ na ra T Ga ∧ (∀ i, 0 ≤ i → i < h → T i = Pa i) ∧ zRl na wy2 un2 hd2 mv2 Rc2 (fun o => zParts (zNote (sK σ Ga) (sF σ Ga) Wb na ra o) (na - h).toNat h lf Pa (Q o)))) ([.ref (g.2.2 13), .int (iI (h)), .int (iI (lf))] : List Value).toArray s (0) (0) A) (F0 m 69 ls []) := by
        intro k
        induction k with
        | zero =>
          intros; exact absurd (by assumption) (Nat.not_lt_zero _)
        | succ k ih =>
          intro T wz uz hz mz Rz p9 hmeas hTo hpr hp0 hp1 hp2 hR M H locs hp13 h15 hqa0 hqa1 hqa2 h14 h16 hfr hP hD hS ls hl
          have ih_2 := ih
          refine lv_iload hx hb dX5_part_69 (lv_at hl 0 rfl) ?_
          refine lv_iload_n hx hb dX5_part_71 rfl (lv_at hl 2 rfl) ?_
          refine x_icmp_gt (tgt := 118) hx hb (by omega) (by omega) dX5_part_72 (by decide) (fun c_72 => ?_) (fun c_72 => ?_)
          · refine x_retQv hx hb hr ?_ hP hD hS dX5_part_118 hlocks
            refine ⟨rfl, hfr, _, _, _, _, _, _, hp13, hqa2, h14, hTo, hpr, ?_⟩
            have e : (fun o => zParts (zNote (sK σ Ga) (sF σ Ga) Wb na ra o) (na - h).toNat h lf Pa (Q o)) = (fun o => zFold (fun p q => zParts (zNote (sK σ Ga) (sF σ Ga) Wb na ra o) (na - (h + 1)).toNat (h + 1) (lf - p) (upI Pa h p) q) (zLst (na - 1 - h) lf) (Q o) (p9 - zLst (na - 1 - h) lf).toNat) := funext (fun o => by (rw [zParts_step _ _ _ _ (by omega), show (lf - (na - 1 - h) + 1 - zLst (na - 1 - h) lf).toNat = (p9 - zLst (na - 1 - h) lf).toNat by omega]))
            rw [e]; exact hR
          · refine lv_aload_n hx hb dX5_part_75 rfl (lv_at hl 3 rfl) ?_
            refine x_get (C := RX5) (T := TX5) (N := 8) hx hb hts hin_X5 hown hK hP (13) (by decide) hp13 rfl 5 (by decide) hw_0 (fun _ h9 => h9) rfl dX5_part_76 ?_
            refine x_get (C := RX7) (T := TX7) (N := 4) hx hb hts hin_X7 hown hK hP (10) (by decide) hqa0 rfl 1 (by decide) hw_8 (fun _ h9 => h9) rfl dX5_part_79 ?_
            refine lv_iload_n hx hb dX5_part_82 rfl (lv_at hl 4 rfl) ?_
            refine lv_iload hx hb dX5_part_83 (lv_at hl 0 rfl) ?_
            refine x_iast (f := T) hx hb hK hP hD hS (12) (by decide) hqa2 (by omega) (by omega) (by decide) dX5_part_85 (fun M_3 H locs hnew hne hP hD hS => ?_)
            obtain ⟨f_4, hf_4⟩ : ∃ q : Int → Int, q = (upI T (h) (p9)) := ⟨_, rfl⟩
            rw [← hf_4] at hnew
            have hP : xP g (M_3, σ.2) H := hP
            have hD : xD g A (M_3, σ.2) := hD
            have hqa2 : M_3 (12) = .inl (g.2.1 0, 9, .inl (fun k => iI (f_4 (k : Int)))) := hnew
            have hp13 := (hne (13) (by decide)).trans hp13
            have h15 := (hne (15) (by decide)).trans h15
            have hqa0 := (hne (10) (by decide)).trans hqa0
            have hqa1 := (hne (11) (by decide)).trans hqa1
            have h14 := (hne (14) (by decide)).trans h14
            have h16 := (hne (16) (by decide)).trans h16
            have hfr := x_fr (F := fun j => j ≠ 12 ∧ j ≠ 13 ∧ j ≠ 14) hfr hne (fun j h => by have h : j ≠ 12 ∧ j ≠ 13 ∧ j ≠ 14 := h; omega)
            have ost_5 : StOk σ (na) (ra) f_4 Ga := by (rw [hf_4]; exact StOk_purse hTo (by omega))
            have hTf : ∀ i, f_4 i = upI T h p9 i := fun i => by (rw [hf_4])
            have hT9 : ∀ i, 0 ≤ i → i < h + 1 → upI Pa h p9 i = f_4 i := fun i a b => by (rw [hTf i]; unfold upI; split; (rfl); exact (hpr i a (by omega)).symm)
            have hpT := zPth_congr hpth hpr
            have hTh : f_4 h = p9 := by (rw [hTf, upI_s])
            have hTg : f_4 (h - 1) = Pa (h - 1) ∨ h = 0 := by (by_cases e9 : h = 0; (exact Or.inr e9); (left; rw [hTf, upI_n (by omega)]; exact hpr _ (by omega) (by omega)))
            have hb1 : h ≠ 0 → 1 ≤ Pa (h - 1) ∧ Pa (h - 1) + lf ≤ c0 := fun q => hpth.1 (h - 1) (by omega) (by omega)
            refine lv_iload_n hx hb dX5_part_86 rfl (lv_at hl 4 rfl) ?_
            refine x_if_eq (tgt := 101) hx hb (by omega) dX5_part_87 (by decide) (fun c_87 => ?_) (fun c_87 => ?_)
            · have hyP : h = 0 ∨ zPr (sK σ Ga) (sF σ Ga) (h - 1) h (T (h - 1)) p9 := by (left; omega)
              refine lv_aload_n hx hb dX5_part_101 rfl (lv_at hl 3 rfl) ?_
              refine lv_iload_n hx hb dX5_part_102 rfl (lv_at hl 4 rfl) ?_
              refine x_iconst hx hb dX5_part_103 ?_
              refine x_iadd hx hb dX5_part_104 ?_
              refine lv_iload_n hx hb dX5_part_105 rfl (lv_at hl 5 rfl) ?_
              refine lv_iload hx hb dX5_part_106 (lv_at hl 0 rfl) ?_
              refine x_isub hx hb dX5_part_108 ?_
              refine x_cqv0 (va_runV (As := [.int (iI (h + 1)), .int (iI (lf - p9))]) (rest := []) ⟨hx, hb, hml, hown, hts⟩ (c_X5_part2 l g (M_3, σ.2) A (wz) (uz) (hz) (mz) hp13 (na) (ra) f_4 Ga ⟨hqa0, hqa1, hqa2⟩ ost_5 hH Wb h15 hWb hn6 Rz h14 Su h16 (fun d a b => (hfr _ (by omega)).trans (hsr d a b)) hSr c0 hc0 hsu (fun o => zFold (fun p q => zParts (zNote (sK σ Ga) (sF σ Ga) Wb na ra o) (na - (h + 1)).toNat (h + 1) (lf - p) (upI Pa h p) q) (zLst (na - 1 - h) lf) (Q o) (p9 - zLst (na - 1 - h) lf).toNat) hR (h + 1) (by omega) (lf - p9) (by omega) (zPart_room (zNote_ways (sK σ Ga) (sF σ Ga) Wb na ra 0) hh.1 (by omega) (by omega) hp0 (by omega) (hQ.2.2.2.2.2 0).1 (hR.2.2.2.2.2 0).1 hwr) (by rw [hf_4]; exact zPth_go hpT hh.1 (by omega) (by omega) (by omega) hyP)) (cwV 2 hts gX5_part_X5_part rfl rfl rfl (by decide +kernel) ⟨Nat.le_of_ble_eq_true rfl, Nat.le_of_ble_eq_true rfl⟩) (x_preVQ hK hP hD hS hA (x_recv hK hP (i := 13) (by decide) hp13 rfl)) rfl rfl hl.1 rfl (lv_room (Nat.le_of_ble_eq_true rfl)) dX5_part_109 ⟨by decide, by decide⟩) hS (fun σ1 H locs hpost hP hD hS => ?_)
              obtain ⟨M_6, p1⟩ := σ1
              obtain ⟨hp0, hfrc, wn_7, un_8, hn_9, mn_10, T_12, Rn_11, hn13, hn12, hn14, ost_13, hnT, hnQ⟩ := hpost
              obtain rfl : p1 = σ.2 := hp0
              have hP : xP g (M_6, σ.2) H := hP
              have hD : xD g A (M_6, σ.2) := hD
              have h15 := (hfrc (15) (by omega)).trans h15
              have hqa0 := (hfrc (10) (by omega)).trans hqa0
              have hqa1 := (hfrc (11) (by omega)).trans hqa1
              have h16 := (hfrc (16) (by omega)).trans h16
              have hfr := x_frc (F := fun j => j ≠ 12 ∧ j ≠ 13 ∧ j ≠ 14) hfr hfrc (fun j h => by have h : j ≠ 12 ∧ j ≠ 13 ∧ j ≠ 14 := h; omega)
              have hp13 : PObj g M_6 wn_7 un_8 hn_9 mn_10 := hn13
              have h14 : MArr g M_6 14 6 Rn_11 := hn14
              have hqa2 : MArr g M_6 12 9 T_12 := hn12
              replace hnQ : zRl na wn_7 un_8 hn_9 mn_10 Rn_11 (fun o => zParts (zNote (sK σ Ga) (sF σ Ga) Wb na ra o) (na - (h + 1)).toNat (h + 1) (lf - p9) f_4 ((fun o => zFold (fun p q => zParts (zNote (sK σ Ga) (sF σ Ga) Wb na ra o) (na - (h + 1)).toNat (h + 1) (lf - p) (upI Pa h p) q) (zLst (na - 1 - h) lf) (Q o) (p9 - zLst (na - 1 - h) lf).toNat) o)) := hnQ
              refine x_iinc (k0 := 0) (lv' := [(5, .int (iI (p9 + 1))), (4, .int (iI (1))), (3, .int (iI (lf - ((na - 1) - h)))), (0, .ref (g.2.2 13)), (1, .int (iI (h))), (2, .int (iI (lf)))]) hx hb dX5_part_112 hl rfl (by decide) rfl (fun ls hl => ?_)
              refine lv_goto (tgt := 69) hx hb dX5_part_115 (by decide) ?_
              exact ih_2 (T_12) (wn_7) (un_8) (hn_9) (mn_10) (Rn_11) (p9 + 1) (by omega) (by exact ost_13) (by (intro i a b; rw [hnT i a (by omega), hTf i, upI_n (by omega)]; exact hpr i a b)) (by omega) (by omega) (by omega) (by (have e : (fun o => zFold (fun p q => zParts (zNote (sK σ Ga) (sF σ Ga) Wb na ra o) (na - (h + 1)).toNat (h + 1) (lf - p) (upI Pa h p) q) (zLst (na - 1 - h) lf) (Q o) ((p9 + 1) - zLst (na - 1 - h) lf).toNat) = (fun o => zParts (zNote (sK σ Ga) (sF σ Ga) Wb na ra o) (na - (h + 1)).toNat (h + 1) (lf - p9) f_4 ((fun o => zFold (fun p q => zParts (zNote (sK σ Ga) (sF σ Ga) Wb na ra o) (na - (h + 1)).toNat (h + 1) (lf - p) (upI Pa h p) q) (zLst (na - 1 - h) lf) (Q o) (p9 - zLst (na - 1 - h) lf).toNat) o)) := funext (fun o => by (rw [zFold_succ _ _ hp0]; exact zParts_congr (zNote_local (fun _ _ _ => rfl)) _ _ _ _ _ _ (by omega) hT9))); rw [e]; exact hnQ) (M_6) _ _ hp13 h15 hqa0 hqa1 hqa2 h14 h16 hfr hP hD hS ls (lv_sub hl [0, 1, 2, 3, 4, 5] rfl)
            · refine lv_aload_n hx hb dX5_part_90 rfl (lv_at hl 3 rfl) ?_
              refine lv_iload_n hx hb dX5_part_91 rfl (lv_at hl 4 rfl) ?_
              refine x_iconst hx hb dX5_part_92 ?_
              refine x_isub hx hb dX5_part_93 ?_
              refine lv_iload_n hx hb dX5_part_94 rfl (lv_at hl 4 rfl) ?_
              refine x_ci (va_runV (As := [.int (iI (h - 1)), .int (iI (h))]) (rest := []) ⟨hx, hb, hml, hown, hts⟩ (c_X5_suit l g (M_3, σ.2) (wz) (uz) (hz) (mz) hp13 (na) (ra) f_4 Ga ⟨hqa0, hqa1, hqa2⟩ ost_5 hH (17 + (h - 1).toNat) h16 (h - 1) (by omega) (h) (by omega) rfl (Su (h - 1)) ((hfr _ (by omega)).trans (hsr (h - 1) (by omega) (by omega))) (fun k => hSr _ k) (by omega)) (cwV 2 hts gX5_part_X5_suit rfl rfl rfl (by decide +kernel) ⟨Nat.le_of_ble_eq_true rfl, Nat.le_of_ble_eq_true rfl⟩) (x_preV hK hP (x_recv hK hP (i := 13) (by decide) hp13 rfl)) rfl rfl hl.1 rfl (lv_room (Nat.le_of_ble_eq_true rfl)) dX5_part_95 ⟨Nat.le_of_ble_eq_true rfl, Nat.le_of_ble_eq_true rfl⟩) (fun r_95 hr_95 qr_95 => ?_)
              replace qr_95 : (r_95 = 1 ∧ zBt (Su (h - 1) (f_4 (h - 1))) (f_4 (h))) ∨ (r_95 = 0 ∧ ¬ zBt (Su (h - 1) (f_4 (h - 1))) (f_4 (h))) := qr_95
              have hTg : f_4 (h - 1) = Pa (h - 1) := by omega
              have hsz : zBt (Su (h - 1) (Pa (h - 1))) p9 ↔ zPr (sK σ Ga) (sF σ Ga) (h - 1) h (Pa (h - 1)) p9 := by (have e0 : zBehind na ra (h - 1) = h := (by (unfold zBehind; rw [if_pos (by omega)]; omega)); have z := hsu (h - 1) (by omega) (by omega) (by rw [e0]; omega) (Pa (h - 1)) p9 (by omega) (by omega) (by omega); rw [e0] at z; exact z)
              rw [hTg, hTh] at qr_95
              refine x_if_eq (tgt := 112) hx hb (by omega) dX5_part_98 (by decide) (fun c_98 => ?_) (fun c_98 => ?_)
              · have hnP : ¬ zPr (sK σ Ga) (sF σ Ga) (h - 1) h (Pa (h - 1)) p9 := by (rw [← hsz]; rcases qr_95 with q | q; omega; exact q.2)
                refine x_iinc (k0 := 0) (lv' := [(5, .int (iI (p9 + 1))), (4, .int (iI (1))), (3, .int (iI (lf - ((na - 1) - h)))), (0, .ref (g.2.2 13)), (1, .int (iI (h))), (2, .int (iI (lf)))]) hx hb dX5_part_112 hl rfl (by decide) rfl (fun ls hl => ?_)
                refine lv_goto (tgt := 69) hx hb dX5_part_115 (by decide) ?_
                exact ih_2 (f_4) (wz) (uz) (hz) (mz) (Rz) (p9 + 1) (by omega) (by exact ost_5) (by (intro i a b; rw [hTf i, upI_n (by omega)]; exact hpr i a b)) (by omega) (by omega) (by omega) (by (have e : (fun o => zFold (fun p q => zParts (zNote (sK σ Ga) (sF σ Ga) Wb na ra o) (na - (h + 1)).toNat (h + 1) (lf - p) (upI Pa h p) q) (zLst (na - 1 - h) lf) (Q o) ((p9 + 1) - zLst (na - 1 - h) lf).toNat) = (fun o => zFold (fun p q => zParts (zNote (sK σ Ga) (sF σ Ga) Wb na ra o) (na - (h + 1)).toNat (h + 1) (lf - p) (upI Pa h p) q) (zLst (na - 1 - h) lf) (Q o) (p9 - zLst (na - 1 - h) lf).toNat) := funext (fun o => by (rw [zFold_succ _ _ hp0]; exact zParts_bad2 _ (by omega) (by omega) (by rw [upI_n (by omega), upI_s]; exact hnP)))); rw [e]; exact hR) (M_3) _ _ hp13 h15 hqa0 hqa1 hqa2 h14 h16 hfr hP hD hS ls (lv_sub hl [0, 1, 2, 3, 4, 5] rfl)
              · have hyP : h = 0 ∨ zPr (sK σ Ga) (sF σ Ga) (h - 1) h (T (h - 1)) p9 := by (right; rw [hpr (h - 1) (by omega) (by omega), ← hsz]; rcases qr_95 with q | q; exact q.2; omega)
                refine lv_aload_n hx hb dX5_part_101 rfl (lv_at hl 3 rfl) ?_
                refine lv_iload_n hx hb dX5_part_102 rfl (lv_at hl 4 rfl) ?_
                refine x_iconst hx hb dX5_part_103 ?_
                refine x_iadd hx hb dX5_part_104 ?_
                refine lv_iload_n hx hb dX5_part_105 rfl (lv_at hl 5 rfl) ?_
                refine lv_iload hx hb dX5_part_106 (lv_at hl 0 rfl) ?_
                refine x_isub hx hb dX5_part_108 ?_
                refine x_cqv0 (va_runV (As := [.int (iI (h + 1)), .int (iI (lf - p9))]) (rest := []) ⟨hx, hb, hml, hown, hts⟩ (c_X5_part2 l g (M_3, σ.2) A (wz) (uz) (hz) (mz) hp13 (na) (ra) f_4 Ga ⟨hqa0, hqa1, hqa2⟩ ost_5 hH Wb h15 hWb hn6 Rz h14 Su h16 (fun d a b => (hfr _ (by omega)).trans (hsr d a b)) hSr c0 hc0 hsu (fun o => zFold (fun p q => zParts (zNote (sK σ Ga) (sF σ Ga) Wb na ra o) (na - (h + 1)).toNat (h + 1) (lf - p) (upI Pa h p) q) (zLst (na - 1 - h) lf) (Q o) (p9 - zLst (na - 1 - h) lf).toNat) hR (h + 1) (by omega) (lf - p9) (by omega) (zPart_room (zNote_ways (sK σ Ga) (sF σ Ga) Wb na ra 0) hh.1 (by omega) (by omega) hp0 (by omega) (hQ.2.2.2.2.2 0).1 (hR.2.2.2.2.2 0).1 hwr) (by rw [hf_4]; exact zPth_go hpT hh.1 (by omega) (by omega) (by omega) hyP)) (cwV 2 hts gX5_part_X5_part rfl rfl rfl (by decide +kernel) ⟨Nat.le_of_ble_eq_true rfl, Nat.le_of_ble_eq_true rfl⟩) (x_preVQ hK hP hD hS hA (x_recv hK hP (i := 13) (by decide) hp13 rfl)) rfl rfl hl.1 rfl (lv_room (Nat.le_of_ble_eq_true rfl)) dX5_part_109 ⟨by decide, by decide⟩) hS (fun σ1 H locs hpost hP hD hS => ?_)
                obtain ⟨M_14, p1⟩ := σ1
                obtain ⟨hp0, hfrc, wn_15, un_16, hn_17, mn_18, T_20, Rn_19, hn13, hn12, hn14, ost_21, hnT, hnQ⟩ := hpost
                obtain rfl : p1 = σ.2 := hp0
                have hP : xP g (M_14, σ.2) H := hP
                have hD : xD g A (M_14, σ.2) := hD
                have h15 := (hfrc (15) (by omega)).trans h15
                have hqa0 := (hfrc (10) (by omega)).trans hqa0
                have hqa1 := (hfrc (11) (by omega)).trans hqa1
                have h16 := (hfrc (16) (by omega)).trans h16
                have hfr := x_frc (F := fun j => j ≠ 12 ∧ j ≠ 13 ∧ j ≠ 14) hfr hfrc (fun j h => by have h : j ≠ 12 ∧ j ≠ 13 ∧ j ≠ 14 := h; omega)
                have hp13 : PObj g M_14 wn_15 un_16 hn_17 mn_18 := hn13
                have h14 : MArr g M_14 14 6 Rn_19 := hn14
                have hqa2 : MArr g M_14 12 9 T_20 := hn12
                replace hnQ : zRl na wn_15 un_16 hn_17 mn_18 Rn_19 (fun o => zParts (zNote (sK σ Ga) (sF σ Ga) Wb na ra o) (na - (h + 1)).toNat (h + 1) (lf - p9) f_4 ((fun o => zFold (fun p q => zParts (zNote (sK σ Ga) (sF σ Ga) Wb na ra o) (na - (h + 1)).toNat (h + 1) (lf - p) (upI Pa h p) q) (zLst (na - 1 - h) lf) (Q o) (p9 - zLst (na - 1 - h) lf).toNat) o)) := hnQ
                refine x_iinc (k0 := 0) (lv' := [(5, .int (iI (p9 + 1))), (4, .int (iI (1))), (3, .int (iI (lf - ((na - 1) - h)))), (0, .ref (g.2.2 13)), (1, .int (iI (h))), (2, .int (iI (lf)))]) hx hb dX5_part_112 hl rfl (by decide) rfl (fun ls hl => ?_)
                refine lv_goto (tgt := 69) hx hb dX5_part_115 (by decide) ?_
                exact ih_2 (T_20) (wn_15) (un_16) (hn_17) (mn_18) (Rn_19) (p9 + 1) (by omega) (by exact ost_21) (by (intro i a b; rw [hnT i a (by omega), hTf i, upI_n (by omega)]; exact hpr i a b)) (by omega) (by omega) (by omega) (by (have e : (fun o => zFold (fun p q => zParts (zNote (sK σ Ga) (sF σ Ga) Wb na ra o) (na - (h + 1)).toNat (h + 1) (lf - p) (upI Pa h p) q) (zLst (na - 1 - h) lf) (Q o) ((p9 + 1) - zLst (na - 1 - h) lf).toNat) = (fun o => zParts (zNote (sK σ Ga) (sF σ Ga) Wb na ra o) (na - (h + 1)).toNat (h + 1) (lf - p9) f_4 ((fun o => zFold (fun p q => zParts (zNote (sK σ Ga) (sF σ Ga) Wb na ra o) (na - (h + 1)).toNat (h + 1) (lf - p) (upI Pa h p) q) (zLst (na - 1 - h) lf) (Q o) (p9 - zLst (na - 1 - h) lf).toNat) o)) := funext (fun o => by (rw [zFold_succ _ _ hp0]; exact zParts_congr (zNote_local (fun _ _ _ => rfl)) _ _ _ _ _ _ (by omega) hT9))); rw [e]; exact hnQ) (M_14) _ _ hp13 h15 hqa0 hqa1 hqa2 h14 h16 hfr hP hD hS ls (lv_sub hl [0, 1, 2, 3, 4, 5] rfl)
      exact hloop_69 ((((40 : Int) - ((q_1))).toNat) + 1) (Pa) (wy) (un) (hd9) (mv) (Rc) ((q_1)) (by omega) (by exact hoa) (by exact fun _ _ _ => rfl) (by omega) (by omega) (by omega) (by (have e : (fun o => zFold (fun p q => zParts (zNote (sK σ Ga) (sF σ Ga) Wb na ra o) (na - (h + 1)).toNat (h + 1) (lf - p) (upI Pa h p) q) (zLst (na - 1 - h) lf) (Q o) ((q_1) - zLst (na - 1 - h) lf).toNat) = Q := funext (fun o => zFold_0 _ _ (by omega))); rw [e]; exact hQ) (σ.1) _ _ hp13 h15 hqa0 hqa1 hqa2 h14 h16 hfr hP hD hS ls (lv_sub hl [0, 1, 2, 3, 4, 5] rfl)
    · refine lv_iload_n hx hb dX5_part_54 rfl (lv_at hl 3 rfl) ?_
      refine lv_goto (tgt := 59) hx hb dX5_part_55 (by decide) ?_
      refine lv_istore (lv' := [(4, .int (iI (lf))), (3, .int (iI (lf - ((na - 1) - h)))), (0, .ref (g.2.2 13)), (1, .int (iI (h))), (2, .int (iI (lf)))]) hx hb dX5_part_59 hl (by decide) rfl (fun ls hl => ?_)
      refine x_iconst hx hb dX5_part_61 ?_
      refine lv_iload hx hb dX5_part_62 (lv_at hl 0 rfl) ?_
      refine x_max hx hb (hml.trans hl.1.symm) hown hw_4 hw_5 hw_6 hw_7 (Nat.le_of_ble_eq_true rfl) (Nat.le_of_ble_eq_true rfl) (Nat.le_of_ble_eq_true rfl) (Nat.le_of_ble_eq_true rfl) (by omega) (by omega) dX5_part_64 (fun q_22 hq_22 => ?_)
      have hls : zLst (na - 1 - h) lf = (q_22) := by (unfold zLst; split <;> omega)
      refine lv_istore (lv' := [(5, .int (iI (q_22))), (4, .int (iI (lf))), (3, .int (iI (lf - ((na - 1) - h)))), (0, .ref (g.2.2 13)), (1, .int (iI (h))), (2, .int (iI (lf)))]) hx hb dX5_part_67 hl (by decide) rfl (fun ls hl => ?_)
      have hloop_69 : ∀ (k : Nat) (T : Int → Int) (wz : Int) (uz : Int) (hz : Int) (mz : Int) (Rz : Int → Int) (p9 : Int), ((40 : Int) - p9).toNat < k → (hTo : StOk σ na ra T Ga) → (hpr : ∀ i, 0 ≤ i → i < h → T i = Pa i) → (hp0 : zLst (na - 1 - h) lf ≤ p9) → (hp1 : p9 = zLst (na - 1 - h) lf ∨ p9 ≤ lf - (na - 1 - h) + 1) → (hp2 : 1 ≤ p9 ∧ p9 ≤ 21) → (hR : zRl na wz uz hz mz Rz (fun o => zFold (fun p q => zParts (zNote (sK σ Ga) (sF σ Ga) Wb na ra o) (na - (h + 1)).toNat (h + 1) (lf - p) (upI Pa h p) q) (zLst (na - 1 - h) lf) (Q o) (p9 - zLst (na - 1 - h) lf).toNat)) → ∀ (M : xM) (H : Heap) (locs : List Loc), (hp13 : M (13) = .inr (5, [.int (iI (wz)), .int (iI (uz)), .int (iI (hz)), .int (iI (mz)), .ref (g.2.2 14), .ref (g.2.2 10), .ref (g.2.2 15), .ref (g.2.2 16)])) → (h15 : M (15) = .inl (g.2.1 0, 6, .inl (fun k => iI (Wb (k : Int))))) → (hqa0 : M (10) = .inr (7, [.ref (g.2.2 11), .ref (g.2.2 12), .int (iI (na)), .int (iI (ra))])) → (hqa1 : M (11) = .inl (g.2.1 1, 9, .inr (.inr (.inr (.inr (fun k => Ga (k : Int))))))) → (hqa2 : M (12) = .inl (g.2.1 0, 9, .inl (fun k => iI (T (k : Int))))) → (h14 : M (14) = .inl (g.2.1 0, 6, .inl (fun k => iI (Rz (k : Int))))) → (h16 : M (16) = .inl (g.2.1 2, 6, .inr (.inr (.inr (.inr (fun k => xGs g (k : Int))))))) → (hfr : ∀ j, (j ≠ 12 ∧ j ≠ 13 ∧ j ≠ 14) → M j = σ.1 j) → xP g (M, σ.2) H → xD g A (M, σ.2) → va_S A s.heap H locs → ∀ (ls : Array Slot), lv_has ls 6 [(5, .int (iI (p9))), (4, .int (iI (lf))), (3, .int (iI (lf - ((na - 1) - h)))), (0, .ref (g.2.2 13)), (1, .int (iI (h))), (2, .int (iI (lf)))] → W p l e (headSpec wsX5_part ({ frames := 8, cells := 0, slots := 0, locals := 256 })).room s m ([.ref (g.2.2 13), .int (iI (h)), .int (iI (lf))] : List Value).toArray below meth c H locs 0 0 (MQ below (x_Qv g A (fun σ1 => σ1.2 = σ.2 ∧ (∀ j, j ≠ 12 ∧ j ≠ 13 ∧ j ≠ 14 → σ1.1 j = σ.1 j) ∧ ∃ wy2 un2 hd2 mv2 T Rc2, PObj g σ1.1 wy2 un2 hd2 mv2 ∧ MArr g σ1.1 12 9 T ∧ MArr g σ1.1 14 6 Rc2 ∧ StOk σ na ra T Ga ∧ (∀ i, 0 ≤ i → i < h → T i = Pa i) ∧ zRl na wy2 un2 hd2 mv2 Rc2 (fun o => zParts (zNote (sK σ Ga) (sF σ Ga) Wb na ra o) (na - h).toNat h lf Pa (Q o)))) ([.ref (g.2.2 13), .int (iI (h)), .int (iI (lf))] : List Value).toArray s (0) (0) A) (F0 m 69 ls []) := by
        intro k
        induction k with
        | zero =>
          intros; exact absurd (by assumption) (Nat.not_lt_zero _)
        | succ k ih =>
          intro T wz uz hz mz Rz p9 hmeas hTo hpr hp0 hp1 hp2 hR M H locs hp13 h15 hqa0 hqa1 hqa2 h14 h16 hfr hP hD hS ls hl
          have ih_23 := ih
          refine lv_iload hx hb dX5_part_69 (lv_at hl 0 rfl) ?_
          refine lv_iload_n hx hb dX5_part_71 rfl (lv_at hl 2 rfl) ?_
          refine x_icmp_gt (tgt := 118) hx hb (by omega) (by omega) dX5_part_72 (by decide) (fun c_72 => ?_) (fun c_72 => ?_)
          · refine x_retQv hx hb hr ?_ hP hD hS dX5_part_118 hlocks
            refine ⟨rfl, hfr, _, _, _, _, _, _, hp13, hqa2, h14, hTo, hpr, ?_⟩
            have e : (fun o => zParts (zNote (sK σ Ga) (sF σ Ga) Wb na ra o) (na - h).toNat h lf Pa (Q o)) = (fun o => zFold (fun p q => zParts (zNote (sK σ Ga) (sF σ Ga) Wb na ra o) (na - (h + 1)).toNat (h + 1) (lf - p) (upI Pa h p) q) (zLst (na - 1 - h) lf) (Q o) (p9 - zLst (na - 1 - h) lf).toNat) := funext (fun o => by (rw [zParts_step _ _ _ _ (by omega), show (lf - (na - 1 - h) + 1 - zLst (na - 1 - h) lf).toNat = (p9 - zLst (na - 1 - h) lf).toNat by omega]))
            rw [e]; exact hR
          · refine lv_aload_n hx hb dX5_part_75 rfl (lv_at hl 3 rfl) ?_
            refine x_get (C := RX5) (T := TX5) (N := 8) hx hb hts hin_X5 hown hK hP (13) (by decide) hp13 rfl 5 (by decide) hw_0 (fun _ h9 => h9) rfl dX5_part_76 ?_
            refine x_get (C := RX7) (T := TX7) (N := 4) hx hb hts hin_X7 hown hK hP (10) (by decide) hqa0 rfl 1 (by decide) hw_8 (fun _ h9 => h9) rfl dX5_part_79 ?_
            refine lv_iload_n hx hb dX5_part_82 rfl (lv_at hl 4 rfl) ?_
            refine lv_iload hx hb dX5_part_83 (lv_at hl 0 rfl) ?_
            refine x_iast (f := T) hx hb hK hP hD hS (12) (by decide) hqa2 (by omega) (by omega) (by decide) dX5_part_85 (fun M_24 H locs hnew hne hP hD hS => ?_)
            obtain ⟨f_25, hf_25⟩ : ∃ q : Int → Int, q = (upI T (h) (p9)) := ⟨_, rfl⟩
            rw [← hf_25] at hnew
            have hP : xP g (M_24, σ.2) H := hP
            have hD : xD g A (M_24, σ.2) := hD
            have hqa2 : M_24 (12) = .inl (g.2.1 0, 9, .inl (fun k => iI (f_25 (k : Int)))) := hnew
            have hp13 := (hne (13) (by decide)).trans hp13
            have h15 := (hne (15) (by decide)).trans h15
            have hqa0 := (hne (10) (by decide)).trans hqa0
            have hqa1 := (hne (11) (by decide)).trans hqa1
            have h14 := (hne (14) (by decide)).trans h14
            have h16 := (hne (16) (by decide)).trans h16
            have hfr := x_fr (F := fun j => j ≠ 12 ∧ j ≠ 13 ∧ j ≠ 14) hfr hne (fun j h => by have h : j ≠ 12 ∧ j ≠ 13 ∧ j ≠ 14 := h; omega)
            have ost_26 : StOk σ (na) (ra) f_25 Ga := by (rw [hf_25]; exact StOk_purse hTo (by omega))
            have hTf : ∀ i, f_25 i = upI T h p9 i := fun i => by (rw [hf_25])
            have hT9 : ∀ i, 0 ≤ i → i < h + 1 → upI Pa h p9 i = f_25 i := fun i a b => by (rw [hTf i]; unfold upI; split; (rfl); exact (hpr i a (by omega)).symm)
            have hpT := zPth_congr hpth hpr
            have hTh : f_25 h = p9 := by (rw [hTf, upI_s])
            have hTg : f_25 (h - 1) = Pa (h - 1) ∨ h = 0 := by (by_cases e9 : h = 0; (exact Or.inr e9); (left; rw [hTf, upI_n (by omega)]; exact hpr _ (by omega) (by omega)))
            have hb1 : h ≠ 0 → 1 ≤ Pa (h - 1) ∧ Pa (h - 1) + lf ≤ c0 := fun q => hpth.1 (h - 1) (by omega) (by omega)
            refine lv_iload_n hx hb dX5_part_86 rfl (lv_at hl 4 rfl) ?_
            refine x_if_eq (tgt := 101) hx hb (by omega) dX5_part_87 (by decide) (fun c_87 => ?_) (fun c_87 => ?_)
            · have hyP : h = 0 ∨ zPr (sK σ Ga) (sF σ Ga) (h - 1) h (T (h - 1)) p9 := by (left; omega)
              refine lv_aload_n hx hb dX5_part_101 rfl (lv_at hl 3 rfl) ?_
              refine lv_iload_n hx hb dX5_part_102 rfl (lv_at hl 4 rfl) ?_
              refine x_iconst hx hb dX5_part_103 ?_
              refine x_iadd hx hb dX5_part_104 ?_
              refine lv_iload_n hx hb dX5_part_105 rfl (lv_at hl 5 rfl) ?_
              refine lv_iload hx hb dX5_part_106 (lv_at hl 0 rfl) ?_
              refine x_isub hx hb dX5_part_108 ?_
              refine x_cqv0 (va_runV (As := [.int (iI (h + 1)), .int (iI (lf - p9))]) (rest := []) ⟨hx, hb, hml, hown, hts⟩ (c_X5_part2 l g (M_24, σ.2) A (wz) (uz) (hz) (mz) hp13 (na) (ra) f_25 Ga ⟨hqa0, hqa1, hqa2⟩ ost_26 hH Wb h15 hWb hn6 Rz h14 Su h16 (fun d a b => (hfr _ (by omega)).trans (hsr d a b)) hSr c0 hc0 hsu (fun o => zFold (fun p q => zParts (zNote (sK σ Ga) (sF σ Ga) Wb na ra o) (na - (h + 1)).toNat (h + 1) (lf - p) (upI Pa h p) q) (zLst (na - 1 - h) lf) (Q o) (p9 - zLst (na - 1 - h) lf).toNat) hR (h + 1) (by omega) (lf - p9) (by omega) (zPart_room (zNote_ways (sK σ Ga) (sF σ Ga) Wb na ra 0) hh.1 (by omega) (by omega) hp0 (by omega) (hQ.2.2.2.2.2 0).1 (hR.2.2.2.2.2 0).1 hwr) (by rw [hf_25]; exact zPth_go hpT hh.1 (by omega) (by omega) (by omega) hyP)) (cwV 2 hts gX5_part_X5_part rfl rfl rfl (by decide +kernel) ⟨Nat.le_of_ble_eq_true rfl, Nat.le_of_ble_eq_true rfl⟩) (x_preVQ hK hP hD hS hA (x_recv hK hP (i := 13) (by decide) hp13 rfl)) rfl rfl hl.1 rfl (lv_room (Nat.le_of_ble_eq_true rfl)) dX5_part_109 ⟨by decide, by decide⟩) hS (fun σ1 H locs hpost hP hD hS => ?_)
              obtain ⟨M_27, p1⟩ := σ1
              obtain ⟨hp0, hfrc, wn_28, un_29, hn_30, mn_31, T_33, Rn_32, hn13, hn12, hn14, ost_34, hnT, hnQ⟩ := hpost
              obtain rfl : p1 = σ.2 := hp0
              have hP : xP g (M_27, σ.2) H := hP
              have hD : xD g A (M_27, σ.2) := hD
              have h15 := (hfrc (15) (by omega)).trans h15
              have hqa0 := (hfrc (10) (by omega)).trans hqa0
              have hqa1 := (hfrc (11) (by omega)).trans hqa1
              have h16 := (hfrc (16) (by omega)).trans h16
              have hfr := x_frc (F := fun j => j ≠ 12 ∧ j ≠ 13 ∧ j ≠ 14) hfr hfrc (fun j h => by have h : j ≠ 12 ∧ j ≠ 13 ∧ j ≠ 14 := h; omega)
              have hp13 : PObj g M_27 wn_28 un_29 hn_30 mn_31 := hn13
              have h14 : MArr g M_27 14 6 Rn_32 := hn14
              have hqa2 : MArr g M_27 12 9 T_33 := hn12
              replace hnQ : zRl na wn_28 un_29 hn_30 mn_31 Rn_32 (fun o => zParts (zNote (sK σ Ga) (sF σ Ga) Wb na ra o) (na - (h + 1)).toNat (h + 1) (lf - p9) f_25 ((fun o => zFold (fun p q => zParts (zNote (sK σ Ga) (sF σ Ga) Wb na ra o) (na - (h + 1)).toNat (h + 1) (lf - p) (upI Pa h p) q) (zLst (na - 1 - h) lf) (Q o) (p9 - zLst (na - 1 - h) lf).toNat) o)) := hnQ
              refine x_iinc (k0 := 0) (lv' := [(5, .int (iI (p9 + 1))), (4, .int (iI (lf))), (3, .int (iI (lf - ((na - 1) - h)))), (0, .ref (g.2.2 13)), (1, .int (iI (h))), (2, .int (iI (lf)))]) hx hb dX5_part_112 hl rfl (by decide) rfl (fun ls hl => ?_)
              refine lv_goto (tgt := 69) hx hb dX5_part_115 (by decide) ?_
              exact ih_23 (T_33) (wn_28) (un_29) (hn_30) (mn_31) (Rn_32) (p9 + 1) (by omega) (by exact ost_34) (by (intro i a b; rw [hnT i a (by omega), hTf i, upI_n (by omega)]; exact hpr i a b)) (by omega) (by omega) (by omega) (by (have e : (fun o => zFold (fun p q => zParts (zNote (sK σ Ga) (sF σ Ga) Wb na ra o) (na - (h + 1)).toNat (h + 1) (lf - p) (upI Pa h p) q) (zLst (na - 1 - h) lf) (Q o) ((p9 + 1) - zLst (na - 1 - h) lf).toNat) = (fun o => zParts (zNote (sK σ Ga) (sF σ Ga) Wb na ra o) (na - (h + 1)).toNat (h + 1) (lf - p9) f_25 ((fun o => zFold (fun p q => zParts (zNote (sK σ Ga) (sF σ Ga) Wb na ra o) (na - (h + 1)).toNat (h + 1) (lf - p) (upI Pa h p) q) (zLst (na - 1 - h) lf) (Q o) (p9 - zLst (na - 1 - h) lf).toNat) o)) := funext (fun o => by (rw [zFold_succ _ _ hp0]; exact zParts_congr (zNote_local (fun _ _ _ => rfl)) _ _ _ _ _ _ (by omega) hT9))); rw [e]; exact hnQ) (M_27) _ _ hp13 h15 hqa0 hqa1 hqa2 h14 h16 hfr hP hD hS ls (lv_sub hl [0, 1, 2, 3, 4, 5] rfl)
            · refine lv_aload_n hx hb dX5_part_90 rfl (lv_at hl 3 rfl) ?_
              refine lv_iload_n hx hb dX5_part_91 rfl (lv_at hl 4 rfl) ?_
              refine x_iconst hx hb dX5_part_92 ?_
              refine x_isub hx hb dX5_part_93 ?_
              refine lv_iload_n hx hb dX5_part_94 rfl (lv_at hl 4 rfl) ?_
              refine x_ci (va_runV (As := [.int (iI (h - 1)), .int (iI (h))]) (rest := []) ⟨hx, hb, hml, hown, hts⟩ (c_X5_suit l g (M_24, σ.2) (wz) (uz) (hz) (mz) hp13 (na) (ra) f_25 Ga ⟨hqa0, hqa1, hqa2⟩ ost_26 hH (17 + (h - 1).toNat) h16 (h - 1) (by omega) (h) (by omega) rfl (Su (h - 1)) ((hfr _ (by omega)).trans (hsr (h - 1) (by omega) (by omega))) (fun k => hSr _ k) (by omega)) (cwV 2 hts gX5_part_X5_suit rfl rfl rfl (by decide +kernel) ⟨Nat.le_of_ble_eq_true rfl, Nat.le_of_ble_eq_true rfl⟩) (x_preV hK hP (x_recv hK hP (i := 13) (by decide) hp13 rfl)) rfl rfl hl.1 rfl (lv_room (Nat.le_of_ble_eq_true rfl)) dX5_part_95 ⟨Nat.le_of_ble_eq_true rfl, Nat.le_of_ble_eq_true rfl⟩) (fun r_95 hr_95 qr_95 => ?_)
              replace qr_95 : (r_95 = 1 ∧ zBt (Su (h - 1) (f_25 (h - 1))) (f_25 (h))) ∨ (r_95 = 0 ∧ ¬ zBt (Su (h - 1) (f_25 (h - 1))) (f_25 (h))) := qr_95
              have hTg : f_25 (h - 1) = Pa (h - 1) := by omega
              have hsz : zBt (Su (h - 1) (Pa (h - 1))) p9 ↔ zPr (sK σ Ga) (sF σ Ga) (h - 1) h (Pa (h - 1)) p9 := by (have e0 : zBehind na ra (h - 1) = h := (by (unfold zBehind; rw [if_pos (by omega)]; omega)); have z := hsu (h - 1) (by omega) (by omega) (by rw [e0]; omega) (Pa (h - 1)) p9 (by omega) (by omega) (by omega); rw [e0] at z; exact z)
              rw [hTg, hTh] at qr_95
              refine x_if_eq (tgt := 112) hx hb (by omega) dX5_part_98 (by decide) (fun c_98 => ?_) (fun c_98 => ?_)
              · have hnP : ¬ zPr (sK σ Ga) (sF σ Ga) (h - 1) h (Pa (h - 1)) p9 := by (rw [← hsz]; rcases qr_95 with q | q; omega; exact q.2)
                refine x_iinc (k0 := 0) (lv' := [(5, .int (iI (p9 + 1))), (4, .int (iI (lf))), (3, .int (iI (lf - ((na - 1) - h)))), (0, .ref (g.2.2 13)), (1, .int (iI (h))), (2, .int (iI (lf)))]) hx hb dX5_part_112 hl rfl (by decide) rfl (fun ls hl => ?_)
                refine lv_goto (tgt := 69) hx hb dX5_part_115 (by decide) ?_
                exact ih_23 (f_25) (wz) (uz) (hz) (mz) (Rz) (p9 + 1) (by omega) (by exact ost_26) (by (intro i a b; rw [hTf i, upI_n (by omega)]; exact hpr i a b)) (by omega) (by omega) (by omega) (by (have e : (fun o => zFold (fun p q => zParts (zNote (sK σ Ga) (sF σ Ga) Wb na ra o) (na - (h + 1)).toNat (h + 1) (lf - p) (upI Pa h p) q) (zLst (na - 1 - h) lf) (Q o) ((p9 + 1) - zLst (na - 1 - h) lf).toNat) = (fun o => zFold (fun p q => zParts (zNote (sK σ Ga) (sF σ Ga) Wb na ra o) (na - (h + 1)).toNat (h + 1) (lf - p) (upI Pa h p) q) (zLst (na - 1 - h) lf) (Q o) (p9 - zLst (na - 1 - h) lf).toNat) := funext (fun o => by (rw [zFold_succ _ _ hp0]; exact zParts_bad2 _ (by omega) (by omega) (by rw [upI_n (by omega), upI_s]; exact hnP)))); rw [e]; exact hR) (M_24) _ _ hp13 h15 hqa0 hqa1 hqa2 h14 h16 hfr hP hD hS ls (lv_sub hl [0, 1, 2, 3, 4, 5] rfl)
              · have hyP : h = 0 ∨ zPr (sK σ Ga) (sF σ Ga) (h - 1) h (T (h - 1)) p9 := by (right; rw [hpr (h - 1) (by omega) (by omega), ← hsz]; rcases qr_95 with q | q; exact q.2; omega)
                refine lv_aload_n hx hb dX5_part_101 rfl (lv_at hl 3 rfl) ?_
                refine lv_iload_n hx hb dX5_part_102 rfl (lv_at hl 4 rfl) ?_
                refine x_iconst hx hb dX5_part_103 ?_
                refine x_iadd hx hb dX5_part_104 ?_
                refine lv_iload_n hx hb dX5_part_105 rfl (lv_at hl 5 rfl) ?_
                refine lv_iload hx hb dX5_part_106 (lv_at hl 0 rfl) ?_
                refine x_isub hx hb dX5_part_108 ?_
                refine x_cqv0 (va_runV (As := [.int (iI (h + 1)), .int (iI (lf - p9))]) (rest := []) ⟨hx, hb, hml, hown, hts⟩ (c_X5_part2 l g (M_24, σ.2) A (wz) (uz) (hz) (mz) hp13 (na) (ra) f_25 Ga ⟨hqa0, hqa1, hqa2⟩ ost_26 hH Wb h15 hWb hn6 Rz h14 Su h16 (fun d a b => (hfr _ (by omega)).trans (hsr d a b)) hSr c0 hc0 hsu (fun o => zFold (fun p q => zParts (zNote (sK σ Ga) (sF σ Ga) Wb na ra o) (na - (h + 1)).toNat (h + 1) (lf - p) (upI Pa h p) q) (zLst (na - 1 - h) lf) (Q o) (p9 - zLst (na - 1 - h) lf).toNat) hR (h + 1) (by omega) (lf - p9) (by omega) (zPart_room (zNote_ways (sK σ Ga) (sF σ Ga) Wb na ra 0) hh.1 (by omega) (by omega) hp0 (by omega) (hQ.2.2.2.2.2 0).1 (hR.2.2.2.2.2 0).1 hwr) (by rw [hf_25]; exact zPth_go hpT hh.1 (by omega) (by omega) (by omega) hyP)) (cwV 2 hts gX5_part_X5_part rfl rfl rfl (by decide +kernel) ⟨Nat.le_of_ble_eq_true rfl, Nat.le_of_ble_eq_true rfl⟩) (x_preVQ hK hP hD hS hA (x_recv hK hP (i := 13) (by decide) hp13 rfl)) rfl rfl hl.1 rfl (lv_room (Nat.le_of_ble_eq_true rfl)) dX5_part_109 ⟨by decide, by decide⟩) hS (fun σ1 H locs hpost hP hD hS => ?_)
                obtain ⟨M_35, p1⟩ := σ1
                obtain ⟨hp0, hfrc, wn_36, un_37, hn_38, mn_39, T_41, Rn_40, hn13, hn12, hn14, ost_42, hnT, hnQ⟩ := hpost
                obtain rfl : p1 = σ.2 := hp0
                have hP : xP g (M_35, σ.2) H := hP
                have hD : xD g A (M_35, σ.2) := hD
                have h15 := (hfrc (15) (by omega)).trans h15
                have hqa0 := (hfrc (10) (by omega)).trans hqa0
                have hqa1 := (hfrc (11) (by omega)).trans hqa1
                have h16 := (hfrc (16) (by omega)).trans h16
                have hfr := x_frc (F := fun j => j ≠ 12 ∧ j ≠ 13 ∧ j ≠ 14) hfr hfrc (fun j h => by have h : j ≠ 12 ∧ j ≠ 13 ∧ j ≠ 14 := h; omega)
                have hp13 : PObj g M_35 wn_36 un_37 hn_38 mn_39 := hn13
                have h14 : MArr g M_35 14 6 Rn_40 := hn14
                have hqa2 : MArr g M_35 12 9 T_41 := hn12
                replace hnQ : zRl na wn_36 un_37 hn_38 mn_39 Rn_40 (fun o => zParts (zNote (sK σ Ga) (sF σ Ga) Wb na ra o) (na - (h + 1)).toNat (h + 1) (lf - p9) f_25 ((fun o => zFold (fun p q => zParts (zNote (sK σ Ga) (sF σ Ga) Wb na ra o) (na - (h + 1)).toNat (h + 1) (lf - p) (upI Pa h p) q) (zLst (na - 1 - h) lf) (Q o) (p9 - zLst (na - 1 - h) lf).toNat) o)) := hnQ
                refine x_iinc (k0 := 0) (lv' := [(5, .int (iI (p9 + 1))), (4, .int (iI (lf))), (3, .int (iI (lf - ((na - 1) - h)))), (0, .ref (g.2.2 13)), (1, .int (iI (h))), (2, .int (iI (lf)))]) hx hb dX5_part_112 hl rfl (by decide) rfl (fun ls hl => ?_)
                refine lv_goto (tgt := 69) hx hb dX5_part_115 (by decide) ?_
                exact ih_23 (T_41) (wn_36) (un_37) (hn_38) (mn_39) (Rn_40) (p9 + 1) (by omega) (by exact ost_42) (by (intro i a b; rw [hnT i a (by omega), hTf i, upI_n (by omega)]; exact hpr i a b)) (by omega) (by omega) (by omega) (by (have e : (fun o => zFold (fun p q => zParts (zNote (sK σ Ga) (sF σ Ga) Wb na ra o) (na - (h + 1)).toNat (h + 1) (lf - p) (upI Pa h p) q) (zLst (na - 1 - h) lf) (Q o) ((p9 + 1) - zLst (na - 1 - h) lf).toNat) = (fun o => zParts (zNote (sK σ Ga) (sF σ Ga) Wb na ra o) (na - (h + 1)).toNat (h + 1) (lf - p9) f_25 ((fun o => zFold (fun p q => zParts (zNote (sK σ Ga) (sF σ Ga) Wb na ra o) (na - (h + 1)).toNat (h + 1) (lf - p) (upI Pa h p) q) (zLst (na - 1 - h) lf) (Q o) (p9 - zLst (na - 1 - h) lf).toNat) o)) := funext (fun o => by (rw [zFold_succ _ _ hp0]; exact zParts_congr (zNote_local (fun _ _ _ => rfl)) _ _ _ _ _ _ (by omega) hT9))); rw [e]; exact hnQ) (M_35) _ _ hp13 h15 hqa0 hqa1 hqa2 h14 h16 hfr hP hD hS ls (lv_sub hl [0, 1, 2, 3, 4, 5] rfl)
      exact hloop_69 ((((40 : Int) - ((q_22))).toNat) + 1) (Pa) (wy) (un) (hd9) (mv) (Rc) ((q_22)) (by omega) (by exact hoa) (by exact fun _ _ _ => rfl) (by omega) (by omega) (by omega) (by (have e : (fun o => zFold (fun p q => zParts (zNote (sK σ Ga) (sF σ Ga) Wb na ra o) (na - (h + 1)).toNat (h + 1) (lf - p) (upI Pa h p) q) (zLst (na - 1 - h) lf) (Q o) ((q_22) - zLst (na - 1 - h) lf).toNat) = Q := funext (fun o => zFold_0 _ _ (by omega))); rw [e]; exact hQ) (σ.1) _ _ hp13 h15 hqa0 hqa1 hqa2 h14 h16 hfr hP hD hS ls (lv_sub hl [0, 1, 2, 3, 4, 5] rfl)
  · refine lv_iload_n hx hb dX5_part_11 rfl (lv_at hl 2 rfl) ?_
    refine x_if_ne (tgt := 26) hx hb (by omega) dX5_part_12 (by decide) (fun c_12 => ?_) (fun c_12 => ?_)
    · refine x_retQv hx hb hr ?_ hP hD hS dX5_part_26 hlocks
      refine ⟨rfl, hfr, _, _, _, _, _, _, hp13, hqa2, h14, hoa, fun _ _ _ => rfl, ?_⟩
      have e : (fun o => zParts (zNote (sK σ Ga) (sF σ Ga) Wb na ra o) (na - h).toNat h lf Pa (Q o)) = Q := funext (fun o => by (rw [zParts_end _ _ _ _ (by omega), if_neg (by omega)]))
      rw [e]; exact hQ
    · have hna : h = na := by omega
      have hlz : zAll (sK σ Ga) (sF σ Ga) Pa na ra = 0 ↔ (ra = 1 ∧ 3 ≤ na → zBt (Su (na - 1) (Pa (na - 1))) (Pa (0))) := by (rw [zAll_leaf hok1a hP99 (by rw [← hna]; exact hpth.2.2)]; refine imp_congr_right (fun hc => ?_); have e0 : zBehind na ra (na - 1) = 0 := (by (unfold zBehind; rw [if_neg (by omega), if_pos hc])); have z := hsu (na - 1) (by omega) (by omega) (by rw [e0]; omega) (Pa (na - 1)) (Pa 0) (hpth.1 (na - 1) (by omega) (by omega)).1 (hpth.1 0 (by omega) (by omega)).1 (by have z2 := hpth.2.1 (na - 1) 0 (by omega) (by omega) (by omega) (by omega) (by omega); omega); rw [e0] at z; exact z.symm)
      refine lv_aload_n hx hb dX5_part_15 rfl (lv_at hl 0 rfl) ?_
      refine x_ci (va_runV (As := []) (rest := []) ⟨hx, hb, hml, hown, hts⟩ (c_X5_isClosedWell l g σ (wy) (un) (hd9) (mv) hp13 (na) (ra) Pa Ga ⟨hqa0, hqa1, hqa2⟩ hoa hH Su h16 hsr hSr hn6 (fun i a b => by have z1 := hpth.1 i a (by omega); omega)) (cwV 0 hts gX5_part_X5_isClosedWell rfl rfl rfl (by decide +kernel) ⟨Nat.le_of_ble_eq_true rfl, Nat.le_of_ble_eq_true rfl⟩) (x_preV hK hP (x_recv hK hP (i := 13) (by decide) hp13 rfl)) rfl rfl hl.1 rfl (lv_room (Nat.le_of_ble_eq_true rfl)) dX5_part_16 ⟨Nat.le_of_ble_eq_true rfl, Nat.le_of_ble_eq_true rfl⟩) (fun r_16 hr_16 qr_16 => ?_)
      replace qr_16 : (r_16 = 1 ∧ (ra = 1 ∧ 3 ≤ na → zBt (Su (na - 1) (Pa (na - 1))) (Pa (0)))) ∨ (r_16 = 0 ∧ (ra = 1 ∧ 3 ≤ na) ∧ ¬ zBt (Su (na - 1) (Pa (na - 1))) (Pa (0))) := qr_16
      refine x_if_eq (tgt := 26) hx hb (by omega) dX5_part_19 (by decide) (fun c_19 => ?_) (fun c_19 => ?_)
      · have hnz : ¬ zAll (sK σ Ga) (sF σ Ga) Pa na ra = 0 := by (rw [hlz]; rcases qr_16 with q | q; omega; exact fun q2 => q.2.2 (q2 q.2.1))
        refine x_retQv hx hb hr ?_ hP hD hS dX5_part_26 hlocks
        refine ⟨rfl, hfr, _, _, _, _, _, _, hp13, hqa2, h14, hoa, fun _ _ _ => rfl, ?_⟩
        have e : (fun o => zParts (zNote (sK σ Ga) (sF σ Ga) Wb na ra o) (na - h).toNat h lf Pa (Q o)) = Q := funext (fun o => by (rw [zParts_end _ _ _ _ (by omega), if_pos (by omega)]; unfold zNote; rw [if_pos hnz]))
        rw [e]; exact hQ
      · have hz0 : zAll (sK σ Ga) (sF σ Ga) Pa na ra = 0 := by (rw [hlz]; rcases qr_16 with q | q; exact q.2; omega)
        have hzb := zB_pos (na - h).toNat
        have hzb1 : zB (na - h).toNat = 1 := by (rw [show (na - h).toNat = 0 by omega]; rfl)
        refine lv_aload_n hx hb dX5_part_22 rfl (lv_at hl 0 rfl) ?_
        refine x_cqv0 (va_runV (As := []) (rest := []) ⟨hx, hb, hml, hown, hts⟩ (c_X5_note l g σ A (wy) (un) (hd9) (mv) hp13 (na) (ra) Pa Ga ⟨hqa0, hqa1, hqa2⟩ hoa hH Wb h15 hWb hn6 Rc h14 Q hQ (by omega) hz0) (cwV 0 hts gX5_part_X5_note rfl rfl rfl (by decide +kernel) ⟨Nat.le_of_ble_eq_true rfl, Nat.le_of_ble_eq_true rfl⟩) (x_preVQ hK hP hD hS hA (x_recv hK hP (i := 13) (by decide) hp13 rfl)) rfl rfl hl.1 rfl (lv_room (Nat.le_of_ble_eq_true rfl)) dX5_part_23 ⟨by decide, by decide⟩) hS (fun σ1 H locs hpost hP hD hS => ?_)
        obtain ⟨M_43, p1⟩ := σ1
        obtain ⟨hp0, hfrc, wn_44, un_45, hn_46, mn_47, Rn_48, hn13, hn14, hnQ⟩ := hpost
        obtain rfl : p1 = σ.2 := hp0
        have hP : xP g (M_43, σ.2) H := hP
        have hD : xD g A (M_43, σ.2) := hD
        have h15 := (hfrc (15) (by omega)).trans h15
        have hqa0 := (hfrc (10) (by omega)).trans hqa0
        have hqa1 := (hfrc (11) (by omega)).trans hqa1
        have hqa2 := (hfrc (12) (by omega)).trans hqa2
        have h16 := (hfrc (16) (by omega)).trans h16
        have hfr := x_frc (F := fun j => j ≠ 12 ∧ j ≠ 13 ∧ j ≠ 14) hfr hfrc (fun j h => by have h : j ≠ 12 ∧ j ≠ 13 ∧ j ≠ 14 := h; omega)
        have hp13 : PObj g M_43 wn_44 un_45 hn_46 mn_47 := hn13
        have h14 : MArr g M_43 14 6 Rn_48 := hn14
        replace hnQ : zRl na wn_44 un_45 hn_46 mn_47 Rn_48 (fun o => zNote (sK σ Ga) (sF σ Ga) Wb na ra o Pa (Q o)) := hnQ
        refine x_retQv hx hb hr ?_ hP hD hS dX5_part_26 hlocks
        refine ⟨rfl, hfr, _, _, _, _, _, _, hp13, hqa2, h14, hoa, fun _ _ _ => rfl, ?_⟩
        have e : (fun o => zParts (zNote (sK σ Ga) (sF σ Ga) Wb na ra o) (na - h).toNat h lf Pa (Q o)) = (fun o => zNote (sK σ Ga) (sF σ Ga) Wb na ra o Pa (Q o)) := funext (fun o => by (rw [zParts_end _ _ _ _ (by omega), if_pos (by omega)]))
        rw [e]; exact hnQ

set_option maxHeartbeats 4000000 in
set_option maxRecDepth 100000 in
theorem c_X5_part4 (l : Launch) (g : xG) (σ : xS) (A : Nat → Prop) (wy un hd9 mv : Int) (hp13 : PObj g σ.1 wy un hd9 mv) (na ra : Int) (Pa : Int → Int) (Ga : Int → Option Nat) (hsa9 : StAt g σ.1 10 na ra Pa Ga) (hoa : StOk σ na ra Pa Ga) (hH : HsOk σ) (Wb : Int → Int) (h15 : MArr g σ.1 15 6 Wb) (hWb : ∀ i, 0 ≤ i → i < na → 0 ≤ Wb i ∧ Wb i ≤ 9999) (hn6 : na ≤ 6) (Rc : Int → Int) (h14 : MArr g σ.1 14 6 Rc) (Su : Int → Int → Int) (h16 : MGrs g σ.1) (hsr : ∀ d, 0 ≤ d → d ≤ 5 → MArr g σ.1 (17 + d.toNat) 21 (Su d)) (hSr : ∀ d k, inR (Su d k)) (c0 : Int) (hc0 : 0 ≤ c0 ∧ c0 ≤ 20) (hsu : zSuOk (sK σ Ga) (sF σ Ga) na ra c0 Su) (Q : Int → zAcc) (hQ : zRl na wy un hd9 mv Rc Q) (h : Int) (hh : 0 ≤ h ∧ h ≤ na ∧ na - h ≤ 4) (lf : Int) (hlf : 0 ≤ lf ∧ lf ≤ c0) (hwr : wy + zB (na - h).toNat ≤ 100000000) (hpth : zPth (sK σ Ga) (sF σ Ga) Pa c0 h lf) : Met l yX5_part wsX5_part ({ frames := 9, cells := 0, slots := 0, locals := 288 }) (va_Pc [.ref (g.2.2 13), .int (iI (h)), .int (iI (lf))] (xPreQ g A σ)) (x_Qv g A (fun σ1 => σ1.2 = σ.2 ∧ (∀ j, j ≠ 12 ∧ j ≠ 13 ∧ j ≠ 14 → σ1.1 j = σ.1 j) ∧ ∃ wy2 un2 hd2 mv2 T Rc2, PObj g σ1.1 wy2 un2 hd2 mv2 ∧ MArr g σ1.1 12 9 T ∧ MArr g σ1.1 14 6 Rc2 ∧ StOk σ na ra T Ga ∧ (∀ i, 0 ≤ i → i < h → T i = Pa i) ∧ zRl na wy2 un2 hd2 mv2 Rc2 (fun o => zParts (zNote (sK σ Ga) (sF σ Ga) Wb na ra o) (na - h).toNat h lf Pa (Q o)))) (0) (0) A := by
  refine Met.ofW (cc := cX5_part) (maxL := 6) (ret := none) (by decide) rfl ?_
  intro p e s m args below meth c s₁ B hml hv
  obtain ⟨rfl, hP, hK, hD, hA⟩ := hv
  have hx := B.exec
  have hb := B.bytes
  have hr := B.returns
  have hts := atoms_spec (ws := wsX5_part) B.pre
  have hown : s.vm.findClass RX5 = some m.cls := findClass_of_methodNamed B.named
  have hlocks := B.notSynchronized
  have hS : va_S A s.heap s.heap [] := va_S.rf
  have hfr : ∀ j, (j ≠ 12 ∧ j ≠ 13 ∧ j ≠ 14) → σ.1 j = σ.1 j := fun _ _ => rfl
  have hl := lv_entry ([.ref (g.2.2 13), .int (iI (h)), .int (iI (lf))]) (n := 6) (Nat.le_of_ble_eq_true rfl)
  rw [lg_entry_eq]
  generalize (lg_sl ([.ref (g.2.2 13), .int (iI (h)), .int (iI (lf))]) ++ List.replicate (6 - (lg_sl ([.ref (g.2.2 13), .int (iI (h)), .int (iI (lf))])).length) Slot.unset).toArray = ls at hl ⊢
  have hl : lv_has ls 6 [(0, .ref (g.2.2 13)), (1, .int (iI (h))), (2, .int (iI (lf)))] := hl
  have hqa0 : σ.1 10 = .inr (7, [.ref (g.2.2 11), .ref (g.2.2 12), .int (iI na), .int (iI ra)]) := hsa9.1
  have hqa1 : MRef g σ.1 11 9 Ga := hsa9.2.1
  have hqa2 : MArr g σ.1 12 9 Pa := hsa9.2.2
  have hoa1 := hoa.1
  have hoa2 := hoa.2.1
  have hoa3 := hoa.2.2.1
  have hq1 := hQ.1
  have hok1a : 0 ≤ na := hoa.1
  have hP99 : ∀ i, 0 ≤ i → i < na → Pa i ≤ 9999 := fun i a b => (hoa.2.2.2.2.2 i a b).2.2
  have hw_0 := hts (.fieldLink RX5 18 "TwiceAsRich$Partings" "parted" "LTwiceAsRich$Street;") (by decide +kernel)
  have hin_X5 : ∀ w ∈ wsX50, w ∈ wsX5_part := by decide +kernel
  have hw_2 := hts (.fieldLink RX5 49 "TwiceAsRich$Street" "count" "I") (by decide +kernel)
  have hin_X7 : ∀ w ∈ wsX70, w ∈ wsX5_part := by decide +kernel
  have hw_4 := hts (.methodLink RX5 88 Lib.Math.max.name) (by decide +kernel)
  have hw_5 := hts (.static Lib.Math.max.name) (by decide +kernel)
  have hw_6 := hts (.initialized "java/lang/Math") (by decide +kernel)
  have hw_7 := hts (.code Lib.Math.max.name Lib.Math.max.code 2 (some .int)) (by decide +kernel)
  have hw_8 := hts (.fieldLink RX5 56 "TwiceAsRich$Street" "purses" "[I") (by decide +kernel)
  refine lv_iload_n hx hb dX5_part_0 rfl (lv_at hl 1 rfl) ?_
  refine lv_aload_n hx hb dX5_part_1 rfl (lv_at hl 0 rfl) ?_
  refine x_get (C := RX5) (T := TX5) (N := 8) hx hb hts hin_X5 hown hK hP (13) (by decide) hp13 rfl 5 (by decide) hw_0 (fun _ h9 => h9) rfl dX5_part_2 ?_
  refine x_get (C := RX7) (T := TX7) (N := 4) hx hb hts hin_X7 hown hK hP (10) (by decide) hqa0 rfl 2 (by decide) hw_2 (fun _ h9 => h9) rfl dX5_part_5 ?_
  refine x_icmp_lt (tgt := 27) hx hb (by omega) (by omega) dX5_part_8 (by decide) (fun c_8 => ?_) (fun c_8 => ?_)
  · refine lv_iload_n hx hb dX5_part_27 rfl (lv_at hl 2 rfl) ?_
    refine lv_aload_n hx hb dX5_part_28 rfl (lv_at hl 0 rfl) ?_
    refine x_get (C := RX5) (T := TX5) (N := 8) hx hb hts hin_X5 hown hK hP (13) (by decide) hp13 rfl 5 (by decide) hw_0 (fun _ h9 => h9) rfl dX5_part_29 ?_
    refine x_get (C := RX7) (T := TX7) (N := 4) hx hb hts hin_X7 hown hK hP (10) (by decide) hqa0 rfl 2 (by decide) hw_2 (fun _ h9 => h9) rfl dX5_part_32 ?_
    refine x_iconst hx hb dX5_part_35 ?_
    refine x_isub hx hb dX5_part_36 ?_
    refine lv_iload_n hx hb dX5_part_37 rfl (lv_at hl 1 rfl) ?_
    refine x_isub hx hb dX5_part_38 ?_
    refine x_isub hx hb dX5_part_39 ?_
    refine lv_istore_n (lv' := [(3, .int (iI (lf - ((na - 1) - h)))), (0, .ref (g.2.2 13)), (1, .int (iI (h))), (2, .int (iI (lf)))]) hx hb dX5_part_40 rfl hl (by decide) rfl (fun ls hl => ?_)
    refine lv_iload_n hx hb dX5_part_41 rfl (lv_at hl 2 rfl) ?_
    refine lv_aload_n hx hb dX5_part_42 rfl (lv_at hl 1 rfl) ?_
    refine x_get (C := RX5) (T := TX5) (N := 8) hx hb hts hin_X5 hown hK hP (13) (by decide) hp13 rfl 5 (by decide) hw_0 (fun _ h9 => h9) rfl dX5_part_43 ?_
    refine x_get (C := RX7) (T := TX7) (N := 4) hx hb hts hin_X7 hown hK hP (10) (by decide) hqa0 rfl 2 (by decide) hw_2 (fun _ h9 => h9) rfl dX5_part_46 ?_
    refine x_iconst hx hb dX5_part_49 ?_
    refine x_isub hx hb dX5_part_50 ?_
    refine x_icmp_ne (tgt := 58) hx hb (by omega) (by omega) dX5_part_51 (by decide) (fun c_51 => ?_) (fun c_51 => ?_)
    · refine x_iconst hx hb dX5_part_58 ?_
      refine lv_istore (lv' := [(4, .int (iI (1))), (3, .int (iI (lf - ((na - 1) - h)))), (0, .ref (g.2.2 13)), (1, .int (iI (h))), (2, .int (iI (lf)))]) hx hb dX5_part_59 hl (by decide) rfl (fun ls hl => ?_)
      refine x_iconst hx hb dX5_part_61 ?_
      refine lv_iload hx hb dX5_part_62 (lv_at hl 0 rfl) ?_
      refine x_max hx hb (hml.trans hl.1.symm) hown hw_4 hw_5 hw_6 hw_7 (Nat.le_of_ble_eq_true rfl) (Nat.le_of_ble_eq_true rfl) (Nat.le_of_ble_eq_true rfl) (Nat.le_of_ble_eq_true rfl) (by omega) (by omega) dX5_part_64 (fun q_1 hq_1 => ?_)
      have hls : zLst (na - 1 - h) lf = (q_1) := by (unfold zLst; split <;> omega)
      refine lv_istore (lv' := [(5, .int (iI (q_1))), (4, .int (iI (1))), (3, .int (iI (lf - ((na - 1) - h)))), (0, .ref (g.2.2 13)), (1, .int (iI (h))), (2, .int (iI (lf)))]) hx hb dX5_part_67 hl (by decide) rfl (fun ls hl => ?_)
      have hloop_69 : ∀ (k : Nat) (T : Int → Int) (wz : Int) (uz : Int) (hz : Int) (mz : Int) (Rz : Int → Int) (p9 : Int), ((40 : Int) - p9).toNat < k → (hTo : StOk σ na ra T Ga) → (hpr : ∀ i, 0 ≤ i → i < h → T i = Pa i) → (hp0 : zLst (na - 1 - h) lf ≤ p9) → (hp1 : p9 = zLst (na - 1 - h) lf ∨ p9 ≤ lf - (na - 1 - h) + 1) → (hp2 : 1 ≤ p9 ∧ p9 ≤ 21) → (hR : zRl na wz uz hz mz Rz (fun o => zFold (fun p q => zParts (zNote (sK σ Ga) (sF σ Ga) Wb na ra o) (na - (h + 1)).toNat (h + 1) (lf - p) (upI Pa h p) q) (zLst (na - 1 - h) lf) (Q o) (p9 - zLst (na - 1 - h) lf).toNat)) → ∀ (M : xM) (H : Heap) (locs : List Loc), (hp13 : M (13) = .inr (5, [.int (iI (wz)), .int (iI (uz)), .int (iI (hz)), .int (iI (mz)), .ref (g.2.2 14), .ref (g.2.2 10), .ref (g.2.2 15), .ref (g.2.2 16)])) → (h15 : M (15) = .inl (g.2.1 0, 6, .inl (fun k => iI (Wb (k : Int))))) → (hqa0 : M (10) = .inr (7, [.ref (g.2.2 11), .ref (g.2.2 12), .int (iI (na)), .int (iI (ra))])) → (hqa1 : M (11) = .inl (g.2.1 1, 9, .inr (.inr (.inr (.inr (fun k => Ga (k : Int))))))) → (hqa2 : M (12) = .inl (g.2.1 0, 9, .inl (fun k => iI (T (k : Int))))) → (h14 : M (14) = .inl (g.2.1 0, 6, .inl (fun k => iI (Rz (k : Int))))) → (h16 : M (16) = .inl (g.2.1 2, 6, .inr (.inr (.inr (.inr (fun k => xGs g (k : Int))))))) → (hfr : ∀ j, (j ≠ 12 ∧ j ≠ 13 ∧ j ≠ 14) → M j = σ.1 j) → xP g (M, σ.2) H → xD g A (M, σ.2) → va_S A s.heap H locs → ∀ (ls : Array Slot), lv_has ls 6 [(5, .int (iI (p9))), (4, .int (iI (1))), (3, .int (iI (lf - ((na - 1) - h)))), (0, .ref (g.2.2 13)), (1, .int (iI (h))), (2, .int (iI (lf)))] → W p l e (headSpec wsX5_part ({ frames := 9, cells := 0, slots := 0, locals := 288 })).room s m ([.ref (g.2.2 13), .int (iI (h)), .int (iI (lf))] : List Value).toArray below meth c H locs 0 0 (MQ below (x_Qv g A (fun σ1 => σ1.2 = σ.2 ∧ (∀ j, j ≠ 12 ∧ j ≠ 13 ∧ j ≠ 14 → σ1.1 j = σ.1 j) ∧ ∃ wy2 un2 hd2 mv2 T Rc2, PObj g σ1.1 wy2 un2 hd2 mv2 ∧ MArr g σ1.1 12 9 T ∧ MArr g σ1.1 14 6 Rc2 ∧ StOk σ na ra T Ga ∧ (∀ i, 0 ≤ i → i < h → T i = Pa i) ∧ zRl na wy2 un2 hd2 mv2 Rc2 (fun o => zParts (zNote (sK σ Ga) (sF σ Ga) Wb na ra o) (na - h).toNat h lf Pa (Q o)))) ([.ref (g.2.2 13), .int (iI (h)), .int (iI (lf))] : List Value).toArray s (0) (0) A) (F0 m 69 ls []) := by
        intro k
        induction k with
        | zero =>
          intros; exact absurd (by assumption) (Nat.not_lt_zero _)
        | succ k ih =>
          intro T wz uz hz mz Rz p9 hmeas hTo hpr hp0 hp1 hp2 hR M H locs hp13 h15 hqa0 hqa1 hqa2 h14 h16 hfr hP hD hS ls hl
          have ih_2 := ih
          refine lv_iload hx hb dX5_part_69 (lv_at hl 0 rfl) ?_
          refine lv_iload_n hx hb dX5_part_71 rfl (lv_at hl 2 rfl) ?_
          refine x_icmp_gt (tgt := 118) hx hb (by omega) (by omega) dX5_part_72 (by decide) (fun c_72 => ?_) (fun c_72 => ?_)
          · refine x_retQv hx hb hr ?_ hP hD hS dX5_part_118 hlocks
            refine ⟨rfl, hfr, _, _, _, _, _, _, hp13, hqa2, h14, hTo, hpr, ?_⟩
            have e : (fun o => zParts (zNote (sK σ Ga) (sF σ Ga) Wb na ra o) (na - h).toNat h lf Pa (Q o)) = (fun o => zFold (fun p q => zParts (zNote (sK σ Ga) (sF σ Ga) Wb na ra o) (na - (h + 1)).toNat (h + 1) (lf - p) (upI Pa h p) q) (zLst (na - 1 - h) lf) (Q o) (p9 - zLst (na - 1 - h) lf).toNat) := funext (fun o => by (rw [zParts_step _ _ _ _ (by omega), show (lf - (na - 1 - h) + 1 - zLst (na - 1 - h) lf).toNat = (p9 - zLst (na - 1 - h) lf).toNat by omega]))
            rw [e]; exact hR
          · refine lv_aload_n hx hb dX5_part_75 rfl (lv_at hl 3 rfl) ?_
            refine x_get (C := RX5) (T := TX5) (N := 8) hx hb hts hin_X5 hown hK hP (13) (by decide) hp13 rfl 5 (by decide) hw_0 (fun _ h9 => h9) rfl dX5_part_76 ?_
            refine x_get (C := RX7) (T := TX7) (N := 4) hx hb hts hin_X7 hown hK hP (10) (by decide) hqa0 rfl 1 (by decide) hw_8 (fun _ h9 => h9) rfl dX5_part_79 ?_
            refine lv_iload_n hx hb dX5_part_82 rfl (lv_at hl 4 rfl) ?_
            refine lv_iload hx hb dX5_part_83 (lv_at hl 0 rfl) ?_
            refine x_iast (f := T) hx hb hK hP hD hS (12) (by decide) hqa2 (by omega) (by omega) (by decide) dX5_part_85 (fun M_3 H locs hnew hne hP hD hS => ?_)
            obtain ⟨f_4, hf_4⟩ : ∃ q : Int → Int, q = (upI T (h) (p9)) := ⟨_, rfl⟩
            rw [← hf_4] at hnew
            have hP : xP g (M_3, σ.2) H := hP
            have hD : xD g A (M_3, σ.2) := hD
            have hqa2 : M_3 (12) = .inl (g.2.1 0, 9, .inl (fun k => iI (f_4 (k : Int)))) := hnew
            have hp13 := (hne (13) (by decide)).trans hp13
            have h15 := (hne (15) (by decide)).trans h15
            have hqa0 := (hne (10) (by decide)).trans hqa0
            have hqa1 := (hne (11) (by decide)).trans hqa1
            have h14 := (hne (14) (by decide)).trans h14
            have h16 := (hne (16) (by decide)).trans h16
            have hfr := x_fr (F := fun j => j ≠ 12 ∧ j ≠ 13 ∧ j ≠ 14) hfr hne (fun j h => by have h : j ≠ 12 ∧ j ≠ 13 ∧ j ≠ 14 := h; omega)
            have ost_5 : StOk σ (na) (ra) f_4 Ga := by (rw [hf_4]; exact StOk_purse hTo (by omega))
            have hTf : ∀ i, f_4 i = upI T h p9 i := fun i => by (rw [hf_4])
            have hT9 : ∀ i, 0 ≤ i → i < h + 1 → upI Pa h p9 i = f_4 i := fun i a b => by (rw [hTf i]; unfold upI; split; (rfl); exact (hpr i a (by omega)).symm)
            have hpT := zPth_congr hpth hpr
            have hTh : f_4 h = p9 := by (rw [hTf, upI_s])
            have hTg : f_4 (h - 1) = Pa (h - 1) ∨ h = 0 := by (by_cases e9 : h = 0; (exact Or.inr e9); (left; rw [hTf, upI_n (by omega)]; exact hpr _ (by omega) (by omega)))
            have hb1 : h ≠ 0 → 1 ≤ Pa (h - 1) ∧ Pa (h - 1) + lf ≤ c0 := fun q => hpth.1 (h - 1) (by omega) (by omega)
            refine lv_iload_n hx hb dX5_part_86 rfl (lv_at hl 4 rfl) ?_
            refine x_if_eq (tgt := 101) hx hb (by omega) dX5_part_87 (by decide) (fun c_87 => ?_) (fun c_87 => ?_)
            · have hyP : h = 0 ∨ zPr (sK σ Ga) (sF σ Ga) (h - 1) h (T (h - 1)) p9 := by (left; omega)
              refine lv_aload_n hx hb dX5_part_101 rfl (lv_at hl 3 rfl) ?_
              refine lv_iload_n hx hb dX5_part_102 rfl (lv_at hl 4 rfl) ?_
              refine x_iconst hx hb dX5_part_103 ?_
              refine x_iadd hx hb dX5_part_104 ?_
              refine lv_iload_n hx hb dX5_part_105 rfl (lv_at hl 5 rfl) ?_
              refine lv_iload hx hb dX5_part_106 (lv_at hl 0 rfl) ?_
              refine x_isub hx hb dX5_part_108 ?_
              refine x_cqv0 (va_runV (As := [.int (iI (h + 1)), .int (iI (lf - p9))]) (rest := []) ⟨hx, hb, hml, hown, hts⟩ (c_X5_part3 l g (M_3, σ.2) A (wz) (uz) (hz) (mz) hp13 (na) (ra) f_4 Ga ⟨hqa0, hqa1, hqa2⟩ ost_5 hH Wb h15 hWb hn6 Rz h14 Su h16 (fun d a b => (hfr _ (by omega)).trans (hsr d a b)) hSr c0 hc0 hsu (fun o => zFold (fun p q => zParts (zNote (sK σ Ga) (sF σ Ga) Wb na ra o) (na - (h + 1)).toNat (h + 1) (lf - p) (upI Pa h p) q) (zLst (na - 1 - h) lf) (Q o) (p9 - zLst (na - 1 - h) lf).toNat) hR (h + 1) (by omega) (lf - p9) (by omega) (zPart_room (zNote_ways (sK σ Ga) (sF σ Ga) Wb na ra 0) hh.1 (by omega) (by omega) hp0 (by omega) (hQ.2.2.2.2.2 0).1 (hR.2.2.2.2.2 0).1 hwr) (by rw [hf_4]; exact zPth_go hpT hh.1 (by omega) (by omega) (by omega) hyP)) (cwV 2 hts gX5_part_X5_part rfl rfl rfl (by decide +kernel) ⟨Nat.le_of_ble_eq_true rfl, Nat.le_of_ble_eq_true rfl⟩) (x_preVQ hK hP hD hS hA (x_recv hK hP (i := 13) (by decide) hp13 rfl)) rfl rfl hl.1 rfl (lv_room (Nat.le_of_ble_eq_true rfl)) dX5_part_109 ⟨by decide, by decide⟩) hS (fun σ1 H locs hpost hP hD hS => ?_)
              obtain ⟨M_6, p1⟩ := σ1
              obtain ⟨hp0, hfrc, wn_7, un_8, hn_9, mn_10, T_12, Rn_11, hn13, hn12, hn14, ost_13, hnT, hnQ⟩ := hpost
              obtain rfl : p1 = σ.2 := hp0
              have hP : xP g (M_6, σ.2) H := hP
              have hD : xD g A (M_6, σ.2) := hD
              have h15 := (hfrc (15) (by omega)).trans h15
              have hqa0 := (hfrc (10) (by omega)).trans hqa0
              have hqa1 := (hfrc (11) (by omega)).trans hqa1
              have h16 := (hfrc (16) (by omega)).trans h16
              have hfr := x_frc (F := fun j => j ≠ 12 ∧ j ≠ 13 ∧ j ≠ 14) hfr hfrc (fun j h => by have h : j ≠ 12 ∧ j ≠ 13 ∧ j ≠ 14 := h; omega)
              have hp13 : PObj g M_6 wn_7 un_8 hn_9 mn_10 := hn13
              have h14 : MArr g M_6 14 6 Rn_11 := hn14
              have hqa2 : MArr g M_6 12 9 T_12 := hn12
              replace hnQ : zRl na wn_7 un_8 hn_9 mn_10 Rn_11 (fun o => zParts (zNote (sK σ Ga) (sF σ Ga) Wb na ra o) (na - (h + 1)).toNat (h + 1) (lf - p9) f_4 ((fun o => zFold (fun p q => zParts (zNote (sK σ Ga) (sF σ Ga) Wb na ra o) (na - (h + 1)).toNat (h + 1) (lf - p) (upI Pa h p) q) (zLst (na - 1 - h) lf) (Q o) (p9 - zLst (na - 1 - h) lf).toNat) o)) := hnQ
              refine x_iinc (k0 := 0) (lv' := [(5, .int (iI (p9 + 1))), (4, .int (iI (1))), (3, .int (iI (lf - ((na - 1) - h)))), (0, .ref (g.2.2 13)), (1, .int (iI (h))), (2, .int (iI (lf)))]) hx hb dX5_part_112 hl rfl (by decide) rfl (fun ls hl => ?_)
              refine lv_goto (tgt := 69) hx hb dX5_part_115 (by decide) ?_
              exact ih_2 (T_12) (wn_7) (un_8) (hn_9) (mn_10) (Rn_11) (p9 + 1) (by omega) (by exact ost_13) (by (intro i a b; rw [hnT i a (by omega), hTf i, upI_n (by omega)]; exact hpr i a b)) (by omega) (by omega) (by omega) (by (have e : (fun o => zFold (fun p q => zParts (zNote (sK σ Ga) (sF σ Ga) Wb na ra o) (na - (h + 1)).toNat (h + 1) (lf - p) (upI Pa h p) q) (zLst (na - 1 - h) lf) (Q o) ((p9 + 1) - zLst (na - 1 - h) lf).toNat) = (fun o => zParts (zNote (sK σ Ga) (sF σ Ga) Wb na ra o) (na - (h + 1)).toNat (h + 1) (lf - p9) f_4 ((fun o => zFold (fun p q => zParts (zNote (sK σ Ga) (sF σ Ga) Wb na ra o) (na - (h + 1)).toNat (h + 1) (lf - p) (upI Pa h p) q) (zLst (na - 1 - h) lf) (Q o) (p9 - zLst (na - 1 - h) lf).toNat) o)) := funext (fun o => by (rw [zFold_succ _ _ hp0]; exact zParts_congr (zNote_local (fun _ _ _ => rfl)) _ _ _ _ _ _ (by omega) hT9))); rw [e]; exact hnQ) (M_6) _ _ hp13 h15 hqa0 hqa1 hqa2 h14 h16 hfr hP hD hS ls (lv_sub hl [0, 1, 2, 3, 4, 5] rfl)
            · refine lv_aload_n hx hb dX5_part_90 rfl (lv_at hl 3 rfl) ?_
              refine lv_iload_n hx hb dX5_part_91 rfl (lv_at hl 4 rfl) ?_
              refine x_iconst hx hb dX5_part_92 ?_
              refine x_isub hx hb dX5_part_93 ?_
              refine lv_iload_n hx hb dX5_part_94 rfl (lv_at hl 4 rfl) ?_
              refine x_ci (va_runV (As := [.int (iI (h - 1)), .int (iI (h))]) (rest := []) ⟨hx, hb, hml, hown, hts⟩ (c_X5_suit l g (M_3, σ.2) (wz) (uz) (hz) (mz) hp13 (na) (ra) f_4 Ga ⟨hqa0, hqa1, hqa2⟩ ost_5 hH (17 + (h - 1).toNat) h16 (h - 1) (by omega) (h) (by omega) rfl (Su (h - 1)) ((hfr _ (by omega)).trans (hsr (h - 1) (by omega) (by omega))) (fun k => hSr _ k) (by omega)) (cwV 2 hts gX5_part_X5_suit rfl rfl rfl (by decide +kernel) ⟨Nat.le_of_ble_eq_true rfl, Nat.le_of_ble_eq_true rfl⟩) (x_preV hK hP (x_recv hK hP (i := 13) (by decide) hp13 rfl)) rfl rfl hl.1 rfl (lv_room (Nat.le_of_ble_eq_true rfl)) dX5_part_95 ⟨Nat.le_of_ble_eq_true rfl, Nat.le_of_ble_eq_true rfl⟩) (fun r_95 hr_95 qr_95 => ?_)
              replace qr_95 : (r_95 = 1 ∧ zBt (Su (h - 1) (f_4 (h - 1))) (f_4 (h))) ∨ (r_95 = 0 ∧ ¬ zBt (Su (h - 1) (f_4 (h - 1))) (f_4 (h))) := qr_95
              have hTg : f_4 (h - 1) = Pa (h - 1) := by omega
              have hsz : zBt (Su (h - 1) (Pa (h - 1))) p9 ↔ zPr (sK σ Ga) (sF σ Ga) (h - 1) h (Pa (h - 1)) p9 := by (have e0 : zBehind na ra (h - 1) = h := (by (unfold zBehind; rw [if_pos (by omega)]; omega)); have z := hsu (h - 1) (by omega) (by omega) (by rw [e0]; omega) (Pa (h - 1)) p9 (by omega) (by omega) (by omega); rw [e0] at z; exact z)
              rw [hTg, hTh] at qr_95
              refine x_if_eq (tgt := 112) hx hb (by omega) dX5_part_98 (by decide) (fun c_98 => ?_) (fun c_98 => ?_)
              · have hnP : ¬ zPr (sK σ Ga) (sF σ Ga) (h - 1) h (Pa (h - 1)) p9 := by (rw [← hsz]; rcases qr_95 with q | q; omega; exact q.2)
                refine x_iinc (k0 := 0) (lv' := [(5, .int (iI (p9 + 1))), (4, .int (iI (1))), (3, .int (iI (lf - ((na - 1) - h)))), (0, .ref (g.2.2 13)), (1, .int (iI (h))), (2, .int (iI (lf)))]) hx hb dX5_part_112 hl rfl (by decide) rfl (fun ls hl => ?_)
                refine lv_goto (tgt := 69) hx hb dX5_part_115 (by decide) ?_
                exact ih_2 (f_4) (wz) (uz) (hz) (mz) (Rz) (p9 + 1) (by omega) (by exact ost_5) (by (intro i a b; rw [hTf i, upI_n (by omega)]; exact hpr i a b)) (by omega) (by omega) (by omega) (by (have e : (fun o => zFold (fun p q => zParts (zNote (sK σ Ga) (sF σ Ga) Wb na ra o) (na - (h + 1)).toNat (h + 1) (lf - p) (upI Pa h p) q) (zLst (na - 1 - h) lf) (Q o) ((p9 + 1) - zLst (na - 1 - h) lf).toNat) = (fun o => zFold (fun p q => zParts (zNote (sK σ Ga) (sF σ Ga) Wb na ra o) (na - (h + 1)).toNat (h + 1) (lf - p) (upI Pa h p) q) (zLst (na - 1 - h) lf) (Q o) (p9 - zLst (na - 1 - h) lf).toNat) := funext (fun o => by (rw [zFold_succ _ _ hp0]; exact zParts_bad2 _ (by omega) (by omega) (by rw [upI_n (by omega), upI_s]; exact hnP)))); rw [e]; exact hR) (M_3) _ _ hp13 h15 hqa0 hqa1 hqa2 h14 h16 hfr hP hD hS ls (lv_sub hl [0, 1, 2, 3, 4, 5] rfl)
              · have hyP : h = 0 ∨ zPr (sK σ Ga) (sF σ Ga) (h - 1) h (T (h - 1)) p9 := by (right; rw [hpr (h - 1) (by omega) (by omega), ← hsz]; rcases qr_95 with q | q; exact q.2; omega)
                refine lv_aload_n hx hb dX5_part_101 rfl (lv_at hl 3 rfl) ?_
                refine lv_iload_n hx hb dX5_part_102 rfl (lv_at hl 4 rfl) ?_
                refine x_iconst hx hb dX5_part_103 ?_
                refine x_iadd hx hb dX5_part_104 ?_
                refine lv_iload_n hx hb dX5_part_105 rfl (lv_at hl 5 rfl) ?_
                refine lv_iload hx hb dX5_part_106 (lv_at hl 0 rfl) ?_
                refine x_isub hx hb dX5_part_108 ?_
                refine x_cqv0 (va_runV (As := [.int (iI (h + 1)), .int (iI (lf - p9))]) (rest := []) ⟨hx, hb, hml, hown, hts⟩ (c_X5_part3 l g (M_3, σ.2) A (wz) (uz) (hz) (mz) hp13 (na) (ra) f_4 Ga ⟨hqa0, hqa1, hqa2⟩ ost_5 hH Wb h15 hWb hn6 Rz h14 Su h16 (fun d a b => (hfr _ (by omega)).trans (hsr d a b)) hSr c0 hc0 hsu (fun o => zFold (fun p q => zParts (zNote (sK σ Ga) (sF σ Ga) Wb na ra o) (na - (h + 1)).toNat (h + 1) (lf - p) (upI Pa h p) q) (zLst (na - 1 - h) lf) (Q o) (p9 - zLst (na - 1 - h) lf).toNat) hR (h + 1) (by omega) (lf - p9) (by omega) (zPart_room (zNote_ways (sK σ Ga) (sF σ Ga) Wb na ra 0) hh.1 (by omega) (by omega) hp0 (by omega) (hQ.2.2.2.2.2 0).1 (hR.2.2.2.2.2 0).1 hwr) (by rw [hf_4]; exact zPth_go hpT hh.1 (by omega) (by omega) (by omega) hyP)) (cwV 2 hts gX5_part_X5_part rfl rfl rfl (by decide +kernel) ⟨Nat.le_of_ble_eq_true rfl, Nat.le_of_ble_eq_true rfl⟩) (x_preVQ hK hP hD hS hA (x_recv hK hP (i := 13) (by decide) hp13 rfl)) rfl rfl hl.1 rfl (lv_room (Nat.le_of_ble_eq_true rfl)) dX5_part_109 ⟨by decide, by decide⟩) hS (fun σ1 H locs hpost hP hD hS => ?_)
                obtain ⟨M_14, p1⟩ := σ1
                obtain ⟨hp0, hfrc, wn_15, un_16, hn_17, mn_18, T_20, Rn_19, hn13, hn12, hn14, ost_21, hnT, hnQ⟩ := hpost
                obtain rfl : p1 = σ.2 := hp0
                have hP : xP g (M_14, σ.2) H := hP
                have hD : xD g A (M_14, σ.2) := hD
                have h15 := (hfrc (15) (by omega)).trans h15
                have hqa0 := (hfrc (10) (by omega)).trans hqa0
                have hqa1 := (hfrc (11) (by omega)).trans hqa1
                have h16 := (hfrc (16) (by omega)).trans h16
                have hfr := x_frc (F := fun j => j ≠ 12 ∧ j ≠ 13 ∧ j ≠ 14) hfr hfrc (fun j h => by have h : j ≠ 12 ∧ j ≠ 13 ∧ j ≠ 14 := h; omega)
                have hp13 : PObj g M_14 wn_15 un_16 hn_17 mn_18 := hn13
                have h14 : MArr g M_14 14 6 Rn_19 := hn14
                have hqa2 : MArr g M_14 12 9 T_20 := hn12
                replace hnQ : zRl na wn_15 un_16 hn_17 mn_18 Rn_19 (fun o => zParts (zNote (sK σ Ga) (sF σ Ga) Wb na ra o) (na - (h + 1)).toNat (h + 1) (lf - p9) f_4 ((fun o => zFold (fun p q => zParts (zNote (sK σ Ga) (sF σ Ga) Wb na ra o) (na - (h + 1)).toNat (h + 1) (lf - p) (upI Pa h p) q) (zLst (na - 1 - h) lf) (Q o) (p9 - zLst (na - 1 - h) lf).toNat) o)) := hnQ
                refine x_iinc (k0 := 0) (lv' := [(5, .int (iI (p9 + 1))), (4, .int (iI (1))), (3, .int (iI (lf - ((na - 1) - h)))), (0, .ref (g.2.2 13)), (1, .int (iI (h))), (2, .int (iI (lf)))]) hx hb dX5_part_112 hl rfl (by decide) rfl (fun ls hl => ?_)
                refine lv_goto (tgt := 69) hx hb dX5_part_115 (by decide) ?_
                exact ih_2 (T_20) (wn_15) (un_16) (hn_17) (mn_18) (Rn_19) (p9 + 1) (by omega) (by exact ost_21) (by (intro i a b; rw [hnT i a (by omega), hTf i, upI_n (by omega)]; exact hpr i a b)) (by omega) (by omega) (by omega) (by (have e : (fun o => zFold (fun p q => zParts (zNote (sK σ Ga) (sF σ Ga) Wb na ra o) (na - (h + 1)).toNat (h + 1) (lf - p) (upI Pa h p) q) (zLst (na - 1 - h) lf) (Q o) ((p9 + 1) - zLst (na - 1 - h) lf).toNat) = (fun o => zParts (zNote (sK σ Ga) (sF σ Ga) Wb na ra o) (na - (h + 1)).toNat (h + 1) (lf - p9) f_4 ((fun o => zFold (fun p q => zParts (zNote (sK σ Ga) (sF σ Ga) Wb na ra o) (na - (h + 1)).toNat (h + 1) (lf - p) (upI Pa h p) q) (zLst (na - 1 - h) lf) (Q o) (p9 - zLst (na - 1 - h) lf).toNat) o)) := funext (fun o => by (rw [zFold_succ _ _ hp0]; exact zParts_congr (zNote_local (fun _ _ _ => rfl)) _ _ _ _ _ _ (by omega) hT9))); rw [e]; exact hnQ) (M_14) _ _ hp13 h15 hqa0 hqa1 hqa2 h14 h16 hfr hP hD hS ls (lv_sub hl [0, 1, 2, 3, 4, 5] rfl)
      exact hloop_69 ((((40 : Int) - ((q_1))).toNat) + 1) (Pa) (wy) (un) (hd9) (mv) (Rc) ((q_1)) (by omega) (by exact hoa) (by exact fun _ _ _ => rfl) (by omega) (by omega) (by omega) (by (have e : (fun o => zFold (fun p q => zParts (zNote (sK σ Ga) (sF σ Ga) Wb na ra o) (na - (h + 1)).toNat (h + 1) (lf - p) (upI Pa h p) q) (zLst (na - 1 - h) lf) (Q o) ((q_1) - zLst (na - 1 - h) lf).toNat) = Q := funext (fun o => zFold_0 _ _ (by omega))); rw [e]; exact hQ) (σ.1) _ _ hp13 h15 hqa0 hqa1 hqa2 h14 h16 hfr hP hD hS ls (lv_sub hl [0, 1, 2, 3, 4, 5] rfl)
    · refine lv_iload_n hx hb dX5_part_54 rfl (lv_at hl 3 rfl) ?_
      refine lv_goto (tgt := 59) hx hb dX5_part_55 (by decide) ?_
      refine lv_istore (lv' := [(4, .int (iI (lf))), (3, .int (iI (lf - ((na - 1) - h)))), (0, .ref (g.2.2 13)), (1, .int (iI (h))), (2, .int (iI (lf)))]) hx hb dX5_part_59 hl (by decide) rfl (fun ls hl => ?_)
      refine x_iconst hx hb dX5_part_61 ?_
      refine lv_iload hx hb dX5_part_62 (lv_at hl 0 rfl) ?_
      refine x_max hx hb (hml.trans hl.1.symm) hown hw_4 hw_5 hw_6 hw_7 (Nat.le_of_ble_eq_true rfl) (Nat.le_of_ble_eq_true rfl) (Nat.le_of_ble_eq_true rfl) (Nat.le_of_ble_eq_true rfl) (by omega) (by omega) dX5_part_64 (fun q_22 hq_22 => ?_)
      have hls : zLst (na - 1 - h) lf = (q_22) := by (unfold zLst; split <;> omega)
      refine lv_istore (lv' := [(5, .int (iI (q_22))), (4, .int (iI (lf))), (3, .int (iI (lf - ((na - 1) - h)))), (0, .ref (g.2.2 13)), (1, .int (iI (h))), (2, .int (iI (lf)))]) hx hb dX5_part_67 hl (by decide) rfl (fun ls hl => ?_)
      have hloop_69 : ∀ (k : Nat) (T : Int → Int) (wz : Int) (uz : Int) (hz : Int) (mz : Int) (Rz : Int → Int) (p9 : Int), ((40 : Int) - p9).toNat < k → (hTo : StOk σ na ra T Ga) → (hpr : ∀ i, 0 ≤ i → i < h → T i = Pa i) → (hp0 : zLst (na - 1 - h) lf ≤ p9) → (hp1 : p9 = zLst (na - 1 - h) lf ∨ p9 ≤ lf - (na - 1 - h) + 1) → (hp2 : 1 ≤ p9 ∧ p9 ≤ 21) → (hR : zRl na wz uz hz mz Rz (fun o => zFold (fun p q => zParts (zNote (sK σ Ga) (sF σ Ga) Wb na ra o) (na - (h + 1)).toNat (h + 1) (lf - p) (upI Pa h p) q) (zLst (na - 1 - h) lf) (Q o) (p9 - zLst (na - 1 - h) lf).toNat)) → ∀ (M : xM) (H : Heap) (locs : List Loc), (hp13 : M (13) = .inr (5, [.int (iI (wz)), .int (iI (uz)), .int (iI (hz)), .int (iI (mz)), .ref (g.2.2 14), .ref (g.2.2 10), .ref (g.2.2 15), .ref (g.2.2 16)])) → (h15 : M (15) = .inl (g.2.1 0, 6, .inl (fun k => iI (Wb (k : Int))))) → (hqa0 : M (10) = .inr (7, [.ref (g.2.2 11), .ref (g.2.2 12), .int (iI (na)), .int (iI (ra))])) → (hqa1 : M (11) = .inl (g.2.1 1, 9, .inr (.inr (.inr (.inr (fun k => Ga (k : Int))))))) → (hqa2 : M (12) = .inl (g.2.1 0, 9, .inl (fun k => iI (T (k : Int))))) → (h14 : M (14) = .inl (g.2.1 0, 6, .inl (fun k => iI (Rz (k : Int))))) → (h16 : M (16) = .inl (g.2.1 2, 6, .inr (.inr (.inr (.inr (fun k => xGs g (k : Int))))))) → (hfr : ∀ j, (j ≠ 12 ∧ j ≠ 13 ∧ j ≠ 14) → M j = σ.1 j) → xP g (M, σ.2) H → xD g A (M, σ.2) → va_S A s.heap H locs → ∀ (ls : Array Slot), lv_has ls 6 [(5, .int (iI (p9))), (4, .int (iI (lf))), (3, .int (iI (lf - ((na - 1) - h)))), (0, .ref (g.2.2 13)), (1, .int (iI (h))), (2, .int (iI (lf)))] → W p l e (headSpec wsX5_part ({ frames := 9, cells := 0, slots := 0, locals := 288 })).room s m ([.ref (g.2.2 13), .int (iI (h)), .int (iI (lf))] : List Value).toArray below meth c H locs 0 0 (MQ below (x_Qv g A (fun σ1 => σ1.2 = σ.2 ∧ (∀ j, j ≠ 12 ∧ j ≠ 13 ∧ j ≠ 14 → σ1.1 j = σ.1 j) ∧ ∃ wy2 un2 hd2 mv2 T Rc2, PObj g σ1.1 wy2 un2 hd2 mv2 ∧ MArr g σ1.1 12 9 T ∧ MArr g σ1.1 14 6 Rc2 ∧ StOk σ na ra T Ga ∧ (∀ i, 0 ≤ i → i < h → T i = Pa i) ∧ zRl na wy2 un2 hd2 mv2 Rc2 (fun o => zParts (zNote (sK σ Ga) (sF σ Ga) Wb na ra o) (na - h).toNat h lf Pa (Q o)))) ([.ref (g.2.2 13), .int (iI (h)), .int (iI (lf))] : List Value).toArray s (0) (0) A) (F0 m 69 ls []) := by
        intro k
        induction k with
        | zero =>
          intros; exact absurd (by assumption) (Nat.not_lt_zero _)
        | succ k ih =>
          intro T wz uz hz mz Rz p9 hmeas hTo hpr hp0 hp1 hp2 hR M H locs hp13 h15 hqa0 hqa1 hqa2 h14 h16 hfr hP hD hS ls hl
          have ih_23 := ih
          refine lv_iload hx hb dX5_part_69 (lv_at hl 0 rfl) ?_
          refine lv_iload_n hx hb dX5_part_71 rfl (lv_at hl 2 rfl) ?_
          refine x_icmp_gt (tgt := 118) hx hb (by omega) (by omega) dX5_part_72 (by decide) (fun c_72 => ?_) (fun c_72 => ?_)
          · refine x_retQv hx hb hr ?_ hP hD hS dX5_part_118 hlocks
            refine ⟨rfl, hfr, _, _, _, _, _, _, hp13, hqa2, h14, hTo, hpr, ?_⟩
            have e : (fun o => zParts (zNote (sK σ Ga) (sF σ Ga) Wb na ra o) (na - h).toNat h lf Pa (Q o)) = (fun o => zFold (fun p q => zParts (zNote (sK σ Ga) (sF σ Ga) Wb na ra o) (na - (h + 1)).toNat (h + 1) (lf - p) (upI Pa h p) q) (zLst (na - 1 - h) lf) (Q o) (p9 - zLst (na - 1 - h) lf).toNat) := funext (fun o => by (rw [zParts_step _ _ _ _ (by omega), show (lf - (na - 1 - h) + 1 - zLst (na - 1 - h) lf).toNat = (p9 - zLst (na - 1 - h) lf).toNat by omega]))
            rw [e]; exact hR
          · refine lv_aload_n hx hb dX5_part_75 rfl (lv_at hl 3 rfl) ?_
            refine x_get (C := RX5) (T := TX5) (N := 8) hx hb hts hin_X5 hown hK hP (13) (by decide) hp13 rfl 5 (by decide) hw_0 (fun _ h9 => h9) rfl dX5_part_76 ?_
            refine x_get (C := RX7) (T := TX7) (N := 4) hx hb hts hin_X7 hown hK hP (10) (by decide) hqa0 rfl 1 (by decide) hw_8 (fun _ h9 => h9) rfl dX5_part_79 ?_
            refine lv_iload_n hx hb dX5_part_82 rfl (lv_at hl 4 rfl) ?_
            refine lv_iload hx hb dX5_part_83 (lv_at hl 0 rfl) ?_
            refine x_iast (f := T) hx hb hK hP hD hS (12) (by decide) hqa2 (by omega) (by omega) (by decide) dX5_part_85 (fun M_24 H locs hnew hne hP hD hS => ?_)
            obtain ⟨f_25, hf_25⟩ : ∃ q : Int → Int, q = (upI T (h) (p9)) := ⟨_, rfl⟩
            rw [← hf_25] at hnew
            have hP : xP g (M_24, σ.2) H := hP
            have hD : xD g A (M_24, σ.2) := hD
            have hqa2 : M_24 (12) = .inl (g.2.1 0, 9, .inl (fun k => iI (f_25 (k : Int)))) := hnew
            have hp13 := (hne (13) (by decide)).trans hp13
            have h15 := (hne (15) (by decide)).trans h15
            have hqa0 := (hne (10) (by decide)).trans hqa0
            have hqa1 := (hne (11) (by decide)).trans hqa1
            have h14 := (hne (14) (by decide)).trans h14
            have h16 := (hne (16) (by decide)).trans h16
            have hfr := x_fr (F := fun j => j ≠ 12 ∧ j ≠ 13 ∧ j ≠ 14) hfr hne (fun j h => by have h : j ≠ 12 ∧ j ≠ 13 ∧ j ≠ 14 := h; omega)
            have ost_26 : StOk σ (na) (ra) f_25 Ga := by (rw [hf_25]; exact StOk_purse hTo (by omega))
            have hTf : ∀ i, f_25 i = upI T h p9 i := fun i => by (rw [hf_25])
            have hT9 : ∀ i, 0 ≤ i → i < h + 1 → upI Pa h p9 i = f_25 i := fun i a b => by (rw [hTf i]; unfold upI; split; (rfl); exact (hpr i a (by omega)).symm)
            have hpT := zPth_congr hpth hpr
            have hTh : f_25 h = p9 := by (rw [hTf, upI_s])
            have hTg : f_25 (h - 1) = Pa (h - 1) ∨ h = 0 := by (by_cases e9 : h = 0; (exact Or.inr e9); (left; rw [hTf, upI_n (by omega)]; exact hpr _ (by omega) (by omega)))
            have hb1 : h ≠ 0 → 1 ≤ Pa (h - 1) ∧ Pa (h - 1) + lf ≤ c0 := fun q => hpth.1 (h - 1) (by omega) (by omega)
            refine lv_iload_n hx hb dX5_part_86 rfl (lv_at hl 4 rfl) ?_
            refine x_if_eq (tgt := 101) hx hb (by omega) dX5_part_87 (by decide) (fun c_87 => ?_) (fun c_87 => ?_)
            · have hyP : h = 0 ∨ zPr (sK σ Ga) (sF σ Ga) (h - 1) h (T (h - 1)) p9 := by (left; omega)
              refine lv_aload_n hx hb dX5_part_101 rfl (lv_at hl 3 rfl) ?_
              refine lv_iload_n hx hb dX5_part_102 rfl (lv_at hl 4 rfl) ?_
              refine x_iconst hx hb dX5_part_103 ?_
              refine x_iadd hx hb dX5_part_104 ?_
              refine lv_iload_n hx hb dX5_part_105 rfl (lv_at hl 5 rfl) ?_
              refine lv_iload hx hb dX5_part_106 (lv_at hl 0 rfl) ?_
              refine x_isub hx hb dX5_part_108 ?_
              refine x_cqv0 (va_runV (As := [.int (iI (h + 1)), .int (iI (lf - p9))]) (rest := []) ⟨hx, hb, hml, hown, hts⟩ (c_X5_part3 l g (M_24, σ.2) A (wz) (uz) (hz) (mz) hp13 (na) (ra) f_25 Ga ⟨hqa0, hqa1, hqa2⟩ ost_26 hH Wb h15 hWb hn6 Rz h14 Su h16 (fun d a b => (hfr _ (by omega)).trans (hsr d a b)) hSr c0 hc0 hsu (fun o => zFold (fun p q => zParts (zNote (sK σ Ga) (sF σ Ga) Wb na ra o) (na - (h + 1)).toNat (h + 1) (lf - p) (upI Pa h p) q) (zLst (na - 1 - h) lf) (Q o) (p9 - zLst (na - 1 - h) lf).toNat) hR (h + 1) (by omega) (lf - p9) (by omega) (zPart_room (zNote_ways (sK σ Ga) (sF σ Ga) Wb na ra 0) hh.1 (by omega) (by omega) hp0 (by omega) (hQ.2.2.2.2.2 0).1 (hR.2.2.2.2.2 0).1 hwr) (by rw [hf_25]; exact zPth_go hpT hh.1 (by omega) (by omega) (by omega) hyP)) (cwV 2 hts gX5_part_X5_part rfl rfl rfl (by decide +kernel) ⟨Nat.le_of_ble_eq_true rfl, Nat.le_of_ble_eq_true rfl⟩) (x_preVQ hK hP hD hS hA (x_recv hK hP (i := 13) (by decide) hp13 rfl)) rfl rfl hl.1 rfl (lv_room (Nat.le_of_ble_eq_true rfl)) dX5_part_109 ⟨by decide, by decide⟩) hS (fun σ1 H locs hpost hP hD hS => ?_)
              obtain ⟨M_27, p1⟩ := σ1
              obtain ⟨hp0, hfrc, wn_28, un_29, hn_30, mn_31, T_33, Rn_32, hn13, hn12, hn14, ost_34, hnT, hnQ⟩ := hpost
              obtain rfl : p1 = σ.2 := hp0
              have hP : xP g (M_27, σ.2) H := hP
              have hD : xD g A (M_27, σ.2) := hD
              have h15 := (hfrc (15) (by omega)).trans h15
              have hqa0 := (hfrc (10) (by omega)).trans hqa0
              have hqa1 := (hfrc (11) (by omega)).trans hqa1
              have h16 := (hfrc (16) (by omega)).trans h16
              have hfr := x_frc (F := fun j => j ≠ 12 ∧ j ≠ 13 ∧ j ≠ 14) hfr hfrc (fun j h => by have h : j ≠ 12 ∧ j ≠ 13 ∧ j ≠ 14 := h; omega)
              have hp13 : PObj g M_27 wn_28 un_29 hn_30 mn_31 := hn13
              have h14 : MArr g M_27 14 6 Rn_32 := hn14
              have hqa2 : MArr g M_27 12 9 T_33 := hn12
              replace hnQ : zRl na wn_28 un_29 hn_30 mn_31 Rn_32 (fun o => zParts (zNote (sK σ Ga) (sF σ Ga) Wb na ra o) (na - (h + 1)).toNat (h + 1) (lf - p9) f_25 ((fun o => zFold (fun p q => zParts (zNote (sK σ Ga) (sF σ Ga) Wb na ra o) (na - (h + 1)).toNat (h + 1) (lf - p) (upI Pa h p) q) (zLst (na - 1 - h) lf) (Q o) (p9 - zLst (na - 1 - h) lf).toNat) o)) := hnQ
              refine x_iinc (k0 := 0) (lv' := [(5, .int (iI (p9 + 1))), (4, .int (iI (lf))), (3, .int (iI (lf - ((na - 1) - h)))), (0, .ref (g.2.2 13)), (1, .int (iI (h))), (2, .int (iI (lf)))]) hx hb dX5_part_112 hl rfl (by decide) rfl (fun ls hl => ?_)
              refine lv_goto (tgt := 69) hx hb dX5_part_115 (by decide) ?_
              exact ih_23 (T_33) (wn_28) (un_29) (hn_30) (mn_31) (Rn_32) (p9 + 1) (by omega) (by exact ost_34) (by (intro i a b; rw [hnT i a (by omega), hTf i, upI_n (by omega)]; exact hpr i a b)) (by omega) (by omega) (by omega) (by (have e : (fun o => zFold (fun p q => zParts (zNote (sK σ Ga) (sF σ Ga) Wb na ra o) (na - (h + 1)).toNat (h + 1) (lf - p) (upI Pa h p) q) (zLst (na - 1 - h) lf) (Q o) ((p9 + 1) - zLst (na - 1 - h) lf).toNat) = (fun o => zParts (zNote (sK σ Ga) (sF σ Ga) Wb na ra o) (na - (h + 1)).toNat (h + 1) (lf - p9) f_25 ((fun o => zFold (fun p q => zParts (zNote (sK σ Ga) (sF σ Ga) Wb na ra o) (na - (h + 1)).toNat (h + 1) (lf - p) (upI Pa h p) q) (zLst (na - 1 - h) lf) (Q o) (p9 - zLst (na - 1 - h) lf).toNat) o)) := funext (fun o => by (rw [zFold_succ _ _ hp0]; exact zParts_congr (zNote_local (fun _ _ _ => rfl)) _ _ _ _ _ _ (by omega) hT9))); rw [e]; exact hnQ) (M_27) _ _ hp13 h15 hqa0 hqa1 hqa2 h14 h16 hfr hP hD hS ls (lv_sub hl [0, 1, 2, 3, 4, 5] rfl)
            · refine lv_aload_n hx hb dX5_part_90 rfl (lv_at hl 3 rfl) ?_
              refine lv_iload_n hx hb dX5_part_91 rfl (lv_at hl 4 rfl) ?_
              refine x_iconst hx hb dX5_part_92 ?_
              refine x_isub hx hb dX5_part_93 ?_
              refine lv_iload_n hx hb dX5_part_94 rfl (lv_at hl 4 rfl) ?_
              refine x_ci (va_runV (As := [.int (iI (h - 1)), .int (iI (h))]) (rest := []) ⟨hx, hb, hml, hown, hts⟩ (c_X5_suit l g (M_24, σ.2) (wz) (uz) (hz) (mz) hp13 (na) (ra) f_25 Ga ⟨hqa0, hqa1, hqa2⟩ ost_26 hH (17 + (h - 1).toNat) h16 (h - 1) (by omega) (h) (by omega) rfl (Su (h - 1)) ((hfr _ (by omega)).trans (hsr (h - 1) (by omega) (by omega))) (fun k => hSr _ k) (by omega)) (cwV 2 hts gX5_part_X5_suit rfl rfl rfl (by decide +kernel) ⟨Nat.le_of_ble_eq_true rfl, Nat.le_of_ble_eq_true rfl⟩) (x_preV hK hP (x_recv hK hP (i := 13) (by decide) hp13 rfl)) rfl rfl hl.1 rfl (lv_room (Nat.le_of_ble_eq_true rfl)) dX5_part_95 ⟨Nat.le_of_ble_eq_true rfl, Nat.le_of_ble_eq_true rfl⟩) (fun r_95 hr_95 qr_95 => ?_)
              replace qr_95 : (r_95 = 1 ∧ zBt (Su (h - 1) (f_25 (h - 1))) (f_25 (h))) ∨ (r_95 = 0 ∧ ¬ zBt (Su (h - 1) (f_25 (h - 1))) (f_25 (h))) := qr_95
              have hTg : f_25 (h - 1) = Pa (h - 1) := by omega
              have hsz : zBt (Su (h - 1) (Pa (h - 1))) p9 ↔ zPr (sK σ Ga) (sF σ Ga) (h - 1) h (Pa (h - 1)) p9 := by (have e0 : zBehind na ra (h - 1) = h := (by (unfold zBehind; rw [if_pos (by omega)]; omega)); have z := hsu (h - 1) (by omega) (by omega) (by rw [e0]; omega) (Pa (h - 1)) p9 (by omega) (by omega) (by omega); rw [e0] at z; exact z)
              rw [hTg, hTh] at qr_95
              refine x_if_eq (tgt := 112) hx hb (by omega) dX5_part_98 (by decide) (fun c_98 => ?_) (fun c_98 => ?_)
              · have hnP : ¬ zPr (sK σ Ga) (sF σ Ga) (h - 1) h (Pa (h - 1)) p9 := by (rw [← hsz]; rcases qr_95 with q | q; omega; exact q.2)
                refine x_iinc (k0 := 0) (lv' := [(5, .int (iI (p9 + 1))), (4, .int (iI (lf))), (3, .int (iI (lf - ((na - 1) - h)))), (0, .ref (g.2.2 13)), (1, .int (iI (h))), (2, .int (iI (lf)))]) hx hb dX5_part_112 hl rfl (by decide) rfl (fun ls hl => ?_)
                refine lv_goto (tgt := 69) hx hb dX5_part_115 (by decide) ?_
                exact ih_23 (f_25) (wz) (uz) (hz) (mz) (Rz) (p9 + 1) (by omega) (by exact ost_26) (by (intro i a b; rw [hTf i, upI_n (by omega)]; exact hpr i a b)) (by omega) (by omega) (by omega) (by (have e : (fun o => zFold (fun p q => zParts (zNote (sK σ Ga) (sF σ Ga) Wb na ra o) (na - (h + 1)).toNat (h + 1) (lf - p) (upI Pa h p) q) (zLst (na - 1 - h) lf) (Q o) ((p9 + 1) - zLst (na - 1 - h) lf).toNat) = (fun o => zFold (fun p q => zParts (zNote (sK σ Ga) (sF σ Ga) Wb na ra o) (na - (h + 1)).toNat (h + 1) (lf - p) (upI Pa h p) q) (zLst (na - 1 - h) lf) (Q o) (p9 - zLst (na - 1 - h) lf).toNat) := funext (fun o => by (rw [zFold_succ _ _ hp0]; exact zParts_bad2 _ (by omega) (by omega) (by rw [upI_n (by omega), upI_s]; exact hnP)))); rw [e]; exact hR) (M_24) _ _ hp13 h15 hqa0 hqa1 hqa2 h14 h16 hfr hP hD hS ls (lv_sub hl [0, 1, 2, 3, 4, 5] rfl)
              · have hyP : h = 0 ∨ zPr (sK σ Ga) (sF σ Ga) (h - 1) h (T (h - 1)) p9 := by (right; rw [hpr (h - 1) (by omega) (by omega), ← hsz]; rcases qr_95 with q | q; exact q.2; omega)
                refine lv_aload_n hx hb dX5_part_101 rfl (lv_at hl 3 rfl) ?_
                refine lv_iload_n hx hb dX5_part_102 rfl (lv_at hl 4 rfl) ?_
                refine x_iconst hx hb dX5_part_103 ?_
                refine x_iadd hx hb dX5_part_104 ?_
                refine lv_iload_n hx hb dX5_part_105 rfl (lv_at hl 5 rfl) ?_
                refine lv_iload hx hb dX5_part_106 (lv_at hl 0 rfl) ?_
                refine x_isub hx hb dX5_part_108 ?_
                refine x_cqv0 (va_runV (As := [.int (iI (h + 1)), .int (iI (lf - p9))]) (rest := []) ⟨hx, hb, hml, hown, hts⟩ (c_X5_part3 l g (M_24, σ.2) A (wz) (uz) (hz) (mz) hp13 (na) (ra) f_25 Ga ⟨hqa0, hqa1, hqa2⟩ ost_26 hH Wb h15 hWb hn6 Rz h14 Su h16 (fun d a b => (hfr _ (by omega)).trans (hsr d a b)) hSr c0 hc0 hsu (fun o => zFold (fun p q => zParts (zNote (sK σ Ga) (sF σ Ga) Wb na ra o) (na - (h + 1)).toNat (h + 1) (lf - p) (upI Pa h p) q) (zLst (na - 1 - h) lf) (Q o) (p9 - zLst (na - 1 - h) lf).toNat) hR (h + 1) (by omega) (lf - p9) (by omega) (zPart_room (zNote_ways (sK σ Ga) (sF σ Ga) Wb na ra 0) hh.1 (by omega) (by omega) hp0 (by omega) (hQ.2.2.2.2.2 0).1 (hR.2.2.2.2.2 0).1 hwr) (by rw [hf_25]; exact zPth_go hpT hh.1 (by omega) (by omega) (by omega) hyP)) (cwV 2 hts gX5_part_X5_part rfl rfl rfl (by decide +kernel) ⟨Nat.le_of_ble_eq_true rfl, Nat.le_of_ble_eq_true rfl⟩) (x_preVQ hK hP hD hS hA (x_recv hK hP (i := 13) (by decide) hp13 rfl)) rfl rfl hl.1 rfl (lv_room (Nat.le_of_ble_eq_true rfl)) dX5_part_109 ⟨by decide, by decide⟩) hS (fun σ1 H locs hpost hP hD hS => ?_)
                obtain ⟨M_35, p1⟩ := σ1
                obtain ⟨hp0, hfrc, wn_36, un_37, hn_38, mn_39, T_41, Rn_40, hn13, hn12, hn14, ost_42, hnT, hnQ⟩ := hpost
                obtain rfl : p1 = σ.2 := hp0
                have hP : xP g (M_35, σ.2) H := hP
                have hD : xD g A (M_35, σ.2) := hD
                have h15 := (hfrc (15) (by omega)).trans h15
                have hqa0 := (hfrc (10) (by omega)).trans hqa0
                have hqa1 := (hfrc (11) (by omega)).trans hqa1
                have h16 := (hfrc (16) (by omega)).trans h16
                have hfr := x_frc (F := fun j => j ≠ 12 ∧ j ≠ 13 ∧ j ≠ 14) hfr hfrc (fun j h => by have h : j ≠ 12 ∧ j ≠ 13 ∧ j ≠ 14 := h; omega)
                have hp13 : PObj g M_35 wn_36 un_37 hn_38 mn_39 := hn13
                have h14 : MArr g M_35 14 6 Rn_40 := hn14
                have hqa2 : MArr g M_35 12 9 T_41 := hn12
                replace hnQ : zRl na wn_36 un_37 hn_38 mn_39 Rn_40 (fun o => zParts (zNote (sK σ Ga) (sF σ Ga) Wb na ra o) (na - (h + 1)).toNat (h + 1) (lf - p9) f_25 ((fun o => zFold (fun p q => zParts (zNote (sK σ Ga) (sF σ Ga) Wb na ra o) (na - (h + 1)).toNat (h + 1) (lf - p) (upI Pa h p) q) (zLst (na - 1 - h) lf) (Q o) (p9 - zLst (na - 1 - h) lf).toNat) o)) := hnQ
                refine x_iinc (k0 := 0) (lv' := [(5, .int (iI (p9 + 1))), (4, .int (iI (lf))), (3, .int (iI (lf - ((na - 1) - h)))), (0, .ref (g.2.2 13)), (1, .int (iI (h))), (2, .int (iI (lf)))]) hx hb dX5_part_112 hl rfl (by decide) rfl (fun ls hl => ?_)
                refine lv_goto (tgt := 69) hx hb dX5_part_115 (by decide) ?_
                exact ih_23 (T_41) (wn_36) (un_37) (hn_38) (mn_39) (Rn_40) (p9 + 1) (by omega) (by exact ost_42) (by (intro i a b; rw [hnT i a (by omega), hTf i, upI_n (by omega)]; exact hpr i a b)) (by omega) (by omega) (by omega) (by (have e : (fun o => zFold (fun p q => zParts (zNote (sK σ Ga) (sF σ Ga) Wb na ra o) (na - (h + 1)).toNat (h + 1) (lf - p) (upI Pa h p) q) (zLst (na - 1 - h) lf) (Q o) ((p9 + 1) - zLst (na - 1 - h) lf).toNat) = (fun o => zParts (zNote (sK σ Ga) (sF σ Ga) Wb na ra o) (na - (h + 1)).toNat (h + 1) (lf - p9) f_25 ((fun o => zFold (fun p q => zParts (zNote (sK σ Ga) (sF σ Ga) Wb na ra o) (na - (h + 1)).toNat (h + 1) (lf - p) (upI Pa h p) q) (zLst (na - 1 - h) lf) (Q o) (p9 - zLst (na - 1 - h) lf).toNat) o)) := funext (fun o => by (rw [zFold_succ _ _ hp0]; exact zParts_congr (zNote_local (fun _ _ _ => rfl)) _ _ _ _ _ _ (by omega) hT9))); rw [e]; exact hnQ) (M_35) _ _ hp13 h15 hqa0 hqa1 hqa2 h14 h16 hfr hP hD hS ls (lv_sub hl [0, 1, 2, 3, 4, 5] rfl)
      exact hloop_69 ((((40 : Int) - ((q_22))).toNat) + 1) (Pa) (wy) (un) (hd9) (mv) (Rc) ((q_22)) (by omega) (by exact hoa) (by exact fun _ _ _ => rfl) (by omega) (by omega) (by omega) (by (have e : (fun o => zFold (fun p q => zParts (zNote (sK σ Ga) (sF σ Ga) Wb na ra o) (na - (h + 1)).toNat (h + 1) (lf - p) (upI Pa h p) q) (zLst (na - 1 - h) lf) (Q o) ((q_22) - zLst (na - 1 - h) lf).toNat) = Q := funext (fun o => zFold_0 _ _ (by omega))); rw [e]; exact hQ) (σ.1) _ _ hp13 h15 hqa0 hqa1 hqa2 h14 h16 hfr hP hD hS ls (lv_sub hl [0, 1, 2, 3, 4, 5] rfl)
  · refine lv_iload_n hx hb dX5_part_11 rfl (lv_at hl 2 rfl) ?_
    refine x_if_ne (tgt := 26) hx hb (by omega) dX5_part_12 (by decide) (fun c_12 => ?_) (fun c_12 => ?_)
    · refine x_retQv hx hb hr ?_ hP hD hS dX5_part_26 hlocks
      refine ⟨rfl, hfr, _, _, _, _, _, _, hp13, hqa2, h14, hoa, fun _ _ _ => rfl, ?_⟩
      have e : (fun o => zParts (zNote (sK σ Ga) (sF σ Ga) Wb na ra o) (na - h).toNat h lf Pa (Q o)) = Q := funext (fun o => by (rw [zParts_end _ _ _ _ (by omega), if_neg (by omega)]))
      rw [e]; exact hQ
    · have hna : h = na := by omega
      have hlz : zAll (sK σ Ga) (sF σ Ga) Pa na ra = 0 ↔ (ra = 1 ∧ 3 ≤ na → zBt (Su (na - 1) (Pa (na - 1))) (Pa (0))) := by (rw [zAll_leaf hok1a hP99 (by rw [← hna]; exact hpth.2.2)]; refine imp_congr_right (fun hc => ?_); have e0 : zBehind na ra (na - 1) = 0 := (by (unfold zBehind; rw [if_neg (by omega), if_pos hc])); have z := hsu (na - 1) (by omega) (by omega) (by rw [e0]; omega) (Pa (na - 1)) (Pa 0) (hpth.1 (na - 1) (by omega) (by omega)).1 (hpth.1 0 (by omega) (by omega)).1 (by have z2 := hpth.2.1 (na - 1) 0 (by omega) (by omega) (by omega) (by omega) (by omega); omega); rw [e0] at z; exact z.symm)
      refine lv_aload_n hx hb dX5_part_15 rfl (lv_at hl 0 rfl) ?_
      refine x_ci (va_runV (As := []) (rest := []) ⟨hx, hb, hml, hown, hts⟩ (c_X5_isClosedWell l g σ (wy) (un) (hd9) (mv) hp13 (na) (ra) Pa Ga ⟨hqa0, hqa1, hqa2⟩ hoa hH Su h16 hsr hSr hn6 (fun i a b => by have z1 := hpth.1 i a (by omega); omega)) (cwV 0 hts gX5_part_X5_isClosedWell rfl rfl rfl (by decide +kernel) ⟨Nat.le_of_ble_eq_true rfl, Nat.le_of_ble_eq_true rfl⟩) (x_preV hK hP (x_recv hK hP (i := 13) (by decide) hp13 rfl)) rfl rfl hl.1 rfl (lv_room (Nat.le_of_ble_eq_true rfl)) dX5_part_16 ⟨Nat.le_of_ble_eq_true rfl, Nat.le_of_ble_eq_true rfl⟩) (fun r_16 hr_16 qr_16 => ?_)
      replace qr_16 : (r_16 = 1 ∧ (ra = 1 ∧ 3 ≤ na → zBt (Su (na - 1) (Pa (na - 1))) (Pa (0)))) ∨ (r_16 = 0 ∧ (ra = 1 ∧ 3 ≤ na) ∧ ¬ zBt (Su (na - 1) (Pa (na - 1))) (Pa (0))) := qr_16
      refine x_if_eq (tgt := 26) hx hb (by omega) dX5_part_19 (by decide) (fun c_19 => ?_) (fun c_19 => ?_)
      · have hnz : ¬ zAll (sK σ Ga) (sF σ Ga) Pa na ra = 0 := by (rw [hlz]; rcases qr_16 with q | q; omega; exact fun q2 => q.2.2 (q2 q.2.1))
        refine x_retQv hx hb hr ?_ hP hD hS dX5_part_26 hlocks
        refine ⟨rfl, hfr, _, _, _, _, _, _, hp13, hqa2, h14, hoa, fun _ _ _ => rfl, ?_⟩
        have e : (fun o => zParts (zNote (sK σ Ga) (sF σ Ga) Wb na ra o) (na - h).toNat h lf Pa (Q o)) = Q := funext (fun o => by (rw [zParts_end _ _ _ _ (by omega), if_pos (by omega)]; unfold zNote; rw [if_pos hnz]))
        rw [e]; exact hQ
      · have hz0 : zAll (sK σ Ga) (sF σ Ga) Pa na ra = 0 := by (rw [hlz]; rcases qr_16 with q | q; exact q.2; omega)
        have hzb := zB_pos (na - h).toNat
        have hzb1 : zB (na - h).toNat = 1 := by (rw [show (na - h).toNat = 0 by omega]; rfl)
        refine lv_aload_n hx hb dX5_part_22 rfl (lv_at hl 0 rfl) ?_
        refine x_cqv0 (va_runV (As := []) (rest := []) ⟨hx, hb, hml, hown, hts⟩ (c_X5_note l g σ A (wy) (un) (hd9) (mv) hp13 (na) (ra) Pa Ga ⟨hqa0, hqa1, hqa2⟩ hoa hH Wb h15 hWb hn6 Rc h14 Q hQ (by omega) hz0) (cwV 0 hts gX5_part_X5_note rfl rfl rfl (by decide +kernel) ⟨Nat.le_of_ble_eq_true rfl, Nat.le_of_ble_eq_true rfl⟩) (x_preVQ hK hP hD hS hA (x_recv hK hP (i := 13) (by decide) hp13 rfl)) rfl rfl hl.1 rfl (lv_room (Nat.le_of_ble_eq_true rfl)) dX5_part_23 ⟨by decide, by decide⟩) hS (fun σ1 H locs hpost hP hD hS => ?_)
        obtain ⟨M_43, p1⟩ := σ1
        obtain ⟨hp0, hfrc, wn_44, un_45, hn_46, mn_47, Rn_48, hn13, hn14, hnQ⟩ := hpost
        obtain rfl : p1 = σ.2 := hp0
        have hP : xP g (M_43, σ.2) H := hP
        have hD : xD g A (M_43, σ.2) := hD
        have h15 := (hfrc (15) (by omega)).trans h15
        have hqa0 := (hfrc (10) (by omega)).trans hqa0
        have hqa1 := (hfrc (11) (by omega)).trans hqa1
        have hqa2 := (hfrc (12) (by omega)).trans hqa2
        have h16 := (hfrc (16) (by omega)).trans h16
        have hfr := x_frc (F := fun j => j ≠ 12 ∧ j ≠ 13 ∧ j ≠ 14) hfr hfrc (fun j h => by have h : j ≠ 12 ∧ j ≠ 13 ∧ j ≠ 14 := h; omega)
        have hp13 : PObj g M_43 wn_44 un_45 hn_46 mn_47 := hn13
        have h14 : MArr g M_43 14 6 Rn_48 := hn14
        replace hnQ : zRl na wn_44 un_45 hn_46 mn_47 Rn_48 (fun o => zNote (sK σ Ga) (sF σ Ga) Wb na ra o Pa (Q o)) := hnQ
        refine x_retQv hx hb hr ?_ hP hD hS dX5_part_26 hlocks
        refine ⟨rfl, hfr, _, _, _, _, _, _, hp13, hqa2, h14, hoa, fun _ _ _ => rfl, ?_⟩
        have e : (fun o => zParts (zNote (sK σ Ga) (sF σ Ga) Wb na ra o) (na - h).toNat h lf Pa (Q o)) = (fun o => zNote (sK σ Ga) (sF σ Ga) Wb na ra o Pa (Q o)) := funext (fun o => by (rw [zParts_end _ _ _ _ (by omega), if_pos (by omega)]))
        rw [e]; exact hnQ

set_option maxHeartbeats 4000000 in
set_option maxRecDepth 100000 in
theorem c_X5_part5 (l : Launch) (g : xG) (σ : xS) (A : Nat → Prop) (wy un hd9 mv : Int) (hp13 : PObj g σ.1 wy un hd9 mv) (na ra : Int) (Pa : Int → Int) (Ga : Int → Option Nat) (hsa9 : StAt g σ.1 10 na ra Pa Ga) (hoa : StOk σ na ra Pa Ga) (hH : HsOk σ) (Wb : Int → Int) (h15 : MArr g σ.1 15 6 Wb) (hWb : ∀ i, 0 ≤ i → i < na → 0 ≤ Wb i ∧ Wb i ≤ 9999) (hn6 : na ≤ 6) (Rc : Int → Int) (h14 : MArr g σ.1 14 6 Rc) (Su : Int → Int → Int) (h16 : MGrs g σ.1) (hsr : ∀ d, 0 ≤ d → d ≤ 5 → MArr g σ.1 (17 + d.toNat) 21 (Su d)) (hSr : ∀ d k, inR (Su d k)) (c0 : Int) (hc0 : 0 ≤ c0 ∧ c0 ≤ 20) (hsu : zSuOk (sK σ Ga) (sF σ Ga) na ra c0 Su) (Q : Int → zAcc) (hQ : zRl na wy un hd9 mv Rc Q) (h : Int) (hh : 0 ≤ h ∧ h ≤ na ∧ na - h ≤ 5) (lf : Int) (hlf : 0 ≤ lf ∧ lf ≤ c0) (hwr : wy + zB (na - h).toNat ≤ 100000000) (hpth : zPth (sK σ Ga) (sF σ Ga) Pa c0 h lf) : Met l yX5_part wsX5_part ({ frames := 10, cells := 0, slots := 0, locals := 320 }) (va_Pc [.ref (g.2.2 13), .int (iI (h)), .int (iI (lf))] (xPreQ g A σ)) (x_Qv g A (fun σ1 => σ1.2 = σ.2 ∧ (∀ j, j ≠ 12 ∧ j ≠ 13 ∧ j ≠ 14 → σ1.1 j = σ.1 j) ∧ ∃ wy2 un2 hd2 mv2 T Rc2, PObj g σ1.1 wy2 un2 hd2 mv2 ∧ MArr g σ1.1 12 9 T ∧ MArr g σ1.1 14 6 Rc2 ∧ StOk σ na ra T Ga ∧ (∀ i, 0 ≤ i → i < h → T i = Pa i) ∧ zRl na wy2 un2 hd2 mv2 Rc2 (fun o => zParts (zNote (sK σ Ga) (sF σ Ga) Wb na ra o) (na - h).toNat h lf Pa (Q o)))) (0) (0) A := by
  refine Met.ofW (cc := cX5_part) (maxL := 6) (ret := none) (by decide) rfl ?_
  intro p e s m args below meth c s₁ B hml hv
  obtain ⟨rfl, hP, hK, hD, hA⟩ := hv
  have hx := B.exec
  have hb := B.bytes
  have hr := B.returns
  have hts := atoms_spec (ws := wsX5_part) B.pre
  have hown : s.vm.findClass RX5 = some m.cls := findClass_of_methodNamed B.named
  have hlocks := B.notSynchronized
  have hS : va_S A s.heap s.heap [] := va_S.rf
  have hfr : ∀ j, (j ≠ 12 ∧ j ≠ 13 ∧ j ≠ 14) → σ.1 j = σ.1 j := fun _ _ => rfl
  have hl := lv_entry ([.ref (g.2.2 13), .int (iI (h)), .int (iI (lf))]) (n := 6) (Nat.le_of_ble_eq_true rfl)
  rw [lg_entry_eq]
  generalize (lg_sl ([.ref (g.2.2 13), .int (iI (h)), .int (iI (lf))]) ++ List.replicate (6 - (lg_sl ([.ref (g.2.2 13), .int (iI (h)), .int (iI (lf))])).length) Slot.unset).toArray = ls at hl ⊢
  have hl : lv_has ls 6 [(0, .ref (g.2.2 13)), (1, .int (iI (h))), (2, .int (iI (lf)))] := hl
  have hqa0 : σ.1 10 = .inr (7, [.ref (g.2.2 11), .ref (g.2.2 12), .int (iI na), .int (iI ra)]) := hsa9.1
  have hqa1 : MRef g σ.1 11 9 Ga := hsa9.2.1
  have hqa2 : MArr g σ.1 12 9 Pa := hsa9.2.2
  have hoa1 := hoa.1
  have hoa2 := hoa.2.1
  have hoa3 := hoa.2.2.1
  have hq1 := hQ.1
  have hok1a : 0 ≤ na := hoa.1
  have hP99 : ∀ i, 0 ≤ i → i < na → Pa i ≤ 9999 := fun i a b => (hoa.2.2.2.2.2 i a b).2.2
  have hw_0 := hts (.fieldLink RX5 18 "TwiceAsRich$Partings" "parted" "LTwiceAsRich$Street;") (by decide +kernel)
  have hin_X5 : ∀ w ∈ wsX50, w ∈ wsX5_part := by decide +kernel
  have hw_2 := hts (.fieldLink RX5 49 "TwiceAsRich$Street" "count" "I") (by decide +kernel)
  have hin_X7 : ∀ w ∈ wsX70, w ∈ wsX5_part := by decide +kernel
  have hw_4 := hts (.methodLink RX5 88 Lib.Math.max.name) (by decide +kernel)
  have hw_5 := hts (.static Lib.Math.max.name) (by decide +kernel)
  have hw_6 := hts (.initialized "java/lang/Math") (by decide +kernel)
  have hw_7 := hts (.code Lib.Math.max.name Lib.Math.max.code 2 (some .int)) (by decide +kernel)
  have hw_8 := hts (.fieldLink RX5 56 "TwiceAsRich$Street" "purses" "[I") (by decide +kernel)
  refine lv_iload_n hx hb dX5_part_0 rfl (lv_at hl 1 rfl) ?_
  refine lv_aload_n hx hb dX5_part_1 rfl (lv_at hl 0 rfl) ?_
  refine x_get (C := RX5) (T := TX5) (N := 8) hx hb hts hin_X5 hown hK hP (13) (by decide) hp13 rfl 5 (by decide) hw_0 (fun _ h9 => h9) rfl dX5_part_2 ?_
  refine x_get (C := RX7) (T := TX7) (N := 4) hx hb hts hin_X7 hown hK hP (10) (by decide) hqa0 rfl 2 (by decide) hw_2 (fun _ h9 => h9) rfl dX5_part_5 ?_
  refine x_icmp_lt (tgt := 27) hx hb (by omega) (by omega) dX5_part_8 (by decide) (fun c_8 => ?_) (fun c_8 => ?_)
  · refine lv_iload_n hx hb dX5_part_27 rfl (lv_at hl 2 rfl) ?_
    refine lv_aload_n hx hb dX5_part_28 rfl (lv_at hl 0 rfl) ?_
    refine x_get (C := RX5) (T := TX5) (N := 8) hx hb hts hin_X5 hown hK hP (13) (by decide) hp13 rfl 5 (by decide) hw_0 (fun _ h9 => h9) rfl dX5_part_29 ?_
    refine x_get (C := RX7) (T := TX7) (N := 4) hx hb hts hin_X7 hown hK hP (10) (by decide) hqa0 rfl 2 (by decide) hw_2 (fun _ h9 => h9) rfl dX5_part_32 ?_
    refine x_iconst hx hb dX5_part_35 ?_
    refine x_isub hx hb dX5_part_36 ?_
    refine lv_iload_n hx hb dX5_part_37 rfl (lv_at hl 1 rfl) ?_
    refine x_isub hx hb dX5_part_38 ?_
    refine x_isub hx hb dX5_part_39 ?_
    refine lv_istore_n (lv' := [(3, .int (iI (lf - ((na - 1) - h)))), (0, .ref (g.2.2 13)), (1, .int (iI (h))), (2, .int (iI (lf)))]) hx hb dX5_part_40 rfl hl (by decide) rfl (fun ls hl => ?_)
    refine lv_iload_n hx hb dX5_part_41 rfl (lv_at hl 2 rfl) ?_
    refine lv_aload_n hx hb dX5_part_42 rfl (lv_at hl 1 rfl) ?_
    refine x_get (C := RX5) (T := TX5) (N := 8) hx hb hts hin_X5 hown hK hP (13) (by decide) hp13 rfl 5 (by decide) hw_0 (fun _ h9 => h9) rfl dX5_part_43 ?_
    refine x_get (C := RX7) (T := TX7) (N := 4) hx hb hts hin_X7 hown hK hP (10) (by decide) hqa0 rfl 2 (by decide) hw_2 (fun _ h9 => h9) rfl dX5_part_46 ?_
    refine x_iconst hx hb dX5_part_49 ?_
    refine x_isub hx hb dX5_part_50 ?_
    refine x_icmp_ne (tgt := 58) hx hb (by omega) (by omega) dX5_part_51 (by decide) (fun c_51 => ?_) (fun c_51 => ?_)
    · refine x_iconst hx hb dX5_part_58 ?_
      refine lv_istore (lv' := [(4, .int (iI (1))), (3, .int (iI (lf - ((na - 1) - h)))), (0, .ref (g.2.2 13)), (1, .int (iI (h))), (2, .int (iI (lf)))]) hx hb dX5_part_59 hl (by decide) rfl (fun ls hl => ?_)
      refine x_iconst hx hb dX5_part_61 ?_
      refine lv_iload hx hb dX5_part_62 (lv_at hl 0 rfl) ?_
      refine x_max hx hb (hml.trans hl.1.symm) hown hw_4 hw_5 hw_6 hw_7 (Nat.le_of_ble_eq_true rfl) (Nat.le_of_ble_eq_true rfl) (Nat.le_of_ble_eq_true rfl) (Nat.le_of_ble_eq_true rfl) (by omega) (by omega) dX5_part_64 (fun q_1 hq_1 => ?_)
      have hls : zLst (na - 1 - h) lf = (q_1) := by (unfold zLst; split <;> omega)
      refine lv_istore (lv' := [(5, .int (iI (q_1))), (4, .int (iI (1))), (3, .int (iI (lf - ((na - 1) - h)))), (0, .ref (g.2.2 13)), (1, .int (iI (h))), (2, .int (iI (lf)))]) hx hb dX5_part_67 hl (by decide) rfl (fun ls hl => ?_)
      have hloop_69 : ∀ (k : Nat) (T : Int → Int) (wz : Int) (uz : Int) (hz : Int) (mz : Int) (Rz : Int → Int) (p9 : Int), ((40 : Int) - p9).toNat < k → (hTo : StOk σ na ra T Ga) → (hpr : ∀ i, 0 ≤ i → i < h → T i = Pa i) → (hp0 : zLst (na - 1 - h) lf ≤ p9) → (hp1 : p9 = zLst (na - 1 - h) lf ∨ p9 ≤ lf - (na - 1 - h) + 1) → (hp2 : 1 ≤ p9 ∧ p9 ≤ 21) → (hR : zRl na wz uz hz mz Rz (fun o => zFold (fun p q => zParts (zNote (sK σ Ga) (sF σ Ga) Wb na ra o) (na - (h + 1)).toNat (h + 1) (lf - p) (upI Pa h p) q) (zLst (na - 1 - h) lf) (Q o) (p9 - zLst (na - 1 - h) lf).toNat)) → ∀ (M : xM) (H : Heap) (locs : List Loc), (hp13 : M (13) = .inr (5, [.int (iI (wz)), .int (iI (uz)), .int (iI (hz)), .int (iI (mz)), .ref (g.2.2 14), .ref (g.2.2 10), .ref (g.2.2 15), .ref (g.2.2 16)])) → (h15 : M (15) = .inl (g.2.1 0, 6, .inl (fun k => iI (Wb (k : Int))))) → (hqa0 : M (10) = .inr (7, [.ref (g.2.2 11), .ref (g.2.2 12), .int (iI (na)), .int (iI (ra))])) → (hqa1 : M (11) = .inl (g.2.1 1, 9, .inr (.inr (.inr (.inr (fun k => Ga (k : Int))))))) → (hqa2 : M (12) = .inl (g.2.1 0, 9, .inl (fun k => iI (T (k : Int))))) → (h14 : M (14) = .inl (g.2.1 0, 6, .inl (fun k => iI (Rz (k : Int))))) → (h16 : M (16) = .inl (g.2.1 2, 6, .inr (.inr (.inr (.inr (fun k => xGs g (k : Int))))))) → (hfr : ∀ j, (j ≠ 12 ∧ j ≠ 13 ∧ j ≠ 14) → M j = σ.1 j) → xP g (M, σ.2) H → xD g A (M, σ.2) → va_S A s.heap H locs → ∀ (ls : Array Slot), lv_has ls 6 [(5, .int (iI (p9))), (4, .int (iI (1))), (3, .int (iI (lf - ((na - 1) - h)))), (0, .ref (g.2.2 13)), (1, .int (iI (h))), (2, .int (iI (lf)))] → W p l e (headSpec wsX5_part ({ frames := 10, cells := 0, slots := 0, locals := 320 })).room s m ([.ref (g.2.2 13), .int (iI (h)), .int (iI (lf))] : List Value).toArray below meth c H locs 0 0 (MQ below (x_Qv g A (fun σ1 => σ1.2 = σ.2 ∧ (∀ j, j ≠ 12 ∧ j ≠ 13 ∧ j ≠ 14 → σ1.1 j = σ.1 j) ∧ ∃ wy2 un2 hd2 mv2 T Rc2, PObj g σ1.1 wy2 un2 hd2 mv2 ∧ MArr g σ1.1 12 9 T ∧ MArr g σ1.1 14 6 Rc2 ∧ StOk σ na ra T Ga ∧ (∀ i, 0 ≤ i → i < h → T i = Pa i) ∧ zRl na wy2 un2 hd2 mv2 Rc2 (fun o => zParts (zNote (sK σ Ga) (sF σ Ga) Wb na ra o) (na - h).toNat h lf Pa (Q o)))) ([.ref (g.2.2 13), .int (iI (h)), .int (iI (lf))] : List Value).toArray s (0) (0) A) (F0 m 69 ls []) := by
        intro k
        induction k with
        | zero =>
          intros; exact absurd (by assumption) (Nat.not_lt_zero _)
        | succ k ih =>
          intro T wz uz hz mz Rz p9 hmeas hTo hpr hp0 hp1 hp2 hR M H locs hp13 h15 hqa0 hqa1 hqa2 h14 h16 hfr hP hD hS ls hl
          have ih_2 := ih
          refine lv_iload hx hb dX5_part_69 (lv_at hl 0 rfl) ?_
          refine lv_iload_n hx hb dX5_part_71 rfl (lv_at hl 2 rfl) ?_
          refine x_icmp_gt (tgt := 118) hx hb (by omega) (by omega) dX5_part_72 (by decide) (fun c_72 => ?_) (fun c_72 => ?_)
          · refine x_retQv hx hb hr ?_ hP hD hS dX5_part_118 hlocks
            refine ⟨rfl, hfr, _, _, _, _, _, _, hp13, hqa2, h14, hTo, hpr, ?_⟩
            have e : (fun o => zParts (zNote (sK σ Ga) (sF σ Ga) Wb na ra o) (na - h).toNat h lf Pa (Q o)) = (fun o => zFold (fun p q => zParts (zNote (sK σ Ga) (sF σ Ga) Wb na ra o) (na - (h + 1)).toNat (h + 1) (lf - p) (upI Pa h p) q) (zLst (na - 1 - h) lf) (Q o) (p9 - zLst (na - 1 - h) lf).toNat) := funext (fun o => by (rw [zParts_step _ _ _ _ (by omega), show (lf - (na - 1 - h) + 1 - zLst (na - 1 - h) lf).toNat = (p9 - zLst (na - 1 - h) lf).toNat by omega]))
            rw [e]; exact hR
          · refine lv_aload_n hx hb dX5_part_75 rfl (lv_at hl 3 rfl) ?_
            refine x_get (C := RX5) (T := TX5) (N := 8) hx hb hts hin_X5 hown hK hP (13) (by decide) hp13 rfl 5 (by decide) hw_0 (fun _ h9 => h9) rfl dX5_part_76 ?_
            refine x_get (C := RX7) (T := TX7) (N := 4) hx hb hts hin_X7 hown hK hP (10) (by decide) hqa0 rfl 1 (by decide) hw_8 (fun _ h9 => h9) rfl dX5_part_79 ?_
            refine lv_iload_n hx hb dX5_part_82 rfl (lv_at hl 4 rfl) ?_
            refine lv_iload hx hb dX5_part_83 (lv_at hl 0 rfl) ?_
            refine x_iast (f := T) hx hb hK hP hD hS (12) (by decide) hqa2 (by omega) (by omega) (by decide) dX5_part_85 (fun M_3 H locs hnew hne hP hD hS => ?_)
            obtain ⟨f_4, hf_4⟩ : ∃ q : Int → Int, q = (upI T (h) (p9)) := ⟨_, rfl⟩
            rw [← hf_4] at hnew
            have hP : xP g (M_3, σ.2) H := hP
            have hD : xD g A (M_3, σ.2) := hD
            have hqa2 : M_3 (12) = .inl (g.2.1 0, 9, .inl (fun k => iI (f_4 (k : Int)))) := hnew
            have hp13 := (hne (13) (by decide)).trans hp13
            have h15 := (hne (15) (by decide)).trans h15
            have hqa0 := (hne (10) (by decide)).trans hqa0
            have hqa1 := (hne (11) (by decide)).trans hqa1
            have h14 := (hne (14) (by decide)).trans h14
            have h16 := (hne (16) (by decide)).trans h16
            have hfr := x_fr (F := fun j => j ≠ 12 ∧ j ≠ 13 ∧ j ≠ 14) hfr hne (fun j h => by have h : j ≠ 12 ∧ j ≠ 13 ∧ j ≠ 14 := h; omega)
            have ost_5 : StOk σ (na) (ra) f_4 Ga := by (rw [hf_4]; exact StOk_purse hTo (by omega))
            have hTf : ∀ i, f_4 i = upI T h p9 i := fun i => by (rw [hf_4])
            have hT9 : ∀ i, 0 ≤ i → i < h + 1 → upI Pa h p9 i = f_4 i := fun i a b => by (rw [hTf i]; unfold upI; split; (rfl); exact (hpr i a (by omega)).symm)
            have hpT := zPth_congr hpth hpr
            have hTh : f_4 h = p9 := by (rw [hTf, upI_s])
            have hTg : f_4 (h - 1) = Pa (h - 1) ∨ h = 0 := by (by_cases e9 : h = 0; (exact Or.inr e9); (left; rw [hTf, upI_n (by omega)]; exact hpr _ (by omega) (by omega)))
            have hb1 : h ≠ 0 → 1 ≤ Pa (h - 1) ∧ Pa (h - 1) + lf ≤ c0 := fun q => hpth.1 (h - 1) (by omega) (by omega)
            refine lv_iload_n hx hb dX5_part_86 rfl (lv_at hl 4 rfl) ?_
            refine x_if_eq (tgt := 101) hx hb (by omega) dX5_part_87 (by decide) (fun c_87 => ?_) (fun c_87 => ?_)
            · have hyP : h = 0 ∨ zPr (sK σ Ga) (sF σ Ga) (h - 1) h (T (h - 1)) p9 := by (left; omega)
              refine lv_aload_n hx hb dX5_part_101 rfl (lv_at hl 3 rfl) ?_
              refine lv_iload_n hx hb dX5_part_102 rfl (lv_at hl 4 rfl) ?_
              refine x_iconst hx hb dX5_part_103 ?_
              refine x_iadd hx hb dX5_part_104 ?_
              refine lv_iload_n hx hb dX5_part_105 rfl (lv_at hl 5 rfl) ?_
              refine lv_iload hx hb dX5_part_106 (lv_at hl 0 rfl) ?_
              refine x_isub hx hb dX5_part_108 ?_
              refine x_cqv0 (va_runV (As := [.int (iI (h + 1)), .int (iI (lf - p9))]) (rest := []) ⟨hx, hb, hml, hown, hts⟩ (c_X5_part4 l g (M_3, σ.2) A (wz) (uz) (hz) (mz) hp13 (na) (ra) f_4 Ga ⟨hqa0, hqa1, hqa2⟩ ost_5 hH Wb h15 hWb hn6 Rz h14 Su h16 (fun d a b => (hfr _ (by omega)).trans (hsr d a b)) hSr c0 hc0 hsu (fun o => zFold (fun p q => zParts (zNote (sK σ Ga) (sF σ Ga) Wb na ra o) (na - (h + 1)).toNat (h + 1) (lf - p) (upI Pa h p) q) (zLst (na - 1 - h) lf) (Q o) (p9 - zLst (na - 1 - h) lf).toNat) hR (h + 1) (by omega) (lf - p9) (by omega) (zPart_room (zNote_ways (sK σ Ga) (sF σ Ga) Wb na ra 0) hh.1 (by omega) (by omega) hp0 (by omega) (hQ.2.2.2.2.2 0).1 (hR.2.2.2.2.2 0).1 hwr) (by rw [hf_4]; exact zPth_go hpT hh.1 (by omega) (by omega) (by omega) hyP)) (cwV 2 hts gX5_part_X5_part rfl rfl rfl (by decide +kernel) ⟨Nat.le_of_ble_eq_true rfl, Nat.le_of_ble_eq_true rfl⟩) (x_preVQ hK hP hD hS hA (x_recv hK hP (i := 13) (by decide) hp13 rfl)) rfl rfl hl.1 rfl (lv_room (Nat.le_of_ble_eq_true rfl)) dX5_part_109 ⟨by decide, by decide⟩) hS (fun σ1 H locs hpost hP hD hS => ?_)
              obtain ⟨M_6, p1⟩ := σ1
              obtain ⟨hp0, hfrc, wn_7, un_8, hn_9, mn_10, T_12, Rn_11, hn13, hn12, hn14, ost_13, hnT, hnQ⟩ := hpost
              obtain rfl : p1 = σ.2 := hp0
              have hP : xP g (M_6, σ.2) H := hP
              have hD : xD g A (M_6, σ.2) := hD
              have h15 := (hfrc (15) (by omega)).trans h15
              have hqa0 := (hfrc (10) (by omega)).trans hqa0
              have hqa1 := (hfrc (11) (by omega)).trans hqa1
              have h16 := (hfrc (16) (by omega)).trans h16
              have hfr := x_frc (F := fun j => j ≠ 12 ∧ j ≠ 13 ∧ j ≠ 14) hfr hfrc (fun j h => by have h : j ≠ 12 ∧ j ≠ 13 ∧ j ≠ 14 := h; omega)
              have hp13 : PObj g M_6 wn_7 un_8 hn_9 mn_10 := hn13
              have h14 : MArr g M_6 14 6 Rn_11 := hn14
              have hqa2 : MArr g M_6 12 9 T_12 := hn12
              replace hnQ : zRl na wn_7 un_8 hn_9 mn_10 Rn_11 (fun o => zParts (zNote (sK σ Ga) (sF σ Ga) Wb na ra o) (na - (h + 1)).toNat (h + 1) (lf - p9) f_4 ((fun o => zFold (fun p q => zParts (zNote (sK σ Ga) (sF σ Ga) Wb na ra o) (na - (h + 1)).toNat (h + 1) (lf - p) (upI Pa h p) q) (zLst (na - 1 - h) lf) (Q o) (p9 - zLst (na - 1 - h) lf).toNat) o)) := hnQ
              refine x_iinc (k0 := 0) (lv' := [(5, .int (iI (p9 + 1))), (4, .int (iI (1))), (3, .int (iI (lf - ((na - 1) - h)))), (0, .ref (g.2.2 13)), (1, .int (iI (h))), (2, .int (iI (lf)))]) hx hb dX5_part_112 hl rfl (by decide) rfl (fun ls hl => ?_)
              refine lv_goto (tgt := 69) hx hb dX5_part_115 (by decide) ?_
              exact ih_2 (T_12) (wn_7) (un_8) (hn_9) (mn_10) (Rn_11) (p9 + 1) (by omega) (by exact ost_13) (by (intro i a b; rw [hnT i a (by omega), hTf i, upI_n (by omega)]; exact hpr i a b)) (by omega) (by omega) (by omega) (by (have e : (fun o => zFold (fun p q => zParts (zNote (sK σ Ga) (sF σ Ga) Wb na ra o) (na - (h + 1)).toNat (h + 1) (lf - p) (upI Pa h p) q) (zLst (na - 1 - h) lf) (Q o) ((p9 + 1) - zLst (na - 1 - h) lf).toNat) = (fun o => zParts (zNote (sK σ Ga) (sF σ Ga) Wb na ra o) (na - (h + 1)).toNat (h + 1) (lf - p9) f_4 ((fun o => zFold (fun p q => zParts (zNote (sK σ Ga) (sF σ Ga) Wb na ra o) (na - (h + 1)).toNat (h + 1) (lf - p) (upI Pa h p) q) (zLst (na - 1 - h) lf) (Q o) (p9 - zLst (na - 1 - h) lf).toNat) o)) := funext (fun o => by (rw [zFold_succ _ _ hp0]; exact zParts_congr (zNote_local (fun _ _ _ => rfl)) _ _ _ _ _ _ (by omega) hT9))); rw [e]; exact hnQ) (M_6) _ _ hp13 h15 hqa0 hqa1 hqa2 h14 h16 hfr hP hD hS ls (lv_sub hl [0, 1, 2, 3, 4, 5] rfl)
            · refine lv_aload_n hx hb dX5_part_90 rfl (lv_at hl 3 rfl) ?_
              refine lv_iload_n hx hb dX5_part_91 rfl (lv_at hl 4 rfl) ?_
              refine x_iconst hx hb dX5_part_92 ?_
              refine x_isub hx hb dX5_part_93 ?_
              refine lv_iload_n hx hb dX5_part_94 rfl (lv_at hl 4 rfl) ?_
              refine x_ci (va_runV (As := [.int (iI (h - 1)), .int (iI (h))]) (rest := []) ⟨hx, hb, hml, hown, hts⟩ (c_X5_suit l g (M_3, σ.2) (wz) (uz) (hz) (mz) hp13 (na) (ra) f_4 Ga ⟨hqa0, hqa1, hqa2⟩ ost_5 hH (17 + (h - 1).toNat) h16 (h - 1) (by omega) (h) (by omega) rfl (Su (h - 1)) ((hfr _ (by omega)).trans (hsr (h - 1) (by omega) (by omega))) (fun k => hSr _ k) (by omega)) (cwV 2 hts gX5_part_X5_suit rfl rfl rfl (by decide +kernel) ⟨Nat.le_of_ble_eq_true rfl, Nat.le_of_ble_eq_true rfl⟩) (x_preV hK hP (x_recv hK hP (i := 13) (by decide) hp13 rfl)) rfl rfl hl.1 rfl (lv_room (Nat.le_of_ble_eq_true rfl)) dX5_part_95 ⟨Nat.le_of_ble_eq_true rfl, Nat.le_of_ble_eq_true rfl⟩) (fun r_95 hr_95 qr_95 => ?_)
              replace qr_95 : (r_95 = 1 ∧ zBt (Su (h - 1) (f_4 (h - 1))) (f_4 (h))) ∨ (r_95 = 0 ∧ ¬ zBt (Su (h - 1) (f_4 (h - 1))) (f_4 (h))) := qr_95
              have hTg : f_4 (h - 1) = Pa (h - 1) := by omega
              have hsz : zBt (Su (h - 1) (Pa (h - 1))) p9 ↔ zPr (sK σ Ga) (sF σ Ga) (h - 1) h (Pa (h - 1)) p9 := by (have e0 : zBehind na ra (h - 1) = h := (by (unfold zBehind; rw [if_pos (by omega)]; omega)); have z := hsu (h - 1) (by omega) (by omega) (by rw [e0]; omega) (Pa (h - 1)) p9 (by omega) (by omega) (by omega); rw [e0] at z; exact z)
              rw [hTg, hTh] at qr_95
              refine x_if_eq (tgt := 112) hx hb (by omega) dX5_part_98 (by decide) (fun c_98 => ?_) (fun c_98 => ?_)
              · have hnP : ¬ zPr (sK σ Ga) (sF σ Ga) (h - 1) h (Pa (h - 1)) p9 := by (rw [← hsz]; rcases qr_95 with q | q; omega; exact q.2)
                refine x_iinc (k0 := 0) (lv' := [(5, .int (iI (p9 + 1))), (4, .int (iI (1))), (3, .int (iI (lf - ((na - 1) - h)))), (0, .ref (g.2.2 13)), (1, .int (iI (h))), (2, .int (iI (lf)))]) hx hb dX5_part_112 hl rfl (by decide) rfl (fun ls hl => ?_)
                refine lv_goto (tgt := 69) hx hb dX5_part_115 (by decide) ?_
                exact ih_2 (f_4) (wz) (uz) (hz) (mz) (Rz) (p9 + 1) (by omega) (by exact ost_5) (by (intro i a b; rw [hTf i, upI_n (by omega)]; exact hpr i a b)) (by omega) (by omega) (by omega) (by (have e : (fun o => zFold (fun p q => zParts (zNote (sK σ Ga) (sF σ Ga) Wb na ra o) (na - (h + 1)).toNat (h + 1) (lf - p) (upI Pa h p) q) (zLst (na - 1 - h) lf) (Q o) ((p9 + 1) - zLst (na - 1 - h) lf).toNat) = (fun o => zFold (fun p q => zParts (zNote (sK σ Ga) (sF σ Ga) Wb na ra o) (na - (h + 1)).toNat (h + 1) (lf - p) (upI Pa h p) q) (zLst (na - 1 - h) lf) (Q o) (p9 - zLst (na - 1 - h) lf).toNat) := funext (fun o => by (rw [zFold_succ _ _ hp0]; exact zParts_bad2 _ (by omega) (by omega) (by rw [upI_n (by omega), upI_s]; exact hnP)))); rw [e]; exact hR) (M_3) _ _ hp13 h15 hqa0 hqa1 hqa2 h14 h16 hfr hP hD hS ls (lv_sub hl [0, 1, 2, 3, 4, 5] rfl)
              · have hyP : h = 0 ∨ zPr (sK σ Ga) (sF σ Ga) (h - 1) h (T (h - 1)) p9 := by (right; rw [hpr (h - 1) (by omega) (by omega), ← hsz]; rcases qr_95 with q | q; exact q.2; omega)
                refine lv_aload_n hx hb dX5_part_101 rfl (lv_at hl 3 rfl) ?_
                refine lv_iload_n hx hb dX5_part_102 rfl (lv_at hl 4 rfl) ?_
                refine x_iconst hx hb dX5_part_103 ?_
                refine x_iadd hx hb dX5_part_104 ?_
                refine lv_iload_n hx hb dX5_part_105 rfl (lv_at hl 5 rfl) ?_
                refine lv_iload hx hb dX5_part_106 (lv_at hl 0 rfl) ?_
                refine x_isub hx hb dX5_part_108 ?_
                refine x_cqv0 (va_runV (As := [.int (iI (h + 1)), .int (iI (lf - p9))]) (rest := []) ⟨hx, hb, hml, hown, hts⟩ (c_X5_part4 l g (M_3, σ.2) A (wz) (uz) (hz) (mz) hp13 (na) (ra) f_4 Ga ⟨hqa0, hqa1, hqa2⟩ ost_5 hH Wb h15 hWb hn6 Rz h14 Su h16 (fun d a b => (hfr _ (by omega)).trans (hsr d a b)) hSr c0 hc0 hsu (fun o => zFold (fun p q => zParts (zNote (sK σ Ga) (sF σ Ga) Wb na ra o) (na - (h + 1)).toNat (h + 1) (lf - p) (upI Pa h p) q) (zLst (na - 1 - h) lf) (Q o) (p9 - zLst (na - 1 - h) lf).toNat) hR (h + 1) (by omega) (lf - p9) (by omega) (zPart_room (zNote_ways (sK σ Ga) (sF σ Ga) Wb na ra 0) hh.1 (by omega) (by omega) hp0 (by omega) (hQ.2.2.2.2.2 0).1 (hR.2.2.2.2.2 0).1 hwr) (by rw [hf_4]; exact zPth_go hpT hh.1 (by omega) (by omega) (by omega) hyP)) (cwV 2 hts gX5_part_X5_part rfl rfl rfl (by decide +kernel) ⟨Nat.le_of_ble_eq_true rfl, Nat.le_of_ble_eq_true rfl⟩) (x_preVQ hK hP hD hS hA (x_recv hK hP (i := 13) (by decide) hp13 rfl)) rfl rfl hl.1 rfl (lv_room (Nat.le_of_ble_eq_true rfl)) dX5_part_109 ⟨by decide, by decide⟩) hS (fun σ1 H locs hpost hP hD hS => ?_)
                obtain ⟨M_14, p1⟩ := σ1
                obtain ⟨hp0, hfrc, wn_15, un_16, hn_17, mn_18, T_20, Rn_19, hn13, hn12, hn14, ost_21, hnT, hnQ⟩ := hpost
                obtain rfl : p1 = σ.2 := hp0
                have hP : xP g (M_14, σ.2) H := hP
                have hD : xD g A (M_14, σ.2) := hD
                have h15 := (hfrc (15) (by omega)).trans h15
                have hqa0 := (hfrc (10) (by omega)).trans hqa0
                have hqa1 := (hfrc (11) (by omega)).trans hqa1
                have h16 := (hfrc (16) (by omega)).trans h16
                have hfr := x_frc (F := fun j => j ≠ 12 ∧ j ≠ 13 ∧ j ≠ 14) hfr hfrc (fun j h => by have h : j ≠ 12 ∧ j ≠ 13 ∧ j ≠ 14 := h; omega)
                have hp13 : PObj g M_14 wn_15 un_16 hn_17 mn_18 := hn13
                have h14 : MArr g M_14 14 6 Rn_19 := hn14
                have hqa2 : MArr g M_14 12 9 T_20 := hn12
                replace hnQ : zRl na wn_15 un_16 hn_17 mn_18 Rn_19 (fun o => zParts (zNote (sK σ Ga) (sF σ Ga) Wb na ra o) (na - (h + 1)).toNat (h + 1) (lf - p9) f_4 ((fun o => zFold (fun p q => zParts (zNote (sK σ Ga) (sF σ Ga) Wb na ra o) (na - (h + 1)).toNat (h + 1) (lf - p) (upI Pa h p) q) (zLst (na - 1 - h) lf) (Q o) (p9 - zLst (na - 1 - h) lf).toNat) o)) := hnQ
                refine x_iinc (k0 := 0) (lv' := [(5, .int (iI (p9 + 1))), (4, .int (iI (1))), (3, .int (iI (lf - ((na - 1) - h)))), (0, .ref (g.2.2 13)), (1, .int (iI (h))), (2, .int (iI (lf)))]) hx hb dX5_part_112 hl rfl (by decide) rfl (fun ls hl => ?_)
                refine lv_goto (tgt := 69) hx hb dX5_part_115 (by decide) ?_
                exact ih_2 (T_20) (wn_15) (un_16) (hn_17) (mn_18) (Rn_19) (p9 + 1) (by omega) (by exact ost_21) (by (intro i a b; rw [hnT i a (by omega), hTf i, upI_n (by omega)]; exact hpr i a b)) (by omega) (by omega) (by omega) (by (have e : (fun o => zFold (fun p q => zParts (zNote (sK σ Ga) (sF σ Ga) Wb na ra o) (na - (h + 1)).toNat (h + 1) (lf - p) (upI Pa h p) q) (zLst (na - 1 - h) lf) (Q o) ((p9 + 1) - zLst (na - 1 - h) lf).toNat) = (fun o => zParts (zNote (sK σ Ga) (sF σ Ga) Wb na ra o) (na - (h + 1)).toNat (h + 1) (lf - p9) f_4 ((fun o => zFold (fun p q => zParts (zNote (sK σ Ga) (sF σ Ga) Wb na ra o) (na - (h + 1)).toNat (h + 1) (lf - p) (upI Pa h p) q) (zLst (na - 1 - h) lf) (Q o) (p9 - zLst (na - 1 - h) lf).toNat) o)) := funext (fun o => by (rw [zFold_succ _ _ hp0]; exact zParts_congr (zNote_local (fun _ _ _ => rfl)) _ _ _ _ _ _ (by omega) hT9))); rw [e]; exact hnQ) (M_14) _ _ hp13 h15 hqa0 hqa1 hqa2 h14 h16 hfr hP hD hS ls (lv_sub hl [0, 1, 2, 3, 4, 5] rfl)
      exact hloop_69 ((((40 : Int) - ((q_1))).toNat) + 1) (Pa) (wy) (un) (hd9) (mv) (Rc) ((q_1)) (by omega) (by exact hoa) (by exact fun _ _ _ => rfl) (by omega) (by omega) (by omega) (by (have e : (fun o => zFold (fun p q => zParts (zNote (sK σ Ga) (sF σ Ga) Wb na ra o) (na - (h + 1)).toNat (h + 1) (lf - p) (upI Pa h p) q) (zLst (na - 1 - h) lf) (Q o) ((q_1) - zLst (na - 1 - h) lf).toNat) = Q := funext (fun o => zFold_0 _ _ (by omega))); rw [e]; exact hQ) (σ.1) _ _ hp13 h15 hqa0 hqa1 hqa2 h14 h16 hfr hP hD hS ls (lv_sub hl [0, 1, 2, 3, 4, 5] rfl)
    · refine lv_iload_n hx hb dX5_part_54 rfl (lv_at hl 3 rfl) ?_
      refine lv_goto (tgt := 59) hx hb dX5_part_55 (by decide) ?_
      refine lv_istore (lv' := [(4, .int (iI (lf))), (3, .int (iI (lf - ((na - 1) - h)))), (0, .ref (g.2.2 13)), (1, .int (iI (h))), (2, .int (iI (lf)))]) hx hb dX5_part_59 hl (by decide) rfl (fun ls hl => ?_)
      refine x_iconst hx hb dX5_part_61 ?_
      refine lv_iload hx hb dX5_part_62 (lv_at hl 0 rfl) ?_
      refine x_max hx hb (hml.trans hl.1.symm) hown hw_4 hw_5 hw_6 hw_7 (Nat.le_of_ble_eq_true rfl) (Nat.le_of_ble_eq_true rfl) (Nat.le_of_ble_eq_true rfl) (Nat.le_of_ble_eq_true rfl) (by omega) (by omega) dX5_part_64 (fun q_22 hq_22 => ?_)
      have hls : zLst (na - 1 - h) lf = (q_22) := by (unfold zLst; split <;> omega)
      refine lv_istore (lv' := [(5, .int (iI (q_22))), (4, .int (iI (lf))), (3, .int (iI (lf - ((na - 1) - h)))), (0, .ref (g.2.2 13)), (1, .int (iI (h))), (2, .int (iI (lf)))]) hx hb dX5_part_67 hl (by decide) rfl (fun ls hl => ?_)
      have hloop_69 : ∀ (k : Nat) (T : Int → Int) (wz : Int) (uz : Int) (hz : Int) (mz : Int) (Rz : Int → Int) (p9 : Int), ((40 : Int) - p9).toNat < k → (hTo : StOk σ na ra T Ga) → (hpr : ∀ i, 0 ≤ i → i < h → T i = Pa i) → (hp0 : zLst (na - 1 - h) lf ≤ p9) → (hp1 : p9 = zLst (na - 1 - h) lf ∨ p9 ≤ lf - (na - 1 - h) + 1) → (hp2 : 1 ≤ p9 ∧ p9 ≤ 21) → (hR : zRl na wz uz hz mz Rz (fun o => zFold (fun p q => zParts (zNote (sK σ Ga) (sF σ Ga) Wb na ra o) (na - (h + 1)).toNat (h + 1) (lf - p) (upI Pa h p) q) (zLst (na - 1 - h) lf) (Q o) (p9 - zLst (na - 1 - h) lf).toNat)) → ∀ (M : xM) (H : Heap) (locs : List Loc), (hp13 : M (13) = .inr (5, [.int (iI (wz)), .int (iI (uz)), .int (iI (hz)), .int (iI (mz)), .ref (g.2.2 14), .ref (g.2.2 10), .ref (g.2.2 15), .ref (g.2.2 16)])) → (h15 : M (15) = .inl (g.2.1 0, 6, .inl (fun k => iI (Wb (k : Int))))) → (hqa0 : M (10) = .inr (7, [.ref (g.2.2 11), .ref (g.2.2 12), .int (iI (na)), .int (iI (ra))])) → (hqa1 : M (11) = .inl (g.2.1 1, 9, .inr (.inr (.inr (.inr (fun k => Ga (k : Int))))))) → (hqa2 : M (12) = .inl (g.2.1 0, 9, .inl (fun k => iI (T (k : Int))))) → (h14 : M (14) = .inl (g.2.1 0, 6, .inl (fun k => iI (Rz (k : Int))))) → (h16 : M (16) = .inl (g.2.1 2, 6, .inr (.inr (.inr (.inr (fun k => xGs g (k : Int))))))) → (hfr : ∀ j, (j ≠ 12 ∧ j ≠ 13 ∧ j ≠ 14) → M j = σ.1 j) → xP g (M, σ.2) H → xD g A (M, σ.2) → va_S A s.heap H locs → ∀ (ls : Array Slot), lv_has ls 6 [(5, .int (iI (p9))), (4, .int (iI (lf))), (3, .int (iI (lf - ((na - 1) - h)))), (0, .ref (g.2.2 13)), (1, .int (iI (h))), (2, .int (iI (lf)))] → W p l e (headSpec wsX5_part ({ frames := 10, cells := 0, slots := 0, locals := 320 })).room s m ([.ref (g.2.2 13), .int (iI (h)), .int (iI (lf))] : List Value).toArray below meth c H locs 0 0 (MQ below (x_Qv g A (fun σ1 => σ1.2 = σ.2 ∧ (∀ j, j ≠ 12 ∧ j ≠ 13 ∧ j ≠ 14 → σ1.1 j = σ.1 j) ∧ ∃ wy2 un2 hd2 mv2 T Rc2, PObj g σ1.1 wy2 un2 hd2 mv2 ∧ MArr g σ1.1 12 9 T ∧ MArr g σ1.1 14 6 Rc2 ∧ StOk σ na ra T Ga ∧ (∀ i, 0 ≤ i → i < h → T i = Pa i) ∧ zRl na wy2 un2 hd2 mv2 Rc2 (fun o => zParts (zNote (sK σ Ga) (sF σ Ga) Wb na ra o) (na - h).toNat h lf Pa (Q o)))) ([.ref (g.2.2 13), .int (iI (h)), .int (iI (lf))] : List Value).toArray s (0) (0) A) (F0 m 69 ls []) := by
        intro k
        induction k with
        | zero =>
          intros; exact absurd (by assumption) (Nat.not_lt_zero _)
        | succ k ih =>
          intro T wz uz hz mz Rz p9 hmeas hTo hpr hp0 hp1 hp2 hR M H locs hp13 h15 hqa0 hqa1 hqa2 h14 h16 hfr hP hD hS ls hl
          have ih_23 := ih
          refine lv_iload hx hb dX5_part_69 (lv_at hl 0 rfl) ?_
          refine lv_iload_n hx hb dX5_part_71 rfl (lv_at hl 2 rfl) ?_
          refine x_icmp_gt (tgt := 118) hx hb (by omega) (by omega) dX5_part_72 (by decide) (fun c_72 => ?_) (fun c_72 => ?_)
          · refine x_retQv hx hb hr ?_ hP hD hS dX5_part_118 hlocks
            refine ⟨rfl, hfr, _, _, _, _, _, _, hp13, hqa2, h14, hTo, hpr, ?_⟩
            have e : (fun o => zParts (zNote (sK σ Ga) (sF σ Ga) Wb na ra o) (na - h).toNat h lf Pa (Q o)) = (fun o => zFold (fun p q => zParts (zNote (sK σ Ga) (sF σ Ga) Wb na ra o) (na - (h + 1)).toNat (h + 1) (lf - p) (upI Pa h p) q) (zLst (na - 1 - h) lf) (Q o) (p9 - zLst (na - 1 - h) lf).toNat) := funext (fun o => by (rw [zParts_step _ _ _ _ (by omega), show (lf - (na - 1 - h) + 1 - zLst (na - 1 - h) lf).toNat = (p9 - zLst (na - 1 - h) lf).toNat by omega]))
            rw [e]; exact hR
          · refine lv_aload_n hx hb dX5_part_75 rfl (lv_at hl 3 rfl) ?_
            refine x_get (C := RX5) (T := TX5) (N := 8) hx hb hts hin_X5 hown hK hP (13) (by decide) hp13 rfl 5 (by decide) hw_0 (fun _ h9 => h9) rfl dX5_part_76 ?_
            refine x_get (C := RX7) (T := TX7) (N := 4) hx hb hts hin_X7 hown hK hP (10) (by decide) hqa0 rfl 1 (by decide) hw_8 (fun _ h9 => h9) rfl dX5_part_79 ?_
            refine lv_iload_n hx hb dX5_part_82 rfl (lv_at hl 4 rfl) ?_
            refine lv_iload hx hb dX5_part_83 (lv_at hl 0 rfl) ?_
            refine x_iast (f := T) hx hb hK hP hD hS (12) (by decide) hqa2 (by omega) (by omega) (by decide) dX5_part_85 (fun M_24 H locs hnew hne hP hD hS => ?_)
            obtain ⟨f_25, hf_25⟩ : ∃ q : Int → Int, q = (upI T (h) (p9)) := ⟨_, rfl⟩
            rw [← hf_25] at hnew
            have hP : xP g (M_24, σ.2) H := hP
            have hD : xD g A (M_24, σ.2) := hD
            have hqa2 : M_24 (12) = .inl (g.2.1 0, 9, .inl (fun k => iI (f_25 (k : Int)))) := hnew
            have hp13 := (hne (13) (by decide)).trans hp13
            have h15 := (hne (15) (by decide)).trans h15
            have hqa0 := (hne (10) (by decide)).trans hqa0
            have hqa1 := (hne (11) (by decide)).trans hqa1
            have h14 := (hne (14) (by decide)).trans h14
            have h16 := (hne (16) (by decide)).trans h16
            have hfr := x_fr (F := fun j => j ≠ 12 ∧ j ≠ 13 ∧ j ≠ 14) hfr hne (fun j h => by have h : j ≠ 12 ∧ j ≠ 13 ∧ j ≠ 14 := h; omega)
            have ost_26 : StOk σ (na) (ra) f_25 Ga := by (rw [hf_25]; exact StOk_purse hTo (by omega))
            have hTf : ∀ i, f_25 i = upI T h p9 i := fun i => by (rw [hf_25])
            have hT9 : ∀ i, 0 ≤ i → i < h + 1 → upI Pa h p9 i = f_25 i := fun i a b => by (rw [hTf i]; unfold upI; split; (rfl); exact (hpr i a (by omega)).symm)
            have hpT := zPth_congr hpth hpr
            have hTh : f_25 h = p9 := by (rw [hTf, upI_s])
            have hTg : f_25 (h - 1) = Pa (h - 1) ∨ h = 0 := by (by_cases e9 : h = 0; (exact Or.inr e9); (left; rw [hTf, upI_n (by omega)]; exact hpr _ (by omega) (by omega)))
            have hb1 : h ≠ 0 → 1 ≤ Pa (h - 1) ∧ Pa (h - 1) + lf ≤ c0 := fun q => hpth.1 (h - 1) (by omega) (by omega)
            refine lv_iload_n hx hb dX5_part_86 rfl (lv_at hl 4 rfl) ?_
            refine x_if_eq (tgt := 101) hx hb (by omega) dX5_part_87 (by decide) (fun c_87 => ?_) (fun c_87 => ?_)
            · have hyP : h = 0 ∨ zPr (sK σ Ga) (sF σ Ga) (h - 1) h (T (h - 1)) p9 := by (left; omega)
              refine lv_aload_n hx hb dX5_part_101 rfl (lv_at hl 3 rfl) ?_
              refine lv_iload_n hx hb dX5_part_102 rfl (lv_at hl 4 rfl) ?_
              refine x_iconst hx hb dX5_part_103 ?_
              refine x_iadd hx hb dX5_part_104 ?_
              refine lv_iload_n hx hb dX5_part_105 rfl (lv_at hl 5 rfl) ?_
              refine lv_iload hx hb dX5_part_106 (lv_at hl 0 rfl) ?_
              refine x_isub hx hb dX5_part_108 ?_
              refine x_cqv0 (va_runV (As := [.int (iI (h + 1)), .int (iI (lf - p9))]) (rest := []) ⟨hx, hb, hml, hown, hts⟩ (c_X5_part4 l g (M_24, σ.2) A (wz) (uz) (hz) (mz) hp13 (na) (ra) f_25 Ga ⟨hqa0, hqa1, hqa2⟩ ost_26 hH Wb h15 hWb hn6 Rz h14 Su h16 (fun d a b => (hfr _ (by omega)).trans (hsr d a b)) hSr c0 hc0 hsu (fun o => zFold (fun p q => zParts (zNote (sK σ Ga) (sF σ Ga) Wb na ra o) (na - (h + 1)).toNat (h + 1) (lf - p) (upI Pa h p) q) (zLst (na - 1 - h) lf) (Q o) (p9 - zLst (na - 1 - h) lf).toNat) hR (h + 1) (by omega) (lf - p9) (by omega) (zPart_room (zNote_ways (sK σ Ga) (sF σ Ga) Wb na ra 0) hh.1 (by omega) (by omega) hp0 (by omega) (hQ.2.2.2.2.2 0).1 (hR.2.2.2.2.2 0).1 hwr) (by rw [hf_25]; exact zPth_go hpT hh.1 (by omega) (by omega) (by omega) hyP)) (cwV 2 hts gX5_part_X5_part rfl rfl rfl (by decide +kernel) ⟨Nat.le_of_ble_eq_true rfl, Nat.le_of_ble_eq_true rfl⟩) (x_preVQ hK hP hD hS hA (x_recv hK hP (i := 13) (by decide) hp13 rfl)) rfl rfl hl.1 rfl (lv_room (Nat.le_of_ble_eq_true rfl)) dX5_part_109 ⟨by decide, by decide⟩) hS (fun σ1 H locs hpost hP hD hS => ?_)
              obtain ⟨M_27, p1⟩ := σ1
              obtain ⟨hp0, hfrc, wn_28, un_29, hn_30, mn_31, T_33, Rn_32, hn13, hn12, hn14, ost_34, hnT, hnQ⟩ := hpost
              obtain rfl : p1 = σ.2 := hp0
              have hP : xP g (M_27, σ.2) H := hP
              have hD : xD g A (M_27, σ.2) := hD
              have h15 := (hfrc (15) (by omega)).trans h15
              have hqa0 := (hfrc (10) (by omega)).trans hqa0
              have hqa1 := (hfrc (11) (by omega)).trans hqa1
              have h16 := (hfrc (16) (by omega)).trans h16
              have hfr := x_frc (F := fun j => j ≠ 12 ∧ j ≠ 13 ∧ j ≠ 14) hfr hfrc (fun j h => by have h : j ≠ 12 ∧ j ≠ 13 ∧ j ≠ 14 := h; omega)
              have hp13 : PObj g M_27 wn_28 un_29 hn_30 mn_31 := hn13
              have h14 : MArr g M_27 14 6 Rn_32 := hn14
              have hqa2 : MArr g M_27 12 9 T_33 := hn12
              replace hnQ : zRl na wn_28 un_29 hn_30 mn_31 Rn_32 (fun o => zParts (zNote (sK σ Ga) (sF σ Ga) Wb na ra o) (na - (h + 1)).toNat (h + 1) (lf - p9) f_25 ((fun o => zFold (fun p q => zParts (zNote (sK σ Ga) (sF σ Ga) Wb na ra o) (na - (h + 1)).toNat (h + 1) (lf - p) (upI Pa h p) q) (zLst (na - 1 - h) lf) (Q o) (p9 - zLst (na - 1 - h) lf).toNat) o)) := hnQ
              refine x_iinc (k0 := 0) (lv' := [(5, .int (iI (p9 + 1))), (4, .int (iI (lf))), (3, .int (iI (lf - ((na - 1) - h)))), (0, .ref (g.2.2 13)), (1, .int (iI (h))), (2, .int (iI (lf)))]) hx hb dX5_part_112 hl rfl (by decide) rfl (fun ls hl => ?_)
              refine lv_goto (tgt := 69) hx hb dX5_part_115 (by decide) ?_
              exact ih_23 (T_33) (wn_28) (un_29) (hn_30) (mn_31) (Rn_32) (p9 + 1) (by omega) (by exact ost_34) (by (intro i a b; rw [hnT i a (by omega), hTf i, upI_n (by omega)]; exact hpr i a b)) (by omega) (by omega) (by omega) (by (have e : (fun o => zFold (fun p q => zParts (zNote (sK σ Ga) (sF σ Ga) Wb na ra o) (na - (h + 1)).toNat (h + 1) (lf - p) (upI Pa h p) q) (zLst (na - 1 - h) lf) (Q o) ((p9 + 1) - zLst (na - 1 - h) lf).toNat) = (fun o => zParts (zNote (sK σ Ga) (sF σ Ga) Wb na ra o) (na - (h + 1)).toNat (h + 1) (lf - p9) f_25 ((fun o => zFold (fun p q => zParts (zNote (sK σ Ga) (sF σ Ga) Wb na ra o) (na - (h + 1)).toNat (h + 1) (lf - p) (upI Pa h p) q) (zLst (na - 1 - h) lf) (Q o) (p9 - zLst (na - 1 - h) lf).toNat) o)) := funext (fun o => by (rw [zFold_succ _ _ hp0]; exact zParts_congr (zNote_local (fun _ _ _ => rfl)) _ _ _ _ _ _ (by omega) hT9))); rw [e]; exact hnQ) (M_27) _ _ hp13 h15 hqa0 hqa1 hqa2 h14 h16 hfr hP hD hS ls (lv_sub hl [0, 1, 2, 3, 4, 5] rfl)
            · refine lv_aload_n hx hb dX5_part_90 rfl (lv_at hl 3 rfl) ?_
              refine lv_iload_n hx hb dX5_part_91 rfl (lv_at hl 4 rfl) ?_
              refine x_iconst hx hb dX5_part_92 ?_
              refine x_isub hx hb dX5_part_93 ?_
              refine lv_iload_n hx hb dX5_part_94 rfl (lv_at hl 4 rfl) ?_
              refine x_ci (va_runV (As := [.int (iI (h - 1)), .int (iI (h))]) (rest := []) ⟨hx, hb, hml, hown, hts⟩ (c_X5_suit l g (M_24, σ.2) (wz) (uz) (hz) (mz) hp13 (na) (ra) f_25 Ga ⟨hqa0, hqa1, hqa2⟩ ost_26 hH (17 + (h - 1).toNat) h16 (h - 1) (by omega) (h) (by omega) rfl (Su (h - 1)) ((hfr _ (by omega)).trans (hsr (h - 1) (by omega) (by omega))) (fun k => hSr _ k) (by omega)) (cwV 2 hts gX5_part_X5_suit rfl rfl rfl (by decide +kernel) ⟨Nat.le_of_ble_eq_true rfl, Nat.le_of_ble_eq_true rfl⟩) (x_preV hK hP (x_recv hK hP (i := 13) (by decide) hp13 rfl)) rfl rfl hl.1 rfl (lv_room (Nat.le_of_ble_eq_true rfl)) dX5_part_95 ⟨Nat.le_of_ble_eq_true rfl, Nat.le_of_ble_eq_true rfl⟩) (fun r_95 hr_95 qr_95 => ?_)
              replace qr_95 : (r_95 = 1 ∧ zBt (Su (h - 1) (f_25 (h - 1))) (f_25 (h))) ∨ (r_95 = 0 ∧ ¬ zBt (Su (h - 1) (f_25 (h - 1))) (f_25 (h))) := qr_95
              have hTg : f_25 (h - 1) = Pa (h - 1) := by omega
              have hsz : zBt (Su (h - 1) (Pa (h - 1))) p9 ↔ zPr (sK σ Ga) (sF σ Ga) (h - 1) h (Pa (h - 1)) p9 := by (have e0 : zBehind na ra (h - 1) = h := (by (unfold zBehind; rw [if_pos (by omega)]; omega)); have z := hsu (h - 1) (by omega) (by omega) (by rw [e0]; omega) (Pa (h - 1)) p9 (by omega) (by omega) (by omega); rw [e0] at z; exact z)
              rw [hTg, hTh] at qr_95
              refine x_if_eq (tgt := 112) hx hb (by omega) dX5_part_98 (by decide) (fun c_98 => ?_) (fun c_98 => ?_)
              · have hnP : ¬ zPr (sK σ Ga) (sF σ Ga) (h - 1) h (Pa (h - 1)) p9 := by (rw [← hsz]; rcases qr_95 with q | q; omega; exact q.2)
                refine x_iinc (k0 := 0) (lv' := [(5, .int (iI (p9 + 1))), (4, .int (iI (lf))), (3, .int (iI (lf - ((na - 1) - h)))), (0, .ref (g.2.2 13)), (1, .int (iI (h))), (2, .int (iI (lf)))]) hx hb dX5_part_112 hl rfl (by decide) rfl (fun ls hl => ?_)
                refine lv_goto (tgt := 69) hx hb dX5_part_115 (by decide) ?_
                exact ih_23 (f_25) (wz) (uz) (hz) (mz) (Rz) (p9 + 1) (by omega) (by exact ost_26) (by (intro i a b; rw [hTf i, upI_n (by omega)]; exact hpr i a b)) (by omega) (by omega) (by omega) (by (have e : (fun o => zFold (fun p q => zParts (zNote (sK σ Ga) (sF σ Ga) Wb na ra o) (na - (h + 1)).toNat (h + 1) (lf - p) (upI Pa h p) q) (zLst (na - 1 - h) lf) (Q o) ((p9 + 1) - zLst (na - 1 - h) lf).toNat) = (fun o => zFold (fun p q => zParts (zNote (sK σ Ga) (sF σ Ga) Wb na ra o) (na - (h + 1)).toNat (h + 1) (lf - p) (upI Pa h p) q) (zLst (na - 1 - h) lf) (Q o) (p9 - zLst (na - 1 - h) lf).toNat) := funext (fun o => by (rw [zFold_succ _ _ hp0]; exact zParts_bad2 _ (by omega) (by omega) (by rw [upI_n (by omega), upI_s]; exact hnP)))); rw [e]; exact hR) (M_24) _ _ hp13 h15 hqa0 hqa1 hqa2 h14 h16 hfr hP hD hS ls (lv_sub hl [0, 1, 2, 3, 4, 5] rfl)
              · have hyP : h = 0 ∨ zPr (sK σ Ga) (sF σ Ga) (h - 1) h (T (h - 1)) p9 := by (right; rw [hpr (h - 1) (by omega) (by omega), ← hsz]; rcases qr_95 with q | q; exact q.2; omega)
                refine lv_aload_n hx hb dX5_part_101 rfl (lv_at hl 3 rfl) ?_
                refine lv_iload_n hx hb dX5_part_102 rfl (lv_at hl 4 rfl) ?_
                refine x_iconst hx hb dX5_part_103 ?_
                refine x_iadd hx hb dX5_part_104 ?_
                refine lv_iload_n hx hb dX5_part_105 rfl (lv_at hl 5 rfl) ?_
                refine lv_iload hx hb dX5_part_106 (lv_at hl 0 rfl) ?_
                refine x_isub hx hb dX5_part_108 ?_
                refine x_cqv0 (va_runV (As := [.int (iI (h + 1)), .int (iI (lf - p9))]) (rest := []) ⟨hx, hb, hml, hown, hts⟩ (c_X5_part4 l g (M_24, σ.2) A (wz) (uz) (hz) (mz) hp13 (na) (ra) f_25 Ga ⟨hqa0, hqa1, hqa2⟩ ost_26 hH Wb h15 hWb hn6 Rz h14 Su h16 (fun d a b => (hfr _ (by omega)).trans (hsr d a b)) hSr c0 hc0 hsu (fun o => zFold (fun p q => zParts (zNote (sK σ Ga) (sF σ Ga) Wb na ra o) (na - (h + 1)).toNat (h + 1) (lf - p) (upI Pa h p) q) (zLst (na - 1 - h) lf) (Q o) (p9 - zLst (na - 1 - h) lf).toNat) hR (h + 1) (by omega) (lf - p9) (by omega) (zPart_room (zNote_ways (sK σ Ga) (sF σ Ga) Wb na ra 0) hh.1 (by omega) (by omega) hp0 (by omega) (hQ.2.2.2.2.2 0).1 (hR.2.2.2.2.2 0).1 hwr) (by rw [hf_25]; exact zPth_go hpT hh.1 (by omega) (by omega) (by omega) hyP)) (cwV 2 hts gX5_part_X5_part rfl rfl rfl (by decide +kernel) ⟨Nat.le_of_ble_eq_true rfl, Nat.le_of_ble_eq_true rfl⟩) (x_preVQ hK hP hD hS hA (x_recv hK hP (i := 13) (by decide) hp13 rfl)) rfl rfl hl.1 rfl (lv_room (Nat.le_of_ble_eq_true rfl)) dX5_part_109 ⟨by decide, by decide⟩) hS (fun σ1 H locs hpost hP hD hS => ?_)
                obtain ⟨M_35, p1⟩ := σ1
                obtain ⟨hp0, hfrc, wn_36, un_37, hn_38, mn_39, T_41, Rn_40, hn13, hn12, hn14, ost_42, hnT, hnQ⟩ := hpost
                obtain rfl : p1 = σ.2 := hp0
                have hP : xP g (M_35, σ.2) H := hP
                have hD : xD g A (M_35, σ.2) := hD
                have h15 := (hfrc (15) (by omega)).trans h15
                have hqa0 := (hfrc (10) (by omega)).trans hqa0
                have hqa1 := (hfrc (11) (by omega)).trans hqa1
                have h16 := (hfrc (16) (by omega)).trans h16
                have hfr := x_frc (F := fun j => j ≠ 12 ∧ j ≠ 13 ∧ j ≠ 14) hfr hfrc (fun j h => by have h : j ≠ 12 ∧ j ≠ 13 ∧ j ≠ 14 := h; omega)
                have hp13 : PObj g M_35 wn_36 un_37 hn_38 mn_39 := hn13
                have h14 : MArr g M_35 14 6 Rn_40 := hn14
                have hqa2 : MArr g M_35 12 9 T_41 := hn12
                replace hnQ : zRl na wn_36 un_37 hn_38 mn_39 Rn_40 (fun o => zParts (zNote (sK σ Ga) (sF σ Ga) Wb na ra o) (na - (h + 1)).toNat (h + 1) (lf - p9) f_25 ((fun o => zFold (fun p q => zParts (zNote (sK σ Ga) (sF σ Ga) Wb na ra o) (na - (h + 1)).toNat (h + 1) (lf - p) (upI Pa h p) q) (zLst (na - 1 - h) lf) (Q o) (p9 - zLst (na - 1 - h) lf).toNat) o)) := hnQ
                refine x_iinc (k0 := 0) (lv' := [(5, .int (iI (p9 + 1))), (4, .int (iI (lf))), (3, .int (iI (lf - ((na - 1) - h)))), (0, .ref (g.2.2 13)), (1, .int (iI (h))), (2, .int (iI (lf)))]) hx hb dX5_part_112 hl rfl (by decide) rfl (fun ls hl => ?_)
                refine lv_goto (tgt := 69) hx hb dX5_part_115 (by decide) ?_
                exact ih_23 (T_41) (wn_36) (un_37) (hn_38) (mn_39) (Rn_40) (p9 + 1) (by omega) (by exact ost_42) (by (intro i a b; rw [hnT i a (by omega), hTf i, upI_n (by omega)]; exact hpr i a b)) (by omega) (by omega) (by omega) (by (have e : (fun o => zFold (fun p q => zParts (zNote (sK σ Ga) (sF σ Ga) Wb na ra o) (na - (h + 1)).toNat (h + 1) (lf - p) (upI Pa h p) q) (zLst (na - 1 - h) lf) (Q o) ((p9 + 1) - zLst (na - 1 - h) lf).toNat) = (fun o => zParts (zNote (sK σ Ga) (sF σ Ga) Wb na ra o) (na - (h + 1)).toNat (h + 1) (lf - p9) f_25 ((fun o => zFold (fun p q => zParts (zNote (sK σ Ga) (sF σ Ga) Wb na ra o) (na - (h + 1)).toNat (h + 1) (lf - p) (upI Pa h p) q) (zLst (na - 1 - h) lf) (Q o) (p9 - zLst (na - 1 - h) lf).toNat) o)) := funext (fun o => by (rw [zFold_succ _ _ hp0]; exact zParts_congr (zNote_local (fun _ _ _ => rfl)) _ _ _ _ _ _ (by omega) hT9))); rw [e]; exact hnQ) (M_35) _ _ hp13 h15 hqa0 hqa1 hqa2 h14 h16 hfr hP hD hS ls (lv_sub hl [0, 1, 2, 3, 4, 5] rfl)
      exact hloop_69 ((((40 : Int) - ((q_22))).toNat) + 1) (Pa) (wy) (un) (hd9) (mv) (Rc) ((q_22)) (by omega) (by exact hoa) (by exact fun _ _ _ => rfl) (by omega) (by omega) (by omega) (by (have e : (fun o => zFold (fun p q => zParts (zNote (sK σ Ga) (sF σ Ga) Wb na ra o) (na - (h + 1)).toNat (h + 1) (lf - p) (upI Pa h p) q) (zLst (na - 1 - h) lf) (Q o) ((q_22) - zLst (na - 1 - h) lf).toNat) = Q := funext (fun o => zFold_0 _ _ (by omega))); rw [e]; exact hQ) (σ.1) _ _ hp13 h15 hqa0 hqa1 hqa2 h14 h16 hfr hP hD hS ls (lv_sub hl [0, 1, 2, 3, 4, 5] rfl)
  · refine lv_iload_n hx hb dX5_part_11 rfl (lv_at hl 2 rfl) ?_
    refine x_if_ne (tgt := 26) hx hb (by omega) dX5_part_12 (by decide) (fun c_12 => ?_) (fun c_12 => ?_)
    · refine x_retQv hx hb hr ?_ hP hD hS dX5_part_26 hlocks
      refine ⟨rfl, hfr, _, _, _, _, _, _, hp13, hqa2, h14, hoa, fun _ _ _ => rfl, ?_⟩
      have e : (fun o => zParts (zNote (sK σ Ga) (sF σ Ga) Wb na ra o) (na - h).toNat h lf Pa (Q o)) = Q := funext (fun o => by (rw [zParts_end _ _ _ _ (by omega), if_neg (by omega)]))
      rw [e]; exact hQ
    · have hna : h = na := by omega
      have hlz : zAll (sK σ Ga) (sF σ Ga) Pa na ra = 0 ↔ (ra = 1 ∧ 3 ≤ na → zBt (Su (na - 1) (Pa (na - 1))) (Pa (0))) := by (rw [zAll_leaf hok1a hP99 (by rw [← hna]; exact hpth.2.2)]; refine imp_congr_right (fun hc => ?_); have e0 : zBehind na ra (na - 1) = 0 := (by (unfold zBehind; rw [if_neg (by omega), if_pos hc])); have z := hsu (na - 1) (by omega) (by omega) (by rw [e0]; omega) (Pa (na - 1)) (Pa 0) (hpth.1 (na - 1) (by omega) (by omega)).1 (hpth.1 0 (by omega) (by omega)).1 (by have z2 := hpth.2.1 (na - 1) 0 (by omega) (by omega) (by omega) (by omega) (by omega); omega); rw [e0] at z; exact z.symm)
      refine lv_aload_n hx hb dX5_part_15 rfl (lv_at hl 0 rfl) ?_
      refine x_ci (va_runV (As := []) (rest := []) ⟨hx, hb, hml, hown, hts⟩ (c_X5_isClosedWell l g σ (wy) (un) (hd9) (mv) hp13 (na) (ra) Pa Ga ⟨hqa0, hqa1, hqa2⟩ hoa hH Su h16 hsr hSr hn6 (fun i a b => by have z1 := hpth.1 i a (by omega); omega)) (cwV 0 hts gX5_part_X5_isClosedWell rfl rfl rfl (by decide +kernel) ⟨Nat.le_of_ble_eq_true rfl, Nat.le_of_ble_eq_true rfl⟩) (x_preV hK hP (x_recv hK hP (i := 13) (by decide) hp13 rfl)) rfl rfl hl.1 rfl (lv_room (Nat.le_of_ble_eq_true rfl)) dX5_part_16 ⟨Nat.le_of_ble_eq_true rfl, Nat.le_of_ble_eq_true rfl⟩) (fun r_16 hr_16 qr_16 => ?_)
      replace qr_16 : (r_16 = 1 ∧ (ra = 1 ∧ 3 ≤ na → zBt (Su (na - 1) (Pa (na - 1))) (Pa (0)))) ∨ (r_16 = 0 ∧ (ra = 1 ∧ 3 ≤ na) ∧ ¬ zBt (Su (na - 1) (Pa (na - 1))) (Pa (0))) := qr_16
      refine x_if_eq (tgt := 26) hx hb (by omega) dX5_part_19 (by decide) (fun c_19 => ?_) (fun c_19 => ?_)
      · have hnz : ¬ zAll (sK σ Ga) (sF σ Ga) Pa na ra = 0 := by (rw [hlz]; rcases qr_16 with q | q; omega; exact fun q2 => q.2.2 (q2 q.2.1))
        refine x_retQv hx hb hr ?_ hP hD hS dX5_part_26 hlocks
        refine ⟨rfl, hfr, _, _, _, _, _, _, hp13, hqa2, h14, hoa, fun _ _ _ => rfl, ?_⟩
        have e : (fun o => zParts (zNote (sK σ Ga) (sF σ Ga) Wb na ra o) (na - h).toNat h lf Pa (Q o)) = Q := funext (fun o => by (rw [zParts_end _ _ _ _ (by omega), if_pos (by omega)]; unfold zNote; rw [if_pos hnz]))
        rw [e]; exact hQ
      · have hz0 : zAll (sK σ Ga) (sF σ Ga) Pa na ra = 0 := by (rw [hlz]; rcases qr_16 with q | q; exact q.2; omega)
        have hzb := zB_pos (na - h).toNat
        have hzb1 : zB (na - h).toNat = 1 := by (rw [show (na - h).toNat = 0 by omega]; rfl)
        refine lv_aload_n hx hb dX5_part_22 rfl (lv_at hl 0 rfl) ?_
        refine x_cqv0 (va_runV (As := []) (rest := []) ⟨hx, hb, hml, hown, hts⟩ (c_X5_note l g σ A (wy) (un) (hd9) (mv) hp13 (na) (ra) Pa Ga ⟨hqa0, hqa1, hqa2⟩ hoa hH Wb h15 hWb hn6 Rc h14 Q hQ (by omega) hz0) (cwV 0 hts gX5_part_X5_note rfl rfl rfl (by decide +kernel) ⟨Nat.le_of_ble_eq_true rfl, Nat.le_of_ble_eq_true rfl⟩) (x_preVQ hK hP hD hS hA (x_recv hK hP (i := 13) (by decide) hp13 rfl)) rfl rfl hl.1 rfl (lv_room (Nat.le_of_ble_eq_true rfl)) dX5_part_23 ⟨by decide, by decide⟩) hS (fun σ1 H locs hpost hP hD hS => ?_)
        obtain ⟨M_43, p1⟩ := σ1
        obtain ⟨hp0, hfrc, wn_44, un_45, hn_46, mn_47, Rn_48, hn13, hn14, hnQ⟩ := hpost
        obtain rfl : p1 = σ.2 := hp0
        have hP : xP g (M_43, σ.2) H := hP
        have hD : xD g A (M_43, σ.2) := hD
        have h15 := (hfrc (15) (by omega)).trans h15
        have hqa0 := (hfrc (10) (by omega)).trans hqa0
        have hqa1 := (hfrc (11) (by omega)).trans hqa1
        have hqa2 := (hfrc (12) (by omega)).trans hqa2
        have h16 := (hfrc (16) (by omega)).trans h16
        have hfr := x_frc (F := fun j => j ≠ 12 ∧ j ≠ 13 ∧ j ≠ 14) hfr hfrc (fun j h => by have h : j ≠ 12 ∧ j ≠ 13 ∧ j ≠ 14 := h; omega)
        have hp13 : PObj g M_43 wn_44 un_45 hn_46 mn_47 := hn13
        have h14 : MArr g M_43 14 6 Rn_48 := hn14
        replace hnQ : zRl na wn_44 un_45 hn_46 mn_47 Rn_48 (fun o => zNote (sK σ Ga) (sF σ Ga) Wb na ra o Pa (Q o)) := hnQ
        refine x_retQv hx hb hr ?_ hP hD hS dX5_part_26 hlocks
        refine ⟨rfl, hfr, _, _, _, _, _, _, hp13, hqa2, h14, hoa, fun _ _ _ => rfl, ?_⟩
        have e : (fun o => zParts (zNote (sK σ Ga) (sF σ Ga) Wb na ra o) (na - h).toNat h lf Pa (Q o)) = (fun o => zNote (sK σ Ga) (sF σ Ga) Wb na ra o Pa (Q o)) := funext (fun o => by (rw [zParts_end _ _ _ _ (by omega), if_pos (by omega)]))
        rw [e]; exact hnQ

set_option maxHeartbeats 4000000 in
set_option maxRecDepth 100000 in
theorem c_X5_part6 (l : Launch) (g : xG) (σ : xS) (A : Nat → Prop) (wy un hd9 mv : Int) (hp13 : PObj g σ.1 wy un hd9 mv) (na ra : Int) (Pa : Int → Int) (Ga : Int → Option Nat) (hsa9 : StAt g σ.1 10 na ra Pa Ga) (hoa : StOk σ na ra Pa Ga) (hH : HsOk σ) (Wb : Int → Int) (h15 : MArr g σ.1 15 6 Wb) (hWb : ∀ i, 0 ≤ i → i < na → 0 ≤ Wb i ∧ Wb i ≤ 9999) (hn6 : na ≤ 6) (Rc : Int → Int) (h14 : MArr g σ.1 14 6 Rc) (Su : Int → Int → Int) (h16 : MGrs g σ.1) (hsr : ∀ d, 0 ≤ d → d ≤ 5 → MArr g σ.1 (17 + d.toNat) 21 (Su d)) (hSr : ∀ d k, inR (Su d k)) (c0 : Int) (hc0 : 0 ≤ c0 ∧ c0 ≤ 20) (hsu : zSuOk (sK σ Ga) (sF σ Ga) na ra c0 Su) (Q : Int → zAcc) (hQ : zRl na wy un hd9 mv Rc Q) (h : Int) (hh : 0 ≤ h ∧ h ≤ na ∧ na - h ≤ 6) (lf : Int) (hlf : 0 ≤ lf ∧ lf ≤ c0) (hwr : wy + zB (na - h).toNat ≤ 100000000) (hpth : zPth (sK σ Ga) (sF σ Ga) Pa c0 h lf) : Met l yX5_part wsX5_part ({ frames := 11, cells := 0, slots := 0, locals := 352 }) (va_Pc [.ref (g.2.2 13), .int (iI (h)), .int (iI (lf))] (xPreQ g A σ)) (x_Qv g A (fun σ1 => σ1.2 = σ.2 ∧ (∀ j, j ≠ 12 ∧ j ≠ 13 ∧ j ≠ 14 → σ1.1 j = σ.1 j) ∧ ∃ wy2 un2 hd2 mv2 T Rc2, PObj g σ1.1 wy2 un2 hd2 mv2 ∧ MArr g σ1.1 12 9 T ∧ MArr g σ1.1 14 6 Rc2 ∧ StOk σ na ra T Ga ∧ (∀ i, 0 ≤ i → i < h → T i = Pa i) ∧ zRl na wy2 un2 hd2 mv2 Rc2 (fun o => zParts (zNote (sK σ Ga) (sF σ Ga) Wb na ra o) (na - h).toNat h lf Pa (Q o)))) (0) (0) A := by
  refine Met.ofW (cc := cX5_part) (maxL := 6) (ret := none) (by decide) rfl ?_
  intro p e s m args below meth c s₁ B hml hv
  obtain ⟨rfl, hP, hK, hD, hA⟩ := hv
  have hx := B.exec
  have hb := B.bytes
  have hr := B.returns
  have hts := atoms_spec (ws := wsX5_part) B.pre
  have hown : s.vm.findClass RX5 = some m.cls := findClass_of_methodNamed B.named
  have hlocks := B.notSynchronized
  have hS : va_S A s.heap s.heap [] := va_S.rf
  have hfr : ∀ j, (j ≠ 12 ∧ j ≠ 13 ∧ j ≠ 14) → σ.1 j = σ.1 j := fun _ _ => rfl
  have hl := lv_entry ([.ref (g.2.2 13), .int (iI (h)), .int (iI (lf))]) (n := 6) (Nat.le_of_ble_eq_true rfl)
  rw [lg_entry_eq]
  generalize (lg_sl ([.ref (g.2.2 13), .int (iI (h)), .int (iI (lf))]) ++ List.replicate (6 - (lg_sl ([.ref (g.2.2 13), .int (iI (h)), .int (iI (lf))])).length) Slot.unset).toArray = ls at hl ⊢
  have hl : lv_has ls 6 [(0, .ref (g.2.2 13)), (1, .int (iI (h))), (2, .int (iI (lf)))] := hl
  have hqa0 : σ.1 10 = .inr (7, [.ref (g.2.2 11), .ref (g.2.2 12), .int (iI na), .int (iI ra)]) := hsa9.1
  have hqa1 : MRef g σ.1 11 9 Ga := hsa9.2.1
  have hqa2 : MArr g σ.1 12 9 Pa := hsa9.2.2
  have hoa1 := hoa.1
  have hoa2 := hoa.2.1
  have hoa3 := hoa.2.2.1
  have hq1 := hQ.1
  have hok1a : 0 ≤ na := hoa.1
  have hP99 : ∀ i, 0 ≤ i → i < na → Pa i ≤ 9999 := fun i a b => (hoa.2.2.2.2.2 i a b).2.2
  have hw_0 := hts (.fieldLink RX5 18 "TwiceAsRich$Partings" "parted" "LTwiceAsRich$Street;") (by decide +kernel)
  have hin_X5 : ∀ w ∈ wsX50, w ∈ wsX5_part := by decide +kernel
  have hw_2 := hts (.fieldLink RX5 49 "TwiceAsRich$Street" "count" "I") (by decide +kernel)
  have hin_X7 : ∀ w ∈ wsX70, w ∈ wsX5_part := by decide +kernel
  have hw_4 := hts (.methodLink RX5 88 Lib.Math.max.name) (by decide +kernel)
  have hw_5 := hts (.static Lib.Math.max.name) (by decide +kernel)
  have hw_6 := hts (.initialized "java/lang/Math") (by decide +kernel)
  have hw_7 := hts (.code Lib.Math.max.name Lib.Math.max.code 2 (some .int)) (by decide +kernel)
  have hw_8 := hts (.fieldLink RX5 56 "TwiceAsRich$Street" "purses" "[I") (by decide +kernel)
  refine lv_iload_n hx hb dX5_part_0 rfl (lv_at hl 1 rfl) ?_
  refine lv_aload_n hx hb dX5_part_1 rfl (lv_at hl 0 rfl) ?_
  refine x_get (C := RX5) (T := TX5) (N := 8) hx hb hts hin_X5 hown hK hP (13) (by decide) hp13 rfl 5 (by decide) hw_0 (fun _ h9 => h9) rfl dX5_part_2 ?_
  refine x_get (C := RX7) (T := TX7) (N := 4) hx hb hts hin_X7 hown hK hP (10) (by decide) hqa0 rfl 2 (by decide) hw_2 (fun _ h9 => h9) rfl dX5_part_5 ?_
  refine x_icmp_lt (tgt := 27) hx hb (by omega) (by omega) dX5_part_8 (by decide) (fun c_8 => ?_) (fun c_8 => ?_)
  · refine lv_iload_n hx hb dX5_part_27 rfl (lv_at hl 2 rfl) ?_
    refine lv_aload_n hx hb dX5_part_28 rfl (lv_at hl 0 rfl) ?_
    refine x_get (C := RX5) (T := TX5) (N := 8) hx hb hts hin_X5 hown hK hP (13) (by decide) hp13 rfl 5 (by decide) hw_0 (fun _ h9 => h9) rfl dX5_part_29 ?_
    refine x_get (C := RX7) (T := TX7) (N := 4) hx hb hts hin_X7 hown hK hP (10) (by decide) hqa0 rfl 2 (by decide) hw_2 (fun _ h9 => h9) rfl dX5_part_32 ?_
    refine x_iconst hx hb dX5_part_35 ?_
    refine x_isub hx hb dX5_part_36 ?_
    refine lv_iload_n hx hb dX5_part_37 rfl (lv_at hl 1 rfl) ?_
    refine x_isub hx hb dX5_part_38 ?_
    refine x_isub hx hb dX5_part_39 ?_
    refine lv_istore_n (lv' := [(3, .int (iI (lf - ((na - 1) - h)))), (0, .ref (g.2.2 13)), (1, .int (iI (h))), (2, .int (iI (lf)))]) hx hb dX5_part_40 rfl hl (by decide) rfl (fun ls hl => ?_)
    refine lv_iload_n hx hb dX5_part_41 rfl (lv_at hl 2 rfl) ?_
    refine lv_aload_n hx hb dX5_part_42 rfl (lv_at hl 1 rfl) ?_
    refine x_get (C := RX5) (T := TX5) (N := 8) hx hb hts hin_X5 hown hK hP (13) (by decide) hp13 rfl 5 (by decide) hw_0 (fun _ h9 => h9) rfl dX5_part_43 ?_
    refine x_get (C := RX7) (T := TX7) (N := 4) hx hb hts hin_X7 hown hK hP (10) (by decide) hqa0 rfl 2 (by decide) hw_2 (fun _ h9 => h9) rfl dX5_part_46 ?_
    refine x_iconst hx hb dX5_part_49 ?_
    refine x_isub hx hb dX5_part_50 ?_
    refine x_icmp_ne (tgt := 58) hx hb (by omega) (by omega) dX5_part_51 (by decide) (fun c_51 => ?_) (fun c_51 => ?_)
    · refine x_iconst hx hb dX5_part_58 ?_
      refine lv_istore (lv' := [(4, .int (iI (1))), (3, .int (iI (lf - ((na - 1) - h)))), (0, .ref (g.2.2 13)), (1, .int (iI (h))), (2, .int (iI (lf)))]) hx hb dX5_part_59 hl (by decide) rfl (fun ls hl => ?_)
      refine x_iconst hx hb dX5_part_61 ?_
      refine lv_iload hx hb dX5_part_62 (lv_at hl 0 rfl) ?_
      refine x_max hx hb (hml.trans hl.1.symm) hown hw_4 hw_5 hw_6 hw_7 (Nat.le_of_ble_eq_true rfl) (Nat.le_of_ble_eq_true rfl) (Nat.le_of_ble_eq_true rfl) (Nat.le_of_ble_eq_true rfl) (by omega) (by omega) dX5_part_64 (fun q_1 hq_1 => ?_)
      have hls : zLst (na - 1 - h) lf = (q_1) := by (unfold zLst; split <;> omega)
      refine lv_istore (lv' := [(5, .int (iI (q_1))), (4, .int (iI (1))), (3, .int (iI (lf - ((na - 1) - h)))), (0, .ref (g.2.2 13)), (1, .int (iI (h))), (2, .int (iI (lf)))]) hx hb dX5_part_67 hl (by decide) rfl (fun ls hl => ?_)
      have hloop_69 : ∀ (k : Nat) (T : Int → Int) (wz : Int) (uz : Int) (hz : Int) (mz : Int) (Rz : Int → Int) (p9 : Int), ((40 : Int) - p9).toNat < k → (hTo : StOk σ na ra T Ga) → (hpr : ∀ i, 0 ≤ i → i < h → T i = Pa i) → (hp0 : zLst (na - 1 - h) lf ≤ p9) → (hp1 : p9 = zLst (na - 1 - h) lf ∨ p9 ≤ lf - (na - 1 - h) + 1) → (hp2 : 1 ≤ p9 ∧ p9 ≤ 21) → (hR : zRl na wz uz hz mz Rz (fun o => zFold (fun p q => zParts (zNote (sK σ Ga) (sF σ Ga) Wb na ra o) (na - (h + 1)).toNat (h + 1) (lf - p) (upI Pa h p) q) (zLst (na - 1 - h) lf) (Q o) (p9 - zLst (na - 1 - h) lf).toNat)) → ∀ (M : xM) (H : Heap) (locs : List Loc), (hp13 : M (13) = .inr (5, [.int (iI (wz)), .int (iI (uz)), .int (iI (hz)), .int (iI (mz)), .ref (g.2.2 14), .ref (g.2.2 10), .ref (g.2.2 15), .ref (g.2.2 16)])) → (h15 : M (15) = .inl (g.2.1 0, 6, .inl (fun k => iI (Wb (k : Int))))) → (hqa0 : M (10) = .inr (7, [.ref (g.2.2 11), .ref (g.2.2 12), .int (iI (na)), .int (iI (ra))])) → (hqa1 : M (11) = .inl (g.2.1 1, 9, .inr (.inr (.inr (.inr (fun k => Ga (k : Int))))))) → (hqa2 : M (12) = .inl (g.2.1 0, 9, .inl (fun k => iI (T (k : Int))))) → (h14 : M (14) = .inl (g.2.1 0, 6, .inl (fun k => iI (Rz (k : Int))))) → (h16 : M (16) = .inl (g.2.1 2, 6, .inr (.inr (.inr (.inr (fun k => xGs g (k : Int))))))) → (hfr : ∀ j, (j ≠ 12 ∧ j ≠ 13 ∧ j ≠ 14) → M j = σ.1 j) → xP g (M, σ.2) H → xD g A (M, σ.2) → va_S A s.heap H locs → ∀ (ls : Array Slot), lv_has ls 6 [(5, .int (iI (p9))), (4, .int (iI (1))), (3, .int (iI (lf - ((na - 1) - h)))), (0, .ref (g.2.2 13)), (1, .int (iI (h))), (2, .int (iI (lf)))] → W p l e (headSpec wsX5_part ({ frames := 11, cells := 0, slots := 0, locals := 352 })).room s m ([.ref (g.2.2 13), .int (iI (h)), .int (iI (lf))] : List Value).toArray below meth c H locs 0 0 (MQ below (x_Qv g A (fun σ1 => σ1.2 = σ.2 ∧ (∀ j, j ≠ 12 ∧ j ≠ 13 ∧ j ≠ 14 → σ1.1 j = σ.1 j) ∧ ∃ wy2 un2 hd2 mv2 T Rc2, PObj g σ1.1 wy2 un2 hd2 mv2 ∧ MArr g σ1.1 12 9 T ∧ MArr g σ1.1 14 6 Rc2 ∧ StOk σ na ra T Ga ∧ (∀ i, 0 ≤ i → i < h → T i = Pa i) ∧ zRl na wy2 un2 hd2 mv2 Rc2 (fun o => zParts (zNote (sK σ Ga) (sF σ Ga) Wb na ra o) (na - h).toNat h lf Pa (Q o)))) ([.ref (g.2.2 13), .int (iI (h)), .int (iI (lf))] : List Value).toArray s (0) (0) A) (F0 m 69 ls []) := by
        intro k
        induction k with
        | zero =>
          intros; exact absurd (by assumption) (Nat.not_lt_zero _)
        | succ k ih =>
          intro T wz uz hz mz Rz p9 hmeas hTo hpr hp0 hp1 hp2 hR M H locs hp13 h15 hqa0 hqa1 hqa2 h14 h16 hfr hP hD hS ls hl
          have ih_2 := ih
          refine lv_iload hx hb dX5_part_69 (lv_at hl 0 rfl) ?_
          refine lv_iload_n hx hb dX5_part_71 rfl (lv_at hl 2 rfl) ?_
          refine x_icmp_gt (tgt := 118) hx hb (by omega) (by omega) dX5_part_72 (by decide) (fun c_72 => ?_) (fun c_72 => ?_)
          · refine x_retQv hx hb hr ?_ hP hD hS dX5_part_118 hlocks
            refine ⟨rfl, hfr, _, _, _, _, _, _, hp13, hqa2, h14, hTo, hpr, ?_⟩
            have e : (fun o => zParts (zNote (sK σ Ga) (sF σ Ga) Wb na ra o) (na - h).toNat h lf Pa (Q o)) = (fun o => zFold (fun p q => zParts (zNote (sK σ Ga) (sF σ Ga) Wb na ra o) (na - (h + 1)).toNat (h + 1) (lf - p) (upI Pa h p) q) (zLst (na - 1 - h) lf) (Q o) (p9 - zLst (na - 1 - h) lf).toNat) := funext (fun o => by (rw [zParts_step _ _ _ _ (by omega), show (lf - (na - 1 - h) + 1 - zLst (na - 1 - h) lf).toNat = (p9 - zLst (na - 1 - h) lf).toNat by omega]))
            rw [e]; exact hR
          · refine lv_aload_n hx hb dX5_part_75 rfl (lv_at hl 3 rfl) ?_
            refine x_get (C := RX5) (T := TX5) (N := 8) hx hb hts hin_X5 hown hK hP (13) (by decide) hp13 rfl 5 (by decide) hw_0 (fun _ h9 => h9) rfl dX5_part_76 ?_
            refine x_get (C := RX7) (T := TX7) (N := 4) hx hb hts hin_X7 hown hK hP (10) (by decide) hqa0 rfl 1 (by decide) hw_8 (fun _ h9 => h9) rfl dX5_part_79 ?_
            refine lv_iload_n hx hb dX5_part_82 rfl (lv_at hl 4 rfl) ?_
            refine lv_iload hx hb dX5_part_83 (lv_at hl 0 rfl) ?_
            refine x_iast (f := T) hx hb hK hP hD hS (12) (by decide) hqa2 (by omega) (by omega) (by decide) dX5_part_85 (fun M_3 H locs hnew hne hP hD hS => ?_)
            obtain ⟨f_4, hf_4⟩ : ∃ q : Int → Int, q = (upI T (h) (p9)) := ⟨_, rfl⟩
            rw [← hf_4] at hnew
            have hP : xP g (M_3, σ.2) H := hP
            have hD : xD g A (M_3, σ.2) := hD
            have hqa2 : M_3 (12) = .inl (g.2.1 0, 9, .inl (fun k => iI (f_4 (k : Int)))) := hnew
            have hp13 := (hne (13) (by decide)).trans hp13
            have h15 := (hne (15) (by decide)).trans h15
            have hqa0 := (hne (10) (by decide)).trans hqa0
            have hqa1 := (hne (11) (by decide)).trans hqa1
            have h14 := (hne (14) (by decide)).trans h14
            have h16 := (hne (16) (by decide)).trans h16
            have hfr := x_fr (F := fun j => j ≠ 12 ∧ j ≠ 13 ∧ j ≠ 14) hfr hne (fun j h => by have h : j ≠ 12 ∧ j ≠ 13 ∧ j ≠ 14 := h; omega)
            have ost_5 : StOk σ (na) (ra) f_4 Ga := by (rw [hf_4]; exact StOk_purse hTo (by omega))
            have hTf : ∀ i, f_4 i = upI T h p9 i := fun i => by (rw [hf_4])
            have hT9 : ∀ i, 0 ≤ i → i < h + 1 → upI Pa h p9 i = f_4 i := fun i a b => by (rw [hTf i]; unfold upI; split; (rfl); exact (hpr i a (by omega)).symm)
            have hpT := zPth_congr hpth hpr
            have hTh : f_4 h = p9 := by (rw [hTf, upI_s])
            have hTg : f_4 (h - 1) = Pa (h - 1) ∨ h = 0 := by (by_cases e9 : h = 0; (exact Or.inr e9); (left; rw [hTf, upI_n (by omega)]; exact hpr _ (by omega) (by omega)))
            have hb1 : h ≠ 0 → 1 ≤ Pa (h - 1) ∧ Pa (h - 1) + lf ≤ c0 := fun q => hpth.1 (h - 1) (by omega) (by omega)
            refine lv_iload_n hx hb dX5_part_86 rfl (lv_at hl 4 rfl) ?_
            refine x_if_eq (tgt := 101) hx hb (by omega) dX5_part_87 (by decide) (fun c_87 => ?_) (fun c_87 => ?_)
            · have hyP : h = 0 ∨ zPr (sK σ Ga) (sF σ Ga) (h - 1) h (T (h - 1)) p9 := by (left; omega)
              refine lv_aload_n hx hb dX5_part_101 rfl (lv_at hl 3 rfl) ?_
              refine lv_iload_n hx hb dX5_part_102 rfl (lv_at hl 4 rfl) ?_
              refine x_iconst hx hb dX5_part_103 ?_
              refine x_iadd hx hb dX5_part_104 ?_
              refine lv_iload_n hx hb dX5_part_105 rfl (lv_at hl 5 rfl) ?_
              refine lv_iload hx hb dX5_part_106 (lv_at hl 0 rfl) ?_
              refine x_isub hx hb dX5_part_108 ?_
              refine x_cqv0 (va_runV (As := [.int (iI (h + 1)), .int (iI (lf - p9))]) (rest := []) ⟨hx, hb, hml, hown, hts⟩ (c_X5_part5 l g (M_3, σ.2) A (wz) (uz) (hz) (mz) hp13 (na) (ra) f_4 Ga ⟨hqa0, hqa1, hqa2⟩ ost_5 hH Wb h15 hWb hn6 Rz h14 Su h16 (fun d a b => (hfr _ (by omega)).trans (hsr d a b)) hSr c0 hc0 hsu (fun o => zFold (fun p q => zParts (zNote (sK σ Ga) (sF σ Ga) Wb na ra o) (na - (h + 1)).toNat (h + 1) (lf - p) (upI Pa h p) q) (zLst (na - 1 - h) lf) (Q o) (p9 - zLst (na - 1 - h) lf).toNat) hR (h + 1) (by omega) (lf - p9) (by omega) (zPart_room (zNote_ways (sK σ Ga) (sF σ Ga) Wb na ra 0) hh.1 (by omega) (by omega) hp0 (by omega) (hQ.2.2.2.2.2 0).1 (hR.2.2.2.2.2 0).1 hwr) (by rw [hf_4]; exact zPth_go hpT hh.1 (by omega) (by omega) (by omega) hyP)) (cwV 2 hts gX5_part_X5_part rfl rfl rfl (by decide +kernel) ⟨Nat.le_of_ble_eq_true rfl, Nat.le_of_ble_eq_true rfl⟩) (x_preVQ hK hP hD hS hA (x_recv hK hP (i := 13) (by decide) hp13 rfl)) rfl rfl hl.1 rfl (lv_room (Nat.le_of_ble_eq_true rfl)) dX5_part_109 ⟨by decide, by decide⟩) hS (fun σ1 H locs hpost hP hD hS => ?_)
              obtain ⟨M_6, p1⟩ := σ1
              obtain ⟨hp0, hfrc, wn_7, un_8, hn_9, mn_10, T_12, Rn_11, hn13, hn12, hn14, ost_13, hnT, hnQ⟩ := hpost
              obtain rfl : p1 = σ.2 := hp0
              have hP : xP g (M_6, σ.2) H := hP
              have hD : xD g A (M_6, σ.2) := hD
              have h15 := (hfrc (15) (by omega)).trans h15
              have hqa0 := (hfrc (10) (by omega)).trans hqa0
              have hqa1 := (hfrc (11) (by omega)).trans hqa1
              have h16 := (hfrc (16) (by omega)).trans h16
              have hfr := x_frc (F := fun j => j ≠ 12 ∧ j ≠ 13 ∧ j ≠ 14) hfr hfrc (fun j h => by have h : j ≠ 12 ∧ j ≠ 13 ∧ j ≠ 14 := h; omega)
              have hp13 : PObj g M_6 wn_7 un_8 hn_9 mn_10 := hn13
              have h14 : MArr g M_6 14 6 Rn_11 := hn14
              have hqa2 : MArr g M_6 12 9 T_12 := hn12
              replace hnQ : zRl na wn_7 un_8 hn_9 mn_10 Rn_11 (fun o => zParts (zNote (sK σ Ga) (sF σ Ga) Wb na ra o) (na - (h + 1)).toNat (h + 1) (lf - p9) f_4 ((fun o => zFold (fun p q => zParts (zNote (sK σ Ga) (sF σ Ga) Wb na ra o) (na - (h + 1)).toNat (h + 1) (lf - p) (upI Pa h p) q) (zLst (na - 1 - h) lf) (Q o) (p9 - zLst (na - 1 - h) lf).toNat) o)) := hnQ
              refine x_iinc (k0 := 0) (lv' := [(5, .int (iI (p9 + 1))), (4, .int (iI (1))), (3, .int (iI (lf - ((na - 1) - h)))), (0, .ref (g.2.2 13)), (1, .int (iI (h))), (2, .int (iI (lf)))]) hx hb dX5_part_112 hl rfl (by decide) rfl (fun ls hl => ?_)
              refine lv_goto (tgt := 69) hx hb dX5_part_115 (by decide) ?_
              exact ih_2 (T_12) (wn_7) (un_8) (hn_9) (mn_10) (Rn_11) (p9 + 1) (by omega) (by exact ost_13) (by (intro i a b; rw [hnT i a (by omega), hTf i, upI_n (by omega)]; exact hpr i a b)) (by omega) (by omega) (by omega) (by (have e : (fun o => zFold (fun p q => zParts (zNote (sK σ Ga) (sF σ Ga) Wb na ra o) (na - (h + 1)).toNat (h + 1) (lf - p) (upI Pa h p) q) (zLst (na - 1 - h) lf) (Q o) ((p9 + 1) - zLst (na - 1 - h) lf).toNat) = (fun o => zParts (zNote (sK σ Ga) (sF σ Ga) Wb na ra o) (na - (h + 1)).toNat (h + 1) (lf - p9) f_4 ((fun o => zFold (fun p q => zParts (zNote (sK σ Ga) (sF σ Ga) Wb na ra o) (na - (h + 1)).toNat (h + 1) (lf - p) (upI Pa h p) q) (zLst (na - 1 - h) lf) (Q o) (p9 - zLst (na - 1 - h) lf).toNat) o)) := funext (fun o => by (rw [zFold_succ _ _ hp0]; exact zParts_congr (zNote_local (fun _ _ _ => rfl)) _ _ _ _ _ _ (by omega) hT9))); rw [e]; exact hnQ) (M_6) _ _ hp13 h15 hqa0 hqa1 hqa2 h14 h16 hfr hP hD hS ls (lv_sub hl [0, 1, 2, 3, 4, 5] rfl)
            · refine lv_aload_n hx hb dX5_part_90 rfl (lv_at hl 3 rfl) ?_
              refine lv_iload_n hx hb dX5_part_91 rfl (lv_at hl 4 rfl) ?_
              refine x_iconst hx hb dX5_part_92 ?_
              refine x_isub hx hb dX5_part_93 ?_
              refine lv_iload_n hx hb dX5_part_94 rfl (lv_at hl 4 rfl) ?_
              refine x_ci (va_runV (As := [.int (iI (h - 1)), .int (iI (h))]) (rest := []) ⟨hx, hb, hml, hown, hts⟩ (c_X5_suit l g (M_3, σ.2) (wz) (uz) (hz) (mz) hp13 (na) (ra) f_4 Ga ⟨hqa0, hqa1, hqa2⟩ ost_5 hH (17 + (h - 1).toNat) h16 (h - 1) (by omega) (h) (by omega) rfl (Su (h - 1)) ((hfr _ (by omega)).trans (hsr (h - 1) (by omega) (by omega))) (fun k => hSr _ k) (by omega)) (cwV 2 hts gX5_part_X5_suit rfl rfl rfl (by decide +kernel) ⟨Nat.le_of_ble_eq_true rfl, Nat.le_of_ble_eq_true rfl⟩) (x_preV hK hP (x_recv hK hP (i := 13) (by decide) hp13 rfl)) rfl rfl hl.1 rfl (lv_room (Nat.le_of_ble_eq_true rfl)) dX5_part_95 ⟨Nat.le_of_ble_eq_true rfl, Nat.le_of_ble_eq_true rfl⟩) (fun r_95 hr_95 qr_95 => ?_)
              replace qr_95 : (r_95 = 1 ∧ zBt (Su (h - 1) (f_4 (h - 1))) (f_4 (h))) ∨ (r_95 = 0 ∧ ¬ zBt (Su (h - 1) (f_4 (h - 1))) (f_4 (h))) := qr_95
              have hTg : f_4 (h - 1) = Pa (h - 1) := by omega
              have hsz : zBt (Su (h - 1) (Pa (h - 1))) p9 ↔ zPr (sK σ Ga) (sF σ Ga) (h - 1) h (Pa (h - 1)) p9 := by (have e0 : zBehind na ra (h - 1) = h := (by (unfold zBehind; rw [if_pos (by omega)]; omega)); have z := hsu (h - 1) (by omega) (by omega) (by rw [e0]; omega) (Pa (h - 1)) p9 (by omega) (by omega) (by omega); rw [e0] at z; exact z)
              rw [hTg, hTh] at qr_95
              refine x_if_eq (tgt := 112) hx hb (by omega) dX5_part_98 (by decide) (fun c_98 => ?_) (fun c_98 => ?_)
              · have hnP : ¬ zPr (sK σ Ga) (sF σ Ga) (h - 1) h (Pa (h - 1)) p9 := by (rw [← hsz]; rcases qr_95 with q | q; omega; exact q.2)
                refine x_iinc (k0 := 0) (lv' := [(5, .int (iI (p9 + 1))), (4, .int (iI (1))), (3, .int (iI (lf - ((na - 1) - h)))), (0, .ref (g.2.2 13)), (1, .int (iI (h))), (2, .int (iI (lf)))]) hx hb dX5_part_112 hl rfl (by decide) rfl (fun ls hl => ?_)
                refine lv_goto (tgt := 69) hx hb dX5_part_115 (by decide) ?_
                exact ih_2 (f_4) (wz) (uz) (hz) (mz) (Rz) (p9 + 1) (by omega) (by exact ost_5) (by (intro i a b; rw [hTf i, upI_n (by omega)]; exact hpr i a b)) (by omega) (by omega) (by omega) (by (have e : (fun o => zFold (fun p q => zParts (zNote (sK σ Ga) (sF σ Ga) Wb na ra o) (na - (h + 1)).toNat (h + 1) (lf - p) (upI Pa h p) q) (zLst (na - 1 - h) lf) (Q o) ((p9 + 1) - zLst (na - 1 - h) lf).toNat) = (fun o => zFold (fun p q => zParts (zNote (sK σ Ga) (sF σ Ga) Wb na ra o) (na - (h + 1)).toNat (h + 1) (lf - p) (upI Pa h p) q) (zLst (na - 1 - h) lf) (Q o) (p9 - zLst (na - 1 - h) lf).toNat) := funext (fun o => by (rw [zFold_succ _ _ hp0]; exact zParts_bad2 _ (by omega) (by omega) (by rw [upI_n (by omega), upI_s]; exact hnP)))); rw [e]; exact hR) (M_3) _ _ hp13 h15 hqa0 hqa1 hqa2 h14 h16 hfr hP hD hS ls (lv_sub hl [0, 1, 2, 3, 4, 5] rfl)
              · have hyP : h = 0 ∨ zPr (sK σ Ga) (sF σ Ga) (h - 1) h (T (h - 1)) p9 := by (right; rw [hpr (h - 1) (by omega) (by omega), ← hsz]; rcases qr_95 with q | q; exact q.2; omega)
                refine lv_aload_n hx hb dX5_part_101 rfl (lv_at hl 3 rfl) ?_
                refine lv_iload_n hx hb dX5_part_102 rfl (lv_at hl 4 rfl) ?_
                refine x_iconst hx hb dX5_part_103 ?_
                refine x_iadd hx hb dX5_part_104 ?_
                refine lv_iload_n hx hb dX5_part_105 rfl (lv_at hl 5 rfl) ?_
                refine lv_iload hx hb dX5_part_106 (lv_at hl 0 rfl) ?_
                refine x_isub hx hb dX5_part_108 ?_
                refine x_cqv0 (va_runV (As := [.int (iI (h + 1)), .int (iI (lf - p9))]) (rest := []) ⟨hx, hb, hml, hown, hts⟩ (c_X5_part5 l g (M_3, σ.2) A (wz) (uz) (hz) (mz) hp13 (na) (ra) f_4 Ga ⟨hqa0, hqa1, hqa2⟩ ost_5 hH Wb h15 hWb hn6 Rz h14 Su h16 (fun d a b => (hfr _ (by omega)).trans (hsr d a b)) hSr c0 hc0 hsu (fun o => zFold (fun p q => zParts (zNote (sK σ Ga) (sF σ Ga) Wb na ra o) (na - (h + 1)).toNat (h + 1) (lf - p) (upI Pa h p) q) (zLst (na - 1 - h) lf) (Q o) (p9 - zLst (na - 1 - h) lf).toNat) hR (h + 1) (by omega) (lf - p9) (by omega) (zPart_room (zNote_ways (sK σ Ga) (sF σ Ga) Wb na ra 0) hh.1 (by omega) (by omega) hp0 (by omega) (hQ.2.2.2.2.2 0).1 (hR.2.2.2.2.2 0).1 hwr) (by rw [hf_4]; exact zPth_go hpT hh.1 (by omega) (by omega) (by omega) hyP)) (cwV 2 hts gX5_part_X5_part rfl rfl rfl (by decide +kernel) ⟨Nat.le_of_ble_eq_true rfl, Nat.le_of_ble_eq_true rfl⟩) (x_preVQ hK hP hD hS hA (x_recv hK hP (i := 13) (by decide) hp13 rfl)) rfl rfl hl.1 rfl (lv_room (Nat.le_of_ble_eq_true rfl)) dX5_part_109 ⟨by decide, by decide⟩) hS (fun σ1 H locs hpost hP hD hS => ?_)
                obtain ⟨M_14, p1⟩ := σ1
                obtain ⟨hp0, hfrc, wn_15, un_16, hn_17, mn_18, T_20, Rn_19, hn13, hn12, hn14, ost_21, hnT, hnQ⟩ := hpost
                obtain rfl : p1 = σ.2 := hp0
                have hP : xP g (M_14, σ.2) H := hP
                have hD : xD g A (M_14, σ.2) := hD
                have h15 := (hfrc (15) (by omega)).trans h15
                have hqa0 := (hfrc (10) (by omega)).trans hqa0
                have hqa1 := (hfrc (11) (by omega)).trans hqa1
                have h16 := (hfrc (16) (by omega)).trans h16
                have hfr := x_frc (F := fun j => j ≠ 12 ∧ j ≠ 13 ∧ j ≠ 14) hfr hfrc (fun j h => by have h : j ≠ 12 ∧ j ≠ 13 ∧ j ≠ 14 := h; omega)
                have hp13 : PObj g M_14 wn_15 un_16 hn_17 mn_18 := hn13
                have h14 : MArr g M_14 14 6 Rn_19 := hn14
                have hqa2 : MArr g M_14 12 9 T_20 := hn12
                replace hnQ : zRl na wn_15 un_16 hn_17 mn_18 Rn_19 (fun o => zParts (zNote (sK σ Ga) (sF σ Ga) Wb na ra o) (na - (h + 1)).toNat (h + 1) (lf - p9) f_4 ((fun o => zFold (fun p q => zParts (zNote (sK σ Ga) (sF σ Ga) Wb na ra o) (na - (h + 1)).toNat (h + 1) (lf - p) (upI Pa h p) q) (zLst (na - 1 - h) lf) (Q o) (p9 - zLst (na - 1 - h) lf).toNat) o)) := hnQ
                refine x_iinc (k0 := 0) (lv' := [(5, .int (iI (p9 + 1))), (4, .int (iI (1))), (3, .int (iI (lf - ((na - 1) - h)))), (0, .ref (g.2.2 13)), (1, .int (iI (h))), (2, .int (iI (lf)))]) hx hb dX5_part_112 hl rfl (by decide) rfl (fun ls hl => ?_)
                refine lv_goto (tgt := 69) hx hb dX5_part_115 (by decide) ?_
                exact ih_2 (T_20) (wn_15) (un_16) (hn_17) (mn_18) (Rn_19) (p9 + 1) (by omega) (by exact ost_21) (by (intro i a b; rw [hnT i a (by omega), hTf i, upI_n (by omega)]; exact hpr i a b)) (by omega) (by omega) (by omega) (by (have e : (fun o => zFold (fun p q => zParts (zNote (sK σ Ga) (sF σ Ga) Wb na ra o) (na - (h + 1)).toNat (h + 1) (lf - p) (upI Pa h p) q) (zLst (na - 1 - h) lf) (Q o) ((p9 + 1) - zLst (na - 1 - h) lf).toNat) = (fun o => zParts (zNote (sK σ Ga) (sF σ Ga) Wb na ra o) (na - (h + 1)).toNat (h + 1) (lf - p9) f_4 ((fun o => zFold (fun p q => zParts (zNote (sK σ Ga) (sF σ Ga) Wb na ra o) (na - (h + 1)).toNat (h + 1) (lf - p) (upI Pa h p) q) (zLst (na - 1 - h) lf) (Q o) (p9 - zLst (na - 1 - h) lf).toNat) o)) := funext (fun o => by (rw [zFold_succ _ _ hp0]; exact zParts_congr (zNote_local (fun _ _ _ => rfl)) _ _ _ _ _ _ (by omega) hT9))); rw [e]; exact hnQ) (M_14) _ _ hp13 h15 hqa0 hqa1 hqa2 h14 h16 hfr hP hD hS ls (lv_sub hl [0, 1, 2, 3, 4, 5] rfl)
      exact hloop_69 ((((40 : Int) - ((q_1))).toNat) + 1) (Pa) (wy) (un) (hd9) (mv) (Rc) ((q_1)) (by omega) (by exact hoa) (by exact fun _ _ _ => rfl) (by omega) (by omega) (by omega) (by (have e : (fun o => zFold (fun p q => zParts (zNote (sK σ Ga) (sF σ Ga) Wb na ra o) (na - (h + 1)).toNat (h + 1) (lf - p) (upI Pa h p) q) (zLst (na - 1 - h) lf) (Q o) ((q_1) - zLst (na - 1 - h) lf).toNat) = Q := funext (fun o => zFold_0 _ _ (by omega))); rw [e]; exact hQ) (σ.1) _ _ hp13 h15 hqa0 hqa1 hqa2 h14 h16 hfr hP hD hS ls (lv_sub hl [0, 1, 2, 3, 4, 5] rfl)
    · refine lv_iload_n hx hb dX5_part_54 rfl (lv_at hl 3 rfl) ?_
      refine lv_goto (tgt := 59) hx hb dX5_part_55 (by decide) ?_
      refine lv_istore (lv' := [(4, .int (iI (lf))), (3, .int (iI (lf - ((na - 1) - h)))), (0, .ref (g.2.2 13)), (1, .int (iI (h))), (2, .int (iI (lf)))]) hx hb dX5_part_59 hl (by decide) rfl (fun ls hl => ?_)
      refine x_iconst hx hb dX5_part_61 ?_
      refine lv_iload hx hb dX5_part_62 (lv_at hl 0 rfl) ?_
      refine x_max hx hb (hml.trans hl.1.symm) hown hw_4 hw_5 hw_6 hw_7 (Nat.le_of_ble_eq_true rfl) (Nat.le_of_ble_eq_true rfl) (Nat.le_of_ble_eq_true rfl) (Nat.le_of_ble_eq_true rfl) (by omega) (by omega) dX5_part_64 (fun q_22 hq_22 => ?_)
      have hls : zLst (na - 1 - h) lf = (q_22) := by (unfold zLst; split <;> omega)
      refine lv_istore (lv' := [(5, .int (iI (q_22))), (4, .int (iI (lf))), (3, .int (iI (lf - ((na - 1) - h)))), (0, .ref (g.2.2 13)), (1, .int (iI (h))), (2, .int (iI (lf)))]) hx hb dX5_part_67 hl (by decide) rfl (fun ls hl => ?_)
      have hloop_69 : ∀ (k : Nat) (T : Int → Int) (wz : Int) (uz : Int) (hz : Int) (mz : Int) (Rz : Int → Int) (p9 : Int), ((40 : Int) - p9).toNat < k → (hTo : StOk σ na ra T Ga) → (hpr : ∀ i, 0 ≤ i → i < h → T i = Pa i) → (hp0 : zLst (na - 1 - h) lf ≤ p9) → (hp1 : p9 = zLst (na - 1 - h) lf ∨ p9 ≤ lf - (na - 1 - h) + 1) → (hp2 : 1 ≤ p9 ∧ p9 ≤ 21) → (hR : zRl na wz uz hz mz Rz (fun o => zFold (fun p q => zParts (zNote (sK σ Ga) (sF σ Ga) Wb na ra o) (na - (h + 1)).toNat (h + 1) (lf - p) (upI Pa h p) q) (zLst (na - 1 - h) lf) (Q o) (p9 - zLst (na - 1 - h) lf).toNat)) → ∀ (M : xM) (H : Heap) (locs : List Loc), (hp13 : M (13) = .inr (5, [.int (iI (wz)), .int (iI (uz)), .int (iI (hz)), .int (iI (mz)), .ref (g.2.2 14), .ref (g.2.2 10), .ref (g.2.2 15), .ref (g.2.2 16)])) → (h15 : M (15) = .inl (g.2.1 0, 6, .inl (fun k => iI (Wb (k : Int))))) → (hqa0 : M (10) = .inr (7, [.ref (g.2.2 11), .ref (g.2.2 12), .int (iI (na)), .int (iI (ra))])) → (hqa1 : M (11) = .inl (g.2.1 1, 9, .inr (.inr (.inr (.inr (fun k => Ga (k : Int))))))) → (hqa2 : M (12) = .inl (g.2.1 0, 9, .inl (fun k => iI (T (k : Int))))) → (h14 : M (14) = .inl (g.2.1 0, 6, .inl (fun k => iI (Rz (k : Int))))) → (h16 : M (16) = .inl (g.2.1 2, 6, .inr (.inr (.inr (.inr (fun k => xGs g (k : Int))))))) → (hfr : ∀ j, (j ≠ 12 ∧ j ≠ 13 ∧ j ≠ 14) → M j = σ.1 j) → xP g (M, σ.2) H → xD g A (M, σ.2) → va_S A s.heap H locs → ∀ (ls : Array Slot), lv_has ls 6 [(5, .int (iI (p9))), (4, .int (iI (lf))), (3, .int (iI (lf - ((na - 1) - h)))), (0, .ref (g.2.2 13)), (1, .int (iI (h))), (2, .int (iI (lf)))] → W p l e (headSpec wsX5_part ({ frames := 11, cells := 0, slots := 0, locals := 352 })).room s m ([.ref (g.2.2 13), .int (iI (h)), .int (iI (lf))] : List Value).toArray below meth c H locs 0 0 (MQ below (x_Qv g A (fun σ1 => σ1.2 = σ.2 ∧ (∀ j, j ≠ 12 ∧ j ≠ 13 ∧ j ≠ 14 → σ1.1 j = σ.1 j) ∧ ∃ wy2 un2 hd2 mv2 T Rc2, PObj g σ1.1 wy2 un2 hd2 mv2 ∧ MArr g σ1.1 12 9 T ∧ MArr g σ1.1 14 6 Rc2 ∧ StOk σ na ra T Ga ∧ (∀ i, 0 ≤ i → i < h → T i = Pa i) ∧ zRl na wy2 un2 hd2 mv2 Rc2 (fun o => zParts (zNote (sK σ Ga) (sF σ Ga) Wb na ra o) (na - h).toNat h lf Pa (Q o)))) ([.ref (g.2.2 13), .int (iI (h)), .int (iI (lf))] : List Value).toArray s (0) (0) A) (F0 m 69 ls []) := by
        intro k
        induction k with
        | zero =>
          intros; exact absurd (by assumption) (Nat.not_lt_zero _)
        | succ k ih =>
          intro T wz uz hz mz Rz p9 hmeas hTo hpr hp0 hp1 hp2 hR M H locs hp13 h15 hqa0 hqa1 hqa2 h14 h16 hfr hP hD hS ls hl
          have ih_23 := ih
          refine lv_iload hx hb dX5_part_69 (lv_at hl 0 rfl) ?_
          refine lv_iload_n hx hb dX5_part_71 rfl (lv_at hl 2 rfl) ?_
          refine x_icmp_gt (tgt := 118) hx hb (by omega) (by omega) dX5_part_72 (by decide) (fun c_72 => ?_) (fun c_72 => ?_)
          · refine x_retQv hx hb hr ?_ hP hD hS dX5_part_118 hlocks
            refine ⟨rfl, hfr, _, _, _, _, _, _, hp13, hqa2, h14, hTo, hpr, ?_⟩
            have e : (fun o => zParts (zNote (sK σ Ga) (sF σ Ga) Wb na ra o) (na - h).toNat h lf Pa (Q o)) = (fun o => zFold (fun p q => zParts (zNote (sK σ Ga) (sF σ Ga) Wb na ra o) (na - (h + 1)).toNat (h + 1) (lf - p) (upI Pa h p) q) (zLst (na - 1 - h) lf) (Q o) (p9 - zLst (na - 1 - h) lf).toNat) := funext (fun o => by (rw [zParts_step _ _ _ _ (by omega), show (lf - (na - 1 - h) + 1 - zLst (na - 1 - h) lf).toNat = (p9 - zLst (na - 1 - h) lf).toNat by omega]))
            rw [e]; exact hR
          · refine lv_aload_n hx hb dX5_part_75 rfl (lv_at hl 3 rfl) ?_
            refine x_get (C := RX5) (T := TX5) (N := 8) hx hb hts hin_X5 hown hK hP (13) (by decide) hp13 rfl 5 (by decide) hw_0 (fun _ h9 => h9) rfl dX5_part_76 ?_
            refine x_get (C := RX7) (T := TX7) (N := 4) hx hb hts hin_X7 hown hK hP (10) (by decide) hqa0 rfl 1 (by decide) hw_8 (fun _ h9 => h9) rfl dX5_part_79 ?_
            refine lv_iload_n hx hb dX5_part_82 rfl (lv_at hl 4 rfl) ?_
            refine lv_iload hx hb dX5_part_83 (lv_at hl 0 rfl) ?_
            refine x_iast (f := T) hx hb hK hP hD hS (12) (by decide) hqa2 (by omega) (by omega) (by decide) dX5_part_85 (fun M_24 H locs hnew hne hP hD hS => ?_)
            obtain ⟨f_25, hf_25⟩ : ∃ q : Int → Int, q = (upI T (h) (p9)) := ⟨_, rfl⟩
            rw [← hf_25] at hnew
            have hP : xP g (M_24, σ.2) H := hP
            have hD : xD g A (M_24, σ.2) := hD
            have hqa2 : M_24 (12) = .inl (g.2.1 0, 9, .inl (fun k => iI (f_25 (k : Int)))) := hnew
            have hp13 := (hne (13) (by decide)).trans hp13
            have h15 := (hne (15) (by decide)).trans h15
            have hqa0 := (hne (10) (by decide)).trans hqa0
            have hqa1 := (hne (11) (by decide)).trans hqa1
            have h14 := (hne (14) (by decide)).trans h14
            have h16 := (hne (16) (by decide)).trans h16
            have hfr := x_fr (F := fun j => j ≠ 12 ∧ j ≠ 13 ∧ j ≠ 14) hfr hne (fun j h => by have h : j ≠ 12 ∧ j ≠ 13 ∧ j ≠ 14 := h; omega)
            have ost_26 : StOk σ (na) (ra) f_25 Ga := by (rw [hf_25]; exact StOk_purse hTo (by omega))
            have hTf : ∀ i, f_25 i = upI T h p9 i := fun i => by (rw [hf_25])
            have hT9 : ∀ i, 0 ≤ i → i < h + 1 → upI Pa h p9 i = f_25 i := fun i a b => by (rw [hTf i]; unfold upI; split; (rfl); exact (hpr i a (by omega)).symm)
            have hpT := zPth_congr hpth hpr
            have hTh : f_25 h = p9 := by (rw [hTf, upI_s])
            have hTg : f_25 (h - 1) = Pa (h - 1) ∨ h = 0 := by (by_cases e9 : h = 0; (exact Or.inr e9); (left; rw [hTf, upI_n (by omega)]; exact hpr _ (by omega) (by omega)))
            have hb1 : h ≠ 0 → 1 ≤ Pa (h - 1) ∧ Pa (h - 1) + lf ≤ c0 := fun q => hpth.1 (h - 1) (by omega) (by omega)
            refine lv_iload_n hx hb dX5_part_86 rfl (lv_at hl 4 rfl) ?_
            refine x_if_eq (tgt := 101) hx hb (by omega) dX5_part_87 (by decide) (fun c_87 => ?_) (fun c_87 => ?_)
            · have hyP : h = 0 ∨ zPr (sK σ Ga) (sF σ Ga) (h - 1) h (T (h - 1)) p9 := by (left; omega)
              refine lv_aload_n hx hb dX5_part_101 rfl (lv_at hl 3 rfl) ?_
              refine lv_iload_n hx hb dX5_part_102 rfl (lv_at hl 4 rfl) ?_
              refine x_iconst hx hb dX5_part_103 ?_
              refine x_iadd hx hb dX5_part_104 ?_
              refine lv_iload_n hx hb dX5_part_105 rfl (lv_at hl 5 rfl) ?_
              refine lv_iload hx hb dX5_part_106 (lv_at hl 0 rfl) ?_
              refine x_isub hx hb dX5_part_108 ?_
              refine x_cqv0 (va_runV (As := [.int (iI (h + 1)), .int (iI (lf - p9))]) (rest := []) ⟨hx, hb, hml, hown, hts⟩ (c_X5_part5 l g (M_24, σ.2) A (wz) (uz) (hz) (mz) hp13 (na) (ra) f_25 Ga ⟨hqa0, hqa1, hqa2⟩ ost_26 hH Wb h15 hWb hn6 Rz h14 Su h16 (fun d a b => (hfr _ (by omega)).trans (hsr d a b)) hSr c0 hc0 hsu (fun o => zFold (fun p q => zParts (zNote (sK σ Ga) (sF σ Ga) Wb na ra o) (na - (h + 1)).toNat (h + 1) (lf - p) (upI Pa h p) q) (zLst (na - 1 - h) lf) (Q o) (p9 - zLst (na - 1 - h) lf).toNat) hR (h + 1) (by omega) (lf - p9) (by omega) (zPart_room (zNote_ways (sK σ Ga) (sF σ Ga) Wb na ra 0) hh.1 (by omega) (by omega) hp0 (by omega) (hQ.2.2.2.2.2 0).1 (hR.2.2.2.2.2 0).1 hwr) (by rw [hf_25]; exact zPth_go hpT hh.1 (by omega) (by omega) (by omega) hyP)) (cwV 2 hts gX5_part_X5_part rfl rfl rfl (by decide +kernel) ⟨Nat.le_of_ble_eq_true rfl, Nat.le_of_ble_eq_true rfl⟩) (x_preVQ hK hP hD hS hA (x_recv hK hP (i := 13) (by decide) hp13 rfl)) rfl rfl hl.1 rfl (lv_room (Nat.le_of_ble_eq_true rfl)) dX5_part_109 ⟨by decide, by decide⟩) hS (fun σ1 H locs hpost hP hD hS => ?_)
              obtain ⟨M_27, p1⟩ := σ1
              obtain ⟨hp0, hfrc, wn_28, un_29, hn_30, mn_31, T_33, Rn_32, hn13, hn12, hn14, ost_34, hnT, hnQ⟩ := hpost
              obtain rfl : p1 = σ.2 := hp0
              have hP : xP g (M_27, σ.2) H := hP
              have hD : xD g A (M_27, σ.2) := hD
              have h15 := (hfrc (15) (by omega)).trans h15
              have hqa0 := (hfrc (10) (by omega)).trans hqa0
              have hqa1 := (hfrc (11) (by omega)).trans hqa1
              have h16 := (hfrc (16) (by omega)).trans h16
              have hfr := x_frc (F := fun j => j ≠ 12 ∧ j ≠ 13 ∧ j ≠ 14) hfr hfrc (fun j h => by have h : j ≠ 12 ∧ j ≠ 13 ∧ j ≠ 14 := h; omega)
              have hp13 : PObj g M_27 wn_28 un_29 hn_30 mn_31 := hn13
              have h14 : MArr g M_27 14 6 Rn_32 := hn14
              have hqa2 : MArr g M_27 12 9 T_33 := hn12
              replace hnQ : zRl na wn_28 un_29 hn_30 mn_31 Rn_32 (fun o => zParts (zNote (sK σ Ga) (sF σ Ga) Wb na ra o) (na - (h + 1)).toNat (h + 1) (lf - p9) f_25 ((fun o => zFold (fun p q => zParts (zNote (sK σ Ga) (sF σ Ga) Wb na ra o) (na - (h + 1)).toNat (h + 1) (lf - p) (upI Pa h p) q) (zLst (na - 1 - h) lf) (Q o) (p9 - zLst (na - 1 - h) lf).toNat) o)) := hnQ
              refine x_iinc (k0 := 0) (lv' := [(5, .int (iI (p9 + 1))), (4, .int (iI (lf))), (3, .int (iI (lf - ((na - 1) - h)))), (0, .ref (g.2.2 13)), (1, .int (iI (h))), (2, .int (iI (lf)))]) hx hb dX5_part_112 hl rfl (by decide) rfl (fun ls hl => ?_)
              refine lv_goto (tgt := 69) hx hb dX5_part_115 (by decide) ?_
              exact ih_23 (T_33) (wn_28) (un_29) (hn_30) (mn_31) (Rn_32) (p9 + 1) (by omega) (by exact ost_34) (by (intro i a b; rw [hnT i a (by omega), hTf i, upI_n (by omega)]; exact hpr i a b)) (by omega) (by omega) (by omega) (by (have e : (fun o => zFold (fun p q => zParts (zNote (sK σ Ga) (sF σ Ga) Wb na ra o) (na - (h + 1)).toNat (h + 1) (lf - p) (upI Pa h p) q) (zLst (na - 1 - h) lf) (Q o) ((p9 + 1) - zLst (na - 1 - h) lf).toNat) = (fun o => zParts (zNote (sK σ Ga) (sF σ Ga) Wb na ra o) (na - (h + 1)).toNat (h + 1) (lf - p9) f_25 ((fun o => zFold (fun p q => zParts (zNote (sK σ Ga) (sF σ Ga) Wb na ra o) (na - (h + 1)).toNat (h + 1) (lf - p) (upI Pa h p) q) (zLst (na - 1 - h) lf) (Q o) (p9 - zLst (na - 1 - h) lf).toNat) o)) := funext (fun o => by (rw [zFold_succ _ _ hp0]; exact zParts_congr (zNote_local (fun _ _ _ => rfl)) _ _ _ _ _ _ (by omega) hT9))); rw [e]; exact hnQ) (M_27) _ _ hp13 h15 hqa0 hqa1 hqa2 h14 h16 hfr hP hD hS ls (lv_sub hl [0, 1, 2, 3, 4, 5] rfl)
            · refine lv_aload_n hx hb dX5_part_90 rfl (lv_at hl 3 rfl) ?_
              refine lv_iload_n hx hb dX5_part_91 rfl (lv_at hl 4 rfl) ?_
              refine x_iconst hx hb dX5_part_92 ?_
              refine x_isub hx hb dX5_part_93 ?_
              refine lv_iload_n hx hb dX5_part_94 rfl (lv_at hl 4 rfl) ?_
              refine x_ci (va_runV (As := [.int (iI (h - 1)), .int (iI (h))]) (rest := []) ⟨hx, hb, hml, hown, hts⟩ (c_X5_suit l g (M_24, σ.2) (wz) (uz) (hz) (mz) hp13 (na) (ra) f_25 Ga ⟨hqa0, hqa1, hqa2⟩ ost_26 hH (17 + (h - 1).toNat) h16 (h - 1) (by omega) (h) (by omega) rfl (Su (h - 1)) ((hfr _ (by omega)).trans (hsr (h - 1) (by omega) (by omega))) (fun k => hSr _ k) (by omega)) (cwV 2 hts gX5_part_X5_suit rfl rfl rfl (by decide +kernel) ⟨Nat.le_of_ble_eq_true rfl, Nat.le_of_ble_eq_true rfl⟩) (x_preV hK hP (x_recv hK hP (i := 13) (by decide) hp13 rfl)) rfl rfl hl.1 rfl (lv_room (Nat.le_of_ble_eq_true rfl)) dX5_part_95 ⟨Nat.le_of_ble_eq_true rfl, Nat.le_of_ble_eq_true rfl⟩) (fun r_95 hr_95 qr_95 => ?_)
              replace qr_95 : (r_95 = 1 ∧ zBt (Su (h - 1) (f_25 (h - 1))) (f_25 (h))) ∨ (r_95 = 0 ∧ ¬ zBt (Su (h - 1) (f_25 (h - 1))) (f_25 (h))) := qr_95
              have hTg : f_25 (h - 1) = Pa (h - 1) := by omega
              have hsz : zBt (Su (h - 1) (Pa (h - 1))) p9 ↔ zPr (sK σ Ga) (sF σ Ga) (h - 1) h (Pa (h - 1)) p9 := by (have e0 : zBehind na ra (h - 1) = h := (by (unfold zBehind; rw [if_pos (by omega)]; omega)); have z := hsu (h - 1) (by omega) (by omega) (by rw [e0]; omega) (Pa (h - 1)) p9 (by omega) (by omega) (by omega); rw [e0] at z; exact z)
              rw [hTg, hTh] at qr_95
              refine x_if_eq (tgt := 112) hx hb (by omega) dX5_part_98 (by decide) (fun c_98 => ?_) (fun c_98 => ?_)
              · have hnP : ¬ zPr (sK σ Ga) (sF σ Ga) (h - 1) h (Pa (h - 1)) p9 := by (rw [← hsz]; rcases qr_95 with q | q; omega; exact q.2)
                refine x_iinc (k0 := 0) (lv' := [(5, .int (iI (p9 + 1))), (4, .int (iI (lf))), (3, .int (iI (lf - ((na - 1) - h)))), (0, .ref (g.2.2 13)), (1, .int (iI (h))), (2, .int (iI (lf)))]) hx hb dX5_part_112 hl rfl (by decide) rfl (fun ls hl => ?_)
                refine lv_goto (tgt := 69) hx hb dX5_part_115 (by decide) ?_
                exact ih_23 (f_25) (wz) (uz) (hz) (mz) (Rz) (p9 + 1) (by omega) (by exact ost_26) (by (intro i a b; rw [hTf i, upI_n (by omega)]; exact hpr i a b)) (by omega) (by omega) (by omega) (by (have e : (fun o => zFold (fun p q => zParts (zNote (sK σ Ga) (sF σ Ga) Wb na ra o) (na - (h + 1)).toNat (h + 1) (lf - p) (upI Pa h p) q) (zLst (na - 1 - h) lf) (Q o) ((p9 + 1) - zLst (na - 1 - h) lf).toNat) = (fun o => zFold (fun p q => zParts (zNote (sK σ Ga) (sF σ Ga) Wb na ra o) (na - (h + 1)).toNat (h + 1) (lf - p) (upI Pa h p) q) (zLst (na - 1 - h) lf) (Q o) (p9 - zLst (na - 1 - h) lf).toNat) := funext (fun o => by (rw [zFold_succ _ _ hp0]; exact zParts_bad2 _ (by omega) (by omega) (by rw [upI_n (by omega), upI_s]; exact hnP)))); rw [e]; exact hR) (M_24) _ _ hp13 h15 hqa0 hqa1 hqa2 h14 h16 hfr hP hD hS ls (lv_sub hl [0, 1, 2, 3, 4, 5] rfl)
              · have hyP : h = 0 ∨ zPr (sK σ Ga) (sF σ Ga) (h - 1) h (T (h - 1)) p9 := by (right; rw [hpr (h - 1) (by omega) (by omega), ← hsz]; rcases qr_95 with q | q; exact q.2; omega)
                refine lv_aload_n hx hb dX5_part_101 rfl (lv_at hl 3 rfl) ?_
                refine lv_iload_n hx hb dX5_part_102 rfl (lv_at hl 4 rfl) ?_
                refine x_iconst hx hb dX5_part_103 ?_
                refine x_iadd hx hb dX5_part_104 ?_
                refine lv_iload_n hx hb dX5_part_105 rfl (lv_at hl 5 rfl) ?_
                refine lv_iload hx hb dX5_part_106 (lv_at hl 0 rfl) ?_
                refine x_isub hx hb dX5_part_108 ?_
                refine x_cqv0 (va_runV (As := [.int (iI (h + 1)), .int (iI (lf - p9))]) (rest := []) ⟨hx, hb, hml, hown, hts⟩ (c_X5_part5 l g (M_24, σ.2) A (wz) (uz) (hz) (mz) hp13 (na) (ra) f_25 Ga ⟨hqa0, hqa1, hqa2⟩ ost_26 hH Wb h15 hWb hn6 Rz h14 Su h16 (fun d a b => (hfr _ (by omega)).trans (hsr d a b)) hSr c0 hc0 hsu (fun o => zFold (fun p q => zParts (zNote (sK σ Ga) (sF σ Ga) Wb na ra o) (na - (h + 1)).toNat (h + 1) (lf - p) (upI Pa h p) q) (zLst (na - 1 - h) lf) (Q o) (p9 - zLst (na - 1 - h) lf).toNat) hR (h + 1) (by omega) (lf - p9) (by omega) (zPart_room (zNote_ways (sK σ Ga) (sF σ Ga) Wb na ra 0) hh.1 (by omega) (by omega) hp0 (by omega) (hQ.2.2.2.2.2 0).1 (hR.2.2.2.2.2 0).1 hwr) (by rw [hf_25]; exact zPth_go hpT hh.1 (by omega) (by omega) (by omega) hyP)) (cwV 2 hts gX5_part_X5_part rfl rfl rfl (by decide +kernel) ⟨Nat.le_of_ble_eq_true rfl, Nat.le_of_ble_eq_true rfl⟩) (x_preVQ hK hP hD hS hA (x_recv hK hP (i := 13) (by decide) hp13 rfl)) rfl rfl hl.1 rfl (lv_room (Nat.le_of_ble_eq_true rfl)) dX5_part_109 ⟨by decide, by decide⟩) hS (fun σ1 H locs hpost hP hD hS => ?_)
                obtain ⟨M_35, p1⟩ := σ1
                obtain ⟨hp0, hfrc, wn_36, un_37, hn_38, mn_39, T_41, Rn_40, hn13, hn12, hn14, ost_42, hnT, hnQ⟩ := hpost
                obtain rfl : p1 = σ.2 := hp0
                have hP : xP g (M_35, σ.2) H := hP
                have hD : xD g A (M_35, σ.2) := hD
                have h15 := (hfrc (15) (by omega)).trans h15
                have hqa0 := (hfrc (10) (by omega)).trans hqa0
                have hqa1 := (hfrc (11) (by omega)).trans hqa1
                have h16 := (hfrc (16) (by omega)).trans h16
                have hfr := x_frc (F := fun j => j ≠ 12 ∧ j ≠ 13 ∧ j ≠ 14) hfr hfrc (fun j h => by have h : j ≠ 12 ∧ j ≠ 13 ∧ j ≠ 14 := h; omega)
                have hp13 : PObj g M_35 wn_36 un_37 hn_38 mn_39 := hn13
                have h14 : MArr g M_35 14 6 Rn_40 := hn14
                have hqa2 : MArr g M_35 12 9 T_41 := hn12
                replace hnQ : zRl na wn_36 un_37 hn_38 mn_39 Rn_40 (fun o => zParts (zNote (sK σ Ga) (sF σ Ga) Wb na ra o) (na - (h + 1)).toNat (h + 1) (lf - p9) f_25 ((fun o => zFold (fun p q => zParts (zNote (sK σ Ga) (sF σ Ga) Wb na ra o) (na - (h + 1)).toNat (h + 1) (lf - p) (upI Pa h p) q) (zLst (na - 1 - h) lf) (Q o) (p9 - zLst (na - 1 - h) lf).toNat) o)) := hnQ
                refine x_iinc (k0 := 0) (lv' := [(5, .int (iI (p9 + 1))), (4, .int (iI (lf))), (3, .int (iI (lf - ((na - 1) - h)))), (0, .ref (g.2.2 13)), (1, .int (iI (h))), (2, .int (iI (lf)))]) hx hb dX5_part_112 hl rfl (by decide) rfl (fun ls hl => ?_)
                refine lv_goto (tgt := 69) hx hb dX5_part_115 (by decide) ?_
                exact ih_23 (T_41) (wn_36) (un_37) (hn_38) (mn_39) (Rn_40) (p9 + 1) (by omega) (by exact ost_42) (by (intro i a b; rw [hnT i a (by omega), hTf i, upI_n (by omega)]; exact hpr i a b)) (by omega) (by omega) (by omega) (by (have e : (fun o => zFold (fun p q => zParts (zNote (sK σ Ga) (sF σ Ga) Wb na ra o) (na - (h + 1)).toNat (h + 1) (lf - p) (upI Pa h p) q) (zLst (na - 1 - h) lf) (Q o) ((p9 + 1) - zLst (na - 1 - h) lf).toNat) = (fun o => zParts (zNote (sK σ Ga) (sF σ Ga) Wb na ra o) (na - (h + 1)).toNat (h + 1) (lf - p9) f_25 ((fun o => zFold (fun p q => zParts (zNote (sK σ Ga) (sF σ Ga) Wb na ra o) (na - (h + 1)).toNat (h + 1) (lf - p) (upI Pa h p) q) (zLst (na - 1 - h) lf) (Q o) (p9 - zLst (na - 1 - h) lf).toNat) o)) := funext (fun o => by (rw [zFold_succ _ _ hp0]; exact zParts_congr (zNote_local (fun _ _ _ => rfl)) _ _ _ _ _ _ (by omega) hT9))); rw [e]; exact hnQ) (M_35) _ _ hp13 h15 hqa0 hqa1 hqa2 h14 h16 hfr hP hD hS ls (lv_sub hl [0, 1, 2, 3, 4, 5] rfl)
      exact hloop_69 ((((40 : Int) - ((q_22))).toNat) + 1) (Pa) (wy) (un) (hd9) (mv) (Rc) ((q_22)) (by omega) (by exact hoa) (by exact fun _ _ _ => rfl) (by omega) (by omega) (by omega) (by (have e : (fun o => zFold (fun p q => zParts (zNote (sK σ Ga) (sF σ Ga) Wb na ra o) (na - (h + 1)).toNat (h + 1) (lf - p) (upI Pa h p) q) (zLst (na - 1 - h) lf) (Q o) ((q_22) - zLst (na - 1 - h) lf).toNat) = Q := funext (fun o => zFold_0 _ _ (by omega))); rw [e]; exact hQ) (σ.1) _ _ hp13 h15 hqa0 hqa1 hqa2 h14 h16 hfr hP hD hS ls (lv_sub hl [0, 1, 2, 3, 4, 5] rfl)
  · refine lv_iload_n hx hb dX5_part_11 rfl (lv_at hl 2 rfl) ?_
    refine x_if_ne (tgt := 26) hx hb (by omega) dX5_part_12 (by decide) (fun c_12 => ?_) (fun c_12 => ?_)
    · refine x_retQv hx hb hr ?_ hP hD hS dX5_part_26 hlocks
      refine ⟨rfl, hfr, _, _, _, _, _, _, hp13, hqa2, h14, hoa, fun _ _ _ => rfl, ?_⟩
      have e : (fun o => zParts (zNote (sK σ Ga) (sF σ Ga) Wb na ra o) (na - h).toNat h lf Pa (Q o)) = Q := funext (fun o => by (rw [zParts_end _ _ _ _ (by omega), if_neg (by omega)]))
      rw [e]; exact hQ
    · have hna : h = na := by omega
      have hlz : zAll (sK σ Ga) (sF σ Ga) Pa na ra = 0 ↔ (ra = 1 ∧ 3 ≤ na → zBt (Su (na - 1) (Pa (na - 1))) (Pa (0))) := by (rw [zAll_leaf hok1a hP99 (by rw [← hna]; exact hpth.2.2)]; refine imp_congr_right (fun hc => ?_); have e0 : zBehind na ra (na - 1) = 0 := (by (unfold zBehind; rw [if_neg (by omega), if_pos hc])); have z := hsu (na - 1) (by omega) (by omega) (by rw [e0]; omega) (Pa (na - 1)) (Pa 0) (hpth.1 (na - 1) (by omega) (by omega)).1 (hpth.1 0 (by omega) (by omega)).1 (by have z2 := hpth.2.1 (na - 1) 0 (by omega) (by omega) (by omega) (by omega) (by omega); omega); rw [e0] at z; exact z.symm)
      refine lv_aload_n hx hb dX5_part_15 rfl (lv_at hl 0 rfl) ?_
      refine x_ci (va_runV (As := []) (rest := []) ⟨hx, hb, hml, hown, hts⟩ (c_X5_isClosedWell l g σ (wy) (un) (hd9) (mv) hp13 (na) (ra) Pa Ga ⟨hqa0, hqa1, hqa2⟩ hoa hH Su h16 hsr hSr hn6 (fun i a b => by have z1 := hpth.1 i a (by omega); omega)) (cwV 0 hts gX5_part_X5_isClosedWell rfl rfl rfl (by decide +kernel) ⟨Nat.le_of_ble_eq_true rfl, Nat.le_of_ble_eq_true rfl⟩) (x_preV hK hP (x_recv hK hP (i := 13) (by decide) hp13 rfl)) rfl rfl hl.1 rfl (lv_room (Nat.le_of_ble_eq_true rfl)) dX5_part_16 ⟨Nat.le_of_ble_eq_true rfl, Nat.le_of_ble_eq_true rfl⟩) (fun r_16 hr_16 qr_16 => ?_)
      replace qr_16 : (r_16 = 1 ∧ (ra = 1 ∧ 3 ≤ na → zBt (Su (na - 1) (Pa (na - 1))) (Pa (0)))) ∨ (r_16 = 0 ∧ (ra = 1 ∧ 3 ≤ na) ∧ ¬ zBt (Su (na - 1) (Pa (na - 1))) (Pa (0))) := qr_16
      refine x_if_eq (tgt := 26) hx hb (by omega) dX5_part_19 (by decide) (fun c_19 => ?_) (fun c_19 => ?_)
      · have hnz : ¬ zAll (sK σ Ga) (sF σ Ga) Pa na ra = 0 := by (rw [hlz]; rcases qr_16 with q | q; omega; exact fun q2 => q.2.2 (q2 q.2.1))
        refine x_retQv hx hb hr ?_ hP hD hS dX5_part_26 hlocks
        refine ⟨rfl, hfr, _, _, _, _, _, _, hp13, hqa2, h14, hoa, fun _ _ _ => rfl, ?_⟩
        have e : (fun o => zParts (zNote (sK σ Ga) (sF σ Ga) Wb na ra o) (na - h).toNat h lf Pa (Q o)) = Q := funext (fun o => by (rw [zParts_end _ _ _ _ (by omega), if_pos (by omega)]; unfold zNote; rw [if_pos hnz]))
        rw [e]; exact hQ
      · have hz0 : zAll (sK σ Ga) (sF σ Ga) Pa na ra = 0 := by (rw [hlz]; rcases qr_16 with q | q; exact q.2; omega)
        have hzb := zB_pos (na - h).toNat
        have hzb1 : zB (na - h).toNat = 1 := by (rw [show (na - h).toNat = 0 by omega]; rfl)
        refine lv_aload_n hx hb dX5_part_22 rfl (lv_at hl 0 rfl) ?_
        refine x_cqv0 (va_runV (As := []) (rest := []) ⟨hx, hb, hml, hown, hts⟩ (c_X5_note l g σ A (wy) (un) (hd9) (mv) hp13 (na) (ra) Pa Ga ⟨hqa0, hqa1, hqa2⟩ hoa hH Wb h15 hWb hn6 Rc h14 Q hQ (by omega) hz0) (cwV 0 hts gX5_part_X5_note rfl rfl rfl (by decide +kernel) ⟨Nat.le_of_ble_eq_true rfl, Nat.le_of_ble_eq_true rfl⟩) (x_preVQ hK hP hD hS hA (x_recv hK hP (i := 13) (by decide) hp13 rfl)) rfl rfl hl.1 rfl (lv_room (Nat.le_of_ble_eq_true rfl)) dX5_part_23 ⟨by decide, by decide⟩) hS (fun σ1 H locs hpost hP hD hS => ?_)
        obtain ⟨M_43, p1⟩ := σ1
        obtain ⟨hp0, hfrc, wn_44, un_45, hn_46, mn_47, Rn_48, hn13, hn14, hnQ⟩ := hpost
        obtain rfl : p1 = σ.2 := hp0
        have hP : xP g (M_43, σ.2) H := hP
        have hD : xD g A (M_43, σ.2) := hD
        have h15 := (hfrc (15) (by omega)).trans h15
        have hqa0 := (hfrc (10) (by omega)).trans hqa0
        have hqa1 := (hfrc (11) (by omega)).trans hqa1
        have hqa2 := (hfrc (12) (by omega)).trans hqa2
        have h16 := (hfrc (16) (by omega)).trans h16
        have hfr := x_frc (F := fun j => j ≠ 12 ∧ j ≠ 13 ∧ j ≠ 14) hfr hfrc (fun j h => by have h : j ≠ 12 ∧ j ≠ 13 ∧ j ≠ 14 := h; omega)
        have hp13 : PObj g M_43 wn_44 un_45 hn_46 mn_47 := hn13
        have h14 : MArr g M_43 14 6 Rn_48 := hn14
        replace hnQ : zRl na wn_44 un_45 hn_46 mn_47 Rn_48 (fun o => zNote (sK σ Ga) (sF σ Ga) Wb na ra o Pa (Q o)) := hnQ
        refine x_retQv hx hb hr ?_ hP hD hS dX5_part_26 hlocks
        refine ⟨rfl, hfr, _, _, _, _, _, _, hp13, hqa2, h14, hoa, fun _ _ _ => rfl, ?_⟩
        have e : (fun o => zParts (zNote (sK σ Ga) (sF σ Ga) Wb na ra o) (na - h).toNat h lf Pa (Q o)) = (fun o => zNote (sK σ Ga) (sF σ Ga) Wb na ra o Pa (Q o)) := funext (fun o => by (rw [zParts_end _ _ _ _ (by omega), if_pos (by omega)]))
        rw [e]; exact hnQ
