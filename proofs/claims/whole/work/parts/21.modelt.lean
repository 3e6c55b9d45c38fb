def zNums (C : Int → Int) (p : Int) (N : Int → Int) : Prop := (C p ≠ 117 → N 0 = C (p + 1) - 48 ∧ 0 ≤ N 0 ∧ N 0 ≤ 9) ∧ (C p ≠ 117 → C p ≠ 114 → N 1 = C (p + 2) - 48 ∧ 0 ≤ N 1 ∧ N 1 ≤ 9) ∧ (C p = 104 ∨ C p = 103 → N 2 = zVl C (p + 3) (zCnt C (p + 3) 4).toNat ∧ 0 ≤ N 2 ∧ N 2 ≤ 9999)
theorem zEnd_1 {C : Int → Int} {p : Int} (h : C p = 114 ∨ C p = 109 ∨ C p = 104 ∨ C p = 103) (h1 : zCnt C (p + 1) 1 = 0) : zEnd C p = p + 1 ∧ ¬ zStOk C p := by
  rcases h with h | h | h
  · have z := zEnd_r h
    exact ⟨by have := z.1; omega, fun x => by have := z.2.mp x; omega⟩
  · exact (zEnd_m h).1 h1
  · exact (zEnd_h h).1 h1
theorem zEnd_2 {C : Int → Int} {p : Int} (h : C p = 109 ∨ C p = 104 ∨ C p = 103) (h1 : zCnt C (p + 1) 1 = 1) (h2 : zCnt C (p + 2) 1 = 0) : zEnd C p = p + 2 ∧ ¬ zStOk C p := by
  rcases h with h | h
  · have z := (zEnd_m h).2 h1
    exact ⟨by have := z.1; omega, fun x => by have := z.2.mp x; omega⟩
  · exact (zEnd_h h).2.1 h1 h2

set_option maxHeartbeats 4000000 in
set_option maxRecDepth 100000 in
theorem c_X12_readsStatement (l : Launch) (g : xG) (σ : xS) (A : Nat → Prop) (ov : Nat → Int) (hob : MObj g σ.1 ov) (El : Int → Int) (h45 : MArr g σ.1 45 800 El) (hEl : ∀ k, inR (El k)) (b z p9 : Int) (h13 : ov 13 = b) (h14 : ov 14 = z) (h12 : ov 12 = p9) (hbz : 0 ≤ b ∧ b ≤ 700 ∧ (0 ≤ z ∧ z ≤ 100) ∧ 0 ≤ p9 ∧ p9 ≤ 100) (Nm : Int → Int) (h48 : MArr g σ.1 48 3 Nm) (hNm : ∀ k, inR (Nm k)) : Met l yX12_readsStatement wsX12_readsStatement ({ frames := 3, cells := 0, slots := 0, locals := 96 }) (va_Pc [.ref (g.2.2 37)] (xPreQ g A σ)) (x_Qi g A (fun r σ1 => σ1.2 = σ.2 ∧ (∀ j, j ≠ 37 ∧ j ≠ 48 → σ1.1 j = σ.1 j) ∧ ∃ ov2 N2, MObj g σ1.1 ov2 ∧ (ov2 10 = ov 10 ∧ ov2 13 = b ∧ ov2 14 = z) ∧ MArr g σ1.1 48 3 N2 ∧ (∀ k, inR (N2 k)) ∧ ((r = 1 ∧ zStOk (zC El b z) p9 ∧ ov2 12 = zEnd (zC El b z) p9 + 1 ∧ zNums (zC El b z) p9 N2) ∨ (r = 0 ∧ ¬ zStOk (zC El b z) p9 ∧ ov2 12 = zEnd (zC El b z) p9)))) (0) (0) A := by
  refine Met.ofW (cc := cX12_readsStatement) (maxL := 3) (ret := (some .boolean)) (by decide) rfl ?_
  intro p e s m args below meth c s₁ B hml hv
  obtain ⟨rfl, hP, hK, hD, hA⟩ := hv
  have hx := B.exec
  have hb := B.bytes
  have hr := B.returns
  have hts := atoms_spec (ws := wsX12_readsStatement) B.pre
  have hown : s.vm.findClass RX12 = some m.cls := findClass_of_methodNamed B.named
  have hlocks := B.notSynchronized
  have hS : va_S A s.heap s.heap [] := va_S.rf
  have hfr : ∀ j, (j ≠ 37 ∧ j ≠ 48) → σ.1 j = σ.1 j := fun _ _ => rfl
  have hl := lv_entry ([.ref (g.2.2 37)]) (n := 3) (Nat.le_of_ble_eq_true rfl)
  rw [lg_entry_eq]
  generalize (lg_sl ([.ref (g.2.2 37)]) ++ List.replicate (3 - (lg_sl ([.ref (g.2.2 37)])).length) Slot.unset).toArray = ls at hl ⊢
  have hl : lv_has ls 3 [(0, .ref (g.2.2 37))] := hl
  have g12 := h12
  have g13 := h13
  have g14 := h14
  have g10 : ov 10 = ov 10 := rfl
  have g15 : ov 15 = ov 15 := rfl
  have hw_0 := hts (.fieldLink RX12 119 "TwiceAsRichModel" "told" "I") (by decide +kernel)
  have hin_X12 : ∀ w ∈ wsX120, w ∈ wsX12_readsStatement := by decide +kernel
  have hw_2 := hts (.fieldLink RX12 103 "TwiceAsRichModel" "pos" "I") (by decide +kernel)
  refine lv_aload_n hx hb dX12_readsStatement_0 rfl (lv_at hl 0 rfl) ?_
  refine x_ci (va_runV (As := []) (rest := []) ⟨hx, hb, hml, hown, hts⟩ (c_X12_here l g σ (ov) hob El h45 hEl b z ((ov) 12) (by omega) (by omega) rfl (by omega)) (cwV 0 hts gX12_readsStatement_X12_here rfl rfl rfl (by decide +kernel) ⟨Nat.le_of_ble_eq_true rfl, Nat.le_of_ble_eq_true rfl⟩) (x_preV hK hP (x_recv hK hP (i := 37) (by decide) hob rfl)) rfl rfl hl.1 rfl (lv_room (Nat.le_of_ble_eq_true rfl)) dX12_readsStatement_1 ⟨Nat.le_of_ble_eq_true rfl, Nat.le_of_ble_eq_true rfl⟩) (fun r_1 hr_1 qr_1 => ?_)
  replace qr_1 : r_1 = zC El b z (ov 12) ∧ True := qr_1
  refine lv_istore_n (lv' := [(1, .int (iI (r_1))), (0, .ref (g.2.2 37))]) hx hb dX12_readsStatement_4 rfl hl (by decide) rfl (fun ls hl => ?_)
  have hc : r_1 = zC El b z p9 := by (rw [← h12]; exact qr_1.1)
  refine lv_aload_n hx hb dX12_readsStatement_5 rfl (lv_at hl 1 rfl) ?_
  refine x_iconst hx hb dX12_readsStatement_6 ?_
  refine x_put (C := RX12) (T := TX12) (N := 24) (ty := .int) hx hb hts hin_X12 hown hK hP hD hS (37) (by decide) hob rfl tyX12 tyX12_ok nmX12 15 (by decide) hw_0 (fun _ h9 => h9) rfl (by decide +kernel) rfl rfl (Nat.le_of_ble_eq_true rfl) dX12_readsStatement_7 (fun M_1 H locs hnew hne hP hD hS => ?_)
  obtain ⟨ov_2, hov_2⟩ : ∃ q : Nat → Int, q = va_up (ov) 15 (0) := ⟨_, rfl⟩
  have vov_2 : ov_2 15 = 0 := by rw [hov_2]; rfl
  have nov_2 : ∀ j, j ≠ 15 → ov_2 j = ov j := fun j hj => by rw [hov_2]; exact va_up_ne _ _ hj
  have hnew : MObj g M_1 ov_2 := by rw [hov_2]; exact hnew
  have hP : xP g (M_1, σ.2) H := hP
  have hD : xD g A (M_1, σ.2) := hD
  have hob : MObj g M_1 ov_2 := hnew
  have h45 := (hne (45) (by decide)).trans h45
  have h48 := (hne (48) (by decide)).trans h48
  have hfr := x_fr (F := fun j => j ≠ 37 ∧ j ≠ 48) hfr hne (fun j h => by have h : j ≠ 37 ∧ j ≠ 48 := h; omega)
  have g10 : ov_2 10 = ov 10 := ((nov_2 10 (by decide)).trans g10)
  have g13 : ov_2 13 = b := ((nov_2 13 (by decide)).trans g13)
  have g14 : ov_2 14 = z := ((nov_2 14 (by decide)).trans g14)
  have g12 : ov_2 12 = p9 := by (refine ((nov_2 12 (by decide)).trans g12).trans ?_; omega)
  have g15 : ov_2 15 = 0 := vov_2
  refine x_iconst hx hb dX12_readsStatement_10 ?_
  refine lv_istore_n (lv' := [(2, .int (iI (1))), (1, .int (iI (r_1))), (0, .ref (g.2.2 37))]) hx hb dX12_readsStatement_11 rfl hl (by decide) rfl (fun ls hl => ?_)
  refine lv_iload_n hx hb dX12_readsStatement_12 rfl (lv_at hl 1 rfl) ?_
  refine x_bipush (n := 104) hx hb (by decide +kernel) dX12_readsStatement_13 ?_
  refine x_icmp_eq (tgt := 44) hx hb (by omega) (by omega) dX12_readsStatement_15 (by decide) (fun c_15 => ?_) (fun c_15 => ?_)
  · obtain rfl : r_1 = 104 := by omega
    refine lv_aload_n hx hb dX12_readsStatement_44 rfl (lv_at hl 2 rfl) ?_
    refine lv_dup hx hb dX12_readsStatement_45 rfl ?_
    refine x_get (C := RX12) (T := TX12) (N := 24) hx hb hts hin_X12 hown hK hP (37) (by decide) hob rfl 12 (by decide) hw_2 (fun _ h9 => h9) rfl dX12_readsStatement_46 ?_
    refine x_iconst hx hb dX12_readsStatement_49 ?_
    refine x_iadd hx hb dX12_readsStatement_50 ?_
    refine x_put (C := RX12) (T := TX12) (N := 24) (ty := .int) hx hb hts hin_X12 hown hK hP hD hS (37) (by decide) hob rfl tyX12 tyX12_ok nmX12 12 (by decide) hw_2 (fun _ h9 => h9) rfl (by decide +kernel) rfl rfl (Nat.le_of_ble_eq_true rfl) dX12_readsStatement_51 (fun M_3 H locs hnew hne hP hD hS => ?_)
    obtain ⟨ov_4, hov_4⟩ : ∃ q : Nat → Int, q = va_up (ov_2) 12 ((ov_2 12) + 1) := ⟨_, rfl⟩
    have vov_4 : ov_4 12 = (ov_2 12) + 1 := by rw [hov_4]; rfl
    have nov_4 : ∀ j, j ≠ 12 → ov_4 j = ov_2 j := fun j hj => by rw [hov_4]; exact va_up_ne _ _ hj
    have hnew : MObj g M_3 ov_4 := by rw [hov_4]; exact hnew
    have hP : xP g (M_3, σ.2) H := hP
    have hD : xD g A (M_3, σ.2) := hD
    have hob : MObj g M_3 ov_4 := hnew
    have h45 := (hne (45) (by decide)).trans h45
    have h48 := (hne (48) (by decide)).trans h48
    have hfr := x_fr (F := fun j => j ≠ 37 ∧ j ≠ 48) hfr hne (fun j h => by have h : j ≠ 37 ∧ j ≠ 48 := h; omega)
    have g10 : ov_4 10 = ov 10 := ((nov_4 10 (by decide)).trans g10)
    have g13 : ov_4 13 = b := ((nov_4 13 (by decide)).trans g13)
    have g14 : ov_4 14 = z := ((nov_4 14 (by decide)).trans g14)
    have g12 : ov_4 12 = p9 + 1 := by (refine vov_4.trans ?_; omega)
    have g15 : ov_4 15 = 0 := ((nov_4 15 (by decide)).trans g15)
    refine lv_iload_n hx hb dX12_readsStatement_54 rfl (lv_at hl 1 rfl) ?_
    refine x_bipush (n := 117) hx hb (by decide +kernel) dX12_readsStatement_55 ?_
    refine x_icmp_eq (tgt := 66) hx hb (by omega) (by omega) dX12_readsStatement_57 (by decide) (fun c_57 => ?_) (fun c_57 => ?_)
    · exact absurd c_57 (by decide)
    · refine lv_aload_n hx hb dX12_readsStatement_60 rfl (lv_at hl 2 rfl) ?_
      refine x_iconst hx hb dX12_readsStatement_61 ?_
      refine x_cqi0 (va_runV (As := [.int (iI (1))]) (rest := []) ⟨hx, hb, hml, hown, hts⟩ (c_X12_readsNumber l g (M_3, σ.2) A (ov_4) hob El h45 hEl b z ((ov_4) 12) (by omega) (by omega) rfl (by omega) Nm h48 hNm ((ov_4) 15) rfl (by omega) (1) (by omega)) (cwV 1 hts gX12_readsStatement_X12_readsNumber rfl rfl rfl (by decide +kernel) ⟨Nat.le_of_ble_eq_true rfl, Nat.le_of_ble_eq_true rfl⟩) (x_preVQ hK hP hD hS hA (x_recv hK hP (i := 37) (by decide) hob rfl)) rfl rfl hl.1 rfl (lv_room (Nat.le_of_ble_eq_true rfl)) dX12_readsStatement_62 ⟨by decide, by decide⟩) hS (fun r_62 σ1 H locs hr_62 hpost hP hD hS => ?_)
      obtain ⟨M_5, p1⟩ := σ1
      obtain ⟨hp0, hfrc, qr_62, ov_6, hnew, e12, e15, ⟨e10, e13, e14⟩, hnew2, hv1, hv2⟩ := hpost
      obtain rfl : p1 = σ.2 := hp0
      have hP : xP g (M_5, σ.2) H := hP
      have hD : xD g A (M_5, σ.2) := hD
      have h45 := (hfrc (45) (by omega)).trans h45
      have hfr := x_frc (F := fun j => j ≠ 37 ∧ j ≠ 48) hfr hfrc (fun j h => by have h : j ≠ 37 ∧ j ≠ 48 := h; omega)
      rw [g12, g15] at hnew2
      rw [g12] at qr_62 e12 hv1 hv2
      have g15 : ov_6 15 = 1 := by omega
      have g12 : ov_6 12 = p9 + 1 + zCnt (zC El b z) (p9 + 1) 1 := e12
      have qr_62 : (r_62 = 1 ∧ 0 < zCnt (zC El b z) (p9 + 1) 1) ∨ (r_62 = 0 ∧ zCnt (zC El b z) (p9 + 1) 1 = 0) := qr_62
      have bn0 := zCnt_rng (zC El b z) 1 (p9 + 1)
      have g10 := e10.trans g10
      have g13 := e13
      have g14 := e14
      have hob : MObj g M_5 ov_6 := hnew
      have hv1 : 0 ≤ zVl (zC El b z) (p9 + 1) (zCnt (zC El b z) (p9 + 1) 1).toNat := hv1
      have hv2 : zVl (zC El b z) (p9 + 1) (zCnt (zC El b z) (p9 + 1) 1).toNat ≤ 9999 := hv2
      obtain ⟨N_7, hN_7⟩ : ∃ q : Int → Int, q = upI Nm 0 (zVl (zC El b z) (p9 + 1) (zCnt (zC El b z) (p9 + 1) 1).toNat) := ⟨_, rfl⟩
      have h48 : MArr g M_5 48 3 N_7 := by rw [hN_7]; exact hnew2
      have rN_7 : ∀ k, inR (N_7 k) := by rw [hN_7]; exact upI_rng hNm ⟨by omega, by omega⟩
      have m0 : N_7 0 = zVl (zC El b z) (p9 + 1) (zCnt (zC El b z) (p9 + 1) 1).toNat := by rw [hN_7]; exact upI_s
      refine lv_istore_n (lv' := [(2, .int (iI (r_62))), (1, .int (iI (104))), (0, .ref (g.2.2 37))]) hx hb dX12_readsStatement_65 rfl hl (by decide) rfl (fun ls hl => ?_)
      refine lv_iload_n hx hb dX12_readsStatement_66 rfl (lv_at hl 0 rfl) ?_
      refine x_if_eq (tgt := 88) hx hb (by omega) dX12_readsStatement_67 (by decide) (fun c_67 => ?_) (fun c_67 => ?_)
      · have q62 : zCnt (zC El b z) (p9 + 1) 1 = 0 := by omega
        clear qr_62
        refine lv_iload_n hx hb dX12_readsStatement_88 rfl (lv_at hl 0 rfl) ?_
        refine x_if_eq (tgt := 110) hx hb (by omega) dX12_readsStatement_89 (by decide) (fun c_89 => ?_) (fun c_89 => ?_)
        · refine lv_iload_n hx hb dX12_readsStatement_110 rfl (lv_at hl 0 rfl) ?_
          refine x_if_eq (tgt := 123) hx hb (by omega) dX12_readsStatement_111 (by decide) (fun c_111 => ?_) (fun c_111 => ?_)
          · refine x_iconst hx hb dX12_readsStatement_123 ?_
            refine x_retQz hx hb hr (by omega) ?_ hP hD hS dX12_readsStatement_124 hlocks
            have zz := zEnd_1 (C := (zC El b z)) (p := p9) (by omega) (by omega)
            refine ⟨rfl, hfr, ov_6, N_7, hob, ⟨g10, g13, g14⟩, h48, rN_7, Or.inr ⟨rfl, zz.2, by have := zz.1; omega⟩⟩
          · exfalso; omega
        · exfalso; omega
      · have q62 : zCnt (zC El b z) (p9 + 1) 1 = 1 := by omega
        clear qr_62
        refine lv_iload_n hx hb dX12_readsStatement_70 rfl (lv_at hl 1 rfl) ?_
        refine x_bipush (n := 117) hx hb (by decide +kernel) dX12_readsStatement_71 ?_
        refine x_icmp_eq (tgt := 88) hx hb (by omega) (by omega) dX12_readsStatement_73 (by decide) (fun c_73 => ?_) (fun c_73 => ?_)
        · exact absurd c_73 (by decide)
        · refine lv_iload_n hx hb dX12_readsStatement_76 rfl (lv_at hl 1 rfl) ?_
          refine x_bipush (n := 114) hx hb (by decide +kernel) dX12_readsStatement_77 ?_
          refine x_icmp_eq (tgt := 88) hx hb (by omega) (by omega) dX12_readsStatement_79 (by decide) (fun c_79 => ?_) (fun c_79 => ?_)
          · exact absurd c_79 (by decide)
          · have g12 : ov_6 12 = p9 + 2 := by omega
            refine lv_aload_n hx hb dX12_readsStatement_82 rfl (lv_at hl 2 rfl) ?_
            refine x_iconst hx hb dX12_readsStatement_83 ?_
            refine x_cqi0 (va_runV (As := [.int (iI (1))]) (rest := []) ⟨hx, hb, hml, hown, hts⟩ (c_X12_readsNumber l g (M_5, σ.2) A (ov_6) hob El h45 hEl b z ((ov_6) 12) (by omega) (by omega) rfl (by omega) N_7 h48 rN_7 ((ov_6) 15) rfl (by omega) (1) (by omega)) (cwV 1 hts gX12_readsStatement_X12_readsNumber rfl rfl rfl (by decide +kernel) ⟨Nat.le_of_ble_eq_true rfl, Nat.le_of_ble_eq_true rfl⟩) (x_preVQ hK hP hD hS hA (x_recv hK hP (i := 37) (by decide) hob rfl)) rfl rfl hl.1 rfl (lv_room (Nat.le_of_ble_eq_true rfl)) dX12_readsStatement_84 ⟨by decide, by decide⟩) hS (fun r_84 σ1 H locs hr_84 hpost hP hD hS => ?_)
            obtain ⟨M_8, p1⟩ := σ1
            obtain ⟨hp0, hfrc, qr_84, ov_9, hnew, e12, e15, ⟨e10, e13, e14⟩, hnew2, hv1, hv2⟩ := hpost
            obtain rfl : p1 = σ.2 := hp0
            have hP : xP g (M_8, σ.2) H := hP
            have hD : xD g A (M_8, σ.2) := hD
            have h45 := (hfrc (45) (by omega)).trans h45
            have hfr := x_frc (F := fun j => j ≠ 37 ∧ j ≠ 48) hfr hfrc (fun j h => by have h : j ≠ 37 ∧ j ≠ 48 := h; omega)
            rw [g12, g15] at hnew2
            rw [g12] at qr_84 e12 hv1 hv2
            have g15 : ov_9 15 = 2 := by omega
            have g12 : ov_9 12 = p9 + 2 + zCnt (zC El b z) (p9 + 2) 1 := e12
            have qr_84 : (r_84 = 1 ∧ 0 < zCnt (zC El b z) (p9 + 2) 1) ∨ (r_84 = 0 ∧ zCnt (zC El b z) (p9 + 2) 1 = 0) := qr_84
            have bn1 := zCnt_rng (zC El b z) 1 (p9 + 2)
            have g10 := e10.trans g10
            have g13 := e13
            have g14 := e14
            have hob : MObj g M_8 ov_9 := hnew
            have hv1 : 0 ≤ zVl (zC El b z) (p9 + 2) (zCnt (zC El b z) (p9 + 2) 1).toNat := hv1
            have hv2 : zVl (zC El b z) (p9 + 2) (zCnt (zC El b z) (p9 + 2) 1).toNat ≤ 9999 := hv2
            obtain ⟨N_10, hN_10⟩ : ∃ q : Int → Int, q = upI N_7 1 (zVl (zC El b z) (p9 + 2) (zCnt (zC El b z) (p9 + 2) 1).toNat) := ⟨_, rfl⟩
            have h48 : MArr g M_8 48 3 N_10 := by rw [hN_10]; exact hnew2
            have rN_10 : ∀ k, inR (N_10 k) := by rw [hN_10]; exact upI_rng rN_7 ⟨by omega, by omega⟩
            have m1 : N_10 1 = zVl (zC El b z) (p9 + 2) (zCnt (zC El b z) (p9 + 2) 1).toNat := by rw [hN_10]; exact upI_s
            have m0 := (show N_10 0 = N_7 0 by rw [hN_10]; exact upI_n (by omega)).trans m0
            refine lv_istore_n (lv' := [(2, .int (iI (r_84))), (1, .int (iI (104))), (0, .ref (g.2.2 37))]) hx hb dX12_readsStatement_87 rfl hl (by decide) rfl (fun ls hl => ?_)
            refine lv_iload_n hx hb dX12_readsStatement_88 rfl (lv_at hl 0 rfl) ?_
            refine x_if_eq (tgt := 110) hx hb (by omega) dX12_readsStatement_89 (by decide) (fun c_89 => ?_) (fun c_89 => ?_)
            · have q84 : zCnt (zC El b z) (p9 + 2) 1 = 0 := by omega
              clear qr_84
              refine lv_iload_n hx hb dX12_readsStatement_110 rfl (lv_at hl 0 rfl) ?_
              refine x_if_eq (tgt := 123) hx hb (by omega) dX12_readsStatement_111 (by decide) (fun c_111 => ?_) (fun c_111 => ?_)
              · refine x_iconst hx hb dX12_readsStatement_123 ?_
                refine x_retQz hx hb hr (by omega) ?_ hP hD hS dX12_readsStatement_124 hlocks
                have zz := zEnd_2 (C := (zC El b z)) (p := p9) (by omega) (by omega) (by omega)
                refine ⟨rfl, hfr, ov_9, N_10, hob, ⟨g10, g13, g14⟩, h48, rN_10, Or.inr ⟨rfl, zz.2, by have := zz.1; omega⟩⟩
              · exfalso; omega
            · have q84 : zCnt (zC El b z) (p9 + 2) 1 = 1 := by omega
              clear qr_84
              refine lv_iload_n hx hb dX12_readsStatement_92 rfl (lv_at hl 1 rfl) ?_
              refine x_bipush (n := 104) hx hb (by decide +kernel) dX12_readsStatement_93 ?_
              refine x_icmp_eq (tgt := 104) hx hb (by omega) (by omega) dX12_readsStatement_95 (by decide) (fun c_95 => ?_) (fun c_95 => ?_)
              · have g12 : ov_9 12 = p9 + 3 := by omega
                refine lv_aload_n hx hb dX12_readsStatement_104 rfl (lv_at hl 2 rfl) ?_
                refine x_iconst hx hb dX12_readsStatement_105 ?_
                refine x_cqi0 (va_runV (As := [.int (iI (4))]) (rest := []) ⟨hx, hb, hml, hown, hts⟩ (c_X12_readsNumber l g (M_8, σ.2) A (ov_9) hob El h45 hEl b z ((ov_9) 12) (by omega) (by omega) rfl (by omega) N_10 h48 rN_10 ((ov_9) 15) rfl (by omega) (4) (by omega)) (cwV 1 hts gX12_readsStatement_X12_readsNumber rfl rfl rfl (by decide +kernel) ⟨Nat.le_of_ble_eq_true rfl, Nat.le_of_ble_eq_true rfl⟩) (x_preVQ hK hP hD hS hA (x_recv hK hP (i := 37) (by decide) hob rfl)) rfl rfl hl.1 rfl (lv_room (Nat.le_of_ble_eq_true rfl)) dX12_readsStatement_106 ⟨by decide, by decide⟩) hS (fun r_106 σ1 H locs hr_106 hpost hP hD hS => ?_)
                obtain ⟨M_11, p1⟩ := σ1
                obtain ⟨hp0, hfrc, qr_106, ov_12, hnew, e12, e15, ⟨e10, e13, e14⟩, hnew2, hv1, hv2⟩ := hpost
                obtain rfl : p1 = σ.2 := hp0
                have hP : xP g (M_11, σ.2) H := hP
                have hD : xD g A (M_11, σ.2) := hD
                have h45 := (hfrc (45) (by omega)).trans h45
                have hfr := x_frc (F := fun j => j ≠ 37 ∧ j ≠ 48) hfr hfrc (fun j h => by have h : j ≠ 37 ∧ j ≠ 48 := h; omega)
                rw [g12, g15] at hnew2
                rw [g12] at qr_106 e12 hv1 hv2
                have g15 : ov_12 15 = 3 := by omega
                have g12 : ov_12 12 = p9 + 3 + zCnt (zC El b z) (p9 + 3) 4 := e12
                have qr_106 : (r_106 = 1 ∧ 0 < zCnt (zC El b z) (p9 + 3) 4) ∨ (r_106 = 0 ∧ zCnt (zC El b z) (p9 + 3) 4 = 0) := qr_106
                have bn2 := zCnt_rng (zC El b z) 4 (p9 + 3)
                have g10 := e10.trans g10
                have g13 := e13
                have g14 := e14
                have hob : MObj g M_11 ov_12 := hnew
                have hv1 : 0 ≤ zVl (zC El b z) (p9 + 3) (zCnt (zC El b z) (p9 + 3) 4).toNat := hv1
                have hv2 : zVl (zC El b z) (p9 + 3) (zCnt (zC El b z) (p9 + 3) 4).toNat ≤ 9999 := hv2
                obtain ⟨N_13, hN_13⟩ : ∃ q : Int → Int, q = upI N_10 2 (zVl (zC El b z) (p9 + 3) (zCnt (zC El b z) (p9 + 3) 4).toNat) := ⟨_, rfl⟩
                have h48 : MArr g M_11 48 3 N_13 := by rw [hN_13]; exact hnew2
                have rN_13 : ∀ k, inR (N_13 k) := by rw [hN_13]; exact upI_rng rN_10 ⟨by omega, by omega⟩
                have m2 : N_13 2 = zVl (zC El b z) (p9 + 3) (zCnt (zC El b z) (p9 + 3) 4).toNat := by rw [hN_13]; exact upI_s
                have m0 := (show N_13 0 = N_10 0 by rw [hN_13]; exact upI_n (by omega)).trans m0
                have m1 := (show N_13 1 = N_10 1 by rw [hN_13]; exact upI_n (by omega)).trans m1
                refine lv_istore_n (lv' := [(2, .int (iI (r_106))), (1, .int (iI (104))), (0, .ref (g.2.2 37))]) hx hb dX12_readsStatement_109 rfl hl (by decide) rfl (fun ls hl => ?_)
                refine lv_iload_n hx hb dX12_readsStatement_110 rfl (lv_at hl 0 rfl) ?_
                refine x_if_eq (tgt := 123) hx hb (by omega) dX12_readsStatement_111 (by decide) (fun c_111 => ?_) (fun c_111 => ?_)
                · have q106 : zCnt (zC El b z) (p9 + 3) 4 = 0 := by omega
                  clear qr_106
                  refine x_iconst hx hb dX12_readsStatement_123 ?_
                  refine x_retQz hx hb hr (by omega) ?_ hP hD hS dX12_readsStatement_124 hlocks
                  have zz := zEnd_h (C := (zC El b z)) (p := p9) (by omega) 
                  have zz := zz.2.2 (by omega) (by omega)
                  refine ⟨rfl, hfr, ov_12, N_13, hob, ⟨g10, g13, g14⟩, h48, rN_13, Or.inr ⟨rfl, fun x => by have := zz.2.mp x; omega, by have := zz.1; omega⟩⟩
                · have q106 : 0 < zCnt (zC El b z) (p9 + 3) 4 := by omega
                  clear qr_106
                  refine lv_aload_n hx hb dX12_readsStatement_114 rfl (lv_at hl 2 rfl) ?_
                  refine x_ci (va_runV (As := []) (rest := []) ⟨hx, hb, hml, hown, hts⟩ (c_X12_here l g (M_11, σ.2) (ov_12) hob El h45 hEl b z ((ov_12) 12) (by omega) (by omega) rfl (by omega)) (cwV 0 hts gX12_readsStatement_X12_here rfl rfl rfl (by decide +kernel) ⟨Nat.le_of_ble_eq_true rfl, Nat.le_of_ble_eq_true rfl⟩) (x_preV hK hP (x_recv hK hP (i := 37) (by decide) hob rfl)) rfl rfl hl.1 rfl (lv_room (Nat.le_of_ble_eq_true rfl)) dX12_readsStatement_115 ⟨Nat.le_of_ble_eq_true rfl, Nat.le_of_ble_eq_true rfl⟩) (fun r_115 hr_115 qr_115 => ?_)
                  replace qr_115 : r_115 = zC El b z (ov_12 12) ∧ True := qr_115
                  refine x_bipush (n := 59) hx hb (by decide +kernel) dX12_readsStatement_118 ?_
                  refine x_icmp_eq (tgt := 125) hx hb (by omega) (by omega) dX12_readsStatement_120 (by decide) (fun c_120 => ?_) (fun c_120 => ?_)
                  · refine lv_aload_n hx hb dX12_readsStatement_125 rfl (lv_at hl 2 rfl) ?_
                    refine lv_dup hx hb dX12_readsStatement_126 rfl ?_
                    refine x_get (C := RX12) (T := TX12) (N := 24) hx hb hts hin_X12 hown hK hP (37) (by decide) hob rfl 12 (by decide) hw_2 (fun _ h9 => h9) rfl dX12_readsStatement_127 ?_
                    refine x_iconst hx hb dX12_readsStatement_130 ?_
                    refine x_iadd hx hb dX12_readsStatement_131 ?_
                    refine x_put (C := RX12) (T := TX12) (N := 24) (ty := .int) hx hb hts hin_X12 hown hK hP hD hS (37) (by decide) hob rfl tyX12 tyX12_ok nmX12 12 (by decide) hw_2 (fun _ h9 => h9) rfl (by decide +kernel) rfl rfl (Nat.le_of_ble_eq_true rfl) dX12_readsStatement_132 (fun M_14 H locs hnew hne hP hD hS => ?_)
                    obtain ⟨ov_15, hov_15⟩ : ∃ q : Nat → Int, q = va_up (ov_12) 12 ((ov_12 12) + 1) := ⟨_, rfl⟩
                    have vov_15 : ov_15 12 = (ov_12 12) + 1 := by rw [hov_15]; rfl
                    have nov_15 : ∀ j, j ≠ 12 → ov_15 j = ov_12 j := fun j hj => by rw [hov_15]; exact va_up_ne _ _ hj
                    have hnew : MObj g M_14 ov_15 := by rw [hov_15]; exact hnew
                    have hP : xP g (M_14, σ.2) H := hP
                    have hD : xD g A (M_14, σ.2) := hD
                    have hob : MObj g M_14 ov_15 := hnew
                    have h45 := (hne (45) (by decide)).trans h45
                    have h48 := (hne (48) (by decide)).trans h48
                    have hfr := x_fr (F := fun j => j ≠ 37 ∧ j ≠ 48) hfr hne (fun j h => by have h : j ≠ 37 ∧ j ≠ 48 := h; omega)
                    have g10 : ov_15 10 = ov 10 := ((nov_15 10 (by decide)).trans g10)
                    have g13 : ov_15 13 = b := ((nov_15 13 (by decide)).trans g13)
                    have g14 : ov_15 14 = z := ((nov_15 14 (by decide)).trans g14)
                    have g12 := vov_15
                    refine x_iconst hx hb dX12_readsStatement_135 ?_
                    refine x_retQz hx hb hr (by omega) ?_ hP hD hS dX12_readsStatement_136 hlocks
                    have zz := zEnd_h (C := (zC El b z)) (p := p9) (by omega) 
                    have zz := zz.2.2 (by omega) (by omega)
                    have hs : r_115 = zC El b z (p9 + 3 + zCnt (zC El b z) (p9 + 3) 4) := by (rw [qr_115.1]; exact congrArg _ (by omega))
                    have d0 := (zCnt_1 (zC El b z) (p9 + 1)).resolve_right (fun q => by have := q.1; omega)
                    have m0 := m0.trans (zVl_1 d0.1)
                    have d1 := (zCnt_1 (zC El b z) (p9 + 2)).resolve_right (fun q => by have := q.1; omega)
                    have m1 := m1.trans (zVl_1 d1.1)
                    refine ⟨rfl, hfr, ov_15, N_13, hob, ⟨g10, g13, g14⟩, h48, rN_13, Or.inl ⟨rfl, zz.2.mpr ⟨by omega, by omega⟩, by have := zz.1; omega, fun h => ⟨m0, by omega, by omega⟩, fun h h2 => ⟨m1, by omega, by omega⟩, fun h => ⟨m2, by omega, by omega⟩⟩⟩
                  · refine x_iconst hx hb dX12_readsStatement_123 ?_
                    refine x_retQz hx hb hr (by omega) ?_ hP hD hS dX12_readsStatement_124 hlocks
                    have zz := zEnd_h (C := (zC El b z)) (p := p9) (by omega) 
                    have zz := zz.2.2 (by omega) (by omega)
                    have hs : r_115 = zC El b z (p9 + 3 + zCnt (zC El b z) (p9 + 3) 4) := by (rw [qr_115.1]; exact congrArg _ (by omega))
                    refine ⟨rfl, hfr, ov_12, N_13, hob, ⟨g10, g13, g14⟩, h48, rN_13, Or.inr ⟨rfl, fun x => by have := zz.2.mp x; omega, by have := zz.1; omega⟩⟩
              · exact absurd c_95 (by decide)
  · refine lv_iload_n hx hb dX12_readsStatement_18 rfl (lv_at hl 1 rfl) ?_
    refine x_bipush (n := 114) hx hb (by decide +kernel) dX12_readsStatement_19 ?_
    refine x_icmp_eq (tgt := 44) hx hb (by omega) (by omega) dX12_readsStatement_21 (by decide) (fun c_21 => ?_) (fun c_21 => ?_)
    · obtain rfl : r_1 = 114 := by omega
      refine lv_aload_n hx hb dX12_readsStatement_44 rfl (lv_at hl 2 rfl) ?_
      refine lv_dup hx hb dX12_readsStatement_45 rfl ?_
      refine x_get (C := RX12) (T := TX12) (N := 24) hx hb hts hin_X12 hown hK hP (37) (by decide) hob rfl 12 (by decide) hw_2 (fun _ h9 => h9) rfl dX12_readsStatement_46 ?_
      refine x_iconst hx hb dX12_readsStatement_49 ?_
      refine x_iadd hx hb dX12_readsStatement_50 ?_
      refine x_put (C := RX12) (T := TX12) (N := 24) (ty := .int) hx hb hts hin_X12 hown hK hP hD hS (37) (by decide) hob rfl tyX12 tyX12_ok nmX12 12 (by decide) hw_2 (fun _ h9 => h9) rfl (by decide +kernel) rfl rfl (Nat.le_of_ble_eq_true rfl) dX12_readsStatement_51 (fun M_16 H locs hnew hne hP hD hS => ?_)
      obtain ⟨ov_17, hov_17⟩ : ∃ q : Nat → Int, q = va_up (ov_2) 12 ((ov_2 12) + 1) := ⟨_, rfl⟩
      have vov_17 : ov_17 12 = (ov_2 12) + 1 := by rw [hov_17]; rfl
      have nov_17 : ∀ j, j ≠ 12 → ov_17 j = ov_2 j := fun j hj => by rw [hov_17]; exact va_up_ne _ _ hj
      have hnew : MObj g M_16 ov_17 := by rw [hov_17]; exact hnew
      have hP : xP g (M_16, σ.2) H := hP
      have hD : xD g A (M_16, σ.2) := hD
      have hob : MObj g M_16 ov_17 := hnew
      have h45 := (hne (45) (by decide)).trans h45
      have h48 := (hne (48) (by decide)).trans h48
      have hfr := x_fr (F := fun j => j ≠ 37 ∧ j ≠ 48) hfr hne (fun j h => by have h : j ≠ 37 ∧ j ≠ 48 := h; omega)
      have g10 : ov_17 10 = ov 10 := ((nov_17 10 (by decide)).trans g10)
      have g13 : ov_17 13 = b := ((nov_17 13 (by decide)).trans g13)
      have g14 : ov_17 14 = z := ((nov_17 14 (by decide)).trans g14)
      have g12 : ov_17 12 = p9 + 1 := by (refine vov_17.trans ?_; omega)
      have g15 : ov_17 15 = 0 := ((nov_17 15 (by decide)).trans g15)
      refine lv_iload_n hx hb dX12_readsStatement_54 rfl (lv_at hl 1 rfl) ?_
      refine x_bipush (n := 117) hx hb (by decide +kernel) dX12_readsStatement_55 ?_
      refine x_icmp_eq (tgt := 66) hx hb (by omega) (by omega) dX12_readsStatement_57 (by decide) (fun c_57 => ?_) (fun c_57 => ?_)
      · exact absurd c_57 (by decide)
      · refine lv_aload_n hx hb dX12_readsStatement_60 rfl (lv_at hl 2 rfl) ?_
        refine x_iconst hx hb dX12_readsStatement_61 ?_
        refine x_cqi0 (va_runV (As := [.int (iI (1))]) (rest := []) ⟨hx, hb, hml, hown, hts⟩ (c_X12_readsNumber l g (M_16, σ.2) A (ov_17) hob El h45 hEl b z ((ov_17) 12) (by omega) (by omega) rfl (by omega) Nm h48 hNm ((ov_17) 15) rfl (by omega) (1) (by omega)) (cwV 1 hts gX12_readsStatement_X12_readsNumber rfl rfl rfl (by decide +kernel) ⟨Nat.le_of_ble_eq_true rfl, Nat.le_of_ble_eq_true rfl⟩) (x_preVQ hK hP hD hS hA (x_recv hK hP (i := 37) (by decide) hob rfl)) rfl rfl hl.1 rfl (lv_room (Nat.le_of_ble_eq_true rfl)) dX12_readsStatement_62 ⟨by decide, by decide⟩) hS (fun r_62 σ1 H locs hr_62 hpost hP hD hS => ?_)
        obtain ⟨M_18, p1⟩ := σ1
        obtain ⟨hp0, hfrc, qr_62, ov_19, hnew, e12, e15, ⟨e10, e13, e14⟩, hnew2, hv1, hv2⟩ := hpost
        obtain rfl : p1 = σ.2 := hp0
        have hP : xP g (M_18, σ.2) H := hP
        have hD : xD g A (M_18, σ.2) := hD
        have h45 := (hfrc (45) (by omega)).trans h45
        have hfr := x_frc (F := fun j => j ≠ 37 ∧ j ≠ 48) hfr hfrc (fun j h => by have h : j ≠ 37 ∧ j ≠ 48 := h; omega)
        rw [g12, g15] at hnew2
        rw [g12] at qr_62 e12 hv1 hv2
        have g15 : ov_19 15 = 1 := by omega
        have g12 : ov_19 12 = p9 + 1 + zCnt (zC El b z) (p9 + 1) 1 := e12
        have qr_62 : (r_62 = 1 ∧ 0 < zCnt (zC El b z) (p9 + 1) 1) ∨ (r_62 = 0 ∧ zCnt (zC El b z) (p9 + 1) 1 = 0) := qr_62
        have bn0 := zCnt_rng (zC El b z) 1 (p9 + 1)
        have g10 := e10.trans g10
        have g13 := e13
        have g14 := e14
        have hob : MObj g M_18 ov_19 := hnew
        have hv1 : 0 ≤ zVl (zC El b z) (p9 + 1) (zCnt (zC El b z) (p9 + 1) 1).toNat := hv1
        have hv2 : zVl (zC El b z) (p9 + 1) (zCnt (zC El b z) (p9 + 1) 1).toNat ≤ 9999 := hv2
        obtain ⟨N_20, hN_20⟩ : ∃ q : Int → Int, q = upI Nm 0 (zVl (zC El b z) (p9 + 1) (zCnt (zC El b z) (p9 + 1) 1).toNat) := ⟨_, rfl⟩
        have h48 : MArr g M_18 48 3 N_20 := by rw [hN_20]; exact hnew2
        have rN_20 : ∀ k, inR (N_20 k) := by rw [hN_20]; exact upI_rng hNm ⟨by omega, by omega⟩
        have m0 : N_20 0 = zVl (zC El b z) (p9 + 1) (zCnt (zC El b z) (p9 + 1) 1).toNat := by rw [hN_20]; exact upI_s
        refine lv_istore_n (lv' := [(2, .int (iI (r_62))), (1, .int (iI (114))), (0, .ref (g.2.2 37))]) hx hb dX12_readsStatement_65 rfl hl (by decide) rfl (fun ls hl => ?_)
        refine lv_iload_n hx hb dX12_readsStatement_66 rfl (lv_at hl 0 rfl) ?_
        refine x_if_eq (tgt := 88) hx hb (by omega) dX12_readsStatement_67 (by decide) (fun c_67 => ?_) (fun c_67 => ?_)
        · have q62 : zCnt (zC El b z) (p9 + 1) 1 = 0 := by omega
          clear qr_62
          refine lv_iload_n hx hb dX12_readsStatement_88 rfl (lv_at hl 0 rfl) ?_
          refine x_if_eq (tgt := 110) hx hb (by omega) dX12_readsStatement_89 (by decide) (fun c_89 => ?_) (fun c_89 => ?_)
          · refine lv_iload_n hx hb dX12_readsStatement_110 rfl (lv_at hl 0 rfl) ?_
            refine x_if_eq (tgt := 123) hx hb (by omega) dX12_readsStatement_111 (by decide) (fun c_111 => ?_) (fun c_111 => ?_)
            · refine x_iconst hx hb dX12_readsStatement_123 ?_
              refine x_retQz hx hb hr (by omega) ?_ hP hD hS dX12_readsStatement_124 hlocks
              have zz := zEnd_1 (C := (zC El b z)) (p := p9) (by omega) (by omega)
              refine ⟨rfl, hfr, ov_19, N_20, hob, ⟨g10, g13, g14⟩, h48, rN_20, Or.inr ⟨rfl, zz.2, by have := zz.1; omega⟩⟩
            · exfalso; omega
          · exfalso; omega
        · have q62 : zCnt (zC El b z) (p9 + 1) 1 = 1 := by omega
          clear qr_62
          refine lv_iload_n hx hb dX12_readsStatement_70 rfl (lv_at hl 1 rfl) ?_
          refine x_bipush (n := 117) hx hb (by decide +kernel) dX12_readsStatement_71 ?_
          refine x_icmp_eq (tgt := 88) hx hb (by omega) (by omega) dX12_readsStatement_73 (by decide) (fun c_73 => ?_) (fun c_73 => ?_)
          · exact absurd c_73 (by decide)
          · refine lv_iload_n hx hb dX12_readsStatement_76 rfl (lv_at hl 1 rfl) ?_
            refine x_bipush (n := 114) hx hb (by decide +kernel) dX12_readsStatement_77 ?_
            refine x_icmp_eq (tgt := 88) hx hb (by omega) (by omega) dX12_readsStatement_79 (by decide) (fun c_79 => ?_) (fun c_79 => ?_)
            · refine lv_iload_n hx hb dX12_readsStatement_88 rfl (lv_at hl 0 rfl) ?_
              refine x_if_eq (tgt := 110) hx hb (by omega) dX12_readsStatement_89 (by decide) (fun c_89 => ?_) (fun c_89 => ?_)
              · exfalso; omega
              · refine lv_iload_n hx hb dX12_readsStatement_92 rfl (lv_at hl 1 rfl) ?_
                refine x_bipush (n := 104) hx hb (by decide +kernel) dX12_readsStatement_93 ?_
                refine x_icmp_eq (tgt := 104) hx hb (by omega) (by omega) dX12_readsStatement_95 (by decide) (fun c_95 => ?_) (fun c_95 => ?_)
                · exact absurd c_95 (by decide)
                · refine lv_iload_n hx hb dX12_readsStatement_98 rfl (lv_at hl 1 rfl) ?_
                  refine x_bipush (n := 103) hx hb (by decide +kernel) dX12_readsStatement_99 ?_
                  refine x_icmp_ne (tgt := 110) hx hb (by omega) (by omega) dX12_readsStatement_101 (by decide) (fun c_101 => ?_) (fun c_101 => ?_)
                  · refine lv_iload_n hx hb dX12_readsStatement_110 rfl (lv_at hl 0 rfl) ?_
                    refine x_if_eq (tgt := 123) hx hb (by omega) dX12_readsStatement_111 (by decide) (fun c_111 => ?_) (fun c_111 => ?_)
                    · exfalso; omega
                    · refine lv_aload_n hx hb dX12_readsStatement_114 rfl (lv_at hl 2 rfl) ?_
                      refine x_ci (va_runV (As := []) (rest := []) ⟨hx, hb, hml, hown, hts⟩ (c_X12_here l g (M_18, σ.2) (ov_19) hob El h45 hEl b z ((ov_19) 12) (by omega) (by omega) rfl (by omega)) (cwV 0 hts gX12_readsStatement_X12_here rfl rfl rfl (by decide +kernel) ⟨Nat.le_of_ble_eq_true rfl, Nat.le_of_ble_eq_true rfl⟩) (x_preV hK hP (x_recv hK hP (i := 37) (by decide) hob rfl)) rfl rfl hl.1 rfl (lv_room (Nat.le_of_ble_eq_true rfl)) dX12_readsStatement_115 ⟨Nat.le_of_ble_eq_true rfl, Nat.le_of_ble_eq_true rfl⟩) (fun r_115 hr_115 qr_115 => ?_)
                      replace qr_115 : r_115 = zC El b z (ov_19 12) ∧ True := qr_115
                      refine x_bipush (n := 59) hx hb (by decide +kernel) dX12_readsStatement_118 ?_
                      refine x_icmp_eq (tgt := 125) hx hb (by omega) (by omega) dX12_readsStatement_120 (by decide) (fun c_120 => ?_) (fun c_120 => ?_)
                      · refine lv_aload_n hx hb dX12_readsStatement_125 rfl (lv_at hl 2 rfl) ?_
                        refine lv_dup hx hb dX12_readsStatement_126 rfl ?_
                        refine x_get (C := RX12) (T := TX12) (N := 24) hx hb hts hin_X12 hown hK hP (37) (by decide) hob rfl 12 (by decide) hw_2 (fun _ h9 => h9) rfl dX12_readsStatement_127 ?_
                        refine x_iconst hx hb dX12_readsStatement_130 ?_
                        refine x_iadd hx hb dX12_readsStatement_131 ?_
                        refine x_put (C := RX12) (T := TX12) (N := 24) (ty := .int) hx hb hts hin_X12 hown hK hP hD hS (37) (by decide) hob rfl tyX12 tyX12_ok nmX12 12 (by decide) hw_2 (fun _ h9 => h9) rfl (by decide +kernel) rfl rfl (Nat.le_of_ble_eq_true rfl) dX12_readsStatement_132 (fun M_21 H locs hnew hne hP hD hS => ?_)
                        obtain ⟨ov_22, hov_22⟩ : ∃ q : Nat → Int, q = va_up (ov_19) 12 ((ov_19 12) + 1) := ⟨_, rfl⟩
                        have vov_22 : ov_22 12 = (ov_19 12) + 1 := by rw [hov_22]; rfl
                        have nov_22 : ∀ j, j ≠ 12 → ov_22 j = ov_19 j := fun j hj => by rw [hov_22]; exact va_up_ne _ _ hj
                        have hnew : MObj g M_21 ov_22 := by rw [hov_22]; exact hnew
                        have hP : xP g (M_21, σ.2) H := hP
                        have hD : xD g A (M_21, σ.2) := hD
                        have hob : MObj g M_21 ov_22 := hnew
                        have h45 := (hne (45) (by decide)).trans h45
                        have h48 := (hne (48) (by decide)).trans h48
                        have hfr := x_fr (F := fun j => j ≠ 37 ∧ j ≠ 48) hfr hne (fun j h => by have h : j ≠ 37 ∧ j ≠ 48 := h; omega)
                        have g10 : ov_22 10 = ov 10 := ((nov_22 10 (by decide)).trans g10)
                        have g13 : ov_22 13 = b := ((nov_22 13 (by decide)).trans g13)
                        have g14 : ov_22 14 = z := ((nov_22 14 (by decide)).trans g14)
                        have g12 := vov_22
                        refine x_iconst hx hb dX12_readsStatement_135 ?_
                        refine x_retQz hx hb hr (by omega) ?_ hP hD hS dX12_readsStatement_136 hlocks
                        have zz := zEnd_r (C := (zC El b z)) (p := p9) (by omega) 
                        have hs : r_115 = zC El b z (p9 + 2) := by (rw [qr_115.1]; exact congrArg _ (by omega))
                        have d0 := (zCnt_1 (zC El b z) (p9 + 1)).resolve_right (fun q => by have := q.1; omega)
                        have m0 := m0.trans (zVl_1 d0.1)
                        refine ⟨rfl, hfr, ov_22, N_20, hob, ⟨g10, g13, g14⟩, h48, rN_20, Or.inl ⟨rfl, zz.2.mpr ⟨by omega, by omega⟩, by have := zz.1; omega, fun h => ⟨m0, by omega, by omega⟩, fun h h2 => absurd (show zC El b z p9 = 114 by omega) h2, fun h => by omega⟩⟩
                      · refine x_iconst hx hb dX12_readsStatement_123 ?_
                        refine x_retQz hx hb hr (by omega) ?_ hP hD hS dX12_readsStatement_124 hlocks
                        have zz := zEnd_r (C := (zC El b z)) (p := p9) (by omega) 
                        have hs : r_115 = zC El b z (p9 + 2) := by (rw [qr_115.1]; exact congrArg _ (by omega))
                        refine ⟨rfl, hfr, ov_19, N_20, hob, ⟨g10, g13, g14⟩, h48, rN_20, Or.inr ⟨rfl, fun x => by have := zz.2.mp x; omega, by have := zz.1; omega⟩⟩
                  · exact absurd c_101 (by decide)
            · exact absurd c_79 (by decide)
    · refine lv_iload_n hx hb dX12_readsStatement_24 rfl (lv_at hl 1 rfl) ?_
      refine x_bipush (n := 103) hx hb (by decide +kernel) dX12_readsStatement_25 ?_
      refine x_icmp_eq (tgt := 44) hx hb (by omega) (by omega) dX12_readsStatement_27 (by decide) (fun c_27 => ?_) (fun c_27 => ?_)
      · obtain rfl : r_1 = 103 := by omega
        refine lv_aload_n hx hb dX12_readsStatement_44 rfl (lv_at hl 2 rfl) ?_
        refine lv_dup hx hb dX12_readsStatement_45 rfl ?_
        refine x_get (C := RX12) (T := TX12) (N := 24) hx hb hts hin_X12 hown hK hP (37) (by decide) hob rfl 12 (by decide) hw_2 (fun _ h9 => h9) rfl dX12_readsStatement_46 ?_
        refine x_iconst hx hb dX12_readsStatement_49 ?_
        refine x_iadd hx hb dX12_readsStatement_50 ?_
        refine x_put (C := RX12) (T := TX12) (N := 24) (ty := .int) hx hb hts hin_X12 hown hK hP hD hS (37) (by decide) hob rfl tyX12 tyX12_ok nmX12 12 (by decide) hw_2 (fun _ h9 => h9) rfl (by decide +kernel) rfl rfl (Nat.le_of_ble_eq_true rfl) dX12_readsStatement_51 (fun M_23 H locs hnew hne hP hD hS => ?_)
        obtain ⟨ov_24, hov_24⟩ : ∃ q : Nat → Int, q = va_up (ov_2) 12 ((ov_2 12) + 1) := ⟨_, rfl⟩
        have vov_24 : ov_24 12 = (ov_2 12) + 1 := by rw [hov_24]; rfl
        have nov_24 : ∀ j, j ≠ 12 → ov_24 j = ov_2 j := fun j hj => by rw [hov_24]; exact va_up_ne _ _ hj
        have hnew : MObj g M_23 ov_24 := by rw [hov_24]; exact hnew
        have hP : xP g (M_23, σ.2) H := hP
        have hD : xD g A (M_23, σ.2) := hD
        have hob : MObj g M_23 ov_24 := hnew
        have h45 := (hne (45) (by decide)).trans h45
        have h48 := (hne (48) (by decide)).trans h48
        have hfr := x_fr (F := fun j => j ≠ 37 ∧ j ≠ 48) hfr hne (fun j h => by have h : j ≠ 37 ∧ j ≠ 48 := h; omega)
        have g10 : ov_24 10 = ov 10 := ((nov_24 10 (by decide)).trans g10)
        have g13 : ov_24 13 = b := ((nov_24 13 (by decide)).trans g13)
        have g14 : ov_24 14 = z := ((nov_24 14 (by decide)).trans g14)
        have g12 : ov_24 12 = p9 + 1 := by (refine vov_24.trans ?_; omega)
        have g15 : ov_24 15 = 0 := ((nov_24 15 (by decide)).trans g15)
        refine lv_iload_n hx hb dX12_readsStatement_54 rfl (lv_at hl 1 rfl) ?_
        refine x_bipush (n := 117) hx hb (by decide +kernel) dX12_readsStatement_55 ?_
        refine x_icmp_eq (tgt := 66) hx hb (by omega) (by omega) dX12_readsStatement_57 (by decide) (fun c_57 => ?_) (fun c_57 => ?_)
        · exact absurd c_57 (by decide)
        · refine lv_aload_n hx hb dX12_readsStatement_60 rfl (lv_at hl 2 rfl) ?_
          refine x_iconst hx hb dX12_readsStatement_61 ?_
          refine x_cqi0 (va_runV (As := [.int (iI (1))]) (rest := []) ⟨hx, hb, hml, hown, hts⟩ (c_X12_readsNumber l g (M_23, σ.2) A (ov_24) hob El h45 hEl b z ((ov_24) 12) (by omega) (by omega) rfl (by omega) Nm h48 hNm ((ov_24) 15) rfl (by omega) (1) (by omega)) (cwV 1 hts gX12_readsStatement_X12_readsNumber rfl rfl rfl (by decide +kernel) ⟨Nat.le_of_ble_eq_true rfl, Nat.le_of_ble_eq_true rfl⟩) (x_preVQ hK hP hD hS hA (x_recv hK hP (i := 37) (by decide) hob rfl)) rfl rfl hl.1 rfl (lv_room (Nat.le_of_ble_eq_true rfl)) dX12_readsStatement_62 ⟨by decide, by decide⟩) hS (fun r_62 σ1 H locs hr_62 hpost hP hD hS => ?_)
          obtain ⟨M_25, p1⟩ := σ1
          obtain ⟨hp0, hfrc, qr_62, ov_26, hnew, e12, e15, ⟨e10, e13, e14⟩, hnew2, hv1, hv2⟩ := hpost
          obtain rfl : p1 = σ.2 := hp0
          have hP : xP g (M_25, σ.2) H := hP
          have hD : xD g A (M_25, σ.2) := hD
          have h45 := (hfrc (45) (by omega)).trans h45
          have hfr := x_frc (F := fun j => j ≠ 37 ∧ j ≠ 48) hfr hfrc (fun j h => by have h : j ≠ 37 ∧ j ≠ 48 := h; omega)
          rw [g12, g15] at hnew2
          rw [g12] at qr_62 e12 hv1 hv2
          have g15 : ov_26 15 = 1 := by omega
          have g12 : ov_26 12 = p9 + 1 + zCnt (zC El b z) (p9 + 1) 1 := e12
          have qr_62 : (r_62 = 1 ∧ 0 < zCnt (zC El b z) (p9 + 1) 1) ∨ (r_62 = 0 ∧ zCnt (zC El b z) (p9 + 1) 1 = 0) := qr_62
          have bn0 := zCnt_rng (zC El b z) 1 (p9 + 1)
          have g10 := e10.trans g10
          have g13 := e13
          have g14 := e14
          have hob : MObj g M_25 ov_26 := hnew
          have hv1 : 0 ≤ zVl (zC El b z) (p9 + 1) (zCnt (zC El b z) (p9 + 1) 1).toNat := hv1
          have hv2 : zVl (zC El b z) (p9 + 1) (zCnt (zC El b z) (p9 + 1) 1).toNat ≤ 9999 := hv2
          obtain ⟨N_27, hN_27⟩ : ∃ q : Int → Int, q = upI Nm 0 (zVl (zC El b z) (p9 + 1) (zCnt (zC El b z) (p9 + 1) 1).toNat) := ⟨_, rfl⟩
          have h48 : MArr g M_25 48 3 N_27 := by rw [hN_27]; exact hnew2
          have rN_27 : ∀ k, inR (N_27 k) := by rw [hN_27]; exact upI_rng hNm ⟨by omega, by omega⟩
          have m0 : N_27 0 = zVl (zC El b z) (p9 + 1) (zCnt (zC El b z) (p9 + 1) 1).toNat := by rw [hN_27]; exact upI_s
          refine lv_istore_n (lv' := [(2, .int (iI (r_62))), (1, .int (iI (103))), (0, .ref (g.2.2 37))]) hx hb dX12_readsStatement_65 rfl hl (by decide) rfl (fun ls hl => ?_)
          refine lv_iload_n hx hb dX12_readsStatement_66 rfl (lv_at hl 0 rfl) ?_
          refine x_if_eq (tgt := 88) hx hb (by omega) dX12_readsStatement_67 (by decide) (fun c_67 => ?_) (fun c_67 => ?_)
          · have q62 : zCnt (zC El b z) (p9 + 1) 1 = 0 := by omega
            clear qr_62
            refine lv_iload_n hx hb dX12_readsStatement_88 rfl (lv_at hl 0 rfl) ?_
            refine x_if_eq (tgt := 110) hx hb (by omega) dX12_readsStatement_89 (by decide) (fun c_89 => ?_) (fun c_89 => ?_)
            · refine lv_iload_n hx hb dX12_readsStatement_110 rfl (lv_at hl 0 rfl) ?_
              refine x_if_eq (tgt := 123) hx hb (by omega) dX12_readsStatement_111 (by decide) (fun c_111 => ?_) (fun c_111 => ?_)
              · refine x_iconst hx hb dX12_readsStatement_123 ?_
                refine x_retQz hx hb hr (by omega) ?_ hP hD hS dX12_readsStatement_124 hlocks
                have zz := zEnd_1 (C := (zC El b z)) (p := p9) (by omega) (by omega)
                refine ⟨rfl, hfr, ov_26, N_27, hob, ⟨g10, g13, g14⟩, h48, rN_27, Or.inr ⟨rfl, zz.2, by have := zz.1; omega⟩⟩
              · exfalso; omega
            · exfalso; omega
          · have q62 : zCnt (zC El b z) (p9 + 1) 1 = 1 := by omega
            clear qr_62
            refine lv_iload_n hx hb dX12_readsStatement_70 rfl (lv_at hl 1 rfl) ?_
            refine x_bipush (n := 117) hx hb (by decide +kernel) dX12_readsStatement_71 ?_
            refine x_icmp_eq (tgt := 88) hx hb (by omega) (by omega) dX12_readsStatement_73 (by decide) (fun c_73 => ?_) (fun c_73 => ?_)
            · exact absurd c_73 (by decide)
            · refine lv_iload_n hx hb dX12_readsStatement_76 rfl (lv_at hl 1 rfl) ?_
              refine x_bipush (n := 114) hx hb (by decide +kernel) dX12_readsStatement_77 ?_
              refine x_icmp_eq (tgt := 88) hx hb (by omega) (by omega) dX12_readsStatement_79 (by decide) (fun c_79 => ?_) (fun c_79 => ?_)
              · exact absurd c_79 (by decide)
              · have g12 : ov_26 12 = p9 + 2 := by omega
                refine lv_aload_n hx hb dX12_readsStatement_82 rfl (lv_at hl 2 rfl) ?_
                refine x_iconst hx hb dX12_readsStatement_83 ?_
                refine x_cqi0 (va_runV (As := [.int (iI (1))]) (rest := []) ⟨hx, hb, hml, hown, hts⟩ (c_X12_readsNumber l g (M_25, σ.2) A (ov_26) hob El h45 hEl b z ((ov_26) 12) (by omega) (by omega) rfl (by omega) N_27 h48 rN_27 ((ov_26) 15) rfl (by omega) (1) (by omega)) (cwV 1 hts gX12_readsStatement_X12_readsNumber rfl rfl rfl (by decide +kernel) ⟨Nat.le_of_ble_eq_true rfl, Nat.le_of_ble_eq_true rfl⟩) (x_preVQ hK hP hD hS hA (x_recv hK hP (i := 37) (by decide) hob rfl)) rfl rfl hl.1 rfl (lv_room (Nat.le_of_ble_eq_true rfl)) dX12_readsStatement_84 ⟨by decide, by decide⟩) hS (fun r_84 σ1 H locs hr_84 hpost hP hD hS => ?_)
                obtain ⟨M_28, p1⟩ := σ1
                obtain ⟨hp0, hfrc, qr_84, ov_29, hnew, e12, e15, ⟨e10, e13, e14⟩, hnew2, hv1, hv2⟩ := hpost
                obtain rfl : p1 = σ.2 := hp0
                have hP : xP g (M_28, σ.2) H := hP
                have hD : xD g A (M_28, σ.2) := hD
                have h45 := (hfrc (45) (by omega)).trans h45
                have hfr := x_frc (F := fun j => j ≠ 37 ∧ j ≠ 48) hfr hfrc (fun j h => by have h : j ≠ 37 ∧ j ≠ 48 := h; omega)
                rw [g12, g15] at hnew2
                rw [g12] at qr_84 e12 hv1 hv2
                have g15 : ov_29 15 = 2 := by omega
                have g12 : ov_29 12 = p9 + 2 + zCnt (zC El b z) (p9 + 2) 1 := e12
                have qr_84 : (r_84 = 1 ∧ 0 < zCnt (zC El b z) (p9 + 2) 1) ∨ (r_84 = 0 ∧ zCnt (zC El b z) (p9 + 2) 1 = 0) := qr_84
                have bn1 := zCnt_rng (zC El b z) 1 (p9 + 2)
                have g10 := e10.trans g10
                have g13 := e13
                have g14 := e14
                have hob : MObj g M_28 ov_29 := hnew
                have hv1 : 0 ≤ zVl (zC El b z) (p9 + 2) (zCnt (zC El b z) (p9 + 2) 1).toNat := hv1
                have hv2 : zVl (zC El b z) (p9 + 2) (zCnt (zC El b z) (p9 + 2) 1).toNat ≤ 9999 := hv2
                obtain ⟨N_30, hN_30⟩ : ∃ q : Int → Int, q = upI N_27 1 (zVl (zC El b z) (p9 + 2) (zCnt (zC El b z) (p9 + 2) 1).toNat) := ⟨_, rfl⟩
                have h48 : MArr g M_28 48 3 N_30 := by rw [hN_30]; exact hnew2
                have rN_30 : ∀ k, inR (N_30 k) := by rw [hN_30]; exact upI_rng rN_27 ⟨by omega, by omega⟩
                have m1 : N_30 1 = zVl (zC El b z) (p9 + 2) (zCnt (zC El b z) (p9 + 2) 1).toNat := by rw [hN_30]; exact upI_s
                have m0 := (show N_30 0 = N_27 0 by rw [hN_30]; exact upI_n (by omega)).trans m0
                refine lv_istore_n (lv' := [(2, .int (iI (r_84))), (1, .int (iI (103))), (0, .ref (g.2.2 37))]) hx hb dX12_readsStatement_87 rfl hl (by decide) rfl (fun ls hl => ?_)
                refine lv_iload_n hx hb dX12_readsStatement_88 rfl (lv_at hl 0 rfl) ?_
                refine x_if_eq (tgt := 110) hx hb (by omega) dX12_readsStatement_89 (by decide) (fun c_89 => ?_) (fun c_89 => ?_)
                · have q84 : zCnt (zC El b z) (p9 + 2) 1 = 0 := by omega
                  clear qr_84
                  refine lv_iload_n hx hb dX12_readsStatement_110 rfl (lv_at hl 0 rfl) ?_
                  refine x_if_eq (tgt := 123) hx hb (by omega) dX12_readsStatement_111 (by decide) (fun c_111 => ?_) (fun c_111 => ?_)
                  · refine x_iconst hx hb dX12_readsStatement_123 ?_
                    refine x_retQz hx hb hr (by omega) ?_ hP hD hS dX12_readsStatement_124 hlocks
                    have zz := zEnd_2 (C := (zC El b z)) (p := p9) (by omega) (by omega) (by omega)
                    refine ⟨rfl, hfr, ov_29, N_30, hob, ⟨g10, g13, g14⟩, h48, rN_30, Or.inr ⟨rfl, zz.2, by have := zz.1; omega⟩⟩
                  · exfalso; omega
                · have q84 : zCnt (zC El b z) (p9 + 2) 1 = 1 := by omega
                  clear qr_84
                  refine lv_iload_n hx hb dX12_readsStatement_92 rfl (lv_at hl 1 rfl) ?_
                  refine x_bipush (n := 104) hx hb (by decide +kernel) dX12_readsStatement_93 ?_
                  refine x_icmp_eq (tgt := 104) hx hb (by omega) (by omega) dX12_readsStatement_95 (by decide) (fun c_95 => ?_) (fun c_95 => ?_)
                  · exact absurd c_95 (by decide)
                  · refine lv_iload_n hx hb dX12_readsStatement_98 rfl (lv_at hl 1 rfl) ?_
                    refine x_bipush (n := 103) hx hb (by decide +kernel) dX12_readsStatement_99 ?_
                    refine x_icmp_ne (tgt := 110) hx hb (by omega) (by omega) dX12_readsStatement_101 (by decide) (fun c_101 => ?_) (fun c_101 => ?_)
                    · exact absurd c_101 (by decide)
                    · have g12 : ov_29 12 = p9 + 3 := by omega
                      refine lv_aload_n hx hb dX12_readsStatement_104 rfl (lv_at hl 2 rfl) ?_
                      refine x_iconst hx hb dX12_readsStatement_105 ?_
                      refine x_cqi0 (va_runV (As := [.int (iI (4))]) (rest := []) ⟨hx, hb, hml, hown, hts⟩ (c_X12_readsNumber l g (M_28, σ.2) A (ov_29) hob El h45 hEl b z ((ov_29) 12) (by omega) (by omega) rfl (by omega) N_30 h48 rN_30 ((ov_29) 15) rfl (by omega) (4) (by omega)) (cwV 1 hts gX12_readsStatement_X12_readsNumber rfl rfl rfl (by decide +kernel) ⟨Nat.le_of_ble_eq_true rfl, Nat.le_of_ble_eq_true rfl⟩) (x_preVQ hK hP hD hS hA (x_recv hK hP (i := 37) (by decide) hob rfl)) rfl rfl hl.1 rfl (lv_room (Nat.le_of_ble_eq_true rfl)) dX12_readsStatement_106 ⟨by decide, by decide⟩) hS (fun r_106 σ1 H locs hr_106 hpost hP hD hS => ?_)
                      obtain ⟨M_31, p1⟩ := σ1
                      obtain ⟨hp0, hfrc, qr_106, ov_32, hnew, e12, e15, ⟨e10, e13, e14⟩, hnew2, hv1, hv2⟩ := hpost
                      obtain rfl : p1 = σ.2 := hp0
                      have hP : xP g (M_31, σ.2) H := hP
                      have hD : xD g A (M_31, σ.2) := hD
                      have h45 := (hfrc (45) (by omega)).trans h45
                      have hfr := x_frc (F := fun j => j ≠ 37 ∧ j ≠ 48) hfr hfrc (fun j h => by have h : j ≠ 37 ∧ j ≠ 48 := h; omega)
                      rw [g12, g15] at hnew2
                      rw [g12] at qr_106 e12 hv1 hv2
                      have g15 : ov_32 15 = 3 := by omega
                      have g12 : ov_32 12 = p9 + 3 + zCnt (zC El b z) (p9 + 3) 4 := e12
                      have qr_106 : (r_106 = 1 ∧ 0 < zCnt (zC El b z) (p9 + 3) 4) ∨ (r_106 = 0 ∧ zCnt (zC El b z) (p9 + 3) 4 = 0) := qr_106
                      have bn2 := zCnt_rng (zC El b z) 4 (p9 + 3)
                      have g10 := e10.trans g10
                      have g13 := e13
                      have g14 := e14
                      have hob : MObj g M_31 ov_32 := hnew
                      have hv1 : 0 ≤ zVl (zC El b z) (p9 + 3) (zCnt (zC El b z) (p9 + 3) 4).toNat := hv1
                      have hv2 : zVl (zC El b z) (p9 + 3) (zCnt (zC El b z) (p9 + 3) 4).toNat ≤ 9999 := hv2
                      obtain ⟨N_33, hN_33⟩ : ∃ q : Int → Int, q = upI N_30 2 (zVl (zC El b z) (p9 + 3) (zCnt (zC El b z) (p9 + 3) 4).toNat) := ⟨_, rfl⟩
                      have h48 : MArr g M_31 48 3 N_33 := by rw [hN_33]; exact hnew2
                      have rN_33 : ∀ k, inR (N_33 k) := by rw [hN_33]; exact upI_rng rN_30 ⟨by omega, by omega⟩
                      have m2 : N_33 2 = zVl (zC El b z) (p9 + 3) (zCnt (zC El b z) (p9 + 3) 4).toNat := by rw [hN_33]; exact upI_s
                      have m0 := (show N_33 0 = N_30 0 by rw [hN_33]; exact upI_n (by omega)).trans m0
                      have m1 := (show N_33 1 = N_30 1 by rw [hN_33]; exact upI_n (by omega)).trans m1
                      refine lv_istore_n (lv' := [(2, .int (iI (r_106))), (1, .int (iI (103))), (0, .ref (g.2.2 37))]) hx hb dX12_readsStatement_109 rfl hl (by decide) rfl (fun ls hl => ?_)
                      refine lv_iload_n hx hb dX12_readsStatement_110 rfl (lv_at hl 0 rfl) ?_
                      refine x_if_eq (tgt := 123) hx hb (by omega) dX12_readsStatement_111 (by decide) (fun c_111 => ?_) (fun c_111 => ?_)
                      · have q106 : zCnt (zC El b z) (p9 + 3) 4 = 0 := by omega
                        clear qr_106
                        refine x_iconst hx hb dX12_readsStatement_123 ?_
                        refine x_retQz hx hb hr (by omega) ?_ hP hD hS dX12_readsStatement_124 hlocks
                        have zz := zEnd_h (C := (zC El b z)) (p := p9) (by omega) 
                        have zz := zz.2.2 (by omega) (by omega)
                        refine ⟨rfl, hfr, ov_32, N_33, hob, ⟨g10, g13, g14⟩, h48, rN_33, Or.inr ⟨rfl, fun x => by have := zz.2.mp x; omega, by have := zz.1; omega⟩⟩
                      · have q106 : 0 < zCnt (zC El b z) (p9 + 3) 4 := by omega
                        clear qr_106
                        refine lv_aload_n hx hb dX12_readsStatement_114 rfl (lv_at hl 2 rfl) ?_
                        refine x_ci (va_runV (As := []) (rest := []) ⟨hx, hb, hml, hown, hts⟩ (c_X12_here l g (M_31, σ.2) (ov_32) hob El h45 hEl b z ((ov_32) 12) (by omega) (by omega) rfl (by omega)) (cwV 0 hts gX12_readsStatement_X12_here rfl rfl rfl (by decide +kernel) ⟨Nat.le_of_ble_eq_true rfl, Nat.le_of_ble_eq_true rfl⟩) (x_preV hK hP (x_recv hK hP (i := 37) (by decide) hob rfl)) rfl rfl hl.1 rfl (lv_room (Nat.le_of_ble_eq_true rfl)) dX12_readsStatement_115 ⟨Nat.le_of_ble_eq_true rfl, Nat.le_of_ble_eq_true rfl⟩) (fun r_115 hr_115 qr_115 => ?_)
                        replace qr_115 : r_115 = zC El b z (ov_32 12) ∧ True := qr_115
                        refine x_bipush (n := 59) hx hb (by decide +kernel) dX12_readsStatement_118 ?_
                        refine x_icmp_eq (tgt := 125) hx hb (by omega) (by omega) dX12_readsStatement_120 (by decide) (fun c_120 => ?_) (fun c_120 => ?_)
                        · refine lv_aload_n hx hb dX12_readsStatement_125 rfl (lv_at hl 2 rfl) ?_
                          refine lv_dup hx hb dX12_readsStatement_126 rfl ?_
                          refine x_get (C := RX12) (T := TX12) (N := 24) hx hb hts hin_X12 hown hK hP (37) (by decide) hob rfl 12 (by decide) hw_2 (fun _ h9 => h9) rfl dX12_readsStatement_127 ?_
                          refine x_iconst hx hb dX12_readsStatement_130 ?_
                          refine x_iadd hx hb dX12_readsStatement_131 ?_
                          refine x_put (C := RX12) (T := TX12) (N := 24) (ty := .int) hx hb hts hin_X12 hown hK hP hD hS (37) (by decide) hob rfl tyX12 tyX12_ok nmX12 12 (by decide) hw_2 (fun _ h9 => h9) rfl (by decide +kernel) rfl rfl (Nat.le_of_ble_eq_true rfl) dX12_readsStatement_132 (fun M_34 H locs hnew hne hP hD hS => ?_)
                          obtain ⟨ov_35, hov_35⟩ : ∃ q : Nat → Int, q = va_up (ov_32) 12 ((ov_32 12) + 1) := ⟨_, rfl⟩
                          have vov_35 : ov_35 12 = (ov_32 12) + 1 := by rw [hov_35]; rfl
                          have nov_35 : ∀ j, j ≠ 12 → ov_35 j = ov_32 j := fun j hj => by rw [hov_35]; exact va_up_ne _ _ hj
                          have hnew : MObj g M_34 ov_35 := by rw [hov_35]; exact hnew
                          have hP : xP g (M_34, σ.2) H := hP
                          have hD : xD g A (M_34, σ.2) := hD
                          have hob : MObj g M_34 ov_35 := hnew
                          have h45 := (hne (45) (by decide)).trans h45
                          have h48 := (hne (48) (by decide)).trans h48
                          have hfr := x_fr (F := fun j => j ≠ 37 ∧ j ≠ 48) hfr hne (fun j h => by have h : j ≠ 37 ∧ j ≠ 48 := h; omega)
                          have g10 : ov_35 10 = ov 10 := ((nov_35 10 (by decide)).trans g10)
                          have g13 : ov_35 13 = b := ((nov_35 13 (by decide)).trans g13)
                          have g14 : ov_35 14 = z := ((nov_35 14 (by decide)).trans g14)
                          have g12 := vov_35
                          refine x_iconst hx hb dX12_readsStatement_135 ?_
                          refine x_retQz hx hb hr (by omega) ?_ hP hD hS dX12_readsStatement_136 hlocks
                          have zz := zEnd_h (C := (zC El b z)) (p := p9) (by omega) 
                          have zz := zz.2.2 (by omega) (by omega)
                          have hs : r_115 = zC El b z (p9 + 3 + zCnt (zC El b z) (p9 + 3) 4) := by (rw [qr_115.1]; exact congrArg _ (by omega))
                          have d0 := (zCnt_1 (zC El b z) (p9 + 1)).resolve_right (fun q => by have := q.1; omega)
                          have m0 := m0.trans (zVl_1 d0.1)
                          have d1 := (zCnt_1 (zC El b z) (p9 + 2)).resolve_right (fun q => by have := q.1; omega)
                          have m1 := m1.trans (zVl_1 d1.1)
                          refine ⟨rfl, hfr, ov_35, N_33, hob, ⟨g10, g13, g14⟩, h48, rN_33, Or.inl ⟨rfl, zz.2.mpr ⟨by omega, by omega⟩, by have := zz.1; omega, fun h => ⟨m0, by omega, by omega⟩, fun h h2 => ⟨m1, by omega, by omega⟩, fun h => ⟨m2, by omega, by omega⟩⟩⟩
                        · refine x_iconst hx hb dX12_readsStatement_123 ?_
                          refine x_retQz hx hb hr (by omega) ?_ hP hD hS dX12_readsStatement_124 hlocks
                          have zz := zEnd_h (C := (zC El b z)) (p := p9) (by omega) 
                          have zz := zz.2.2 (by omega) (by omega)
                          have hs : r_115 = zC El b z (p9 + 3 + zCnt (zC El b z) (p9 + 3) 4) := by (rw [qr_115.1]; exact congrArg _ (by omega))
                          refine ⟨rfl, hfr, ov_32, N_33, hob, ⟨g10, g13, g14⟩, h48, rN_33, Or.inr ⟨rfl, fun x => by have := zz.2.mp x; omega, by have := zz.1; omega⟩⟩
      · refine lv_iload_n hx hb dX12_readsStatement_30 rfl (lv_at hl 1 rfl) ?_
        refine x_bipush (n := 109) hx hb (by decide +kernel) dX12_readsStatement_31 ?_
        refine x_icmp_eq (tgt := 44) hx hb (by omega) (by omega) dX12_readsStatement_33 (by decide) (fun c_33 => ?_) (fun c_33 => ?_)
        · obtain rfl : r_1 = 109 := by omega
          refine lv_aload_n hx hb dX12_readsStatement_44 rfl (lv_at hl 2 rfl) ?_
          refine lv_dup hx hb dX12_readsStatement_45 rfl ?_
          refine x_get (C := RX12) (T := TX12) (N := 24) hx hb hts hin_X12 hown hK hP (37) (by decide) hob rfl 12 (by decide) hw_2 (fun _ h9 => h9) rfl dX12_readsStatement_46 ?_
          refine x_iconst hx hb dX12_readsStatement_49 ?_
          refine x_iadd hx hb dX12_readsStatement_50 ?_
          refine x_put (C := RX12) (T := TX12) (N := 24) (ty := .int) hx hb hts hin_X12 hown hK hP hD hS (37) (by decide) hob rfl tyX12 tyX12_ok nmX12 12 (by decide) hw_2 (fun _ h9 => h9) rfl (by decide +kernel) rfl rfl (Nat.le_of_ble_eq_true rfl) dX12_readsStatement_51 (fun M_36 H locs hnew hne hP hD hS => ?_)
          obtain ⟨ov_37, hov_37⟩ : ∃ q : Nat → Int, q = va_up (ov_2) 12 ((ov_2 12) + 1) := ⟨_, rfl⟩
          have vov_37 : ov_37 12 = (ov_2 12) + 1 := by rw [hov_37]; rfl
          have nov_37 : ∀ j, j ≠ 12 → ov_37 j = ov_2 j := fun j hj => by rw [hov_37]; exact va_up_ne _ _ hj
          have hnew : MObj g M_36 ov_37 := by rw [hov_37]; exact hnew
          have hP : xP g (M_36, σ.2) H := hP
          have hD : xD g A (M_36, σ.2) := hD
          have hob : MObj g M_36 ov_37 := hnew
          have h45 := (hne (45) (by decide)).trans h45
          have h48 := (hne (48) (by decide)).trans h48
          have hfr := x_fr (F := fun j => j ≠ 37 ∧ j ≠ 48) hfr hne (fun j h => by have h : j ≠ 37 ∧ j ≠ 48 := h; omega)
          have g10 : ov_37 10 = ov 10 := ((nov_37 10 (by decide)).trans g10)
          have g13 : ov_37 13 = b := ((nov_37 13 (by decide)).trans g13)
          have g14 : ov_37 14 = z := ((nov_37 14 (by decide)).trans g14)
          have g12 : ov_37 12 = p9 + 1 := by (refine vov_37.trans ?_; omega)
          have g15 : ov_37 15 = 0 := ((nov_37 15 (by decide)).trans g15)
          refine lv_iload_n hx hb dX12_readsStatement_54 rfl (lv_at hl 1 rfl) ?_
          refine x_bipush (n := 117) hx hb (by decide +kernel) dX12_readsStatement_55 ?_
          refine x_icmp_eq (tgt := 66) hx hb (by omega) (by omega) dX12_readsStatement_57 (by decide) (fun c_57 => ?_) (fun c_57 => ?_)
          · exact absurd c_57 (by decide)
          · refine lv_aload_n hx hb dX12_readsStatement_60 rfl (lv_at hl 2 rfl) ?_
            refine x_iconst hx hb dX12_readsStatement_61 ?_
            refine x_cqi0 (va_runV (As := [.int (iI (1))]) (rest := []) ⟨hx, hb, hml, hown, hts⟩ (c_X12_readsNumber l g (M_36, σ.2) A (ov_37) hob El h45 hEl b z ((ov_37) 12) (by omega) (by omega) rfl (by omega) Nm h48 hNm ((ov_37) 15) rfl (by omega) (1) (by omega)) (cwV 1 hts gX12_readsStatement_X12_readsNumber rfl rfl rfl (by decide +kernel) ⟨Nat.le_of_ble_eq_true rfl, Nat.le_of_ble_eq_true rfl⟩) (x_preVQ hK hP hD hS hA (x_recv hK hP (i := 37) (by decide) hob rfl)) rfl rfl hl.1 rfl (lv_room (Nat.le_of_ble_eq_true rfl)) dX12_readsStatement_62 ⟨by decide, by decide⟩) hS (fun r_62 σ1 H locs hr_62 hpost hP hD hS => ?_)
            obtain ⟨M_38, p1⟩ := σ1
            obtain ⟨hp0, hfrc, qr_62, ov_39, hnew, e12, e15, ⟨e10, e13, e14⟩, hnew2, hv1, hv2⟩ := hpost
            obtain rfl : p1 = σ.2 := hp0
            have hP : xP g (M_38, σ.2) H := hP
            have hD : xD g A (M_38, σ.2) := hD
            have h45 := (hfrc (45) (by omega)).trans h45
            have hfr := x_frc (F := fun j => j ≠ 37 ∧ j ≠ 48) hfr hfrc (fun j h => by have h : j ≠ 37 ∧ j ≠ 48 := h; omega)
            rw [g12, g15] at hnew2
            rw [g12] at qr_62 e12 hv1 hv2
            have g15 : ov_39 15 = 1 := by omega
            have g12 : ov_39 12 = p9 + 1 + zCnt (zC El b z) (p9 + 1) 1 := e12
            have qr_62 : (r_62 = 1 ∧ 0 < zCnt (zC El b z) (p9 + 1) 1) ∨ (r_62 = 0 ∧ zCnt (zC El b z) (p9 + 1) 1 = 0) := qr_62
            have bn0 := zCnt_rng (zC El b z) 1 (p9 + 1)
            have g10 := e10.trans g10
            have g13 := e13
            have g14 := e14
            have hob : MObj g M_38 ov_39 := hnew
            have hv1 : 0 ≤ zVl (zC El b z) (p9 + 1) (zCnt (zC El b z) (p9 + 1) 1).toNat := hv1
            have hv2 : zVl (zC El b z) (p9 + 1) (zCnt (zC El b z) (p9 + 1) 1).toNat ≤ 9999 := hv2
            obtain ⟨N_40, hN_40⟩ : ∃ q : Int → Int, q = upI Nm 0 (zVl (zC El b z) (p9 + 1) (zCnt (zC El b z) (p9 + 1) 1).toNat) := ⟨_, rfl⟩
            have h48 : MArr g M_38 48 3 N_40 := by rw [hN_40]; exact hnew2
            have rN_40 : ∀ k, inR (N_40 k) := by rw [hN_40]; exact upI_rng hNm ⟨by omega, by omega⟩
            have m0 : N_40 0 = zVl (zC El b z) (p9 + 1) (zCnt (zC El b z) (p9 + 1) 1).toNat := by rw [hN_40]; exact upI_s
            refine lv_istore_n (lv' := [(2, .int (iI (r_62))), (1, .int (iI (109))), (0, .ref (g.2.2 37))]) hx hb dX12_readsStatement_65 rfl hl (by decide) rfl (fun ls hl => ?_)
            refine lv_iload_n hx hb dX12_readsStatement_66 rfl (lv_at hl 0 rfl) ?_
            refine x_if_eq (tgt := 88) hx hb (by omega) dX12_readsStatement_67 (by decide) (fun c_67 => ?_) (fun c_67 => ?_)
            · have q62 : zCnt (zC El b z) (p9 + 1) 1 = 0 := by omega
              clear qr_62
              refine lv_iload_n hx hb dX12_readsStatement_88 rfl (lv_at hl 0 rfl) ?_
              refine x_if_eq (tgt := 110) hx hb (by omega) dX12_readsStatement_89 (by decide) (fun c_89 => ?_) (fun c_89 => ?_)
              · refine lv_iload_n hx hb dX12_readsStatement_110 rfl (lv_at hl 0 rfl) ?_
                refine x_if_eq (tgt := 123) hx hb (by omega) dX12_readsStatement_111 (by decide) (fun c_111 => ?_) (fun c_111 => ?_)
                · refine x_iconst hx hb dX12_readsStatement_123 ?_
                  refine x_retQz hx hb hr (by omega) ?_ hP hD hS dX12_readsStatement_124 hlocks
                  have zz := zEnd_1 (C := (zC El b z)) (p := p9) (by omega) (by omega)
                  refine ⟨rfl, hfr, ov_39, N_40, hob, ⟨g10, g13, g14⟩, h48, rN_40, Or.inr ⟨rfl, zz.2, by have := zz.1; omega⟩⟩
                · exfalso; omega
              · exfalso; omega
            · have q62 : zCnt (zC El b z) (p9 + 1) 1 = 1 := by omega
              clear qr_62
              refine lv_iload_n hx hb dX12_readsStatement_70 rfl (lv_at hl 1 rfl) ?_
              refine x_bipush (n := 117) hx hb (by decide +kernel) dX12_readsStatement_71 ?_
              refine x_icmp_eq (tgt := 88) hx hb (by omega) (by omega) dX12_readsStatement_73 (by decide) (fun c_73 => ?_) (fun c_73 => ?_)
              · exact absurd c_73 (by decide)
              · refine lv_iload_n hx hb dX12_readsStatement_76 rfl (lv_at hl 1 rfl) ?_
                refine x_bipush (n := 114) hx hb (by decide +kernel) dX12_readsStatement_77 ?_
                refine x_icmp_eq (tgt := 88) hx hb (by omega) (by omega) dX12_readsStatement_79 (by decide) (fun c_79 => ?_) (fun c_79 => ?_)
                · exact absurd c_79 (by decide)
                · have g12 : ov_39 12 = p9 + 2 := by omega
                  refine lv_aload_n hx hb dX12_readsStatement_82 rfl (lv_at hl 2 rfl) ?_
                  refine x_iconst hx hb dX12_readsStatement_83 ?_
                  refine x_cqi0 (va_runV (As := [.int (iI (1))]) (rest := []) ⟨hx, hb, hml, hown, hts⟩ (c_X12_readsNumber l g (M_38, σ.2) A (ov_39) hob El h45 hEl b z ((ov_39) 12) (by omega) (by omega) rfl (by omega) N_40 h48 rN_40 ((ov_39) 15) rfl (by omega) (1) (by omega)) (cwV 1 hts gX12_readsStatement_X12_readsNumber rfl rfl rfl (by decide +kernel) ⟨Nat.le_of_ble_eq_true rfl, Nat.le_of_ble_eq_true rfl⟩) (x_preVQ hK hP hD hS hA (x_recv hK hP (i := 37) (by decide) hob rfl)) rfl rfl hl.1 rfl (lv_room (Nat.le_of_ble_eq_true rfl)) dX12_readsStatement_84 ⟨by decide, by decide⟩) hS (fun r_84 σ1 H locs hr_84 hpost hP hD hS => ?_)
                  obtain ⟨M_41, p1⟩ := σ1
                  obtain ⟨hp0, hfrc, qr_84, ov_42, hnew, e12, e15, ⟨e10, e13, e14⟩, hnew2, hv1, hv2⟩ := hpost
                  obtain rfl : p1 = σ.2 := hp0
                  have hP : xP g (M_41, σ.2) H := hP
                  have hD : xD g A (M_41, σ.2) := hD
                  have h45 := (hfrc (45) (by omega)).trans h45
                  have hfr := x_frc (F := fun j => j ≠ 37 ∧ j ≠ 48) hfr hfrc (fun j h => by have h : j ≠ 37 ∧ j ≠ 48 := h; omega)
                  rw [g12, g15] at hnew2
                  rw [g12] at qr_84 e12 hv1 hv2
                  have g15 : ov_42 15 = 2 := by omega
                  have g12 : ov_42 12 = p9 + 2 + zCnt (zC El b z) (p9 + 2) 1 := e12
                  have qr_84 : (r_84 = 1 ∧ 0 < zCnt (zC El b z) (p9 + 2) 1) ∨ (r_84 = 0 ∧ zCnt (zC El b z) (p9 + 2) 1 = 0) := qr_84
                  have bn1 := zCnt_rng (zC El b z) 1 (p9 + 2)
                  have g10 := e10.trans g10
                  have g13 := e13
                  have g14 := e14
                  have hob : MObj g M_41 ov_42 := hnew
                  have hv1 : 0 ≤ zVl (zC El b z) (p9 + 2) (zCnt (zC El b z) (p9 + 2) 1).toNat := hv1
                  have hv2 : zVl (zC El b z) (p9 + 2) (zCnt (zC El b z) (p9 + 2) 1).toNat ≤ 9999 := hv2
                  obtain ⟨N_43, hN_43⟩ : ∃ q : Int → Int, q = upI N_40 1 (zVl (zC El b z) (p9 + 2) (zCnt (zC El b z) (p9 + 2) 1).toNat) := ⟨_, rfl⟩
                  have h48 : MArr g M_41 48 3 N_43 := by rw [hN_43]; exact hnew2
                  have rN_43 : ∀ k, inR (N_43 k) := by rw [hN_43]; exact upI_rng rN_40 ⟨by omega, by omega⟩
                  have m1 : N_43 1 = zVl (zC El b z) (p9 + 2) (zCnt (zC El b z) (p9 + 2) 1).toNat := by rw [hN_43]; exact upI_s
                  have m0 := (show N_43 0 = N_40 0 by rw [hN_43]; exact upI_n (by omega)).trans m0
                  refine lv_istore_n (lv' := [(2, .int (iI (r_84))), (1, .int (iI (109))), (0, .ref (g.2.2 37))]) hx hb dX12_readsStatement_87 rfl hl (by decide) rfl (fun ls hl => ?_)
                  refine lv_iload_n hx hb dX12_readsStatement_88 rfl (lv_at hl 0 rfl) ?_
                  refine x_if_eq (tgt := 110) hx hb (by omega) dX12_readsStatement_89 (by decide) (fun c_89 => ?_) (fun c_89 => ?_)
                  · have q84 : zCnt (zC El b z) (p9 + 2) 1 = 0 := by omega
                    clear qr_84
                    refine lv_iload_n hx hb dX12_readsStatement_110 rfl (lv_at hl 0 rfl) ?_
                    refine x_if_eq (tgt := 123) hx hb (by omega) dX12_readsStatement_111 (by decide) (fun c_111 => ?_) (fun c_111 => ?_)
                    · refine x_iconst hx hb dX12_readsStatement_123 ?_
                      refine x_retQz hx hb hr (by omega) ?_ hP hD hS dX12_readsStatement_124 hlocks
                      have zz := zEnd_2 (C := (zC El b z)) (p := p9) (by omega) (by omega) (by omega)
                      refine ⟨rfl, hfr, ov_42, N_43, hob, ⟨g10, g13, g14⟩, h48, rN_43, Or.inr ⟨rfl, zz.2, by have := zz.1; omega⟩⟩
                    · exfalso; omega
                  · have q84 : zCnt (zC El b z) (p9 + 2) 1 = 1 := by omega
                    clear qr_84
                    refine lv_iload_n hx hb dX12_readsStatement_92 rfl (lv_at hl 1 rfl) ?_
                    refine x_bipush (n := 104) hx hb (by decide +kernel) dX12_readsStatement_93 ?_
                    refine x_icmp_eq (tgt := 104) hx hb (by omega) (by omega) dX12_readsStatement_95 (by decide) (fun c_95 => ?_) (fun c_95 => ?_)
                    · exact absurd c_95 (by decide)
                    · refine lv_iload_n hx hb dX12_readsStatement_98 rfl (lv_at hl 1 rfl) ?_
                      refine x_bipush (n := 103) hx hb (by decide +kernel) dX12_readsStatement_99 ?_
                      refine x_icmp_ne (tgt := 110) hx hb (by omega) (by omega) dX12_readsStatement_101 (by decide) (fun c_101 => ?_) (fun c_101 => ?_)
                      · refine lv_iload_n hx hb dX12_readsStatement_110 rfl (lv_at hl 0 rfl) ?_
                        refine x_if_eq (tgt := 123) hx hb (by omega) dX12_readsStatement_111 (by decide) (fun c_111 => ?_) (fun c_111 => ?_)
                        · exfalso; omega
                        · refine lv_aload_n hx hb dX12_readsStatement_114 rfl (lv_at hl 2 rfl) ?_
                          refine x_ci (va_runV (As := []) (rest := []) ⟨hx, hb, hml, hown, hts⟩ (c_X12_here l g (M_41, σ.2) (ov_42) hob El h45 hEl b z ((ov_42) 12) (by omega) (by omega) rfl (by omega)) (cwV 0 hts gX12_readsStatement_X12_here rfl rfl rfl (by decide +kernel) ⟨Nat.le_of_ble_eq_true rfl, Nat.le_of_ble_eq_true rfl⟩) (x_preV hK hP (x_recv hK hP (i := 37) (by decide) hob rfl)) rfl rfl hl.1 rfl (lv_room (Nat.le_of_ble_eq_true rfl)) dX12_readsStatement_115 ⟨Nat.le_of_ble_eq_true rfl, Nat.le_of_ble_eq_true rfl⟩) (fun r_115 hr_115 qr_115 => ?_)
                          replace qr_115 : r_115 = zC El b z (ov_42 12) ∧ True := qr_115
                          refine x_bipush (n := 59) hx hb (by decide +kernel) dX12_readsStatement_118 ?_
                          refine x_icmp_eq (tgt := 125) hx hb (by omega) (by omega) dX12_readsStatement_120 (by decide) (fun c_120 => ?_) (fun c_120 => ?_)
                          · refine lv_aload_n hx hb dX12_readsStatement_125 rfl (lv_at hl 2 rfl) ?_
                            refine lv_dup hx hb dX12_readsStatement_126 rfl ?_
                            refine x_get (C := RX12) (T := TX12) (N := 24) hx hb hts hin_X12 hown hK hP (37) (by decide) hob rfl 12 (by decide) hw_2 (fun _ h9 => h9) rfl dX12_readsStatement_127 ?_
                            refine x_iconst hx hb dX12_readsStatement_130 ?_
                            refine x_iadd hx hb dX12_readsStatement_131 ?_
                            refine x_put (C := RX12) (T := TX12) (N := 24) (ty := .int) hx hb hts hin_X12 hown hK hP hD hS (37) (by decide) hob rfl tyX12 tyX12_ok nmX12 12 (by decide) hw_2 (fun _ h9 => h9) rfl (by decide +kernel) rfl rfl (Nat.le_of_ble_eq_true rfl) dX12_readsStatement_132 (fun M_44 H locs hnew hne hP hD hS => ?_)
                            obtain ⟨ov_45, hov_45⟩ : ∃ q : Nat → Int, q = va_up (ov_42) 12 ((ov_42 12) + 1) := ⟨_, rfl⟩
                            have vov_45 : ov_45 12 = (ov_42 12) + 1 := by rw [hov_45]; rfl
                            have nov_45 : ∀ j, j ≠ 12 → ov_45 j = ov_42 j := fun j hj => by rw [hov_45]; exact va_up_ne _ _ hj
                            have hnew : MObj g M_44 ov_45 := by rw [hov_45]; exact hnew
                            have hP : xP g (M_44, σ.2) H := hP
                            have hD : xD g A (M_44, σ.2) := hD
                            have hob : MObj g M_44 ov_45 := hnew
                            have h45 := (hne (45) (by decide)).trans h45
                            have h48 := (hne (48) (by decide)).trans h48
                            have hfr := x_fr (F := fun j => j ≠ 37 ∧ j ≠ 48) hfr hne (fun j h => by have h : j ≠ 37 ∧ j ≠ 48 := h; omega)
                            have g10 : ov_45 10 = ov 10 := ((nov_45 10 (by decide)).trans g10)
                            have g13 : ov_45 13 = b := ((nov_45 13 (by decide)).trans g13)
                            have g14 : ov_45 14 = z := ((nov_45 14 (by decide)).trans g14)
                            have g12 := vov_45
                            refine x_iconst hx hb dX12_readsStatement_135 ?_
                            refine x_retQz hx hb hr (by omega) ?_ hP hD hS dX12_readsStatement_136 hlocks
                            have zz := zEnd_m (C := (zC El b z)) (p := p9) (by omega) 
                            have zz := zz.2 (by omega)
                            have hs : r_115 = zC El b z (p9 + 3) := by (rw [qr_115.1]; exact congrArg _ (by omega))
                            have d0 := (zCnt_1 (zC El b z) (p9 + 1)).resolve_right (fun q => by have := q.1; omega)
                            have m0 := m0.trans (zVl_1 d0.1)
                            have d1 := (zCnt_1 (zC El b z) (p9 + 2)).resolve_right (fun q => by have := q.1; omega)
                            have m1 := m1.trans (zVl_1 d1.1)
                            refine ⟨rfl, hfr, ov_45, N_43, hob, ⟨g10, g13, g14⟩, h48, rN_43, Or.inl ⟨rfl, zz.2.mpr ⟨by omega, by omega⟩, by have := zz.1; omega, fun h => ⟨m0, by omega, by omega⟩, fun h h2 => ⟨m1, by omega, by omega⟩, fun h => by omega⟩⟩
                          · refine x_iconst hx hb dX12_readsStatement_123 ?_
                            refine x_retQz hx hb hr (by omega) ?_ hP hD hS dX12_readsStatement_124 hlocks
                            have zz := zEnd_m (C := (zC El b z)) (p := p9) (by omega) 
                            have zz := zz.2 (by omega)
                            have hs : r_115 = zC El b z (p9 + 3) := by (rw [qr_115.1]; exact congrArg _ (by omega))
                            refine ⟨rfl, hfr, ov_42, N_43, hob, ⟨g10, g13, g14⟩, h48, rN_43, Or.inr ⟨rfl, fun x => by have := zz.2.mp x; omega, by have := zz.1; omega⟩⟩
                      · exact absurd c_101 (by decide)
        · refine lv_iload_n hx hb dX12_readsStatement_36 rfl (lv_at hl 1 rfl) ?_
          refine x_bipush (n := 117) hx hb (by decide +kernel) dX12_readsStatement_37 ?_
          refine x_icmp_eq (tgt := 44) hx hb (by omega) (by omega) dX12_readsStatement_39 (by decide) (fun c_39 => ?_) (fun c_39 => ?_)
          · obtain rfl : r_1 = 117 := by omega
            refine lv_aload_n hx hb dX12_readsStatement_44 rfl (lv_at hl 2 rfl) ?_
            refine lv_dup hx hb dX12_readsStatement_45 rfl ?_
            refine x_get (C := RX12) (T := TX12) (N := 24) hx hb hts hin_X12 hown hK hP (37) (by decide) hob rfl 12 (by decide) hw_2 (fun _ h9 => h9) rfl dX12_readsStatement_46 ?_
            refine x_iconst hx hb dX12_readsStatement_49 ?_
            refine x_iadd hx hb dX12_readsStatement_50 ?_
            refine x_put (C := RX12) (T := TX12) (N := 24) (ty := .int) hx hb hts hin_X12 hown hK hP hD hS (37) (by decide) hob rfl tyX12 tyX12_ok nmX12 12 (by decide) hw_2 (fun _ h9 => h9) rfl (by decide +kernel) rfl rfl (Nat.le_of_ble_eq_true rfl) dX12_readsStatement_51 (fun M_46 H locs hnew hne hP hD hS => ?_)
            obtain ⟨ov_47, hov_47⟩ : ∃ q : Nat → Int, q = va_up (ov_2) 12 ((ov_2 12) + 1) := ⟨_, rfl⟩
            have vov_47 : ov_47 12 = (ov_2 12) + 1 := by rw [hov_47]; rfl
            have nov_47 : ∀ j, j ≠ 12 → ov_47 j = ov_2 j := fun j hj => by rw [hov_47]; exact va_up_ne _ _ hj
            have hnew : MObj g M_46 ov_47 := by rw [hov_47]; exact hnew
            have hP : xP g (M_46, σ.2) H := hP
            have hD : xD g A (M_46, σ.2) := hD
            have hob : MObj g M_46 ov_47 := hnew
            have h45 := (hne (45) (by decide)).trans h45
            have h48 := (hne (48) (by decide)).trans h48
            have hfr := x_fr (F := fun j => j ≠ 37 ∧ j ≠ 48) hfr hne (fun j h => by have h : j ≠ 37 ∧ j ≠ 48 := h; omega)
            have g10 : ov_47 10 = ov 10 := ((nov_47 10 (by decide)).trans g10)
            have g13 : ov_47 13 = b := ((nov_47 13 (by decide)).trans g13)
            have g14 : ov_47 14 = z := ((nov_47 14 (by decide)).trans g14)
            have g12 : ov_47 12 = p9 + 1 := by (refine vov_47.trans ?_; omega)
            have g15 : ov_47 15 = 0 := ((nov_47 15 (by decide)).trans g15)
            refine lv_iload_n hx hb dX12_readsStatement_54 rfl (lv_at hl 1 rfl) ?_
            refine x_bipush (n := 117) hx hb (by decide +kernel) dX12_readsStatement_55 ?_
            refine x_icmp_eq (tgt := 66) hx hb (by omega) (by omega) dX12_readsStatement_57 (by decide) (fun c_57 => ?_) (fun c_57 => ?_)
            · refine lv_iload_n hx hb dX12_readsStatement_66 rfl (lv_at hl 0 rfl) ?_
              refine x_if_eq (tgt := 88) hx hb (by omega) dX12_readsStatement_67 (by decide) (fun c_67 => ?_) (fun c_67 => ?_)
              · exact absurd c_67 (by decide)
              · refine lv_iload_n hx hb dX12_readsStatement_70 rfl (lv_at hl 1 rfl) ?_
                refine x_bipush (n := 117) hx hb (by decide +kernel) dX12_readsStatement_71 ?_
                refine x_icmp_eq (tgt := 88) hx hb (by omega) (by omega) dX12_readsStatement_73 (by decide) (fun c_73 => ?_) (fun c_73 => ?_)
                · refine lv_iload_n hx hb dX12_readsStatement_88 rfl (lv_at hl 0 rfl) ?_
                  refine x_if_eq (tgt := 110) hx hb (by omega) dX12_readsStatement_89 (by decide) (fun c_89 => ?_) (fun c_89 => ?_)
                  · exact absurd c_89 (by decide)
                  · refine lv_iload_n hx hb dX12_readsStatement_92 rfl (lv_at hl 1 rfl) ?_
                    refine x_bipush (n := 104) hx hb (by decide +kernel) dX12_readsStatement_93 ?_
                    refine x_icmp_eq (tgt := 104) hx hb (by omega) (by omega) dX12_readsStatement_95 (by decide) (fun c_95 => ?_) (fun c_95 => ?_)
                    · exact absurd c_95 (by decide)
                    · refine lv_iload_n hx hb dX12_readsStatement_98 rfl (lv_at hl 1 rfl) ?_
                      refine x_bipush (n := 103) hx hb (by decide +kernel) dX12_readsStatement_99 ?_
                      refine x_icmp_ne (tgt := 110) hx hb (by omega) (by omega) dX12_readsStatement_101 (by decide) (fun c_101 => ?_) (fun c_101 => ?_)
                      · refine lv_iload_n hx hb dX12_readsStatement_110 rfl (lv_at hl 0 rfl) ?_
                        refine x_if_eq (tgt := 123) hx hb (by omega) dX12_readsStatement_111 (by decide) (fun c_111 => ?_) (fun c_111 => ?_)
                        · exact absurd c_111 (by decide)
                        · refine lv_aload_n hx hb dX12_readsStatement_114 rfl (lv_at hl 2 rfl) ?_
                          refine x_ci (va_runV (As := []) (rest := []) ⟨hx, hb, hml, hown, hts⟩ (c_X12_here l g (M_46, σ.2) (ov_47) hob El h45 hEl b z ((ov_47) 12) (by omega) (by omega) rfl (by omega)) (cwV 0 hts gX12_readsStatement_X12_here rfl rfl rfl (by decide +kernel) ⟨Nat.le_of_ble_eq_true rfl, Nat.le_of_ble_eq_true rfl⟩) (x_preV hK hP (x_recv hK hP (i := 37) (by decide) hob rfl)) rfl rfl hl.1 rfl (lv_room (Nat.le_of_ble_eq_true rfl)) dX12_readsStatement_115 ⟨Nat.le_of_ble_eq_true rfl, Nat.le_of_ble_eq_true rfl⟩) (fun r_115 hr_115 qr_115 => ?_)
                          replace qr_115 : r_115 = zC El b z (ov_47 12) ∧ True := qr_115
                          refine x_bipush (n := 59) hx hb (by decide +kernel) dX12_readsStatement_118 ?_
                          refine x_icmp_eq (tgt := 125) hx hb (by omega) (by omega) dX12_readsStatement_120 (by decide) (fun c_120 => ?_) (fun c_120 => ?_)
                          · refine lv_aload_n hx hb dX12_readsStatement_125 rfl (lv_at hl 2 rfl) ?_
                            refine lv_dup hx hb dX12_readsStatement_126 rfl ?_
                            refine x_get (C := RX12) (T := TX12) (N := 24) hx hb hts hin_X12 hown hK hP (37) (by decide) hob rfl 12 (by decide) hw_2 (fun _ h9 => h9) rfl dX12_readsStatement_127 ?_
                            refine x_iconst hx hb dX12_readsStatement_130 ?_
                            refine x_iadd hx hb dX12_readsStatement_131 ?_
                            refine x_put (C := RX12) (T := TX12) (N := 24) (ty := .int) hx hb hts hin_X12 hown hK hP hD hS (37) (by decide) hob rfl tyX12 tyX12_ok nmX12 12 (by decide) hw_2 (fun _ h9 => h9) rfl (by decide +kernel) rfl rfl (Nat.le_of_ble_eq_true rfl) dX12_readsStatement_132 (fun M_48 H locs hnew hne hP hD hS => ?_)
                            obtain ⟨ov_49, hov_49⟩ : ∃ q : Nat → Int, q = va_up (ov_47) 12 ((ov_47 12) + 1) := ⟨_, rfl⟩
                            have vov_49 : ov_49 12 = (ov_47 12) + 1 := by rw [hov_49]; rfl
                            have nov_49 : ∀ j, j ≠ 12 → ov_49 j = ov_47 j := fun j hj => by rw [hov_49]; exact va_up_ne _ _ hj
                            have hnew : MObj g M_48 ov_49 := by rw [hov_49]; exact hnew
                            have hP : xP g (M_48, σ.2) H := hP
                            have hD : xD g A (M_48, σ.2) := hD
                            have hob : MObj g M_48 ov_49 := hnew
                            have h45 := (hne (45) (by decide)).trans h45
                            have h48 := (hne (48) (by decide)).trans h48
                            have hfr := x_fr (F := fun j => j ≠ 37 ∧ j ≠ 48) hfr hne (fun j h => by have h : j ≠ 37 ∧ j ≠ 48 := h; omega)
                            have g10 : ov_49 10 = ov 10 := ((nov_49 10 (by decide)).trans g10)
                            have g13 : ov_49 13 = b := ((nov_49 13 (by decide)).trans g13)
                            have g14 : ov_49 14 = z := ((nov_49 14 (by decide)).trans g14)
                            have g12 := vov_49
                            refine x_iconst hx hb dX12_readsStatement_135 ?_
                            refine x_retQz hx hb hr (by omega) ?_ hP hD hS dX12_readsStatement_136 hlocks
                            have zz := zEnd_u (C := (zC El b z)) (p := p9) (by omega) 
                            have hs : r_115 = zC El b z (p9 + 1) := by (rw [qr_115.1]; exact congrArg _ (by omega))
                            refine ⟨rfl, hfr, ov_49, Nm, hob, ⟨g10, g13, g14⟩, h48, hNm, Or.inl ⟨rfl, zz.2.mpr (by omega), by have := zz.1; omega, fun h => absurd (show zC El b z p9 = 117 by omega) h, fun h h2 => absurd (show zC El b z p9 = 117 by omega) h, fun h => by omega⟩⟩
                          · refine x_iconst hx hb dX12_readsStatement_123 ?_
                            refine x_retQz hx hb hr (by omega) ?_ hP hD hS dX12_readsStatement_124 hlocks
                            have zz := zEnd_u (C := (zC El b z)) (p := p9) (by omega) 
                            have hs : r_115 = zC El b z (p9 + 1) := by (rw [qr_115.1]; exact congrArg _ (by omega))
                            refine ⟨rfl, hfr, ov_47, Nm, hob, ⟨g10, g13, g14⟩, h48, hNm, Or.inr ⟨rfl, fun x => by have := zz.2.mp x; omega, by have := zz.1; omega⟩⟩
                      · exact absurd c_101 (by decide)
                · exact absurd c_73 (by decide)
            · exact absurd c_57 (by decide)
          · refine x_iconst hx hb dX12_readsStatement_42 ?_
            refine x_retQz hx hb hr (by omega) ?_ hP hD hS dX12_readsStatement_43 hlocks
            have zz := zEnd_no (C := zC El b z) (p := p9) (by unfold zLet; rw [← hc]; omega)
            refine ⟨rfl, hfr, ov_2, Nm, hob, ⟨g10, g13, g14⟩, h48, hNm, Or.inr ⟨rfl, zz.2, by have := zz.1; omega⟩⟩
