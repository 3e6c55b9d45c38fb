theorem zSam_self {S : Int → Int} {h : Int} : zSam S S h := ⟨rfl, rfl, rfl, rfl, fun _ _ _ => rfl⟩
theorem zSam_back {S T T2 : Int → Int} {h p : Int} (h0 : 0 ≤ h) (a : zSam S T h) (b : zSam (upI T (2 + 3 * h + 2) p) T2 (h + 1)) : zSam S T2 h := by
  obtain ⟨a1, a2, a3, a4, a5⟩ := a
  obtain ⟨b1, b2, b3, b4, b5⟩ := b
  rw [upI_n (by omega)] at b1 b2
  rw [mK_up] at b3
  rw [mF_up] at b4
  refine ⟨b1.trans a1, b2.trans a2, b3.trans a3, b4.trans a4, fun i h1 h2 => ?_⟩
  rw [b5 i h1 (by omega), mP_up, upI_n (by omega)]
  exact a5 i h1 h2
theorem zParts_go {S T : Int → Int} {W : Int → Int} {o h lf p : Int} {q : zAcc} (hsm : zSam S T h) (h0 : 0 ≤ h) (hk : h + 1 ≤ S 0) : zParts (zNote (mK (upI T (2 + 3 * h + 2) p)) (mF (upI T (2 + 3 * h + 2) p)) W (upI T (2 + 3 * h + 2) p 0) (upI T (2 + 3 * h + 2) p 1) o) (upI T (2 + 3 * h + 2) p 0 - (h + 1)).toNat (h + 1) lf (mP (upI T (2 + 3 * h + 2) p)) q = zParts (zNote (mK S) (mF S) W (S 0) (S 1) o) (S 0 - (h + 1)).toNat (h + 1) lf (upI (mP S) h p) q := by
  obtain ⟨a1, a2, a3, a4, a5⟩ := hsm
  rw [mK_up, mF_up, mP_up, upI_n (by omega), upI_n (by omega), a1, a2, a3, a4]
  refine zParts_congr (n := S 0) (zNote_local (fun _ _ _ => rfl)) _ _ _ _ _ _ (by omega) (fun i h1 h2 => ?_)
  unfold upI
  by_cases e : i = h
  · rw [if_pos e, if_pos e]
  · rw [if_neg e, if_neg e]; exact a5 i h1 (by omega)

set_option maxHeartbeats 4000000 in
set_option maxRecDepth 100000 in
theorem c_X12_parts0 (l : Launch) (g : xG) (σ : xS) (A : Nat → Prop) (ov : Nat → Int) (S : Int → Int) (hob : MObj g σ.1 ov) (hs0 : MArr g σ.1 38 29 S) (hok : SmOk S) (Wz : Int → Int) (h49 : MArr g σ.1 49 8 Wz) (hW : ∀ i, 0 ≤ i → i < S 0 → 0 ≤ Wz i ∧ Wz i ≤ 9999) (hn6 : S 0 ≤ 6) (h : Int) (hh : 0 ≤ h ∧ h ≤ S 0 ∧ S 0 - h ≤ 0) (lf : Int) (hlf : 0 ≤ lf ∧ lf ≤ 20) (o : Int) (ho : inR o) (hAc : zAccOk (zAc ov)) : Met l yX12_parts wsX12_parts ({ frames := 9, cells := 0, slots := 0, locals := 288 }) (va_Pc [.ref (g.2.2 37), .int (iI (h)), .int (iI (lf)), .int (iI (o))] (xPreQ g A σ)) (x_Qv g A (fun σ1 => σ1.2 = σ.2 ∧ (∀ j, j ≠ 37 ∧ j ≠ 38 → σ1.1 j = σ.1 j) ∧ ∃ ov2 T, MObj g σ1.1 ov2 ∧ MArr g σ1.1 38 29 T ∧ SmOk T ∧ zSam S T h ∧ zAc ov2 = zParts (zNote (mK S) (mF S) Wz (S 0) (S 1) o) (S 0 - h).toNat h lf (mP S) (zAc ov) ∧ zAccOk (zAc ov2) ∧ ov2 10 = ov 10)) (0) (0) A := by
  refine Met.ofW (cc := cX12_parts) (maxL := 7) (ret := none) (by decide) rfl ?_
  intro p e s m args below meth c s₁ B hml hv
  obtain ⟨rfl, hP, hK, hD, hA⟩ := hv
  have hx := B.exec
  have hb := B.bytes
  have hr := B.returns
  have hts := atoms_spec (ws := wsX12_parts) B.pre
  have hown : s.vm.findClass RX12 = some m.cls := findClass_of_methodNamed B.named
  have hlocks := B.notSynchronized
  have hS : va_S A s.heap s.heap [] := va_S.rf
  have hfr : ∀ j, (j ≠ 37 ∧ j ≠ 38) → σ.1 j = σ.1 j := fun _ _ => rfl
  have hl := lv_entry ([.ref (g.2.2 37), .int (iI (h)), .int (iI (lf)), .int (iI (o))]) (n := 7) (Nat.le_of_ble_eq_true rfl)
  rw [lg_entry_eq]
  generalize (lg_sl ([.ref (g.2.2 37), .int (iI (h)), .int (iI (lf)), .int (iI (o))]) ++ List.replicate (7 - (lg_sl ([.ref (g.2.2 37), .int (iI (h)), .int (iI (lf)), .int (iI (o))])).length) Slot.unset).toArray = ls at hl ⊢
  have hl : lv_has ls 7 [(0, .ref (g.2.2 37)), (1, .int (iI (h))), (2, .int (iI (lf))), (3, .int (iI (o)))] := hl
  have hn0 := hok.2.1
  have hrd0 := hok.2.2.1
  have hw_0 := hts (.fieldLink RX12 9 "TwiceAsRichModel" "s" "[I") (by decide +kernel)
  have hin_X12 : ∀ w ∈ wsX120, w ∈ wsX12_parts := by decide +kernel
  refine lv_iload_n hx hb dX12_parts_0 rfl (lv_at hl 1 rfl) ?_
  refine lv_aload_n hx hb dX12_parts_1 rfl (lv_at hl 0 rfl) ?_
  refine x_get (C := RX12) (T := TX12) (N := 24) hx hb hts hin_X12 hown hK hP (37) (by decide) hob rfl 0 (by decide) hw_0 (fun _ h9 => h9) rfl dX12_parts_2 ?_
  refine x_iconst hx hb dX12_parts_5 ?_
  refine x_iald (f := S) hx hb hK hP (38) (by decide) hs0 (by omega) (by omega) (by decide) dX12_parts_6 ?_
  have hb_1 := hok.1 (0)
  refine x_icmp_ne (tgt := 20) hx hb (by omega) (by omega) dX12_parts_7 (by decide) (fun c_7 => ?_) (fun c_7 => ?_)
  · exfalso; omega
  · refine lv_iload_n hx hb dX12_parts_10 rfl (lv_at hl 2 rfl) ?_
    refine x_if_ne (tgt := 19) hx hb (by omega) dX12_parts_11 (by decide) (fun c_11 => ?_) (fun c_11 => ?_)
    · refine x_retQv hx hb hr ?_ hP hD hS dX12_parts_19 hlocks
      refine ⟨rfl, hfr, ov, S, hob, hs0, hok, zSam_self, ?_, hAc, rfl⟩
      rw [zParts_end _ _ _ _ (by omega), if_neg (by omega)]
    · refine lv_aload_n hx hb dX12_parts_14 rfl (lv_at hl 0 rfl) ?_
      refine lv_iload_n hx hb dX12_parts_15 rfl (lv_at hl 3 rfl) ?_
      refine x_cqv0 (va_runV (As := [.int (iI (o))]) (rest := []) ⟨hx, hb, hml, hown, hts⟩ (c_X12_partsAre l g σ A (ov) S hob hs0 hok Wz h49 (fun i a b => hW i a (by omega)) (by omega) (o) (by omega) hAc) (cwV 1 hts gX12_parts_X12_partsAre rfl rfl rfl (by decide +kernel) ⟨Nat.le_of_ble_eq_true rfl, Nat.le_of_ble_eq_true rfl⟩) (x_preVQ hK hP hD hS hA (x_recv hK hP (i := 37) (by decide) hob rfl)) rfl rfl hl.1 rfl (lv_room (Nat.le_of_ble_eq_true rfl)) dX12_parts_16 ⟨by decide, by decide⟩) hS (fun σ1 H locs hpost hP hD hS => ?_)
      obtain ⟨M_2, p1⟩ := σ1
      obtain ⟨hp0, hfrc, ov_3, hnew, hacov_3, hokov_3, h10ov_3⟩ := hpost
      obtain rfl : p1 = σ.2 := hp0
      have hP : xP g (M_2, σ.2) H := hP
      have hD : xD g A (M_2, σ.2) := hD
      have hs0 := (hfrc (38) (by omega)).trans hs0
      have h49 := (hfrc (49) (by omega)).trans h49
      have hfr := x_frc (F := fun j => j ≠ 37 ∧ j ≠ 38) hfr hfrc (fun j h => by have h : j ≠ 37 ∧ j ≠ 38 := h; omega)
      have hob : MObj g M_2 ov_3 := hnew
      refine x_retQv hx hb hr ?_ hP hD hS dX12_parts_19 hlocks
      refine ⟨rfl, hfr, ov_3, S, hob, hs0, hok, zSam_self, ?_, hokov_3, h10ov_3⟩
      rw [zParts_end _ _ _ _ (by omega), if_pos (by omega)]
      exact hacov_3

set_option maxHeartbeats 4000000 in
set_option maxRecDepth 100000 in
theorem c_X12_parts1 (l : Launch) (g : xG) (σ : xS) (A : Nat → Prop) (ov : Nat → Int) (S : Int → Int) (hob : MObj g σ.1 ov) (hs0 : MArr g σ.1 38 29 S) (hok : SmOk S) (Wz : Int → Int) (h49 : MArr g σ.1 49 8 Wz) (hW : ∀ i, 0 ≤ i → i < S 0 → 0 ≤ Wz i ∧ Wz i ≤ 9999) (hn6 : S 0 ≤ 6) (h : Int) (hh : 0 ≤ h ∧ h ≤ S 0 ∧ S 0 - h ≤ 1) (lf : Int) (hlf : 0 ≤ lf ∧ lf ≤ 20) (o : Int) (ho : inR o) (hAc : zAccOk (zAc ov)) : Met l yX12_parts wsX12_parts ({ frames := 10, cells := 0, slots := 0, locals := 320 }) (va_Pc [.ref (g.2.2 37), .int (iI (h)), .int (iI (lf)), .int (iI (o))] (xPreQ g A σ)) (x_Qv g A (fun σ1 => σ1.2 = σ.2 ∧ (∀ j, j ≠ 37 ∧ j ≠ 38 → σ1.1 j = σ.1 j) ∧ ∃ ov2 T, MObj g σ1.1 ov2 ∧ MArr g σ1.1 38 29 T ∧ SmOk T ∧ zSam S T h ∧ zAc ov2 = zParts (zNote (mK S) (mF S) Wz (S 0) (S 1) o) (S 0 - h).toNat h lf (mP S) (zAc ov) ∧ zAccOk (zAc ov2) ∧ ov2 10 = ov 10)) (0) (0) A := by
  refine Met.ofW (cc := cX12_parts) (maxL := 7) (ret := none) (by decide) rfl ?_
  intro p e s m args below meth c s₁ B hml hv
  obtain ⟨rfl, hP, hK, hD, hA⟩ := hv
  have hx := B.exec
  have hb := B.bytes
  have hr := B.returns
  have hts := atoms_spec (ws := wsX12_parts) B.pre
  have hown : s.vm.findClass RX12 = some m.cls := findClass_of_methodNamed B.named
  have hlocks := B.notSynchronized
  have hS : va_S A s.heap s.heap [] := va_S.rf
  have hfr : ∀ j, (j ≠ 37 ∧ j ≠ 38) → σ.1 j = σ.1 j := fun _ _ => rfl
  have hl := lv_entry ([.ref (g.2.2 37), .int (iI (h)), .int (iI (lf)), .int (iI (o))]) (n := 7) (Nat.le_of_ble_eq_true rfl)
  rw [lg_entry_eq]
  generalize (lg_sl ([.ref (g.2.2 37), .int (iI (h)), .int (iI (lf)), .int (iI (o))]) ++ List.replicate (7 - (lg_sl ([.ref (g.2.2 37), .int (iI (h)), .int (iI (lf)), .int (iI (o))])).length) Slot.unset).toArray = ls at hl ⊢
  have hl : lv_has ls 7 [(0, .ref (g.2.2 37)), (1, .int (iI (h))), (2, .int (iI (lf))), (3, .int (iI (o)))] := hl
  have hn0 := hok.2.1
  have hrd0 := hok.2.2.1
  have hw_0 := hts (.fieldLink RX12 9 "TwiceAsRichModel" "s" "[I") (by decide +kernel)
  have hin_X12 : ∀ w ∈ wsX120, w ∈ wsX12_parts := by decide +kernel
  refine lv_iload_n hx hb dX12_parts_0 rfl (lv_at hl 1 rfl) ?_
  refine lv_aload_n hx hb dX12_parts_1 rfl (lv_at hl 0 rfl) ?_
  refine x_get (C := RX12) (T := TX12) (N := 24) hx hb hts hin_X12 hown hK hP (37) (by decide) hob rfl 0 (by decide) hw_0 (fun _ h9 => h9) rfl dX12_parts_2 ?_
  refine x_iconst hx hb dX12_parts_5 ?_
  refine x_iald (f := S) hx hb hK hP (38) (by decide) hs0 (by omega) (by omega) (by decide) dX12_parts_6 ?_
  have hb_1 := hok.1 (0)
  refine x_icmp_ne (tgt := 20) hx hb (by omega) (by omega) dX12_parts_7 (by decide) (fun c_7 => ?_) (fun c_7 => ?_)
  · refine lv_aload_n hx hb dX12_parts_20 rfl (lv_at hl 0 rfl) ?_
    refine x_get (C := RX12) (T := TX12) (N := 24) hx hb hts hin_X12 hown hK hP (37) (by decide) hob rfl 0 (by decide) hw_0 (fun _ h9 => h9) rfl dX12_parts_21 ?_
    refine x_iconst hx hb dX12_parts_24 ?_
    refine x_iald (f := S) hx hb hK hP (38) (by decide) hs0 (by omega) (by omega) (by decide) dX12_parts_25 ?_
    have hb_2 := hok.1 (0)
    refine x_iconst hx hb dX12_parts_26 ?_
    refine x_isub hx hb dX12_parts_27 ?_
    refine lv_iload_n hx hb dX12_parts_28 rfl (lv_at hl 1 rfl) ?_
    refine x_isub hx hb dX12_parts_29 ?_
    refine lv_istore (lv' := [(4, .int (iI (((S (0)) - 1) - h))), (0, .ref (g.2.2 37)), (1, .int (iI (h))), (2, .int (iI (lf))), (3, .int (iI (o)))]) hx hb dX12_parts_30 hl (by decide) rfl (fun ls hl => ?_)
    refine lv_iload hx hb dX12_parts_32 (lv_at hl 0 rfl) ?_
    refine x_if_ne (tgt := 45) hx hb (by omega) dX12_parts_34 (by decide) (fun c_34 => ?_) (fun c_34 => ?_)
    · refine x_iconst hx hb dX12_parts_45 ?_
      have hls : zLst (S 0 - 1 - h) lf = (1) := by (unfold zLst; first | (rw [if_pos (by omega)]; done) | (rw [if_neg (by omega)]; done))
      refine lv_istore (lv' := [(5, .int (iI (1))), (4, .int (iI (((S (0)) - 1) - h))), (0, .ref (g.2.2 37)), (1, .int (iI (h))), (2, .int (iI (lf))), (3, .int (iI (o)))]) hx hb dX12_parts_46 hl (by decide) rfl (fun ls hl => ?_)
      refine lv_iload hx hb dX12_parts_48 (lv_at hl 0 rfl) ?_
      refine lv_istore (lv' := [(6, .int (iI (1))), (5, .int (iI (1))), (4, .int (iI (((S (0)) - 1) - h))), (0, .ref (g.2.2 37)), (1, .int (iI (h))), (2, .int (iI (lf))), (3, .int (iI (o)))]) hx hb dX12_parts_50 hl (by decide) rfl (fun ls hl => ?_)
      have hloop_52 : ∀ (k : Nat) (T : Int → Int) (oz : Nat → Int) (p9 : Int), ((40 : Int) - p9).toNat < k → (hTo : SmOk T) → (hsm : zSam S T h) → (eT0 : T 0 = S 0) → (hAc : zAccOk (zAc oz)) → (h10 : oz 10 = ov 10) → (hp0 : zLst (S 0 - 1 - h) lf ≤ p9) → (hp1 : p9 = zLst (S 0 - 1 - h) lf ∨ p9 ≤ lf - (S 0 - 1 - h) + 1) → (hp2 : 1 ≤ p9 ∧ p9 ≤ 21) → (hst : zAc oz = zFold (fun p q => zParts (zNote (mK S) (mF S) Wz (S 0) (S 1) o) (S 0 - (h + 1)).toNat (h + 1) (lf - p) (upI (mP S) h p) q) (zLst (S 0 - 1 - h) lf) (zAc ov) (p9 - zLst (S 0 - 1 - h) lf).toNat) → ∀ (M : xM) (H : Heap) (locs : List Loc), (hob : M (37) = .inr (12, [.ref (g.2.2 38), .ref (g.2.2 39), .ref (g.2.2 40), .ref (g.2.2 41), .ref (g.2.2 42), .ref (g.2.2 43), .ref (g.2.2 44), .ref (g.2.2 45), .ref (g.2.2 46), .ref (g.2.2 47), .int (iI (oz 10)), .int (iI (oz 11)), .int (iI (oz 12)), .int (iI (oz 13)), .int (iI (oz 14)), .int (iI (oz 15)), .ref (g.2.2 48), .int (iI (oz 17)), .int (iI (oz 18)), .int (iI (oz 19)), .int (iI (oz 20)), .int (iI (oz 21)), .ref (g.2.2 49), .int (iI (oz 23))])) → (hs0 : M (38) = .inl (g.2.1 0, 29, .inl (fun k => iI (T (k : Int))))) → (h49 : M (49) = .inl (g.2.1 0, 8, .inl (fun k => iI (Wz (k : Int))))) → (hfr : ∀ j, (j ≠ 37 ∧ j ≠ 38) → M j = σ.1 j) → xP g (M, σ.2) H → xD g A (M, σ.2) → va_S A s.heap H locs → ∀ (ls : Array Slot), lv_has ls 7 [(6, .int (iI (p9))), (5, .int (iI (1))), (4, .int (iI (((S (0)) - 1) - h))), (0, .ref (g.2.2 37)), (1, .int (iI (h))), (2, .int (iI (lf))), (3, .int (iI (o)))] → W p l e (headSpec wsX12_parts ({ frames := 10, cells := 0, slots := 0, locals := 320 })).room s m ([.ref (g.2.2 37), .int (iI (h)), .int (iI (lf)), .int (iI (o))] : List Value).toArray below meth c H locs 0 0 (MQ below (x_Qv g A (fun σ1 => σ1.2 = σ.2 ∧ (∀ j, j ≠ 37 ∧ j ≠ 38 → σ1.1 j = σ.1 j) ∧ ∃ ov2 T, MObj g σ1.1 ov2 ∧ MArr g σ1.1 38 29 T ∧ SmOk T ∧ zSam S T h ∧ zAc ov2 = zParts (zNote (mK S) (mF S) Wz (S 0) (S 1) o) (S 0 - h).toNat h lf (mP S) (zAc ov) ∧ zAccOk (zAc ov2) ∧ ov2 10 = ov 10)) ([.ref (g.2.2 37), .int (iI (h)), .int (iI (lf)), .int (iI (o))] : List Value).toArray s (0) (0) A) (F0 m 52 ls []) := by
        intro k
        induction k with
        | zero =>
          intros; exact absurd (by assumption) (Nat.not_lt_zero _)
        | succ k ih =>
          intro T oz p9 hmeas hTo hsm eT0 hAc h10 hp0 hp1 hp2 hst M H locs hob hs0 h49 hfr hP hD hS ls hl
          have ih_3 := ih
          refine lv_iload hx hb dX12_parts_52 (lv_at hl 0 rfl) ?_
          refine lv_iload_n hx hb dX12_parts_54 rfl (lv_at hl 5 rfl) ?_
          refine lv_iload hx hb dX12_parts_55 (lv_at hl 2 rfl) ?_
          refine x_isub hx hb dX12_parts_57 ?_
          refine x_icmp_gt (tgt := 87) hx hb (by omega) (by omega) dX12_parts_58 (by decide) (fun c_58 => ?_) (fun c_58 => ?_)
          · refine x_retQv hx hb hr ?_ hP hD hS dX12_parts_87 hlocks
            refine ⟨rfl, hfr, oz, T, hob, hs0, hTo, hsm, ?_, hAc, h10⟩
            rw [zParts_step _ _ _ _ (by omega), show (lf - (S 0 - 1 - h) + 1 - zLst (S 0 - 1 - h) lf).toNat = (p9 - zLst (S 0 - 1 - h) lf).toNat by omega]
            exact hst
          · refine lv_aload_n hx hb dX12_parts_61 rfl (lv_at hl 3 rfl) ?_
            refine lv_iload_n hx hb dX12_parts_62 rfl (lv_at hl 4 rfl) ?_
            refine x_iconst hx hb dX12_parts_63 ?_
            refine lv_iload hx hb dX12_parts_64 (lv_at hl 0 rfl) ?_
            refine x_cqv0 (va_runV (As := [.int (iI (h)), .int (iI (2)), .int (iI (p9))]) (rest := []) ⟨hx, hb, hml, hown, hts⟩ (c_X12_puts l g (M, σ.2) A (oz) T hob hs0 hTo.1 (h) (by omega) (2) (by omega) (p9) (by omega)) (cwV 3 hts gX12_parts_X12_puts rfl rfl rfl (by decide +kernel) ⟨Nat.le_of_ble_eq_true rfl, Nat.le_of_ble_eq_true rfl⟩) (x_preVQ hK hP hD hS hA (x_recv hK hP (i := 37) (by decide) hob rfl)) rfl rfl hl.1 rfl (lv_room (Nat.le_of_ble_eq_true rfl)) dX12_parts_66 ⟨by decide, by decide⟩) hS (fun σ1 H locs hpost hP hD hS => ?_)
            obtain ⟨M_4, p1⟩ := σ1
            obtain ⟨hp0, hfrc, hnew⟩ := hpost
            obtain rfl : p1 = σ.2 := hp0
            have hP : xP g (M_4, σ.2) H := hP
            have hD : xD g A (M_4, σ.2) := hD
            have hob : MObj g M_4 oz := (hfrc (37) (by omega)).trans hob
            have h49 := (hfrc (49) (by omega)).trans h49
            have hfr := x_frc (F := fun j => j ≠ 37 ∧ j ≠ 38) hfr hfrc (fun j h => by have h : j ≠ 37 ∧ j ≠ 38 := h; omega)
            obtain ⟨S_5, hS_5⟩ : ∃ q : Int → Int, q = upI T (2 + 3 * (h) + (2)) (p9) := ⟨_, rfl⟩
            have hs0 : MArr g M_4 38 29 S_5 := by rw [hS_5]; exact hnew
            have rS_5 : ∀ k, inR (S_5 k) := by rw [hS_5]; exact upI_rng hTo.1 ⟨by omega, by omega⟩
            have eU : S_5 = upI T (2 + 3 * h + 2) p9 := by (rw [hS_5])
            have oU : SmOk S_5 := by (rw [eU]; exact SmOk_purse hTo (by omega) (by omega))
            have eU0 : S_5 0 = S 0 := by (rw [eU, upI_n (by omega)]; exact eT0)
            refine lv_aload_n hx hb dX12_parts_69 rfl (lv_at hl 3 rfl) ?_
            refine lv_iload_n hx hb dX12_parts_70 rfl (lv_at hl 4 rfl) ?_
            refine x_iconst hx hb dX12_parts_71 ?_
            refine x_iadd hx hb dX12_parts_72 ?_
            refine lv_iload_n hx hb dX12_parts_73 rfl (lv_at hl 5 rfl) ?_
            refine lv_iload hx hb dX12_parts_74 (lv_at hl 0 rfl) ?_
            refine x_isub hx hb dX12_parts_76 ?_
            refine lv_iload_n hx hb dX12_parts_77 rfl (lv_at hl 6 rfl) ?_
            refine x_cqv0 (va_runV (As := [.int (iI (h + 1)), .int (iI (lf - p9)), .int (iI (o))]) (rest := []) ⟨hx, hb, hml, hown, hts⟩ (c_X12_parts0 l g (M_4, σ.2) A (oz) S_5 hob hs0 oU Wz h49 (fun i a b => hW i a (by omega)) (by omega) (h + 1) (by omega) (lf - p9) (by omega) (o) (by omega) hAc) (cwV 3 hts gX12_parts_X12_parts rfl rfl rfl (by decide +kernel) ⟨Nat.le_of_ble_eq_true rfl, Nat.le_of_ble_eq_true rfl⟩) (x_preVQ hK hP hD hS hA (x_recv hK hP (i := 37) (by decide) hob rfl)) rfl rfl hl.1 rfl (lv_room (Nat.le_of_ble_eq_true rfl)) dX12_parts_78 ⟨by decide, by decide⟩) hS (fun σ1 H locs hpost hP hD hS => ?_)
            obtain ⟨M_6, p1⟩ := σ1
            obtain ⟨hp0, hfrc, ov_7, T_8, hnew, hnew2, okT_8, smT_8, hacov_7, hokov_7, h10ov_7⟩ := hpost
            obtain rfl : p1 = σ.2 := hp0
            have hP : xP g (M_6, σ.2) H := hP
            have hD : xD g A (M_6, σ.2) := hD
            have h49 := (hfrc (49) (by omega)).trans h49
            have hfr := x_frc (F := fun j => j ≠ 37 ∧ j ≠ 38) hfr hfrc (fun j h => by have h : j ≠ 37 ∧ j ≠ 38 := h; omega)
            have hob : MObj g M_6 ov_7 := hnew
            have hs0 : MArr g M_6 38 29 T_8 := hnew2
            refine x_iinc (k0 := 0) (lv' := [(6, .int (iI (p9 + 1))), (5, .int (iI (1))), (4, .int (iI (((S (0)) - 1) - h))), (0, .ref (g.2.2 37)), (1, .int (iI (h))), (2, .int (iI (lf))), (3, .int (iI (o)))]) hx hb dX12_parts_81 hl rfl (by decide) rfl (fun ls hl => ?_)
            refine lv_goto (tgt := 52) hx hb dX12_parts_84 (by decide) ?_
            have hgo := zParts_go (W := Wz) (o := o) (lf := lf - p9) (p := p9) (q := zAc oz) hsm (by omega) (by omega)
            rw [← eU] at hgo
            exact ih_3 (T_8) (ov_7) (p9 + 1) (by omega) (by exact okT_8) (by exact zSam_back (by omega) hsm (eU ▸ smT_8)) (by exact (smT_8).1.trans eU0) (by exact hokov_7) (by exact h10ov_7.trans h10) (by omega) (by omega) (by omega) (by rw [zFold_succ _ _ hp0, ← hst, hacov_7]; exact hgo) (M_6) _ _ hob hs0 h49 hfr hP hD hS ls (lv_sub hl [0, 1, 2, 3, 4, 5, 6] rfl)
      exact hloop_52 ((((40 : Int) - ((1))).toNat) + 1) (S) (ov) ((1)) (by omega) (by exact hok) (by exact zSam_self) (by rfl) (by exact hAc) (by rfl) (by omega) (by omega) (by omega) (by rw [zFold_0 _ _ (by omega)]) (σ.1) _ _ hob hs0 h49 hfr hP hD hS ls (lv_sub hl [0, 1, 2, 3, 4, 5, 6] rfl)
    · refine lv_iload_n hx hb dX12_parts_37 rfl (lv_at hl 3 rfl) ?_
      refine x_if_le (tgt := 45) hx hb (by omega) dX12_parts_38 (by decide) (fun c_38 => ?_) (fun c_38 => ?_)
      · refine x_iconst hx hb dX12_parts_45 ?_
        have hls : zLst (S 0 - 1 - h) lf = (1) := by (unfold zLst; first | (rw [if_pos (by omega)]; done) | (rw [if_neg (by omega)]; done))
        refine lv_istore (lv' := [(5, .int (iI (1))), (4, .int (iI (((S (0)) - 1) - h))), (0, .ref (g.2.2 37)), (1, .int (iI (h))), (2, .int (iI (lf))), (3, .int (iI (o)))]) hx hb dX12_parts_46 hl (by decide) rfl (fun ls hl => ?_)
        refine lv_iload hx hb dX12_parts_48 (lv_at hl 0 rfl) ?_
        refine lv_istore (lv' := [(6, .int (iI (1))), (5, .int (iI (1))), (4, .int (iI (((S (0)) - 1) - h))), (0, .ref (g.2.2 37)), (1, .int (iI (h))), (2, .int (iI (lf))), (3, .int (iI (o)))]) hx hb dX12_parts_50 hl (by decide) rfl (fun ls hl => ?_)
        have hloop_52 : ∀ (k : Nat) (T : Int → Int) (oz : Nat → Int) (p9 : Int), ((40 : Int) - p9).toNat < k → (hTo : SmOk T) → (hsm : zSam S T h) → (eT0 : T 0 = S 0) → (hAc : zAccOk (zAc oz)) → (h10 : oz 10 = ov 10) → (hp0 : zLst (S 0 - 1 - h) lf ≤ p9) → (hp1 : p9 = zLst (S 0 - 1 - h) lf ∨ p9 ≤ lf - (S 0 - 1 - h) + 1) → (hp2 : 1 ≤ p9 ∧ p9 ≤ 21) → (hst : zAc oz = zFold (fun p q => zParts (zNote (mK S) (mF S) Wz (S 0) (S 1) o) (S 0 - (h + 1)).toNat (h + 1) (lf - p) (upI (mP S) h p) q) (zLst (S 0 - 1 - h) lf) (zAc ov) (p9 - zLst (S 0 - 1 - h) lf).toNat) → ∀ (M : xM) (H : Heap) (locs : List Loc), (hob : M (37) = .inr (12, [.ref (g.2.2 38), .ref (g.2.2 39), .ref (g.2.2 40), .ref (g.2.2 41), .ref (g.2.2 42), .ref (g.2.2 43), .ref (g.2.2 44), .ref (g.2.2 45), .ref (g.2.2 46), .ref (g.2.2 47), .int (iI (oz 10)), .int (iI (oz 11)), .int (iI (oz 12)), .int (iI (oz 13)), .int (iI (oz 14)), .int (iI (oz 15)), .ref (g.2.2 48), .int (iI (oz 17)), .int (iI (oz 18)), .int (iI (oz 19)), .int (iI (oz 20)), .int (iI (oz 21)), .ref (g.2.2 49), .int (iI (oz 23))])) → (hs0 : M (38) = .inl (g.2.1 0, 29, .inl (fun k => iI (T (k : Int))))) → (h49 : M (49) = .inl (g.2.1 0, 8, .inl (fun k => iI (Wz (k : Int))))) → (hfr : ∀ j, (j ≠ 37 ∧ j ≠ 38) → M j = σ.1 j) → xP g (M, σ.2) H → xD g A (M, σ.2) → va_S A s.heap H locs → ∀ (ls : Array Slot), lv_has ls 7 [(6, .int (iI (p9))), (5, .int (iI (1))), (4, .int (iI (((S (0)) - 1) - h))), (0, .ref (g.2.2 37)), (1, .int (iI (h))), (2, .int (iI (lf))), (3, .int (iI (o)))] → W p l e (headSpec wsX12_parts ({ frames := 10, cells := 0, slots := 0, locals := 320 })).room s m ([.ref (g.2.2 37), .int (iI (h)), .int (iI (lf)), .int (iI (o))] : List Value).toArray below meth c H locs 0 0 (MQ below (x_Qv g A (fun σ1 => σ1.2 = σ.2 ∧ (∀ j, j ≠ 37 ∧ j ≠ 38 → σ1.1 j = σ.1 j) ∧ ∃ ov2 T, MObj g σ1.1 ov2 ∧ MArr g σ1.1 38 29 T ∧ SmOk T ∧ zSam S T h ∧ zAc ov2 = zParts (zNote (mK S) (mF S) Wz (S 0) (S 1) o) (S 0 - h).toNat h lf (mP S) (zAc ov) ∧ zAccOk (zAc ov2) ∧ ov2 10 = ov 10)) ([.ref (g.2.2 37), .int (iI (h)), .int (iI (lf)), .int (iI (o))] : List Value).toArray s (0) (0) A) (F0 m 52 ls []) := by
          intro k
          induction k with
          | zero =>
            intros; exact absurd (by assumption) (Nat.not_lt_zero _)
          | succ k ih =>
            intro T oz p9 hmeas hTo hsm eT0 hAc h10 hp0 hp1 hp2 hst M H locs hob hs0 h49 hfr hP hD hS ls hl
            have ih_9 := ih
            refine lv_iload hx hb dX12_parts_52 (lv_at hl 0 rfl) ?_
            refine lv_iload_n hx hb dX12_parts_54 rfl (lv_at hl 5 rfl) ?_
            refine lv_iload hx hb dX12_parts_55 (lv_at hl 2 rfl) ?_
            refine x_isub hx hb dX12_parts_57 ?_
            refine x_icmp_gt (tgt := 87) hx hb (by omega) (by omega) dX12_parts_58 (by decide) (fun c_58 => ?_) (fun c_58 => ?_)
            · refine x_retQv hx hb hr ?_ hP hD hS dX12_parts_87 hlocks
              refine ⟨rfl, hfr, oz, T, hob, hs0, hTo, hsm, ?_, hAc, h10⟩
              rw [zParts_step _ _ _ _ (by omega), show (lf - (S 0 - 1 - h) + 1 - zLst (S 0 - 1 - h) lf).toNat = (p9 - zLst (S 0 - 1 - h) lf).toNat by omega]
              exact hst
            · refine lv_aload_n hx hb dX12_parts_61 rfl (lv_at hl 3 rfl) ?_
              refine lv_iload_n hx hb dX12_parts_62 rfl (lv_at hl 4 rfl) ?_
              refine x_iconst hx hb dX12_parts_63 ?_
              refine lv_iload hx hb dX12_parts_64 (lv_at hl 0 rfl) ?_
              refine x_cqv0 (va_runV (As := [.int (iI (h)), .int (iI (2)), .int (iI (p9))]) (rest := []) ⟨hx, hb, hml, hown, hts⟩ (c_X12_puts l g (M, σ.2) A (oz) T hob hs0 hTo.1 (h) (by omega) (2) (by omega) (p9) (by omega)) (cwV 3 hts gX12_parts_X12_puts rfl rfl rfl (by decide +kernel) ⟨Nat.le_of_ble_eq_true rfl, Nat.le_of_ble_eq_true rfl⟩) (x_preVQ hK hP hD hS hA (x_recv hK hP (i := 37) (by decide) hob rfl)) rfl rfl hl.1 rfl (lv_room (Nat.le_of_ble_eq_true rfl)) dX12_parts_66 ⟨by decide, by decide⟩) hS (fun σ1 H locs hpost hP hD hS => ?_)
              obtain ⟨M_10, p1⟩ := σ1
              obtain ⟨hp0, hfrc, hnew⟩ := hpost
              obtain rfl : p1 = σ.2 := hp0
              have hP : xP g (M_10, σ.2) H := hP
              have hD : xD g A (M_10, σ.2) := hD
              have hob : MObj g M_10 oz := (hfrc (37) (by omega)).trans hob
              have h49 := (hfrc (49) (by omega)).trans h49
              have hfr := x_frc (F := fun j => j ≠ 37 ∧ j ≠ 38) hfr hfrc (fun j h => by have h : j ≠ 37 ∧ j ≠ 38 := h; omega)
              obtain ⟨S_11, hS_11⟩ : ∃ q : Int → Int, q = upI T (2 + 3 * (h) + (2)) (p9) := ⟨_, rfl⟩
              have hs0 : MArr g M_10 38 29 S_11 := by rw [hS_11]; exact hnew
              have rS_11 : ∀ k, inR (S_11 k) := by rw [hS_11]; exact upI_rng hTo.1 ⟨by omega, by omega⟩
              have eU : S_11 = upI T (2 + 3 * h + 2) p9 := by (rw [hS_11])
              have oU : SmOk S_11 := by (rw [eU]; exact SmOk_purse hTo (by omega) (by omega))
              have eU0 : S_11 0 = S 0 := by (rw [eU, upI_n (by omega)]; exact eT0)
              refine lv_aload_n hx hb dX12_parts_69 rfl (lv_at hl 3 rfl) ?_
              refine lv_iload_n hx hb dX12_parts_70 rfl (lv_at hl 4 rfl) ?_
              refine x_iconst hx hb dX12_parts_71 ?_
              refine x_iadd hx hb dX12_parts_72 ?_
              refine lv_iload_n hx hb dX12_parts_73 rfl (lv_at hl 5 rfl) ?_
              refine lv_iload hx hb dX12_parts_74 (lv_at hl 0 rfl) ?_
              refine x_isub hx hb dX12_parts_76 ?_
              refine lv_iload_n hx hb dX12_parts_77 rfl (lv_at hl 6 rfl) ?_
              refine x_cqv0 (va_runV (As := [.int (iI (h + 1)), .int (iI (lf - p9)), .int (iI (o))]) (rest := []) ⟨hx, hb, hml, hown, hts⟩ (c_X12_parts0 l g (M_10, σ.2) A (oz) S_11 hob hs0 oU Wz h49 (fun i a b => hW i a (by omega)) (by omega) (h + 1) (by omega) (lf - p9) (by omega) (o) (by omega) hAc) (cwV 3 hts gX12_parts_X12_parts rfl rfl rfl (by decide +kernel) ⟨Nat.le_of_ble_eq_true rfl, Nat.le_of_ble_eq_true rfl⟩) (x_preVQ hK hP hD hS hA (x_recv hK hP (i := 37) (by decide) hob rfl)) rfl rfl hl.1 rfl (lv_room (Nat.le_of_ble_eq_true rfl)) dX12_parts_78 ⟨by decide, by decide⟩) hS (fun σ1 H locs hpost hP hD hS => ?_)
              obtain ⟨M_12, p1⟩ := σ1
              obtain ⟨hp0, hfrc, ov_13, T_14, hnew, hnew2, okT_14, smT_14, hacov_13, hokov_13, h10ov_13⟩ := hpost
              obtain rfl : p1 = σ.2 := hp0
              have hP : xP g (M_12, σ.2) H := hP
              have hD : xD g A (M_12, σ.2) := hD
              have h49 := (hfrc (49) (by omega)).trans h49
              have hfr := x_frc (F := fun j => j ≠ 37 ∧ j ≠ 38) hfr hfrc (fun j h => by have h : j ≠ 37 ∧ j ≠ 38 := h; omega)
              have hob : MObj g M_12 ov_13 := hnew
              have hs0 : MArr g M_12 38 29 T_14 := hnew2
              refine x_iinc (k0 := 0) (lv' := [(6, .int (iI (p9 + 1))), (5, .int (iI (1))), (4, .int (iI (((S (0)) - 1) - h))), (0, .ref (g.2.2 37)), (1, .int (iI (h))), (2, .int (iI (lf))), (3, .int (iI (o)))]) hx hb dX12_parts_81 hl rfl (by decide) rfl (fun ls hl => ?_)
              refine lv_goto (tgt := 52) hx hb dX12_parts_84 (by decide) ?_
              have hgo := zParts_go (W := Wz) (o := o) (lf := lf - p9) (p := p9) (q := zAc oz) hsm (by omega) (by omega)
              rw [← eU] at hgo
              exact ih_9 (T_14) (ov_13) (p9 + 1) (by omega) (by exact okT_14) (by exact zSam_back (by omega) hsm (eU ▸ smT_14)) (by exact (smT_14).1.trans eU0) (by exact hokov_13) (by exact h10ov_13.trans h10) (by omega) (by omega) (by omega) (by rw [zFold_succ _ _ hp0, ← hst, hacov_13]; exact hgo) (M_12) _ _ hob hs0 h49 hfr hP hD hS ls (lv_sub hl [0, 1, 2, 3, 4, 5, 6] rfl)
        exact hloop_52 ((((40 : Int) - ((1))).toNat) + 1) (S) (ov) ((1)) (by omega) (by exact hok) (by exact zSam_self) (by rfl) (by exact hAc) (by rfl) (by omega) (by omega) (by omega) (by rw [zFold_0 _ _ (by omega)]) (σ.1) _ _ hob hs0 h49 hfr hP hD hS ls (lv_sub hl [0, 1, 2, 3, 4, 5, 6] rfl)
      · refine lv_iload_n hx hb dX12_parts_41 rfl (lv_at hl 3 rfl) ?_
        refine lv_goto (tgt := 46) hx hb dX12_parts_42 (by decide) ?_
        have hls : zLst (S 0 - 1 - h) lf = (lf) := by (unfold zLst; first | (rw [if_pos (by omega)]; done) | (rw [if_neg (by omega)]; done))
        refine lv_istore (lv' := [(5, .int (iI (lf))), (4, .int (iI (((S (0)) - 1) - h))), (0, .ref (g.2.2 37)), (1, .int (iI (h))), (2, .int (iI (lf))), (3, .int (iI (o)))]) hx hb dX12_parts_46 hl (by decide) rfl (fun ls hl => ?_)
        refine lv_iload hx hb dX12_parts_48 (lv_at hl 0 rfl) ?_
        refine lv_istore (lv' := [(6, .int (iI (lf))), (5, .int (iI (lf))), (4, .int (iI (((S (0)) - 1) - h))), (0, .ref (g.2.2 37)), (1, .int (iI (h))), (2, .int (iI (lf))), (3, .int (iI (o)))]) hx hb dX12_parts_50 hl (by decide) rfl (fun ls hl => ?_)
        have hloop_52 : ∀ (k : Nat) (T : Int → Int) (oz : Nat → Int) (p9 : Int), ((40 : Int) - p9).toNat < k → (hTo : SmOk T) → (hsm : zSam S T h) → (eT0 : T 0 = S 0) → (hAc : zAccOk (zAc oz)) → (h10 : oz 10 = ov 10) → (hp0 : zLst (S 0 - 1 - h) lf ≤ p9) → (hp1 : p9 = zLst (S 0 - 1 - h) lf ∨ p9 ≤ lf - (S 0 - 1 - h) + 1) → (hp2 : 1 ≤ p9 ∧ p9 ≤ 21) → (hst : zAc oz = zFold (fun p q => zParts (zNote (mK S) (mF S) Wz (S 0) (S 1) o) (S 0 - (h + 1)).toNat (h + 1) (lf - p) (upI (mP S) h p) q) (zLst (S 0 - 1 - h) lf) (zAc ov) (p9 - zLst (S 0 - 1 - h) lf).toNat) → ∀ (M : xM) (H : Heap) (locs : List Loc), (hob : M (37) = .inr (12, [.ref (g.2.2 38), .ref (g.2.2 39), .ref (g.2.2 40), .ref (g.2.2 41), .ref (g.2.2 42), .ref (g.2.2 43), .ref (g.2.2 44), .ref (g.2.2 45), .ref (g.2.2 46), .ref (g.2.2 47), .int (iI (oz 10)), .int (iI (oz 11)), .int (iI (oz 12)), .int (iI (oz 13)), .int (iI (oz 14)), .int (iI (oz 15)), .ref (g.2.2 48), .int (iI (oz 17)), .int (iI (oz 18)), .int (iI (oz 19)), .int (iI (oz 20)), .int (iI (oz 21)), .ref (g.2.2 49), .int (iI (oz 23))])) → (hs0 : M (38) = .inl (g.2.1 0, 29, .inl (fun k => iI (T (k : Int))))) → (h49 : M (49) = .inl (g.2.1 0, 8, .inl (fun k => iI (Wz (k : Int))))) → (hfr : ∀ j, (j ≠ 37 ∧ j ≠ 38) → M j = σ.1 j) → xP g (M, σ.2) H → xD g A (M, σ.2) → va_S A s.heap H locs → ∀ (ls : Array Slot), lv_has ls 7 [(6, .int (iI (p9))), (5, .int (iI (lf))), (4, .int (iI (((S (0)) - 1) - h))), (0, .ref (g.2.2 37)), (1, .int (iI (h))), (2, .int (iI (lf))), (3, .int (iI (o)))] → W p l e (headSpec wsX12_parts ({ frames := 10, cells := 0, slots := 0, locals := 320 })).room s m ([.ref (g.2.2 37), .int (iI (h)), .int (iI (lf)), .int (iI (o))] : List Value).toArray below meth c H locs 0 0 (MQ below (x_Qv g A (fun σ1 => σ1.2 = σ.2 ∧ (∀ j, j ≠ 37 ∧ j ≠ 38 → σ1.1 j = σ.1 j) ∧ ∃ ov2 T, MObj g σ1.1 ov2 ∧ MArr g σ1.1 38 29 T ∧ SmOk T ∧ zSam S T h ∧ zAc ov2 = zParts (zNote (mK S) (mF S) Wz (S 0) (S 1) o) (S 0 - h).toNat h lf (mP S) (zAc ov) ∧ zAccOk (zAc ov2) ∧ ov2 10 = ov 10)) ([.ref (g.2.2 37), .int (iI (h)), .int (iI (lf)), .int (iI (o))] : List Value).toArray s (0) (0) A) (F0 m 52 ls []) := by
          intro k
          induction k with
          | zero =>
            intros; exact absurd (by assumption) (Nat.not_lt_zero _)
          | succ k ih =>
            intro T oz p9 hmeas hTo hsm eT0 hAc h10 hp0 hp1 hp2 hst M H locs hob hs0 h49 hfr hP hD hS ls hl
            have ih_15 := ih
            refine lv_iload hx hb dX12_parts_52 (lv_at hl 0 rfl) ?_
            refine lv_iload_n hx hb dX12_parts_54 rfl (lv_at hl 5 rfl) ?_
            refine lv_iload hx hb dX12_parts_55 (lv_at hl 2 rfl) ?_
            refine x_isub hx hb dX12_parts_57 ?_
            refine x_icmp_gt (tgt := 87) hx hb (by omega) (by omega) dX12_parts_58 (by decide) (fun c_58 => ?_) (fun c_58 => ?_)
            · refine x_retQv hx hb hr ?_ hP hD hS dX12_parts_87 hlocks
              refine ⟨rfl, hfr, oz, T, hob, hs0, hTo, hsm, ?_, hAc, h10⟩
              rw [zParts_step _ _ _ _ (by omega), show (lf - (S 0 - 1 - h) + 1 - zLst (S 0 - 1 - h) lf).toNat = (p9 - zLst (S 0 - 1 - h) lf).toNat by omega]
              exact hst
            · refine lv_aload_n hx hb dX12_parts_61 rfl (lv_at hl 3 rfl) ?_
              refine lv_iload_n hx hb dX12_parts_62 rfl (lv_at hl 4 rfl) ?_
              refine x_iconst hx hb dX12_parts_63 ?_
              refine lv_iload hx hb dX12_parts_64 (lv_at hl 0 rfl) ?_
              refine x_cqv0 (va_runV (As := [.int (iI (h)), .int (iI (2)), .int (iI (p9))]) (rest := []) ⟨hx, hb, hml, hown, hts⟩ (c_X12_puts l g (M, σ.2) A (oz) T hob hs0 hTo.1 (h) (by omega) (2) (by omega) (p9) (by omega)) (cwV 3 hts gX12_parts_X12_puts rfl rfl rfl (by decide +kernel) ⟨Nat.le_of_ble_eq_true rfl, Nat.le_of_ble_eq_true rfl⟩) (x_preVQ hK hP hD hS hA (x_recv hK hP (i := 37) (by decide) hob rfl)) rfl rfl hl.1 rfl (lv_room (Nat.le_of_ble_eq_true rfl)) dX12_parts_66 ⟨by decide, by decide⟩) hS (fun σ1 H locs hpost hP hD hS => ?_)
              obtain ⟨M_16, p1⟩ := σ1
              obtain ⟨hp0, hfrc, hnew⟩ := hpost
              obtain rfl : p1 = σ.2 := hp0
              have hP : xP g (M_16, σ.2) H := hP
              have hD : xD g A (M_16, σ.2) := hD
              have hob : MObj g M_16 oz := (hfrc (37) (by omega)).trans hob
              have h49 := (hfrc (49) (by omega)).trans h49
              have hfr := x_frc (F := fun j => j ≠ 37 ∧ j ≠ 38) hfr hfrc (fun j h => by have h : j ≠ 37 ∧ j ≠ 38 := h; omega)
              obtain ⟨S_17, hS_17⟩ : ∃ q : Int → Int, q = upI T (2 + 3 * (h) + (2)) (p9) := ⟨_, rfl⟩
              have hs0 : MArr g M_16 38 29 S_17 := by rw [hS_17]; exact hnew
              have rS_17 : ∀ k, inR (S_17 k) := by rw [hS_17]; exact upI_rng hTo.1 ⟨by omega, by omega⟩
              have eU : S_17 = upI T (2 + 3 * h + 2) p9 := by (rw [hS_17])
              have oU : SmOk S_17 := by (rw [eU]; exact SmOk_purse hTo (by omega) (by omega))
              have eU0 : S_17 0 = S 0 := by (rw [eU, upI_n (by omega)]; exact eT0)
              refine lv_aload_n hx hb dX12_parts_69 rfl (lv_at hl 3 rfl) ?_
              refine lv_iload_n hx hb dX12_parts_70 rfl (lv_at hl 4 rfl) ?_
              refine x_iconst hx hb dX12_parts_71 ?_
              refine x_iadd hx hb dX12_parts_72 ?_
              refine lv_iload_n hx hb dX12_parts_73 rfl (lv_at hl 5 rfl) ?_
              refine lv_iload hx hb dX12_parts_74 (lv_at hl 0 rfl) ?_
              refine x_isub hx hb dX12_parts_76 ?_
              refine lv_iload_n hx hb dX12_parts_77 rfl (lv_at hl 6 rfl) ?_
              refine x_cqv0 (va_runV (As := [.int (iI (h + 1)), .int (iI (lf - p9)), .int (iI (o))]) (rest := []) ⟨hx, hb, hml, hown, hts⟩ (c_X12_parts0 l g (M_16, σ.2) A (oz) S_17 hob hs0 oU Wz h49 (fun i a b => hW i a (by omega)) (by omega) (h + 1) (by omega) (lf - p9) (by omega) (o) (by omega) hAc) (cwV 3 hts gX12_parts_X12_parts rfl rfl rfl (by decide +kernel) ⟨Nat.le_of_ble_eq_true rfl, Nat.le_of_ble_eq_true rfl⟩) (x_preVQ hK hP hD hS hA (x_recv hK hP (i := 37) (by decide) hob rfl)) rfl rfl hl.1 rfl (lv_room (Nat.le_of_ble_eq_true rfl)) dX12_parts_78 ⟨by decide, by decide⟩) hS (fun σ1 H locs hpost hP hD hS => ?_)
              obtain ⟨M_18, p1⟩ := σ1
              obtain ⟨hp0, hfrc, ov_19, T_20, hnew, hnew2, okT_20, smT_20, hacov_19, hokov_19, h10ov_19⟩ := hpost
              obtain rfl : p1 = σ.2 := hp0
              have hP : xP g (M_18, σ.2) H := hP
              have hD : xD g A (M_18, σ.2) := hD
              have h49 := (hfrc (49) (by omega)).trans h49
              have hfr := x_frc (F := fun j => j ≠ 37 ∧ j ≠ 38) hfr hfrc (fun j h => by have h : j ≠ 37 ∧ j ≠ 38 := h; omega)
              have hob : MObj g M_18 ov_19 := hnew
              have hs0 : MArr g M_18 38 29 T_20 := hnew2
              refine x_iinc (k0 := 0) (lv' := [(6, .int (iI (p9 + 1))), (5, .int (iI (lf))), (4, .int (iI (((S (0)) - 1) - h))), (0, .ref (g.2.2 37)), (1, .int (iI (h))), (2, .int (iI (lf))), (3, .int (iI (o)))]) hx hb dX12_parts_81 hl rfl (by decide) rfl (fun ls hl => ?_)
              refine lv_goto (tgt := 52) hx hb dX12_parts_84 (by decide) ?_
              have hgo := zParts_go (W := Wz) (o := o) (lf := lf - p9) (p := p9) (q := zAc oz) hsm (by omega) (by omega)
              rw [← eU] at hgo
              exact ih_15 (T_20) (ov_19) (p9 + 1) (by omega) (by exact okT_20) (by exact zSam_back (by omega) hsm (eU ▸ smT_20)) (by exact (smT_20).1.trans eU0) (by exact hokov_19) (by exact h10ov_19.trans h10) (by omega) (by omega) (by omega) (by rw [zFold_succ _ _ hp0, ← hst, hacov_19]; exact hgo) (M_18) _ _ hob hs0 h49 hfr hP hD hS ls (lv_sub hl [0, 1, 2, 3, 4, 5, 6] rfl)
        exact hloop_52 ((((40 : Int) - ((lf))).toNat) + 1) (S) (ov) ((lf)) (by omega) (by exact hok) (by exact zSam_self) (by rfl) (by exact hAc) (by rfl) (by omega) (by omega) (by omega) (by rw [zFold_0 _ _ (by omega)]) (σ.1) _ _ hob hs0 h49 hfr hP hD hS ls (lv_sub hl [0, 1, 2, 3, 4, 5, 6] rfl)
  · refine lv_iload_n hx hb dX12_parts_10 rfl (lv_at hl 2 rfl) ?_
    refine x_if_ne (tgt := 19) hx hb (by omega) dX12_parts_11 (by decide) (fun c_11 => ?_) (fun c_11 => ?_)
    · refine x_retQv hx hb hr ?_ hP hD hS dX12_parts_19 hlocks
      refine ⟨rfl, hfr, ov, S, hob, hs0, hok, zSam_self, ?_, hAc, rfl⟩
      rw [zParts_end _ _ _ _ (by omega), if_neg (by omega)]
    · refine lv_aload_n hx hb dX12_parts_14 rfl (lv_at hl 0 rfl) ?_
      refine lv_iload_n hx hb dX12_parts_15 rfl (lv_at hl 3 rfl) ?_
      refine x_cqv0 (va_runV (As := [.int (iI (o))]) (rest := []) ⟨hx, hb, hml, hown, hts⟩ (c_X12_partsAre l g σ A (ov) S hob hs0 hok Wz h49 (fun i a b => hW i a (by omega)) (by omega) (o) (by omega) hAc) (cwV 1 hts gX12_parts_X12_partsAre rfl rfl rfl (by decide +kernel) ⟨Nat.le_of_ble_eq_true rfl, Nat.le_of_ble_eq_true rfl⟩) (x_preVQ hK hP hD hS hA (x_recv hK hP (i := 37) (by decide) hob rfl)) rfl rfl hl.1 rfl (lv_room (Nat.le_of_ble_eq_true rfl)) dX12_parts_16 ⟨by decide, by decide⟩) hS (fun σ1 H locs hpost hP hD hS => ?_)
      obtain ⟨M_21, p1⟩ := σ1
      obtain ⟨hp0, hfrc, ov_22, hnew, hacov_22, hokov_22, h10ov_22⟩ := hpost
      obtain rfl : p1 = σ.2 := hp0
      have hP : xP g (M_21, σ.2) H := hP
      have hD : xD g A (M_21, σ.2) := hD
      have hs0 := (hfrc (38) (by omega)).trans hs0
      have h49 := (hfrc (49) (by omega)).trans h49
      have hfr := x_frc (F := fun j => j ≠ 37 ∧ j ≠ 38) hfr hfrc (fun j h => by have h : j ≠ 37 ∧ j ≠ 38 := h; omega)
      have hob : MObj g M_21 ov_22 := hnew
      refine x_retQv hx hb hr ?_ hP hD hS dX12_parts_19 hlocks
      refine ⟨rfl, hfr, ov_22, S, hob, hs0, hok, zSam_self, ?_, hokov_22, h10ov_22⟩
      rw [zParts_end _ _ _ _ (by omega), if_pos (by omega)]
      exact hacov_22

set_option maxHeartbeats 4000000 in
set_option maxRecDepth 100000 in
theorem c_X12_parts2 (l : Launch) (g : xG) (σ : xS) (A : Nat → Prop) (ov : Nat → Int) (S : Int → Int) (hob : MObj g σ.1 ov) (hs0 : MArr g σ.1 38 29 S) (hok : SmOk S) (Wz : Int → Int) (h49 : MArr g σ.1 49 8 Wz) (hW : ∀ i, 0 ≤ i → i < S 0 → 0 ≤ Wz i ∧ Wz i ≤ 9999) (hn6 : S 0 ≤ 6) (h : Int) (hh : 0 ≤ h ∧ h ≤ S 0 ∧ S 0 - h ≤ 2) (lf : Int) (hlf : 0 ≤ lf ∧ lf ≤ 20) (o : Int) (ho : inR o) (hAc : zAccOk (zAc ov)) : Met l yX12_parts wsX12_parts ({ frames := 11, cells := 0, slots := 0, locals := 352 }) (va_Pc [.ref (g.2.2 37), .int (iI (h)), .int (iI (lf)), .int (iI (o))] (xPreQ g A σ)) (x_Qv g A (fun σ1 => σ1.2 = σ.2 ∧ (∀ j, j ≠ 37 ∧ j ≠ 38 → σ1.1 j = σ.1 j) ∧ ∃ ov2 T, MObj g σ1.1 ov2 ∧ MArr g σ1.1 38 29 T ∧ SmOk T ∧ zSam S T h ∧ zAc ov2 = zParts (zNote (mK S) (mF S) Wz (S 0) (S 1) o) (S 0 - h).toNat h lf (mP S) (zAc ov) ∧ zAccOk (zAc ov2) ∧ ov2 10 = ov 10)) (0) (0) A := by
  refine Met.ofW (cc := cX12_parts) (maxL := 7) (ret := none) (by decide) rfl ?_
  intro p e s m args below meth c s₁ B hml hv
  obtain ⟨rfl, hP, hK, hD, hA⟩ := hv
  have hx := B.exec
  have hb := B.bytes
  have hr := B.returns
  have hts := atoms_spec (ws := wsX12_parts) B.pre
  have hown : s.vm.findClass RX12 = some m.cls := findClass_of_methodNamed B.named
  have hlocks := B.notSynchronized
  have hS : va_S A s.heap s.heap [] := va_S.rf
  have hfr : ∀ j, (j ≠ 37 ∧ j ≠ 38) → σ.1 j = σ.1 j := fun _ _ => rfl
  have hl := lv_entry ([.ref (g.2.2 37), .int (iI (h)), .int (iI (lf)), .int (iI (o))]) (n := 7) (Nat.le_of_ble_eq_true rfl)
  rw [lg_entry_eq]
  generalize (lg_sl ([.ref (g.2.2 37), .int (iI (h)), .int (iI (lf)), .int (iI (o))]) ++ List.replicate (7 - (lg_sl ([.ref (g.2.2 37), .int (iI (h)), .int (iI (lf)), .int (iI (o))])).length) Slot.unset).toArray = ls at hl ⊢
  have hl : lv_has ls 7 [(0, .ref (g.2.2 37)), (1, .int (iI (h))), (2, .int (iI (lf))), (3, .int (iI (o)))] := hl
  have hn0 := hok.2.1
  have hrd0 := hok.2.2.1
  have hw_0 := hts (.fieldLink RX12 9 "TwiceAsRichModel" "s" "[I") (by decide +kernel)
  have hin_X12 : ∀ w ∈ wsX120, w ∈ wsX12_parts := by decide +kernel
  refine lv_iload_n hx hb dX12_parts_0 rfl (lv_at hl 1 rfl) ?_
  refine lv_aload_n hx hb dX12_parts_1 rfl (lv_at hl 0 rfl) ?_
  refine x_get (C := RX12) (T := TX12) (N := 24) hx hb hts hin_X12 hown hK hP (37) (by decide) hob rfl 0 (by decide) hw_0 (fun _ h9 => h9) rfl dX12_parts_2 ?_
  refine x_iconst hx hb dX12_parts_5 ?_
  refine x_iald (f := S) hx hb hK hP (38) (by decide) hs0 (by omega) (by omega) (by decide) dX12_parts_6 ?_
  have hb_1 := hok.1 (0)
  refine x_icmp_ne (tgt := 20) hx hb (by omega) (by omega) dX12_parts_7 (by decide) (fun c_7 => ?_) (fun c_7 => ?_)
  · refine lv_aload_n hx hb dX12_parts_20 rfl (lv_at hl 0 rfl) ?_
    refine x_get (C := RX12) (T := TX12) (N := 24) hx hb hts hin_X12 hown hK hP (37) (by decide) hob rfl 0 (by decide) hw_0 (fun _ h9 => h9) rfl dX12_parts_21 ?_
    refine x_iconst hx hb dX12_parts_24 ?_
    refine x_iald (f := S) hx hb hK hP (38) (by decide) hs0 (by omega) (by omega) (by decide) dX12_parts_25 ?_
    have hb_2 := hok.1 (0)
    refine x_iconst hx hb dX12_parts_26 ?_
    refine x_isub hx hb dX12_parts_27 ?_
    refine lv_iload_n hx hb dX12_parts_28 rfl (lv_at hl 1 rfl) ?_
    refine x_isub hx hb dX12_parts_29 ?_
    refine lv_istore (lv' := [(4, .int (iI (((S (0)) - 1) - h))), (0, .ref (g.2.2 37)), (1, .int (iI (h))), (2, .int (iI (lf))), (3, .int (iI (o)))]) hx hb dX12_parts_30 hl (by decide) rfl (fun ls hl => ?_)
    refine lv_iload hx hb dX12_parts_32 (lv_at hl 0 rfl) ?_
    refine x_if_ne (tgt := 45) hx hb (by omega) dX12_parts_34 (by decide) (fun c_34 => ?_) (fun c_34 => ?_)
    · refine x_iconst hx hb dX12_parts_45 ?_
      have hls : zLst (S 0 - 1 - h) lf = (1) := by (unfold zLst; first | (rw [if_pos (by omega)]; done) | (rw [if_neg (by omega)]; done))
      refine lv_istore (lv' := [(5, .int (iI (1))), (4, .int (iI (((S (0)) - 1) - h))), (0, .ref (g.2.2 37)), (1, .int (iI (h))), (2, .int (iI (lf))), (3, .int (iI (o)))]) hx hb dX12_parts_46 hl (by decide) rfl (fun ls hl => ?_)
      refine lv_iload hx hb dX12_parts_48 (lv_at hl 0 rfl) ?_
      refine lv_istore (lv' := [(6, .int (iI (1))), (5, .int (iI (1))), (4, .int (iI (((S (0)) - 1) - h))), (0, .ref (g.2.2 37)), (1, .int (iI (h))), (2, .int (iI (lf))), (3, .int (iI (o)))]) hx hb dX12_parts_50 hl (by decide) rfl (fun ls hl => ?_)
      have hloop_52 : ∀ (k : Nat) (T : Int → Int) (oz : Nat → Int) (p9 : Int), ((40 : Int) - p9).toNat < k → (hTo : SmOk T) → (hsm : zSam S T h) → (eT0 : T 0 = S 0) → (hAc : zAccOk (zAc oz)) → (h10 : oz 10 = ov 10) → (hp0 : zLst (S 0 - 1 - h) lf ≤ p9) → (hp1 : p9 = zLst (S 0 - 1 - h) lf ∨ p9 ≤ lf - (S 0 - 1 - h) + 1) → (hp2 : 1 ≤ p9 ∧ p9 ≤ 21) → (hst : zAc oz = zFold (fun p q => zParts (zNote (mK S) (mF S) Wz (S 0) (S 1) o) (S 0 - (h + 1)).toNat (h + 1) (lf - p) (upI (mP S) h p) q) (zLst (S 0 - 1 - h) lf) (zAc ov) (p9 - zLst (S 0 - 1 - h) lf).toNat) → ∀ (M : xM) (H : Heap) (locs : List Loc), (hob : M (37) = .inr (12, [.ref (g.2.2 38), .ref (g.2.2 39), .ref (g.2.2 40), .ref (g.2.2 41), .ref (g.2.2 42), .ref (g.2.2 43), .ref (g.2.2 44), .ref (g.2.2 45), .ref (g.2.2 46), .ref (g.2.2 47), .int (iI (oz 10)), .int (iI (oz 11)), .int (iI (oz 12)), .int (iI (oz 13)), .int (iI (oz 14)), .int (iI (oz 15)), .ref (g.2.2 48), .int (iI (oz 17)), .int (iI (oz 18)), .int (iI (oz 19)), .int (iI (oz 20)), .int (iI (oz 21)), .ref (g.2.2 49), .int (iI (oz 23))])) → (hs0 : M (38) = .inl (g.2.1 0, 29, .inl (fun k => iI (T (k : Int))))) → (h49 : M (49) = .inl (g.2.1 0, 8, .inl (fun k => iI (Wz (k : Int))))) → (hfr : ∀ j, (j ≠ 37 ∧ j ≠ 38) → M j = σ.1 j) → xP g (M, σ.2) H → xD g A (M, σ.2) → va_S A s.heap H locs → ∀ (ls : Array Slot), lv_has ls 7 [(6, .int (iI (p9))), (5, .int (iI (1))), (4, .int (iI (((S (0)) - 1) - h))), (0, .ref (g.2.2 37)), (1, .int (iI (h))), (2, .int (iI (lf))), (3, .int (iI (o)))] → W p l e (headSpec wsX12_parts ({ frames := 11, cells := 0, slots := 0, locals := 352 })).room s m ([.ref (g.2.2 37), .int (iI (h)), .int (iI (lf)), .int (iI (o))] : List Value).toArray below meth c H locs 0 0 (MQ below (x_Qv g A (fun σ1 => σ1.2 = σ.2 ∧ (∀ j, j ≠ 37 ∧ j ≠ 38 → σ1.1 j = σ.1 j) ∧ ∃ ov2 T, MObj g σ1.1 ov2 ∧ MArr g σ1.1 38 29 T ∧ SmOk T ∧ zSam S T h ∧ zAc ov2 = zParts (zNote (mK S) (mF S) Wz (S 0) (S 1) o) (S 0 - h).toNat h lf (mP S) (zAc ov) ∧ zAccOk (zAc ov2) ∧ ov2 10 = ov 10)) ([.ref (g.2.2 37), .int (iI (h)), .int (iI (lf)), .int (iI (o))] : List Value).toArray s (0) (0) A) (F0 m 52 ls []) := by
        intro k
        induction k with
        | zero =>
          intros; exact absurd (by assumption) (Nat.not_lt_zero _)
        | succ k ih =>
          intro T oz p9 hmeas hTo hsm eT0 hAc h10 hp0 hp1 hp2 hst M H locs hob hs0 h49 hfr hP hD hS ls hl
          have ih_3 := ih
          refine lv_iload hx hb dX12_parts_52 (lv_at hl 0 rfl) ?_
          refine lv_iload_n hx hb dX12_parts_54 rfl (lv_at hl 5 rfl) ?_
          refine lv_iload hx hb dX12_parts_55 (lv_at hl 2 rfl) ?_
          refine x_isub hx hb dX12_parts_57 ?_
          refine x_icmp_gt (tgt := 87) hx hb (by omega) (by omega) dX12_parts_58 (by decide) (fun c_58 => ?_) (fun c_58 => ?_)
          · refine x_retQv hx hb hr ?_ hP hD hS dX12_parts_87 hlocks
            refine ⟨rfl, hfr, oz, T, hob, hs0, hTo, hsm, ?_, hAc, h10⟩
            rw [zParts_step _ _ _ _ (by omega), show (lf - (S 0 - 1 - h) + 1 - zLst (S 0 - 1 - h) lf).toNat = (p9 - zLst (S 0 - 1 - h) lf).toNat by omega]
            exact hst
          · refine lv_aload_n hx hb dX12_parts_61 rfl (lv_at hl 3 rfl) ?_
            refine lv_iload_n hx hb dX12_parts_62 rfl (lv_at hl 4 rfl) ?_
            refine x_iconst hx hb dX12_parts_63 ?_
            refine lv_iload hx hb dX12_parts_64 (lv_at hl 0 rfl) ?_
            refine x_cqv0 (va_runV (As := [.int (iI (h)), .int (iI (2)), .int (iI (p9))]) (rest := []) ⟨hx, hb, hml, hown, hts⟩ (c_X12_puts l g (M, σ.2) A (oz) T hob hs0 hTo.1 (h) (by omega) (2) (by omega) (p9) (by omega)) (cwV 3 hts gX12_parts_X12_puts rfl rfl rfl (by decide +kernel) ⟨Nat.le_of_ble_eq_true rfl, Nat.le_of_ble_eq_true rfl⟩) (x_preVQ hK hP hD hS hA (x_recv hK hP (i := 37) (by decide) hob rfl)) rfl rfl hl.1 rfl (lv_room (Nat.le_of_ble_eq_true rfl)) dX12_parts_66 ⟨by decide, by decide⟩) hS (fun σ1 H locs hpost hP hD hS => ?_)
            obtain ⟨M_4, p1⟩ := σ1
            obtain ⟨hp0, hfrc, hnew⟩ := hpost
            obtain rfl : p1 = σ.2 := hp0
            have hP : xP g (M_4, σ.2) H := hP
            have hD : xD g A (M_4, σ.2) := hD
            have hob : MObj g M_4 oz := (hfrc (37) (by omega)).trans hob
            have h49 := (hfrc (49) (by omega)).trans h49
            have hfr := x_frc (F := fun j => j ≠ 37 ∧ j ≠ 38) hfr hfrc (fun j h => by have h : j ≠ 37 ∧ j ≠ 38 := h; omega)
            obtain ⟨S_5, hS_5⟩ : ∃ q : Int → Int, q = upI T (2 + 3 * (h) + (2)) (p9) := ⟨_, rfl⟩
            have hs0 : MArr g M_4 38 29 S_5 := by rw [hS_5]; exact hnew
            have rS_5 : ∀ k, inR (S_5 k) := by rw [hS_5]; exact upI_rng hTo.1 ⟨by omega, by omega⟩
            have eU : S_5 = upI T (2 + 3 * h + 2) p9 := by (rw [hS_5])
            have oU : SmOk S_5 := by (rw [eU]; exact SmOk_purse hTo (by omega) (by omega))
            have eU0 : S_5 0 = S 0 := by (rw [eU, upI_n (by omega)]; exact eT0)
            refine lv_aload_n hx hb dX12_parts_69 rfl (lv_at hl 3 rfl) ?_
            refine lv_iload_n hx hb dX12_parts_70 rfl (lv_at hl 4 rfl) ?_
            refine x_iconst hx hb dX12_parts_71 ?_
            refine x_iadd hx hb dX12_parts_72 ?_
            refine lv_iload_n hx hb dX12_parts_73 rfl (lv_at hl 5 rfl) ?_
            refine lv_iload hx hb dX12_parts_74 (lv_at hl 0 rfl) ?_
            refine x_isub hx hb dX12_parts_76 ?_
            refine lv_iload_n hx hb dX12_parts_77 rfl (lv_at hl 6 rfl) ?_
            refine x_cqv0 (va_runV (As := [.int (iI (h + 1)), .int (iI (lf - p9)), .int (iI (o))]) (rest := []) ⟨hx, hb, hml, hown, hts⟩ (c_X12_parts1 l g (M_4, σ.2) A (oz) S_5 hob hs0 oU Wz h49 (fun i a b => hW i a (by omega)) (by omega) (h + 1) (by omega) (lf - p9) (by omega) (o) (by omega) hAc) (cwV 3 hts gX12_parts_X12_parts rfl rfl rfl (by decide +kernel) ⟨Nat.le_of_ble_eq_true rfl, Nat.le_of_ble_eq_true rfl⟩) (x_preVQ hK hP hD hS hA (x_recv hK hP (i := 37) (by decide) hob rfl)) rfl rfl hl.1 rfl (lv_room (Nat.le_of_ble_eq_true rfl)) dX12_parts_78 ⟨by decide, by decide⟩) hS (fun σ1 H locs hpost hP hD hS => ?_)
            obtain ⟨M_6, p1⟩ := σ1
            obtain ⟨hp0, hfrc, ov_7, T_8, hnew, hnew2, okT_8, smT_8, hacov_7, hokov_7, h10ov_7⟩ := hpost
            obtain rfl : p1 = σ.2 := hp0
            have hP : xP g (M_6, σ.2) H := hP
            have hD : xD g A (M_6, σ.2) := hD
            have h49 := (hfrc (49) (by omega)).trans h49
            have hfr := x_frc (F := fun j => j ≠ 37 ∧ j ≠ 38) hfr hfrc (fun j h => by have h : j ≠ 37 ∧ j ≠ 38 := h; omega)
            have hob : MObj g M_6 ov_7 := hnew
            have hs0 : MArr g M_6 38 29 T_8 := hnew2
            refine x_iinc (k0 := 0) (lv' := [(6, .int (iI (p9 + 1))), (5, .int (iI (1))), (4, .int (iI (((S (0)) - 1) - h))), (0, .ref (g.2.2 37)), (1, .int (iI (h))), (2, .int (iI (lf))), (3, .int (iI (o)))]) hx hb dX12_parts_81 hl rfl (by decide) rfl (fun ls hl => ?_)
            refine lv_goto (tgt := 52) hx hb dX12_parts_84 (by decide) ?_
            have hgo := zParts_go (W := Wz) (o := o) (lf := lf - p9) (p := p9) (q := zAc oz) hsm (by omega) (by omega)
            rw [← eU] at hgo
            exact ih_3 (T_8) (ov_7) (p9 + 1) (by omega) (by exact okT_8) (by exact zSam_back (by omega) hsm (eU ▸ smT_8)) (by exact (smT_8).1.trans eU0) (by exact hokov_7) (by exact h10ov_7.trans h10) (by omega) (by omega) (by omega) (by rw [zFold_succ _ _ hp0, ← hst, hacov_7]; exact hgo) (M_6) _ _ hob hs0 h49 hfr hP hD hS ls (lv_sub hl [0, 1, 2, 3, 4, 5, 6] rfl)
      exact hloop_52 ((((40 : Int) - ((1))).toNat) + 1) (S) (ov) ((1)) (by omega) (by exact hok) (by exact zSam_self) (by rfl) (by exact hAc) (by rfl) (by omega) (by omega) (by omega) (by rw [zFold_0 _ _ (by omega)]) (σ.1) _ _ hob hs0 h49 hfr hP hD hS ls (lv_sub hl [0, 1, 2, 3, 4, 5, 6] rfl)
    · refine lv_iload_n hx hb dX12_parts_37 rfl (lv_at hl 3 rfl) ?_
      refine x_if_le (tgt := 45) hx hb (by omega) dX12_parts_38 (by decide) (fun c_38 => ?_) (fun c_38 => ?_)
      · refine x_iconst hx hb dX12_parts_45 ?_
        have hls : zLst (S 0 - 1 - h) lf = (1) := by (unfold zLst; first | (rw [if_pos (by omega)]; done) | (rw [if_neg (by omega)]; done))
        refine lv_istore (lv' := [(5, .int (iI (1))), (4, .int (iI (((S (0)) - 1) - h))), (0, .ref (g.2.2 37)), (1, .int (iI (h))), (2, .int (iI (lf))), (3, .int (iI (o)))]) hx hb dX12_parts_46 hl (by decide) rfl (fun ls hl => ?_)
        refine lv_iload hx hb dX12_parts_48 (lv_at hl 0 rfl) ?_
        refine lv_istore (lv' := [(6, .int (iI (1))), (5, .int (iI (1))), (4, .int (iI (((S (0)) - 1) - h))), (0, .ref (g.2.2 37)), (1, .int (iI (h))), (2, .int (iI (lf))), (3, .int (iI (o)))]) hx hb dX12_parts_50 hl (by decide) rfl (fun ls hl => ?_)
        have hloop_52 : ∀ (k : Nat) (T : Int → Int) (oz : Nat → Int) (p9 : Int), ((40 : Int) - p9).toNat < k → (hTo : SmOk T) → (hsm : zSam S T h) → (eT0 : T 0 = S 0) → (hAc : zAccOk (zAc oz)) → (h10 : oz 10 = ov 10) → (hp0 : zLst (S 0 - 1 - h) lf ≤ p9) → (hp1 : p9 = zLst (S 0 - 1 - h) lf ∨ p9 ≤ lf - (S 0 - 1 - h) + 1) → (hp2 : 1 ≤ p9 ∧ p9 ≤ 21) → (hst : zAc oz = zFold (fun p q => zParts (zNote (mK S) (mF S) Wz (S 0) (S 1) o) (S 0 - (h + 1)).toNat (h + 1) (lf - p) (upI (mP S) h p) q) (zLst (S 0 - 1 - h) lf) (zAc ov) (p9 - zLst (S 0 - 1 - h) lf).toNat) → ∀ (M : xM) (H : Heap) (locs : List Loc), (hob : M (37) = .inr (12, [.ref (g.2.2 38), .ref (g.2.2 39), .ref (g.2.2 40), .ref (g.2.2 41), .ref (g.2.2 42), .ref (g.2.2 43), .ref (g.2.2 44), .ref (g.2.2 45), .ref (g.2.2 46), .ref (g.2.2 47), .int (iI (oz 10)), .int (iI (oz 11)), .int (iI (oz 12)), .int (iI (oz 13)), .int (iI (oz 14)), .int (iI (oz 15)), .ref (g.2.2 48), .int (iI (oz 17)), .int (iI (oz 18)), .int (iI (oz 19)), .int (iI (oz 20)), .int (iI (oz 21)), .ref (g.2.2 49), .int (iI (oz 23))])) → (hs0 : M (38) = .inl (g.2.1 0, 29, .inl (fun k => iI (T (k : Int))))) → (h49 : M (49) = .inl (g.2.1 0, 8, .inl (fun k => iI (Wz (k : Int))))) → (hfr : ∀ j, (j ≠ 37 ∧ j ≠ 38) → M j = σ.1 j) → xP g (M, σ.2) H → xD g A (M, σ.2) → va_S A s.heap H locs → ∀ (ls : Array Slot), lv_has ls 7 [(6, .int (iI (p9))), (5, .int (iI (1))), (4, .int (iI (((S (0)) - 1) - h))), (0, .ref (g.2.2 37)), (1, .int (iI (h))), (2, .int (iI (lf))), (3, .int (iI (o)))] → W p l e (headSpec wsX12_parts ({ frames := 11, cells := 0, slots := 0, locals := 352 })).room s m ([.ref (g.2.2 37), .int (iI (h)), .int (iI (lf)), .int (iI (o))] : List Value).toArray below meth c H locs 0 0 (MQ below (x_Qv g A (fun σ1 => σ1.2 = σ.2 ∧ (∀ j, j ≠ 37 ∧ j ≠ 38 → σ1.1 j = σ.1 j) ∧ ∃ ov2 T, MObj g σ1.1 ov2 ∧ MArr g σ1.1 38 29 T ∧ SmOk T ∧ zSam S T h ∧ zAc ov2 = zParts (zNote (mK S) (mF S) Wz (S 0) (S 1) o) (S 0 - h).toNat h lf (mP S) (zAc ov) ∧ zAccOk (zAc ov2) ∧ ov2 10 = ov 10)) ([.ref (g.2.2 37), .int (iI (h)), .int (iI (lf)), .int (iI (o))] : List Value).toArray s (0) (0) A) (F0 m 52 ls []) := by
          intro k
          induction k with
          | zero =>
            intros; exact absurd (by assumption) (Nat.not_lt_zero _)
          | succ k ih =>
            intro T oz p9 hmeas hTo hsm eT0 hAc h10 hp0 hp1 hp2 hst M H locs hob hs0 h49 hfr hP hD hS ls hl
            have ih_9 := ih
            refine lv_iload hx hb dX12_parts_52 (lv_at hl 0 rfl) ?_
            refine lv_iload_n hx hb dX12_parts_54 rfl (lv_at hl 5 rfl) ?_
            refine lv_iload hx hb dX12_parts_55 (lv_at hl 2 rfl) ?_
            refine x_isub hx hb dX12_parts_57 ?_
            refine x_icmp_gt (tgt := 87) hx hb (by omega) (by omega) dX12_parts_58 (by decide) (fun c_58 => ?_) (fun c_58 => ?_)
            · refine x_retQv hx hb hr ?_ hP hD hS dX12_parts_87 hlocks
              refine ⟨rfl, hfr, oz, T, hob, hs0, hTo, hsm, ?_, hAc, h10⟩
              rw [zParts_step _ _ _ _ (by omega), show (lf - (S 0 - 1 - h) + 1 - zLst (S 0 - 1 - h) lf).toNat = (p9 - zLst (S 0 - 1 - h) lf).toNat by omega]
              exact hst
            · refine lv_aload_n hx hb dX12_parts_61 rfl (lv_at hl 3 rfl) ?_
              refine lv_iload_n hx hb dX12_parts_62 rfl (lv_at hl 4 rfl) ?_
              refine x_iconst hx hb dX12_parts_63 ?_
              refine lv_iload hx hb dX12_parts_64 (lv_at hl 0 rfl) ?_
              refine x_cqv0 (va_runV (As := [.int (iI (h)), .int (iI (2)), .int (iI (p9))]) (rest := []) ⟨hx, hb, hml, hown, hts⟩ (c_X12_puts l g (M, σ.2) A (oz) T hob hs0 hTo.1 (h) (by omega) (2) (by omega) (p9) (by omega)) (cwV 3 hts gX12_parts_X12_puts rfl rfl rfl (by decide +kernel) ⟨Nat.le_of_ble_eq_true rfl, Nat.le_of_ble_eq_true rfl⟩) (x_preVQ hK hP hD hS hA (x_recv hK hP (i := 37) (by decide) hob rfl)) rfl rfl hl.1 rfl (lv_room (Nat.le_of_ble_eq_true rfl)) dX12_parts_66 ⟨by decide, by decide⟩) hS (fun σ1 H locs hpost hP hD hS => ?_)
              obtain ⟨M_10, p1⟩ := σ1
              obtain ⟨hp0, hfrc, hnew⟩ := hpost
              obtain rfl : p1 = σ.2 := hp0
              have hP : xP g (M_10, σ.2) H := hP
              have hD : xD g A (M_10, σ.2) := hD
              have hob : MObj g M_10 oz := (hfrc (37) (by omega)).trans hob
              have h49 := (hfrc (49) (by omega)).trans h49
              have hfr := x_frc (F := fun j => j ≠ 37 ∧ j ≠ 38) hfr hfrc (fun j h => by have h : j ≠ 37 ∧ j ≠ 38 := h; omega)
              obtain ⟨S_11, hS_11⟩ : ∃ q : Int → Int, q = upI T (2 + 3 * (h) + (2)) (p9) := ⟨_, rfl⟩
              have hs0 : MArr g M_10 38 29 S_11 := by rw [hS_11]; exact hnew
              have rS_11 : ∀ k, inR (S_11 k) := by rw [hS_11]; exact upI_rng hTo.1 ⟨by omega, by omega⟩
              have eU : S_11 = upI T (2 + 3 * h + 2) p9 := by (rw [hS_11])
              have oU : SmOk S_11 := by (rw [eU]; exact SmOk_purse hTo (by omega) (by omega))
              have eU0 : S_11 0 = S 0 := by (rw [eU, upI_n (by omega)]; exact eT0)
              refine lv_aload_n hx hb dX12_parts_69 rfl (lv_at hl 3 rfl) ?_
              refine lv_iload_n hx hb dX12_parts_70 rfl (lv_at hl 4 rfl) ?_
              refine x_iconst hx hb dX12_parts_71 ?_
              refine x_iadd hx hb dX12_parts_72 ?_
              refine lv_iload_n hx hb dX12_parts_73 rfl (lv_at hl 5 rfl) ?_
              refine lv_iload hx hb dX12_parts_74 (lv_at hl 0 rfl) ?_
              refine x_isub hx hb dX12_parts_76 ?_
              refine lv_iload_n hx hb dX12_parts_77 rfl (lv_at hl 6 rfl) ?_
              refine x_cqv0 (va_runV (As := [.int (iI (h + 1)), .int (iI (lf - p9)), .int (iI (o))]) (rest := []) ⟨hx, hb, hml, hown, hts⟩ (c_X12_parts1 l g (M_10, σ.2) A (oz) S_11 hob hs0 oU Wz h49 (fun i a b => hW i a (by omega)) (by omega) (h + 1) (by omega) (lf - p9) (by omega) (o) (by omega) hAc) (cwV 3 hts gX12_parts_X12_parts rfl rfl rfl (by decide +kernel) ⟨Nat.le_of_ble_eq_true rfl, Nat.le_of_ble_eq_true rfl⟩) (x_preVQ hK hP hD hS hA (x_recv hK hP (i := 37) (by decide) hob rfl)) rfl rfl hl.1 rfl (lv_room (Nat.le_of_ble_eq_true rfl)) dX12_parts_78 ⟨by decide, by decide⟩) hS (fun σ1 H locs hpost hP hD hS => ?_)
              obtain ⟨M_12, p1⟩ := σ1
              obtain ⟨hp0, hfrc, ov_13, T_14, hnew, hnew2, okT_14, smT_14, hacov_13, hokov_13, h10ov_13⟩ := hpost
              obtain rfl : p1 = σ.2 := hp0
              have hP : xP g (M_12, σ.2) H := hP
              have hD : xD g A (M_12, σ.2) := hD
              have h49 := (hfrc (49) (by omega)).trans h49
              have hfr := x_frc (F := fun j => j ≠ 37 ∧ j ≠ 38) hfr hfrc (fun j h => by have h : j ≠ 37 ∧ j ≠ 38 := h; omega)
              have hob : MObj g M_12 ov_13 := hnew
              have hs0 : MArr g M_12 38 29 T_14 := hnew2
              refine x_iinc (k0 := 0) (lv' := [(6, .int (iI (p9 + 1))), (5, .int (iI (1))), (4, .int (iI (((S (0)) - 1) - h))), (0, .ref (g.2.2 37)), (1, .int (iI (h))), (2, .int (iI (lf))), (3, .int (iI (o)))]) hx hb dX12_parts_81 hl rfl (by decide) rfl (fun ls hl => ?_)
              refine lv_goto (tgt := 52) hx hb dX12_parts_84 (by decide) ?_
              have hgo := zParts_go (W := Wz) (o := o) (lf := lf - p9) (p := p9) (q := zAc oz) hsm (by omega) (by omega)
              rw [← eU] at hgo
              exact ih_9 (T_14) (ov_13) (p9 + 1) (by omega) (by exact okT_14) (by exact zSam_back (by omega) hsm (eU ▸ smT_14)) (by exact (smT_14).1.trans eU0) (by exact hokov_13) (by exact h10ov_13.trans h10) (by omega) (by omega) (by omega) (by rw [zFold_succ _ _ hp0, ← hst, hacov_13]; exact hgo) (M_12) _ _ hob hs0 h49 hfr hP hD hS ls (lv_sub hl [0, 1, 2, 3, 4, 5, 6] rfl)
        exact hloop_52 ((((40 : Int) - ((1))).toNat) + 1) (S) (ov) ((1)) (by omega) (by exact hok) (by exact zSam_self) (by rfl) (by exact hAc) (by rfl) (by omega) (by omega) (by omega) (by rw [zFold_0 _ _ (by omega)]) (σ.1) _ _ hob hs0 h49 hfr hP hD hS ls (lv_sub hl [0, 1, 2, 3, 4, 5, 6] rfl)
      · refine lv_iload_n hx hb dX12_parts_41 rfl (lv_at hl 3 rfl) ?_
        refine lv_goto (tgt := 46) hx hb dX12_parts_42 (by decide) ?_
        have hls : zLst (S 0 - 1 - h) lf = (lf) := by (unfold zLst; first | (rw [if_pos (by omega)]; done) | (rw [if_neg (by omega)]; done))
        refine lv_istore (lv' := [(5, .int (iI (lf))), (4, .int (iI (((S (0)) - 1) - h))), (0, .ref (g.2.2 37)), (1, .int (iI (h))), (2, .int (iI (lf))), (3, .int (iI (o)))]) hx hb dX12_parts_46 hl (by decide) rfl (fun ls hl => ?_)
        refine lv_iload hx hb dX12_parts_48 (lv_at hl 0 rfl) ?_
        refine lv_istore (lv' := [(6, .int (iI (lf))), (5, .int (iI (lf))), (4, .int (iI (((S (0)) - 1) - h))), (0, .ref (g.2.2 37)), (1, .int (iI (h))), (2, .int (iI (lf))), (3, .int (iI (o)))]) hx hb dX12_parts_50 hl (by decide) rfl (fun ls hl => ?_)
        have hloop_52 : ∀ (k : Nat) (T : Int → Int) (oz : Nat → Int) (p9 : Int), ((40 : Int) - p9).toNat < k → (hTo : SmOk T) → (hsm : zSam S T h) → (eT0 : T 0 = S 0) → (hAc : zAccOk (zAc oz)) → (h10 : oz 10 = ov 10) → (hp0 : zLst (S 0 - 1 - h) lf ≤ p9) → (hp1 : p9 = zLst (S 0 - 1 - h) lf ∨ p9 ≤ lf - (S 0 - 1 - h) + 1) → (hp2 : 1 ≤ p9 ∧ p9 ≤ 21) → (hst : zAc oz = zFold (fun p q => zParts (zNote (mK S) (mF S) Wz (S 0) (S 1) o) (S 0 - (h + 1)).toNat (h + 1) (lf - p) (upI (mP S) h p) q) (zLst (S 0 - 1 - h) lf) (zAc ov) (p9 - zLst (S 0 - 1 - h) lf).toNat) → ∀ (M : xM) (H : Heap) (locs : List Loc), (hob : M (37) = .inr (12, [.ref (g.2.2 38), .ref (g.2.2 39), .ref (g.2.2 40), .ref (g.2.2 41), .ref (g.2.2 42), .ref (g.2.2 43), .ref (g.2.2 44), .ref (g.2.2 45), .ref (g.2.2 46), .ref (g.2.2 47), .int (iI (oz 10)), .int (iI (oz 11)), .int (iI (oz 12)), .int (iI (oz 13)), .int (iI (oz 14)), .int (iI (oz 15)), .ref (g.2.2 48), .int (iI (oz 17)), .int (iI (oz 18)), .int (iI (oz 19)), .int (iI (oz 20)), .int (iI (oz 21)), .ref (g.2.2 49), .int (iI (oz 23))])) → (hs0 : M (38) = .inl (g.2.1 0, 29, .inl (fun k => iI (T (k : Int))))) → (h49 : M (49) = .inl (g.2.1 0, 8, .inl (fun k => iI (Wz (k : Int))))) → (hfr : ∀ j, (j ≠ 37 ∧ j ≠ 38) → M j = σ.1 j) → xP g (M, σ.2) H → xD g A (M, σ.2) → va_S A s.heap H locs → ∀ (ls : Array Slot), lv_has ls 7 [(6, .int (iI (p9))), (5, .int (iI (lf))), (4, .int (iI (((S (0)) - 1) - h))), (0, .ref (g.2.2 37)), (1, .int (iI (h))), (2, .int (iI (lf))), (3, .int (iI (o)))] → W p l e (headSpec wsX12_parts ({ frames := 11, cells := 0, slots := 0, locals := 352 })).room s m ([.ref (g.2.2 37), .int (iI (h)), .int (iI (lf)), .int (iI (o))] : List Value).toArray below meth c H locs 0 0 (MQ below (x_Qv g A (fun σ1 => σ1.2 = σ.2 ∧ (∀ j, j ≠ 37 ∧ j ≠ 38 → σ1.1 j = σ.1 j) ∧ ∃ ov2 T, MObj g σ1.1 ov2 ∧ MArr g σ1.1 38 29 T ∧ SmOk T ∧ zSam S T h ∧ zAc ov2 = zParts (zNote (mK S) (mF S) Wz (S 0) (S 1) o) (S 0 - h).toNat h lf (mP S) (zAc ov) ∧ zAccOk (zAc ov2) ∧ ov2 10 = ov 10)) ([.ref (g.2.2 37), .int (iI (h)), .int (iI (lf)), .int (iI (o))] : List Value).toArray s (0) (0) A) (F0 m 52 ls []) := by
          intro k
          induction k with
          | zero =>
            intros; exact absurd (by assumption) (Nat.not_lt_zero _)
          | succ k ih =>
            intro T oz p9 hmeas hTo hsm eT0 hAc h10 hp0 hp1 hp2 hst M H locs hob hs0 h49 hfr hP hD hS ls hl
            have ih_15 := ih
            refine lv_iload hx hb dX12_parts_52 (lv_at hl 0 rfl) ?_
            refine lv_iload_n hx hb dX12_parts_54 rfl (lv_at hl 5 rfl) ?_
            refine lv_iload hx hb dX12_parts_55 (lv_at hl 2 rfl) ?_
            refine x_isub hx hb dX12_parts_57 ?_
            refine x_icmp_gt (tgt := 87) hx hb (by omega) (by omega) dX12_parts_58 (by decide) (fun c_58 => ?_) (fun c_58 => ?_)
            · refine x_retQv hx hb hr ?_ hP hD hS dX12_parts_87 hlocks
              refine ⟨rfl, hfr, oz, T, hob, hs0, hTo, hsm, ?_, hAc, h10⟩
              rw [zParts_step _ _ _ _ (by omega), show (lf - (S 0 - 1 - h) + 1 - zLst (S 0 - 1 - h) lf).toNat = (p9 - zLst (S 0 - 1 - h) lf).toNat by omega]
              exact hst
            · refine lv_aload_n hx hb dX12_parts_61 rfl (lv_at hl 3 rfl) ?_
              refine lv_iload_n hx hb dX12_parts_62 rfl (lv_at hl 4 rfl) ?_
              refine x_iconst hx hb dX12_parts_63 ?_
              refine lv_iload hx hb dX12_parts_64 (lv_at hl 0 rfl) ?_
              refine x_cqv0 (va_runV (As := [.int (iI (h)), .int (iI (2)), .int (iI (p9))]) (rest := []) ⟨hx, hb, hml, hown, hts⟩ (c_X12_puts l g (M, σ.2) A (oz) T hob hs0 hTo.1 (h) (by omega) (2) (by omega) (p9) (by omega)) (cwV 3 hts gX12_parts_X12_puts rfl rfl rfl (by decide +kernel) ⟨Nat.le_of_ble_eq_true rfl, Nat.le_of_ble_eq_true rfl⟩) (x_preVQ hK hP hD hS hA (x_recv hK hP (i := 37) (by decide) hob rfl)) rfl rfl hl.1 rfl (lv_room (Nat.le_of_ble_eq_true rfl)) dX12_parts_66 ⟨by decide, by decide⟩) hS (fun σ1 H locs hpost hP hD hS => ?_)
              obtain ⟨M_16, p1⟩ := σ1
              obtain ⟨hp0, hfrc, hnew⟩ := hpost
              obtain rfl : p1 = σ.2 := hp0
              have hP : xP g (M_16, σ.2) H := hP
              have hD : xD g A (M_16, σ.2) := hD
              have hob : MObj g M_16 oz := (hfrc (37) (by omega)).trans hob
              have h49 := (hfrc (49) (by omega)).trans h49
              have hfr := x_frc (F := fun j => j ≠ 37 ∧ j ≠ 38) hfr hfrc (fun j h => by have h : j ≠ 37 ∧ j ≠ 38 := h; omega)
              obtain ⟨S_17, hS_17⟩ : ∃ q : Int → Int, q = upI T (2 + 3 * (h) + (2)) (p9) := ⟨_, rfl⟩
              have hs0 : MArr g M_16 38 29 S_17 := by rw [hS_17]; exact hnew
              have rS_17 : ∀ k, inR (S_17 k) := by rw [hS_17]; exact upI_rng hTo.1 ⟨by omega, by omega⟩
              have eU : S_17 = upI T (2 + 3 * h + 2) p9 := by (rw [hS_17])
              have oU : SmOk S_17 := by (rw [eU]; exact SmOk_purse hTo (by omega) (by omega))
              have eU0 : S_17 0 = S 0 := by (rw [eU, upI_n (by omega)]; exact eT0)
              refine lv_aload_n hx hb dX12_parts_69 rfl (lv_at hl 3 rfl) ?_
              refine lv_iload_n hx hb dX12_parts_70 rfl (lv_at hl 4 rfl) ?_
              refine x_iconst hx hb dX12_parts_71 ?_
              refine x_iadd hx hb dX12_parts_72 ?_
              refine lv_iload_n hx hb dX12_parts_73 rfl (lv_at hl 5 rfl) ?_
              refine lv_iload hx hb dX12_parts_74 (lv_at hl 0 rfl) ?_
              refine x_isub hx hb dX12_parts_76 ?_
              refine lv_iload_n hx hb dX12_parts_77 rfl (lv_at hl 6 rfl) ?_
              refine x_cqv0 (va_runV (As := [.int (iI (h + 1)), .int (iI (lf - p9)), .int (iI (o))]) (rest := []) ⟨hx, hb, hml, hown, hts⟩ (c_X12_parts1 l g (M_16, σ.2) A (oz) S_17 hob hs0 oU Wz h49 (fun i a b => hW i a (by omega)) (by omega) (h + 1) (by omega) (lf - p9) (by omega) (o) (by omega) hAc) (cwV 3 hts gX12_parts_X12_parts rfl rfl rfl (by decide +kernel) ⟨Nat.le_of_ble_eq_true rfl, Nat.le_of_ble_eq_true rfl⟩) (x_preVQ hK hP hD hS hA (x_recv hK hP (i := 37) (by decide) hob rfl)) rfl rfl hl.1 rfl (lv_room (Nat.le_of_ble_eq_true rfl)) dX12_parts_78 ⟨by decide, by decide⟩) hS (fun σ1 H locs hpost hP hD hS => ?_)
              obtain ⟨M_18, p1⟩ := σ1
              obtain ⟨hp0, hfrc, ov_19, T_20, hnew, hnew2, okT_20, smT_20, hacov_19, hokov_19, h10ov_19⟩ := hpost
              obtain rfl : p1 = σ.2 := hp0
              have hP : xP g (M_18, σ.2) H := hP
              have hD : xD g A (M_18, σ.2) := hD
              have h49 := (hfrc (49) (by omega)).trans h49
              have hfr := x_frc (F := fun j => j ≠ 37 ∧ j ≠ 38) hfr hfrc (fun j h => by have h : j ≠ 37 ∧ j ≠ 38 := h; omega)
              have hob : MObj g M_18 ov_19 := hnew
              have hs0 : MArr g M_18 38 29 T_20 := hnew2
              refine x_iinc (k0 := 0) (lv' := [(6, .int (iI (p9 + 1))), (5, .int (iI (lf))), (4, .int (iI (((S (0)) - 1) - h))), (0, .ref (g.2.2 37)), (1, .int (iI (h))), (2, .int (iI (lf))), (3, .int (iI (o)))]) hx hb dX12_parts_81 hl rfl (by decide) rfl (fun ls hl => ?_)
              refine lv_goto (tgt := 52) hx hb dX12_parts_84 (by decide) ?_
              have hgo := zParts_go (W := Wz) (o := o) (lf := lf - p9) (p := p9) (q := zAc oz) hsm (by omega) (by omega)
              rw [← eU] at hgo
              exact ih_15 (T_20) (ov_19) (p9 + 1) (by omega) (by exact okT_20) (by exact zSam_back (by omega) hsm (eU ▸ smT_20)) (by exact (smT_20).1.trans eU0) (by exact hokov_19) (by exact h10ov_19.trans h10) (by omega) (by omega) (by omega) (by rw [zFold_succ _ _ hp0, ← hst, hacov_19]; exact hgo) (M_18) _ _ hob hs0 h49 hfr hP hD hS ls (lv_sub hl [0, 1, 2, 3, 4, 5, 6] rfl)
        exact hloop_52 ((((40 : Int) - ((lf))).toNat) + 1) (S) (ov) ((lf)) (by omega) (by exact hok) (by exact zSam_self) (by rfl) (by exact hAc) (by rfl) (by omega) (by omega) (by omega) (by rw [zFold_0 _ _ (by omega)]) (σ.1) _ _ hob hs0 h49 hfr hP hD hS ls (lv_sub hl [0, 1, 2, 3, 4, 5, 6] rfl)
  · refine lv_iload_n hx hb dX12_parts_10 rfl (lv_at hl 2 rfl) ?_
    refine x_if_ne (tgt := 19) hx hb (by omega) dX12_parts_11 (by decide) (fun c_11 => ?_) (fun c_11 => ?_)
    · refine x_retQv hx hb hr ?_ hP hD hS dX12_parts_19 hlocks
      refine ⟨rfl, hfr, ov, S, hob, hs0, hok, zSam_self, ?_, hAc, rfl⟩
      rw [zParts_end _ _ _ _ (by omega), if_neg (by omega)]
    · refine lv_aload_n hx hb dX12_parts_14 rfl (lv_at hl 0 rfl) ?_
      refine lv_iload_n hx hb dX12_parts_15 rfl (lv_at hl 3 rfl) ?_
      refine x_cqv0 (va_runV (As := [.int (iI (o))]) (rest := []) ⟨hx, hb, hml, hown, hts⟩ (c_X12_partsAre l g σ A (ov) S hob hs0 hok Wz h49 (fun i a b => hW i a (by omega)) (by omega) (o) (by omega) hAc) (cwV 1 hts gX12_parts_X12_partsAre rfl rfl rfl (by decide +kernel) ⟨Nat.le_of_ble_eq_true rfl, Nat.le_of_ble_eq_true rfl⟩) (x_preVQ hK hP hD hS hA (x_recv hK hP (i := 37) (by decide) hob rfl)) rfl rfl hl.1 rfl (lv_room (Nat.le_of_ble_eq_true rfl)) dX12_parts_16 ⟨by decide, by decide⟩) hS (fun σ1 H locs hpost hP hD hS => ?_)
      obtain ⟨M_21, p1⟩ := σ1
      obtain ⟨hp0, hfrc, ov_22, hnew, hacov_22, hokov_22, h10ov_22⟩ := hpost
      obtain rfl : p1 = σ.2 := hp0
      have hP : xP g (M_21, σ.2) H := hP
      have hD : xD g A (M_21, σ.2) := hD
      have hs0 := (hfrc (38) (by omega)).trans hs0
      have h49 := (hfrc (49) (by omega)).trans h49
      have hfr := x_frc (F := fun j => j ≠ 37 ∧ j ≠ 38) hfr hfrc (fun j h => by have h : j ≠ 37 ∧ j ≠ 38 := h; omega)
      have hob : MObj g M_21 ov_22 := hnew
      refine x_retQv hx hb hr ?_ hP hD hS dX12_parts_19 hlocks
      refine ⟨rfl, hfr, ov_22, S, hob, hs0, hok, zSam_self, ?_, hokov_22, h10ov_22⟩
      rw [zParts_end _ _ _ _ (by omega), if_pos (by omega)]
      exact hacov_22

set_option maxHeartbeats 4000000 in
set_option maxRecDepth 100000 in
theorem c_X12_parts3 (l : Launch) (g : xG) (σ : xS) (A : Nat → Prop) (ov : Nat → Int) (S : Int → Int) (hob : MObj g σ.1 ov) (hs0 : MArr g σ.1 38 29 S) (hok : SmOk S) (Wz : Int → Int) (h49 : MArr g σ.1 49 8 Wz) (hW : ∀ i, 0 ≤ i → i < S 0 → 0 ≤ Wz i ∧ Wz i ≤ 9999) (hn6 : S 0 ≤ 6) (h : Int) (hh : 0 ≤ h ∧ h ≤ S 0 ∧ S 0 - h ≤ 3) (lf : Int) (hlf : 0 ≤ lf ∧ lf ≤ 20) (o : Int) (ho : inR o) (hAc : zAccOk (zAc ov)) : Met l yX12_parts wsX12_parts ({ frames := 12, cells := 0, slots := 0, locals := 384 }) (va_Pc [.ref (g.2.2 37), .int (iI (h)), .int (iI (lf)), .int (iI (o))] (xPreQ g A σ)) (x_Qv g A (fun σ1 => σ1.2 = σ.2 ∧ (∀ j, j ≠ 37 ∧ j ≠ 38 → σ1.1 j = σ.1 j) ∧ ∃ ov2 T, MObj g σ1.1 ov2 ∧ MArr g σ1.1 38 29 T ∧ SmOk T ∧ zSam S T h ∧ zAc ov2 = zParts (zNote (mK S) (mF S) Wz (S 0) (S 1) o) (S 0 - h).toNat h lf (mP S) (zAc ov) ∧ zAccOk (zAc ov2) ∧ ov2 10 = ov 10)) (0) (0) A := by
  refine Met.ofW (cc := cX12_parts) (maxL := 7) (ret := none) (by decide) rfl ?_
  intro p e s m args below meth c s₁ B hml hv
  obtain ⟨rfl, hP, hK, hD, hA⟩ := hv
  have hx := B.exec
  have hb := B.bytes
  have hr := B.returns
  have hts := atoms_spec (ws := wsX12_parts) B.pre
  have hown : s.vm.findClass RX12 = some m.cls := findClass_of_methodNamed B.named
  have hlocks := B.notSynchronized
  have hS : va_S A s.heap s.heap [] := va_S.rf
  have hfr : ∀ j, (j ≠ 37 ∧ j ≠ 38) → σ.1 j = σ.1 j := fun _ _ => rfl
  have hl := lv_entry ([.ref (g.2.2 37), .int (iI (h)), .int (iI (lf)), .int (iI (o))]) (n := 7) (Nat.le_of_ble_eq_true rfl)
  rw [lg_entry_eq]
  generalize (lg_sl ([.ref (g.2.2 37), .int (iI (h)), .int (iI (lf)), .int (iI (o))]) ++ List.replicate (7 - (lg_sl ([.ref (g.2.2 37), .int (iI (h)), .int (iI (lf)), .int (iI (o))])).length) Slot.unset).toArray = ls at hl ⊢
  have hl : lv_has ls 7 [(0, .ref (g.2.2 37)), (1, .int (iI (h))), (2, .int (iI (lf))), (3, .int (iI (o)))] := hl
  have hn0 := hok.2.1
  have hrd0 := hok.2.2.1
  have hw_0 := hts (.fieldLink RX12 9 "TwiceAsRichModel" "s" "[I") (by decide +kernel)
  have hin_X12 : ∀ w ∈ wsX120, w ∈ wsX12_parts := by decide +kernel
  refine lv_iload_n hx hb dX12_parts_0 rfl (lv_at hl 1 rfl) ?_
  refine lv_aload_n hx hb dX12_parts_1 rfl (lv_at hl 0 rfl) ?_
  refine x_get (C := RX12) (T := TX12) (N := 24) hx hb hts hin_X12 hown hK hP (37) (by decide) hob rfl 0 (by decide) hw_0 (fun _ h9 => h9) rfl dX12_parts_2 ?_
  refine x_iconst hx hb dX12_parts_5 ?_
  refine x_iald (f := S) hx hb hK hP (38) (by decide) hs0 (by omega) (by omega) (by decide) dX12_parts_6 ?_
  have hb_1 := hok.1 (0)
  refine x_icmp_ne (tgt := 20) hx hb (by omega) (by omega) dX12_parts_7 (by decide) (fun c_7 => ?_) (fun c_7 => ?_)
  · refine lv_aload_n hx hb dX12_parts_20 rfl (lv_at hl 0 rfl) ?_
    refine x_get (C := RX12) (T := TX12) (N := 24) hx hb hts hin_X12 hown hK hP (37) (by decide) hob rfl 0 (by decide) hw_0 (fun _ h9 => h9) rfl dX12_parts_21 ?_
    refine x_iconst hx hb dX12_parts_24 ?_
    refine x_iald (f := S) hx hb hK hP (38) (by decide) hs0 (by omega) (by omega) (by decide) dX12_parts_25 ?_
    have hb_2 := hok.1 (0)
    refine x_iconst hx hb dX12_parts_26 ?_
    refine x_isub hx hb dX12_parts_27 ?_
    refine lv_iload_n hx hb dX12_parts_28 rfl (lv_at hl 1 rfl) ?_
    refine x_isub hx hb dX12_parts_29 ?_
    refine lv_istore (lv' := [(4, .int (iI (((S (0)) - 1) - h))), (0, .ref (g.2.2 37)), (1, .int (iI (h))), (2, .int (iI (lf))), (3, .int (iI (o)))]) hx hb dX12_parts_30 hl (by decide) rfl (fun ls hl => ?_)
    refine lv_iload hx hb dX12_parts_32 (lv_at hl 0 rfl) ?_
    refine x_if_ne (tgt := 45) hx hb (by omega) dX12_parts_34 (by decide) (fun c_34 => ?_) (fun c_34 => ?_)
    · refine x_iconst hx hb dX12_parts_45 ?_
      have hls : zLst (S 0 - 1 - h) lf = (1) := by (unfold zLst; first | (rw [if_pos (by omega)]; done) | (rw [if_neg (by omega)]; done))
      refine lv_istore (lv' := [(5, .int (iI (1))), (4, .int (iI (((S (0)) - 1) - h))), (0, .ref (g.2.2 37)), (1, .int (iI (h))), (2, .int (iI (lf))), (3, .int (iI (o)))]) hx hb dX12_parts_46 hl (by decide) rfl (fun ls hl => ?_)
      refine lv_iload hx hb dX12_parts_48 (lv_at hl 0 rfl) ?_
      refine lv_istore (lv' := [(6, .int (iI (1))), (5, .int (iI (1))), (4, .int (iI (((S (0)) - 1) - h))), (0, .ref (g.2.2 37)), (1, .int (iI (h))), (2, .int (iI (lf))), (3, .int (iI (o)))]) hx hb dX12_parts_50 hl (by decide) rfl (fun ls hl => ?_)
      have hloop_52 : ∀ (k : Nat) (T : Int → Int) (oz : Nat → Int) (p9 : Int), ((40 : Int) - p9).toNat < k → (hTo : SmOk T) → (hsm : zSam S T h) → (eT0 : T 0 = S 0) → (hAc : zAccOk (zAc oz)) → (h10 : oz 10 = ov 10) → (hp0 : zLst (S 0 - 1 - h) lf ≤ p9) → (hp1 : p9 = zLst (S 0 - 1 - h) lf ∨ p9 ≤ lf - (S 0 - 1 - h) + 1) → (hp2 : 1 ≤ p9 ∧ p9 ≤ 21) → (hst : zAc oz = zFold (fun p q => zParts (zNote (mK S) (mF S) Wz (S 0) (S 1) o) (S 0 - (h + 1)).toNat (h + 1) (lf - p) (upI (mP S) h p) q) (zLst (S 0 - 1 - h) lf) (zAc ov) (p9 - zLst (S 0 - 1 - h) lf).toNat) → ∀ (M : xM) (H : Heap) (locs : List Loc), (hob : M (37) = .inr (12, [.ref (g.2.2 38), .ref (g.2.2 39), .ref (g.2.2 40), .ref (g.2.2 41), .ref (g.2.2 42), .ref (g.2.2 43), .ref (g.2.2 44), .ref (g.2.2 45), .ref (g.2.2 46), .ref (g.2.2 47), .int (iI (oz 10)), .int (iI (oz 11)), .int (iI (oz 12)), .int (iI (oz 13)), .int (iI (oz 14)), .int (iI (oz 15)), .ref (g.2.2 48), .int (iI (oz 17)), .int (iI (oz 18)), .int (iI (oz 19)), .int (iI (oz 20)), .int (iI (oz 21)), .ref (g.2.2 49), .int (iI (oz 23))])) → (hs0 : M (38) = .inl (g.2.1 0, 29, .inl (fun k => iI (T (k : Int))))) → (h49 : M (49) = .inl (g.2.1 0, 8, .inl (fun k => iI (Wz (k : Int))))) → (hfr : ∀ j, (j ≠ 37 ∧ j ≠ 38) → M j = σ.1 j) → xP g (M, σ.2) H → xD g A (M, σ.2) → va_S A s.heap H locs → ∀ (ls : Array Slot), lv_has ls 7 [(6, .int (iI (p9))), (5, .int (iI (1))), (4, .int (iI (((S (0)) - 1) - h))), (0, .ref (g.2.2 37)), (1, .int (iI (h))), (2, .int (iI (lf))), (3, .int (iI (o)))] → W p l e (headSpec wsX12_parts ({ frames := 12, cells := 0, slots := 0, locals := 384 })).room s m ([.ref (g.2.2 37), .int (iI (h)), .int (iI (lf)), .int (iI (o))] : List Value).toArray below meth c H locs 0 0 (MQ below (x_Qv g A (fun σ1 => σ1.2 = σ.2 ∧ (∀ j, j ≠ 37 ∧ j ≠ 38 → σ1.1 j = σ.1 j) ∧ ∃ ov2 T, MObj g σ1.1 ov2 ∧ MArr g σ1.1 38 29 T ∧ SmOk T ∧ zSam S T h ∧ zAc ov2 = zParts (zNote (mK S) (mF S) Wz (S 0) (S 1) o) (S 0 - h).toNat h lf (mP S) (zAc ov) ∧ zAccOk (zAc ov2) ∧ ov2 10 = ov 10)) ([.ref (g.2.2 37), .int (iI (h)), .int (iI (lf)), .int (iI (o))] : List Value).toArray s (0) (0) A) (F0 m 52 ls []) := by
        intro k
        induction k with
        | zero =>
          intros; exact absurd (by assumption) (Nat.not_lt_zero _)
        | succ k ih =>
          intro T oz p9 hmeas hTo hsm eT0 hAc h10 hp0 hp1 hp2 hst M H locs hob hs0 h49 hfr hP hD hS ls hl
          have ih_3 := ih
          refine lv_iload hx hb dX12_parts_52 (lv_at hl 0 rfl) ?_
          refine lv_iload_n hx hb dX12_parts_54 rfl (lv_at hl 5 rfl) ?_
          refine lv_iload hx hb dX12_parts_55 (lv_at hl 2 rfl) ?_
          refine x_isub hx hb dX12_parts_57 ?_
          refine x_icmp_gt (tgt := 87) hx hb (by omega) (by omega) dX12_parts_58 (by decide) (fun c_58 => ?_) (fun c_58 => ?_)
          · refine x_retQv hx hb hr ?_ hP hD hS dX12_parts_87 hlocks
            refine ⟨rfl, hfr, oz, T, hob, hs0, hTo, hsm, ?_, hAc, h10⟩
            rw [zParts_step _ _ _ _ (by omega), show (lf - (S 0 - 1 - h) + 1 - zLst (S 0 - 1 - h) lf).toNat = (p9 - zLst (S 0 - 1 - h) lf).toNat by omega]
            exact hst
          · refine lv_aload_n hx hb dX12_parts_61 rfl (lv_at hl 3 rfl) ?_
            refine lv_iload_n hx hb dX12_parts_62 rfl (lv_at hl 4 rfl) ?_
            refine x_iconst hx hb dX12_parts_63 ?_
            refine lv_iload hx hb dX12_parts_64 (lv_at hl 0 rfl) ?_
            refine x_cqv0 (va_runV (As := [.int (iI (h)), .int (iI (2)), .int (iI (p9))]) (rest := []) ⟨hx, hb, hml, hown, hts⟩ (c_X12_puts l g (M, σ.2) A (oz) T hob hs0 hTo.1 (h) (by omega) (2) (by omega) (p9) (by omega)) (cwV 3 hts gX12_parts_X12_puts rfl rfl rfl (by decide +kernel) ⟨Nat.le_of_ble_eq_true rfl, Nat.le_of_ble_eq_true rfl⟩) (x_preVQ hK hP hD hS hA (x_recv hK hP (i := 37) (by decide) hob rfl)) rfl rfl hl.1 rfl (lv_room (Nat.le_of_ble_eq_true rfl)) dX12_parts_66 ⟨by decide, by decide⟩) hS (fun σ1 H locs hpost hP hD hS => ?_)
            obtain ⟨M_4, p1⟩ := σ1
            obtain ⟨hp0, hfrc, hnew⟩ := hpost
            obtain rfl : p1 = σ.2 := hp0
            have hP : xP g (M_4, σ.2) H := hP
            have hD : xD g A (M_4, σ.2) := hD
            have hob : MObj g M_4 oz := (hfrc (37) (by omega)).trans hob
            have h49 := (hfrc (49) (by omega)).trans h49
            have hfr := x_frc (F := fun j => j ≠ 37 ∧ j ≠ 38) hfr hfrc (fun j h => by have h : j ≠ 37 ∧ j ≠ 38 := h; omega)
            obtain ⟨S_5, hS_5⟩ : ∃ q : Int → Int, q = upI T (2 + 3 * (h) + (2)) (p9) := ⟨_, rfl⟩
            have hs0 : MArr g M_4 38 29 S_5 := by rw [hS_5]; exact hnew
            have rS_5 : ∀ k, inR (S_5 k) := by rw [hS_5]; exact upI_rng hTo.1 ⟨by omega, by omega⟩
            have eU : S_5 = upI T (2 + 3 * h + 2) p9 := by (rw [hS_5])
            have oU : SmOk S_5 := by (rw [eU]; exact SmOk_purse hTo (by omega) (by omega))
            have eU0 : S_5 0 = S 0 := by (rw [eU, upI_n (by omega)]; exact eT0)
            refine lv_aload_n hx hb dX12_parts_69 rfl (lv_at hl 3 rfl) ?_
            refine lv_iload_n hx hb dX12_parts_70 rfl (lv_at hl 4 rfl) ?_
            refine x_iconst hx hb dX12_parts_71 ?_
            refine x_iadd hx hb dX12_parts_72 ?_
            refine lv_iload_n hx hb dX12_parts_73 rfl (lv_at hl 5 rfl) ?_
            refine lv_iload hx hb dX12_parts_74 (lv_at hl 0 rfl) ?_
            refine x_isub hx hb dX12_parts_76 ?_
            refine lv_iload_n hx hb dX12_parts_77 rfl (lv_at hl 6 rfl) ?_
            refine x_cqv0 (va_runV (As := [.int (iI (h + 1)), .int (iI (lf - p9)), .int (iI (o))]) (rest := []) ⟨hx, hb, hml, hown, hts⟩ (c_X12_parts2 l g (M_4, σ.2) A (oz) S_5 hob hs0 oU Wz h49 (fun i a b => hW i a (by omega)) (by omega) (h + 1) (by omega) (lf - p9) (by omega) (o) (by omega) hAc) (cwV 3 hts gX12_parts_X12_parts rfl rfl rfl (by decide +kernel) ⟨Nat.le_of_ble_eq_true rfl, Nat.le_of_ble_eq_true rfl⟩) (x_preVQ hK hP hD hS hA (x_recv hK hP (i := 37) (by decide) hob rfl)) rfl rfl hl.1 rfl (lv_room (Nat.le_of_ble_eq_true rfl)) dX12_parts_78 ⟨by decide, by decide⟩) hS (fun σ1 H locs hpost hP hD hS => ?_)
            obtain ⟨M_6, p1⟩ := σ1
            obtain ⟨hp0, hfrc, ov_7, T_8, hnew, hnew2, okT_8, smT_8, hacov_7, hokov_7, h10ov_7⟩ := hpost
            obtain rfl : p1 = σ.2 := hp0
            have hP : xP g (M_6, σ.2) H := hP
            have hD : xD g A (M_6, σ.2) := hD
            have h49 := (hfrc (49) (by omega)).trans h49
            have hfr := x_frc (F := fun j => j ≠ 37 ∧ j ≠ 38) hfr hfrc (fun j h => by have h : j ≠ 37 ∧ j ≠ 38 := h; omega)
            have hob : MObj g M_6 ov_7 := hnew
            have hs0 : MArr g M_6 38 29 T_8 := hnew2
            refine x_iinc (k0 := 0) (lv' := [(6, .int (iI (p9 + 1))), (5, .int (iI (1))), (4, .int (iI (((S (0)) - 1) - h))), (0, .ref (g.2.2 37)), (1, .int (iI (h))), (2, .int (iI (lf))), (3, .int (iI (o)))]) hx hb dX12_parts_81 hl rfl (by decide) rfl (fun ls hl => ?_)
            refine lv_goto (tgt := 52) hx hb dX12_parts_84 (by decide) ?_
            have hgo := zParts_go (W := Wz) (o := o) (lf := lf - p9) (p := p9) (q := zAc oz) hsm (by omega) (by omega)
            rw [← eU] at hgo
            exact ih_3 (T_8) (ov_7) (p9 + 1) (by omega) (by exact okT_8) (by exact zSam_back (by omega) hsm (eU ▸ smT_8)) (by exact (smT_8).1.trans eU0) (by exact hokov_7) (by exact h10ov_7.trans h10) (by omega) (by omega) (by omega) (by rw [zFold_succ _ _ hp0, ← hst, hacov_7]; exact hgo) (M_6) _ _ hob hs0 h49 hfr hP hD hS ls (lv_sub hl [0, 1, 2, 3, 4, 5, 6] rfl)
      exact hloop_52 ((((40 : Int) - ((1))).toNat) + 1) (S) (ov) ((1)) (by omega) (by exact hok) (by exact zSam_self) (by rfl) (by exact hAc) (by rfl) (by omega) (by omega) (by omega) (by rw [zFold_0 _ _ (by omega)]) (σ.1) _ _ hob hs0 h49 hfr hP hD hS ls (lv_sub hl [0, 1, 2, 3, 4, 5, 6] rfl)
    · refine lv_iload_n hx hb dX12_parts_37 rfl (lv_at hl 3 rfl) ?_
      refine x_if_le (tgt := 45) hx hb (by omega) dX12_parts_38 (by decide) (fun c_38 => ?_) (fun c_38 => ?_)
      · refine x_iconst hx hb dX12_parts_45 ?_
        have hls : zLst (S 0 - 1 - h) lf = (1) := by (unfold zLst; first | (rw [if_pos (by omega)]; done) | (rw [if_neg (by omega)]; done))
        refine lv_istore (lv' := [(5, .int (iI (1))), (4, .int (iI (((S (0)) - 1) - h))), (0, .ref (g.2.2 37)), (1, .int (iI (h))), (2, .int (iI (lf))), (3, .int (iI (o)))]) hx hb dX12_parts_46 hl (by decide) rfl (fun ls hl => ?_)
        refine lv_iload hx hb dX12_parts_48 (lv_at hl 0 rfl) ?_
        refine lv_istore (lv' := [(6, .int (iI (1))), (5, .int (iI (1))), (4, .int (iI (((S (0)) - 1) - h))), (0, .ref (g.2.2 37)), (1, .int (iI (h))), (2, .int (iI (lf))), (3, .int (iI (o)))]) hx hb dX12_parts_50 hl (by decide) rfl (fun ls hl => ?_)
        have hloop_52 : ∀ (k : Nat) (T : Int → Int) (oz : Nat → Int) (p9 : Int), ((40 : Int) - p9).toNat < k → (hTo : SmOk T) → (hsm : zSam S T h) → (eT0 : T 0 = S 0) → (hAc : zAccOk (zAc oz)) → (h10 : oz 10 = ov 10) → (hp0 : zLst (S 0 - 1 - h) lf ≤ p9) → (hp1 : p9 = zLst (S 0 - 1 - h) lf ∨ p9 ≤ lf - (S 0 - 1 - h) + 1) → (hp2 : 1 ≤ p9 ∧ p9 ≤ 21) → (hst : zAc oz = zFold (fun p q => zParts (zNote (mK S) (mF S) Wz (S 0) (S 1) o) (S 0 - (h + 1)).toNat (h + 1) (lf - p) (upI (mP S) h p) q) (zLst (S 0 - 1 - h) lf) (zAc ov) (p9 - zLst (S 0 - 1 - h) lf).toNat) → ∀ (M : xM) (H : Heap) (locs : List Loc), (hob : M (37) = .inr (12, [.ref (g.2.2 38), .ref (g.2.2 39), .ref (g.2.2 40), .ref (g.2.2 41), .ref (g.2.2 42), .ref (g.2.2 43), .ref (g.2.2 44), .ref (g.2.2 45), .ref (g.2.2 46), .ref (g.2.2 47), .int (iI (oz 10)), .int (iI (oz 11)), .int (iI (oz 12)), .int (iI (oz 13)), .int (iI (oz 14)), .int (iI (oz 15)), .ref (g.2.2 48), .int (iI (oz 17)), .int (iI (oz 18)), .int (iI (oz 19)), .int (iI (oz 20)), .int (iI (oz 21)), .ref (g.2.2 49), .int (iI (oz 23))])) → (hs0 : M (38) = .inl (g.2.1 0, 29, .inl (fun k => iI (T (k : Int))))) → (h49 : M (49) = .inl (g.2.1 0, 8, .inl (fun k => iI (Wz (k : Int))))) → (hfr : ∀ j, (j ≠ 37 ∧ j ≠ 38) → M j = σ.1 j) → xP g (M, σ.2) H → xD g A (M, σ.2) → va_S A s.heap H locs → ∀ (ls : Array Slot), lv_has ls 7 [(6, .int (iI (p9))), (5, .int (iI (1))), (4, .int (iI (((S (0)) - 1) - h))), (0, .ref (g.2.2 37)), (1, .int (iI (h))), (2, .int (iI (lf))), (3, .int (iI (o)))] → W p l e (headSpec wsX12_parts ({ frames := 12, cells := 0, slots := 0, locals := 384 })).room s m ([.ref (g.2.2 37), .int (iI (h)), .int (iI (lf)), .int (iI (o))] : List Value).toArray below meth c H locs 0 0 (MQ below (x_Qv g A (fun σ1 => σ1.2 = σ.2 ∧ (∀ j, j ≠ 37 ∧ j ≠ 38 → σ1.1 j = σ.1 j) ∧ ∃ ov2 T, MObj g σ1.1 ov2 ∧ MArr g σ1.1 38 29 T ∧ SmOk T ∧ zSam S T h ∧ zAc ov2 = zParts (zNote (mK S) (mF S) Wz (S 0) (S 1) o) (S 0 - h).toNat h lf (mP S) (zAc ov) ∧ zAccOk (zAc ov2) ∧ ov2 10 = ov 10)) ([.ref (g.2.2 37), .int (iI (h)), .int (iI (lf)), .int (iI (o))] : List Value).toArray s (0) (0) A) (F0 m 52 ls []) := by
          intro k
          induction k with
          | zero =>
            intros; exact absurd (by assumption) (Nat.not_lt_zero _)
          | succ k ih =>
            intro T oz p9 hmeas hTo hsm eT0 hAc h10 hp0 hp1 hp2 hst M H locs hob hs0 h49 hfr hP hD hS ls hl
            have ih_9 := ih
            refine lv_iload hx hb dX12_parts_52 (lv_at hl 0 rfl) ?_
            refine lv_iload_n hx hb dX12_parts_54 rfl (lv_at hl 5 rfl) ?_
            refine lv_iload hx hb dX12_parts_55 (lv_at hl 2 rfl) ?_
            refine x_isub hx hb dX12_parts_57 ?_
            refine x_icmp_gt (tgt := 87) hx hb (by omega) (by omega) dX12_parts_58 (by decide) (fun c_58 => ?_) (fun c_58 => ?_)
            · refine x_retQv hx hb hr ?_ hP hD hS dX12_parts_87 hlocks
              refine ⟨rfl, hfr, oz, T, hob, hs0, hTo, hsm, ?_, hAc, h10⟩
              rw [zParts_step _ _ _ _ (by omega), show (lf - (S 0 - 1 - h) + 1 - zLst (S 0 - 1 - h) lf).toNat = (p9 - zLst (S 0 - 1 - h) lf).toNat by omega]
              exact hst
            · refine lv_aload_n hx hb dX12_parts_61 rfl (lv_at hl 3 rfl) ?_
              refine lv_iload_n hx hb dX12_parts_62 rfl (lv_at hl 4 rfl) ?_
              refine x_iconst hx hb dX12_parts_63 ?_
              refine lv_iload hx hb dX12_parts_64 (lv_at hl 0 rfl) ?_
              refine x_cqv0 (va_runV (As := [.int (iI (h)), .int (iI (2)), .int (iI (p9))]) (rest := []) ⟨hx, hb, hml, hown, hts⟩ (c_X12_puts l g (M, σ.2) A (oz) T hob hs0 hTo.1 (h) (by omega) (2) (by omega) (p9) (by omega)) (cwV 3 hts gX12_parts_X12_puts rfl rfl rfl (by decide +kernel) ⟨Nat.le_of_ble_eq_true rfl, Nat.le_of_ble_eq_true rfl⟩) (x_preVQ hK hP hD hS hA (x_recv hK hP (i := 37) (by decide) hob rfl)) rfl rfl hl.1 rfl (lv_room (Nat.le_of_ble_eq_true rfl)) dX12_parts_66 ⟨by decide, by decide⟩) hS (fun σ1 H locs hpost hP hD hS => ?_)
              obtain ⟨M_10, p1⟩ := σ1
              obtain ⟨hp0, hfrc, hnew⟩ := hpost
              obtain rfl : p1 = σ.2 := hp0
              have hP : xP g (M_10, σ.2) H := hP
              have hD : xD g A (M_10, σ.2) := hD
              have hob : MObj g M_10 oz := (hfrc (37) (by omega)).trans hob
              have h49 := (hfrc (49) (by omega)).trans h49
              have hfr := x_frc (F := fun j => j ≠ 37 ∧ j ≠ 38) hfr hfrc (fun j h => by have h : j ≠ 37 ∧ j ≠ 38 := h; omega)
              obtain ⟨S_11, hS_11⟩ : ∃ q : Int → Int, q = upI T (2 + 3 * (h) + (2)) (p9) := ⟨_, rfl⟩
              have hs0 : MArr g M_10 38 29 S_11 := by rw [hS_11]; exact hnew
              have rS_11 : ∀ k, inR (S_11 k) := by rw [hS_11]; exact upI_rng hTo.1 ⟨by omega, by omega⟩
              have eU : S_11 = upI T (2 + 3 * h + 2) p9 := by (rw [hS_11])
              have oU : SmOk S_11 := by (rw [eU]; exact SmOk_purse hTo (by omega) (by omega))
              have eU0 : S_11 0 = S 0 := by (rw [eU, upI_n (by omega)]; exact eT0)
              refine lv_aload_n hx hb dX12_parts_69 rfl (lv_at hl 3 rfl) ?_
              refine lv_iload_n hx hb dX12_parts_70 rfl (lv_at hl 4 rfl) ?_
              refine x_iconst hx hb dX12_parts_71 ?_
              refine x_iadd hx hb dX12_parts_72 ?_
              refine lv_iload_n hx hb dX12_parts_73 rfl (lv_at hl 5 rfl) ?_
              refine lv_iload hx hb dX12_parts_74 (lv_at hl 0 rfl) ?_
              refine x_isub hx hb dX12_parts_76 ?_
              refine lv_iload_n hx hb dX12_parts_77 rfl (lv_at hl 6 rfl) ?_
              refine x_cqv0 (va_runV (As := [.int (iI (h + 1)), .int (iI (lf - p9)), .int (iI (o))]) (rest := []) ⟨hx, hb, hml, hown, hts⟩ (c_X12_parts2 l g (M_10, σ.2) A (oz) S_11 hob hs0 oU Wz h49 (fun i a b => hW i a (by omega)) (by omega) (h + 1) (by omega) (lf - p9) (by omega) (o) (by omega) hAc) (cwV 3 hts gX12_parts_X12_parts rfl rfl rfl (by decide +kernel) ⟨Nat.le_of_ble_eq_true rfl, Nat.le_of_ble_eq_true rfl⟩) (x_preVQ hK hP hD hS hA (x_recv hK hP (i := 37) (by decide) hob rfl)) rfl rfl hl.1 rfl (lv_room (Nat.le_of_ble_eq_true rfl)) dX12_parts_78 ⟨by decide, by decide⟩) hS (fun σ1 H locs hpost hP hD hS => ?_)
              obtain ⟨M_12, p1⟩ := σ1
              obtain ⟨hp0, hfrc, ov_13, T_14, hnew, hnew2, okT_14, smT_14, hacov_13, hokov_13, h10ov_13⟩ := hpost
              obtain rfl : p1 = σ.2 := hp0
              have hP : xP g (M_12, σ.2) H := hP
              have hD : xD g A (M_12, σ.2) := hD
              have h49 := (hfrc (49) (by omega)).trans h49
              have hfr := x_frc (F := fun j => j ≠ 37 ∧ j ≠ 38) hfr hfrc (fun j h => by have h : j ≠ 37 ∧ j ≠ 38 := h; omega)
              have hob : MObj g M_12 ov_13 := hnew
              have hs0 : MArr g M_12 38 29 T_14 := hnew2
              refine x_iinc (k0 := 0) (lv' := [(6, .int (iI (p9 + 1))), (5, .int (iI (1))), (4, .int (iI (((S (0)) - 1) - h))), (0, .ref (g.2.2 37)), (1, .int (iI (h))), (2, .int (iI (lf))), (3, .int (iI (o)))]) hx hb dX12_parts_81 hl rfl (by decide) rfl (fun ls hl => ?_)
              refine lv_goto (tgt := 52) hx hb dX12_parts_84 (by decide) ?_
              have hgo := zParts_go (W := Wz) (o := o) (lf := lf - p9) (p := p9) (q := zAc oz) hsm (by omega) (by omega)
              rw [← eU] at hgo
              exact ih_9 (T_14) (ov_13) (p9 + 1) (by omega) (by exact okT_14) (by exact zSam_back (by omega) hsm (eU ▸ smT_14)) (by exact (smT_14).1.trans eU0) (by exact hokov_13) (by exact h10ov_13.trans h10) (by omega) (by omega) (by omega) (by rw [zFold_succ _ _ hp0, ← hst, hacov_13]; exact hgo) (M_12) _ _ hob hs0 h49 hfr hP hD hS ls (lv_sub hl [0, 1, 2, 3, 4, 5, 6] rfl)
        exact hloop_52 ((((40 : Int) - ((1))).toNat) + 1) (S) (ov) ((1)) (by omega) (by exact hok) (by exact zSam_self) (by rfl) (by exact hAc) (by rfl) (by omega) (by omega) (by omega) (by rw [zFold_0 _ _ (by omega)]) (σ.1) _ _ hob hs0 h49 hfr hP hD hS ls (lv_sub hl [0, 1, 2, 3, 4, 5, 6] rfl)
      · refine lv_iload_n hx hb dX12_parts_41 rfl (lv_at hl 3 rfl) ?_
        refine lv_goto (tgt := 46) hx hb dX12_parts_42 (by decide) ?_
        have hls : zLst (S 0 - 1 - h) lf = (lf) := by (unfold zLst; first | (rw [if_pos (by omega)]; done) | (rw [if_neg (by omega)]; done))
        refine lv_istore (lv' := [(5, .int (iI (lf))), (4, .int (iI (((S (0)) - 1) - h))), (0, .ref (g.2.2 37)), (1, .int (iI (h))), (2, .int (iI (lf))), (3, .int (iI (o)))]) hx hb dX12_parts_46 hl (by decide) rfl (fun ls hl => ?_)
        refine lv_iload hx hb dX12_parts_48 (lv_at hl 0 rfl) ?_
        refine lv_istore (lv' := [(6, .int (iI (lf))), (5, .int (iI (lf))), (4, .int (iI (((S (0)) - 1) - h))), (0, .ref (g.2.2 37)), (1, .int (iI (h))), (2, .int (iI (lf))), (3, .int (iI (o)))]) hx hb dX12_parts_50 hl (by decide) rfl (fun ls hl => ?_)
        have hloop_52 : ∀ (k : Nat) (T : Int → Int) (oz : Nat → Int) (p9 : Int), ((40 : Int) - p9).toNat < k → (hTo : SmOk T) → (hsm : zSam S T h) → (eT0 : T 0 = S 0) → (hAc : zAccOk (zAc oz)) → (h10 : oz 10 = ov 10) → (hp0 : zLst (S 0 - 1 - h) lf ≤ p9) → (hp1 : p9 = zLst (S 0 - 1 - h) lf ∨ p9 ≤ lf - (S 0 - 1 - h) + 1) → (hp2 : 1 ≤ p9 ∧ p9 ≤ 21) → (hst : zAc oz = zFold (fun p q => zParts (zNote (mK S) (mF S) Wz (S 0) (S 1) o) (S 0 - (h + 1)).toNat (h + 1) (lf - p) (upI (mP S) h p) q) (zLst (S 0 - 1 - h) lf) (zAc ov) (p9 - zLst (S 0 - 1 - h) lf).toNat) → ∀ (M : xM) (H : Heap) (locs : List Loc), (hob : M (37) = .inr (12, [.ref (g.2.2 38), .ref (g.2.2 39), .ref (g.2.2 40), .ref (g.2.2 41), .ref (g.2.2 42), .ref (g.2.2 43), .ref (g.2.2 44), .ref (g.2.2 45), .ref (g.2.2 46), .ref (g.2.2 47), .int (iI (oz 10)), .int (iI (oz 11)), .int (iI (oz 12)), .int (iI (oz 13)), .int (iI (oz 14)), .int (iI (oz 15)), .ref (g.2.2 48), .int (iI (oz 17)), .int (iI (oz 18)), .int (iI (oz 19)), .int (iI (oz 20)), .int (iI (oz 21)), .ref (g.2.2 49), .int (iI (oz 23))])) → (hs0 : M (38) = .inl (g.2.1 0, 29, .inl (fun k => iI (T (k : Int))))) → (h49 : M (49) = .inl (g.2.1 0, 8, .inl (fun k => iI (Wz (k : Int))))) → (hfr : ∀ j, (j ≠ 37 ∧ j ≠ 38) → M j = σ.1 j) → xP g (M, σ.2) H → xD g A (M, σ.2) → va_S A s.heap H locs → ∀ (ls : Array Slot), lv_has ls 7 [(6, .int (iI (p9))), (5, .int (iI (lf))), (4, .int (iI (((S (0)) - 1) - h))), (0, .ref (g.2.2 37)), (1, .int (iI (h))), (2, .int (iI (lf))), (3, .int (iI (o)))] → W p l e (headSpec wsX12_parts ({ frames := 12, cells := 0, slots := 0, locals := 384 })).room s m ([.ref (g.2.2 37), .int (iI (h)), .int (iI (lf)), .int (iI (o))] : List Value).toArray below meth c H locs 0 0 (MQ below (x_Qv g A (fun σ1 => σ1.2 = σ.2 ∧ (∀ j, j ≠ 37 ∧ j ≠ 38 → σ1.1 j = σ.1 j) ∧ ∃ ov2 T, MObj g σ1.1 ov2 ∧ MArr g σ1.1 38 29 T ∧ SmOk T ∧ zSam S T h ∧ zAc ov2 = zParts (zNote (mK S) (mF S) Wz (S 0) (S 1) o) (S 0 - h).toNat h lf (mP S) (zAc ov) ∧ zAccOk (zAc ov2) ∧ ov2 10 = ov 10)) ([.ref (g.2.2 37), .int (iI (h)), .int (iI (lf)), .int (iI (o))] : List Value).toArray s (0) (0) A) (F0 m 52 ls []) := by
          intro k
          induction k with
          | zero =>
            intros; exact absurd (by assumption) (Nat.not_lt_zero _)
          | succ k ih =>
            intro T oz p9 hmeas hTo hsm eT0 hAc h10 hp0 hp1 hp2 hst M H locs hob hs0 h49 hfr hP hD hS ls hl
            have ih_15 := ih
            refine lv_iload hx hb dX12_parts_52 (lv_at hl 0 rfl) ?_
            refine lv_iload_n hx hb dX12_parts_54 rfl (lv_at hl 5 rfl) ?_
            refine lv_iload hx hb dX12_parts_55 (lv_at hl 2 rfl) ?_
            refine x_isub hx hb dX12_parts_57 ?_
            refine x_icmp_gt (tgt := 87) hx hb (by omega) (by omega) dX12_parts_58 (by decide) (fun c_58 => ?_) (fun c_58 => ?_)
            · refine x_retQv hx hb hr ?_ hP hD hS dX12_parts_87 hlocks
              refine ⟨rfl, hfr, oz, T, hob, hs0, hTo, hsm, ?_, hAc, h10⟩
              rw [zParts_step _ _ _ _ (by omega), show (lf - (S 0 - 1 - h) + 1 - zLst (S 0 - 1 - h) lf).toNat = (p9 - zLst (S 0 - 1 - h) lf).toNat by omega]
              exact hst
            · refine lv_aload_n hx hb dX12_parts_61 rfl (lv_at hl 3 rfl) ?_
              refine lv_iload_n hx hb dX12_parts_62 rfl (lv_at hl 4 rfl) ?_
              refine x_iconst hx hb dX12_parts_63 ?_
              refine lv_iload hx hb dX12_parts_64 (lv_at hl 0 rfl) ?_
              refine x_cqv0 (va_runV (As := [.int (iI (h)), .int (iI (2)), .int (iI (p9))]) (rest := []) ⟨hx, hb, hml, hown, hts⟩ (c_X12_puts l g (M, σ.2) A (oz) T hob hs0 hTo.1 (h) (by omega) (2) (by omega) (p9) (by omega)) (cwV 3 hts gX12_parts_X12_puts rfl rfl rfl (by decide +kernel) ⟨Nat.le_of_ble_eq_true rfl, Nat.le_of_ble_eq_true rfl⟩) (x_preVQ hK hP hD hS hA (x_recv hK hP (i := 37) (by decide) hob rfl)) rfl rfl hl.1 rfl (lv_room (Nat.le_of_ble_eq_true rfl)) dX12_parts_66 ⟨by decide, by decide⟩) hS (fun σ1 H locs hpost hP hD hS => ?_)
              obtain ⟨M_16, p1⟩ := σ1
              obtain ⟨hp0, hfrc, hnew⟩ := hpost
              obtain rfl : p1 = σ.2 := hp0
              have hP : xP g (M_16, σ.2) H := hP
              have hD : xD g A (M_16, σ.2) := hD
              have hob : MObj g M_16 oz := (hfrc (37) (by omega)).trans hob
              have h49 := (hfrc (49) (by omega)).trans h49
              have hfr := x_frc (F := fun j => j ≠ 37 ∧ j ≠ 38) hfr hfrc (fun j h => by have h : j ≠ 37 ∧ j ≠ 38 := h; omega)
              obtain ⟨S_17, hS_17⟩ : ∃ q : Int → Int, q = upI T (2 + 3 * (h) + (2)) (p9) := ⟨_, rfl⟩
              have hs0 : MArr g M_16 38 29 S_17 := by rw [hS_17]; exact hnew
              have rS_17 : ∀ k, inR (S_17 k) := by rw [hS_17]; exact upI_rng hTo.1 ⟨by omega, by omega⟩
              have eU : S_17 = upI T (2 + 3 * h + 2) p9 := by (rw [hS_17])
              have oU : SmOk S_17 := by (rw [eU]; exact SmOk_purse hTo (by omega) (by omega))
              have eU0 : S_17 0 = S 0 := by (rw [eU, upI_n (by omega)]; exact eT0)
              refine lv_aload_n hx hb dX12_parts_69 rfl (lv_at hl 3 rfl) ?_
              refine lv_iload_n hx hb dX12_parts_70 rfl (lv_at hl 4 rfl) ?_
              refine x_iconst hx hb dX12_parts_71 ?_
              refine x_iadd hx hb dX12_parts_72 ?_
              refine lv_iload_n hx hb dX12_parts_73 rfl (lv_at hl 5 rfl) ?_
              refine lv_iload hx hb dX12_parts_74 (lv_at hl 0 rfl) ?_
              refine x_isub hx hb dX12_parts_76 ?_
              refine lv_iload_n hx hb dX12_parts_77 rfl (lv_at hl 6 rfl) ?_
              refine x_cqv0 (va_runV (As := [.int (iI (h + 1)), .int (iI (lf - p9)), .int (iI (o))]) (rest := []) ⟨hx, hb, hml, hown, hts⟩ (c_X12_parts2 l g (M_16, σ.2) A (oz) S_17 hob hs0 oU Wz h49 (fun i a b => hW i a (by omega)) (by omega) (h + 1) (by omega) (lf - p9) (by omega) (o) (by omega) hAc) (cwV 3 hts gX12_parts_X12_parts rfl rfl rfl (by decide +kernel) ⟨Nat.le_of_ble_eq_true rfl, Nat.le_of_ble_eq_true rfl⟩) (x_preVQ hK hP hD hS hA (x_recv hK hP (i := 37) (by decide) hob rfl)) rfl rfl hl.1 rfl (lv_room (Nat.le_of_ble_eq_true rfl)) dX12_parts_78 ⟨by decide, by decide⟩) hS (fun σ1 H locs hpost hP hD hS => ?_)
              obtain ⟨M_18, p1⟩ := σ1
              obtain ⟨hp0, hfrc, ov_19, T_20, hnew, hnew2, okT_20, smT_20, hacov_19, hokov_19, h10ov_19⟩ := hpost
              obtain rfl : p1 = σ.2 := hp0
              have hP : xP g (M_18, σ.2) H := hP
              have hD : xD g A (M_18, σ.2) := hD
              have h49 := (hfrc (49) (by omega)).trans h49
              have hfr := x_frc (F := fun j => j ≠ 37 ∧ j ≠ 38) hfr hfrc (fun j h => by have h : j ≠ 37 ∧ j ≠ 38 := h; omega)
              have hob : MObj g M_18 ov_19 := hnew
              have hs0 : MArr g M_18 38 29 T_20 := hnew2
              refine x_iinc (k0 := 0) (lv' := [(6, .int (iI (p9 + 1))), (5, .int (iI (lf))), (4, .int (iI (((S (0)) - 1) - h))), (0, .ref (g.2.2 37)), (1, .int (iI (h))), (2, .int (iI (lf))), (3, .int (iI (o)))]) hx hb dX12_parts_81 hl rfl (by decide) rfl (fun ls hl => ?_)
              refine lv_goto (tgt := 52) hx hb dX12_parts_84 (by decide) ?_
              have hgo := zParts_go (W := Wz) (o := o) (lf := lf - p9) (p := p9) (q := zAc oz) hsm (by omega) (by omega)
              rw [← eU] at hgo
              exact ih_15 (T_20) (ov_19) (p9 + 1) (by omega) (by exact okT_20) (by exact zSam_back (by omega) hsm (eU ▸ smT_20)) (by exact (smT_20).1.trans eU0) (by exact hokov_19) (by exact h10ov_19.trans h10) (by omega) (by omega) (by omega) (by rw [zFold_succ _ _ hp0, ← hst, hacov_19]; exact hgo) (M_18) _ _ hob hs0 h49 hfr hP hD hS ls (lv_sub hl [0, 1, 2, 3, 4, 5, 6] rfl)
        exact hloop_52 ((((40 : Int) - ((lf))).toNat) + 1) (S) (ov) ((lf)) (by omega) (by exact hok) (by exact zSam_self) (by rfl) (by exact hAc) (by rfl) (by omega) (by omega) (by omega) (by rw [zFold_0 _ _ (by omega)]) (σ.1) _ _ hob hs0 h49 hfr hP hD hS ls (lv_sub hl [0, 1, 2, 3, 4, 5, 6] rfl)
  · refine lv_iload_n hx hb dX12_parts_10 rfl (lv_at hl 2 rfl) ?_
    refine x_if_ne (tgt := 19) hx hb (by omega) dX12_parts_11 (by decide) (fun c_11 => ?_) (fun c_11 => ?_)
    · refine x_retQv hx hb hr ?_ hP hD hS dX12_parts_19 hlocks
      refine ⟨rfl, hfr, ov, S, hob, hs0, hok, zSam_self, ?_, hAc, rfl⟩
      rw [zParts_end _ _ _ _ (by omega), if_neg (by omega)]
    · refine lv_aload_n hx hb dX12_parts_14 rfl (lv_at hl 0 rfl) ?_
      refine lv_iload_n hx hb dX12_parts_15 rfl (lv_at hl 3 rfl) ?_
      refine x_cqv0 (va_runV (As := [.int (iI (o))]) (rest := []) ⟨hx, hb, hml, hown, hts⟩ (c_X12_partsAre l g σ A (ov) S hob hs0 hok Wz h49 (fun i a b => hW i a (by omega)) (by omega) (o) (by omega) hAc) (cwV 1 hts gX12_parts_X12_partsAre rfl rfl rfl (by decide +kernel) ⟨Nat.le_of_ble_eq_true rfl, Nat.le_of_ble_eq_true rfl⟩) (x_preVQ hK hP hD hS hA (x_recv hK hP (i := 37) (by decide) hob rfl)) rfl rfl hl.1 rfl (lv_room (Nat.le_of_ble_eq_true rfl)) dX12_parts_16 ⟨by decide, by decide⟩) hS (fun σ1 H locs hpost hP hD hS => ?_)
      obtain ⟨M_21, p1⟩ := σ1
      obtain ⟨hp0, hfrc, ov_22, hnew, hacov_22, hokov_22, h10ov_22⟩ := hpost
      obtain rfl : p1 = σ.2 := hp0
      have hP : xP g (M_21, σ.2) H := hP
      have hD : xD g A (M_21, σ.2) := hD
      have hs0 := (hfrc (38) (by omega)).trans hs0
      have h49 := (hfrc (49) (by omega)).trans h49
      have hfr := x_frc (F := fun j => j ≠ 37 ∧ j ≠ 38) hfr hfrc (fun j h => by have h : j ≠ 37 ∧ j ≠ 38 := h; omega)
      have hob : MObj g M_21 ov_22 := hnew
      refine x_retQv hx hb hr ?_ hP hD hS dX12_parts_19 hlocks
      refine ⟨rfl, hfr, ov_22, S, hob, hs0, hok, zSam_self, ?_, hokov_22, h10ov_22⟩
      rw [zParts_end _ _ _ _ (by omega), if_pos (by omega)]
      exact hacov_22

set_option maxHeartbeats 4000000 in
set_option maxRecDepth 100000 in
theorem c_X12_parts4 (l : Launch) (g : xG) (σ : xS) (A : Nat → Prop) (ov : Nat → Int) (S : Int → Int) (hob : MObj g σ.1 ov) (hs0 : MArr g σ.1 38 29 S) (hok : SmOk S) (Wz : Int → Int) (h49 : MArr g σ.1 49 8 Wz) (hW : ∀ i, 0 ≤ i → i < S 0 → 0 ≤ Wz i ∧ Wz i ≤ 9999) (hn6 : S 0 ≤ 6) (h : Int) (hh : 0 ≤ h ∧ h ≤ S 0 ∧ S 0 - h ≤ 4) (lf : Int) (hlf : 0 ≤ lf ∧ lf ≤ 20) (o : Int) (ho : inR o) (hAc : zAccOk (zAc ov)) : Met l yX12_parts wsX12_parts ({ frames := 13, cells := 0, slots := 0, locals := 416 }) (va_Pc [.ref (g.2.2 37), .int (iI (h)), .int (iI (lf)), .int (iI (o))] (xPreQ g A σ)) (x_Qv g A (fun σ1 => σ1.2 = σ.2 ∧ (∀ j, j ≠ 37 ∧ j ≠ 38 → σ1.1 j = σ.1 j) ∧ ∃ ov2 T, MObj g σ1.1 ov2 ∧ MArr g σ1.1 38 29 T ∧ SmOk T ∧ zSam S T h ∧ zAc ov2 = zParts (zNote (mK S) (mF S) Wz (S 0) (S 1) o) (S 0 - h).toNat h lf (mP S) (zAc ov) ∧ zAccOk (zAc ov2) ∧ ov2 10 = ov 10)) (0) (0) A := by
  refine Met.ofW (cc := cX12_parts) (maxL := 7) (ret := none) (by decide) rfl ?_
  intro p e s m args below meth c s₁ B hml hv
  obtain ⟨rfl, hP, hK, hD, hA⟩ := hv
  have hx := B.exec
  have hb := B.bytes
  have hr := B.returns
  have hts := atoms_spec (ws := wsX12_parts) B.pre
  have hown : s.vm.findClass RX12 = some m.cls := findClass_of_methodNamed B.named
  have hlocks := B.notSynchronized
  have hS : va_S A s.heap s.heap [] := va_S.rf
  have hfr : ∀ j, (j ≠ 37 ∧ j ≠ 38) → σ.1 j = σ.1 j := fun _ _ => rfl
  have hl := lv_entry ([.ref (g.2.2 37), .int (iI (h)), .int (iI (lf)), .int (iI (o))]) (n := 7) (Nat.le_of_ble_eq_true rfl)
  rw [lg_entry_eq]
  generalize (lg_sl ([.ref (g.2.2 37), .int (iI (h)), .int (iI (lf)), .int (iI (o))]) ++ List.replicate (7 - (lg_sl ([.ref (g.2.2 37), .int (iI (h)), .int (iI (lf)), .int (iI (o))])).length) Slot.unset).toArray = ls at hl ⊢
  have hl : lv_has ls 7 [(0, .ref (g.2.2 37)), (1, .int (iI (h))), (2, .int (iI (lf))), (3, .int (iI (o)))] := hl
  have hn0 := hok.2.1
  have hrd0 := hok.2.2.1
  have hw_0 := hts (.fieldLink RX12 9 "TwiceAsRichModel" "s" "[I") (by decide +kernel)
  have hin_X12 : ∀ w ∈ wsX120, w ∈ wsX12_parts := by decide +kernel
  refine lv_iload_n hx hb dX12_parts_0 rfl (lv_at hl 1 rfl) ?_
  refine lv_aload_n hx hb dX12_parts_1 rfl (lv_at hl 0 rfl) ?_
  refine x_get (C := RX12) (T := TX12) (N := 24) hx hb hts hin_X12 hown hK hP (37) (by decide) hob rfl 0 (by decide) hw_0 (fun _ h9 => h9) rfl dX12_parts_2 ?_
  refine x_iconst hx hb dX12_parts_5 ?_
  refine x_iald (f := S) hx hb hK hP (38) (by decide) hs0 (by omega) (by omega) (by decide) dX12_parts_6 ?_
  have hb_1 := hok.1 (0)
  refine x_icmp_ne (tgt := 20) hx hb (by omega) (by omega) dX12_parts_7 (by decide) (fun c_7 => ?_) (fun c_7 => ?_)
  · refine lv_aload_n hx hb dX12_parts_20 rfl (lv_at hl 0 rfl) ?_
    refine x_get (C := RX12) (T := TX12) (N := 24) hx hb hts hin_X12 hown hK hP (37) (by decide) hob rfl 0 (by decide) hw_0 (fun _ h9 => h9) rfl dX12_parts_21 ?_
    refine x_iconst hx hb dX12_parts_24 ?_
    refine x_iald (f := S) hx hb hK hP (38) (by decide) hs0 (by omega) (by omega) (by decide) dX12_parts_25 ?_
    have hb_2 := hok.1 (0)
    refine x_iconst hx hb dX12_parts_26 ?_
    refine x_isub hx hb dX12_parts_27 ?_
    refine lv_iload_n hx hb dX12_parts_28 rfl (lv_at hl 1 rfl) ?_
    refine x_isub hx hb dX12_parts_29 ?_
    refine lv_istore (lv' := [(4, .int (iI (((S (0)) - 1) - h))), (0, .ref (g.2.2 37)), (1, .int (iI (h))), (2, .int (iI (lf))), (3, .int (iI (o)))]) hx hb dX12_parts_30 hl (by decide) rfl (fun ls hl => ?_)
    refine lv_iload hx hb dX12_parts_32 (lv_at hl 0 rfl) ?_
    refine x_if_ne (tgt := 45) hx hb (by omega) dX12_parts_34 (by decide) (fun c_34 => ?_) (fun c_34 => ?_)
    · refine x_iconst hx hb dX12_parts_45 ?_
      have hls : zLst (S 0 - 1 - h) lf = (1) := by (unfold zLst; first | (rw [if_pos (by omega)]; done) | (rw [if_neg (by omega)]; done))
      refine lv_istore (lv' := [(5, .int (iI (1))), (4, .int (iI (((S (0)) - 1) - h))), (0, .ref (g.2.2 37)), (1, .int (iI (h))), (2, .int (iI (lf))), (3, .int (iI (o)))]) hx hb dX12_parts_46 hl (by decide) rfl (fun ls hl => ?_)
      refine lv_iload hx hb dX12_parts_48 (lv_at hl 0 rfl) ?_
      refine lv_istore (lv' := [(6, .int (iI (1))), (5, .int (iI (1))), (4, .int (iI (((S (0)) - 1) - h))), (0, .ref (g.2.2 37)), (1, .int (iI (h))), (2, .int (iI (lf))), (3, .int (iI (o)))]) hx hb dX12_parts_50 hl (by decide) rfl (fun ls hl => ?_)
      have hloop_52 : ∀ (k : Nat) (T : Int → Int) (oz : Nat → Int) (p9 : Int), ((40 : Int) - p9).toNat < k → (hTo : SmOk T) → (hsm : zSam S T h) → (eT0 : T 0 = S 0) → (hAc : zAccOk (zAc oz)) → (h10 : oz 10 = ov 10) → (hp0 : zLst (S 0 - 1 - h) lf ≤ p9) → (hp1 : p9 = zLst (S 0 - 1 - h) lf ∨ p9 ≤ lf - (S 0 - 1 - h) + 1) → (hp2 : 1 ≤ p9 ∧ p9 ≤ 21) → (hst : zAc oz = zFold (fun p q => zParts (zNote (mK S) (mF S) Wz (S 0) (S 1) o) (S 0 - (h + 1)).toNat (h + 1) (lf - p) (upI (mP S) h p) q) (zLst (S 0 - 1 - h) lf) (zAc ov) (p9 - zLst (S 0 - 1 - h) lf).toNat) → ∀ (M : xM) (H : Heap) (locs : List Loc), (hob : M (37) = .inr (12, [.ref (g.2.2 38), .ref (g.2.2 39), .ref (g.2.2 40), .ref (g.2.2 41), .ref (g.2.2 42), .ref (g.2.2 43), .ref (g.2.2 44), .ref (g.2.2 45), .ref (g.2.2 46), .ref (g.2.2 47), .int (iI (oz 10)), .int (iI (oz 11)), .int (iI (oz 12)), .int (iI (oz 13)), .int (iI (oz 14)), .int (iI (oz 15)), .ref (g.2.2 48), .int (iI (oz 17)), .int (iI (oz 18)), .int (iI (oz 19)), .int (iI (oz 20)), .int (iI (oz 21)), .ref (g.2.2 49), .int (iI (oz 23))])) → (hs0 : M (38) = .inl (g.2.1 0, 29, .inl (fun k => iI (T (k : Int))))) → (h49 : M (49) = .inl (g.2.1 0, 8, .inl (fun k => iI (Wz (k : Int))))) → (hfr : ∀ j, (j ≠ 37 ∧ j ≠ 38) → M j = σ.1 j) → xP g (M, σ.2) H → xD g A (M, σ.2) → va_S A s.heap H locs → ∀ (ls : Array Slot), lv_has ls 7 [(6, .int (iI (p9))), (5, .int (iI (1))), (4, .int (iI (((S (0)) - 1) - h))), (0, .ref (g.2.2 37)), (1, .int (iI (h))), (2, .int (iI (lf))), (3, .int (iI (o)))] → W p l e (headSpec wsX12_parts ({ frames := 13, cells := 0, slots := 0, locals := 416 })).room s m ([.ref (g.2.2 37), .int (iI (h)), .int (iI (lf)), .int (iI (o))] : List Value).toArray below meth c H locs 0 0 (MQ below (x_Qv g A (fun σ1 => σ1.2 = σ.2 ∧ (∀ j, j ≠ 37 ∧ j ≠ 38 → σ1.1 j = σ.1 j) ∧ ∃ ov2 T, MObj g σ1.1 ov2 ∧ MArr g σ1.1 38 29 T ∧ SmOk T ∧ zSam S T h ∧ zAc ov2 = zParts (zNote (mK S) (mF S) Wz (S 0) (S 1) o) (S 0 - h).toNat h lf (mP S) (zAc ov) ∧ zAccOk (zAc ov2) ∧ ov2 10 = ov 10)) ([.ref (g.2.2 37), .int (iI (h)), .int (iI (lf)), .int (iI (o))] : List Value).toArray s (0) (0) A) (F0 m 52 ls []) := by
        intro k
        induction k with
        | zero =>
          intros; exact absurd (by assumption) (Nat.not_lt_zero _)
        | succ k ih =>
          intro T oz p9 hmeas hTo hsm eT0 hAc h10 hp0 hp1 hp2 hst M H locs hob hs0 h49 hfr hP hD hS ls hl
          have ih_3 := ih
          refine lv_iload hx hb dX12_parts_52 (lv_at hl 0 rfl) ?_
          refine lv_iload_n hx hb dX12_parts_54 rfl (lv_at hl 5 rfl) ?_
          refine lv_iload hx hb dX12_parts_55 (lv_at hl 2 rfl) ?_
          refine x_isub hx hb dX12_parts_57 ?_
          refine x_icmp_gt (tgt := 87) hx hb (by omega) (by omega) dX12_parts_58 (by decide) (fun c_58 => ?_) (fun c_58 => ?_)
          · refine x_retQv hx hb hr ?_ hP hD hS dX12_parts_87 hlocks
            refine ⟨rfl, hfr, oz, T, hob, hs0, hTo, hsm, ?_, hAc, h10⟩
            rw [zParts_step _ _ _ _ (by omega), show (lf - (S 0 - 1 - h) + 1 - zLst (S 0 - 1 - h) lf).toNat = (p9 - zLst (S 0 - 1 - h) lf).toNat by omega]
            exact hst
          · refine lv_aload_n hx hb dX12_parts_61 rfl (lv_at hl 3 rfl) ?_
            refine lv_iload_n hx hb dX12_parts_62 rfl (lv_at hl 4 rfl) ?_
            refine x_iconst hx hb dX12_parts_63 ?_
            refine lv_iload hx hb dX12_parts_64 (lv_at hl 0 rfl) ?_
            refine x_cqv0 (va_runV (As := [.int (iI (h)), .int (iI (2)), .int (iI (p9))]) (rest := []) ⟨hx, hb, hml, hown, hts⟩ (c_X12_puts l g (M, σ.2) A (oz) T hob hs0 hTo.1 (h) (by omega) (2) (by omega) (p9) (by omega)) (cwV 3 hts gX12_parts_X12_puts rfl rfl rfl (by decide +kernel) ⟨Nat.le_of_ble_eq_true rfl, Nat.le_of_ble_eq_true rfl⟩) (x_preVQ hK hP hD hS hA (x_recv hK hP (i := 37) (by decide) hob rfl)) rfl rfl hl.1 rfl (lv_room (Nat.le_of_ble_eq_true rfl)) dX12_parts_66 ⟨by decide, by decide⟩) hS (fun σ1 H locs hpost hP hD hS => ?_)
            obtain ⟨M_4, p1⟩ := σ1
            obtain ⟨hp0, hfrc, hnew⟩ := hpost
            obtain rfl : p1 = σ.2 := hp0
            have hP : xP g (M_4, σ.2) H := hP
            have hD : xD g A (M_4, σ.2) := hD
            have hob : MObj g M_4 oz := (hfrc (37) (by omega)).trans hob
            have h49 := (hfrc (49) (by omega)).trans h49
            have hfr := x_frc (F := fun j => j ≠ 37 ∧ j ≠ 38) hfr hfrc (fun j h => by have h : j ≠ 37 ∧ j ≠ 38 := h; omega)
            obtain ⟨S_5, hS_5⟩ : ∃ q : Int → Int, q = upI T (2 + 3 * (h) + (2)) (p9) := ⟨_, rfl⟩
            have hs0 : MArr g M_4 38 29 S_5 := by rw [hS_5]; exact hnew
            have rS_5 : ∀ k, inR (S_5 k) := by rw [hS_5]; exact upI_rng hTo.1 ⟨by omega, by omega⟩
            have eU : S_5 = upI T (2 + 3 * h + 2) p9 := by (rw [hS_5])
            have oU : SmOk S_5 := by (rw [eU]; exact SmOk_purse hTo (by omega) (by omega))
            have eU0 : S_5 0 = S 0 := by (rw [eU, upI_n (by omega)]; exact eT0)
            refine lv_aload_n hx hb dX12_parts_69 rfl (lv_at hl 3 rfl) ?_
            refine lv_iload_n hx hb dX12_parts_70 rfl (lv_at hl 4 rfl) ?_
            refine x_iconst hx hb dX12_parts_71 ?_
            refine x_iadd hx hb dX12_parts_72 ?_
            refine lv_iload_n hx hb dX12_parts_73 rfl (lv_at hl 5 rfl) ?_
            refine lv_iload hx hb dX12_parts_74 (lv_at hl 0 rfl) ?_
            refine x_isub hx hb dX12_parts_76 ?_
            refine lv_iload_n hx hb dX12_parts_77 rfl (lv_at hl 6 rfl) ?_
            refine x_cqv0 (va_runV (As := [.int (iI (h + 1)), .int (iI (lf - p9)), .int (iI (o))]) (rest := []) ⟨hx, hb, hml, hown, hts⟩ (c_X12_parts3 l g (M_4, σ.2) A (oz) S_5 hob hs0 oU Wz h49 (fun i a b => hW i a (by omega)) (by omega) (h + 1) (by omega) (lf - p9) (by omega) (o) (by omega) hAc) (cwV 3 hts gX12_parts_X12_parts rfl rfl rfl (by decide +kernel) ⟨Nat.le_of_ble_eq_true rfl, Nat.le_of_ble_eq_true rfl⟩) (x_preVQ hK hP hD hS hA (x_recv hK hP (i := 37) (by decide) hob rfl)) rfl rfl hl.1 rfl (lv_room (Nat.le_of_ble_eq_true rfl)) dX12_parts_78 ⟨by decide, by decide⟩) hS (fun σ1 H locs hpost hP hD hS => ?_)
            obtain ⟨M_6, p1⟩ := σ1
            obtain ⟨hp0, hfrc, ov_7, T_8, hnew, hnew2, okT_8, smT_8, hacov_7, hokov_7, h10ov_7⟩ := hpost
            obtain rfl : p1 = σ.2 := hp0
            have hP : xP g (M_6, σ.2) H := hP
            have hD : xD g A (M_6, σ.2) := hD
            have h49 := (hfrc (49) (by omega)).trans h49
            have hfr := x_frc (F := fun j => j ≠ 37 ∧ j ≠ 38) hfr hfrc (fun j h => by have h : j ≠ 37 ∧ j ≠ 38 := h; omega)
            have hob : MObj g M_6 ov_7 := hnew
            have hs0 : MArr g M_6 38 29 T_8 := hnew2
            refine x_iinc (k0 := 0) (lv' := [(6, .int (iI (p9 + 1))), (5, .int (iI (1))), (4, .int (iI (((S (0)) - 1) - h))), (0, .ref (g.2.2 37)), (1, .int (iI (h))), (2, .int (iI (lf))), (3, .int (iI (o)))]) hx hb dX12_parts_81 hl rfl (by decide) rfl (fun ls hl => ?_)
            refine lv_goto (tgt := 52) hx hb dX12_parts_84 (by decide) ?_
            have hgo := zParts_go (W := Wz) (o := o) (lf := lf - p9) (p := p9) (q := zAc oz) hsm (by omega) (by omega)
            rw [← eU] at hgo
            exact ih_3 (T_8) (ov_7) (p9 + 1) (by omega) (by exact okT_8) (by exact zSam_back (by omega) hsm (eU ▸ smT_8)) (by exact (smT_8).1.trans eU0) (by exact hokov_7) (by exact h10ov_7.trans h10) (by omega) (by omega) (by omega) (by rw [zFold_succ _ _ hp0, ← hst, hacov_7]; exact hgo) (M_6) _ _ hob hs0 h49 hfr hP hD hS ls (lv_sub hl [0, 1, 2, 3, 4, 5, 6] rfl)
      exact hloop_52 ((((40 : Int) - ((1))).toNat) + 1) (S) (ov) ((1)) (by omega) (by exact hok) (by exact zSam_self) (by rfl) (by exact hAc) (by rfl) (by omega) (by omega) (by omega) (by rw [zFold_0 _ _ (by omega)]) (σ.1) _ _ hob hs0 h49 hfr hP hD hS ls (lv_sub hl [0, 1, 2, 3, 4, 5, 6] rfl)
    · refine lv_iload_n hx hb dX12_parts_37 rfl (lv_at hl 3 rfl) ?_
      refine x_if_le (tgt := 45) hx hb (by omega) dX12_parts_38 (by decide) (fun c_38 => ?_) (fun c_38 => ?_)
      · refine x_iconst hx hb dX12_parts_45 ?_
        have hls : zLst (S 0 - 1 - h) lf = (1) := by (unfold zLst; first | (rw [if_pos (by omega)]; done) | (rw [if_neg (by omega)]; done))
        refine lv_istore (lv' := [(5, .int (iI (1))), (4, .int (iI (((S (0)) - 1) - h))), (0, .ref (g.2.2 37)), (1, .int (iI (h))), (2, .int (iI (lf))), (3, .int (iI (o)))]) hx hb dX12_parts_46 hl (by decide) rfl (fun ls hl => ?_)
        refine lv_iload hx hb dX12_parts_48 (lv_at hl 0 rfl) ?_
        refine lv_istore (lv' := [(6, .int (iI (1))), (5, .int (iI (1))), (4, .int (iI (((S (0)) - 1) - h))), (0, .ref (g.2.2 37)), (1, .int (iI (h))), (2, .int (iI (lf))), (3, .int (iI (o)))]) hx hb dX12_parts_50 hl (by decide) rfl (fun ls hl => ?_)
        have hloop_52 : ∀ (k : Nat) (T : Int → Int) (oz : Nat → Int) (p9 : Int), ((40 : Int) - p9).toNat < k → (hTo : SmOk T) → (hsm : zSam S T h) → (eT0 : T 0 = S 0) → (hAc : zAccOk (zAc oz)) → (h10 : oz 10 = ov 10) → (hp0 : zLst (S 0 - 1 - h) lf ≤ p9) → (hp1 : p9 = zLst (S 0 - 1 - h) lf ∨ p9 ≤ lf - (S 0 - 1 - h) + 1) → (hp2 : 1 ≤ p9 ∧ p9 ≤ 21) → (hst : zAc oz = zFold (fun p q => zParts (zNote (mK S) (mF S) Wz (S 0) (S 1) o) (S 0 - (h + 1)).toNat (h + 1) (lf - p) (upI (mP S) h p) q) (zLst (S 0 - 1 - h) lf) (zAc ov) (p9 - zLst (S 0 - 1 - h) lf).toNat) → ∀ (M : xM) (H : Heap) (locs : List Loc), (hob : M (37) = .inr (12, [.ref (g.2.2 38), .ref (g.2.2 39), .ref (g.2.2 40), .ref (g.2.2 41), .ref (g.2.2 42), .ref (g.2.2 43), .ref (g.2.2 44), .ref (g.2.2 45), .ref (g.2.2 46), .ref (g.2.2 47), .int (iI (oz 10)), .int (iI (oz 11)), .int (iI (oz 12)), .int (iI (oz 13)), .int (iI (oz 14)), .int (iI (oz 15)), .ref (g.2.2 48), .int (iI (oz 17)), .int (iI (oz 18)), .int (iI (oz 19)), .int (iI (oz 20)), .int (iI (oz 21)), .ref (g.2.2 49), .int (iI (oz 23))])) → (hs0 : M (38) = .inl (g.2.1 0, 29, .inl (fun k => iI (T (k : Int))))) → (h49 : M (49) = .inl (g.2.1 0, 8, .inl (fun k => iI (Wz (k : Int))))) → (hfr : ∀ j, (j ≠ 37 ∧ j ≠ 38) → M j = σ.1 j) → xP g (M, σ.2) H → xD g A (M, σ.2) → va_S A s.heap H locs → ∀ (ls : Array Slot), lv_has ls 7 [(6, .int (iI (p9))), (5, .int (iI (1))), (4, .int (iI (((S (0)) - 1) - h))), (0, .ref (g.2.2 37)), (1, .int (iI (h))), (2, .int (iI (lf))), (3, .int (iI (o)))] → W p l e (headSpec wsX12_parts ({ frames := 13, cells := 0, slots := 0, locals := 416 })).room s m ([.ref (g.2.2 37), .int (iI (h)), .int (iI (lf)), .int (iI (o))] : List Value).toArray below meth c H locs 0 0 (MQ below (x_Qv g A (fun σ1 => σ1.2 = σ.2 ∧ (∀ j, j ≠ 37 ∧ j ≠ 38 → σ1.1 j = σ.1 j) ∧ ∃ ov2 T, MObj g σ1.1 ov2 ∧ MArr g σ1.1 38 29 T ∧ SmOk T ∧ zSam S T h ∧ zAc ov2 = zParts (zNote (mK S) (mF S) Wz (S 0) (S 1) o) (S 0 - h).toNat h lf (mP S) (zAc ov) ∧ zAccOk (zAc ov2) ∧ ov2 10 = ov 10)) ([.ref (g.2.2 37), .int (iI (h)), .int (iI (lf)), .int (iI (o))] : List Value).toArray s (0) (0) A) (F0 m 52 ls []) := by
          intro k
          induction k with
          | zero =>
            intros; exact absurd (by assumption) (Nat.not_lt_zero _)
          | succ k ih =>
            intro T oz p9 hmeas hTo hsm eT0 hAc h10 hp0 hp1 hp2 hst M H locs hob hs0 h49 hfr hP hD hS ls hl
            have ih_9 := ih
            refine lv_iload hx hb dX12_parts_52 (lv_at hl 0 rfl) ?_
            refine lv_iload_n hx hb dX12_parts_54 rfl (lv_at hl 5 rfl) ?_
            refine lv_iload hx hb dX12_parts_55 (lv_at hl 2 rfl) ?_
            refine x_isub hx hb dX12_parts_57 ?_
            refine x_icmp_gt (tgt := 87) hx hb (by omega) (by omega) dX12_parts_58 (by decide) (fun c_58 => ?_) (fun c_58 => ?_)
            · refine x_retQv hx hb hr ?_ hP hD hS dX12_parts_87 hlocks
              refine ⟨rfl, hfr, oz, T, hob, hs0, hTo, hsm, ?_, hAc, h10⟩
              rw [zParts_step _ _ _ _ (by omega), show (lf - (S 0 - 1 - h) + 1 - zLst (S 0 - 1 - h) lf).toNat = (p9 - zLst (S 0 - 1 - h) lf).toNat by omega]
              exact hst
            · refine lv_aload_n hx hb dX12_parts_61 rfl (lv_at hl 3 rfl) ?_
              refine lv_iload_n hx hb dX12_parts_62 rfl (lv_at hl 4 rfl) ?_
              refine x_iconst hx hb dX12_parts_63 ?_
              refine lv_iload hx hb dX12_parts_64 (lv_at hl 0 rfl) ?_
              refine x_cqv0 (va_runV (As := [.int (iI (h)), .int (iI (2)), .int (iI (p9))]) (rest := []) ⟨hx, hb, hml, hown, hts⟩ (c_X12_puts l g (M, σ.2) A (oz) T hob hs0 hTo.1 (h) (by omega) (2) (by omega) (p9) (by omega)) (cwV 3 hts gX12_parts_X12_puts rfl rfl rfl (by decide +kernel) ⟨Nat.le_of_ble_eq_true rfl, Nat.le_of_ble_eq_true rfl⟩) (x_preVQ hK hP hD hS hA (x_recv hK hP (i := 37) (by decide) hob rfl)) rfl rfl hl.1 rfl (lv_room (Nat.le_of_ble_eq_true rfl)) dX12_parts_66 ⟨by decide, by decide⟩) hS (fun σ1 H locs hpost hP hD hS => ?_)
              obtain ⟨M_10, p1⟩ := σ1
              obtain ⟨hp0, hfrc, hnew⟩ := hpost
              obtain rfl : p1 = σ.2 := hp0
              have hP : xP g (M_10, σ.2) H := hP
              have hD : xD g A (M_10, σ.2) := hD
              have hob : MObj g M_10 oz := (hfrc (37) (by omega)).trans hob
              have h49 := (hfrc (49) (by omega)).trans h49
              have hfr := x_frc (F := fun j => j ≠ 37 ∧ j ≠ 38) hfr hfrc (fun j h => by have h : j ≠ 37 ∧ j ≠ 38 := h; omega)
              obtain ⟨S_11, hS_11⟩ : ∃ q : Int → Int, q = upI T (2 + 3 * (h) + (2)) (p9) := ⟨_, rfl⟩
              have hs0 : MArr g M_10 38 29 S_11 := by rw [hS_11]; exact hnew
              have rS_11 : ∀ k, inR (S_11 k) := by rw [hS_11]; exact upI_rng hTo.1 ⟨by omega, by omega⟩
              have eU : S_11 = upI T (2 + 3 * h + 2) p9 := by (rw [hS_11])
              have oU : SmOk S_11 := by (rw [eU]; exact SmOk_purse hTo (by omega) (by omega))
              have eU0 : S_11 0 = S 0 := by (rw [eU, upI_n (by omega)]; exact eT0)
              refine lv_aload_n hx hb dX12_parts_69 rfl (lv_at hl 3 rfl) ?_
              refine lv_iload_n hx hb dX12_parts_70 rfl (lv_at hl 4 rfl) ?_
              refine x_iconst hx hb dX12_parts_71 ?_
              refine x_iadd hx hb dX12_parts_72 ?_
              refine lv_iload_n hx hb dX12_parts_73 rfl (lv_at hl 5 rfl) ?_
              refine lv_iload hx hb dX12_parts_74 (lv_at hl 0 rfl) ?_
              refine x_isub hx hb dX12_parts_76 ?_
              refine lv_iload_n hx hb dX12_parts_77 rfl (lv_at hl 6 rfl) ?_
              refine x_cqv0 (va_runV (As := [.int (iI (h + 1)), .int (iI (lf - p9)), .int (iI (o))]) (rest := []) ⟨hx, hb, hml, hown, hts⟩ (c_X12_parts3 l g (M_10, σ.2) A (oz) S_11 hob hs0 oU Wz h49 (fun i a b => hW i a (by omega)) (by omega) (h + 1) (by omega) (lf - p9) (by omega) (o) (by omega) hAc) (cwV 3 hts gX12_parts_X12_parts rfl rfl rfl (by decide +kernel) ⟨Nat.le_of_ble_eq_true rfl, Nat.le_of_ble_eq_true rfl⟩) (x_preVQ hK hP hD hS hA (x_recv hK hP (i := 37) (by decide) hob rfl)) rfl rfl hl.1 rfl (lv_room (Nat.le_of_ble_eq_true rfl)) dX12_parts_78 ⟨by decide, by decide⟩) hS (fun σ1 H locs hpost hP hD hS => ?_)
              obtain ⟨M_12, p1⟩ := σ1
              obtain ⟨hp0, hfrc, ov_13, T_14, hnew, hnew2, okT_14, smT_14, hacov_13, hokov_13, h10ov_13⟩ := hpost
              obtain rfl : p1 = σ.2 := hp0
              have hP : xP g (M_12, σ.2) H := hP
              have hD : xD g A (M_12, σ.2) := hD
              have h49 := (hfrc (49) (by omega)).trans h49
              have hfr := x_frc (F := fun j => j ≠ 37 ∧ j ≠ 38) hfr hfrc (fun j h => by have h : j ≠ 37 ∧ j ≠ 38 := h; omega)
              have hob : MObj g M_12 ov_13 := hnew
              have hs0 : MArr g M_12 38 29 T_14 := hnew2
              refine x_iinc (k0 := 0) (lv' := [(6, .int (iI (p9 + 1))), (5, .int (iI (1))), (4, .int (iI (((S (0)) - 1) - h))), (0, .ref (g.2.2 37)), (1, .int (iI (h))), (2, .int (iI (lf))), (3, .int (iI (o)))]) hx hb dX12_parts_81 hl rfl (by decide) rfl (fun ls hl => ?_)
              refine lv_goto (tgt := 52) hx hb dX12_parts_84 (by decide) ?_
              have hgo := zParts_go (W := Wz) (o := o) (lf := lf - p9) (p := p9) (q := zAc oz) hsm (by omega) (by omega)
              rw [← eU] at hgo
              exact ih_9 (T_14) (ov_13) (p9 + 1) (by omega) (by exact okT_14) (by exact zSam_back (by omega) hsm (eU ▸ smT_14)) (by exact (smT_14).1.trans eU0) (by exact hokov_13) (by exact h10ov_13.trans h10) (by omega) (by omega) (by omega) (by rw [zFold_succ _ _ hp0, ← hst, hacov_13]; exact hgo) (M_12) _ _ hob hs0 h49 hfr hP hD hS ls (lv_sub hl [0, 1, 2, 3, 4, 5, 6] rfl)
        exact hloop_52 ((((40 : Int) - ((1))).toNat) + 1) (S) (ov) ((1)) (by omega) (by exact hok) (by exact zSam_self) (by rfl) (by exact hAc) (by rfl) (by omega) (by omega) (by omega) (by rw [zFold_0 _ _ (by omega)]) (σ.1) _ _ hob hs0 h49 hfr hP hD hS ls (lv_sub hl [0, 1, 2, 3, 4, 5, 6] rfl)
      · refine lv_iload_n hx hb dX12_parts_41 rfl (lv_at hl 3 rfl) ?_
        refine lv_goto (tgt := 46) hx hb dX12_parts_42 (by decide) ?_
        have hls : zLst (S 0 - 1 - h) lf = (lf) := by (unfold zLst; first | (rw [if_pos (by omega)]; done) | (rw [if_neg (by omega)]; done))
        refine lv_istore (lv' := [(5, .int (iI (lf))), (4, .int (iI (((S (0)) - 1) - h))), (0, .ref (g.2.2 37)), (1, .int (iI (h))), (2, .int (iI (lf))), (3, .int (iI (o)))]) hx hb dX12_parts_46 hl (by decide) rfl (fun ls hl => ?_)
        refine lv_iload hx hb dX12_parts_48 (lv_at hl 0 rfl) ?_
        refine lv_istore (lv' := [(6, .int (iI (lf))), (5, .int (iI (lf))), (4, .int (iI (((S (0)) - 1) - h))), (0, .ref (g.2.2 37)), (1, .int (iI (h))), (2, .int (iI (lf))), (3, .int (iI (o)))]) hx hb dX12_parts_50 hl (by decide) rfl (fun ls hl => ?_)
        have hloop_52 : ∀ (k : Nat) (T : Int → Int) (oz : Nat → Int) (p9 : Int), ((40 : Int) - p9).toNat < k → (hTo : SmOk T) → (hsm : zSam S T h) → (eT0 : T 0 = S 0) → (hAc : zAccOk (zAc oz)) → (h10 : oz 10 = ov 10) → (hp0 : zLst (S 0 - 1 - h) lf ≤ p9) → (hp1 : p9 = zLst (S 0 - 1 - h) lf ∨ p9 ≤ lf - (S 0 - 1 - h) + 1) → (hp2 : 1 ≤ p9 ∧ p9 ≤ 21) → (hst : zAc oz = zFold (fun p q => zParts (zNote (mK S) (mF S) Wz (S 0) (S 1) o) (S 0 - (h + 1)).toNat (h + 1) (lf - p) (upI (mP S) h p) q) (zLst (S 0 - 1 - h) lf) (zAc ov) (p9 - zLst (S 0 - 1 - h) lf).toNat) → ∀ (M : xM) (H : Heap) (locs : List Loc), (hob : M (37) = .inr (12, [.ref (g.2.2 38), .ref (g.2.2 39), .ref (g.2.2 40), .ref (g.2.2 41), .ref (g.2.2 42), .ref (g.2.2 43), .ref (g.2.2 44), .ref (g.2.2 45), .ref (g.2.2 46), .ref (g.2.2 47), .int (iI (oz 10)), .int (iI (oz 11)), .int (iI (oz 12)), .int (iI (oz 13)), .int (iI (oz 14)), .int (iI (oz 15)), .ref (g.2.2 48), .int (iI (oz 17)), .int (iI (oz 18)), .int (iI (oz 19)), .int (iI (oz 20)), .int (iI (oz 21)), .ref (g.2.2 49), .int (iI (oz 23))])) → (hs0 : M (38) = .inl (g.2.1 0, 29, .inl (fun k => iI (T (k : Int))))) → (h49 : M (49) = .inl (g.2.1 0, 8, .inl (fun k => iI (Wz (k : Int))))) → (hfr : ∀ j, (j ≠ 37 ∧ j ≠ 38) → M j = σ.1 j) → xP g (M, σ.2) H → xD g A (M, σ.2) → va_S A s.heap H locs → ∀ (ls : Array Slot), lv_has ls 7 [(6, .int (iI (p9))), (5, .int (iI (lf))), (4, .int (iI (((S (0)) - 1) - h))), (0, .ref (g.2.2 37)), (1, .int (iI (h))), (2, .int (iI (lf))), (3, .int (iI (o)))] → W p l e (headSpec wsX12_parts ({ frames := 13, cells := 0, slots := 0, locals := 416 })).room s m ([.ref (g.2.2 37), .int (iI (h)), .int (iI (lf)), .int (iI (o))] : List Value).toArray below meth c H locs 0 0 (MQ below (x_Qv g A (fun σ1 => σ1.2 = σ.2 ∧ (∀ j, j ≠ 37 ∧ j ≠ 38 → σ1.1 j = σ.1 j) ∧ ∃ ov2 T, MObj g σ1.1 ov2 ∧ MArr g σ1.1 38 29 T ∧ SmOk T ∧ zSam S T h ∧ zAc ov2 = zParts (zNote (mK S) (mF S) Wz (S 0) (S 1) o) (S 0 - h).toNat h lf (mP S) (zAc ov) ∧ zAccOk (zAc ov2) ∧ ov2 10 = ov 10)) ([.ref (g.2.2 37), .int (iI (h)), .int (iI (lf)), .int (iI (o))] : List Value).toArray s (0) (0) A) (F0 m 52 ls []) := by
          intro k
          induction k with
          | zero =>
            intros; exact absurd (by assumption) (Nat.not_lt_zero _)
          | succ k ih =>
            intro T oz p9 hmeas hTo hsm eT0 hAc h10 hp0 hp1 hp2 hst M H locs hob hs0 h49 hfr hP hD hS ls hl
            have ih_15 := ih
            refine lv_iload hx hb dX12_parts_52 (lv_at hl 0 rfl) ?_
            refine lv_iload_n hx hb dX12_parts_54 rfl (lv_at hl 5 rfl) ?_
            refine lv_iload hx hb dX12_parts_55 (lv_at hl 2 rfl) ?_
            refine x_isub hx hb dX12_parts_57 ?_
            refine x_icmp_gt (tgt := 87) hx hb (by omega) (by omega) dX12_parts_58 (by decide) (fun c_58 => ?_) (fun c_58 => ?_)
            · refine x_retQv hx hb hr ?_ hP hD hS dX12_parts_87 hlocks
              refine ⟨rfl, hfr, oz, T, hob, hs0, hTo, hsm, ?_, hAc, h10⟩
              rw [zParts_step _ _ _ _ (by omega), show (lf - (S 0 - 1 - h) + 1 - zLst (S 0 - 1 - h) lf).toNat = (p9 - zLst (S 0 - 1 - h) lf).toNat by omega]
              exact hst
            · refine lv_aload_n hx hb dX12_parts_61 rfl (lv_at hl 3 rfl) ?_
              refine lv_iload_n hx hb dX12_parts_62 rfl (lv_at hl 4 rfl) ?_
              refine x_iconst hx hb dX12_parts_63 ?_
              refine lv_iload hx hb dX12_parts_64 (lv_at hl 0 rfl) ?_
              refine x_cqv0 (va_runV (As := [.int (iI (h)), .int (iI (2)), .int (iI (p9))]) (rest := []) ⟨hx, hb, hml, hown, hts⟩ (c_X12_puts l g (M, σ.2) A (oz) T hob hs0 hTo.1 (h) (by omega) (2) (by omega) (p9) (by omega)) (cwV 3 hts gX12_parts_X12_puts rfl rfl rfl (by decide +kernel) ⟨Nat.le_of_ble_eq_true rfl, Nat.le_of_ble_eq_true rfl⟩) (x_preVQ hK hP hD hS hA (x_recv hK hP (i := 37) (by decide) hob rfl)) rfl rfl hl.1 rfl (lv_room (Nat.le_of_ble_eq_true rfl)) dX12_parts_66 ⟨by decide, by decide⟩) hS (fun σ1 H locs hpost hP hD hS => ?_)
              obtain ⟨M_16, p1⟩ := σ1
              obtain ⟨hp0, hfrc, hnew⟩ := hpost
              obtain rfl : p1 = σ.2 := hp0
              have hP : xP g (M_16, σ.2) H := hP
              have hD : xD g A (M_16, σ.2) := hD
              have hob : MObj g M_16 oz := (hfrc (37) (by omega)).trans hob
              have h49 := (hfrc (49) (by omega)).trans h49
              have hfr := x_frc (F := fun j => j ≠ 37 ∧ j ≠ 38) hfr hfrc (fun j h => by have h : j ≠ 37 ∧ j ≠ 38 := h; omega)
              obtain ⟨S_17, hS_17⟩ : ∃ q : Int → Int, q = upI T (2 + 3 * (h) + (2)) (p9) := ⟨_, rfl⟩
              have hs0 : MArr g M_16 38 29 S_17 := by rw [hS_17]; exact hnew
              have rS_17 : ∀ k, inR (S_17 k) := by rw [hS_17]; exact upI_rng hTo.1 ⟨by omega, by omega⟩
              have eU : S_17 = upI T (2 + 3 * h + 2) p9 := by (rw [hS_17])
              have oU : SmOk S_17 := by (rw [eU]; exact SmOk_purse hTo (by omega) (by omega))
              have eU0 : S_17 0 = S 0 := by (rw [eU, upI_n (by omega)]; exact eT0)
              refine lv_aload_n hx hb dX12_parts_69 rfl (lv_at hl 3 rfl) ?_
              refine lv_iload_n hx hb dX12_parts_70 rfl (lv_at hl 4 rfl) ?_
              refine x_iconst hx hb dX12_parts_71 ?_
              refine x_iadd hx hb dX12_parts_72 ?_
              refine lv_iload_n hx hb dX12_parts_73 rfl (lv_at hl 5 rfl) ?_
              refine lv_iload hx hb dX12_parts_74 (lv_at hl 0 rfl) ?_
              refine x_isub hx hb dX12_parts_76 ?_
              refine lv_iload_n hx hb dX12_parts_77 rfl (lv_at hl 6 rfl) ?_
              refine x_cqv0 (va_runV (As := [.int (iI (h + 1)), .int (iI (lf - p9)), .int (iI (o))]) (rest := []) ⟨hx, hb, hml, hown, hts⟩ (c_X12_parts3 l g (M_16, σ.2) A (oz) S_17 hob hs0 oU Wz h49 (fun i a b => hW i a (by omega)) (by omega) (h + 1) (by omega) (lf - p9) (by omega) (o) (by omega) hAc) (cwV 3 hts gX12_parts_X12_parts rfl rfl rfl (by decide +kernel) ⟨Nat.le_of_ble_eq_true rfl, Nat.le_of_ble_eq_true rfl⟩) (x_preVQ hK hP hD hS hA (x_recv hK hP (i := 37) (by decide) hob rfl)) rfl rfl hl.1 rfl (lv_room (Nat.le_of_ble_eq_true rfl)) dX12_parts_78 ⟨by decide, by decide⟩) hS (fun σ1 H locs hpost hP hD hS => ?_)
              obtain ⟨M_18, p1⟩ := σ1
              obtain ⟨hp0, hfrc, ov_19, T_20, hnew, hnew2, okT_20, smT_20, hacov_19, hokov_19, h10ov_19⟩ := hpost
              obtain rfl : p1 = σ.2 := hp0
              have hP : xP g (M_18, σ.2) H := hP
              have hD : xD g A (M_18, σ.2) := hD
              have h49 := (hfrc (49) (by omega)).trans h49
              have hfr := x_frc (F := fun j => j ≠ 37 ∧ j ≠ 38) hfr hfrc (fun j h => by have h : j ≠ 37 ∧ j ≠ 38 := h; omega)
              have hob : MObj g M_18 ov_19 := hnew
              have hs0 : MArr g M_18 38 29 T_20 := hnew2
              refine x_iinc (k0 := 0) (lv' := [(6, .int (iI (p9 + 1))), (5, .int (iI (lf))), (4, .int (iI (((S (0)) - 1) - h))), (0, .ref (g.2.2 37)), (1, .int (iI (h))), (2, .int (iI (lf))), (3, .int (iI (o)))]) hx hb dX12_parts_81 hl rfl (by decide) rfl (fun ls hl => ?_)
              refine lv_goto (tgt := 52) hx hb dX12_parts_84 (by decide) ?_
              have hgo := zParts_go (W := Wz) (o := o) (lf := lf - p9) (p := p9) (q := zAc oz) hsm (by omega) (by omega)
              rw [← eU] at hgo
              exact ih_15 (T_20) (ov_19) (p9 + 1) (by omega) (by exact okT_20) (by exact zSam_back (by omega) hsm (eU ▸ smT_20)) (by exact (smT_20).1.trans eU0) (by exact hokov_19) (by exact h10ov_19.trans h10) (by omega) (by omega) (by omega) (by rw [zFold_succ _ _ hp0, ← hst, hacov_19]; exact hgo) (M_18) _ _ hob hs0 h49 hfr hP hD hS ls (lv_sub hl [0, 1, 2, 3, 4, 5, 6] rfl)
        exact hloop_52 ((((40 : Int) - ((lf))).toNat) + 1) (S) (ov) ((lf)) (by omega) (by exact hok) (by exact zSam_self) (by rfl) (by exact hAc) (by rfl) (by omega) (by omega) (by omega) (by rw [zFold_0 _ _ (by omega)]) (σ.1) _ _ hob hs0 h49 hfr hP hD hS ls (lv_sub hl [0, 1, 2, 3, 4, 5, 6] rfl)
  · refine lv_iload_n hx hb dX12_parts_10 rfl (lv_at hl 2 rfl) ?_
    refine x_if_ne (tgt := 19) hx hb (by omega) dX12_parts_11 (by decide) (fun c_11 => ?_) (fun c_11 => ?_)
    · refine x_retQv hx hb hr ?_ hP hD hS dX12_parts_19 hlocks
      refine ⟨rfl, hfr, ov, S, hob, hs0, hok, zSam_self, ?_, hAc, rfl⟩
      rw [zParts_end _ _ _ _ (by omega), if_neg (by omega)]
    · refine lv_aload_n hx hb dX12_parts_14 rfl (lv_at hl 0 rfl) ?_
      refine lv_iload_n hx hb dX12_parts_15 rfl (lv_at hl 3 rfl) ?_
      refine x_cqv0 (va_runV (As := [.int (iI (o))]) (rest := []) ⟨hx, hb, hml, hown, hts⟩ (c_X12_partsAre l g σ A (ov) S hob hs0 hok Wz h49 (fun i a b => hW i a (by omega)) (by omega) (o) (by omega) hAc) (cwV 1 hts gX12_parts_X12_partsAre rfl rfl rfl (by decide +kernel) ⟨Nat.le_of_ble_eq_true rfl, Nat.le_of_ble_eq_true rfl⟩) (x_preVQ hK hP hD hS hA (x_recv hK hP (i := 37) (by decide) hob rfl)) rfl rfl hl.1 rfl (lv_room (Nat.le_of_ble_eq_true rfl)) dX12_parts_16 ⟨by decide, by decide⟩) hS (fun σ1 H locs hpost hP hD hS => ?_)
      obtain ⟨M_21, p1⟩ := σ1
      obtain ⟨hp0, hfrc, ov_22, hnew, hacov_22, hokov_22, h10ov_22⟩ := hpost
      obtain rfl : p1 = σ.2 := hp0
      have hP : xP g (M_21, σ.2) H := hP
      have hD : xD g A (M_21, σ.2) := hD
      have hs0 := (hfrc (38) (by omega)).trans hs0
      have h49 := (hfrc (49) (by omega)).trans h49
      have hfr := x_frc (F := fun j => j ≠ 37 ∧ j ≠ 38) hfr hfrc (fun j h => by have h : j ≠ 37 ∧ j ≠ 38 := h; omega)
      have hob : MObj g M_21 ov_22 := hnew
      refine x_retQv hx hb hr ?_ hP hD hS dX12_parts_19 hlocks
      refine ⟨rfl, hfr, ov_22, S, hob, hs0, hok, zSam_self, ?_, hokov_22, h10ov_22⟩
      rw [zParts_end _ _ _ _ (by omega), if_pos (by omega)]
      exact hacov_22

set_option maxHeartbeats 4000000 in
set_option maxRecDepth 100000 in
theorem c_X12_parts5 (l : Launch) (g : xG) (σ : xS) (A : Nat → Prop) (ov : Nat → Int) (S : Int → Int) (hob : MObj g σ.1 ov) (hs0 : MArr g σ.1 38 29 S) (hok : SmOk S) (Wz : Int → Int) (h49 : MArr g σ.1 49 8 Wz) (hW : ∀ i, 0 ≤ i → i < S 0 → 0 ≤ Wz i ∧ Wz i ≤ 9999) (hn6 : S 0 ≤ 6) (h : Int) (hh : 0 ≤ h ∧ h ≤ S 0 ∧ S 0 - h ≤ 5) (lf : Int) (hlf : 0 ≤ lf ∧ lf ≤ 20) (o : Int) (ho : inR o) (hAc : zAccOk (zAc ov)) : Met l yX12_parts wsX12_parts ({ frames := 14, cells := 0, slots := 0, locals := 448 }) (va_Pc [.ref (g.2.2 37), .int (iI (h)), .int (iI (lf)), .int (iI (o))] (xPreQ g A σ)) (x_Qv g A (fun σ1 => σ1.2 = σ.2 ∧ (∀ j, j ≠ 37 ∧ j ≠ 38 → σ1.1 j = σ.1 j) ∧ ∃ ov2 T, MObj g σ1.1 ov2 ∧ MArr g σ1.1 38 29 T ∧ SmOk T ∧ zSam S T h ∧ zAc ov2 = zParts (zNote (mK S) (mF S) Wz (S 0) (S 1) o) (S 0 - h).toNat h lf (mP S) (zAc ov) ∧ zAccOk (zAc ov2) ∧ ov2 10 = ov 10)) (0) (0) A := by
  refine Met.ofW (cc := cX12_parts) (maxL := 7) (ret := none) (by decide) rfl ?_
  intro p e s m args below meth c s₁ B hml hv
  obtain ⟨rfl, hP, hK, hD, hA⟩ := hv
  have hx := B.exec
  have hb := B.bytes
  have hr := B.returns
  have hts := atoms_spec (ws := wsX12_parts) B.pre
  have hown : s.vm.findClass RX12 = some m.cls := findClass_of_methodNamed B.named
  have hlocks := B.notSynchronized
  have hS : va_S A s.heap s.heap [] := va_S.rf
  have hfr : ∀ j, (j ≠ 37 ∧ j ≠ 38) → σ.1 j = σ.1 j := fun _ _ => rfl
  have hl := lv_entry ([.ref (g.2.2 37), .int (iI (h)), .int (iI (lf)), .int (iI (o))]) (n := 7) (Nat.le_of_ble_eq_true rfl)
  rw [lg_entry_eq]
  generalize (lg_sl ([.ref (g.2.2 37), .int (iI (h)), .int (iI (lf)), .int (iI (o))]) ++ List.replicate (7 - (lg_sl ([.ref (g.2.2 37), .int (iI (h)), .int (iI (lf)), .int (iI (o))])).length) Slot.unset).toArray = ls at hl ⊢
  have hl : lv_has ls 7 [(0, .ref (g.2.2 37)), (1, .int (iI (h))), (2, .int (iI (lf))), (3, .int (iI (o)))] := hl
  have hn0 := hok.2.1
  have hrd0 := hok.2.2.1
  have hw_0 := hts (.fieldLink RX12 9 "TwiceAsRichModel" "s" "[I") (by decide +kernel)
  have hin_X12 : ∀ w ∈ wsX120, w ∈ wsX12_parts := by decide +kernel
  refine lv_iload_n hx hb dX12_parts_0 rfl (lv_at hl 1 rfl) ?_
  refine lv_aload_n hx hb dX12_parts_1 rfl (lv_at hl 0 rfl) ?_
  refine x_get (C := RX12) (T := TX12) (N := 24) hx hb hts hin_X12 hown hK hP (37) (by decide) hob rfl 0 (by decide) hw_0 (fun _ h9 => h9) rfl dX12_parts_2 ?_
  refine x_iconst hx hb dX12_parts_5 ?_
  refine x_iald (f := S) hx hb hK hP (38) (by decide) hs0 (by omega) (by omega) (by decide) dX12_parts_6 ?_
  have hb_1 := hok.1 (0)
  refine x_icmp_ne (tgt := 20) hx hb (by omega) (by omega) dX12_parts_7 (by decide) (fun c_7 => ?_) (fun c_7 => ?_)
  · refine lv_aload_n hx hb dX12_parts_20 rfl (lv_at hl 0 rfl) ?_
    refine x_get (C := RX12) (T := TX12) (N := 24) hx hb hts hin_X12 hown hK hP (37) (by decide) hob rfl 0 (by decide) hw_0 (fun _ h9 => h9) rfl dX12_parts_21 ?_
    refine x_iconst hx hb dX12_parts_24 ?_
    refine x_iald (f := S) hx hb hK hP (38) (by decide) hs0 (by omega) (by omega) (by decide) dX12_parts_25 ?_
    have hb_2 := hok.1 (0)
    refine x_iconst hx hb dX12_parts_26 ?_
    refine x_isub hx hb dX12_parts_27 ?_
    refine lv_iload_n hx hb dX12_parts_28 rfl (lv_at hl 1 rfl) ?_
    refine x_isub hx hb dX12_parts_29 ?_
    refine lv_istore (lv' := [(4, .int (iI (((S (0)) - 1) - h))), (0, .ref (g.2.2 37)), (1, .int (iI (h))), (2, .int (iI (lf))), (3, .int (iI (o)))]) hx hb dX12_parts_30 hl (by decide) rfl (fun ls hl => ?_)
    refine lv_iload hx hb dX12_parts_32 (lv_at hl 0 rfl) ?_
    refine x_if_ne (tgt := 45) hx hb (by omega) dX12_parts_34 (by decide) (fun c_34 => ?_) (fun c_34 => ?_)
    · refine x_iconst hx hb dX12_parts_45 ?_
      have hls : zLst (S 0 - 1 - h) lf = (1) := by (unfold zLst; first | (rw [if_pos (by omega)]; done) | (rw [if_neg (by omega)]; done))
      refine lv_istore (lv' := [(5, .int (iI (1))), (4, .int (iI (((S (0)) - 1) - h))), (0, .ref (g.2.2 37)), (1, .int (iI (h))), (2, .int (iI (lf))), (3, .int (iI (o)))]) hx hb dX12_parts_46 hl (by decide) rfl (fun ls hl => ?_)
      refine lv_iload hx hb dX12_parts_48 (lv_at hl 0 rfl) ?_
      refine lv_istore (lv' := [(6, .int (iI (1))), (5, .int (iI (1))), (4, .int (iI (((S (0)) - 1) - h))), (0, .ref (g.2.2 37)), (1, .int (iI (h))), (2, .int (iI (lf))), (3, .int (iI (o)))]) hx hb dX12_parts_50 hl (by decide) rfl (fun ls hl => ?_)
      have hloop_52 : ∀ (k : Nat) (T : Int → Int) (oz : Nat → Int) (p9 : Int), ((40 : Int) - p9).toNat < k → (hTo : SmOk T) → (hsm : zSam S T h) → (eT0 : T 0 = S 0) → (hAc : zAccOk (zAc oz)) → (h10 : oz 10 = ov 10) → (hp0 : zLst (S 0 - 1 - h) lf ≤ p9) → (hp1 : p9 = zLst (S 0 - 1 - h) lf ∨ p9 ≤ lf - (S 0 - 1 - h) + 1) → (hp2 : 1 ≤ p9 ∧ p9 ≤ 21) → (hst : zAc oz = zFold (fun p q => zParts (zNote (mK S) (mF S) Wz (S 0) (S 1) o) (S 0 - (h + 1)).toNat (h + 1) (lf - p) (upI (mP S) h p) q) (zLst (S 0 - 1 - h) lf) (zAc ov) (p9 - zLst (S 0 - 1 - h) lf).toNat) → ∀ (M : xM) (H : Heap) (locs : List Loc), (hob : M (37) = .inr (12, [.ref (g.2.2 38), .ref (g.2.2 39), .ref (g.2.2 40), .ref (g.2.2 41), .ref (g.2.2 42), .ref (g.2.2 43), .ref (g.2.2 44), .ref (g.2.2 45), .ref (g.2.2 46), .ref (g.2.2 47), .int (iI (oz 10)), .int (iI (oz 11)), .int (iI (oz 12)), .int (iI (oz 13)), .int (iI (oz 14)), .int (iI (oz 15)), .ref (g.2.2 48), .int (iI (oz 17)), .int (iI (oz 18)), .int (iI (oz 19)), .int (iI (oz 20)), .int (iI (oz 21)), .ref (g.2.2 49), .int (iI (oz 23))])) → (hs0 : M (38) = .inl (g.2.1 0, 29, .inl (fun k => iI (T (k : Int))))) → (h49 : M (49) = .inl (g.2.1 0, 8, .inl (fun k => iI (Wz (k : Int))))) → (hfr : ∀ j, (j ≠ 37 ∧ j ≠ 38) → M j = σ.1 j) → xP g (M, σ.2) H → xD g A (M, σ.2) → va_S A s.heap H locs → ∀ (ls : Array Slot), lv_has ls 7 [(6, .int (iI (p9))), (5, .int (iI (1))), (4, .int (iI (((S (0)) - 1) - h))), (0, .ref (g.2.2 37)), (1, .int (iI (h))), (2, .int (iI (lf))), (3, .int (iI (o)))] → W p l e (headSpec wsX12_parts ({ frames := 14, cells := 0, slots := 0, locals := 448 })).room s m ([.ref (g.2.2 37), .int (iI (h)), .int (iI (lf)), .int (iI (o))] : List Value).toArray below meth c H locs 0 0 (MQ below (x_Qv g A (fun σ1 => σ1.2 = σ.2 ∧ (∀ j, j ≠ 37 ∧ j ≠ 38 → σ1.1 j = σ.1 j) ∧ ∃ ov2 T, MObj g σ1.1 ov2 ∧ MArr g σ1.1 38 29 T ∧ SmOk T ∧ zSam S T h ∧ zAc ov2 = zParts (zNote (mK S) (mF S) Wz (S 0) (S 1) o) (S 0 - h).toNat h lf (mP S) (zAc ov) ∧ zAccOk (zAc ov2) ∧ ov2 10 = ov 10)) ([.ref (g.2.2 37), .int (iI (h)), .int (iI (lf)), .int (iI (o))] : List Value).toArray s (0) (0) A) (F0 m 52 ls []) := by
        intro k
        induction k with
        | zero =>
          intros; exact absurd (by assumption) (Nat.not_lt_zero _)
        | succ k ih =>
          intro T oz p9 hmeas hTo hsm eT0 hAc h10 hp0 hp1 hp2 hst M H locs hob hs0 h49 hfr hP hD hS ls hl
          have ih_3 := ih
          refine lv_iload hx hb dX12_parts_52 (lv_at hl 0 rfl) ?_
          refine lv_iload_n hx hb dX12_parts_54 rfl (lv_at hl 5 rfl) ?_
          refine lv_iload hx hb dX12_parts_55 (lv_at hl 2 rfl) ?_
          refine x_isub hx hb dX12_parts_57 ?_
          refine x_icmp_gt (tgt := 87) hx hb (by omega) (by omega) dX12_parts_58 (by decide) (fun c_58 => ?_) (fun c_58 => ?_)
          · refine x_retQv hx hb hr ?_ hP hD hS dX12_parts_87 hlocks
            refine ⟨rfl, hfr, oz, T, hob, hs0, hTo, hsm, ?_, hAc, h10⟩
            rw [zParts_step _ _ _ _ (by omega), show (lf - (S 0 - 1 - h) + 1 - zLst (S 0 - 1 - h) lf).toNat = (p9 - zLst (S 0 - 1 - h) lf).toNat by omega]
            exact hst
          · refine lv_aload_n hx hb dX12_parts_61 rfl (lv_at hl 3 rfl) ?_
            refine lv_iload_n hx hb dX12_parts_62 rfl (lv_at hl 4 rfl) ?_
            refine x_iconst hx hb dX12_parts_63 ?_
            refine lv_iload hx hb dX12_parts_64 (lv_at hl 0 rfl) ?_
            refine x_cqv0 (va_runV (As := [.int (iI (h)), .int (iI (2)), .int (iI (p9))]) (rest := []) ⟨hx, hb, hml, hown, hts⟩ (c_X12_puts l g (M, σ.2) A (oz) T hob hs0 hTo.1 (h) (by omega) (2) (by omega) (p9) (by omega)) (cwV 3 hts gX12_parts_X12_puts rfl rfl rfl (by decide +kernel) ⟨Nat.le_of_ble_eq_true rfl, Nat.le_of_ble_eq_true rfl⟩) (x_preVQ hK hP hD hS hA (x_recv hK hP (i := 37) (by decide) hob rfl)) rfl rfl hl.1 rfl (lv_room (Nat.le_of_ble_eq_true rfl)) dX12_parts_66 ⟨by decide, by decide⟩) hS (fun σ1 H locs hpost hP hD hS => ?_)
            obtain ⟨M_4, p1⟩ := σ1
            obtain ⟨hp0, hfrc, hnew⟩ := hpost
            obtain rfl : p1 = σ.2 := hp0
            have hP : xP g (M_4, σ.2) H := hP
            have hD : xD g A (M_4, σ.2) := hD
            have hob : MObj g M_4 oz := (hfrc (37) (by omega)).trans hob
            have h49 := (hfrc (49) (by omega)).trans h49
            have hfr := x_frc (F := fun j => j ≠ 37 ∧ j ≠ 38) hfr hfrc (fun j h => by have h : j ≠ 37 ∧ j ≠ 38 := h; omega)
            obtain ⟨S_5, hS_5⟩ : ∃ q : Int → Int, q = upI T (2 + 3 * (h) + (2)) (p9) := ⟨_, rfl⟩
            have hs0 : MArr g M_4 38 29 S_5 := by rw [hS_5]; exact hnew
            have rS_5 : ∀ k, inR (S_5 k) := by rw [hS_5]; exact upI_rng hTo.1 ⟨by omega, by omega⟩
            have eU : S_5 = upI T (2 + 3 * h + 2) p9 := by (rw [hS_5])
            have oU : SmOk S_5 := by (rw [eU]; exact SmOk_purse hTo (by omega) (by omega))
            have eU0 : S_5 0 = S 0 := by (rw [eU, upI_n (by omega)]; exact eT0)
            refine lv_aload_n hx hb dX12_parts_69 rfl (lv_at hl 3 rfl) ?_
            refine lv_iload_n hx hb dX12_parts_70 rfl (lv_at hl 4 rfl) ?_
            refine x_iconst hx hb dX12_parts_71 ?_
            refine x_iadd hx hb dX12_parts_72 ?_
            refine lv_iload_n hx hb dX12_parts_73 rfl (lv_at hl 5 rfl) ?_
            refine lv_iload hx hb dX12_parts_74 (lv_at hl 0 rfl) ?_
            refine x_isub hx hb dX12_parts_76 ?_
            refine lv_iload_n hx hb dX12_parts_77 rfl (lv_at hl 6 rfl) ?_
            refine x_cqv0 (va_runV (As := [.int (iI (h + 1)), .int (iI (lf - p9)), .int (iI (o))]) (rest := []) ⟨hx, hb, hml, hown, hts⟩ (c_X12_parts4 l g (M_4, σ.2) A (oz) S_5 hob hs0 oU Wz h49 (fun i a b => hW i a (by omega)) (by omega) (h + 1) (by omega) (lf - p9) (by omega) (o) (by omega) hAc) (cwV 3 hts gX12_parts_X12_parts rfl rfl rfl (by decide +kernel) ⟨Nat.le_of_ble_eq_true rfl, Nat.le_of_ble_eq_true rfl⟩) (x_preVQ hK hP hD hS hA (x_recv hK hP (i := 37) (by decide) hob rfl)) rfl rfl hl.1 rfl (lv_room (Nat.le_of_ble_eq_true rfl)) dX12_parts_78 ⟨by decide, by decide⟩) hS (fun σ1 H locs hpost hP hD hS => ?_)
            obtain ⟨M_6, p1⟩ := σ1
            obtain ⟨hp0, hfrc, ov_7, T_8, hnew, hnew2, okT_8, smT_8, hacov_7, hokov_7, h10ov_7⟩ := hpost
            obtain rfl : p1 = σ.2 := hp0
            have hP : xP g (M_6, σ.2) H := hP
            have hD : xD g A (M_6, σ.2) := hD
            have h49 := (hfrc (49) (by omega)).trans h49
            have hfr := x_frc (F := fun j => j ≠ 37 ∧ j ≠ 38) hfr hfrc (fun j h => by have h : j ≠ 37 ∧ j ≠ 38 := h; omega)
            have hob : MObj g M_6 ov_7 := hnew
            have hs0 : MArr g M_6 38 29 T_8 := hnew2
            refine x_iinc (k0 := 0) (lv' := [(6, .int (iI (p9 + 1))), (5, .int (iI (1))), (4, .int (iI (((S (0)) - 1) - h))), (0, .ref (g.2.2 37)), (1, .int (iI (h))), (2, .int (iI (lf))), (3, .int (iI (o)))]) hx hb dX12_parts_81 hl rfl (by decide) rfl (fun ls hl => ?_)
            refine lv_goto (tgt := 52) hx hb dX12_parts_84 (by decide) ?_
            have hgo := zParts_go (W := Wz) (o := o) (lf := lf - p9) (p := p9) (q := zAc oz) hsm (by omega) (by omega)
            rw [← eU] at hgo
            exact ih_3 (T_8) (ov_7) (p9 + 1) (by omega) (by exact okT_8) (by exact zSam_back (by omega) hsm (eU ▸ smT_8)) (by exact (smT_8).1.trans eU0) (by exact hokov_7) (by exact h10ov_7.trans h10) (by omega) (by omega) (by omega) (by rw [zFold_succ _ _ hp0, ← hst, hacov_7]; exact hgo) (M_6) _ _ hob hs0 h49 hfr hP hD hS ls (lv_sub hl [0, 1, 2, 3, 4, 5, 6] rfl)
      exact hloop_52 ((((40 : Int) - ((1))).toNat) + 1) (S) (ov) ((1)) (by omega) (by exact hok) (by exact zSam_self) (by rfl) (by exact hAc) (by rfl) (by omega) (by omega) (by omega) (by rw [zFold_0 _ _ (by omega)]) (σ.1) _ _ hob hs0 h49 hfr hP hD hS ls (lv_sub hl [0, 1, 2, 3, 4, 5, 6] rfl)
    · refine lv_iload_n hx hb dX12_parts_37 rfl (lv_at hl 3 rfl) ?_
      refine x_if_le (tgt := 45) hx hb (by omega) dX12_parts_38 (by decide) (fun c_38 => ?_) (fun c_38 => ?_)
      · refine x_iconst hx hb dX12_parts_45 ?_
        have hls : zLst (S 0 - 1 - h) lf = (1) := by (unfold zLst; first | (rw [if_pos (by omega)]; done) | (rw [if_neg (by omega)]; done))
        refine lv_istore (lv' := [(5, .int (iI (1))), (4, .int (iI (((S (0)) - 1) - h))), (0, .ref (g.2.2 37)), (1, .int (iI (h))), (2, .int (iI (lf))), (3, .int (iI (o)))]) hx hb dX12_parts_46 hl (by decide) rfl (fun ls hl => ?_)
        refine lv_iload hx hb dX12_parts_48 (lv_at hl 0 rfl) ?_
        refine lv_istore (lv' := [(6, .int (iI (1))), (5, .int (iI (1))), (4, .int (iI (((S (0)) - 1) - h))), (0, .ref (g.2.2 37)), (1, .int (iI (h))), (2, .int (iI (lf))), (3, .int (iI (o)))]) hx hb dX12_parts_50 hl (by decide) rfl (fun ls hl => ?_)
        have hloop_52 : ∀ (k : Nat) (T : Int → Int) (oz : Nat → Int) (p9 : Int), ((40 : Int) - p9).toNat < k → (hTo : SmOk T) → (hsm : zSam S T h) → (eT0 : T 0 = S 0) → (hAc : zAccOk (zAc oz)) → (h10 : oz 10 = ov 10) → (hp0 : zLst (S 0 - 1 - h) lf ≤ p9) → (hp1 : p9 = zLst (S 0 - 1 - h) lf ∨ p9 ≤ lf - (S 0 - 1 - h) + 1) → (hp2 : 1 ≤ p9 ∧ p9 ≤ 21) → (hst : zAc oz = zFold (fun p q => zParts (zNote (mK S) (mF S) Wz (S 0) (S 1) o) (S 0 - (h + 1)).toNat (h + 1) (lf - p) (upI (mP S) h p) q) (zLst (S 0 - 1 - h) lf) (zAc ov) (p9 - zLst (S 0 - 1 - h) lf).toNat) → ∀ (M : xM) (H : Heap) (locs : List Loc), (hob : M (37) = .inr (12, [.ref (g.2.2 38), .ref (g.2.2 39), .ref (g.2.2 40), .ref (g.2.2 41), .ref (g.2.2 42), .ref (g.2.2 43), .ref (g.2.2 44), .ref (g.2.2 45), .ref (g.2.2 46), .ref (g.2.2 47), .int (iI (oz 10)), .int (iI (oz 11)), .int (iI (oz 12)), .int (iI (oz 13)), .int (iI (oz 14)), .int (iI (oz 15)), .ref (g.2.2 48), .int (iI (oz 17)), .int (iI (oz 18)), .int (iI (oz 19)), .int (iI (oz 20)), .int (iI (oz 21)), .ref (g.2.2 49), .int (iI (oz 23))])) → (hs0 : M (38) = .inl (g.2.1 0, 29, .inl (fun k => iI (T (k : Int))))) → (h49 : M (49) = .inl (g.2.1 0, 8, .inl (fun k => iI (Wz (k : Int))))) → (hfr : ∀ j, (j ≠ 37 ∧ j ≠ 38) → M j = σ.1 j) → xP g (M, σ.2) H → xD g A (M, σ.2) → va_S A s.heap H locs → ∀ (ls : Array Slot), lv_has ls 7 [(6, .int (iI (p9))), (5, .int (iI (1))), (4, .int (iI (((S (0)) - 1) - h))), (0, .ref (g.2.2 37)), (1, .int (iI (h))), (2, .int (iI (lf))), (3, .int (iI (o)))] → W p l e (headSpec wsX12_parts ({ frames := 14, cells := 0, slots := 0, locals := 448 })).room s m ([.ref (g.2.2 37), .int (iI (h)), .int (iI (lf)), .int (iI (o))] : List Value).toArray below meth c H locs 0 0 (MQ below (x_Qv g A (fun σ1 => σ1.2 = σ.2 ∧ (∀ j, j ≠ 37 ∧ j ≠ 38 → σ1.1 j = σ.1 j) ∧ ∃ ov2 T, MObj g σ1.1 ov2 ∧ MArr g σ1.1 38 29 T ∧ SmOk T ∧ zSam S T h ∧ zAc ov2 = zParts (zNote (mK S) (mF S) Wz (S 0) (S 1) o) (S 0 - h).toNat h lf (mP S) (zAc ov) ∧ zAccOk (zAc ov2) ∧ ov2 10 = ov 10)) ([.ref (g.2.2 37), .int (iI (h)), .int (iI (lf)), .int (iI (o))] : List Value).toArray s (0) (0) A) (F0 m 52 ls []) := by
          intro k
          induction k with
          | zero =>
            intros; exact absurd (by assumption) (Nat.not_lt_zero _)
          | succ k ih =>
            intro T oz p9 hmeas hTo hsm eT0 hAc h10 hp0 hp1 hp2 hst M H locs hob hs0 h49 hfr hP hD hS ls hl
            have ih_9 := ih
            refine lv_iload hx hb dX12_parts_52 (lv_at hl 0 rfl) ?_
            refine lv_iload_n hx hb dX12_parts_54 rfl (lv_at hl 5 rfl) ?_
            refine lv_iload hx hb dX12_parts_55 (lv_at hl 2 rfl) ?_
            refine x_isub hx hb dX12_parts_57 ?_
            refine x_icmp_gt (tgt := 87) hx hb (by omega) (by omega) dX12_parts_58 (by decide) (fun c_58 => ?_) (fun c_58 => ?_)
            · refine x_retQv hx hb hr ?_ hP hD hS dX12_parts_87 hlocks
              refine ⟨rfl, hfr, oz, T, hob, hs0, hTo, hsm, ?_, hAc, h10⟩
              rw [zParts_step _ _ _ _ (by omega), show (lf - (S 0 - 1 - h) + 1 - zLst (S 0 - 1 - h) lf).toNat = (p9 - zLst (S 0 - 1 - h) lf).toNat by omega]
              exact hst
            · refine lv_aload_n hx hb dX12_parts_61 rfl (lv_at hl 3 rfl) ?_
              refine lv_iload_n hx hb dX12_parts_62 rfl (lv_at hl 4 rfl) ?_
              refine x_iconst hx hb dX12_parts_63 ?_
              refine lv_iload hx hb dX12_parts_64 (lv_at hl 0 rfl) ?_
              refine x_cqv0 (va_runV (As := [.int (iI (h)), .int (iI (2)), .int (iI (p9))]) (rest := []) ⟨hx, hb, hml, hown, hts⟩ (c_X12_puts l g (M, σ.2) A (oz) T hob hs0 hTo.1 (h) (by omega) (2) (by omega) (p9) (by omega)) (cwV 3 hts gX12_parts_X12_puts rfl rfl rfl (by decide +kernel) ⟨Nat.le_of_ble_eq_true rfl, Nat.le_of_ble_eq_true rfl⟩) (x_preVQ hK hP hD hS hA (x_recv hK hP (i := 37) (by decide) hob rfl)) rfl rfl hl.1 rfl (lv_room (Nat.le_of_ble_eq_true rfl)) dX12_parts_66 ⟨by decide, by decide⟩) hS (fun σ1 H locs hpost hP hD hS => ?_)
              obtain ⟨M_10, p1⟩ := σ1
              obtain ⟨hp0, hfrc, hnew⟩ := hpost
              obtain rfl : p1 = σ.2 := hp0
              have hP : xP g (M_10, σ.2) H := hP
              have hD : xD g A (M_10, σ.2) := hD
              have hob : MObj g M_10 oz := (hfrc (37) (by omega)).trans hob
              have h49 := (hfrc (49) (by omega)).trans h49
              have hfr := x_frc (F := fun j => j ≠ 37 ∧ j ≠ 38) hfr hfrc (fun j h => by have h : j ≠ 37 ∧ j ≠ 38 := h; omega)
              obtain ⟨S_11, hS_11⟩ : ∃ q : Int → Int, q = upI T (2 + 3 * (h) + (2)) (p9) := ⟨_, rfl⟩
              have hs0 : MArr g M_10 38 29 S_11 := by rw [hS_11]; exact hnew
              have rS_11 : ∀ k, inR (S_11 k) := by rw [hS_11]; exact upI_rng hTo.1 ⟨by omega, by omega⟩
              have eU : S_11 = upI T (2 + 3 * h + 2) p9 := by (rw [hS_11])
              have oU : SmOk S_11 := by (rw [eU]; exact SmOk_purse hTo (by omega) (by omega))
              have eU0 : S_11 0 = S 0 := by (rw [eU, upI_n (by omega)]; exact eT0)
              refine lv_aload_n hx hb dX12_parts_69 rfl (lv_at hl 3 rfl) ?_
              refine lv_iload_n hx hb dX12_parts_70 rfl (lv_at hl 4 rfl) ?_
              refine x_iconst hx hb dX12_parts_71 ?_
              refine x_iadd hx hb dX12_parts_72 ?_
              refine lv_iload_n hx hb dX12_parts_73 rfl (lv_at hl 5 rfl) ?_
              refine lv_iload hx hb dX12_parts_74 (lv_at hl 0 rfl) ?_
              refine x_isub hx hb dX12_parts_76 ?_
              refine lv_iload_n hx hb dX12_parts_77 rfl (lv_at hl 6 rfl) ?_
              refine x_cqv0 (va_runV (As := [.int (iI (h + 1)), .int (iI (lf - p9)), .int (iI (o))]) (rest := []) ⟨hx, hb, hml, hown, hts⟩ (c_X12_parts4 l g (M_10, σ.2) A (oz) S_11 hob hs0 oU Wz h49 (fun i a b => hW i a (by omega)) (by omega) (h + 1) (by omega) (lf - p9) (by omega) (o) (by omega) hAc) (cwV 3 hts gX12_parts_X12_parts rfl rfl rfl (by decide +kernel) ⟨Nat.le_of_ble_eq_true rfl, Nat.le_of_ble_eq_true rfl⟩) (x_preVQ hK hP hD hS hA (x_recv hK hP (i := 37) (by decide) hob rfl)) rfl rfl hl.1 rfl (lv_room (Nat.le_of_ble_eq_true rfl)) dX12_parts_78 ⟨by decide, by decide⟩) hS (fun σ1 H locs hpost hP hD hS => ?_)
              obtain ⟨M_12, p1⟩ := σ1
              obtain ⟨hp0, hfrc, ov_13, T_14, hnew, hnew2, okT_14, smT_14, hacov_13, hokov_13, h10ov_13⟩ := hpost
              obtain rfl : p1 = σ.2 := hp0
              have hP : xP g (M_12, σ.2) H := hP
              have hD : xD g A (M_12, σ.2) := hD
              have h49 := (hfrc (49) (by omega)).trans h49
              have hfr := x_frc (F := fun j => j ≠ 37 ∧ j ≠ 38) hfr hfrc (fun j h => by have h : j ≠ 37 ∧ j ≠ 38 := h; omega)
              have hob : MObj g M_12 ov_13 := hnew
              have hs0 : MArr g M_12 38 29 T_14 := hnew2
              refine x_iinc (k0 := 0) (lv' := [(6, .int (iI (p9 + 1))), (5, .int (iI (1))), (4, .int (iI (((S (0)) - 1) - h))), (0, .ref (g.2.2 37)), (1, .int (iI (h))), (2, .int (iI (lf))), (3, .int (iI (o)))]) hx hb dX12_parts_81 hl rfl (by decide) rfl (fun ls hl => ?_)
              refine lv_goto (tgt := 52) hx hb dX12_parts_84 (by decide) ?_
              have hgo := zParts_go (W := Wz) (o := o) (lf := lf - p9) (p := p9) (q := zAc oz) hsm (by omega) (by omega)
              rw [← eU] at hgo
              exact ih_9 (T_14) (ov_13) (p9 + 1) (by omega) (by exact okT_14) (by exact zSam_back (by omega) hsm (eU ▸ smT_14)) (by exact (smT_14).1.trans eU0) (by exact hokov_13) (by exact h10ov_13.trans h10) (by omega) (by omega) (by omega) (by rw [zFold_succ _ _ hp0, ← hst, hacov_13]; exact hgo) (M_12) _ _ hob hs0 h49 hfr hP hD hS ls (lv_sub hl [0, 1, 2, 3, 4, 5, 6] rfl)
        exact hloop_52 ((((40 : Int) - ((1))).toNat) + 1) (S) (ov) ((1)) (by omega) (by exact hok) (by exact zSam_self) (by rfl) (by exact hAc) (by rfl) (by omega) (by omega) (by omega) (by rw [zFold_0 _ _ (by omega)]) (σ.1) _ _ hob hs0 h49 hfr hP hD hS ls (lv_sub hl [0, 1, 2, 3, 4, 5, 6] rfl)
      · refine lv_iload_n hx hb dX12_parts_41 rfl (lv_at hl 3 rfl) ?_
        refine lv_goto (tgt := 46) hx hb dX12_parts_42 (by decide) ?_
        have hls : zLst (S 0 - 1 - h) lf = (lf) := by (unfold zLst; first | (rw [if_pos (by omega)]; done) | (rw [if_neg (by omega)]; done))
        refine lv_istore (lv' := [(5, .int (iI (lf))), (4, .int (iI (((S (0)) - 1) - h))), (0, .ref (g.2.2 37)), (1, .int (iI (h))), (2, .int (iI (lf))), (3, .int (iI (o)))]) hx hb dX12_parts_46 hl (by decide) rfl (fun ls hl => ?_)
        refine lv_iload hx hb dX12_parts_48 (lv_at hl 0 rfl) ?_
        refine lv_istore (lv' := [(6, .int (iI (lf))), (5, .int (iI (lf))), (4, .int (iI (((S (0)) - 1) - h))), (0, .ref (g.2.2 37)), (1, .int (iI (h))), (2, .int (iI (lf))), (3, .int (iI (o)))]) hx hb dX12_parts_50 hl (by decide) rfl (fun ls hl => ?_)
        have hloop_52 : ∀ (k : Nat) (T : Int → Int) (oz : Nat → Int) (p9 : Int), ((40 : Int) - p9).toNat < k → (hTo : SmOk T) → (hsm : zSam S T h) → (eT0 : T 0 = S 0) → (hAc : zAccOk (zAc oz)) → (h10 : oz 10 = ov 10) → (hp0 : zLst (S 0 - 1 - h) lf ≤ p9) → (hp1 : p9 = zLst (S 0 - 1 - h) lf ∨ p9 ≤ lf - (S 0 - 1 - h) + 1) → (hp2 : 1 ≤ p9 ∧ p9 ≤ 21) → (hst : zAc oz = zFold (fun p q => zParts (zNote (mK S) (mF S) Wz (S 0) (S 1) o) (S 0 - (h + 1)).toNat (h + 1) (lf - p) (upI (mP S) h p) q) (zLst (S 0 - 1 - h) lf) (zAc ov) (p9 - zLst (S 0 - 1 - h) lf).toNat) → ∀ (M : xM) (H : Heap) (locs : List Loc), (hob : M (37) = .inr (12, [.ref (g.2.2 38), .ref (g.2.2 39), .ref (g.2.2 40), .ref (g.2.2 41), .ref (g.2.2 42), .ref (g.2.2 43), .ref (g.2.2 44), .ref (g.2.2 45), .ref (g.2.2 46), .ref (g.2.2 47), .int (iI (oz 10)), .int (iI (oz 11)), .int (iI (oz 12)), .int (iI (oz 13)), .int (iI (oz 14)), .int (iI (oz 15)), .ref (g.2.2 48), .int (iI (oz 17)), .int (iI (oz 18)), .int (iI (oz 19)), .int (iI (oz 20)), .int (iI (oz 21)), .ref (g.2.2 49), .int (iI (oz 23))])) → (hs0 : M (38) = .inl (g.2.1 0, 29, .inl (fun k => iI (T (k : Int))))) → (h49 : M (49) = .inl (g.2.1 0, 8, .inl (fun k => iI (Wz (k : Int))))) → (hfr : ∀ j, (j ≠ 37 ∧ j ≠ 38) → M j = σ.1 j) → xP g (M, σ.2) H → xD g A (M, σ.2) → va_S A s.heap H locs → ∀ (ls : Array Slot), lv_has ls 7 [(6, .int (iI (p9))), (5, .int (iI (lf))), (4, .int (iI (((S (0)) - 1) - h))), (0, .ref (g.2.2 37)), (1, .int (iI (h))), (2, .int (iI (lf))), (3, .int (iI (o)))] → W p l e (headSpec wsX12_parts ({ frames := 14, cells := 0, slots := 0, locals := 448 })).room s m ([.ref (g.2.2 37), .int (iI (h)), .int (iI (lf)), .int (iI (o))] : List Value).toArray below meth c H locs 0 0 (MQ below (x_Qv g A (fun σ1 => σ1.2 = σ.2 ∧ (∀ j, j ≠ 37 ∧ j ≠ 38 → σ1.1 j = σ.1 j) ∧ ∃ ov2 T, MObj g σ1.1 ov2 ∧ MArr g σ1.1 38 29 T ∧ SmOk T ∧ zSam S T h ∧ zAc ov2 = zParts (zNote (mK S) (mF S) Wz (S 0) (S 1) o) (S 0 - h).toNat h lf (mP S) (zAc ov) ∧ zAccOk (zAc ov2) ∧ ov2 10 = ov 10)) ([.ref (g.2.2 37), .int (iI (h)), .int (iI (lf)), .int (iI (o))] : List Value).toArray s (0) (0) A) (F0 m 52 ls []) := by
          intro k
          induction k with
          | zero =>
            intros; exact absurd (by assumption) (Nat.not_lt_zero _)
          | succ k ih =>
            intro T oz p9 hmeas hTo hsm eT0 hAc h10 hp0 hp1 hp2 hst M H locs hob hs0 h49 hfr hP hD hS ls hl
            have ih_15 := ih
            refine lv_iload hx hb dX12_parts_52 (lv_at hl 0 rfl) ?_
            refine lv_iload_n hx hb dX12_parts_54 rfl (lv_at hl 5 rfl) ?_
            refine lv_iload hx hb dX12_parts_55 (lv_at hl 2 rfl) ?_
            refine x_isub hx hb dX12_parts_57 ?_
            refine x_icmp_gt (tgt := 87) hx hb (by omega) (by omega) dX12_parts_58 (by decide) (fun c_58 => ?_) (fun c_58 => ?_)
            · refine x_retQv hx hb hr ?_ hP hD hS dX12_parts_87 hlocks
              refine ⟨rfl, hfr, oz, T, hob, hs0, hTo, hsm, ?_, hAc, h10⟩
              rw [zParts_step _ _ _ _ (by omega), show (lf - (S 0 - 1 - h) + 1 - zLst (S 0 - 1 - h) lf).toNat = (p9 - zLst (S 0 - 1 - h) lf).toNat by omega]
              exact hst
            · refine lv_aload_n hx hb dX12_parts_61 rfl (lv_at hl 3 rfl) ?_
              refine lv_iload_n hx hb dX12_parts_62 rfl (lv_at hl 4 rfl) ?_
              refine x_iconst hx hb dX12_parts_63 ?_
              refine lv_iload hx hb dX12_parts_64 (lv_at hl 0 rfl) ?_
              refine x_cqv0 (va_runV (As := [.int (iI (h)), .int (iI (2)), .int (iI (p9))]) (rest := []) ⟨hx, hb, hml, hown, hts⟩ (c_X12_puts l g (M, σ.2) A (oz) T hob hs0 hTo.1 (h) (by omega) (2) (by omega) (p9) (by omega)) (cwV 3 hts gX12_parts_X12_puts rfl rfl rfl (by decide +kernel) ⟨Nat.le_of_ble_eq_true rfl, Nat.le_of_ble_eq_true rfl⟩) (x_preVQ hK hP hD hS hA (x_recv hK hP (i := 37) (by decide) hob rfl)) rfl rfl hl.1 rfl (lv_room (Nat.le_of_ble_eq_true rfl)) dX12_parts_66 ⟨by decide, by decide⟩) hS (fun σ1 H locs hpost hP hD hS => ?_)
              obtain ⟨M_16, p1⟩ := σ1
              obtain ⟨hp0, hfrc, hnew⟩ := hpost
              obtain rfl : p1 = σ.2 := hp0
              have hP : xP g (M_16, σ.2) H := hP
              have hD : xD g A (M_16, σ.2) := hD
              have hob : MObj g M_16 oz := (hfrc (37) (by omega)).trans hob
              have h49 := (hfrc (49) (by omega)).trans h49
              have hfr := x_frc (F := fun j => j ≠ 37 ∧ j ≠ 38) hfr hfrc (fun j h => by have h : j ≠ 37 ∧ j ≠ 38 := h; omega)
              obtain ⟨S_17, hS_17⟩ : ∃ q : Int → Int, q = upI T (2 + 3 * (h) + (2)) (p9) := ⟨_, rfl⟩
              have hs0 : MArr g M_16 38 29 S_17 := by rw [hS_17]; exact hnew
              have rS_17 : ∀ k, inR (S_17 k) := by rw [hS_17]; exact upI_rng hTo.1 ⟨by omega, by omega⟩
              have eU : S_17 = upI T (2 + 3 * h + 2) p9 := by (rw [hS_17])
              have oU : SmOk S_17 := by (rw [eU]; exact SmOk_purse hTo (by omega) (by omega))
              have eU0 : S_17 0 = S 0 := by (rw [eU, upI_n (by omega)]; exact eT0)
              refine lv_aload_n hx hb dX12_parts_69 rfl (lv_at hl 3 rfl) ?_
              refine lv_iload_n hx hb dX12_parts_70 rfl (lv_at hl 4 rfl) ?_
              refine x_iconst hx hb dX12_parts_71 ?_
              refine x_iadd hx hb dX12_parts_72 ?_
              refine lv_iload_n hx hb dX12_parts_73 rfl (lv_at hl 5 rfl) ?_
              refine lv_iload hx hb dX12_parts_74 (lv_at hl 0 rfl) ?_
              refine x_isub hx hb dX12_parts_76 ?_
              refine lv_iload_n hx hb dX12_parts_77 rfl (lv_at hl 6 rfl) ?_
              refine x_cqv0 (va_runV (As := [.int (iI (h + 1)), .int (iI (lf - p9)), .int (iI (o))]) (rest := []) ⟨hx, hb, hml, hown, hts⟩ (c_X12_parts4 l g (M_16, σ.2) A (oz) S_17 hob hs0 oU Wz h49 (fun i a b => hW i a (by omega)) (by omega) (h + 1) (by omega) (lf - p9) (by omega) (o) (by omega) hAc) (cwV 3 hts gX12_parts_X12_parts rfl rfl rfl (by decide +kernel) ⟨Nat.le_of_ble_eq_true rfl, Nat.le_of_ble_eq_true rfl⟩) (x_preVQ hK hP hD hS hA (x_recv hK hP (i := 37) (by decide) hob rfl)) rfl rfl hl.1 rfl (lv_room (Nat.le_of_ble_eq_true rfl)) dX12_parts_78 ⟨by decide, by decide⟩) hS (fun σ1 H locs hpost hP hD hS => ?_)
              obtain ⟨M_18, p1⟩ := σ1
              obtain ⟨hp0, hfrc, ov_19, T_20, hnew, hnew2, okT_20, smT_20, hacov_19, hokov_19, h10ov_19⟩ := hpost
              obtain rfl : p1 = σ.2 := hp0
              have hP : xP g (M_18, σ.2) H := hP
              have hD : xD g A (M_18, σ.2) := hD
              have h49 := (hfrc (49) (by omega)).trans h49
              have hfr := x_frc (F := fun j => j ≠ 37 ∧ j ≠ 38) hfr hfrc (fun j h => by have h : j ≠ 37 ∧ j ≠ 38 := h; omega)
              have hob : MObj g M_18 ov_19 := hnew
              have hs0 : MArr g M_18 38 29 T_20 := hnew2
              refine x_iinc (k0 := 0) (lv' := [(6, .int (iI (p9 + 1))), (5, .int (iI (lf))), (4, .int (iI (((S (0)) - 1) - h))), (0, .ref (g.2.2 37)), (1, .int (iI (h))), (2, .int (iI (lf))), (3, .int (iI (o)))]) hx hb dX12_parts_81 hl rfl (by decide) rfl (fun ls hl => ?_)
              refine lv_goto (tgt := 52) hx hb dX12_parts_84 (by decide) ?_
              have hgo := zParts_go (W := Wz) (o := o) (lf := lf - p9) (p := p9) (q := zAc oz) hsm (by omega) (by omega)
              rw [← eU] at hgo
              exact ih_15 (T_20) (ov_19) (p9 + 1) (by omega) (by exact okT_20) (by exact zSam_back (by omega) hsm (eU ▸ smT_20)) (by exact (smT_20).1.trans eU0) (by exact hokov_19) (by exact h10ov_19.trans h10) (by omega) (by omega) (by omega) (by rw [zFold_succ _ _ hp0, ← hst, hacov_19]; exact hgo) (M_18) _ _ hob hs0 h49 hfr hP hD hS ls (lv_sub hl [0, 1, 2, 3, 4, 5, 6] rfl)
        exact hloop_52 ((((40 : Int) - ((lf))).toNat) + 1) (S) (ov) ((lf)) (by omega) (by exact hok) (by exact zSam_self) (by rfl) (by exact hAc) (by rfl) (by omega) (by omega) (by omega) (by rw [zFold_0 _ _ (by omega)]) (σ.1) _ _ hob hs0 h49 hfr hP hD hS ls (lv_sub hl [0, 1, 2, 3, 4, 5, 6] rfl)
  · refine lv_iload_n hx hb dX12_parts_10 rfl (lv_at hl 2 rfl) ?_
    refine x_if_ne (tgt := 19) hx hb (by omega) dX12_parts_11 (by decide) (fun c_11 => ?_) (fun c_11 => ?_)
    · refine x_retQv hx hb hr ?_ hP hD hS dX12_parts_19 hlocks
      refine ⟨rfl, hfr, ov, S, hob, hs0, hok, zSam_self, ?_, hAc, rfl⟩
      rw [zParts_end _ _ _ _ (by omega), if_neg (by omega)]
    · refine lv_aload_n hx hb dX12_parts_14 rfl (lv_at hl 0 rfl) ?_
      refine lv_iload_n hx hb dX12_parts_15 rfl (lv_at hl 3 rfl) ?_
      refine x_cqv0 (va_runV (As := [.int (iI (o))]) (rest := []) ⟨hx, hb, hml, hown, hts⟩ (c_X12_partsAre l g σ A (ov) S hob hs0 hok Wz h49 (fun i a b => hW i a (by omega)) (by omega) (o) (by omega) hAc) (cwV 1 hts gX12_parts_X12_partsAre rfl rfl rfl (by decide +kernel) ⟨Nat.le_of_ble_eq_true rfl, Nat.le_of_ble_eq_true rfl⟩) (x_preVQ hK hP hD hS hA (x_recv hK hP (i := 37) (by decide) hob rfl)) rfl rfl hl.1 rfl (lv_room (Nat.le_of_ble_eq_true rfl)) dX12_parts_16 ⟨by decide, by decide⟩) hS (fun σ1 H locs hpost hP hD hS => ?_)
      obtain ⟨M_21, p1⟩ := σ1
      obtain ⟨hp0, hfrc, ov_22, hnew, hacov_22, hokov_22, h10ov_22⟩ := hpost
      obtain rfl : p1 = σ.2 := hp0
      have hP : xP g (M_21, σ.2) H := hP
      have hD : xD g A (M_21, σ.2) := hD
      have hs0 := (hfrc (38) (by omega)).trans hs0
      have h49 := (hfrc (49) (by omega)).trans h49
      have hfr := x_frc (F := fun j => j ≠ 37 ∧ j ≠ 38) hfr hfrc (fun j h => by have h : j ≠ 37 ∧ j ≠ 38 := h; omega)
      have hob : MObj g M_21 ov_22 := hnew
      refine x_retQv hx hb hr ?_ hP hD hS dX12_parts_19 hlocks
      refine ⟨rfl, hfr, ov_22, S, hob, hs0, hok, zSam_self, ?_, hokov_22, h10ov_22⟩
      rw [zParts_end _ _ _ _ (by omega), if_pos (by omega)]
      exact hacov_22

set_option maxHeartbeats 4000000 in
set_option maxRecDepth 100000 in
theorem c_X12_parts6 (l : Launch) (g : xG) (σ : xS) (A : Nat → Prop) (ov : Nat → Int) (S : Int → Int) (hob : MObj g σ.1 ov) (hs0 : MArr g σ.1 38 29 S) (hok : SmOk S) (Wz : Int → Int) (h49 : MArr g σ.1 49 8 Wz) (hW : ∀ i, 0 ≤ i → i < S 0 → 0 ≤ Wz i ∧ Wz i ≤ 9999) (hn6 : S 0 ≤ 6) (h : Int) (hh : 0 ≤ h ∧ h ≤ S 0 ∧ S 0 - h ≤ 6) (lf : Int) (hlf : 0 ≤ lf ∧ lf ≤ 20) (o : Int) (ho : inR o) (hAc : zAccOk (zAc ov)) : Met l yX12_parts wsX12_parts ({ frames := 15, cells := 0, slots := 0, locals := 480 }) (va_Pc [.ref (g.2.2 37), .int (iI (h)), .int (iI (lf)), .int (iI (o))] (xPreQ g A σ)) (x_Qv g A (fun σ1 => σ1.2 = σ.2 ∧ (∀ j, j ≠ 37 ∧ j ≠ 38 → σ1.1 j = σ.1 j) ∧ ∃ ov2 T, MObj g σ1.1 ov2 ∧ MArr g σ1.1 38 29 T ∧ SmOk T ∧ zSam S T h ∧ zAc ov2 = zParts (zNote (mK S) (mF S) Wz (S 0) (S 1) o) (S 0 - h).toNat h lf (mP S) (zAc ov) ∧ zAccOk (zAc ov2) ∧ ov2 10 = ov 10)) (0) (0) A := by
  refine Met.ofW (cc := cX12_parts) (maxL := 7) (ret := none) (by decide) rfl ?_
  intro p e s m args below meth c s₁ B hml hv
  obtain ⟨rfl, hP, hK, hD, hA⟩ := hv
  have hx := B.exec
  have hb := B.bytes
  have hr := B.returns
  have hts := atoms_spec (ws := wsX12_parts) B.pre
  have hown : s.vm.findClass RX12 = some m.cls := findClass_of_methodNamed B.named
  have hlocks := B.notSynchronized
  have hS : va_S A s.heap s.heap [] := va_S.rf
  have hfr : ∀ j, (j ≠ 37 ∧ j ≠ 38) → σ.1 j = σ.1 j := fun _ _ => rfl
  have hl := lv_entry ([.ref (g.2.2 37), .int (iI (h)), .int (iI (lf)), .int (iI (o))]) (n := 7) (Nat.le_of_ble_eq_true rfl)
  rw [lg_entry_eq]
  generalize (lg_sl ([.ref (g.2.2 37), .int (iI (h)), .int (iI (lf)), .int (iI (o))]) ++ List.replicate (7 - (lg_sl ([.ref (g.2.2 37), .int (iI (h)), .int (iI (lf)), .int (iI (o))])).length) Slot.unset).toArray = ls at hl ⊢
  have hl : lv_has ls 7 [(0, .ref (g.2.2 37)), (1, .int (iI (h))), (2, .int (iI (lf))), (3, .int (iI (o)))] := hl
  have hn0 := hok.2.1
  have hrd0 := hok.2.2.1
  have hw_0 := hts (.fieldLink RX12 9 "TwiceAsRichModel" "s" "[I") (by decide +kernel)
  have hin_X12 : ∀ w ∈ wsX120, w ∈ wsX12_parts := by decide +kernel
  refine lv_iload_n hx hb dX12_parts_0 rfl (lv_at hl 1 rfl) ?_
  refine lv_aload_n hx hb dX12_parts_1 rfl (lv_at hl 0 rfl) ?_
  refine x_get (C := RX12) (T := TX12) (N := 24) hx hb hts hin_X12 hown hK hP (37) (by decide) hob rfl 0 (by decide) hw_0 (fun _ h9 => h9) rfl dX12_parts_2 ?_
  refine x_iconst hx hb dX12_parts_5 ?_
  refine x_iald (f := S) hx hb hK hP (38) (by decide) hs0 (by omega) (by omega) (by decide) dX12_parts_6 ?_
  have hb_1 := hok.1 (0)
  refine x_icmp_ne (tgt := 20) hx hb (by omega) (by omega) dX12_parts_7 (by decide) (fun c_7 => ?_) (fun c_7 => ?_)
  · refine lv_aload_n hx hb dX12_parts_20 rfl (lv_at hl 0 rfl) ?_
    refine x_get (C := RX12) (T := TX12) (N := 24) hx hb hts hin_X12 hown hK hP (37) (by decide) hob rfl 0 (by decide) hw_0 (fun _ h9 => h9) rfl dX12_parts_21 ?_
    refine x_iconst hx hb dX12_parts_24 ?_
    refine x_iald (f := S) hx hb hK hP (38) (by decide) hs0 (by omega) (by omega) (by decide) dX12_parts_25 ?_
    have hb_2 := hok.1 (0)
    refine x_iconst hx hb dX12_parts_26 ?_
    refine x_isub hx hb dX12_parts_27 ?_
    refine lv_iload_n hx hb dX12_parts_28 rfl (lv_at hl 1 rfl) ?_
    refine x_isub hx hb dX12_parts_29 ?_
    refine lv_istore (lv' := [(4, .int (iI (((S (0)) - 1) - h))), (0, .ref (g.2.2 37)), (1, .int (iI (h))), (2, .int (iI (lf))), (3, .int (iI (o)))]) hx hb dX12_parts_30 hl (by decide) rfl (fun ls hl => ?_)
    refine lv_iload hx hb dX12_parts_32 (lv_at hl 0 rfl) ?_
    refine x_if_ne (tgt := 45) hx hb (by omega) dX12_parts_34 (by decide) (fun c_34 => ?_) (fun c_34 => ?_)
    · refine x_iconst hx hb dX12_parts_45 ?_
      have hls : zLst (S 0 - 1 - h) lf = (1) := by (unfold zLst; first | (rw [if_pos (by omega)]; done) | (rw [if_neg (by omega)]; done))
      refine lv_istore (lv' := [(5, .int (iI (1))), (4, .int (iI (((S (0)) - 1) - h))), (0, .ref (g.2.2 37)), (1, .int (iI (h))), (2, .int (iI (lf))), (3, .int (iI (o)))]) hx hb dX12_parts_46 hl (by decide) rfl (fun ls hl => ?_)
      refine lv_iload hx hb dX12_parts_48 (lv_at hl 0 rfl) ?_
      refine lv_istore (lv' := [(6, .int (iI (1))), (5, .int (iI (1))), (4, .int (iI (((S (0)) - 1) - h))), (0, .ref (g.2.2 37)), (1, .int (iI (h))), (2, .int (iI (lf))), (3, .int (iI (o)))]) hx hb dX12_parts_50 hl (by decide) rfl (fun ls hl => ?_)
      have hloop_52 : ∀ (k : Nat) (T : Int → Int) (oz : Nat → Int) (p9 : Int), ((40 : Int) - p9).toNat < k → (hTo : SmOk T) → (hsm : zSam S T h) → (eT0 : T 0 = S 0) → (hAc : zAccOk (zAc oz)) → (h10 : oz 10 = ov 10) → (hp0 : zLst (S 0 - 1 - h) lf ≤ p9) → (hp1 : p9 = zLst (S 0 - 1 - h) lf ∨ p9 ≤ lf - (S 0 - 1 - h) + 1) → (hp2 : 1 ≤ p9 ∧ p9 ≤ 21) → (hst : zAc oz = zFold (fun p q => zParts (zNote (mK S) (mF S) Wz (S 0) (S 1) o) (S 0 - (h + 1)).toNat (h + 1) (lf - p) (upI (mP S) h p) q) (zLst (S 0 - 1 - h) lf) (zAc ov) (p9 - zLst (S 0 - 1 - h) lf).toNat) → ∀ (M : xM) (H : Heap) (locs : List Loc), (hob : M (37) = .inr (12, [.ref (g.2.2 38), .ref (g.2.2 39), .ref (g.2.2 40), .ref (g.2.2 41), .ref (g.2.2 42), .ref (g.2.2 43), .ref (g.2.2 44), .ref (g.2.2 45), .ref (g.2.2 46), .ref (g.2.2 47), .int (iI (oz 10)), .int (iI (oz 11)), .int (iI (oz 12)), .int (iI (oz 13)), .int (iI (oz 14)), .int (iI (oz 15)), .ref (g.2.2 48), .int (iI (oz 17)), .int (iI (oz 18)), .int (iI (oz 19)), .int (iI (oz 20)), .int (iI (oz 21)), .ref (g.2.2 49), .int (iI (oz 23))])) → (hs0 : M (38) = .inl (g.2.1 0, 29, .inl (fun k => iI (T (k : Int))))) → (h49 : M (49) = .inl (g.2.1 0, 8, .inl (fun k => iI (Wz (k : Int))))) → (hfr : ∀ j, (j ≠ 37 ∧ j ≠ 38) → M j = σ.1 j) → xP g (M, σ.2) H → xD g A (M, σ.2) → va_S A s.heap H locs → ∀ (ls : Array Slot), lv_has ls 7 [(6, .int (iI (p9))), (5, .int (iI (1))), (4, .int (iI (((S (0)) - 1) - h))), (0, .ref (g.2.2 37)), (1, .int (iI (h))), (2, .int (iI (lf))), (3, .int (iI (o)))] → W p l e (headSpec wsX12_parts ({ frames := 15, cells := 0, slots := 0, locals := 480 })).room s m ([.ref (g.2.2 37), .int (iI (h)), .int (iI (lf)), .int (iI (o))] : List Value).toArray below meth c H locs 0 0 (MQ below (x_Qv g A (fun σ1 => σ1.2 = σ.2 ∧ (∀ j, j ≠ 37 ∧ j ≠ 38 → σ1.1 j = σ.1 j) ∧ ∃ ov2 T, MObj g σ1.1 ov2 ∧ MArr g σ1.1 38 29 T ∧ SmOk T ∧ zSam S T h ∧ zAc ov2 = zParts (zNote (mK S) (mF S) Wz (S 0) (S 1) o) (S 0 - h).toNat h lf (mP S) (zAc ov) ∧ zAccOk (zAc ov2) ∧ ov2 10 = ov 10)) ([.ref (g.2.2 37), .int (iI (h)), .int (iI (lf)), .int (iI (o))] : List Value).toArray s (0) (0) A) (F0 m 52 ls []) := by
        intro k
        induction k with
        | zero =>
          intros; exact absurd (by assumption) (Nat.not_lt_zero _)
        | succ k ih =>
          intro T oz p9 hmeas hTo hsm eT0 hAc h10 hp0 hp1 hp2 hst M H locs hob hs0 h49 hfr hP hD hS ls hl
          have ih_3 := ih
          refine lv_iload hx hb dX12_parts_52 (lv_at hl 0 rfl) ?_
          refine lv_iload_n hx hb dX12_parts_54 rfl (lv_at hl 5 rfl) ?_
          refine lv_iload hx hb dX12_parts_55 (lv_at hl 2 rfl) ?_
          refine x_isub hx hb dX12_parts_57 ?_
          refine x_icmp_gt (tgt := 87) hx hb (by omega) (by omega) dX12_parts_58 (by decide) (fun c_58 => ?_) (fun c_58 => ?_)
          · refine x_retQv hx hb hr ?_ hP hD hS dX12_parts_87 hlocks
            refine ⟨rfl, hfr, oz, T, hob, hs0, hTo, hsm, ?_, hAc, h10⟩
            rw [zParts_step _ _ _ _ (by omega), show (lf - (S 0 - 1 - h) + 1 - zLst (S 0 - 1 - h) lf).toNat = (p9 - zLst (S 0 - 1 - h) lf).toNat by omega]
            exact hst
          · refine lv_aload_n hx hb dX12_parts_61 rfl (lv_at hl 3 rfl) ?_
            refine lv_iload_n hx hb dX12_parts_62 rfl (lv_at hl 4 rfl) ?_
            refine x_iconst hx hb dX12_parts_63 ?_
            refine lv_iload hx hb dX12_parts_64 (lv_at hl 0 rfl) ?_
            refine x_cqv0 (va_runV (As := [.int (iI (h)), .int (iI (2)), .int (iI (p9))]) (rest := []) ⟨hx, hb, hml, hown, hts⟩ (c_X12_puts l g (M, σ.2) A (oz) T hob hs0 hTo.1 (h) (by omega) (2) (by omega) (p9) (by omega)) (cwV 3 hts gX12_parts_X12_puts rfl rfl rfl (by decide +kernel) ⟨Nat.le_of_ble_eq_true rfl, Nat.le_of_ble_eq_true rfl⟩) (x_preVQ hK hP hD hS hA (x_recv hK hP (i := 37) (by decide) hob rfl)) rfl rfl hl.1 rfl (lv_room (Nat.le_of_ble_eq_true rfl)) dX12_parts_66 ⟨by decide, by decide⟩) hS (fun σ1 H locs hpost hP hD hS => ?_)
            obtain ⟨M_4, p1⟩ := σ1
            obtain ⟨hp0, hfrc, hnew⟩ := hpost
            obtain rfl : p1 = σ.2 := hp0
            have hP : xP g (M_4, σ.2) H := hP
            have hD : xD g A (M_4, σ.2) := hD
            have hob : MObj g M_4 oz := (hfrc (37) (by omega)).trans hob
            have h49 := (hfrc (49) (by omega)).trans h49
            have hfr := x_frc (F := fun j => j ≠ 37 ∧ j ≠ 38) hfr hfrc (fun j h => by have h : j ≠ 37 ∧ j ≠ 38 := h; omega)
            obtain ⟨S_5, hS_5⟩ : ∃ q : Int → Int, q = upI T (2 + 3 * (h) + (2)) (p9) := ⟨_, rfl⟩
            have hs0 : MArr g M_4 38 29 S_5 := by rw [hS_5]; exact hnew
            have rS_5 : ∀ k, inR (S_5 k) := by rw [hS_5]; exact upI_rng hTo.1 ⟨by omega, by omega⟩
            have eU : S_5 = upI T (2 + 3 * h + 2) p9 := by (rw [hS_5])
            have oU : SmOk S_5 := by (rw [eU]; exact SmOk_purse hTo (by omega) (by omega))
            have eU0 : S_5 0 = S 0 := by (rw [eU, upI_n (by omega)]; exact eT0)
            refine lv_aload_n hx hb dX12_parts_69 rfl (lv_at hl 3 rfl) ?_
            refine lv_iload_n hx hb dX12_parts_70 rfl (lv_at hl 4 rfl) ?_
            refine x_iconst hx hb dX12_parts_71 ?_
            refine x_iadd hx hb dX12_parts_72 ?_
            refine lv_iload_n hx hb dX12_parts_73 rfl (lv_at hl 5 rfl) ?_
            refine lv_iload hx hb dX12_parts_74 (lv_at hl 0 rfl) ?_
            refine x_isub hx hb dX12_parts_76 ?_
            refine lv_iload_n hx hb dX12_parts_77 rfl (lv_at hl 6 rfl) ?_
            refine x_cqv0 (va_runV (As := [.int (iI (h + 1)), .int (iI (lf - p9)), .int (iI (o))]) (rest := []) ⟨hx, hb, hml, hown, hts⟩ (c_X12_parts5 l g (M_4, σ.2) A (oz) S_5 hob hs0 oU Wz h49 (fun i a b => hW i a (by omega)) (by omega) (h + 1) (by omega) (lf - p9) (by omega) (o) (by omega) hAc) (cwV 3 hts gX12_parts_X12_parts rfl rfl rfl (by decide +kernel) ⟨Nat.le_of_ble_eq_true rfl, Nat.le_of_ble_eq_true rfl⟩) (x_preVQ hK hP hD hS hA (x_recv hK hP (i := 37) (by decide) hob rfl)) rfl rfl hl.1 rfl (lv_room (Nat.le_of_ble_eq_true rfl)) dX12_parts_78 ⟨by decide, by decide⟩) hS (fun σ1 H locs hpost hP hD hS => ?_)
            obtain ⟨M_6, p1⟩ := σ1
            obtain ⟨hp0, hfrc, ov_7, T_8, hnew, hnew2, okT_8, smT_8, hacov_7, hokov_7, h10ov_7⟩ := hpost
            obtain rfl : p1 = σ.2 := hp0
            have hP : xP g (M_6, σ.2) H := hP
            have hD : xD g A (M_6, σ.2) := hD
            have h49 := (hfrc (49) (by omega)).trans h49
            have hfr := x_frc (F := fun j => j ≠ 37 ∧ j ≠ 38) hfr hfrc (fun j h => by have h : j ≠ 37 ∧ j ≠ 38 := h; omega)
            have hob : MObj g M_6 ov_7 := hnew
            have hs0 : MArr g M_6 38 29 T_8 := hnew2
            refine x_iinc (k0 := 0) (lv' := [(6, .int (iI (p9 + 1))), (5, .int (iI (1))), (4, .int (iI (((S (0)) - 1) - h))), (0, .ref (g.2.2 37)), (1, .int (iI (h))), (2, .int (iI (lf))), (3, .int (iI (o)))]) hx hb dX12_parts_81 hl rfl (by decide) rfl (fun ls hl => ?_)
            refine lv_goto (tgt := 52) hx hb dX12_parts_84 (by decide) ?_
            have hgo := zParts_go (W := Wz) (o := o) (lf := lf - p9) (p := p9) (q := zAc oz) hsm (by omega) (by omega)
            rw [← eU] at hgo
            exact ih_3 (T_8) (ov_7) (p9 + 1) (by omega) (by exact okT_8) (by exact zSam_back (by omega) hsm (eU ▸ smT_8)) (by exact (smT_8).1.trans eU0) (by exact hokov_7) (by exact h10ov_7.trans h10) (by omega) (by omega) (by omega) (by rw [zFold_succ _ _ hp0, ← hst, hacov_7]; exact hgo) (M_6) _ _ hob hs0 h49 hfr hP hD hS ls (lv_sub hl [0, 1, 2, 3, 4, 5, 6] rfl)
      exact hloop_52 ((((40 : Int) - ((1))).toNat) + 1) (S) (ov) ((1)) (by omega) (by exact hok) (by exact zSam_self) (by rfl) (by exact hAc) (by rfl) (by omega) (by omega) (by omega) (by rw [zFold_0 _ _ (by omega)]) (σ.1) _ _ hob hs0 h49 hfr hP hD hS ls (lv_sub hl [0, 1, 2, 3, 4, 5, 6] rfl)
    · refine lv_iload_n hx hb dX12_parts_37 rfl (lv_at hl 3 rfl) ?_
      refine x_if_le (tgt := 45) hx hb (by omega) dX12_parts_38 (by decide) (fun c_38 => ?_) (fun c_38 => ?_)
      · refine x_iconst hx hb dX12_parts_45 ?_
        have hls : zLst (S 0 - 1 - h) lf = (1) := by (unfold zLst; first | (rw [if_pos (by omega)]; done) | (rw [if_neg (by omega)]; done))
        refine lv_istore (lv' := [(5, .int (iI (1))), (4, .int (iI (((S (0)) - 1) - h))), (0, .ref (g.2.2 37)), (1, .int (iI (h))), (2, .int (iI (lf))), (3, .int (iI (o)))]) hx hb dX12_parts_46 hl (by decide) rfl (fun ls hl => ?_)
        refine lv_iload hx hb dX12_parts_48 (lv_at hl 0 rfl) ?_
        refine lv_istore (lv' := [(6, .int (iI (1))), (5, .int (iI (1))), (4, .int (iI (((S (0)) - 1) - h))), (0, .ref (g.2.2 37)), (1, .int (iI (h))), (2, .int (iI (lf))), (3, .int (iI (o)))]) hx hb dX12_parts_50 hl (by decide) rfl (fun ls hl => ?_)
        have hloop_52 : ∀ (k : Nat) (T : Int → Int) (oz : Nat → Int) (p9 : Int), ((40 : Int) - p9).toNat < k → (hTo : SmOk T) → (hsm : zSam S T h) → (eT0 : T 0 = S 0) → (hAc : zAccOk (zAc oz)) → (h10 : oz 10 = ov 10) → (hp0 : zLst (S 0 - 1 - h) lf ≤ p9) → (hp1 : p9 = zLst (S 0 - 1 - h) lf ∨ p9 ≤ lf - (S 0 - 1 - h) + 1) → (hp2 : 1 ≤ p9 ∧ p9 ≤ 21) → (hst : zAc oz = zFold (fun p q => zParts (zNote (mK S) (mF S) Wz (S 0) (S 1) o) (S 0 - (h + 1)).toNat (h + 1) (lf - p) (upI (mP S) h p) q) (zLst (S 0 - 1 - h) lf) (zAc ov) (p9 - zLst (S 0 - 1 - h) lf).toNat) → ∀ (M : xM) (H : Heap) (locs : List Loc), (hob : M (37) = .inr (12, [.ref (g.2.2 38), .ref (g.2.2 39), .ref (g.2.2 40), .ref (g.2.2 41), .ref (g.2.2 42), .ref (g.2.2 43), .ref (g.2.2 44), .ref (g.2.2 45), .ref (g.2.2 46), .ref (g.2.2 47), .int (iI (oz 10)), .int (iI (oz 11)), .int (iI (oz 12)), .int (iI (oz 13)), .int (iI (oz 14)), .int (iI (oz 15)), .ref (g.2.2 48), .int (iI (oz 17)), .int (iI (oz 18)), .int (iI (oz 19)), .int (iI (oz 20)), .int (iI (oz 21)), .ref (g.2.2 49), .int (iI (oz 23))])) → (hs0 : M (38) = .inl (g.2.1 0, 29, .inl (fun k => iI (T (k : Int))))) → (h49 : M (49) = .inl (g.2.1 0, 8, .inl (fun k => iI (Wz (k : Int))))) → (hfr : ∀ j, (j ≠ 37 ∧ j ≠ 38) → M j = σ.1 j) → xP g (M, σ.2) H → xD g A (M, σ.2) → va_S A s.heap H locs → ∀ (ls : Array Slot), lv_has ls 7 [(6, .int (iI (p9))), (5, .int (iI (1))), (4, .int (iI (((S (0)) - 1) - h))), (0, .ref (g.2.2 37)), (1, .int (iI (h))), (2, .int (iI (lf))), (3, .int (iI (o)))] → W p l e (headSpec wsX12_parts ({ frames := 15, cells := 0, slots := 0, locals := 480 })).room s m ([.ref (g.2.2 37), .int (iI (h)), .int (iI (lf)), .int (iI (o))] : List Value).toArray below meth c H locs 0 0 (MQ below (x_Qv g A (fun σ1 => σ1.2 = σ.2 ∧ (∀ j, j ≠ 37 ∧ j ≠ 38 → σ1.1 j = σ.1 j) ∧ ∃ ov2 T, MObj g σ1.1 ov2 ∧ MArr g σ1.1 38 29 T ∧ SmOk T ∧ zSam S T h ∧ zAc ov2 = zParts (zNote (mK S) (mF S) Wz (S 0) (S 1) o) (S 0 - h).toNat h lf (mP S) (zAc ov) ∧ zAccOk (zAc ov2) ∧ ov2 10 = ov 10)) ([.ref (g.2.2 37), .int (iI (h)), .int (iI (lf)), .int (iI (o))] : List Value).toArray s (0) (0) A) (F0 m 52 ls []) := by
          intro k
          induction k with
          | zero =>
            intros; exact absurd (by assumption) (Nat.not_lt_zero _)
          | succ k ih =>
            intro T oz p9 hmeas hTo hsm eT0 hAc h10 hp0 hp1 hp2 hst M H locs hob hs0 h49 hfr hP hD hS ls hl
            have ih_9 := ih
            refine lv_iload hx hb dX12_parts_52 (lv_at hl 0 rfl) ?_
            refine lv_iload_n hx hb dX12_parts_54 rfl (lv_at hl 5 rfl) ?_
            refine lv_iload hx hb dX12_parts_55 (lv_at hl 2 rfl) ?_
            refine x_isub hx hb dX12_parts_57 ?_
            refine x_icmp_gt (tgt := 87) hx hb (by omega) (by omega) dX12_parts_58 (by decide) (fun c_58 => ?_) (fun c_58 => ?_)
            · refine x_retQv hx hb hr ?_ hP hD hS dX12_parts_87 hlocks
              refine ⟨rfl, hfr, oz, T, hob, hs0, hTo, hsm, ?_, hAc, h10⟩
              rw [zParts_step _ _ _ _ (by omega), show (lf - (S 0 - 1 - h) + 1 - zLst (S 0 - 1 - h) lf).toNat = (p9 - zLst (S 0 - 1 - h) lf).toNat by omega]
              exact hst
            · refine lv_aload_n hx hb dX12_parts_61 rfl (lv_at hl 3 rfl) ?_
              refine lv_iload_n hx hb dX12_parts_62 rfl (lv_at hl 4 rfl) ?_
              refine x_iconst hx hb dX12_parts_63 ?_
              refine lv_iload hx hb dX12_parts_64 (lv_at hl 0 rfl) ?_
              refine x_cqv0 (va_runV (As := [.int (iI (h)), .int (iI (2)), .int (iI (p9))]) (rest := []) ⟨hx, hb, hml, hown, hts⟩ (c_X12_puts l g (M, σ.2) A (oz) T hob hs0 hTo.1 (h) (by omega) (2) (by omega) (p9) (by omega)) (cwV 3 hts gX12_parts_X12_puts rfl rfl rfl (by decide +kernel) ⟨Nat.le_of_ble_eq_true rfl, Nat.le_of_ble_eq_true rfl⟩) (x_preVQ hK hP hD hS hA (x_recv hK hP (i := 37) (by decide) hob rfl)) rfl rfl hl.1 rfl (lv_room (Nat.le_of_ble_eq_true rfl)) dX12_parts_66 ⟨by decide, by decide⟩) hS (fun σ1 H locs hpost hP hD hS => ?_)
              obtain ⟨M_10, p1⟩ := σ1
              obtain ⟨hp0, hfrc, hnew⟩ := hpost
              obtain rfl : p1 = σ.2 := hp0
              have hP : xP g (M_10, σ.2) H := hP
              have hD : xD g A (M_10, σ.2) := hD
              have hob : MObj g M_10 oz := (hfrc (37) (by omega)).trans hob
              have h49 := (hfrc (49) (by omega)).trans h49
              have hfr := x_frc (F := fun j => j ≠ 37 ∧ j ≠ 38) hfr hfrc (fun j h => by have h : j ≠ 37 ∧ j ≠ 38 := h; omega)
              obtain ⟨S_11, hS_11⟩ : ∃ q : Int → Int, q = upI T (2 + 3 * (h) + (2)) (p9) := ⟨_, rfl⟩
              have hs0 : MArr g M_10 38 29 S_11 := by rw [hS_11]; exact hnew
              have rS_11 : ∀ k, inR (S_11 k) := by rw [hS_11]; exact upI_rng hTo.1 ⟨by omega, by omega⟩
              have eU : S_11 = upI T (2 + 3 * h + 2) p9 := by (rw [hS_11])
              have oU : SmOk S_11 := by (rw [eU]; exact SmOk_purse hTo (by omega) (by omega))
              have eU0 : S_11 0 = S 0 := by (rw [eU, upI_n (by omega)]; exact eT0)
              refine lv_aload_n hx hb dX12_parts_69 rfl (lv_at hl 3 rfl) ?_
              refine lv_iload_n hx hb dX12_parts_70 rfl (lv_at hl 4 rfl) ?_
              refine x_iconst hx hb dX12_parts_71 ?_
              refine x_iadd hx hb dX12_parts_72 ?_
              refine lv_iload_n hx hb dX12_parts_73 rfl (lv_at hl 5 rfl) ?_
              refine lv_iload hx hb dX12_parts_74 (lv_at hl 0 rfl) ?_
              refine x_isub hx hb dX12_parts_76 ?_
              refine lv_iload_n hx hb dX12_parts_77 rfl (lv_at hl 6 rfl) ?_
              refine x_cqv0 (va_runV (As := [.int (iI (h + 1)), .int (iI (lf - p9)), .int (iI (o))]) (rest := []) ⟨hx, hb, hml, hown, hts⟩ (c_X12_parts5 l g (M_10, σ.2) A (oz) S_11 hob hs0 oU Wz h49 (fun i a b => hW i a (by omega)) (by omega) (h + 1) (by omega) (lf - p9) (by omega) (o) (by omega) hAc) (cwV 3 hts gX12_parts_X12_parts rfl rfl rfl (by decide +kernel) ⟨Nat.le_of_ble_eq_true rfl, Nat.le_of_ble_eq_true rfl⟩) (x_preVQ hK hP hD hS hA (x_recv hK hP (i := 37) (by decide) hob rfl)) rfl rfl hl.1 rfl (lv_room (Nat.le_of_ble_eq_true rfl)) dX12_parts_78 ⟨by decide, by decide⟩) hS (fun σ1 H locs hpost hP hD hS => ?_)
              obtain ⟨M_12, p1⟩ := σ1
              obtain ⟨hp0, hfrc, ov_13, T_14, hnew, hnew2, okT_14, smT_14, hacov_13, hokov_13, h10ov_13⟩ := hpost
              obtain rfl : p1 = σ.2 := hp0
              have hP : xP g (M_12, σ.2) H := hP
              have hD : xD g A (M_12, σ.2) := hD
              have h49 := (hfrc (49) (by omega)).trans h49
              have hfr := x_frc (F := fun j => j ≠ 37 ∧ j ≠ 38) hfr hfrc (fun j h => by have h : j ≠ 37 ∧ j ≠ 38 := h; omega)
              have hob : MObj g M_12 ov_13 := hnew
              have hs0 : MArr g M_12 38 29 T_14 := hnew2
              refine x_iinc (k0 := 0) (lv' := [(6, .int (iI (p9 + 1))), (5, .int (iI (1))), (4, .int (iI (((S (0)) - 1) - h))), (0, .ref (g.2.2 37)), (1, .int (iI (h))), (2, .int (iI (lf))), (3, .int (iI (o)))]) hx hb dX12_parts_81 hl rfl (by decide) rfl (fun ls hl => ?_)
              refine lv_goto (tgt := 52) hx hb dX12_parts_84 (by decide) ?_
              have hgo := zParts_go (W := Wz) (o := o) (lf := lf - p9) (p := p9) (q := zAc oz) hsm (by omega) (by omega)
              rw [← eU] at hgo
              exact ih_9 (T_14) (ov_13) (p9 + 1) (by omega) (by exact okT_14) (by exact zSam_back (by omega) hsm (eU ▸ smT_14)) (by exact (smT_14).1.trans eU0) (by exact hokov_13) (by exact h10ov_13.trans h10) (by omega) (by omega) (by omega) (by rw [zFold_succ _ _ hp0, ← hst, hacov_13]; exact hgo) (M_12) _ _ hob hs0 h49 hfr hP hD hS ls (lv_sub hl [0, 1, 2, 3, 4, 5, 6] rfl)
        exact hloop_52 ((((40 : Int) - ((1))).toNat) + 1) (S) (ov) ((1)) (by omega) (by exact hok) (by exact zSam_self) (by rfl) (by exact hAc) (by rfl) (by omega) (by omega) (by omega) (by rw [zFold_0 _ _ (by omega)]) (σ.1) _ _ hob hs0 h49 hfr hP hD hS ls (lv_sub hl [0, 1, 2, 3, 4, 5, 6] rfl)
      · refine lv_iload_n hx hb dX12_parts_41 rfl (lv_at hl 3 rfl) ?_
        refine lv_goto (tgt := 46) hx hb dX12_parts_42 (by decide) ?_
        have hls : zLst (S 0 - 1 - h) lf = (lf) := by (unfold zLst; first | (rw [if_pos (by omega)]; done) | (rw [if_neg (by omega)]; done))
        refine lv_istore (lv' := [(5, .int (iI (lf))), (4, .int (iI (((S (0)) - 1) - h))), (0, .ref (g.2.2 37)), (1, .int (iI (h))), (2, .int (iI (lf))), (3, .int (iI (o)))]) hx hb dX12_parts_46 hl (by decide) rfl (fun ls hl => ?_)
        refine lv_iload hx hb dX12_parts_48 (lv_at hl 0 rfl) ?_
        refine lv_istore (lv' := [(6, .int (iI (lf))), (5, .int (iI (lf))), (4, .int (iI (((S (0)) - 1) - h))), (0, .ref (g.2.2 37)), (1, .int (iI (h))), (2, .int (iI (lf))), (3, .int (iI (o)))]) hx hb dX12_parts_50 hl (by decide) rfl (fun ls hl => ?_)
        have hloop_52 : ∀ (k : Nat) (T : Int → Int) (oz : Nat → Int) (p9 : Int), ((40 : Int) - p9).toNat < k → (hTo : SmOk T) → (hsm : zSam S T h) → (eT0 : T 0 = S 0) → (hAc : zAccOk (zAc oz)) → (h10 : oz 10 = ov 10) → (hp0 : zLst (S 0 - 1 - h) lf ≤ p9) → (hp1 : p9 = zLst (S 0 - 1 - h) lf ∨ p9 ≤ lf - (S 0 - 1 - h) + 1) → (hp2 : 1 ≤ p9 ∧ p9 ≤ 21) → (hst : zAc oz = zFold (fun p q => zParts (zNote (mK S) (mF S) Wz (S 0) (S 1) o) (S 0 - (h + 1)).toNat (h + 1) (lf - p) (upI (mP S) h p) q) (zLst (S 0 - 1 - h) lf) (zAc ov) (p9 - zLst (S 0 - 1 - h) lf).toNat) → ∀ (M : xM) (H : Heap) (locs : List Loc), (hob : M (37) = .inr (12, [.ref (g.2.2 38), .ref (g.2.2 39), .ref (g.2.2 40), .ref (g.2.2 41), .ref (g.2.2 42), .ref (g.2.2 43), .ref (g.2.2 44), .ref (g.2.2 45), .ref (g.2.2 46), .ref (g.2.2 47), .int (iI (oz 10)), .int (iI (oz 11)), .int (iI (oz 12)), .int (iI (oz 13)), .int (iI (oz 14)), .int (iI (oz 15)), .ref (g.2.2 48), .int (iI (oz 17)), .int (iI (oz 18)), .int (iI (oz 19)), .int (iI (oz 20)), .int (iI (oz 21)), .ref (g.2.2 49), .int (iI (oz 23))])) → (hs0 : M (38) = .inl (g.2.1 0, 29, .inl (fun k => iI (T (k : Int))))) → (h49 : M (49) = .inl (g.2.1 0, 8, .inl (fun k => iI (Wz (k : Int))))) → (hfr : ∀ j, (j ≠ 37 ∧ j ≠ 38) → M j = σ.1 j) → xP g (M, σ.2) H → xD g A (M, σ.2) → va_S A s.heap H locs → ∀ (ls : Array Slot), lv_has ls 7 [(6, .int (iI (p9))), (5, .int (iI (lf))), (4, .int (iI (((S (0)) - 1) - h))), (0, .ref (g.2.2 37)), (1, .int (iI (h))), (2, .int (iI (lf))), (3, .int (iI (o)))] → W p l e (headSpec wsX12_parts ({ frames := 15, cells := 0, slots := 0, locals := 480 })).room s m ([.ref (g.2.2 37), .int (iI (h)), .int (iI (lf)), .int (iI (o))] : List Value).toArray below meth c H locs 0 0 (MQ below (x_Qv g A (fun σ1 => σ1.2 = σ.2 ∧ (∀ j, j ≠ 37 ∧ j ≠ 38 → σ1.1 j = σ.1 j) ∧ ∃ ov2 T, MObj g σ1.1 ov2 ∧ MArr g σ1.1 38 29 T ∧ SmOk T ∧ zSam S T h ∧ zAc ov2 = zParts (zNote (mK S) (mF S) Wz (S 0) (S 1) o) (S 0 - h).toNat h lf (mP S) (zAc ov) ∧ zAccOk (zAc ov2) ∧ ov2 10 = ov 10)) ([.ref (g.2.2 37), .int (iI (h)), .int (iI (lf)), .int (iI (o))] : List Value).toArray s (0) (0) A) (F0 m 52 ls []) := by
          intro k
          induction k with
          | zero =>
            intros; exact absurd (by assumption) (Nat.not_lt_zero _)
          | succ k ih =>
            intro T oz p9 hmeas hTo hsm eT0 hAc h10 hp0 hp1 hp2 hst M H locs hob hs0 h49 hfr hP hD hS ls hl
            have ih_15 := ih
            refine lv_iload hx hb dX12_parts_52 (lv_at hl 0 rfl) ?_
            refine lv_iload_n hx hb dX12_parts_54 rfl (lv_at hl 5 rfl) ?_
            refine lv_iload hx hb dX12_parts_55 (lv_at hl 2 rfl) ?_
            refine x_isub hx hb dX12_parts_57 ?_
            refine x_icmp_gt (tgt := 87) hx hb (by omega) (by omega) dX12_parts_58 (by decide) (fun c_58 => ?_) (fun c_58 => ?_)
            · refine x_retQv hx hb hr ?_ hP hD hS dX12_parts_87 hlocks
              refine ⟨rfl, hfr, oz, T, hob, hs0, hTo, hsm, ?_, hAc, h10⟩
              rw [zParts_step _ _ _ _ (by omega), show (lf - (S 0 - 1 - h) + 1 - zLst (S 0 - 1 - h) lf).toNat = (p9 - zLst (S 0 - 1 - h) lf).toNat by omega]
              exact hst
            · refine lv_aload_n hx hb dX12_parts_61 rfl (lv_at hl 3 rfl) ?_
              refine lv_iload_n hx hb dX12_parts_62 rfl (lv_at hl 4 rfl) ?_
              refine x_iconst hx hb dX12_parts_63 ?_
              refine lv_iload hx hb dX12_parts_64 (lv_at hl 0 rfl) ?_
              refine x_cqv0 (va_runV (As := [.int (iI (h)), .int (iI (2)), .int (iI (p9))]) (rest := []) ⟨hx, hb, hml, hown, hts⟩ (c_X12_puts l g (M, σ.2) A (oz) T hob hs0 hTo.1 (h) (by omega) (2) (by omega) (p9) (by omega)) (cwV 3 hts gX12_parts_X12_puts rfl rfl rfl (by decide +kernel) ⟨Nat.le_of_ble_eq_true rfl, Nat.le_of_ble_eq_true rfl⟩) (x_preVQ hK hP hD hS hA (x_recv hK hP (i := 37) (by decide) hob rfl)) rfl rfl hl.1 rfl (lv_room (Nat.le_of_ble_eq_true rfl)) dX12_parts_66 ⟨by decide, by decide⟩) hS (fun σ1 H locs hpost hP hD hS => ?_)
              obtain ⟨M_16, p1⟩ := σ1
              obtain ⟨hp0, hfrc, hnew⟩ := hpost
              obtain rfl : p1 = σ.2 := hp0
              have hP : xP g (M_16, σ.2) H := hP
              have hD : xD g A (M_16, σ.2) := hD
              have hob : MObj g M_16 oz := (hfrc (37) (by omega)).trans hob
              have h49 := (hfrc (49) (by omega)).trans h49
              have hfr := x_frc (F := fun j => j ≠ 37 ∧ j ≠ 38) hfr hfrc (fun j h => by have h : j ≠ 37 ∧ j ≠ 38 := h; omega)
              obtain ⟨S_17, hS_17⟩ : ∃ q : Int → Int, q = upI T (2 + 3 * (h) + (2)) (p9) := ⟨_, rfl⟩
              have hs0 : MArr g M_16 38 29 S_17 := by rw [hS_17]; exact hnew
              have rS_17 : ∀ k, inR (S_17 k) := by rw [hS_17]; exact upI_rng hTo.1 ⟨by omega, by omega⟩
              have eU : S_17 = upI T (2 + 3 * h + 2) p9 := by (rw [hS_17])
              have oU : SmOk S_17 := by (rw [eU]; exact SmOk_purse hTo (by omega) (by omega))
              have eU0 : S_17 0 = S 0 := by (rw [eU, upI_n (by omega)]; exact eT0)
              refine lv_aload_n hx hb dX12_parts_69 rfl (lv_at hl 3 rfl) ?_
              refine lv_iload_n hx hb dX12_parts_70 rfl (lv_at hl 4 rfl) ?_
              refine x_iconst hx hb dX12_parts_71 ?_
              refine x_iadd hx hb dX12_parts_72 ?_
              refine lv_iload_n hx hb dX12_parts_73 rfl (lv_at hl 5 rfl) ?_
              refine lv_iload hx hb dX12_parts_74 (lv_at hl 0 rfl) ?_
              refine x_isub hx hb dX12_parts_76 ?_
              refine lv_iload_n hx hb dX12_parts_77 rfl (lv_at hl 6 rfl) ?_
              refine x_cqv0 (va_runV (As := [.int (iI (h + 1)), .int (iI (lf - p9)), .int (iI (o))]) (rest := []) ⟨hx, hb, hml, hown, hts⟩ (c_X12_parts5 l g (M_16, σ.2) A (oz) S_17 hob hs0 oU Wz h49 (fun i a b => hW i a (by omega)) (by omega) (h + 1) (by omega) (lf - p9) (by omega) (o) (by omega) hAc) (cwV 3 hts gX12_parts_X12_parts rfl rfl rfl (by decide +kernel) ⟨Nat.le_of_ble_eq_true rfl, Nat.le_of_ble_eq_true rfl⟩) (x_preVQ hK hP hD hS hA (x_recv hK hP (i := 37) (by decide) hob rfl)) rfl rfl hl.1 rfl (lv_room (Nat.le_of_ble_eq_true rfl)) dX12_parts_78 ⟨by decide, by decide⟩) hS (fun σ1 H locs hpost hP hD hS => ?_)
              obtain ⟨M_18, p1⟩ := σ1
              obtain ⟨hp0, hfrc, ov_19, T_20, hnew, hnew2, okT_20, smT_20, hacov_19, hokov_19, h10ov_19⟩ := hpost
              obtain rfl : p1 = σ.2 := hp0
              have hP : xP g (M_18, σ.2) H := hP
              have hD : xD g A (M_18, σ.2) := hD
              have h49 := (hfrc (49) (by omega)).trans h49
              have hfr := x_frc (F := fun j => j ≠ 37 ∧ j ≠ 38) hfr hfrc (fun j h => by have h : j ≠ 37 ∧ j ≠ 38 := h; omega)
              have hob : MObj g M_18 ov_19 := hnew
              have hs0 : MArr g M_18 38 29 T_20 := hnew2
              refine x_iinc (k0 := 0) (lv' := [(6, .int (iI (p9 + 1))), (5, .int (iI (lf))), (4, .int (iI (((S (0)) - 1) - h))), (0, .ref (g.2.2 37)), (1, .int (iI (h))), (2, .int (iI (lf))), (3, .int (iI (o)))]) hx hb dX12_parts_81 hl rfl (by decide) rfl (fun ls hl => ?_)
              refine lv_goto (tgt := 52) hx hb dX12_parts_84 (by decide) ?_
              have hgo := zParts_go (W := Wz) (o := o) (lf := lf - p9) (p := p9) (q := zAc oz) hsm (by omega) (by omega)
              rw [← eU] at hgo
              exact ih_15 (T_20) (ov_19) (p9 + 1) (by omega) (by exact okT_20) (by exact zSam_back (by omega) hsm (eU ▸ smT_20)) (by exact (smT_20).1.trans eU0) (by exact hokov_19) (by exact h10ov_19.trans h10) (by omega) (by omega) (by omega) (by rw [zFold_succ _ _ hp0, ← hst, hacov_19]; exact hgo) (M_18) _ _ hob hs0 h49 hfr hP hD hS ls (lv_sub hl [0, 1, 2, 3, 4, 5, 6] rfl)
        exact hloop_52 ((((40 : Int) - ((lf))).toNat) + 1) (S) (ov) ((lf)) (by omega) (by exact hok) (by exact zSam_self) (by rfl) (by exact hAc) (by rfl) (by omega) (by omega) (by omega) (by rw [zFold_0 _ _ (by omega)]) (σ.1) _ _ hob hs0 h49 hfr hP hD hS ls (lv_sub hl [0, 1, 2, 3, 4, 5, 6] rfl)
  · refine lv_iload_n hx hb dX12_parts_10 rfl (lv_at hl 2 rfl) ?_
    refine x_if_ne (tgt := 19) hx hb (by omega) dX12_parts_11 (by decide) (fun c_11 => ?_) (fun c_11 => ?_)
    · refine x_retQv hx hb hr ?_ hP hD hS dX12_parts_19 hlocks
      refine ⟨rfl, hfr, ov, S, hob, hs0, hok, zSam_self, ?_, hAc, rfl⟩
      rw [zParts_end _ _ _ _ (by omega), if_neg (by omega)]
    · refine lv_aload_n hx hb dX12_parts_14 rfl (lv_at hl 0 rfl) ?_
      refine lv_iload_n hx hb dX12_parts_15 rfl (lv_at hl 3 rfl) ?_
      refine x_cqv0 (va_runV (As := [.int (iI (o))]) (rest := []) ⟨hx, hb, hml, hown, hts⟩ (c_X12_partsAre l g σ A (ov) S hob hs0 hok Wz h49 (fun i a b => hW i a (by omega)) (by omega) (o) (by omega) hAc) (cwV 1 hts gX12_parts_X12_partsAre rfl rfl rfl (by decide +kernel) ⟨Nat.le_of_ble_eq_true rfl, Nat.le_of_ble_eq_true rfl⟩) (x_preVQ hK hP hD hS hA (x_recv hK hP (i := 37) (by decide) hob rfl)) rfl rfl hl.1 rfl (lv_room (Nat.le_of_ble_eq_true rfl)) dX12_parts_16 ⟨by decide, by decide⟩) hS (fun σ1 H locs hpost hP hD hS => ?_)
      obtain ⟨M_21, p1⟩ := σ1
      obtain ⟨hp0, hfrc, ov_22, hnew, hacov_22, hokov_22, h10ov_22⟩ := hpost
      obtain rfl : p1 = σ.2 := hp0
      have hP : xP g (M_21, σ.2) H := hP
      have hD : xD g A (M_21, σ.2) := hD
      have hs0 := (hfrc (38) (by omega)).trans hs0
      have h49 := (hfrc (49) (by omega)).trans h49
      have hfr := x_frc (F := fun j => j ≠ 37 ∧ j ≠ 38) hfr hfrc (fun j h => by have h : j ≠ 37 ∧ j ≠ 38 := h; omega)
      have hob : MObj g M_21 ov_22 := hnew
      refine x_retQv hx hb hr ?_ hP hD hS dX12_parts_19 hlocks
      refine ⟨rfl, hfr, ov_22, S, hob, hs0, hok, zSam_self, ?_, hokov_22, h10ov_22⟩
      rw [zParts_end _ _ _ _ (by omega), if_pos (by omega)]
      exact hacov_22
