def zGivenC (Kp So Sz : Int → Int) (R : Int → Int) (K : Int → Nat) (F P : Int → Int) (n rd d wh r : Int) : Prop := (¬ ((0 ≤ d ∧ d ≤ 7) ∧ (0 ≤ wh ∧ wh ≤ 1)) ∧ r = -1) ∨ ((0 ≤ d ∧ d ≤ 7) ∧ (0 ≤ wh ∧ wh ≤ 1) ∧ zRowR Kp So d 1 ≠ 0 ∧ r = zRowR Kp So d 1) ∨ ((0 ≤ d ∧ d ≤ 7) ∧ (0 ≤ wh ∧ wh ≤ 1) ∧ zRowR Kp So d 1 = 0 ∧ ¬ zGivOk n R (Sz d) ∧ r = -13) ∨ ((0 ≤ d ∧ d ≤ 7) ∧ (0 ≤ wh ∧ wh ≤ 1) ∧ zRowR Kp So d 1 = 0 ∧ zGivOk n R (Sz d) ∧ r = zGiven R K F P n rd wh (Sz d))
theorem zGiftR_congr {P P2 : Int → Int} {n a b c : Int} (h : ∀ i, 0 ≤ i → i < n → P i = P2 i) : zGiftR P n a b c = zGiftR P2 n a b c := by
  unfold zGiftR
  by_cases q : ¬ (0 ≤ a ∧ a < n ∧ 0 ≤ b ∧ b < n ∧ a ≠ b) ∨ c < 1
  · rw [if_pos q, if_pos q]
  · rw [if_neg q, if_neg q, h a (by omega) (by omega), h b (by omega) (by omega)]
theorem zGift_congr {P P2 : Int → Int} {n a b c i : Int} (h : ∀ i, 0 ≤ i → i < n → P i = P2 i) (ha : 0 ≤ a ∧ a < n) (hb : 0 ≤ b ∧ b < n) (h0 : 0 ≤ i) (h1 : i < n) : zGift P a b c i = zGift P2 a b c i := by
  unfold zGift upI
  rw [h a ha.1 ha.2, h b hb.1 hb.2, h i h0 h1]

set_option maxHeartbeats 4000000 in
set_option maxRecDepth 100000 in
theorem c_X11_given (l : Launch) (g : xG) (σ : xS) (A : Nat → Prop) (ph : Nat) (tk : Int) (hx0 : XObj g σ.1 ph tk) (n rd : Int) (P : Int → Int) (G : Int → Option Nat) (hst : StAt g σ.1 1 n rd P G) (hok : StOk σ n rd P G) (hH : HsOk σ) (nm rm : Int) (Pm : Int → Int) (Gm : Int → Option Nat) (hsm9 : StAt g σ.1 7 nm rm Pm Gm) (hom : StOk σ nm rm Pm Gm) (Kf : Int → Option Nat) (So Sz : Int → Int) (h25 : MRef g σ.1 25 8 Kf) (h26 : MArr g σ.1 26 8 So) (h27 : MArr g σ.1 27 8 Sz) (hxs : XsOk σ Kf So Sz) (El : Int → Int → Int) (h28 : MGrid g σ.1) (hrow : ∀ d, 0 ≤ d → d ≤ 7 → MArr g σ.1 (29 + d.toNat) 100 (El d)) (hEl : ∀ d k, inR (El d k)) (d : Int) (hd : inR d) (wh : Int) (hw : inR wh) : Met l yX11_given wsX11_given ({ frames := 7, cells := 0, slots := 0, locals := 224 }) (va_Pc [.ref (g.2.2 0), .int (iI (d)), .int (iI (wh))] (xPreQ g A σ)) (x_Qi g A (fun r σ1 => σ1.2 = σ.2 ∧ (∀ j, j ≠ 7 ∧ j ≠ 8 ∧ j ≠ 9 → σ1.1 j = σ.1 j) ∧ zGivenC (xKp Kf So) So Sz (El d) (sK σ G) (sF σ G) P n rd d wh r ∧ xStr g σ1.1 σ 7)) (0) (0) A := by
  refine Met.ofW (cc := cX11_given) (maxL := 6) (ret := (some .int)) (by decide) rfl ?_
  intro p e s m args below meth c s₁ B hml hv
  obtain ⟨rfl, hP, hK, hD, hA⟩ := hv
  have hx := B.exec
  have hb := B.bytes
  have hr := B.returns
  have hts := atoms_spec (ws := wsX11_given) B.pre
  have hown : s.vm.findClass RX11 = some m.cls := findClass_of_methodNamed B.named
  have hlocks := B.notSynchronized
  have hS : va_S A s.heap s.heap [] := va_S.rf
  have hfr : ∀ j, (j ≠ 7 ∧ j ≠ 8 ∧ j ≠ 9) → σ.1 j = σ.1 j := fun _ _ => rfl
  have hl := lv_entry ([.ref (g.2.2 0), .int (iI (d)), .int (iI (wh))]) (n := 6) (Nat.le_of_ble_eq_true rfl)
  rw [lg_entry_eq]
  generalize (lg_sl ([.ref (g.2.2 0), .int (iI (d)), .int (iI (wh))]) ++ List.replicate (6 - (lg_sl ([.ref (g.2.2 0), .int (iI (d)), .int (iI (wh))])).length) Slot.unset).toArray = ls at hl ⊢
  have hl : lv_has ls 6 [(0, .ref (g.2.2 0)), (1, .int (iI (d))), (2, .int (iI (wh)))] := hl
  have hm0 : σ.1 1 = .inr (7, [.ref (g.2.2 2), .ref (g.2.2 3), .int (iI n), .int (iI rd)]) := hst.1
  have hm1 : MRef g σ.1 2 9 G := hst.2.1
  have hm2 : MArr g σ.1 3 9 P := hst.2.2
  have hok1 := hok.1
  have hok2 := hok.2.1
  have hok3 := hok.2.2.1
  have hqm0 : σ.1 7 = .inr (7, [.ref (g.2.2 8), .ref (g.2.2 9), .int (iI nm), .int (iI rm)]) := hsm9.1
  have hqm1 : MRef g σ.1 8 9 Gm := hsm9.2.1
  have hqm2 : MArr g σ.1 9 9 Pm := hsm9.2.2
  have hom1 := hom.1
  have hom2 := hom.2.1
  have hom3 := hom.2.2.1
  have hw_0 := hts (.fieldLink RX11 58 "TwiceAsRich" "rows" "[[I") (by decide +kernel)
  have hin_X11 : ∀ w ∈ wsX110, w ∈ wsX11_given := by decide +kernel
  have hw_2 := hts (.fieldLink RX11 53 "TwiceAsRich" "sizes" "[I") (by decide +kernel)
  have hw_3 := hts (.fieldLink RX11 19 "TwiceAsRich" "mind" "LTwiceAsRich$Street;") (by decide +kernel)
  have hw_4 := hts (.fieldLink RX11 10 "TwiceAsRich" "street" "LTwiceAsRich$Street;") (by decide +kernel)
  refine lv_iload_n hx hb dX11_given_0 rfl (lv_at hl 2 rfl) ?_
  refine x_if_eq (tgt := 11) hx hb (by omega) dX11_given_1 (by decide) (fun c_1 => ?_) (fun c_1 => ?_)
  · refine lv_aload_n hx hb dX11_given_11 rfl (lv_at hl 0 rfl) ?_
    refine lv_iload_n hx hb dX11_given_12 rfl (lv_at hl 1 rfl) ?_
    refine x_iconst hx hb dX11_given_13 ?_
    refine x_ci (va_runV (As := [.int (iI (d)), .int (iI (1))]) (rest := []) ⟨hx, hb, hml, hown, hts⟩ (c_X11_sortRefusal l g σ ph tk hx0 Kf So Sz h25 h26 h27 hxs (d) (by omega) (1) (by omega)) (cwV 2 hts gX11_given_X11_sortRefusal rfl rfl rfl (by decide +kernel) ⟨Nat.le_of_ble_eq_true rfl, Nat.le_of_ble_eq_true rfl⟩) (x_preV hK hP (x_recv hK hP (i := 0) (by decide) hx0 rfl)) rfl rfl hl.1 rfl (lv_room (Nat.le_of_ble_eq_true rfl)) dX11_given_14 ⟨Nat.le_of_ble_eq_true rfl, Nat.le_of_ble_eq_true rfl⟩) (fun r_14 hr_14 qr_14 => ?_)
    replace qr_14 : r_14 = zRowR (xKp Kf So) So (d) (1) := qr_14
    refine lv_istore_n (lv' := [(3, .int (iI (r_14))), (0, .ref (g.2.2 0)), (1, .int (iI (d))), (2, .int (iI (wh)))]) hx hb dX11_given_17 rfl hl (by decide) rfl (fun ls hl => ?_)
    refine lv_iload_n hx hb dX11_given_18 rfl (lv_at hl 0 rfl) ?_
    refine x_if_eq (tgt := 24) hx hb (by omega) dX11_given_19 (by decide) (fun c_19 => ?_) (fun c_19 => ?_)
    · have hk0 := zRowR_0 qr_14 (by omega)
      have hr0 : zRowR (xKp Kf So) So d 1 = 0 := by omega
      have hk9 := xKp_so hxs (d := d) (by omega) (by omega)
      have hSz : 0 ≤ Sz d ∧ Sz d ≤ 100 := by omega
      refine lv_aload_n hx hb dX11_given_24 rfl (lv_at hl 1 rfl) ?_
      refine lv_aload_n hx hb dX11_given_25 rfl (lv_at hl 1 rfl) ?_
      refine x_get (C := RX11) (T := TX11) (N := 11) hx hb hts hin_X11 hown hK hP (0) (by decide) hx0 rfl 10 (by decide) hw_0 (fun _ h9 => h9) rfl dX11_given_26 ?_
      refine lv_iload_n hx hb dX11_given_29 rfl (lv_at hl 2 rfl) ?_
      obtain ⟨ri_1, eri_1⟩ : ∃ q : Nat, q = 29 + (d).toNat := ⟨_, rfl⟩
      have hG_ri_1 : xGf g (d) = some (g.2.2 ri_1) := by rw [eri_1]
      have hri_1 : MArr g σ.1 ri_1 100 (El (d)) := by rw [eri_1]; exact hrow (d) (by omega) (by omega)
      refine x_aalg (f := xGf g) hx hb hK hP (28) (by decide) h28 (by omega) (by omega) (by decide) hG_ri_1 dX11_given_30 ?_
      refine lv_aload_n hx hb dX11_given_31 rfl (lv_at hl 1 rfl) ?_
      refine x_get (C := RX11) (T := TX11) (N := 11) hx hb hts hin_X11 hown hK hP (0) (by decide) hx0 rfl 9 (by decide) hw_2 (fun _ h9 => h9) rfl dX11_given_32 ?_
      refine lv_iload_n hx hb dX11_given_35 rfl (lv_at hl 2 rfl) ?_
      refine x_iald (f := Sz) hx hb hK hP (27) (by decide) h27 (by omega) (by omega) (by decide) dX11_given_36 ?_
      have hb_2 := hxs.2.1 (d)
      refine x_ci (va_runV (As := [.ref (g.2.2 (ri_1)), .int (iI (Sz (d)))]) (rest := []) ⟨hx, hb, hml, hown, hts⟩ (c_X11_areGifts l g σ ph tk hx0 n rd P G ⟨hm0, hm1, hm2⟩ hok hH ri_1 (by have hxN : xN = 51 := rfl; omega) (El (d)) hri_1 (fun k => hEl d k) (Sz (d)) (by omega)) (cwV 2 hts gX11_given_X11_areGifts rfl rfl rfl (by decide +kernel) ⟨Nat.le_of_ble_eq_true rfl, Nat.le_of_ble_eq_true rfl⟩) (x_preV hK hP (x_recv hK hP (i := 0) (by decide) hx0 rfl)) rfl rfl hl.1 rfl (lv_room (Nat.le_of_ble_eq_true rfl)) dX11_given_37 ⟨Nat.le_of_ble_eq_true rfl, Nat.le_of_ble_eq_true rfl⟩) (fun r_37 hr_37 qr_37 => ?_)
      replace qr_37 : (r_37 = 1 ∧ zGivOk n (El (d)) (Sz (d))) ∨ (r_37 = 0 ∧ ¬ zGivOk n (El (d)) (Sz (d))) := qr_37
      refine x_if_ne (tgt := 46) hx hb (by omega) dX11_given_40 (by decide) (fun c_40 => ?_) (fun c_40 => ?_)
      · have hgo : zGivOk n (El d) (Sz d) := by (rcases qr_37 with q | q; exact q.2; omega)
        have hz3 := hgo.1
        clear qr_37
        refine lv_aload_n hx hb dX11_given_46 rfl (lv_at hl 1 rfl) ?_
        refine x_get (C := RX11) (T := TX11) (N := 11) hx hb hts hin_X11 hown hK hP (0) (by decide) hx0 rfl 3 (by decide) hw_3 (fun _ h9 => h9) rfl dX11_given_47 ?_
        refine lv_aload_n hx hb dX11_given_50 rfl (lv_at hl 1 rfl) ?_
        refine x_get (C := RX11) (T := TX11) (N := 11) hx hb hts hin_X11 hown hK hP (0) (by decide) hx0 rfl 0 (by decide) hw_4 (fun _ h9 => h9) rfl dX11_given_51 ?_
        refine x_cqv0 (va_runV (As := [.ref (g.2.2 1)]) (rest := []) ⟨hx, hb, hml, hown, hts⟩ (c_X7_become l g σ A (7) (by decide) (nm) (rm) Pm Gm ⟨hqm0, hqm1, hqm2⟩ hom hH (1) (by decide) (by decide) (n) (rd) P G ⟨hm0, hm1, hm2⟩ hok) (cwV 1 hts gX11_given_X7_become rfl rfl rfl (by decide +kernel) ⟨Nat.le_of_ble_eq_true rfl, Nat.le_of_ble_eq_true rfl⟩) (x_preVQ hK hP hD hS hA (x_recv hK hP (i := 7) (by decide) hqm0 rfl)) rfl rfl hl.1 rfl (lv_room (Nat.le_of_ble_eq_true rfl)) dX11_given_54 ⟨by decide, by decide⟩) hS (fun σ1 H locs hpost hP hD hS => ?_)
        obtain ⟨M_3, p1⟩ := σ1
        obtain ⟨hp0, hfrc, hnst⟩ := hpost
        obtain rfl : p1 = σ.2 := hp0
        have hP : xP g (M_3, σ.2) H := hP
        have hD : xD g A (M_3, σ.2) := hD
        have hx0 := (hfrc (0) (by omega)).trans hx0
        have hm0 := (hfrc (1) (by omega)).trans hm0
        have hm1 := (hfrc (2) (by omega)).trans hm1
        have hm2 := (hfrc (3) (by omega)).trans hm2
        have h25 := (hfrc (25) (by omega)).trans h25
        have h26 := (hfrc (26) (by omega)).trans h26
        have h27 := (hfrc (27) (by omega)).trans h27
        have h28 := (hfrc (28) (by omega)).trans h28
        have hri_1 := (hfrc (ri_1) (by omega)).trans hri_1
        have hfr := x_frc (F := fun j => j ≠ 7 ∧ j ≠ 8 ∧ j ≠ 9) hfr hfrc (fun j h => by have h : j ≠ 7 ∧ j ≠ 8 ∧ j ≠ 9 := h; omega)
        obtain ⟨Pn_4, hPn_4⟩ : ∃ q : Int → Int, q = zCopy P Pm 9 := ⟨_, rfl⟩
        obtain ⟨Gn_5, hGn_5⟩ : ∃ q : Int → Option Nat, q = zCopy G Gm 9 := ⟨_, rfl⟩
        have ost_6 : StOk σ (n) (rd) Pn_4 Gn_5 := by rw [hPn_4, hGn_5]; exact StOk_become hom hok
        rw [← hPn_4, ← hGn_5] at hnst
        have hqm0 : M_3 (7) = .inr (7, [.ref (g.2.2 8), .ref (g.2.2 9), .int (iI (n)), .int (iI (rd))]) := hnst.1
        have hqm1 : MRef g M_3 8 9 Gn_5 := hnst.2.1
        have hqm2 : MArr g M_3 9 9 Pn_4 := hnst.2.2
        have hcp : zSame (sK σ Gn_5) (sK σ G) (sF σ Gn_5) (sF σ G) Pn_4 P n := by (rw [hGn_5, hPn_4]; exact zSame_copy (by omega))
        refine x_iconst hx hb dX11_given_57 ?_
        refine lv_istore (lv' := [(4, .int (iI (0))), (3, .int (iI (r_14))), (0, .ref (g.2.2 0)), (1, .int (iI (d))), (2, .int (iI (wh)))]) hx hb dX11_given_58 hl (by decide) rfl (fun ls hl => ?_)
        refine x_iconst hx hb dX11_given_60 ?_
        refine lv_istore (lv' := [(5, .int (iI (0))), (4, .int (iI (0))), (3, .int (iI (r_14))), (0, .ref (g.2.2 0)), (1, .int (iI (d))), (2, .int (iI (wh)))]) hx hb dX11_given_61 hl (by decide) rfl (fun ls hl => ?_)
        have hloop_63 : ∀ (k : Nat) (T : Int → Int) (G9 : Int → Option Nat) (PP : Int → Int) (i : Int) (ct : Int), (Sz d - i).toNat < k → (hi0 : 0 ≤ i ∧ i % 3 = 0) → (hi1 : i ≤ Sz d) → (hct : 0 ≤ ct ∧ ct ≤ i) → (hTo : StOk σ n rd T G9) → (hcp8 : ∀ i, 0 ≤ i → i < n → sK σ G9 i = sK σ G i ∧ sF σ G9 i = sF σ G i) → (hTP : ∀ i, 0 ≤ i → i < n → T i = PP i) → (hst : (PP, ct) = zGvN (El d) P n (i / 3).toNat) → ∀ (M : xM) (H : Heap) (locs : List Loc), (hx0 : M (0) = .inr (11, [.ref (g.2.2 1), .ref (g.2.2 4), .int (iI (tk)), .ref (g.2.2 7), .ref ph, .ref (g.2.2 13), .ref (g.2.2 23), .ref (g.2.2 25), .ref (g.2.2 26), .ref (g.2.2 27), .ref (g.2.2 28)])) → (hm0 : M (1) = .inr (7, [.ref (g.2.2 2), .ref (g.2.2 3), .int (iI (n)), .int (iI (rd))])) → (hm1 : M (2) = .inl (g.2.1 1, 9, .inr (.inr (.inr (.inr (fun k => G (k : Int))))))) → (hm2 : M (3) = .inl (g.2.1 0, 9, .inl (fun k => iI (P (k : Int))))) → (hqm0 : M (7) = .inr (7, [.ref (g.2.2 8), .ref (g.2.2 9), .int (iI (n)), .int (iI (rd))])) → (hqm1 : M (8) = .inl (g.2.1 1, 9, .inr (.inr (.inr (.inr (fun k => G9 (k : Int))))))) → (hqm2 : M (9) = .inl (g.2.1 0, 9, .inl (fun k => iI (T (k : Int))))) → (h25 : M (25) = .inl (g.2.1 1, 8, .inr (.inr (.inr (.inr (fun k => Kf (k : Int))))))) → (h26 : M (26) = .inl (g.2.1 0, 8, .inl (fun k => iI (So (k : Int))))) → (h27 : M (27) = .inl (g.2.1 0, 8, .inl (fun k => iI (Sz (k : Int))))) → (h28 : M (28) = .inl (g.2.1 2, 8, .inr (.inr (.inr (.inr (fun k => xGf g (k : Int))))))) → (hri_1 : M (ri_1) = .inl (g.2.1 0, 100, .inl (fun k => iI ((El (d)) (k : Int))))) → (hfr : ∀ j, (j ≠ 7 ∧ j ≠ 8 ∧ j ≠ 9) → M j = σ.1 j) → xP g (M, σ.2) H → xD g A (M, σ.2) → va_S A s.heap H locs → ∀ (ls : Array Slot), lv_has ls 6 [(5, .int (iI (i))), (4, .int (iI (ct))), (3, .int (iI (r_14))), (0, .ref (g.2.2 0)), (1, .int (iI (d))), (2, .int (iI (wh)))] → W p l e (headSpec wsX11_given ({ frames := 7, cells := 0, slots := 0, locals := 224 })).room s m ([.ref (g.2.2 0), .int (iI (d)), .int (iI (wh))] : List Value).toArray below meth c H locs 0 0 (MQ below (x_Qi g A (fun r σ1 => σ1.2 = σ.2 ∧ (∀ j, j ≠ 7 ∧ j ≠ 8 ∧ j ≠ 9 → σ1.1 j = σ.1 j) ∧ zGivenC (xKp Kf So) So Sz (El d) (sK σ G) (sF σ G) P n rd d wh r ∧ xStr g σ1.1 σ 7)) ([.ref (g.2.2 0), .int (iI (d)), .int (iI (wh))] : List Value).toArray s (0) (0) A) (F0 m 63 ls []) := by
          intro k
          induction k with
          | zero =>
            intros; exact absurd (by assumption) (Nat.not_lt_zero _)
          | succ k ih =>
            intro T G9 PP i ct hmeas hi0 hi1 hct hTo hcp8 hTP hst M H locs hx0 hm0 hm1 hm2 hqm0 hqm1 hqm2 h25 h26 h27 h28 hri_1 hfr hP hD hS ls hl
            have ih_7 := ih
            refine lv_iload hx hb dX11_given_63 (lv_at hl 0 rfl) ?_
            refine x_iconst hx hb dX11_given_65 ?_
            refine x_iadd hx hb dX11_given_66 ?_
            refine lv_aload_n hx hb dX11_given_67 rfl (lv_at hl 3 rfl) ?_
            refine x_get (C := RX11) (T := TX11) (N := 11) hx hb hts hin_X11 hown hK hP (0) (by decide) hx0 rfl 9 (by decide) hw_2 (fun _ h9 => h9) rfl dX11_given_68 ?_
            refine lv_iload_n hx hb dX11_given_71 rfl (lv_at hl 4 rfl) ?_
            refine x_iald (f := Sz) hx hb hK hP (27) (by decide) h27 (by omega) (by omega) (by decide) dX11_given_72 ?_
            have hb_8 := hxs.2.1 (d)
            refine x_icmp_gt (tgt := 126) hx hb (by omega) (by omega) dX11_given_73 (by decide) (fun c_73 => ?_) (fun c_73 => ?_)
            · refine lv_iload_n hx hb dX11_given_126 rfl (lv_at hl 5 rfl) ?_
              refine x_if_ne (tgt := 140) hx hb (by omega) dX11_given_127 (by decide) (fun c_127 => ?_) (fun c_127 => ?_)
              · refine lv_iload hx hb dX11_given_140 (lv_at hl 1 rfl) ?_
                refine x_retQ hx hb hr (by omega) ?_ hP hD hS dX11_given_142 hlocks
                refine ⟨rfl, hfr, Or.inr (Or.inr (Or.inr ⟨by omega, by omega, hr0, hgo, ?_⟩)), _, _, _, _, ⟨hqm0, hqm1, hqm2⟩, hTo⟩
                have ei : i = Sz d := by omega
                rw [ei] at hst
                unfold zGiven
                rw [if_neg (by omega), ← hst]
              · refine lv_aload_n hx hb dX11_given_130 rfl (lv_at hl 3 rfl) ?_
                refine x_get (C := RX11) (T := TX11) (N := 11) hx hb hts hin_X11 hown hK hP (0) (by decide) hx0 rfl 3 (by decide) hw_3 (fun _ h9 => h9) rfl dX11_given_131 ?_
                refine x_ci (va_runV (As := []) (rest := []) ⟨hx, hb, hml, hown, hts⟩ (c_X7_allBreaches l g (M, σ.2) (7) (by decide) (n) (rd) T G9 ⟨hqm0, hqm1, hqm2⟩ hTo hH ) (cwV 0 hts gX11_given_X7_allBreaches rfl rfl rfl (by decide +kernel) ⟨Nat.le_of_ble_eq_true rfl, Nat.le_of_ble_eq_true rfl⟩) (x_preV hK hP (x_recv hK hP (i := 7) (by decide) hqm0 rfl)) rfl rfl hl.1 rfl (lv_room (Nat.le_of_ble_eq_true rfl)) dX11_given_134 ⟨Nat.le_of_ble_eq_true rfl, Nat.le_of_ble_eq_true rfl⟩) (fun r_134 hr_134 qr_134 => ?_)
                replace qr_134 : r_134 = zAll (sK σ (G9)) (sF σ (G9)) (T) (n) (rd) ∧ 0 ≤ r_134 ∧ r_134 ≤ 18 := qr_134
                refine lv_goto (tgt := 142) hx hb dX11_given_137 (by decide) ?_
                refine x_retQ hx hb hr (by omega) ?_ hP hD hS dX11_given_142 hlocks
                refine ⟨rfl, hfr, Or.inr (Or.inr (Or.inr ⟨by omega, by omega, hr0, hgo, ?_⟩)), _, _, _, _, ⟨hqm0, hqm1, hqm2⟩, hTo⟩
                have ei : i = Sz d := by omega
                rw [ei] at hst
                unfold zGiven
                rw [if_pos (by omega), ← hst]
                rw [qr_134.1]
                exact zAll_congr (fun j h0 h1 => ⟨(hcp8 j h0 h1).1, (hcp8 j h0 h1).2, hTP j h0 h1⟩)
            · refine lv_aload_n hx hb dX11_given_76 rfl (lv_at hl 3 rfl) ?_
              refine x_get (C := RX11) (T := TX11) (N := 11) hx hb hts hin_X11 hown hK hP (0) (by decide) hx0 rfl 3 (by decide) hw_3 (fun _ h9 => h9) rfl dX11_given_77 ?_
              refine lv_aload_n hx hb dX11_given_80 rfl (lv_at hl 3 rfl) ?_
              refine x_get (C := RX11) (T := TX11) (N := 11) hx hb hts hin_X11 hown hK hP (0) (by decide) hx0 rfl 10 (by decide) hw_0 (fun _ h9 => h9) rfl dX11_given_81 ?_
              refine lv_iload_n hx hb dX11_given_84 rfl (lv_at hl 4 rfl) ?_
              obtain ⟨ri_9, eri_9⟩ : ∃ q : Nat, q = 29 + (d).toNat := ⟨_, rfl⟩
              have hG_ri_9 : xGf g (d) = some (g.2.2 ri_9) := by rw [eri_9]
              have hri_9 : MArr g M ri_9 100 (El (d)) := by rw [eri_9]; exact (hfr _ (by omega)).trans (hrow (d) (by omega) (by omega))
              refine x_aalg (f := xGf g) hx hb hK hP (28) (by decide) h28 (by omega) (by omega) (by decide) hG_ri_9 dX11_given_85 ?_
              refine lv_iload hx hb dX11_given_86 (lv_at hl 0 rfl) ?_
              refine x_iald (f := (El (d))) hx hb hK hP (ri_9) (by have hxN : xN = 51 := rfl; omega) hri_9 (by omega) (by omega) (by decide) dX11_given_88 ?_
              have hb_10 := hEl (d) (i)
              refine lv_aload_n hx hb dX11_given_89 rfl (lv_at hl 3 rfl) ?_
              refine x_get (C := RX11) (T := TX11) (N := 11) hx hb hts hin_X11 hown hK hP (0) (by decide) hx0 rfl 10 (by decide) hw_0 (fun _ h9 => h9) rfl dX11_given_90 ?_
              refine lv_iload_n hx hb dX11_given_93 rfl (lv_at hl 4 rfl) ?_
              obtain ⟨ri_11, eri_11⟩ : ∃ q : Nat, q = 29 + (d).toNat := ⟨_, rfl⟩
              have hG_ri_11 : xGf g (d) = some (g.2.2 ri_11) := by rw [eri_11]
              have hri_11 : MArr g M ri_11 100 (El (d)) := by rw [eri_11]; exact (hfr _ (by omega)).trans (hrow (d) (by omega) (by omega))
              refine x_aalg (f := xGf g) hx hb hK hP (28) (by decide) h28 (by omega) (by omega) (by decide) hG_ri_11 dX11_given_94 ?_
              refine lv_iload hx hb dX11_given_95 (lv_at hl 0 rfl) ?_
              refine x_iconst hx hb dX11_given_97 ?_
              refine x_iadd hx hb dX11_given_98 ?_
              refine x_iald (f := (El (d))) hx hb hK hP (ri_11) (by have hxN : xN = 51 := rfl; omega) hri_11 (by omega) (by omega) (by decide) dX11_given_99 ?_
              have hb_12 := hEl (d) (i + 1)
              refine lv_aload_n hx hb dX11_given_100 rfl (lv_at hl 3 rfl) ?_
              refine x_get (C := RX11) (T := TX11) (N := 11) hx hb hts hin_X11 hown hK hP (0) (by decide) hx0 rfl 10 (by decide) hw_0 (fun _ h9 => h9) rfl dX11_given_101 ?_
              refine lv_iload_n hx hb dX11_given_104 rfl (lv_at hl 4 rfl) ?_
              obtain ⟨ri_13, eri_13⟩ : ∃ q : Nat, q = 29 + (d).toNat := ⟨_, rfl⟩
              have hG_ri_13 : xGf g (d) = some (g.2.2 ri_13) := by rw [eri_13]
              have hri_13 : MArr g M ri_13 100 (El (d)) := by rw [eri_13]; exact (hfr _ (by omega)).trans (hrow (d) (by omega) (by omega))
              refine x_aalg (f := xGf g) hx hb hK hP (28) (by decide) h28 (by omega) (by omega) (by decide) hG_ri_13 dX11_given_105 ?_
              refine lv_iload hx hb dX11_given_106 (lv_at hl 0 rfl) ?_
              refine x_iconst hx hb dX11_given_108 ?_
              refine x_iadd hx hb dX11_given_109 ?_
              refine x_iald (f := (El (d))) hx hb hK hP (ri_13) (by have hxN : xN = 51 := rfl; omega) hri_13 (by omega) (by omega) (by decide) dX11_given_110 ?_
              have hb_14 := hEl (d) (i + 2)
              refine x_cqi0 (va_runV (As := [.int (iI (((El (d))) (i))), .int (iI (((El (d))) (i + 1))), .int (iI (((El (d))) (i + 2)))]) (rest := []) ⟨hx, hb, hml, hown, hts⟩ (c_X7_gift l g (M, σ.2) A (7) (by decide) (n) (rd) T G9 ⟨hqm0, hqm1, hqm2⟩ hTo hH (((El (d))) (i)) (by omega) (((El (d))) (i + 1)) (by omega) (((El (d))) (i + 2)) (by omega)) (cwV 3 hts gX11_given_X7_gift rfl rfl rfl (by decide +kernel) ⟨Nat.le_of_ble_eq_true rfl, Nat.le_of_ble_eq_true rfl⟩) (x_preVQ hK hP hD hS hA (x_recv hK hP (i := 7) (by decide) hqm0 rfl)) rfl rfl hl.1 rfl (lv_room (Nat.le_of_ble_eq_true rfl)) dX11_given_111 ⟨by decide, by decide⟩) hS (fun r_111 σ1 H locs hr_111 hpost hP hD hS => ?_)
              obtain ⟨M_15, p1⟩ := σ1
              obtain ⟨hp0, hfrc, qr_111, hnst⟩ := hpost
              obtain rfl : p1 = σ.2 := hp0
              have hP : xP g (M_15, σ.2) H := hP
              have hD : xD g A (M_15, σ.2) := hD
              have hx0 := (hfrc (0) (by omega)).trans hx0
              have hm0 := (hfrc (1) (by omega)).trans hm0
              have hm1 := (hfrc (2) (by omega)).trans hm1
              have hm2 := (hfrc (3) (by omega)).trans hm2
              have h25 := (hfrc (25) (by omega)).trans h25
              have h26 := (hfrc (26) (by omega)).trans h26
              have h27 := (hfrc (27) (by omega)).trans h27
              have h28 := (hfrc (28) (by omega)).trans h28
              have hri_1 := (hfrc (ri_1) (by omega)).trans hri_1
              have hri_9 := (hfrc (ri_9) (by omega)).trans hri_9
              have hri_11 := (hfrc (ri_11) (by omega)).trans hri_11
              have hri_13 := (hfrc (ri_13) (by omega)).trans hri_13
              have hfr := x_frc (F := fun j => j ≠ 7 ∧ j ≠ 8 ∧ j ≠ 9) hfr hfrc (fun j h => by have h : j ≠ 7 ∧ j ≠ 8 ∧ j ≠ 9 := h; omega)
              obtain ⟨Pn_16, hPn_16⟩ : ∃ q : Int → Int, q = if zGiftR T (n) (((El (d))) (i)) (((El (d))) (i + 1)) (((El (d))) (i + 2)) = 0 then zGift T (((El (d))) (i)) (((El (d))) (i + 1)) (((El (d))) (i + 2)) else T := ⟨_, rfl⟩
              obtain ⟨Gn_17, hGn_17⟩ : ∃ q : Int → Option Nat, q = G9 := ⟨_, rfl⟩
              have ost_18 : StOk σ (n) (rd) Pn_16 Gn_17 := by rw [hPn_16, hGn_17]; exact StOk_gift hTo
              rw [← hPn_16, ← hGn_17] at hnst
              have hqm0 : M_15 (7) = .inr (7, [.ref (g.2.2 8), .ref (g.2.2 9), .int (iI (n)), .int (iI (rd))]) := hnst.1
              have hqm1 : MRef g M_15 8 9 Gn_17 := hnst.2.1
              have hqm2 : MArr g M_15 9 9 Pn_16 := hnst.2.2
              have hgc := zGiftR_congr (a := El d i) (b := El d (i + 1)) (c := El d (i + 2)) hTP
              refine x_if_ne (tgt := 120) hx hb (by omega) dX11_given_114 (by decide) (fun c_114 => ?_) (fun c_114 => ?_)
              · refine x_iinc (k0 := 0) (lv' := [(5, .int (iI (i + 3))), (4, .int (iI (ct))), (3, .int (iI (r_14))), (0, .ref (g.2.2 0)), (1, .int (iI (d))), (2, .int (iI (wh)))]) hx hb dX11_given_120 hl rfl (by decide) rfl (fun ls hl => ?_)
                refine lv_goto (tgt := 63) hx hb dX11_given_123 (by decide) ?_
                exact ih_7 (Pn_16) (Gn_17) (if zGiftR PP n (El d i) (El d (i + 1)) (El d (i + 2)) = 0 then zGift PP (El d i) (El d (i + 1)) (El d (i + 2)) else PP) (i + 3) (ct) (by omega) (by omega) (by omega) (by omega) (by exact ost_18) (by rw [hGn_17]; exact hcp8) (by rw [hPn_16, hgc]; intro j h0 h1; split; (rename_i q; have z := zGiftR_0 rfl q; exact zGift_congr hTP (by omega) (by omega) h0 h1); exact hTP j h0 h1) (by rw [zGvN_succ _ _ _ hi0.1 hi0.2, ← hst]; (show _ = (if zGiftR PP n (El d i) (El d (i + 1)) (El d (i + 2)) = 0 then (zGift PP (El d i) (El d (i + 1)) (El d (i + 2)), ct + 1) else (PP, ct))); first | (have q : zGiftR PP n (El d i) (El d (i + 1)) (El d (i + 2)) = 0 := (by omega)); (rw [if_pos q, if_pos q]; done) | (have q : ¬ zGiftR PP n (El d i) (El d (i + 1)) (El d (i + 2)) = 0 := (by omega)); (rw [if_neg q, if_neg q]; done)) (M_15) _ _ hx0 hm0 hm1 hm2 hqm0 hqm1 hqm2 h25 h26 h27 h28 hri_1 hfr hP hD hS ls (lv_sub hl [0, 1, 2, 3, 4, 5] rfl)
              · refine x_iinc (k0 := 1) (lv' := [(4, .int (iI (ct + 1))), (5, .int (iI (i))), (3, .int (iI (r_14))), (0, .ref (g.2.2 0)), (1, .int (iI (d))), (2, .int (iI (wh)))]) hx hb dX11_given_117 hl rfl (by decide) rfl (fun ls hl => ?_)
                refine x_iinc (k0 := 1) (lv' := [(5, .int (iI (i + 3))), (4, .int (iI (ct + 1))), (3, .int (iI (r_14))), (0, .ref (g.2.2 0)), (1, .int (iI (d))), (2, .int (iI (wh)))]) hx hb dX11_given_120 hl rfl (by decide) rfl (fun ls hl => ?_)
                refine lv_goto (tgt := 63) hx hb dX11_given_123 (by decide) ?_
                exact ih_7 (Pn_16) (Gn_17) (if zGiftR PP n (El d i) (El d (i + 1)) (El d (i + 2)) = 0 then zGift PP (El d i) (El d (i + 1)) (El d (i + 2)) else PP) (i + 3) (ct + 1) (by omega) (by omega) (by omega) (by omega) (by exact ost_18) (by rw [hGn_17]; exact hcp8) (by rw [hPn_16, hgc]; intro j h0 h1; split; (rename_i q; have z := zGiftR_0 rfl q; exact zGift_congr hTP (by omega) (by omega) h0 h1); exact hTP j h0 h1) (by rw [zGvN_succ _ _ _ hi0.1 hi0.2, ← hst]; (show _ = (if zGiftR PP n (El d i) (El d (i + 1)) (El d (i + 2)) = 0 then (zGift PP (El d i) (El d (i + 1)) (El d (i + 2)), ct + 1) else (PP, ct))); first | (have q : zGiftR PP n (El d i) (El d (i + 1)) (El d (i + 2)) = 0 := (by omega)); (rw [if_pos q, if_pos q]; done) | (have q : ¬ zGiftR PP n (El d i) (El d (i + 1)) (El d (i + 2)) = 0 := (by omega)); (rw [if_neg q, if_neg q]; done)) (M_15) _ _ hx0 hm0 hm1 hm2 hqm0 hqm1 hqm2 h25 h26 h27 h28 hri_1 hfr hP hD hS ls (lv_sub hl [0, 1, 2, 3, 4, 5] rfl)
        exact hloop_63 (((Sz d - (0)).toNat) + 1) (Pn_4) (Gn_5) (P) (0) (0) (by omega) (by omega) (by omega) (by omega) (by exact ost_6) (by exact fun i a b => ⟨(hcp i a b).1, (hcp i a b).2.1⟩) (by exact fun i a b => (hcp i a b).2.2) (by rfl) (M_3) _ _ hx0 hm0 hm1 hm2 hqm0 hqm1 hqm2 h25 h26 h27 h28 hri_1 hfr hP hD hS ls (lv_sub hl [0, 1, 2, 3, 4, 5] rfl)
      · have hno : ¬ zGivOk n (El d) (Sz d) := by (rcases qr_37 with q | q; omega; exact q.2)
        refine x_bipush (n := -13) hx hb (by decide +kernel) dX11_given_43 ?_
        refine x_retQ hx hb hr (by omega) ?_ hP hD hS dX11_given_45 hlocks
        exact ⟨rfl, hfr, Or.inr (Or.inr (Or.inl ⟨by omega, by omega, hr0, hno, rfl⟩)), nm, rm, Pm, Gm, hsm9, hom⟩
    · refine lv_iload_n hx hb dX11_given_22 rfl (lv_at hl 0 rfl) ?_
      refine x_retQ hx hb hr (by omega) ?_ hP hD hS dX11_given_23 hlocks
      refine ⟨rfl, hfr, ?_, nm, rm, Pm, Gm, hsm9, hom⟩
      by_cases hd9 : 0 ≤ d ∧ d ≤ 7
      · right; left; exact ⟨hd9, by omega, by omega, by omega⟩
      · left; refine ⟨fun q => hd9 q.1, ?_⟩
        rw [qr_14]; unfold zRowR; rw [if_pos hd9]
  · refine lv_iload_n hx hb dX11_given_4 rfl (lv_at hl 2 rfl) ?_
    refine x_iconst hx hb dX11_given_5 ?_
    refine x_icmp_eq (tgt := 11) hx hb (by omega) (by omega) dX11_given_6 (by decide) (fun c_6 => ?_) (fun c_6 => ?_)
    · refine lv_aload_n hx hb dX11_given_11 rfl (lv_at hl 0 rfl) ?_
      refine lv_iload_n hx hb dX11_given_12 rfl (lv_at hl 1 rfl) ?_
      refine x_iconst hx hb dX11_given_13 ?_
      refine x_ci (va_runV (As := [.int (iI (d)), .int (iI (1))]) (rest := []) ⟨hx, hb, hml, hown, hts⟩ (c_X11_sortRefusal l g σ ph tk hx0 Kf So Sz h25 h26 h27 hxs (d) (by omega) (1) (by omega)) (cwV 2 hts gX11_given_X11_sortRefusal rfl rfl rfl (by decide +kernel) ⟨Nat.le_of_ble_eq_true rfl, Nat.le_of_ble_eq_true rfl⟩) (x_preV hK hP (x_recv hK hP (i := 0) (by decide) hx0 rfl)) rfl rfl hl.1 rfl (lv_room (Nat.le_of_ble_eq_true rfl)) dX11_given_14 ⟨Nat.le_of_ble_eq_true rfl, Nat.le_of_ble_eq_true rfl⟩) (fun r_14 hr_14 qr_14 => ?_)
      replace qr_14 : r_14 = zRowR (xKp Kf So) So (d) (1) := qr_14
      refine lv_istore_n (lv' := [(3, .int (iI (r_14))), (0, .ref (g.2.2 0)), (1, .int (iI (d))), (2, .int (iI (wh)))]) hx hb dX11_given_17 rfl hl (by decide) rfl (fun ls hl => ?_)
      refine lv_iload_n hx hb dX11_given_18 rfl (lv_at hl 0 rfl) ?_
      refine x_if_eq (tgt := 24) hx hb (by omega) dX11_given_19 (by decide) (fun c_19 => ?_) (fun c_19 => ?_)
      · have hk0 := zRowR_0 qr_14 (by omega)
        have hr0 : zRowR (xKp Kf So) So d 1 = 0 := by omega
        have hk9 := xKp_so hxs (d := d) (by omega) (by omega)
        have hSz : 0 ≤ Sz d ∧ Sz d ≤ 100 := by omega
        refine lv_aload_n hx hb dX11_given_24 rfl (lv_at hl 1 rfl) ?_
        refine lv_aload_n hx hb dX11_given_25 rfl (lv_at hl 1 rfl) ?_
        refine x_get (C := RX11) (T := TX11) (N := 11) hx hb hts hin_X11 hown hK hP (0) (by decide) hx0 rfl 10 (by decide) hw_0 (fun _ h9 => h9) rfl dX11_given_26 ?_
        refine lv_iload_n hx hb dX11_given_29 rfl (lv_at hl 2 rfl) ?_
        obtain ⟨ri_19, eri_19⟩ : ∃ q : Nat, q = 29 + (d).toNat := ⟨_, rfl⟩
        have hG_ri_19 : xGf g (d) = some (g.2.2 ri_19) := by rw [eri_19]
        have hri_19 : MArr g σ.1 ri_19 100 (El (d)) := by rw [eri_19]; exact hrow (d) (by omega) (by omega)
        refine x_aalg (f := xGf g) hx hb hK hP (28) (by decide) h28 (by omega) (by omega) (by decide) hG_ri_19 dX11_given_30 ?_
        refine lv_aload_n hx hb dX11_given_31 rfl (lv_at hl 1 rfl) ?_
        refine x_get (C := RX11) (T := TX11) (N := 11) hx hb hts hin_X11 hown hK hP (0) (by decide) hx0 rfl 9 (by decide) hw_2 (fun _ h9 => h9) rfl dX11_given_32 ?_
        refine lv_iload_n hx hb dX11_given_35 rfl (lv_at hl 2 rfl) ?_
        refine x_iald (f := Sz) hx hb hK hP (27) (by decide) h27 (by omega) (by omega) (by decide) dX11_given_36 ?_
        have hb_20 := hxs.2.1 (d)
        refine x_ci (va_runV (As := [.ref (g.2.2 (ri_19)), .int (iI (Sz (d)))]) (rest := []) ⟨hx, hb, hml, hown, hts⟩ (c_X11_areGifts l g σ ph tk hx0 n rd P G ⟨hm0, hm1, hm2⟩ hok hH ri_19 (by have hxN : xN = 51 := rfl; omega) (El (d)) hri_19 (fun k => hEl d k) (Sz (d)) (by omega)) (cwV 2 hts gX11_given_X11_areGifts rfl rfl rfl (by decide +kernel) ⟨Nat.le_of_ble_eq_true rfl, Nat.le_of_ble_eq_true rfl⟩) (x_preV hK hP (x_recv hK hP (i := 0) (by decide) hx0 rfl)) rfl rfl hl.1 rfl (lv_room (Nat.le_of_ble_eq_true rfl)) dX11_given_37 ⟨Nat.le_of_ble_eq_true rfl, Nat.le_of_ble_eq_true rfl⟩) (fun r_37 hr_37 qr_37 => ?_)
        replace qr_37 : (r_37 = 1 ∧ zGivOk n (El (d)) (Sz (d))) ∨ (r_37 = 0 ∧ ¬ zGivOk n (El (d)) (Sz (d))) := qr_37
        refine x_if_ne (tgt := 46) hx hb (by omega) dX11_given_40 (by decide) (fun c_40 => ?_) (fun c_40 => ?_)
        · have hgo : zGivOk n (El d) (Sz d) := by (rcases qr_37 with q | q; exact q.2; omega)
          have hz3 := hgo.1
          clear qr_37
          refine lv_aload_n hx hb dX11_given_46 rfl (lv_at hl 1 rfl) ?_
          refine x_get (C := RX11) (T := TX11) (N := 11) hx hb hts hin_X11 hown hK hP (0) (by decide) hx0 rfl 3 (by decide) hw_3 (fun _ h9 => h9) rfl dX11_given_47 ?_
          refine lv_aload_n hx hb dX11_given_50 rfl (lv_at hl 1 rfl) ?_
          refine x_get (C := RX11) (T := TX11) (N := 11) hx hb hts hin_X11 hown hK hP (0) (by decide) hx0 rfl 0 (by decide) hw_4 (fun _ h9 => h9) rfl dX11_given_51 ?_
          refine x_cqv0 (va_runV (As := [.ref (g.2.2 1)]) (rest := []) ⟨hx, hb, hml, hown, hts⟩ (c_X7_become l g σ A (7) (by decide) (nm) (rm) Pm Gm ⟨hqm0, hqm1, hqm2⟩ hom hH (1) (by decide) (by decide) (n) (rd) P G ⟨hm0, hm1, hm2⟩ hok) (cwV 1 hts gX11_given_X7_become rfl rfl rfl (by decide +kernel) ⟨Nat.le_of_ble_eq_true rfl, Nat.le_of_ble_eq_true rfl⟩) (x_preVQ hK hP hD hS hA (x_recv hK hP (i := 7) (by decide) hqm0 rfl)) rfl rfl hl.1 rfl (lv_room (Nat.le_of_ble_eq_true rfl)) dX11_given_54 ⟨by decide, by decide⟩) hS (fun σ1 H locs hpost hP hD hS => ?_)
          obtain ⟨M_21, p1⟩ := σ1
          obtain ⟨hp0, hfrc, hnst⟩ := hpost
          obtain rfl : p1 = σ.2 := hp0
          have hP : xP g (M_21, σ.2) H := hP
          have hD : xD g A (M_21, σ.2) := hD
          have hx0 := (hfrc (0) (by omega)).trans hx0
          have hm0 := (hfrc (1) (by omega)).trans hm0
          have hm1 := (hfrc (2) (by omega)).trans hm1
          have hm2 := (hfrc (3) (by omega)).trans hm2
          have h25 := (hfrc (25) (by omega)).trans h25
          have h26 := (hfrc (26) (by omega)).trans h26
          have h27 := (hfrc (27) (by omega)).trans h27
          have h28 := (hfrc (28) (by omega)).trans h28
          have hri_19 := (hfrc (ri_19) (by omega)).trans hri_19
          have hfr := x_frc (F := fun j => j ≠ 7 ∧ j ≠ 8 ∧ j ≠ 9) hfr hfrc (fun j h => by have h : j ≠ 7 ∧ j ≠ 8 ∧ j ≠ 9 := h; omega)
          obtain ⟨Pn_22, hPn_22⟩ : ∃ q : Int → Int, q = zCopy P Pm 9 := ⟨_, rfl⟩
          obtain ⟨Gn_23, hGn_23⟩ : ∃ q : Int → Option Nat, q = zCopy G Gm 9 := ⟨_, rfl⟩
          have ost_24 : StOk σ (n) (rd) Pn_22 Gn_23 := by rw [hPn_22, hGn_23]; exact StOk_become hom hok
          rw [← hPn_22, ← hGn_23] at hnst
          have hqm0 : M_21 (7) = .inr (7, [.ref (g.2.2 8), .ref (g.2.2 9), .int (iI (n)), .int (iI (rd))]) := hnst.1
          have hqm1 : MRef g M_21 8 9 Gn_23 := hnst.2.1
          have hqm2 : MArr g M_21 9 9 Pn_22 := hnst.2.2
          have hcp : zSame (sK σ Gn_23) (sK σ G) (sF σ Gn_23) (sF σ G) Pn_22 P n := by (rw [hGn_23, hPn_22]; exact zSame_copy (by omega))
          refine x_iconst hx hb dX11_given_57 ?_
          refine lv_istore (lv' := [(4, .int (iI (0))), (3, .int (iI (r_14))), (0, .ref (g.2.2 0)), (1, .int (iI (d))), (2, .int (iI (wh)))]) hx hb dX11_given_58 hl (by decide) rfl (fun ls hl => ?_)
          refine x_iconst hx hb dX11_given_60 ?_
          refine lv_istore (lv' := [(5, .int (iI (0))), (4, .int (iI (0))), (3, .int (iI (r_14))), (0, .ref (g.2.2 0)), (1, .int (iI (d))), (2, .int (iI (wh)))]) hx hb dX11_given_61 hl (by decide) rfl (fun ls hl => ?_)
          have hloop_63 : ∀ (k : Nat) (T : Int → Int) (G9 : Int → Option Nat) (PP : Int → Int) (i : Int) (ct : Int), (Sz d - i).toNat < k → (hi0 : 0 ≤ i ∧ i % 3 = 0) → (hi1 : i ≤ Sz d) → (hct : 0 ≤ ct ∧ ct ≤ i) → (hTo : StOk σ n rd T G9) → (hcp8 : ∀ i, 0 ≤ i → i < n → sK σ G9 i = sK σ G i ∧ sF σ G9 i = sF σ G i) → (hTP : ∀ i, 0 ≤ i → i < n → T i = PP i) → (hst : (PP, ct) = zGvN (El d) P n (i / 3).toNat) → ∀ (M : xM) (H : Heap) (locs : List Loc), (hx0 : M (0) = .inr (11, [.ref (g.2.2 1), .ref (g.2.2 4), .int (iI (tk)), .ref (g.2.2 7), .ref ph, .ref (g.2.2 13), .ref (g.2.2 23), .ref (g.2.2 25), .ref (g.2.2 26), .ref (g.2.2 27), .ref (g.2.2 28)])) → (hm0 : M (1) = .inr (7, [.ref (g.2.2 2), .ref (g.2.2 3), .int (iI (n)), .int (iI (rd))])) → (hm1 : M (2) = .inl (g.2.1 1, 9, .inr (.inr (.inr (.inr (fun k => G (k : Int))))))) → (hm2 : M (3) = .inl (g.2.1 0, 9, .inl (fun k => iI (P (k : Int))))) → (hqm0 : M (7) = .inr (7, [.ref (g.2.2 8), .ref (g.2.2 9), .int (iI (n)), .int (iI (rd))])) → (hqm1 : M (8) = .inl (g.2.1 1, 9, .inr (.inr (.inr (.inr (fun k => G9 (k : Int))))))) → (hqm2 : M (9) = .inl (g.2.1 0, 9, .inl (fun k => iI (T (k : Int))))) → (h25 : M (25) = .inl (g.2.1 1, 8, .inr (.inr (.inr (.inr (fun k => Kf (k : Int))))))) → (h26 : M (26) = .inl (g.2.1 0, 8, .inl (fun k => iI (So (k : Int))))) → (h27 : M (27) = .inl (g.2.1 0, 8, .inl (fun k => iI (Sz (k : Int))))) → (h28 : M (28) = .inl (g.2.1 2, 8, .inr (.inr (.inr (.inr (fun k => xGf g (k : Int))))))) → (hri_19 : M (ri_19) = .inl (g.2.1 0, 100, .inl (fun k => iI ((El (d)) (k : Int))))) → (hfr : ∀ j, (j ≠ 7 ∧ j ≠ 8 ∧ j ≠ 9) → M j = σ.1 j) → xP g (M, σ.2) H → xD g A (M, σ.2) → va_S A s.heap H locs → ∀ (ls : Array Slot), lv_has ls 6 [(5, .int (iI (i))), (4, .int (iI (ct))), (3, .int (iI (r_14))), (0, .ref (g.2.2 0)), (1, .int (iI (d))), (2, .int (iI (wh)))] → W p l e (headSpec wsX11_given ({ frames := 7, cells := 0, slots := 0, locals := 224 })).room s m ([.ref (g.2.2 0), .int (iI (d)), .int (iI (wh))] : List Value).toArray below meth c H locs 0 0 (MQ below (x_Qi g A (fun r σ1 => σ1.2 = σ.2 ∧ (∀ j, j ≠ 7 ∧ j ≠ 8 ∧ j ≠ 9 → σ1.1 j = σ.1 j) ∧ zGivenC (xKp Kf So) So Sz (El d) (sK σ G) (sF σ G) P n rd d wh r ∧ xStr g σ1.1 σ 7)) ([.ref (g.2.2 0), .int (iI (d)), .int (iI (wh))] : List Value).toArray s (0) (0) A) (F0 m 63 ls []) := by
            intro k
            induction k with
            | zero =>
              intros; exact absurd (by assumption) (Nat.not_lt_zero _)
            | succ k ih =>
              intro T G9 PP i ct hmeas hi0 hi1 hct hTo hcp8 hTP hst M H locs hx0 hm0 hm1 hm2 hqm0 hqm1 hqm2 h25 h26 h27 h28 hri_19 hfr hP hD hS ls hl
              have ih_25 := ih
              refine lv_iload hx hb dX11_given_63 (lv_at hl 0 rfl) ?_
              refine x_iconst hx hb dX11_given_65 ?_
              refine x_iadd hx hb dX11_given_66 ?_
              refine lv_aload_n hx hb dX11_given_67 rfl (lv_at hl 3 rfl) ?_
              refine x_get (C := RX11) (T := TX11) (N := 11) hx hb hts hin_X11 hown hK hP (0) (by decide) hx0 rfl 9 (by decide) hw_2 (fun _ h9 => h9) rfl dX11_given_68 ?_
              refine lv_iload_n hx hb dX11_given_71 rfl (lv_at hl 4 rfl) ?_
              refine x_iald (f := Sz) hx hb hK hP (27) (by decide) h27 (by omega) (by omega) (by decide) dX11_given_72 ?_
              have hb_26 := hxs.2.1 (d)
              refine x_icmp_gt (tgt := 126) hx hb (by omega) (by omega) dX11_given_73 (by decide) (fun c_73 => ?_) (fun c_73 => ?_)
              · refine lv_iload_n hx hb dX11_given_126 rfl (lv_at hl 5 rfl) ?_
                refine x_if_ne (tgt := 140) hx hb (by omega) dX11_given_127 (by decide) (fun c_127 => ?_) (fun c_127 => ?_)
                · refine lv_iload hx hb dX11_given_140 (lv_at hl 1 rfl) ?_
                  refine x_retQ hx hb hr (by omega) ?_ hP hD hS dX11_given_142 hlocks
                  refine ⟨rfl, hfr, Or.inr (Or.inr (Or.inr ⟨by omega, by omega, hr0, hgo, ?_⟩)), _, _, _, _, ⟨hqm0, hqm1, hqm2⟩, hTo⟩
                  have ei : i = Sz d := by omega
                  rw [ei] at hst
                  unfold zGiven
                  rw [if_neg (by omega), ← hst]
                · refine lv_aload_n hx hb dX11_given_130 rfl (lv_at hl 3 rfl) ?_
                  refine x_get (C := RX11) (T := TX11) (N := 11) hx hb hts hin_X11 hown hK hP (0) (by decide) hx0 rfl 3 (by decide) hw_3 (fun _ h9 => h9) rfl dX11_given_131 ?_
                  refine x_ci (va_runV (As := []) (rest := []) ⟨hx, hb, hml, hown, hts⟩ (c_X7_allBreaches l g (M, σ.2) (7) (by decide) (n) (rd) T G9 ⟨hqm0, hqm1, hqm2⟩ hTo hH ) (cwV 0 hts gX11_given_X7_allBreaches rfl rfl rfl (by decide +kernel) ⟨Nat.le_of_ble_eq_true rfl, Nat.le_of_ble_eq_true rfl⟩) (x_preV hK hP (x_recv hK hP (i := 7) (by decide) hqm0 rfl)) rfl rfl hl.1 rfl (lv_room (Nat.le_of_ble_eq_true rfl)) dX11_given_134 ⟨Nat.le_of_ble_eq_true rfl, Nat.le_of_ble_eq_true rfl⟩) (fun r_134 hr_134 qr_134 => ?_)
                  replace qr_134 : r_134 = zAll (sK σ (G9)) (sF σ (G9)) (T) (n) (rd) ∧ 0 ≤ r_134 ∧ r_134 ≤ 18 := qr_134
                  refine lv_goto (tgt := 142) hx hb dX11_given_137 (by decide) ?_
                  refine x_retQ hx hb hr (by omega) ?_ hP hD hS dX11_given_142 hlocks
                  refine ⟨rfl, hfr, Or.inr (Or.inr (Or.inr ⟨by omega, by omega, hr0, hgo, ?_⟩)), _, _, _, _, ⟨hqm0, hqm1, hqm2⟩, hTo⟩
                  have ei : i = Sz d := by omega
                  rw [ei] at hst
                  unfold zGiven
                  rw [if_pos (by omega), ← hst]
                  rw [qr_134.1]
                  exact zAll_congr (fun j h0 h1 => ⟨(hcp8 j h0 h1).1, (hcp8 j h0 h1).2, hTP j h0 h1⟩)
              · refine lv_aload_n hx hb dX11_given_76 rfl (lv_at hl 3 rfl) ?_
                refine x_get (C := RX11) (T := TX11) (N := 11) hx hb hts hin_X11 hown hK hP (0) (by decide) hx0 rfl 3 (by decide) hw_3 (fun _ h9 => h9) rfl dX11_given_77 ?_
                refine lv_aload_n hx hb dX11_given_80 rfl (lv_at hl 3 rfl) ?_
                refine x_get (C := RX11) (T := TX11) (N := 11) hx hb hts hin_X11 hown hK hP (0) (by decide) hx0 rfl 10 (by decide) hw_0 (fun _ h9 => h9) rfl dX11_given_81 ?_
                refine lv_iload_n hx hb dX11_given_84 rfl (lv_at hl 4 rfl) ?_
                obtain ⟨ri_27, eri_27⟩ : ∃ q : Nat, q = 29 + (d).toNat := ⟨_, rfl⟩
                have hG_ri_27 : xGf g (d) = some (g.2.2 ri_27) := by rw [eri_27]
                have hri_27 : MArr g M ri_27 100 (El (d)) := by rw [eri_27]; exact (hfr _ (by omega)).trans (hrow (d) (by omega) (by omega))
                refine x_aalg (f := xGf g) hx hb hK hP (28) (by decide) h28 (by omega) (by omega) (by decide) hG_ri_27 dX11_given_85 ?_
                refine lv_iload hx hb dX11_given_86 (lv_at hl 0 rfl) ?_
                refine x_iald (f := (El (d))) hx hb hK hP (ri_27) (by have hxN : xN = 51 := rfl; omega) hri_27 (by omega) (by omega) (by decide) dX11_given_88 ?_
                have hb_28 := hEl (d) (i)
                refine lv_aload_n hx hb dX11_given_89 rfl (lv_at hl 3 rfl) ?_
                refine x_get (C := RX11) (T := TX11) (N := 11) hx hb hts hin_X11 hown hK hP (0) (by decide) hx0 rfl 10 (by decide) hw_0 (fun _ h9 => h9) rfl dX11_given_90 ?_
                refine lv_iload_n hx hb dX11_given_93 rfl (lv_at hl 4 rfl) ?_
                obtain ⟨ri_29, eri_29⟩ : ∃ q : Nat, q = 29 + (d).toNat := ⟨_, rfl⟩
                have hG_ri_29 : xGf g (d) = some (g.2.2 ri_29) := by rw [eri_29]
                have hri_29 : MArr g M ri_29 100 (El (d)) := by rw [eri_29]; exact (hfr _ (by omega)).trans (hrow (d) (by omega) (by omega))
                refine x_aalg (f := xGf g) hx hb hK hP (28) (by decide) h28 (by omega) (by omega) (by decide) hG_ri_29 dX11_given_94 ?_
                refine lv_iload hx hb dX11_given_95 (lv_at hl 0 rfl) ?_
                refine x_iconst hx hb dX11_given_97 ?_
                refine x_iadd hx hb dX11_given_98 ?_
                refine x_iald (f := (El (d))) hx hb hK hP (ri_29) (by have hxN : xN = 51 := rfl; omega) hri_29 (by omega) (by omega) (by decide) dX11_given_99 ?_
                have hb_30 := hEl (d) (i + 1)
                refine lv_aload_n hx hb dX11_given_100 rfl (lv_at hl 3 rfl) ?_
                refine x_get (C := RX11) (T := TX11) (N := 11) hx hb hts hin_X11 hown hK hP (0) (by decide) hx0 rfl 10 (by decide) hw_0 (fun _ h9 => h9) rfl dX11_given_101 ?_
                refine lv_iload_n hx hb dX11_given_104 rfl (lv_at hl 4 rfl) ?_
                obtain ⟨ri_31, eri_31⟩ : ∃ q : Nat, q = 29 + (d).toNat := ⟨_, rfl⟩
                have hG_ri_31 : xGf g (d) = some (g.2.2 ri_31) := by rw [eri_31]
                have hri_31 : MArr g M ri_31 100 (El (d)) := by rw [eri_31]; exact (hfr _ (by omega)).trans (hrow (d) (by omega) (by omega))
                refine x_aalg (f := xGf g) hx hb hK hP (28) (by decide) h28 (by omega) (by omega) (by decide) hG_ri_31 dX11_given_105 ?_
                refine lv_iload hx hb dX11_given_106 (lv_at hl 0 rfl) ?_
                refine x_iconst hx hb dX11_given_108 ?_
                refine x_iadd hx hb dX11_given_109 ?_
                refine x_iald (f := (El (d))) hx hb hK hP (ri_31) (by have hxN : xN = 51 := rfl; omega) hri_31 (by omega) (by omega) (by decide) dX11_given_110 ?_
                have hb_32 := hEl (d) (i + 2)
                refine x_cqi0 (va_runV (As := [.int (iI (((El (d))) (i))), .int (iI (((El (d))) (i + 1))), .int (iI (((El (d))) (i + 2)))]) (rest := []) ⟨hx, hb, hml, hown, hts⟩ (c_X7_gift l g (M, σ.2) A (7) (by decide) (n) (rd) T G9 ⟨hqm0, hqm1, hqm2⟩ hTo hH (((El (d))) (i)) (by omega) (((El (d))) (i + 1)) (by omega) (((El (d))) (i + 2)) (by omega)) (cwV 3 hts gX11_given_X7_gift rfl rfl rfl (by decide +kernel) ⟨Nat.le_of_ble_eq_true rfl, Nat.le_of_ble_eq_true rfl⟩) (x_preVQ hK hP hD hS hA (x_recv hK hP (i := 7) (by decide) hqm0 rfl)) rfl rfl hl.1 rfl (lv_room (Nat.le_of_ble_eq_true rfl)) dX11_given_111 ⟨by decide, by decide⟩) hS (fun r_111 σ1 H locs hr_111 hpost hP hD hS => ?_)
                obtain ⟨M_33, p1⟩ := σ1
                obtain ⟨hp0, hfrc, qr_111, hnst⟩ := hpost
                obtain rfl : p1 = σ.2 := hp0
                have hP : xP g (M_33, σ.2) H := hP
                have hD : xD g A (M_33, σ.2) := hD
                have hx0 := (hfrc (0) (by omega)).trans hx0
                have hm0 := (hfrc (1) (by omega)).trans hm0
                have hm1 := (hfrc (2) (by omega)).trans hm1
                have hm2 := (hfrc (3) (by omega)).trans hm2
                have h25 := (hfrc (25) (by omega)).trans h25
                have h26 := (hfrc (26) (by omega)).trans h26
                have h27 := (hfrc (27) (by omega)).trans h27
                have h28 := (hfrc (28) (by omega)).trans h28
                have hri_19 := (hfrc (ri_19) (by omega)).trans hri_19
                have hri_27 := (hfrc (ri_27) (by omega)).trans hri_27
                have hri_29 := (hfrc (ri_29) (by omega)).trans hri_29
                have hri_31 := (hfrc (ri_31) (by omega)).trans hri_31
                have hfr := x_frc (F := fun j => j ≠ 7 ∧ j ≠ 8 ∧ j ≠ 9) hfr hfrc (fun j h => by have h : j ≠ 7 ∧ j ≠ 8 ∧ j ≠ 9 := h; omega)
                obtain ⟨Pn_34, hPn_34⟩ : ∃ q : Int → Int, q = if zGiftR T (n) (((El (d))) (i)) (((El (d))) (i + 1)) (((El (d))) (i + 2)) = 0 then zGift T (((El (d))) (i)) (((El (d))) (i + 1)) (((El (d))) (i + 2)) else T := ⟨_, rfl⟩
                obtain ⟨Gn_35, hGn_35⟩ : ∃ q : Int → Option Nat, q = G9 := ⟨_, rfl⟩
                have ost_36 : StOk σ (n) (rd) Pn_34 Gn_35 := by rw [hPn_34, hGn_35]; exact StOk_gift hTo
                rw [← hPn_34, ← hGn_35] at hnst
                have hqm0 : M_33 (7) = .inr (7, [.ref (g.2.2 8), .ref (g.2.2 9), .int (iI (n)), .int (iI (rd))]) := hnst.1
                have hqm1 : MRef g M_33 8 9 Gn_35 := hnst.2.1
                have hqm2 : MArr g M_33 9 9 Pn_34 := hnst.2.2
                have hgc := zGiftR_congr (a := El d i) (b := El d (i + 1)) (c := El d (i + 2)) hTP
                refine x_if_ne (tgt := 120) hx hb (by omega) dX11_given_114 (by decide) (fun c_114 => ?_) (fun c_114 => ?_)
                · refine x_iinc (k0 := 0) (lv' := [(5, .int (iI (i + 3))), (4, .int (iI (ct))), (3, .int (iI (r_14))), (0, .ref (g.2.2 0)), (1, .int (iI (d))), (2, .int (iI (wh)))]) hx hb dX11_given_120 hl rfl (by decide) rfl (fun ls hl => ?_)
                  refine lv_goto (tgt := 63) hx hb dX11_given_123 (by decide) ?_
                  exact ih_25 (Pn_34) (Gn_35) (if zGiftR PP n (El d i) (El d (i + 1)) (El d (i + 2)) = 0 then zGift PP (El d i) (El d (i + 1)) (El d (i + 2)) else PP) (i + 3) (ct) (by omega) (by omega) (by omega) (by omega) (by exact ost_36) (by rw [hGn_35]; exact hcp8) (by rw [hPn_34, hgc]; intro j h0 h1; split; (rename_i q; have z := zGiftR_0 rfl q; exact zGift_congr hTP (by omega) (by omega) h0 h1); exact hTP j h0 h1) (by rw [zGvN_succ _ _ _ hi0.1 hi0.2, ← hst]; (show _ = (if zGiftR PP n (El d i) (El d (i + 1)) (El d (i + 2)) = 0 then (zGift PP (El d i) (El d (i + 1)) (El d (i + 2)), ct + 1) else (PP, ct))); first | (have q : zGiftR PP n (El d i) (El d (i + 1)) (El d (i + 2)) = 0 := (by omega)); (rw [if_pos q, if_pos q]; done) | (have q : ¬ zGiftR PP n (El d i) (El d (i + 1)) (El d (i + 2)) = 0 := (by omega)); (rw [if_neg q, if_neg q]; done)) (M_33) _ _ hx0 hm0 hm1 hm2 hqm0 hqm1 hqm2 h25 h26 h27 h28 hri_19 hfr hP hD hS ls (lv_sub hl [0, 1, 2, 3, 4, 5] rfl)
                · refine x_iinc (k0 := 1) (lv' := [(4, .int (iI (ct + 1))), (5, .int (iI (i))), (3, .int (iI (r_14))), (0, .ref (g.2.2 0)), (1, .int (iI (d))), (2, .int (iI (wh)))]) hx hb dX11_given_117 hl rfl (by decide) rfl (fun ls hl => ?_)
                  refine x_iinc (k0 := 1) (lv' := [(5, .int (iI (i + 3))), (4, .int (iI (ct + 1))), (3, .int (iI (r_14))), (0, .ref (g.2.2 0)), (1, .int (iI (d))), (2, .int (iI (wh)))]) hx hb dX11_given_120 hl rfl (by decide) rfl (fun ls hl => ?_)
                  refine lv_goto (tgt := 63) hx hb dX11_given_123 (by decide) ?_
                  exact ih_25 (Pn_34) (Gn_35) (if zGiftR PP n (El d i) (El d (i + 1)) (El d (i + 2)) = 0 then zGift PP (El d i) (El d (i + 1)) (El d (i + 2)) else PP) (i + 3) (ct + 1) (by omega) (by omega) (by omega) (by omega) (by exact ost_36) (by rw [hGn_35]; exact hcp8) (by rw [hPn_34, hgc]; intro j h0 h1; split; (rename_i q; have z := zGiftR_0 rfl q; exact zGift_congr hTP (by omega) (by omega) h0 h1); exact hTP j h0 h1) (by rw [zGvN_succ _ _ _ hi0.1 hi0.2, ← hst]; (show _ = (if zGiftR PP n (El d i) (El d (i + 1)) (El d (i + 2)) = 0 then (zGift PP (El d i) (El d (i + 1)) (El d (i + 2)), ct + 1) else (PP, ct))); first | (have q : zGiftR PP n (El d i) (El d (i + 1)) (El d (i + 2)) = 0 := (by omega)); (rw [if_pos q, if_pos q]; done) | (have q : ¬ zGiftR PP n (El d i) (El d (i + 1)) (El d (i + 2)) = 0 := (by omega)); (rw [if_neg q, if_neg q]; done)) (M_33) _ _ hx0 hm0 hm1 hm2 hqm0 hqm1 hqm2 h25 h26 h27 h28 hri_19 hfr hP hD hS ls (lv_sub hl [0, 1, 2, 3, 4, 5] rfl)
          exact hloop_63 (((Sz d - (0)).toNat) + 1) (Pn_22) (Gn_23) (P) (0) (0) (by omega) (by omega) (by omega) (by omega) (by exact ost_24) (by exact fun i a b => ⟨(hcp i a b).1, (hcp i a b).2.1⟩) (by exact fun i a b => (hcp i a b).2.2) (by rfl) (M_21) _ _ hx0 hm0 hm1 hm2 hqm0 hqm1 hqm2 h25 h26 h27 h28 hri_19 hfr hP hD hS ls (lv_sub hl [0, 1, 2, 3, 4, 5] rfl)
        · have hno : ¬ zGivOk n (El d) (Sz d) := by (rcases qr_37 with q | q; omega; exact q.2)
          refine x_bipush (n := -13) hx hb (by decide +kernel) dX11_given_43 ?_
          refine x_retQ hx hb hr (by omega) ?_ hP hD hS dX11_given_45 hlocks
          exact ⟨rfl, hfr, Or.inr (Or.inr (Or.inl ⟨by omega, by omega, hr0, hno, rfl⟩)), nm, rm, Pm, Gm, hsm9, hom⟩
      · refine lv_iload_n hx hb dX11_given_22 rfl (lv_at hl 0 rfl) ?_
        refine x_retQ hx hb hr (by omega) ?_ hP hD hS dX11_given_23 hlocks
        refine ⟨rfl, hfr, ?_, nm, rm, Pm, Gm, hsm9, hom⟩
        by_cases hd9 : 0 ≤ d ∧ d ≤ 7
        · right; left; exact ⟨hd9, by omega, by omega, by omega⟩
        · left; refine ⟨fun q => hd9 q.1, ?_⟩
          rw [qr_14]; unfold zRowR; rw [if_pos hd9]
    · refine x_iconst hx hb dX11_given_9 ?_
      refine x_retQ hx hb hr (by omega) ?_ hP hD hS dX11_given_10 hlocks
      refine ⟨rfl, hfr, Or.inl ⟨by omega, rfl⟩, nm, rm, Pm, Gm, hsm9, hom⟩
