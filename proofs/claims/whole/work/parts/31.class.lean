theorem zDraw_iI {a b n : Int} (h : iI a = iI b) : zDraw a n = zDraw b n := by unfold zDraw iAnd; rw [h]
theorem zNext_iI {a b : Int} (h : iI a = iI b) : iI (iWrap (zNext a)) = iI (zNext b) := by
  rw [iI_wr]; unfold zNext
  rw [← iI_add, ← iI_mul, ← iI_add, ← iI_mul, h]
theorem StOk_steal {σ : xS} {n rd t o : Int} {P : Int → Int} {G : Int → Option Nat} (h : StOk σ n rd P G) (ht : 0 ≤ t ∧ t < n) (ho : o = -1 ∨ (0 ≤ o ∧ o < n)) : StOk σ n rd (zSteal P n t o) G := by
  unfold zSteal
  split
  · rename_i q
    have pt := (h.2.2.2.2.2 t ht.1 ht.2).2
    have po := (h.2.2.2.2.2 o (by omega) (by omega)).2
    have z := StOk_purse h (i := o) (v := P o - 1) (by omega)
    have zt := (z.2.2.2.2.2 t ht.1 ht.2).2
    by_cases e : t = o
    · subst e
      rw [upI_s] at zt ⊢
      exact StOk_purse z (by omega)
    · rw [upI_n e] at zt ⊢
      exact StOk_purse z (by omega)
  · exact h
theorem zSteal_congr {P P2 : Int → Int} {n t o : Int} (h : ∀ i, 0 ≤ i → i < n → P i = P2 i) (ht : 0 ≤ t ∧ t < n) (ho : o = -1 ∨ (0 ≤ o ∧ o < n)) {i : Int} (h0 : 0 ≤ i) (h1 : i < n) : zSteal P n t o i = zSteal P2 n t o i := by
  unfold zSteal
  by_cases e : o = -1
  · rw [if_neg (fun x => x.1 e), if_neg (fun x => x.1 e)]; exact h i h0 h1
  · have eo := h o (by omega) (by omega)
    have et := h t ht.1 ht.2
    rw [eo, et]
    by_cases q : o ≠ -1 ∧ 0 < P2 o ∧ P2 t < 9999
    · rw [if_pos q, if_pos q]
      unfold upI
      rw [et, h i h0 h1]
    · rw [if_neg q, if_neg q]; exact h i h0 h1

set_option maxHeartbeats 4000000 in
set_option maxRecDepth 100000 in
theorem c_X11_seeded (l : Launch) (g : xG) (σ : xS) (A : Nat → Prop) (ph : Nat) (tk : Int) (hx0 : XObj g σ.1 ph tk) (n rd : Int) (P : Int → Int) (G : Int → Option Nat) (hst : StAt g σ.1 1 n rd P G) (hok : StOk σ n rd P G) (hH : HsOk σ) (nm rm : Int) (Pm : Int → Int) (Gm : Int → Option Nat) (hsm9 : StAt g σ.1 7 nm rm Pm Gm) (hom : StOk σ nm rm Pm Gm) (k9 : Int) (hk9 : inR k9) (z : Int) (hz : inR z) : Met l yX11_seeded wsX11_seeded ({ frames := 7, cells := 0, slots := 0, locals := 224 }) (va_Pc [.ref (g.2.2 0), .int (iI (k9)), .int (iI (z))] (xPreQ g A σ)) (x_Qi g A (fun r σ1 => σ1.2 = σ.2 ∧ (∀ j, j ≠ 7 ∧ j ≠ 8 ∧ j ≠ 9 → σ1.1 j = σ.1 j) ∧ (r = zSeeded (sK σ G) (sF σ G) P n rd k9 z) ∧ xStr g σ1.1 σ 7)) (0) (0) A := by
  refine Met.ofW (cc := cX11_seeded) (maxL := 8) (ret := (some .int)) (by decide) rfl ?_
  intro p e s m args below meth c s₁ B hml hv
  obtain ⟨rfl, hP, hK, hD, hA⟩ := hv
  have hx := B.exec
  have hb := B.bytes
  have hr := B.returns
  have hts := atoms_spec (ws := wsX11_seeded) B.pre
  have hown : s.vm.findClass RX11 = some m.cls := findClass_of_methodNamed B.named
  have hlocks := B.notSynchronized
  have hS : va_S A s.heap s.heap [] := va_S.rf
  have hfr : ∀ j, (j ≠ 7 ∧ j ≠ 8 ∧ j ≠ 9) → σ.1 j = σ.1 j := fun _ _ => rfl
  have hl := lv_entry ([.ref (g.2.2 0), .int (iI (k9)), .int (iI (z))]) (n := 8) (Nat.le_of_ble_eq_true rfl)
  rw [lg_entry_eq]
  generalize (lg_sl ([.ref (g.2.2 0), .int (iI (k9)), .int (iI (z))]) ++ List.replicate (8 - (lg_sl ([.ref (g.2.2 0), .int (iI (k9)), .int (iI (z))])).length) Slot.unset).toArray = ls at hl ⊢
  have hl : lv_has ls 8 [(0, .ref (g.2.2 0)), (1, .int (iI (k9))), (2, .int (iI (z)))] := hl
  have hm0 : σ.1 1 = .inr (7, [.ref (g.2.2 2), .ref (g.2.2 3), .int (iI n), .int (iI rd)]) := hst.1
  have hm1 : MRef g σ.1 2 9 G := hst.2.1
  have hm2 : MArr g σ.1 3 9 P := hst.2.2
  have hok1 := hok.1
  have hok2 := hok.2.1
  have hok3 := hok.2.2.1
  have hqm0 : σ.1 7 = .inr (7, [.ref (g.2.2 8), .ref (g.2.2 9), .int (iI nm), .int (iI rm)]) := hsm9.1
  have hqm1 : MRef g σ.1 8 9 Gm := hsm9.2.1
  have hqm2 : MArr g σ.1 9 9 Pm := hsm9.2.2
  have hom1 := hom.1
  have hom2 := hom.2.1
  have hom3 := hom.2.2.1
  have hw_0 := hts (.fieldLink RX11 10 "TwiceAsRich" "street" "LTwiceAsRich$Street;") (by decide +kernel)
  have hin_X11 : ∀ w ∈ wsX110, w ∈ wsX11_seeded := by decide +kernel
  have hw_2 := hts (.fieldLink RX11 126 "TwiceAsRich$Street" "count" "I") (by decide +kernel)
  have hin_X7 : ∀ w ∈ wsX70, w ∈ wsX11_seeded := by decide +kernel
  have hw_4 := hts (.fieldLink RX11 19 "TwiceAsRich" "mind" "LTwiceAsRich$Street;") (by decide +kernel)
  refine lv_iload_n hx hb dX11_seeded_0 rfl (lv_at hl 1 rfl) ?_
  refine x_iconst hx hb dX11_seeded_1 ?_
  refine x_icmp_lt (tgt := 11) hx hb (by omega) (by omega) dX11_seeded_2 (by decide) (fun c_2 => ?_) (fun c_2 => ?_)
  · refine x_iconst hx hb dX11_seeded_11 ?_
    refine x_retQ hx hb hr (by omega) ?_ hP hD hS dX11_seeded_12 hlocks
    refine ⟨rfl, hfr, by unfold zSeeded; rw [if_pos (by omega)], nm, rm, Pm, Gm, hsm9, hom⟩
  · refine lv_iload_n hx hb dX11_seeded_5 rfl (lv_at hl 1 rfl) ?_
    refine x_bipush (n := 40) hx hb (by decide +kernel) dX11_seeded_6 ?_
    refine x_icmp_le (tgt := 13) hx hb (by omega) (by omega) dX11_seeded_8 (by decide) (fun c_8 => ?_) (fun c_8 => ?_)
    · refine lv_aload_n hx hb dX11_seeded_13 rfl (lv_at hl 0 rfl) ?_
      refine x_get (C := RX11) (T := TX11) (N := 11) hx hb hts hin_X11 hown hK hP (0) (by decide) hx0 rfl 0 (by decide) hw_0 (fun _ h9 => h9) rfl dX11_seeded_14 ?_
      refine x_get (C := RX7) (T := TX7) (N := 4) hx hb hts hin_X7 hown hK hP (1) (by decide) hm0 rfl 2 (by decide) hw_2 (fun _ h9 => h9) rfl dX11_seeded_17 ?_
      refine x_if_ne (tgt := 26) hx hb (by omega) dX11_seeded_20 (by decide) (fun c_20 => ?_) (fun c_20 => ?_)
      · refine lv_aload_n hx hb dX11_seeded_26 rfl (lv_at hl 0 rfl) ?_
        refine x_get (C := RX11) (T := TX11) (N := 11) hx hb hts hin_X11 hown hK hP (0) (by decide) hx0 rfl 3 (by decide) hw_4 (fun _ h9 => h9) rfl dX11_seeded_27 ?_
        refine lv_aload_n hx hb dX11_seeded_30 rfl (lv_at hl 0 rfl) ?_
        refine x_get (C := RX11) (T := TX11) (N := 11) hx hb hts hin_X11 hown hK hP (0) (by decide) hx0 rfl 0 (by decide) hw_0 (fun _ h9 => h9) rfl dX11_seeded_31 ?_
        refine x_cqv0 (va_runV (As := [.ref (g.2.2 1)]) (rest := []) ⟨hx, hb, hml, hown, hts⟩ (c_X7_become l g σ A (7) (by decide) (nm) (rm) Pm Gm ⟨hqm0, hqm1, hqm2⟩ hom hH (1) (by decide) (by decide) (n) (rd) P G ⟨hm0, hm1, hm2⟩ hok) (cwV 1 hts gX11_seeded_X7_become rfl rfl rfl (by decide +kernel) ⟨Nat.le_of_ble_eq_true rfl, Nat.le_of_ble_eq_true rfl⟩) (x_preVQ hK hP hD hS hA (x_recv hK hP (i := 7) (by decide) hqm0 rfl)) rfl rfl hl.1 rfl (lv_room (Nat.le_of_ble_eq_true rfl)) dX11_seeded_34 ⟨by decide, by decide⟩) hS (fun σ1 H locs hpost hP hD hS => ?_)
        obtain ⟨M_1, p1⟩ := σ1
        obtain ⟨hp0, hfrc, hnst⟩ := hpost
        obtain rfl : p1 = σ.2 := hp0
        have hP : xP g (M_1, σ.2) H := hP
        have hD : xD g A (M_1, σ.2) := hD
        have hx0 := (hfrc (0) (by omega)).trans hx0
        have hm0 := (hfrc (1) (by omega)).trans hm0
        have hm1 := (hfrc (2) (by omega)).trans hm1
        have hm2 := (hfrc (3) (by omega)).trans hm2
        have hfr := x_frc (F := fun j => j ≠ 7 ∧ j ≠ 8 ∧ j ≠ 9) hfr hfrc (fun j h => by have h : j ≠ 7 ∧ j ≠ 8 ∧ j ≠ 9 := h; omega)
        obtain ⟨Pn_2, hPn_2⟩ : ∃ q : Int → Int, q = zCopy P Pm 9 := ⟨_, rfl⟩
        obtain ⟨Gn_3, hGn_3⟩ : ∃ q : Int → Option Nat, q = zCopy G Gm 9 := ⟨_, rfl⟩
        have ost_4 : StOk σ (n) (rd) Pn_2 Gn_3 := by rw [hPn_2, hGn_3]; exact StOk_become hom hok
        rw [← hPn_2, ← hGn_3] at hnst
        have hqm0 : M_1 (7) = .inr (7, [.ref (g.2.2 8), .ref (g.2.2 9), .int (iI (n)), .int (iI (rd))]) := hnst.1
        have hqm1 : MRef g M_1 8 9 Gn_3 := hnst.2.1
        have hqm2 : MArr g M_1 9 9 Pn_2 := hnst.2.2
        have hcp : zSame (sK σ Gn_3) (sK σ G) (sF σ Gn_3) (sF σ G) Pn_2 P n := by (rw [hGn_3, hPn_2]; exact zSame_copy (by omega))
        refine lv_iload_n hx hb dX11_seeded_37 rfl (lv_at hl 2 rfl) ?_
        refine lv_istore_n (lv' := [(3, .int (iI (z))), (0, .ref (g.2.2 0)), (1, .int (iI (k9))), (2, .int (iI (z)))]) hx hb dX11_seeded_38 rfl hl (by decide) rfl (fun ls hl => ?_)
        refine x_iconst hx hb dX11_seeded_39 ?_
        refine lv_istore (lv' := [(4, .int (iI (0))), (3, .int (iI (z))), (0, .ref (g.2.2 0)), (1, .int (iI (k9))), (2, .int (iI (z)))]) hx hb dX11_seeded_40 hl (by decide) rfl (fun ls hl => ?_)
        refine x_iconst hx hb dX11_seeded_42 ?_
        refine lv_istore (lv' := [(5, .int (iI (0))), (4, .int (iI (0))), (3, .int (iI (z))), (0, .ref (g.2.2 0)), (1, .int (iI (k9))), (2, .int (iI (z)))]) hx hb dX11_seeded_43 hl (by decide) rfl (fun ls hl => ?_)
        have hloop_45 : ∀ (k : Nat) (T : Int → Int) (G9 : Int → Option Nat) (zz : Int) (PP : Int → Int) (d9 : Int) (t9 : Int) (wl : Int), (k9 - t9).toNat < k → (ht0 : 0 ≤ t9) → (ht1 : t9 ≤ k9) → (hwl : 0 ≤ wl ∧ wl ≤ t9) → (hdr : inR d9) → (hTo : StOk σ n rd T G9) → (hcp8 : ∀ i, 0 ≤ i → i < n → sK σ G9 i = sK σ G i ∧ sF σ G9 i = sF σ G i) → (hdz : iI d9 = iI zz) → (hTP : ∀ i, 0 ≤ i → i < n → T i = PP i) → (hst : (zz, PP, wl) = zSdN (sK σ G) (sF σ G) P n rd z t9.toNat) → ∀ (M : xM) (H : Heap) (locs : List Loc), (hx0 : M (0) = .inr (11, [.ref (g.2.2 1), .ref (g.2.2 4), .int (iI (tk)), .ref (g.2.2 7), .ref ph, .ref (g.2.2 13), .ref (g.2.2 23), .ref (g.2.2 25), .ref (g.2.2 26), .ref (g.2.2 27), .ref (g.2.2 28)])) → (hm0 : M (1) = .inr (7, [.ref (g.2.2 2), .ref (g.2.2 3), .int (iI (n)), .int (iI (rd))])) → (hm1 : M (2) = .inl (g.2.1 1, 9, .inr (.inr (.inr (.inr (fun k => G (k : Int))))))) → (hm2 : M (3) = .inl (g.2.1 0, 9, .inl (fun k => iI (P (k : Int))))) → (hqm0 : M (7) = .inr (7, [.ref (g.2.2 8), .ref (g.2.2 9), .int (iI (n)), .int (iI (rd))])) → (hqm1 : M (8) = .inl (g.2.1 1, 9, .inr (.inr (.inr (.inr (fun k => G9 (k : Int))))))) → (hqm2 : M (9) = .inl (g.2.1 0, 9, .inl (fun k => iI (T (k : Int))))) → (hfr : ∀ j, (j ≠ 7 ∧ j ≠ 8 ∧ j ≠ 9) → M j = σ.1 j) → xP g (M, σ.2) H → xD g A (M, σ.2) → va_S A s.heap H locs → ∀ (ls : Array Slot), lv_has ls 8 [(5, .int (iI (t9))), (4, .int (iI (wl))), (3, .int (iI (d9))), (0, .ref (g.2.2 0)), (1, .int (iI (k9))), (2, .int (iI (z)))] → W p l e (headSpec wsX11_seeded ({ frames := 7, cells := 0, slots := 0, locals := 224 })).room s m ([.ref (g.2.2 0), .int (iI (k9)), .int (iI (z))] : List Value).toArray below meth c H locs 0 0 (MQ below (x_Qi g A (fun r σ1 => σ1.2 = σ.2 ∧ (∀ j, j ≠ 7 ∧ j ≠ 8 ∧ j ≠ 9 → σ1.1 j = σ.1 j) ∧ (r = zSeeded (sK σ G) (sF σ G) P n rd k9 z) ∧ xStr g σ1.1 σ 7)) ([.ref (g.2.2 0), .int (iI (k9)), .int (iI (z))] : List Value).toArray s (0) (0) A) (F0 m 45 ls []) := by
          intro k
          induction k with
          | zero =>
            intros; exact absurd (by assumption) (Nat.not_lt_zero _)
          | succ k ih =>
            intro T G9 zz PP d9 t9 wl hmeas ht0 ht1 hwl hdr hTo hcp8 hdz hTP hst M H locs hx0 hm0 hm1 hm2 hqm0 hqm1 hqm2 hfr hP hD hS ls hl
            have ih_5 := ih
            refine lv_iload hx hb dX11_seeded_45 (lv_at hl 0 rfl) ?_
            refine lv_iload_n hx hb dX11_seeded_47 rfl (lv_at hl 4 rfl) ?_
            refine x_icmp_ge (tgt := 135) hx hb (by omega) (by omega) dX11_seeded_48 (by decide) (fun c_48 => ?_) (fun c_48 => ?_)
            · refine lv_iload hx hb dX11_seeded_135 (lv_at hl 1 rfl) ?_
              refine x_retQ hx hb hr (by omega) ?_ hP hD hS dX11_seeded_137 hlocks
              refine ⟨rfl, hfr, ?_, _, _, _, _, ⟨hqm0, hqm1, hqm2⟩, hTo⟩
              have e : t9 = k9 := by omega
              rw [e] at hst
              unfold zSeeded; rw [if_neg (by omega), if_neg (by omega), ← hst]
            · refine lv_iload_n hx hb dX11_seeded_51 rfl (lv_at hl 2 rfl) ?_
              refine x_ci (va_runS (As := [.int (iI (d9))]) (rest := []) ⟨hx, hb, hml, hown, hts⟩ (c_X11_nextDraw l g (M, σ.2)  (d9) ) (va_cwS 1 hts gX11_seeded_X11_nextDraw rfl rfl rfl (by decide +kernel) ⟨Nat.le_of_ble_eq_true rfl, Nat.le_of_ble_eq_true rfl⟩) (x_preS hK hP) rfl rfl hl.1 rfl (lv_room (Nat.le_of_ble_eq_true rfl)) dX11_seeded_52 ⟨Nat.le_of_ble_eq_true rfl, Nat.le_of_ble_eq_true rfl⟩) (fun r_52 hr_52 qr_52 => ?_)
              replace qr_52 : r_52 = iWrap (zNext (d9)) := qr_52
              refine lv_istore_n (lv' := [(3, .int (iI (r_52))), (5, .int (iI (t9))), (4, .int (iI (wl))), (0, .ref (g.2.2 0)), (1, .int (iI (k9))), (2, .int (iI (z)))]) hx hb dX11_seeded_55 rfl hl (by decide) rfl (fun ls hl => ?_)
              refine lv_iload_n hx hb dX11_seeded_56 rfl (lv_at hl 0 rfl) ?_
              refine lv_aload_n hx hb dX11_seeded_57 rfl (lv_at hl 3 rfl) ?_
              refine x_get (C := RX11) (T := TX11) (N := 11) hx hb hts hin_X11 hown hK hP (0) (by decide) hx0 rfl 3 (by decide) hw_4 (fun _ h9 => h9) rfl dX11_seeded_58 ?_
              refine x_get (C := RX7) (T := TX7) (N := 4) hx hb hts hin_X7 hown hK hP (7) (by decide) hqm0 rfl 2 (by decide) hw_2 (fun _ h9 => h9) rfl dX11_seeded_61 ?_
              refine x_ci (va_runS (As := [.int (iI (r_52)), .int (iI (n))]) (rest := []) ⟨hx, hb, hml, hown, hts⟩ (c_X11_drawnBelow l g (M, σ.2)  (r_52)  (n) (by omega)) (va_cwS 2 hts gX11_seeded_X11_drawnBelow rfl rfl rfl (by decide +kernel) ⟨Nat.le_of_ble_eq_true rfl, Nat.le_of_ble_eq_true rfl⟩) (x_preS hK hP) rfl rfl hl.1 rfl (lv_room (Nat.le_of_ble_eq_true rfl)) dX11_seeded_64 ⟨Nat.le_of_ble_eq_true rfl, Nat.le_of_ble_eq_true rfl⟩) (fun r_64 hr_64 qr_64 => ?_)
              replace qr_64 : r_64 = if (n) < 1 then 0 else zDraw (r_52) (n) := qr_64
              have hHd : r_64 = zSdH n zz := by (rw [qr_64, if_neg (by omega), qr_52]; exact zDraw_iI (zNext_iI hdz))
              have bHd := zDraw_rng (zNext zz) (n := n) (by omega)
              have bHe : zSdH n zz = zDraw (zNext zz) n := rfl
              have bHf : 0 ≤ r_64 ∧ r_64 < n := by omega
              refine lv_istore (lv' := [(6, .int (iI (r_64))), (3, .int (iI (r_52))), (5, .int (iI (t9))), (4, .int (iI (wl))), (0, .ref (g.2.2 0)), (1, .int (iI (k9))), (2, .int (iI (z)))]) hx hb dX11_seeded_67 hl (by decide) rfl (fun ls hl => ?_)
              refine lv_iload_n hx hb dX11_seeded_69 rfl (lv_at hl 1 rfl) ?_
              refine x_ci (va_runS (As := [.int (iI (r_52))]) (rest := []) ⟨hx, hb, hml, hown, hts⟩ (c_X11_nextDraw l g (M, σ.2)  (r_52) ) (va_cwS 1 hts gX11_seeded_X11_nextDraw rfl rfl rfl (by decide +kernel) ⟨Nat.le_of_ble_eq_true rfl, Nat.le_of_ble_eq_true rfl⟩) (x_preS hK hP) rfl rfl hl.1 rfl (lv_room (Nat.le_of_ble_eq_true rfl)) dX11_seeded_70 ⟨Nat.le_of_ble_eq_true rfl, Nat.le_of_ble_eq_true rfl⟩) (fun r_70 hr_70 qr_70 => ?_)
              replace qr_70 : r_70 = iWrap (zNext (r_52)) := qr_70
              refine lv_istore_n (lv' := [(3, .int (iI (r_70))), (6, .int (iI (r_64))), (5, .int (iI (t9))), (4, .int (iI (wl))), (0, .ref (g.2.2 0)), (1, .int (iI (k9))), (2, .int (iI (z)))]) hx hb dX11_seeded_73 rfl hl (by decide) rfl (fun ls hl => ?_)
              refine lv_iload_n hx hb dX11_seeded_74 rfl (lv_at hl 0 rfl) ?_
              refine x_iconst hx hb dX11_seeded_75 ?_
              refine x_ci (va_runS (As := [.int (iI (r_70)), .int (iI (2))]) (rest := []) ⟨hx, hb, hml, hown, hts⟩ (c_X11_drawnBelow l g (M, σ.2)  (r_70)  (2) (by omega)) (va_cwS 2 hts gX11_seeded_X11_drawnBelow rfl rfl rfl (by decide +kernel) ⟨Nat.le_of_ble_eq_true rfl, Nat.le_of_ble_eq_true rfl⟩) (x_preS hK hP) rfl rfl hl.1 rfl (lv_room (Nat.le_of_ble_eq_true rfl)) dX11_seeded_76 ⟨Nat.le_of_ble_eq_true rfl, Nat.le_of_ble_eq_true rfl⟩) (fun r_76 hr_76 qr_76 => ?_)
              replace qr_76 : r_76 = if (2) < 1 then 0 else zDraw (r_70) (2) := qr_76
              have hB2 : r_76 = zDraw (zNext (zNext zz)) 2 := by (rw [qr_76, if_neg (by omega), qr_70]; exact zDraw_iI (zNext_iI (by rw [qr_52]; exact zNext_iI hdz)))
              refine x_if_ne (tgt := 94) hx hb (by omega) dX11_seeded_79 (by decide) (fun c_79 => ?_) (fun c_79 => ?_)
              · refine lv_aload_n hx hb dX11_seeded_94 rfl (lv_at hl 4 rfl) ?_
                refine x_get (C := RX11) (T := TX11) (N := 11) hx hb hts hin_X11 hown hK hP (0) (by decide) hx0 rfl 3 (by decide) hw_4 (fun _ h9 => h9) rfl dX11_seeded_95 ?_
                refine lv_iload hx hb dX11_seeded_98 (lv_at hl 1 rfl) ?_
                refine x_ci (va_runV (As := [.int (iI (r_64))]) (rest := []) ⟨hx, hb, hml, hown, hts⟩ (c_X7_behind l g (M, σ.2) (7) (by decide) (n) (rd) T G9 ⟨hqm0, hqm1, hqm2⟩ hTo hH (r_64) (by omega)) (cwV 1 hts gX11_seeded_X7_behind rfl rfl rfl (by decide +kernel) ⟨Nat.le_of_ble_eq_true rfl, Nat.le_of_ble_eq_true rfl⟩) (x_preV hK hP (x_recv hK hP (i := 7) (by decide) hqm0 rfl)) rfl rfl hl.1 rfl (lv_room (Nat.le_of_ble_eq_true rfl)) dX11_seeded_100 ⟨Nat.le_of_ble_eq_true rfl, Nat.le_of_ble_eq_true rfl⟩) (fun r_100 hr_100 qr_100 => ?_)
                replace qr_100 : r_100 = zBehind (n) (rd) (r_64) := qr_100
                have br_100 := zBehind_rng (n) (rd) (r_64) (by omega); rw [← qr_100] at br_100
                have hBd : (r_100) = zSdB n rd zz := by (unfold zSdB zSide; rw [← hHd, ← hB2]; first | (rw [if_pos (by omega)]; exact qr_88) | (rw [if_neg (by omega)]; exact qr_100))
                refine lv_istore (lv' := [(7, .int (iI (r_100))), (3, .int (iI (r_70))), (6, .int (iI (r_64))), (5, .int (iI (t9))), (4, .int (iI (wl))), (0, .ref (g.2.2 0)), (1, .int (iI (k9))), (2, .int (iI (z)))]) hx hb dX11_seeded_103 hl (by decide) rfl (fun ls hl => ?_)
                refine lv_aload_n hx hb dX11_seeded_105 rfl (lv_at hl 5 rfl) ?_
                refine x_get (C := RX11) (T := TX11) (N := 11) hx hb hts hin_X11 hown hK hP (0) (by decide) hx0 rfl 3 (by decide) hw_4 (fun _ h9 => h9) rfl dX11_seeded_106 ?_
                refine lv_iload hx hb dX11_seeded_109 (lv_at hl 2 rfl) ?_
                refine lv_iload hx hb dX11_seeded_111 (lv_at hl 0 rfl) ?_
                refine x_cqv0 (va_runV (As := [.int (iI (r_64)), .int (iI (r_100))]) (rest := []) ⟨hx, hb, hml, hown, hts⟩ (c_X7_steal l g (M, σ.2) A (7) (by decide) (n) (rd) T G9 ⟨hqm0, hqm1, hqm2⟩ hTo hH (r_64) (by omega) (r_100) (by omega)) (cwV 2 hts gX11_seeded_X7_steal rfl rfl rfl (by decide +kernel) ⟨Nat.le_of_ble_eq_true rfl, Nat.le_of_ble_eq_true rfl⟩) (x_preVQ hK hP hD hS hA (x_recv hK hP (i := 7) (by decide) hqm0 rfl)) rfl rfl hl.1 rfl (lv_room (Nat.le_of_ble_eq_true rfl)) dX11_seeded_113 ⟨by decide, by decide⟩) hS (fun σ1 H locs hpost hP hD hS => ?_)
                obtain ⟨M_6, p1⟩ := σ1
                obtain ⟨hp0, hfrc, hnst⟩ := hpost
                obtain rfl : p1 = σ.2 := hp0
                have hP : xP g (M_6, σ.2) H := hP
                have hD : xD g A (M_6, σ.2) := hD
                have hx0 := (hfrc (0) (by omega)).trans hx0
                have hm0 := (hfrc (1) (by omega)).trans hm0
                have hm1 := (hfrc (2) (by omega)).trans hm1
                have hm2 := (hfrc (3) (by omega)).trans hm2
                have hfr := x_frc (F := fun j => j ≠ 7 ∧ j ≠ 8 ∧ j ≠ 9) hfr hfrc (fun j h => by have h : j ≠ 7 ∧ j ≠ 8 ∧ j ≠ 9 := h; omega)
                obtain ⟨Pn_7, hPn_7⟩ : ∃ q : Int → Int, q = zSteal T (n) (r_64) (r_100) := ⟨_, rfl⟩
                obtain ⟨Gn_8, hGn_8⟩ : ∃ q : Int → Option Nat, q = G9 := ⟨_, rfl⟩
                have ost_9 : StOk σ (n) (rd) Pn_7 Gn_8 := by rw [hPn_7, hGn_8]; exact StOk_steal hTo (by omega) (by omega)
                rw [← hPn_7, ← hGn_8] at hnst
                have hqm0 : M_6 (7) = .inr (7, [.ref (g.2.2 8), .ref (g.2.2 9), .int (iI (n)), .int (iI (rd))]) := hnst.1
                have hqm1 : MRef g M_6 8 9 Gn_8 := hnst.2.1
                have hqm2 : MArr g M_6 9 9 Pn_7 := hnst.2.2
                have hcp8 : ∀ i, 0 ≤ i → i < n → sK σ Gn_8 i = sK σ G i ∧ sF σ Gn_8 i = sF σ G i := by (rw [hGn_8]; exact hcp8)
                have hTP2 : ∀ i, 0 ≤ i → i < n → Pn_7 i = zSdP PP n rd zz i := by (rw [hPn_7]; intro i h0 h1; unfold zSdP; rw [← hHd, ← hBd]; exact zSteal_congr hTP (by omega) (by omega) h0 h1)
                have eA : zAll (sK σ Gn_8) (sF σ Gn_8) Pn_7 n rd = zAll (sK σ G) (sF σ G) (zSdP PP n rd zz) n rd := zAll_congr (fun i h0 h1 => ⟨(hcp8 i h0 h1).1, (hcp8 i h0 h1).2, hTP2 i h0 h1⟩)
                refine lv_aload_n hx hb dX11_seeded_116 rfl (lv_at hl 5 rfl) ?_
                refine x_get (C := RX11) (T := TX11) (N := 11) hx hb hts hin_X11 hown hK hP (0) (by decide) hx0 rfl 3 (by decide) hw_4 (fun _ h9 => h9) rfl dX11_seeded_117 ?_
                refine x_ci (va_runV (As := []) (rest := []) ⟨hx, hb, hml, hown, hts⟩ (c_X7_allBreaches l g (M_6, σ.2) (7) (by decide) (n) (rd) Pn_7 Gn_8 ⟨hqm0, hqm1, hqm2⟩ ost_9 hH ) (cwV 0 hts gX11_seeded_X7_allBreaches rfl rfl rfl (by decide +kernel) ⟨Nat.le_of_ble_eq_true rfl, Nat.le_of_ble_eq_true rfl⟩) (x_preV hK hP (x_recv hK hP (i := 7) (by decide) hqm0 rfl)) rfl rfl hl.1 rfl (lv_room (Nat.le_of_ble_eq_true rfl)) dX11_seeded_120 ⟨Nat.le_of_ble_eq_true rfl, Nat.le_of_ble_eq_true rfl⟩) (fun r_120 hr_120 qr_120 => ?_)
                replace qr_120 : r_120 = zAll (sK σ (Gn_8)) (sF σ (Gn_8)) (Pn_7) (n) (rd) ∧ 0 ≤ r_120 ∧ r_120 ≤ 18 := qr_120
                refine x_if_ne (tgt := 129) hx hb (by omega) dX11_seeded_123 (by decide) (fun c_123 => ?_) (fun c_123 => ?_)
                · refine x_iinc (k0 := 3) (lv' := [(5, .int (iI (t9 + 1))), (7, .int (iI (r_100))), (3, .int (iI (r_70))), (6, .int (iI (r_64))), (4, .int (iI (wl))), (0, .ref (g.2.2 0)), (1, .int (iI (k9))), (2, .int (iI (z)))]) hx hb dX11_seeded_129 hl rfl (by decide) rfl (fun ls hl => ?_)
                  refine lv_goto (tgt := 45) hx hb dX11_seeded_132 (by decide) ?_
                  exact ih_5 (Pn_7) (Gn_8) (zNext (zNext zz)) (zSdP PP n rd zz) (r_70) (t9 + 1) (wl) (by omega) (by omega) (by omega) (by omega) (by omega) (by exact ost_9) (by exact hcp8) (by rw [qr_70]; exact zNext_iI (by rw [qr_52]; exact zNext_iI hdz)) (by exact hTP2) (by rw [zSdN_succ _ _ _ _ _ _ ht0, ← hst]; refine Prod.ext rfl (Prod.ext rfl ?_); (show _ = (if zAll (sK σ G) (sF σ G) (zSdP PP n rd zz) n rd = 0 then wl + 1 else wl)); rw [← eA]; first | (rw [if_pos (by omega)]; done) | (rw [if_neg (by omega)]; done)) (M_6) _ _ hx0 hm0 hm1 hm2 hqm0 hqm1 hqm2 hfr hP hD hS ls (lv_sub hl [0, 4, 2, 5, 6, 7] rfl)
                · refine x_iinc (k0 := 4) (lv' := [(4, .int (iI (wl + 1))), (7, .int (iI (r_100))), (3, .int (iI (r_70))), (6, .int (iI (r_64))), (5, .int (iI (t9))), (0, .ref (g.2.2 0)), (1, .int (iI (k9))), (2, .int (iI (z)))]) hx hb dX11_seeded_126 hl rfl (by decide) rfl (fun ls hl => ?_)
                  refine x_iinc (k0 := 4) (lv' := [(5, .int (iI (t9 + 1))), (4, .int (iI (wl + 1))), (7, .int (iI (r_100))), (3, .int (iI (r_70))), (6, .int (iI (r_64))), (0, .ref (g.2.2 0)), (1, .int (iI (k9))), (2, .int (iI (z)))]) hx hb dX11_seeded_129 hl rfl (by decide) rfl (fun ls hl => ?_)
                  refine lv_goto (tgt := 45) hx hb dX11_seeded_132 (by decide) ?_
                  exact ih_5 (Pn_7) (Gn_8) (zNext (zNext zz)) (zSdP PP n rd zz) (r_70) (t9 + 1) (wl + 1) (by omega) (by omega) (by omega) (by omega) (by omega) (by exact ost_9) (by exact hcp8) (by rw [qr_70]; exact zNext_iI (by rw [qr_52]; exact zNext_iI hdz)) (by exact hTP2) (by rw [zSdN_succ _ _ _ _ _ _ ht0, ← hst]; refine Prod.ext rfl (Prod.ext rfl ?_); (show _ = (if zAll (sK σ G) (sF σ G) (zSdP PP n rd zz) n rd = 0 then wl + 1 else wl)); rw [← eA]; first | (rw [if_pos (by omega)]; done) | (rw [if_neg (by omega)]; done)) (M_6) _ _ hx0 hm0 hm1 hm2 hqm0 hqm1 hqm2 hfr hP hD hS ls (lv_sub hl [0, 1, 3, 5, 6, 7] rfl)
              · refine lv_aload_n hx hb dX11_seeded_82 rfl (lv_at hl 4 rfl) ?_
                refine x_get (C := RX11) (T := TX11) (N := 11) hx hb hts hin_X11 hown hK hP (0) (by decide) hx0 rfl 3 (by decide) hw_4 (fun _ h9 => h9) rfl dX11_seeded_83 ?_
                refine lv_iload hx hb dX11_seeded_86 (lv_at hl 1 rfl) ?_
                refine x_ci (va_runV (As := [.int (iI (r_64))]) (rest := []) ⟨hx, hb, hml, hown, hts⟩ (c_X7_ahead l g (M, σ.2) (7) (by decide) (n) (rd) T G9 ⟨hqm0, hqm1, hqm2⟩ hTo hH (r_64) (by omega)) (cwV 1 hts gX11_seeded_X7_ahead rfl rfl rfl (by decide +kernel) ⟨Nat.le_of_ble_eq_true rfl, Nat.le_of_ble_eq_true rfl⟩) (x_preV hK hP (x_recv hK hP (i := 7) (by decide) hqm0 rfl)) rfl rfl hl.1 rfl (lv_room (Nat.le_of_ble_eq_true rfl)) dX11_seeded_88 ⟨Nat.le_of_ble_eq_true rfl, Nat.le_of_ble_eq_true rfl⟩) (fun r_88 hr_88 qr_88 => ?_)
                replace qr_88 : r_88 = zAhead (n) (rd) (r_64) := qr_88
                have br_88 := zAhead_rng (n) (rd) (r_64) (by omega); rw [← qr_88] at br_88
                refine lv_goto (tgt := 103) hx hb dX11_seeded_91 (by decide) ?_
                have hBd : (r_88) = zSdB n rd zz := by (unfold zSdB zSide; rw [← hHd, ← hB2]; first | (rw [if_pos (by omega)]; exact qr_88) | (rw [if_neg (by omega)]; exact qr_100))
                refine lv_istore (lv' := [(7, .int (iI (r_88))), (3, .int (iI (r_70))), (6, .int (iI (r_64))), (5, .int (iI (t9))), (4, .int (iI (wl))), (0, .ref (g.2.2 0)), (1, .int (iI (k9))), (2, .int (iI (z)))]) hx hb dX11_seeded_103 hl (by decide) rfl (fun ls hl => ?_)
                refine lv_aload_n hx hb dX11_seeded_105 rfl (lv_at hl 5 rfl) ?_
                refine x_get (C := RX11) (T := TX11) (N := 11) hx hb hts hin_X11 hown hK hP (0) (by decide) hx0 rfl 3 (by decide) hw_4 (fun _ h9 => h9) rfl dX11_seeded_106 ?_
                refine lv_iload hx hb dX11_seeded_109 (lv_at hl 2 rfl) ?_
                refine lv_iload hx hb dX11_seeded_111 (lv_at hl 0 rfl) ?_
                refine x_cqv0 (va_runV (As := [.int (iI (r_64)), .int (iI (r_88))]) (rest := []) ⟨hx, hb, hml, hown, hts⟩ (c_X7_steal l g (M, σ.2) A (7) (by decide) (n) (rd) T G9 ⟨hqm0, hqm1, hqm2⟩ hTo hH (r_64) (by omega) (r_88) (by omega)) (cwV 2 hts gX11_seeded_X7_steal rfl rfl rfl (by decide +kernel) ⟨Nat.le_of_ble_eq_true rfl, Nat.le_of_ble_eq_true rfl⟩) (x_preVQ hK hP hD hS hA (x_recv hK hP (i := 7) (by decide) hqm0 rfl)) rfl rfl hl.1 rfl (lv_room (Nat.le_of_ble_eq_true rfl)) dX11_seeded_113 ⟨by decide, by decide⟩) hS (fun σ1 H locs hpost hP hD hS => ?_)
                obtain ⟨M_10, p1⟩ := σ1
                obtain ⟨hp0, hfrc, hnst⟩ := hpost
                obtain rfl : p1 = σ.2 := hp0
                have hP : xP g (M_10, σ.2) H := hP
                have hD : xD g A (M_10, σ.2) := hD
                have hx0 := (hfrc (0) (by omega)).trans hx0
                have hm0 := (hfrc (1) (by omega)).trans hm0
                have hm1 := (hfrc (2) (by omega)).trans hm1
                have hm2 := (hfrc (3) (by omega)).trans hm2
                have hfr := x_frc (F := fun j => j ≠ 7 ∧ j ≠ 8 ∧ j ≠ 9) hfr hfrc (fun j h => by have h : j ≠ 7 ∧ j ≠ 8 ∧ j ≠ 9 := h; omega)
                obtain ⟨Pn_11, hPn_11⟩ : ∃ q : Int → Int, q = zSteal T (n) (r_64) (r_88) := ⟨_, rfl⟩
                obtain ⟨Gn_12, hGn_12⟩ : ∃ q : Int → Option Nat, q = G9 := ⟨_, rfl⟩
                have ost_13 : StOk σ (n) (rd) Pn_11 Gn_12 := by rw [hPn_11, hGn_12]; exact StOk_steal hTo (by omega) (by omega)
                rw [← hPn_11, ← hGn_12] at hnst
                have hqm0 : M_10 (7) = .inr (7, [.ref (g.2.2 8), .ref (g.2.2 9), .int (iI (n)), .int (iI (rd))]) := hnst.1
                have hqm1 : MRef g M_10 8 9 Gn_12 := hnst.2.1
                have hqm2 : MArr g M_10 9 9 Pn_11 := hnst.2.2
                have hcp8 : ∀ i, 0 ≤ i → i < n → sK σ Gn_12 i = sK σ G i ∧ sF σ Gn_12 i = sF σ G i := by (rw [hGn_12]; exact hcp8)
                have hTP2 : ∀ i, 0 ≤ i → i < n → Pn_11 i = zSdP PP n rd zz i := by (rw [hPn_11]; intro i h0 h1; unfold zSdP; rw [← hHd, ← hBd]; exact zSteal_congr hTP (by omega) (by omega) h0 h1)
                have eA : zAll (sK σ Gn_12) (sF σ Gn_12) Pn_11 n rd = zAll (sK σ G) (sF σ G) (zSdP PP n rd zz) n rd := zAll_congr (fun i h0 h1 => ⟨(hcp8 i h0 h1).1, (hcp8 i h0 h1).2, hTP2 i h0 h1⟩)
                refine lv_aload_n hx hb dX11_seeded_116 rfl (lv_at hl 5 rfl) ?_
                refine x_get (C := RX11) (T := TX11) (N := 11) hx hb hts hin_X11 hown hK hP (0) (by decide) hx0 rfl 3 (by decide) hw_4 (fun _ h9 => h9) rfl dX11_seeded_117 ?_
                refine x_ci (va_runV (As := []) (rest := []) ⟨hx, hb, hml, hown, hts⟩ (c_X7_allBreaches l g (M_10, σ.2) (7) (by decide) (n) (rd) Pn_11 Gn_12 ⟨hqm0, hqm1, hqm2⟩ ost_13 hH ) (cwV 0 hts gX11_seeded_X7_allBreaches rfl rfl rfl (by decide +kernel) ⟨Nat.le_of_ble_eq_true rfl, Nat.le_of_ble_eq_true rfl⟩) (x_preV hK hP (x_recv hK hP (i := 7) (by decide) hqm0 rfl)) rfl rfl hl.1 rfl (lv_room (Nat.le_of_ble_eq_true rfl)) dX11_seeded_120 ⟨Nat.le_of_ble_eq_true rfl, Nat.le_of_ble_eq_true rfl⟩) (fun r_120 hr_120 qr_120 => ?_)
                replace qr_120 : r_120 = zAll (sK σ (Gn_12)) (sF σ (Gn_12)) (Pn_11) (n) (rd) ∧ 0 ≤ r_120 ∧ r_120 ≤ 18 := qr_120
                refine x_if_ne (tgt := 129) hx hb (by omega) dX11_seeded_123 (by decide) (fun c_123 => ?_) (fun c_123 => ?_)
                · refine x_iinc (k0 := 3) (lv' := [(5, .int (iI (t9 + 1))), (7, .int (iI (r_88))), (3, .int (iI (r_70))), (6, .int (iI (r_64))), (4, .int (iI (wl))), (0, .ref (g.2.2 0)), (1, .int (iI (k9))), (2, .int (iI (z)))]) hx hb dX11_seeded_129 hl rfl (by decide) rfl (fun ls hl => ?_)
                  refine lv_goto (tgt := 45) hx hb dX11_seeded_132 (by decide) ?_
                  exact ih_5 (Pn_11) (Gn_12) (zNext (zNext zz)) (zSdP PP n rd zz) (r_70) (t9 + 1) (wl) (by omega) (by omega) (by omega) (by omega) (by omega) (by exact ost_13) (by exact hcp8) (by rw [qr_70]; exact zNext_iI (by rw [qr_52]; exact zNext_iI hdz)) (by exact hTP2) (by rw [zSdN_succ _ _ _ _ _ _ ht0, ← hst]; refine Prod.ext rfl (Prod.ext rfl ?_); (show _ = (if zAll (sK σ G) (sF σ G) (zSdP PP n rd zz) n rd = 0 then wl + 1 else wl)); rw [← eA]; first | (rw [if_pos (by omega)]; done) | (rw [if_neg (by omega)]; done)) (M_10) _ _ hx0 hm0 hm1 hm2 hqm0 hqm1 hqm2 hfr hP hD hS ls (lv_sub hl [0, 4, 2, 5, 6, 7] rfl)
                · refine x_iinc (k0 := 4) (lv' := [(4, .int (iI (wl + 1))), (7, .int (iI (r_88))), (3, .int (iI (r_70))), (6, .int (iI (r_64))), (5, .int (iI (t9))), (0, .ref (g.2.2 0)), (1, .int (iI (k9))), (2, .int (iI (z)))]) hx hb dX11_seeded_126 hl rfl (by decide) rfl (fun ls hl => ?_)
                  refine x_iinc (k0 := 4) (lv' := [(5, .int (iI (t9 + 1))), (4, .int (iI (wl + 1))), (7, .int (iI (r_88))), (3, .int (iI (r_70))), (6, .int (iI (r_64))), (0, .ref (g.2.2 0)), (1, .int (iI (k9))), (2, .int (iI (z)))]) hx hb dX11_seeded_129 hl rfl (by decide) rfl (fun ls hl => ?_)
                  refine lv_goto (tgt := 45) hx hb dX11_seeded_132 (by decide) ?_
                  exact ih_5 (Pn_11) (Gn_12) (zNext (zNext zz)) (zSdP PP n rd zz) (r_70) (t9 + 1) (wl + 1) (by omega) (by omega) (by omega) (by omega) (by omega) (by exact ost_13) (by exact hcp8) (by rw [qr_70]; exact zNext_iI (by rw [qr_52]; exact zNext_iI hdz)) (by exact hTP2) (by rw [zSdN_succ _ _ _ _ _ _ ht0, ← hst]; refine Prod.ext rfl (Prod.ext rfl ?_); (show _ = (if zAll (sK σ G) (sF σ G) (zSdP PP n rd zz) n rd = 0 then wl + 1 else wl)); rw [← eA]; first | (rw [if_pos (by omega)]; done) | (rw [if_neg (by omega)]; done)) (M_10) _ _ hx0 hm0 hm1 hm2 hqm0 hqm1 hqm2 hfr hP hD hS ls (lv_sub hl [0, 1, 3, 5, 6, 7] rfl)
        exact hloop_45 (((k9 - (0)).toNat) + 1) (Pn_2) (Gn_3) (z) (P) (z) (0) (0) (by omega) (by omega) (by omega) (by omega) (by omega) (by exact ost_4) (by exact fun i a b => ⟨(hcp i a b).1, (hcp i a b).2.1⟩) (by rfl) (by exact fun i a b => (hcp i a b).2.2) (by rfl) (M_1) _ _ hx0 hm0 hm1 hm2 hqm0 hqm1 hqm2 hfr hP hD hS ls (lv_sub hl [0, 1, 2, 3, 4, 5] rfl)
      · refine x_bipush (n := -3) hx hb (by decide +kernel) dX11_seeded_23 ?_
        refine x_retQ hx hb hr (by omega) ?_ hP hD hS dX11_seeded_25 hlocks
        refine ⟨rfl, hfr, by unfold zSeeded; rw [if_neg (by omega), if_pos (by omega)], nm, rm, Pm, Gm, hsm9, hom⟩
    · refine x_iconst hx hb dX11_seeded_11 ?_
      refine x_retQ hx hb hr (by omega) ?_ hP hD hS dX11_seeded_12 hlocks
      refine ⟨rfl, hfr, by unfold zSeeded; rw [if_pos (by omega)], nm, rm, Pm, Gm, hsm9, hom⟩
