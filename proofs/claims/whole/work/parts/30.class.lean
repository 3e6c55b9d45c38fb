theorem zSwap_at {α : Type} {f : Int → α} {a b : Int} (h : a ≠ b) (q : Int) : zSwap f a b q = f (zSw a b q) := by
  unfold zSwap zSw upI
  by_cases e : q = b
  · subst e; rw [if_pos rfl, if_neg (fun x => h x.symm), if_pos rfl]
  · rw [if_neg e]
    by_cases e2 : q = a
    · rw [if_pos e2, if_pos e2]
    · rw [if_neg e2, if_neg e2, if_neg e]
theorem zSwap_two {α : Type} {f : Int → α} {a b : Int} (h : a ≠ b) : zSwap (zSwap f a b) a b = f := by
  funext q
  rw [zSwap_at h, zSwap_at h]
  congr 1
  unfold zSw
  by_cases e : q = a
  · rw [if_pos e, if_neg (fun x => h x.symm), if_pos rfl, e]
  · rw [if_neg e]
    by_cases e2 : q = b
    · rw [if_pos e2, if_pos rfl, e2]
    · rw [if_neg e2, if_neg e, if_neg e2]
theorem zSw_rng {a b n q : Int} (ha : 0 ≤ a ∧ a < n) (hb : 0 ≤ b ∧ b < n) (hq : 0 ≤ q ∧ q < n) : 0 ≤ zSw a b q ∧ zSw a b q < n := by
  unfold zSw; split
  · exact hb
  · split
    · exact ha
    · exact hq
theorem StOk_swap {σ : xS} {n rd a b : Int} {P : Int → Int} {G : Int → Option Nat} (h : StOk σ n rd P G) (ha : 0 ≤ a ∧ a < n) (hb : 0 ≤ b ∧ b < n) (hab : a ≠ b) : StOk σ n rd (zSwap P a b) (zSwap G a b) := by
  obtain ⟨a1, a2, a3, a4, a5, a6⟩ := h
  refine ⟨a1, a2, a3, fun i => by rw [zSwap_at hab]; exact a4 _, fun i c hc => ?_, fun i h0 h1 => ?_⟩
  · rw [zSwap_at hab] at hc; exact a5 _ _ hc
  · rw [zSwap_at hab, zSwap_at hab]
    have z := zSw_rng ha hb ⟨h0, h1⟩
    exact a6 _ z.1 z.2
theorem zChg_cls {σ : xS} {G Gm : Int → Option Nat} {P Pm : Int → Int} {n rd a b : Int} (hn : n ≤ 9) (ha : 0 ≤ a ∧ a < n) (hb : 0 ≤ b ∧ b < n) (hab : a ≠ b) : zAll (sK σ (zSwap (zCopy G Gm 9) a b)) (sF σ (zSwap (zCopy G Gm 9) a b)) (zSwap (zCopy P Pm 9) a b) n rd = zAllSw (sK σ G) (sF σ G) P n rd a b := by
  have z := zSame_copy (σ := σ) (G := G) (Gm := Gm) (P := P) (Pm := Pm) (n := n) (by omega)
  unfold zAllSw
  refine zAll_congr (fun i h0 h1 => ?_)
  have q := zSw_rng ha hb ⟨h0, h1⟩
  have zi := z _ q.1 q.2
  unfold sK sF at zi ⊢
  rw [zSwap_at hab, zSwap_at hab]
  exact zi

set_option maxHeartbeats 4000000 in
set_option maxRecDepth 100000 in
theorem c_X11_fitting (l : Launch) (g : xG) (σ : xS) (A : Nat → Prop) (ph : Nat) (tk : Int) (hx0 : XObj g σ.1 ph tk) (n rd : Int) (P : Int → Int) (G : Int → Option Nat) (hst : StAt g σ.1 1 n rd P G) (hok : StOk σ n rd P G) (hH : HsOk σ) (nm rm : Int) (Pm : Int → Int) (Gm : Int → Option Nat) (hsm9 : StAt g σ.1 7 nm rm Pm Gm) (hom : StOk σ nm rm Pm Gm) (h : Int) (hh : inR h) (wh : Int) (hw : inR wh) : Met l yX11_fitting wsX11_fitting ({ frames := 7, cells := 0, slots := 0, locals := 224 }) (va_Pc [.ref (g.2.2 0), .int (iI (h)), .int (iI (wh))] (xPreQ g A σ)) (x_Qi g A (fun r σ1 => σ1.2 = σ.2 ∧ (∀ j, j ≠ 7 ∧ j ≠ 8 ∧ j ≠ 9 → σ1.1 j = σ.1 j) ∧ (r = zFit (sK σ G) (sF σ G) P n rd h wh) ∧ xStr g σ1.1 σ 7)) (0) (0) A := by
  refine Met.ofW (cc := cX11_fitting) (maxL := 7) (ret := (some .int)) (by decide) rfl ?_
  intro p e s m args below meth c s₁ B hml hv
  obtain ⟨rfl, hP, hK, hD, hA⟩ := hv
  have hx := B.exec
  have hb := B.bytes
  have hr := B.returns
  have hts := atoms_spec (ws := wsX11_fitting) B.pre
  have hown : s.vm.findClass RX11 = some m.cls := findClass_of_methodNamed B.named
  have hlocks := B.notSynchronized
  have hS : va_S A s.heap s.heap [] := va_S.rf
  have hfr : ∀ j, (j ≠ 7 ∧ j ≠ 8 ∧ j ≠ 9) → σ.1 j = σ.1 j := fun _ _ => rfl
  have hl := lv_entry ([.ref (g.2.2 0), .int (iI (h)), .int (iI (wh))]) (n := 7) (Nat.le_of_ble_eq_true rfl)
  rw [lg_entry_eq]
  generalize (lg_sl ([.ref (g.2.2 0), .int (iI (h)), .int (iI (wh))]) ++ List.replicate (7 - (lg_sl ([.ref (g.2.2 0), .int (iI (h)), .int (iI (wh))])).length) Slot.unset).toArray = ls at hl ⊢
  have hl : lv_has ls 7 [(0, .ref (g.2.2 0)), (1, .int (iI (h))), (2, .int (iI (wh)))] := hl
  have hm0 : σ.1 1 = .inr (7, [.ref (g.2.2 2), .ref (g.2.2 3), .int (iI n), .int (iI rd)]) := hst.1
  have hm1 : MRef g σ.1 2 9 G := hst.2.1
  have hm2 : MArr g σ.1 3 9 P := hst.2.2
  have hok1 := hok.1
  have hok2 := hok.2.1
  have hok3 := hok.2.2.1
  have hqm0 : σ.1 7 = .inr (7, [.ref (g.2.2 8), .ref (g.2.2 9), .int (iI nm), .int (iI rm)]) := hsm9.1
  have hqm1 : MRef g σ.1 8 9 Gm := hsm9.2.1
  have hqm2 : MArr g σ.1 9 9 Pm := hsm9.2.2
  have hom1 := hom.1
  have hom2 := hom.2.1
  have hom3 := hom.2.2.1
  have hw_0 := hts (.fieldLink RX11 10 "TwiceAsRich" "street" "LTwiceAsRich$Street;") (by decide +kernel)
  have hin_X11 : ∀ w ∈ wsX110, w ∈ wsX11_fitting := by decide +kernel
  have hw_2 := hts (.fieldLink RX11 19 "TwiceAsRich" "mind" "LTwiceAsRich$Street;") (by decide +kernel)
  have hw_3 := hts (.fieldLink RX11 103 "TwiceAsRich$Street" "purses" "[I") (by decide +kernel)
  have hin_X7 : ∀ w ∈ wsX70, w ∈ wsX11_fitting := by decide +kernel
  refine lv_aload_n hx hb dX11_fitting_0 rfl (lv_at hl 0 rfl) ?_
  refine x_get (C := RX11) (T := TX11) (N := 11) hx hb hts hin_X11 hown hK hP (0) (by decide) hx0 rfl 0 (by decide) hw_0 (fun _ h9 => h9) rfl dX11_fitting_1 ?_
  refine lv_iload_n hx hb dX11_fitting_4 rfl (lv_at hl 1 rfl) ?_
  refine x_ci (va_runV (As := [.int (iI (h))]) (rest := []) ⟨hx, hb, hml, hown, hts⟩ (c_X7_has l g σ (1) (by decide) (n) (rd) P G ⟨hm0, hm1, hm2⟩ hok hH (h) (by omega)) (cwV 1 hts gX11_fitting_X7_has rfl rfl rfl (by decide +kernel) ⟨Nat.le_of_ble_eq_true rfl, Nat.le_of_ble_eq_true rfl⟩) (x_preV hK hP (x_recv hK hP (i := 1) (by decide) hm0 rfl)) rfl rfl hl.1 rfl (lv_room (Nat.le_of_ble_eq_true rfl)) dX11_fitting_5 ⟨Nat.le_of_ble_eq_true rfl, Nat.le_of_ble_eq_true rfl⟩) (fun r_5 hr_5 qr_5 => ?_)
  replace qr_5 : (r_5 = 1 ∧ 0 ≤ (h) ∧ (h) < (n)) ∨ (r_5 = 0 ∧ ¬ (0 ≤ (h) ∧ (h) < (n))) := qr_5
  refine x_if_eq (tgt := 20) hx hb (by omega) dX11_fitting_8 (by decide) (fun c_8 => ?_) (fun c_8 => ?_)
  · refine x_iconst hx hb dX11_fitting_20 ?_
    refine x_retQ hx hb hr (by omega) ?_ hP hD hS dX11_fitting_21 hlocks
    refine ⟨rfl, hfr, by unfold zFit; rw [if_pos (by omega)], nm, rm, Pm, Gm, hsm9, hom⟩
  · refine lv_iload_n hx hb dX11_fitting_11 rfl (lv_at hl 2 rfl) ?_
    refine x_if_lt (tgt := 20) hx hb (by omega) dX11_fitting_12 (by decide) (fun c_12 => ?_) (fun c_12 => ?_)
    · refine x_iconst hx hb dX11_fitting_20 ?_
      refine x_retQ hx hb hr (by omega) ?_ hP hD hS dX11_fitting_21 hlocks
      refine ⟨rfl, hfr, by unfold zFit; rw [if_pos (by omega)], nm, rm, Pm, Gm, hsm9, hom⟩
    · refine lv_iload_n hx hb dX11_fitting_15 rfl (lv_at hl 2 rfl) ?_
      refine x_iconst hx hb dX11_fitting_16 ?_
      refine x_icmp_le (tgt := 22) hx hb (by omega) (by omega) dX11_fitting_17 (by decide) (fun c_17 => ?_) (fun c_17 => ?_)
      · refine lv_aload_n hx hb dX11_fitting_22 rfl (lv_at hl 0 rfl) ?_
        refine x_get (C := RX11) (T := TX11) (N := 11) hx hb hts hin_X11 hown hK hP (0) (by decide) hx0 rfl 3 (by decide) hw_2 (fun _ h9 => h9) rfl dX11_fitting_23 ?_
        refine lv_aload_n hx hb dX11_fitting_26 rfl (lv_at hl 0 rfl) ?_
        refine x_get (C := RX11) (T := TX11) (N := 11) hx hb hts hin_X11 hown hK hP (0) (by decide) hx0 rfl 0 (by decide) hw_0 (fun _ h9 => h9) rfl dX11_fitting_27 ?_
        refine x_cqv0 (va_runV (As := [.ref (g.2.2 1)]) (rest := []) ⟨hx, hb, hml, hown, hts⟩ (c_X7_become l g σ A (7) (by decide) (nm) (rm) Pm Gm ⟨hqm0, hqm1, hqm2⟩ hom hH (1) (by decide) (by decide) (n) (rd) P G ⟨hm0, hm1, hm2⟩ hok) (cwV 1 hts gX11_fitting_X7_become rfl rfl rfl (by decide +kernel) ⟨Nat.le_of_ble_eq_true rfl, Nat.le_of_ble_eq_true rfl⟩) (x_preVQ hK hP hD hS hA (x_recv hK hP (i := 7) (by decide) hqm0 rfl)) rfl rfl hl.1 rfl (lv_room (Nat.le_of_ble_eq_true rfl)) dX11_fitting_30 ⟨by decide, by decide⟩) hS (fun σ1 H locs hpost hP hD hS => ?_)
        obtain ⟨M_1, p1⟩ := σ1
        obtain ⟨hp0, hfrc, hnst⟩ := hpost
        obtain rfl : p1 = σ.2 := hp0
        have hP : xP g (M_1, σ.2) H := hP
        have hD : xD g A (M_1, σ.2) := hD
        have hx0 := (hfrc (0) (by omega)).trans hx0
        have hm0 := (hfrc (1) (by omega)).trans hm0
        have hm1 := (hfrc (2) (by omega)).trans hm1
        have hm2 := (hfrc (3) (by omega)).trans hm2
        have hfr := x_frc (F := fun j => j ≠ 7 ∧ j ≠ 8 ∧ j ≠ 9) hfr hfrc (fun j h => by have h : j ≠ 7 ∧ j ≠ 8 ∧ j ≠ 9 := h; omega)
        obtain ⟨Pn_2, hPn_2⟩ : ∃ q : Int → Int, q = zCopy P Pm 9 := ⟨_, rfl⟩
        obtain ⟨Gn_3, hGn_3⟩ : ∃ q : Int → Option Nat, q = zCopy G Gm 9 := ⟨_, rfl⟩
        have ost_4 : StOk σ (n) (rd) Pn_2 Gn_3 := by rw [hPn_2, hGn_3]; exact StOk_become hom hok
        rw [← hPn_2, ← hGn_3] at hnst
        have hqm0 : M_1 (7) = .inr (7, [.ref (g.2.2 8), .ref (g.2.2 9), .int (iI (n)), .int (iI (rd))]) := hnst.1
        have hqm1 : MRef g M_1 8 9 Gn_3 := hnst.2.1
        have hqm2 : MArr g M_1 9 9 Pn_2 := hnst.2.2
        have hh0 : 0 ≤ h := by omega
        have hh1 : h < n := by omega
        refine x_iconst hx hb dX11_fitting_33 ?_
        refine lv_istore_n (lv' := [(3, .int (iI (0))), (0, .ref (g.2.2 0)), (1, .int (iI (h))), (2, .int (iI (wh)))]) hx hb dX11_fitting_34 rfl hl (by decide) rfl (fun ls hl => ?_)
        refine x_bipush (n := -4) hx hb (by decide +kernel) dX11_fitting_35 ?_
        refine lv_istore (lv' := [(4, .int (iI (-4))), (3, .int (iI (0))), (0, .ref (g.2.2 0)), (1, .int (iI (h))), (2, .int (iI (wh)))]) hx hb dX11_fitting_37 hl (by decide) rfl (fun ls hl => ?_)
        refine x_bipush (n := -4) hx hb (by decide +kernel) dX11_fitting_39 ?_
        refine lv_istore (lv' := [(5, .int (iI (-4))), (4, .int (iI (-4))), (3, .int (iI (0))), (0, .ref (g.2.2 0)), (1, .int (iI (h))), (2, .int (iI (wh)))]) hx hb dX11_fitting_41 hl (by decide) rfl (fun ls hl => ?_)
        refine x_iconst hx hb dX11_fitting_43 ?_
        refine lv_istore (lv' := [(6, .int (iI (0))), (5, .int (iI (-4))), (4, .int (iI (-4))), (3, .int (iI (0))), (0, .ref (g.2.2 0)), (1, .int (iI (h))), (2, .int (iI (wh)))]) hx hb dX11_fitting_44 hl (by decide) rfl (fun ls hl => ?_)
        have hloop_46 : ∀ (k : Nat) (T : Int → Int) (p9 : Int) (mn : Int) (ls9 : Int) (gr : Int), ((100 : Int) - p9).toNat < k → (hp0 : 0 ≤ p9) → (hp1 : p9 ≤ 100) → (hT : ∀ v, upI T h v = upI Pn_2 h v) → (hTo : StOk σ n rd T Gn_3) → (hst : (mn, ls9, gr) = zFitN (sK σ G) (sF σ G) P n rd h p9.toNat) → (hmr : 0 ≤ mn ∧ mn ≤ p9) → (hlr : ls9 = -4 ∨ (0 ≤ ls9 ∧ ls9 ≤ 99)) → (hgr : -4 ≤ gr ∧ gr ≤ 99) → ∀ (M : xM) (H : Heap) (locs : List Loc), (hx0 : M (0) = .inr (11, [.ref (g.2.2 1), .ref (g.2.2 4), .int (iI (tk)), .ref (g.2.2 7), .ref ph, .ref (g.2.2 13), .ref (g.2.2 23), .ref (g.2.2 25), .ref (g.2.2 26), .ref (g.2.2 27), .ref (g.2.2 28)])) → (hm0 : M (1) = .inr (7, [.ref (g.2.2 2), .ref (g.2.2 3), .int (iI (n)), .int (iI (rd))])) → (hm1 : M (2) = .inl (g.2.1 1, 9, .inr (.inr (.inr (.inr (fun k => G (k : Int))))))) → (hm2 : M (3) = .inl (g.2.1 0, 9, .inl (fun k => iI (P (k : Int))))) → (hqm0 : M (7) = .inr (7, [.ref (g.2.2 8), .ref (g.2.2 9), .int (iI (n)), .int (iI (rd))])) → (hqm1 : M (8) = .inl (g.2.1 1, 9, .inr (.inr (.inr (.inr (fun k => Gn_3 (k : Int))))))) → (hqm2 : M (9) = .inl (g.2.1 0, 9, .inl (fun k => iI (T (k : Int))))) → (hfr : ∀ j, (j ≠ 7 ∧ j ≠ 8 ∧ j ≠ 9) → M j = σ.1 j) → xP g (M, σ.2) H → xD g A (M, σ.2) → va_S A s.heap H locs → ∀ (ls : Array Slot), lv_has ls 7 [(6, .int (iI (p9))), (3, .int (iI (mn))), (4, .int (iI (ls9))), (5, .int (iI (gr))), (0, .ref (g.2.2 0)), (1, .int (iI (h))), (2, .int (iI (wh)))] → W p l e (headSpec wsX11_fitting ({ frames := 7, cells := 0, slots := 0, locals := 224 })).room s m ([.ref (g.2.2 0), .int (iI (h)), .int (iI (wh))] : List Value).toArray below meth c H locs 0 0 (MQ below (x_Qi g A (fun r σ1 => σ1.2 = σ.2 ∧ (∀ j, j ≠ 7 ∧ j ≠ 8 ∧ j ≠ 9 → σ1.1 j = σ.1 j) ∧ (r = zFit (sK σ G) (sF σ G) P n rd h wh) ∧ xStr g σ1.1 σ 7)) ([.ref (g.2.2 0), .int (iI (h)), .int (iI (wh))] : List Value).toArray s (0) (0) A) (F0 m 46 ls []) := by
          intro k
          induction k with
          | zero =>
            intros; exact absurd (by assumption) (Nat.not_lt_zero _)
          | succ k ih =>
            intro T p9 mn ls9 gr hmeas hp0 hp1 hT hTo hst hmr hlr hgr M H locs hx0 hm0 hm1 hm2 hqm0 hqm1 hqm2 hfr hP hD hS ls hl
            have ih_5 := ih
            refine lv_iload hx hb dX11_fitting_46 (lv_at hl 0 rfl) ?_
            refine x_bipush (n := 100) hx hb (by decide +kernel) dX11_fitting_48 ?_
            refine x_icmp_ge (tgt := 103) hx hb (by omega) (by omega) dX11_fitting_50 (by decide) (fun c_50 => ?_) (fun c_50 => ?_)
            · refine lv_iload_n hx hb dX11_fitting_103 rfl (lv_at hl 6 rfl) ?_
              refine x_if_ne (tgt := 109) hx hb (by omega) dX11_fitting_104 (by decide) (fun c_104 => ?_) (fun c_104 => ?_)
              · refine lv_iload_n hx hb dX11_fitting_109 rfl (lv_at hl 6 rfl) ?_
                refine x_iconst hx hb dX11_fitting_110 ?_
                refine x_icmp_ne (tgt := 119) hx hb (by omega) (by omega) dX11_fitting_111 (by decide) (fun c_111 => ?_) (fun c_111 => ?_)
                · refine lv_iload hx hb dX11_fitting_119 (lv_at hl 3 rfl) ?_
                  refine x_retQ hx hb hr (by omega) ?_ hP hD hS dX11_fitting_121 hlocks
                  refine ⟨rfl, hfr, ?_, _, _, _, _, ⟨hqm0, hqm1, hqm2⟩, hTo⟩
                  have e : p9 = 100 := by omega
                  rw [e] at hst
                  have hst : (mn, ls9, gr) = zFitN (sK σ G) (sF σ G) P n rd h 100 := hst
                  unfold zFit
                  rw [← hst]
                  repeat first | rw [if_pos (by omega)] | rw [if_neg (by omega)]
                  all_goals (first | rfl | omega)
                · refine lv_iload hx hb dX11_fitting_114 (lv_at hl 2 rfl) ?_
                  refine lv_goto (tgt := 121) hx hb dX11_fitting_116 (by decide) ?_
                  refine x_retQ hx hb hr (by omega) ?_ hP hD hS dX11_fitting_121 hlocks
                  refine ⟨rfl, hfr, ?_, _, _, _, _, ⟨hqm0, hqm1, hqm2⟩, hTo⟩
                  have e : p9 = 100 := by omega
                  rw [e] at hst
                  have hst : (mn, ls9, gr) = zFitN (sK σ G) (sF σ G) P n rd h 100 := hst
                  unfold zFit
                  rw [← hst]
                  repeat first | rw [if_pos (by omega)] | rw [if_neg (by omega)]
                  all_goals (first | rfl | omega)
              · refine lv_iload_n hx hb dX11_fitting_107 rfl (lv_at hl 1 rfl) ?_
                refine x_retQ hx hb hr (by omega) ?_ hP hD hS dX11_fitting_108 hlocks
                refine ⟨rfl, hfr, ?_, _, _, _, _, ⟨hqm0, hqm1, hqm2⟩, hTo⟩
                have e : p9 = 100 := by omega
                rw [e] at hst
                have hst : (mn, ls9, gr) = zFitN (sK σ G) (sF σ G) P n rd h 100 := hst
                unfold zFit
                rw [← hst]
                repeat first | rw [if_pos (by omega)] | rw [if_neg (by omega)]
                all_goals (first | rfl | omega)
            · refine lv_aload_n hx hb dX11_fitting_53 rfl (lv_at hl 4 rfl) ?_
              refine x_get (C := RX11) (T := TX11) (N := 11) hx hb hts hin_X11 hown hK hP (0) (by decide) hx0 rfl 3 (by decide) hw_2 (fun _ h9 => h9) rfl dX11_fitting_54 ?_
              refine x_get (C := RX7) (T := TX7) (N := 4) hx hb hts hin_X7 hown hK hP (7) (by decide) hqm0 rfl 1 (by decide) hw_3 (fun _ h9 => h9) rfl dX11_fitting_57 ?_
              refine lv_iload_n hx hb dX11_fitting_60 rfl (lv_at hl 5 rfl) ?_
              refine lv_iload hx hb dX11_fitting_61 (lv_at hl 0 rfl) ?_
              refine x_iast (f := T) hx hb hK hP hD hS (9) (by decide) hqm2 (by omega) (by omega) (by decide) dX11_fitting_63 (fun M_6 H locs hnew hne hP hD hS => ?_)
              obtain ⟨f_7, hf_7⟩ : ∃ q : Int → Int, q = (upI T (h) (p9)) := ⟨_, rfl⟩
              rw [← hf_7] at hnew
              have hP : xP g (M_6, σ.2) H := hP
              have hD : xD g A (M_6, σ.2) := hD
              have hqm2 : M_6 (9) = .inl (g.2.1 0, 9, .inl (fun k => iI (f_7 (k : Int)))) := hnew
              have hx0 := (hne (0) (by decide)).trans hx0
              have hm0 := (hne (1) (by decide)).trans hm0
              have hm1 := (hne (2) (by decide)).trans hm1
              have hm2 := (hne (3) (by decide)).trans hm2
              have hqm0 := (hne (7) (by decide)).trans hqm0
              have hqm1 := (hne (8) (by decide)).trans hqm1
              have hfr := x_fr (F := fun j => j ≠ 7 ∧ j ≠ 8 ∧ j ≠ 9) hfr hne (fun j h => by have h : j ≠ 7 ∧ j ≠ 8 ∧ j ≠ 9 := h; omega)
              have ost_8 : StOk σ (n) (rd) f_7 Gn_3 := by (rw [hf_7]; exact StOk_purse hTo (by omega))
              have eT : f_7 = upI Pn_2 h p9 := by (rw [hf_7]; exact hT p9)
              have eA : zAll (sK σ Gn_3) (sF σ Gn_3) f_7 n rd = zAll (sK σ G) (sF σ G) (upI P h p9) n rd := by (rw [eT, hPn_2, hGn_3]; exact zFit_cls (by omega))
              refine lv_aload_n hx hb dX11_fitting_64 rfl (lv_at hl 4 rfl) ?_
              refine x_get (C := RX11) (T := TX11) (N := 11) hx hb hts hin_X11 hown hK hP (0) (by decide) hx0 rfl 3 (by decide) hw_2 (fun _ h9 => h9) rfl dX11_fitting_65 ?_
              refine x_ci (va_runV (As := []) (rest := []) ⟨hx, hb, hml, hown, hts⟩ (c_X7_allBreaches l g (M_6, σ.2) (7) (by decide) (n) (rd) f_7 Gn_3 ⟨hqm0, hqm1, hqm2⟩ ost_8 hH ) (cwV 0 hts gX11_fitting_X7_allBreaches rfl rfl rfl (by decide +kernel) ⟨Nat.le_of_ble_eq_true rfl, Nat.le_of_ble_eq_true rfl⟩) (x_preV hK hP (x_recv hK hP (i := 7) (by decide) hqm0 rfl)) rfl rfl hl.1 rfl (lv_room (Nat.le_of_ble_eq_true rfl)) dX11_fitting_68 ⟨Nat.le_of_ble_eq_true rfl, Nat.le_of_ble_eq_true rfl⟩) (fun r_68 hr_68 qr_68 => ?_)
              replace qr_68 : r_68 = zAll (sK σ (Gn_3)) (sF σ (Gn_3)) (f_7) (n) (rd) ∧ 0 ≤ r_68 ∧ r_68 ≤ 18 := qr_68
              refine x_if_ne (tgt := 97) hx hb (by omega) dX11_fitting_71 (by decide) (fun c_71 => ?_) (fun c_71 => ?_)
              · refine x_iinc (k0 := 0) (lv' := [(6, .int (iI (p9 + 1))), (3, .int (iI (mn))), (4, .int (iI (ls9))), (5, .int (iI (gr))), (0, .ref (g.2.2 0)), (1, .int (iI (h))), (2, .int (iI (wh)))]) hx hb dX11_fitting_97 hl rfl (by decide) rfl (fun ls hl => ?_)
                refine lv_goto (tgt := 46) hx hb dX11_fitting_100 (by decide) ?_
                exact ih_5 (f_7) (p9 + 1) (mn) (ls9) (gr) (by omega) (by omega) (by omega) (by exact fun v => by rw [eT]; exact upI_up) (by exact ost_8) (by rw [zFitN_succ _ _ _ _ _ _ hp0, ← hst, ← eA]; simp only; first | (rw [if_pos (by omega), if_pos (by omega)]; done) | (rw [if_pos (by omega), if_neg (by omega)]; done) | (rw [if_neg (by omega)]; done)) (by omega) (by omega) (by omega) (M_6) _ _ hx0 hm0 hm1 hm2 hqm0 hqm1 hqm2 hfr hP hD hS ls (lv_sub hl [0, 1, 2, 3, 4, 5, 6] rfl)
              · refine x_iinc (k0 := 1) (lv' := [(3, .int (iI (mn + 1))), (6, .int (iI (p9))), (4, .int (iI (ls9))), (5, .int (iI (gr))), (0, .ref (g.2.2 0)), (1, .int (iI (h))), (2, .int (iI (wh)))]) hx hb dX11_fitting_74 hl rfl (by decide) rfl (fun ls hl => ?_)
                refine lv_iload hx hb dX11_fitting_77 (lv_at hl 2 rfl) ?_
                refine x_bipush (n := -4) hx hb (by decide +kernel) dX11_fitting_79 ?_
                refine x_icmp_ne (tgt := 89) hx hb (by omega) (by omega) dX11_fitting_81 (by decide) (fun c_81 => ?_) (fun c_81 => ?_)
                · refine lv_iload hx hb dX11_fitting_89 (lv_at hl 2 rfl) ?_
                  refine lv_istore (lv' := [(4, .int (iI (ls9))), (3, .int (iI (mn + 1))), (6, .int (iI (p9))), (5, .int (iI (gr))), (0, .ref (g.2.2 0)), (1, .int (iI (h))), (2, .int (iI (wh)))]) hx hb dX11_fitting_91 hl (by decide) rfl (fun ls hl => ?_)
                  refine lv_iload hx hb dX11_fitting_93 (lv_at hl 2 rfl) ?_
                  refine lv_istore (lv' := [(5, .int (iI (p9))), (4, .int (iI (ls9))), (3, .int (iI (mn + 1))), (6, .int (iI (p9))), (0, .ref (g.2.2 0)), (1, .int (iI (h))), (2, .int (iI (wh)))]) hx hb dX11_fitting_95 hl (by decide) rfl (fun ls hl => ?_)
                  refine x_iinc (k0 := 3) (lv' := [(6, .int (iI (p9 + 1))), (5, .int (iI (p9))), (4, .int (iI (ls9))), (3, .int (iI (mn + 1))), (0, .ref (g.2.2 0)), (1, .int (iI (h))), (2, .int (iI (wh)))]) hx hb dX11_fitting_97 hl rfl (by decide) rfl (fun ls hl => ?_)
                  refine lv_goto (tgt := 46) hx hb dX11_fitting_100 (by decide) ?_
                  exact ih_5 (f_7) (p9 + 1) (mn + 1) (ls9) (p9) (by omega) (by omega) (by omega) (by exact fun v => by rw [eT]; exact upI_up) (by exact ost_8) (by rw [zFitN_succ _ _ _ _ _ _ hp0, ← hst, ← eA]; simp only; first | (rw [if_pos (by omega), if_pos (by omega)]; done) | (rw [if_pos (by omega), if_neg (by omega)]; done) | (rw [if_neg (by omega)]; done)) (by omega) (by omega) (by omega) (M_6) _ _ hx0 hm0 hm1 hm2 hqm0 hqm1 hqm2 hfr hP hD hS ls (lv_sub hl [0, 3, 2, 1, 4, 5, 6] rfl)
                · refine lv_iload hx hb dX11_fitting_84 (lv_at hl 1 rfl) ?_
                  refine lv_goto (tgt := 91) hx hb dX11_fitting_86 (by decide) ?_
                  refine lv_istore (lv' := [(4, .int (iI (p9))), (3, .int (iI (mn + 1))), (6, .int (iI (p9))), (5, .int (iI (gr))), (0, .ref (g.2.2 0)), (1, .int (iI (h))), (2, .int (iI (wh)))]) hx hb dX11_fitting_91 hl (by decide) rfl (fun ls hl => ?_)
                  refine lv_iload hx hb dX11_fitting_93 (lv_at hl 2 rfl) ?_
                  refine lv_istore (lv' := [(5, .int (iI (p9))), (4, .int (iI (p9))), (3, .int (iI (mn + 1))), (6, .int (iI (p9))), (0, .ref (g.2.2 0)), (1, .int (iI (h))), (2, .int (iI (wh)))]) hx hb dX11_fitting_95 hl (by decide) rfl (fun ls hl => ?_)
                  refine x_iinc (k0 := 3) (lv' := [(6, .int (iI (p9 + 1))), (5, .int (iI (p9))), (4, .int (iI (p9))), (3, .int (iI (mn + 1))), (0, .ref (g.2.2 0)), (1, .int (iI (h))), (2, .int (iI (wh)))]) hx hb dX11_fitting_97 hl rfl (by decide) rfl (fun ls hl => ?_)
                  refine lv_goto (tgt := 46) hx hb dX11_fitting_100 (by decide) ?_
                  exact ih_5 (f_7) (p9 + 1) (mn + 1) (p9) (p9) (by omega) (by omega) (by omega) (by exact fun v => by rw [eT]; exact upI_up) (by exact ost_8) (by rw [zFitN_succ _ _ _ _ _ _ hp0, ← hst, ← eA]; simp only; first | (rw [if_pos (by omega), if_pos (by omega)]; done) | (rw [if_pos (by omega), if_neg (by omega)]; done) | (rw [if_neg (by omega)]; done)) (by omega) (by omega) (by omega) (M_6) _ _ hx0 hm0 hm1 hm2 hqm0 hqm1 hqm2 hfr hP hD hS ls (lv_sub hl [0, 3, 2, 1, 4, 5, 6] rfl)
        exact hloop_46 ((((100 : Int) - (0)).toNat) + 1) (Pn_2) (0) (0) (-4) (-4) (by omega) (by omega) (by omega) (by exact fun v => rfl) (by exact ost_4) (by rfl) (by omega) (by omega) (by omega) (M_1) _ _ hx0 hm0 hm1 hm2 hqm0 hqm1 hqm2 hfr hP hD hS ls (lv_sub hl [0, 3, 2, 1, 4, 5, 6] rfl)
      · refine x_iconst hx hb dX11_fitting_20 ?_
        refine x_retQ hx hb hr (by omega) ?_ hP hD hS dX11_fitting_21 hlocks
        refine ⟨rfl, hfr, by unfold zFit; rw [if_pos (by omega)], nm, rm, Pm, Gm, hsm9, hom⟩

set_option maxHeartbeats 4000000 in
set_option maxRecDepth 100000 in
theorem c_X11_change (l : Launch) (g : xG) (σ : xS) (A : Nat → Prop) (ph : Nat) (tk : Int) (hx0 : XObj g σ.1 ph tk) (n rd : Int) (P : Int → Int) (G : Int → Option Nat) (hst : StAt g σ.1 1 n rd P G) (hok : StOk σ n rd P G) (hH : HsOk σ) (nm rm : Int) (Pm : Int → Int) (Gm : Int → Option Nat) (hsm9 : StAt g σ.1 7 nm rm Pm Gm) (hom : StOk σ nm rm Pm Gm) (wh : Int) (hw : inR wh) : Met l yX11_change wsX11_change ({ frames := 7, cells := 0, slots := 0, locals := 224 }) (va_Pc [.ref (g.2.2 0), .int (iI (wh))] (xPreQ g A σ)) (x_Qi g A (fun r σ1 => σ1.2 = σ.2 ∧ (∀ j, j ≠ 7 ∧ j ≠ 8 ∧ j ≠ 9 → σ1.1 j = σ.1 j) ∧ (r = zChange (sK σ G) (sF σ G) P n rd wh) ∧ xStr g σ1.1 σ 7)) (0) (0) A := by
  refine Met.ofW (cc := cX11_change) (maxL := 7) (ret := (some .int)) (by decide) rfl ?_
  intro p e s m args below meth c s₁ B hml hv
  obtain ⟨rfl, hP, hK, hD, hA⟩ := hv
  have hx := B.exec
  have hb := B.bytes
  have hr := B.returns
  have hts := atoms_spec (ws := wsX11_change) B.pre
  have hown : s.vm.findClass RX11 = some m.cls := findClass_of_methodNamed B.named
  have hlocks := B.notSynchronized
  have hS : va_S A s.heap s.heap [] := va_S.rf
  have hfr : ∀ j, (j ≠ 7 ∧ j ≠ 8 ∧ j ≠ 9) → σ.1 j = σ.1 j := fun _ _ => rfl
  have hl := lv_entry ([.ref (g.2.2 0), .int (iI (wh))]) (n := 7) (Nat.le_of_ble_eq_true rfl)
  rw [lg_entry_eq]
  generalize (lg_sl ([.ref (g.2.2 0), .int (iI (wh))]) ++ List.replicate (7 - (lg_sl ([.ref (g.2.2 0), .int (iI (wh))])).length) Slot.unset).toArray = ls at hl ⊢
  have hl : lv_has ls 7 [(0, .ref (g.2.2 0)), (1, .int (iI (wh)))] := hl
  have hm0 : σ.1 1 = .inr (7, [.ref (g.2.2 2), .ref (g.2.2 3), .int (iI n), .int (iI rd)]) := hst.1
  have hm1 : MRef g σ.1 2 9 G := hst.2.1
  have hm2 : MArr g σ.1 3 9 P := hst.2.2
  have hok1 := hok.1
  have hok2 := hok.2.1
  have hok3 := hok.2.2.1
  have hqm0 : σ.1 7 = .inr (7, [.ref (g.2.2 8), .ref (g.2.2 9), .int (iI nm), .int (iI rm)]) := hsm9.1
  have hqm1 : MRef g σ.1 8 9 Gm := hsm9.2.1
  have hqm2 : MArr g σ.1 9 9 Pm := hsm9.2.2
  have hom1 := hom.1
  have hom2 := hom.2.1
  have hom3 := hom.2.2.1
  have hw_0 := hts (.fieldLink RX11 19 "TwiceAsRich" "mind" "LTwiceAsRich$Street;") (by decide +kernel)
  have hin_X11 : ∀ w ∈ wsX110, w ∈ wsX11_change := by decide +kernel
  have hw_2 := hts (.fieldLink RX11 10 "TwiceAsRich" "street" "LTwiceAsRich$Street;") (by decide +kernel)
  have hw_3 := hts (.fieldLink RX11 126 "TwiceAsRich$Street" "count" "I") (by decide +kernel)
  have hin_X7 : ∀ w ∈ wsX70, w ∈ wsX11_change := by decide +kernel
  refine lv_iload_n hx hb dX11_change_0 rfl (lv_at hl 1 rfl) ?_
  refine x_if_eq (tgt := 11) hx hb (by omega) dX11_change_1 (by decide) (fun c_1 => ?_) (fun c_1 => ?_)
  · refine lv_aload_n hx hb dX11_change_11 rfl (lv_at hl 0 rfl) ?_
    refine x_get (C := RX11) (T := TX11) (N := 11) hx hb hts hin_X11 hown hK hP (0) (by decide) hx0 rfl 3 (by decide) hw_0 (fun _ h9 => h9) rfl dX11_change_12 ?_
    refine lv_aload_n hx hb dX11_change_15 rfl (lv_at hl 0 rfl) ?_
    refine x_get (C := RX11) (T := TX11) (N := 11) hx hb hts hin_X11 hown hK hP (0) (by decide) hx0 rfl 0 (by decide) hw_2 (fun _ h9 => h9) rfl dX11_change_16 ?_
    refine x_cqv0 (va_runV (As := [.ref (g.2.2 1)]) (rest := []) ⟨hx, hb, hml, hown, hts⟩ (c_X7_become l g σ A (7) (by decide) (nm) (rm) Pm Gm ⟨hqm0, hqm1, hqm2⟩ hom hH (1) (by decide) (by decide) (n) (rd) P G ⟨hm0, hm1, hm2⟩ hok) (cwV 1 hts gX11_change_X7_become rfl rfl rfl (by decide +kernel) ⟨Nat.le_of_ble_eq_true rfl, Nat.le_of_ble_eq_true rfl⟩) (x_preVQ hK hP hD hS hA (x_recv hK hP (i := 7) (by decide) hqm0 rfl)) rfl rfl hl.1 rfl (lv_room (Nat.le_of_ble_eq_true rfl)) dX11_change_19 ⟨by decide, by decide⟩) hS (fun σ1 H locs hpost hP hD hS => ?_)
    obtain ⟨M_1, p1⟩ := σ1
    obtain ⟨hp0, hfrc, hnst⟩ := hpost
    obtain rfl : p1 = σ.2 := hp0
    have hP : xP g (M_1, σ.2) H := hP
    have hD : xD g A (M_1, σ.2) := hD
    have hx0 := (hfrc (0) (by omega)).trans hx0
    have hm0 := (hfrc (1) (by omega)).trans hm0
    have hm1 := (hfrc (2) (by omega)).trans hm1
    have hm2 := (hfrc (3) (by omega)).trans hm2
    have hfr := x_frc (F := fun j => j ≠ 7 ∧ j ≠ 8 ∧ j ≠ 9) hfr hfrc (fun j h => by have h : j ≠ 7 ∧ j ≠ 8 ∧ j ≠ 9 := h; omega)
    obtain ⟨Pn_2, hPn_2⟩ : ∃ q : Int → Int, q = zCopy P Pm 9 := ⟨_, rfl⟩
    obtain ⟨Gn_3, hGn_3⟩ : ∃ q : Int → Option Nat, q = zCopy G Gm 9 := ⟨_, rfl⟩
    have ost_4 : StOk σ (n) (rd) Pn_2 Gn_3 := by rw [hPn_2, hGn_3]; exact StOk_become hom hok
    rw [← hPn_2, ← hGn_3] at hnst
    have hqm0 : M_1 (7) = .inr (7, [.ref (g.2.2 8), .ref (g.2.2 9), .int (iI (n)), .int (iI (rd))]) := hnst.1
    have hqm1 : MRef g M_1 8 9 Gn_3 := hnst.2.1
    have hqm2 : MArr g M_1 9 9 Pn_2 := hnst.2.2
    refine lv_aload_n hx hb dX11_change_22 rfl (lv_at hl 0 rfl) ?_
    refine x_get (C := RX11) (T := TX11) (N := 11) hx hb hts hin_X11 hown hK hP (0) (by decide) hx0 rfl 3 (by decide) hw_0 (fun _ h9 => h9) rfl dX11_change_23 ?_
    refine x_ci (va_runV (As := []) (rest := []) ⟨hx, hb, hml, hown, hts⟩ (c_X7_allBreaches l g (M_1, σ.2) (7) (by decide) (n) (rd) Pn_2 Gn_3 ⟨hqm0, hqm1, hqm2⟩ ost_4 hH ) (cwV 0 hts gX11_change_X7_allBreaches rfl rfl rfl (by decide +kernel) ⟨Nat.le_of_ble_eq_true rfl, Nat.le_of_ble_eq_true rfl⟩) (x_preV hK hP (x_recv hK hP (i := 7) (by decide) hqm0 rfl)) rfl rfl hl.1 rfl (lv_room (Nat.le_of_ble_eq_true rfl)) dX11_change_26 ⟨Nat.le_of_ble_eq_true rfl, Nat.le_of_ble_eq_true rfl⟩) (fun r_26 hr_26 qr_26 => ?_)
    replace qr_26 : r_26 = zAll (sK σ (Gn_3)) (sF σ (Gn_3)) (Pn_2) (n) (rd) ∧ 0 ≤ r_26 ∧ r_26 ≤ 18 := qr_26
    have hz26 : r_26 = zAll (sK σ G) (sF σ G) P n rd := by (rw [qr_26.1, hPn_2, hGn_3]; exact zAll_congr (zSame_copy (by omega)))
    refine lv_istore_n (lv' := [(2, .int (iI (r_26))), (0, .ref (g.2.2 0)), (1, .int (iI (wh)))]) hx hb dX11_change_29 rfl hl (by decide) rfl (fun ls hl => ?_)
    refine x_bipush (n := -4) hx hb (by decide +kernel) dX11_change_30 ?_
    refine lv_istore_n (lv' := [(3, .int (iI (-4))), (2, .int (iI (r_26))), (0, .ref (g.2.2 0)), (1, .int (iI (wh)))]) hx hb dX11_change_32 rfl hl (by decide) rfl (fun ls hl => ?_)
    refine x_iconst hx hb dX11_change_33 ?_
    refine lv_istore (lv' := [(4, .int (iI (0))), (3, .int (iI (-4))), (2, .int (iI (r_26))), (0, .ref (g.2.2 0)), (1, .int (iI (wh)))]) hx hb dX11_change_34 hl (by decide) rfl (fun ls hl => ?_)
    have hloop_36 : ∀ (k : Nat) (a : Int) (ls9 : Int) (bs : Int), (n - a).toNat < k → (ha0 : 0 ≤ a) → (han : a ≤ n) → (hst : (ls9, bs) = zChO (sK σ G) (sF σ G) P n rd a.toNat) → (hlr : 0 ≤ ls9 ∧ ls9 ≤ 18) → (hbr : bs = -4 ∨ (0 ≤ bs ∧ bs ≤ 99)) → ∀ (M : xM) (H : Heap) (locs : List Loc), (hx0 : M (0) = .inr (11, [.ref (g.2.2 1), .ref (g.2.2 4), .int (iI (tk)), .ref (g.2.2 7), .ref ph, .ref (g.2.2 13), .ref (g.2.2 23), .ref (g.2.2 25), .ref (g.2.2 26), .ref (g.2.2 27), .ref (g.2.2 28)])) → (hm0 : M (1) = .inr (7, [.ref (g.2.2 2), .ref (g.2.2 3), .int (iI (n)), .int (iI (rd))])) → (hm1 : M (2) = .inl (g.2.1 1, 9, .inr (.inr (.inr (.inr (fun k => G (k : Int))))))) → (hm2 : M (3) = .inl (g.2.1 0, 9, .inl (fun k => iI (P (k : Int))))) → (hqm0 : M (7) = .inr (7, [.ref (g.2.2 8), .ref (g.2.2 9), .int (iI (n)), .int (iI (rd))])) → (hqm1 : M (8) = .inl (g.2.1 1, 9, .inr (.inr (.inr (.inr (fun k => Gn_3 (k : Int))))))) → (hqm2 : M (9) = .inl (g.2.1 0, 9, .inl (fun k => iI (Pn_2 (k : Int))))) → (hfr : ∀ j, (j ≠ 7 ∧ j ≠ 8 ∧ j ≠ 9) → M j = σ.1 j) → xP g (M, σ.2) H → xD g A (M, σ.2) → va_S A s.heap H locs → ∀ (ls : Array Slot), lv_has ls 7 [(4, .int (iI (a))), (2, .int (iI (ls9))), (3, .int (iI (bs))), (0, .ref (g.2.2 0)), (1, .int (iI (wh)))] → W p l e (headSpec wsX11_change ({ frames := 7, cells := 0, slots := 0, locals := 224 })).room s m ([.ref (g.2.2 0), .int (iI (wh))] : List Value).toArray below meth c H locs 0 0 (MQ below (x_Qi g A (fun r σ1 => σ1.2 = σ.2 ∧ (∀ j, j ≠ 7 ∧ j ≠ 8 ∧ j ≠ 9 → σ1.1 j = σ.1 j) ∧ (r = zChange (sK σ G) (sF σ G) P n rd wh) ∧ xStr g σ1.1 σ 7)) ([.ref (g.2.2 0), .int (iI (wh))] : List Value).toArray s (0) (0) A) (F0 m 36 ls []) := by
      intro k
      induction k with
      | zero =>
        intros; exact absurd (by assumption) (Nat.not_lt_zero _)
      | succ k ih =>
        intro a ls9 bs hmeas ha0 han hst hlr hbr M H locs hx0 hm0 hm1 hm2 hqm0 hqm1 hqm2 hfr hP hD hS ls hl
        have ih_5 := ih
        refine lv_iload hx hb dX11_change_36 (lv_at hl 0 rfl) ?_
        refine lv_aload_n hx hb dX11_change_38 rfl (lv_at hl 3 rfl) ?_
        refine x_get (C := RX11) (T := TX11) (N := 11) hx hb hts hin_X11 hown hK hP (0) (by decide) hx0 rfl 3 (by decide) hw_0 (fun _ h9 => h9) rfl dX11_change_39 ?_
        refine x_get (C := RX7) (T := TX7) (N := 4) hx hb hts hin_X7 hown hK hP (7) (by decide) hqm0 rfl 2 (by decide) hw_3 (fun _ h9 => h9) rfl dX11_change_42 ?_
        refine x_icmp_ge (tgt := 127) hx hb (by omega) (by omega) dX11_change_45 (by decide) (fun c_45 => ?_) (fun c_45 => ?_)
        · refine lv_iload_n hx hb dX11_change_127 rfl (lv_at hl 2 rfl) ?_
          refine x_bipush (n := -4) hx hb (by decide +kernel) dX11_change_128 ?_
          refine x_icmp_eq (tgt := 137) hx hb (by omega) (by omega) dX11_change_130 (by decide) (fun c_130 => ?_) (fun c_130 => ?_)
          · refine lv_iload_n hx hb dX11_change_137 rfl (lv_at hl 2 rfl) ?_
            refine lv_goto (tgt := 142) hx hb dX11_change_138 (by decide) ?_
            refine x_retQ hx hb hr (by omega) ?_ hP hD hS dX11_change_142 hlocks
            refine ⟨rfl, hfr, ?_, _, _, _, _, ⟨hqm0, hqm1, hqm2⟩, ost_4⟩
            have e : n.toNat = a.toNat := by omega
            unfold zChange
            rw [e, ← hst]
            repeat first | rw [if_pos (by omega)] | rw [if_neg (by omega)]
            all_goals (first | rfl | omega)
          · refine lv_iload_n hx hb dX11_change_133 rfl (lv_at hl 4 rfl) ?_
            refine x_if_ne (tgt := 141) hx hb (by omega) dX11_change_134 (by decide) (fun c_134 => ?_) (fun c_134 => ?_)
            · refine lv_iload_n hx hb dX11_change_141 rfl (lv_at hl 1 rfl) ?_
              refine x_retQ hx hb hr (by omega) ?_ hP hD hS dX11_change_142 hlocks
              refine ⟨rfl, hfr, ?_, _, _, _, _, ⟨hqm0, hqm1, hqm2⟩, ost_4⟩
              have e : n.toNat = a.toNat := by omega
              unfold zChange
              rw [e, ← hst]
              repeat first | rw [if_pos (by omega)] | rw [if_neg (by omega)]
              all_goals (first | rfl | omega)
            · refine lv_iload_n hx hb dX11_change_137 rfl (lv_at hl 2 rfl) ?_
              refine lv_goto (tgt := 142) hx hb dX11_change_138 (by decide) ?_
              refine x_retQ hx hb hr (by omega) ?_ hP hD hS dX11_change_142 hlocks
              refine ⟨rfl, hfr, ?_, _, _, _, _, ⟨hqm0, hqm1, hqm2⟩, ost_4⟩
              have e : n.toNat = a.toNat := by omega
              unfold zChange
              rw [e, ← hst]
              repeat first | rw [if_pos (by omega)] | rw [if_neg (by omega)]
              all_goals (first | rfl | omega)
        · refine lv_iload hx hb dX11_change_48 (lv_at hl 0 rfl) ?_
          refine x_iconst hx hb dX11_change_50 ?_
          refine x_iadd hx hb dX11_change_51 ?_
          refine lv_istore (lv' := [(5, .int (iI (a + 1))), (4, .int (iI (a))), (2, .int (iI (ls9))), (3, .int (iI (bs))), (0, .ref (g.2.2 0)), (1, .int (iI (wh)))]) hx hb dX11_change_52 hl (by decide) rfl (fun ls hl => ?_)
          have hloop_54 : ∀ (k : Nat) (b : Int) (lt : Int) (bt : Int), (n - b).toNat < k → (hb0 : a + 1 ≤ b) → (hbn : b ≤ n) → (hst2 : (lt, bt) = zChI (sK σ G) (sF σ G) P n rd a (ls9, bs) (b - (a + 1)).toNat) → (hlr2 : 0 ≤ lt ∧ lt ≤ 18) → (hbr2 : bt = -4 ∨ (0 ≤ bt ∧ bt ≤ 99)) → ∀ (M : xM) (H : Heap) (locs : List Loc), (hx0 : M (0) = .inr (11, [.ref (g.2.2 1), .ref (g.2.2 4), .int (iI (tk)), .ref (g.2.2 7), .ref ph, .ref (g.2.2 13), .ref (g.2.2 23), .ref (g.2.2 25), .ref (g.2.2 26), .ref (g.2.2 27), .ref (g.2.2 28)])) → (hm0 : M (1) = .inr (7, [.ref (g.2.2 2), .ref (g.2.2 3), .int (iI (n)), .int (iI (rd))])) → (hm1 : M (2) = .inl (g.2.1 1, 9, .inr (.inr (.inr (.inr (fun k => G (k : Int))))))) → (hm2 : M (3) = .inl (g.2.1 0, 9, .inl (fun k => iI (P (k : Int))))) → (hqm0 : M (7) = .inr (7, [.ref (g.2.2 8), .ref (g.2.2 9), .int (iI (n)), .int (iI (rd))])) → (hqm1 : M (8) = .inl (g.2.1 1, 9, .inr (.inr (.inr (.inr (fun k => Gn_3 (k : Int))))))) → (hqm2 : M (9) = .inl (g.2.1 0, 9, .inl (fun k => iI (Pn_2 (k : Int))))) → (hfr : ∀ j, (j ≠ 7 ∧ j ≠ 8 ∧ j ≠ 9) → M j = σ.1 j) → xP g (M, σ.2) H → xD g A (M, σ.2) → va_S A s.heap H locs → ∀ (ls : Array Slot), lv_has ls 7 [(5, .int (iI (b))), (2, .int (iI (lt))), (3, .int (iI (bt))), (4, .int (iI (a))), (0, .ref (g.2.2 0)), (1, .int (iI (wh)))] → W p l e (headSpec wsX11_change ({ frames := 7, cells := 0, slots := 0, locals := 224 })).room s m ([.ref (g.2.2 0), .int (iI (wh))] : List Value).toArray below meth c H locs 0 0 (MQ below (x_Qi g A (fun r σ1 => σ1.2 = σ.2 ∧ (∀ j, j ≠ 7 ∧ j ≠ 8 ∧ j ≠ 9 → σ1.1 j = σ.1 j) ∧ (r = zChange (sK σ G) (sF σ G) P n rd wh) ∧ xStr g σ1.1 σ 7)) ([.ref (g.2.2 0), .int (iI (wh))] : List Value).toArray s (0) (0) A) (F0 m 54 ls []) := by
            intro k
            induction k with
            | zero =>
              intros; exact absurd (by assumption) (Nat.not_lt_zero _)
            | succ k ih =>
              intro b lt bt hmeas hb0 hbn hst2 hlr2 hbr2 M H locs hx0 hm0 hm1 hm2 hqm0 hqm1 hqm2 hfr hP hD hS ls hl
              have ih_6 := ih
              refine lv_iload hx hb dX11_change_54 (lv_at hl 0 rfl) ?_
              refine lv_aload_n hx hb dX11_change_56 rfl (lv_at hl 4 rfl) ?_
              refine x_get (C := RX11) (T := TX11) (N := 11) hx hb hts hin_X11 hown hK hP (0) (by decide) hx0 rfl 3 (by decide) hw_0 (fun _ h9 => h9) rfl dX11_change_57 ?_
              refine x_get (C := RX7) (T := TX7) (N := 4) hx hb hts hin_X7 hown hK hP (7) (by decide) hqm0 rfl 2 (by decide) hw_3 (fun _ h9 => h9) rfl dX11_change_60 ?_
              refine x_icmp_ge (tgt := 121) hx hb (by omega) (by omega) dX11_change_63 (by decide) (fun c_63 => ?_) (fun c_63 => ?_)
              · refine x_iinc (k0 := 3) (lv' := [(4, .int (iI (a + 1))), (5, .int (iI (b))), (2, .int (iI (lt))), (3, .int (iI (bt))), (0, .ref (g.2.2 0)), (1, .int (iI (wh)))]) hx hb dX11_change_121 hl rfl (by decide) rfl (fun ls hl => ?_)
                refine lv_goto (tgt := 36) hx hb dX11_change_124 (by decide) ?_
                exact ih_5 (a + 1) (lt) (bt) (by omega) (by omega) (by omega) (by (rw [zChO_step _ _ _ _ _ ha0, ← hst, hst2]; congr 1; omega)) (by omega) (by omega) (M) _ _ hx0 hm0 hm1 hm2 hqm0 hqm1 hqm2 hfr hP hD hS ls (lv_sub hl [0, 2, 3, 4, 5] rfl)
              · refine lv_aload_n hx hb dX11_change_66 rfl (lv_at hl 4 rfl) ?_
                refine x_get (C := RX11) (T := TX11) (N := 11) hx hb hts hin_X11 hown hK hP (0) (by decide) hx0 rfl 3 (by decide) hw_0 (fun _ h9 => h9) rfl dX11_change_67 ?_
                refine lv_iload hx hb dX11_change_70 (lv_at hl 3 rfl) ?_
                refine lv_iload hx hb dX11_change_72 (lv_at hl 0 rfl) ?_
                refine x_cqv0 (va_runV (As := [.int (iI (a)), .int (iI (b))]) (rest := []) ⟨hx, hb, hml, hown, hts⟩ (c_X7_exchange l g (M, σ.2) A (7) (by decide) (n) (rd) Pn_2 Gn_3 ⟨hqm0, hqm1, hqm2⟩ ost_4 hH (a) (by omega) (b) (by omega) (by omega)) (cwV 2 hts gX11_change_X7_exchange rfl rfl rfl (by decide +kernel) ⟨Nat.le_of_ble_eq_true rfl, Nat.le_of_ble_eq_true rfl⟩) (x_preVQ hK hP hD hS hA (x_recv hK hP (i := 7) (by decide) hqm0 rfl)) rfl rfl hl.1 rfl (lv_room (Nat.le_of_ble_eq_true rfl)) dX11_change_74 ⟨by decide, by decide⟩) hS (fun σ1 H locs hpost hP hD hS => ?_)
                obtain ⟨M_7, p1⟩ := σ1
                obtain ⟨hp0, hfrc, hnst⟩ := hpost
                obtain rfl : p1 = σ.2 := hp0
                have hP : xP g (M_7, σ.2) H := hP
                have hD : xD g A (M_7, σ.2) := hD
                have hx0 := (hfrc (0) (by omega)).trans hx0
                have hm0 := (hfrc (1) (by omega)).trans hm0
                have hm1 := (hfrc (2) (by omega)).trans hm1
                have hm2 := (hfrc (3) (by omega)).trans hm2
                have hfr := x_frc (F := fun j => j ≠ 7 ∧ j ≠ 8 ∧ j ≠ 9) hfr hfrc (fun j h => by have h : j ≠ 7 ∧ j ≠ 8 ∧ j ≠ 9 := h; omega)
                obtain ⟨Pn_8, hPn_8⟩ : ∃ q : Int → Int, q = zSwap Pn_2 (a) (b) := ⟨_, rfl⟩
                obtain ⟨Gn_9, hGn_9⟩ : ∃ q : Int → Option Nat, q = zSwap Gn_3 (a) (b) := ⟨_, rfl⟩
                have ost_10 : StOk σ (n) (rd) Pn_8 Gn_9 := by rw [hPn_8, hGn_9]; exact StOk_swap ost_4 (by omega) (by omega) (by omega)
                rw [← hPn_8, ← hGn_9] at hnst
                have hqm0 : M_7 (7) = .inr (7, [.ref (g.2.2 8), .ref (g.2.2 9), .int (iI (n)), .int (iI (rd))]) := hnst.1
                have hqm1 : MRef g M_7 8 9 Gn_9 := hnst.2.1
                have hqm2 : MArr g M_7 9 9 Pn_8 := hnst.2.2
                have e8 := hGn_9
                have e9 := hPn_8
                refine lv_aload_n hx hb dX11_change_77 rfl (lv_at hl 4 rfl) ?_
                refine x_get (C := RX11) (T := TX11) (N := 11) hx hb hts hin_X11 hown hK hP (0) (by decide) hx0 rfl 3 (by decide) hw_0 (fun _ h9 => h9) rfl dX11_change_78 ?_
                refine x_ci (va_runV (As := []) (rest := []) ⟨hx, hb, hml, hown, hts⟩ (c_X7_allBreaches l g (M_7, σ.2) (7) (by decide) (n) (rd) Pn_8 Gn_9 ⟨hqm0, hqm1, hqm2⟩ ost_10 hH ) (cwV 0 hts gX11_change_X7_allBreaches rfl rfl rfl (by decide +kernel) ⟨Nat.le_of_ble_eq_true rfl, Nat.le_of_ble_eq_true rfl⟩) (x_preV hK hP (x_recv hK hP (i := 7) (by decide) hqm0 rfl)) rfl rfl hl.1 rfl (lv_room (Nat.le_of_ble_eq_true rfl)) dX11_change_81 ⟨Nat.le_of_ble_eq_true rfl, Nat.le_of_ble_eq_true rfl⟩) (fun r_81 hr_81 qr_81 => ?_)
                replace qr_81 : r_81 = zAll (sK σ (Gn_9)) (sF σ (Gn_9)) (Pn_8) (n) (rd) ∧ 0 ≤ r_81 ∧ r_81 ≤ 18 := qr_81
                have hzz : r_81 = zAllSw (sK σ G) (sF σ G) P n rd a b := by (rw [qr_81.1, e8, e9, hPn_2, hGn_3]; exact zChg_cls (by omega) (by omega) (by omega) (by omega))
                refine lv_istore (lv' := [(6, .int (iI (r_81))), (5, .int (iI (b))), (2, .int (iI (lt))), (3, .int (iI (bt))), (4, .int (iI (a))), (0, .ref (g.2.2 0)), (1, .int (iI (wh)))]) hx hb dX11_change_84 hl (by decide) rfl (fun ls hl => ?_)
                refine lv_aload_n hx hb dX11_change_86 rfl (lv_at hl 5 rfl) ?_
                refine x_get (C := RX11) (T := TX11) (N := 11) hx hb hts hin_X11 hown hK hP (0) (by decide) hx0 rfl 3 (by decide) hw_0 (fun _ h9 => h9) rfl dX11_change_87 ?_
                refine lv_iload hx hb dX11_change_90 (lv_at hl 4 rfl) ?_
                refine lv_iload hx hb dX11_change_92 (lv_at hl 1 rfl) ?_
                refine x_cqv0 (va_runV (As := [.int (iI (a)), .int (iI (b))]) (rest := []) ⟨hx, hb, hml, hown, hts⟩ (c_X7_exchange l g (M_7, σ.2) A (7) (by decide) (n) (rd) Pn_8 Gn_9 ⟨hqm0, hqm1, hqm2⟩ ost_10 hH (a) (by omega) (b) (by omega) (by omega)) (cwV 2 hts gX11_change_X7_exchange rfl rfl rfl (by decide +kernel) ⟨Nat.le_of_ble_eq_true rfl, Nat.le_of_ble_eq_true rfl⟩) (x_preVQ hK hP hD hS hA (x_recv hK hP (i := 7) (by decide) hqm0 rfl)) rfl rfl hl.1 rfl (lv_room (Nat.le_of_ble_eq_true rfl)) dX11_change_94 ⟨by decide, by decide⟩) hS (fun σ1 H locs hpost hP hD hS => ?_)
                obtain ⟨M_11, p1⟩ := σ1
                obtain ⟨hp0, hfrc, hnst⟩ := hpost
                obtain rfl : p1 = σ.2 := hp0
                have hP : xP g (M_11, σ.2) H := hP
                have hD : xD g A (M_11, σ.2) := hD
                have hx0 := (hfrc (0) (by omega)).trans hx0
                have hm0 := (hfrc (1) (by omega)).trans hm0
                have hm1 := (hfrc (2) (by omega)).trans hm1
                have hm2 := (hfrc (3) (by omega)).trans hm2
                have hfr := x_frc (F := fun j => j ≠ 7 ∧ j ≠ 8 ∧ j ≠ 9) hfr hfrc (fun j h => by have h : j ≠ 7 ∧ j ≠ 8 ∧ j ≠ 9 := h; omega)
                obtain ⟨Pn_12, hPn_12⟩ : ∃ q : Int → Int, q = zSwap Pn_8 (a) (b) := ⟨_, rfl⟩
                obtain ⟨Gn_13, hGn_13⟩ : ∃ q : Int → Option Nat, q = zSwap Gn_9 (a) (b) := ⟨_, rfl⟩
                have ost_14 : StOk σ (n) (rd) Pn_12 Gn_13 := by rw [hPn_12, hGn_13]; exact StOk_swap ost_10 (by omega) (by omega) (by omega)
                rw [← hPn_12, ← hGn_13] at hnst
                have hqm0 : M_11 (7) = .inr (7, [.ref (g.2.2 8), .ref (g.2.2 9), .int (iI (n)), .int (iI (rd))]) := hnst.1
                have hqm1 : MRef g M_11 8 9 Gn_13 := hnst.2.1
                have hqm2 : MArr g M_11 9 9 Pn_12 := hnst.2.2
                refine lv_iload hx hb dX11_change_97 (lv_at hl 0 rfl) ?_
                refine lv_iload_n hx hb dX11_change_99 rfl (lv_at hl 2 rfl) ?_
                refine x_icmp_ge (tgt := 115) hx hb (by omega) (by omega) dX11_change_100 (by decide) (fun c_100 => ?_) (fun c_100 => ?_)
                · refine x_iinc (k0 := 1) (lv' := [(5, .int (iI (b + 1))), (6, .int (iI (r_81))), (2, .int (iI (lt))), (3, .int (iI (bt))), (4, .int (iI (a))), (0, .ref (g.2.2 0)), (1, .int (iI (wh)))]) hx hb dX11_change_115 hl rfl (by decide) rfl (fun ls hl => ?_)
                  refine lv_goto (tgt := 54) hx hb dX11_change_118 (by decide) ?_
                  have hsw : Pn_12 = Pn_2 := by (rw [hPn_12, e9]; exact zSwap_two (by omega))
                  rw [hsw] at hqm2
                  have hsw8 : Gn_13 = Gn_3 := by (rw [hGn_13, e8]; exact zSwap_two (by omega))
                  rw [hsw8] at hqm1
                  exact ih_6 (b + 1) (lt) (bt) (by omega) (by omega) (by omega) (by (rw [zChI_step _ _ _ _ _ _ _ (by omega), ← hst2]; simp only; first | (rw [if_pos (by omega)]; congr 1 <;> omega) | (rw [if_neg (by omega)]))) (by omega) (by omega) (M_11) _ _ hx0 hm0 hm1 hm2 hqm0 hqm1 hqm2 hfr hP hD hS ls (lv_sub hl [0, 2, 3, 4, 5, 6] rfl)
                · refine lv_iload hx hb dX11_change_103 (lv_at hl 0 rfl) ?_
                  refine lv_istore_n (lv' := [(2, .int (iI (r_81))), (6, .int (iI (r_81))), (5, .int (iI (b))), (3, .int (iI (bt))), (4, .int (iI (a))), (0, .ref (g.2.2 0)), (1, .int (iI (wh)))]) hx hb dX11_change_105 rfl hl (by decide) rfl (fun ls hl => ?_)
                  refine x_bipush (n := 10) hx hb (by decide +kernel) dX11_change_106 ?_
                  refine lv_iload hx hb dX11_change_108 (lv_at hl 4 rfl) ?_
                  refine x_imul hx hb dX11_change_110 ?_
                  refine lv_iload hx hb dX11_change_111 (lv_at hl 2 rfl) ?_
                  refine x_iadd hx hb dX11_change_113 ?_
                  refine lv_istore_n (lv' := [(3, .int (iI ((10 * a) + b))), (2, .int (iI (r_81))), (6, .int (iI (r_81))), (5, .int (iI (b))), (4, .int (iI (a))), (0, .ref (g.2.2 0)), (1, .int (iI (wh)))]) hx hb dX11_change_114 rfl hl (by decide) rfl (fun ls hl => ?_)
                  refine x_iinc (k0 := 3) (lv' := [(5, .int (iI (b + 1))), (3, .int (iI ((10 * a) + b))), (2, .int (iI (r_81))), (6, .int (iI (r_81))), (4, .int (iI (a))), (0, .ref (g.2.2 0)), (1, .int (iI (wh)))]) hx hb dX11_change_115 hl rfl (by decide) rfl (fun ls hl => ?_)
                  refine lv_goto (tgt := 54) hx hb dX11_change_118 (by decide) ?_
                  have hsw : Pn_12 = Pn_2 := by (rw [hPn_12, e9]; exact zSwap_two (by omega))
                  rw [hsw] at hqm2
                  have hsw8 : Gn_13 = Gn_3 := by (rw [hGn_13, e8]; exact zSwap_two (by omega))
                  rw [hsw8] at hqm1
                  exact ih_6 (b + 1) (r_81) ((10 * a) + b) (by omega) (by omega) (by omega) (by (rw [zChI_step _ _ _ _ _ _ _ (by omega), ← hst2]; simp only; first | (rw [if_pos (by omega)]; congr 1 <;> omega) | (rw [if_neg (by omega)]))) (by omega) (by omega) (M_11) _ _ hx0 hm0 hm1 hm2 hqm0 hqm1 hqm2 hfr hP hD hS ls (lv_sub hl [0, 2, 1, 4, 5, 6] rfl)
          exact hloop_54 (((n - (a + 1)).toNat) + 1) (a + 1) (ls9) (bs) (by omega) (by omega) (by omega) (by (rw [show (a + 1 - (a + 1)).toNat = 0 by omega]; rfl)) (by omega) (by omega) (M) _ _ hx0 hm0 hm1 hm2 hqm0 hqm1 hqm2 hfr hP hD hS ls (lv_sub hl [0, 2, 3, 1, 4, 5] rfl)
    exact hloop_36 (((n - (0)).toNat) + 1) (0) ((r_26)) (-4) (by omega) (by omega) (by omega) (by (rw [hz26]; rfl)) (by omega) (by omega) (M_1) _ _ hx0 hm0 hm1 hm2 hqm0 hqm1 hqm2 hfr hP hD hS ls (lv_sub hl [0, 2, 1, 3, 4] rfl)
  · refine lv_iload_n hx hb dX11_change_4 rfl (lv_at hl 1 rfl) ?_
    refine x_iconst hx hb dX11_change_5 ?_
    refine x_icmp_eq (tgt := 11) hx hb (by omega) (by omega) dX11_change_6 (by decide) (fun c_6 => ?_) (fun c_6 => ?_)
    · refine lv_aload_n hx hb dX11_change_11 rfl (lv_at hl 0 rfl) ?_
      refine x_get (C := RX11) (T := TX11) (N := 11) hx hb hts hin_X11 hown hK hP (0) (by decide) hx0 rfl 3 (by decide) hw_0 (fun _ h9 => h9) rfl dX11_change_12 ?_
      refine lv_aload_n hx hb dX11_change_15 rfl (lv_at hl 0 rfl) ?_
      refine x_get (C := RX11) (T := TX11) (N := 11) hx hb hts hin_X11 hown hK hP (0) (by decide) hx0 rfl 0 (by decide) hw_2 (fun _ h9 => h9) rfl dX11_change_16 ?_
      refine x_cqv0 (va_runV (As := [.ref (g.2.2 1)]) (rest := []) ⟨hx, hb, hml, hown, hts⟩ (c_X7_become l g σ A (7) (by decide) (nm) (rm) Pm Gm ⟨hqm0, hqm1, hqm2⟩ hom hH (1) (by decide) (by decide) (n) (rd) P G ⟨hm0, hm1, hm2⟩ hok) (cwV 1 hts gX11_change_X7_become rfl rfl rfl (by decide +kernel) ⟨Nat.le_of_ble_eq_true rfl, Nat.le_of_ble_eq_true rfl⟩) (x_preVQ hK hP hD hS hA (x_recv hK hP (i := 7) (by decide) hqm0 rfl)) rfl rfl hl.1 rfl (lv_room (Nat.le_of_ble_eq_true rfl)) dX11_change_19 ⟨by decide, by decide⟩) hS (fun σ1 H locs hpost hP hD hS => ?_)
      obtain ⟨M_15, p1⟩ := σ1
      obtain ⟨hp0, hfrc, hnst⟩ := hpost
      obtain rfl : p1 = σ.2 := hp0
      have hP : xP g (M_15, σ.2) H := hP
      have hD : xD g A (M_15, σ.2) := hD
      have hx0 := (hfrc (0) (by omega)).trans hx0
      have hm0 := (hfrc (1) (by omega)).trans hm0
      have hm1 := (hfrc (2) (by omega)).trans hm1
      have hm2 := (hfrc (3) (by omega)).trans hm2
      have hfr := x_frc (F := fun j => j ≠ 7 ∧ j ≠ 8 ∧ j ≠ 9) hfr hfrc (fun j h => by have h : j ≠ 7 ∧ j ≠ 8 ∧ j ≠ 9 := h; omega)
      obtain ⟨Pn_16, hPn_16⟩ : ∃ q : Int → Int, q = zCopy P Pm 9 := ⟨_, rfl⟩
      obtain ⟨Gn_17, hGn_17⟩ : ∃ q : Int → Option Nat, q = zCopy G Gm 9 := ⟨_, rfl⟩
      have ost_18 : StOk σ (n) (rd) Pn_16 Gn_17 := by rw [hPn_16, hGn_17]; exact StOk_become hom hok
      rw [← hPn_16, ← hGn_17] at hnst
      have hqm0 : M_15 (7) = .inr (7, [.ref (g.2.2 8), .ref (g.2.2 9), .int (iI (n)), .int (iI (rd))]) := hnst.1
      have hqm1 : MRef g M_15 8 9 Gn_17 := hnst.2.1
      have hqm2 : MArr g M_15 9 9 Pn_16 := hnst.2.2
      refine lv_aload_n hx hb dX11_change_22 rfl (lv_at hl 0 rfl) ?_
      refine x_get (C := RX11) (T := TX11) (N := 11) hx hb hts hin_X11 hown hK hP (0) (by decide) hx0 rfl 3 (by decide) hw_0 (fun _ h9 => h9) rfl dX11_change_23 ?_
      refine x_ci (va_runV (As := []) (rest := []) ⟨hx, hb, hml, hown, hts⟩ (c_X7_allBreaches l g (M_15, σ.2) (7) (by decide) (n) (rd) Pn_16 Gn_17 ⟨hqm0, hqm1, hqm2⟩ ost_18 hH ) (cwV 0 hts gX11_change_X7_allBreaches rfl rfl rfl (by decide +kernel) ⟨Nat.le_of_ble_eq_true rfl, Nat.le_of_ble_eq_true rfl⟩) (x_preV hK hP (x_recv hK hP (i := 7) (by decide) hqm0 rfl)) rfl rfl hl.1 rfl (lv_room (Nat.le_of_ble_eq_true rfl)) dX11_change_26 ⟨Nat.le_of_ble_eq_true rfl, Nat.le_of_ble_eq_true rfl⟩) (fun r_26 hr_26 qr_26 => ?_)
      replace qr_26 : r_26 = zAll (sK σ (Gn_17)) (sF σ (Gn_17)) (Pn_16) (n) (rd) ∧ 0 ≤ r_26 ∧ r_26 ≤ 18 := qr_26
      have hz26 : r_26 = zAll (sK σ G) (sF σ G) P n rd := by (rw [qr_26.1, hPn_16, hGn_17]; exact zAll_congr (zSame_copy (by omega)))
      refine lv_istore_n (lv' := [(2, .int (iI (r_26))), (0, .ref (g.2.2 0)), (1, .int (iI (wh)))]) hx hb dX11_change_29 rfl hl (by decide) rfl (fun ls hl => ?_)
      refine x_bipush (n := -4) hx hb (by decide +kernel) dX11_change_30 ?_
      refine lv_istore_n (lv' := [(3, .int (iI (-4))), (2, .int (iI (r_26))), (0, .ref (g.2.2 0)), (1, .int (iI (wh)))]) hx hb dX11_change_32 rfl hl (by decide) rfl (fun ls hl => ?_)
      refine x_iconst hx hb dX11_change_33 ?_
      refine lv_istore (lv' := [(4, .int (iI (0))), (3, .int (iI (-4))), (2, .int (iI (r_26))), (0, .ref (g.2.2 0)), (1, .int (iI (wh)))]) hx hb dX11_change_34 hl (by decide) rfl (fun ls hl => ?_)
      have hloop_36 : ∀ (k : Nat) (a : Int) (ls9 : Int) (bs : Int), (n - a).toNat < k → (ha0 : 0 ≤ a) → (han : a ≤ n) → (hst : (ls9, bs) = zChO (sK σ G) (sF σ G) P n rd a.toNat) → (hlr : 0 ≤ ls9 ∧ ls9 ≤ 18) → (hbr : bs = -4 ∨ (0 ≤ bs ∧ bs ≤ 99)) → ∀ (M : xM) (H : Heap) (locs : List Loc), (hx0 : M (0) = .inr (11, [.ref (g.2.2 1), .ref (g.2.2 4), .int (iI (tk)), .ref (g.2.2 7), .ref ph, .ref (g.2.2 13), .ref (g.2.2 23), .ref (g.2.2 25), .ref (g.2.2 26), .ref (g.2.2 27), .ref (g.2.2 28)])) → (hm0 : M (1) = .inr (7, [.ref (g.2.2 2), .ref (g.2.2 3), .int (iI (n)), .int (iI (rd))])) → (hm1 : M (2) = .inl (g.2.1 1, 9, .inr (.inr (.inr (.inr (fun k => G (k : Int))))))) → (hm2 : M (3) = .inl (g.2.1 0, 9, .inl (fun k => iI (P (k : Int))))) → (hqm0 : M (7) = .inr (7, [.ref (g.2.2 8), .ref (g.2.2 9), .int (iI (n)), .int (iI (rd))])) → (hqm1 : M (8) = .inl (g.2.1 1, 9, .inr (.inr (.inr (.inr (fun k => Gn_17 (k : Int))))))) → (hqm2 : M (9) = .inl (g.2.1 0, 9, .inl (fun k => iI (Pn_16 (k : Int))))) → (hfr : ∀ j, (j ≠ 7 ∧ j ≠ 8 ∧ j ≠ 9) → M j = σ.1 j) → xP g (M, σ.2) H → xD g A (M, σ.2) → va_S A s.heap H locs → ∀ (ls : Array Slot), lv_has ls 7 [(4, .int (iI (a))), (2, .int (iI (ls9))), (3, .int (iI (bs))), (0, .ref (g.2.2 0)), (1, .int (iI (wh)))] → W p l e (headSpec wsX11_change ({ frames := 7, cells := 0, slots := 0, locals := 224 })).room s m ([.ref (g.2.2 0), .int (iI (wh))] : List Value).toArray below meth c H locs 0 0 (MQ below (x_Qi g A (fun r σ1 => σ1.2 = σ.2 ∧ (∀ j, j ≠ 7 ∧ j ≠ 8 ∧ j ≠ 9 → σ1.1 j = σ.1 j) ∧ (r = zChange (sK σ G) (sF σ G) P n rd wh) ∧ xStr g σ1.1 σ 7)) ([.ref (g.2.2 0), .int (iI (wh))] : List Value).toArray s (0) (0) A) (F0 m 36 ls []) := by
        intro k
        induction k with
        | zero =>
          intros; exact absurd (by assumption) (Nat.not_lt_zero _)
        | succ k ih =>
          intro a ls9 bs hmeas ha0 han hst hlr hbr M H locs hx0 hm0 hm1 hm2 hqm0 hqm1 hqm2 hfr hP hD hS ls hl
          have ih_19 := ih
          refine lv_iload hx hb dX11_change_36 (lv_at hl 0 rfl) ?_
          refine lv_aload_n hx hb dX11_change_38 rfl (lv_at hl 3 rfl) ?_
          refine x_get (C := RX11) (T := TX11) (N := 11) hx hb hts hin_X11 hown hK hP (0) (by decide) hx0 rfl 3 (by decide) hw_0 (fun _ h9 => h9) rfl dX11_change_39 ?_
          refine x_get (C := RX7) (T := TX7) (N := 4) hx hb hts hin_X7 hown hK hP (7) (by decide) hqm0 rfl 2 (by decide) hw_3 (fun _ h9 => h9) rfl dX11_change_42 ?_
          refine x_icmp_ge (tgt := 127) hx hb (by omega) (by omega) dX11_change_45 (by decide) (fun c_45 => ?_) (fun c_45 => ?_)
          · refine lv_iload_n hx hb dX11_change_127 rfl (lv_at hl 2 rfl) ?_
            refine x_bipush (n := -4) hx hb (by decide +kernel) dX11_change_128 ?_
            refine x_icmp_eq (tgt := 137) hx hb (by omega) (by omega) dX11_change_130 (by decide) (fun c_130 => ?_) (fun c_130 => ?_)
            · refine lv_iload_n hx hb dX11_change_137 rfl (lv_at hl 2 rfl) ?_
              refine lv_goto (tgt := 142) hx hb dX11_change_138 (by decide) ?_
              refine x_retQ hx hb hr (by omega) ?_ hP hD hS dX11_change_142 hlocks
              refine ⟨rfl, hfr, ?_, _, _, _, _, ⟨hqm0, hqm1, hqm2⟩, ost_18⟩
              have e : n.toNat = a.toNat := by omega
              unfold zChange
              rw [e, ← hst]
              repeat first | rw [if_pos (by omega)] | rw [if_neg (by omega)]
              all_goals (first | rfl | omega)
            · refine lv_iload_n hx hb dX11_change_133 rfl (lv_at hl 4 rfl) ?_
              refine x_if_ne (tgt := 141) hx hb (by omega) dX11_change_134 (by decide) (fun c_134 => ?_) (fun c_134 => ?_)
              · refine lv_iload_n hx hb dX11_change_141 rfl (lv_at hl 1 rfl) ?_
                refine x_retQ hx hb hr (by omega) ?_ hP hD hS dX11_change_142 hlocks
                refine ⟨rfl, hfr, ?_, _, _, _, _, ⟨hqm0, hqm1, hqm2⟩, ost_18⟩
                have e : n.toNat = a.toNat := by omega
                unfold zChange
                rw [e, ← hst]
                repeat first | rw [if_pos (by omega)] | rw [if_neg (by omega)]
                all_goals (first | rfl | omega)
              · refine lv_iload_n hx hb dX11_change_137 rfl (lv_at hl 2 rfl) ?_
                refine lv_goto (tgt := 142) hx hb dX11_change_138 (by decide) ?_
                refine x_retQ hx hb hr (by omega) ?_ hP hD hS dX11_change_142 hlocks
                refine ⟨rfl, hfr, ?_, _, _, _, _, ⟨hqm0, hqm1, hqm2⟩, ost_18⟩
                have e : n.toNat = a.toNat := by omega
                unfold zChange
                rw [e, ← hst]
                repeat first | rw [if_pos (by omega)] | rw [if_neg (by omega)]
                all_goals (first | rfl | omega)
          · refine lv_iload hx hb dX11_change_48 (lv_at hl 0 rfl) ?_
            refine x_iconst hx hb dX11_change_50 ?_
            refine x_iadd hx hb dX11_change_51 ?_
            refine lv_istore (lv' := [(5, .int (iI (a + 1))), (4, .int (iI (a))), (2, .int (iI (ls9))), (3, .int (iI (bs))), (0, .ref (g.2.2 0)), (1, .int (iI (wh)))]) hx hb dX11_change_52 hl (by decide) rfl (fun ls hl => ?_)
            have hloop_54 : ∀ (k : Nat) (b : Int) (lt : Int) (bt : Int), (n - b).toNat < k → (hb0 : a + 1 ≤ b) → (hbn : b ≤ n) → (hst2 : (lt, bt) = zChI (sK σ G) (sF σ G) P n rd a (ls9, bs) (b - (a + 1)).toNat) → (hlr2 : 0 ≤ lt ∧ lt ≤ 18) → (hbr2 : bt = -4 ∨ (0 ≤ bt ∧ bt ≤ 99)) → ∀ (M : xM) (H : Heap) (locs : List Loc), (hx0 : M (0) = .inr (11, [.ref (g.2.2 1), .ref (g.2.2 4), .int (iI (tk)), .ref (g.2.2 7), .ref ph, .ref (g.2.2 13), .ref (g.2.2 23), .ref (g.2.2 25), .ref (g.2.2 26), .ref (g.2.2 27), .ref (g.2.2 28)])) → (hm0 : M (1) = .inr (7, [.ref (g.2.2 2), .ref (g.2.2 3), .int (iI (n)), .int (iI (rd))])) → (hm1 : M (2) = .inl (g.2.1 1, 9, .inr (.inr (.inr (.inr (fun k => G (k : Int))))))) → (hm2 : M (3) = .inl (g.2.1 0, 9, .inl (fun k => iI (P (k : Int))))) → (hqm0 : M (7) = .inr (7, [.ref (g.2.2 8), .ref (g.2.2 9), .int (iI (n)), .int (iI (rd))])) → (hqm1 : M (8) = .inl (g.2.1 1, 9, .inr (.inr (.inr (.inr (fun k => Gn_17 (k : Int))))))) → (hqm2 : M (9) = .inl (g.2.1 0, 9, .inl (fun k => iI (Pn_16 (k : Int))))) → (hfr : ∀ j, (j ≠ 7 ∧ j ≠ 8 ∧ j ≠ 9) → M j = σ.1 j) → xP g (M, σ.2) H → xD g A (M, σ.2) → va_S A s.heap H locs → ∀ (ls : Array Slot), lv_has ls 7 [(5, .int (iI (b))), (2, .int (iI (lt))), (3, .int (iI (bt))), (4, .int (iI (a))), (0, .ref (g.2.2 0)), (1, .int (iI (wh)))] → W p l e (headSpec wsX11_change ({ frames := 7, cells := 0, slots := 0, locals := 224 })).room s m ([.ref (g.2.2 0), .int (iI (wh))] : List Value).toArray below meth c H locs 0 0 (MQ below (x_Qi g A (fun r σ1 => σ1.2 = σ.2 ∧ (∀ j, j ≠ 7 ∧ j ≠ 8 ∧ j ≠ 9 → σ1.1 j = σ.1 j) ∧ (r = zChange (sK σ G) (sF σ G) P n rd wh) ∧ xStr g σ1.1 σ 7)) ([.ref (g.2.2 0), .int (iI (wh))] : List Value).toArray s (0) (0) A) (F0 m 54 ls []) := by
              intro k
              induction k with
              | zero =>
                intros; exact absurd (by assumption) (Nat.not_lt_zero _)
              | succ k ih =>
                intro b lt bt hmeas hb0 hbn hst2 hlr2 hbr2 M H locs hx0 hm0 hm1 hm2 hqm0 hqm1 hqm2 hfr hP hD hS ls hl
                have ih_20 := ih
                refine lv_iload hx hb dX11_change_54 (lv_at hl 0 rfl) ?_
                refine lv_aload_n hx hb dX11_change_56 rfl (lv_at hl 4 rfl) ?_
                refine x_get (C := RX11) (T := TX11) (N := 11) hx hb hts hin_X11 hown hK hP (0) (by decide) hx0 rfl 3 (by decide) hw_0 (fun _ h9 => h9) rfl dX11_change_57 ?_
                refine x_get (C := RX7) (T := TX7) (N := 4) hx hb hts hin_X7 hown hK hP (7) (by decide) hqm0 rfl 2 (by decide) hw_3 (fun _ h9 => h9) rfl dX11_change_60 ?_
                refine x_icmp_ge (tgt := 121) hx hb (by omega) (by omega) dX11_change_63 (by decide) (fun c_63 => ?_) (fun c_63 => ?_)
                · refine x_iinc (k0 := 3) (lv' := [(4, .int (iI (a + 1))), (5, .int (iI (b))), (2, .int (iI (lt))), (3, .int (iI (bt))), (0, .ref (g.2.2 0)), (1, .int (iI (wh)))]) hx hb dX11_change_121 hl rfl (by decide) rfl (fun ls hl => ?_)
                  refine lv_goto (tgt := 36) hx hb dX11_change_124 (by decide) ?_
                  exact ih_19 (a + 1) (lt) (bt) (by omega) (by omega) (by omega) (by (rw [zChO_step _ _ _ _ _ ha0, ← hst, hst2]; congr 1; omega)) (by omega) (by omega) (M) _ _ hx0 hm0 hm1 hm2 hqm0 hqm1 hqm2 hfr hP hD hS ls (lv_sub hl [0, 2, 3, 4, 5] rfl)
                · refine lv_aload_n hx hb dX11_change_66 rfl (lv_at hl 4 rfl) ?_
                  refine x_get (C := RX11) (T := TX11) (N := 11) hx hb hts hin_X11 hown hK hP (0) (by decide) hx0 rfl 3 (by decide) hw_0 (fun _ h9 => h9) rfl dX11_change_67 ?_
                  refine lv_iload hx hb dX11_change_70 (lv_at hl 3 rfl) ?_
                  refine lv_iload hx hb dX11_change_72 (lv_at hl 0 rfl) ?_
                  refine x_cqv0 (va_runV (As := [.int (iI (a)), .int (iI (b))]) (rest := []) ⟨hx, hb, hml, hown, hts⟩ (c_X7_exchange l g (M, σ.2) A (7) (by decide) (n) (rd) Pn_16 Gn_17 ⟨hqm0, hqm1, hqm2⟩ ost_18 hH (a) (by omega) (b) (by omega) (by omega)) (cwV 2 hts gX11_change_X7_exchange rfl rfl rfl (by decide +kernel) ⟨Nat.le_of_ble_eq_true rfl, Nat.le_of_ble_eq_true rfl⟩) (x_preVQ hK hP hD hS hA (x_recv hK hP (i := 7) (by decide) hqm0 rfl)) rfl rfl hl.1 rfl (lv_room (Nat.le_of_ble_eq_true rfl)) dX11_change_74 ⟨by decide, by decide⟩) hS (fun σ1 H locs hpost hP hD hS => ?_)
                  obtain ⟨M_21, p1⟩ := σ1
                  obtain ⟨hp0, hfrc, hnst⟩ := hpost
                  obtain rfl : p1 = σ.2 := hp0
                  have hP : xP g (M_21, σ.2) H := hP
                  have hD : xD g A (M_21, σ.2) := hD
                  have hx0 := (hfrc (0) (by omega)).trans hx0
                  have hm0 := (hfrc (1) (by omega)).trans hm0
                  have hm1 := (hfrc (2) (by omega)).trans hm1
                  have hm2 := (hfrc (3) (by omega)).trans hm2
                  have hfr := x_frc (F := fun j => j ≠ 7 ∧ j ≠ 8 ∧ j ≠ 9) hfr hfrc (fun j h => by have h : j ≠ 7 ∧ j ≠ 8 ∧ j ≠ 9 := h; omega)
                  obtain ⟨Pn_22, hPn_22⟩ : ∃ q : Int → Int, q = zSwap Pn_16 (a) (b) := ⟨_, rfl⟩
                  obtain ⟨Gn_23, hGn_23⟩ : ∃ q : Int → Option Nat, q = zSwap Gn_17 (a) (b) := ⟨_, rfl⟩
                  have ost_24 : StOk σ (n) (rd) Pn_22 Gn_23 := by rw [hPn_22, hGn_23]; exact StOk_swap ost_18 (by omega) (by omega) (by omega)
                  rw [← hPn_22, ← hGn_23] at hnst
                  have hqm0 : M_21 (7) = .inr (7, [.ref (g.2.2 8), .ref (g.2.2 9), .int (iI (n)), .int (iI (rd))]) := hnst.1
                  have hqm1 : MRef g M_21 8 9 Gn_23 := hnst.2.1
                  have hqm2 : MArr g M_21 9 9 Pn_22 := hnst.2.2
                  have e8 := hGn_23
                  have e9 := hPn_22
                  refine lv_aload_n hx hb dX11_change_77 rfl (lv_at hl 4 rfl) ?_
                  refine x_get (C := RX11) (T := TX11) (N := 11) hx hb hts hin_X11 hown hK hP (0) (by decide) hx0 rfl 3 (by decide) hw_0 (fun _ h9 => h9) rfl dX11_change_78 ?_
                  refine x_ci (va_runV (As := []) (rest := []) ⟨hx, hb, hml, hown, hts⟩ (c_X7_allBreaches l g (M_21, σ.2) (7) (by decide) (n) (rd) Pn_22 Gn_23 ⟨hqm0, hqm1, hqm2⟩ ost_24 hH ) (cwV 0 hts gX11_change_X7_allBreaches rfl rfl rfl (by decide +kernel) ⟨Nat.le_of_ble_eq_true rfl, Nat.le_of_ble_eq_true rfl⟩) (x_preV hK hP (x_recv hK hP (i := 7) (by decide) hqm0 rfl)) rfl rfl hl.1 rfl (lv_room (Nat.le_of_ble_eq_true rfl)) dX11_change_81 ⟨Nat.le_of_ble_eq_true rfl, Nat.le_of_ble_eq_true rfl⟩) (fun r_81 hr_81 qr_81 => ?_)
                  replace qr_81 : r_81 = zAll (sK σ (Gn_23)) (sF σ (Gn_23)) (Pn_22) (n) (rd) ∧ 0 ≤ r_81 ∧ r_81 ≤ 18 := qr_81
                  have hzz : r_81 = zAllSw (sK σ G) (sF σ G) P n rd a b := by (rw [qr_81.1, e8, e9, hPn_16, hGn_17]; exact zChg_cls (by omega) (by omega) (by omega) (by omega))
                  refine lv_istore (lv' := [(6, .int (iI (r_81))), (5, .int (iI (b))), (2, .int (iI (lt))), (3, .int (iI (bt))), (4, .int (iI (a))), (0, .ref (g.2.2 0)), (1, .int (iI (wh)))]) hx hb dX11_change_84 hl (by decide) rfl (fun ls hl => ?_)
                  refine lv_aload_n hx hb dX11_change_86 rfl (lv_at hl 5 rfl) ?_
                  refine x_get (C := RX11) (T := TX11) (N := 11) hx hb hts hin_X11 hown hK hP (0) (by decide) hx0 rfl 3 (by decide) hw_0 (fun _ h9 => h9) rfl dX11_change_87 ?_
                  refine lv_iload hx hb dX11_change_90 (lv_at hl 4 rfl) ?_
                  refine lv_iload hx hb dX11_change_92 (lv_at hl 1 rfl) ?_
                  refine x_cqv0 (va_runV (As := [.int (iI (a)), .int (iI (b))]) (rest := []) ⟨hx, hb, hml, hown, hts⟩ (c_X7_exchange l g (M_21, σ.2) A (7) (by decide) (n) (rd) Pn_22 Gn_23 ⟨hqm0, hqm1, hqm2⟩ ost_24 hH (a) (by omega) (b) (by omega) (by omega)) (cwV 2 hts gX11_change_X7_exchange rfl rfl rfl (by decide +kernel) ⟨Nat.le_of_ble_eq_true rfl, Nat.le_of_ble_eq_true rfl⟩) (x_preVQ hK hP hD hS hA (x_recv hK hP (i := 7) (by decide) hqm0 rfl)) rfl rfl hl.1 rfl (lv_room (Nat.le_of_ble_eq_true rfl)) dX11_change_94 ⟨by decide, by decide⟩) hS (fun σ1 H locs hpost hP hD hS => ?_)
                  obtain ⟨M_25, p1⟩ := σ1
                  obtain ⟨hp0, hfrc, hnst⟩ := hpost
                  obtain rfl : p1 = σ.2 := hp0
                  have hP : xP g (M_25, σ.2) H := hP
                  have hD : xD g A (M_25, σ.2) := hD
                  have hx0 := (hfrc (0) (by omega)).trans hx0
                  have hm0 := (hfrc (1) (by omega)).trans hm0
                  have hm1 := (hfrc (2) (by omega)).trans hm1
                  have hm2 := (hfrc (3) (by omega)).trans hm2
                  have hfr := x_frc (F := fun j => j ≠ 7 ∧ j ≠ 8 ∧ j ≠ 9) hfr hfrc (fun j h => by have h : j ≠ 7 ∧ j ≠ 8 ∧ j ≠ 9 := h; omega)
                  obtain ⟨Pn_26, hPn_26⟩ : ∃ q : Int → Int, q = zSwap Pn_22 (a) (b) := ⟨_, rfl⟩
                  obtain ⟨Gn_27, hGn_27⟩ : ∃ q : Int → Option Nat, q = zSwap Gn_23 (a) (b) := ⟨_, rfl⟩
                  have ost_28 : StOk σ (n) (rd) Pn_26 Gn_27 := by rw [hPn_26, hGn_27]; exact StOk_swap ost_24 (by omega) (by omega) (by omega)
                  rw [← hPn_26, ← hGn_27] at hnst
                  have hqm0 : M_25 (7) = .inr (7, [.ref (g.2.2 8), .ref (g.2.2 9), .int (iI (n)), .int (iI (rd))]) := hnst.1
                  have hqm1 : MRef g M_25 8 9 Gn_27 := hnst.2.1
                  have hqm2 : MArr g M_25 9 9 Pn_26 := hnst.2.2
                  refine lv_iload hx hb dX11_change_97 (lv_at hl 0 rfl) ?_
                  refine lv_iload_n hx hb dX11_change_99 rfl (lv_at hl 2 rfl) ?_
                  refine x_icmp_ge (tgt := 115) hx hb (by omega) (by omega) dX11_change_100 (by decide) (fun c_100 => ?_) (fun c_100 => ?_)
                  · refine x_iinc (k0 := 1) (lv' := [(5, .int (iI (b + 1))), (6, .int (iI (r_81))), (2, .int (iI (lt))), (3, .int (iI (bt))), (4, .int (iI (a))), (0, .ref (g.2.2 0)), (1, .int (iI (wh)))]) hx hb dX11_change_115 hl rfl (by decide) rfl (fun ls hl => ?_)
                    refine lv_goto (tgt := 54) hx hb dX11_change_118 (by decide) ?_
                    have hsw : Pn_26 = Pn_16 := by (rw [hPn_26, e9]; exact zSwap_two (by omega))
                    rw [hsw] at hqm2
                    have hsw8 : Gn_27 = Gn_17 := by (rw [hGn_27, e8]; exact zSwap_two (by omega))
                    rw [hsw8] at hqm1
                    exact ih_20 (b + 1) (lt) (bt) (by omega) (by omega) (by omega) (by (rw [zChI_step _ _ _ _ _ _ _ (by omega), ← hst2]; simp only; first | (rw [if_pos (by omega)]; congr 1 <;> omega) | (rw [if_neg (by omega)]))) (by omega) (by omega) (M_25) _ _ hx0 hm0 hm1 hm2 hqm0 hqm1 hqm2 hfr hP hD hS ls (lv_sub hl [0, 2, 3, 4, 5, 6] rfl)
                  · refine lv_iload hx hb dX11_change_103 (lv_at hl 0 rfl) ?_
                    refine lv_istore_n (lv' := [(2, .int (iI (r_81))), (6, .int (iI (r_81))), (5, .int (iI (b))), (3, .int (iI (bt))), (4, .int (iI (a))), (0, .ref (g.2.2 0)), (1, .int (iI (wh)))]) hx hb dX11_change_105 rfl hl (by decide) rfl (fun ls hl => ?_)
                    refine x_bipush (n := 10) hx hb (by decide +kernel) dX11_change_106 ?_
                    refine lv_iload hx hb dX11_change_108 (lv_at hl 4 rfl) ?_
                    refine x_imul hx hb dX11_change_110 ?_
                    refine lv_iload hx hb dX11_change_111 (lv_at hl 2 rfl) ?_
                    refine x_iadd hx hb dX11_change_113 ?_
                    refine lv_istore_n (lv' := [(3, .int (iI ((10 * a) + b))), (2, .int (iI (r_81))), (6, .int (iI (r_81))), (5, .int (iI (b))), (4, .int (iI (a))), (0, .ref (g.2.2 0)), (1, .int (iI (wh)))]) hx hb dX11_change_114 rfl hl (by decide) rfl (fun ls hl => ?_)
                    refine x_iinc (k0 := 3) (lv' := [(5, .int (iI (b + 1))), (3, .int (iI ((10 * a) + b))), (2, .int (iI (r_81))), (6, .int (iI (r_81))), (4, .int (iI (a))), (0, .ref (g.2.2 0)), (1, .int (iI (wh)))]) hx hb dX11_change_115 hl rfl (by decide) rfl (fun ls hl => ?_)
                    refine lv_goto (tgt := 54) hx hb dX11_change_118 (by decide) ?_
                    have hsw : Pn_26 = Pn_16 := by (rw [hPn_26, e9]; exact zSwap_two (by omega))
                    rw [hsw] at hqm2
                    have hsw8 : Gn_27 = Gn_17 := by (rw [hGn_27, e8]; exact zSwap_two (by omega))
                    rw [hsw8] at hqm1
                    exact ih_20 (b + 1) (r_81) ((10 * a) + b) (by omega) (by omega) (by omega) (by (rw [zChI_step _ _ _ _ _ _ _ (by omega), ← hst2]; simp only; first | (rw [if_pos (by omega)]; congr 1 <;> omega) | (rw [if_neg (by omega)]))) (by omega) (by omega) (M_25) _ _ hx0 hm0 hm1 hm2 hqm0 hqm1 hqm2 hfr hP hD hS ls (lv_sub hl [0, 2, 1, 4, 5, 6] rfl)
            exact hloop_54 (((n - (a + 1)).toNat) + 1) (a + 1) (ls9) (bs) (by omega) (by omega) (by omega) (by (rw [show (a + 1 - (a + 1)).toNat = 0 by omega]; rfl)) (by omega) (by omega) (M) _ _ hx0 hm0 hm1 hm2 hqm0 hqm1 hqm2 hfr hP hD hS ls (lv_sub hl [0, 2, 3, 1, 4, 5] rfl)
      exact hloop_36 (((n - (0)).toNat) + 1) (0) ((r_26)) (-4) (by omega) (by omega) (by omega) (by (rw [hz26]; rfl)) (by omega) (by omega) (M_15) _ _ hx0 hm0 hm1 hm2 hqm0 hqm1 hqm2 hfr hP hD hS ls (lv_sub hl [0, 2, 1, 3, 4] rfl)
    · refine x_iconst hx hb dX11_change_9 ?_
      refine x_retQ hx hb hr (by omega) ?_ hP hD hS dX11_change_10 hlocks
      refine ⟨rfl, hfr, by unfold zChange; rw [if_pos (by omega)], nm, rm, Pm, Gm, hsm9, hom⟩
