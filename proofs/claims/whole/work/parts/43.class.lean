set_option maxHeartbeats 4000000 in
set_option maxRecDepth 100000 in
theorem c_X11_row (l : Launch) (g : xG) (σ : xS) (A : Nat → Prop) (ph : Nat) (tk : Int) (hx0 : XObj g σ.1 ph tk) (Kf : Int → Option Nat) (So Sz : Int → Int) (h25 : MRef g σ.1 25 8 Kf) (h26 : MArr g σ.1 26 8 So) (h27 : MArr g σ.1 27 8 Sz) (hxs : XsOk σ Kf So Sz) (El : Int → Int → Int) (h28 : MGrid g σ.1) (hrow : ∀ d, 0 ≤ d → d ≤ 7 → MArr g σ.1 (29 + d.toNat) 100 (El d)) (hEl : ∀ d k, inR (El d k)) (d : Int) (hd : inR d) (o : Int) (ho : inR o) (n0 : Int) (hn0 : inR n0) : Met l yX11_row wsX11_row ({ frames := 3, cells := 0, slots := 0, locals := 96 }) (va_Pc [.ref (g.2.2 0), .int (iI (d)), .int (iI (o)), .int (iI (n0))] (xPreQ g A σ)) (x_Qi g A (fun r σ1 => σ1.2 = σ.2 ∧ (∀ j, j ≠ 25 ∧ j ≠ 26 ∧ j ≠ 27 ∧ j ≠ 29 + d.toNat → σ1.1 j = σ.1 j) ∧ ((r ≠ 0 ∧ r = zRowMk d o n0 ∧ σ1.1 = σ.1) ∨ (r = 0 ∧ zRowMk d o n0 = 0 ∧ MRef g σ1.1 25 8 (upI Kf d none) ∧ MArr g σ1.1 26 8 (upI So d o) ∧ MArr g σ1.1 27 8 (upI Sz d n0) ∧ MArr g σ1.1 (29 + d.toNat) 100 (zCopy (fun _ => 0) (El d) ((100 : Nat) : Int)))))) (0) (0) A := by
  refine Met.ofW (cc := cX11_row) (maxL := 4) (ret := (some .int)) (by decide) rfl ?_
  intro p e s m args below meth c s₁ B hml hv
  obtain ⟨rfl, hP, hK, hD, hA⟩ := hv
  have hx := B.exec
  have hb := B.bytes
  have hr := B.returns
  have hts := atoms_spec (ws := wsX11_row) B.pre
  have hown : s.vm.findClass RX11 = some m.cls := findClass_of_methodNamed B.named
  have hlocks := B.notSynchronized
  have hS : va_S A s.heap s.heap [] := va_S.rf
  have hfr : ∀ j, (j ≠ 25 ∧ j ≠ 26 ∧ j ≠ 27 ∧ j ≠ 29 + d.toNat) → σ.1 j = σ.1 j := fun _ _ => rfl
  have hl := lv_entry ([.ref (g.2.2 0), .int (iI (d)), .int (iI (o)), .int (iI (n0))]) (n := 4) (Nat.le_of_ble_eq_true rfl)
  rw [lg_entry_eq]
  generalize (lg_sl ([.ref (g.2.2 0), .int (iI (d)), .int (iI (o)), .int (iI (n0))]) ++ List.replicate (4 - (lg_sl ([.ref (g.2.2 0), .int (iI (d)), .int (iI (o)), .int (iI (n0))])).length) Slot.unset).toArray = ls at hl ⊢
  have hl : lv_has ls 4 [(0, .ref (g.2.2 0)), (1, .int (iI (d))), (2, .int (iI (o))), (3, .int (iI (n0)))] := hl
  have hw_0 := hts (.fieldLink RX11 45 "TwiceAsRich" "kept" "[LTwiceAsRich$House;") (by decide +kernel)
  have hin_X11 : ∀ w ∈ wsX110, w ∈ wsX11_row := by decide +kernel
  have hw_2 := hts (.fieldLink RX11 49 "TwiceAsRich" "sorts" "[I") (by decide +kernel)
  have hw_3 := hts (.fieldLink RX11 53 "TwiceAsRich" "sizes" "[I") (by decide +kernel)
  have hw_4 := hts (.fieldLink RX11 58 "TwiceAsRich" "rows" "[[I") (by decide +kernel)
  refine lv_iload_n hx hb dX11_row_0 rfl (lv_at hl 1 rfl) ?_
  refine x_ci (va_runS (As := [.int (iI (d))]) (rest := []) ⟨hx, hb, hml, hown, hts⟩ (c_X11_isShelf l g σ  (d) (by omega)) (va_cwS 1 hts gX11_row_X11_isShelf rfl rfl rfl (by decide +kernel) ⟨Nat.le_of_ble_eq_true rfl, Nat.le_of_ble_eq_true rfl⟩) (x_preS hK hP) rfl rfl hl.1 rfl (lv_room (Nat.le_of_ble_eq_true rfl)) dX11_row_1 ⟨Nat.le_of_ble_eq_true rfl, Nat.le_of_ble_eq_true rfl⟩) (fun r_1 hr_1 qr_1 => ?_)
  replace qr_1 : (r_1 = 1 ∧ 0 ≤ (d) ∧ (d) ≤ 7) ∨ (r_1 = 0 ∧ ¬ (0 ≤ (d) ∧ (d) ≤ 7)) := qr_1
  refine x_if_eq (tgt := 22) hx hb (by omega) dX11_row_4 (by decide) (fun c_4 => ?_) (fun c_4 => ?_)
  · refine x_iconst hx hb dX11_row_22 ?_
    refine x_retQ hx hb hr (by omega) ?_ hP hD hS dX11_row_23 hlocks
    refine ⟨rfl, hfr, Or.inl ⟨by omega, by (unfold zRowMk; rw [if_pos (by omega)]), rfl⟩⟩
  · refine lv_iload_n hx hb dX11_row_7 rfl (lv_at hl 2 rfl) ?_
    refine x_if_lt (tgt := 22) hx hb (by omega) dX11_row_8 (by decide) (fun c_8 => ?_) (fun c_8 => ?_)
    · refine x_iconst hx hb dX11_row_22 ?_
      refine x_retQ hx hb hr (by omega) ?_ hP hD hS dX11_row_23 hlocks
      refine ⟨rfl, hfr, Or.inl ⟨by omega, by (unfold zRowMk; rw [if_pos (by omega)]), rfl⟩⟩
    · refine lv_iload_n hx hb dX11_row_11 rfl (lv_at hl 2 rfl) ?_
      refine x_iconst hx hb dX11_row_12 ?_
      refine x_icmp_gt (tgt := 22) hx hb (by omega) (by omega) dX11_row_13 (by decide) (fun c_13 => ?_) (fun c_13 => ?_)
      · refine x_iconst hx hb dX11_row_22 ?_
        refine x_retQ hx hb hr (by omega) ?_ hP hD hS dX11_row_23 hlocks
        refine ⟨rfl, hfr, Or.inl ⟨by omega, by (unfold zRowMk; rw [if_pos (by omega)]), rfl⟩⟩
      · refine lv_iload_n hx hb dX11_row_16 rfl (lv_at hl 3 rfl) ?_
        refine x_bipush (n := 100) hx hb (by decide +kernel) dX11_row_17 ?_
        refine x_icmp_le (tgt := 24) hx hb (by omega) (by omega) dX11_row_19 (by decide) (fun c_19 => ?_) (fun c_19 => ?_)
        · refine lv_iload_n hx hb dX11_row_24 rfl (lv_at hl 3 rfl) ?_
          refine x_if_ge (tgt := 31) hx hb (by omega) dX11_row_25 (by decide) (fun c_25 => ?_) (fun c_25 => ?_)
          · obtain ⟨ri_0, eri_0⟩ : ∃ q : Nat, q = 29 + d.toNat := ⟨_, rfl⟩
            have hri_0 : MArr g σ.1 ri_0 100 (El d) := by (rw [eri_0]; exact hrow d (by omega) (by omega))
            refine lv_aload_n hx hb dX11_row_31 rfl (lv_at hl 0 rfl) ?_
            refine x_get (C := RX11) (T := TX11) (N := 11) hx hb hts hin_X11 hown hK hP (0) (by decide) hx0 rfl 7 (by decide) hw_0 (fun _ h9 => h9) rfl dX11_row_32 ?_
            refine lv_iload_n hx hb dX11_row_35 rfl (lv_at hl 1 rfl) ?_
            refine lv_null hx hb dX11_row_36 ?_
            refine x_aastN (f := Kf) hx hb hK hP hD hS (25) (by decide) h25 (by omega) (by omega) (by decide) dX11_row_37 (fun M_1 H locs hnew hne hP hD hS => ?_)
            obtain ⟨f_2, hf_2⟩ : ∃ q : Int → Option Nat, q = (upI Kf (d) (none)) := ⟨_, rfl⟩
            rw [← hf_2] at hnew
            have hP : xP g (M_1, σ.2) H := hP
            have hD : xD g A (M_1, σ.2) := hD
            have h25 : M_1 (25) = .inl (g.2.1 1, 8, .inr (.inr (.inr (.inr (fun k => f_2 (k : Int)))))) := hnew
            have hx0 := (hne (0) (by decide)).trans hx0
            have h26 := (hne (26) (by decide)).trans h26
            have h27 := (hne (27) (by decide)).trans h27
            have h28 := (hne (28) (by decide)).trans h28
            have hri_0 := (hne (ri_0) (by omega)).trans hri_0
            have hfr := x_fr (F := fun j => j ≠ 25 ∧ j ≠ 26 ∧ j ≠ 27 ∧ j ≠ 29 + d.toNat) hfr hne (fun j h => by have h : j ≠ 25 ∧ j ≠ 26 ∧ j ≠ 27 ∧ j ≠ 29 + d.toNat := h; omega)
            refine lv_aload_n hx hb dX11_row_38 rfl (lv_at hl 0 rfl) ?_
            refine x_get (C := RX11) (T := TX11) (N := 11) hx hb hts hin_X11 hown hK hP (0) (by decide) hx0 rfl 8 (by decide) hw_2 (fun _ h9 => h9) rfl dX11_row_39 ?_
            refine lv_iload_n hx hb dX11_row_42 rfl (lv_at hl 1 rfl) ?_
            refine lv_iload_n hx hb dX11_row_43 rfl (lv_at hl 2 rfl) ?_
            refine x_iast (f := So) hx hb hK hP hD hS (26) (by decide) h26 (by omega) (by omega) (by decide) dX11_row_44 (fun M_3 H locs hnew hne hP hD hS => ?_)
            obtain ⟨f_4, hf_4⟩ : ∃ q : Int → Int, q = (upI So (d) (o)) := ⟨_, rfl⟩
            rw [← hf_4] at hnew
            have hP : xP g (M_3, σ.2) H := hP
            have hD : xD g A (M_3, σ.2) := hD
            have h26 : M_3 (26) = .inl (g.2.1 0, 8, .inl (fun k => iI (f_4 (k : Int)))) := hnew
            have hx0 := (hne (0) (by decide)).trans hx0
            have h25 := (hne (25) (by decide)).trans h25
            have h27 := (hne (27) (by decide)).trans h27
            have h28 := (hne (28) (by decide)).trans h28
            have hri_0 := (hne (ri_0) (by omega)).trans hri_0
            have hfr := x_fr (F := fun j => j ≠ 25 ∧ j ≠ 26 ∧ j ≠ 27 ∧ j ≠ 29 + d.toNat) hfr hne (fun j h => by have h : j ≠ 25 ∧ j ≠ 26 ∧ j ≠ 27 ∧ j ≠ 29 + d.toNat := h; omega)
            refine lv_aload_n hx hb dX11_row_45 rfl (lv_at hl 0 rfl) ?_
            refine x_get (C := RX11) (T := TX11) (N := 11) hx hb hts hin_X11 hown hK hP (0) (by decide) hx0 rfl 9 (by decide) hw_3 (fun _ h9 => h9) rfl dX11_row_46 ?_
            refine lv_iload_n hx hb dX11_row_49 rfl (lv_at hl 1 rfl) ?_
            refine lv_iload_n hx hb dX11_row_50 rfl (lv_at hl 3 rfl) ?_
            refine x_iast (f := Sz) hx hb hK hP hD hS (27) (by decide) h27 (by omega) (by omega) (by decide) dX11_row_51 (fun M_5 H locs hnew hne hP hD hS => ?_)
            obtain ⟨f_6, hf_6⟩ : ∃ q : Int → Int, q = (upI Sz (d) (n0)) := ⟨_, rfl⟩
            rw [← hf_6] at hnew
            have hP : xP g (M_5, σ.2) H := hP
            have hD : xD g A (M_5, σ.2) := hD
            have h27 : M_5 (27) = .inl (g.2.1 0, 8, .inl (fun k => iI (f_6 (k : Int)))) := hnew
            have hx0 := (hne (0) (by decide)).trans hx0
            have h25 := (hne (25) (by decide)).trans h25
            have h26 := (hne (26) (by decide)).trans h26
            have h28 := (hne (28) (by decide)).trans h28
            have hri_0 := (hne (ri_0) (by omega)).trans hri_0
            have hfr := x_fr (F := fun j => j ≠ 25 ∧ j ≠ 26 ∧ j ≠ 27 ∧ j ≠ 29 + d.toNat) hfr hne (fun j h => by have h : j ≠ 25 ∧ j ≠ 26 ∧ j ≠ 27 ∧ j ≠ 29 + d.toNat := h; omega)
            refine lv_aload_n hx hb dX11_row_52 rfl (lv_at hl 0 rfl) ?_
            refine x_get (C := RX11) (T := TX11) (N := 11) hx hb hts hin_X11 hown hK hP (0) (by decide) hx0 rfl 10 (by decide) hw_4 (fun _ h9 => h9) rfl dX11_row_53 ?_
            refine lv_iload_n hx hb dX11_row_56 rfl (lv_at hl 1 rfl) ?_
            have hG_ri_0 : xGf g (d) = some (g.2.2 ri_0) := by rw [eri_0]
            refine x_aalg (f := xGf g) hx hb hK hP (28) (by decide) h28 (by omega) (by omega) (by decide) hG_ri_0 dX11_row_57 ?_
            refine x_iconst hx hb dX11_row_58 ?_
            refine x_cqv0 (va_runS (As := [.ref (g.2.2 (ri_0)), .int (iI (0))]) (rest := []) ⟨hx, hb, hml, hown, hts⟩ (c_J7_fill_53178 l g (M_5, σ.2) A (ri_0) (by have hxN : xN = 51 := rfl; omega) (100) (by decide) ((El d)) hri_0 (0)) (va_cwS 2 hts gX11_row_J7_fill_53178 rfl rfl rfl (by decide +kernel) ⟨Nat.le_of_ble_eq_true rfl, Nat.le_of_ble_eq_true rfl⟩) (x_preSQ hK hP hD hS hA) rfl rfl hl.1 rfl (lv_room (Nat.le_of_ble_eq_true rfl)) dX11_row_59 ⟨by decide, by decide⟩) hS (fun σ1 H locs hpost hP hD hS => ?_)
            obtain ⟨M_7, p1⟩ := σ1
            obtain ⟨hp0, hne, hnew⟩ := hpost
            obtain rfl : p1 = σ.2 := hp0
            obtain ⟨f_8, hf_8⟩ : ∃ q : Int → Int, q = zCopy (fun _ => 0) ((El d)) ((100 : Nat) : Int) := ⟨_, rfl⟩
            rw [← hf_8] at hnew
            replace hne : ∀ j, j ≠ ri_0 → M_7 j = M_5 j := hne
            have hP : xP g (M_7, σ.2) H := hP
            have hD : xD g A (M_7, σ.2) := hD
            have hri_0 : M_7 (ri_0) = .inl (g.2.1 0, 100, .inl (fun k => iI (f_8 (k : Int)))) := hnew
            have hx0 := (hne (0) (by omega)).trans hx0
            have h25 := (hne (25) (by omega)).trans h25
            have h26 := (hne (26) (by omega)).trans h26
            have h27 := (hne (27) (by omega)).trans h27
            have h28 := (hne (28) (by omega)).trans h28
            have hfr := x_fr (F := fun j => j ≠ 25 ∧ j ≠ 26 ∧ j ≠ 27 ∧ j ≠ 29 + d.toNat) hfr hne (fun j h => by have h : j ≠ 25 ∧ j ≠ 26 ∧ j ≠ 27 ∧ j ≠ 29 + d.toNat := h; omega)
            refine x_iconst hx hb dX11_row_62 ?_
            refine x_retQ hx hb hr (by omega) ?_ hP hD hS dX11_row_63 hlocks
            refine ⟨rfl, hfr, Or.inr ⟨rfl, by (unfold zRowMk; rw [if_neg (by omega), if_neg (by omega)]), ?_, ?_, ?_, ?_⟩⟩
            · rw [← hf_2]; exact h25
            · rw [← hf_4]; exact h26
            · rw [← hf_6]; exact h27
            · rw [hf_8, eri_0] at hri_0; exact hri_0
          · refine x_bipush (n := -14) hx hb (by decide +kernel) dX11_row_28 ?_
            refine x_retQ hx hb hr (by omega) ?_ hP hD hS dX11_row_30 hlocks
            refine ⟨rfl, hfr, Or.inl ⟨by omega, by (unfold zRowMk; rw [if_neg (by omega), if_pos (by omega)]), rfl⟩⟩
        · refine x_iconst hx hb dX11_row_22 ?_
          refine x_retQ hx hb hr (by omega) ?_ hP hD hS dX11_row_23 hlocks
          refine ⟨rfl, hfr, Or.inl ⟨by omega, by (unfold zRowMk; rw [if_pos (by omega)]), rfl⟩⟩

set_option maxHeartbeats 4000000 in
set_option maxRecDepth 100000 in
theorem c_X11_copy (l : Launch) (g : xG) (σ : xS) (A : Nat → Prop) (ph : Nat) (tk : Int) (hx0 : XObj g σ.1 ph tk) (Kf : Int → Option Nat) (So Sz : Int → Int) (h25 : MRef g σ.1 25 8 Kf) (h26 : MArr g σ.1 26 8 So) (h27 : MArr g σ.1 27 8 Sz) (hxs : XsOk σ Kf So Sz) (El : Int → Int → Int) (h28 : MGrid g σ.1) (hrow : ∀ d, 0 ≤ d → d ≤ 7 → MArr g σ.1 (29 + d.toNat) 100 (El d)) (hEl : ∀ d k, inR (El d k)) (d : Int) (hd : inR d) (i0 : Int) (hi0 : inR i0) (e9 : Int) (he9 : inR e9) (j0 : Int) (hj0 : inR j0) (n0 : Int) (hn0 : inR n0) : Met l yX11_copy wsX11_copy ({ frames := 3, cells := 0, slots := 0, locals := 96 }) (va_Pc [.ref (g.2.2 0), .int (iI (d)), .int (iI (i0)), .int (iI (e9)), .int (iI (j0)), .int (iI (n0))] (xPreQ g A σ)) (x_Qi g A (fun r σ1 => σ1.2 = σ.2 ∧ (∀ j, j ≠ 29 + e9.toNat → σ1.1 j = σ.1 j) ∧ r = zCopyR (xKp Kf So) So Sz d i0 e9 j0 n0 ∧ ((r < 0 ∧ σ1.1 = σ.1) ∨ (0 ≤ r ∧ MArr g σ1.1 (29 + e9.toNat) 100 (zCpy (El d) (El e9) i0 j0 n0))))) (0) (0) A := by
  refine Met.ofW (cc := cX11_copy) (maxL := 6) (ret := (some .int)) (by decide) rfl ?_
  intro p e s m args below meth c s₁ B hml hv
  obtain ⟨rfl, hP, hK, hD, hA⟩ := hv
  have hx := B.exec
  have hb := B.bytes
  have hr := B.returns
  have hts := atoms_spec (ws := wsX11_copy) B.pre
  have hown : s.vm.findClass RX11 = some m.cls := findClass_of_methodNamed B.named
  have hlocks := B.notSynchronized
  have hS : va_S A s.heap s.heap [] := va_S.rf
  have hfr : ∀ j, (j ≠ 29 + e9.toNat) → σ.1 j = σ.1 j := fun _ _ => rfl
  have hl := lv_entry ([.ref (g.2.2 0), .int (iI (d)), .int (iI (i0)), .int (iI (e9)), .int (iI (j0)), .int (iI (n0))]) (n := 6) (Nat.le_of_ble_eq_true rfl)
  rw [lg_entry_eq]
  generalize (lg_sl ([.ref (g.2.2 0), .int (iI (d)), .int (iI (i0)), .int (iI (e9)), .int (iI (j0)), .int (iI (n0))]) ++ List.replicate (6 - (lg_sl ([.ref (g.2.2 0), .int (iI (d)), .int (iI (i0)), .int (iI (e9)), .int (iI (j0)), .int (iI (n0))])).length) Slot.unset).toArray = ls at hl ⊢
  have hl : lv_has ls 6 [(0, .ref (g.2.2 0)), (1, .int (iI (d))), (2, .int (iI (i0))), (3, .int (iI (e9))), (4, .int (iI (j0))), (5, .int (iI (n0)))] := hl
  have hw_0 := hts (.fieldLink RX11 49 "TwiceAsRich" "sorts" "[I") (by decide +kernel)
  have hin_X11 : ∀ w ∈ wsX110, w ∈ wsX11_copy := by decide +kernel
  have hw_2 := hts (.fieldLink RX11 58 "TwiceAsRich" "rows" "[[I") (by decide +kernel)
  have hw_3 := hts (.methodLink RX11 261 arraycopyName) (by decide +kernel)
  have hw_4 := hts (.native arraycopyName) (by decide +kernel)
  have hw_5 := hts (.static arraycopyName) (by decide +kernel)
  have hw_6 := hts (.initialized "java/lang/System") (by decide +kernel)
  refine lv_iload_n hx hb dX11_copy_0 rfl (lv_at hl 1 rfl) ?_
  refine x_ci (va_runS (As := [.int (iI (d))]) (rest := []) ⟨hx, hb, hml, hown, hts⟩ (c_X11_isShelf l g σ  (d) (by omega)) (va_cwS 1 hts gX11_copy_X11_isShelf rfl rfl rfl (by decide +kernel) ⟨Nat.le_of_ble_eq_true rfl, Nat.le_of_ble_eq_true rfl⟩) (x_preS hK hP) rfl rfl hl.1 rfl (lv_room (Nat.le_of_ble_eq_true rfl)) dX11_copy_1 ⟨Nat.le_of_ble_eq_true rfl, Nat.le_of_ble_eq_true rfl⟩) (fun r_1 hr_1 qr_1 => ?_)
  replace qr_1 : (r_1 = 1 ∧ 0 ≤ (d) ∧ (d) ≤ 7) ∨ (r_1 = 0 ∧ ¬ (0 ≤ (d) ∧ (d) ≤ 7)) := qr_1
  refine x_if_eq (tgt := 14) hx hb (by omega) dX11_copy_4 (by decide) (fun c_4 => ?_) (fun c_4 => ?_)
  · refine x_iconst hx hb dX11_copy_14 ?_
    refine x_retQ hx hb hr (by omega) ?_ hP hD hS dX11_copy_15 hlocks
    exact ⟨rfl, hfr, by (unfold zCopyR; first | (rw [if_pos (by omega)]; done) | (rw [if_neg (by omega), if_pos (by omega)]; done) | (rw [if_neg (by omega), if_neg (by omega), if_pos (by omega)]; done) | (rw [if_neg (by omega), if_neg (by omega), if_neg (by omega), if_pos (by omega)]; done)), Or.inl ⟨by omega, rfl⟩⟩
  · refine lv_iload_n hx hb dX11_copy_7 rfl (lv_at hl 3 rfl) ?_
    refine x_ci (va_runS (As := [.int (iI (e9))]) (rest := []) ⟨hx, hb, hml, hown, hts⟩ (c_X11_isShelf l g σ  (e9) (by omega)) (va_cwS 1 hts gX11_copy_X11_isShelf rfl rfl rfl (by decide +kernel) ⟨Nat.le_of_ble_eq_true rfl, Nat.le_of_ble_eq_true rfl⟩) (x_preS hK hP) rfl rfl hl.1 rfl (lv_room (Nat.le_of_ble_eq_true rfl)) dX11_copy_8 ⟨Nat.le_of_ble_eq_true rfl, Nat.le_of_ble_eq_true rfl⟩) (fun r_8 hr_8 qr_8 => ?_)
    replace qr_8 : (r_8 = 1 ∧ 0 ≤ (e9) ∧ (e9) ≤ 7) ∨ (r_8 = 0 ∧ ¬ (0 ≤ (e9) ∧ (e9) ≤ 7)) := qr_8
    refine x_if_ne (tgt := 16) hx hb (by omega) dX11_copy_11 (by decide) (fun c_11 => ?_) (fun c_11 => ?_)
    · refine lv_aload_n hx hb dX11_copy_16 rfl (lv_at hl 0 rfl) ?_
      refine lv_iload_n hx hb dX11_copy_17 rfl (lv_at hl 1 rfl) ?_
      have hkd := xKp_so hxs (d := d) (by omega) (by omega)
      have hke9 := xKp_so hxs (d := e9) (by omega) (by omega)
      refine x_ci (va_runV (As := [.int (iI (d))]) (rest := []) ⟨hx, hb, hml, hown, hts⟩ (c_X11_holdsNothing l g σ ph tk hx0 Kf So Sz h25 h26 h27 hxs (d) (by omega)) (cwV 1 hts gX11_copy_X11_holdsNothing rfl rfl rfl (by decide +kernel) ⟨Nat.le_of_ble_eq_true rfl, Nat.le_of_ble_eq_true rfl⟩) (x_preV hK hP (x_recv hK hP (i := 0) (by decide) hx0 rfl)) rfl rfl hl.1 rfl (lv_room (Nat.le_of_ble_eq_true rfl)) dX11_copy_18 ⟨Nat.le_of_ble_eq_true rfl, Nat.le_of_ble_eq_true rfl⟩) (fun r_18 hr_18 qr_18 => ?_)
      replace qr_18 : (r_18 = 1 ∧ xKp Kf So (d) = 0) ∨ (r_18 = 0 ∧ xKp Kf So (d) ≠ 0) := qr_18
      refine x_if_ne (tgt := 32) hx hb (by omega) dX11_copy_21 (by decide) (fun c_21 => ?_) (fun c_21 => ?_)
      · refine x_bipush (n := -11) hx hb (by decide +kernel) dX11_copy_32 ?_
        refine x_retQ hx hb hr (by omega) ?_ hP hD hS dX11_copy_34 hlocks
        exact ⟨rfl, hfr, by (unfold zCopyR; first | (rw [if_pos (by omega)]; done) | (rw [if_neg (by omega), if_pos (by omega)]; done) | (rw [if_neg (by omega), if_neg (by omega), if_pos (by omega)]; done) | (rw [if_neg (by omega), if_neg (by omega), if_neg (by omega), if_pos (by omega)]; done)), Or.inl ⟨by omega, rfl⟩⟩
      · refine lv_aload_n hx hb dX11_copy_24 rfl (lv_at hl 0 rfl) ?_
        refine lv_iload_n hx hb dX11_copy_25 rfl (lv_at hl 3 rfl) ?_
        refine x_ci (va_runV (As := [.int (iI (e9))]) (rest := []) ⟨hx, hb, hml, hown, hts⟩ (c_X11_holdsNothing l g σ ph tk hx0 Kf So Sz h25 h26 h27 hxs (e9) (by omega)) (cwV 1 hts gX11_copy_X11_holdsNothing rfl rfl rfl (by decide +kernel) ⟨Nat.le_of_ble_eq_true rfl, Nat.le_of_ble_eq_true rfl⟩) (x_preV hK hP (x_recv hK hP (i := 0) (by decide) hx0 rfl)) rfl rfl hl.1 rfl (lv_room (Nat.le_of_ble_eq_true rfl)) dX11_copy_26 ⟨Nat.le_of_ble_eq_true rfl, Nat.le_of_ble_eq_true rfl⟩) (fun r_26 hr_26 qr_26 => ?_)
        replace qr_26 : (r_26 = 1 ∧ xKp Kf So (e9) = 0) ∨ (r_26 = 0 ∧ xKp Kf So (e9) ≠ 0) := qr_26
        refine x_if_eq (tgt := 35) hx hb (by omega) dX11_copy_29 (by decide) (fun c_29 => ?_) (fun c_29 => ?_)
        · refine lv_aload_n hx hb dX11_copy_35 rfl (lv_at hl 0 rfl) ?_
          refine x_get (C := RX11) (T := TX11) (N := 11) hx hb hts hin_X11 hown hK hP (0) (by decide) hx0 rfl 8 (by decide) hw_0 (fun _ h9 => h9) rfl dX11_copy_36 ?_
          refine lv_iload_n hx hb dX11_copy_39 rfl (lv_at hl 1 rfl) ?_
          refine x_iald (f := So) hx hb hK hP (26) (by decide) h26 (by omega) (by omega) (by decide) dX11_copy_40 ?_
          have hb_1 := hxs.1 (d)
          refine x_iconst hx hb dX11_copy_41 ?_
          refine x_icmp_eq (tgt := 60) hx hb (by omega) (by omega) dX11_copy_42 (by decide) (fun c_42 => ?_) (fun c_42 => ?_)
          · refine x_bipush (n := -12) hx hb (by decide +kernel) dX11_copy_60 ?_
            refine x_retQ hx hb hr (by omega) ?_ hP hD hS dX11_copy_62 hlocks
            exact ⟨rfl, hfr, by (unfold zCopyR; first | (rw [if_pos (by omega)]; done) | (rw [if_neg (by omega), if_pos (by omega)]; done) | (rw [if_neg (by omega), if_neg (by omega), if_pos (by omega)]; done) | (rw [if_neg (by omega), if_neg (by omega), if_neg (by omega), if_pos (by omega)]; done)), Or.inl ⟨by omega, rfl⟩⟩
          · refine lv_aload_n hx hb dX11_copy_45 rfl (lv_at hl 0 rfl) ?_
            refine x_get (C := RX11) (T := TX11) (N := 11) hx hb hts hin_X11 hown hK hP (0) (by decide) hx0 rfl 8 (by decide) hw_0 (fun _ h9 => h9) rfl dX11_copy_46 ?_
            refine lv_iload_n hx hb dX11_copy_49 rfl (lv_at hl 1 rfl) ?_
            refine x_iald (f := So) hx hb hK hP (26) (by decide) h26 (by omega) (by omega) (by decide) dX11_copy_50 ?_
            have hb_2 := hxs.1 (d)
            refine lv_aload_n hx hb dX11_copy_51 rfl (lv_at hl 0 rfl) ?_
            refine x_get (C := RX11) (T := TX11) (N := 11) hx hb hts hin_X11 hown hK hP (0) (by decide) hx0 rfl 8 (by decide) hw_0 (fun _ h9 => h9) rfl dX11_copy_52 ?_
            refine lv_iload_n hx hb dX11_copy_55 rfl (lv_at hl 3 rfl) ?_
            refine x_iald (f := So) hx hb hK hP (26) (by decide) h26 (by omega) (by omega) (by decide) dX11_copy_56 ?_
            have hb_3 := hxs.1 (e9)
            refine x_icmp_eq (tgt := 63) hx hb (by omega) (by omega) dX11_copy_57 (by decide) (fun c_57 => ?_) (fun c_57 => ?_)
            · refine lv_iload hx hb dX11_copy_63 (lv_at hl 5 rfl) ?_
              refine x_if_lt (tgt := 91) hx hb (by omega) dX11_copy_65 (by decide) (fun c_65 => ?_) (fun c_65 => ?_)
              · refine x_bipush (n := -13) hx hb (by decide +kernel) dX11_copy_91 ?_
                refine x_retQ hx hb hr (by omega) ?_ hP hD hS dX11_copy_93 hlocks
                exact ⟨rfl, hfr, by (unfold zCopyR; first | (rw [if_pos (by omega)]; done) | (rw [if_neg (by omega), if_pos (by omega)]; done) | (rw [if_neg (by omega), if_neg (by omega), if_pos (by omega)]; done) | (rw [if_neg (by omega), if_neg (by omega), if_neg (by omega), if_pos (by omega)]; done)), Or.inl ⟨by omega, rfl⟩⟩
              · refine lv_aload_n hx hb dX11_copy_68 rfl (lv_at hl 0 rfl) ?_
                refine lv_iload_n hx hb dX11_copy_69 rfl (lv_at hl 1 rfl) ?_
                refine lv_iload_n hx hb dX11_copy_70 rfl (lv_at hl 2 rfl) ?_
                refine lv_iload hx hb dX11_copy_71 (lv_at hl 5 rfl) ?_
                refine x_ci (va_runV (As := [.int (iI (d)), .int (iI (i0)), .int (iI (n0))]) (rest := []) ⟨hx, hb, hml, hown, hts⟩ (c_X11_isStretch l g σ ph tk hx0 Kf So Sz h25 h26 h27 hxs (d) (by omega) (i0) (by omega) (n0) (by omega) (by omega)) (cwV 3 hts gX11_copy_X11_isStretch rfl rfl rfl (by decide +kernel) ⟨Nat.le_of_ble_eq_true rfl, Nat.le_of_ble_eq_true rfl⟩) (x_preV hK hP (x_recv hK hP (i := 0) (by decide) hx0 rfl)) rfl rfl hl.1 rfl (lv_room (Nat.le_of_ble_eq_true rfl)) dX11_copy_73 ⟨Nat.le_of_ble_eq_true rfl, Nat.le_of_ble_eq_true rfl⟩) (fun r_73 hr_73 qr_73 => ?_)
                replace qr_73 : (r_73 = 1 ∧ 0 ≤ (i0) ∧ (i0) ≤ Sz (d) - (n0)) ∨ (r_73 = 0 ∧ ¬ (0 ≤ (i0) ∧ (i0) ≤ Sz (d) - (n0))) := qr_73
                refine x_if_eq (tgt := 91) hx hb (by omega) dX11_copy_76 (by decide) (fun c_76 => ?_) (fun c_76 => ?_)
                · refine x_bipush (n := -13) hx hb (by decide +kernel) dX11_copy_91 ?_
                  refine x_retQ hx hb hr (by omega) ?_ hP hD hS dX11_copy_93 hlocks
                  exact ⟨rfl, hfr, by (unfold zCopyR; first | (rw [if_pos (by omega)]; done) | (rw [if_neg (by omega), if_pos (by omega)]; done) | (rw [if_neg (by omega), if_neg (by omega), if_pos (by omega)]; done) | (rw [if_neg (by omega), if_neg (by omega), if_neg (by omega), if_pos (by omega)]; done)), Or.inl ⟨by omega, rfl⟩⟩
                · refine lv_aload_n hx hb dX11_copy_79 rfl (lv_at hl 0 rfl) ?_
                  refine lv_iload_n hx hb dX11_copy_80 rfl (lv_at hl 3 rfl) ?_
                  refine lv_iload hx hb dX11_copy_81 (lv_at hl 4 rfl) ?_
                  refine lv_iload hx hb dX11_copy_83 (lv_at hl 5 rfl) ?_
                  refine x_ci (va_runV (As := [.int (iI (e9)), .int (iI (j0)), .int (iI (n0))]) (rest := []) ⟨hx, hb, hml, hown, hts⟩ (c_X11_isStretch l g σ ph tk hx0 Kf So Sz h25 h26 h27 hxs (e9) (by omega) (j0) (by omega) (n0) (by omega) (by omega)) (cwV 3 hts gX11_copy_X11_isStretch rfl rfl rfl (by decide +kernel) ⟨Nat.le_of_ble_eq_true rfl, Nat.le_of_ble_eq_true rfl⟩) (x_preV hK hP (x_recv hK hP (i := 0) (by decide) hx0 rfl)) rfl rfl hl.1 rfl (lv_room (Nat.le_of_ble_eq_true rfl)) dX11_copy_85 ⟨Nat.le_of_ble_eq_true rfl, Nat.le_of_ble_eq_true rfl⟩) (fun r_85 hr_85 qr_85 => ?_)
                  replace qr_85 : (r_85 = 1 ∧ 0 ≤ (j0) ∧ (j0) ≤ Sz (e9) - (n0)) ∨ (r_85 = 0 ∧ ¬ (0 ≤ (j0) ∧ (j0) ≤ Sz (e9) - (n0))) := qr_85
                  refine x_if_ne (tgt := 94) hx hb (by omega) dX11_copy_88 (by decide) (fun c_88 => ?_) (fun c_88 => ?_)
                  · refine lv_aload_n hx hb dX11_copy_94 rfl (lv_at hl 0 rfl) ?_
                    refine x_get (C := RX11) (T := TX11) (N := 11) hx hb hts hin_X11 hown hK hP (0) (by decide) hx0 rfl 10 (by decide) hw_2 (fun _ h9 => h9) rfl dX11_copy_95 ?_
                    refine lv_iload_n hx hb dX11_copy_98 rfl (lv_at hl 1 rfl) ?_
                    obtain ⟨ri_4, eri_4⟩ : ∃ q : Nat, q = 29 + (d).toNat := ⟨_, rfl⟩
                    have hG_ri_4 : xGf g (d) = some (g.2.2 ri_4) := by rw [eri_4]
                    have hri_4 : MArr g σ.1 ri_4 100 (El (d)) := by rw [eri_4]; exact hrow (d) (by omega) (by omega)
                    refine x_aalg (f := xGf g) hx hb hK hP (28) (by decide) h28 (by omega) (by omega) (by decide) hG_ri_4 dX11_copy_99 ?_
                    refine lv_iload_n hx hb dX11_copy_100 rfl (lv_at hl 2 rfl) ?_
                    refine lv_aload_n hx hb dX11_copy_101 rfl (lv_at hl 0 rfl) ?_
                    refine x_get (C := RX11) (T := TX11) (N := 11) hx hb hts hin_X11 hown hK hP (0) (by decide) hx0 rfl 10 (by decide) hw_2 (fun _ h9 => h9) rfl dX11_copy_102 ?_
                    refine lv_iload_n hx hb dX11_copy_105 rfl (lv_at hl 3 rfl) ?_
                    obtain ⟨ri_5, eri_5⟩ : ∃ q : Nat, q = 29 + (e9).toNat := ⟨_, rfl⟩
                    have hG_ri_5 : xGf g (e9) = some (g.2.2 ri_5) := by rw [eri_5]
                    have hri_5 : MArr g σ.1 ri_5 100 (El (e9)) := by rw [eri_5]; exact hrow (e9) (by omega) (by omega)
                    refine x_aalg (f := xGf g) hx hb hK hP (28) (by decide) h28 (by omega) (by omega) (by decide) hG_ri_5 dX11_copy_106 ?_
                    refine lv_iload hx hb dX11_copy_107 (lv_at hl 4 rfl) ?_
                    refine lv_iload hx hb dX11_copy_109 (lv_at hl 5 rfl) ?_
                    refine x_acopy hx hb (hml.trans hl.1.symm) hown hw_3 hw_4 hw_5 hw_6 hK hP hD hS (ri_4) (ri_5) (by have hxN : xN = 51 := rfl; omega) (by have hxN : xN = 51 := rfl; omega) hri_4 hri_5 (by omega) (by omega) (by omega) (by omega) (by omega) (by decide) (by decide) (Nat.le_of_ble_eq_true rfl) (Nat.le_of_ble_eq_true rfl) dX11_copy_111 (fun M_6 H locs hnew hne hP hD hS => ?_)
                    obtain ⟨f_7, hf_7⟩ : ∃ q : Int → Int, q = zCpy ((El (d))) ((El (e9))) (i0) (j0) (n0) := ⟨_, rfl⟩
                    rw [← hf_7] at hnew
                    have hP : xP g (M_6, σ.2) H := hP
                    have hD : xD g A (M_6, σ.2) := hD
                    have hri_5 : M_6 (ri_5) = .inl (g.2.1 0, 100, .inl (fun k => iI (f_7 (k : Int)))) := hnew
                    have hx0 := (hne (0) (by omega)).trans hx0
                    have h25 := (hne (25) (by omega)).trans h25
                    have h26 := (hne (26) (by omega)).trans h26
                    have h27 := (hne (27) (by omega)).trans h27
                    have h28 := (hne (28) (by omega)).trans h28
                    have hfr := x_fr (F := fun j => j ≠ 29 + e9.toNat) hfr hne (fun j h => by have h : j ≠ 29 + e9.toNat := h; omega)
                    refine lv_iload hx hb dX11_copy_114 (lv_at hl 5 rfl) ?_
                    refine x_retQ hx hb hr (by omega) ?_ hP hD hS dX11_copy_116 hlocks
                    refine ⟨rfl, hfr, by (unfold zCopyR; rw [if_neg (by omega), if_neg (by omega), if_neg (by omega), if_neg (by omega)]), Or.inr ⟨by omega, ?_⟩⟩
                    rw [hf_7, eri_5] at hri_5
                    exact hri_5
                  · refine x_bipush (n := -13) hx hb (by decide +kernel) dX11_copy_91 ?_
                    refine x_retQ hx hb hr (by omega) ?_ hP hD hS dX11_copy_93 hlocks
                    exact ⟨rfl, hfr, by (unfold zCopyR; first | (rw [if_pos (by omega)]; done) | (rw [if_neg (by omega), if_pos (by omega)]; done) | (rw [if_neg (by omega), if_neg (by omega), if_pos (by omega)]; done) | (rw [if_neg (by omega), if_neg (by omega), if_neg (by omega), if_pos (by omega)]; done)), Or.inl ⟨by omega, rfl⟩⟩
            · refine x_bipush (n := -12) hx hb (by decide +kernel) dX11_copy_60 ?_
              refine x_retQ hx hb hr (by omega) ?_ hP hD hS dX11_copy_62 hlocks
              exact ⟨rfl, hfr, by (unfold zCopyR; first | (rw [if_pos (by omega)]; done) | (rw [if_neg (by omega), if_pos (by omega)]; done) | (rw [if_neg (by omega), if_neg (by omega), if_pos (by omega)]; done) | (rw [if_neg (by omega), if_neg (by omega), if_neg (by omega), if_pos (by omega)]; done)), Or.inl ⟨by omega, rfl⟩⟩
        · refine x_bipush (n := -11) hx hb (by decide +kernel) dX11_copy_32 ?_
          refine x_retQ hx hb hr (by omega) ?_ hP hD hS dX11_copy_34 hlocks
          exact ⟨rfl, hfr, by (unfold zCopyR; first | (rw [if_pos (by omega)]; done) | (rw [if_neg (by omega), if_pos (by omega)]; done) | (rw [if_neg (by omega), if_neg (by omega), if_pos (by omega)]; done) | (rw [if_neg (by omega), if_neg (by omega), if_neg (by omega), if_pos (by omega)]; done)), Or.inl ⟨by omega, rfl⟩⟩
    · refine x_iconst hx hb dX11_copy_14 ?_
      refine x_retQ hx hb hr (by omega) ?_ hP hD hS dX11_copy_15 hlocks
      exact ⟨rfl, hfr, by (unfold zCopyR; first | (rw [if_pos (by omega)]; done) | (rw [if_neg (by omega), if_pos (by omega)]; done) | (rw [if_neg (by omega), if_neg (by omega), if_pos (by omega)]; done) | (rw [if_neg (by omega), if_neg (by omega), if_neg (by omega), if_pos (by omega)]; done)), Or.inl ⟨by omega, rfl⟩⟩
