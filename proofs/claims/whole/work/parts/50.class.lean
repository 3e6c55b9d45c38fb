def zStrC (Kp So Sz : Int → Int) (El : Int → Int → Int) (S : Int → Int) (d : Int) : Int × (Int → Int) := if zRowR Kp So d 0 ≠ 0 then (zRowR Kp So d 0, S) else zStrG (zCc (El d) (Sz d)) (Sz d) S
theorem XsOk.grow {σ τ : xS} {Kf : Int → Option Nat} {So Sz : Int → Int} (h : XsOk σ Kf So Sz) (hg : xGrow σ τ) : XsOk τ Kf So Sz := ⟨h.1, h.2.1, fun i a e => (hg a (h.2.2.1 i a e)).1, h.2.2.2⟩

set_option maxHeartbeats 4000000 in
set_option maxRecDepth 100000 in
theorem c_X11_keep (l : Launch) (g : xG) (σ : xS) (A : Nat → Prop) (ph : Nat) (tk : Int) (hx0 : XObj g σ.1 ph tk) (hH : HsOk σ) (Kf : Int → Option Nat) (So Sz : Int → Int) (h25 : MRef g σ.1 25 8 Kf) (h26 : MArr g σ.1 26 8 So) (h27 : MArr g σ.1 27 8 Sz) (hxs : XsOk σ Kf So Sz) (d : Int) (hd : inR d) (wh : Int) (hwh : inR wh) (kd : Int) (hkd : inR kd) (fg : Int) (hfg : inR fg) : Met l yX11_keep wsX11_keep ({ frames := 5, cells := 1, slots := 1, locals := 160 }) (va_Pc [.ref (g.2.2 0), .int (iI (d)), .int (iI (wh)), .int (iI (kd)), .int (iI (fg))] (xPreQ g A σ)) (x_Qi g A (fun r σ1 => xGrow σ σ1 ∧ HsOk σ1 ∧ (∀ j, j ≠ 25 ∧ j ≠ 26 → σ1.1 j = σ.1 j) ∧ ((r = -1 ∧ ¬ zKeepOk d wh kd fg ∧ σ1 = σ) ∨ (r = 0 ∧ zKeepOk d wh kd fg ∧ MArr g σ1.1 26 8 (upI So d (-1)) ∧ ((wh = 0 ∧ σ1.2 = σ.2 ∧ MRef g σ1.1 25 8 (upI Kf d none)) ∨ (wh = 1 ∧ ∃ a, a ∉ σ.2.1 ∧ σ1.2 = (xBorn σ a kd.toNat fg).2 ∧ MRef g σ1.1 25 8 (upI Kf d (some a)))))))) (1) (1) A := by
  refine Met.ofW (cc := cX11_keep) (maxL := 5) (ret := (some .int)) (by decide) rfl ?_
  intro p e s m args below meth c s₁ B hml hv
  obtain ⟨rfl, hP, hK, hD, hA⟩ := hv
  have hx := B.exec
  have hb := B.bytes
  have hr := B.returns
  have hts := atoms_spec (ws := wsX11_keep) B.pre
  have hown : s.vm.findClass RX11 = some m.cls := findClass_of_methodNamed B.named
  have hlocks := B.notSynchronized
  have hS : va_S A s.heap s.heap [] := va_S.rf
  have hfr : ∀ j, (j ≠ 25 ∧ j ≠ 26) → σ.1 j = σ.1 j := fun _ _ => rfl
  have hl := lv_entry ([.ref (g.2.2 0), .int (iI (d)), .int (iI (wh)), .int (iI (kd)), .int (iI (fg))]) (n := 5) (Nat.le_of_ble_eq_true rfl)
  rw [lg_entry_eq]
  generalize (lg_sl ([.ref (g.2.2 0), .int (iI (d)), .int (iI (wh)), .int (iI (kd)), .int (iI (fg))]) ++ List.replicate (5 - (lg_sl ([.ref (g.2.2 0), .int (iI (d)), .int (iI (wh)), .int (iI (kd)), .int (iI (fg))])).length) Slot.unset).toArray = ls at hl ⊢
  have hl : lv_has ls 5 [(0, .ref (g.2.2 0)), (1, .int (iI (d))), (2, .int (iI (wh))), (3, .int (iI (kd))), (4, .int (iI (fg)))] := hl
  have hw_0 := hts (.fieldLink RX11 45 "TwiceAsRich" "kept" "[LTwiceAsRich$House;") (by decide +kernel)
  have hin_X11 : ∀ w ∈ wsX110, w ∈ wsX11_keep := by decide +kernel
  have hw_2 := hts (.fieldLink RX11 49 "TwiceAsRich" "sorts" "[I") (by decide +kernel)
  refine lv_iload_n hx hb dX11_keep_0 rfl (lv_at hl 1 rfl) ?_
  refine x_ci (va_runS (As := [.int (iI (d))]) (rest := []) ⟨hx, hb, hml, hown, hts⟩ (c_X11_isShelf l g σ  (d) (by omega)) (va_cwS 1 hts gX11_keep_X11_isShelf rfl rfl rfl (by decide +kernel) ⟨Nat.le_of_ble_eq_true rfl, Nat.le_of_ble_eq_true rfl⟩) (x_preS hK hP) rfl rfl hl.1 rfl (lv_room (Nat.le_of_ble_eq_true rfl)) dX11_keep_1 ⟨Nat.le_of_ble_eq_true rfl, Nat.le_of_ble_eq_true rfl⟩) (fun r_1 hr_1 qr_1 => ?_)
  replace qr_1 : (r_1 = 1 ∧ 0 ≤ (d) ∧ (d) ≤ 7) ∨ (r_1 = 0 ∧ ¬ (0 ≤ (d) ∧ (d) ≤ 7)) := qr_1
  refine x_if_eq (tgt := 16) hx hb (by omega) dX11_keep_4 (by decide) (fun c_4 => ?_) (fun c_4 => ?_)
  · refine x_iconst hx hb dX11_keep_16 ?_
    refine W.widen (k := 1) (n := 1) (by omega) (by omega) ?_
    refine x_retQ hx hb hr (by omega) ?_ hP hD hS dX11_keep_17 hlocks
    refine ⟨xGrow.rf rfl, hH, hfr, Or.inl ⟨rfl, ?_, rfl⟩⟩
    unfold zKeepOk; omega
  · refine lv_iload_n hx hb dX11_keep_7 rfl (lv_at hl 2 rfl) ?_
    refine x_if_lt (tgt := 16) hx hb (by omega) dX11_keep_8 (by decide) (fun c_8 => ?_) (fun c_8 => ?_)
    · refine x_iconst hx hb dX11_keep_16 ?_
      refine W.widen (k := 1) (n := 1) (by omega) (by omega) ?_
      refine x_retQ hx hb hr (by omega) ?_ hP hD hS dX11_keep_17 hlocks
      refine ⟨xGrow.rf rfl, hH, hfr, Or.inl ⟨rfl, ?_, rfl⟩⟩
      unfold zKeepOk; omega
    · refine lv_iload_n hx hb dX11_keep_11 rfl (lv_at hl 2 rfl) ?_
      refine x_iconst hx hb dX11_keep_12 ?_
      refine x_icmp_le (tgt := 18) hx hb (by omega) (by omega) dX11_keep_13 (by decide) (fun c_13 => ?_) (fun c_13 => ?_)
      · refine lv_iload_n hx hb dX11_keep_18 rfl (lv_at hl 2 rfl) ?_
        refine x_iconst hx hb dX11_keep_19 ?_
        refine x_icmp_ne (tgt := 34) hx hb (by omega) (by omega) dX11_keep_20 (by decide) (fun c_20 => ?_) (fun c_20 => ?_)
        · refine lv_aload_n hx hb dX11_keep_34 rfl (lv_at hl 0 rfl) ?_
          refine x_get (C := RX11) (T := TX11) (N := 11) hx hb hts hin_X11 hown hK hP (0) (by decide) hx0 rfl 7 (by decide) hw_0 (fun _ h9 => h9) rfl dX11_keep_35 ?_
          refine lv_iload_n hx hb dX11_keep_38 rfl (lv_at hl 1 rfl) ?_
          refine lv_iload_n hx hb dX11_keep_39 rfl (lv_at hl 2 rfl) ?_
          refine x_iconst hx hb dX11_keep_40 ?_
          refine x_icmp_ne (tgt := 53) hx hb (by omega) (by omega) dX11_keep_41 (by decide) (fun c_41 => ?_) (fun c_41 => ?_)
          · refine lv_null hx hb dX11_keep_53 ?_
            refine x_aastN (f := Kf) hx hb hK hP hD hS (25) (by decide) h25 (by omega) (by omega) (by decide) dX11_keep_54 (fun M_1 H locs hnew hne hP hD hS => ?_)
            obtain ⟨f_2, hf_2⟩ : ∃ q : Int → Option Nat, q = (upI Kf (d) (none)) := ⟨_, rfl⟩
            rw [← hf_2] at hnew
            have hP : xP g (M_1, σ.2) H := hP
            have hD : xD g A (M_1, σ.2) := hD
            have h25 : M_1 (25) = .inl (g.2.1 1, 8, .inr (.inr (.inr (.inr (fun k => f_2 (k : Int)))))) := hnew
            have hx0 := (hne (0) (by decide)).trans hx0
            have h26 := (hne (26) (by decide)).trans h26
            have h27 := (hne (27) (by decide)).trans h27
            have hfr := x_fr (F := fun j => j ≠ 25 ∧ j ≠ 26) hfr hne (fun j h => by have h : j ≠ 25 ∧ j ≠ 26 := h; omega)
            refine lv_aload_n hx hb dX11_keep_55 rfl (lv_at hl 0 rfl) ?_
            refine x_get (C := RX11) (T := TX11) (N := 11) hx hb hts hin_X11 hown hK hP (0) (by decide) hx0 rfl 8 (by decide) hw_2 (fun _ h9 => h9) rfl dX11_keep_56 ?_
            refine lv_iload_n hx hb dX11_keep_59 rfl (lv_at hl 1 rfl) ?_
            refine x_iconst hx hb dX11_keep_60 ?_
            refine x_iast (f := So) hx hb hK hP hD hS (26) (by decide) h26 (by omega) (by omega) (by decide) dX11_keep_61 (fun M_3 H locs hnew hne hP hD hS => ?_)
            obtain ⟨f_4, hf_4⟩ : ∃ q : Int → Int, q = (upI So (d) (-1)) := ⟨_, rfl⟩
            rw [← hf_4] at hnew
            have hP : xP g (M_3, σ.2) H := hP
            have hD : xD g A (M_3, σ.2) := hD
            have h26 : M_3 (26) = .inl (g.2.1 0, 8, .inl (fun k => iI (f_4 (k : Int)))) := hnew
            have hx0 := (hne (0) (by decide)).trans hx0
            have h25 := (hne (25) (by decide)).trans h25
            have h27 := (hne (27) (by decide)).trans h27
            have hfr := x_fr (F := fun j => j ≠ 25 ∧ j ≠ 26) hfr hne (fun j h => by have h : j ≠ 25 ∧ j ≠ 26 := h; omega)
            refine x_iconst hx hb dX11_keep_62 ?_
            refine W.widen (k := 1) (n := 1) (by omega) (by omega) ?_
            refine x_retQ hx hb hr (by omega) ?_ hP hD hS dX11_keep_63 hlocks
            refine ⟨xGrow.rf rfl, hH, fun j hj => hfr j hj, Or.inr ⟨rfl, ⟨by omega, by omega⟩, ?_, Or.inl ⟨by omega, rfl, ?_⟩⟩⟩
            · rw [← hf_4]; exact h26
            · rw [← hf_2]; exact h25
          · refine lv_iload_n hx hb dX11_keep_44 rfl (lv_at hl 3 rfl) ?_
            refine lv_iload hx hb dX11_keep_45 (lv_at hl 4 rfl) ?_
            refine x_cqr (mc := 1) (ms := 1) (va_runS (As := [.int (iI (kd)), .int (iI (fg))]) (rest := [.int (iI (d)), .ref (g.2.2 25)]) ⟨hx, hb, hml, hown, hts⟩ (c_X11_houseOfKind l g σ A (kd) (by omega) (fg)) (va_cwS 2 hts gX11_keep_X11_houseOfKind rfl rfl rfl (by decide +kernel) ⟨Nat.le_of_ble_eq_true rfl, Nat.le_of_ble_eq_true rfl⟩) (x_preSQ hK hP hD hS hA) rfl rfl hl.1 rfl (lv_room (Nat.le_of_ble_eq_true rfl)) dX11_keep_47 ⟨by decide, by decide⟩) hS (fun b9 τ H locs hpost hP hD hS => ?_)
            obtain ⟨hnew9, e9⟩ := hpost
            have hτ : τ = xBorn σ b9 (kd).toNat (fg) := e9
            have hτ1 : τ.1 = σ.1 := by rw [hτ]; rfl
            have hgr : xGrow σ τ := xGrow.born hnew9 (by rw [hτ])
            have hH : HsOk τ := hH.born (by rw [hτ]) (by omega) (by omega)
            have ha_b9 : b9 ∈ τ.2.1 := by (rw [hτ]; exact List.mem_append_right _ (List.mem_singleton.mpr rfl))
            have hx0 : XObj g τ.1 ph tk := by (unfold XObj; rw [hτ1]; exact hx0)
            rw [← hτ1] at h25
            rw [← hτ1] at h26
            rw [← hτ1] at h27
            have hfr : ∀ j, (j ≠ 25 ∧ j ≠ 26) → τ.1 j = τ.1 j := fun _ _ => rfl
            refine lv_goto (tgt := 54) hx hb dX11_keep_50 (by decide) ?_
            refine x_aast (f := Kf) hx hb hK hP hD hS (25) (by decide) h25 ha_b9 (by omega) (by omega) (by decide) dX11_keep_54 (fun M_5 H locs hnew hne hP hD hS => ?_)
            obtain ⟨f_6, hf_6⟩ : ∃ q : Int → Option Nat, q = (upI Kf (d) (some b9)) := ⟨_, rfl⟩
            rw [← hf_6] at hnew
            have hP : xP g (M_5, τ.2) H := hP
            have hD : xD g A (M_5, τ.2) := hD
            have h25 : M_5 (25) = .inl (g.2.1 1, 8, .inr (.inr (.inr (.inr (fun k => f_6 (k : Int)))))) := hnew
            have hx0 := (hne (0) (by decide)).trans hx0
            have h26 := (hne (26) (by decide)).trans h26
            have h27 := (hne (27) (by decide)).trans h27
            have hfr := x_fr (F := fun j => j ≠ 25 ∧ j ≠ 26) hfr hne (fun j h => by have h : j ≠ 25 ∧ j ≠ 26 := h; omega)
            refine lv_aload_n hx hb dX11_keep_55 rfl (lv_at hl 0 rfl) ?_
            refine x_get (C := RX11) (T := TX11) (N := 11) hx hb hts hin_X11 hown hK hP (0) (by decide) hx0 rfl 8 (by decide) hw_2 (fun _ h9 => h9) rfl dX11_keep_56 ?_
            refine lv_iload_n hx hb dX11_keep_59 rfl (lv_at hl 1 rfl) ?_
            refine x_iconst hx hb dX11_keep_60 ?_
            refine x_iast (f := So) hx hb hK hP hD hS (26) (by decide) h26 (by omega) (by omega) (by decide) dX11_keep_61 (fun M_7 H locs hnew hne hP hD hS => ?_)
            obtain ⟨f_8, hf_8⟩ : ∃ q : Int → Int, q = (upI So (d) (-1)) := ⟨_, rfl⟩
            rw [← hf_8] at hnew
            have hP : xP g (M_7, τ.2) H := hP
            have hD : xD g A (M_7, τ.2) := hD
            have h26 : M_7 (26) = .inl (g.2.1 0, 8, .inl (fun k => iI (f_8 (k : Int)))) := hnew
            have hx0 := (hne (0) (by decide)).trans hx0
            have h25 := (hne (25) (by decide)).trans h25
            have h27 := (hne (27) (by decide)).trans h27
            have hfr := x_fr (F := fun j => j ≠ 25 ∧ j ≠ 26) hfr hne (fun j h => by have h : j ≠ 25 ∧ j ≠ 26 := h; omega)
            refine x_iconst hx hb dX11_keep_62 ?_
            refine W.widen (k := 1) (n := 1) (by omega) (by omega) ?_
            refine x_retQ hx hb hr (by omega) ?_ hP hD hS dX11_keep_63 hlocks
            refine ⟨hgr, hH, fun j hj => (hfr j hj).trans (congrFun hτ1 j), Or.inr ⟨rfl, ⟨by omega, by omega⟩, ?_, Or.inr ⟨by omega, b9, hnew9, (by rw [hτ]), ?_⟩⟩⟩
            · rw [← hf_8]; exact h26
            · rw [← hf_6]; exact h25
        · refine lv_iload_n hx hb dX11_keep_23 rfl (lv_at hl 3 rfl) ?_
          refine lv_iload hx hb dX11_keep_24 (lv_at hl 4 rfl) ?_
          refine x_ci (va_runS (As := [.int (iI (kd)), .int (iI (fg))]) (rest := []) ⟨hx, hb, hml, hown, hts⟩ (c_X11_isHouse l g σ  (kd) (by omega) (fg) (by omega)) (va_cwS 2 hts gX11_keep_X11_isHouse rfl rfl rfl (by decide +kernel) ⟨Nat.le_of_ble_eq_true rfl, Nat.le_of_ble_eq_true rfl⟩) (x_preS hK hP) rfl rfl hl.1 rfl (lv_room (Nat.le_of_ble_eq_true rfl)) dX11_keep_26 ⟨Nat.le_of_ble_eq_true rfl, Nat.le_of_ble_eq_true rfl⟩) (fun r_26 hr_26 qr_26 => ?_)
          replace qr_26 : (r_26 = 1 ∧ (0 ≤ (kd) ∧ (kd) < 8) ∧ 0 ≤ (fg) ∧ (fg) ≤ 9) ∨ (r_26 = 0 ∧ ¬ ((0 ≤ (kd) ∧ (kd) < 8) ∧ 0 ≤ (fg) ∧ (fg) ≤ 9)) := qr_26
          refine x_if_ne (tgt := 34) hx hb (by omega) dX11_keep_29 (by decide) (fun c_29 => ?_) (fun c_29 => ?_)
          · refine lv_aload_n hx hb dX11_keep_34 rfl (lv_at hl 0 rfl) ?_
            refine x_get (C := RX11) (T := TX11) (N := 11) hx hb hts hin_X11 hown hK hP (0) (by decide) hx0 rfl 7 (by decide) hw_0 (fun _ h9 => h9) rfl dX11_keep_35 ?_
            refine lv_iload_n hx hb dX11_keep_38 rfl (lv_at hl 1 rfl) ?_
            refine lv_iload_n hx hb dX11_keep_39 rfl (lv_at hl 2 rfl) ?_
            refine x_iconst hx hb dX11_keep_40 ?_
            refine x_icmp_ne (tgt := 53) hx hb (by omega) (by omega) dX11_keep_41 (by decide) (fun c_41 => ?_) (fun c_41 => ?_)
            · refine lv_null hx hb dX11_keep_53 ?_
              refine x_aastN (f := Kf) hx hb hK hP hD hS (25) (by decide) h25 (by omega) (by omega) (by decide) dX11_keep_54 (fun M_9 H locs hnew hne hP hD hS => ?_)
              obtain ⟨f_10, hf_10⟩ : ∃ q : Int → Option Nat, q = (upI Kf (d) (none)) := ⟨_, rfl⟩
              rw [← hf_10] at hnew
              have hP : xP g (M_9, σ.2) H := hP
              have hD : xD g A (M_9, σ.2) := hD
              have h25 : M_9 (25) = .inl (g.2.1 1, 8, .inr (.inr (.inr (.inr (fun k => f_10 (k : Int)))))) := hnew
              have hx0 := (hne (0) (by decide)).trans hx0
              have h26 := (hne (26) (by decide)).trans h26
              have h27 := (hne (27) (by decide)).trans h27
              have hfr := x_fr (F := fun j => j ≠ 25 ∧ j ≠ 26) hfr hne (fun j h => by have h : j ≠ 25 ∧ j ≠ 26 := h; omega)
              refine lv_aload_n hx hb dX11_keep_55 rfl (lv_at hl 0 rfl) ?_
              refine x_get (C := RX11) (T := TX11) (N := 11) hx hb hts hin_X11 hown hK hP (0) (by decide) hx0 rfl 8 (by decide) hw_2 (fun _ h9 => h9) rfl dX11_keep_56 ?_
              refine lv_iload_n hx hb dX11_keep_59 rfl (lv_at hl 1 rfl) ?_
              refine x_iconst hx hb dX11_keep_60 ?_
              refine x_iast (f := So) hx hb hK hP hD hS (26) (by decide) h26 (by omega) (by omega) (by decide) dX11_keep_61 (fun M_11 H locs hnew hne hP hD hS => ?_)
              obtain ⟨f_12, hf_12⟩ : ∃ q : Int → Int, q = (upI So (d) (-1)) := ⟨_, rfl⟩
              rw [← hf_12] at hnew
              have hP : xP g (M_11, σ.2) H := hP
              have hD : xD g A (M_11, σ.2) := hD
              have h26 : M_11 (26) = .inl (g.2.1 0, 8, .inl (fun k => iI (f_12 (k : Int)))) := hnew
              have hx0 := (hne (0) (by decide)).trans hx0
              have h25 := (hne (25) (by decide)).trans h25
              have h27 := (hne (27) (by decide)).trans h27
              have hfr := x_fr (F := fun j => j ≠ 25 ∧ j ≠ 26) hfr hne (fun j h => by have h : j ≠ 25 ∧ j ≠ 26 := h; omega)
              refine x_iconst hx hb dX11_keep_62 ?_
              refine W.widen (k := 1) (n := 1) (by omega) (by omega) ?_
              refine x_retQ hx hb hr (by omega) ?_ hP hD hS dX11_keep_63 hlocks
              refine ⟨xGrow.rf rfl, hH, fun j hj => hfr j hj, Or.inr ⟨rfl, ⟨by omega, by omega⟩, ?_, Or.inl ⟨by omega, rfl, ?_⟩⟩⟩
              · rw [← hf_12]; exact h26
              · rw [← hf_10]; exact h25
            · refine lv_iload_n hx hb dX11_keep_44 rfl (lv_at hl 3 rfl) ?_
              refine lv_iload hx hb dX11_keep_45 (lv_at hl 4 rfl) ?_
              refine x_cqr (mc := 1) (ms := 1) (va_runS (As := [.int (iI (kd)), .int (iI (fg))]) (rest := [.int (iI (d)), .ref (g.2.2 25)]) ⟨hx, hb, hml, hown, hts⟩ (c_X11_houseOfKind l g σ A (kd) (by omega) (fg)) (va_cwS 2 hts gX11_keep_X11_houseOfKind rfl rfl rfl (by decide +kernel) ⟨Nat.le_of_ble_eq_true rfl, Nat.le_of_ble_eq_true rfl⟩) (x_preSQ hK hP hD hS hA) rfl rfl hl.1 rfl (lv_room (Nat.le_of_ble_eq_true rfl)) dX11_keep_47 ⟨by decide, by decide⟩) hS (fun b9 τ H locs hpost hP hD hS => ?_)
              obtain ⟨hnew9, e9⟩ := hpost
              have hτ : τ = xBorn σ b9 (kd).toNat (fg) := e9
              have hτ1 : τ.1 = σ.1 := by rw [hτ]; rfl
              have hgr : xGrow σ τ := xGrow.born hnew9 (by rw [hτ])
              have hH : HsOk τ := hH.born (by rw [hτ]) (by omega) (by omega)
              have ha_b9 : b9 ∈ τ.2.1 := by (rw [hτ]; exact List.mem_append_right _ (List.mem_singleton.mpr rfl))
              have hx0 : XObj g τ.1 ph tk := by (unfold XObj; rw [hτ1]; exact hx0)
              rw [← hτ1] at h25
              rw [← hτ1] at h26
              rw [← hτ1] at h27
              have hfr : ∀ j, (j ≠ 25 ∧ j ≠ 26) → τ.1 j = τ.1 j := fun _ _ => rfl
              refine lv_goto (tgt := 54) hx hb dX11_keep_50 (by decide) ?_
              refine x_aast (f := Kf) hx hb hK hP hD hS (25) (by decide) h25 ha_b9 (by omega) (by omega) (by decide) dX11_keep_54 (fun M_13 H locs hnew hne hP hD hS => ?_)
              obtain ⟨f_14, hf_14⟩ : ∃ q : Int → Option Nat, q = (upI Kf (d) (some b9)) := ⟨_, rfl⟩
              rw [← hf_14] at hnew
              have hP : xP g (M_13, τ.2) H := hP
              have hD : xD g A (M_13, τ.2) := hD
              have h25 : M_13 (25) = .inl (g.2.1 1, 8, .inr (.inr (.inr (.inr (fun k => f_14 (k : Int)))))) := hnew
              have hx0 := (hne (0) (by decide)).trans hx0
              have h26 := (hne (26) (by decide)).trans h26
              have h27 := (hne (27) (by decide)).trans h27
              have hfr := x_fr (F := fun j => j ≠ 25 ∧ j ≠ 26) hfr hne (fun j h => by have h : j ≠ 25 ∧ j ≠ 26 := h; omega)
              refine lv_aload_n hx hb dX11_keep_55 rfl (lv_at hl 0 rfl) ?_
              refine x_get (C := RX11) (T := TX11) (N := 11) hx hb hts hin_X11 hown hK hP (0) (by decide) hx0 rfl 8 (by decide) hw_2 (fun _ h9 => h9) rfl dX11_keep_56 ?_
              refine lv_iload_n hx hb dX11_keep_59 rfl (lv_at hl 1 rfl) ?_
              refine x_iconst hx hb dX11_keep_60 ?_
              refine x_iast (f := So) hx hb hK hP hD hS (26) (by decide) h26 (by omega) (by omega) (by decide) dX11_keep_61 (fun M_15 H locs hnew hne hP hD hS => ?_)
              obtain ⟨f_16, hf_16⟩ : ∃ q : Int → Int, q = (upI So (d) (-1)) := ⟨_, rfl⟩
              rw [← hf_16] at hnew
              have hP : xP g (M_15, τ.2) H := hP
              have hD : xD g A (M_15, τ.2) := hD
              have h26 : M_15 (26) = .inl (g.2.1 0, 8, .inl (fun k => iI (f_16 (k : Int)))) := hnew
              have hx0 := (hne (0) (by decide)).trans hx0
              have h25 := (hne (25) (by decide)).trans h25
              have h27 := (hne (27) (by decide)).trans h27
              have hfr := x_fr (F := fun j => j ≠ 25 ∧ j ≠ 26) hfr hne (fun j h => by have h : j ≠ 25 ∧ j ≠ 26 := h; omega)
              refine x_iconst hx hb dX11_keep_62 ?_
              refine W.widen (k := 1) (n := 1) (by omega) (by omega) ?_
              refine x_retQ hx hb hr (by omega) ?_ hP hD hS dX11_keep_63 hlocks
              refine ⟨hgr, hH, fun j hj => (hfr j hj).trans (congrFun hτ1 j), Or.inr ⟨rfl, ⟨by omega, by omega⟩, ?_, Or.inr ⟨by omega, b9, hnew9, (by rw [hτ]), ?_⟩⟩⟩
              · rw [← hf_16]; exact h26
              · rw [← hf_14]; exact h25
          · refine x_iconst hx hb dX11_keep_32 ?_
            refine W.widen (k := 1) (n := 1) (by omega) (by omega) ?_
            refine x_retQ hx hb hr (by omega) ?_ hP hD hS dX11_keep_33 hlocks
            refine ⟨xGrow.rf rfl, hH, hfr, Or.inl ⟨rfl, ?_, rfl⟩⟩
            unfold zKeepOk; omega
      · refine x_iconst hx hb dX11_keep_16 ?_
        refine W.widen (k := 1) (n := 1) (by omega) (by omega) ?_
        refine x_retQ hx hb hr (by omega) ?_ hP hD hS dX11_keep_17 hlocks
        refine ⟨xGrow.rf rfl, hH, hfr, Or.inl ⟨rfl, ?_, rfl⟩⟩
        unfold zKeepOk; omega

set_option maxHeartbeats 4000000 in
set_option maxRecDepth 100000 in
theorem c_X11_street (l : Launch) (g : xG) (σ : xS) (A : Nat → Prop) (ph : Nat) (tk : Int) (hx0 : XObj g σ.1 ph tk) (n rd : Int) (P : Int → Int) (G : Int → Option Nat) (hst : StAt g σ.1 1 n rd P G) (hok : StOk σ n rd P G) (hH : HsOk σ) (nm rm : Int) (Pm : Int → Int) (Gm : Int → Option Nat) (hsm9 : StAt g σ.1 7 nm rm Pm Gm) (hom : StOk σ nm rm Pm Gm) (Kf : Int → Option Nat) (So Sz : Int → Int) (h25 : MRef g σ.1 25 8 Kf) (h26 : MArr g σ.1 26 8 So) (h27 : MArr g σ.1 27 8 Sz) (hxs : XsOk σ Kf So Sz) (El : Int → Int → Int) (h28 : MGrid g σ.1) (hrow : ∀ d, 0 ≤ d → d ≤ 7 → MArr g σ.1 (29 + d.toNat) 100 (El d)) (hEl : ∀ d k, inR (El d k)) (bi0 : Nat) (sz0 dn0 : Int) (ht0 : TObj g σ.1 bi0 sz0 dn0) (h8 : n ≤ 8) (S : Int → Int) (hsm : xSame σ n rd P G S) (d : Int) (hd : inR d) : Met l yX11_street wsX11_street ({ frames := 8, cells := 60, slots := 60, locals := 256 }) (va_Pc [.ref (g.2.2 0), .int (iI (d))] (xnQ g A σ)) (x_Qi g A (fun r σ1 => (∀ j, (j ≠ 1 ∧ j ≠ 2 ∧ j ≠ 3 ∧ j ≠ 7 ∧ j ≠ 8 ∧ j ≠ 9 ∧ j ≠ 23) → σ1.1 j = σ.1 j) ∧ xGrow σ σ1 ∧ HsOk σ1 ∧ (∃ b1 z1 d1, TObj g σ1.1 b1 z1 d1) ∧ xStr g σ1.1 σ1 7 ∧ r = (zStrC (xKp Kf So) So Sz El S d).1 ∧ ∃ n1 rd1 P1 G1, StAt g σ1.1 1 n1 rd1 P1 G1 ∧ StOk σ1 n1 rd1 P1 G1 ∧ n1 ≤ 8 ∧ xSame σ1 n1 rd1 P1 G1 (zStrC (xKp Kf So) So Sz El S d).2)) (60) (60) A := by
  refine Met.ofW (cc := cX11_street) (maxL := 5) (ret := (some .int)) (by decide) rfl ?_
  intro p e s m args below meth c s₁ B hml hv
  obtain ⟨rfl, ⟨hP, hK, hD, hA⟩, hN⟩ := hv
  have hx := B.exec
  have hb := B.bytes
  have hr := B.returns
  have hts := atoms_spec (ws := wsX11_street) B.pre
  have hown : s.vm.findClass RX11 = some m.cls := findClass_of_methodNamed B.named
  have hlocks := B.notSynchronized
  have hS : va_S A s.heap s.heap [] := va_S.rf
  have hfr : ∀ j, (j ≠ 1 ∧ j ≠ 2 ∧ j ≠ 3 ∧ j ≠ 7 ∧ j ≠ 8 ∧ j ≠ 9 ∧ j ≠ 23) → σ.1 j = σ.1 j := fun _ _ => rfl
  have hl := lv_entry ([.ref (g.2.2 0), .int (iI (d))]) (n := 5) (Nat.le_of_ble_eq_true rfl)
  rw [lg_entry_eq]
  generalize (lg_sl ([.ref (g.2.2 0), .int (iI (d))]) ++ List.replicate (5 - (lg_sl ([.ref (g.2.2 0), .int (iI (d))])).length) Slot.unset).toArray = ls at hl ⊢
  have hl : lv_has ls 5 [(0, .ref (g.2.2 0)), (1, .int (iI (d)))] := hl
  have hm0 : σ.1 1 = .inr (7, [.ref (g.2.2 2), .ref (g.2.2 3), .int (iI n), .int (iI rd)]) := hst.1
  have hm1 : MRef g σ.1 2 9 G := hst.2.1
  have hm2 : MArr g σ.1 3 9 P := hst.2.2
  have hok1 := hok.1
  have hok2 := hok.2.1
  have hok3 := hok.2.2.1
  have hqm0 : σ.1 7 = .inr (7, [.ref (g.2.2 8), .ref (g.2.2 9), .int (iI nm), .int (iI rm)]) := hsm9.1
  have hqm1 : MRef g σ.1 8 9 Gm := hsm9.2.1
  have hqm2 : MArr g σ.1 9 9 Pm := hsm9.2.2
  have hom1 := hom.1
  have hom2 := hom.2.1
  have hom3 := hom.2.2.1
  have hw_0 := hts (.fieldLink RX11 41 "TwiceAsRich" "text" "LTwiceAsRich$StreetText;") (by decide +kernel)
  have hin_X11 : ∀ w ∈ wsX110, w ∈ wsX11_street := by decide +kernel
  have hw_2 := hts (.fieldLink RX11 58 "TwiceAsRich" "rows" "[[I") (by decide +kernel)
  have hw_3 := hts (.fieldLink RX11 53 "TwiceAsRich" "sizes" "[I") (by decide +kernel)
  have hw_4 := hts (.fieldLink RX11 19 "TwiceAsRich" "mind" "LTwiceAsRich$Street;") (by decide +kernel)
  have hw_5 := hts (.fieldLink RX11 10 "TwiceAsRich" "street" "LTwiceAsRich$Street;") (by decide +kernel)
  refine lv_aload_n hx hb dX11_street_0 rfl (lv_at hl 0 rfl) ?_
  refine lv_iload_n hx hb dX11_street_1 rfl (lv_at hl 1 rfl) ?_
  refine x_iconst hx hb dX11_street_2 ?_
  refine x_ci (va_runV (As := [.int (iI (d)), .int (iI (0))]) (rest := []) ⟨hx, hb, hml, hown, hts⟩ (c_X11_sortRefusal l g σ ph tk hx0 Kf So Sz h25 h26 h27 hxs (d) (by omega) (0) (by omega)) (cwV 2 hts gX11_street_X11_sortRefusal rfl rfl rfl (by decide +kernel) ⟨Nat.le_of_ble_eq_true rfl, Nat.le_of_ble_eq_true rfl⟩) (x_preV hK hP (x_recv hK hP (i := 0) (by decide) hx0 rfl)) rfl rfl hl.1 rfl (lv_room (Nat.le_of_ble_eq_true rfl)) dX11_street_3 ⟨Nat.le_of_ble_eq_true rfl, Nat.le_of_ble_eq_true rfl⟩) (fun r_3 hr_3 qr_3 => ?_)
  replace qr_3 : r_3 = zRowR (xKp Kf So) So (d) (0) := qr_3
  refine lv_istore_n (lv' := [(2, .int (iI (r_3))), (0, .ref (g.2.2 0)), (1, .int (iI (d)))]) hx hb dX11_street_6 rfl hl (by decide) rfl (fun ls hl => ?_)
  refine lv_iload_n hx hb dX11_street_7 rfl (lv_at hl 0 rfl) ?_
  refine x_if_eq (tgt := 13) hx hb (by omega) dX11_street_8 (by decide) (fun c_8 => ?_) (fun c_8 => ?_)
  · have hk0 := zRowR_0 qr_3 (by omega)
    have hk9 := xKp_so hxs (d := d) (by omega) (by omega)
    have hSz : 0 ≤ Sz d ∧ Sz d ≤ 100 := by omega
    refine lv_aload_n hx hb dX11_street_13 rfl (lv_at hl 1 rfl) ?_
    refine x_get (C := RX11) (T := TX11) (N := 11) hx hb hts hin_X11 hown hK hP (0) (by decide) hx0 rfl 6 (by decide) hw_0 (fun _ h9 => h9) rfl dX11_street_14 ?_
    refine lv_aload_n hx hb dX11_street_17 rfl (lv_at hl 1 rfl) ?_
    refine x_get (C := RX11) (T := TX11) (N := 11) hx hb hts hin_X11 hown hK hP (0) (by decide) hx0 rfl 10 (by decide) hw_2 (fun _ h9 => h9) rfl dX11_street_18 ?_
    refine lv_iload_n hx hb dX11_street_21 rfl (lv_at hl 2 rfl) ?_
    obtain ⟨bi, ebi⟩ : ∃ q : Nat, q = 29 + d.toNat := ⟨_, rfl⟩
    obtain ⟨Bf, eBf⟩ : ∃ q : Int → Int, q = El d := ⟨_, rfl⟩
    have hbf : MArr g σ.1 bi 100 Bf := by (rw [ebi, eBf]; exact hrow d (by omega) (by omega))
    have hBr : ∀ k, inR (Bf k) := by (rw [eBf]; exact hEl d)
    have hbi : bi < xN := by (have hxN : xN = 51 := rfl; omega)
    have hb7 : bi ≠ 7 ∧ bi ≠ 8 ∧ bi ≠ 9 := by omega
    have hb23 : bi ≠ 23 := by omega
    have hb29 : 29 ≤ bi := by omega
    have hGbi : xGf g (d) = some (g.2.2 bi) := by rw [ebi]
    refine x_aalg (f := xGf g) hx hb hK hP (28) (by decide) h28 (by omega) (by omega) (by decide) hGbi dX11_street_22 ?_
    refine lv_aload_n hx hb dX11_street_23 rfl (lv_at hl 1 rfl) ?_
    refine x_get (C := RX11) (T := TX11) (N := 11) hx hb hts hin_X11 hown hK hP (0) (by decide) hx0 rfl 9 (by decide) hw_3 (fun _ h9 => h9) rfl dX11_street_24 ?_
    refine lv_iload_n hx hb dX11_street_27 rfl (lv_at hl 2 rfl) ?_
    refine x_iald (f := Sz) hx hb hK hP (27) (by decide) h27 (by omega) (by omega) (by decide) dX11_street_28 ?_
    have hb_1 := hxs.2.1 (d)
    refine x_cqv0 (va_runV (As := [.ref (g.2.2 (bi)), .int (iI (Sz (d)))]) (rest := []) ⟨hx, hb, hml, hown, hts⟩ (c_X8_open l g σ A bi0 (sz0) (dn0) ht0 bi hbi hb23 Bf hbf (Sz (d)) (by omega)) (cwV 2 hts gX11_street_X8_open rfl rfl rfl (by decide +kernel) ⟨Nat.le_of_ble_eq_true rfl, Nat.le_of_ble_eq_true rfl⟩) (x_preVQ hK hP hD hS hA (x_recv hK hP (i := 23) (by decide) ht0 rfl)) rfl rfl hl.1 rfl (lv_room (Nat.le_of_ble_eq_true rfl)) dX11_street_29 ⟨by decide, by decide⟩) hS (fun σ1 H locs hpost hP hD hS => ?_)
    obtain ⟨M_2, p1⟩ := σ1
    obtain ⟨hp0, hfrc, hn23⟩ := hpost
    obtain rfl : p1 = σ.2 := hp0
    have hP : xP g (M_2, σ.2) H := hP
    have hD : xD g A (M_2, σ.2) := hD
    have hx0 : XObj g M_2 ph tk := (hfrc (0) (by omega)).trans hx0
    have hm0 := (hfrc (1) (by omega)).trans hm0
    have hm1 := (hfrc (2) (by omega)).trans hm1
    have hm2 := (hfrc (3) (by omega)).trans hm2
    have hqm0 := (hfrc (7) (by omega)).trans hqm0
    have hqm1 := (hfrc (8) (by omega)).trans hqm1
    have hqm2 := (hfrc (9) (by omega)).trans hqm2
    have h25 := (hfrc (25) (by omega)).trans h25
    have h26 := (hfrc (26) (by omega)).trans h26
    have h27 := (hfrc (27) (by omega)).trans h27
    have h28 := (hfrc (28) (by omega)).trans h28
    have hbf := (hfrc (bi) (by (clear ebi; omega))).trans hbf
    have hfr := x_frc (F := fun j => j ≠ 1 ∧ j ≠ 2 ∧ j ≠ 3 ∧ j ≠ 7 ∧ j ≠ 8 ∧ j ≠ 9 ∧ j ≠ 23) hfr hfrc (fun j h => by have h : j ≠ 1 ∧ j ≠ 2 ∧ j ≠ 3 ∧ j ≠ 7 ∧ j ≠ 8 ∧ j ≠ 9 ∧ j ≠ 23 := h; omega)
    have ht0 : TObj g M_2 bi (Sz (d)) 0 := hn23
    have hsz : 0 ≤ Sz (d) ∧ Sz (d) ≤ 100 := by omega
    refine lv_aload_n hx hb dX11_street_32 rfl (lv_at hl 1 rfl) ?_
    refine x_get (C := RX11) (T := TX11) (N := 11) hx hb hts hin_X11 hown hK hP (0) (by decide) hx0 rfl 6 (by decide) hw_0 (fun _ h9 => h9) rfl dX11_street_33 ?_
    refine x_ci (va_runV (As := []) (rest := []) ⟨hx, hb, hml, hown, hts⟩ (c_X8_brokenPlace l g (M_2, σ.2) bi hbi (Sz (d)) (0) ht0 Bf hbf hsz hBr) (cwV 0 hts gX11_street_X8_brokenPlace rfl rfl rfl (by decide +kernel) ⟨Nat.le_of_ble_eq_true rfl, Nat.le_of_ble_eq_true rfl⟩) (x_preV hK hP (x_recv hK hP (i := 23) (by decide) ht0 rfl)) rfl rfl hl.1 rfl (lv_room (Nat.le_of_ble_eq_true rfl)) dX11_street_36 ⟨Nat.le_of_ble_eq_true rfl, Nat.le_of_ble_eq_true rfl⟩) (fun r_36 hr_36 qr_36 => ?_)
    replace qr_36 : r_36 = (zScan (zCc Bf (Sz (d))) (Sz (d)) 101 0 0).1 ∧ r_36 ≤ 200 ∧ -1 ≤ r_36 := qr_36
    refine lv_istore_n (lv' := [(3, .int (iI (r_36))), (2, .int (iI (r_3))), (0, .ref (g.2.2 0)), (1, .int (iI (d)))]) hx hb dX11_street_39 rfl hl (by decide) rfl (fun ls hl => ?_)
    refine lv_iload_n hx hb dX11_street_40 rfl (lv_at hl 0 rfl) ?_
    refine x_if_lt (tgt := 50) hx hb (by omega) dX11_street_41 (by decide) (fun c_41 => ?_) (fun c_41 => ?_)
    · refine lv_aload_n hx hb dX11_street_50 rfl (lv_at hl 2 rfl) ?_
      refine x_get (C := RX11) (T := TX11) (N := 11) hx hb hts hin_X11 hown hK hP (0) (by decide) hx0 rfl 3 (by decide) hw_4 (fun _ h9 => h9) rfl dX11_street_51 ?_
      refine lv_aload_n hx hb dX11_street_54 rfl (lv_at hl 2 rfl) ?_
      refine x_get (C := RX11) (T := TX11) (N := 11) hx hb hts hin_X11 hown hK hP (0) (by decide) hx0 rfl 0 (by decide) hw_5 (fun _ h9 => h9) rfl dX11_street_55 ?_
      refine x_cqv0 (va_runV (As := [.ref (g.2.2 1)]) (rest := []) ⟨hx, hb, hml, hown, hts⟩ (c_X7_become l g (M_2, σ.2) A (7) (by decide) (nm) (rm) Pm Gm ⟨hqm0, hqm1, hqm2⟩ hom hH (1) (by decide) (by decide) (n) (rd) P G ⟨hm0, hm1, hm2⟩ hok) (cwV 1 hts gX11_street_X7_become rfl rfl rfl (by decide +kernel) ⟨Nat.le_of_ble_eq_true rfl, Nat.le_of_ble_eq_true rfl⟩) (x_preVQ hK hP hD hS hA (x_recv hK hP (i := 7) (by decide) hqm0 rfl)) rfl rfl hl.1 rfl (lv_room (Nat.le_of_ble_eq_true rfl)) dX11_street_58 ⟨by decide, by decide⟩) hS (fun σ1 H locs hpost hP hD hS => ?_)
      obtain ⟨M_3, p1⟩ := σ1
      obtain ⟨hp0, hfrc, hnst⟩ := hpost
      obtain rfl : p1 = σ.2 := hp0
      have hP : xP g (M_3, σ.2) H := hP
      have hD : xD g A (M_3, σ.2) := hD
      have hx0 := (hfrc (0) (by omega)).trans hx0
      have hm0 := (hfrc (1) (by omega)).trans hm0
      have hm1 := (hfrc (2) (by omega)).trans hm1
      have hm2 := (hfrc (3) (by omega)).trans hm2
      have h25 := (hfrc (25) (by omega)).trans h25
      have h26 := (hfrc (26) (by omega)).trans h26
      have h27 := (hfrc (27) (by omega)).trans h27
      have h28 := (hfrc (28) (by omega)).trans h28
      have ht0 := (hfrc (23) (by omega)).trans ht0
      have hbf := (hfrc (bi) (by (clear ebi; omega))).trans hbf
      have hfr := x_frc (F := fun j => j ≠ 1 ∧ j ≠ 2 ∧ j ≠ 3 ∧ j ≠ 7 ∧ j ≠ 8 ∧ j ≠ 9 ∧ j ≠ 23) hfr hfrc (fun j h => by have h : j ≠ 1 ∧ j ≠ 2 ∧ j ≠ 3 ∧ j ≠ 7 ∧ j ≠ 8 ∧ j ≠ 9 ∧ j ≠ 23 := h; omega)
      obtain ⟨Pn_4, hPn_4⟩ : ∃ q : Int → Int, q = zCopy P Pm 9 := ⟨_, rfl⟩
      obtain ⟨Gn_5, hGn_5⟩ : ∃ q : Int → Option Nat, q = zCopy G Gm 9 := ⟨_, rfl⟩
      have ost_6 : StOk σ (n) (rd) Pn_4 Gn_5 := by rw [hPn_4, hGn_5]; exact StOk_become hom hok
      rw [← hPn_4, ← hGn_5] at hnst
      have hqm0 : M_3 (7) = .inr (7, [.ref (g.2.2 8), .ref (g.2.2 9), .int (iI (n)), .int (iI (rd))]) := hnst.1
      have hqm1 : MRef g M_3 8 9 Gn_5 := hnst.2.1
      have hqm2 : MArr g M_3 9 9 Pn_4 := hnst.2.2
      have hsm7 : xSame σ n rd Pn_4 Gn_5 S := by (obtain ⟨y1, y2, y3⟩ := hsm; refine ⟨y1, y2, fun j a b => ?_⟩; have z9 := zSame_copy (σ := σ) (G := G) (Gm := Gm) (P := P) (Pm := Pm) (n := n) (by omega) j a b; rw [hGn_5, hPn_4]; exact ⟨z9.1.trans (y3 j a b).1, z9.2.1.trans (y3 j a b).2.1, z9.2.2.trans (y3 j a b).2.2⟩)
      have hscan : (zScan (zCc Bf (Sz (d))) (Sz (d)) 101 0 0).1 = -1 := by omega
      have hok0 := hok
      have hzc : zStrC (xKp Kf So) So Sz El S d = zStrG (zCc Bf (Sz (d))) (Sz (d)) S := by (unfold zStrC; rw [if_neg (by omega), eBf])
      refine lv_aload_n hx hb dX11_street_61 rfl (lv_at hl 2 rfl) ?_
      refine x_get (C := RX11) (T := TX11) (N := 11) hx hb hts hin_X11 hown hK hP (0) (by decide) hx0 rfl 6 (by decide) hw_0 (fun _ h9 => h9) rfl dX11_street_62 ?_
      refine lv_aload_n hx hb dX11_street_65 rfl (lv_at hl 2 rfl) ?_
      refine x_get (C := RX11) (T := TX11) (N := 11) hx hb hts hin_X11 hown hK hP (0) (by decide) hx0 rfl 3 (by decide) hw_4 (fun _ h9 => h9) rfl dX11_street_66 ?_
      refine x_cqi (mc := 60) (ms := 60) (va_runV (As := [.ref (g.2.2 7)]) (rest := []) ⟨hx, hb, hml, hown, hts⟩ (c_X8_wrongPlace l g (M_3, σ.2) A bi hbi (Sz (d)) ht0 Bf hbf hsz hBr hb7 hb23 (n) (rd) Pn_4 Gn_5 ⟨hqm0, hqm1, hqm2⟩ ost_6 hH h8 S hsm7 hscan) (cwV 1 hts gX11_street_X8_wrongPlace rfl rfl rfl (by decide +kernel) ⟨Nat.le_of_ble_eq_true rfl, Nat.le_of_ble_eq_true rfl⟩) (xn_preV hK hP hD hS hA hN (x_recv hK hP (i := 23) (by decide) ht0 rfl)) rfl rfl hl.1 rfl (lv_room (Nat.le_of_ble_eq_true rfl)) dX11_street_69 ⟨by decide, by decide⟩) hS (fun r_69 τ H locs hr_69 hpost hP hD hS => ?_)
      obtain ⟨hpf, hgr, hH, dn2, ht0, hdn2, hpost⟩ := hpost
      have hgr : xGrow σ τ := hgr
      have hx0 : XObj g τ.1 ph tk := (hpf (0) (by omega)).trans hx0
      have hm0 := (hpf (1) (by omega)).trans hm0
      have hm1 := (hpf (2) (by omega)).trans hm1
      have hm2 := (hpf (3) (by omega)).trans hm2
      have h25 := (hpf (25) (by omega)).trans h25
      have h26 := (hpf (26) (by omega)).trans h26
      have h27 := (hpf (27) (by omega)).trans h27
      have h28 := (hpf (28) (by omega)).trans h28
      have hbf := (hpf (bi) (by (clear ebi; omega))).trans hbf
      have hok : StOk τ n rd P G := hok.grow hgr
      have hsm : xSame τ n rd P G S := hsm.grow hok0 hgr
      have hfr0 : ∀ j, (j ≠ 1 ∧ j ≠ 2 ∧ j ≠ 3 ∧ j ≠ 7 ∧ j ≠ 8 ∧ j ≠ 9 ∧ j ≠ 23) → τ.1 j = σ.1 j := fun j hj => (hpf j (by omega)).trans (hfr j hj)
      have hfr : ∀ j, (j ≠ 1 ∧ j ≠ 2 ∧ j ≠ 3 ∧ j ≠ 7 ∧ j ≠ 8 ∧ j ≠ 9 ∧ j ≠ 23) → τ.1 j = τ.1 j := fun _ _ => rfl
      refine lv_istore (lv' := [(4, .int (iI (r_69))), (3, .int (iI (r_36))), (2, .int (iI (r_3))), (0, .ref (g.2.2 0)), (1, .int (iI (d)))]) hx hb dX11_street_72 hl (by decide) rfl (fun ls hl => ?_)
      refine lv_iload hx hb dX11_street_74 (lv_at hl 0 rfl) ?_
      refine x_if_lt (tgt := 86) hx hb (by omega) dX11_street_76 (by decide) (fun c_76 => ?_) (fun c_76 => ?_)
      · obtain ⟨hp1, hp2, hp3, n2, rd2, P2, G2, hst2, hok2, h82, hsm2⟩ : r_69 = -1 ∧ (zDo (zCc Bf (Sz (d))) (Sz (d)) 101 0 S).1 = -1 ∧ dn2 = (zScan (zCc Bf (Sz (d))) (Sz (d)) 101 0 0).2 ∧ ∃ n2 rd2 P2 G2, StAt g τ.1 7 n2 rd2 P2 G2 ∧ StOk τ n2 rd2 P2 G2 ∧ n2 ≤ 8 ∧ xSame τ n2 rd2 P2 G2 (zDo (zCc Bf (Sz (d))) (Sz (d)) 101 0 S).2 := by (rcases hpost with q | q; exact q; exfalso; omega)
        have hqm0 : τ.1 7 = .inr (7, [.ref (g.2.2 8), .ref (g.2.2 9), .int (iI n2), .int (iI rd2)]) := hst2.1
        have hqm1 : MRef g τ.1 8 9 G2 := hst2.2.1
        have hqm2 : MArr g τ.1 9 9 P2 := hst2.2.2
        refine lv_aload_n hx hb dX11_street_86 rfl (lv_at hl 3 rfl) ?_
        refine x_get (C := RX11) (T := TX11) (N := 11) hx hb hts hin_X11 hown hK hP (0) (by decide) hx0 rfl 0 (by decide) hw_5 (fun _ h9 => h9) rfl dX11_street_87 ?_
        refine lv_aload_n hx hb dX11_street_90 rfl (lv_at hl 3 rfl) ?_
        refine x_get (C := RX11) (T := TX11) (N := 11) hx hb hts hin_X11 hown hK hP (0) (by decide) hx0 rfl 3 (by decide) hw_4 (fun _ h9 => h9) rfl dX11_street_91 ?_
        refine x_cqv0 (va_runV (As := [.ref (g.2.2 7)]) (rest := []) ⟨hx, hb, hml, hown, hts⟩ (c_X7_become l g τ A (1) (by decide) (n) (rd) P G ⟨hm0, hm1, hm2⟩ hok hH (7) (by decide) (by decide) (n2) (rd2) P2 G2 ⟨hqm0, hqm1, hqm2⟩ hok2) (cwV 1 hts gX11_street_X7_become rfl rfl rfl (by decide +kernel) ⟨Nat.le_of_ble_eq_true rfl, Nat.le_of_ble_eq_true rfl⟩) (x_preVQ hK hP hD hS hA (x_recv hK hP (i := 1) (by decide) hm0 rfl)) rfl rfl hl.1 rfl (lv_room (Nat.le_of_ble_eq_true rfl)) dX11_street_94 ⟨by decide, by decide⟩) hS (fun τ1 H locs hpost hP hD hS => ?_)
        obtain ⟨M_7, p1⟩ := τ1
        obtain ⟨hp0, hfrc, hnst⟩ := hpost
        obtain rfl : p1 = τ.2 := hp0
        have hP : xP g (M_7, τ.2) H := hP
        have hD : xD g A (M_7, τ.2) := hD
        have hx0 := (hfrc (0) (by omega)).trans hx0
        have h25 := (hfrc (25) (by omega)).trans h25
        have h26 := (hfrc (26) (by omega)).trans h26
        have h27 := (hfrc (27) (by omega)).trans h27
        have h28 := (hfrc (28) (by omega)).trans h28
        have ht0 := (hfrc (23) (by omega)).trans ht0
        have hbf := (hfrc (bi) (by (clear ebi; omega))).trans hbf
        have hqm0 := (hfrc (7) (by omega)).trans hqm0
        have hqm1 := (hfrc (8) (by omega)).trans hqm1
        have hqm2 := (hfrc (9) (by omega)).trans hqm2
        have hfr := x_frc (F := fun j => j ≠ 1 ∧ j ≠ 2 ∧ j ≠ 3 ∧ j ≠ 7 ∧ j ≠ 8 ∧ j ≠ 9 ∧ j ≠ 23) hfr hfrc (fun j h => by have h : j ≠ 1 ∧ j ≠ 2 ∧ j ≠ 3 ∧ j ≠ 7 ∧ j ≠ 8 ∧ j ≠ 9 ∧ j ≠ 23 := h; omega)
        obtain ⟨Pn_8, hPn_8⟩ : ∃ q : Int → Int, q = zCopy P2 P 9 := ⟨_, rfl⟩
        obtain ⟨Gn_9, hGn_9⟩ : ∃ q : Int → Option Nat, q = zCopy G2 G 9 := ⟨_, rfl⟩
        have ost_10 : StOk τ (n2) (rd2) Pn_8 Gn_9 := by rw [hPn_8, hGn_9]; exact StOk_become hok hok2
        rw [← hPn_8, ← hGn_9] at hnst
        have hm0 : M_7 (1) = .inr (7, [.ref (g.2.2 2), .ref (g.2.2 3), .int (iI (n2)), .int (iI (rd2))]) := hnst.1
        have hm1 : MRef g M_7 2 9 Gn_9 := hnst.2.1
        have hm2 : MArr g M_7 3 9 Pn_8 := hnst.2.2
        refine lv_aload_n hx hb dX11_street_97 rfl (lv_at hl 3 rfl) ?_
        refine x_get (C := RX11) (T := TX11) (N := 11) hx hb hts hin_X11 hown hK hP (0) (by decide) hx0 rfl 6 (by decide) hw_0 (fun _ h9 => h9) rfl dX11_street_98 ?_
        refine x_ci (va_runV (As := []) (rest := []) ⟨hx, hb, hml, hown, hts⟩ (c_X8_statements l g (M_7, τ.2) bi hbi (Sz (d)) (dn2) ht0 Bf hbf hsz hBr (by omega)) (cwV 0 hts gX11_street_X8_statements rfl rfl rfl (by decide +kernel) ⟨Nat.le_of_ble_eq_true rfl, Nat.le_of_ble_eq_true rfl⟩) (x_preV hK hP (x_recv hK hP (i := 23) (by decide) ht0 rfl)) rfl rfl hl.1 rfl (lv_room (Nat.le_of_ble_eq_true rfl)) dX11_street_101 ⟨Nat.le_of_ble_eq_true rfl, Nat.le_of_ble_eq_true rfl⟩) (fun r_101 hr_101 qr_101 => ?_)
        replace qr_101 : r_101 = dn2 := qr_101
        refine W.widen (k := 60) (n := 60) (by omega) (by omega) ?_
        refine x_retQ hx hb hr (by omega) ?_ hP hD hS dX11_street_104 hlocks
        obtain ⟨n9, hq9⟩ : ∃ n9, zScan (zCc Bf (Sz (d))) (Sz (d)) 101 0 0 = (-1, n9) := ⟨(zScan (zCc Bf (Sz (d))) (Sz (d)) 101 0 0).2, Prod.ext hscan rfl⟩
        obtain ⟨T9, hT9⟩ : ∃ T9, zDo (zCc Bf (Sz (d))) (Sz (d)) 101 0 S = (-1, T9) := ⟨(zDo (zCc Bf (Sz (d))) (Sz (d)) 101 0 S).2, Prod.ext hp2 rfl⟩
        rw [hq9] at hp3
        rw [hT9] at hsm2
        rw [zStrG_3 hq9 hT9] at hzc
        rw [hzc]
        refine ⟨fun j hj => (hfr j hj).trans (hfr0 j hj), hgr, hH, ⟨_, _, _, ht0⟩, ⟨_, _, _, _, ⟨hqm0, hqm1, hqm2⟩, hok2⟩, by (rw [qr_101]; exact hp3), _, _, _, _, ⟨hm0, hm1, hm2⟩, ost_10, h82, ?_⟩
        obtain ⟨y1, y2, y3⟩ := hsm2
        refine ⟨y1, y2, fun j a b => ?_⟩
        have z9 := zSame_copy (σ := τ) (G := G2) (Gm := G) (P := P2) (Pm := P) (n := n2) (by omega) j a b
        rw [hGn_9, hPn_8]
        exact ⟨z9.1.trans (y3 j a b).1, z9.2.1.trans (y3 j a b).2.1, z9.2.2.trans (y3 j a b).2.2⟩
      · refine x_sipush (n := -2000) hx hb (by decide +kernel) dX11_street_79 ?_
        refine lv_iload hx hb dX11_street_82 (lv_at hl 0 rfl) ?_
        refine x_isub hx hb dX11_street_84 ?_
        refine W.widen (k := 60) (n := 60) (by omega) (by omega) ?_
        refine x_retQ hx hb hr (by omega) ?_ hP hD hS dX11_street_85 hlocks
        obtain ⟨hp1, hp2, hp3, hp4⟩ : r_69 ≠ -1 ∧ r_69 = (zDo (zCc Bf (Sz (d))) (Sz (d)) 101 0 S).1 ∧ (0 ≤ r_69 ∧ r_69 ≤ 200) ∧ xStr g τ.1 τ 7 := by (rcases hpost with q | q; exfalso; omega; exact q)
        obtain ⟨n9, hq9⟩ : ∃ n9, zScan (zCc Bf (Sz (d))) (Sz (d)) 101 0 0 = (-1, n9) := ⟨(zScan (zCc Bf (Sz (d))) (Sz (d)) 101 0 0).2, Prod.ext hscan rfl⟩
        obtain ⟨T9, hT9⟩ : ∃ T9, zDo (zCc Bf (Sz (d))) (Sz (d)) 101 0 S = (r_69, T9) := ⟨(zDo (zCc Bf (Sz (d))) (Sz (d)) 101 0 S).2, Prod.ext hp2.symm rfl⟩
        rw [zStrG_2 hq9 hT9 hp1] at hzc
        rw [hzc]
        exact ⟨fun j hj => (hfr j hj).trans (hfr0 j hj), hgr, hH, ⟨_, _, _, ht0⟩, hp4, rfl, n, rd, P, G, ⟨hm0, hm1, hm2⟩, hok, h8, hsm⟩
    · refine x_sipush (n := -1000) hx hb (by decide +kernel) dX11_street_44 ?_
      refine lv_iload_n hx hb dX11_street_47 rfl (lv_at hl 0 rfl) ?_
      refine x_isub hx hb dX11_street_48 ?_
      refine W.widen (k := 60) (n := 60) (by omega) (by omega) ?_
      refine x_retQ hx hb hr (by omega) ?_ hP hD hS dX11_street_49 hlocks
      have hzc : zStrC (xKp Kf So) So Sz El S d = zStrG (zCc Bf (Sz (d))) (Sz (d)) S := by (unfold zStrC; rw [if_neg (by omega), eBf])
      obtain ⟨q9, n9, hq9⟩ : ∃ q9 n9, zScan (zCc Bf (Sz (d))) (Sz (d)) 101 0 0 = (q9, n9) := ⟨_, _, rfl⟩
      rw [hq9] at qr_36
      have e9 : r_36 = q9 := qr_36.1
      rw [zStrG_1 hq9 (by omega)] at hzc
      rw [hzc, ← e9]
      exact ⟨hfr, xGrow.rf rfl, hH, ⟨_, _, _, ht0⟩, ⟨nm, rm, Pm, Gm, ⟨hqm0, hqm1, hqm2⟩, hom⟩, rfl, n, rd, P, G, ⟨hm0, hm1, hm2⟩, hok, h8, hsm⟩
  · refine lv_iload_n hx hb dX11_street_11 rfl (lv_at hl 0 rfl) ?_
    refine W.widen (k := 60) (n := 60) (by omega) (by omega) ?_
    refine x_retQ hx hb hr (by omega) ?_ hP hD hS dX11_street_12 hlocks
    have hzc : zStrC (xKp Kf So) So Sz El S d = (r_3, S) := by (unfold zStrC; rw [if_pos (by omega), ← qr_3])
    rw [hzc]
    exact ⟨hfr, xGrow.rf rfl, hH, ⟨_, _, _, ht0⟩, ⟨nm, rm, Pm, Gm, hsm9, hom⟩, rfl, n, rd, P, G, hst, hok, h8, hsm⟩
