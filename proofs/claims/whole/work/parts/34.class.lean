set_option maxHeartbeats 4000000 in
set_option maxRecDepth 100000 in
theorem c_X11_put (l : Launch) (g : xG) (σ : xS) (A : Nat → Prop) (ph : Nat) (tk : Int) (hx0 : XObj g σ.1 ph tk) (Kf : Int → Option Nat) (So Sz : Int → Int) (h25 : MRef g σ.1 25 8 Kf) (h26 : MArr g σ.1 26 8 So) (h27 : MArr g σ.1 27 8 Sz) (hxs : XsOk σ Kf So Sz) (El : Int → Int → Int) (h28 : MGrid g σ.1) (hrow : ∀ d, 0 ≤ d → d ≤ 7 → MArr g σ.1 (29 + d.toNat) 100 (El d)) (hEl : ∀ d k, inR (El d k)) (d : Int) (hd : inR d) (i : Int) (hi : inR i) (v : Int) (hv : inR v) : Met l yX11_put wsX11_put ({ frames := 3, cells := 0, slots := 0, locals := 96 }) (va_Pc [.ref (g.2.2 0), .int (iI (d)), .int (iI (i)), .int (iI (v))] (xPreQ g A σ)) (x_Qi g A (fun r σ1 => σ1.2 = σ.2 ∧ (∀ j, j ≠ 29 + d.toNat → σ1.1 j = σ.1 j) ∧ r = zPutR (xKp Kf So) So Sz d i ∧ ((r < 0 ∧ σ1.1 = σ.1) ∨ (r = 0 ∧ MArr g σ1.1 (29 + d.toNat) 100 (upI (El d) i (zLow (So d) v)))))) (0) (0) A := by
  refine Met.ofW (cc := cX11_put) (maxL := 5) (ret := (some .int)) (by decide) rfl ?_
  intro p e s m args below meth c s₁ B hml hv
  obtain ⟨rfl, hP, hK, hD, hA⟩ := hv
  have hx := B.exec
  have hb := B.bytes
  have hr := B.returns
  have hts := atoms_spec (ws := wsX11_put) B.pre
  have hown : s.vm.findClass RX11 = some m.cls := findClass_of_methodNamed B.named
  have hlocks := B.notSynchronized
  have hS : va_S A s.heap s.heap [] := va_S.rf
  have hfr : ∀ j, (j ≠ 29 + d.toNat) → σ.1 j = σ.1 j := fun _ _ => rfl
  have hl := lv_entry ([.ref (g.2.2 0), .int (iI (d)), .int (iI (i)), .int (iI (v))]) (n := 5) (Nat.le_of_ble_eq_true rfl)
  rw [lg_entry_eq]
  generalize (lg_sl ([.ref (g.2.2 0), .int (iI (d)), .int (iI (i)), .int (iI (v))]) ++ List.replicate (5 - (lg_sl ([.ref (g.2.2 0), .int (iI (d)), .int (iI (i)), .int (iI (v))])).length) Slot.unset).toArray = ls at hl ⊢
  have hl : lv_has ls 5 [(0, .ref (g.2.2 0)), (1, .int (iI (d))), (2, .int (iI (i))), (3, .int (iI (v)))] := hl
  have hw_0 := hts (.fieldLink RX11 58 "TwiceAsRich" "rows" "[[I") (by decide +kernel)
  have hin_X11 : ∀ w ∈ wsX110, w ∈ wsX11_put := by decide +kernel
  have hw_2 := hts (.fieldLink RX11 49 "TwiceAsRich" "sorts" "[I") (by decide +kernel)
  refine lv_aload_n hx hb dX11_put_0 rfl (lv_at hl 0 rfl) ?_
  refine lv_iload_n hx hb dX11_put_1 rfl (lv_at hl 1 rfl) ?_
  refine x_ci (va_runV (As := [.int (iI (d))]) (rest := []) ⟨hx, hb, hml, hown, hts⟩ (c_X11_rowRefusal l g σ ph tk hx0 Kf So Sz h25 h26 h27 hxs (d) (by omega)) (cwV 1 hts gX11_put_X11_rowRefusal rfl rfl rfl (by decide +kernel) ⟨Nat.le_of_ble_eq_true rfl, Nat.le_of_ble_eq_true rfl⟩) (x_preV hK hP (x_recv hK hP (i := 0) (by decide) hx0 rfl)) rfl rfl hl.1 rfl (lv_room (Nat.le_of_ble_eq_true rfl)) dX11_put_2 ⟨Nat.le_of_ble_eq_true rfl, Nat.le_of_ble_eq_true rfl⟩) (fun r_2 hr_2 qr_2 => ?_)
  replace qr_2 : r_2 = zRowR (xKp Kf So) So (d) (-1) := qr_2
  refine lv_istore (lv' := [(4, .int (iI (r_2))), (0, .ref (g.2.2 0)), (1, .int (iI (d))), (2, .int (iI (i))), (3, .int (iI (v)))]) hx hb dX11_put_5 hl (by decide) rfl (fun ls hl => ?_)
  refine lv_iload hx hb dX11_put_7 (lv_at hl 0 rfl) ?_
  refine x_if_eq (tgt := 15) hx hb (by omega) dX11_put_9 (by decide) (fun c_9 => ?_) (fun c_9 => ?_)
  · have hk0 := zRowR_0 qr_2 (by omega)
    have hk9 := xKp_so hxs (d := d) (by omega) (by omega)
    have hSz : 0 ≤ Sz d ∧ Sz d ≤ 100 := by omega
    refine lv_aload_n hx hb dX11_put_15 rfl (lv_at hl 1 rfl) ?_
    refine lv_iload_n hx hb dX11_put_16 rfl (lv_at hl 2 rfl) ?_
    refine lv_iload_n hx hb dX11_put_17 rfl (lv_at hl 3 rfl) ?_
    refine x_ci (va_runV (As := [.int (iI (d)), .int (iI (i))]) (rest := []) ⟨hx, hb, hml, hown, hts⟩ (c_X11_isPlace l g σ ph tk hx0 Kf So Sz h25 h26 h27 hxs (d) (by omega) (i) (by omega)) (cwV 2 hts gX11_put_X11_isPlace rfl rfl rfl (by decide +kernel) ⟨Nat.le_of_ble_eq_true rfl, Nat.le_of_ble_eq_true rfl⟩) (x_preV hK hP (x_recv hK hP (i := 0) (by decide) hx0 rfl)) rfl rfl hl.1 rfl (lv_room (Nat.le_of_ble_eq_true rfl)) dX11_put_18 ⟨Nat.le_of_ble_eq_true rfl, Nat.le_of_ble_eq_true rfl⟩) (fun r_18 hr_18 qr_18 => ?_)
    replace qr_18 : (r_18 = 1 ∧ 0 ≤ (i) ∧ (i) < Sz (d)) ∨ (r_18 = 0 ∧ ¬ (0 ≤ (i) ∧ (i) < Sz (d))) := qr_18
    refine x_if_ne (tgt := 27) hx hb (by omega) dX11_put_21 (by decide) (fun c_21 => ?_) (fun c_21 => ?_)
    · refine lv_aload_n hx hb dX11_put_27 rfl (lv_at hl 1 rfl) ?_
      refine x_get (C := RX11) (T := TX11) (N := 11) hx hb hts hin_X11 hown hK hP (0) (by decide) hx0 rfl 10 (by decide) hw_0 (fun _ h9 => h9) rfl dX11_put_28 ?_
      refine lv_iload_n hx hb dX11_put_31 rfl (lv_at hl 2 rfl) ?_
      obtain ⟨ri_1, eri_1⟩ : ∃ q : Nat, q = 29 + (d).toNat := ⟨_, rfl⟩
      have hG_ri_1 : xGf g (d) = some (g.2.2 ri_1) := by rw [eri_1]
      have hri_1 : MArr g σ.1 ri_1 100 (El (d)) := by rw [eri_1]; exact hrow (d) (by omega) (by omega)
      refine x_aalg (f := xGf g) hx hb hK hP (28) (by decide) h28 (by omega) (by omega) (by decide) hG_ri_1 dX11_put_32 ?_
      refine lv_iload_n hx hb dX11_put_33 rfl (lv_at hl 3 rfl) ?_
      refine lv_aload_n hx hb dX11_put_34 rfl (lv_at hl 1 rfl) ?_
      refine x_get (C := RX11) (T := TX11) (N := 11) hx hb hts hin_X11 hown hK hP (0) (by decide) hx0 rfl 8 (by decide) hw_2 (fun _ h9 => h9) rfl dX11_put_35 ?_
      refine lv_iload_n hx hb dX11_put_38 rfl (lv_at hl 2 rfl) ?_
      refine x_iald (f := So) hx hb hK hP (26) (by decide) h26 (by omega) (by omega) (by decide) dX11_put_39 ?_
      have hb_2 := hxs.1 (d)
      refine lv_iload_n hx hb dX11_put_40 rfl (lv_at hl 4 rfl) ?_
      refine x_ci (va_runS (As := [.int (iI (So (d))), .int (iI (v))]) (rest := [.int (iI (i)), .ref (g.2.2 (ri_1))]) ⟨hx, hb, hml, hown, hts⟩ (c_X11_lowestBits l g σ  (So (d)) (by omega) (v) (by omega)) (va_cwS 2 hts gX11_put_X11_lowestBits rfl rfl rfl (by decide +kernel) ⟨Nat.le_of_ble_eq_true rfl, Nat.le_of_ble_eq_true rfl⟩) (x_preS hK hP) rfl rfl hl.1 rfl (lv_room (Nat.le_of_ble_eq_true rfl)) dX11_put_41 ⟨Nat.le_of_ble_eq_true rfl, Nat.le_of_ble_eq_true rfl⟩) (fun r_41 hr_41 qr_41 => ?_)
      replace qr_41 : r_41 = zLow (So (d)) (v) := qr_41
      refine x_iast (f := (El (d))) hx hb hK hP hD hS (ri_1) (by have hxN : xN = 51 := rfl; omega) hri_1 (by omega) (by omega) (by decide) dX11_put_44 (fun M_3 H locs hnew hne hP hD hS => ?_)
      obtain ⟨f_4, hf_4⟩ : ∃ q : Int → Int, q = (upI ((El (d))) (i) (r_41)) := ⟨_, rfl⟩
      rw [← hf_4] at hnew
      have hP : xP g (M_3, σ.2) H := hP
      have hD : xD g A (M_3, σ.2) := hD
      have hri_1 : M_3 (ri_1) = .inl (g.2.1 0, 100, .inl (fun k => iI (f_4 (k : Int)))) := hnew
      have hx0 := (hne (0) (by omega)).trans hx0
      have h25 := (hne (25) (by omega)).trans h25
      have h26 := (hne (26) (by omega)).trans h26
      have h27 := (hne (27) (by omega)).trans h27
      have h28 := (hne (28) (by omega)).trans h28
      have hfr := x_fr (F := fun j => j ≠ 29 + d.toNat) hfr hne (fun j h => by have h : j ≠ 29 + d.toNat := h; omega)
      refine x_iconst hx hb dX11_put_45 ?_
      refine x_retQ hx hb hr (by omega) ?_ hP hD hS dX11_put_46 hlocks
      refine ⟨rfl, hfr, by (unfold zPutR; rw [if_neg (by omega), if_neg (by omega)]), Or.inr ⟨rfl, ?_⟩⟩
      rw [hf_4, eri_1, qr_41] at hri_1
      exact hri_1
    · refine x_bipush (n := -13) hx hb (by decide +kernel) dX11_put_24 ?_
      refine x_retQ hx hb hr (by omega) ?_ hP hD hS dX11_put_26 hlocks
      exact ⟨rfl, hfr, by (unfold zPutR; first | (rw [if_pos (by omega)]; omega) | (rw [if_neg (by omega), if_pos (by omega)])), Or.inl ⟨by omega, rfl⟩⟩
  · refine lv_iload hx hb dX11_put_12 (lv_at hl 0 rfl) ?_
    refine x_retQ hx hb hr (by omega) ?_ hP hD hS dX11_put_14 hlocks
    have hzr := zRowR_rng (xKp Kf So) So d (-1)
    exact ⟨rfl, hfr, by (unfold zPutR; first | (rw [if_pos (by omega)]; omega) | (rw [if_neg (by omega), if_pos (by omega)])), Or.inl ⟨by omega, rfl⟩⟩
