/-- element: where no shelf, or no row or place is, it throws -/
def xeX (g : xG) (A : Nat → Prop) (σ : xS) (k : Int) : String → State → State → Prop := fun E st t => ((E = nIAE ∧ k = 1) ∨ (E = nISE ∧ k = 2)) ∧ xP g σ t.heap ∧ xD g A σ ∧ va_F A st t
set_option maxHeartbeats 4000000 in
set_option maxRecDepth 100000 in
theorem c_X11_element (l : Launch) (g : xG) (σ : xS) (A : Nat → Prop) (hlst : l.stackTraces = false) (ph : Nat) (tk : Int) (hx0 : XObj g σ.1 ph tk) (Kf : Int → Option Nat) (So Sz : Int → Int) (h25 : MRef g σ.1 25 8 Kf) (h26 : MArr g σ.1 26 8 So) (h27 : MArr g σ.1 27 8 Sz) (hxs : XsOk σ Kf So Sz) (El : Int → Int → Int) (h28 : MGrid g σ.1) (hrow : ∀ d, 0 ≤ d → d ≤ 7 → MArr g σ.1 (29 + d.toNat) 100 (El d)) (hEl : ∀ d k, inR (El d k)) (d : Int) (hd : inR d) (i0 : Int) (hi0 : inR i0) : vx_Met l yX11_element wsX11_element ({ frames := 8, cells := 1, slots := 6, locals := 256 }) (va_Pc [.ref (g.2.2 0), .int (iI (d)), .int (iI (i0))] (xcQ g A σ)) (x_Ql g A (fun r σ1 => σ1 = σ ∧ zElT (xKp Kf So) Sz d i0 = 0 ∧ r = El d i0)) (xeX g A σ (zElT (xKp Kf So) Sz d i0)) (1) (6) A := by
  refine vx_ofW (cc := cX11_element) (maxL := 3) (ret := (some .long)) (by decide) rfl ?_
  intro p e s m args below meth c s₁ B hml hne hv
  obtain ⟨rfl, ⟨hP, hK, hD, hA⟩, hT⟩ := hv
  have hx := B.exec
  have hb := B.bytes
  have hr := B.returns
  have hts := atoms_spec (ws := wsX11_element) B.pre
  have hown : s.vm.findClass RX11 = some m.cls := findClass_of_methodNamed B.named
  have hlocks := B.notSynchronized
  have hS : va_S A s.heap s.heap [] := va_S.rf
  have hfr : ∀ j, (True) → σ.1 j = σ.1 j := fun _ _ => rfl
  have hl := lv_entry ([.ref (g.2.2 0), .int (iI (d)), .int (iI (i0))]) (n := 3) (Nat.le_of_ble_eq_true rfl)
  rw [lg_entry_eq]
  generalize (lg_sl ([.ref (g.2.2 0), .int (iI (d)), .int (iI (i0))]) ++ List.replicate (3 - (lg_sl ([.ref (g.2.2 0), .int (iI (d)), .int (iI (i0))])).length) Slot.unset).toArray = ls at hl ⊢
  have hl : lv_has ls 3 [(0, .ref (g.2.2 0)), (1, .int (iI (d))), (2, .int (iI (i0)))] := hl
  have hw_0 := hts (.fieldLink RX11 49 "TwiceAsRich" "sorts" "[I") (by decide +kernel)
  have hin_X11 : ∀ w ∈ wsX110, w ∈ wsX11_element := by decide +kernel
  have hw_2 := hts (.fieldLink RX11 58 "TwiceAsRich" "rows" "[[I") (by decide +kernel)
  refine lv_iload_n hx hb dX11_element_0 rfl (lv_at hl 1 rfl) ?_
  refine x_ci (va_runS (As := [.int (iI (d))]) (rest := []) ⟨hx, hb, hml, hown, hts⟩ (c_X11_isShelf l g σ  (d) (by omega)) (va_cwS 1 hts gX11_element_X11_isShelf rfl rfl rfl (by decide +kernel) ⟨Nat.le_of_ble_eq_true rfl, Nat.le_of_ble_eq_true rfl⟩) (x_preS hK hP) rfl rfl hl.1 rfl (lv_room (Nat.le_of_ble_eq_true rfl)) dX11_element_1 ⟨Nat.le_of_ble_eq_true rfl, Nat.le_of_ble_eq_true rfl⟩) (fun r_1 hr_1 qr_1 => ?_)
  replace qr_1 : (r_1 = 1 ∧ 0 ≤ (d) ∧ (d) ≤ 7) ∨ (r_1 = 0 ∧ ¬ (0 ≤ (d) ∧ (d) ≤ 7)) := qr_1
  refine x_if_ne (tgt := 17) hx hb (by omega) dX11_element_4 (by decide) (fun c_4 => ?_) (fun c_4 => ?_)
  · have hkd := xKp_so hxs (d := d) (by omega) (by omega)
    refine lv_aload_n hx hb dX11_element_17 rfl (lv_at hl 0 rfl) ?_
    refine x_get (C := RX11) (T := TX11) (N := 11) hx hb hts hin_X11 hown hK hP (0) (by decide) hx0 rfl 8 (by decide) hw_0 (fun _ h9 => h9) rfl dX11_element_18 ?_
    refine lv_iload_n hx hb dX11_element_21 rfl (lv_at hl 1 rfl) ?_
    refine x_iald (f := So) hx hb hK hP (26) (by decide) h26 (by omega) (by omega) (by decide) dX11_element_22 ?_
    have hb_1 := hxs.1 (d)
    refine x_iconst hx hb dX11_element_23 ?_
    refine x_icmp_eq (tgt := 36) hx hb (by omega) (by omega) dX11_element_24 (by decide) (fun c_24 => ?_) (fun c_24 => ?_)
    · obtain ⟨sa, hsa⟩ := hT.2.2.2.1
      refine vx_throwS (cls := nISE) (names := ["java/lang/RuntimeException", "java/lang/Exception"]) (ik := 249) (is := 251) (ic := 253) (A := A) hx hb hlst hown (by decide +kernel) (by decide +kernel) (hts (.classLink RX11 249 nISE) (by decide +kernel)) (hts (.initialized nISE) (by decide +kernel)) hsa (vx_hat (B := .castable nISE nISE :: xcDecl.map .declares) (fun w hw => hts w (List.mem_cons_of_mem _ (List.mem_append_right _ hw))) (by decide +kernel) (fun w hw => by (rcases List.mem_cons.mp hw with hw | hw; (subst hw; exact va_Nw.use rfl hT.2.2.2.2.2.2.2.2.2.1); (obtain ⟨y, hy, hw⟩ := List.mem_map.mp hw; subst hw; exact va_Nw.use rfl (hT.2.2.2.2.2.2.2.2.2.2 y hy))))) (by decide +kernel) hT.1 hT.2.1 hS (hl.1.trans hml.symm) dX11_element_36 dX11_element_39 dX11_element_40 dX11_element_42 dX11_element_45 (fun x hx => (hne x hx).elim) (Nat.le_of_ble_eq_true rfl) (Nat.le_of_ble_eq_true rfl) (Nat.le_of_ble_eq_true rfl) (Nat.le_of_ble_eq_true rfl) hlocks (fun t _ hz hk => ⟨?_, va_P.kept hP (fun k x hx => hk x.1 ((hP k x hx).lt)), hD, hz, fun q h1 _ => hk q h1⟩) (fun z hz => by cases hz) (Nat.le_of_ble_eq_true rfl) (Nat.le_of_ble_eq_true rfl)
      exact Or.inr ⟨rfl, by (unfold zElT; rw [if_neg (by omega), if_pos (by omega)])⟩
    · refine lv_aload_n hx hb dX11_element_27 rfl (lv_at hl 0 rfl) ?_
      refine lv_iload_n hx hb dX11_element_28 rfl (lv_at hl 1 rfl) ?_
      refine lv_iload_n hx hb dX11_element_29 rfl (lv_at hl 2 rfl) ?_
      refine x_ci (va_runV (As := [.int (iI (d)), .int (iI (i0))]) (rest := []) ⟨hx, hb, hml, hown, hts⟩ (c_X11_isPlace l g σ ph tk hx0 Kf So Sz h25 h26 h27 hxs (d) (by omega) (i0) (by omega)) (cwV 2 hts gX11_element_X11_isPlace rfl rfl rfl (by decide +kernel) ⟨Nat.le_of_ble_eq_true rfl, Nat.le_of_ble_eq_true rfl⟩) (x_preV hK hP (x_recv hK hP (i := 0) (by decide) hx0 rfl)) rfl rfl hl.1 rfl (lv_room (Nat.le_of_ble_eq_true rfl)) dX11_element_30 ⟨Nat.le_of_ble_eq_true rfl, Nat.le_of_ble_eq_true rfl⟩) (fun r_30 hr_30 qr_30 => ?_)
      replace qr_30 : (r_30 = 1 ∧ 0 ≤ (i0) ∧ (i0) < Sz (d)) ∨ (r_30 = 0 ∧ ¬ (0 ≤ (i0) ∧ (i0) < Sz (d))) := qr_30
      refine x_if_ne (tgt := 46) hx hb (by omega) dX11_element_33 (by decide) (fun c_33 => ?_) (fun c_33 => ?_)
      · refine lv_aload_n hx hb dX11_element_46 rfl (lv_at hl 0 rfl) ?_
        refine x_get (C := RX11) (T := TX11) (N := 11) hx hb hts hin_X11 hown hK hP (0) (by decide) hx0 rfl 10 (by decide) hw_2 (fun _ h9 => h9) rfl dX11_element_47 ?_
        refine lv_iload_n hx hb dX11_element_50 rfl (lv_at hl 1 rfl) ?_
        obtain ⟨ri_2, eri_2⟩ : ∃ q : Nat, q = 29 + (d).toNat := ⟨_, rfl⟩
        have hG_ri_2 : xGf g (d) = some (g.2.2 ri_2) := by rw [eri_2]
        have hri_2 : MArr g σ.1 ri_2 100 (El (d)) := by rw [eri_2]; exact hrow (d) (by omega) (by omega)
        refine x_aalg (f := xGf g) hx hb hK hP (28) (by decide) h28 (by omega) (by omega) (by decide) hG_ri_2 dX11_element_51 ?_
        refine lv_iload_n hx hb dX11_element_52 rfl (lv_at hl 2 rfl) ?_
        refine x_iald (f := (El (d))) hx hb hK hP (ri_2) (by have hxN : xN = 51 := rfl; omega) hri_2 (by omega) (by omega) (by decide) dX11_element_53 ?_
        have hb_3 := hEl (d) (i0)
        refine x_i2l hx hb (by omega) dX11_element_54 ?_
        refine vx_ret ?_
        refine W.widen (k := 1) (n := 6) (by omega) (by omega) ?_
        refine x_retQl hx hb hr (by omega) ?_ hP hD hS dX11_element_55 hlocks
        exact ⟨rfl, by (unfold zElT; rw [if_neg (by omega), if_neg (by omega)]), rfl⟩
      · obtain ⟨sa, hsa⟩ := hT.2.2.2.1
        refine vx_throwS (cls := nISE) (names := ["java/lang/RuntimeException", "java/lang/Exception"]) (ik := 249) (is := 251) (ic := 253) (A := A) hx hb hlst hown (by decide +kernel) (by decide +kernel) (hts (.classLink RX11 249 nISE) (by decide +kernel)) (hts (.initialized nISE) (by decide +kernel)) hsa (vx_hat (B := .castable nISE nISE :: xcDecl.map .declares) (fun w hw => hts w (List.mem_cons_of_mem _ (List.mem_append_right _ hw))) (by decide +kernel) (fun w hw => by (rcases List.mem_cons.mp hw with hw | hw; (subst hw; exact va_Nw.use rfl hT.2.2.2.2.2.2.2.2.2.1); (obtain ⟨y, hy, hw⟩ := List.mem_map.mp hw; subst hw; exact va_Nw.use rfl (hT.2.2.2.2.2.2.2.2.2.2 y hy))))) (by decide +kernel) hT.1 hT.2.1 hS (hl.1.trans hml.symm) dX11_element_36 dX11_element_39 dX11_element_40 dX11_element_42 dX11_element_45 (fun x hx => (hne x hx).elim) (Nat.le_of_ble_eq_true rfl) (Nat.le_of_ble_eq_true rfl) (Nat.le_of_ble_eq_true rfl) (Nat.le_of_ble_eq_true rfl) hlocks (fun t _ hz hk => ⟨?_, va_P.kept hP (fun k x hx => hk x.1 ((hP k x hx).lt)), hD, hz, fun q h1 _ => hk q h1⟩) (fun z hz => by cases hz) (Nat.le_of_ble_eq_true rfl) (Nat.le_of_ble_eq_true rfl)
        exact Or.inr ⟨rfl, by (unfold zElT; rw [if_neg (by omega), if_pos (by omega)])⟩
  · obtain ⟨sa, hsa⟩ := hT.2.2.1
    refine vx_throwS (cls := nIAE) (names := ["java/lang/RuntimeException", "java/lang/Exception"]) (ik := 242) (is := 244) (ic := 246) (A := A) hx hb hlst hown (by decide +kernel) (by decide +kernel) (hts (.classLink RX11 242 nIAE) (by decide +kernel)) (hts (.initialized nIAE) (by decide +kernel)) hsa (vx_hat (B := .castable nIAE nIAE :: xcDecl.map .declares) (fun w hw => hts w (List.mem_cons_of_mem _ (List.mem_append_left _ (List.mem_append_right _ hw)))) (by decide +kernel) (fun w hw => by (rcases List.mem_cons.mp hw with hw | hw; (subst hw; exact va_Nw.use rfl hT.2.2.2.2.2.2.2.2.1); (obtain ⟨y, hy, hw⟩ := List.mem_map.mp hw; subst hw; exact va_Nw.use rfl (hT.2.2.2.2.2.2.2.2.2.2 y hy))))) (by decide +kernel) hT.1 hT.2.1 hS (hl.1.trans hml.symm) dX11_element_7 dX11_element_10 dX11_element_11 dX11_element_13 dX11_element_16 (fun x hx => (hne x hx).elim) (Nat.le_of_ble_eq_true rfl) (Nat.le_of_ble_eq_true rfl) (Nat.le_of_ble_eq_true rfl) (Nat.le_of_ble_eq_true rfl) hlocks (fun t _ hz hk => ⟨?_, va_P.kept hP (fun k x hx => hk x.1 ((hP k x hx).lt)), hD, hz, fun q h1 _ => hk q h1⟩) (fun z hz => by cases hz) (Nat.le_of_ble_eq_true rfl) (Nat.le_of_ble_eq_true rfl)
    exact Or.inl ⟨rfl, by (unfold zElT; rw [if_pos (by omega)])⟩
