def xPt (g : xG) (M : xM) (σ : xS) : Prop := ∃ (wy un hd mv na ra : Int) (Pa : Int → Int) (Ga : Int → Option Nat) (Rc Wb : Int → Int) (Sx : Int → Int → Int), PObj g M wy un hd mv ∧ StAt g M 10 na ra Pa Ga ∧ StOk σ na ra Pa Ga ∧ MArr g M 14 6 Rc ∧ MArr g M 15 6 Wb ∧ MGrs g M ∧ (∀ d : Int, 0 ≤ d → d ≤ 5 → MArr g M (17 + d.toNat) 21 (Sx d)) ∧ ∀ d k : Int, inR (Sx d k)
theorem zWp_0 {n c : Int} (h : zWp n c = 0) : (0 ≤ c ∧ c ≤ 20) ∧ n ≤ 6 := by
  unfold zWp at h
  by_cases c1 : 0 ≤ c ∧ c ≤ 20
  · rw [if_neg (fun q => q c1)] at h
    by_cases c2 : 6 < n
    · rw [if_pos c2] at h; omega
    · exact ⟨c1, by omega⟩
  · rw [if_pos c1] at h; omega
theorem zWp_rng (n c : Int) : -4 ≤ zWp n c ∧ zWp n c ≤ 0 := by
  unfold zWp; split
  · omega
  · split <;> omega
theorem xPt_keep {g : xG} {M M2 : xM} {σ : xS} (h : xPt g M σ) (e : ∀ j, (9 < j ∧ j < 23) → M2 j = M j) : xPt g M2 σ := by
  obtain ⟨wy, un, hd, mv, na, ra, Pa, Ga, Rc, Wb, Sx, h1, h2, h3, h4, h5, h6, h7, h8⟩ := h
  exact ⟨wy, un, hd, mv, na, ra, Pa, Ga, Rc, Wb, Sx, (e 13 (by omega)).trans h1, ⟨(e 10 (by omega)).trans h2.1, (e 11 (by omega)).trans h2.2.1, (e 12 (by omega)).trans h2.2.2⟩, h3, (e 14 (by omega)).trans h4, (e 15 (by omega)).trans h5, (e 16 (by omega)).trans h6, fun d a b => (e _ (by omega)).trans (h7 d a b), h8⟩

set_option maxHeartbeats 4000000 in
set_option maxRecDepth 100000 in
theorem c_X11_partings (l : Launch) (g : xG) (σ : xS) (A : Nat → Prop) (ph : Nat) (tk : Int) (hx0 : XObj g σ.1 ph tk) (n rd : Int) (P : Int → Int) (G : Int → Option Nat) (hst : StAt g σ.1 1 n rd P G) (hok : StOk σ n rd P G) (hH : HsOk σ) (hpt : xPt g σ.1 σ) (c0 : Int) (hc0 : inR c0) : Met l yX11_partings wsX11_partings ({ frames := 17, cells := 0, slots := 0, locals := 544 }) (va_Pc [.ref (g.2.2 0), .int (iI (c0))] (xPreQ g A σ)) (x_Qi g A (fun r σ1 => σ1.2 = σ.2 ∧ (∀ j, j < 10 ∨ j = 16 ∨ 22 < j → σ1.1 j = σ.1 j) ∧ r = zPartings (sK σ G) (sF σ G) P n rd c0 ∧ xPt g σ1.1 σ)) (0) (0) A := by
  refine Met.ofW (cc := cX11_partings) (maxL := 3) (ret := (some .int)) (by decide) rfl ?_
  intro p e s m args below meth c s₁ B hml hv
  obtain ⟨rfl, hP, hK, hD, hA⟩ := hv
  have hx := B.exec
  have hb := B.bytes
  have hr := B.returns
  have hts := atoms_spec (ws := wsX11_partings) B.pre
  have hown : s.vm.findClass RX11 = some m.cls := findClass_of_methodNamed B.named
  have hlocks := B.notSynchronized
  have hS : va_S A s.heap s.heap [] := va_S.rf
  have hfr : ∀ j, (j < 10 ∨ j = 16 ∨ 22 < j) → σ.1 j = σ.1 j := fun _ _ => rfl
  have hl := lv_entry ([.ref (g.2.2 0), .int (iI (c0))]) (n := 3) (Nat.le_of_ble_eq_true rfl)
  rw [lg_entry_eq]
  generalize (lg_sl ([.ref (g.2.2 0), .int (iI (c0))]) ++ List.replicate (3 - (lg_sl ([.ref (g.2.2 0), .int (iI (c0))])).length) Slot.unset).toArray = ls at hl ⊢
  have hl : lv_has ls 3 [(0, .ref (g.2.2 0)), (1, .int (iI (c0)))] := hl
  have hm0 : σ.1 1 = .inr (7, [.ref (g.2.2 2), .ref (g.2.2 3), .int (iI n), .int (iI rd)]) := hst.1
  have hm1 : MRef g σ.1 2 9 G := hst.2.1
  have hm2 : MArr g σ.1 3 9 P := hst.2.2
  have hok1 := hok.1
  have hok2 := hok.2.1
  have hok3 := hok.2.2.1
  have hpt0 := hpt
  obtain ⟨wy, un, hd9, mv, na, ra, Pa, Ga, Rc, Wb, Sx, hp13, hsa9, hoa, h14, h15, h16, hsr, hSr⟩ := hpt
  have hw_0 := hts (.fieldLink RX11 34 "TwiceAsRich" "partings" "LTwiceAsRich$Partings;") (by decide +kernel)
  have hin_X11 : ∀ w ∈ wsX110, w ∈ wsX11_partings := by decide +kernel
  have hw_2 := hts (.fieldLink RX11 10 "TwiceAsRich" "street" "LTwiceAsRich$Street;") (by decide +kernel)
  have hw_3 := hts (.fieldLink RX11 162 "TwiceAsRich$Partings" "ways" "I") (by decide +kernel)
  have hin_X5 : ∀ w ∈ wsX50, w ∈ wsX11_partings := by decide +kernel
  refine lv_aload_n hx hb dX11_partings_0 rfl (lv_at hl 0 rfl) ?_
  refine lv_iload_n hx hb dX11_partings_1 rfl (lv_at hl 1 rfl) ?_
  refine x_ci (va_runV (As := [.int (iI (c0))]) (rest := []) ⟨hx, hb, hml, hown, hts⟩ (c_X11_partingRefusal l g σ ph tk hx0 n rd P G ⟨hm0, hm1, hm2⟩ hok hH (c0) (by omega)) (cwV 1 hts gX11_partings_X11_partingRefusal rfl rfl rfl (by decide +kernel) ⟨Nat.le_of_ble_eq_true rfl, Nat.le_of_ble_eq_true rfl⟩) (x_preV hK hP (x_recv hK hP (i := 0) (by decide) hx0 rfl)) rfl rfl hl.1 rfl (lv_room (Nat.le_of_ble_eq_true rfl)) dX11_partings_2 ⟨Nat.le_of_ble_eq_true rfl, Nat.le_of_ble_eq_true rfl⟩) (fun r_2 hr_2 qr_2 => ?_)
  replace qr_2 : r_2 = zWp n (c0) := qr_2
  have br_2 := zWp_rng n (c0); rw [← qr_2] at br_2
  refine lv_istore_n (lv' := [(2, .int (iI (r_2))), (0, .ref (g.2.2 0)), (1, .int (iI (c0)))]) hx hb dX11_partings_5 rfl hl (by decide) rfl (fun ls hl => ?_)
  refine lv_iload_n hx hb dX11_partings_6 rfl (lv_at hl 0 rfl) ?_
  refine x_if_eq (tgt := 12) hx hb (by omega) dX11_partings_7 (by decide) (fun c_7 => ?_) (fun c_7 => ?_)
  · have hw0 := zWp_0 (n := n) (c := c0) (by omega)
    refine lv_aload_n hx hb dX11_partings_12 rfl (lv_at hl 1 rfl) ?_
    refine x_get (C := RX11) (T := TX11) (N := 11) hx hb hts hin_X11 hown hK hP (0) (by decide) hx0 rfl 5 (by decide) hw_0 (fun _ h9 => h9) rfl dX11_partings_13 ?_
    refine lv_aload_n hx hb dX11_partings_16 rfl (lv_at hl 1 rfl) ?_
    refine x_get (C := RX11) (T := TX11) (N := 11) hx hb hts hin_X11 hown hK hP (0) (by decide) hx0 rfl 0 (by decide) hw_2 (fun _ h9 => h9) rfl dX11_partings_17 ?_
    refine lv_iload_n hx hb dX11_partings_20 rfl (lv_at hl 2 rfl) ?_
    refine x_cqv0 (va_runV (As := [.ref (g.2.2 1), .int (iI (c0))]) (rest := []) ⟨hx, hb, hml, hown, hts⟩ (c_X5_search l g σ A wy un hd9 mv hp13 na ra Pa Ga hsa9 hoa n rd P G ⟨hm0, hm1, hm2⟩ hok hH (by omega) (c0) (by omega) Rc h14 Sx h16 hsr hSr Wb h15) (cwV 2 hts gX11_partings_X5_search rfl rfl rfl (by decide +kernel) ⟨Nat.le_of_ble_eq_true rfl, Nat.le_of_ble_eq_true rfl⟩) (x_preVQ hK hP hD hS hA (x_recv hK hP (i := 13) (by decide) hp13 rfl)) rfl rfl hl.1 rfl (lv_room (Nat.le_of_ble_eq_true rfl)) dX11_partings_21 ⟨by decide, by decide⟩) hS (fun σ1 H locs hpost hP hD hS => ?_)
    obtain ⟨M_1, p1⟩ := σ1
    obtain ⟨hp0, hfrc, wn_2, un_3, hn_4, mn_5, Rn_6, Wb2, Sx2, hn13, hn14, hn15, hnS, hnr, hn10, hnQ⟩ := hpost
    obtain rfl : p1 = σ.2 := hp0
    have hP : xP g (M_1, σ.2) H := hP
    have hD : xD g A (M_1, σ.2) := hD
    have hx0 : XObj g M_1 ph tk := (hfrc (0) (by omega)).trans hx0
    have hm0 := (hfrc (1) (by omega)).trans hm0
    have hm1 := (hfrc (2) (by omega)).trans hm1
    have hm2 := (hfrc (3) (by omega)).trans hm2
    have hfr := x_frc (F := fun j => j < 10 ∨ j = 16 ∨ 22 < j) hfr hfrc (fun j h => by have h : j < 10 ∨ j = 16 ∨ 22 < j := h; omega)
    have hp13 : PObj g M_1 wn_2 un_3 hn_4 mn_5 := hn13
    have h14 : MArr g M_1 14 6 Rn_6 := hn14
    have hpt2 : xPt g M_1 σ := by (obtain ⟨n9, r9, P9, G9, q1, q2⟩ := hn10; exact ⟨_, _, _, _, n9, r9, P9, G9, _, Wb2, Sx2, hp13, q1, q2, h14, hn15, (hfrc 16 (by omega)).trans h16, hnS, hnr⟩)
    have hz1 := hnQ.1; have hz2 := hnQ.2.1; have hz3 := hnQ.2.2.1; have hz4 := hnQ.2.2.2.1
    refine lv_aload_n hx hb dX11_partings_24 rfl (lv_at hl 1 rfl) ?_
    refine x_get (C := RX11) (T := TX11) (N := 11) hx hb hts hin_X11 hown hK hP (0) (by decide) hx0 rfl 5 (by decide) hw_0 (fun _ h9 => h9) rfl dX11_partings_25 ?_
    refine x_get (C := RX5) (T := TX5) (N := 8) hx hb hts hin_X5 hown hK hP (13) (by decide) hp13 rfl 0 (by decide) hw_3 (fun _ h9 => h9) rfl dX11_partings_28 ?_
    refine x_retQ hx hb hr (by omega) ?_ hP hD hS dX11_partings_31 hlocks
    refine ⟨rfl, hfr, ?_, hpt2⟩
    unfold zPartings; rw [if_neg (by omega)]; exact (hnQ.2.2.2.2.2 (-4)).1.symm
  · refine lv_iload_n hx hb dX11_partings_10 rfl (lv_at hl 0 rfl) ?_
    refine x_retQ hx hb hr (by omega) ?_ hP hD hS dX11_partings_11 hlocks
    refine ⟨rfl, hfr, by (unfold zPartings; first | (rw [if_pos (by omega)]; done) | (rw [if_pos (by omega)]; exact qr_2) | (rw [if_neg (by omega), if_pos (by omega)]; done) | (rw [if_neg (by omega), if_pos (by omega)]; exact qr_2)), hpt0⟩

set_option maxHeartbeats 4000000 in
set_option maxRecDepth 100000 in
theorem c_X11_uneven (l : Launch) (g : xG) (σ : xS) (A : Nat → Prop) (ph : Nat) (tk : Int) (hx0 : XObj g σ.1 ph tk) (n rd : Int) (P : Int → Int) (G : Int → Option Nat) (hst : StAt g σ.1 1 n rd P G) (hok : StOk σ n rd P G) (hH : HsOk σ) (hpt : xPt g σ.1 σ) (c0 : Int) (hc0 : inR c0) : Met l yX11_uneven wsX11_uneven ({ frames := 17, cells := 0, slots := 0, locals := 544 }) (va_Pc [.ref (g.2.2 0), .int (iI (c0))] (xPreQ g A σ)) (x_Qi g A (fun r σ1 => σ1.2 = σ.2 ∧ (∀ j, j < 10 ∨ j = 16 ∨ 22 < j → σ1.1 j = σ.1 j) ∧ r = zUneven (sK σ G) (sF σ G) P n rd c0 ∧ xPt g σ1.1 σ)) (0) (0) A := by
  refine Met.ofW (cc := cX11_uneven) (maxL := 3) (ret := (some .int)) (by decide) rfl ?_
  intro p e s m args below meth c s₁ B hml hv
  obtain ⟨rfl, hP, hK, hD, hA⟩ := hv
  have hx := B.exec
  have hb := B.bytes
  have hr := B.returns
  have hts := atoms_spec (ws := wsX11_uneven) B.pre
  have hown : s.vm.findClass RX11 = some m.cls := findClass_of_methodNamed B.named
  have hlocks := B.notSynchronized
  have hS : va_S A s.heap s.heap [] := va_S.rf
  have hfr : ∀ j, (j < 10 ∨ j = 16 ∨ 22 < j) → σ.1 j = σ.1 j := fun _ _ => rfl
  have hl := lv_entry ([.ref (g.2.2 0), .int (iI (c0))]) (n := 3) (Nat.le_of_ble_eq_true rfl)
  rw [lg_entry_eq]
  generalize (lg_sl ([.ref (g.2.2 0), .int (iI (c0))]) ++ List.replicate (3 - (lg_sl ([.ref (g.2.2 0), .int (iI (c0))])).length) Slot.unset).toArray = ls at hl ⊢
  have hl : lv_has ls 3 [(0, .ref (g.2.2 0)), (1, .int (iI (c0)))] := hl
  have hm0 : σ.1 1 = .inr (7, [.ref (g.2.2 2), .ref (g.2.2 3), .int (iI n), .int (iI rd)]) := hst.1
  have hm1 : MRef g σ.1 2 9 G := hst.2.1
  have hm2 : MArr g σ.1 3 9 P := hst.2.2
  have hok1 := hok.1
  have hok2 := hok.2.1
  have hok3 := hok.2.2.1
  have hpt0 := hpt
  obtain ⟨wy, un, hd9, mv, na, ra, Pa, Ga, Rc, Wb, Sx, hp13, hsa9, hoa, h14, h15, h16, hsr, hSr⟩ := hpt
  have hw_0 := hts (.fieldLink RX11 34 "TwiceAsRich" "partings" "LTwiceAsRich$Partings;") (by decide +kernel)
  have hin_X11 : ∀ w ∈ wsX110, w ∈ wsX11_uneven := by decide +kernel
  have hw_2 := hts (.fieldLink RX11 10 "TwiceAsRich" "street" "LTwiceAsRich$Street;") (by decide +kernel)
  have hw_3 := hts (.fieldLink RX11 162 "TwiceAsRich$Partings" "ways" "I") (by decide +kernel)
  have hin_X5 : ∀ w ∈ wsX50, w ∈ wsX11_uneven := by decide +kernel
  have hw_5 := hts (.fieldLink RX11 165 "TwiceAsRich$Partings" "uneven" "I") (by decide +kernel)
  refine lv_aload_n hx hb dX11_uneven_0 rfl (lv_at hl 0 rfl) ?_
  refine lv_iload_n hx hb dX11_uneven_1 rfl (lv_at hl 1 rfl) ?_
  refine x_ci (va_runV (As := [.int (iI (c0))]) (rest := []) ⟨hx, hb, hml, hown, hts⟩ (c_X11_partingRefusal l g σ ph tk hx0 n rd P G ⟨hm0, hm1, hm2⟩ hok hH (c0) (by omega)) (cwV 1 hts gX11_uneven_X11_partingRefusal rfl rfl rfl (by decide +kernel) ⟨Nat.le_of_ble_eq_true rfl, Nat.le_of_ble_eq_true rfl⟩) (x_preV hK hP (x_recv hK hP (i := 0) (by decide) hx0 rfl)) rfl rfl hl.1 rfl (lv_room (Nat.le_of_ble_eq_true rfl)) dX11_uneven_2 ⟨Nat.le_of_ble_eq_true rfl, Nat.le_of_ble_eq_true rfl⟩) (fun r_2 hr_2 qr_2 => ?_)
  replace qr_2 : r_2 = zWp n (c0) := qr_2
  have br_2 := zWp_rng n (c0); rw [← qr_2] at br_2
  refine lv_istore_n (lv' := [(2, .int (iI (r_2))), (0, .ref (g.2.2 0)), (1, .int (iI (c0)))]) hx hb dX11_uneven_5 rfl hl (by decide) rfl (fun ls hl => ?_)
  refine lv_iload_n hx hb dX11_uneven_6 rfl (lv_at hl 0 rfl) ?_
  refine x_if_eq (tgt := 12) hx hb (by omega) dX11_uneven_7 (by decide) (fun c_7 => ?_) (fun c_7 => ?_)
  · have hw0 := zWp_0 (n := n) (c := c0) (by omega)
    refine lv_aload_n hx hb dX11_uneven_12 rfl (lv_at hl 1 rfl) ?_
    refine x_get (C := RX11) (T := TX11) (N := 11) hx hb hts hin_X11 hown hK hP (0) (by decide) hx0 rfl 5 (by decide) hw_0 (fun _ h9 => h9) rfl dX11_uneven_13 ?_
    refine lv_aload_n hx hb dX11_uneven_16 rfl (lv_at hl 1 rfl) ?_
    refine x_get (C := RX11) (T := TX11) (N := 11) hx hb hts hin_X11 hown hK hP (0) (by decide) hx0 rfl 0 (by decide) hw_2 (fun _ h9 => h9) rfl dX11_uneven_17 ?_
    refine lv_iload_n hx hb dX11_uneven_20 rfl (lv_at hl 2 rfl) ?_
    refine x_cqv0 (va_runV (As := [.ref (g.2.2 1), .int (iI (c0))]) (rest := []) ⟨hx, hb, hml, hown, hts⟩ (c_X5_search l g σ A wy un hd9 mv hp13 na ra Pa Ga hsa9 hoa n rd P G ⟨hm0, hm1, hm2⟩ hok hH (by omega) (c0) (by omega) Rc h14 Sx h16 hsr hSr Wb h15) (cwV 2 hts gX11_uneven_X5_search rfl rfl rfl (by decide +kernel) ⟨Nat.le_of_ble_eq_true rfl, Nat.le_of_ble_eq_true rfl⟩) (x_preVQ hK hP hD hS hA (x_recv hK hP (i := 13) (by decide) hp13 rfl)) rfl rfl hl.1 rfl (lv_room (Nat.le_of_ble_eq_true rfl)) dX11_uneven_21 ⟨by decide, by decide⟩) hS (fun σ1 H locs hpost hP hD hS => ?_)
    obtain ⟨M_1, p1⟩ := σ1
    obtain ⟨hp0, hfrc, wn_2, un_3, hn_4, mn_5, Rn_6, Wb2, Sx2, hn13, hn14, hn15, hnS, hnr, hn10, hnQ⟩ := hpost
    obtain rfl : p1 = σ.2 := hp0
    have hP : xP g (M_1, σ.2) H := hP
    have hD : xD g A (M_1, σ.2) := hD
    have hx0 : XObj g M_1 ph tk := (hfrc (0) (by omega)).trans hx0
    have hm0 := (hfrc (1) (by omega)).trans hm0
    have hm1 := (hfrc (2) (by omega)).trans hm1
    have hm2 := (hfrc (3) (by omega)).trans hm2
    have hfr := x_frc (F := fun j => j < 10 ∨ j = 16 ∨ 22 < j) hfr hfrc (fun j h => by have h : j < 10 ∨ j = 16 ∨ 22 < j := h; omega)
    have hp13 : PObj g M_1 wn_2 un_3 hn_4 mn_5 := hn13
    have h14 : MArr g M_1 14 6 Rn_6 := hn14
    have hpt2 : xPt g M_1 σ := by (obtain ⟨n9, r9, P9, G9, q1, q2⟩ := hn10; exact ⟨_, _, _, _, n9, r9, P9, G9, _, Wb2, Sx2, hp13, q1, q2, h14, hn15, (hfrc 16 (by omega)).trans h16, hnS, hnr⟩)
    have hz1 := hnQ.1; have hz2 := hnQ.2.1; have hz3 := hnQ.2.2.1; have hz4 := hnQ.2.2.2.1
    refine lv_aload_n hx hb dX11_uneven_24 rfl (lv_at hl 1 rfl) ?_
    refine x_get (C := RX11) (T := TX11) (N := 11) hx hb hts hin_X11 hown hK hP (0) (by decide) hx0 rfl 5 (by decide) hw_0 (fun _ h9 => h9) rfl dX11_uneven_25 ?_
    refine x_get (C := RX5) (T := TX5) (N := 8) hx hb hts hin_X5 hown hK hP (13) (by decide) hp13 rfl 0 (by decide) hw_3 (fun _ h9 => h9) rfl dX11_uneven_28 ?_
    refine x_if_ne (tgt := 39) hx hb (by omega) dX11_uneven_31 (by decide) (fun c_31 => ?_) (fun c_31 => ?_)
    · refine lv_aload_n hx hb dX11_uneven_39 rfl (lv_at hl 1 rfl) ?_
      refine x_get (C := RX11) (T := TX11) (N := 11) hx hb hts hin_X11 hown hK hP (0) (by decide) hx0 rfl 5 (by decide) hw_0 (fun _ h9 => h9) rfl dX11_uneven_40 ?_
      refine x_get (C := RX5) (T := TX5) (N := 8) hx hb hts hin_X5 hown hK hP (13) (by decide) hp13 rfl 1 (by decide) hw_5 (fun _ h9 => h9) rfl dX11_uneven_43 ?_
      refine x_retQ hx hb hr (by omega) ?_ hP hD hS dX11_uneven_46 hlocks
      have hQ9 := (hnQ.2.2.2.2.2 (-4)).2
      refine ⟨rfl, hfr, ?_, hpt2⟩
      unfold zUneven; rw [if_neg (by omega)]
      rcases hQ9 with ⟨w0, w1, w2, w3⟩ | ⟨w0, w1, w2, w3, w4⟩
      · first | (exfalso; omega) | (have w5 := congrArg (fun q : Int × Int × Int × Int => q.1) w1; exact w5.symm)
      · first | (exfalso; omega) | exact (w1).symm
    · refine x_bipush (n := -4) hx hb (by decide +kernel) dX11_uneven_34 ?_
      refine lv_goto (tgt := 46) hx hb dX11_uneven_36 (by decide) ?_
      refine x_retQ hx hb hr (by omega) ?_ hP hD hS dX11_uneven_46 hlocks
      have hQ9 := (hnQ.2.2.2.2.2 (-4)).2
      refine ⟨rfl, hfr, ?_, hpt2⟩
      unfold zUneven; rw [if_neg (by omega)]
      rcases hQ9 with ⟨w0, w1, w2, w3⟩ | ⟨w0, w1, w2, w3, w4⟩
      · first | (exfalso; omega) | (have w5 := congrArg (fun q : Int × Int × Int × Int => q.1) w1; exact w5.symm)
      · first | (exfalso; omega) | exact (w1).symm
  · refine lv_iload_n hx hb dX11_uneven_10 rfl (lv_at hl 0 rfl) ?_
    refine x_retQ hx hb hr (by omega) ?_ hP hD hS dX11_uneven_11 hlocks
    refine ⟨rfl, hfr, by (unfold zUneven; first | (rw [if_pos (by omega)]; done) | (rw [if_pos (by omega)]; exact qr_2) | (rw [if_neg (by omega), if_pos (by omega)]; done) | (rw [if_neg (by omega), if_pos (by omega)]; exact qr_2)), hpt0⟩

set_option maxHeartbeats 4000000 in
set_option maxRecDepth 100000 in
theorem c_X11_richest (l : Launch) (g : xG) (σ : xS) (A : Nat → Prop) (ph : Nat) (tk : Int) (hx0 : XObj g σ.1 ph tk) (n rd : Int) (P : Int → Int) (G : Int → Option Nat) (hst : StAt g σ.1 1 n rd P G) (hok : StOk σ n rd P G) (hH : HsOk σ) (hpt : xPt g σ.1 σ) (c0 : Int) (hc0 : inR c0) (h : Int) (hh : inR h) : Met l yX11_richest wsX11_richest ({ frames := 17, cells := 0, slots := 0, locals := 544 }) (va_Pc [.ref (g.2.2 0), .int (iI (c0)), .int (iI (h))] (xPreQ g A σ)) (x_Qi g A (fun r σ1 => σ1.2 = σ.2 ∧ (∀ j, j < 10 ∨ j = 16 ∨ 22 < j → σ1.1 j = σ.1 j) ∧ r = zRichest (sK σ G) (sF σ G) P n rd c0 h ∧ xPt g σ1.1 σ)) (0) (0) A := by
  refine Met.ofW (cc := cX11_richest) (maxL := 4) (ret := (some .int)) (by decide) rfl ?_
  intro p e s m args below meth c s₁ B hml hv
  obtain ⟨rfl, hP, hK, hD, hA⟩ := hv
  have hx := B.exec
  have hb := B.bytes
  have hr := B.returns
  have hts := atoms_spec (ws := wsX11_richest) B.pre
  have hown : s.vm.findClass RX11 = some m.cls := findClass_of_methodNamed B.named
  have hlocks := B.notSynchronized
  have hS : va_S A s.heap s.heap [] := va_S.rf
  have hfr : ∀ j, (j < 10 ∨ j = 16 ∨ 22 < j) → σ.1 j = σ.1 j := fun _ _ => rfl
  have hl := lv_entry ([.ref (g.2.2 0), .int (iI (c0)), .int (iI (h))]) (n := 4) (Nat.le_of_ble_eq_true rfl)
  rw [lg_entry_eq]
  generalize (lg_sl ([.ref (g.2.2 0), .int (iI (c0)), .int (iI (h))]) ++ List.replicate (4 - (lg_sl ([.ref (g.2.2 0), .int (iI (c0)), .int (iI (h))])).length) Slot.unset).toArray = ls at hl ⊢
  have hl : lv_has ls 4 [(0, .ref (g.2.2 0)), (1, .int (iI (c0))), (2, .int (iI (h)))] := hl
  have hm0 : σ.1 1 = .inr (7, [.ref (g.2.2 2), .ref (g.2.2 3), .int (iI n), .int (iI rd)]) := hst.1
  have hm1 : MRef g σ.1 2 9 G := hst.2.1
  have hm2 : MArr g σ.1 3 9 P := hst.2.2
  have hok1 := hok.1
  have hok2 := hok.2.1
  have hok3 := hok.2.2.1
  have hpt0 := hpt
  obtain ⟨wy, un, hd9, mv, na, ra, Pa, Ga, Rc, Wb, Sx, hp13, hsa9, hoa, h14, h15, h16, hsr, hSr⟩ := hpt
  have hw_0 := hts (.fieldLink RX11 10 "TwiceAsRich" "street" "LTwiceAsRich$Street;") (by decide +kernel)
  have hin_X11 : ∀ w ∈ wsX110, w ∈ wsX11_richest := by decide +kernel
  have hw_2 := hts (.fieldLink RX11 34 "TwiceAsRich" "partings" "LTwiceAsRich$Partings;") (by decide +kernel)
  have hw_3 := hts (.fieldLink RX11 162 "TwiceAsRich$Partings" "ways" "I") (by decide +kernel)
  have hin_X5 : ∀ w ∈ wsX50, w ∈ wsX11_richest := by decide +kernel
  have hw_5 := hts (.fieldLink RX11 168 "TwiceAsRich$Partings" "richest" "[I") (by decide +kernel)
  refine lv_aload_n hx hb dX11_richest_0 rfl (lv_at hl 0 rfl) ?_
  refine x_get (C := RX11) (T := TX11) (N := 11) hx hb hts hin_X11 hown hK hP (0) (by decide) hx0 rfl 0 (by decide) hw_0 (fun _ h9 => h9) rfl dX11_richest_1 ?_
  refine lv_iload_n hx hb dX11_richest_4 rfl (lv_at hl 2 rfl) ?_
  refine x_ci (va_runV (As := [.int (iI (h))]) (rest := []) ⟨hx, hb, hml, hown, hts⟩ (c_X7_has l g σ (1) (by decide) (n) (rd) P G ⟨hm0, hm1, hm2⟩ hok hH (h) (by omega)) (cwV 1 hts gX11_richest_X7_has rfl rfl rfl (by decide +kernel) ⟨Nat.le_of_ble_eq_true rfl, Nat.le_of_ble_eq_true rfl⟩) (x_preV hK hP (x_recv hK hP (i := 1) (by decide) hm0 rfl)) rfl rfl hl.1 rfl (lv_room (Nat.le_of_ble_eq_true rfl)) dX11_richest_5 ⟨Nat.le_of_ble_eq_true rfl, Nat.le_of_ble_eq_true rfl⟩) (fun r_5 hr_5 qr_5 => ?_)
  replace qr_5 : (r_5 = 1 ∧ 0 ≤ (h) ∧ (h) < (n)) ∨ (r_5 = 0 ∧ ¬ (0 ≤ (h) ∧ (h) < (n))) := qr_5
  refine x_if_ne (tgt := 13) hx hb (by omega) dX11_richest_8 (by decide) (fun c_8 => ?_) (fun c_8 => ?_)
  · refine lv_aload_n hx hb dX11_richest_13 rfl (lv_at hl 0 rfl) ?_
    refine lv_iload_n hx hb dX11_richest_14 rfl (lv_at hl 1 rfl) ?_
    refine x_ci (va_runV (As := [.int (iI (c0))]) (rest := []) ⟨hx, hb, hml, hown, hts⟩ (c_X11_partingRefusal l g σ ph tk hx0 n rd P G ⟨hm0, hm1, hm2⟩ hok hH (c0) (by omega)) (cwV 1 hts gX11_richest_X11_partingRefusal rfl rfl rfl (by decide +kernel) ⟨Nat.le_of_ble_eq_true rfl, Nat.le_of_ble_eq_true rfl⟩) (x_preV hK hP (x_recv hK hP (i := 0) (by decide) hx0 rfl)) rfl rfl hl.1 rfl (lv_room (Nat.le_of_ble_eq_true rfl)) dX11_richest_15 ⟨Nat.le_of_ble_eq_true rfl, Nat.le_of_ble_eq_true rfl⟩) (fun r_15 hr_15 qr_15 => ?_)
    replace qr_15 : r_15 = zWp n (c0) := qr_15
    have br_15 := zWp_rng n (c0); rw [← qr_15] at br_15
    refine lv_istore_n (lv' := [(3, .int (iI (r_15))), (0, .ref (g.2.2 0)), (1, .int (iI (c0))), (2, .int (iI (h)))]) hx hb dX11_richest_18 rfl hl (by decide) rfl (fun ls hl => ?_)
    refine lv_iload_n hx hb dX11_richest_19 rfl (lv_at hl 0 rfl) ?_
    refine x_if_eq (tgt := 25) hx hb (by omega) dX11_richest_20 (by decide) (fun c_20 => ?_) (fun c_20 => ?_)
    · have hw0 := zWp_0 (n := n) (c := c0) (by omega)
      refine lv_aload_n hx hb dX11_richest_25 rfl (lv_at hl 1 rfl) ?_
      refine x_get (C := RX11) (T := TX11) (N := 11) hx hb hts hin_X11 hown hK hP (0) (by decide) hx0 rfl 5 (by decide) hw_2 (fun _ h9 => h9) rfl dX11_richest_26 ?_
      refine lv_aload_n hx hb dX11_richest_29 rfl (lv_at hl 1 rfl) ?_
      refine x_get (C := RX11) (T := TX11) (N := 11) hx hb hts hin_X11 hown hK hP (0) (by decide) hx0 rfl 0 (by decide) hw_0 (fun _ h9 => h9) rfl dX11_richest_30 ?_
      refine lv_iload_n hx hb dX11_richest_33 rfl (lv_at hl 2 rfl) ?_
      refine x_cqv0 (va_runV (As := [.ref (g.2.2 1), .int (iI (c0))]) (rest := []) ⟨hx, hb, hml, hown, hts⟩ (c_X5_search l g σ A wy un hd9 mv hp13 na ra Pa Ga hsa9 hoa n rd P G ⟨hm0, hm1, hm2⟩ hok hH (by omega) (c0) (by omega) Rc h14 Sx h16 hsr hSr Wb h15) (cwV 2 hts gX11_richest_X5_search rfl rfl rfl (by decide +kernel) ⟨Nat.le_of_ble_eq_true rfl, Nat.le_of_ble_eq_true rfl⟩) (x_preVQ hK hP hD hS hA (x_recv hK hP (i := 13) (by decide) hp13 rfl)) rfl rfl hl.1 rfl (lv_room (Nat.le_of_ble_eq_true rfl)) dX11_richest_34 ⟨by decide, by decide⟩) hS (fun σ1 H locs hpost hP hD hS => ?_)
      obtain ⟨M_1, p1⟩ := σ1
      obtain ⟨hp0, hfrc, wn_2, un_3, hn_4, mn_5, Rn_6, Wb2, Sx2, hn13, hn14, hn15, hnS, hnr, hn10, hnQ⟩ := hpost
      obtain rfl : p1 = σ.2 := hp0
      have hP : xP g (M_1, σ.2) H := hP
      have hD : xD g A (M_1, σ.2) := hD
      have hx0 : XObj g M_1 ph tk := (hfrc (0) (by omega)).trans hx0
      have hm0 := (hfrc (1) (by omega)).trans hm0
      have hm1 := (hfrc (2) (by omega)).trans hm1
      have hm2 := (hfrc (3) (by omega)).trans hm2
      have hfr := x_frc (F := fun j => j < 10 ∨ j = 16 ∨ 22 < j) hfr hfrc (fun j h => by have h : j < 10 ∨ j = 16 ∨ 22 < j := h; omega)
      have hp13 : PObj g M_1 wn_2 un_3 hn_4 mn_5 := hn13
      have h14 : MArr g M_1 14 6 Rn_6 := hn14
      have hpt2 : xPt g M_1 σ := by (obtain ⟨n9, r9, P9, G9, q1, q2⟩ := hn10; exact ⟨_, _, _, _, n9, r9, P9, G9, _, Wb2, Sx2, hp13, q1, q2, h14, hn15, (hfrc 16 (by omega)).trans h16, hnS, hnr⟩)
      have hz1 := hnQ.1; have hz2 := hnQ.2.1; have hz3 := hnQ.2.2.1; have hz4 := hnQ.2.2.2.1
      refine lv_aload_n hx hb dX11_richest_37 rfl (lv_at hl 1 rfl) ?_
      refine x_get (C := RX11) (T := TX11) (N := 11) hx hb hts hin_X11 hown hK hP (0) (by decide) hx0 rfl 5 (by decide) hw_2 (fun _ h9 => h9) rfl dX11_richest_38 ?_
      refine x_get (C := RX5) (T := TX5) (N := 8) hx hb hts hin_X5 hown hK hP (13) (by decide) hp13 rfl 0 (by decide) hw_3 (fun _ h9 => h9) rfl dX11_richest_41 ?_
      refine x_if_ne (tgt := 52) hx hb (by omega) dX11_richest_44 (by decide) (fun c_44 => ?_) (fun c_44 => ?_)
      · refine lv_aload_n hx hb dX11_richest_52 rfl (lv_at hl 1 rfl) ?_
        refine x_get (C := RX11) (T := TX11) (N := 11) hx hb hts hin_X11 hown hK hP (0) (by decide) hx0 rfl 5 (by decide) hw_2 (fun _ h9 => h9) rfl dX11_richest_53 ?_
        refine x_get (C := RX5) (T := TX5) (N := 8) hx hb hts hin_X5 hown hK hP (13) (by decide) hp13 rfl 4 (by decide) hw_5 (fun _ h9 => h9) rfl dX11_richest_56 ?_
        refine lv_iload_n hx hb dX11_richest_59 rfl (lv_at hl 3 rfl) ?_
        refine x_iald (f := Rn_6) hx hb hK hP (14) (by decide) h14 (by omega) (by omega) (by decide) dX11_richest_60 ?_
        have hb_7 := hnQ.2.2.2.2.1 (h) (by omega) (by omega)
        refine x_retQ hx hb hr (by omega) ?_ hP hD hS dX11_richest_61 hlocks
        have hQ9 := (hnQ.2.2.2.2.2 (h)).2
        refine ⟨rfl, hfr, ?_, hpt2⟩
        unfold zRichest; rw [if_neg (by omega), if_neg (by omega)]
        rcases hQ9 with ⟨w0, w1, w2, w3⟩ | ⟨w0, w1, w2, w3, w4⟩
        · first | (exfalso; omega) | (have w5 := congrArg (fun q : Int × Int × Int × Int => q.2.1) w1; exact w5.symm)
        · first | (exfalso; omega) | exact (w2 (by omega)).symm
      · refine x_bipush (n := -4) hx hb (by decide +kernel) dX11_richest_47 ?_
        refine lv_goto (tgt := 61) hx hb dX11_richest_49 (by decide) ?_
        refine x_retQ hx hb hr (by omega) ?_ hP hD hS dX11_richest_61 hlocks
        have hQ9 := (hnQ.2.2.2.2.2 (h)).2
        refine ⟨rfl, hfr, ?_, hpt2⟩
        unfold zRichest; rw [if_neg (by omega), if_neg (by omega)]
        rcases hQ9 with ⟨w0, w1, w2, w3⟩ | ⟨w0, w1, w2, w3, w4⟩
        · first | (exfalso; omega) | (have w5 := congrArg (fun q : Int × Int × Int × Int => q.2.1) w1; exact w5.symm)
        · first | (exfalso; omega) | exact (w2 (by omega)).symm
    · refine lv_iload_n hx hb dX11_richest_23 rfl (lv_at hl 0 rfl) ?_
      refine x_retQ hx hb hr (by omega) ?_ hP hD hS dX11_richest_24 hlocks
      refine ⟨rfl, hfr, by (unfold zRichest; first | (rw [if_pos (by omega)]; done) | (rw [if_pos (by omega)]; exact qr_15) | (rw [if_neg (by omega), if_pos (by omega)]; done) | (rw [if_neg (by omega), if_pos (by omega)]; exact qr_15)), hpt0⟩
  · refine x_iconst hx hb dX11_richest_11 ?_
    refine x_retQ hx hb hr (by omega) ?_ hP hD hS dX11_richest_12 hlocks
    refine ⟨rfl, hfr, by (unfold zRichest; first | (rw [if_pos (by omega)]; done) | (rw [if_pos (by omega)]; exact qr_15) | (rw [if_neg (by omega), if_pos (by omega)]; done) | (rw [if_neg (by omega), if_pos (by omega)]; exact qr_15)), hpt0⟩

set_option maxHeartbeats 4000000 in
set_option maxRecDepth 100000 in
theorem c_X11_hands (l : Launch) (g : xG) (σ : xS) (A : Nat → Prop) (ph : Nat) (tk : Int) (hx0 : XObj g σ.1 ph tk) (n rd : Int) (P : Int → Int) (G : Int → Option Nat) (hst : StAt g σ.1 1 n rd P G) (hok : StOk σ n rd P G) (hH : HsOk σ) (hpt : xPt g σ.1 σ) : Met l yX11_hands wsX11_hands ({ frames := 17, cells := 0, slots := 0, locals := 544 }) (va_Pc [.ref (g.2.2 0)] (xPreQ g A σ)) (x_Qi g A (fun r σ1 => σ1.2 = σ.2 ∧ (∀ j, j < 10 ∨ j = 16 ∨ 22 < j → σ1.1 j = σ.1 j) ∧ r = zHands (sK σ G) (sF σ G) P n rd ∧ xPt g σ1.1 σ)) (0) (0) A := by
  refine Met.ofW (cc := cX11_hands) (maxL := 1) (ret := (some .int)) (by decide) rfl ?_
  intro p e s m args below meth c s₁ B hml hv
  obtain ⟨rfl, hP, hK, hD, hA⟩ := hv
  have hx := B.exec
  have hb := B.bytes
  have hr := B.returns
  have hts := atoms_spec (ws := wsX11_hands) B.pre
  have hown : s.vm.findClass RX11 = some m.cls := findClass_of_methodNamed B.named
  have hlocks := B.notSynchronized
  have hS : va_S A s.heap s.heap [] := va_S.rf
  have hfr : ∀ j, (j < 10 ∨ j = 16 ∨ 22 < j) → σ.1 j = σ.1 j := fun _ _ => rfl
  have hl := lv_entry ([.ref (g.2.2 0)]) (n := 1) (Nat.le_of_ble_eq_true rfl)
  rw [lg_entry_eq]
  generalize (lg_sl ([.ref (g.2.2 0)]) ++ List.replicate (1 - (lg_sl ([.ref (g.2.2 0)])).length) Slot.unset).toArray = ls at hl ⊢
  have hl : lv_has ls 1 [(0, .ref (g.2.2 0))] := hl
  have hm0 : σ.1 1 = .inr (7, [.ref (g.2.2 2), .ref (g.2.2 3), .int (iI n), .int (iI rd)]) := hst.1
  have hm1 : MRef g σ.1 2 9 G := hst.2.1
  have hm2 : MArr g σ.1 3 9 P := hst.2.2
  have hok1 := hok.1
  have hok2 := hok.2.1
  have hok3 := hok.2.2.1
  have hpt0 := hpt
  obtain ⟨wy, un, hd9, mv, na, ra, Pa, Ga, Rc, Wb, Sx, hp13, hsa9, hoa, h14, h15, h16, hsr, hSr⟩ := hpt
  have hw_0 := hts (.fieldLink RX11 34 "TwiceAsRich" "partings" "LTwiceAsRich$Partings;") (by decide +kernel)
  have hin_X11 : ∀ w ∈ wsX110, w ∈ wsX11_hands := by decide +kernel
  have hw_2 := hts (.fieldLink RX11 10 "TwiceAsRich" "street" "LTwiceAsRich$Street;") (by decide +kernel)
  have hw_3 := hts (.fieldLink RX11 162 "TwiceAsRich$Partings" "ways" "I") (by decide +kernel)
  have hin_X5 : ∀ w ∈ wsX50, w ∈ wsX11_hands := by decide +kernel
  have hw_5 := hts (.fieldLink RX11 174 "TwiceAsRich$Partings" "hands" "I") (by decide +kernel)
  refine lv_aload_n hx hb dX11_hands_0 rfl (lv_at hl 0 rfl) ?_
  refine x_ci (va_runV (As := []) (rest := []) ⟨hx, hb, hml, hown, hts⟩ (c_X11_canBeParted l g σ ph tk hx0 n rd P G ⟨hm0, hm1, hm2⟩ hok hH) (cwV 0 hts gX11_hands_X11_canBeParted rfl rfl rfl (by decide +kernel) ⟨Nat.le_of_ble_eq_true rfl, Nat.le_of_ble_eq_true rfl⟩) (x_preV hK hP (x_recv hK hP (i := 0) (by decide) hx0 rfl)) rfl rfl hl.1 rfl (lv_room (Nat.le_of_ble_eq_true rfl)) dX11_hands_1 ⟨Nat.le_of_ble_eq_true rfl, Nat.le_of_ble_eq_true rfl⟩) (fun r_1 hr_1 qr_1 => ?_)
  replace qr_1 : (r_1 = 1 ∧ ¬ (6 < n ∨ 20 < zSum P n.toNat)) ∨ (r_1 = 0 ∧ (6 < n ∨ 20 < zSum P n.toNat)) := qr_1
  refine x_if_ne (tgt := 10) hx hb (by omega) dX11_hands_4 (by decide) (fun c_4 => ?_) (fun c_4 => ?_)
  · refine lv_aload_n hx hb dX11_hands_10 rfl (lv_at hl 0 rfl) ?_
    refine x_get (C := RX11) (T := TX11) (N := 11) hx hb hts hin_X11 hown hK hP (0) (by decide) hx0 rfl 5 (by decide) hw_0 (fun _ h9 => h9) rfl dX11_hands_11 ?_
    refine lv_aload_n hx hb dX11_hands_14 rfl (lv_at hl 0 rfl) ?_
    refine x_get (C := RX11) (T := TX11) (N := 11) hx hb hts hin_X11 hown hK hP (0) (by decide) hx0 rfl 0 (by decide) hw_2 (fun _ h9 => h9) rfl dX11_hands_15 ?_
    refine lv_aload_n hx hb dX11_hands_18 rfl (lv_at hl 0 rfl) ?_
    refine x_get (C := RX11) (T := TX11) (N := 11) hx hb hts hin_X11 hown hK hP (0) (by decide) hx0 rfl 0 (by decide) hw_2 (fun _ h9 => h9) rfl dX11_hands_19 ?_
    refine x_ci (va_runV (As := []) (rest := [.ref (g.2.2 1), .ref (g.2.2 13)]) ⟨hx, hb, hml, hown, hts⟩ (c_X7_allCoins l g σ (1) (by decide) (n) (rd) P G ⟨hm0, hm1, hm2⟩ hok hH ) (cwV 0 hts gX11_hands_X7_allCoins rfl rfl rfl (by decide +kernel) ⟨Nat.le_of_ble_eq_true rfl, Nat.le_of_ble_eq_true rfl⟩) (x_preV hK hP (x_recv hK hP (i := 1) (by decide) hm0 rfl)) rfl rfl hl.1 rfl (lv_room (Nat.le_of_ble_eq_true rfl)) dX11_hands_22 ⟨Nat.le_of_ble_eq_true rfl, Nat.le_of_ble_eq_true rfl⟩) (fun r_22 hr_22 qr_22 => ?_)
    replace qr_22 : r_22 = zSum (P) ((n)).toNat ∧ 0 ≤ r_22 ∧ r_22 ≤ 99999 := qr_22
    refine x_cqv0 (va_runV (As := [.ref (g.2.2 1), .int (iI (r_22))]) (rest := []) ⟨hx, hb, hml, hown, hts⟩ (c_X5_search l g σ A wy un hd9 mv hp13 na ra Pa Ga hsa9 hoa n rd P G ⟨hm0, hm1, hm2⟩ hok hH (by omega) (r_22) (by omega) Rc h14 Sx h16 hsr hSr Wb h15) (cwV 2 hts gX11_hands_X5_search rfl rfl rfl (by decide +kernel) ⟨Nat.le_of_ble_eq_true rfl, Nat.le_of_ble_eq_true rfl⟩) (x_preVQ hK hP hD hS hA (x_recv hK hP (i := 13) (by decide) hp13 rfl)) rfl rfl hl.1 rfl (lv_room (Nat.le_of_ble_eq_true rfl)) dX11_hands_25 ⟨by decide, by decide⟩) hS (fun σ1 H locs hpost hP hD hS => ?_)
    obtain ⟨M_1, p1⟩ := σ1
    obtain ⟨hp0, hfrc, wn_2, un_3, hn_4, mn_5, Rn_6, Wb2, Sx2, hn13, hn14, hn15, hnS, hnr, hn10, hnQ⟩ := hpost
    obtain rfl : p1 = σ.2 := hp0
    have hP : xP g (M_1, σ.2) H := hP
    have hD : xD g A (M_1, σ.2) := hD
    have hx0 : XObj g M_1 ph tk := (hfrc (0) (by omega)).trans hx0
    have hm0 := (hfrc (1) (by omega)).trans hm0
    have hm1 := (hfrc (2) (by omega)).trans hm1
    have hm2 := (hfrc (3) (by omega)).trans hm2
    have hfr := x_frc (F := fun j => j < 10 ∨ j = 16 ∨ 22 < j) hfr hfrc (fun j h => by have h : j < 10 ∨ j = 16 ∨ 22 < j := h; omega)
    have hp13 : PObj g M_1 wn_2 un_3 hn_4 mn_5 := hn13
    have h14 : MArr g M_1 14 6 Rn_6 := hn14
    have hpt2 : xPt g M_1 σ := by (obtain ⟨n9, r9, P9, G9, q1, q2⟩ := hn10; exact ⟨_, _, _, _, n9, r9, P9, G9, _, Wb2, Sx2, hp13, q1, q2, h14, hn15, (hfrc 16 (by omega)).trans h16, hnS, hnr⟩)
    have hz1 := hnQ.1; have hz2 := hnQ.2.1; have hz3 := hnQ.2.2.1; have hz4 := hnQ.2.2.2.1
    refine lv_aload_n hx hb dX11_hands_28 rfl (lv_at hl 0 rfl) ?_
    refine x_get (C := RX11) (T := TX11) (N := 11) hx hb hts hin_X11 hown hK hP (0) (by decide) hx0 rfl 5 (by decide) hw_0 (fun _ h9 => h9) rfl dX11_hands_29 ?_
    refine x_get (C := RX5) (T := TX5) (N := 8) hx hb hts hin_X5 hown hK hP (13) (by decide) hp13 rfl 0 (by decide) hw_3 (fun _ h9 => h9) rfl dX11_hands_32 ?_
    refine x_if_ne (tgt := 43) hx hb (by omega) dX11_hands_35 (by decide) (fun c_35 => ?_) (fun c_35 => ?_)
    · refine lv_aload_n hx hb dX11_hands_43 rfl (lv_at hl 0 rfl) ?_
      refine x_get (C := RX11) (T := TX11) (N := 11) hx hb hts hin_X11 hown hK hP (0) (by decide) hx0 rfl 5 (by decide) hw_0 (fun _ h9 => h9) rfl dX11_hands_44 ?_
      refine x_get (C := RX5) (T := TX5) (N := 8) hx hb hts hin_X5 hown hK hP (13) (by decide) hp13 rfl 2 (by decide) hw_5 (fun _ h9 => h9) rfl dX11_hands_47 ?_
      refine x_retQ hx hb hr (by omega) ?_ hP hD hS dX11_hands_50 hlocks
      have hQ9 := (hnQ.2.2.2.2.2 (-4)).2
      refine ⟨rfl, hfr, ?_, hpt2⟩
      unfold zHands; rw [if_neg (by omega), ← qr_22.1]
      rcases hQ9 with ⟨w0, w1, w2, w3⟩ | ⟨w0, w1, w2, w3, w4⟩
      · first | (exfalso; omega) | (have w5 := congrArg (fun q : Int × Int × Int × Int => q.2.2.1) w1; exact w5.symm)
      · first | (exfalso; omega) | exact (w3).symm
    · refine x_bipush (n := -4) hx hb (by decide +kernel) dX11_hands_38 ?_
      refine lv_goto (tgt := 50) hx hb dX11_hands_40 (by decide) ?_
      refine x_retQ hx hb hr (by omega) ?_ hP hD hS dX11_hands_50 hlocks
      have hQ9 := (hnQ.2.2.2.2.2 (-4)).2
      refine ⟨rfl, hfr, ?_, hpt2⟩
      unfold zHands; rw [if_neg (by omega), ← qr_22.1]
      rcases hQ9 with ⟨w0, w1, w2, w3⟩ | ⟨w0, w1, w2, w3, w4⟩
      · first | (exfalso; omega) | (have w5 := congrArg (fun q : Int × Int × Int × Int => q.2.2.1) w1; exact w5.symm)
      · first | (exfalso; omega) | exact (w3).symm
  · refine x_bipush (n := -3) hx hb (by decide +kernel) dX11_hands_7 ?_
    refine x_retQ hx hb hr (by omega) ?_ hP hD hS dX11_hands_9 hlocks
    refine ⟨rfl, hfr, by (unfold zHands; rw [if_pos (by omega)]), hpt0⟩

set_option maxHeartbeats 4000000 in
set_option maxRecDepth 100000 in
theorem c_X11_any (l : Launch) (g : xG) (σ : xS) (A : Nat → Prop) (ph : Nat) (tk : Int) (hx0 : XObj g σ.1 ph tk) (n rd : Int) (P : Int → Int) (G : Int → Option Nat) (hst : StAt g σ.1 1 n rd P G) (hok : StOk σ n rd P G) (hH : HsOk σ) (hpt : xPt g σ.1 σ) : Met l yX11_any wsX11_any ({ frames := 17, cells := 0, slots := 0, locals := 544 }) (va_Pc [.ref (g.2.2 0)] (xPreQ g A σ)) (x_Qi g A (fun r σ1 => σ1.2 = σ.2 ∧ (∀ j, j < 10 ∨ j = 16 ∨ 22 < j → σ1.1 j = σ.1 j) ∧ r = zAny (sK σ G) (sF σ G) P n rd ∧ xPt g σ1.1 σ)) (0) (0) A := by
  refine Met.ofW (cc := cX11_any) (maxL := 1) (ret := (some .int)) (by decide) rfl ?_
  intro p e s m args below meth c s₁ B hml hv
  obtain ⟨rfl, hP, hK, hD, hA⟩ := hv
  have hx := B.exec
  have hb := B.bytes
  have hr := B.returns
  have hts := atoms_spec (ws := wsX11_any) B.pre
  have hown : s.vm.findClass RX11 = some m.cls := findClass_of_methodNamed B.named
  have hlocks := B.notSynchronized
  have hS : va_S A s.heap s.heap [] := va_S.rf
  have hfr : ∀ j, (j < 10 ∨ j = 16 ∨ 22 < j) → σ.1 j = σ.1 j := fun _ _ => rfl
  have hl := lv_entry ([.ref (g.2.2 0)]) (n := 1) (Nat.le_of_ble_eq_true rfl)
  rw [lg_entry_eq]
  generalize (lg_sl ([.ref (g.2.2 0)]) ++ List.replicate (1 - (lg_sl ([.ref (g.2.2 0)])).length) Slot.unset).toArray = ls at hl ⊢
  have hl : lv_has ls 1 [(0, .ref (g.2.2 0))] := hl
  have hm0 : σ.1 1 = .inr (7, [.ref (g.2.2 2), .ref (g.2.2 3), .int (iI n), .int (iI rd)]) := hst.1
  have hm1 : MRef g σ.1 2 9 G := hst.2.1
  have hm2 : MArr g σ.1 3 9 P := hst.2.2
  have hok1 := hok.1
  have hok2 := hok.2.1
  have hok3 := hok.2.2.1
  have hpt0 := hpt
  obtain ⟨wy, un, hd9, mv, na, ra, Pa, Ga, Rc, Wb, Sx, hp13, hsa9, hoa, h14, h15, h16, hsr, hSr⟩ := hpt
  have hw_0 := hts (.fieldLink RX11 34 "TwiceAsRich" "partings" "LTwiceAsRich$Partings;") (by decide +kernel)
  have hin_X11 : ∀ w ∈ wsX110, w ∈ wsX11_any := by decide +kernel
  have hw_2 := hts (.fieldLink RX11 10 "TwiceAsRich" "street" "LTwiceAsRich$Street;") (by decide +kernel)
  have hw_3 := hts (.fieldLink RX11 162 "TwiceAsRich$Partings" "ways" "I") (by decide +kernel)
  have hin_X5 : ∀ w ∈ wsX50, w ∈ wsX11_any := by decide +kernel
  have hw_5 := hts (.fieldLink RX11 177 "TwiceAsRich$Partings" "moved" "I") (by decide +kernel)
  refine lv_aload_n hx hb dX11_any_0 rfl (lv_at hl 0 rfl) ?_
  refine x_ci (va_runV (As := []) (rest := []) ⟨hx, hb, hml, hown, hts⟩ (c_X11_canBeParted l g σ ph tk hx0 n rd P G ⟨hm0, hm1, hm2⟩ hok hH) (cwV 0 hts gX11_any_X11_canBeParted rfl rfl rfl (by decide +kernel) ⟨Nat.le_of_ble_eq_true rfl, Nat.le_of_ble_eq_true rfl⟩) (x_preV hK hP (x_recv hK hP (i := 0) (by decide) hx0 rfl)) rfl rfl hl.1 rfl (lv_room (Nat.le_of_ble_eq_true rfl)) dX11_any_1 ⟨Nat.le_of_ble_eq_true rfl, Nat.le_of_ble_eq_true rfl⟩) (fun r_1 hr_1 qr_1 => ?_)
  replace qr_1 : (r_1 = 1 ∧ ¬ (6 < n ∨ 20 < zSum P n.toNat)) ∨ (r_1 = 0 ∧ (6 < n ∨ 20 < zSum P n.toNat)) := qr_1
  refine x_if_ne (tgt := 10) hx hb (by omega) dX11_any_4 (by decide) (fun c_4 => ?_) (fun c_4 => ?_)
  · refine lv_aload_n hx hb dX11_any_10 rfl (lv_at hl 0 rfl) ?_
    refine x_get (C := RX11) (T := TX11) (N := 11) hx hb hts hin_X11 hown hK hP (0) (by decide) hx0 rfl 5 (by decide) hw_0 (fun _ h9 => h9) rfl dX11_any_11 ?_
    refine lv_aload_n hx hb dX11_any_14 rfl (lv_at hl 0 rfl) ?_
    refine x_get (C := RX11) (T := TX11) (N := 11) hx hb hts hin_X11 hown hK hP (0) (by decide) hx0 rfl 0 (by decide) hw_2 (fun _ h9 => h9) rfl dX11_any_15 ?_
    refine lv_aload_n hx hb dX11_any_18 rfl (lv_at hl 0 rfl) ?_
    refine x_get (C := RX11) (T := TX11) (N := 11) hx hb hts hin_X11 hown hK hP (0) (by decide) hx0 rfl 0 (by decide) hw_2 (fun _ h9 => h9) rfl dX11_any_19 ?_
    refine x_ci (va_runV (As := []) (rest := [.ref (g.2.2 1), .ref (g.2.2 13)]) ⟨hx, hb, hml, hown, hts⟩ (c_X7_allCoins l g σ (1) (by decide) (n) (rd) P G ⟨hm0, hm1, hm2⟩ hok hH ) (cwV 0 hts gX11_any_X7_allCoins rfl rfl rfl (by decide +kernel) ⟨Nat.le_of_ble_eq_true rfl, Nat.le_of_ble_eq_true rfl⟩) (x_preV hK hP (x_recv hK hP (i := 1) (by decide) hm0 rfl)) rfl rfl hl.1 rfl (lv_room (Nat.le_of_ble_eq_true rfl)) dX11_any_22 ⟨Nat.le_of_ble_eq_true rfl, Nat.le_of_ble_eq_true rfl⟩) (fun r_22 hr_22 qr_22 => ?_)
    replace qr_22 : r_22 = zSum (P) ((n)).toNat ∧ 0 ≤ r_22 ∧ r_22 ≤ 99999 := qr_22
    refine x_cqv0 (va_runV (As := [.ref (g.2.2 1), .int (iI (r_22))]) (rest := []) ⟨hx, hb, hml, hown, hts⟩ (c_X5_search l g σ A wy un hd9 mv hp13 na ra Pa Ga hsa9 hoa n rd P G ⟨hm0, hm1, hm2⟩ hok hH (by omega) (r_22) (by omega) Rc h14 Sx h16 hsr hSr Wb h15) (cwV 2 hts gX11_any_X5_search rfl rfl rfl (by decide +kernel) ⟨Nat.le_of_ble_eq_true rfl, Nat.le_of_ble_eq_true rfl⟩) (x_preVQ hK hP hD hS hA (x_recv hK hP (i := 13) (by decide) hp13 rfl)) rfl rfl hl.1 rfl (lv_room (Nat.le_of_ble_eq_true rfl)) dX11_any_25 ⟨by decide, by decide⟩) hS (fun σ1 H locs hpost hP hD hS => ?_)
    obtain ⟨M_1, p1⟩ := σ1
    obtain ⟨hp0, hfrc, wn_2, un_3, hn_4, mn_5, Rn_6, Wb2, Sx2, hn13, hn14, hn15, hnS, hnr, hn10, hnQ⟩ := hpost
    obtain rfl : p1 = σ.2 := hp0
    have hP : xP g (M_1, σ.2) H := hP
    have hD : xD g A (M_1, σ.2) := hD
    have hx0 : XObj g M_1 ph tk := (hfrc (0) (by omega)).trans hx0
    have hm0 := (hfrc (1) (by omega)).trans hm0
    have hm1 := (hfrc (2) (by omega)).trans hm1
    have hm2 := (hfrc (3) (by omega)).trans hm2
    have hfr := x_frc (F := fun j => j < 10 ∨ j = 16 ∨ 22 < j) hfr hfrc (fun j h => by have h : j < 10 ∨ j = 16 ∨ 22 < j := h; omega)
    have hp13 : PObj g M_1 wn_2 un_3 hn_4 mn_5 := hn13
    have h14 : MArr g M_1 14 6 Rn_6 := hn14
    have hpt2 : xPt g M_1 σ := by (obtain ⟨n9, r9, P9, G9, q1, q2⟩ := hn10; exact ⟨_, _, _, _, n9, r9, P9, G9, _, Wb2, Sx2, hp13, q1, q2, h14, hn15, (hfrc 16 (by omega)).trans h16, hnS, hnr⟩)
    have hz1 := hnQ.1; have hz2 := hnQ.2.1; have hz3 := hnQ.2.2.1; have hz4 := hnQ.2.2.2.1
    refine lv_aload_n hx hb dX11_any_28 rfl (lv_at hl 0 rfl) ?_
    refine x_get (C := RX11) (T := TX11) (N := 11) hx hb hts hin_X11 hown hK hP (0) (by decide) hx0 rfl 5 (by decide) hw_0 (fun _ h9 => h9) rfl dX11_any_29 ?_
    refine x_get (C := RX5) (T := TX5) (N := 8) hx hb hts hin_X5 hown hK hP (13) (by decide) hp13 rfl 0 (by decide) hw_3 (fun _ h9 => h9) rfl dX11_any_32 ?_
    refine x_if_ne (tgt := 43) hx hb (by omega) dX11_any_35 (by decide) (fun c_35 => ?_) (fun c_35 => ?_)
    · refine lv_aload_n hx hb dX11_any_43 rfl (lv_at hl 0 rfl) ?_
      refine x_get (C := RX11) (T := TX11) (N := 11) hx hb hts hin_X11 hown hK hP (0) (by decide) hx0 rfl 5 (by decide) hw_0 (fun _ h9 => h9) rfl dX11_any_44 ?_
      refine x_get (C := RX5) (T := TX5) (N := 8) hx hb hts hin_X5 hown hK hP (13) (by decide) hp13 rfl 3 (by decide) hw_5 (fun _ h9 => h9) rfl dX11_any_47 ?_
      refine x_retQ hx hb hr (by omega) ?_ hP hD hS dX11_any_50 hlocks
      have hQ9 := (hnQ.2.2.2.2.2 (-4)).2
      refine ⟨rfl, hfr, ?_, hpt2⟩
      unfold zAny; rw [if_neg (by omega), ← qr_22.1]
      rcases hQ9 with ⟨w0, w1, w2, w3⟩ | ⟨w0, w1, w2, w3, w4⟩
      · first | (exfalso; omega) | (have w5 := congrArg (fun q : Int × Int × Int × Int => q.2.2.2) w1; exact w5.symm)
      · first | (exfalso; omega) | exact (w4).symm
    · refine x_bipush (n := -4) hx hb (by decide +kernel) dX11_any_38 ?_
      refine lv_goto (tgt := 50) hx hb dX11_any_40 (by decide) ?_
      refine x_retQ hx hb hr (by omega) ?_ hP hD hS dX11_any_50 hlocks
      have hQ9 := (hnQ.2.2.2.2.2 (-4)).2
      refine ⟨rfl, hfr, ?_, hpt2⟩
      unfold zAny; rw [if_neg (by omega), ← qr_22.1]
      rcases hQ9 with ⟨w0, w1, w2, w3⟩ | ⟨w0, w1, w2, w3, w4⟩
      · first | (exfalso; omega) | (have w5 := congrArg (fun q : Int × Int × Int × Int => q.2.2.2) w1; exact w5.symm)
      · first | (exfalso; omega) | exact (w4).symm
  · refine x_bipush (n := -3) hx hb (by decide +kernel) dX11_any_7 ?_
    refine x_retQ hx hb hr (by omega) ?_ hP hD hS dX11_any_9 hlocks
    refine ⟨rfl, hfr, by (unfold zAny; rw [if_pos (by omega)]), hpt0⟩
