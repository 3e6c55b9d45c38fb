theorem zBehind_ne {n rd i : Int} (h0 : 0 ≤ i) (h1 : i < n) : zBehind n rd i ≠ i := by
  unfold zBehind; split
  · omega
  · split <;> omega
theorem zRl_0 {n : Int} {Rc : Int → Int} (h : ∀ i, 0 ≤ i → i ≤ 5 → Rc i = 0) : zRl n 0 0 0 0 Rc (fun _ => (0, -4, -4, -4, -4)) :=
  ⟨by omega, by omega, by omega, by omega, fun i a b => by rw [h i a b]; omega, fun _ => ⟨rfl, Or.inl ⟨rfl, rfl, rfl, h⟩⟩⟩
theorem zPth_0 {K : Int → Nat} {F P : Int → Int} {c lf : Int} : zPth K F P c 0 lf := ⟨fun i a b => by omega, fun i j a b => by omega, fun i a b => by omega⟩
theorem zPart_cls {K K2 : Int → Nat} {F F2 P P2 W : Int → Int} {n rd o c : Int} (hn : 0 ≤ n) (h : zSame K K2 F F2 W P2 n) : zParts (zNote K F W n rd o) (n - 0).toNat 0 c P (0, -4, -4, -4, -4) = zPart K2 F2 P2 n rd o c := by
  unfold zPart
  rw [show (n - 0).toNat = n.toNat by omega]
  exact zParts_congr (n := n) (zNote_localK h) _ _ _ _ _ _ (by omega) (fun i a b => by omega)

set_option maxHeartbeats 4000000 in
set_option maxRecDepth 100000 in
theorem c_X5_search (l : Launch) (g : xG) (σ : xS) (A : Nat → Prop) (wy un hd9 mv : Int) (hp13 : PObj g σ.1 wy un hd9 mv) (na ra : Int) (Pa : Int → Int) (Ga : Int → Option Nat) (hsa9 : StAt g σ.1 10 na ra Pa Ga) (hoa : StOk σ na ra Pa Ga) (n rd : Int) (P : Int → Int) (G : Int → Option Nat) (hst : StAt g σ.1 1 n rd P G) (hok : StOk σ n rd P G) (hH : HsOk σ) (hn6 : n ≤ 6) (c0 : Int) (hc0 : 0 ≤ c0 ∧ c0 ≤ 20) (Rc : Int → Int) (h14 : MArr g σ.1 14 6 Rc) (Sx0 : Int → Int → Int) (h16 : MGrs g σ.1) (hs0 : ∀ d, 0 ≤ d → d ≤ 5 → MArr g σ.1 (17 + d.toNat) 21 (Sx0 d)) (hSr0 : ∀ d k, inR (Sx0 d k)) (Wb0 : Int → Int) (h15 : MArr g σ.1 15 6 Wb0) : Met l yX5_search wsX5_search ({ frames := 16, cells := 0, slots := 0, locals := 512 }) (va_Pc [.ref (g.2.2 13), .ref (g.2.2 1), .int (iI (c0))] (xPreQ g A σ)) (x_Qv g A (fun σ1 => σ1.2 = σ.2 ∧ (∀ j, j < 10 ∨ j = 16 ∨ 22 < j → σ1.1 j = σ.1 j) ∧ ∃ (wy2 un2 hd2 mv2 : Int) (Rc2 Wb2 : Int → Int) (Sx2 : Int → Int → Int), PObj g σ1.1 wy2 un2 hd2 mv2 ∧ MArr g σ1.1 14 6 Rc2 ∧ MArr g σ1.1 15 6 Wb2 ∧ (∀ d, 0 ≤ d → d ≤ 5 → MArr g σ1.1 (17 + d.toNat) 21 (Sx2 d)) ∧ (∀ d k, inR (Sx2 d k)) ∧ xStr g σ1.1 σ 10 ∧ zRl n wy2 un2 hd2 mv2 Rc2 (fun o => zPart (sK σ G) (sF σ G) P n rd o c0))) (0) (0) A := by
  refine Met.ofW (cc := cX5_search) (maxL := 4) (ret := none) (by decide) rfl ?_
  intro p e s m args below meth c s₁ B hml hv
  obtain ⟨rfl, hP, hK, hD, hA⟩ := hv
  have hx := B.exec
  have hb := B.bytes
  have hr := B.returns
  have hts := atoms_spec (ws := wsX5_search) B.pre
  have hown : s.vm.findClass RX5 = some m.cls := findClass_of_methodNamed B.named
  have hlocks := B.notSynchronized
  have hS : va_S A s.heap s.heap [] := va_S.rf
  have hfr : ∀ j, (j < 10 ∨ j = 16 ∨ 22 < j) → σ.1 j = σ.1 j := fun _ _ => rfl
  have hl := lv_entry ([.ref (g.2.2 13), .ref (g.2.2 1), .int (iI (c0))]) (n := 4) (Nat.le_of_ble_eq_true rfl)
  rw [lg_entry_eq]
  generalize (lg_sl ([.ref (g.2.2 13), .ref (g.2.2 1), .int (iI (c0))]) ++ List.replicate (4 - (lg_sl ([.ref (g.2.2 13), .ref (g.2.2 1), .int (iI (c0))])).length) Slot.unset).toArray = ls at hl ⊢
  have hl : lv_has ls 4 [(0, .ref (g.2.2 13)), (1, .ref (g.2.2 1)), (2, .int (iI (c0)))] := hl
  have hm0 : σ.1 1 = .inr (7, [.ref (g.2.2 2), .ref (g.2.2 3), .int (iI n), .int (iI rd)]) := hst.1
  have hm1 : MRef g σ.1 2 9 G := hst.2.1
  have hm2 : MArr g σ.1 3 9 P := hst.2.2
  have hok1 := hok.1
  have hok2 := hok.2.1
  have hok3 := hok.2.2.1
  have hqa0 : σ.1 10 = .inr (7, [.ref (g.2.2 11), .ref (g.2.2 12), .int (iI na), .int (iI ra)]) := hsa9.1
  have hqa1 : MRef g σ.1 11 9 Ga := hsa9.2.1
  have hqa2 : MArr g σ.1 12 9 Pa := hsa9.2.2
  have hoa1 := hoa.1
  have hoa2 := hoa.2.1
  have hoa3 := hoa.2.2.1
  have h17 : MArr g σ.1 17 21 (Sx0 0) := hs0 0 (by omega) (by omega)
  have h18 : MArr g σ.1 18 21 (Sx0 1) := hs0 1 (by omega) (by omega)
  have h19 : MArr g σ.1 19 21 (Sx0 2) := hs0 2 (by omega) (by omega)
  have h20 : MArr g σ.1 20 21 (Sx0 3) := hs0 3 (by omega) (by omega)
  have h21 : MArr g σ.1 21 21 (Sx0 4) := hs0 4 (by omega) (by omega)
  have h22 : MArr g σ.1 22 21 (Sx0 5) := hs0 5 (by omega) (by omega)
  have hw_0 := hts (.fieldLink RX5 30 "TwiceAsRich$Partings" "ways" "I") (by decide +kernel)
  have hin_X5 : ∀ w ∈ wsX50, w ∈ wsX5_search := by decide +kernel
  have hw_2 := hts (.fieldLink RX5 34 "TwiceAsRich$Partings" "uneven" "I") (by decide +kernel)
  have hw_3 := hts (.fieldLink RX5 37 "TwiceAsRich$Partings" "hands" "I") (by decide +kernel)
  have hw_4 := hts (.fieldLink RX5 40 "TwiceAsRich$Partings" "moved" "I") (by decide +kernel)
  have hw_5 := hts (.fieldLink RX5 9 "TwiceAsRich$Partings" "richest" "[I") (by decide +kernel)
  have hw_6 := hts (.fieldLink RX5 49 "TwiceAsRich$Street" "count" "I") (by decide +kernel)
  have hin_X7 : ∀ w ∈ wsX70, w ∈ wsX5_search := by decide +kernel
  have hw_8 := hts (.fieldLink RX5 18 "TwiceAsRich$Partings" "parted" "LTwiceAsRich$Street;") (by decide +kernel)
  have hw_9 := hts (.fieldLink RX5 56 "TwiceAsRich$Street" "purses" "[I") (by decide +kernel)
  have hw_10 := hts (.fieldLink RX5 22 "TwiceAsRich$Partings" "before" "[I") (by decide +kernel)
  have hw_11 := hts (.methodLink RX5 59 arraycopyName) (by decide +kernel)
  have hw_12 := hts (.native arraycopyName) (by decide +kernel)
  have hw_13 := hts (.static arraycopyName) (by decide +kernel)
  have hw_14 := hts (.initialized "java/lang/System") (by decide +kernel)
  refine lv_aload_n hx hb dX5_search_0 rfl (lv_at hl 0 rfl) ?_
  refine x_iconst hx hb dX5_search_1 ?_
  refine x_put (C := RX5) (T := TX5) (N := 8) (ty := .int) hx hb hts hin_X5 hown hK hP hD hS (13) (by decide) hp13 rfl tyX5 tyX5_ok nmX5 0 (by decide) hw_0 (fun _ h9 => h9) rfl (by decide +kernel) rfl rfl (Nat.le_of_ble_eq_true rfl) dX5_search_2 (fun M_1 H locs hnew hne hP hD hS => ?_)
  have hP : xP g (M_1, σ.2) H := hP
  have hD : xD g A (M_1, σ.2) := hD
  have hp13 : M_1 (13) = .inr (5, [.int (iI (0)), .int (iI (un)), .int (iI (hd9)), .int (iI (mv)), .ref (g.2.2 14), .ref (g.2.2 10), .ref (g.2.2 15), .ref (g.2.2 16)]) := hnew
  have h15 := (hne (15) (by decide)).trans h15
  have hqa0 := (hne (10) (by decide)).trans hqa0
  have hqa1 := (hne (11) (by decide)).trans hqa1
  have hqa2 := (hne (12) (by decide)).trans hqa2
  have hm0 := (hne (1) (by decide)).trans hm0
  have hm1 := (hne (2) (by decide)).trans hm1
  have hm2 := (hne (3) (by decide)).trans hm2
  have h14 := (hne (14) (by decide)).trans h14
  have h16 := (hne (16) (by decide)).trans h16
  have h17 := (hne (17) (by decide)).trans h17
  have h18 := (hne (18) (by decide)).trans h18
  have h19 := (hne (19) (by decide)).trans h19
  have h20 := (hne (20) (by decide)).trans h20
  have h21 := (hne (21) (by decide)).trans h21
  have h22 := (hne (22) (by decide)).trans h22
  have hfr := x_fr (F := fun j => j < 10 ∨ j = 16 ∨ 22 < j) hfr hne (fun j h => by have h : j < 10 ∨ j = 16 ∨ 22 < j := h; omega)
  refine lv_aload_n hx hb dX5_search_5 rfl (lv_at hl 0 rfl) ?_
  refine x_iconst hx hb dX5_search_6 ?_
  refine x_put (C := RX5) (T := TX5) (N := 8) (ty := .int) hx hb hts hin_X5 hown hK hP hD hS (13) (by decide) hp13 rfl tyX5 tyX5_ok nmX5 1 (by decide) hw_2 (fun _ h9 => h9) rfl (by decide +kernel) rfl rfl (Nat.le_of_ble_eq_true rfl) dX5_search_7 (fun M_2 H locs hnew hne hP hD hS => ?_)
  have hP : xP g (M_2, σ.2) H := hP
  have hD : xD g A (M_2, σ.2) := hD
  have hp13 : M_2 (13) = .inr (5, [.int (iI (0)), .int (iI (0)), .int (iI (hd9)), .int (iI (mv)), .ref (g.2.2 14), .ref (g.2.2 10), .ref (g.2.2 15), .ref (g.2.2 16)]) := hnew
  have h15 := (hne (15) (by decide)).trans h15
  have hqa0 := (hne (10) (by decide)).trans hqa0
  have hqa1 := (hne (11) (by decide)).trans hqa1
  have hqa2 := (hne (12) (by decide)).trans hqa2
  have hm0 := (hne (1) (by decide)).trans hm0
  have hm1 := (hne (2) (by decide)).trans hm1
  have hm2 := (hne (3) (by decide)).trans hm2
  have h14 := (hne (14) (by decide)).trans h14
  have h16 := (hne (16) (by decide)).trans h16
  have h17 := (hne (17) (by decide)).trans h17
  have h18 := (hne (18) (by decide)).trans h18
  have h19 := (hne (19) (by decide)).trans h19
  have h20 := (hne (20) (by decide)).trans h20
  have h21 := (hne (21) (by decide)).trans h21
  have h22 := (hne (22) (by decide)).trans h22
  have hfr := x_fr (F := fun j => j < 10 ∨ j = 16 ∨ 22 < j) hfr hne (fun j h => by have h : j < 10 ∨ j = 16 ∨ 22 < j := h; omega)
  refine lv_aload_n hx hb dX5_search_10 rfl (lv_at hl 0 rfl) ?_
  refine x_iconst hx hb dX5_search_11 ?_
  refine x_put (C := RX5) (T := TX5) (N := 8) (ty := .int) hx hb hts hin_X5 hown hK hP hD hS (13) (by decide) hp13 rfl tyX5 tyX5_ok nmX5 2 (by decide) hw_3 (fun _ h9 => h9) rfl (by decide +kernel) rfl rfl (Nat.le_of_ble_eq_true rfl) dX5_search_12 (fun M_3 H locs hnew hne hP hD hS => ?_)
  have hP : xP g (M_3, σ.2) H := hP
  have hD : xD g A (M_3, σ.2) := hD
  have hp13 : M_3 (13) = .inr (5, [.int (iI (0)), .int (iI (0)), .int (iI (0)), .int (iI (mv)), .ref (g.2.2 14), .ref (g.2.2 10), .ref (g.2.2 15), .ref (g.2.2 16)]) := hnew
  have h15 := (hne (15) (by decide)).trans h15
  have hqa0 := (hne (10) (by decide)).trans hqa0
  have hqa1 := (hne (11) (by decide)).trans hqa1
  have hqa2 := (hne (12) (by decide)).trans hqa2
  have hm0 := (hne (1) (by decide)).trans hm0
  have hm1 := (hne (2) (by decide)).trans hm1
  have hm2 := (hne (3) (by decide)).trans hm2
  have h14 := (hne (14) (by decide)).trans h14
  have h16 := (hne (16) (by decide)).trans h16
  have h17 := (hne (17) (by decide)).trans h17
  have h18 := (hne (18) (by decide)).trans h18
  have h19 := (hne (19) (by decide)).trans h19
  have h20 := (hne (20) (by decide)).trans h20
  have h21 := (hne (21) (by decide)).trans h21
  have h22 := (hne (22) (by decide)).trans h22
  have hfr := x_fr (F := fun j => j < 10 ∨ j = 16 ∨ 22 < j) hfr hne (fun j h => by have h : j < 10 ∨ j = 16 ∨ 22 < j := h; omega)
  refine lv_aload_n hx hb dX5_search_15 rfl (lv_at hl 0 rfl) ?_
  refine x_iconst hx hb dX5_search_16 ?_
  refine x_put (C := RX5) (T := TX5) (N := 8) (ty := .int) hx hb hts hin_X5 hown hK hP hD hS (13) (by decide) hp13 rfl tyX5 tyX5_ok nmX5 3 (by decide) hw_4 (fun _ h9 => h9) rfl (by decide +kernel) rfl rfl (Nat.le_of_ble_eq_true rfl) dX5_search_17 (fun M_4 H locs hnew hne hP hD hS => ?_)
  have hP : xP g (M_4, σ.2) H := hP
  have hD : xD g A (M_4, σ.2) := hD
  have hp13 : M_4 (13) = .inr (5, [.int (iI (0)), .int (iI (0)), .int (iI (0)), .int (iI (0)), .ref (g.2.2 14), .ref (g.2.2 10), .ref (g.2.2 15), .ref (g.2.2 16)]) := hnew
  have h15 := (hne (15) (by decide)).trans h15
  have hqa0 := (hne (10) (by decide)).trans hqa0
  have hqa1 := (hne (11) (by decide)).trans hqa1
  have hqa2 := (hne (12) (by decide)).trans hqa2
  have hm0 := (hne (1) (by decide)).trans hm0
  have hm1 := (hne (2) (by decide)).trans hm1
  have hm2 := (hne (3) (by decide)).trans hm2
  have h14 := (hne (14) (by decide)).trans h14
  have h16 := (hne (16) (by decide)).trans h16
  have h17 := (hne (17) (by decide)).trans h17
  have h18 := (hne (18) (by decide)).trans h18
  have h19 := (hne (19) (by decide)).trans h19
  have h20 := (hne (20) (by decide)).trans h20
  have h21 := (hne (21) (by decide)).trans h21
  have h22 := (hne (22) (by decide)).trans h22
  have hfr := x_fr (F := fun j => j < 10 ∨ j = 16 ∨ 22 < j) hfr hne (fun j h => by have h : j < 10 ∨ j = 16 ∨ 22 < j := h; omega)
  refine lv_aload_n hx hb dX5_search_20 rfl (lv_at hl 0 rfl) ?_
  refine x_get (C := RX5) (T := TX5) (N := 8) hx hb hts hin_X5 hown hK hP (13) (by decide) hp13 rfl 4 (by decide) hw_5 (fun _ h9 => h9) rfl dX5_search_21 ?_
  refine x_iconst hx hb dX5_search_24 ?_
  refine x_cqv0 (va_runS (As := [.ref (g.2.2 14), .int (iI (0))]) (rest := []) ⟨hx, hb, hml, hown, hts⟩ (c_J7_fill_53178 l g (M_4, σ.2) A (14) (by decide) (6) (by decide) Rc h14 (0)) (va_cwS 2 hts gX5_search_J7_fill_53178 rfl rfl rfl (by decide +kernel) ⟨Nat.le_of_ble_eq_true rfl, Nat.le_of_ble_eq_true rfl⟩) (x_preSQ hK hP hD hS hA) rfl rfl hl.1 rfl (lv_room (Nat.le_of_ble_eq_true rfl)) dX5_search_25 ⟨by decide, by decide⟩) hS (fun σ1 H locs hpost hP hD hS => ?_)
  obtain ⟨M_5, p1⟩ := σ1
  obtain ⟨hp0, hne, hnew⟩ := hpost
  obtain rfl : p1 = σ.2 := hp0
  obtain ⟨f_6, hf_6⟩ : ∃ q : Int → Int, q = zCopy (fun _ => 0) Rc ((6 : Nat) : Int) := ⟨_, rfl⟩
  rw [← hf_6] at hnew
  replace hne : ∀ j, j ≠ 14 → M_5 j = M_4 j := hne
  have hP : xP g (M_5, σ.2) H := hP
  have hD : xD g A (M_5, σ.2) := hD
  have h14 : M_5 (14) = .inl (g.2.1 0, 6, .inl (fun k => iI (f_6 (k : Int)))) := hnew
  have hp13 := (hne (13) (by decide)).trans hp13
  have h15 := (hne (15) (by decide)).trans h15
  have hqa0 := (hne (10) (by decide)).trans hqa0
  have hqa1 := (hne (11) (by decide)).trans hqa1
  have hqa2 := (hne (12) (by decide)).trans hqa2
  have hm0 := (hne (1) (by decide)).trans hm0
  have hm1 := (hne (2) (by decide)).trans hm1
  have hm2 := (hne (3) (by decide)).trans hm2
  have h16 := (hne (16) (by decide)).trans h16
  have h17 := (hne (17) (by decide)).trans h17
  have h18 := (hne (18) (by decide)).trans h18
  have h19 := (hne (19) (by decide)).trans h19
  have h20 := (hne (20) (by decide)).trans h20
  have h21 := (hne (21) (by decide)).trans h21
  have h22 := (hne (22) (by decide)).trans h22
  have hfr := x_fr (F := fun j => j < 10 ∨ j = 16 ∨ 22 < j) hfr hne (fun j h => by have h : j < 10 ∨ j = 16 ∨ 22 < j := h; omega)
  refine lv_aload_n hx hb dX5_search_28 rfl (lv_at hl 1 rfl) ?_
  refine x_get (C := RX7) (T := TX7) (N := 4) hx hb hts hin_X7 hown hK hP (1) (by decide) hm0 rfl 2 (by decide) hw_6 (fun _ h9 => h9) rfl dX5_search_29 ?_
  refine x_bipush (n := 6) hx hb (by decide +kernel) dX5_search_32 ?_
  refine x_icmp_gt (tgt := 47) hx hb (by omega) (by omega) dX5_search_34 (by decide) (fun c_34 => ?_) (fun c_34 => ?_)
  · exfalso; omega
  · refine lv_iload_n hx hb dX5_search_37 rfl (lv_at hl 2 rfl) ?_
    refine x_if_lt (tgt := 47) hx hb (by omega) dX5_search_38 (by decide) (fun c_38 => ?_) (fun c_38 => ?_)
    · exfalso; omega
    · refine lv_iload_n hx hb dX5_search_41 rfl (lv_at hl 2 rfl) ?_
      refine x_bipush (n := 20) hx hb (by decide +kernel) dX5_search_42 ?_
      refine x_icmp_le (tgt := 48) hx hb (by omega) (by omega) dX5_search_44 (by decide) (fun c_44 => ?_) (fun c_44 => ?_)
      · refine lv_aload_n hx hb dX5_search_48 rfl (lv_at hl 0 rfl) ?_
        refine x_get (C := RX5) (T := TX5) (N := 8) hx hb hts hin_X5 hown hK hP (13) (by decide) hp13 rfl 5 (by decide) hw_8 (fun _ h9 => h9) rfl dX5_search_49 ?_
        refine lv_aload_n hx hb dX5_search_52 rfl (lv_at hl 1 rfl) ?_
        refine x_cqv0 (va_runV (As := [.ref (g.2.2 1)]) (rest := []) ⟨hx, hb, hml, hown, hts⟩ (c_X7_become l g (M_5, σ.2) A (10) (by decide) (na) (ra) Pa Ga ⟨hqa0, hqa1, hqa2⟩ hoa hH (1) (by decide) (by decide) (n) (rd) P G ⟨hm0, hm1, hm2⟩ hok) (cwV 1 hts gX5_search_X7_become rfl rfl rfl (by decide +kernel) ⟨Nat.le_of_ble_eq_true rfl, Nat.le_of_ble_eq_true rfl⟩) (x_preVQ hK hP hD hS hA (x_recv hK hP (i := 10) (by decide) hqa0 rfl)) rfl rfl hl.1 rfl (lv_room (Nat.le_of_ble_eq_true rfl)) dX5_search_53 ⟨by decide, by decide⟩) hS (fun σ1 H locs hpost hP hD hS => ?_)
        obtain ⟨M_7, p1⟩ := σ1
        obtain ⟨hp0, hfrc, hnst⟩ := hpost
        obtain rfl : p1 = σ.2 := hp0
        have hP : xP g (M_7, σ.2) H := hP
        have hD : xD g A (M_7, σ.2) := hD
        have hp13 := (hfrc (13) (by omega)).trans hp13
        have h15 := (hfrc (15) (by omega)).trans h15
        have hm0 := (hfrc (1) (by omega)).trans hm0
        have hm1 := (hfrc (2) (by omega)).trans hm1
        have hm2 := (hfrc (3) (by omega)).trans hm2
        have h14 := (hfrc (14) (by omega)).trans h14
        have h16 := (hfrc (16) (by omega)).trans h16
        have h17 := (hfrc (17) (by omega)).trans h17
        have h18 := (hfrc (18) (by omega)).trans h18
        have h19 := (hfrc (19) (by omega)).trans h19
        have h20 := (hfrc (20) (by omega)).trans h20
        have h21 := (hfrc (21) (by omega)).trans h21
        have h22 := (hfrc (22) (by omega)).trans h22
        have hfr := x_frc (F := fun j => j < 10 ∨ j = 16 ∨ 22 < j) hfr hfrc (fun j h => by have h : j < 10 ∨ j = 16 ∨ 22 < j := h; omega)
        obtain ⟨Pn_8, hPn_8⟩ : ∃ q : Int → Int, q = zCopy P Pa 9 := ⟨_, rfl⟩
        obtain ⟨Gn_9, hGn_9⟩ : ∃ q : Int → Option Nat, q = zCopy G Ga 9 := ⟨_, rfl⟩
        have ost_10 : StOk σ (n) (rd) Pn_8 Gn_9 := by rw [hPn_8, hGn_9]; exact StOk_become hoa hok
        rw [← hPn_8, ← hGn_9] at hnst
        have hqa0 : M_7 (10) = .inr (7, [.ref (g.2.2 11), .ref (g.2.2 12), .int (iI (n)), .int (iI (rd))]) := hnst.1
        have hqa1 : MRef g M_7 11 9 Gn_9 := hnst.2.1
        have hqa2 : MArr g M_7 12 9 Pn_8 := hnst.2.2
        refine lv_aload_n hx hb dX5_search_56 rfl (lv_at hl 1 rfl) ?_
        refine x_get (C := RX7) (T := TX7) (N := 4) hx hb hts hin_X7 hown hK hP (1) (by decide) hm0 rfl 1 (by decide) hw_9 (fun _ h9 => h9) rfl dX5_search_57 ?_
        refine x_iconst hx hb dX5_search_60 ?_
        refine lv_aload_n hx hb dX5_search_61 rfl (lv_at hl 0 rfl) ?_
        refine x_get (C := RX5) (T := TX5) (N := 8) hx hb hts hin_X5 hown hK hP (13) (by decide) hp13 rfl 6 (by decide) hw_10 (fun _ h9 => h9) rfl dX5_search_62 ?_
        refine x_iconst hx hb dX5_search_65 ?_
        refine lv_aload_n hx hb dX5_search_66 rfl (lv_at hl 1 rfl) ?_
        refine x_get (C := RX7) (T := TX7) (N := 4) hx hb hts hin_X7 hown hK hP (1) (by decide) hm0 rfl 2 (by decide) hw_6 (fun _ h9 => h9) rfl dX5_search_67 ?_
        refine x_acopy hx hb (hml.trans hl.1.symm) hown hw_11 hw_12 hw_13 hw_14 hK hP hD hS (3) (15) (by decide) (by decide) hm2 h15 (by omega) (by omega) (by omega) (by omega) (by omega) (by decide) (by decide) (Nat.le_of_ble_eq_true rfl) (Nat.le_of_ble_eq_true rfl) dX5_search_70 (fun M_11 H locs hnew hne hP hD hS => ?_)
        obtain ⟨f_12, hf_12⟩ : ∃ q : Int → Int, q = zCpy P Wb0 (0) (0) (n) := ⟨_, rfl⟩
        rw [← hf_12] at hnew
        have hP : xP g (M_11, σ.2) H := hP
        have hD : xD g A (M_11, σ.2) := hD
        have h15 : M_11 (15) = .inl (g.2.1 0, 6, .inl (fun k => iI (f_12 (k : Int)))) := hnew
        have hp13 := (hne (13) (by decide)).trans hp13
        have hqa0 := (hne (10) (by decide)).trans hqa0
        have hqa1 := (hne (11) (by decide)).trans hqa1
        have hqa2 := (hne (12) (by decide)).trans hqa2
        have hm0 := (hne (1) (by decide)).trans hm0
        have hm1 := (hne (2) (by decide)).trans hm1
        have hm2 := (hne (3) (by decide)).trans hm2
        have h14 := (hne (14) (by decide)).trans h14
        have h16 := (hne (16) (by decide)).trans h16
        have h17 := (hne (17) (by decide)).trans h17
        have h18 := (hne (18) (by decide)).trans h18
        have h19 := (hne (19) (by decide)).trans h19
        have h20 := (hne (20) (by decide)).trans h20
        have h21 := (hne (21) (by decide)).trans h21
        have h22 := (hne (22) (by decide)).trans h22
        have hfr := x_fr (F := fun j => j < 10 ∨ j = 16 ∨ 22 < j) hfr hne (fun j h => by have h : j < 10 ∨ j = 16 ∨ 22 < j := h; omega)
        have hWb : ∀ i, 0 ≤ i → i < n → 0 ≤ f_12 i ∧ f_12 i ≤ 9999 := fun i a b => by (rw [hf_12]; unfold zCpy; rw [if_pos (by omega), show 0 + (i - 0) = i by omega]; exact (hok.2.2.2.2.2 i a b).2)
        have hWe : zSame (sK σ Gn_9) (sK σ G) (sF σ Gn_9) (sF σ G) f_12 P n := fun i a b => by (rw [hGn_9, hf_12]; unfold zCpy sK sF; rw [zCopy_in (by omega) (by omega), if_pos (by omega), show 0 + (i - 0) = i by omega]; exact ⟨rfl, rfl, rfl⟩)
        have hR00 : ∀ i, 0 ≤ i → i ≤ 5 → f_6 i = 0 := fun i a b => by (rw [hf_6]; exact zCopy_in a (by omega))
        refine x_iconst hx hb dX5_search_73 ?_
        refine lv_istore_n (lv' := [(3, .int (iI (0))), (0, .ref (g.2.2 13)), (1, .ref (g.2.2 1)), (2, .int (iI (c0)))]) hx hb dX5_search_74 rfl hl (by decide) rfl (fun ls hl => ?_)
        have hloop_75 : ∀ (k : Nat) (Sx : Int → Int → Int) (T : Int → Int) (i : Int), (n - i).toNat < k → (hi0 : 0 ≤ i) → (hin : i ≤ n) → (hTo : StOk σ n rd T Gn_9) → (hSxr : ∀ d k, inR (Sx d k)) → (hdn : ∀ j, 0 ≤ j → j < i → zBehind n rd j ≠ -1 → ∀ a b, 1 ≤ a → 1 ≤ b → a + b ≤ c0 → (zBt (Sx j a) b ↔ zPr (sK σ Gn_9) (sF σ Gn_9) j (zBehind n rd j) a b)) → ∀ (M : xM) (H : Heap) (locs : List Loc), (hp13 : M (13) = .inr (5, [.int (iI (0)), .int (iI (0)), .int (iI (0)), .int (iI (0)), .ref (g.2.2 14), .ref (g.2.2 10), .ref (g.2.2 15), .ref (g.2.2 16)])) → (h15 : M (15) = .inl (g.2.1 0, 6, .inl (fun k => iI (f_12 (k : Int))))) → (hqa0 : M (10) = .inr (7, [.ref (g.2.2 11), .ref (g.2.2 12), .int (iI (n)), .int (iI (rd))])) → (hqa1 : M (11) = .inl (g.2.1 1, 9, .inr (.inr (.inr (.inr (fun k => Gn_9 (k : Int))))))) → (hqa2 : M (12) = .inl (g.2.1 0, 9, .inl (fun k => iI (T (k : Int))))) → (hm0 : M (1) = .inr (7, [.ref (g.2.2 2), .ref (g.2.2 3), .int (iI (n)), .int (iI (rd))])) → (hm1 : M (2) = .inl (g.2.1 1, 9, .inr (.inr (.inr (.inr (fun k => G (k : Int))))))) → (hm2 : M (3) = .inl (g.2.1 0, 9, .inl (fun k => iI (P (k : Int))))) → (h14 : M (14) = .inl (g.2.1 0, 6, .inl (fun k => iI (f_6 (k : Int))))) → (h16 : M (16) = .inl (g.2.1 2, 6, .inr (.inr (.inr (.inr (fun k => xGs g (k : Int))))))) → (h17 : M (17) = .inl (g.2.1 0, 21, .inl (fun k => iI ((Sx 0) (k : Int))))) → (h18 : M (18) = .inl (g.2.1 0, 21, .inl (fun k => iI ((Sx 1) (k : Int))))) → (h19 : M (19) = .inl (g.2.1 0, 21, .inl (fun k => iI ((Sx 2) (k : Int))))) → (h20 : M (20) = .inl (g.2.1 0, 21, .inl (fun k => iI ((Sx 3) (k : Int))))) → (h21 : M (21) = .inl (g.2.1 0, 21, .inl (fun k => iI ((Sx 4) (k : Int))))) → (h22 : M (22) = .inl (g.2.1 0, 21, .inl (fun k => iI ((Sx 5) (k : Int))))) → (hfr : ∀ j, (j < 10 ∨ j = 16 ∨ 22 < j) → M j = σ.1 j) → xP g (M, σ.2) H → xD g A (M, σ.2) → va_S A s.heap H locs → ∀ (ls : Array Slot), lv_has ls 4 [(3, .int (iI (i))), (0, .ref (g.2.2 13)), (1, .ref (g.2.2 1)), (2, .int (iI (c0)))] → W p l e (headSpec wsX5_search ({ frames := 16, cells := 0, slots := 0, locals := 512 })).room s m ([.ref (g.2.2 13), .ref (g.2.2 1), .int (iI (c0))] : List Value).toArray below meth c H locs 0 0 (MQ below (x_Qv g A (fun σ1 => σ1.2 = σ.2 ∧ (∀ j, j < 10 ∨ j = 16 ∨ 22 < j → σ1.1 j = σ.1 j) ∧ ∃ (wy2 un2 hd2 mv2 : Int) (Rc2 Wb2 : Int → Int) (Sx2 : Int → Int → Int), PObj g σ1.1 wy2 un2 hd2 mv2 ∧ MArr g σ1.1 14 6 Rc2 ∧ MArr g σ1.1 15 6 Wb2 ∧ (∀ d, 0 ≤ d → d ≤ 5 → MArr g σ1.1 (17 + d.toNat) 21 (Sx2 d)) ∧ (∀ d k, inR (Sx2 d k)) ∧ xStr g σ1.1 σ 10 ∧ zRl n wy2 un2 hd2 mv2 Rc2 (fun o => zPart (sK σ G) (sF σ G) P n rd o c0))) ([.ref (g.2.2 13), .ref (g.2.2 1), .int (iI (c0))] : List Value).toArray s (0) (0) A) (F0 m 75 ls []) := by
          intro k
          induction k with
          | zero =>
            intros; exact absurd (by assumption) (Nat.not_lt_zero _)
          | succ k ih =>
            intro Sx T i hmeas hi0 hin hTo hSxr hdn M H locs hp13 h15 hqa0 hqa1 hqa2 hm0 hm1 hm2 h14 h16 h17 h18 h19 h20 h21 h22 hfr hP hD hS ls hl
            have ih_13 := ih
            refine lv_iload_n hx hb dX5_search_75 rfl (lv_at hl 0 rfl) ?_
            refine lv_aload_n hx hb dX5_search_76 rfl (lv_at hl 2 rfl) ?_
            refine x_get (C := RX7) (T := TX7) (N := 4) hx hb hts hin_X7 hown hK hP (1) (by decide) hm0 rfl 2 (by decide) hw_6 (fun _ h9 => h9) rfl dX5_search_77 ?_
            refine x_icmp_ge (tgt := 115) hx hb (by omega) (by omega) dX5_search_80 (by decide) (fun c_80 => ?_) (fun c_80 => ?_)
            · have hsr : ∀ d : Int, 0 ≤ d → d ≤ 5 → MArr g M (17 + d.toNat) 21 (Sx d) := fun d a b => by (rcases (show d = 0 ∨ d = 1 ∨ d = 2 ∨ d = 3 ∨ d = 4 ∨ d = 5 by omega) with q | q | q | q | q | q <;> subst q; exact h17; exact h18; exact h19; exact h20; exact h21; exact h22)
              have hsu : zSuOk (sK σ Gn_9) (sF σ Gn_9) n rd c0 Sx := fun j a b => hdn j a (by omega)
              refine lv_aload_n hx hb dX5_search_115 rfl (lv_at hl 1 rfl) ?_
              refine x_iconst hx hb dX5_search_116 ?_
              refine lv_iload_n hx hb dX5_search_117 rfl (lv_at hl 3 rfl) ?_
              refine x_cqv0 (va_runV (As := [.int (iI (0)), .int (iI (c0))]) (rest := []) ⟨hx, hb, hml, hown, hts⟩ (c_X5_part6 l g (M, σ.2) A (0) (0) (0) (0) hp13 (n) (rd) T Gn_9 ⟨hqa0, hqa1, hqa2⟩ hTo hH f_12 h15 hWb hn6 f_6 h14 Sx h16 hsr hSxr c0 hc0 hsu (fun _ => (0, -4, -4, -4, -4)) (zRl_0 hR00) (0) (by omega) (c0) (by omega) (by have z := zB_le n.toNat (by omega); rw [show (n - 0).toNat = n.toNat by omega]; omega) zPth_0) (cwV 2 hts gX5_search_X5_part rfl rfl rfl (by decide +kernel) ⟨Nat.le_of_ble_eq_true rfl, Nat.le_of_ble_eq_true rfl⟩) (x_preVQ hK hP hD hS hA (x_recv hK hP (i := 13) (by decide) hp13 rfl)) rfl rfl hl.1 rfl (lv_room (Nat.le_of_ble_eq_true rfl)) dX5_search_118 ⟨by decide, by decide⟩) hS (fun σ1 H locs hpost hP hD hS => ?_)
              obtain ⟨M_14, p1⟩ := σ1
              obtain ⟨hp0, hfrc, wn_15, un_16, hn_17, mn_18, T_20, Rn_19, hn13, hn12, hn14, ost_21, hnT, hnQ⟩ := hpost
              obtain rfl : p1 = σ.2 := hp0
              have hP : xP g (M_14, σ.2) H := hP
              have hD : xD g A (M_14, σ.2) := hD
              have h15 := (hfrc (15) (by omega)).trans h15
              have hqa0 := (hfrc (10) (by omega)).trans hqa0
              have hqa1 := (hfrc (11) (by omega)).trans hqa1
              have hm0 := (hfrc (1) (by omega)).trans hm0
              have hm1 := (hfrc (2) (by omega)).trans hm1
              have hm2 := (hfrc (3) (by omega)).trans hm2
              have h16 := (hfrc (16) (by omega)).trans h16
              have h17 := (hfrc (17) (by omega)).trans h17
              have h18 := (hfrc (18) (by omega)).trans h18
              have h19 := (hfrc (19) (by omega)).trans h19
              have h20 := (hfrc (20) (by omega)).trans h20
              have h21 := (hfrc (21) (by omega)).trans h21
              have h22 := (hfrc (22) (by omega)).trans h22
              have hfr := x_frc (F := fun j => j < 10 ∨ j = 16 ∨ 22 < j) hfr hfrc (fun j h => by have h : j < 10 ∨ j = 16 ∨ 22 < j := h; omega)
              have hp13 : PObj g M_14 wn_15 un_16 hn_17 mn_18 := hn13
              have h14 : MArr g M_14 14 6 Rn_19 := hn14
              have hqa2 : MArr g M_14 12 9 T_20 := hn12
              replace hnQ : zRl n wn_15 un_16 hn_17 mn_18 Rn_19 (fun o => zParts (zNote (sK σ Gn_9) (sF σ Gn_9) f_12 n rd o) (n - (0)).toNat (0) (c0) T ((fun _ => (0, -4, -4, -4, -4)) o)) := hnQ
              refine x_retQv hx hb hr ?_ hP hD hS dX5_search_121 hlocks
              refine ⟨rfl, hfr, _, _, _, _, _, _, Sx, hp13, h14, h15, fun d a b => (hfrc _ (by omega)).trans (hsr d a b), hSxr, ⟨_, _, _, _, ⟨hqa0, hqa1, hqa2⟩, ost_21⟩, ?_⟩
              have e : (fun o => zParts (zNote (sK σ Gn_9) (sF σ Gn_9) f_12 n rd o) (n - (0)).toNat (0) (c0) T ((fun _ => ((0, -4, -4, -4, -4) : zAcc)) o)) = (fun o => zPart (sK σ G) (sF σ G) P n rd o c0) := funext (fun o => zPart_cls (by omega) hWe)
              rw [← e]; exact hnQ
            · refine lv_aload_n hx hb dX5_search_83 rfl (lv_at hl 1 rfl) ?_
              refine x_get (C := RX5) (T := TX5) (N := 8) hx hb hts hin_X5 hown hK hP (13) (by decide) hp13 rfl 5 (by decide) hw_8 (fun _ h9 => h9) rfl dX5_search_84 ?_
              refine lv_iload_n hx hb dX5_search_87 rfl (lv_at hl 0 rfl) ?_
              refine x_ci (va_runV (As := [.int (iI (i))]) (rest := []) ⟨hx, hb, hml, hown, hts⟩ (c_X7_behind l g (M, σ.2) (10) (by decide) (n) (rd) T Gn_9 ⟨hqa0, hqa1, hqa2⟩ hTo hH (i) (by omega)) (cwV 1 hts gX5_search_X7_behind rfl rfl rfl (by decide +kernel) ⟨Nat.le_of_ble_eq_true rfl, Nat.le_of_ble_eq_true rfl⟩) (x_preV hK hP (x_recv hK hP (i := 10) (by decide) hqa0 rfl)) rfl rfl hl.1 rfl (lv_room (Nat.le_of_ble_eq_true rfl)) dX5_search_88 ⟨Nat.le_of_ble_eq_true rfl, Nat.le_of_ble_eq_true rfl⟩) (fun r_88 hr_88 qr_88 => ?_)
              replace qr_88 : r_88 = zBehind (n) (rd) (i) := qr_88
              have br_88 := zBehind_rng (n) (rd) (i) (by omega); rw [← qr_88] at br_88
              refine x_iconst hx hb dX5_search_91 ?_
              refine x_icmp_eq (tgt := 109) hx hb (by omega) (by omega) dX5_search_92 (by decide) (fun c_92 => ?_) (fun c_92 => ?_)
              · refine x_iinc (k0 := 0) (lv' := [(3, .int (iI (i + 1))), (0, .ref (g.2.2 13)), (1, .ref (g.2.2 1)), (2, .int (iI (c0)))]) hx hb dX5_search_109 hl rfl (by decide) rfl (fun ls hl => ?_)
                refine lv_goto (tgt := 75) hx hb dX5_search_112 (by decide) ?_
                exact ih_13 (Sx) (T) (i + 1) (by omega) (by omega) (by omega) (by exact hTo) (by exact hSxr) (by (intro j a b; by_cases e9 : j = i; (subst e9; intro q; exact absurd (by omega) q); exact hdn j a (by omega))) (M) _ _ hp13 h15 hqa0 hqa1 hqa2 hm0 hm1 hm2 h14 h16 h17 h18 h19 h20 h21 h22 hfr hP hD hS ls (lv_sub hl [0, 1, 2, 3] rfl)
              · refine lv_aload_n hx hb dX5_search_95 rfl (lv_at hl 1 rfl) ?_
                refine lv_iload_n hx hb dX5_search_96 rfl (lv_at hl 0 rfl) ?_
                refine lv_aload_n hx hb dX5_search_97 rfl (lv_at hl 1 rfl) ?_
                refine x_get (C := RX5) (T := TX5) (N := 8) hx hb hts hin_X5 hown hK hP (13) (by decide) hp13 rfl 5 (by decide) hw_8 (fun _ h9 => h9) rfl dX5_search_98 ?_
                refine lv_iload_n hx hb dX5_search_101 rfl (lv_at hl 0 rfl) ?_
                refine x_ci (va_runV (As := [.int (iI (i))]) (rest := [.int (iI (i)), .ref (g.2.2 13)]) ⟨hx, hb, hml, hown, hts⟩ (c_X7_behind l g (M, σ.2) (10) (by decide) (n) (rd) T Gn_9 ⟨hqa0, hqa1, hqa2⟩ hTo hH (i) (by omega)) (cwV 1 hts gX5_search_X7_behind rfl rfl rfl (by decide +kernel) ⟨Nat.le_of_ble_eq_true rfl, Nat.le_of_ble_eq_true rfl⟩) (x_preV hK hP (x_recv hK hP (i := 10) (by decide) hqa0 rfl)) rfl rfl hl.1 rfl (lv_room (Nat.le_of_ble_eq_true rfl)) dX5_search_102 ⟨Nat.le_of_ble_eq_true rfl, Nat.le_of_ble_eq_true rfl⟩) (fun r_102 hr_102 qr_102 => ?_)
                replace qr_102 : r_102 = zBehind (n) (rd) (i) := qr_102
                have br_102 := zBehind_rng (n) (rd) (i) (by omega); rw [← qr_102] at br_102
                have hne9 := zBehind_ne (n := n) (rd := rd) (i := i) hi0 (by omega)
                rw [← qr_102] at hne9
                refine lv_iload_n hx hb dX5_search_105 rfl (lv_at hl 3 rfl) ?_
                have hall : ∀ d : Int, 0 ≤ d → d ≤ 5 → MArr g M (17 + d.toNat) 21 (Sx d) := fun d a b => by (rcases (show d = 0 ∨ d = 1 ∨ d = 2 ∨ d = 3 ∨ d = 4 ∨ d = 5 by omega) with q | q | q | q | q | q <;> subst q; exact h17; exact h18; exact h19; exact h20; exact h21; exact h22)
                refine x_cqv0 (va_runV (As := [.int (iI (i)), .int (iI (r_102)), .int (iI (c0))]) (rest := []) ⟨hx, hb, hml, hown, hts⟩ (c_X5_noteWhatSuits l g (M, σ.2) A (0) (0) (0) (0) hp13 (n) (rd) T Gn_9 ⟨hqa0, hqa1, hqa2⟩ hTo hH (17 + (i).toNat) h16 (i) (by omega) hn6 (r_102) (by omega) (c0) hc0 rfl (Sx (i)) (hall (i) (by omega) (by omega)) (fun k => hSxr _ k)) (cwV 3 hts gX5_search_X5_noteWhatSuits rfl rfl rfl (by decide +kernel) ⟨Nat.le_of_ble_eq_true rfl, Nat.le_of_ble_eq_true rfl⟩) (x_preVQ hK hP hD hS hA (x_recv hK hP (i := 13) (by decide) hp13 rfl)) rfl rfl hl.1 rfl (lv_room (Nat.le_of_ble_eq_true rfl)) dX5_search_106 ⟨by decide, by decide⟩) hS (fun σ1 H locs hpost hP hD hS => ?_)
                obtain ⟨M_22, p1⟩ := σ1
                obtain ⟨hp0, hfrc, T_23, U_24, hnst, ost_25, hnU, rU_24, bU_24⟩ := hpost
                obtain rfl : p1 = σ.2 := hp0
                obtain ⟨Sx_26, hSx_26⟩ : ∃ q : Int → Int → Int, q = upI Sx (i) U_24 := ⟨_, rfl⟩
                have hal2 : ∀ d : Int, 0 ≤ d → d ≤ 5 → MArr g M_22 (17 + d.toNat) 21 (Sx_26 d) := fun d a b => by (rw [hSx_26]; by_cases e9 : d = i; (subst e9; rw [upI_s]; exact hnU); (rw [upI_n e9]; exact (hfrc _ (by omega)).trans (hall d a b)))
                have hP : xP g (M_22, σ.2) H := hP
                have hD : xD g A (M_22, σ.2) := hD
                have hp13 := (hfrc (13) (by omega)).trans hp13
                have h15 := (hfrc (15) (by omega)).trans h15
                have hm0 := (hfrc (1) (by omega)).trans hm0
                have hm1 := (hfrc (2) (by omega)).trans hm1
                have hm2 := (hfrc (3) (by omega)).trans hm2
                have h14 := (hfrc (14) (by omega)).trans h14
                have h16 := (hfrc (16) (by omega)).trans h16
                have hfr := x_frc (F := fun j => j < 10 ∨ j = 16 ∨ 22 < j) hfr hfrc (fun j h => by have h : j < 10 ∨ j = 16 ∨ 22 < j := h; omega)
                have hqa0 : M_22 10 = .inr (7, [.ref (g.2.2 11), .ref (g.2.2 12), .int (iI (n)), .int (iI (rd))]) := hnst.1
                have hqa1 : MRef g M_22 11 9 Gn_9 := hnst.2.1
                have hqa2 : MArr g M_22 12 9 T_23 := hnst.2.2
                have h17 : MArr g M_22 17 21 (Sx_26 0) := hal2 0 (by omega) (by omega)
                have h18 : MArr g M_22 18 21 (Sx_26 1) := hal2 1 (by omega) (by omega)
                have h19 : MArr g M_22 19 21 (Sx_26 2) := hal2 2 (by omega) (by omega)
                have h20 : MArr g M_22 20 21 (Sx_26 3) := hal2 3 (by omega) (by omega)
                have h21 : MArr g M_22 21 21 (Sx_26 4) := hal2 4 (by omega) (by omega)
                have h22 : MArr g M_22 22 21 (Sx_26 5) := hal2 5 (by omega) (by omega)
                refine x_iinc (k0 := 0) (lv' := [(3, .int (iI (i + 1))), (0, .ref (g.2.2 13)), (1, .ref (g.2.2 1)), (2, .int (iI (c0)))]) hx hb dX5_search_109 hl rfl (by decide) rfl (fun ls hl => ?_)
                refine lv_goto (tgt := 75) hx hb dX5_search_112 (by decide) ?_
                exact ih_13 (Sx_26) (T_23) (i + 1) (by omega) (by omega) (by omega) (by exact ost_25) (by (rw [hSx_26]; intro d k; unfold upI; split; exact rU_24 k; exact hSxr d k)) (by (rw [hSx_26]; intro j a b; by_cases e9 : j = i; (subst e9; rw [upI_s]; intro _; rw [← qr_102]; exact bU_24); (rw [upI_n e9]; exact hdn j a (by omega)))) (M_22) _ _ hp13 h15 hqa0 hqa1 hqa2 hm0 hm1 hm2 h14 h16 h17 h18 h19 h20 h21 h22 hfr hP hD hS ls (lv_sub hl [0, 1, 2, 3] rfl)
        exact hloop_75 (((n - (0)).toNat) + 1) (Sx0) (Pn_8) (0) (by omega) (by omega) (by omega) (by exact ost_10) (by exact hSr0) (by (intro j a b; omega)) (M_11) _ _ hp13 h15 hqa0 hqa1 hqa2 hm0 hm1 hm2 h14 h16 h17 h18 h19 h20 h21 h22 hfr hP hD hS ls (lv_sub hl [0, 1, 2, 3] rfl)
      · exfalso; omega
