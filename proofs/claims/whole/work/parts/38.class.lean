abbrev xGs (g : xG) : Int → Option Nat := fun k => some (g.2.2 (17 + k.toNat))
abbrev MGrs (g : xG) (M : xM) : Prop := M 16 = .inl (g.2.1 2, 6, .inr (.inr (.inr (.inr (fun k => xGs g (k : Int))))))

set_option maxHeartbeats 4000000 in
set_option maxRecDepth 100000 in
theorem c_X5_suit (l : Launch) (g : xG) (σ : xS) (wy un hd9 mv : Int) (hp13 : PObj g σ.1 wy un hd9 mv) (na ra : Int) (Pa : Int → Int) (Ga : Int → Option Nat) (hsa9 : StAt g σ.1 10 na ra Pa Ga) (hoa : StOk σ na ra Pa Ga) (hH : HsOk σ) (ri : Nat) (h16 : MGrs g σ.1) (i : Int) (hi : 0 ≤ i ∧ i ≤ 5) (nx : Int) (hnx : 0 ≤ nx ∧ nx ≤ 8) (hrie : ri = 17 + i.toNat) (U : Int → Int) (hri : MArr g σ.1 ri 21 U) (hUr : ∀ k, inR (U k)) (hp20 : 0 ≤ Pa i ∧ Pa i ≤ 20) : Met l yX5_suit wsX5_suit ({ frames := 1, cells := 0, slots := 0, locals := 32 }) (va_Pc [.ref (g.2.2 13), .int (iI (i)), .int (iI (nx))] (xPre g σ)) (x_Si (fun r => (r = 1 ∧ zBt (U (Pa i)) (Pa nx)) ∨ (r = 0 ∧ ¬ zBt (U (Pa i)) (Pa nx)))) (0) (0) (fun _ => False) := by
  refine Met.ofW (cc := cX5_suit) (maxL := 3) (ret := (some .boolean)) (by decide) rfl ?_
  intro p e s m args below meth c s₁ B hml hv
  obtain ⟨rfl, hP, hK⟩ := hv
  have hx := B.exec
  have hb := B.bytes
  have hr := B.returns
  have hts := atoms_spec (ws := wsX5_suit) B.pre
  have hown : s.vm.findClass RX5 = some m.cls := findClass_of_methodNamed B.named
  have hlocks := B.notSynchronized
  have hl := lv_entry ([.ref (g.2.2 13), .int (iI (i)), .int (iI (nx))]) (n := 3) (Nat.le_of_ble_eq_true rfl)
  rw [lg_entry_eq]
  generalize (lg_sl ([.ref (g.2.2 13), .int (iI (i)), .int (iI (nx))]) ++ List.replicate (3 - (lg_sl ([.ref (g.2.2 13), .int (iI (i)), .int (iI (nx))])).length) Slot.unset).toArray = ls at hl ⊢
  have hl : lv_has ls 3 [(0, .ref (g.2.2 13)), (1, .int (iI (i))), (2, .int (iI (nx)))] := hl
  have hqa0 : σ.1 10 = .inr (7, [.ref (g.2.2 11), .ref (g.2.2 12), .int (iI na), .int (iI ra)]) := hsa9.1
  have hqa1 : MRef g σ.1 11 9 Ga := hsa9.2.1
  have hqa2 : MArr g σ.1 12 9 Pa := hsa9.2.2
  have hoa1 := hoa.1
  have hoa2 := hoa.2.1
  have hoa3 := hoa.2.2.1
  have hw_0 := hts (.fieldLink RX5 27 "TwiceAsRich$Partings" "suits" "[[I") (by decide +kernel)
  have hin_X5 : ∀ w ∈ wsX50, w ∈ wsX5_suit := by decide +kernel
  have hw_2 := hts (.fieldLink RX5 18 "TwiceAsRich$Partings" "parted" "LTwiceAsRich$Street;") (by decide +kernel)
  have hw_3 := hts (.fieldLink RX5 56 "TwiceAsRich$Street" "purses" "[I") (by decide +kernel)
  have hin_X7 : ∀ w ∈ wsX70, w ∈ wsX5_suit := by decide +kernel
  refine lv_aload_n hx hb dX5_suit_0 rfl (lv_at hl 0 rfl) ?_
  refine x_get (C := RX5) (T := TX5) (N := 8) hx hb hts hin_X5 hown hK hP (13) (by decide) hp13 rfl 7 (by decide) hw_0 (fun _ h9 => h9) rfl dX5_suit_1 ?_
  refine lv_iload_n hx hb dX5_suit_4 rfl (lv_at hl 1 rfl) ?_
  have hG_1 : xGs g (i) = some (g.2.2 ri) := by rw [hrie]
  refine x_aalg (f := xGs g) hx hb hK hP (16) (by decide) h16 (by omega) (by omega) (by decide) hG_1 dX5_suit_5 ?_
  refine lv_aload_n hx hb dX5_suit_6 rfl (lv_at hl 0 rfl) ?_
  refine x_get (C := RX5) (T := TX5) (N := 8) hx hb hts hin_X5 hown hK hP (13) (by decide) hp13 rfl 5 (by decide) hw_2 (fun _ h9 => h9) rfl dX5_suit_7 ?_
  refine x_get (C := RX7) (T := TX7) (N := 4) hx hb hts hin_X7 hown hK hP (10) (by decide) hqa0 rfl 1 (by decide) hw_3 (fun _ h9 => h9) rfl dX5_suit_10 ?_
  refine lv_iload_n hx hb dX5_suit_13 rfl (lv_at hl 1 rfl) ?_
  refine x_iald (f := Pa) hx hb hK hP (12) (by decide) hqa2 (by omega) (by omega) (by decide) dX5_suit_14 ?_
  have hb_2 := hoa.2.2.2.1 (i)
  refine x_iald (f := U) hx hb hK hP (ri) (by have hxN : xN = 51 := rfl; omega) hri (by omega) (by omega) (by decide) dX5_suit_15 ?_
  have hb_3 := hUr (Pa (i))
  refine lv_aload_n hx hb dX5_suit_16 rfl (lv_at hl 0 rfl) ?_
  refine x_get (C := RX5) (T := TX5) (N := 8) hx hb hts hin_X5 hown hK hP (13) (by decide) hp13 rfl 5 (by decide) hw_2 (fun _ h9 => h9) rfl dX5_suit_17 ?_
  refine x_get (C := RX7) (T := TX7) (N := 4) hx hb hts hin_X7 hown hK hP (10) (by decide) hqa0 rfl 1 (by decide) hw_3 (fun _ h9 => h9) rfl dX5_suit_20 ?_
  refine lv_iload_n hx hb dX5_suit_23 rfl (lv_at hl 2 rfl) ?_
  refine x_iald (f := Pa) hx hb hK hP (12) (by decide) hqa2 (by omega) (by omega) (by decide) dX5_suit_24 ?_
  have hb_4 := hoa.2.2.2.1 (nx)
  refine x_ishr hx hb dX5_suit_25 ?_
  have hb_5 := iShr_rng (U (Pa (i))) (Pa (nx))
  refine x_iconst hx hb dX5_suit_26 ?_
  refine x_iand hx hb dX5_suit_27 ?_
  have hb_6 := iAnd_rng (iShr (U (Pa (i))) (Pa (nx))) (1)
  refine x_iconst hx hb dX5_suit_28 ?_
  refine x_icmp_ne (tgt := 36) hx hb (by omega) (by omega) dX5_suit_29 (by decide) (fun c_29 => ?_) (fun c_29 => ?_)
  · refine x_iconst hx hb dX5_suit_36 ?_
    refine x_retPz hx hb hr (by omega) ?_ dX5_suit_37 hlocks
    first | exact Or.inl ⟨rfl, c_29⟩ | exact Or.inr ⟨rfl, c_29⟩ | (left; exact ⟨rfl, by omega⟩) | (right; exact ⟨rfl, by omega⟩)
  · refine x_iconst hx hb dX5_suit_32 ?_
    refine lv_goto (tgt := 37) hx hb dX5_suit_33 (by decide) ?_
    refine x_retPz hx hb hr (by omega) ?_ dX5_suit_37 hlocks
    first | exact Or.inl ⟨rfl, c_29⟩ | exact Or.inr ⟨rfl, c_29⟩ | (left; exact ⟨rfl, by omega⟩) | (right; exact ⟨rfl, by omega⟩)

set_option maxHeartbeats 4000000 in
set_option maxRecDepth 100000 in
theorem c_X5_isClosedWell (l : Launch) (g : xG) (σ : xS) (wy un hd9 mv : Int) (hp13 : PObj g σ.1 wy un hd9 mv) (na ra : Int) (Pa : Int → Int) (Ga : Int → Option Nat) (hsa9 : StAt g σ.1 10 na ra Pa Ga) (hoa : StOk σ na ra Pa Ga) (hH : HsOk σ) (Su : Int → Int → Int) (h16 : MGrs g σ.1) (hsr : ∀ d, 0 ≤ d → d ≤ 5 → MArr g σ.1 (17 + d.toNat) 21 (Su d)) (hSr : ∀ d k, inR (Su d k)) (hn6 : na ≤ 6) (hp20 : ∀ i, 0 ≤ i → i < na → 0 ≤ Pa i ∧ Pa i ≤ 20) : Met l yX5_isClosedWell wsX5_isClosedWell ({ frames := 2, cells := 0, slots := 0, locals := 64 }) (va_Pc [.ref (g.2.2 13)] (xPre g σ)) (x_Si (fun r => (r = 1 ∧ (ra = 1 ∧ 3 ≤ na → zBt (Su (na - 1) (Pa (na - 1))) (Pa (0)))) ∨ (r = 0 ∧ (ra = 1 ∧ 3 ≤ na) ∧ ¬ zBt (Su (na - 1) (Pa (na - 1))) (Pa (0))))) (0) (0) (fun _ => False) := by
  refine Met.ofW (cc := cX5_isClosedWell) (maxL := 1) (ret := (some .boolean)) (by decide) rfl ?_
  intro p e s m args below meth c s₁ B hml hv
  obtain ⟨rfl, hP, hK⟩ := hv
  have hx := B.exec
  have hb := B.bytes
  have hr := B.returns
  have hts := atoms_spec (ws := wsX5_isClosedWell) B.pre
  have hown : s.vm.findClass RX5 = some m.cls := findClass_of_methodNamed B.named
  have hlocks := B.notSynchronized
  have hl := lv_entry ([.ref (g.2.2 13)]) (n := 1) (Nat.le_of_ble_eq_true rfl)
  rw [lg_entry_eq]
  generalize (lg_sl ([.ref (g.2.2 13)]) ++ List.replicate (1 - (lg_sl ([.ref (g.2.2 13)])).length) Slot.unset).toArray = ls at hl ⊢
  have hl : lv_has ls 1 [(0, .ref (g.2.2 13))] := hl
  have hqa0 : σ.1 10 = .inr (7, [.ref (g.2.2 11), .ref (g.2.2 12), .int (iI na), .int (iI ra)]) := hsa9.1
  have hqa1 : MRef g σ.1 11 9 Ga := hsa9.2.1
  have hqa2 : MArr g σ.1 12 9 Pa := hsa9.2.2
  have hoa1 := hoa.1
  have hoa2 := hoa.2.1
  have hoa3 := hoa.2.2.1
  have hw_0 := hts (.fieldLink RX5 18 "TwiceAsRich$Partings" "parted" "LTwiceAsRich$Street;") (by decide +kernel)
  have hin_X5 : ∀ w ∈ wsX50, w ∈ wsX5_isClosedWell := by decide +kernel
  have hw_2 := hts (.fieldLink RX5 49 "TwiceAsRich$Street" "count" "I") (by decide +kernel)
  have hin_X7 : ∀ w ∈ wsX70, w ∈ wsX5_isClosedWell := by decide +kernel
  refine lv_aload_n hx hb dX5_isClosedWell_0 rfl (lv_at hl 0 rfl) ?_
  refine x_get (C := RX5) (T := TX5) (N := 8) hx hb hts hin_X5 hown hK hP (13) (by decide) hp13 rfl 5 (by decide) hw_0 (fun _ h9 => h9) rfl dX5_isClosedWell_1 ?_
  refine x_ci (va_runV (As := []) (rest := []) ⟨hx, hb, hml, hown, hts⟩ (c_X7_isClosed l g σ (10) (by decide) (na) (ra) Pa Ga ⟨hqa0, hqa1, hqa2⟩ hoa hH ) (cwV 0 hts gX5_isClosedWell_X7_isClosed rfl rfl rfl (by decide +kernel) ⟨Nat.le_of_ble_eq_true rfl, Nat.le_of_ble_eq_true rfl⟩) (x_preV hK hP (x_recv hK hP (i := 10) (by decide) hqa0 rfl)) rfl rfl hl.1 rfl (lv_room (Nat.le_of_ble_eq_true rfl)) dX5_isClosedWell_4 ⟨Nat.le_of_ble_eq_true rfl, Nat.le_of_ble_eq_true rfl⟩) (fun r_4 hr_4 qr_4 => ?_)
  replace qr_4 : (r_4 = 1 ∧ (ra) = 1 ∧ 3 ≤ (na)) ∨ (r_4 = 0 ∧ ¬ ((ra) = 1 ∧ 3 ≤ (na))) := qr_4
  refine x_if_eq (tgt := 27) hx hb (by omega) dX5_isClosedWell_7 (by decide) (fun c_7 => ?_) (fun c_7 => ?_)
  · refine x_iconst hx hb dX5_isClosedWell_27 ?_
    refine lv_goto (tgt := 32) hx hb dX5_isClosedWell_28 (by decide) ?_
    refine x_retPz hx hb hr (by omega) ?_ dX5_isClosedWell_32 hlocks
    first | exact Or.inl ⟨rfl, fun q => by omega⟩ | (rcases qr_21 with q | q; exact Or.inl ⟨rfl, fun _ => q.2⟩; exfalso; omega) | (rcases qr_21 with q | q; exfalso; omega; exact Or.inr ⟨rfl, by omega, q.2⟩)
  · refine lv_aload_n hx hb dX5_isClosedWell_10 rfl (lv_at hl 0 rfl) ?_
    refine lv_aload_n hx hb dX5_isClosedWell_11 rfl (lv_at hl 0 rfl) ?_
    refine x_get (C := RX5) (T := TX5) (N := 8) hx hb hts hin_X5 hown hK hP (13) (by decide) hp13 rfl 5 (by decide) hw_0 (fun _ h9 => h9) rfl dX5_isClosedWell_12 ?_
    refine x_get (C := RX7) (T := TX7) (N := 4) hx hb hts hin_X7 hown hK hP (10) (by decide) hqa0 rfl 2 (by decide) hw_2 (fun _ h9 => h9) rfl dX5_isClosedWell_15 ?_
    refine x_iconst hx hb dX5_isClosedWell_18 ?_
    refine x_isub hx hb dX5_isClosedWell_19 ?_
    refine x_iconst hx hb dX5_isClosedWell_20 ?_
    have hp21 := hp20 (na - 1) (by omega) (by omega)
    refine x_ci (va_runV (As := [.int (iI (na - 1)), .int (iI (0))]) (rest := []) ⟨hx, hb, hml, hown, hts⟩ (c_X5_suit l g σ (wy) (un) (hd9) (mv) hp13 (na) (ra) Pa Ga ⟨hqa0, hqa1, hqa2⟩ hoa hH (17 + (na - 1).toNat) h16 (na - 1) (by omega) (0) (by omega) rfl (Su (na - 1)) (hsr (na - 1) (by omega) (by omega)) (fun k => hSr _ k) (by omega)) (cwV 2 hts gX5_isClosedWell_X5_suit rfl rfl rfl (by decide +kernel) ⟨Nat.le_of_ble_eq_true rfl, Nat.le_of_ble_eq_true rfl⟩) (x_preV hK hP (x_recv hK hP (i := 13) (by decide) hp13 rfl)) rfl rfl hl.1 rfl (lv_room (Nat.le_of_ble_eq_true rfl)) dX5_isClosedWell_21 ⟨Nat.le_of_ble_eq_true rfl, Nat.le_of_ble_eq_true rfl⟩) (fun r_21 hr_21 qr_21 => ?_)
    replace qr_21 : (r_21 = 1 ∧ zBt (Su (na - 1) (Pa (na - 1))) (Pa (0))) ∨ (r_21 = 0 ∧ ¬ zBt (Su (na - 1) (Pa (na - 1))) (Pa (0))) := qr_21
    refine x_if_eq (tgt := 31) hx hb (by omega) dX5_isClosedWell_24 (by decide) (fun c_24 => ?_) (fun c_24 => ?_)
    · refine x_iconst hx hb dX5_isClosedWell_31 ?_
      refine x_retPz hx hb hr (by omega) ?_ dX5_isClosedWell_32 hlocks
      first | exact Or.inl ⟨rfl, fun q => by omega⟩ | (rcases qr_21 with q | q; exact Or.inl ⟨rfl, fun _ => q.2⟩; exfalso; omega) | (rcases qr_21 with q | q; exfalso; omega; exact Or.inr ⟨rfl, by omega, q.2⟩)
    · refine x_iconst hx hb dX5_isClosedWell_27 ?_
      refine lv_goto (tgt := 32) hx hb dX5_isClosedWell_28 (by decide) ?_
      refine x_retPz hx hb hr (by omega) ?_ dX5_isClosedWell_32 hlocks
      first | exact Or.inl ⟨rfl, fun q => by omega⟩ | (rcases qr_21 with q | q; exact Or.inl ⟨rfl, fun _ => q.2⟩; exfalso; omega) | (rcases qr_21 with q | q; exfalso; omega; exact Or.inr ⟨rfl, by omega, q.2⟩)

set_option maxHeartbeats 4000000 in
set_option maxRecDepth 100000 in
theorem c_X5_note (l : Launch) (g : xG) (σ : xS) (A : Nat → Prop) (wy un hd9 mv : Int) (hp13 : PObj g σ.1 wy un hd9 mv) (na ra : Int) (Pa : Int → Int) (Ga : Int → Option Nat) (hsa9 : StAt g σ.1 10 na ra Pa Ga) (hoa : StOk σ na ra Pa Ga) (hH : HsOk σ) (Wb : Int → Int) (h15 : MArr g σ.1 15 6 Wb) (hWb : ∀ i, 0 ≤ i → i < na → 0 ≤ Wb i ∧ Wb i ≤ 9999) (hn6 : na ≤ 6) (Rc : Int → Int) (h14 : MArr g σ.1 14 6 Rc) (Q : Int → zAcc) (hQ : zRl na wy un hd9 mv Rc Q) (hwl : wy < 100000000) (hz0 : zAll (sK σ Ga) (sF σ Ga) Pa na ra = 0) : Met l yX5_note wsX5_note ({ frames := 4, cells := 0, slots := 0, locals := 128 }) (va_Pc [.ref (g.2.2 13)] (xPreQ g A σ)) (x_Qv g A (fun σ1 => σ1.2 = σ.2 ∧ (∀ j, j ≠ 13 ∧ j ≠ 14 → σ1.1 j = σ.1 j) ∧ ∃ wy2 un2 hd2 mv2 Rc2, PObj g σ1.1 wy2 un2 hd2 mv2 ∧ MArr g σ1.1 14 6 Rc2 ∧ zRl na wy2 un2 hd2 mv2 Rc2 (fun o => zNote (sK σ Ga) (sF σ Ga) Wb na ra o Pa (Q o)))) (0) (0) A := by
  refine Met.ofW (cc := cX5_note) (maxL := 2) (ret := none) (by decide) rfl ?_
  intro p e s m args below meth c s₁ B hml hv
  obtain ⟨rfl, hP, hK, hD, hA⟩ := hv
  have hx := B.exec
  have hb := B.bytes
  have hr := B.returns
  have hts := atoms_spec (ws := wsX5_note) B.pre
  have hown : s.vm.findClass RX5 = some m.cls := findClass_of_methodNamed B.named
  have hlocks := B.notSynchronized
  have hS : va_S A s.heap s.heap [] := va_S.rf
  have hfr : ∀ j, (j ≠ 13 ∧ j ≠ 14) → σ.1 j = σ.1 j := fun _ _ => rfl
  have hl := lv_entry ([.ref (g.2.2 13)]) (n := 2) (Nat.le_of_ble_eq_true rfl)
  rw [lg_entry_eq]
  generalize (lg_sl ([.ref (g.2.2 13)]) ++ List.replicate (2 - (lg_sl ([.ref (g.2.2 13)])).length) Slot.unset).toArray = ls at hl ⊢
  have hl : lv_has ls 2 [(0, .ref (g.2.2 13))] := hl
  have hqa0 : σ.1 10 = .inr (7, [.ref (g.2.2 11), .ref (g.2.2 12), .int (iI na), .int (iI ra)]) := hsa9.1
  have hqa1 : MRef g σ.1 11 9 Ga := hsa9.2.1
  have hqa2 : MArr g σ.1 12 9 Pa := hsa9.2.2
  have hoa1 := hoa.1
  have hoa2 := hoa.2.1
  have hoa3 := hoa.2.2.1
  have hq1 := hQ.1
  have hq2 := hQ.2.1
  have hq3 := hQ.2.2.1
  have hq4 := hQ.2.2.2.1
  have hPb : ∀ i, 0 ≤ i → i < na → 0 ≤ Pa i ∧ Pa i ≤ 9999 := fun i a b => (hoa.2.2.2.2.2 i a b).2
  have hw_0 := hts (.fieldLink RX5 34 "TwiceAsRich$Partings" "uneven" "I") (by decide +kernel)
  have hin_X5 : ∀ w ∈ wsX50, w ∈ wsX5_note := by decide +kernel
  have hw_2 := hts (.methodLink RX5 88 Lib.Math.max.name) (by decide +kernel)
  have hw_3 := hts (.static Lib.Math.max.name) (by decide +kernel)
  have hw_4 := hts (.initialized "java/lang/Math") (by decide +kernel)
  have hw_5 := hts (.code Lib.Math.max.name Lib.Math.max.code 2 (some .int)) (by decide +kernel)
  have hw_6 := hts (.fieldLink RX5 30 "TwiceAsRich$Partings" "ways" "I") (by decide +kernel)
  have hw_7 := hts (.fieldLink RX5 37 "TwiceAsRich$Partings" "hands" "I") (by decide +kernel)
  have hw_8 := hts (.methodLink RX5 107 Lib.Math.min.name) (by decide +kernel)
  have hw_9 := hts (.static Lib.Math.min.name) (by decide +kernel)
  have hw_10 := hts (.code Lib.Math.min.name Lib.Math.min.code 2 (some .int)) (by decide +kernel)
  have hw_11 := hts (.fieldLink RX5 40 "TwiceAsRich$Partings" "moved" "I") (by decide +kernel)
  have hw_12 := hts (.fieldLink RX5 18 "TwiceAsRich$Partings" "parted" "LTwiceAsRich$Street;") (by decide +kernel)
  have hw_13 := hts (.fieldLink RX5 49 "TwiceAsRich$Street" "count" "I") (by decide +kernel)
  have hin_X7 : ∀ w ∈ wsX70, w ∈ wsX5_note := by decide +kernel
  have hw_15 := hts (.fieldLink RX5 9 "TwiceAsRich$Partings" "richest" "[I") (by decide +kernel)
  have hw_16 := hts (.fieldLink RX5 56 "TwiceAsRich$Street" "purses" "[I") (by decide +kernel)
  refine lv_aload_n hx hb dX5_note_0 rfl (lv_at hl 0 rfl) ?_
  refine lv_aload_n hx hb dX5_note_1 rfl (lv_at hl 0 rfl) ?_
  refine x_get (C := RX5) (T := TX5) (N := 8) hx hb hts hin_X5 hown hK hP (13) (by decide) hp13 rfl 1 (by decide) hw_0 (fun _ h9 => h9) rfl dX5_note_2 ?_
  refine lv_aload_n hx hb dX5_note_5 rfl (lv_at hl 0 rfl) ?_
  refine x_ci (va_runV (As := []) (rest := [.int (iI (un)), .ref (g.2.2 13)]) ⟨hx, hb, hml, hown, hts⟩ (c_X5_difference l g σ (wy) (un) (hd9) (mv) hp13 (na) (ra) Pa Ga ⟨hqa0, hqa1, hqa2⟩ hoa hH Wb h15 hWb hn6) (cwV 0 hts gX5_note_X5_difference rfl rfl rfl (by decide +kernel) ⟨Nat.le_of_ble_eq_true rfl, Nat.le_of_ble_eq_true rfl⟩) (x_preV hK hP (x_recv hK hP (i := 13) (by decide) hp13 rfl)) rfl rfl hl.1 rfl (lv_room (Nat.le_of_ble_eq_true rfl)) dX5_note_6 ⟨Nat.le_of_ble_eq_true rfl, Nat.le_of_ble_eq_true rfl⟩) (fun r_6 hr_6 qr_6 => ?_)
  replace qr_6 : r_6 = zApt Pa (na) ∧ 0 ≤ r_6 ∧ r_6 ≤ 9999 := qr_6
  refine x_max hx hb (hml.trans hl.1.symm) hown hw_2 hw_3 hw_4 hw_5 (Nat.le_of_ble_eq_true rfl) (Nat.le_of_ble_eq_true rfl) (Nat.le_of_ble_eq_true rfl) (Nat.le_of_ble_eq_true rfl) (by omega) (by omega) dX5_note_9 (fun q_1 hq_1 => ?_)
  refine x_put (C := RX5) (T := TX5) (N := 8) (ty := .int) hx hb hts hin_X5 hown hK hP hD hS (13) (by decide) hp13 rfl tyX5 tyX5_ok nmX5 1 (by decide) hw_0 (fun _ h9 => h9) rfl (by decide +kernel) rfl rfl (Nat.le_of_ble_eq_true rfl) dX5_note_12 (fun M_2 H locs hnew hne hP hD hS => ?_)
  have hP : xP g (M_2, σ.2) H := hP
  have hD : xD g A (M_2, σ.2) := hD
  have hp13 : M_2 (13) = .inr (5, [.int (iI (wy)), .int (iI (q_1)), .int (iI (hd9)), .int (iI (mv)), .ref (g.2.2 14), .ref (g.2.2 10), .ref (g.2.2 15), .ref (g.2.2 16)]) := hnew
  have h15 := (hne (15) (by decide)).trans h15
  have hqa0 := (hne (10) (by decide)).trans hqa0
  have hqa1 := (hne (11) (by decide)).trans hqa1
  have hqa2 := (hne (12) (by decide)).trans hqa2
  have h14 := (hne (14) (by decide)).trans h14
  have hfr := x_fr (F := fun j => j ≠ 13 ∧ j ≠ 14) hfr hne (fun j h => by have h : j ≠ 13 ∧ j ≠ 14 := h; omega)
  refine lv_aload_n hx hb dX5_note_15 rfl (lv_at hl 0 rfl) ?_
  refine lv_aload_n hx hb dX5_note_16 rfl (lv_at hl 0 rfl) ?_
  refine x_get (C := RX5) (T := TX5) (N := 8) hx hb hts hin_X5 hown hK hP (13) (by decide) hp13 rfl 0 (by decide) hw_6 (fun _ h9 => h9) rfl dX5_note_17 ?_
  refine x_if_ne (tgt := 30) hx hb (by omega) dX5_note_20 (by decide) (fun c_20 => ?_) (fun c_20 => ?_)
  · refine lv_aload_n hx hb dX5_note_30 rfl (lv_at hl 0 rfl) ?_
    refine x_get (C := RX5) (T := TX5) (N := 8) hx hb hts hin_X5 hown hK hP (13) (by decide) hp13 rfl 2 (by decide) hw_7 (fun _ h9 => h9) rfl dX5_note_31 ?_
    refine lv_aload_n hx hb dX5_note_34 rfl (lv_at hl 0 rfl) ?_
    refine x_ci (va_runV (As := []) (rest := [.int (iI (hd9)), .ref (g.2.2 13)]) ⟨hx, hb, hml, hown, hts⟩ (c_X5_handed l g (M_2, σ.2) (wy) (q_1) (hd9) (mv) hp13 (na) (ra) Pa Ga ⟨hqa0, hqa1, hqa2⟩ hoa hH Wb h15 hWb hn6) (cwV 0 hts gX5_note_X5_handed rfl rfl rfl (by decide +kernel) ⟨Nat.le_of_ble_eq_true rfl, Nat.le_of_ble_eq_true rfl⟩) (x_preV hK hP (x_recv hK hP (i := 13) (by decide) hp13 rfl)) rfl rfl hl.1 rfl (lv_room (Nat.le_of_ble_eq_true rfl)) dX5_note_35 ⟨Nat.le_of_ble_eq_true rfl, Nat.le_of_ble_eq_true rfl⟩) (fun r_35 hr_35 qr_35 => ?_)
    replace qr_35 : r_35 = zHnd Wb Pa (na).toNat ∧ 0 ≤ r_35 ∧ r_35 ≤ 3600000 := qr_35
    refine x_min hx hb (hml.trans hl.1.symm) hown hw_8 hw_9 hw_4 hw_10 (Nat.le_of_ble_eq_true rfl) (Nat.le_of_ble_eq_true rfl) (Nat.le_of_ble_eq_true rfl) (Nat.le_of_ble_eq_true rfl) (by omega) (by omega) dX5_note_38 (fun q_3 hq_3 => ?_)
    refine x_put (C := RX5) (T := TX5) (N := 8) (ty := .int) hx hb hts hin_X5 hown hK hP hD hS (13) (by decide) hp13 rfl tyX5 tyX5_ok nmX5 2 (by decide) hw_7 (fun _ h9 => h9) rfl (by decide +kernel) rfl rfl (Nat.le_of_ble_eq_true rfl) dX5_note_41 (fun M_4 H locs hnew hne hP hD hS => ?_)
    have hP : xP g (M_4, σ.2) H := hP
    have hD : xD g A (M_4, σ.2) := hD
    have hp13 : M_4 (13) = .inr (5, [.int (iI (wy)), .int (iI (q_1)), .int (iI (q_3)), .int (iI (mv)), .ref (g.2.2 14), .ref (g.2.2 10), .ref (g.2.2 15), .ref (g.2.2 16)]) := hnew
    have h15 := (hne (15) (by decide)).trans h15
    have hqa0 := (hne (10) (by decide)).trans hqa0
    have hqa1 := (hne (11) (by decide)).trans hqa1
    have hqa2 := (hne (12) (by decide)).trans hqa2
    have h14 := (hne (14) (by decide)).trans h14
    have hfr := x_fr (F := fun j => j ≠ 13 ∧ j ≠ 14) hfr hne (fun j h => by have h : j ≠ 13 ∧ j ≠ 14 := h; omega)
    refine lv_aload_n hx hb dX5_note_44 rfl (lv_at hl 0 rfl) ?_
    refine lv_aload_n hx hb dX5_note_45 rfl (lv_at hl 0 rfl) ?_
    refine x_get (C := RX5) (T := TX5) (N := 8) hx hb hts hin_X5 hown hK hP (13) (by decide) hp13 rfl 0 (by decide) hw_6 (fun _ h9 => h9) rfl dX5_note_46 ?_
    refine x_if_ne (tgt := 59) hx hb (by omega) dX5_note_49 (by decide) (fun c_49 => ?_) (fun c_49 => ?_)
    · refine lv_aload_n hx hb dX5_note_59 rfl (lv_at hl 0 rfl) ?_
      refine x_get (C := RX5) (T := TX5) (N := 8) hx hb hts hin_X5 hown hK hP (13) (by decide) hp13 rfl 3 (by decide) hw_11 (fun _ h9 => h9) rfl dX5_note_60 ?_
      refine lv_aload_n hx hb dX5_note_63 rfl (lv_at hl 0 rfl) ?_
      refine x_ci (va_runV (As := []) (rest := [.int (iI (mv)), .ref (g.2.2 13)]) ⟨hx, hb, hml, hown, hts⟩ (c_X5_moving l g (M_4, σ.2) (wy) (q_1) (q_3) (mv) hp13 (na) (ra) Pa Ga ⟨hqa0, hqa1, hqa2⟩ hoa hH Wb h15 hWb hn6) (cwV 0 hts gX5_note_X5_moving rfl rfl rfl (by decide +kernel) ⟨Nat.le_of_ble_eq_true rfl, Nat.le_of_ble_eq_true rfl⟩) (x_preV hK hP (x_recv hK hP (i := 13) (by decide) hp13 rfl)) rfl rfl hl.1 rfl (lv_room (Nat.le_of_ble_eq_true rfl)) dX5_note_64 ⟨Nat.le_of_ble_eq_true rfl, Nat.le_of_ble_eq_true rfl⟩) (fun r_64 hr_64 qr_64 => ?_)
      replace qr_64 : r_64 = zAnS Wb Pa (na).toNat ∧ 0 ≤ r_64 ∧ r_64 ≤ 60000 := qr_64
      refine x_min hx hb (hml.trans hl.1.symm) hown hw_8 hw_9 hw_4 hw_10 (Nat.le_of_ble_eq_true rfl) (Nat.le_of_ble_eq_true rfl) (Nat.le_of_ble_eq_true rfl) (Nat.le_of_ble_eq_true rfl) (by omega) (by omega) dX5_note_67 (fun q_5 hq_5 => ?_)
      refine x_put (C := RX5) (T := TX5) (N := 8) (ty := .int) hx hb hts hin_X5 hown hK hP hD hS (13) (by decide) hp13 rfl tyX5 tyX5_ok nmX5 3 (by decide) hw_11 (fun _ h9 => h9) rfl (by decide +kernel) rfl rfl (Nat.le_of_ble_eq_true rfl) dX5_note_70 (fun M_6 H locs hnew hne hP hD hS => ?_)
      have hP : xP g (M_6, σ.2) H := hP
      have hD : xD g A (M_6, σ.2) := hD
      have hp13 : M_6 (13) = .inr (5, [.int (iI (wy)), .int (iI (q_1)), .int (iI (q_3)), .int (iI (q_5)), .ref (g.2.2 14), .ref (g.2.2 10), .ref (g.2.2 15), .ref (g.2.2 16)]) := hnew
      have h15 := (hne (15) (by decide)).trans h15
      have hqa0 := (hne (10) (by decide)).trans hqa0
      have hqa1 := (hne (11) (by decide)).trans hqa1
      have hqa2 := (hne (12) (by decide)).trans hqa2
      have h14 := (hne (14) (by decide)).trans h14
      have hfr := x_fr (F := fun j => j ≠ 13 ∧ j ≠ 14) hfr hne (fun j h => by have h : j ≠ 13 ∧ j ≠ 14 := h; omega)
      refine x_iconst hx hb dX5_note_73 ?_
      refine lv_istore_n (lv' := [(1, .int (iI (0))), (0, .ref (g.2.2 13))]) hx hb dX5_note_74 rfl hl (by decide) rfl (fun ls hl => ?_)
      have hloop_75 : ∀ (k : Nat) (Rz : Int → Int) (i : Int), (na - i).toNat < k → (hi0 : 0 ≤ i) → (hin : i ≤ na) → (hRz : ∀ j, 0 ≤ j → j ≤ 5 → 0 ≤ Rz j ∧ Rz j ≤ 9999) → (hR1 : ∀ j, 0 ≤ j → j < i → Rz j = max (Rc j) (Pa j)) → (hR2 : ∀ j, i ≤ j → Rz j = Rc j) → ∀ (M : xM) (H : Heap) (locs : List Loc), (hp13 : M (13) = .inr (5, [.int (iI (wy)), .int (iI (q_1)), .int (iI (q_3)), .int (iI (q_5)), .ref (g.2.2 14), .ref (g.2.2 10), .ref (g.2.2 15), .ref (g.2.2 16)])) → (h15 : M (15) = .inl (g.2.1 0, 6, .inl (fun k => iI (Wb (k : Int))))) → (hqa0 : M (10) = .inr (7, [.ref (g.2.2 11), .ref (g.2.2 12), .int (iI (na)), .int (iI (ra))])) → (hqa1 : M (11) = .inl (g.2.1 1, 9, .inr (.inr (.inr (.inr (fun k => Ga (k : Int))))))) → (hqa2 : M (12) = .inl (g.2.1 0, 9, .inl (fun k => iI (Pa (k : Int))))) → (h14 : M (14) = .inl (g.2.1 0, 6, .inl (fun k => iI (Rz (k : Int))))) → (hfr : ∀ j, (j ≠ 13 ∧ j ≠ 14) → M j = σ.1 j) → xP g (M, σ.2) H → xD g A (M, σ.2) → va_S A s.heap H locs → ∀ (ls : Array Slot), lv_has ls 2 [(1, .int (iI (i))), (0, .ref (g.2.2 13))] → W p l e (headSpec wsX5_note ({ frames := 4, cells := 0, slots := 0, locals := 128 })).room s m ([.ref (g.2.2 13)] : List Value).toArray below meth c H locs 0 0 (MQ below (x_Qv g A (fun σ1 => σ1.2 = σ.2 ∧ (∀ j, j ≠ 13 ∧ j ≠ 14 → σ1.1 j = σ.1 j) ∧ ∃ wy2 un2 hd2 mv2 Rc2, PObj g σ1.1 wy2 un2 hd2 mv2 ∧ MArr g σ1.1 14 6 Rc2 ∧ zRl na wy2 un2 hd2 mv2 Rc2 (fun o => zNote (sK σ Ga) (sF σ Ga) Wb na ra o Pa (Q o)))) ([.ref (g.2.2 13)] : List Value).toArray s (0) (0) A) (F0 m 75 ls []) := by
        intro k
        induction k with
        | zero =>
          intros; exact absurd (by assumption) (Nat.not_lt_zero _)
        | succ k ih =>
          intro Rz i hmeas hi0 hin hRz hR1 hR2 M H locs hp13 h15 hqa0 hqa1 hqa2 h14 hfr hP hD hS ls hl
          have ih_7 := ih
          have hpi : i < na → 0 ≤ Pa i ∧ Pa i ≤ 9999 := hPb i hi0
          have hri0 := hR2 i (Int.le_refl _)
          refine lv_iload_n hx hb dX5_note_75 rfl (lv_at hl 0 rfl) ?_
          refine lv_aload_n hx hb dX5_note_76 rfl (lv_at hl 1 rfl) ?_
          refine x_get (C := RX5) (T := TX5) (N := 8) hx hb hts hin_X5 hown hK hP (13) (by decide) hp13 rfl 5 (by decide) hw_12 (fun _ h9 => h9) rfl dX5_note_77 ?_
          refine x_get (C := RX7) (T := TX7) (N := 4) hx hb hts hin_X7 hown hK hP (10) (by decide) hqa0 rfl 2 (by decide) hw_13 (fun _ h9 => h9) rfl dX5_note_80 ?_
          refine x_icmp_ge (tgt := 116) hx hb (by omega) (by omega) dX5_note_83 (by decide) (fun c_83 => ?_) (fun c_83 => ?_)
          · refine lv_aload_n hx hb dX5_note_116 rfl (lv_at hl 1 rfl) ?_
            refine lv_dup hx hb dX5_note_117 rfl ?_
            refine x_get (C := RX5) (T := TX5) (N := 8) hx hb hts hin_X5 hown hK hP (13) (by decide) hp13 rfl 0 (by decide) hw_6 (fun _ h9 => h9) rfl dX5_note_118 ?_
            refine x_iconst hx hb dX5_note_121 ?_
            refine x_iadd hx hb dX5_note_122 ?_
            refine x_put (C := RX5) (T := TX5) (N := 8) (ty := .int) hx hb hts hin_X5 hown hK hP hD hS (13) (by decide) hp13 rfl tyX5 tyX5_ok nmX5 0 (by decide) hw_6 (fun _ h9 => h9) rfl (by decide +kernel) rfl rfl (Nat.le_of_ble_eq_true rfl) dX5_note_123 (fun M_8 H locs hnew hne hP hD hS => ?_)
            have hP : xP g (M_8, σ.2) H := hP
            have hD : xD g A (M_8, σ.2) := hD
            have hp13 : M_8 (13) = .inr (5, [.int (iI (wy + 1)), .int (iI (q_1)), .int (iI (q_3)), .int (iI (q_5)), .ref (g.2.2 14), .ref (g.2.2 10), .ref (g.2.2 15), .ref (g.2.2 16)]) := hnew
            have h15 := (hne (15) (by decide)).trans h15
            have hqa0 := (hne (10) (by decide)).trans hqa0
            have hqa1 := (hne (11) (by decide)).trans hqa1
            have hqa2 := (hne (12) (by decide)).trans hqa2
            have h14 := (hne (14) (by decide)).trans h14
            have hfr := x_fr (F := fun j => j ≠ 13 ∧ j ≠ 14) hfr hne (fun j h => by have h : j ≠ 13 ∧ j ≠ 14 := h; omega)
            refine x_retQv hx hb hr ?_ hP hD hS dX5_note_126 hlocks
            refine ⟨rfl, hfr, _, _, _, _, _, hp13, h14, ?_⟩
            exact zRl_note hQ hz0 hwl hn6 hPb (by rw [← qr_6.1]; exact qr_6.2) (by rw [← qr_35.1]; exact qr_35.2) (by rw [← qr_64.1]; exact qr_64.2) (by rw [← qr_6.1]; omega) (Or.inr ⟨by omega, by rw [← qr_35.1]; omega⟩) (Or.inr ⟨by omega, by rw [← qr_64.1]; omega⟩) (fun j a b => hR1 j a (by omega)) (fun j a => hR2 j (by omega))
          · refine lv_aload_n hx hb dX5_note_86 rfl (lv_at hl 1 rfl) ?_
            refine x_get (C := RX5) (T := TX5) (N := 8) hx hb hts hin_X5 hown hK hP (13) (by decide) hp13 rfl 4 (by decide) hw_15 (fun _ h9 => h9) rfl dX5_note_87 ?_
            refine lv_iload_n hx hb dX5_note_90 rfl (lv_at hl 0 rfl) ?_
            refine lv_aload_n hx hb dX5_note_91 rfl (lv_at hl 1 rfl) ?_
            refine x_get (C := RX5) (T := TX5) (N := 8) hx hb hts hin_X5 hown hK hP (13) (by decide) hp13 rfl 4 (by decide) hw_15 (fun _ h9 => h9) rfl dX5_note_92 ?_
            refine lv_iload_n hx hb dX5_note_95 rfl (lv_at hl 0 rfl) ?_
            refine x_iald (f := Rz) hx hb hK hP (14) (by decide) h14 (by omega) (by omega) (by decide) dX5_note_96 ?_
            have hb_9 := hRz (i) (by omega) (by omega)
            refine lv_aload_n hx hb dX5_note_97 rfl (lv_at hl 1 rfl) ?_
            refine x_get (C := RX5) (T := TX5) (N := 8) hx hb hts hin_X5 hown hK hP (13) (by decide) hp13 rfl 5 (by decide) hw_12 (fun _ h9 => h9) rfl dX5_note_98 ?_
            refine x_get (C := RX7) (T := TX7) (N := 4) hx hb hts hin_X7 hown hK hP (10) (by decide) hqa0 rfl 1 (by decide) hw_16 (fun _ h9 => h9) rfl dX5_note_101 ?_
            refine lv_iload_n hx hb dX5_note_104 rfl (lv_at hl 0 rfl) ?_
            refine x_iald (f := Pa) hx hb hK hP (12) (by decide) hqa2 (by omega) (by omega) (by decide) dX5_note_105 ?_
            have hb_10 := hoa.2.2.2.1 (i)
            refine x_max hx hb (hml.trans hl.1.symm) hown hw_2 hw_3 hw_4 hw_5 (Nat.le_of_ble_eq_true rfl) (Nat.le_of_ble_eq_true rfl) (Nat.le_of_ble_eq_true rfl) (Nat.le_of_ble_eq_true rfl) (by omega) (by omega) dX5_note_106 (fun q_11 hq_11 => ?_)
            refine x_iast (f := Rz) hx hb hK hP hD hS (14) (by decide) h14 (by omega) (by omega) (by decide) dX5_note_109 (fun M_12 H locs hnew hne hP hD hS => ?_)
            obtain ⟨f_13, hf_13⟩ : ∃ q : Int → Int, q = (upI Rz (i) (q_11)) := ⟨_, rfl⟩
            rw [← hf_13] at hnew
            have hP : xP g (M_12, σ.2) H := hP
            have hD : xD g A (M_12, σ.2) := hD
            have h14 : M_12 (14) = .inl (g.2.1 0, 6, .inl (fun k => iI (f_13 (k : Int)))) := hnew
            have hp13 := (hne (13) (by decide)).trans hp13
            have h15 := (hne (15) (by decide)).trans h15
            have hqa0 := (hne (10) (by decide)).trans hqa0
            have hqa1 := (hne (11) (by decide)).trans hqa1
            have hqa2 := (hne (12) (by decide)).trans hqa2
            have hfr := x_fr (F := fun j => j ≠ 13 ∧ j ≠ 14) hfr hne (fun j h => by have h : j ≠ 13 ∧ j ≠ 14 := h; omega)
            refine x_iinc (k0 := 0) (lv' := [(1, .int (iI (i + 1))), (0, .ref (g.2.2 13))]) hx hb dX5_note_110 hl rfl (by decide) rfl (fun ls hl => ?_)
            refine lv_goto (tgt := 75) hx hb dX5_note_113 (by decide) ?_
            exact ih_7 (f_13) (i + 1) (by omega) (by omega) (by omega) (by (rw [hf_13]; intro j a b; by_cases e9 : j = i; (subst e9; rw [upI_s]; have z9 := hRz j a b; omega); (rw [upI_n e9]; exact hRz j a b))) (by (rw [hf_13]; intro j a b; by_cases e9 : j = i; (subst e9; rw [upI_s]; omega); (rw [upI_n e9]; exact hR1 j a (by omega)))) (by (rw [hf_13]; intro j a; rw [upI_n (by omega)]; exact hR2 j (by omega))) (M_12) _ _ hp13 h15 hqa0 hqa1 hqa2 h14 hfr hP hD hS ls (lv_sub hl [0, 1] rfl)
      exact hloop_75 (((na - (0)).toNat) + 1) (Rc) (0) (by omega) (by omega) (by omega) (by exact hQ.2.2.2.2.1) (by (intro j a b; omega)) (by exact fun _ _ => rfl) (M_6) _ _ hp13 h15 hqa0 hqa1 hqa2 h14 hfr hP hD hS ls (lv_sub hl [0, 1] rfl)
    · refine lv_aload_n hx hb dX5_note_52 rfl (lv_at hl 0 rfl) ?_
      refine x_ci (va_runV (As := []) (rest := [.ref (g.2.2 13)]) ⟨hx, hb, hml, hown, hts⟩ (c_X5_moving l g (M_4, σ.2) (wy) (q_1) (q_3) (mv) hp13 (na) (ra) Pa Ga ⟨hqa0, hqa1, hqa2⟩ hoa hH Wb h15 hWb hn6) (cwV 0 hts gX5_note_X5_moving rfl rfl rfl (by decide +kernel) ⟨Nat.le_of_ble_eq_true rfl, Nat.le_of_ble_eq_true rfl⟩) (x_preV hK hP (x_recv hK hP (i := 13) (by decide) hp13 rfl)) rfl rfl hl.1 rfl (lv_room (Nat.le_of_ble_eq_true rfl)) dX5_note_53 ⟨Nat.le_of_ble_eq_true rfl, Nat.le_of_ble_eq_true rfl⟩) (fun r_53 hr_53 qr_53 => ?_)
      replace qr_53 : r_53 = zAnS Wb Pa (na).toNat ∧ 0 ≤ r_53 ∧ r_53 ≤ 60000 := qr_53
      refine lv_goto (tgt := 70) hx hb dX5_note_56 (by decide) ?_
      refine x_put (C := RX5) (T := TX5) (N := 8) (ty := .int) hx hb hts hin_X5 hown hK hP hD hS (13) (by decide) hp13 rfl tyX5 tyX5_ok nmX5 3 (by decide) hw_11 (fun _ h9 => h9) rfl (by decide +kernel) rfl rfl (Nat.le_of_ble_eq_true rfl) dX5_note_70 (fun M_14 H locs hnew hne hP hD hS => ?_)
      have hP : xP g (M_14, σ.2) H := hP
      have hD : xD g A (M_14, σ.2) := hD
      have hp13 : M_14 (13) = .inr (5, [.int (iI (wy)), .int (iI (q_1)), .int (iI (q_3)), .int (iI (r_53)), .ref (g.2.2 14), .ref (g.2.2 10), .ref (g.2.2 15), .ref (g.2.2 16)]) := hnew
      have h15 := (hne (15) (by decide)).trans h15
      have hqa0 := (hne (10) (by decide)).trans hqa0
      have hqa1 := (hne (11) (by decide)).trans hqa1
      have hqa2 := (hne (12) (by decide)).trans hqa2
      have h14 := (hne (14) (by decide)).trans h14
      have hfr := x_fr (F := fun j => j ≠ 13 ∧ j ≠ 14) hfr hne (fun j h => by have h : j ≠ 13 ∧ j ≠ 14 := h; omega)
      refine x_iconst hx hb dX5_note_73 ?_
      refine lv_istore_n (lv' := [(1, .int (iI (0))), (0, .ref (g.2.2 13))]) hx hb dX5_note_74 rfl hl (by decide) rfl (fun ls hl => ?_)
      have hloop_75 : ∀ (k : Nat) (Rz : Int → Int) (i : Int), (na - i).toNat < k → (hi0 : 0 ≤ i) → (hin : i ≤ na) → (hRz : ∀ j, 0 ≤ j → j ≤ 5 → 0 ≤ Rz j ∧ Rz j ≤ 9999) → (hR1 : ∀ j, 0 ≤ j → j < i → Rz j = max (Rc j) (Pa j)) → (hR2 : ∀ j, i ≤ j → Rz j = Rc j) → ∀ (M : xM) (H : Heap) (locs : List Loc), (hp13 : M (13) = .inr (5, [.int (iI (wy)), .int (iI (q_1)), .int (iI (q_3)), .int (iI (r_53)), .ref (g.2.2 14), .ref (g.2.2 10), .ref (g.2.2 15), .ref (g.2.2 16)])) → (h15 : M (15) = .inl (g.2.1 0, 6, .inl (fun k => iI (Wb (k : Int))))) → (hqa0 : M (10) = .inr (7, [.ref (g.2.2 11), .ref (g.2.2 12), .int (iI (na)), .int (iI (ra))])) → (hqa1 : M (11) = .inl (g.2.1 1, 9, .inr (.inr (.inr (.inr (fun k => Ga (k : Int))))))) → (hqa2 : M (12) = .inl (g.2.1 0, 9, .inl (fun k => iI (Pa (k : Int))))) → (h14 : M (14) = .inl (g.2.1 0, 6, .inl (fun k => iI (Rz (k : Int))))) → (hfr : ∀ j, (j ≠ 13 ∧ j ≠ 14) → M j = σ.1 j) → xP g (M, σ.2) H → xD g A (M, σ.2) → va_S A s.heap H locs → ∀ (ls : Array Slot), lv_has ls 2 [(1, .int (iI (i))), (0, .ref (g.2.2 13))] → W p l e (headSpec wsX5_note ({ frames := 4, cells := 0, slots := 0, locals := 128 })).room s m ([.ref (g.2.2 13)] : List Value).toArray below meth c H locs 0 0 (MQ below (x_Qv g A (fun σ1 => σ1.2 = σ.2 ∧ (∀ j, j ≠ 13 ∧ j ≠ 14 → σ1.1 j = σ.1 j) ∧ ∃ wy2 un2 hd2 mv2 Rc2, PObj g σ1.1 wy2 un2 hd2 mv2 ∧ MArr g σ1.1 14 6 Rc2 ∧ zRl na wy2 un2 hd2 mv2 Rc2 (fun o => zNote (sK σ Ga) (sF σ Ga) Wb na ra o Pa (Q o)))) ([.ref (g.2.2 13)] : List Value).toArray s (0) (0) A) (F0 m 75 ls []) := by
        intro k
        induction k with
        | zero =>
          intros; exact absurd (by assumption) (Nat.not_lt_zero _)
        | succ k ih =>
          intro Rz i hmeas hi0 hin hRz hR1 hR2 M H locs hp13 h15 hqa0 hqa1 hqa2 h14 hfr hP hD hS ls hl
          have ih_15 := ih
          have hpi : i < na → 0 ≤ Pa i ∧ Pa i ≤ 9999 := hPb i hi0
          have hri0 := hR2 i (Int.le_refl _)
          refine lv_iload_n hx hb dX5_note_75 rfl (lv_at hl 0 rfl) ?_
          refine lv_aload_n hx hb dX5_note_76 rfl (lv_at hl 1 rfl) ?_
          refine x_get (C := RX5) (T := TX5) (N := 8) hx hb hts hin_X5 hown hK hP (13) (by decide) hp13 rfl 5 (by decide) hw_12 (fun _ h9 => h9) rfl dX5_note_77 ?_
          refine x_get (C := RX7) (T := TX7) (N := 4) hx hb hts hin_X7 hown hK hP (10) (by decide) hqa0 rfl 2 (by decide) hw_13 (fun _ h9 => h9) rfl dX5_note_80 ?_
          refine x_icmp_ge (tgt := 116) hx hb (by omega) (by omega) dX5_note_83 (by decide) (fun c_83 => ?_) (fun c_83 => ?_)
          · refine lv_aload_n hx hb dX5_note_116 rfl (lv_at hl 1 rfl) ?_
            refine lv_dup hx hb dX5_note_117 rfl ?_
            refine x_get (C := RX5) (T := TX5) (N := 8) hx hb hts hin_X5 hown hK hP (13) (by decide) hp13 rfl 0 (by decide) hw_6 (fun _ h9 => h9) rfl dX5_note_118 ?_
            refine x_iconst hx hb dX5_note_121 ?_
            refine x_iadd hx hb dX5_note_122 ?_
            refine x_put (C := RX5) (T := TX5) (N := 8) (ty := .int) hx hb hts hin_X5 hown hK hP hD hS (13) (by decide) hp13 rfl tyX5 tyX5_ok nmX5 0 (by decide) hw_6 (fun _ h9 => h9) rfl (by decide +kernel) rfl rfl (Nat.le_of_ble_eq_true rfl) dX5_note_123 (fun M_16 H locs hnew hne hP hD hS => ?_)
            have hP : xP g (M_16, σ.2) H := hP
            have hD : xD g A (M_16, σ.2) := hD
            have hp13 : M_16 (13) = .inr (5, [.int (iI (wy + 1)), .int (iI (q_1)), .int (iI (q_3)), .int (iI (r_53)), .ref (g.2.2 14), .ref (g.2.2 10), .ref (g.2.2 15), .ref (g.2.2 16)]) := hnew
            have h15 := (hne (15) (by decide)).trans h15
            have hqa0 := (hne (10) (by decide)).trans hqa0
            have hqa1 := (hne (11) (by decide)).trans hqa1
            have hqa2 := (hne (12) (by decide)).trans hqa2
            have h14 := (hne (14) (by decide)).trans h14
            have hfr := x_fr (F := fun j => j ≠ 13 ∧ j ≠ 14) hfr hne (fun j h => by have h : j ≠ 13 ∧ j ≠ 14 := h; omega)
            refine x_retQv hx hb hr ?_ hP hD hS dX5_note_126 hlocks
            refine ⟨rfl, hfr, _, _, _, _, _, hp13, h14, ?_⟩
            exact zRl_note hQ hz0 hwl hn6 hPb (by rw [← qr_6.1]; exact qr_6.2) (by rw [← qr_35.1]; exact qr_35.2) (by rw [← qr_53.1]; exact qr_53.2) (by rw [← qr_6.1]; omega) (Or.inr ⟨by omega, by rw [← qr_35.1]; omega⟩) (Or.inl ⟨by omega, qr_53.1⟩) (fun j a b => hR1 j a (by omega)) (fun j a => hR2 j (by omega))
          · refine lv_aload_n hx hb dX5_note_86 rfl (lv_at hl 1 rfl) ?_
            refine x_get (C := RX5) (T := TX5) (N := 8) hx hb hts hin_X5 hown hK hP (13) (by decide) hp13 rfl 4 (by decide) hw_15 (fun _ h9 => h9) rfl dX5_note_87 ?_
            refine lv_iload_n hx hb dX5_note_90 rfl (lv_at hl 0 rfl) ?_
            refine lv_aload_n hx hb dX5_note_91 rfl (lv_at hl 1 rfl) ?_
            refine x_get (C := RX5) (T := TX5) (N := 8) hx hb hts hin_X5 hown hK hP (13) (by decide) hp13 rfl 4 (by decide) hw_15 (fun _ h9 => h9) rfl dX5_note_92 ?_
            refine lv_iload_n hx hb dX5_note_95 rfl (lv_at hl 0 rfl) ?_
            refine x_iald (f := Rz) hx hb hK hP (14) (by decide) h14 (by omega) (by omega) (by decide) dX5_note_96 ?_
            have hb_17 := hRz (i) (by omega) (by omega)
            refine lv_aload_n hx hb dX5_note_97 rfl (lv_at hl 1 rfl) ?_
            refine x_get (C := RX5) (T := TX5) (N := 8) hx hb hts hin_X5 hown hK hP (13) (by decide) hp13 rfl 5 (by decide) hw_12 (fun _ h9 => h9) rfl dX5_note_98 ?_
            refine x_get (C := RX7) (T := TX7) (N := 4) hx hb hts hin_X7 hown hK hP (10) (by decide) hqa0 rfl 1 (by decide) hw_16 (fun _ h9 => h9) rfl dX5_note_101 ?_
            refine lv_iload_n hx hb dX5_note_104 rfl (lv_at hl 0 rfl) ?_
            refine x_iald (f := Pa) hx hb hK hP (12) (by decide) hqa2 (by omega) (by omega) (by decide) dX5_note_105 ?_
            have hb_18 := hoa.2.2.2.1 (i)
            refine x_max hx hb (hml.trans hl.1.symm) hown hw_2 hw_3 hw_4 hw_5 (Nat.le_of_ble_eq_true rfl) (Nat.le_of_ble_eq_true rfl) (Nat.le_of_ble_eq_true rfl) (Nat.le_of_ble_eq_true rfl) (by omega) (by omega) dX5_note_106 (fun q_19 hq_19 => ?_)
            refine x_iast (f := Rz) hx hb hK hP hD hS (14) (by decide) h14 (by omega) (by omega) (by decide) dX5_note_109 (fun M_20 H locs hnew hne hP hD hS => ?_)
            obtain ⟨f_21, hf_21⟩ : ∃ q : Int → Int, q = (upI Rz (i) (q_19)) := ⟨_, rfl⟩
            rw [← hf_21] at hnew
            have hP : xP g (M_20, σ.2) H := hP
            have hD : xD g A (M_20, σ.2) := hD
            have h14 : M_20 (14) = .inl (g.2.1 0, 6, .inl (fun k => iI (f_21 (k : Int)))) := hnew
            have hp13 := (hne (13) (by decide)).trans hp13
            have h15 := (hne (15) (by decide)).trans h15
            have hqa0 := (hne (10) (by decide)).trans hqa0
            have hqa1 := (hne (11) (by decide)).trans hqa1
            have hqa2 := (hne (12) (by decide)).trans hqa2
            have hfr := x_fr (F := fun j => j ≠ 13 ∧ j ≠ 14) hfr hne (fun j h => by have h : j ≠ 13 ∧ j ≠ 14 := h; omega)
            refine x_iinc (k0 := 0) (lv' := [(1, .int (iI (i + 1))), (0, .ref (g.2.2 13))]) hx hb dX5_note_110 hl rfl (by decide) rfl (fun ls hl => ?_)
            refine lv_goto (tgt := 75) hx hb dX5_note_113 (by decide) ?_
            exact ih_15 (f_21) (i + 1) (by omega) (by omega) (by omega) (by (rw [hf_21]; intro j a b; by_cases e9 : j = i; (subst e9; rw [upI_s]; have z9 := hRz j a b; omega); (rw [upI_n e9]; exact hRz j a b))) (by (rw [hf_21]; intro j a b; by_cases e9 : j = i; (subst e9; rw [upI_s]; omega); (rw [upI_n e9]; exact hR1 j a (by omega)))) (by (rw [hf_21]; intro j a; rw [upI_n (by omega)]; exact hR2 j (by omega))) (M_20) _ _ hp13 h15 hqa0 hqa1 hqa2 h14 hfr hP hD hS ls (lv_sub hl [0, 1] rfl)
      exact hloop_75 (((na - (0)).toNat) + 1) (Rc) (0) (by omega) (by omega) (by omega) (by exact hQ.2.2.2.2.1) (by (intro j a b; omega)) (by exact fun _ _ => rfl) (M_14) _ _ hp13 h15 hqa0 hqa1 hqa2 h14 hfr hP hD hS ls (lv_sub hl [0, 1] rfl)
  · refine lv_aload_n hx hb dX5_note_23 rfl (lv_at hl 0 rfl) ?_
    refine x_ci (va_runV (As := []) (rest := [.ref (g.2.2 13)]) ⟨hx, hb, hml, hown, hts⟩ (c_X5_handed l g (M_2, σ.2) (wy) (q_1) (hd9) (mv) hp13 (na) (ra) Pa Ga ⟨hqa0, hqa1, hqa2⟩ hoa hH Wb h15 hWb hn6) (cwV 0 hts gX5_note_X5_handed rfl rfl rfl (by decide +kernel) ⟨Nat.le_of_ble_eq_true rfl, Nat.le_of_ble_eq_true rfl⟩) (x_preV hK hP (x_recv hK hP (i := 13) (by decide) hp13 rfl)) rfl rfl hl.1 rfl (lv_room (Nat.le_of_ble_eq_true rfl)) dX5_note_24 ⟨Nat.le_of_ble_eq_true rfl, Nat.le_of_ble_eq_true rfl⟩) (fun r_24 hr_24 qr_24 => ?_)
    replace qr_24 : r_24 = zHnd Wb Pa (na).toNat ∧ 0 ≤ r_24 ∧ r_24 ≤ 3600000 := qr_24
    refine lv_goto (tgt := 41) hx hb dX5_note_27 (by decide) ?_
    refine x_put (C := RX5) (T := TX5) (N := 8) (ty := .int) hx hb hts hin_X5 hown hK hP hD hS (13) (by decide) hp13 rfl tyX5 tyX5_ok nmX5 2 (by decide) hw_7 (fun _ h9 => h9) rfl (by decide +kernel) rfl rfl (Nat.le_of_ble_eq_true rfl) dX5_note_41 (fun M_22 H locs hnew hne hP hD hS => ?_)
    have hP : xP g (M_22, σ.2) H := hP
    have hD : xD g A (M_22, σ.2) := hD
    have hp13 : M_22 (13) = .inr (5, [.int (iI (wy)), .int (iI (q_1)), .int (iI (r_24)), .int (iI (mv)), .ref (g.2.2 14), .ref (g.2.2 10), .ref (g.2.2 15), .ref (g.2.2 16)]) := hnew
    have h15 := (hne (15) (by decide)).trans h15
    have hqa0 := (hne (10) (by decide)).trans hqa0
    have hqa1 := (hne (11) (by decide)).trans hqa1
    have hqa2 := (hne (12) (by decide)).trans hqa2
    have h14 := (hne (14) (by decide)).trans h14
    have hfr := x_fr (F := fun j => j ≠ 13 ∧ j ≠ 14) hfr hne (fun j h => by have h : j ≠ 13 ∧ j ≠ 14 := h; omega)
    refine lv_aload_n hx hb dX5_note_44 rfl (lv_at hl 0 rfl) ?_
    refine lv_aload_n hx hb dX5_note_45 rfl (lv_at hl 0 rfl) ?_
    refine x_get (C := RX5) (T := TX5) (N := 8) hx hb hts hin_X5 hown hK hP (13) (by decide) hp13 rfl 0 (by decide) hw_6 (fun _ h9 => h9) rfl dX5_note_46 ?_
    refine x_if_ne (tgt := 59) hx hb (by omega) dX5_note_49 (by decide) (fun c_49 => ?_) (fun c_49 => ?_)
    · refine lv_aload_n hx hb dX5_note_59 rfl (lv_at hl 0 rfl) ?_
      refine x_get (C := RX5) (T := TX5) (N := 8) hx hb hts hin_X5 hown hK hP (13) (by decide) hp13 rfl 3 (by decide) hw_11 (fun _ h9 => h9) rfl dX5_note_60 ?_
      refine lv_aload_n hx hb dX5_note_63 rfl (lv_at hl 0 rfl) ?_
      refine x_ci (va_runV (As := []) (rest := [.int (iI (mv)), .ref (g.2.2 13)]) ⟨hx, hb, hml, hown, hts⟩ (c_X5_moving l g (M_22, σ.2) (wy) (q_1) (r_24) (mv) hp13 (na) (ra) Pa Ga ⟨hqa0, hqa1, hqa2⟩ hoa hH Wb h15 hWb hn6) (cwV 0 hts gX5_note_X5_moving rfl rfl rfl (by decide +kernel) ⟨Nat.le_of_ble_eq_true rfl, Nat.le_of_ble_eq_true rfl⟩) (x_preV hK hP (x_recv hK hP (i := 13) (by decide) hp13 rfl)) rfl rfl hl.1 rfl (lv_room (Nat.le_of_ble_eq_true rfl)) dX5_note_64 ⟨Nat.le_of_ble_eq_true rfl, Nat.le_of_ble_eq_true rfl⟩) (fun r_64 hr_64 qr_64 => ?_)
      replace qr_64 : r_64 = zAnS Wb Pa (na).toNat ∧ 0 ≤ r_64 ∧ r_64 ≤ 60000 := qr_64
      refine x_min hx hb (hml.trans hl.1.symm) hown hw_8 hw_9 hw_4 hw_10 (Nat.le_of_ble_eq_true rfl) (Nat.le_of_ble_eq_true rfl) (Nat.le_of_ble_eq_true rfl) (Nat.le_of_ble_eq_true rfl) (by omega) (by omega) dX5_note_67 (fun q_23 hq_23 => ?_)
      refine x_put (C := RX5) (T := TX5) (N := 8) (ty := .int) hx hb hts hin_X5 hown hK hP hD hS (13) (by decide) hp13 rfl tyX5 tyX5_ok nmX5 3 (by decide) hw_11 (fun _ h9 => h9) rfl (by decide +kernel) rfl rfl (Nat.le_of_ble_eq_true rfl) dX5_note_70 (fun M_24 H locs hnew hne hP hD hS => ?_)
      have hP : xP g (M_24, σ.2) H := hP
      have hD : xD g A (M_24, σ.2) := hD
      have hp13 : M_24 (13) = .inr (5, [.int (iI (wy)), .int (iI (q_1)), .int (iI (r_24)), .int (iI (q_23)), .ref (g.2.2 14), .ref (g.2.2 10), .ref (g.2.2 15), .ref (g.2.2 16)]) := hnew
      have h15 := (hne (15) (by decide)).trans h15
      have hqa0 := (hne (10) (by decide)).trans hqa0
      have hqa1 := (hne (11) (by decide)).trans hqa1
      have hqa2 := (hne (12) (by decide)).trans hqa2
      have h14 := (hne (14) (by decide)).trans h14
      have hfr := x_fr (F := fun j => j ≠ 13 ∧ j ≠ 14) hfr hne (fun j h => by have h : j ≠ 13 ∧ j ≠ 14 := h; omega)
      refine x_iconst hx hb dX5_note_73 ?_
      refine lv_istore_n (lv' := [(1, .int (iI (0))), (0, .ref (g.2.2 13))]) hx hb dX5_note_74 rfl hl (by decide) rfl (fun ls hl => ?_)
      have hloop_75 : ∀ (k : Nat) (Rz : Int → Int) (i : Int), (na - i).toNat < k → (hi0 : 0 ≤ i) → (hin : i ≤ na) → (hRz : ∀ j, 0 ≤ j → j ≤ 5 → 0 ≤ Rz j ∧ Rz j ≤ 9999) → (hR1 : ∀ j, 0 ≤ j → j < i → Rz j = max (Rc j) (Pa j)) → (hR2 : ∀ j, i ≤ j → Rz j = Rc j) → ∀ (M : xM) (H : Heap) (locs : List Loc), (hp13 : M (13) = .inr (5, [.int (iI (wy)), .int (iI (q_1)), .int (iI (r_24)), .int (iI (q_23)), .ref (g.2.2 14), .ref (g.2.2 10), .ref (g.2.2 15), .ref (g.2.2 16)])) → (h15 : M (15) = .inl (g.2.1 0, 6, .inl (fun k => iI (Wb (k : Int))))) → (hqa0 : M (10) = .inr (7, [.ref (g.2.2 11), .ref (g.2.2 12), .int (iI (na)), .int (iI (ra))])) → (hqa1 : M (11) = .inl (g.2.1 1, 9, .inr (.inr (.inr (.inr (fun k => Ga (k : Int))))))) → (hqa2 : M (12) = .inl (g.2.1 0, 9, .inl (fun k => iI (Pa (k : Int))))) → (h14 : M (14) = .inl (g.2.1 0, 6, .inl (fun k => iI (Rz (k : Int))))) → (hfr : ∀ j, (j ≠ 13 ∧ j ≠ 14) → M j = σ.1 j) → xP g (M, σ.2) H → xD g A (M, σ.2) → va_S A s.heap H locs → ∀ (ls : Array Slot), lv_has ls 2 [(1, .int (iI (i))), (0, .ref (g.2.2 13))] → W p l e (headSpec wsX5_note ({ frames := 4, cells := 0, slots := 0, locals := 128 })).room s m ([.ref (g.2.2 13)] : List Value).toArray below meth c H locs 0 0 (MQ below (x_Qv g A (fun σ1 => σ1.2 = σ.2 ∧ (∀ j, j ≠ 13 ∧ j ≠ 14 → σ1.1 j = σ.1 j) ∧ ∃ wy2 un2 hd2 mv2 Rc2, PObj g σ1.1 wy2 un2 hd2 mv2 ∧ MArr g σ1.1 14 6 Rc2 ∧ zRl na wy2 un2 hd2 mv2 Rc2 (fun o => zNote (sK σ Ga) (sF σ Ga) Wb na ra o Pa (Q o)))) ([.ref (g.2.2 13)] : List Value).toArray s (0) (0) A) (F0 m 75 ls []) := by
        intro k
        induction k with
        | zero =>
          intros; exact absurd (by assumption) (Nat.not_lt_zero _)
        | succ k ih =>
          intro Rz i hmeas hi0 hin hRz hR1 hR2 M H locs hp13 h15 hqa0 hqa1 hqa2 h14 hfr hP hD hS ls hl
          have ih_25 := ih
          have hpi : i < na → 0 ≤ Pa i ∧ Pa i ≤ 9999 := hPb i hi0
          have hri0 := hR2 i (Int.le_refl _)
          refine lv_iload_n hx hb dX5_note_75 rfl (lv_at hl 0 rfl) ?_
          refine lv_aload_n hx hb dX5_note_76 rfl (lv_at hl 1 rfl) ?_
          refine x_get (C := RX5) (T := TX5) (N := 8) hx hb hts hin_X5 hown hK hP (13) (by decide) hp13 rfl 5 (by decide) hw_12 (fun _ h9 => h9) rfl dX5_note_77 ?_
          refine x_get (C := RX7) (T := TX7) (N := 4) hx hb hts hin_X7 hown hK hP (10) (by decide) hqa0 rfl 2 (by decide) hw_13 (fun _ h9 => h9) rfl dX5_note_80 ?_
          refine x_icmp_ge (tgt := 116) hx hb (by omega) (by omega) dX5_note_83 (by decide) (fun c_83 => ?_) (fun c_83 => ?_)
          · refine lv_aload_n hx hb dX5_note_116 rfl (lv_at hl 1 rfl) ?_
            refine lv_dup hx hb dX5_note_117 rfl ?_
            refine x_get (C := RX5) (T := TX5) (N := 8) hx hb hts hin_X5 hown hK hP (13) (by decide) hp13 rfl 0 (by decide) hw_6 (fun _ h9 => h9) rfl dX5_note_118 ?_
            refine x_iconst hx hb dX5_note_121 ?_
            refine x_iadd hx hb dX5_note_122 ?_
            refine x_put (C := RX5) (T := TX5) (N := 8) (ty := .int) hx hb hts hin_X5 hown hK hP hD hS (13) (by decide) hp13 rfl tyX5 tyX5_ok nmX5 0 (by decide) hw_6 (fun _ h9 => h9) rfl (by decide +kernel) rfl rfl (Nat.le_of_ble_eq_true rfl) dX5_note_123 (fun M_26 H locs hnew hne hP hD hS => ?_)
            have hP : xP g (M_26, σ.2) H := hP
            have hD : xD g A (M_26, σ.2) := hD
            have hp13 : M_26 (13) = .inr (5, [.int (iI (wy + 1)), .int (iI (q_1)), .int (iI (r_24)), .int (iI (q_23)), .ref (g.2.2 14), .ref (g.2.2 10), .ref (g.2.2 15), .ref (g.2.2 16)]) := hnew
            have h15 := (hne (15) (by decide)).trans h15
            have hqa0 := (hne (10) (by decide)).trans hqa0
            have hqa1 := (hne (11) (by decide)).trans hqa1
            have hqa2 := (hne (12) (by decide)).trans hqa2
            have h14 := (hne (14) (by decide)).trans h14
            have hfr := x_fr (F := fun j => j ≠ 13 ∧ j ≠ 14) hfr hne (fun j h => by have h : j ≠ 13 ∧ j ≠ 14 := h; omega)
            refine x_retQv hx hb hr ?_ hP hD hS dX5_note_126 hlocks
            refine ⟨rfl, hfr, _, _, _, _, _, hp13, h14, ?_⟩
            exact zRl_note hQ hz0 hwl hn6 hPb (by rw [← qr_6.1]; exact qr_6.2) (by rw [← qr_24.1]; exact qr_24.2) (by rw [← qr_64.1]; exact qr_64.2) (by rw [← qr_6.1]; omega) (Or.inl ⟨by omega, qr_24.1⟩) (Or.inr ⟨by omega, by rw [← qr_64.1]; omega⟩) (fun j a b => hR1 j a (by omega)) (fun j a => hR2 j (by omega))
          · refine lv_aload_n hx hb dX5_note_86 rfl (lv_at hl 1 rfl) ?_
            refine x_get (C := RX5) (T := TX5) (N := 8) hx hb hts hin_X5 hown hK hP (13) (by decide) hp13 rfl 4 (by decide) hw_15 (fun _ h9 => h9) rfl dX5_note_87 ?_
            refine lv_iload_n hx hb dX5_note_90 rfl (lv_at hl 0 rfl) ?_
            refine lv_aload_n hx hb dX5_note_91 rfl (lv_at hl 1 rfl) ?_
            refine x_get (C := RX5) (T := TX5) (N := 8) hx hb hts hin_X5 hown hK hP (13) (by decide) hp13 rfl 4 (by decide) hw_15 (fun _ h9 => h9) rfl dX5_note_92 ?_
            refine lv_iload_n hx hb dX5_note_95 rfl (lv_at hl 0 rfl) ?_
            refine x_iald (f := Rz) hx hb hK hP (14) (by decide) h14 (by omega) (by omega) (by decide) dX5_note_96 ?_
            have hb_27 := hRz (i) (by omega) (by omega)
            refine lv_aload_n hx hb dX5_note_97 rfl (lv_at hl 1 rfl) ?_
            refine x_get (C := RX5) (T := TX5) (N := 8) hx hb hts hin_X5 hown hK hP (13) (by decide) hp13 rfl 5 (by decide) hw_12 (fun _ h9 => h9) rfl dX5_note_98 ?_
            refine x_get (C := RX7) (T := TX7) (N := 4) hx hb hts hin_X7 hown hK hP (10) (by decide) hqa0 rfl 1 (by decide) hw_16 (fun _ h9 => h9) rfl dX5_note_101 ?_
            refine lv_iload_n hx hb dX5_note_104 rfl (lv_at hl 0 rfl) ?_
            refine x_iald (f := Pa) hx hb hK hP (12) (by decide) hqa2 (by omega) (by omega) (by decide) dX5_note_105 ?_
            have hb_28 := hoa.2.2.2.1 (i)
            refine x_max hx hb (hml.trans hl.1.symm) hown hw_2 hw_3 hw_4 hw_5 (Nat.le_of_ble_eq_true rfl) (Nat.le_of_ble_eq_true rfl) (Nat.le_of_ble_eq_true rfl) (Nat.le_of_ble_eq_true rfl) (by omega) (by omega) dX5_note_106 (fun q_29 hq_29 => ?_)
            refine x_iast (f := Rz) hx hb hK hP hD hS (14) (by decide) h14 (by omega) (by omega) (by decide) dX5_note_109 (fun M_30 H locs hnew hne hP hD hS => ?_)
            obtain ⟨f_31, hf_31⟩ : ∃ q : Int → Int, q = (upI Rz (i) (q_29)) := ⟨_, rfl⟩
            rw [← hf_31] at hnew
            have hP : xP g (M_30, σ.2) H := hP
            have hD : xD g A (M_30, σ.2) := hD
            have h14 : M_30 (14) = .inl (g.2.1 0, 6, .inl (fun k => iI (f_31 (k : Int)))) := hnew
            have hp13 := (hne (13) (by decide)).trans hp13
            have h15 := (hne (15) (by decide)).trans h15
            have hqa0 := (hne (10) (by decide)).trans hqa0
            have hqa1 := (hne (11) (by decide)).trans hqa1
            have hqa2 := (hne (12) (by decide)).trans hqa2
            have hfr := x_fr (F := fun j => j ≠ 13 ∧ j ≠ 14) hfr hne (fun j h => by have h : j ≠ 13 ∧ j ≠ 14 := h; omega)
            refine x_iinc (k0 := 0) (lv' := [(1, .int (iI (i + 1))), (0, .ref (g.2.2 13))]) hx hb dX5_note_110 hl rfl (by decide) rfl (fun ls hl => ?_)
            refine lv_goto (tgt := 75) hx hb dX5_note_113 (by decide) ?_
            exact ih_25 (f_31) (i + 1) (by omega) (by omega) (by omega) (by (rw [hf_31]; intro j a b; by_cases e9 : j = i; (subst e9; rw [upI_s]; have z9 := hRz j a b; omega); (rw [upI_n e9]; exact hRz j a b))) (by (rw [hf_31]; intro j a b; by_cases e9 : j = i; (subst e9; rw [upI_s]; omega); (rw [upI_n e9]; exact hR1 j a (by omega)))) (by (rw [hf_31]; intro j a; rw [upI_n (by omega)]; exact hR2 j (by omega))) (M_30) _ _ hp13 h15 hqa0 hqa1 hqa2 h14 hfr hP hD hS ls (lv_sub hl [0, 1] rfl)
      exact hloop_75 (((na - (0)).toNat) + 1) (Rc) (0) (by omega) (by omega) (by omega) (by exact hQ.2.2.2.2.1) (by (intro j a b; omega)) (by exact fun _ _ => rfl) (M_24) _ _ hp13 h15 hqa0 hqa1 hqa2 h14 hfr hP hD hS ls (lv_sub hl [0, 1] rfl)
    · refine lv_aload_n hx hb dX5_note_52 rfl (lv_at hl 0 rfl) ?_
      refine x_ci (va_runV (As := []) (rest := [.ref (g.2.2 13)]) ⟨hx, hb, hml, hown, hts⟩ (c_X5_moving l g (M_22, σ.2) (wy) (q_1) (r_24) (mv) hp13 (na) (ra) Pa Ga ⟨hqa0, hqa1, hqa2⟩ hoa hH Wb h15 hWb hn6) (cwV 0 hts gX5_note_X5_moving rfl rfl rfl (by decide +kernel) ⟨Nat.le_of_ble_eq_true rfl, Nat.le_of_ble_eq_true rfl⟩) (x_preV hK hP (x_recv hK hP (i := 13) (by decide) hp13 rfl)) rfl rfl hl.1 rfl (lv_room (Nat.le_of_ble_eq_true rfl)) dX5_note_53 ⟨Nat.le_of_ble_eq_true rfl, Nat.le_of_ble_eq_true rfl⟩) (fun r_53 hr_53 qr_53 => ?_)
      replace qr_53 : r_53 = zAnS Wb Pa (na).toNat ∧ 0 ≤ r_53 ∧ r_53 ≤ 60000 := qr_53
      refine lv_goto (tgt := 70) hx hb dX5_note_56 (by decide) ?_
      refine x_put (C := RX5) (T := TX5) (N := 8) (ty := .int) hx hb hts hin_X5 hown hK hP hD hS (13) (by decide) hp13 rfl tyX5 tyX5_ok nmX5 3 (by decide) hw_11 (fun _ h9 => h9) rfl (by decide +kernel) rfl rfl (Nat.le_of_ble_eq_true rfl) dX5_note_70 (fun M_32 H locs hnew hne hP hD hS => ?_)
      have hP : xP g (M_32, σ.2) H := hP
      have hD : xD g A (M_32, σ.2) := hD
      have hp13 : M_32 (13) = .inr (5, [.int (iI (wy)), .int (iI (q_1)), .int (iI (r_24)), .int (iI (r_53)), .ref (g.2.2 14), .ref (g.2.2 10), .ref (g.2.2 15), .ref (g.2.2 16)]) := hnew
      have h15 := (hne (15) (by decide)).trans h15
      have hqa0 := (hne (10) (by decide)).trans hqa0
      have hqa1 := (hne (11) (by decide)).trans hqa1
      have hqa2 := (hne (12) (by decide)).trans hqa2
      have h14 := (hne (14) (by decide)).trans h14
      have hfr := x_fr (F := fun j => j ≠ 13 ∧ j ≠ 14) hfr hne (fun j h => by have h : j ≠ 13 ∧ j ≠ 14 := h; omega)
      refine x_iconst hx hb dX5_note_73 ?_
      refine lv_istore_n (lv' := [(1, .int (iI (0))), (0, .ref (g.2.2 13))]) hx hb dX5_note_74 rfl hl (by decide) rfl (fun ls hl => ?_)
      have hloop_75 : ∀ (k : Nat) (Rz : Int → Int) (i : Int), (na - i).toNat < k → (hi0 : 0 ≤ i) → (hin : i ≤ na) → (hRz : ∀ j, 0 ≤ j → j ≤ 5 → 0 ≤ Rz j ∧ Rz j ≤ 9999) → (hR1 : ∀ j, 0 ≤ j → j < i → Rz j = max (Rc j) (Pa j)) → (hR2 : ∀ j, i ≤ j → Rz j = Rc j) → ∀ (M : xM) (H : Heap) (locs : List Loc), (hp13 : M (13) = .inr (5, [.int (iI (wy)), .int (iI (q_1)), .int (iI (r_24)), .int (iI (r_53)), .ref (g.2.2 14), .ref (g.2.2 10), .ref (g.2.2 15), .ref (g.2.2 16)])) → (h15 : M (15) = .inl (g.2.1 0, 6, .inl (fun k => iI (Wb (k : Int))))) → (hqa0 : M (10) = .inr (7, [.ref (g.2.2 11), .ref (g.2.2 12), .int (iI (na)), .int (iI (ra))])) → (hqa1 : M (11) = .inl (g.2.1 1, 9, .inr (.inr (.inr (.inr (fun k => Ga (k : Int))))))) → (hqa2 : M (12) = .inl (g.2.1 0, 9, .inl (fun k => iI (Pa (k : Int))))) → (h14 : M (14) = .inl (g.2.1 0, 6, .inl (fun k => iI (Rz (k : Int))))) → (hfr : ∀ j, (j ≠ 13 ∧ j ≠ 14) → M j = σ.1 j) → xP g (M, σ.2) H → xD g A (M, σ.2) → va_S A s.heap H locs → ∀ (ls : Array Slot), lv_has ls 2 [(1, .int (iI (i))), (0, .ref (g.2.2 13))] → W p l e (headSpec wsX5_note ({ frames := 4, cells := 0, slots := 0, locals := 128 })).room s m ([.ref (g.2.2 13)] : List Value).toArray below meth c H locs 0 0 (MQ below (x_Qv g A (fun σ1 => σ1.2 = σ.2 ∧ (∀ j, j ≠ 13 ∧ j ≠ 14 → σ1.1 j = σ.1 j) ∧ ∃ wy2 un2 hd2 mv2 Rc2, PObj g σ1.1 wy2 un2 hd2 mv2 ∧ MArr g σ1.1 14 6 Rc2 ∧ zRl na wy2 un2 hd2 mv2 Rc2 (fun o => zNote (sK σ Ga) (sF σ Ga) Wb na ra o Pa (Q o)))) ([.ref (g.2.2 13)] : List Value).toArray s (0) (0) A) (F0 m 75 ls []) := by
        intro k
        induction k with
        | zero =>
          intros; exact absurd (by assumption) (Nat.not_lt_zero _)
        | succ k ih =>
          intro Rz i hmeas hi0 hin hRz hR1 hR2 M H locs hp13 h15 hqa0 hqa1 hqa2 h14 hfr hP hD hS ls hl
          have ih_33 := ih
          have hpi : i < na → 0 ≤ Pa i ∧ Pa i ≤ 9999 := hPb i hi0
          have hri0 := hR2 i (Int.le_refl _)
          refine lv_iload_n hx hb dX5_note_75 rfl (lv_at hl 0 rfl) ?_
          refine lv_aload_n hx hb dX5_note_76 rfl (lv_at hl 1 rfl) ?_
          refine x_get (C := RX5) (T := TX5) (N := 8) hx hb hts hin_X5 hown hK hP (13) (by decide) hp13 rfl 5 (by decide) hw_12 (fun _ h9 => h9) rfl dX5_note_77 ?_
          refine x_get (C := RX7) (T := TX7) (N := 4) hx hb hts hin_X7 hown hK hP (10) (by decide) hqa0 rfl 2 (by decide) hw_13 (fun _ h9 => h9) rfl dX5_note_80 ?_
          refine x_icmp_ge (tgt := 116) hx hb (by omega) (by omega) dX5_note_83 (by decide) (fun c_83 => ?_) (fun c_83 => ?_)
          · refine lv_aload_n hx hb dX5_note_116 rfl (lv_at hl 1 rfl) ?_
            refine lv_dup hx hb dX5_note_117 rfl ?_
            refine x_get (C := RX5) (T := TX5) (N := 8) hx hb hts hin_X5 hown hK hP (13) (by decide) hp13 rfl 0 (by decide) hw_6 (fun _ h9 => h9) rfl dX5_note_118 ?_
            refine x_iconst hx hb dX5_note_121 ?_
            refine x_iadd hx hb dX5_note_122 ?_
            refine x_put (C := RX5) (T := TX5) (N := 8) (ty := .int) hx hb hts hin_X5 hown hK hP hD hS (13) (by decide) hp13 rfl tyX5 tyX5_ok nmX5 0 (by decide) hw_6 (fun _ h9 => h9) rfl (by decide +kernel) rfl rfl (Nat.le_of_ble_eq_true rfl) dX5_note_123 (fun M_34 H locs hnew hne hP hD hS => ?_)
            have hP : xP g (M_34, σ.2) H := hP
            have hD : xD g A (M_34, σ.2) := hD
            have hp13 : M_34 (13) = .inr (5, [.int (iI (wy + 1)), .int (iI (q_1)), .int (iI (r_24)), .int (iI (r_53)), .ref (g.2.2 14), .ref (g.2.2 10), .ref (g.2.2 15), .ref (g.2.2 16)]) := hnew
            have h15 := (hne (15) (by decide)).trans h15
            have hqa0 := (hne (10) (by decide)).trans hqa0
            have hqa1 := (hne (11) (by decide)).trans hqa1
            have hqa2 := (hne (12) (by decide)).trans hqa2
            have h14 := (hne (14) (by decide)).trans h14
            have hfr := x_fr (F := fun j => j ≠ 13 ∧ j ≠ 14) hfr hne (fun j h => by have h : j ≠ 13 ∧ j ≠ 14 := h; omega)
            refine x_retQv hx hb hr ?_ hP hD hS dX5_note_126 hlocks
            refine ⟨rfl, hfr, _, _, _, _, _, hp13, h14, ?_⟩
            exact zRl_note hQ hz0 hwl hn6 hPb (by rw [← qr_6.1]; exact qr_6.2) (by rw [← qr_24.1]; exact qr_24.2) (by rw [← qr_53.1]; exact qr_53.2) (by rw [← qr_6.1]; omega) (Or.inl ⟨by omega, qr_24.1⟩) (Or.inl ⟨by omega, qr_53.1⟩) (fun j a b => hR1 j a (by omega)) (fun j a => hR2 j (by omega))
          · refine lv_aload_n hx hb dX5_note_86 rfl (lv_at hl 1 rfl) ?_
            refine x_get (C := RX5) (T := TX5) (N := 8) hx hb hts hin_X5 hown hK hP (13) (by decide) hp13 rfl 4 (by decide) hw_15 (fun _ h9 => h9) rfl dX5_note_87 ?_
            refine lv_iload_n hx hb dX5_note_90 rfl (lv_at hl 0 rfl) ?_
            refine lv_aload_n hx hb dX5_note_91 rfl (lv_at hl 1 rfl) ?_
            refine x_get (C := RX5) (T := TX5) (N := 8) hx hb hts hin_X5 hown hK hP (13) (by decide) hp13 rfl 4 (by decide) hw_15 (fun _ h9 => h9) rfl dX5_note_92 ?_
            refine lv_iload_n hx hb dX5_note_95 rfl (lv_at hl 0 rfl) ?_
            refine x_iald (f := Rz) hx hb hK hP (14) (by decide) h14 (by omega) (by omega) (by decide) dX5_note_96 ?_
            have hb_35 := hRz (i) (by omega) (by omega)
            refine lv_aload_n hx hb dX5_note_97 rfl (lv_at hl 1 rfl) ?_
            refine x_get (C := RX5) (T := TX5) (N := 8) hx hb hts hin_X5 hown hK hP (13) (by decide) hp13 rfl 5 (by decide) hw_12 (fun _ h9 => h9) rfl dX5_note_98 ?_
            refine x_get (C := RX7) (T := TX7) (N := 4) hx hb hts hin_X7 hown hK hP (10) (by decide) hqa0 rfl 1 (by decide) hw_16 (fun _ h9 => h9) rfl dX5_note_101 ?_
            refine lv_iload_n hx hb dX5_note_104 rfl (lv_at hl 0 rfl) ?_
            refine x_iald (f := Pa) hx hb hK hP (12) (by decide) hqa2 (by omega) (by omega) (by decide) dX5_note_105 ?_
            have hb_36 := hoa.2.2.2.1 (i)
            refine x_max hx hb (hml.trans hl.1.symm) hown hw_2 hw_3 hw_4 hw_5 (Nat.le_of_ble_eq_true rfl) (Nat.le_of_ble_eq_true rfl) (Nat.le_of_ble_eq_true rfl) (Nat.le_of_ble_eq_true rfl) (by omega) (by omega) dX5_note_106 (fun q_37 hq_37 => ?_)
            refine x_iast (f := Rz) hx hb hK hP hD hS (14) (by decide) h14 (by omega) (by omega) (by decide) dX5_note_109 (fun M_38 H locs hnew hne hP hD hS => ?_)
            obtain ⟨f_39, hf_39⟩ : ∃ q : Int → Int, q = (upI Rz (i) (q_37)) := ⟨_, rfl⟩
            rw [← hf_39] at hnew
            have hP : xP g (M_38, σ.2) H := hP
            have hD : xD g A (M_38, σ.2) := hD
            have h14 : M_38 (14) = .inl (g.2.1 0, 6, .inl (fun k => iI (f_39 (k : Int)))) := hnew
            have hp13 := (hne (13) (by decide)).trans hp13
            have h15 := (hne (15) (by decide)).trans h15
            have hqa0 := (hne (10) (by decide)).trans hqa0
            have hqa1 := (hne (11) (by decide)).trans hqa1
            have hqa2 := (hne (12) (by decide)).trans hqa2
            have hfr := x_fr (F := fun j => j ≠ 13 ∧ j ≠ 14) hfr hne (fun j h => by have h : j ≠ 13 ∧ j ≠ 14 := h; omega)
            refine x_iinc (k0 := 0) (lv' := [(1, .int (iI (i + 1))), (0, .ref (g.2.2 13))]) hx hb dX5_note_110 hl rfl (by decide) rfl (fun ls hl => ?_)
            refine lv_goto (tgt := 75) hx hb dX5_note_113 (by decide) ?_
            exact ih_33 (f_39) (i + 1) (by omega) (by omega) (by omega) (by (rw [hf_39]; intro j a b; by_cases e9 : j = i; (subst e9; rw [upI_s]; have z9 := hRz j a b; omega); (rw [upI_n e9]; exact hRz j a b))) (by (rw [hf_39]; intro j a b; by_cases e9 : j = i; (subst e9; rw [upI_s]; omega); (rw [upI_n e9]; exact hR1 j a (by omega)))) (by (rw [hf_39]; intro j a; rw [upI_n (by omega)]; exact hR2 j (by omega))) (M_38) _ _ hp13 h15 hqa0 hqa1 hqa2 h14 hfr hP hD hS ls (lv_sub hl [0, 1] rfl)
      exact hloop_75 (((na - (0)).toNat) + 1) (Rc) (0) (by omega) (by omega) (by omega) (by exact hQ.2.2.2.2.1) (by (intro j a b; omega)) (by exact fun _ _ => rfl) (M_32) _ _ hp13 h15 hqa0 hqa1 hqa2 h14 hfr hP hD hS ls (lv_sub hl [0, 1] rfl)
