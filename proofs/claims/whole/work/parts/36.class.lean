def PObj (g : xG) (M : xM) (wy un hd mv : Int) : Prop := M 13 = .inr (5, [.int (iI wy), .int (iI un), .int (iI hd), .int (iI mv), .ref (g.2.2 14), .ref (g.2.2 10), .ref (g.2.2 15), .ref (g.2.2 16)])

set_option maxHeartbeats 4000000 in
set_option maxRecDepth 100000 in
theorem c_X5_moving (l : Launch) (g : xG) (σ : xS) (wy un hd9 mv : Int) (hp13 : PObj g σ.1 wy un hd9 mv) (na ra : Int) (Pa : Int → Int) (Ga : Int → Option Nat) (hsa9 : StAt g σ.1 10 na ra Pa Ga) (hoa : StOk σ na ra Pa Ga) (hH : HsOk σ) (Wb : Int → Int) (h15 : MArr g σ.1 15 6 Wb) (hWb : ∀ i, 0 ≤ i → i < na → 0 ≤ Wb i ∧ Wb i ≤ 9999) (hn6 : na ≤ 6) : Met l yX5_moving wsX5_moving ({ frames := 3, cells := 0, slots := 0, locals := 96 }) (va_Pc [.ref (g.2.2 13)] (xPre g σ)) (x_Si (fun r => r = zAnS Wb Pa na.toNat ∧ 0 ≤ r ∧ r ≤ 60000)) (0) (0) (fun _ => False) := by
  refine Met.ofW (cc := cX5_moving) (maxL := 3) (ret := (some .int)) (by decide) rfl ?_
  intro p e s m args below meth c s₁ B hml hv
  obtain ⟨rfl, hP, hK⟩ := hv
  have hx := B.exec
  have hb := B.bytes
  have hr := B.returns
  have hts := atoms_spec (ws := wsX5_moving) B.pre
  have hown : s.vm.findClass RX5 = some m.cls := findClass_of_methodNamed B.named
  have hlocks := B.notSynchronized
  have hl := lv_entry ([.ref (g.2.2 13)]) (n := 3) (Nat.le_of_ble_eq_true rfl)
  rw [lg_entry_eq]
  generalize (lg_sl ([.ref (g.2.2 13)]) ++ List.replicate (3 - (lg_sl ([.ref (g.2.2 13)])).length) Slot.unset).toArray = ls at hl ⊢
  have hl : lv_has ls 3 [(0, .ref (g.2.2 13))] := hl
  have hqa0 : σ.1 10 = .inr (7, [.ref (g.2.2 11), .ref (g.2.2 12), .int (iI na), .int (iI ra)]) := hsa9.1
  have hqa1 : MRef g σ.1 11 9 Ga := hsa9.2.1
  have hqa2 : MArr g σ.1 12 9 Pa := hsa9.2.2
  have hoa1 := hoa.1
  have hoa2 := hoa.2.1
  have hoa3 := hoa.2.2.1
  have hw_0 := hts (.fieldLink RX5 18 "TwiceAsRich$Partings" "parted" "LTwiceAsRich$Street;") (by decide +kernel)
  have hin_X5 : ∀ w ∈ wsX50, w ∈ wsX5_moving := by decide +kernel
  have hw_2 := hts (.fieldLink RX5 49 "TwiceAsRich$Street" "count" "I") (by decide +kernel)
  have hin_X7 : ∀ w ∈ wsX70, w ∈ wsX5_moving := by decide +kernel
  have hw_4 := hts (.fieldLink RX5 22 "TwiceAsRich$Partings" "before" "[I") (by decide +kernel)
  have hw_5 := hts (.fieldLink RX5 56 "TwiceAsRich$Street" "purses" "[I") (by decide +kernel)
  have hw_6 := hts (.methodLink RX5 88 Lib.Math.max.name) (by decide +kernel)
  have hw_7 := hts (.static Lib.Math.max.name) (by decide +kernel)
  have hw_8 := hts (.initialized "java/lang/Math") (by decide +kernel)
  have hw_9 := hts (.code Lib.Math.max.name Lib.Math.max.code 2 (some .int)) (by decide +kernel)
  refine x_iconst hx hb dX5_moving_0 ?_
  refine lv_istore_n (lv' := [(1, .int (iI (0))), (0, .ref (g.2.2 13))]) hx hb dX5_moving_1 rfl hl (by decide) rfl (fun ls hl => ?_)
  refine x_iconst hx hb dX5_moving_2 ?_
  refine lv_istore_n (lv' := [(2, .int (iI (0))), (1, .int (iI (0))), (0, .ref (g.2.2 13))]) hx hb dX5_moving_3 rfl hl (by decide) rfl (fun ls hl => ?_)
  have hloop_4 : ∀ (k : Nat) (i : Int) (all : Int), (na - i).toNat < k → (hi0 : 0 ≤ i) → (hin : i ≤ na) → (hall : all = zAnS Wb Pa i.toNat) → (hrng : 0 ≤ all ∧ all ≤ 9999 * i) → ∀ (ls : Array Slot), lv_has ls 3 [(2, .int (iI (i))), (1, .int (iI (all))), (0, .ref (g.2.2 13))] → W p l e (headSpec wsX5_moving ({ frames := 3, cells := 0, slots := 0, locals := 96 })).room s m ([.ref (g.2.2 13)] : List Value).toArray below meth c s.heap [] 0 0 (MQ below (x_Si (fun r => r = zAnS Wb Pa na.toNat ∧ 0 ≤ r ∧ r ≤ 60000)) ([.ref (g.2.2 13)] : List Value).toArray s (0) (0) (fun _ => False)) (F0 m 4 ls []) := by
    intro k
    induction k with
    | zero =>
      intros; exact absurd (by assumption) (Nat.not_lt_zero _)
    | succ k ih =>
      intro i all hmeas hi0 hin hall hrng  ls hl
      have ih_1 := ih
      have hq9 : i < na → 0 ≤ Pa i ∧ Pa i ≤ 9999 := fun q => (hoa.2.2.2.2.2 i hi0 q).2
      have hw9 : i < na → 0 ≤ Wb i ∧ Wb i ≤ 9999 := hWb i hi0
      refine lv_iload_n hx hb dX5_moving_4 rfl (lv_at hl 0 rfl) ?_
      refine lv_aload_n hx hb dX5_moving_5 rfl (lv_at hl 2 rfl) ?_
      refine x_get (C := RX5) (T := TX5) (N := 8) hx hb hts hin_X5 hown hK hP (13) (by decide) hp13 rfl 5 (by decide) hw_0 (fun _ h9 => h9) rfl dX5_moving_6 ?_
      refine x_get (C := RX7) (T := TX7) (N := 4) hx hb hts hin_X7 hown hK hP (10) (by decide) hqa0 rfl 2 (by decide) hw_2 (fun _ h9 => h9) rfl dX5_moving_9 ?_
      refine x_icmp_ge (tgt := 44) hx hb (by omega) (by omega) dX5_moving_12 (by decide) (fun c_12 => ?_) (fun c_12 => ?_)
      · refine lv_iload_n hx hb dX5_moving_44 rfl (lv_at hl 1 rfl) ?_
        refine x_retP hx hb hr (by omega) ?_ dX5_moving_45 hlocks
        have e : na.toNat = i.toNat := by omega
        rw [e]
        exact ⟨hall, by omega, by omega⟩
      · refine lv_iload_n hx hb dX5_moving_15 rfl (lv_at hl 1 rfl) ?_
        refine x_iconst hx hb dX5_moving_16 ?_
        refine lv_aload_n hx hb dX5_moving_17 rfl (lv_at hl 2 rfl) ?_
        refine x_get (C := RX5) (T := TX5) (N := 8) hx hb hts hin_X5 hown hK hP (13) (by decide) hp13 rfl 6 (by decide) hw_4 (fun _ h9 => h9) rfl dX5_moving_18 ?_
        refine lv_iload_n hx hb dX5_moving_21 rfl (lv_at hl 0 rfl) ?_
        refine x_iald (f := Wb) hx hb hK hP (15) (by decide) h15 (by omega) (by omega) (by decide) dX5_moving_22 ?_
        have hb_2 := hWb (i) (by omega) (by omega)
        refine lv_aload_n hx hb dX5_moving_23 rfl (lv_at hl 2 rfl) ?_
        refine x_get (C := RX5) (T := TX5) (N := 8) hx hb hts hin_X5 hown hK hP (13) (by decide) hp13 rfl 5 (by decide) hw_0 (fun _ h9 => h9) rfl dX5_moving_24 ?_
        refine x_get (C := RX7) (T := TX7) (N := 4) hx hb hts hin_X7 hown hK hP (10) (by decide) hqa0 rfl 1 (by decide) hw_5 (fun _ h9 => h9) rfl dX5_moving_27 ?_
        refine lv_iload_n hx hb dX5_moving_30 rfl (lv_at hl 0 rfl) ?_
        refine x_iald (f := Pa) hx hb hK hP (12) (by decide) hqa2 (by omega) (by omega) (by decide) dX5_moving_31 ?_
        have hb_3 := hoa.2.2.2.1 (i)
        refine x_isub hx hb dX5_moving_32 ?_
        refine x_max hx hb (hml.trans hl.1.symm) hown hw_6 hw_7 hw_8 hw_9 (Nat.le_of_ble_eq_true rfl) (Nat.le_of_ble_eq_true rfl) (Nat.le_of_ble_eq_true rfl) (Nat.le_of_ble_eq_true rfl) (by omega) (by omega) dX5_moving_33 (fun q_4 hq_4 => ?_)
        refine x_iadd hx hb dX5_moving_36 ?_
        refine lv_istore_n (lv' := [(1, .int (iI (all + q_4))), (2, .int (iI (i))), (0, .ref (g.2.2 13))]) hx hb dX5_moving_37 rfl hl (by decide) rfl (fun ls hl => ?_)
        refine x_iinc (k0 := 1) (lv' := [(2, .int (iI (i + 1))), (1, .int (iI (all + q_4))), (0, .ref (g.2.2 13))]) hx hb dX5_moving_38 hl rfl (by decide) rfl (fun ls hl => ?_)
        refine lv_goto (tgt := 4) hx hb dX5_moving_41 (by decide) ?_
        exact ih_1 (i + 1) (all + q_4) (by omega) (by omega) (by omega) (by unfold zAnS at hall ⊢; rw [zSum_succ _ hi0, ← hall]; first | (rw [if_pos (by omega)]; omega) | (rw [if_neg (by omega)]; omega) | (split <;> omega)) (by omega) ls (lv_sub hl [0, 1, 2] rfl)
  exact hloop_4 (((na - (0)).toNat) + 1) (0) (0) (by omega) (by omega) (by omega) (by rfl) (by omega) ls (lv_sub hl [0, 1, 2] rfl)

set_option maxHeartbeats 4000000 in
set_option maxRecDepth 100000 in
theorem c_X5_handed (l : Launch) (g : xG) (σ : xS) (wy un hd9 mv : Int) (hp13 : PObj g σ.1 wy un hd9 mv) (na ra : Int) (Pa : Int → Int) (Ga : Int → Option Nat) (hsa9 : StAt g σ.1 10 na ra Pa Ga) (hoa : StOk σ na ra Pa Ga) (hH : HsOk σ) (Wb : Int → Int) (h15 : MArr g σ.1 15 6 Wb) (hWb : ∀ i, 0 ≤ i → i < na → 0 ≤ Wb i ∧ Wb i ≤ 9999) (hn6 : na ≤ 6) : Met l yX5_handed wsX5_handed ({ frames := 3, cells := 0, slots := 0, locals := 96 }) (va_Pc [.ref (g.2.2 13)] (xPre g σ)) (x_Si (fun r => r = zHnd Wb Pa na.toNat ∧ 0 ≤ r ∧ r ≤ 3600000)) (0) (0) (fun _ => False) := by
  refine Met.ofW (cc := cX5_handed) (maxL := 4) (ret := (some .int)) (by decide) rfl ?_
  intro p e s m args below meth c s₁ B hml hv
  obtain ⟨rfl, hP, hK⟩ := hv
  have hx := B.exec
  have hb := B.bytes
  have hr := B.returns
  have hts := atoms_spec (ws := wsX5_handed) B.pre
  have hown : s.vm.findClass RX5 = some m.cls := findClass_of_methodNamed B.named
  have hlocks := B.notSynchronized
  have hl := lv_entry ([.ref (g.2.2 13)]) (n := 4) (Nat.le_of_ble_eq_true rfl)
  rw [lg_entry_eq]
  generalize (lg_sl ([.ref (g.2.2 13)]) ++ List.replicate (4 - (lg_sl ([.ref (g.2.2 13)])).length) Slot.unset).toArray = ls at hl ⊢
  have hl : lv_has ls 4 [(0, .ref (g.2.2 13))] := hl
  have hqa0 : σ.1 10 = .inr (7, [.ref (g.2.2 11), .ref (g.2.2 12), .int (iI na), .int (iI ra)]) := hsa9.1
  have hqa1 : MRef g σ.1 11 9 Ga := hsa9.2.1
  have hqa2 : MArr g σ.1 12 9 Pa := hsa9.2.2
  have hoa1 := hoa.1
  have hoa2 := hoa.2.1
  have hoa3 := hoa.2.2.1
  have hw_0 := hts (.fieldLink RX5 18 "TwiceAsRich$Partings" "parted" "LTwiceAsRich$Street;") (by decide +kernel)
  have hin_X5 : ∀ w ∈ wsX50, w ∈ wsX5_handed := by decide +kernel
  have hw_2 := hts (.fieldLink RX5 49 "TwiceAsRich$Street" "count" "I") (by decide +kernel)
  have hin_X7 : ∀ w ∈ wsX70, w ∈ wsX5_handed := by decide +kernel
  have hw_4 := hts (.fieldLink RX5 22 "TwiceAsRich$Partings" "before" "[I") (by decide +kernel)
  have hw_5 := hts (.fieldLink RX5 56 "TwiceAsRich$Street" "purses" "[I") (by decide +kernel)
  have hw_6 := hts (.methodLink RX5 113 Lib.Math.abs.name) (by decide +kernel)
  have hw_7 := hts (.static Lib.Math.abs.name) (by decide +kernel)
  have hw_8 := hts (.initialized "java/lang/Math") (by decide +kernel)
  have hw_9 := hts (.code Lib.Math.abs.name Lib.Math.abs.code 1 (some .int)) (by decide +kernel)
  refine x_iconst hx hb dX5_handed_0 ?_
  refine lv_istore_n (lv' := [(1, .int (iI (0))), (0, .ref (g.2.2 13))]) hx hb dX5_handed_1 rfl hl (by decide) rfl (fun ls hl => ?_)
  refine x_iconst hx hb dX5_handed_2 ?_
  refine lv_istore_n (lv' := [(2, .int (iI (0))), (1, .int (iI (0))), (0, .ref (g.2.2 13))]) hx hb dX5_handed_3 rfl hl (by decide) rfl (fun ls hl => ?_)
  refine x_iconst hx hb dX5_handed_4 ?_
  refine lv_istore_n (lv' := [(3, .int (iI (0))), (2, .int (iI (0))), (1, .int (iI (0))), (0, .ref (g.2.2 13))]) hx hb dX5_handed_5 rfl hl (by decide) rfl (fun ls hl => ?_)
  have hloop_6 : ∀ (k : Nat) (i : Int) (car : Int) (all : Int), (na - i).toNat < k → (hi0 : 0 ≤ i) → (hin : i ≤ na) → (hcar : car = zCar Wb Pa i.toNat) → (hall : all = zHnd Wb Pa i.toNat) → (hrng : -9999 * i ≤ car ∧ car ≤ 9999 * i ∧ 0 ≤ all ∧ all ≤ 99999 * i) → ∀ (ls : Array Slot), lv_has ls 4 [(3, .int (iI (i))), (1, .int (iI (car))), (2, .int (iI (all))), (0, .ref (g.2.2 13))] → W p l e (headSpec wsX5_handed ({ frames := 3, cells := 0, slots := 0, locals := 96 })).room s m ([.ref (g.2.2 13)] : List Value).toArray below meth c s.heap [] 0 0 (MQ below (x_Si (fun r => r = zHnd Wb Pa na.toNat ∧ 0 ≤ r ∧ r ≤ 3600000)) ([.ref (g.2.2 13)] : List Value).toArray s (0) (0) (fun _ => False)) (F0 m 6 ls []) := by
    intro k
    induction k with
    | zero =>
      intros; exact absurd (by assumption) (Nat.not_lt_zero _)
    | succ k ih =>
      intro i car all hmeas hi0 hin hcar hall hrng  ls hl
      have ih_1 := ih
      have hq9 : i < na → 0 ≤ Pa i ∧ Pa i ≤ 9999 := fun q => (hoa.2.2.2.2.2 i hi0 q).2
      have hw9 : i < na → 0 ≤ Wb i ∧ Wb i ≤ 9999 := hWb i hi0
      refine lv_iload_n hx hb dX5_handed_6 rfl (lv_at hl 0 rfl) ?_
      refine lv_aload_n hx hb dX5_handed_7 rfl (lv_at hl 3 rfl) ?_
      refine x_get (C := RX5) (T := TX5) (N := 8) hx hb hts hin_X5 hown hK hP (13) (by decide) hp13 rfl 5 (by decide) hw_0 (fun _ h9 => h9) rfl dX5_handed_8 ?_
      refine x_get (C := RX7) (T := TX7) (N := 4) hx hb hts hin_X7 hown hK hP (10) (by decide) hqa0 rfl 2 (by decide) hw_2 (fun _ h9 => h9) rfl dX5_handed_11 ?_
      refine x_icmp_ge (tgt := 49) hx hb (by omega) (by omega) dX5_handed_14 (by decide) (fun c_14 => ?_) (fun c_14 => ?_)
      · refine lv_iload_n hx hb dX5_handed_49 rfl (lv_at hl 2 rfl) ?_
        refine x_retP hx hb hr (by omega) ?_ dX5_handed_50 hlocks
        have e : na.toNat = i.toNat := by omega
        rw [e]
        exact ⟨hall, by omega, by omega⟩
      · refine lv_iload_n hx hb dX5_handed_17 rfl (lv_at hl 1 rfl) ?_
        refine lv_aload_n hx hb dX5_handed_18 rfl (lv_at hl 3 rfl) ?_
        refine x_get (C := RX5) (T := TX5) (N := 8) hx hb hts hin_X5 hown hK hP (13) (by decide) hp13 rfl 6 (by decide) hw_4 (fun _ h9 => h9) rfl dX5_handed_19 ?_
        refine lv_iload_n hx hb dX5_handed_22 rfl (lv_at hl 0 rfl) ?_
        refine x_iald (f := Wb) hx hb hK hP (15) (by decide) h15 (by omega) (by omega) (by decide) dX5_handed_23 ?_
        have hb_2 := hWb (i) (by omega) (by omega)
        refine lv_aload_n hx hb dX5_handed_24 rfl (lv_at hl 3 rfl) ?_
        refine x_get (C := RX5) (T := TX5) (N := 8) hx hb hts hin_X5 hown hK hP (13) (by decide) hp13 rfl 5 (by decide) hw_0 (fun _ h9 => h9) rfl dX5_handed_25 ?_
        refine x_get (C := RX7) (T := TX7) (N := 4) hx hb hts hin_X7 hown hK hP (10) (by decide) hqa0 rfl 1 (by decide) hw_5 (fun _ h9 => h9) rfl dX5_handed_28 ?_
        refine lv_iload_n hx hb dX5_handed_31 rfl (lv_at hl 0 rfl) ?_
        refine x_iald (f := Pa) hx hb hK hP (12) (by decide) hqa2 (by omega) (by omega) (by decide) dX5_handed_32 ?_
        have hb_3 := hoa.2.2.2.1 (i)
        refine x_isub hx hb dX5_handed_33 ?_
        refine x_iadd hx hb dX5_handed_34 ?_
        refine lv_istore_n (lv' := [(1, .int (iI (car + ((Wb (i)) - (Pa (i)))))), (3, .int (iI (i))), (2, .int (iI (all))), (0, .ref (g.2.2 13))]) hx hb dX5_handed_35 rfl hl (by decide) rfl (fun ls hl => ?_)
        refine lv_iload_n hx hb dX5_handed_36 rfl (lv_at hl 2 rfl) ?_
        refine lv_iload_n hx hb dX5_handed_37 rfl (lv_at hl 0 rfl) ?_
        refine x_abs hx hb (hml.trans hl.1.symm) hown hw_6 hw_7 hw_8 hw_9 (Nat.le_of_ble_eq_true rfl) (Nat.le_of_ble_eq_true rfl) (Nat.le_of_ble_eq_true rfl) (Nat.le_of_ble_eq_true rfl) (by omega) (by omega) dX5_handed_38 (fun q_4 hq_4 => ?_)
        refine x_iadd hx hb dX5_handed_41 ?_
        refine lv_istore_n (lv' := [(2, .int (iI (all + q_4))), (1, .int (iI (car + ((Wb (i)) - (Pa (i)))))), (3, .int (iI (i))), (0, .ref (g.2.2 13))]) hx hb dX5_handed_42 rfl hl (by decide) rfl (fun ls hl => ?_)
        refine x_iinc (k0 := 2) (lv' := [(3, .int (iI (i + 1))), (2, .int (iI (all + q_4))), (1, .int (iI (car + ((Wb (i)) - (Pa (i)))))), (0, .ref (g.2.2 13))]) hx hb dX5_handed_43 hl rfl (by decide) rfl (fun ls hl => ?_)
        refine lv_goto (tgt := 6) hx hb dX5_handed_46 (by decide) ?_
        exact ih_1 (i + 1) (car + ((Wb (i)) - (Pa (i)))) (all + q_4) (by omega) (by omega) (by omega) (by unfold zCar at hcar ⊢; rw [zSum_succ _ hi0, ← hcar]) (by have hcx : zCar Wb Pa (i + 1).toNat = car + (Wb i - Pa i) := (by unfold zCar at hcar ⊢; rw [zSum_succ _ hi0, ← hcar]); unfold zHnd at hall ⊢; rw [zSum_succ _ hi0, ← hall, hcx]; unfold zAbs; split <;> omega) (by omega) ls (lv_sub hl [0, 2, 1, 3] rfl)
  exact hloop_6 (((na - (0)).toNat) + 1) (0) (0) (0) (by omega) (by omega) (by omega) (by rfl) (by rfl) (by omega) ls (lv_sub hl [0, 2, 1, 3] rfl)

set_option maxHeartbeats 4000000 in
set_option maxRecDepth 100000 in
theorem c_X5_difference (l : Launch) (g : xG) (σ : xS) (wy un hd9 mv : Int) (hp13 : PObj g σ.1 wy un hd9 mv) (na ra : Int) (Pa : Int → Int) (Ga : Int → Option Nat) (hsa9 : StAt g σ.1 10 na ra Pa Ga) (hoa : StOk σ na ra Pa Ga) (hH : HsOk σ) (Wb : Int → Int) (h15 : MArr g σ.1 15 6 Wb) (hWb : ∀ i, 0 ≤ i → i < na → 0 ≤ Wb i ∧ Wb i ≤ 9999) (hn6 : na ≤ 6) : Met l yX5_difference wsX5_difference ({ frames := 3, cells := 0, slots := 0, locals := 96 }) (va_Pc [.ref (g.2.2 13)] (xPre g σ)) (x_Si (fun r => r = zApt Pa na ∧ 0 ≤ r ∧ r ≤ 9999)) (0) (0) (fun _ => False) := by
  refine Met.ofW (cc := cX5_difference) (maxL := 4) (ret := (some .int)) (by decide) rfl ?_
  intro p e s m args below meth c s₁ B hml hv
  obtain ⟨rfl, hP, hK⟩ := hv
  have hx := B.exec
  have hb := B.bytes
  have hr := B.returns
  have hts := atoms_spec (ws := wsX5_difference) B.pre
  have hown : s.vm.findClass RX5 = some m.cls := findClass_of_methodNamed B.named
  have hlocks := B.notSynchronized
  have hl := lv_entry ([.ref (g.2.2 13)]) (n := 4) (Nat.le_of_ble_eq_true rfl)
  rw [lg_entry_eq]
  generalize (lg_sl ([.ref (g.2.2 13)]) ++ List.replicate (4 - (lg_sl ([.ref (g.2.2 13)])).length) Slot.unset).toArray = ls at hl ⊢
  have hl : lv_has ls 4 [(0, .ref (g.2.2 13))] := hl
  have hqa0 : σ.1 10 = .inr (7, [.ref (g.2.2 11), .ref (g.2.2 12), .int (iI na), .int (iI ra)]) := hsa9.1
  have hqa1 : MRef g σ.1 11 9 Ga := hsa9.2.1
  have hqa2 : MArr g σ.1 12 9 Pa := hsa9.2.2
  have hoa1 := hoa.1
  have hoa2 := hoa.2.1
  have hoa3 := hoa.2.2.1
  have hw_0 := hts (.fieldLink RX5 18 "TwiceAsRich$Partings" "parted" "LTwiceAsRich$Street;") (by decide +kernel)
  have hin_X5 : ∀ w ∈ wsX50, w ∈ wsX5_difference := by decide +kernel
  have hw_2 := hts (.fieldLink RX5 49 "TwiceAsRich$Street" "count" "I") (by decide +kernel)
  have hin_X7 : ∀ w ∈ wsX70, w ∈ wsX5_difference := by decide +kernel
  have hw_4 := hts (.methodLink RX5 88 Lib.Math.max.name) (by decide +kernel)
  have hw_5 := hts (.static Lib.Math.max.name) (by decide +kernel)
  have hw_6 := hts (.initialized "java/lang/Math") (by decide +kernel)
  have hw_7 := hts (.code Lib.Math.max.name Lib.Math.max.code 2 (some .int)) (by decide +kernel)
  have hw_8 := hts (.fieldLink RX5 56 "TwiceAsRich$Street" "purses" "[I") (by decide +kernel)
  have hw_9 := hts (.methodLink RX5 107 Lib.Math.min.name) (by decide +kernel)
  have hw_10 := hts (.static Lib.Math.min.name) (by decide +kernel)
  have hw_11 := hts (.code Lib.Math.min.name Lib.Math.min.code 2 (some .int)) (by decide +kernel)
  refine x_sipush (n := 9999) hx hb (by decide +kernel) dX5_difference_0 ?_
  refine lv_istore_n (lv' := [(1, .int (iI (9999))), (0, .ref (g.2.2 13))]) hx hb dX5_difference_3 rfl hl (by decide) rfl (fun ls hl => ?_)
  refine x_iconst hx hb dX5_difference_4 ?_
  refine lv_istore_n (lv' := [(2, .int (iI (0))), (1, .int (iI (9999))), (0, .ref (g.2.2 13))]) hx hb dX5_difference_5 rfl hl (by decide) rfl (fun ls hl => ?_)
  refine x_iconst hx hb dX5_difference_6 ?_
  refine lv_istore_n (lv' := [(3, .int (iI (0))), (2, .int (iI (0))), (1, .int (iI (9999))), (0, .ref (g.2.2 13))]) hx hb dX5_difference_7 rfl hl (by decide) rfl (fun ls hl => ?_)
  have hloop_8 : ∀ (k : Nat) (i : Int) (lst : Int) (grt : Int), (na - i).toNat < k → (hi0 : 0 ≤ i) → (hin : i ≤ na) → (e1 : lst = zMin9 Pa i.toNat) → (e2 : grt = zMax0 Pa i.toNat) → (hrng : 0 ≤ lst ∧ lst ≤ 9999 ∧ 0 ≤ grt ∧ grt ≤ 9999) → (h00 : i = 0 → lst = 9999 ∧ grt = 0) → (hlg : i ≠ 0 → lst ≤ grt) → ∀ (ls : Array Slot), lv_has ls 4 [(3, .int (iI (i))), (1, .int (iI (lst))), (2, .int (iI (grt))), (0, .ref (g.2.2 13))] → W p l e (headSpec wsX5_difference ({ frames := 3, cells := 0, slots := 0, locals := 96 })).room s m ([.ref (g.2.2 13)] : List Value).toArray below meth c s.heap [] 0 0 (MQ below (x_Si (fun r => r = zApt Pa na ∧ 0 ≤ r ∧ r ≤ 9999)) ([.ref (g.2.2 13)] : List Value).toArray s (0) (0) (fun _ => False)) (F0 m 8 ls []) := by
    intro k
    induction k with
    | zero =>
      intros; exact absurd (by assumption) (Nat.not_lt_zero _)
    | succ k ih =>
      intro i lst grt hmeas hi0 hin e1 e2 hrng h00 hlg  ls hl
      have ih_1 := ih
      have hq9 : i < na → 0 ≤ Pa i ∧ Pa i ≤ 9999 := fun q => (hoa.2.2.2.2.2 i hi0 q).2
      have hw9 : i < na → 0 ≤ Wb i ∧ Wb i ≤ 9999 := hWb i hi0
      refine lv_iload_n hx hb dX5_difference_8 rfl (lv_at hl 0 rfl) ?_
      refine lv_aload_n hx hb dX5_difference_9 rfl (lv_at hl 3 rfl) ?_
      refine x_get (C := RX5) (T := TX5) (N := 8) hx hb hts hin_X5 hown hK hP (13) (by decide) hp13 rfl 5 (by decide) hw_0 (fun _ h9 => h9) rfl dX5_difference_10 ?_
      refine x_get (C := RX7) (T := TX7) (N := 4) hx hb hts hin_X7 hown hK hP (10) (by decide) hqa0 rfl 2 (by decide) hw_2 (fun _ h9 => h9) rfl dX5_difference_13 ?_
      refine x_icmp_ge (tgt := 53) hx hb (by omega) (by omega) dX5_difference_16 (by decide) (fun c_16 => ?_) (fun c_16 => ?_)
      · refine x_iconst hx hb dX5_difference_53 ?_
        refine lv_iload_n hx hb dX5_difference_54 rfl (lv_at hl 2 rfl) ?_
        refine lv_iload_n hx hb dX5_difference_55 rfl (lv_at hl 1 rfl) ?_
        refine x_isub hx hb dX5_difference_56 ?_
        refine x_max hx hb (hml.trans hl.1.symm) hown hw_4 hw_5 hw_6 hw_7 (Nat.le_of_ble_eq_true rfl) (Nat.le_of_ble_eq_true rfl) (Nat.le_of_ble_eq_true rfl) (Nat.le_of_ble_eq_true rfl) (by omega) (by omega) dX5_difference_57 (fun q_2 hq_2 => ?_)
        refine x_retP hx hb hr (by omega) ?_ dX5_difference_60 hlocks
        have e : na = i := by omega
        have ev : zApt Pa na = if na = 0 then 0 else grt - lst := by (unfold zApt; rw [e, ← e1, ← e2])
        by_cases hz : na = 0
        · rw [if_pos hz] at ev; omega
        · rw [if_neg hz] at ev; omega
      · refine lv_iload_n hx hb dX5_difference_19 rfl (lv_at hl 1 rfl) ?_
        refine lv_aload_n hx hb dX5_difference_20 rfl (lv_at hl 3 rfl) ?_
        refine x_get (C := RX5) (T := TX5) (N := 8) hx hb hts hin_X5 hown hK hP (13) (by decide) hp13 rfl 5 (by decide) hw_0 (fun _ h9 => h9) rfl dX5_difference_21 ?_
        refine x_get (C := RX7) (T := TX7) (N := 4) hx hb hts hin_X7 hown hK hP (10) (by decide) hqa0 rfl 1 (by decide) hw_8 (fun _ h9 => h9) rfl dX5_difference_24 ?_
        refine lv_iload_n hx hb dX5_difference_27 rfl (lv_at hl 0 rfl) ?_
        refine x_iald (f := Pa) hx hb hK hP (12) (by decide) hqa2 (by omega) (by omega) (by decide) dX5_difference_28 ?_
        have hb_3 := hoa.2.2.2.1 (i)
        refine x_min hx hb (hml.trans hl.1.symm) hown hw_9 hw_10 hw_6 hw_11 (Nat.le_of_ble_eq_true rfl) (Nat.le_of_ble_eq_true rfl) (Nat.le_of_ble_eq_true rfl) (Nat.le_of_ble_eq_true rfl) (by omega) (by omega) dX5_difference_29 (fun q_4 hq_4 => ?_)
        refine lv_istore_n (lv' := [(1, .int (iI (q_4))), (3, .int (iI (i))), (2, .int (iI (grt))), (0, .ref (g.2.2 13))]) hx hb dX5_difference_32 rfl hl (by decide) rfl (fun ls hl => ?_)
        refine lv_iload_n hx hb dX5_difference_33 rfl (lv_at hl 2 rfl) ?_
        refine lv_aload_n hx hb dX5_difference_34 rfl (lv_at hl 3 rfl) ?_
        refine x_get (C := RX5) (T := TX5) (N := 8) hx hb hts hin_X5 hown hK hP (13) (by decide) hp13 rfl 5 (by decide) hw_0 (fun _ h9 => h9) rfl dX5_difference_35 ?_
        refine x_get (C := RX7) (T := TX7) (N := 4) hx hb hts hin_X7 hown hK hP (10) (by decide) hqa0 rfl 1 (by decide) hw_8 (fun _ h9 => h9) rfl dX5_difference_38 ?_
        refine lv_iload_n hx hb dX5_difference_41 rfl (lv_at hl 1 rfl) ?_
        refine x_iald (f := Pa) hx hb hK hP (12) (by decide) hqa2 (by omega) (by omega) (by decide) dX5_difference_42 ?_
        have hb_5 := hoa.2.2.2.1 (i)
        refine x_max hx hb (hml.trans hl.1.symm) hown hw_4 hw_5 hw_6 hw_7 (Nat.le_of_ble_eq_true rfl) (Nat.le_of_ble_eq_true rfl) (Nat.le_of_ble_eq_true rfl) (Nat.le_of_ble_eq_true rfl) (by omega) (by omega) dX5_difference_43 (fun q_6 hq_6 => ?_)
        refine lv_istore_n (lv' := [(2, .int (iI (q_6))), (1, .int (iI (q_4))), (3, .int (iI (i))), (0, .ref (g.2.2 13))]) hx hb dX5_difference_46 rfl hl (by decide) rfl (fun ls hl => ?_)
        refine x_iinc (k0 := 2) (lv' := [(3, .int (iI (i + 1))), (2, .int (iI (q_6))), (1, .int (iI (q_4))), (0, .ref (g.2.2 13))]) hx hb dX5_difference_47 hl rfl (by decide) rfl (fun ls hl => ?_)
        refine lv_goto (tgt := 8) hx hb dX5_difference_50 (by decide) ?_
        exact ih_1 (i + 1) (q_4) (q_6) (by omega) (by omega) (by omega) (by rw [zMin9_succ _ hi0, ← e1]; split <;> omega) (by rw [zMax0_succ _ hi0, ← e2]; split <;> omega) (by omega) (by omega) (by omega) ls (lv_sub hl [0, 2, 1, 3] rfl)
  exact hloop_8 (((na - (0)).toNat) + 1) (0) (9999) (0) (by omega) (by omega) (by omega) (by rfl) (by rfl) (by omega) (by omega) (by omega) ls (lv_sub hl [0, 2, 1, 3] rfl)
