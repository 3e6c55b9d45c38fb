theorem zEnd_ge (C : Int → Int) (p : Int) : p ≤ zEnd C p ∧ zEnd C p ≤ p + 7 := by
  have h := zCnt_rng C (zMx (C p)) (p + 1)
  have h2 : zMx (C p) ≤ 6 := by unfold zMx; split; omega; split; omega; split <;> omega
  unfold zEnd; split <;> omega
theorem zEnd_gt {C : Int → Int} {p : Int} (h : zStOk C p) : p + 1 ≤ zEnd C p := by
  have h1 := zCnt_rng C (zMx (C p)) (p + 1)
  unfold zEnd; rw [if_pos h.1]; omega
def zScan (C : Int → Int) (z : Int) : Nat → Int → Int → Int × Int
  | 0, _, n => (-1, n)
  | k + 1, p, n => if zStOk C p then (if zEnd C p + 1 < z then zScan C z k (zEnd C p + 1) (n + 1) else (-1, n + 1)) else (zEnd C p, n)
theorem zScan_no {C : Int → Int} {z p n : Int} (hn : 0 ≤ n ∧ n ≤ 100) (h : ¬ zStOk C p) : zScan C z (101 - n).toNat p n = (zEnd C p, n) := by
  have e : (101 - n).toNat = (101 - (n + 1)).toNat + 1 := by omega
  rw [e]; exact if_neg h
theorem zScan_go {C : Int → Int} {z p n : Int} (hn : 0 ≤ n ∧ n ≤ 100) (h : zStOk C p) (h2 : zEnd C p + 1 < z) : zScan C z (101 - n).toNat p n = zScan C z (101 - (n + 1)).toNat (zEnd C p + 1) (n + 1) := by
  have e : (101 - n).toNat = (101 - (n + 1)).toNat + 1 := by omega
  rw [e]
  show (if zStOk C p then (if zEnd C p + 1 < z then zScan C z (101 - (n + 1)).toNat (zEnd C p + 1) (n + 1) else (-1, n + 1)) else (zEnd C p, n)) = _
  rw [if_pos h, if_pos h2]
theorem zScan_fin {C : Int → Int} {z p n : Int} (hn : 0 ≤ n ∧ n ≤ 100) (h : zStOk C p) (h2 : ¬ zEnd C p + 1 < z) : zScan C z (101 - n).toNat p n = (-1, n + 1) := by
  have e : (101 - n).toNat = (101 - (n + 1)).toNat + 1 := by omega
  rw [e]
  show (if zStOk C p then (if zEnd C p + 1 < z then zScan C z (101 - (n + 1)).toNat (zEnd C p + 1) (n + 1) else (-1, n + 1)) else (zEnd C p, n)) = _
  rw [if_pos h, if_neg h2]
theorem zScan_ok {C : Int → Int} {z p n : Int} (hn : 0 ≤ n ∧ n ≤ 100) (hp : 0 ≤ p) (h : (zScan C z (101 - n).toNat p n).1 = -1) : zStOk C p ∧ (zEnd C p + 1 < z → (zScan C z (101 - (n + 1)).toNat (zEnd C p + 1) (n + 1)).1 = -1) := by
  by_cases o : zStOk C p
  · refine ⟨o, fun h2 => ?_⟩
    rw [zScan_go hn o h2] at h; exact h
  · rw [zScan_no hn o] at h
    have := zEnd_ge C p
    simp only at h
    omega
def zTl (C : Int → Int) (S : Int → Int) (p : Int) : Int × (Int → Int) := zTold S (C p) (C (p + 1) - 48) (C (p + 2) - 48) (zVl C (p + 3) (zCnt C (p + 3) 4).toNat)
theorem zTl_eq {C S N : Int → Int} {p : Int} (h : zNums C p N) : zTold S (C p) (N 0) (N 1) (N 2) = zTl C S p := by
  unfold zTl zTold
  by_cases c1 : C p = 104
  · rw [if_pos c1, if_pos c1, (h.1 (by omega)).1, (h.2.1 (by omega) (by omega)).1, (h.2.2 (Or.inl c1)).1]
  · rw [if_neg c1, if_neg c1]
    by_cases c2 : C p = 114
    · rw [if_pos c2, if_pos c2, (h.1 (by omega)).1]
    · rw [if_neg c2, if_neg c2]
      by_cases c3 : C p = 103
      · rw [if_pos c3, if_pos c3, (h.1 (by omega)).1, (h.2.1 (by omega) (by omega)).1, (h.2.2 (Or.inr c3)).1]
      · rw [if_neg c3, if_neg c3]
        by_cases c4 : C p = 109
        · rw [if_pos c4, if_pos c4, (h.1 (by omega)).1, (h.2.1 (by omega) (by omega)).1]
        · rw [if_neg c4, if_neg c4]
theorem zNums_tok {C N : Int → Int} {p : Int} (h : zNums C p N) : zTok (C p) N := ⟨fun a => (h.1 a).2, fun a b => (h.2.1 a b).2, fun a => (h.2.2 a).2⟩
def zDo (C : Int → Int) (z : Int) : Nat → Int → (Int → Int) → Int × (Int → Int)
  | 0, _, S => (-1, S)
  | k + 1, p, S => if p < z then (if (zTl C S p).1 = 1 then zDo C z k (zEnd C p + 1) (zTl C S p).2 else (p, S)) else (-1, S)
theorem zDo_unf {C S : Int → Int} {z p n : Int} (hn : 0 ≤ n ∧ n ≤ 100) : zDo C z (101 - n).toNat p S = if p < z then (if (zTl C S p).1 = 1 then zDo C z (101 - (n + 1)).toNat (zEnd C p + 1) (zTl C S p).2 else (p, S)) else (-1, S) := by
  have e : (101 - n).toNat = (101 - (n + 1)).toNat + 1 := by omega
  rw [e]; rfl
theorem zDo_end {C S : Int → Int} {z p n : Int} (hz : ¬ p < z) : zDo C z (101 - n).toNat p S = (-1, S) := by
  cases (101 - n).toNat with
  | zero => rfl
  | succ k => exact if_neg hz
def zStrG (C : Int → Int) (z : Int) (S : Int → Int) : Int × (Int → Int) := if (zScan C z 101 0 0).1 ≠ -1 then (-1000 - (zScan C z 101 0 0).1, S) else if (zDo C z 101 0 S).1 ≠ -1 then (-2000 - (zDo C z 101 0 S).1, S) else ((zScan C z 101 0 0).2, (zDo C z 101 0 S).2)
def zStr (Kp So Sz El S : Int → Int) (d : Int) : Int × (Int → Int) := if zRowR Kp So d 0 ≠ 0 then (zRowR Kp So d 0, S) else zStrG (zC El (100 * d) (Sz d)) (Sz d) S
theorem zStrG_1 {C S : Int → Int} {z q n : Int} (h : zScan C z 101 0 0 = (q, n)) (hq : q ≠ -1) : zStrG C z S = (-1000 - q, S) := by unfold zStrG; rw [h]; exact if_pos hq
theorem zStrG_2 {C S T : Int → Int} {z q n : Int} (h : zScan C z 101 0 0 = (-1, n)) (h2 : zDo C z 101 0 S = (q, T)) (hq : q ≠ -1) : zStrG C z S = (-2000 - q, S) := by
  unfold zStrG; rw [h, h2]
  show (if (-1 : Int) ≠ -1 then _ else if q ≠ -1 then _ else _) = _
  rw [if_neg (by omega), if_pos hq]
theorem zStrG_3 {C S T : Int → Int} {z n : Int} (h : zScan C z 101 0 0 = (-1, n)) (h2 : zDo C z 101 0 S = (-1, T)) : zStrG C z S = (n, T) := by
  unfold zStrG; rw [h, h2]
  show (if (-1 : Int) ≠ -1 then _ else if (-1 : Int) ≠ -1 then _ else _) = _
  rw [if_neg (by omega), if_neg (by omega)]

set_option maxHeartbeats 4000000 in
set_option maxRecDepth 100000 in
theorem c_X12_street (l : Launch) (g : xG) (σ : xS) (A : Nat → Prop) (ov : Nat → Int) (S : Int → Int) (hob : MObj g σ.1 ov) (hs0 : MArr g σ.1 38 29 S) (hok : SmOk S) (Kp So Sz El KK KF : Int → Int) (h42 : MArr g σ.1 42 8 Kp) (h43 : MArr g σ.1 43 8 So) (h44 : MArr g σ.1 44 8 Sz) (h45 : MArr g σ.1 45 800 El) (h46 : MArr g σ.1 46 8 KK) (h47 : MArr g σ.1 47 8 KF) (hsh : ShOk Kp So Sz El KK KF) (Nm : Int → Int) (h48 : MArr g σ.1 48 3 Nm) (hNm : ∀ k, inR (Nm k)) (Rd : Int → Int) (h40 : MArr g σ.1 40 29 Rd) (hn8 : S 0 ≤ 8) (d : Int) (hd : inR d) : Met l yX12_street wsX12_street ({ frames := 7, cells := 0, slots := 0, locals := 224 }) (va_Pc [.ref (g.2.2 37), .int (iI (d))] (xPreQ g A σ)) (x_Qi g A (fun r σ1 => σ1.2 = σ.2 ∧ (∀ j, j ≠ 37 ∧ j ≠ 38 ∧ j ≠ 40 ∧ j ≠ 48 → σ1.1 j = σ.1 j) ∧ r = (zStr Kp So Sz El S d).1 ∧ ∃ ov2 S2 Rd2 N2, MObj g σ1.1 ov2 ∧ ov2 10 = ov 10 ∧ MArr g σ1.1 38 29 S2 ∧ SmOk S2 ∧ S2 0 ≤ 8 ∧ (∀ j, 0 ≤ j → j < 29 → S2 j = (zStr Kp So Sz El S d).2 j) ∧ MArr g σ1.1 40 29 Rd2 ∧ MArr g σ1.1 48 3 N2 ∧ ∀ k, inR (N2 k))) (0) (0) A := by
  refine Met.ofW (cc := cX12_street) (maxL := 7) (ret := (some .int)) (by decide) rfl ?_
  intro p e s m args below meth c s₁ B hml hv
  obtain ⟨rfl, hP, hK, hD, hA⟩ := hv
  have hx := B.exec
  have hb := B.bytes
  have hr := B.returns
  have hts := atoms_spec (ws := wsX12_street) B.pre
  have hown : s.vm.findClass RX12 = some m.cls := findClass_of_methodNamed B.named
  have hlocks := B.notSynchronized
  have hS : va_S A s.heap s.heap [] := va_S.rf
  have hfr : ∀ j, (j ≠ 37 ∧ j ≠ 38 ∧ j ≠ 40 ∧ j ≠ 48) → σ.1 j = σ.1 j := fun _ _ => rfl
  have hl := lv_entry ([.ref (g.2.2 37), .int (iI (d))]) (n := 7) (Nat.le_of_ble_eq_true rfl)
  rw [lg_entry_eq]
  generalize (lg_sl ([.ref (g.2.2 37), .int (iI (d))]) ++ List.replicate (7 - (lg_sl ([.ref (g.2.2 37), .int (iI (d))])).length) Slot.unset).toArray = ls at hl ⊢
  have hl : lv_has ls 7 [(0, .ref (g.2.2 37)), (1, .int (iI (d)))] := hl
  have hn0 := hok.2.1
  have hrd0 := hok.2.2.1
  have hw_0 := hts (.fieldLink RX12 109 "TwiceAsRichModel" "base" "I") (by decide +kernel)
  have hin_X12 : ∀ w ∈ wsX120, w ∈ wsX12_street := by decide +kernel
  have hw_2 := hts (.fieldLink RX12 28 "TwiceAsRichModel" "size" "[I") (by decide +kernel)
  have hw_3 := hts (.fieldLink RX12 106 "TwiceAsRichModel" "end" "I") (by decide +kernel)
  have hw_4 := hts (.fieldLink RX12 103 "TwiceAsRichModel" "pos" "I") (by decide +kernel)
  have hw_5 := hts (.fieldLink RX12 9 "TwiceAsRichModel" "s" "[I") (by decide +kernel)
  have hw_6 := hts (.fieldLink RX12 16 "TwiceAsRichModel" "read" "[I") (by decide +kernel)
  refine lv_aload_n hx hb dX12_street_0 rfl (lv_at hl 0 rfl) ?_
  refine lv_iload_n hx hb dX12_street_1 rfl (lv_at hl 1 rfl) ?_
  refine x_iconst hx hb dX12_street_2 ?_
  refine x_ci (va_runV (As := [.int (iI (d)), .int (iI (0))]) (rest := []) ⟨hx, hb, hml, hown, hts⟩ (c_X12_wrongRow l g σ (ov) S hob hs0 hok Kp So Sz El KK KF h42 h43 h44 h45 h46 h47 hsh (d) (by omega) (0) (by omega)) (cwV 2 hts gX12_street_X12_wrongRow rfl rfl rfl (by decide +kernel) ⟨Nat.le_of_ble_eq_true rfl, Nat.le_of_ble_eq_true rfl⟩) (x_preV hK hP (x_recv hK hP (i := 37) (by decide) hob rfl)) rfl rfl hl.1 rfl (lv_room (Nat.le_of_ble_eq_true rfl)) dX12_street_3 ⟨Nat.le_of_ble_eq_true rfl, Nat.le_of_ble_eq_true rfl⟩) (fun r_3 hr_3 qr_3 => ?_)
  replace qr_3 : r_3 = zRowR Kp So (d) (0) := qr_3
  refine lv_istore_n (lv' := [(2, .int (iI (r_3))), (0, .ref (g.2.2 37)), (1, .int (iI (d)))]) hx hb dX12_street_6 rfl hl (by decide) rfl (fun ls hl => ?_)
  refine lv_iload_n hx hb dX12_street_7 rfl (lv_at hl 0 rfl) ?_
  refine x_if_eq (tgt := 13) hx hb (by omega) dX12_street_8 (by decide) (fun c_8 => ?_) (fun c_8 => ?_)
  · have hk0 := zRowR_0 qr_3 (by omega)
    have hsd := hsh.2.2.2.2.2.2 d hk0.1 hk0.2.1
    have hEl := hsh.2.2.2.1
    obtain ⟨b, hb9⟩ : ∃ b : Int, b = 100 * d := ⟨_, rfl⟩
    obtain ⟨z, hz9⟩ : ∃ z : Int, z = Sz d := ⟨_, rfl⟩
    have hbr : 0 ≤ b ∧ b ≤ 700 ∧ 0 ≤ z ∧ z ≤ 100 := by omega
    refine lv_aload_n hx hb dX12_street_13 rfl (lv_at hl 1 rfl) ?_
    refine x_bipush (n := 100) hx hb (by decide +kernel) dX12_street_14 ?_
    refine lv_iload_n hx hb dX12_street_16 rfl (lv_at hl 2 rfl) ?_
    refine x_imul hx hb dX12_street_17 ?_
    refine x_put (C := RX12) (T := TX12) (N := 24) (ty := .int) hx hb hts hin_X12 hown hK hP hD hS (37) (by decide) hob rfl tyX12 tyX12_ok nmX12 13 (by decide) hw_0 (fun _ h9 => h9) rfl (by decide +kernel) rfl rfl (Nat.le_of_ble_eq_true rfl) dX12_street_18 (fun M_1 H locs hnew hne hP hD hS => ?_)
    obtain ⟨ov_2, hov_2⟩ : ∃ q : Nat → Int, q = va_up (ov) 13 (100 * d) := ⟨_, rfl⟩
    have vov_2 : ov_2 13 = 100 * d := by rw [hov_2]; rfl
    have nov_2 : ∀ j, j ≠ 13 → ov_2 j = ov j := fun j hj => by rw [hov_2]; exact va_up_ne _ _ hj
    have hnew : MObj g M_1 ov_2 := by rw [hov_2]; exact hnew
    have hP : xP g (M_1, σ.2) H := hP
    have hD : xD g A (M_1, σ.2) := hD
    have hob : MObj g M_1 ov_2 := hnew
    have hs0 := (hne (38) (by decide)).trans hs0
    have h42 := (hne (42) (by decide)).trans h42
    have h43 := (hne (43) (by decide)).trans h43
    have h44 := (hne (44) (by decide)).trans h44
    have h45 := (hne (45) (by decide)).trans h45
    have h46 := (hne (46) (by decide)).trans h46
    have h47 := (hne (47) (by decide)).trans h47
    have h48 := (hne (48) (by decide)).trans h48
    have h40 := (hne (40) (by decide)).trans h40
    have hfr := x_fr (F := fun j => j ≠ 37 ∧ j ≠ 38 ∧ j ≠ 40 ∧ j ≠ 48) hfr hne (fun j h => by have h : j ≠ 37 ∧ j ≠ 38 ∧ j ≠ 40 ∧ j ≠ 48 := h; omega)
    refine lv_aload_n hx hb dX12_street_21 rfl (lv_at hl 1 rfl) ?_
    refine lv_aload_n hx hb dX12_street_22 rfl (lv_at hl 1 rfl) ?_
    refine x_get (C := RX12) (T := TX12) (N := 24) hx hb hts hin_X12 hown hK hP (37) (by decide) hob rfl 6 (by decide) hw_2 (fun _ h9 => h9) rfl dX12_street_23 ?_
    refine lv_iload_n hx hb dX12_street_26 rfl (lv_at hl 2 rfl) ?_
    refine x_iald (f := Sz) hx hb hK hP (44) (by decide) h44 (by omega) (by omega) (by decide) dX12_street_27 ?_
    have hb_3 := hsh.2.2.1 (d)
    refine x_put (C := RX12) (T := TX12) (N := 24) (ty := .int) hx hb hts hin_X12 hown hK hP hD hS (37) (by decide) hob rfl tyX12 tyX12_ok nmX12 14 (by decide) hw_3 (fun _ h9 => h9) rfl (by decide +kernel) rfl rfl (Nat.le_of_ble_eq_true rfl) dX12_street_28 (fun M_4 H locs hnew hne hP hD hS => ?_)
    obtain ⟨ov_5, hov_5⟩ : ∃ q : Nat → Int, q = va_up (ov_2) 14 (Sz (d)) := ⟨_, rfl⟩
    have vov_5 : ov_5 14 = Sz (d) := by rw [hov_5]; rfl
    have nov_5 : ∀ j, j ≠ 14 → ov_5 j = ov_2 j := fun j hj => by rw [hov_5]; exact va_up_ne _ _ hj
    have hnew : MObj g M_4 ov_5 := by rw [hov_5]; exact hnew
    have hP : xP g (M_4, σ.2) H := hP
    have hD : xD g A (M_4, σ.2) := hD
    have hob : MObj g M_4 ov_5 := hnew
    have hs0 := (hne (38) (by decide)).trans hs0
    have h42 := (hne (42) (by decide)).trans h42
    have h43 := (hne (43) (by decide)).trans h43
    have h44 := (hne (44) (by decide)).trans h44
    have h45 := (hne (45) (by decide)).trans h45
    have h46 := (hne (46) (by decide)).trans h46
    have h47 := (hne (47) (by decide)).trans h47
    have h48 := (hne (48) (by decide)).trans h48
    have h40 := (hne (40) (by decide)).trans h40
    have hfr := x_fr (F := fun j => j ≠ 37 ∧ j ≠ 38 ∧ j ≠ 40 ∧ j ≠ 48) hfr hne (fun j h => by have h : j ≠ 37 ∧ j ≠ 38 ∧ j ≠ 40 ∧ j ≠ 48 := h; omega)
    refine lv_aload_n hx hb dX12_street_31 rfl (lv_at hl 1 rfl) ?_
    refine x_iconst hx hb dX12_street_32 ?_
    refine x_put (C := RX12) (T := TX12) (N := 24) (ty := .int) hx hb hts hin_X12 hown hK hP hD hS (37) (by decide) hob rfl tyX12 tyX12_ok nmX12 12 (by decide) hw_4 (fun _ h9 => h9) rfl (by decide +kernel) rfl rfl (Nat.le_of_ble_eq_true rfl) dX12_street_33 (fun M_6 H locs hnew hne hP hD hS => ?_)
    obtain ⟨ov_7, hov_7⟩ : ∃ q : Nat → Int, q = va_up (ov_5) 12 (0) := ⟨_, rfl⟩
    have vov_7 : ov_7 12 = 0 := by rw [hov_7]; rfl
    have nov_7 : ∀ j, j ≠ 12 → ov_7 j = ov_5 j := fun j hj => by rw [hov_7]; exact va_up_ne _ _ hj
    have hnew : MObj g M_6 ov_7 := by rw [hov_7]; exact hnew
    have hP : xP g (M_6, σ.2) H := hP
    have hD : xD g A (M_6, σ.2) := hD
    have hob : MObj g M_6 ov_7 := hnew
    have hs0 := (hne (38) (by decide)).trans hs0
    have h42 := (hne (42) (by decide)).trans h42
    have h43 := (hne (43) (by decide)).trans h43
    have h44 := (hne (44) (by decide)).trans h44
    have h45 := (hne (45) (by decide)).trans h45
    have h46 := (hne (46) (by decide)).trans h46
    have h47 := (hne (47) (by decide)).trans h47
    have h48 := (hne (48) (by decide)).trans h48
    have h40 := (hne (40) (by decide)).trans h40
    have hfr := x_fr (F := fun j => j ≠ 37 ∧ j ≠ 38 ∧ j ≠ 40 ∧ j ≠ 48) hfr hne (fun j h => by have h : j ≠ 37 ∧ j ≠ 38 ∧ j ≠ 40 ∧ j ≠ 48 := h; omega)
    have a12 : ov_7 12 = 0 := vov_7
    have a13 : ov_7 13 = b := (((nov_7 13 (by decide)).trans ((nov_5 13 (by decide)).trans vov_2))).trans hb9.symm
    have a14 : ov_7 14 = z := (((nov_7 14 (by decide)).trans vov_5)).trans hz9.symm
    have a10 : ov_7 10 = ov 10 := ((nov_7 10 (by decide)).trans ((nov_5 10 (by decide)).trans ((nov_2 10 (by decide)).trans rfl)))
    refine x_iconst hx hb dX12_street_36 ?_
    refine lv_istore_n (lv' := [(3, .int (iI (0))), (2, .int (iI (r_3))), (0, .ref (g.2.2 37)), (1, .int (iI (d)))]) hx hb dX12_street_37 rfl hl (by decide) rfl (fun ls hl => ?_)
    have hloop_38 : ∀ (k : Nat) (oz : Nat → Int) (n9 : Int) (No : Int → Int), ((101 : Int) - n9).toNat < k → (hn0 : 0 ≤ n9 ∧ n9 ≤ oz 12) → (hp9 : oz 12 ≤ 100) → (o13 : oz 13 = b) → (o14 : oz 14 = z) → (o10 : oz 10 = ov 10) → (hNo : ∀ k, inR (No k)) → (hsc : zScan (zC El b z) z (101 - n9).toNat (oz 12) n9 = zScan (zC El b z) z 101 0 0) → ∀ (M : xM) (H : Heap) (locs : List Loc), (hob : M (37) = .inr (12, [.ref (g.2.2 38), .ref (g.2.2 39), .ref (g.2.2 40), .ref (g.2.2 41), .ref (g.2.2 42), .ref (g.2.2 43), .ref (g.2.2 44), .ref (g.2.2 45), .ref (g.2.2 46), .ref (g.2.2 47), .int (iI (oz 10)), .int (iI (oz 11)), .int (iI (oz 12)), .int (iI (oz 13)), .int (iI (oz 14)), .int (iI (oz 15)), .ref (g.2.2 48), .int (iI (oz 17)), .int (iI (oz 18)), .int (iI (oz 19)), .int (iI (oz 20)), .int (iI (oz 21)), .ref (g.2.2 49), .int (iI (oz 23))])) → (hs0 : M (38) = .inl (g.2.1 0, 29, .inl (fun k => iI (S (k : Int))))) → (h42 : M (42) = .inl (g.2.1 0, 8, .inl (fun k => iI (Kp (k : Int))))) → (h43 : M (43) = .inl (g.2.1 0, 8, .inl (fun k => iI (So (k : Int))))) → (h44 : M (44) = .inl (g.2.1 0, 8, .inl (fun k => iI (Sz (k : Int))))) → (h45 : M (45) = .inl (g.2.1 0, 800, .inl (fun k => iI (El (k : Int))))) → (h46 : M (46) = .inl (g.2.1 0, 8, .inl (fun k => iI (KK (k : Int))))) → (h47 : M (47) = .inl (g.2.1 0, 8, .inl (fun k => iI (KF (k : Int))))) → (h48 : M (48) = .inl (g.2.1 0, 3, .inl (fun k => iI (No (k : Int))))) → (h40 : M (40) = .inl (g.2.1 0, 29, .inl (fun k => iI (Rd (k : Int))))) → (hfr : ∀ j, (j ≠ 37 ∧ j ≠ 38 ∧ j ≠ 40 ∧ j ≠ 48) → M j = σ.1 j) → xP g (M, σ.2) H → xD g A (M, σ.2) → va_S A s.heap H locs → ∀ (ls : Array Slot), lv_has ls 7 [(3, .int (iI (n9))), (2, .int (iI (r_3))), (0, .ref (g.2.2 37)), (1, .int (iI (d)))] → W p l e (headSpec wsX12_street ({ frames := 7, cells := 0, slots := 0, locals := 224 })).room s m ([.ref (g.2.2 37), .int (iI (d))] : List Value).toArray below meth c H locs 0 0 (MQ below (x_Qi g A (fun r σ1 => σ1.2 = σ.2 ∧ (∀ j, j ≠ 37 ∧ j ≠ 38 ∧ j ≠ 40 ∧ j ≠ 48 → σ1.1 j = σ.1 j) ∧ r = (zStr Kp So Sz El S d).1 ∧ ∃ ov2 S2 Rd2 N2, MObj g σ1.1 ov2 ∧ ov2 10 = ov 10 ∧ MArr g σ1.1 38 29 S2 ∧ SmOk S2 ∧ S2 0 ≤ 8 ∧ (∀ j, 0 ≤ j → j < 29 → S2 j = (zStr Kp So Sz El S d).2 j) ∧ MArr g σ1.1 40 29 Rd2 ∧ MArr g σ1.1 48 3 N2 ∧ ∀ k, inR (N2 k))) ([.ref (g.2.2 37), .int (iI (d))] : List Value).toArray s (0) (0) A) (F0 m 38 ls []) := by
      intro k
      induction k with
      | zero =>
        intros; exact absurd (by assumption) (Nat.not_lt_zero _)
      | succ k ih =>
        intro oz n9 No hmeas hn0 hp9 o13 o14 o10 hNo hsc M H locs hob hs0 h42 h43 h44 h45 h46 h47 h48 h40 hfr hP hD hS ls hl
        have ih_8 := ih
        refine lv_aload_n hx hb dX12_street_38 rfl (lv_at hl 2 rfl) ?_
        refine x_cqi0 (va_runV (As := []) (rest := []) ⟨hx, hb, hml, hown, hts⟩ (c_X12_readsStatement l g (M, σ.2) A (oz) hob El h45 hEl b z ((oz) 12) (by omega) (by omega) rfl (by omega) No h48 hNo) (cwV 0 hts gX12_street_X12_readsStatement rfl rfl rfl (by decide +kernel) ⟨Nat.le_of_ble_eq_true rfl, Nat.le_of_ble_eq_true rfl⟩) (x_preVQ hK hP hD hS hA (x_recv hK hP (i := 37) (by decide) hob rfl)) rfl rfl hl.1 rfl (lv_room (Nat.le_of_ble_eq_true rfl)) dX12_street_39 ⟨by decide, by decide⟩) hS (fun r_39 σ1 H locs hr_39 hpost hP hD hS => ?_)
        obtain ⟨M_9, p1⟩ := σ1
        obtain ⟨hp0, hfrc, ov_10, N_11, hnew, ⟨e10, e13, e14⟩, hnew2, hN_11, hst⟩ := hpost
        obtain rfl : p1 = σ.2 := hp0
        have hP : xP g (M_9, σ.2) H := hP
        have hD : xD g A (M_9, σ.2) := hD
        have hs0 := (hfrc (38) (by omega)).trans hs0
        have h42 := (hfrc (42) (by omega)).trans h42
        have h43 := (hfrc (43) (by omega)).trans h43
        have h44 := (hfrc (44) (by omega)).trans h44
        have h45 := (hfrc (45) (by omega)).trans h45
        have h46 := (hfrc (46) (by omega)).trans h46
        have h47 := (hfrc (47) (by omega)).trans h47
        have h40 := (hfrc (40) (by omega)).trans h40
        have hfr := x_frc (F := fun j => j ≠ 37 ∧ j ≠ 38 ∧ j ≠ 40 ∧ j ≠ 48) hfr hfrc (fun j h => by have h : j ≠ 37 ∧ j ≠ 38 ∧ j ≠ 40 ∧ j ≠ 48 := h; omega)
        have hob : MObj g M_9 ov_10 := hnew
        have h48 := hnew2
        refine x_if_ne (tgt := 54) hx hb (by omega) dX12_street_42 (by decide) (fun c_42 => ?_) (fun c_42 => ?_)
        · have hs := hst.resolve_right (fun h => by omega)
          have hgt := zEnd_gt hs.2.1
          have hge := zEnd_ge (zC El b z) (oz 12)
          refine x_iinc (k0 := 0) (lv' := [(3, .int (iI (n9 + 1))), (2, .int (iI (r_3))), (0, .ref (g.2.2 37)), (1, .int (iI (d)))]) hx hb dX12_street_54 hl rfl (by decide) rfl (fun ls hl => ?_)
          refine lv_aload_n hx hb dX12_street_57 rfl (lv_at hl 2 rfl) ?_
          refine x_get (C := RX12) (T := TX12) (N := 24) hx hb hts hin_X12 hown hK hP (37) (by decide) hob rfl 12 (by decide) hw_4 (fun _ h9 => h9) rfl dX12_street_58 ?_
          refine lv_aload_n hx hb dX12_street_61 rfl (lv_at hl 2 rfl) ?_
          refine x_get (C := RX12) (T := TX12) (N := 24) hx hb hts hin_X12 hown hK hP (37) (by decide) hob rfl 14 (by decide) hw_3 (fun _ h9 => h9) rfl dX12_street_62 ?_
          refine x_icmp_lt (tgt := 38) hx hb (by omega) (by omega) dX12_street_65 (by decide) (fun c_65 => ?_) (fun c_65 => ?_)
          · exact ih_8 (ov_10) (n9 + 1) (N_11) (by omega) (by omega) (by omega) (by exact e13) (by exact e14) (by exact e10.trans o10) (by exact hN_11) (by rw [← hsc, zScan_go (by omega) hs.2.1 (by omega), hs.2.2.1]) (M_9) _ _ hob hs0 h42 h43 h44 h45 h46 h47 h48 h40 hfr hP hD hS ls (lv_sub hl [0, 1, 2, 3] rfl)
          · have hscE : zScan (zC El b z) z 101 0 0 = (-1, n9 + 1) := hsc.symm.trans (zScan_fin (by omega) hs.2.1 (by omega))
            refine lv_aload_n hx hb dX12_street_68 rfl (lv_at hl 2 rfl) ?_
            refine x_get (C := RX12) (T := TX12) (N := 24) hx hb hts hin_X12 hown hK hP (37) (by decide) hob rfl 0 (by decide) hw_5 (fun _ h9 => h9) rfl dX12_street_69 ?_
            refine lv_aload_n hx hb dX12_street_72 rfl (lv_at hl 2 rfl) ?_
            refine x_get (C := RX12) (T := TX12) (N := 24) hx hb hts hin_X12 hown hK hP (37) (by decide) hob rfl 2 (by decide) hw_6 (fun _ h9 => h9) rfl dX12_street_73 ?_
            refine x_cqv0 (va_runS (As := [.ref (g.2.2 38), .ref (g.2.2 40)]) (rest := []) ⟨hx, hb, hml, hown, hts⟩ (c_X12_lays l g (M_9, σ.2) A 38 (by decide) 40 (by decide) (by decide) S Rd hs0 h40) (va_cwS 2 hts gX12_street_X12_lays rfl rfl rfl (by decide +kernel) ⟨Nat.le_of_ble_eq_true rfl, Nat.le_of_ble_eq_true rfl⟩) (x_preSQ hK hP hD hS hA) rfl rfl hl.1 rfl (lv_room (Nat.le_of_ble_eq_true rfl)) dX12_street_76 ⟨by decide, by decide⟩) hS (fun σ1 H locs hpost hP hD hS => ?_)
            obtain ⟨M_12, p1⟩ := σ1
            obtain ⟨hp0, hfrc, hnew⟩ := hpost
            obtain rfl : p1 = σ.2 := hp0
            have hP : xP g (M_12, σ.2) H := hP
            have hD : xD g A (M_12, σ.2) := hD
            have hob : MObj g M_12 ov_10 := (hfrc (37) (by omega)).trans hob
            have hs0 := (hfrc (38) (by omega)).trans hs0
            have h42 := (hfrc (42) (by omega)).trans h42
            have h43 := (hfrc (43) (by omega)).trans h43
            have h44 := (hfrc (44) (by omega)).trans h44
            have h45 := (hfrc (45) (by omega)).trans h45
            have h46 := (hfrc (46) (by omega)).trans h46
            have h47 := (hfrc (47) (by omega)).trans h47
            have h48 := (hfrc (48) (by omega)).trans h48
            have hfr := x_frc (F := fun j => j ≠ 37 ∧ j ≠ 38 ∧ j ≠ 40 ∧ j ≠ 48) hfr hfrc (fun j h => by have h : j ≠ 37 ∧ j ≠ 38 ∧ j ≠ 40 ∧ j ≠ 48 := h; omega)
            obtain ⟨S_13, hS_13⟩ : ∃ q : Int → Int, q = zCopy S Rd 29 := ⟨_, rfl⟩
            have h40 : MArr g M_12 40 29 S_13 := by rw [hS_13]; exact hnew
            refine lv_aload_n hx hb dX12_street_79 rfl (lv_at hl 2 rfl) ?_
            refine x_iconst hx hb dX12_street_80 ?_
            refine x_put (C := RX12) (T := TX12) (N := 24) (ty := .int) hx hb hts hin_X12 hown hK hP hD hS (37) (by decide) hob rfl tyX12 tyX12_ok nmX12 12 (by decide) hw_4 (fun _ h9 => h9) rfl (by decide +kernel) rfl rfl (Nat.le_of_ble_eq_true rfl) dX12_street_81 (fun M_14 H locs hnew hne hP hD hS => ?_)
            obtain ⟨ov_15, hov_15⟩ : ∃ q : Nat → Int, q = va_up (ov_10) 12 (0) := ⟨_, rfl⟩
            have vov_15 : ov_15 12 = 0 := by rw [hov_15]; rfl
            have nov_15 : ∀ j, j ≠ 12 → ov_15 j = ov_10 j := fun j hj => by rw [hov_15]; exact va_up_ne _ _ hj
            have hnew : MObj g M_14 ov_15 := by rw [hov_15]; exact hnew
            have hP : xP g (M_14, σ.2) H := hP
            have hD : xD g A (M_14, σ.2) := hD
            have hob : MObj g M_14 ov_15 := hnew
            have hs0 := (hne (38) (by decide)).trans hs0
            have h42 := (hne (42) (by decide)).trans h42
            have h43 := (hne (43) (by decide)).trans h43
            have h44 := (hne (44) (by decide)).trans h44
            have h45 := (hne (45) (by decide)).trans h45
            have h46 := (hne (46) (by decide)).trans h46
            have h47 := (hne (47) (by decide)).trans h47
            have h48 := (hne (48) (by decide)).trans h48
            have h40 := (hne (40) (by decide)).trans h40
            have hfr := x_fr (F := fun j => j ≠ 37 ∧ j ≠ 38 ∧ j ≠ 40 ∧ j ≠ 48) hfr hne (fun j h => by have h : j ≠ 37 ∧ j ≠ 38 ∧ j ≠ 40 ∧ j ≠ 48 := h; omega)
            have b12 : ov_15 12 = 0 := vov_15
            have b13 : ov_15 13 = b := ((nov_15 13 (by decide)).trans e13)
            have b14 : ov_15 14 = z := ((nov_15 14 (by decide)).trans e14)
            have b10 : ov_15 10 = ov 10 := (((nov_15 10 (by decide)).trans e10)).trans o10
            have hloop_84 : ∀ (k : Nat) (T : Int → Int) (oq : Nat → Int) (No2 : Int → Int) (m9 : Int), ((120 : Int) - m9).toNat < k → (hTo : SmOk T) → (hT8 : T 0 ≤ 8) → (hm0 : 0 ≤ m9 ∧ m9 ≤ oq 12 ∧ oq 12 ≤ 110) → (q13 : oq 13 = b) → (q14 : oq 14 = z) → (q10 : oq 10 = ov 10) → (hNo2 : ∀ k, inR (No2 k)) → (hdo : zDo (zC El b z) z (101 - m9).toNat (oq 12) T = zDo (zC El b z) z 101 0 S) → (hsc2 : oq 12 < z → (zScan (zC El b z) z (101 - m9).toNat (oq 12) m9).1 = -1) → ∀ (M : xM) (H : Heap) (locs : List Loc), (hob : M (37) = .inr (12, [.ref (g.2.2 38), .ref (g.2.2 39), .ref (g.2.2 40), .ref (g.2.2 41), .ref (g.2.2 42), .ref (g.2.2 43), .ref (g.2.2 44), .ref (g.2.2 45), .ref (g.2.2 46), .ref (g.2.2 47), .int (iI (oq 10)), .int (iI (oq 11)), .int (iI (oq 12)), .int (iI (oq 13)), .int (iI (oq 14)), .int (iI (oq 15)), .ref (g.2.2 48), .int (iI (oq 17)), .int (iI (oq 18)), .int (iI (oq 19)), .int (iI (oq 20)), .int (iI (oq 21)), .ref (g.2.2 49), .int (iI (oq 23))])) → (hs0 : M (38) = .inl (g.2.1 0, 29, .inl (fun k => iI (T (k : Int))))) → (h42 : M (42) = .inl (g.2.1 0, 8, .inl (fun k => iI (Kp (k : Int))))) → (h43 : M (43) = .inl (g.2.1 0, 8, .inl (fun k => iI (So (k : Int))))) → (h44 : M (44) = .inl (g.2.1 0, 8, .inl (fun k => iI (Sz (k : Int))))) → (h45 : M (45) = .inl (g.2.1 0, 800, .inl (fun k => iI (El (k : Int))))) → (h46 : M (46) = .inl (g.2.1 0, 8, .inl (fun k => iI (KK (k : Int))))) → (h47 : M (47) = .inl (g.2.1 0, 8, .inl (fun k => iI (KF (k : Int))))) → (h48 : M (48) = .inl (g.2.1 0, 3, .inl (fun k => iI (No2 (k : Int))))) → (h40 : M (40) = .inl (g.2.1 0, 29, .inl (fun k => iI (S_13 (k : Int))))) → (hfr : ∀ j, (j ≠ 37 ∧ j ≠ 38 ∧ j ≠ 40 ∧ j ≠ 48) → M j = σ.1 j) → xP g (M, σ.2) H → xD g A (M, σ.2) → va_S A s.heap H locs → ∀ (ls : Array Slot), lv_has ls 7 [(3, .int (iI (n9 + 1))), (2, .int (iI (r_3))), (0, .ref (g.2.2 37)), (1, .int (iI (d)))] → W p l e (headSpec wsX12_street ({ frames := 7, cells := 0, slots := 0, locals := 224 })).room s m ([.ref (g.2.2 37), .int (iI (d))] : List Value).toArray below meth c H locs 0 0 (MQ below (x_Qi g A (fun r σ1 => σ1.2 = σ.2 ∧ (∀ j, j ≠ 37 ∧ j ≠ 38 ∧ j ≠ 40 ∧ j ≠ 48 → σ1.1 j = σ.1 j) ∧ r = (zStr Kp So Sz El S d).1 ∧ ∃ ov2 S2 Rd2 N2, MObj g σ1.1 ov2 ∧ ov2 10 = ov 10 ∧ MArr g σ1.1 38 29 S2 ∧ SmOk S2 ∧ S2 0 ≤ 8 ∧ (∀ j, 0 ≤ j → j < 29 → S2 j = (zStr Kp So Sz El S d).2 j) ∧ MArr g σ1.1 40 29 Rd2 ∧ MArr g σ1.1 48 3 N2 ∧ ∀ k, inR (N2 k))) ([.ref (g.2.2 37), .int (iI (d))] : List Value).toArray s (0) (0) A) (F0 m 84 ls []) := by
              intro k
              induction k with
              | zero =>
                intros; exact absurd (by assumption) (Nat.not_lt_zero _)
              | succ k ih =>
                intro T oq No2 m9 hmeas hTo hT8 hm0 q13 q14 q10 hNo2 hdo hsc2 M H locs hob hs0 h42 h43 h44 h45 h46 h47 h48 h40 hfr hP hD hS ls hl
                have ih_16 := ih
                refine lv_aload_n hx hb dX12_street_84 rfl (lv_at hl 2 rfl) ?_
                refine x_get (C := RX12) (T := TX12) (N := 24) hx hb hts hin_X12 hown hK hP (37) (by decide) hob rfl 12 (by decide) hw_4 (fun _ h9 => h9) rfl dX12_street_85 ?_
                refine lv_aload_n hx hb dX12_street_88 rfl (lv_at hl 2 rfl) ?_
                refine x_get (C := RX12) (T := TX12) (N := 24) hx hb hts hin_X12 hown hK hP (37) (by decide) hob rfl 14 (by decide) hw_3 (fun _ h9 => h9) rfl dX12_street_89 ?_
                refine x_icmp_ge (tgt := 143) hx hb (by omega) (by omega) dX12_street_92 (by decide) (fun c_92 => ?_) (fun c_92 => ?_)
                · refine lv_iload_n hx hb dX12_street_143 rfl (lv_at hl 0 rfl) ?_
                  refine x_retQ hx hb hr (by omega) ?_ hP hD hS dX12_street_144 hlocks
                  have hdz : zDo (zC El b z) z 101 0 S = (-1, T) := by (rw [← hdo]; exact zDo_end (by omega))
                  have eZ : zStr Kp So Sz El S d = (n9 + 1, T) := by (unfold zStr; rw [if_neg (by omega), ← hb9, ← hz9]; exact zStrG_3 hscE hdz)
                  refine ⟨rfl, hfr, by rw [eZ], oq, T, _, No2, hob, q10, hs0, hTo, hT8, fun j h1 h2 => by rw [eZ], h40, h48, hNo2⟩
                · refine lv_aload_n hx hb dX12_street_95 rfl (lv_at hl 2 rfl) ?_
                  refine x_get (C := RX12) (T := TX12) (N := 24) hx hb hts hin_X12 hown hK hP (37) (by decide) hob rfl 12 (by decide) hw_4 (fun _ h9 => h9) rfl dX12_street_96 ?_
                  refine lv_istore (lv' := [(4, .int (iI (oq 12))), (3, .int (iI (n9 + 1))), (2, .int (iI (r_3))), (0, .ref (g.2.2 37)), (1, .int (iI (d)))]) hx hb dX12_street_99 hl (by decide) rfl (fun ls hl => ?_)
                  refine lv_aload_n hx hb dX12_street_101 rfl (lv_at hl 3 rfl) ?_
                  refine x_ci (va_runV (As := []) (rest := []) ⟨hx, hb, hml, hown, hts⟩ (c_X12_here l g (M, σ.2) (oq) hob El h45 hEl b z ((oq) 12) (by omega) (by omega) rfl (by omega)) (cwV 0 hts gX12_street_X12_here rfl rfl rfl (by decide +kernel) ⟨Nat.le_of_ble_eq_true rfl, Nat.le_of_ble_eq_true rfl⟩) (x_preV hK hP (x_recv hK hP (i := 37) (by decide) hob rfl)) rfl rfl hl.1 rfl (lv_room (Nat.le_of_ble_eq_true rfl)) dX12_street_102 ⟨Nat.le_of_ble_eq_true rfl, Nat.le_of_ble_eq_true rfl⟩) (fun r_102 hr_102 qr_102 => ?_)
                  replace qr_102 : r_102 = zC El b z (oq 12) ∧ True := qr_102
                  refine lv_istore (lv' := [(5, .int (iI (r_102))), (4, .int (iI (oq 12))), (3, .int (iI (n9 + 1))), (2, .int (iI (r_3))), (0, .ref (g.2.2 37)), (1, .int (iI (d)))]) hx hb dX12_street_105 hl (by decide) rfl (fun ls hl => ?_)
                  refine lv_aload_n hx hb dX12_street_107 rfl (lv_at hl 4 rfl) ?_
                  refine x_cqi0 (va_runV (As := []) (rest := []) ⟨hx, hb, hml, hown, hts⟩ (c_X12_readsStatement l g (M, σ.2) A (oq) hob El h45 hEl b z ((oq) 12) (by omega) (by omega) rfl (by omega) No2 h48 hNo2) (cwV 0 hts gX12_street_X12_readsStatement rfl rfl rfl (by decide +kernel) ⟨Nat.le_of_ble_eq_true rfl, Nat.le_of_ble_eq_true rfl⟩) (x_preVQ hK hP hD hS hA (x_recv hK hP (i := 37) (by decide) hob rfl)) rfl rfl hl.1 rfl (lv_room (Nat.le_of_ble_eq_true rfl)) dX12_street_108 ⟨by decide, by decide⟩) hS (fun r_108 σ1 H locs hr_108 hpost hP hD hS => ?_)
                  obtain ⟨M_17, p1⟩ := σ1
                  obtain ⟨hp0, hfrc, ov_18, N_19, hnew, ⟨e10, e13, e14⟩, hnew2, hN_19, hst⟩ := hpost
                  obtain rfl : p1 = σ.2 := hp0
                  have hP : xP g (M_17, σ.2) H := hP
                  have hD : xD g A (M_17, σ.2) := hD
                  have hs0 := (hfrc (38) (by omega)).trans hs0
                  have h42 := (hfrc (42) (by omega)).trans h42
                  have h43 := (hfrc (43) (by omega)).trans h43
                  have h44 := (hfrc (44) (by omega)).trans h44
                  have h45 := (hfrc (45) (by omega)).trans h45
                  have h46 := (hfrc (46) (by omega)).trans h46
                  have h47 := (hfrc (47) (by omega)).trans h47
                  have h40 := (hfrc (40) (by omega)).trans h40
                  have hfr := x_frc (F := fun j => j ≠ 37 ∧ j ≠ 38 ∧ j ≠ 40 ∧ j ≠ 48) hfr hfrc (fun j h => by have h : j ≠ 37 ∧ j ≠ 38 ∧ j ≠ 40 ∧ j ≠ 48 := h; omega)
                  have hob : MObj g M_17 ov_18 := hnew
                  have h48 := hnew2
                  refine lv_istore (lv' := [(6, .int (iI (r_108))), (5, .int (iI (r_102))), (4, .int (iI (oq 12))), (3, .int (iI (n9 + 1))), (2, .int (iI (r_3))), (0, .ref (g.2.2 37)), (1, .int (iI (d)))]) hx hb dX12_street_111 hl (by decide) rfl (fun ls hl => ?_)
                  have hso := zScan_ok (by omega) (by omega) (hsc2 (by omega))
                  have hs := hst.resolve_right (fun h => h.2.1 hso.1)
                  have hgt := zEnd_gt hs.2.1
                  have hge := zEnd_ge (zC El b z) (oq 12)
                  have hlt : r_102 = 104 ∨ r_102 = 114 ∨ r_102 = 103 ∨ r_102 = 109 ∨ r_102 = 117 := by (rw [qr_102.1]; exact hso.1.1)
                  have htk : zTok r_102 N_19 := by (rw [qr_102.1]; exact zNums_tok hs.2.2.2)
                  have htl : zTold T r_102 (N_19 0) (N_19 1) (N_19 2) = zTl (zC El b z) T (oq 12) := by (rw [qr_102.1]; exact zTl_eq hs.2.2.2)
                  refine lv_aload_n hx hb dX12_street_113 rfl (lv_at hl 5 rfl) ?_
                  refine lv_iload hx hb dX12_street_114 (lv_at hl 1 rfl) ?_
                  refine x_cqi0 (va_runV (As := [.int (iI (r_102))]) (rest := []) ⟨hx, hb, hml, hown, hts⟩ (c_X12_comesTold l g (M_17, σ.2) A (ov_18) T hob hs0 hTo N_19 h48 hN_19 hT8 (r_102) hlt htk) (cwV 1 hts gX12_street_X12_comesTold rfl rfl rfl (by decide +kernel) ⟨Nat.le_of_ble_eq_true rfl, Nat.le_of_ble_eq_true rfl⟩) (x_preVQ hK hP hD hS hA (x_recv hK hP (i := 37) (by decide) hob rfl)) rfl rfl hl.1 rfl (lv_room (Nat.le_of_ble_eq_true rfl)) dX12_street_116 ⟨by decide, by decide⟩) hS (fun r_116 σ1 H locs hr_116 hpost hP hD hS => ?_)
                  obtain ⟨M_20, p1⟩ := σ1
                  obtain ⟨hp0, hfrc, qr_116, hnew⟩ := hpost
                  obtain rfl : p1 = σ.2 := hp0
                  have hP : xP g (M_20, σ.2) H := hP
                  have hD : xD g A (M_20, σ.2) := hD
                  have hob : MObj g M_20 ov_18 := (hfrc (37) (by omega)).trans hob
                  have h42 := (hfrc (42) (by omega)).trans h42
                  have h43 := (hfrc (43) (by omega)).trans h43
                  have h44 := (hfrc (44) (by omega)).trans h44
                  have h45 := (hfrc (45) (by omega)).trans h45
                  have h46 := (hfrc (46) (by omega)).trans h46
                  have h47 := (hfrc (47) (by omega)).trans h47
                  have h48 := (hfrc (48) (by omega)).trans h48
                  have h40 := (hfrc (40) (by omega)).trans h40
                  have hfr := x_frc (F := fun j => j ≠ 37 ∧ j ≠ 38 ∧ j ≠ 40 ∧ j ≠ 48) hfr hfrc (fun j h => by have h : j ≠ 37 ∧ j ≠ 38 ∧ j ≠ 40 ∧ j ≠ 48 := h; omega)
                  obtain ⟨S_21, hS_21⟩ : ∃ q : Int → Int, q = (zTold T (r_102) (N_19 0) (N_19 1) (N_19 2)).2 := ⟨_, rfl⟩
                  have hs0 : MArr g M_20 38 29 S_21 := by rw [hS_21]; exact hnew
                  have oS_21 : SmOk S_21 := by rw [hS_21]; exact (zTold_ok hTo hT8 htk).1
                  have hT8 : S_21 0 ≤ 8 := by rw [hS_21]; exact (zTold_ok hTo hT8 htk).2
                  refine x_if_ne (tgt := 140) hx hb (by omega) dX12_street_119 (by decide) (fun c_119 => ?_) (fun c_119 => ?_)
                  · refine lv_goto (tgt := 84) hx hb dX12_street_140 (by decide) ?_
                    exact ih_16 (S_21) (ov_18) (N_19) (m9 + 1) (by omega) (by exact oS_21) (by exact hT8) (by omega) (by exact e13) (by exact e14) (by exact e10.trans q10) (by exact hN_19) (by have hne := zTold_rng T r_102 (N_19 0) (N_19 1) (N_19 2); rw [← hdo, zDo_unf (n := m9) (by omega), if_pos (by omega), if_pos (by rw [← htl]; omega), ← htl, ← hS_21, hs.2.2.1]) (by intro hlz; rw [hs.2.2.1] at hlz ⊢; exact hso.2 hlz) (M_20) _ _ hob hs0 h42 h43 h44 h45 h46 h47 h48 h40 hfr hP hD hS ls (lv_sub hl [3, 4, 5, 6] rfl)
                  · refine lv_aload_n hx hb dX12_street_122 rfl (lv_at hl 5 rfl) ?_
                    refine x_get (C := RX12) (T := TX12) (N := 24) hx hb hts hin_X12 hown hK hP (37) (by decide) hob rfl 2 (by decide) hw_6 (fun _ h9 => h9) rfl dX12_street_123 ?_
                    refine lv_aload_n hx hb dX12_street_126 rfl (lv_at hl 5 rfl) ?_
                    refine x_get (C := RX12) (T := TX12) (N := 24) hx hb hts hin_X12 hown hK hP (37) (by decide) hob rfl 0 (by decide) hw_5 (fun _ h9 => h9) rfl dX12_street_127 ?_
                    refine x_cqv0 (va_runS (As := [.ref (g.2.2 40), .ref (g.2.2 38)]) (rest := []) ⟨hx, hb, hml, hown, hts⟩ (c_X12_lays l g (M_20, σ.2) A 40 (by decide) 38 (by decide) (by decide) S_13 S_21 h40 hs0) (va_cwS 2 hts gX12_street_X12_lays rfl rfl rfl (by decide +kernel) ⟨Nat.le_of_ble_eq_true rfl, Nat.le_of_ble_eq_true rfl⟩) (x_preSQ hK hP hD hS hA) rfl rfl hl.1 rfl (lv_room (Nat.le_of_ble_eq_true rfl)) dX12_street_130 ⟨by decide, by decide⟩) hS (fun σ1 H locs hpost hP hD hS => ?_)
                    obtain ⟨M_22, p1⟩ := σ1
                    obtain ⟨hp0, hfrc, hnew⟩ := hpost
                    obtain rfl : p1 = σ.2 := hp0
                    have hP : xP g (M_22, σ.2) H := hP
                    have hD : xD g A (M_22, σ.2) := hD
                    have hob : MObj g M_22 ov_18 := (hfrc (37) (by omega)).trans hob
                    have h42 := (hfrc (42) (by omega)).trans h42
                    have h43 := (hfrc (43) (by omega)).trans h43
                    have h44 := (hfrc (44) (by omega)).trans h44
                    have h45 := (hfrc (45) (by omega)).trans h45
                    have h46 := (hfrc (46) (by omega)).trans h46
                    have h47 := (hfrc (47) (by omega)).trans h47
                    have h48 := (hfrc (48) (by omega)).trans h48
                    have h40 := (hfrc (40) (by omega)).trans h40
                    have hfr := x_frc (F := fun j => j ≠ 37 ∧ j ≠ 38 ∧ j ≠ 40 ∧ j ≠ 48) hfr hfrc (fun j h => by have h : j ≠ 37 ∧ j ≠ 38 ∧ j ≠ 40 ∧ j ≠ 48 := h; omega)
                    obtain ⟨S_23, hS_23⟩ : ∃ q : Int → Int, q = zCopy S_13 S_21 29 := ⟨_, rfl⟩
                    have hs0 : MArr g M_22 38 29 S_23 := by rw [hS_23]; exact hnew
                    refine x_sipush (n := -2000) hx hb (by decide +kernel) dX12_street_133 ?_
                    refine lv_iload hx hb dX12_street_136 (lv_at hl 2 rfl) ?_
                    refine x_isub hx hb dX12_street_138 ?_
                    refine x_retQ hx hb hr (by omega) ?_ hP hD hS dX12_street_139 hlocks
                    have hne := zTold_rng T r_102 (N_19 0) (N_19 1) (N_19 2)
                    have hdz : zDo (zC El b z) z 101 0 S = (oq 12, T) := by (rw [← hdo, zDo_unf (by omega), if_pos (by omega), if_neg (by rw [← htl]; omega)])
                    have eZ : zStr Kp So Sz El S d = (-2000 - oq 12, S) := by (unfold zStr; rw [if_neg (by omega), ← hb9, ← hz9]; exact zStrG_2 hscE hdz (by omega))
                    have hkp : zKeep S S_23 := zKeep_back hok.1 oS_21.1 hS_13 hS_23
                    have hok2 := SmOk_agr hok hkp.1 hkp.2
                    refine ⟨rfl, hfr, by rw [eZ], ov_18, _, _, N_19, hob, e10.trans q10, hs0, hok2, by rw [hkp.2 0 (by omega) (by omega)]; exact hn8, fun j h1 h2 => by rw [eZ]; exact hkp.2 j h1 h2, h40, h48, hN_19⟩
            exact hloop_84 ((((120 : Int) - (0)).toNat) + 1) (S) (ov_15) (N_11) (0) (by omega) (by exact hok) (by exact hn8) (by omega) (by exact b13) (by exact b14) (by exact b10) (by exact hN_11) (by rw [b12]; rfl) (by intro _; rw [b12]; (show (zScan (zC El b z) z 101 0 0).1 = -1); rw [hscE]) (M_14) _ _ hob hs0 h42 h43 h44 h45 h46 h47 h48 h40 hfr hP hD hS ls (lv_sub hl [0, 1, 2, 3] rfl)
        · have hsn := hst.resolve_left (fun h => by omega)
          have hge := zEnd_ge (zC El b z) (oz 12)
          refine x_sipush (n := -1000) hx hb (by decide +kernel) dX12_street_45 ?_
          refine lv_aload_n hx hb dX12_street_48 rfl (lv_at hl 2 rfl) ?_
          refine x_get (C := RX12) (T := TX12) (N := 24) hx hb hts hin_X12 hown hK hP (37) (by decide) hob rfl 12 (by decide) hw_4 (fun _ h9 => h9) rfl dX12_street_49 ?_
          refine x_isub hx hb dX12_street_52 ?_
          refine x_retQ hx hb hr (by omega) ?_ hP hD hS dX12_street_53 hlocks
          have eZ : zStr Kp So Sz El S d = (-1000 - zEnd (zC El b z) (oz 12), S) := by (unfold zStr; rw [if_neg (by omega), ← hb9, ← hz9]; exact zStrG_1 (hsc.symm.trans (zScan_no (by omega) hsn.2.1)) (by omega))
          refine ⟨rfl, hfr, by rw [eZ]; (show _ = -1000 - zEnd (zC El b z) (oz 12)); omega, ov_10, S, Rd, N_11, hob, e10.trans o10, hs0, hok, hn8, fun j _ _ => by rw [eZ], h40, h48, hN_11⟩
    exact hloop_38 ((((101 : Int) - (0)).toNat) + 1) (ov_7) (0) (Nm) (by omega) (by omega) (by omega) (by exact a13) (by exact a14) (by exact a10) (by exact hNm) (by rw [a12]; rfl) (M_6) _ _ hob hs0 h42 h43 h44 h45 h46 h47 h48 h40 hfr hP hD hS ls (lv_sub hl [0, 1, 2, 3] rfl)
  · refine lv_iload_n hx hb dX12_street_11 rfl (lv_at hl 0 rfl) ?_
    refine x_retQ hx hb hr (by omega) ?_ hP hD hS dX12_street_12 hlocks
    have eZ : zStr Kp So Sz El S d = (zRowR Kp So d 0, S) := by (unfold zStr; rw [if_pos (by omega)])
    refine ⟨rfl, hfr, by rw [eZ]; exact qr_3, ov, S, Rd, Nm, hob, rfl, hs0, hok, hn8, fun j _ _ => by rw [eZ], h40, h48, hNm⟩
