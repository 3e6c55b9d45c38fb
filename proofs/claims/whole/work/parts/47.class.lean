/-! ===== a street as a text ===== -/
def TObj (g : xG) (M : xM) (bi : Nat) (sz dn : Int) : Prop := M 23 = .inr (8, [.ref (g.2.2 bi), .int (iI sz), .int (iI dn)])
def zCc (B : Int → Int) (z p : Int) : Int := if 0 ≤ p ∧ p < z then B p else 0
def zSd (c : Int) : Int := if c = 104 ∨ c = 103 ∨ c = 109 then 2 else if c = 114 then 1 else 0
theorem zCw_0 {C : Int → Int} {p : Int} {K : Nat} : zCnt C p K = 0 + zCnt C (p + 0) (K - (0 : Int).toNat) := by simp
theorem zCw_y {C : Int → Int} {p j : Int} {K : Nat} (h : zCnt C p K = j + zCnt C (p + j) (K - j.toNat)) (h0 : 0 ≤ j) (hj : j < K) (hd : 48 ≤ C (p + j) ∧ C (p + j) ≤ 57) : zCnt C p K = (j + 1) + zCnt C (p + (j + 1)) (K - (j + 1).toNat) := by
  have e : K - j.toNat = (K - (j + 1).toNat) + 1 := by omega
  rw [h, e, zCnt_y _ hd, show p + j + 1 = p + (j + 1) by omega]; omega
theorem zCw_e {C : Int → Int} {p j : Int} {K : Nat} (h : zCnt C p K = j + zCnt C (p + j) (K - j.toNat)) (hj : j = K) : zCnt C p K = j := by
  have e : K - j.toNat = 0 := by omega
  rw [h, e]
  show j + 0 = j
  omega
theorem zCw_n {C : Int → Int} {p j : Int} {K : Nat} (h : zCnt C p K = j + zCnt C (p + j) (K - j.toNat)) (hd : ¬ (48 ≤ C (p + j) ∧ C (p + j) ≤ 57)) : zCnt C p K = j := by
  rw [h, zCnt_n _ hd]; omega
theorem zStOk_at {C : Int → Int} {p e : Int} (he : e = zEnd C p) : zStOk C p ↔ (C e = 59 ∧ p + 1 + zFs (C p) ≤ e) := by
  have hF : 0 ≤ zFs (C p) := by unfold zFs; repeat' split
                                all_goals omega
  constructor
  · intro ⟨h1, h2, h3⟩
    have e2 : zEnd C p = p + 1 + zCnt C (p + 1) (zMx (C p)) := if_pos h1
    exact ⟨by rw [he]; exact h3, by omega⟩
  · intro ⟨h1, h2⟩
    by_cases h : zLet (C p)
    · have e2 : zEnd C p = p + 1 + zCnt C (p + 1) (zMx (C p)) := if_pos h
      exact ⟨h, by omega, by rw [← he]; exact h1⟩
    · have e2 : zEnd C p = p := if_neg h
      omega
theorem zCc_none (B : Int → Int) : zCc B 0 0 = 0 := by unfold zCc; rw [if_neg (by omega)]
theorem zScan_none {C : Int → Int} (h : C 0 = 0) : (zScan C 0 101 0 0).1 = 0 := by
  have hl : ¬ zLet (C 0) := by rw [h]; unfold zLet; omega
  have e := zScan_no (C := C) (z := 0) (p := 0) (n := 0) ⟨by omega, by omega⟩ (fun q => hl q.1)
  have e2 : zEnd C 0 = 0 := if_neg hl
  have e3 : (101 - (0 : Int)).toNat = 101 := rfl
  rw [e3] at e
  rw [e, e2]

set_option maxHeartbeats 4000000 in
set_option maxRecDepth 100000 in
theorem c_X8_isDigit (l : Launch) (g : xG) (σ : xS) (v : Int) (hv : inR v) : Met l yX8_isDigit wsX8_isDigit ({ frames := 1, cells := 0, slots := 0, locals := 32 }) (va_Pc [.int (iI (v))] (xPre g σ)) (x_Si (fun r => (r = 1 ∧ 48 ≤ v ∧ v ≤ 57) ∨ (r = 0 ∧ ¬ (48 ≤ v ∧ v ≤ 57)))) (0) (0) (fun _ => False) := by
  refine Met.ofW (cc := cX8_isDigit) (maxL := 1) (ret := (some .boolean)) (by decide) rfl ?_
  intro p e s m args below meth c s₁ B hml hv
  obtain ⟨rfl, hP, hK⟩ := hv
  have hx := B.exec
  have hb := B.bytes
  have hr := B.returns
  have hts := atoms_spec (ws := wsX8_isDigit) B.pre
  have hown : s.vm.findClass RX8 = some m.cls := findClass_of_methodNamed B.named
  have hlocks := B.notSynchronized
  have hl := lv_entry ([.int (iI (v))]) (n := 1) (Nat.le_of_ble_eq_true rfl)
  rw [lg_entry_eq]
  generalize (lg_sl ([.int (iI (v))]) ++ List.replicate (1 - (lg_sl ([.int (iI (v))])).length) Slot.unset).toArray = ls at hl ⊢
  have hl : lv_has ls 1 [(0, .int (iI (v)))] := hl
  refine lv_iload_n hx hb dX8_isDigit_0 rfl (lv_at hl 0 rfl) ?_
  refine x_bipush (n := 48) hx hb (by decide +kernel) dX8_isDigit_1 ?_
  refine x_icmp_lt (tgt := 16) hx hb (by omega) (by omega) dX8_isDigit_3 (by decide) (fun c_3 => ?_) (fun c_3 => ?_)
  · refine x_iconst hx hb dX8_isDigit_16 ?_
    refine x_retPz hx hb hr (by omega) ?_ dX8_isDigit_17 hlocks
    omega
  · refine lv_iload_n hx hb dX8_isDigit_6 rfl (lv_at hl 0 rfl) ?_
    refine x_bipush (n := 57) hx hb (by decide +kernel) dX8_isDigit_7 ?_
    refine x_icmp_gt (tgt := 16) hx hb (by omega) (by omega) dX8_isDigit_9 (by decide) (fun c_9 => ?_) (fun c_9 => ?_)
    · refine x_iconst hx hb dX8_isDigit_16 ?_
      refine x_retPz hx hb hr (by omega) ?_ dX8_isDigit_17 hlocks
      omega
    · refine x_iconst hx hb dX8_isDigit_12 ?_
      refine lv_goto (tgt := 17) hx hb dX8_isDigit_13 (by decide) ?_
      refine x_retPz hx hb hr (by omega) ?_ dX8_isDigit_17 hlocks
      omega

set_option maxHeartbeats 4000000 in
set_option maxRecDepth 100000 in
theorem c_X8_isLetter (l : Launch) (g : xG) (σ : xS) (v : Int) (hv : inR v) : Met l yX8_isLetter wsX8_isLetter ({ frames := 1, cells := 0, slots := 0, locals := 32 }) (va_Pc [.int (iI (v))] (xPre g σ)) (x_Si (fun r => (r = 1 ∧ zLet v) ∨ (r = 0 ∧ ¬ zLet v))) (0) (0) (fun _ => False) := by
  refine Met.ofW (cc := cX8_isLetter) (maxL := 1) (ret := (some .boolean)) (by decide) rfl ?_
  intro p e s m args below meth c s₁ B hml hv
  obtain ⟨rfl, hP, hK⟩ := hv
  have hx := B.exec
  have hb := B.bytes
  have hr := B.returns
  have hts := atoms_spec (ws := wsX8_isLetter) B.pre
  have hown : s.vm.findClass RX8 = some m.cls := findClass_of_methodNamed B.named
  have hlocks := B.notSynchronized
  have hl := lv_entry ([.int (iI (v))]) (n := 1) (Nat.le_of_ble_eq_true rfl)
  rw [lg_entry_eq]
  generalize (lg_sl ([.int (iI (v))]) ++ List.replicate (1 - (lg_sl ([.int (iI (v))])).length) Slot.unset).toArray = ls at hl ⊢
  have hl : lv_has ls 1 [(0, .int (iI (v)))] := hl
  refine lv_iload_n hx hb dX8_isLetter_0 rfl (lv_at hl 0 rfl) ?_
  refine x_bipush (n := 104) hx hb (by decide +kernel) dX8_isLetter_1 ?_
  refine x_icmp_eq (tgt := 30) hx hb (by omega) (by omega) dX8_isLetter_3 (by decide) (fun c_3 => ?_) (fun c_3 => ?_)
  · refine x_iconst hx hb dX8_isLetter_30 ?_
    refine lv_goto (tgt := 35) hx hb dX8_isLetter_31 (by decide) ?_
    refine x_retPz hx hb hr (by omega) ?_ dX8_isLetter_35 hlocks
    omega
  · refine lv_iload_n hx hb dX8_isLetter_6 rfl (lv_at hl 0 rfl) ?_
    refine x_bipush (n := 114) hx hb (by decide +kernel) dX8_isLetter_7 ?_
    refine x_icmp_eq (tgt := 30) hx hb (by omega) (by omega) dX8_isLetter_9 (by decide) (fun c_9 => ?_) (fun c_9 => ?_)
    · refine x_iconst hx hb dX8_isLetter_30 ?_
      refine lv_goto (tgt := 35) hx hb dX8_isLetter_31 (by decide) ?_
      refine x_retPz hx hb hr (by omega) ?_ dX8_isLetter_35 hlocks
      omega
    · refine lv_iload_n hx hb dX8_isLetter_12 rfl (lv_at hl 0 rfl) ?_
      refine x_bipush (n := 103) hx hb (by decide +kernel) dX8_isLetter_13 ?_
      refine x_icmp_eq (tgt := 30) hx hb (by omega) (by omega) dX8_isLetter_15 (by decide) (fun c_15 => ?_) (fun c_15 => ?_)
      · refine x_iconst hx hb dX8_isLetter_30 ?_
        refine lv_goto (tgt := 35) hx hb dX8_isLetter_31 (by decide) ?_
        refine x_retPz hx hb hr (by omega) ?_ dX8_isLetter_35 hlocks
        omega
      · refine lv_iload_n hx hb dX8_isLetter_18 rfl (lv_at hl 0 rfl) ?_
        refine x_bipush (n := 109) hx hb (by decide +kernel) dX8_isLetter_19 ?_
        refine x_icmp_eq (tgt := 30) hx hb (by omega) (by omega) dX8_isLetter_21 (by decide) (fun c_21 => ?_) (fun c_21 => ?_)
        · refine x_iconst hx hb dX8_isLetter_30 ?_
          refine lv_goto (tgt := 35) hx hb dX8_isLetter_31 (by decide) ?_
          refine x_retPz hx hb hr (by omega) ?_ dX8_isLetter_35 hlocks
          omega
        · refine lv_iload_n hx hb dX8_isLetter_24 rfl (lv_at hl 0 rfl) ?_
          refine x_bipush (n := 117) hx hb (by decide +kernel) dX8_isLetter_25 ?_
          refine x_icmp_ne (tgt := 34) hx hb (by omega) (by omega) dX8_isLetter_27 (by decide) (fun c_27 => ?_) (fun c_27 => ?_)
          · refine x_iconst hx hb dX8_isLetter_34 ?_
            refine x_retPz hx hb hr (by omega) ?_ dX8_isLetter_35 hlocks
            omega
          · refine x_iconst hx hb dX8_isLetter_30 ?_
            refine lv_goto (tgt := 35) hx hb dX8_isLetter_31 (by decide) ?_
            refine x_retPz hx hb hr (by omega) ?_ dX8_isLetter_35 hlocks
            omega

set_option maxHeartbeats 4000000 in
set_option maxRecDepth 100000 in
theorem c_X8_hasNumber (l : Launch) (g : xG) (σ : xS) (v : Int) (hv : inR v) : Met l yX8_hasNumber wsX8_hasNumber ({ frames := 1, cells := 0, slots := 0, locals := 32 }) (va_Pc [.int (iI (v))] (xPre g σ)) (x_Si (fun r => (r = 1 ∧ (v = 104 ∨ v = 103)) ∨ (r = 0 ∧ ¬ (v = 104 ∨ v = 103)))) (0) (0) (fun _ => False) := by
  refine Met.ofW (cc := cX8_hasNumber) (maxL := 1) (ret := (some .boolean)) (by decide) rfl ?_
  intro p e s m args below meth c s₁ B hml hv
  obtain ⟨rfl, hP, hK⟩ := hv
  have hx := B.exec
  have hb := B.bytes
  have hr := B.returns
  have hts := atoms_spec (ws := wsX8_hasNumber) B.pre
  have hown : s.vm.findClass RX8 = some m.cls := findClass_of_methodNamed B.named
  have hlocks := B.notSynchronized
  have hl := lv_entry ([.int (iI (v))]) (n := 1) (Nat.le_of_ble_eq_true rfl)
  rw [lg_entry_eq]
  generalize (lg_sl ([.int (iI (v))]) ++ List.replicate (1 - (lg_sl ([.int (iI (v))])).length) Slot.unset).toArray = ls at hl ⊢
  have hl : lv_has ls 1 [(0, .int (iI (v)))] := hl
  refine lv_iload_n hx hb dX8_hasNumber_0 rfl (lv_at hl 0 rfl) ?_
  refine x_bipush (n := 104) hx hb (by decide +kernel) dX8_hasNumber_1 ?_
  refine x_icmp_eq (tgt := 12) hx hb (by omega) (by omega) dX8_hasNumber_3 (by decide) (fun c_3 => ?_) (fun c_3 => ?_)
  · refine x_iconst hx hb dX8_hasNumber_12 ?_
    refine lv_goto (tgt := 17) hx hb dX8_hasNumber_13 (by decide) ?_
    refine x_retPz hx hb hr (by omega) ?_ dX8_hasNumber_17 hlocks
    omega
  · refine lv_iload_n hx hb dX8_hasNumber_6 rfl (lv_at hl 0 rfl) ?_
    refine x_bipush (n := 103) hx hb (by decide +kernel) dX8_hasNumber_7 ?_
    refine x_icmp_ne (tgt := 16) hx hb (by omega) (by omega) dX8_hasNumber_9 (by decide) (fun c_9 => ?_) (fun c_9 => ?_)
    · refine x_iconst hx hb dX8_hasNumber_16 ?_
      refine x_retPz hx hb hr (by omega) ?_ dX8_hasNumber_17 hlocks
      omega
    · refine x_iconst hx hb dX8_hasNumber_12 ?_
      refine lv_goto (tgt := 17) hx hb dX8_hasNumber_13 (by decide) ?_
      refine x_retPz hx hb hr (by omega) ?_ dX8_hasNumber_17 hlocks
      omega

set_option maxHeartbeats 4000000 in
set_option maxRecDepth 100000 in
theorem c_X8_singleDigits (l : Launch) (g : xG) (σ : xS) (v : Int) (hv : inR v) : Met l yX8_singleDigits wsX8_singleDigits ({ frames := 1, cells := 0, slots := 0, locals := 32 }) (va_Pc [.int (iI (v))] (xPre g σ)) (x_Si (fun r => r = zSd v ∧ 0 ≤ r ∧ r ≤ 2)) (0) (0) (fun _ => False) := by
  refine Met.ofW (cc := cX8_singleDigits) (maxL := 1) (ret := (some .int)) (by decide) rfl ?_
  intro p e s m args below meth c s₁ B hml hv
  obtain ⟨rfl, hP, hK⟩ := hv
  have hx := B.exec
  have hb := B.bytes
  have hr := B.returns
  have hts := atoms_spec (ws := wsX8_singleDigits) B.pre
  have hown : s.vm.findClass RX8 = some m.cls := findClass_of_methodNamed B.named
  have hlocks := B.notSynchronized
  have hl := lv_entry ([.int (iI (v))]) (n := 1) (Nat.le_of_ble_eq_true rfl)
  rw [lg_entry_eq]
  generalize (lg_sl ([.int (iI (v))]) ++ List.replicate (1 - (lg_sl ([.int (iI (v))])).length) Slot.unset).toArray = ls at hl ⊢
  have hl : lv_has ls 1 [(0, .int (iI (v)))] := hl
  refine lv_iload_n hx hb dX8_singleDigits_0 rfl (lv_at hl 0 rfl) ?_
  have c_1 : v = 103 ∨ v = 104 ∨ v = 109 ∨ v = 114 ∨ (v ≠ 103 ∧ v ≠ 104 ∧ v ≠ 109 ∧ v ≠ 114) := by omega
  rcases c_1 with c_1 | c_1 | c_1 | c_1 | c_1
  · refine x_look (z := 103) (off := (43)) (tgt := 44) hx hb c_1 (by decide) dX8_singleDigits_1 (by decide) (by decide +kernel) (by decide) ?_
    refine x_iconst hx hb dX8_singleDigits_44 ?_
    refine x_retP hx hb hr (by omega) ?_ dX8_singleDigits_45 hlocks
    refine ⟨?_, by omega, by omega⟩
    unfold zSd
    repeat first | rw [if_pos (by omega)] | rw [if_neg (by omega)]
  · refine x_look (z := 104) (off := (43)) (tgt := 44) hx hb c_1 (by decide) dX8_singleDigits_1 (by decide) (by decide +kernel) (by decide) ?_
    refine x_iconst hx hb dX8_singleDigits_44 ?_
    refine x_retP hx hb hr (by omega) ?_ dX8_singleDigits_45 hlocks
    refine ⟨?_, by omega, by omega⟩
    unfold zSd
    repeat first | rw [if_pos (by omega)] | rw [if_neg (by omega)]
  · refine x_look (z := 109) (off := (43)) (tgt := 44) hx hb c_1 (by decide) dX8_singleDigits_1 (by decide) (by decide +kernel) (by decide) ?_
    refine x_iconst hx hb dX8_singleDigits_44 ?_
    refine x_retP hx hb hr (by omega) ?_ dX8_singleDigits_45 hlocks
    refine ⟨?_, by omega, by omega⟩
    unfold zSd
    repeat first | rw [if_pos (by omega)] | rw [if_neg (by omega)]
  · refine x_look (z := 114) (off := (45)) (tgt := 46) hx hb c_1 (by decide) dX8_singleDigits_1 (by decide) (by decide +kernel) (by decide) ?_
    refine x_iconst hx hb dX8_singleDigits_46 ?_
    refine x_retP hx hb hr (by omega) ?_ dX8_singleDigits_47 hlocks
    refine ⟨?_, by omega, by omega⟩
    unfold zSd
    repeat first | rw [if_pos (by omega)] | rw [if_neg (by omega)]
  · refine x_lookD (tgt := 48) hx hb (by omega) dX8_singleDigits_1 (by decide) (fun q hq => by simp at hq; rcases hq with rfl | rfl | rfl | rfl <;> (simp only; omega)) (by decide) ?_
    refine x_iconst hx hb dX8_singleDigits_48 ?_
    refine x_retP hx hb hr (by omega) ?_ dX8_singleDigits_49 hlocks
    refine ⟨?_, by omega, by omega⟩
    unfold zSd
    repeat first | rw [if_pos (by omega)] | rw [if_neg (by omega)]

set_option maxHeartbeats 4000000 in
set_option maxRecDepth 100000 in
theorem c_X8_fewestDigits (l : Launch) (g : xG) (σ : xS) (v : Int) (hv : inR v) : Met l yX8_fewestDigits wsX8_fewestDigits ({ frames := 2, cells := 0, slots := 0, locals := 64 }) (va_Pc [.int (iI (v))] (xPre g σ)) (x_Si (fun r => r = zFs v ∧ 0 ≤ r ∧ r ≤ 3)) (0) (0) (fun _ => False) := by
  refine Met.ofW (cc := cX8_fewestDigits) (maxL := 1) (ret := (some .int)) (by decide) rfl ?_
  intro p e s m args below meth c s₁ B hml hv
  obtain ⟨rfl, hP, hK⟩ := hv
  have hx := B.exec
  have hb := B.bytes
  have hr := B.returns
  have hts := atoms_spec (ws := wsX8_fewestDigits) B.pre
  have hown : s.vm.findClass RX8 = some m.cls := findClass_of_methodNamed B.named
  have hlocks := B.notSynchronized
  have hl := lv_entry ([.int (iI (v))]) (n := 1) (Nat.le_of_ble_eq_true rfl)
  rw [lg_entry_eq]
  generalize (lg_sl ([.int (iI (v))]) ++ List.replicate (1 - (lg_sl ([.int (iI (v))])).length) Slot.unset).toArray = ls at hl ⊢
  have hl : lv_has ls 1 [(0, .int (iI (v)))] := hl
  refine lv_iload_n hx hb dX8_fewestDigits_0 rfl (lv_at hl 0 rfl) ?_
  refine x_ci (va_runS (As := [.int (iI (v))]) (rest := []) ⟨hx, hb, hml, hown, hts⟩ (c_X8_hasNumber l g σ (v) (by omega)) (va_cwS 1 hts gX8_fewestDigits_X8_hasNumber rfl rfl rfl (by decide +kernel) ⟨Nat.le_of_ble_eq_true rfl, Nat.le_of_ble_eq_true rfl⟩) (x_preS hK hP) rfl rfl hl.1 rfl (lv_room (Nat.le_of_ble_eq_true rfl)) dX8_fewestDigits_1 ⟨Nat.le_of_ble_eq_true rfl, Nat.le_of_ble_eq_true rfl⟩) (fun r_1 hr_1 qr_1 => ?_)
  replace qr_1 : (r_1 = 1 ∧ ((v) = 104 ∨ (v) = 103)) ∨ (r_1 = 0 ∧ ¬ ((v) = 104 ∨ (v) = 103)) := qr_1
  refine x_if_eq (tgt := 16) hx hb (by omega) dX8_fewestDigits_4 (by decide) (fun c_4 => ?_) (fun c_4 => ?_)
  · refine lv_iload_n hx hb dX8_fewestDigits_16 rfl (lv_at hl 0 rfl) ?_
    refine x_ci (va_runS (As := [.int (iI (v))]) (rest := []) ⟨hx, hb, hml, hown, hts⟩ (c_X8_singleDigits l g σ (v) (by omega)) (va_cwS 1 hts gX8_fewestDigits_X8_singleDigits rfl rfl rfl (by decide +kernel) ⟨Nat.le_of_ble_eq_true rfl, Nat.le_of_ble_eq_true rfl⟩) (x_preS hK hP) rfl rfl hl.1 rfl (lv_room (Nat.le_of_ble_eq_true rfl)) dX8_fewestDigits_17 ⟨Nat.le_of_ble_eq_true rfl, Nat.le_of_ble_eq_true rfl⟩) (fun r_17 hr_17 qr_17 => ?_)
    replace qr_17 : r_17 = zSd (v) ∧ 0 ≤ r_17 ∧ r_17 ≤ 2 := qr_17
    refine x_retP hx hb hr (by omega) ?_ dX8_fewestDigits_20 hlocks
    refine ⟨?_, by omega, by omega⟩
    rw [qr_17.1]
    unfold zSd zFs
    (repeat' split) <;> omega
  · refine lv_iload_n hx hb dX8_fewestDigits_7 rfl (lv_at hl 0 rfl) ?_
    refine x_ci (va_runS (As := [.int (iI (v))]) (rest := []) ⟨hx, hb, hml, hown, hts⟩ (c_X8_singleDigits l g σ (v) (by omega)) (va_cwS 1 hts gX8_fewestDigits_X8_singleDigits rfl rfl rfl (by decide +kernel) ⟨Nat.le_of_ble_eq_true rfl, Nat.le_of_ble_eq_true rfl⟩) (x_preS hK hP) rfl rfl hl.1 rfl (lv_room (Nat.le_of_ble_eq_true rfl)) dX8_fewestDigits_8 ⟨Nat.le_of_ble_eq_true rfl, Nat.le_of_ble_eq_true rfl⟩) (fun r_8 hr_8 qr_8 => ?_)
    replace qr_8 : r_8 = zSd (v) ∧ 0 ≤ r_8 ∧ r_8 ≤ 2 := qr_8
    refine x_iconst hx hb dX8_fewestDigits_11 ?_
    refine x_iadd hx hb dX8_fewestDigits_12 ?_
    refine lv_goto (tgt := 20) hx hb dX8_fewestDigits_13 (by decide) ?_
    refine x_retP hx hb hr (by omega) ?_ dX8_fewestDigits_20 hlocks
    refine ⟨?_, by omega, by omega⟩
    rw [qr_8.1]
    unfold zSd zFs
    (repeat' split) <;> omega

set_option maxHeartbeats 4000000 in
set_option maxRecDepth 100000 in
theorem c_X8_byteAt (l : Launch) (g : xG) (σ : xS) (bi : Nat) (hbi : bi < xN) (sz dn : Int) (ht0 : TObj g σ.1 bi sz dn) (Bf : Int → Int) (hbf : MArr g σ.1 bi 100 Bf) (hsz : 0 ≤ sz ∧ sz ≤ 100) (hBr : ∀ k, inR (Bf k)) (w9 : Int) (hp : inR w9) : Met l yX8_byteAt wsX8_byteAt ({ frames := 1, cells := 0, slots := 0, locals := 32 }) (va_Pc [.ref (g.2.2 23), .int (iI (w9))] (xPre g σ)) (x_Si (fun r => r = zCc Bf sz w9)) (0) (0) (fun _ => False) := by
  refine Met.ofW (cc := cX8_byteAt) (maxL := 2) (ret := (some .int)) (by decide) rfl ?_
  intro p e s m args below meth c s₁ B hml hv
  obtain ⟨rfl, hP, hK⟩ := hv
  have hx := B.exec
  have hb := B.bytes
  have hr := B.returns
  have hts := atoms_spec (ws := wsX8_byteAt) B.pre
  have hown : s.vm.findClass RX8 = some m.cls := findClass_of_methodNamed B.named
  have hlocks := B.notSynchronized
  have hl := lv_entry ([.ref (g.2.2 23), .int (iI (w9))]) (n := 2) (Nat.le_of_ble_eq_true rfl)
  rw [lg_entry_eq]
  generalize (lg_sl ([.ref (g.2.2 23), .int (iI (w9))]) ++ List.replicate (2 - (lg_sl ([.ref (g.2.2 23), .int (iI (w9))])).length) Slot.unset).toArray = ls at hl ⊢
  have hl : lv_has ls 2 [(0, .ref (g.2.2 23)), (1, .int (iI (w9)))] := hl
  have hw_0 := hts (.fieldLink RX8 21 "TwiceAsRich$StreetText" "size" "I") (by decide +kernel)
  have hin_X8 : ∀ w ∈ wsX80, w ∈ wsX8_byteAt := by decide +kernel
  have hw_2 := hts (.fieldLink RX8 9 "TwiceAsRich$StreetText" "bytes" "[I") (by decide +kernel)
  refine lv_iload_n hx hb dX8_byteAt_0 rfl (lv_at hl 1 rfl) ?_
  refine x_if_lt (tgt := 21) hx hb (by omega) dX8_byteAt_1 (by decide) (fun c_1 => ?_) (fun c_1 => ?_)
  · refine x_iconst hx hb dX8_byteAt_21 ?_
    refine x_retP hx hb hr (by omega) ?_ dX8_byteAt_22 hlocks
    unfold zCc
    repeat first | rw [if_pos (by omega)] | rw [if_neg (by omega)]
  · refine lv_iload_n hx hb dX8_byteAt_4 rfl (lv_at hl 1 rfl) ?_
    refine lv_aload_n hx hb dX8_byteAt_5 rfl (lv_at hl 0 rfl) ?_
    refine x_get (C := RX8) (T := TX8) (N := 3) hx hb hts hin_X8 hown hK hP (23) (by decide) ht0 rfl 1 (by decide) hw_0 (fun _ h9 => h9) rfl dX8_byteAt_6 ?_
    refine x_icmp_ge (tgt := 21) hx hb (by omega) (by omega) dX8_byteAt_9 (by decide) (fun c_9 => ?_) (fun c_9 => ?_)
    · refine x_iconst hx hb dX8_byteAt_21 ?_
      refine x_retP hx hb hr (by omega) ?_ dX8_byteAt_22 hlocks
      unfold zCc
      repeat first | rw [if_pos (by omega)] | rw [if_neg (by omega)]
    · refine lv_aload_n hx hb dX8_byteAt_12 rfl (lv_at hl 0 rfl) ?_
      refine x_get (C := RX8) (T := TX8) (N := 3) hx hb hts hin_X8 hown hK hP (23) (by decide) ht0 rfl 0 (by decide) hw_2 (fun _ h9 => h9) rfl dX8_byteAt_13 ?_
      refine lv_iload_n hx hb dX8_byteAt_16 rfl (lv_at hl 1 rfl) ?_
      refine x_iald (f := Bf) hx hb hK hP (bi) (by omega) hbf (by omega) (by omega) (by decide) dX8_byteAt_17 ?_
      have hb_1 := hBr (w9)
      refine lv_goto (tgt := 22) hx hb dX8_byteAt_18 (by decide) ?_
      refine x_retP hx hb hr (by omega) ?_ dX8_byteAt_22 hlocks
      unfold zCc
      repeat first | rw [if_pos (by omega)] | rw [if_neg (by omega)]

set_option maxHeartbeats 4000000 in
set_option maxRecDepth 100000 in
theorem c_X8_digitAt (l : Launch) (g : xG) (σ : xS) (bi : Nat) (hbi : bi < xN) (sz dn : Int) (ht0 : TObj g σ.1 bi sz dn) (Bf : Int → Int) (hbf : MArr g σ.1 bi 100 Bf) (hsz : 0 ≤ sz ∧ sz ≤ 100) (hBr : ∀ k, inR (Bf k)) (w9 : Int) (hp : inR w9) : Met l yX8_digitAt wsX8_digitAt ({ frames := 2, cells := 0, slots := 0, locals := 64 }) (va_Pc [.ref (g.2.2 23), .int (iI (w9))] (xPre g σ)) (x_Si (fun r => inR (zCc Bf sz w9 - 48) → r = zCc Bf sz w9 - 48)) (0) (0) (fun _ => False) := by
  refine Met.ofW (cc := cX8_digitAt) (maxL := 2) (ret := (some .int)) (by decide) rfl ?_
  intro p e s m args below meth c s₁ B hml hv
  obtain ⟨rfl, hP, hK⟩ := hv
  have hx := B.exec
  have hb := B.bytes
  have hr := B.returns
  have hts := atoms_spec (ws := wsX8_digitAt) B.pre
  have hown : s.vm.findClass RX8 = some m.cls := findClass_of_methodNamed B.named
  have hlocks := B.notSynchronized
  have hl := lv_entry ([.ref (g.2.2 23), .int (iI (w9))]) (n := 2) (Nat.le_of_ble_eq_true rfl)
  rw [lg_entry_eq]
  generalize (lg_sl ([.ref (g.2.2 23), .int (iI (w9))]) ++ List.replicate (2 - (lg_sl ([.ref (g.2.2 23), .int (iI (w9))])).length) Slot.unset).toArray = ls at hl ⊢
  have hl : lv_has ls 2 [(0, .ref (g.2.2 23)), (1, .int (iI (w9)))] := hl
  refine lv_aload_n hx hb dX8_digitAt_0 rfl (lv_at hl 0 rfl) ?_
  refine lv_iload_n hx hb dX8_digitAt_1 rfl (lv_at hl 1 rfl) ?_
  refine x_ci (va_runV (As := [.int (iI (w9))]) (rest := []) ⟨hx, hb, hml, hown, hts⟩ (c_X8_byteAt l g σ bi hbi (sz) (dn) ht0 Bf hbf hsz hBr (w9) (by omega)) (cwV 1 hts gX8_digitAt_X8_byteAt rfl rfl rfl (by decide +kernel) ⟨Nat.le_of_ble_eq_true rfl, Nat.le_of_ble_eq_true rfl⟩) (x_preV hK hP (x_recv hK hP (i := 23) (by decide) ht0 rfl)) rfl rfl hl.1 rfl (lv_room (Nat.le_of_ble_eq_true rfl)) dX8_digitAt_2 ⟨Nat.le_of_ble_eq_true rfl, Nat.le_of_ble_eq_true rfl⟩) (fun r_2 hr_2 qr_2 => ?_)
  replace qr_2 : r_2 = zCc Bf sz (w9) := qr_2
  refine x_bipush (n := 48) hx hb (by decide +kernel) dX8_digitAt_5 ?_
  refine x_isub hx hb dX8_digitAt_7 ?_
  rw [← iI_wr (r_2 - 48)]
  have hwr := iWrap_rng (r_2 - 48)
  refine x_retP hx hb hr (by omega) ?_ dX8_digitAt_8 hlocks
  intro hq
  rw [← qr_2] at hq ⊢
  exact iI_toInt hq

set_option maxHeartbeats 4000000 in
set_option maxRecDepth 100000 in
theorem c_X8_endOf (l : Launch) (g : xG) (σ : xS) (bi : Nat) (hbi : bi < xN) (sz dn : Int) (ht0 : TObj g σ.1 bi sz dn) (Bf : Int → Int) (hbf : MArr g σ.1 bi 100 Bf) (hsz : 0 ≤ sz ∧ sz ≤ 100) (hBr : ∀ k, inR (Bf k)) (w9 : Int) (hp : 0 ≤ w9 ∧ w9 ≤ 400) : Met l yX8_endOf wsX8_endOf ({ frames := 2, cells := 0, slots := 0, locals := 64 }) (va_Pc [.ref (g.2.2 23), .int (iI (w9))] (xPre g σ)) (x_Si (fun r => r = zEnd (zCc Bf sz) w9 ∧ w9 ≤ r ∧ r ≤ w9 + 7)) (0) (0) (fun _ => False) := by
  refine Met.ofW (cc := cX8_endOf) (maxL := 5) (ret := (some .int)) (by decide) rfl ?_
  intro p e s m args below meth c s₁ B hml hv
  obtain ⟨rfl, hP, hK⟩ := hv
  have hx := B.exec
  have hb := B.bytes
  have hr := B.returns
  have hts := atoms_spec (ws := wsX8_endOf) B.pre
  have hown : s.vm.findClass RX8 = some m.cls := findClass_of_methodNamed B.named
  have hlocks := B.notSynchronized
  have hl := lv_entry ([.ref (g.2.2 23), .int (iI (w9))]) (n := 5) (Nat.le_of_ble_eq_true rfl)
  rw [lg_entry_eq]
  generalize (lg_sl ([.ref (g.2.2 23), .int (iI (w9))]) ++ List.replicate (5 - (lg_sl ([.ref (g.2.2 23), .int (iI (w9))])).length) Slot.unset).toArray = ls at hl ⊢
  have hl : lv_has ls 5 [(0, .ref (g.2.2 23)), (1, .int (iI (w9)))] := hl
  refine lv_aload_n hx hb dX8_endOf_0 rfl (lv_at hl 0 rfl) ?_
  refine lv_iload_n hx hb dX8_endOf_1 rfl (lv_at hl 1 rfl) ?_
  refine x_ci (va_runV (As := [.int (iI (w9))]) (rest := []) ⟨hx, hb, hml, hown, hts⟩ (c_X8_byteAt l g σ bi hbi (sz) (dn) ht0 Bf hbf hsz hBr (w9) (by omega)) (cwV 1 hts gX8_endOf_X8_byteAt rfl rfl rfl (by decide +kernel) ⟨Nat.le_of_ble_eq_true rfl, Nat.le_of_ble_eq_true rfl⟩) (x_preV hK hP (x_recv hK hP (i := 23) (by decide) ht0 rfl)) rfl rfl hl.1 rfl (lv_room (Nat.le_of_ble_eq_true rfl)) dX8_endOf_2 ⟨Nat.le_of_ble_eq_true rfl, Nat.le_of_ble_eq_true rfl⟩) (fun r_2 hr_2 qr_2 => ?_)
  replace qr_2 : r_2 = zCc Bf sz (w9) := qr_2
  refine lv_istore_n (lv' := [(2, .int (iI (r_2))), (0, .ref (g.2.2 23)), (1, .int (iI (w9)))]) hx hb dX8_endOf_5 rfl hl (by decide) rfl (fun ls hl => ?_)
  refine lv_iload_n hx hb dX8_endOf_6 rfl (lv_at hl 0 rfl) ?_
  refine x_ci (va_runS (As := [.int (iI (r_2))]) (rest := []) ⟨hx, hb, hml, hown, hts⟩ (c_X8_isLetter l g σ (r_2) (by omega)) (va_cwS 1 hts gX8_endOf_X8_isLetter rfl rfl rfl (by decide +kernel) ⟨Nat.le_of_ble_eq_true rfl, Nat.le_of_ble_eq_true rfl⟩) (x_preS hK hP) rfl rfl hl.1 rfl (lv_room (Nat.le_of_ble_eq_true rfl)) dX8_endOf_7 ⟨Nat.le_of_ble_eq_true rfl, Nat.le_of_ble_eq_true rfl⟩) (fun r_7 hr_7 qr_7 => ?_)
  replace qr_7 : (r_7 = 1 ∧ zLet (r_2)) ∨ (r_7 = 0 ∧ ¬ zLet (r_2)) := qr_7
  refine x_if_ne (tgt := 15) hx hb (by omega) dX8_endOf_10 (by decide) (fun c_10 => ?_) (fun c_10 => ?_)
  · refine lv_iload_n hx hb dX8_endOf_15 rfl (lv_at hl 0 rfl) ?_
    refine x_ci (va_runS (As := [.int (iI (r_2))]) (rest := []) ⟨hx, hb, hml, hown, hts⟩ (c_X8_hasNumber l g σ (r_2) (by omega)) (va_cwS 1 hts gX8_endOf_X8_hasNumber rfl rfl rfl (by decide +kernel) ⟨Nat.le_of_ble_eq_true rfl, Nat.le_of_ble_eq_true rfl⟩) (x_preS hK hP) rfl rfl hl.1 rfl (lv_room (Nat.le_of_ble_eq_true rfl)) dX8_endOf_16 ⟨Nat.le_of_ble_eq_true rfl, Nat.le_of_ble_eq_true rfl⟩) (fun r_16 hr_16 qr_16 => ?_)
    replace qr_16 : (r_16 = 1 ∧ ((r_2) = 104 ∨ (r_2) = 103)) ∨ (r_16 = 0 ∧ ¬ ((r_2) = 104 ∨ (r_2) = 103)) := qr_16
    refine x_if_eq (tgt := 31) hx hb (by omega) dX8_endOf_19 (by decide) (fun c_19 => ?_) (fun c_19 => ?_)
    · refine lv_iload_n hx hb dX8_endOf_31 rfl (lv_at hl 0 rfl) ?_
      refine x_ci (va_runS (As := [.int (iI (r_2))]) (rest := []) ⟨hx, hb, hml, hown, hts⟩ (c_X8_singleDigits l g σ (r_2) (by omega)) (va_cwS 1 hts gX8_endOf_X8_singleDigits rfl rfl rfl (by decide +kernel) ⟨Nat.le_of_ble_eq_true rfl, Nat.le_of_ble_eq_true rfl⟩) (x_preS hK hP) rfl rfl hl.1 rfl (lv_room (Nat.le_of_ble_eq_true rfl)) dX8_endOf_32 ⟨Nat.le_of_ble_eq_true rfl, Nat.le_of_ble_eq_true rfl⟩) (fun r_32 hr_32 qr_32 => ?_)
      replace qr_32 : r_32 = zSd (r_2) ∧ 0 ≤ r_32 ∧ r_32 ≤ 2 := qr_32
      refine lv_istore_n (lv' := [(3, .int (iI (r_32))), (2, .int (iI (r_2))), (0, .ref (g.2.2 23)), (1, .int (iI (w9)))]) hx hb dX8_endOf_35 rfl hl (by decide) rfl (fun ls hl => ?_)
      have hM : (r_32) = ((zMx (zCc Bf sz w9) : Nat) : Int) := by ((first | rw [qr_23.1] | rw [qr_32.1]); unfold zMx zSd; (repeat' split) <;> omega)
      have hM6 : (r_32) ≤ 6 := by (rw [hM]; unfold zMx; (repeat' split) <;> omega)
      refine x_iconst hx hb dX8_endOf_36 ?_
      refine lv_istore (lv' := [(4, .int (iI (0))), (3, .int (iI (r_32))), (2, .int (iI (r_2))), (0, .ref (g.2.2 23)), (1, .int (iI (w9)))]) hx hb dX8_endOf_37 hl (by decide) rfl (fun ls hl => ?_)
      have hloop_39 : ∀ (k : Nat) (j : Int), (((zMx (zCc Bf sz w9) : Nat) : Int) - j).toNat < k → (hj0 : 0 ≤ j) → (hj1 : j ≤ ((zMx (zCc Bf sz w9) : Nat) : Int)) → (hc : zCnt (zCc Bf sz) (w9 + 1) (zMx (zCc Bf sz w9)) = j + zCnt (zCc Bf sz) (w9 + 1 + j) (zMx (zCc Bf sz w9) - j.toNat)) → ∀ (ls : Array Slot), lv_has ls 5 [(4, .int (iI (j))), (3, .int (iI (r_32))), (2, .int (iI (r_2))), (0, .ref (g.2.2 23)), (1, .int (iI (w9)))] → W p l e (headSpec wsX8_endOf ({ frames := 2, cells := 0, slots := 0, locals := 64 })).room s m ([.ref (g.2.2 23), .int (iI (w9))] : List Value).toArray below meth c s.heap [] 0 0 (MQ below (x_Si (fun r => r = zEnd (zCc Bf sz) w9 ∧ w9 ≤ r ∧ r ≤ w9 + 7)) ([.ref (g.2.2 23), .int (iI (w9))] : List Value).toArray s (0) (0) (fun _ => False)) (F0 m 39 ls []) := by
        intro k
        induction k with
        | zero =>
          intros; exact absurd (by assumption) (Nat.not_lt_zero _)
        | succ k ih =>
          intro j hmeas hj0 hj1 hc  ls hl
          have ih_1 := ih
          refine lv_iload hx hb dX8_endOf_39 (lv_at hl 0 rfl) ?_
          refine lv_iload_n hx hb dX8_endOf_41 rfl (lv_at hl 1 rfl) ?_
          refine x_icmp_ge (tgt := 67) hx hb (by omega) (by omega) dX8_endOf_42 (by decide) (fun c_42 => ?_) (fun c_42 => ?_)
          · refine lv_iload_n hx hb dX8_endOf_67 rfl (lv_at hl 4 rfl) ?_
            refine x_iconst hx hb dX8_endOf_68 ?_
            refine x_iadd hx hb dX8_endOf_69 ?_
            refine lv_iload hx hb dX8_endOf_70 (lv_at hl 0 rfl) ?_
            refine x_iadd hx hb dX8_endOf_72 ?_
            refine x_retP hx hb hr (by omega) ?_ dX8_endOf_73 hlocks
            refine ⟨?_, by omega, by omega⟩
            unfold zEnd; rw [if_pos (by omega)]
            first | rw [zCw_e hc (by omega)] | rw [zCw_n hc (by omega)]
          · refine lv_aload_n hx hb dX8_endOf_45 rfl (lv_at hl 3 rfl) ?_
            refine lv_iload_n hx hb dX8_endOf_46 rfl (lv_at hl 4 rfl) ?_
            refine x_iconst hx hb dX8_endOf_47 ?_
            refine x_iadd hx hb dX8_endOf_48 ?_
            refine lv_iload hx hb dX8_endOf_49 (lv_at hl 0 rfl) ?_
            refine x_iadd hx hb dX8_endOf_51 ?_
            refine x_ci (va_runV (As := [.int (iI ((w9 + 1) + j))]) (rest := []) ⟨hx, hb, hml, hown, hts⟩ (c_X8_byteAt l g σ bi hbi (sz) (dn) ht0 Bf hbf hsz hBr ((w9 + 1) + j) (by omega)) (cwV 1 hts gX8_endOf_X8_byteAt rfl rfl rfl (by decide +kernel) ⟨Nat.le_of_ble_eq_true rfl, Nat.le_of_ble_eq_true rfl⟩) (x_preV hK hP (x_recv hK hP (i := 23) (by decide) ht0 rfl)) rfl rfl hl.1 rfl (lv_room (Nat.le_of_ble_eq_true rfl)) dX8_endOf_52 ⟨Nat.le_of_ble_eq_true rfl, Nat.le_of_ble_eq_true rfl⟩) (fun r_52 hr_52 qr_52 => ?_)
            replace qr_52 : r_52 = zCc Bf sz ((w9 + 1) + j) := qr_52
            refine x_ci (va_runS (As := [.int (iI (r_52))]) (rest := []) ⟨hx, hb, hml, hown, hts⟩ (c_X8_isDigit l g σ (r_52) (by omega)) (va_cwS 1 hts gX8_endOf_X8_isDigit rfl rfl rfl (by decide +kernel) ⟨Nat.le_of_ble_eq_true rfl, Nat.le_of_ble_eq_true rfl⟩) (x_preS hK hP) rfl rfl hl.1 rfl (lv_room (Nat.le_of_ble_eq_true rfl)) dX8_endOf_55 ⟨Nat.le_of_ble_eq_true rfl, Nat.le_of_ble_eq_true rfl⟩) (fun r_55 hr_55 qr_55 => ?_)
            replace qr_55 : (r_55 = 1 ∧ 48 ≤ (r_52) ∧ (r_52) ≤ 57) ∨ (r_55 = 0 ∧ ¬ (48 ≤ (r_52) ∧ (r_52) ≤ 57)) := qr_55
            refine x_if_eq (tgt := 67) hx hb (by omega) dX8_endOf_58 (by decide) (fun c_58 => ?_) (fun c_58 => ?_)
            · refine lv_iload_n hx hb dX8_endOf_67 rfl (lv_at hl 4 rfl) ?_
              refine x_iconst hx hb dX8_endOf_68 ?_
              refine x_iadd hx hb dX8_endOf_69 ?_
              refine lv_iload hx hb dX8_endOf_70 (lv_at hl 0 rfl) ?_
              refine x_iadd hx hb dX8_endOf_72 ?_
              refine x_retP hx hb hr (by omega) ?_ dX8_endOf_73 hlocks
              refine ⟨?_, by omega, by omega⟩
              unfold zEnd; rw [if_pos (by omega)]
              first | rw [zCw_e hc (by omega)] | rw [zCw_n hc (by omega)]
            · refine x_iinc (k0 := 0) (lv' := [(4, .int (iI (j + 1))), (3, .int (iI (r_32))), (2, .int (iI (r_2))), (0, .ref (g.2.2 23)), (1, .int (iI (w9)))]) hx hb dX8_endOf_61 hl rfl (by decide) rfl (fun ls hl => ?_)
              refine lv_goto (tgt := 39) hx hb dX8_endOf_64 (by decide) ?_
              exact ih_1 (j + 1) (by omega) (by omega) (by omega) (by exact zCw_y hc hj0 (by omega) (by omega)) ls (lv_sub hl [0, 1, 2, 3, 4] rfl)
      exact hloop_39 (((((zMx (zCc Bf sz w9) : Nat) : Int) - (0)).toNat) + 1) (0) (by omega) (by omega) (by omega) (by exact zCw_0) ls (lv_sub hl [0, 1, 2, 3, 4] rfl)
    · refine lv_iload_n hx hb dX8_endOf_22 rfl (lv_at hl 0 rfl) ?_
      refine x_ci (va_runS (As := [.int (iI (r_2))]) (rest := []) ⟨hx, hb, hml, hown, hts⟩ (c_X8_singleDigits l g σ (r_2) (by omega)) (va_cwS 1 hts gX8_endOf_X8_singleDigits rfl rfl rfl (by decide +kernel) ⟨Nat.le_of_ble_eq_true rfl, Nat.le_of_ble_eq_true rfl⟩) (x_preS hK hP) rfl rfl hl.1 rfl (lv_room (Nat.le_of_ble_eq_true rfl)) dX8_endOf_23 ⟨Nat.le_of_ble_eq_true rfl, Nat.le_of_ble_eq_true rfl⟩) (fun r_23 hr_23 qr_23 => ?_)
      replace qr_23 : r_23 = zSd (r_2) ∧ 0 ≤ r_23 ∧ r_23 ≤ 2 := qr_23
      refine x_iconst hx hb dX8_endOf_26 ?_
      refine x_iadd hx hb dX8_endOf_27 ?_
      refine lv_goto (tgt := 35) hx hb dX8_endOf_28 (by decide) ?_
      refine lv_istore_n (lv' := [(3, .int (iI (r_23 + 4))), (2, .int (iI (r_2))), (0, .ref (g.2.2 23)), (1, .int (iI (w9)))]) hx hb dX8_endOf_35 rfl hl (by decide) rfl (fun ls hl => ?_)
      have hM : (r_23 + 4) = ((zMx (zCc Bf sz w9) : Nat) : Int) := by ((first | rw [qr_23.1] | rw [qr_32.1]); unfold zMx zSd; (repeat' split) <;> omega)
      have hM6 : (r_23 + 4) ≤ 6 := by (rw [hM]; unfold zMx; (repeat' split) <;> omega)
      refine x_iconst hx hb dX8_endOf_36 ?_
      refine lv_istore (lv' := [(4, .int (iI (0))), (3, .int (iI (r_23 + 4))), (2, .int (iI (r_2))), (0, .ref (g.2.2 23)), (1, .int (iI (w9)))]) hx hb dX8_endOf_37 hl (by decide) rfl (fun ls hl => ?_)
      have hloop_39 : ∀ (k : Nat) (j : Int), (((zMx (zCc Bf sz w9) : Nat) : Int) - j).toNat < k → (hj0 : 0 ≤ j) → (hj1 : j ≤ ((zMx (zCc Bf sz w9) : Nat) : Int)) → (hc : zCnt (zCc Bf sz) (w9 + 1) (zMx (zCc Bf sz w9)) = j + zCnt (zCc Bf sz) (w9 + 1 + j) (zMx (zCc Bf sz w9) - j.toNat)) → ∀ (ls : Array Slot), lv_has ls 5 [(4, .int (iI (j))), (3, .int (iI (r_23 + 4))), (2, .int (iI (r_2))), (0, .ref (g.2.2 23)), (1, .int (iI (w9)))] → W p l e (headSpec wsX8_endOf ({ frames := 2, cells := 0, slots := 0, locals := 64 })).room s m ([.ref (g.2.2 23), .int (iI (w9))] : List Value).toArray below meth c s.heap [] 0 0 (MQ below (x_Si (fun r => r = zEnd (zCc Bf sz) w9 ∧ w9 ≤ r ∧ r ≤ w9 + 7)) ([.ref (g.2.2 23), .int (iI (w9))] : List Value).toArray s (0) (0) (fun _ => False)) (F0 m 39 ls []) := by
        intro k
        induction k with
        | zero =>
          intros; exact absurd (by assumption) (Nat.not_lt_zero _)
        | succ k ih =>
          intro j hmeas hj0 hj1 hc  ls hl
          have ih_2 := ih
          refine lv_iload hx hb dX8_endOf_39 (lv_at hl 0 rfl) ?_
          refine lv_iload_n hx hb dX8_endOf_41 rfl (lv_at hl 1 rfl) ?_
          refine x_icmp_ge (tgt := 67) hx hb (by omega) (by omega) dX8_endOf_42 (by decide) (fun c_42 => ?_) (fun c_42 => ?_)
          · refine lv_iload_n hx hb dX8_endOf_67 rfl (lv_at hl 4 rfl) ?_
            refine x_iconst hx hb dX8_endOf_68 ?_
            refine x_iadd hx hb dX8_endOf_69 ?_
            refine lv_iload hx hb dX8_endOf_70 (lv_at hl 0 rfl) ?_
            refine x_iadd hx hb dX8_endOf_72 ?_
            refine x_retP hx hb hr (by omega) ?_ dX8_endOf_73 hlocks
            refine ⟨?_, by omega, by omega⟩
            unfold zEnd; rw [if_pos (by omega)]
            first | rw [zCw_e hc (by omega)] | rw [zCw_n hc (by omega)]
          · refine lv_aload_n hx hb dX8_endOf_45 rfl (lv_at hl 3 rfl) ?_
            refine lv_iload_n hx hb dX8_endOf_46 rfl (lv_at hl 4 rfl) ?_
            refine x_iconst hx hb dX8_endOf_47 ?_
            refine x_iadd hx hb dX8_endOf_48 ?_
            refine lv_iload hx hb dX8_endOf_49 (lv_at hl 0 rfl) ?_
            refine x_iadd hx hb dX8_endOf_51 ?_
            refine x_ci (va_runV (As := [.int (iI ((w9 + 1) + j))]) (rest := []) ⟨hx, hb, hml, hown, hts⟩ (c_X8_byteAt l g σ bi hbi (sz) (dn) ht0 Bf hbf hsz hBr ((w9 + 1) + j) (by omega)) (cwV 1 hts gX8_endOf_X8_byteAt rfl rfl rfl (by decide +kernel) ⟨Nat.le_of_ble_eq_true rfl, Nat.le_of_ble_eq_true rfl⟩) (x_preV hK hP (x_recv hK hP (i := 23) (by decide) ht0 rfl)) rfl rfl hl.1 rfl (lv_room (Nat.le_of_ble_eq_true rfl)) dX8_endOf_52 ⟨Nat.le_of_ble_eq_true rfl, Nat.le_of_ble_eq_true rfl⟩) (fun r_52 hr_52 qr_52 => ?_)
            replace qr_52 : r_52 = zCc Bf sz ((w9 + 1) + j) := qr_52
            refine x_ci (va_runS (As := [.int (iI (r_52))]) (rest := []) ⟨hx, hb, hml, hown, hts⟩ (c_X8_isDigit l g σ (r_52) (by omega)) (va_cwS 1 hts gX8_endOf_X8_isDigit rfl rfl rfl (by decide +kernel) ⟨Nat.le_of_ble_eq_true rfl, Nat.le_of_ble_eq_true rfl⟩) (x_preS hK hP) rfl rfl hl.1 rfl (lv_room (Nat.le_of_ble_eq_true rfl)) dX8_endOf_55 ⟨Nat.le_of_ble_eq_true rfl, Nat.le_of_ble_eq_true rfl⟩) (fun r_55 hr_55 qr_55 => ?_)
            replace qr_55 : (r_55 = 1 ∧ 48 ≤ (r_52) ∧ (r_52) ≤ 57) ∨ (r_55 = 0 ∧ ¬ (48 ≤ (r_52) ∧ (r_52) ≤ 57)) := qr_55
            refine x_if_eq (tgt := 67) hx hb (by omega) dX8_endOf_58 (by decide) (fun c_58 => ?_) (fun c_58 => ?_)
            · refine lv_iload_n hx hb dX8_endOf_67 rfl (lv_at hl 4 rfl) ?_
              refine x_iconst hx hb dX8_endOf_68 ?_
              refine x_iadd hx hb dX8_endOf_69 ?_
              refine lv_iload hx hb dX8_endOf_70 (lv_at hl 0 rfl) ?_
              refine x_iadd hx hb dX8_endOf_72 ?_
              refine x_retP hx hb hr (by omega) ?_ dX8_endOf_73 hlocks
              refine ⟨?_, by omega, by omega⟩
              unfold zEnd; rw [if_pos (by omega)]
              first | rw [zCw_e hc (by omega)] | rw [zCw_n hc (by omega)]
            · refine x_iinc (k0 := 0) (lv' := [(4, .int (iI (j + 1))), (3, .int (iI (r_23 + 4))), (2, .int (iI (r_2))), (0, .ref (g.2.2 23)), (1, .int (iI (w9)))]) hx hb dX8_endOf_61 hl rfl (by decide) rfl (fun ls hl => ?_)
              refine lv_goto (tgt := 39) hx hb dX8_endOf_64 (by decide) ?_
              exact ih_2 (j + 1) (by omega) (by omega) (by omega) (by exact zCw_y hc hj0 (by omega) (by omega)) ls (lv_sub hl [0, 1, 2, 3, 4] rfl)
      exact hloop_39 (((((zMx (zCc Bf sz w9) : Nat) : Int) - (0)).toNat) + 1) (0) (by omega) (by omega) (by omega) (by exact zCw_0) ls (lv_sub hl [0, 1, 2, 3, 4] rfl)
  · refine lv_iload_n hx hb dX8_endOf_13 rfl (lv_at hl 2 rfl) ?_
    refine x_retP hx hb hr (by omega) ?_ dX8_endOf_14 hlocks
    refine ⟨?_, by omega, by omega⟩
    unfold zEnd; rw [if_neg (by omega)]

set_option maxHeartbeats 4000000 in
set_option maxRecDepth 100000 in
theorem c_X8_numberAt (l : Launch) (g : xG) (σ : xS) (bi : Nat) (hbi : bi < xN) (sz dn : Int) (ht0 : TObj g σ.1 bi sz dn) (Bf : Int → Int) (hbf : MArr g σ.1 bi 100 Bf) (hsz : 0 ≤ sz ∧ sz ≤ 100) (hBr : ∀ k, inR (Bf k)) (w9 : Int) (hp : 0 ≤ w9 ∧ w9 ≤ 400) : Met l yX8_numberAt wsX8_numberAt ({ frames := 3, cells := 0, slots := 0, locals := 96 }) (va_Pc [.ref (g.2.2 23), .int (iI (w9))] (xPre g σ)) (x_Si (fun r => r = zVl (zCc Bf sz) w9 (zCnt (zCc Bf sz) w9 4).toNat ∧ 0 ≤ r ∧ r ≤ 9999)) (0) (0) (fun _ => False) := by
  refine Met.ofW (cc := cX8_numberAt) (maxL := 4) (ret := (some .int)) (by decide) rfl ?_
  intro p e s m args below meth c s₁ B hml hv
  obtain ⟨rfl, hP, hK⟩ := hv
  have hx := B.exec
  have hb := B.bytes
  have hr := B.returns
  have hts := atoms_spec (ws := wsX8_numberAt) B.pre
  have hown : s.vm.findClass RX8 = some m.cls := findClass_of_methodNamed B.named
  have hlocks := B.notSynchronized
  have hl := lv_entry ([.ref (g.2.2 23), .int (iI (w9))]) (n := 4) (Nat.le_of_ble_eq_true rfl)
  rw [lg_entry_eq]
  generalize (lg_sl ([.ref (g.2.2 23), .int (iI (w9))]) ++ List.replicate (4 - (lg_sl ([.ref (g.2.2 23), .int (iI (w9))])).length) Slot.unset).toArray = ls at hl ⊢
  have hl : lv_has ls 4 [(0, .ref (g.2.2 23)), (1, .int (iI (w9)))] := hl
  refine x_iconst hx hb dX8_numberAt_0 ?_
  refine lv_istore_n (lv' := [(2, .int (iI (0))), (0, .ref (g.2.2 23)), (1, .int (iI (w9)))]) hx hb dX8_numberAt_1 rfl hl (by decide) rfl (fun ls hl => ?_)
  refine lv_iload_n hx hb dX8_numberAt_2 rfl (lv_at hl 2 rfl) ?_
  refine lv_istore_n (lv' := [(3, .int (iI (w9))), (2, .int (iI (0))), (0, .ref (g.2.2 23)), (1, .int (iI (w9)))]) hx hb dX8_numberAt_3 rfl hl (by decide) rfl (fun ls hl => ?_)
  have hloop_4 : ∀ (k : Nat) (num : Int) (i : Int), (w9 + 4 - i).toNat < k → (hi0 : w9 ≤ i) → (hi1 : i ≤ w9 + 4) → (hc : zCnt (zCc Bf sz) w9 4 = (i - w9) + zCnt (zCc Bf sz) (w9 + (i - w9)) (4 - (i - w9).toNat)) → (hv : num = zVl (zCc Bf sz) w9 (i - w9).toNat) → (hbn : 0 ≤ num ∧ (i - w9 ≤ 0 → num ≤ 0) ∧ (i - w9 ≤ 1 → num ≤ 9) ∧ (i - w9 ≤ 2 → num ≤ 99) ∧ (i - w9 ≤ 3 → num ≤ 999) ∧ num ≤ 9999) → ∀ (ls : Array Slot), lv_has ls 4 [(2, .int (iI (num))), (3, .int (iI (i))), (0, .ref (g.2.2 23)), (1, .int (iI (w9)))] → W p l e (headSpec wsX8_numberAt ({ frames := 3, cells := 0, slots := 0, locals := 96 })).room s m ([.ref (g.2.2 23), .int (iI (w9))] : List Value).toArray below meth c s.heap [] 0 0 (MQ below (x_Si (fun r => r = zVl (zCc Bf sz) w9 (zCnt (zCc Bf sz) w9 4).toNat ∧ 0 ≤ r ∧ r ≤ 9999)) ([.ref (g.2.2 23), .int (iI (w9))] : List Value).toArray s (0) (0) (fun _ => False)) (F0 m 4 ls []) := by
    intro k
    induction k with
    | zero =>
      intros; exact absurd (by assumption) (Nat.not_lt_zero _)
    | succ k ih =>
      intro num i hmeas hi0 hi1 hc hv hbn  ls hl
      have ih_1 := ih
      have hpi : w9 + (i - w9) = i := by omega
      refine lv_iload_n hx hb dX8_numberAt_4 rfl (lv_at hl 1 rfl) ?_
      refine lv_iload_n hx hb dX8_numberAt_5 rfl (lv_at hl 3 rfl) ?_
      refine x_iconst hx hb dX8_numberAt_6 ?_
      refine x_iadd hx hb dX8_numberAt_7 ?_
      refine x_icmp_ge (tgt := 39) hx hb (by omega) (by omega) dX8_numberAt_8 (by decide) (fun c_8 => ?_) (fun c_8 => ?_)
      · refine lv_iload_n hx hb dX8_numberAt_39 rfl (lv_at hl 0 rfl) ?_
        refine x_retP hx hb hr (by omega) ?_ dX8_numberAt_40 hlocks
        refine ⟨?_, by omega, by omega⟩
        first | rw [zCw_e hc (by omega)] | rw [zCw_n hc (by rw [hpi]; omega)]
        exact hv
      · refine lv_aload_n hx hb dX8_numberAt_11 rfl (lv_at hl 2 rfl) ?_
        refine lv_iload_n hx hb dX8_numberAt_12 rfl (lv_at hl 1 rfl) ?_
        refine x_ci (va_runV (As := [.int (iI (i))]) (rest := []) ⟨hx, hb, hml, hown, hts⟩ (c_X8_byteAt l g σ bi hbi (sz) (dn) ht0 Bf hbf hsz hBr (i) (by omega)) (cwV 1 hts gX8_numberAt_X8_byteAt rfl rfl rfl (by decide +kernel) ⟨Nat.le_of_ble_eq_true rfl, Nat.le_of_ble_eq_true rfl⟩) (x_preV hK hP (x_recv hK hP (i := 23) (by decide) ht0 rfl)) rfl rfl hl.1 rfl (lv_room (Nat.le_of_ble_eq_true rfl)) dX8_numberAt_13 ⟨Nat.le_of_ble_eq_true rfl, Nat.le_of_ble_eq_true rfl⟩) (fun r_13 hr_13 qr_13 => ?_)
        replace qr_13 : r_13 = zCc Bf sz (i) := qr_13
        refine x_ci (va_runS (As := [.int (iI (r_13))]) (rest := []) ⟨hx, hb, hml, hown, hts⟩ (c_X8_isDigit l g σ (r_13) (by omega)) (va_cwS 1 hts gX8_numberAt_X8_isDigit rfl rfl rfl (by decide +kernel) ⟨Nat.le_of_ble_eq_true rfl, Nat.le_of_ble_eq_true rfl⟩) (x_preS hK hP) rfl rfl hl.1 rfl (lv_room (Nat.le_of_ble_eq_true rfl)) dX8_numberAt_16 ⟨Nat.le_of_ble_eq_true rfl, Nat.le_of_ble_eq_true rfl⟩) (fun r_16 hr_16 qr_16 => ?_)
        replace qr_16 : (r_16 = 1 ∧ 48 ≤ (r_13) ∧ (r_13) ≤ 57) ∨ (r_16 = 0 ∧ ¬ (48 ≤ (r_13) ∧ (r_13) ≤ 57)) := qr_16
        refine x_if_eq (tgt := 39) hx hb (by omega) dX8_numberAt_19 (by decide) (fun c_19 => ?_) (fun c_19 => ?_)
        · refine lv_iload_n hx hb dX8_numberAt_39 rfl (lv_at hl 0 rfl) ?_
          refine x_retP hx hb hr (by omega) ?_ dX8_numberAt_40 hlocks
          refine ⟨?_, by omega, by omega⟩
          first | rw [zCw_e hc (by omega)] | rw [zCw_n hc (by rw [hpi]; omega)]
          exact hv
        · refine x_bipush (n := 10) hx hb (by decide +kernel) dX8_numberAt_22 ?_
          refine lv_iload_n hx hb dX8_numberAt_24 rfl (lv_at hl 0 rfl) ?_
          refine x_imul hx hb dX8_numberAt_25 ?_
          refine lv_aload_n hx hb dX8_numberAt_26 rfl (lv_at hl 2 rfl) ?_
          refine lv_iload_n hx hb dX8_numberAt_27 rfl (lv_at hl 1 rfl) ?_
          refine x_ci (va_runV (As := [.int (iI (i))]) (rest := [.int (iI (10 * num))]) ⟨hx, hb, hml, hown, hts⟩ (c_X8_digitAt l g σ bi hbi (sz) (dn) ht0 Bf hbf hsz hBr (i) (by omega)) (cwV 1 hts gX8_numberAt_X8_digitAt rfl rfl rfl (by decide +kernel) ⟨Nat.le_of_ble_eq_true rfl, Nat.le_of_ble_eq_true rfl⟩) (x_preV hK hP (x_recv hK hP (i := 23) (by decide) ht0 rfl)) rfl rfl hl.1 rfl (lv_room (Nat.le_of_ble_eq_true rfl)) dX8_numberAt_28 ⟨Nat.le_of_ble_eq_true rfl, Nat.le_of_ble_eq_true rfl⟩) (fun r_28 hr_28 qr_28 => ?_)
          replace qr_28 : inR (zCc Bf sz (i) - 48) → r_28 = zCc Bf sz (i) - 48 := qr_28
          have hq28 : r_28 = zCc Bf sz (i) - 48 := qr_28 ⟨by omega, by omega⟩
          refine x_iadd hx hb dX8_numberAt_31 ?_
          refine lv_istore_n (lv' := [(2, .int (iI ((10 * num) + r_28))), (3, .int (iI (i))), (0, .ref (g.2.2 23)), (1, .int (iI (w9)))]) hx hb dX8_numberAt_32 rfl hl (by decide) rfl (fun ls hl => ?_)
          refine x_iinc (k0 := 1) (lv' := [(3, .int (iI (i + 1))), (2, .int (iI ((10 * num) + r_28))), (0, .ref (g.2.2 23)), (1, .int (iI (w9)))]) hx hb dX8_numberAt_33 hl rfl (by decide) rfl (fun ls hl => ?_)
          refine lv_goto (tgt := 4) hx hb dX8_numberAt_36 (by decide) ?_
          exact ih_1 ((10 * num) + r_28) (i + 1) (by omega) (by omega) (by omega) (by (have z := zCw_y hc (by omega) (by omega) (by rw [hpi]; omega); rw [show i + 1 - w9 = i - w9 + 1 by omega]; exact z)) (by (rw [show i + 1 - w9 = (i - w9) + 1 by omega, zVl_succ _ _ (by omega), ← hv, hpi]; omega)) (by omega) ls (lv_sub hl [1, 0, 2, 3] rfl)
  exact hloop_4 (((w9 + 4 - (w9)).toNat) + 1) (0) (w9) (by omega) (by omega) (by omega) (by (rw [show w9 - w9 = 0 by omega]; exact zCw_0)) (by (rw [show w9 - w9 = 0 by omega]; rfl)) (by omega) ls (lv_sub hl [1, 0, 2, 3] rfl)

set_option maxHeartbeats 4000000 in
set_option maxRecDepth 100000 in
theorem c_X8_statements (l : Launch) (g : xG) (σ : xS) (bi : Nat) (hbi : bi < xN) (sz dn : Int) (ht0 : TObj g σ.1 bi sz dn) (Bf : Int → Int) (hbf : MArr g σ.1 bi 100 Bf) (hsz : 0 ≤ sz ∧ sz ≤ 100) (hBr : ∀ k, inR (Bf k)) (hdn : inR dn) : Met l yX8_statements wsX8_statements ({ frames := 1, cells := 0, slots := 0, locals := 32 }) (va_Pc [.ref (g.2.2 23)] (xPre g σ)) (x_Si (fun r => r = dn)) (0) (0) (fun _ => False) := by
  refine Met.ofW (cc := cX8_statements) (maxL := 1) (ret := (some .int)) (by decide) rfl ?_
  intro p e s m args below meth c s₁ B hml hv
  obtain ⟨rfl, hP, hK⟩ := hv
  have hx := B.exec
  have hb := B.bytes
  have hr := B.returns
  have hts := atoms_spec (ws := wsX8_statements) B.pre
  have hown : s.vm.findClass RX8 = some m.cls := findClass_of_methodNamed B.named
  have hlocks := B.notSynchronized
  have hl := lv_entry ([.ref (g.2.2 23)]) (n := 1) (Nat.le_of_ble_eq_true rfl)
  rw [lg_entry_eq]
  generalize (lg_sl ([.ref (g.2.2 23)]) ++ List.replicate (1 - (lg_sl ([.ref (g.2.2 23)])).length) Slot.unset).toArray = ls at hl ⊢
  have hl : lv_has ls 1 [(0, .ref (g.2.2 23))] := hl
  have hw_0 := hts (.fieldLink RX8 25 "TwiceAsRich$StreetText" "done" "I") (by decide +kernel)
  have hin_X8 : ∀ w ∈ wsX80, w ∈ wsX8_statements := by decide +kernel
  refine lv_aload_n hx hb dX8_statements_0 rfl (lv_at hl 0 rfl) ?_
  refine x_get (C := RX8) (T := TX8) (N := 3) hx hb hts hin_X8 hown hK hP (23) (by decide) ht0 rfl 2 (by decide) hw_0 (fun _ h9 => h9) rfl dX8_statements_1 ?_
  refine x_retP hx hb hr (by omega) ?_ dX8_statements_4 hlocks
  rfl

set_option maxHeartbeats 4000000 in
set_option maxRecDepth 100000 in
theorem c_X8_brokenPlace (l : Launch) (g : xG) (σ : xS) (bi : Nat) (hbi : bi < xN) (sz dn : Int) (ht0 : TObj g σ.1 bi sz dn) (Bf : Int → Int) (hbf : MArr g σ.1 bi 100 Bf) (hsz : 0 ≤ sz ∧ sz ≤ 100) (hBr : ∀ k, inR (Bf k)) : Met l yX8_brokenPlace wsX8_brokenPlace ({ frames := 3, cells := 0, slots := 0, locals := 96 }) (va_Pc [.ref (g.2.2 23)] (xPre g σ)) (x_Si (fun r => r = (zScan (zCc Bf sz) sz 101 0 0).1 ∧ r ≤ 200 ∧ -1 ≤ r)) (0) (0) (fun _ => False) := by
  refine Met.ofW (cc := cX8_brokenPlace) (maxL := 4) (ret := (some .int)) (by decide) rfl ?_
  intro p e s m args below meth c s₁ B hml hv
  obtain ⟨rfl, hP, hK⟩ := hv
  have hx := B.exec
  have hb := B.bytes
  have hr := B.returns
  have hts := atoms_spec (ws := wsX8_brokenPlace) B.pre
  have hown : s.vm.findClass RX8 = some m.cls := findClass_of_methodNamed B.named
  have hlocks := B.notSynchronized
  have hl := lv_entry ([.ref (g.2.2 23)]) (n := 4) (Nat.le_of_ble_eq_true rfl)
  rw [lg_entry_eq]
  generalize (lg_sl ([.ref (g.2.2 23)]) ++ List.replicate (4 - (lg_sl ([.ref (g.2.2 23)])).length) Slot.unset).toArray = ls at hl ⊢
  have hl : lv_has ls 4 [(0, .ref (g.2.2 23))] := hl
  have hw_0 := hts (.fieldLink RX8 21 "TwiceAsRich$StreetText" "size" "I") (by decide +kernel)
  have hin_X8 : ∀ w ∈ wsX80, w ∈ wsX8_brokenPlace := by decide +kernel
  refine lv_aload_n hx hb dX8_brokenPlace_0 rfl (lv_at hl 0 rfl) ?_
  refine x_get (C := RX8) (T := TX8) (N := 3) hx hb hts hin_X8 hown hK hP (23) (by decide) ht0 rfl 1 (by decide) hw_0 (fun _ h9 => h9) rfl dX8_brokenPlace_1 ?_
  refine x_if_ne (tgt := 9) hx hb (by omega) dX8_brokenPlace_4 (by decide) (fun c_4 => ?_) (fun c_4 => ?_)
  · refine x_iconst hx hb dX8_brokenPlace_9 ?_
    refine lv_istore_n (lv' := [(1, .int (iI (0))), (0, .ref (g.2.2 23))]) hx hb dX8_brokenPlace_10 rfl hl (by decide) rfl (fun ls hl => ?_)
    refine x_iconst hx hb dX8_brokenPlace_11 ?_
    refine lv_istore_n (lv' := [(2, .int (iI (0))), (1, .int (iI (0))), (0, .ref (g.2.2 23))]) hx hb dX8_brokenPlace_12 rfl hl (by decide) rfl (fun ls hl => ?_)
    have hloop_13 : ∀ (k : Nat) (w9 : Int) (n : Int), ((200 : Int) - w9).toNat < k → (hp0 : 0 ≤ w9 ∧ w9 ≤ 150) → (hn : 0 ≤ n ∧ n ≤ w9) → (hs : (w9 < sz ∧ zScan (zCc Bf sz) sz 101 0 0 = zScan (zCc Bf sz) sz (101 - n).toNat w9 n) ∨ (sz ≤ w9 ∧ zScan (zCc Bf sz) sz 101 0 0 = (-1, n))) → ∀ (ls : Array Slot), lv_has ls 4 [(1, .int (iI (w9))), (2, .int (iI (n))), (0, .ref (g.2.2 23))] → W p l e (headSpec wsX8_brokenPlace ({ frames := 3, cells := 0, slots := 0, locals := 96 })).room s m ([.ref (g.2.2 23)] : List Value).toArray below meth c s.heap [] 0 0 (MQ below (x_Si (fun r => r = (zScan (zCc Bf sz) sz 101 0 0).1 ∧ r ≤ 200 ∧ -1 ≤ r)) ([.ref (g.2.2 23)] : List Value).toArray s (0) (0) (fun _ => False)) (F0 m 13 ls []) := by
      intro k
      induction k with
      | zero =>
        intros; exact absurd (by assumption) (Nat.not_lt_zero _)
      | succ k ih =>
        intro w9 n hmeas hp0 hn hs  ls hl
        have ih_1 := ih
        refine lv_iload_n hx hb dX8_brokenPlace_13 rfl (lv_at hl 1 rfl) ?_
        refine lv_aload_n hx hb dX8_brokenPlace_14 rfl (lv_at hl 2 rfl) ?_
        refine x_get (C := RX8) (T := TX8) (N := 3) hx hb hts hin_X8 hown hK hP (23) (by decide) ht0 rfl 1 (by decide) hw_0 (fun _ h9 => h9) rfl dX8_brokenPlace_15 ?_
        refine x_icmp_ge (tgt := 73) hx hb (by omega) (by omega) dX8_brokenPlace_18 (by decide) (fun c_18 => ?_) (fun c_18 => ?_)
        · refine x_iconst hx hb dX8_brokenPlace_73 ?_
          refine x_retP hx hb hr (by omega) ?_ dX8_brokenPlace_74 hlocks
          refine ⟨?_, by omega, by omega⟩
          rcases hs with q | q
          · exfalso; omega
          · rw [q.2]
        · refine lv_iload_n hx hb dX8_brokenPlace_21 rfl (lv_at hl 0 rfl) ?_
          refine lv_aload_n hx hb dX8_brokenPlace_22 rfl (lv_at hl 2 rfl) ?_
          refine x_get (C := RX8) (T := TX8) (N := 3) hx hb hts hin_X8 hown hK hP (23) (by decide) ht0 rfl 1 (by decide) hw_0 (fun _ h9 => h9) rfl dX8_brokenPlace_23 ?_
          refine x_icmp_ge (tgt := 73) hx hb (by omega) (by omega) dX8_brokenPlace_26 (by decide) (fun c_26 => ?_) (fun c_26 => ?_)
          · refine x_iconst hx hb dX8_brokenPlace_73 ?_
            refine x_retP hx hb hr (by omega) ?_ dX8_brokenPlace_74 hlocks
            refine ⟨?_, by omega, by omega⟩
            rcases hs with q | q
            · exfalso; omega
            · rw [q.2]
          · have hse : zScan (zCc Bf sz) sz 101 0 0 = zScan (zCc Bf sz) sz (101 - n).toNat w9 n := by (rcases hs with q | q; exact q.2; exfalso; omega)
            refine lv_aload_n hx hb dX8_brokenPlace_29 rfl (lv_at hl 2 rfl) ?_
            refine lv_iload_n hx hb dX8_brokenPlace_30 rfl (lv_at hl 0 rfl) ?_
            refine x_ci (va_runV (As := [.int (iI (w9))]) (rest := []) ⟨hx, hb, hml, hown, hts⟩ (c_X8_endOf l g σ bi hbi (sz) (dn) ht0 Bf hbf hsz hBr (w9) (by omega)) (cwV 1 hts gX8_brokenPlace_X8_endOf rfl rfl rfl (by decide +kernel) ⟨Nat.le_of_ble_eq_true rfl, Nat.le_of_ble_eq_true rfl⟩) (x_preV hK hP (x_recv hK hP (i := 23) (by decide) ht0 rfl)) rfl rfl hl.1 rfl (lv_room (Nat.le_of_ble_eq_true rfl)) dX8_brokenPlace_31 ⟨Nat.le_of_ble_eq_true rfl, Nat.le_of_ble_eq_true rfl⟩) (fun r_31 hr_31 qr_31 => ?_)
            replace qr_31 : r_31 = zEnd (zCc Bf sz) (w9) ∧ (w9) ≤ r_31 ∧ r_31 ≤ (w9) + 7 := qr_31
            refine lv_istore_n (lv' := [(3, .int (iI (r_31))), (1, .int (iI (w9))), (2, .int (iI (n))), (0, .ref (g.2.2 23))]) hx hb dX8_brokenPlace_34 rfl hl (by decide) rfl (fun ls hl => ?_)
            refine lv_aload_n hx hb dX8_brokenPlace_35 rfl (lv_at hl 3 rfl) ?_
            refine lv_iload_n hx hb dX8_brokenPlace_36 rfl (lv_at hl 0 rfl) ?_
            refine x_ci (va_runV (As := [.int (iI (r_31))]) (rest := []) ⟨hx, hb, hml, hown, hts⟩ (c_X8_byteAt l g σ bi hbi (sz) (dn) ht0 Bf hbf hsz hBr (r_31) (by omega)) (cwV 1 hts gX8_brokenPlace_X8_byteAt rfl rfl rfl (by decide +kernel) ⟨Nat.le_of_ble_eq_true rfl, Nat.le_of_ble_eq_true rfl⟩) (x_preV hK hP (x_recv hK hP (i := 23) (by decide) ht0 rfl)) rfl rfl hl.1 rfl (lv_room (Nat.le_of_ble_eq_true rfl)) dX8_brokenPlace_37 ⟨Nat.le_of_ble_eq_true rfl, Nat.le_of_ble_eq_true rfl⟩) (fun r_37 hr_37 qr_37 => ?_)
            replace qr_37 : r_37 = zCc Bf sz (r_31) := qr_37
            refine x_bipush (n := 59) hx hb (by decide +kernel) dX8_brokenPlace_40 ?_
            refine x_icmp_ne (tgt := 61) hx hb (by omega) (by omega) dX8_brokenPlace_42 (by decide) (fun c_42 => ?_) (fun c_42 => ?_)
            · refine lv_iload_n hx hb dX8_brokenPlace_61 rfl (lv_at hl 0 rfl) ?_
              refine x_retP hx hb hr (by omega) ?_ dX8_brokenPlace_62 hlocks
              refine ⟨?_, by omega, by omega⟩
              have hno : ¬ zStOk (zCc Bf sz) w9 := by (rw [zStOk_at qr_31.1]; first | omega | (rw [qr_51] at qr_54; omega))
              rw [hse, zScan_no ⟨by omega, by omega⟩ hno]; exact qr_31.1
            · refine lv_iload_n hx hb dX8_brokenPlace_45 rfl (lv_at hl 0 rfl) ?_
              refine lv_iload_n hx hb dX8_brokenPlace_46 rfl (lv_at hl 1 rfl) ?_
              refine x_iconst hx hb dX8_brokenPlace_47 ?_
              refine x_iadd hx hb dX8_brokenPlace_48 ?_
              refine lv_aload_n hx hb dX8_brokenPlace_49 rfl (lv_at hl 3 rfl) ?_
              refine lv_iload_n hx hb dX8_brokenPlace_50 rfl (lv_at hl 1 rfl) ?_
              refine x_ci (va_runV (As := [.int (iI (w9))]) (rest := [.int (iI (w9 + 1)), .int (iI (r_31))]) ⟨hx, hb, hml, hown, hts⟩ (c_X8_byteAt l g σ bi hbi (sz) (dn) ht0 Bf hbf hsz hBr (w9) (by omega)) (cwV 1 hts gX8_brokenPlace_X8_byteAt rfl rfl rfl (by decide +kernel) ⟨Nat.le_of_ble_eq_true rfl, Nat.le_of_ble_eq_true rfl⟩) (x_preV hK hP (x_recv hK hP (i := 23) (by decide) ht0 rfl)) rfl rfl hl.1 rfl (lv_room (Nat.le_of_ble_eq_true rfl)) dX8_brokenPlace_51 ⟨Nat.le_of_ble_eq_true rfl, Nat.le_of_ble_eq_true rfl⟩) (fun r_51 hr_51 qr_51 => ?_)
              replace qr_51 : r_51 = zCc Bf sz (w9) := qr_51
              refine x_ci (va_runS (As := [.int (iI (r_51))]) (rest := [.int (iI (w9 + 1)), .int (iI (r_31))]) ⟨hx, hb, hml, hown, hts⟩ (c_X8_fewestDigits l g σ (r_51) (by omega)) (va_cwS 1 hts gX8_brokenPlace_X8_fewestDigits rfl rfl rfl (by decide +kernel) ⟨Nat.le_of_ble_eq_true rfl, Nat.le_of_ble_eq_true rfl⟩) (x_preS hK hP) rfl rfl hl.1 rfl (lv_room (Nat.le_of_ble_eq_true rfl)) dX8_brokenPlace_54 ⟨Nat.le_of_ble_eq_true rfl, Nat.le_of_ble_eq_true rfl⟩) (fun r_54 hr_54 qr_54 => ?_)
              replace qr_54 : r_54 = zFs (r_51) ∧ 0 ≤ r_54 ∧ r_54 ≤ 3 := qr_54
              refine x_iadd hx hb dX8_brokenPlace_57 ?_
              refine x_icmp_ge (tgt := 63) hx hb (by omega) (by omega) dX8_brokenPlace_58 (by decide) (fun c_58 => ?_) (fun c_58 => ?_)
              · refine lv_iload_n hx hb dX8_brokenPlace_63 rfl (lv_at hl 0 rfl) ?_
                refine x_iconst hx hb dX8_brokenPlace_64 ?_
                refine x_iadd hx hb dX8_brokenPlace_65 ?_
                refine lv_istore_n (lv' := [(1, .int (iI (r_31 + 1))), (3, .int (iI (r_31))), (2, .int (iI (n))), (0, .ref (g.2.2 23))]) hx hb dX8_brokenPlace_66 rfl hl (by decide) rfl (fun ls hl => ?_)
                refine x_iinc (k0 := 2) (lv' := [(2, .int (iI (n + 1))), (1, .int (iI (r_31 + 1))), (3, .int (iI (r_31))), (0, .ref (g.2.2 23))]) hx hb dX8_brokenPlace_67 hl rfl (by decide) rfl (fun ls hl => ?_)
                refine lv_goto (tgt := 13) hx hb dX8_brokenPlace_70 (by decide) ?_
                have hyes : zStOk (zCc Bf sz) w9 := by (rw [zStOk_at qr_31.1]; rw [qr_51] at qr_54; omega)
                have hgt9 := zEnd_gt hyes
                exact ih_1 (r_31 + 1) (n + 1) (by omega) (by omega) (by omega) (by (by_cases hq : r_31 + 1 < sz; (left; refine ⟨hq, ?_⟩; rw [hse, zScan_go ⟨by omega, by omega⟩ hyes (by omega), ← qr_31.1]); (right; refine ⟨by omega, ?_⟩; rw [hse]; exact zScan_fin ⟨by omega, by omega⟩ hyes (by omega)))) ls (lv_sub hl [1, 0, 3] rfl)
              · refine lv_iload_n hx hb dX8_brokenPlace_61 rfl (lv_at hl 0 rfl) ?_
                refine x_retP hx hb hr (by omega) ?_ dX8_brokenPlace_62 hlocks
                refine ⟨?_, by omega, by omega⟩
                have hno : ¬ zStOk (zCc Bf sz) w9 := by (rw [zStOk_at qr_31.1]; first | omega | (rw [qr_51] at qr_54; omega))
                rw [hse, zScan_no ⟨by omega, by omega⟩ hno]; exact qr_31.1
    exact hloop_13 ((((200 : Int) - (0)).toNat) + 1) (0) (0) (by omega) (by omega) (by omega) (by exact Or.inl ⟨by omega, rfl⟩) ls (lv_sub hl [1, 0, 2] rfl)
  · refine x_iconst hx hb dX8_brokenPlace_7 ?_
    refine x_retP hx hb hr (by omega) ?_ dX8_brokenPlace_8 hlocks
    refine ⟨?_, by omega, by omega⟩
    have hsz0 : sz = 0 := by omega
    rw [hsz0]
    exact (zScan_none (zCc_none Bf)).symm

set_option maxHeartbeats 4000000 in
set_option maxRecDepth 100000 in
theorem c_X8_open (l : Launch) (g : xG) (σ : xS) (A : Nat → Prop) (bi : Nat) (sz dn : Int) (ht0 : TObj g σ.1 bi sz dn) (ri : Nat) (hri : ri < xN) (hr23 : ri ≠ 23) (Rf : Int → Int) (hrf : MArr g σ.1 ri 100 Rf) (n0 : Int) (hn0 : 0 ≤ n0 ∧ n0 ≤ 100) : Met l yX8_open wsX8_open ({ frames := 3, cells := 0, slots := 0, locals := 96 }) (va_Pc [.ref (g.2.2 23), .ref (g.2.2 (ri)), .int (iI (n0))] (xPreQ g A σ)) (x_Qv g A (fun σ1 => σ1.2 = σ.2 ∧ (∀ j, j ≠ 23 → σ1.1 j = σ.1 j) ∧ TObj g σ1.1 ri n0 0)) (0) (0) A := by
  refine Met.ofW (cc := cX8_open) (maxL := 3) (ret := none) (by decide) rfl ?_
  intro p e s m args below meth c s₁ B hml hv
  obtain ⟨rfl, hP, hK, hD, hA⟩ := hv
  have hx := B.exec
  have hb := B.bytes
  have hr := B.returns
  have hts := atoms_spec (ws := wsX8_open) B.pre
  have hown : s.vm.findClass RX8 = some m.cls := findClass_of_methodNamed B.named
  have hlocks := B.notSynchronized
  have hS : va_S A s.heap s.heap [] := va_S.rf
  have hfr : ∀ j, (j ≠ 23) → σ.1 j = σ.1 j := fun _ _ => rfl
  have hl := lv_entry ([.ref (g.2.2 23), .ref (g.2.2 (ri)), .int (iI (n0))]) (n := 3) (Nat.le_of_ble_eq_true rfl)
  rw [lg_entry_eq]
  generalize (lg_sl ([.ref (g.2.2 23), .ref (g.2.2 (ri)), .int (iI (n0))]) ++ List.replicate (3 - (lg_sl ([.ref (g.2.2 23), .ref (g.2.2 (ri)), .int (iI (n0))])).length) Slot.unset).toArray = ls at hl ⊢
  have hl : lv_has ls 3 [(0, .ref (g.2.2 23)), (1, .ref (g.2.2 (ri))), (2, .int (iI (n0)))] := hl
  have hw_0 := hts (.fieldLink RX8 9 "TwiceAsRich$StreetText" "bytes" "[I") (by decide +kernel)
  have hin_X8 : ∀ w ∈ wsX80, w ∈ wsX8_open := by decide +kernel
  have hw_2 := hts (.methodLink RX8 15 Lib.Math.min.name) (by decide +kernel)
  have hw_3 := hts (.static Lib.Math.min.name) (by decide +kernel)
  have hw_4 := hts (.initialized "java/lang/Math") (by decide +kernel)
  have hw_5 := hts (.code Lib.Math.min.name Lib.Math.min.code 2 (some .int)) (by decide +kernel)
  have hw_6 := hts (.fieldLink RX8 21 "TwiceAsRich$StreetText" "size" "I") (by decide +kernel)
  have hw_7 := hts (.fieldLink RX8 25 "TwiceAsRich$StreetText" "done" "I") (by decide +kernel)
  refine lv_aload_n hx hb dX8_open_0 rfl (lv_at hl 0 rfl) ?_
  refine lv_aload_n hx hb dX8_open_1 rfl (lv_at hl 1 rfl) ?_
  refine x_put (C := RX8) (T := TX8) (N := 3) (ty := (.array .int)) hx hb hts hin_X8 hown hK hP hD hS (23) (by decide) ht0 rfl tyX8 tyX8_ok nmX8 0 (by decide) hw_0 (fun _ h9 => h9) rfl (by decide +kernel) rfl rfl (Nat.le_of_ble_eq_true rfl) dX8_open_2 (fun M_1 H locs hnew hne hP hD hS => ?_)
  have hP : xP g (M_1, σ.2) H := hP
  have hD : xD g A (M_1, σ.2) := hD
  have ht0 : M_1 (23) = .inr (8, [.ref (g.2.2 (ri)), .int (iI (sz)), .int (iI (dn))]) := hnew
  have hrf := (hne (ri) (by omega)).trans hrf
  have hfr := x_fr (F := fun j => j ≠ 23) hfr hne (fun j h => by have h : j ≠ 23 := h; omega)
  refine lv_aload_n hx hb dX8_open_5 rfl (lv_at hl 0 rfl) ?_
  refine lv_iload_n hx hb dX8_open_6 rfl (lv_at hl 2 rfl) ?_
  refine lv_aload_n hx hb dX8_open_7 rfl (lv_at hl 1 rfl) ?_
  refine x_alen hx hb hK hP (ri) 0 (by omega) hrf rfl dX8_open_8 ?_
  refine x_min hx hb (hml.trans hl.1.symm) hown hw_2 hw_3 hw_4 hw_5 (Nat.le_of_ble_eq_true rfl) (Nat.le_of_ble_eq_true rfl) (Nat.le_of_ble_eq_true rfl) (Nat.le_of_ble_eq_true rfl) (by omega) (by omega) dX8_open_9 (fun q_2 hq_2 => ?_)
  refine x_put (C := RX8) (T := TX8) (N := 3) (ty := .int) hx hb hts hin_X8 hown hK hP hD hS (23) (by decide) ht0 rfl tyX8 tyX8_ok nmX8 1 (by decide) hw_6 (fun _ h9 => h9) rfl (by decide +kernel) rfl rfl (Nat.le_of_ble_eq_true rfl) dX8_open_12 (fun M_3 H locs hnew hne hP hD hS => ?_)
  have hP : xP g (M_3, σ.2) H := hP
  have hD : xD g A (M_3, σ.2) := hD
  have ht0 : M_3 (23) = .inr (8, [.ref (g.2.2 (ri)), .int (iI (q_2)), .int (iI (dn))]) := hnew
  have hrf := (hne (ri) (by omega)).trans hrf
  have hfr := x_fr (F := fun j => j ≠ 23) hfr hne (fun j h => by have h : j ≠ 23 := h; omega)
  refine lv_aload_n hx hb dX8_open_15 rfl (lv_at hl 0 rfl) ?_
  refine x_iconst hx hb dX8_open_16 ?_
  refine x_put (C := RX8) (T := TX8) (N := 3) (ty := .int) hx hb hts hin_X8 hown hK hP hD hS (23) (by decide) ht0 rfl tyX8 tyX8_ok nmX8 2 (by decide) hw_7 (fun _ h9 => h9) rfl (by decide +kernel) rfl rfl (Nat.le_of_ble_eq_true rfl) dX8_open_17 (fun M_4 H locs hnew hne hP hD hS => ?_)
  have hP : xP g (M_4, σ.2) H := hP
  have hD : xD g A (M_4, σ.2) := hD
  have ht0 : M_4 (23) = .inr (8, [.ref (g.2.2 (ri)), .int (iI (q_2)), .int (iI (0))]) := hnew
  have hrf := (hne (ri) (by omega)).trans hrf
  have hfr := x_fr (F := fun j => j ≠ 23) hfr hne (fun j h => by have h : j ≠ 23 := h; omega)
  refine x_retQv hx hb hr ?_ hP hD hS dX8_open_20 hlocks
  have e : q_2 = n0 := by omega
  rw [e] at ht0
  exact ⟨rfl, hfr, ht0⟩
