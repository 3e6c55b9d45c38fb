set_option maxHeartbeats 4000000 in
set_option maxRecDepth 100000 in
theorem c_X11_lawful (l : Launch) (g : xG) (σ : xS) (ph : Nat) (tk : Int) (hx0 : XObj g σ.1 ph tk) (n rd : Int) (P : Int → Int) (G : Int → Option Nat) (hst : StAt g σ.1 1 n rd P G) (hok : StOk σ n rd P G) (hH : HsOk σ) : Met l yX11_lawful wsX11_lawful ({ frames := 7, cells := 0, slots := 0, locals := 224 }) (va_Pc [.ref (g.2.2 0)] (xPre g σ)) (x_Si (fun r => r = zLawful (sK σ G) (sF σ G) P n rd)) (0) (0) (fun _ => False) := by
  refine Met.ofW (cc := cX11_lawful) (maxL := 1) (ret := (some .int)) (by decide) rfl ?_
  intro p e s m args below meth c s₁ B hml hv
  obtain ⟨rfl, hP, hK⟩ := hv
  have hx := B.exec
  have hb := B.bytes
  have hr := B.returns
  have hts := atoms_spec (ws := wsX11_lawful) B.pre
  have hown : s.vm.findClass RX11 = some m.cls := findClass_of_methodNamed B.named
  have hlocks := B.notSynchronized
  have hl := lv_entry ([.ref (g.2.2 0)]) (n := 1) (Nat.le_of_ble_eq_true rfl)
  rw [lg_entry_eq]
  generalize (lg_sl ([.ref (g.2.2 0)]) ++ List.replicate (1 - (lg_sl ([.ref (g.2.2 0)])).length) Slot.unset).toArray = ls at hl ⊢
  have hl : lv_has ls 1 [(0, .ref (g.2.2 0))] := hl
  have hm0 : σ.1 1 = .inr (7, [.ref (g.2.2 2), .ref (g.2.2 3), .int (iI n), .int (iI rd)]) := hst.1
  have hm1 : MRef g σ.1 2 9 G := hst.2.1
  have hm2 : MArr g σ.1 3 9 P := hst.2.2
  have hok1 := hok.1
  have hok2 := hok.2.1
  have hok3 := hok.2.2.1
  have hw_0 := hts (.fieldLink RX11 10 "TwiceAsRich" "street" "LTwiceAsRich$Street;") (by decide +kernel)
  have hin_X11 : ∀ w ∈ wsX110, w ∈ wsX11_lawful := by decide +kernel
  refine lv_aload_n hx hb dX11_lawful_0 rfl (lv_at hl 0 rfl) ?_
  refine x_get (C := RX11) (T := TX11) (N := 11) hx hb hts hin_X11 hown hK hP (0) (by decide) hx0 rfl 0 (by decide) hw_0 (fun _ h9 => h9) rfl dX11_lawful_1 ?_
  refine x_ci (va_runV (As := []) (rest := []) ⟨hx, hb, hml, hown, hts⟩ (c_X7_allBreaches l g σ (1) (by decide) (n) (rd) P G ⟨hm0, hm1, hm2⟩ hok hH ) (cwV 0 hts gX11_lawful_X7_allBreaches rfl rfl rfl (by decide +kernel) ⟨Nat.le_of_ble_eq_true rfl, Nat.le_of_ble_eq_true rfl⟩) (x_preV hK hP (x_recv hK hP (i := 1) (by decide) hm0 rfl)) rfl rfl hl.1 rfl (lv_room (Nat.le_of_ble_eq_true rfl)) dX11_lawful_4 ⟨Nat.le_of_ble_eq_true rfl, Nat.le_of_ble_eq_true rfl⟩) (fun r_4 hr_4 qr_4 => ?_)
  replace qr_4 : r_4 = zAll (sK σ (G)) (sF σ (G)) (P) (n) (rd) ∧ 0 ≤ r_4 ∧ r_4 ≤ 18 := qr_4
  refine x_if_ne (tgt := 14) hx hb (by omega) dX11_lawful_7 (by decide) (fun c_7 => ?_) (fun c_7 => ?_)
  · refine x_iconst hx hb dX11_lawful_14 ?_
    refine x_retP hx hb hr (by omega) ?_ dX11_lawful_15 hlocks
    unfold zLawful
    repeat first | rw [if_pos (by omega)] | rw [if_neg (by omega)]
  · refine x_iconst hx hb dX11_lawful_10 ?_
    refine lv_goto (tgt := 15) hx hb dX11_lawful_11 (by decide) ?_
    refine x_retP hx hb hr (by omega) ?_ dX11_lawful_15 hlocks
    unfold zLawful
    repeat first | rw [if_pos (by omega)] | rw [if_neg (by omega)]

set_option maxHeartbeats 4000000 in
set_option maxRecDepth 100000 in
theorem c_X11_breaches (l : Launch) (g : xG) (σ : xS) (ph : Nat) (tk : Int) (hx0 : XObj g σ.1 ph tk) (n rd : Int) (P : Int → Int) (G : Int → Option Nat) (hst : StAt g σ.1 1 n rd P G) (hok : StOk σ n rd P G) (hH : HsOk σ) (h : Int) (hh : inR h) : Met l yX11_breaches wsX11_breaches ({ frames := 7, cells := 0, slots := 0, locals := 224 }) (va_Pc [.ref (g.2.2 0), .int (iI (h))] (xPre g σ)) (x_Si (fun r => r = zBreaches (sK σ G) (sF σ G) P n rd h)) (0) (0) (fun _ => False) := by
  refine Met.ofW (cc := cX11_breaches) (maxL := 2) (ret := (some .int)) (by decide) rfl ?_
  intro p e s m args below meth c s₁ B hml hv
  obtain ⟨rfl, hP, hK⟩ := hv
  have hx := B.exec
  have hb := B.bytes
  have hr := B.returns
  have hts := atoms_spec (ws := wsX11_breaches) B.pre
  have hown : s.vm.findClass RX11 = some m.cls := findClass_of_methodNamed B.named
  have hlocks := B.notSynchronized
  have hl := lv_entry ([.ref (g.2.2 0), .int (iI (h))]) (n := 2) (Nat.le_of_ble_eq_true rfl)
  rw [lg_entry_eq]
  generalize (lg_sl ([.ref (g.2.2 0), .int (iI (h))]) ++ List.replicate (2 - (lg_sl ([.ref (g.2.2 0), .int (iI (h))])).length) Slot.unset).toArray = ls at hl ⊢
  have hl : lv_has ls 2 [(0, .ref (g.2.2 0)), (1, .int (iI (h)))] := hl
  have hm0 : σ.1 1 = .inr (7, [.ref (g.2.2 2), .ref (g.2.2 3), .int (iI n), .int (iI rd)]) := hst.1
  have hm1 : MRef g σ.1 2 9 G := hst.2.1
  have hm2 : MArr g σ.1 3 9 P := hst.2.2
  have hok1 := hok.1
  have hok2 := hok.2.1
  have hok3 := hok.2.2.1
  have hw_0 := hts (.fieldLink RX11 10 "TwiceAsRich" "street" "LTwiceAsRich$Street;") (by decide +kernel)
  have hin_X11 : ∀ w ∈ wsX110, w ∈ wsX11_breaches := by decide +kernel
  refine lv_iload_n hx hb dX11_breaches_0 rfl (lv_at hl 1 rfl) ?_
  refine x_iconst hx hb dX11_breaches_1 ?_
  refine x_icmp_ne (tgt := 13) hx hb (by omega) (by omega) dX11_breaches_2 (by decide) (fun c_2 => ?_) (fun c_2 => ?_)
  · refine lv_aload_n hx hb dX11_breaches_13 rfl (lv_at hl 0 rfl) ?_
    refine x_get (C := RX11) (T := TX11) (N := 11) hx hb hts hin_X11 hown hK hP (0) (by decide) hx0 rfl 0 (by decide) hw_0 (fun _ h9 => h9) rfl dX11_breaches_14 ?_
    refine lv_iload_n hx hb dX11_breaches_17 rfl (lv_at hl 1 rfl) ?_
    refine x_ci (va_runV (As := [.int (iI (h))]) (rest := []) ⟨hx, hb, hml, hown, hts⟩ (c_X7_has l g σ (1) (by decide) (n) (rd) P G ⟨hm0, hm1, hm2⟩ hok hH (h) (by omega)) (cwV 1 hts gX11_breaches_X7_has rfl rfl rfl (by decide +kernel) ⟨Nat.le_of_ble_eq_true rfl, Nat.le_of_ble_eq_true rfl⟩) (x_preV hK hP (x_recv hK hP (i := 1) (by decide) hm0 rfl)) rfl rfl hl.1 rfl (lv_room (Nat.le_of_ble_eq_true rfl)) dX11_breaches_18 ⟨Nat.le_of_ble_eq_true rfl, Nat.le_of_ble_eq_true rfl⟩) (fun r_18 hr_18 qr_18 => ?_)
    replace qr_18 : (r_18 = 1 ∧ 0 ≤ (h) ∧ (h) < (n)) ∨ (r_18 = 0 ∧ ¬ (0 ≤ (h) ∧ (h) < (n))) := qr_18
    refine x_if_eq (tgt := 35) hx hb (by omega) dX11_breaches_21 (by decide) (fun c_21 => ?_) (fun c_21 => ?_)
    · refine x_iconst hx hb dX11_breaches_35 ?_
      refine x_retP hx hb hr (by omega) ?_ dX11_breaches_36 hlocks
      unfold zBreaches
      repeat first | rw [if_pos (by omega)] | rw [if_neg (by omega)]
      try omega
    · refine lv_aload_n hx hb dX11_breaches_24 rfl (lv_at hl 0 rfl) ?_
      refine x_get (C := RX11) (T := TX11) (N := 11) hx hb hts hin_X11 hown hK hP (0) (by decide) hx0 rfl 0 (by decide) hw_0 (fun _ h9 => h9) rfl dX11_breaches_25 ?_
      refine lv_iload_n hx hb dX11_breaches_28 rfl (lv_at hl 1 rfl) ?_
      refine x_ci (va_runV (As := [.int (iI (h))]) (rest := []) ⟨hx, hb, hml, hown, hts⟩ (c_X7_breachesOf l g σ (1) (by decide) (n) (rd) P G ⟨hm0, hm1, hm2⟩ hok hH (h) (by omega)) (cwV 1 hts gX11_breaches_X7_breachesOf rfl rfl rfl (by decide +kernel) ⟨Nat.le_of_ble_eq_true rfl, Nat.le_of_ble_eq_true rfl⟩) (x_preV hK hP (x_recv hK hP (i := 1) (by decide) hm0 rfl)) rfl rfl hl.1 rfl (lv_room (Nat.le_of_ble_eq_true rfl)) dX11_breaches_29 ⟨Nat.le_of_ble_eq_true rfl, Nat.le_of_ble_eq_true rfl⟩) (fun r_29 hr_29 qr_29 => ?_)
      replace qr_29 : r_29 = zBr (sK σ (G)) (sF σ (G)) (P) (n) (rd) (h) ∧ 0 ≤ r_29 ∧ r_29 ≤ 2 := qr_29
      refine lv_goto (tgt := 36) hx hb dX11_breaches_32 (by decide) ?_
      refine x_retP hx hb hr (by omega) ?_ dX11_breaches_36 hlocks
      unfold zBreaches
      repeat first | rw [if_pos (by omega)] | rw [if_neg (by omega)]
      try omega
  · refine lv_aload_n hx hb dX11_breaches_5 rfl (lv_at hl 0 rfl) ?_
    refine x_get (C := RX11) (T := TX11) (N := 11) hx hb hts hin_X11 hown hK hP (0) (by decide) hx0 rfl 0 (by decide) hw_0 (fun _ h9 => h9) rfl dX11_breaches_6 ?_
    refine x_ci (va_runV (As := []) (rest := []) ⟨hx, hb, hml, hown, hts⟩ (c_X7_allBreaches l g σ (1) (by decide) (n) (rd) P G ⟨hm0, hm1, hm2⟩ hok hH ) (cwV 0 hts gX11_breaches_X7_allBreaches rfl rfl rfl (by decide +kernel) ⟨Nat.le_of_ble_eq_true rfl, Nat.le_of_ble_eq_true rfl⟩) (x_preV hK hP (x_recv hK hP (i := 1) (by decide) hm0 rfl)) rfl rfl hl.1 rfl (lv_room (Nat.le_of_ble_eq_true rfl)) dX11_breaches_9 ⟨Nat.le_of_ble_eq_true rfl, Nat.le_of_ble_eq_true rfl⟩) (fun r_9 hr_9 qr_9 => ?_)
    replace qr_9 : r_9 = zAll (sK σ (G)) (sF σ (G)) (P) (n) (rd) ∧ 0 ≤ r_9 ∧ r_9 ≤ 18 := qr_9
    refine x_retP hx hb hr (by omega) ?_ dX11_breaches_12 hlocks
    unfold zBreaches
    repeat first | rw [if_pos (by omega)] | rw [if_neg (by omega)]
    try omega

set_option maxHeartbeats 4000000 in
set_option maxRecDepth 100000 in
theorem c_X11_held (l : Launch) (g : xG) (σ : xS) (ph : Nat) (tk : Int) (hx0 : XObj g σ.1 ph tk) (n rd : Int) (P : Int → Int) (G : Int → Option Nat) (hst : StAt g σ.1 1 n rd P G) (hok : StOk σ n rd P G) (hH : HsOk σ) (h : Int) (hh : inR h) : Met l yX11_held wsX11_held ({ frames := 6, cells := 0, slots := 0, locals := 192 }) (va_Pc [.ref (g.2.2 0), .int (iI (h))] (xPre g σ)) (x_Si (fun r => r = zHeldR (sK σ G) (sF σ G) P n rd h)) (0) (0) (fun _ => False) := by
  refine Met.ofW (cc := cX11_held) (maxL := 2) (ret := (some .int)) (by decide) rfl ?_
  intro p e s m args below meth c s₁ B hml hv
  obtain ⟨rfl, hP, hK⟩ := hv
  have hx := B.exec
  have hb := B.bytes
  have hr := B.returns
  have hts := atoms_spec (ws := wsX11_held) B.pre
  have hown : s.vm.findClass RX11 = some m.cls := findClass_of_methodNamed B.named
  have hlocks := B.notSynchronized
  have hl := lv_entry ([.ref (g.2.2 0), .int (iI (h))]) (n := 2) (Nat.le_of_ble_eq_true rfl)
  rw [lg_entry_eq]
  generalize (lg_sl ([.ref (g.2.2 0), .int (iI (h))]) ++ List.replicate (2 - (lg_sl ([.ref (g.2.2 0), .int (iI (h))])).length) Slot.unset).toArray = ls at hl ⊢
  have hl : lv_has ls 2 [(0, .ref (g.2.2 0)), (1, .int (iI (h)))] := hl
  have hm0 : σ.1 1 = .inr (7, [.ref (g.2.2 2), .ref (g.2.2 3), .int (iI n), .int (iI rd)]) := hst.1
  have hm1 : MRef g σ.1 2 9 G := hst.2.1
  have hm2 : MArr g σ.1 3 9 P := hst.2.2
  have hok1 := hok.1
  have hok2 := hok.2.1
  have hok3 := hok.2.2.1
  have hw_0 := hts (.fieldLink RX11 10 "TwiceAsRich" "street" "LTwiceAsRich$Street;") (by decide +kernel)
  have hin_X11 : ∀ w ∈ wsX110, w ∈ wsX11_held := by decide +kernel
  refine lv_aload_n hx hb dX11_held_0 rfl (lv_at hl 0 rfl) ?_
  refine x_get (C := RX11) (T := TX11) (N := 11) hx hb hts hin_X11 hown hK hP (0) (by decide) hx0 rfl 0 (by decide) hw_0 (fun _ h9 => h9) rfl dX11_held_1 ?_
  refine lv_iload_n hx hb dX11_held_4 rfl (lv_at hl 1 rfl) ?_
  refine x_ci (va_runV (As := [.int (iI (h))]) (rest := []) ⟨hx, hb, hml, hown, hts⟩ (c_X7_has l g σ (1) (by decide) (n) (rd) P G ⟨hm0, hm1, hm2⟩ hok hH (h) (by omega)) (cwV 1 hts gX11_held_X7_has rfl rfl rfl (by decide +kernel) ⟨Nat.le_of_ble_eq_true rfl, Nat.le_of_ble_eq_true rfl⟩) (x_preV hK hP (x_recv hK hP (i := 1) (by decide) hm0 rfl)) rfl rfl hl.1 rfl (lv_room (Nat.le_of_ble_eq_true rfl)) dX11_held_5 ⟨Nat.le_of_ble_eq_true rfl, Nat.le_of_ble_eq_true rfl⟩) (fun r_5 hr_5 qr_5 => ?_)
  replace qr_5 : (r_5 = 1 ∧ 0 ≤ (h) ∧ (h) < (n)) ∨ (r_5 = 0 ∧ ¬ (0 ≤ (h) ∧ (h) < (n))) := qr_5
  refine x_if_eq (tgt := 22) hx hb (by omega) dX11_held_8 (by decide) (fun c_8 => ?_) (fun c_8 => ?_)
  · refine x_iconst hx hb dX11_held_22 ?_
    refine x_retP hx hb hr (by omega) ?_ dX11_held_23 hlocks
    unfold zHeldR
    repeat first | rw [if_pos (by omega)] | rw [if_neg (by omega)]
    try omega
  · refine lv_aload_n hx hb dX11_held_11 rfl (lv_at hl 0 rfl) ?_
    refine x_get (C := RX11) (T := TX11) (N := 11) hx hb hts hin_X11 hown hK hP (0) (by decide) hx0 rfl 0 (by decide) hw_0 (fun _ h9 => h9) rfl dX11_held_12 ?_
    refine lv_iload_n hx hb dX11_held_15 rfl (lv_at hl 1 rfl) ?_
    refine x_ci (va_runV (As := [.int (iI (h))]) (rest := []) ⟨hx, hb, hml, hown, hts⟩ (c_X7_holdersOf l g σ (1) (by decide) (n) (rd) P G ⟨hm0, hm1, hm2⟩ hok hH (h) (by omega)) (cwV 1 hts gX11_held_X7_holdersOf rfl rfl rfl (by decide +kernel) ⟨Nat.le_of_ble_eq_true rfl, Nat.le_of_ble_eq_true rfl⟩) (x_preV hK hP (x_recv hK hP (i := 1) (by decide) hm0 rfl)) rfl rfl hl.1 rfl (lv_room (Nat.le_of_ble_eq_true rfl)) dX11_held_16 ⟨Nat.le_of_ble_eq_true rfl, Nat.le_of_ble_eq_true rfl⟩) (fun r_16 hr_16 qr_16 => ?_)
    replace qr_16 : r_16 = zHold (sK σ (G)) (sF σ (G)) (P) (n) (rd) (h) := qr_16
    refine lv_goto (tgt := 23) hx hb dX11_held_19 (by decide) ?_
    refine x_retP hx hb hr (by omega) ?_ dX11_held_23 hlocks
    unfold zHeldR
    repeat first | rw [if_pos (by omega)] | rw [if_neg (by omega)]
    try omega

set_option maxHeartbeats 4000000 in
set_option maxRecDepth 100000 in
theorem c_X11_free (l : Launch) (g : xG) (σ : xS) (ph : Nat) (tk : Int) (hx0 : XObj g σ.1 ph tk) (n rd : Int) (P : Int → Int) (G : Int → Option Nat) (hst : StAt g σ.1 1 n rd P G) (hok : StOk σ n rd P G) (hH : HsOk σ) : Met l yX11_free wsX11_free ({ frames := 6, cells := 0, slots := 0, locals := 192 }) (va_Pc [.ref (g.2.2 0)] (xPre g σ)) (x_Si (fun r => r = zFreeN (sK σ G) (sF σ G) P n rd n.toNat)) (0) (0) (fun _ => False) := by
  refine Met.ofW (cc := cX11_free) (maxL := 3) (ret := (some .int)) (by decide) rfl ?_
  intro p e s m args below meth c s₁ B hml hv
  obtain ⟨rfl, hP, hK⟩ := hv
  have hx := B.exec
  have hb := B.bytes
  have hr := B.returns
  have hts := atoms_spec (ws := wsX11_free) B.pre
  have hown : s.vm.findClass RX11 = some m.cls := findClass_of_methodNamed B.named
  have hlocks := B.notSynchronized
  have hl := lv_entry ([.ref (g.2.2 0)]) (n := 3) (Nat.le_of_ble_eq_true rfl)
  rw [lg_entry_eq]
  generalize (lg_sl ([.ref (g.2.2 0)]) ++ List.replicate (3 - (lg_sl ([.ref (g.2.2 0)])).length) Slot.unset).toArray = ls at hl ⊢
  have hl : lv_has ls 3 [(0, .ref (g.2.2 0))] := hl
  have hm0 : σ.1 1 = .inr (7, [.ref (g.2.2 2), .ref (g.2.2 3), .int (iI n), .int (iI rd)]) := hst.1
  have hm1 : MRef g σ.1 2 9 G := hst.2.1
  have hm2 : MArr g σ.1 3 9 P := hst.2.2
  have hok1 := hok.1
  have hok2 := hok.2.1
  have hok3 := hok.2.2.1
  have hw_0 := hts (.fieldLink RX11 10 "TwiceAsRich" "street" "LTwiceAsRich$Street;") (by decide +kernel)
  have hin_X11 : ∀ w ∈ wsX110, w ∈ wsX11_free := by decide +kernel
  have hw_2 := hts (.fieldLink RX11 126 "TwiceAsRich$Street" "count" "I") (by decide +kernel)
  have hin_X7 : ∀ w ∈ wsX70, w ∈ wsX11_free := by decide +kernel
  have hw_4 := hts (.fieldLink RX11 103 "TwiceAsRich$Street" "purses" "[I") (by decide +kernel)
  refine x_iconst hx hb dX11_free_0 ?_
  refine lv_istore_n (lv' := [(1, .int (iI (0))), (0, .ref (g.2.2 0))]) hx hb dX11_free_1 rfl hl (by decide) rfl (fun ls hl => ?_)
  refine x_iconst hx hb dX11_free_2 ?_
  refine lv_istore_n (lv' := [(2, .int (iI (0))), (1, .int (iI (0))), (0, .ref (g.2.2 0))]) hx hb dX11_free_3 rfl hl (by decide) rfl (fun ls hl => ?_)
  have hloop_4 : ∀ (k : Nat) (set : Int) (i : Int), (n - i).toNat < k → (hi0 : 0 ≤ i) → (hin : i ≤ n) → (hset : set = zFreeN (sK σ G) (sF σ G) P n rd i.toNat) → (hsr : inR set) → ∀ (ls : Array Slot), lv_has ls 3 [(1, .int (iI (set))), (2, .int (iI (i))), (0, .ref (g.2.2 0))] → W p l e (headSpec wsX11_free ({ frames := 6, cells := 0, slots := 0, locals := 192 })).room s m ([.ref (g.2.2 0)] : List Value).toArray below meth c s.heap [] 0 0 (MQ below (x_Si (fun r => r = zFreeN (sK σ G) (sF σ G) P n rd n.toNat)) ([.ref (g.2.2 0)] : List Value).toArray s (0) (0) (fun _ => False)) (F0 m 4 ls []) := by
    intro k
    induction k with
    | zero =>
      intros; exact absurd (by assumption) (Nat.not_lt_zero _)
    | succ k ih =>
      intro set i hmeas hi0 hin hset hsr  ls hl
      have ih_1 := ih
      refine lv_iload_n hx hb dX11_free_4 rfl (lv_at hl 1 rfl) ?_
      refine lv_aload_n hx hb dX11_free_5 rfl (lv_at hl 2 rfl) ?_
      refine x_get (C := RX11) (T := TX11) (N := 11) hx hb hts hin_X11 hown hK hP (0) (by decide) hx0 rfl 0 (by decide) hw_0 (fun _ h9 => h9) rfl dX11_free_6 ?_
      refine x_get (C := RX7) (T := TX7) (N := 4) hx hb hts hin_X7 hown hK hP (1) (by decide) hm0 rfl 2 (by decide) hw_2 (fun _ h9 => h9) rfl dX11_free_9 ?_
      refine x_icmp_ge (tgt := 53) hx hb (by omega) (by omega) dX11_free_12 (by decide) (fun c_12 => ?_) (fun c_12 => ?_)
      · refine lv_iload_n hx hb dX11_free_53 rfl (lv_at hl 0 rfl) ?_
        refine x_retP hx hb hr (by omega) ?_ dX11_free_54 hlocks
        have e : n.toNat = i.toNat := by omega
        rw [e]; exact hset
      · refine lv_aload_n hx hb dX11_free_15 rfl (lv_at hl 2 rfl) ?_
        refine x_get (C := RX11) (T := TX11) (N := 11) hx hb hts hin_X11 hown hK hP (0) (by decide) hx0 rfl 0 (by decide) hw_0 (fun _ h9 => h9) rfl dX11_free_16 ?_
        refine x_get (C := RX7) (T := TX7) (N := 4) hx hb hts hin_X7 hown hK hP (1) (by decide) hm0 rfl 1 (by decide) hw_4 (fun _ h9 => h9) rfl dX11_free_19 ?_
        refine lv_iload_n hx hb dX11_free_22 rfl (lv_at hl 1 rfl) ?_
        refine x_iald (f := P) hx hb hK hP (3) (by decide) hm2 (by omega) (by omega) (by decide) dX11_free_23 ?_
        have hb_2 := hok.2.2.2.1 (i)
        refine x_sipush (n := 9999) hx hb (by decide +kernel) dX11_free_24 ?_
        refine x_icmp_ge (tgt := 47) hx hb (by omega) (by omega) dX11_free_27 (by decide) (fun c_27 => ?_) (fun c_27 => ?_)
        · refine x_iinc (k0 := 1) (lv' := [(2, .int (iI (i + 1))), (1, .int (iI (set))), (0, .ref (g.2.2 0))]) hx hb dX11_free_47 hl rfl (by decide) rfl (fun ls hl => ?_)
          refine lv_goto (tgt := 4) hx hb dX11_free_50 (by decide) ?_
          exact ih_1 (set) (i + 1) (by omega) (by omega) (by omega) (by rw [zFreeN_succ _ _ _ _ _ hi0, ← hset]; first | (rw [if_neg (by omega)]; done) | (rw [if_pos (by omega)]; done)) (by omega) ls (lv_sub hl [1, 0, 2] rfl)
        · refine lv_aload_n hx hb dX11_free_30 rfl (lv_at hl 2 rfl) ?_
          refine x_get (C := RX11) (T := TX11) (N := 11) hx hb hts hin_X11 hown hK hP (0) (by decide) hx0 rfl 0 (by decide) hw_0 (fun _ h9 => h9) rfl dX11_free_31 ?_
          refine lv_iload_n hx hb dX11_free_34 rfl (lv_at hl 1 rfl) ?_
          refine x_ci (va_runV (As := [.int (iI (i))]) (rest := []) ⟨hx, hb, hml, hown, hts⟩ (c_X7_holdersOf l g σ (1) (by decide) (n) (rd) P G ⟨hm0, hm1, hm2⟩ hok hH (i) (by omega)) (cwV 1 hts gX11_free_X7_holdersOf rfl rfl rfl (by decide +kernel) ⟨Nat.le_of_ble_eq_true rfl, Nat.le_of_ble_eq_true rfl⟩) (x_preV hK hP (x_recv hK hP (i := 1) (by decide) hm0 rfl)) rfl rfl hl.1 rfl (lv_room (Nat.le_of_ble_eq_true rfl)) dX11_free_35 ⟨Nat.le_of_ble_eq_true rfl, Nat.le_of_ble_eq_true rfl⟩) (fun r_35 hr_35 qr_35 => ?_)
          replace qr_35 : r_35 = zHold (sK σ (G)) (sF σ (G)) (P) (n) (rd) (i) := qr_35
          refine x_if_ne (tgt := 47) hx hb (by omega) dX11_free_38 (by decide) (fun c_38 => ?_) (fun c_38 => ?_)
          · refine x_iinc (k0 := 1) (lv' := [(2, .int (iI (i + 1))), (1, .int (iI (set))), (0, .ref (g.2.2 0))]) hx hb dX11_free_47 hl rfl (by decide) rfl (fun ls hl => ?_)
            refine lv_goto (tgt := 4) hx hb dX11_free_50 (by decide) ?_
            exact ih_1 (set) (i + 1) (by omega) (by omega) (by omega) (by rw [zFreeN_succ _ _ _ _ _ hi0, ← hset]; first | (rw [if_neg (by omega)]; done) | (rw [if_pos (by omega)]; done)) (by omega) ls (lv_sub hl [1, 0, 2] rfl)
          · refine lv_iload_n hx hb dX11_free_41 rfl (lv_at hl 0 rfl) ?_
            refine x_iconst hx hb dX11_free_42 ?_
            refine lv_iload_n hx hb dX11_free_43 rfl (lv_at hl 1 rfl) ?_
            refine x_ishl hx hb dX11_free_44 ?_
            have hb_3 := iShl_rng (1) (i)
            refine x_ior hx hb dX11_free_45 ?_
            have hb_4 := iOr_rng (set) (iShl (1) (i))
            refine lv_istore_n (lv' := [(1, .int (iI (iOr (set) (iShl (1) (i))))), (2, .int (iI (i))), (0, .ref (g.2.2 0))]) hx hb dX11_free_46 rfl hl (by decide) rfl (fun ls hl => ?_)
            refine x_iinc (k0 := 1) (lv' := [(2, .int (iI (i + 1))), (1, .int (iI (iOr (set) (iShl (1) (i))))), (0, .ref (g.2.2 0))]) hx hb dX11_free_47 hl rfl (by decide) rfl (fun ls hl => ?_)
            refine lv_goto (tgt := 4) hx hb dX11_free_50 (by decide) ?_
            exact ih_1 (iOr (set) (iShl (1) (i))) (i + 1) (by omega) (by omega) (by omega) (by rw [zFreeN_succ _ _ _ _ _ hi0, ← hset]; first | (rw [if_neg (by omega)]; done) | (rw [if_pos (by omega)]; done)) (by omega) ls (lv_sub hl [1, 0, 2] rfl)
  exact hloop_4 (((n - (0)).toNat) + 1) (0) (0) (by omega) (by omega) (by omega) (by rfl) (by omega) ls (lv_sub hl [1, 0, 2] rfl)

set_option maxHeartbeats 4000000 in
set_option maxRecDepth 100000 in
theorem c_X11_tax (l : Launch) (g : xG) (σ : xS) (ph : Nat) (tk : Int) (hx0 : XObj g σ.1 ph tk) (n rd : Int) (P : Int → Int) (G : Int → Option Nat) (hst : StAt g σ.1 1 n rd P G) (hok : StOk σ n rd P G) (hH : HsOk σ) (lv : Int) (hlv : inR lv) : Met l yX11_tax wsX11_tax ({ frames := 3, cells := 0, slots := 0, locals := 96 }) (va_Pc [.ref (g.2.2 0), .int (iI (lv))] (xPre g σ)) (x_Si (fun r => r = zTax P n lv)) (0) (0) (fun _ => False) := by
  refine Met.ofW (cc := cX11_tax) (maxL := 4) (ret := (some .int)) (by decide) rfl ?_
  intro p e s m args below meth c s₁ B hml hv
  obtain ⟨rfl, hP, hK⟩ := hv
  have hx := B.exec
  have hb := B.bytes
  have hr := B.returns
  have hts := atoms_spec (ws := wsX11_tax) B.pre
  have hown : s.vm.findClass RX11 = some m.cls := findClass_of_methodNamed B.named
  have hlocks := B.notSynchronized
  have hl := lv_entry ([.ref (g.2.2 0), .int (iI (lv))]) (n := 4) (Nat.le_of_ble_eq_true rfl)
  rw [lg_entry_eq]
  generalize (lg_sl ([.ref (g.2.2 0), .int (iI (lv))]) ++ List.replicate (4 - (lg_sl ([.ref (g.2.2 0), .int (iI (lv))])).length) Slot.unset).toArray = ls at hl ⊢
  have hl : lv_has ls 4 [(0, .ref (g.2.2 0)), (1, .int (iI (lv)))] := hl
  have hm0 : σ.1 1 = .inr (7, [.ref (g.2.2 2), .ref (g.2.2 3), .int (iI n), .int (iI rd)]) := hst.1
  have hm1 : MRef g σ.1 2 9 G := hst.2.1
  have hm2 : MArr g σ.1 3 9 P := hst.2.2
  have hok1 := hok.1
  have hok2 := hok.2.1
  have hok3 := hok.2.2.1
  have hw_0 := hts (.fieldLink RX11 10 "TwiceAsRich" "street" "LTwiceAsRich$Street;") (by decide +kernel)
  have hin_X11 : ∀ w ∈ wsX110, w ∈ wsX11_tax := by decide +kernel
  have hw_2 := hts (.fieldLink RX11 126 "TwiceAsRich$Street" "count" "I") (by decide +kernel)
  have hin_X7 : ∀ w ∈ wsX70, w ∈ wsX11_tax := by decide +kernel
  have hw_4 := hts (.fieldLink RX11 103 "TwiceAsRich$Street" "purses" "[I") (by decide +kernel)
  have hw_5 := hts (.methodLink RX11 184 Lib.Math.min.name) (by decide +kernel)
  have hw_6 := hts (.static Lib.Math.min.name) (by decide +kernel)
  have hw_7 := hts (.initialized "java/lang/Math") (by decide +kernel)
  have hw_8 := hts (.code Lib.Math.min.name Lib.Math.min.code 2 (some .int)) (by decide +kernel)
  refine lv_iload_n hx hb dX11_tax_0 rfl (lv_at hl 1 rfl) ?_
  refine x_ci (va_runS (As := [.int (iI (lv))]) (rest := []) ⟨hx, hb, hml, hown, hts⟩ (c_X11_isPurse l g σ  (lv) (by omega)) (va_cwS 1 hts gX11_tax_X11_isPurse rfl rfl rfl (by decide +kernel) ⟨Nat.le_of_ble_eq_true rfl, Nat.le_of_ble_eq_true rfl⟩) (x_preS hK hP) rfl rfl hl.1 rfl (lv_room (Nat.le_of_ble_eq_true rfl)) dX11_tax_1 ⟨Nat.le_of_ble_eq_true rfl, Nat.le_of_ble_eq_true rfl⟩) (fun r_1 hr_1 qr_1 => ?_)
  replace qr_1 : (r_1 = 1 ∧ 0 ≤ (lv) ∧ (lv) ≤ 9999) ∨ (r_1 = 0 ∧ ¬ (0 ≤ (lv) ∧ (lv) ≤ 9999)) := qr_1
  refine x_if_ne (tgt := 9) hx hb (by omega) dX11_tax_4 (by decide) (fun c_4 => ?_) (fun c_4 => ?_)
  · refine x_iconst hx hb dX11_tax_9 ?_
    refine lv_istore_n (lv' := [(2, .int (iI (0))), (0, .ref (g.2.2 0)), (1, .int (iI (lv)))]) hx hb dX11_tax_10 rfl hl (by decide) rfl (fun ls hl => ?_)
    refine x_iconst hx hb dX11_tax_11 ?_
    refine lv_istore_n (lv' := [(3, .int (iI (0))), (2, .int (iI (0))), (0, .ref (g.2.2 0)), (1, .int (iI (lv)))]) hx hb dX11_tax_12 rfl hl (by decide) rfl (fun ls hl => ?_)
    have hloop_13 : ∀ (k : Nat) (i : Int) (all : Int), (n - i).toNat < k → (hi0 : 0 ≤ i) → (hin : i ≤ n) → (hall : all = zSum (fun i => min (P i) lv) i.toNat) → (hrng : 0 ≤ all ∧ all ≤ 9999 * i) → ∀ (ls : Array Slot), lv_has ls 4 [(3, .int (iI (i))), (2, .int (iI (all))), (0, .ref (g.2.2 0)), (1, .int (iI (lv)))] → W p l e (headSpec wsX11_tax ({ frames := 3, cells := 0, slots := 0, locals := 96 })).room s m ([.ref (g.2.2 0), .int (iI (lv))] : List Value).toArray below meth c s.heap [] 0 0 (MQ below (x_Si (fun r => r = zTax P n lv)) ([.ref (g.2.2 0), .int (iI (lv))] : List Value).toArray s (0) (0) (fun _ => False)) (F0 m 13 ls []) := by
      intro k
      induction k with
      | zero =>
        intros; exact absurd (by assumption) (Nat.not_lt_zero _)
      | succ k ih =>
        intro i all hmeas hi0 hin hall hrng  ls hl
        have ih_1 := ih
        refine lv_iload_n hx hb dX11_tax_13 rfl (lv_at hl 0 rfl) ?_
        refine lv_aload_n hx hb dX11_tax_14 rfl (lv_at hl 2 rfl) ?_
        refine x_get (C := RX11) (T := TX11) (N := 11) hx hb hts hin_X11 hown hK hP (0) (by decide) hx0 rfl 0 (by decide) hw_0 (fun _ h9 => h9) rfl dX11_tax_15 ?_
        refine x_get (C := RX7) (T := TX7) (N := 4) hx hb hts hin_X7 hown hK hP (1) (by decide) hm0 rfl 2 (by decide) hw_2 (fun _ h9 => h9) rfl dX11_tax_18 ?_
        refine x_icmp_ge (tgt := 46) hx hb (by omega) (by omega) dX11_tax_21 (by decide) (fun c_21 => ?_) (fun c_21 => ?_)
        · refine lv_iload_n hx hb dX11_tax_46 rfl (lv_at hl 1 rfl) ?_
          refine x_retP hx hb hr (by omega) ?_ dX11_tax_47 hlocks
          unfold zTax
          repeat first | rw [if_pos (by omega)] | rw [if_neg (by omega)]
          have e : n.toNat = i.toNat := by omega
          rw [e]; exact hall
        · refine lv_iload_n hx hb dX11_tax_24 rfl (lv_at hl 1 rfl) ?_
          refine lv_aload_n hx hb dX11_tax_25 rfl (lv_at hl 2 rfl) ?_
          refine x_get (C := RX11) (T := TX11) (N := 11) hx hb hts hin_X11 hown hK hP (0) (by decide) hx0 rfl 0 (by decide) hw_0 (fun _ h9 => h9) rfl dX11_tax_26 ?_
          refine x_get (C := RX7) (T := TX7) (N := 4) hx hb hts hin_X7 hown hK hP (1) (by decide) hm0 rfl 1 (by decide) hw_4 (fun _ h9 => h9) rfl dX11_tax_29 ?_
          refine lv_iload_n hx hb dX11_tax_32 rfl (lv_at hl 0 rfl) ?_
          have hq9 := (hok.2.2.2.2.2 i (by omega) (by omega)).2
          refine x_iald (f := P) hx hb hK hP (3) (by decide) hm2 (by omega) (by omega) (by decide) dX11_tax_33 ?_
          have hb_2 := hok.2.2.2.1 (i)
          refine lv_iload_n hx hb dX11_tax_34 rfl (lv_at hl 3 rfl) ?_
          refine x_min hx hb (hml.trans hl.1.symm) hown hw_5 hw_6 hw_7 hw_8 (Nat.le_of_ble_eq_true rfl) (Nat.le_of_ble_eq_true rfl) (Nat.le_of_ble_eq_true rfl) (Nat.le_of_ble_eq_true rfl) (by omega) (by omega) dX11_tax_35 (fun q_3 hq_3 => ?_)
          refine x_iadd hx hb dX11_tax_38 ?_
          refine lv_istore_n (lv' := [(2, .int (iI (all + q_3))), (3, .int (iI (i))), (0, .ref (g.2.2 0)), (1, .int (iI (lv)))]) hx hb dX11_tax_39 rfl hl (by decide) rfl (fun ls hl => ?_)
          refine x_iinc (k0 := 1) (lv' := [(3, .int (iI (i + 1))), (2, .int (iI (all + q_3))), (0, .ref (g.2.2 0)), (1, .int (iI (lv)))]) hx hb dX11_tax_40 hl rfl (by decide) rfl (fun ls hl => ?_)
          refine lv_goto (tgt := 13) hx hb dX11_tax_43 (by decide) ?_
          exact ih_1 (i + 1) (all + q_3) (by omega) (by omega) (by omega) (by rw [zSum_succ _ hi0, ← hall]; omega) (by omega) ls (lv_sub hl [0, 1, 2, 3] rfl)
    exact hloop_13 (((n - (0)).toNat) + 1) (0) (0) (by omega) (by omega) (by omega) (by rfl) (by omega) ls (lv_sub hl [0, 1, 2, 3] rfl)
  · refine x_iconst hx hb dX11_tax_7 ?_
    refine x_retP hx hb hr (by omega) ?_ dX11_tax_8 hlocks
    unfold zTax
    repeat first | rw [if_pos (by omega)] | rw [if_neg (by omega)]

set_option maxHeartbeats 4000000 in
set_option maxRecDepth 100000 in
theorem c_X11_count (l : Launch) (g : xG) (σ : xS) (ph : Nat) (tk : Int) (hx0 : XObj g σ.1 ph tk) (n rd : Int) (P : Int → Int) (G : Int → Option Nat) (hst : StAt g σ.1 1 n rd P G) (hok : StOk σ n rd P G) (hH : HsOk σ) (wh : Int) (hw : inR wh) : Met l yX11_count wsX11_count ({ frames := 7, cells := 0, slots := 0, locals := 224 }) (va_Pc [.ref (g.2.2 0), .int (iI (wh))] (xPre g σ)) (x_Si (fun r => r = zCount (sK σ G) (sF σ G) P n rd wh)) (0) (0) (fun _ => False) := by
  refine Met.ofW (cc := cX11_count) (maxL := 2) (ret := (some .int)) (by decide) rfl ?_
  intro p e s m args below meth c s₁ B hml hv
  obtain ⟨rfl, hP, hK⟩ := hv
  have hx := B.exec
  have hb := B.bytes
  have hr := B.returns
  have hts := atoms_spec (ws := wsX11_count) B.pre
  have hown : s.vm.findClass RX11 = some m.cls := findClass_of_methodNamed B.named
  have hlocks := B.notSynchronized
  have hl := lv_entry ([.ref (g.2.2 0), .int (iI (wh))]) (n := 2) (Nat.le_of_ble_eq_true rfl)
  rw [lg_entry_eq]
  generalize (lg_sl ([.ref (g.2.2 0), .int (iI (wh))]) ++ List.replicate (2 - (lg_sl ([.ref (g.2.2 0), .int (iI (wh))])).length) Slot.unset).toArray = ls at hl ⊢
  have hl : lv_has ls 2 [(0, .ref (g.2.2 0)), (1, .int (iI (wh)))] := hl
  have hm0 : σ.1 1 = .inr (7, [.ref (g.2.2 2), .ref (g.2.2 3), .int (iI n), .int (iI rd)]) := hst.1
  have hm1 : MRef g σ.1 2 9 G := hst.2.1
  have hm2 : MArr g σ.1 3 9 P := hst.2.2
  have hok1 := hok.1
  have hok2 := hok.2.1
  have hok3 := hok.2.2.1
  have hw_0 := hts (.fieldLink RX11 10 "TwiceAsRich" "street" "LTwiceAsRich$Street;") (by decide +kernel)
  have hin_X11 : ∀ w ∈ wsX110, w ∈ wsX11_count := by decide +kernel
  have hw_2 := hts (.fieldLink RX11 126 "TwiceAsRich$Street" "count" "I") (by decide +kernel)
  have hin_X7 : ∀ w ∈ wsX70, w ∈ wsX11_count := by decide +kernel
  have hw_4 := hts (.fieldLink RX11 133 "TwiceAsRich$Street" "round" "I") (by decide +kernel)
  refine lv_iload_n hx hb dX11_count_0 rfl (lv_at hl 1 rfl) ?_
  have c_1 : wh = 0 ∨ wh = 1 ∨ wh = 2 ∨ wh = 3 ∨ (wh ≠ 0 ∧ wh ≠ 1 ∧ wh ≠ 2 ∧ wh ≠ 3) := by omega
  rcases c_1 with c_1 | c_1 | c_1 | c_1 | c_1
  · refine x_tabIn (z := 0) (tgt := 32) hx hb c_1 (by decide) dX11_count_1 (by decide) (by decide) rfl (by decide) ?_
    refine lv_aload_n hx hb dX11_count_32 rfl (lv_at hl 0 rfl) ?_
    refine x_get (C := RX11) (T := TX11) (N := 11) hx hb hts hin_X11 hown hK hP (0) (by decide) hx0 rfl 0 (by decide) hw_0 (fun _ h9 => h9) rfl dX11_count_33 ?_
    refine x_get (C := RX7) (T := TX7) (N := 4) hx hb hts hin_X7 hown hK hP (1) (by decide) hm0 rfl 2 (by decide) hw_2 (fun _ h9 => h9) rfl dX11_count_36 ?_
    refine x_retP hx hb hr (by omega) ?_ dX11_count_39 hlocks
    unfold zCount
    repeat first | rw [if_pos (by omega)] | rw [if_neg (by omega)]
    try omega
  · refine x_tabIn (z := 1) (tgt := 40) hx hb c_1 (by decide) dX11_count_1 (by decide) (by decide) rfl (by decide) ?_
    refine lv_aload_n hx hb dX11_count_40 rfl (lv_at hl 0 rfl) ?_
    refine x_get (C := RX11) (T := TX11) (N := 11) hx hb hts hin_X11 hown hK hP (0) (by decide) hx0 rfl 0 (by decide) hw_0 (fun _ h9 => h9) rfl dX11_count_41 ?_
    refine x_get (C := RX7) (T := TX7) (N := 4) hx hb hts hin_X7 hown hK hP (1) (by decide) hm0 rfl 3 (by decide) hw_4 (fun _ h9 => h9) rfl dX11_count_44 ?_
    refine x_retP hx hb hr (by omega) ?_ dX11_count_47 hlocks
    unfold zCount
    repeat first | rw [if_pos (by omega)] | rw [if_neg (by omega)]
    try omega
  · refine x_tabIn (z := 2) (tgt := 48) hx hb c_1 (by decide) dX11_count_1 (by decide) (by decide) rfl (by decide) ?_
    refine lv_aload_n hx hb dX11_count_48 rfl (lv_at hl 0 rfl) ?_
    refine x_get (C := RX11) (T := TX11) (N := 11) hx hb hts hin_X11 hown hK hP (0) (by decide) hx0 rfl 0 (by decide) hw_0 (fun _ h9 => h9) rfl dX11_count_49 ?_
    refine x_ci (va_runV (As := []) (rest := []) ⟨hx, hb, hml, hown, hts⟩ (c_X7_allCoins l g σ (1) (by decide) (n) (rd) P G ⟨hm0, hm1, hm2⟩ hok hH ) (cwV 0 hts gX11_count_X7_allCoins rfl rfl rfl (by decide +kernel) ⟨Nat.le_of_ble_eq_true rfl, Nat.le_of_ble_eq_true rfl⟩) (x_preV hK hP (x_recv hK hP (i := 1) (by decide) hm0 rfl)) rfl rfl hl.1 rfl (lv_room (Nat.le_of_ble_eq_true rfl)) dX11_count_52 ⟨Nat.le_of_ble_eq_true rfl, Nat.le_of_ble_eq_true rfl⟩) (fun r_52 hr_52 qr_52 => ?_)
    replace qr_52 : r_52 = zSum (P) ((n)).toNat ∧ 0 ≤ r_52 ∧ r_52 ≤ 99999 := qr_52
    refine x_retP hx hb hr (by omega) ?_ dX11_count_55 hlocks
    unfold zCount
    repeat first | rw [if_pos (by omega)] | rw [if_neg (by omega)]
    try omega
  · refine x_tabIn (z := 3) (tgt := 56) hx hb c_1 (by decide) dX11_count_1 (by decide) (by decide) rfl (by decide) ?_
    refine lv_aload_n hx hb dX11_count_56 rfl (lv_at hl 0 rfl) ?_
    refine x_get (C := RX11) (T := TX11) (N := 11) hx hb hts hin_X11 hown hK hP (0) (by decide) hx0 rfl 0 (by decide) hw_0 (fun _ h9 => h9) rfl dX11_count_57 ?_
    refine x_ci (va_runV (As := []) (rest := []) ⟨hx, hb, hml, hown, hts⟩ (c_X7_housesWithoutBreach l g σ (1) (by decide) (n) (rd) P G ⟨hm0, hm1, hm2⟩ hok hH ) (cwV 0 hts gX11_count_X7_housesWithoutBreach rfl rfl rfl (by decide +kernel) ⟨Nat.le_of_ble_eq_true rfl, Nat.le_of_ble_eq_true rfl⟩) (x_preV hK hP (x_recv hK hP (i := 1) (by decide) hm0 rfl)) rfl rfl hl.1 rfl (lv_room (Nat.le_of_ble_eq_true rfl)) dX11_count_60 ⟨Nat.le_of_ble_eq_true rfl, Nat.le_of_ble_eq_true rfl⟩) (fun r_60 hr_60 qr_60 => ?_)
    replace qr_60 : r_60 = zNone (sK σ (G)) (sF σ (G)) (P) (n) (rd) := qr_60
    refine x_retP hx hb hr (by omega) ?_ dX11_count_63 hlocks
    unfold zCount
    repeat first | rw [if_pos (by omega)] | rw [if_neg (by omega)]
    try omega
  · refine x_tabOut (tgt := 64) hx hb (by omega) dX11_count_1 (by omega) (by decide) ?_
    refine x_iconst hx hb dX11_count_64 ?_
    refine x_retP hx hb hr (by omega) ?_ dX11_count_65 hlocks
    unfold zCount
    repeat first | rw [if_pos (by omega)] | rw [if_neg (by omega)]
    try omega

set_option maxHeartbeats 4000000 in
set_option maxRecDepth 100000 in
theorem c_X11_house (l : Launch) (g : xG) (σ : xS) (ph : Nat) (tk : Int) (hx0 : XObj g σ.1 ph tk) (n rd : Int) (P : Int → Int) (G : Int → Option Nat) (hst : StAt g σ.1 1 n rd P G) (hok : StOk σ n rd P G) (hH : HsOk σ) (h : Int) (hh : inR h) (wh : Int) (hw : inR wh) : Met l yX11_house wsX11_house ({ frames := 6, cells := 0, slots := 0, locals := 192 }) (va_Pc [.ref (g.2.2 0), .int (iI (h)), .int (iI (wh))] (xPre g σ)) (x_Si (fun r => r = zHouse (sK σ G) (sF σ G) P n rd h wh)) (0) (0) (fun _ => False) := by
  refine Met.ofW (cc := cX11_house) (maxL := 4) (ret := (some .int)) (by decide) rfl ?_
  intro p e s m args below meth c s₁ B hml hv
  obtain ⟨rfl, hP, hK⟩ := hv
  have hx := B.exec
  have hb := B.bytes
  have hr := B.returns
  have hts := atoms_spec (ws := wsX11_house) B.pre
  have hown : s.vm.findClass RX11 = some m.cls := findClass_of_methodNamed B.named
  have hlocks := B.notSynchronized
  have hl := lv_entry ([.ref (g.2.2 0), .int (iI (h)), .int (iI (wh))]) (n := 4) (Nat.le_of_ble_eq_true rfl)
  rw [lg_entry_eq]
  generalize (lg_sl ([.ref (g.2.2 0), .int (iI (h)), .int (iI (wh))]) ++ List.replicate (4 - (lg_sl ([.ref (g.2.2 0), .int (iI (h)), .int (iI (wh))])).length) Slot.unset).toArray = ls at hl ⊢
  have hl : lv_has ls 4 [(0, .ref (g.2.2 0)), (1, .int (iI (h))), (2, .int (iI (wh)))] := hl
  have hm0 : σ.1 1 = .inr (7, [.ref (g.2.2 2), .ref (g.2.2 3), .int (iI n), .int (iI rd)]) := hst.1
  have hm1 : MRef g σ.1 2 9 G := hst.2.1
  have hm2 : MArr g σ.1 3 9 P := hst.2.2
  have hok1 := hok.1
  have hok2 := hok.2.1
  have hok3 := hok.2.2.1
  have hw_0 := hts (.fieldLink RX11 10 "TwiceAsRich" "street" "LTwiceAsRich$Street;") (by decide +kernel)
  have hin_X11 : ∀ w ∈ wsX110, w ∈ wsX11_house := by decide +kernel
  have hw_2 := hts (.fieldLink RX11 93 "TwiceAsRich$Street" "houses" "[LTwiceAsRich$House;") (by decide +kernel)
  have hin_X7 : ∀ w ∈ wsX70, w ∈ wsX11_house := by decide +kernel
  have hw_4 := (show (Cond.code yX3_kind cX3_kind 1 (some .int)) ∈ wsX11_house by decide +kernel)
  have hw_5 := hts (.fieldLink RX11 99 "TwiceAsRich$House" "figure" "I") (by decide +kernel)
  have hinH := (show ∀ q ∈ hCls, ∀ w ∈ u_ws q.1 q.2.1 q.2.2, w ∈ wsX11_house by decide +kernel)
  have hw_7 := hts (.fieldLink RX11 103 "TwiceAsRich$Street" "purses" "[I") (by decide +kernel)
  have hw_8 := (show (Cond.code yX3_isLookedAt cX3_isLookedAt 1 (some .boolean)) ∈ wsX11_house by decide +kernel)
  have hw_9 := (show (Cond.code yX3_shownOf cX3_shownOf 2 (some .int)) ∈ wsX11_house by decide +kernel)
  have hw_10 := (show (Cond.code yX3_weekly cX3_weekly 1 (some .int)) ∈ wsX11_house by decide +kernel)
  refine lv_aload_n hx hb dX11_house_0 rfl (lv_at hl 0 rfl) ?_
  refine x_get (C := RX11) (T := TX11) (N := 11) hx hb hts hin_X11 hown hK hP (0) (by decide) hx0 rfl 0 (by decide) hw_0 (fun _ h9 => h9) rfl dX11_house_1 ?_
  refine lv_iload_n hx hb dX11_house_4 rfl (lv_at hl 1 rfl) ?_
  refine x_ci (va_runV (As := [.int (iI (h))]) (rest := []) ⟨hx, hb, hml, hown, hts⟩ (c_X7_has l g σ (1) (by decide) (n) (rd) P G ⟨hm0, hm1, hm2⟩ hok hH (h) (by omega)) (cwV 1 hts gX11_house_X7_has rfl rfl rfl (by decide +kernel) ⟨Nat.le_of_ble_eq_true rfl, Nat.le_of_ble_eq_true rfl⟩) (x_preV hK hP (x_recv hK hP (i := 1) (by decide) hm0 rfl)) rfl rfl hl.1 rfl (lv_room (Nat.le_of_ble_eq_true rfl)) dX11_house_5 ⟨Nat.le_of_ble_eq_true rfl, Nat.le_of_ble_eq_true rfl⟩) (fun r_5 hr_5 qr_5 => ?_)
  replace qr_5 : (r_5 = 1 ∧ 0 ≤ (h) ∧ (h) < (n)) ∨ (r_5 = 0 ∧ ¬ (0 ≤ (h) ∧ (h) < (n))) := qr_5
  refine x_if_ne (tgt := 13) hx hb (by omega) dX11_house_8 (by decide) (fun c_8 => ?_) (fun c_8 => ?_)
  · refine lv_aload_n hx hb dX11_house_13 rfl (lv_at hl 0 rfl) ?_
    refine x_get (C := RX11) (T := TX11) (N := 11) hx hb hts hin_X11 hown hK hP (0) (by decide) hx0 rfl 0 (by decide) hw_0 (fun _ h9 => h9) rfl dX11_house_14 ?_
    refine x_get (C := RX7) (T := TX7) (N := 4) hx hb hts hin_X7 hown hK hP (1) (by decide) hm0 rfl 0 (by decide) hw_2 (fun _ h9 => h9) rfl dX11_house_17 ?_
    refine lv_iload_n hx hb dX11_house_20 rfl (lv_at hl 1 rfl) ?_
    obtain ⟨a_1, hG_a_1⟩ := (hok.2.2.2.2.2 (h) (by omega) (by omega)).1
    have ha_a_1 := hok.2.2.2.2.1 _ _ hG_a_1
    refine x_aaldS (C := RX3) (f := G) 1 hx hb hK hP (2) (by decide) hm1 rfl (by omega) (by omega) (by decide) hG_a_1 dX11_house_21 ?_
    have eK : sK σ G h = σ.2.2.1 a_1 := by simp only [sK, kdO, hG_a_1]
    have eF : sF σ G h = σ.2.2.2 a_1 := by simp only [sF, fgO, hG_a_1]
    have hb9 := hH a_1 ha_a_1
    have hp9 := (hok.2.2.2.2.2 h (by omega) (by omega)).2
    refine lv_astore_n (lv' := [(3, .ref a_1), (0, .ref (g.2.2 0)), (1, .int (iI (h))), (2, .int (iI (wh)))]) hx hb dX11_house_22 rfl hl (by decide) rfl (fun ls hl => ?_)
    refine lv_iload_n hx hb dX11_house_23 rfl (lv_at hl 3 rfl) ?_
    have c_24 : wh = 0 ∨ wh = 1 ∨ wh = 2 ∨ wh = 3 ∨ wh = 4 ∨ wh = 5 ∨ (wh ≠ 0 ∧ wh ≠ 1 ∧ wh ≠ 2 ∧ wh ≠ 3 ∧ wh ≠ 4 ∧ wh ≠ 5) := by omega
    rcases c_24 with c_24 | c_24 | c_24 | c_24 | c_24 | c_24 | c_24
    · refine x_tabIn (z := 0) (tgt := 64) hx hb c_24 (by decide) dX11_house_24 (by decide) (by decide) rfl (by decide) ?_
      refine lv_aload_n hx hb dX11_house_64 rfl (lv_at hl 0 rfl) ?_
      refine x_ci (rest := []) (a := ([.ref a_1] : List Value).toArray) (post := fun r => r = ((σ.2.2.1 a_1 : Nat) : Int)) (by
        have hk0 := (hH a_1 ha_a_1).1
        have hk : σ.2.2.1 a_1 = 0 ∨ σ.2.2.1 a_1 = 1 ∨ σ.2.2.1 a_1 = 2 ∨ σ.2.2.1 a_1 = 3 ∨ σ.2.2.1 a_1 = 4 ∨ σ.2.2.1 a_1 = 5 ∨ σ.2.2.1 a_1 = 6 ∨ σ.2.2.1 a_1 = 7 := by omega
        rcases hk with hk | hk | hk | hk | hk | hk | hk | hk
        · exact x_run_mono (va_runV (As := []) (rest := []) ⟨hx, hb, hml, hown, hts⟩ (c_X3_kind l g σ hH a_1 ha_a_1) (cwV 0 hts gX11_house_X3_kind rfl rfl rfl (by decide +kernel) ⟨Nat.le_of_ble_eq_true rfl, Nat.le_of_ble_eq_true rfl⟩) (x_preV hK hP (x_recvH (q := (RX3, TX3, 1)) hK hP ha_a_1 (by rw [hk]; rfl))) rfl rfl hl.1 rfl (lv_room (Nat.le_of_ble_eq_true rfl)) dX11_house_65 ⟨Nat.le_of_ble_eq_true rfl, Nat.le_of_ble_eq_true rfl⟩) (fun r hr => hr.trans (by rw [hk]; rfl))
        · exact x_run_mono (va_runU (As := []) (rest := []) ⟨hx, hb, hml, hown, hts⟩ (c_X2_kind l g σ hH a_1 ha_a_1) (va_cwO 0 hts gX11_house_X2_kind_u96X2 rfl rfl rfl (b0 := cX3_kind) (m0 := 1) (r0 := (some .int)) hw_4 (by decide +kernel) ⟨Nat.le_of_ble_eq_true rfl, Nat.le_of_ble_eq_true rfl⟩) (x_preV hK hP (x_recvH (q := (RX2, TX2, 1)) hK hP ha_a_1 (by rw [hk]; rfl))) rfl rfl hl.1 rfl (lv_room (Nat.le_of_ble_eq_true rfl)) dX11_house_65 ⟨Nat.le_of_ble_eq_true rfl, Nat.le_of_ble_eq_true rfl⟩) (fun r hr => hr.trans (by rw [hk]; rfl))
        · exact x_run_mono (va_runU (As := []) (rest := []) ⟨hx, hb, hml, hown, hts⟩ (c_X6_kind l g σ hH a_1 ha_a_1) (va_cwO 0 hts gX11_house_X6_kind_u96X6 rfl rfl rfl (b0 := cX3_kind) (m0 := 1) (r0 := (some .int)) hw_4 (by decide +kernel) ⟨Nat.le_of_ble_eq_true rfl, Nat.le_of_ble_eq_true rfl⟩) (x_preV hK hP (x_recvH (q := (RX6, TX6, 1)) hK hP ha_a_1 (by rw [hk]; rfl))) rfl rfl hl.1 rfl (lv_room (Nat.le_of_ble_eq_true rfl)) dX11_house_65 ⟨Nat.le_of_ble_eq_true rfl, Nat.le_of_ble_eq_true rfl⟩) (fun r hr => hr.trans (by rw [hk]; rfl))
        · exact x_run_mono (va_runU (As := []) (rest := []) ⟨hx, hb, hml, hown, hts⟩ (c_X10_kind l g σ hH a_1 ha_a_1) (va_cwO 0 hts gX11_house_X10_kind_u96X10 rfl rfl rfl (b0 := cX3_kind) (m0 := 1) (r0 := (some .int)) hw_4 (by decide +kernel) ⟨Nat.le_of_ble_eq_true rfl, Nat.le_of_ble_eq_true rfl⟩) (x_preV hK hP (x_recvH (q := (RX10, TX10, 1)) hK hP ha_a_1 (by rw [hk]; rfl))) rfl rfl hl.1 rfl (lv_room (Nat.le_of_ble_eq_true rfl)) dX11_house_65 ⟨Nat.le_of_ble_eq_true rfl, Nat.le_of_ble_eq_true rfl⟩) (fun r hr => hr.trans (by rw [hk]; rfl))
        · exact x_run_mono (va_runU (As := []) (rest := []) ⟨hx, hb, hml, hown, hts⟩ (c_X4_kind l g σ hH a_1 ha_a_1) (va_cwO 0 hts gX11_house_X4_kind_u96X4 rfl rfl rfl (b0 := cX3_kind) (m0 := 1) (r0 := (some .int)) hw_4 (by decide +kernel) ⟨Nat.le_of_ble_eq_true rfl, Nat.le_of_ble_eq_true rfl⟩) (x_preV hK hP (x_recvH (q := (RX4, TX4, 1)) hK hP ha_a_1 (by rw [hk]; rfl))) rfl rfl hl.1 rfl (lv_room (Nat.le_of_ble_eq_true rfl)) dX11_house_65 ⟨Nat.le_of_ble_eq_true rfl, Nat.le_of_ble_eq_true rfl⟩) (fun r hr => hr.trans (by rw [hk]; rfl))
        · exact x_run_mono (va_runU (As := []) (rest := []) ⟨hx, hb, hml, hown, hts⟩ (c_X0_kind l g σ hH a_1 ha_a_1) (va_cwO 0 hts gX11_house_X0_kind_u96X0 rfl rfl rfl (b0 := cX3_kind) (m0 := 1) (r0 := (some .int)) hw_4 (by decide +kernel) ⟨Nat.le_of_ble_eq_true rfl, Nat.le_of_ble_eq_true rfl⟩) (x_preV hK hP (x_recvH (q := (RX0, TX0, 1)) hK hP ha_a_1 (by rw [hk]; rfl))) rfl rfl hl.1 rfl (lv_room (Nat.le_of_ble_eq_true rfl)) dX11_house_65 ⟨Nat.le_of_ble_eq_true rfl, Nat.le_of_ble_eq_true rfl⟩) (fun r hr => hr.trans (by rw [hk]; rfl))
        · exact x_run_mono (va_runU (As := []) (rest := []) ⟨hx, hb, hml, hown, hts⟩ (c_X9_kind l g σ hH a_1 ha_a_1) (va_cwO 0 hts gX11_house_X9_kind_u96X9 rfl rfl rfl (b0 := cX3_kind) (m0 := 1) (r0 := (some .int)) hw_4 (by decide +kernel) ⟨Nat.le_of_ble_eq_true rfl, Nat.le_of_ble_eq_true rfl⟩) (x_preV hK hP (x_recvH (q := (RX9, TX9, 1)) hK hP ha_a_1 (by rw [hk]; rfl))) rfl rfl hl.1 rfl (lv_room (Nat.le_of_ble_eq_true rfl)) dX11_house_65 ⟨Nat.le_of_ble_eq_true rfl, Nat.le_of_ble_eq_true rfl⟩) (fun r hr => hr.trans (by rw [hk]; rfl))
        · exact x_run_mono (va_runU (As := []) (rest := []) ⟨hx, hb, hml, hown, hts⟩ (c_X1_kind l g σ hH a_1 ha_a_1) (va_cwO 0 hts gX11_house_X1_kind_u96X1 rfl rfl rfl (b0 := cX3_kind) (m0 := 1) (r0 := (some .int)) hw_4 (by decide +kernel) ⟨Nat.le_of_ble_eq_true rfl, Nat.le_of_ble_eq_true rfl⟩) (x_preV hK hP (x_recvH (q := (RX1, TX1, 1)) hK hP ha_a_1 (by rw [hk]; rfl))) rfl rfl hl.1 rfl (lv_room (Nat.le_of_ble_eq_true rfl)) dX11_house_65 ⟨Nat.le_of_ble_eq_true rfl, Nat.le_of_ble_eq_true rfl⟩) (fun r hr => hr.trans (by rw [hk]; rfl))) (fun r_65 hr_65 qr_65 => ?_)
      replace qr_65 : r_65 = ((σ.2.2.1 a_1 : Nat) : Int) := qr_65
      have br_65 := (hH a_1 ha_a_1).1
      refine x_retP hx hb hr (by omega) ?_ dX11_house_68 hlocks
      unfold zHouse
      repeat first | rw [if_pos (by omega)] | rw [if_neg (by omega)]
      try rw [eK]
      try rw [eF]
      repeat first | rw [if_pos (by omega)] | rw [if_neg (by omega)]
      try first | rfl | omega
    · refine x_tabIn (z := 1) (tgt := 69) hx hb c_24 (by decide) dX11_house_24 (by decide) (by decide) rfl (by decide) ?_
      refine lv_aload_n hx hb dX11_house_69 rfl (lv_at hl 0 rfl) ?_
      refine x_fig hx hb hts hinH hown hK hP ha_a_1 hw_5 (fun _ h9 => h9) dX11_house_70 ?_
      refine x_retP hx hb hr (by omega) ?_ dX11_house_73 hlocks
      unfold zHouse
      repeat first | rw [if_pos (by omega)] | rw [if_neg (by omega)]
      try rw [eK]
      try rw [eF]
      repeat first | rw [if_pos (by omega)] | rw [if_neg (by omega)]
      try first | rfl | omega
    · refine x_tabIn (z := 2) (tgt := 74) hx hb c_24 (by decide) dX11_house_24 (by decide) (by decide) rfl (by decide) ?_
      refine lv_aload_n hx hb dX11_house_74 rfl (lv_at hl 1 rfl) ?_
      refine x_get (C := RX11) (T := TX11) (N := 11) hx hb hts hin_X11 hown hK hP (0) (by decide) hx0 rfl 0 (by decide) hw_0 (fun _ h9 => h9) rfl dX11_house_75 ?_
      refine x_get (C := RX7) (T := TX7) (N := 4) hx hb hts hin_X7 hown hK hP (1) (by decide) hm0 rfl 1 (by decide) hw_7 (fun _ h9 => h9) rfl dX11_house_78 ?_
      refine lv_iload_n hx hb dX11_house_81 rfl (lv_at hl 2 rfl) ?_
      refine x_iald (f := P) hx hb hK hP (3) (by decide) hm2 (by omega) (by omega) (by decide) dX11_house_82 ?_
      have hb_2 := hok.2.2.2.1 (h)
      refine x_retP hx hb hr (by omega) ?_ dX11_house_83 hlocks
      unfold zHouse
      repeat first | rw [if_pos (by omega)] | rw [if_neg (by omega)]
      try rw [eK]
      try rw [eF]
      repeat first | rw [if_pos (by omega)] | rw [if_neg (by omega)]
      try first | rfl | omega
    · refine x_tabIn (z := 3) (tgt := 84) hx hb c_24 (by decide) dX11_house_24 (by decide) (by decide) rfl (by decide) ?_
      refine lv_aload_n hx hb dX11_house_84 rfl (lv_at hl 0 rfl) ?_
      refine x_ci (rest := []) (a := ([.ref a_1] : List Value).toArray) (post := fun r => (r = 1 ∧ σ.2.2.1 a_1 ≠ 3) ∨ (r = 0 ∧ σ.2.2.1 a_1 = 3)) (by
        have hk0 := (hH a_1 ha_a_1).1
        have hk : σ.2.2.1 a_1 = 0 ∨ σ.2.2.1 a_1 = 1 ∨ σ.2.2.1 a_1 = 2 ∨ σ.2.2.1 a_1 = 3 ∨ σ.2.2.1 a_1 = 4 ∨ σ.2.2.1 a_1 = 5 ∨ σ.2.2.1 a_1 = 6 ∨ σ.2.2.1 a_1 = 7 := by omega
        rcases hk with hk | hk | hk | hk | hk | hk | hk | hk
        · exact x_run_mono (va_runV (As := []) (rest := []) ⟨hx, hb, hml, hown, hts⟩ (c_X3_isLookedAt l g σ hH a_1 ha_a_1) (cwV 0 hts gX11_house_X3_isLookedAt rfl rfl rfl (by decide +kernel) ⟨Nat.le_of_ble_eq_true rfl, Nat.le_of_ble_eq_true rfl⟩) (x_preV hK hP (x_recvH (q := (RX3, TX3, 1)) hK hP ha_a_1 (by rw [hk]; rfl))) rfl rfl hl.1 rfl (lv_room (Nat.le_of_ble_eq_true rfl)) dX11_house_85 ⟨Nat.le_of_ble_eq_true rfl, Nat.le_of_ble_eq_true rfl⟩) (fun r hr => Or.inl ⟨hr, by omega⟩)
        · exact x_run_mono (va_runU (As := []) (rest := []) ⟨hx, hb, hml, hown, hts⟩ (c_X3_isLookedAt l g σ hH a_1 ha_a_1) (va_cwU 0 hts gX11_house_X3_isLookedAt_u106X2 rfl rfl rfl rfl (by decide +kernel) ⟨Nat.le_of_ble_eq_true rfl, Nat.le_of_ble_eq_true rfl⟩) (x_preV hK hP (x_recvH (q := (RX2, TX2, 1)) hK hP ha_a_1 (by rw [hk]; rfl))) rfl rfl hl.1 rfl (lv_room (Nat.le_of_ble_eq_true rfl)) dX11_house_85 ⟨Nat.le_of_ble_eq_true rfl, Nat.le_of_ble_eq_true rfl⟩) (fun r hr => Or.inl ⟨hr, by omega⟩)
        · exact x_run_mono (va_runU (As := []) (rest := []) ⟨hx, hb, hml, hown, hts⟩ (c_X3_isLookedAt l g σ hH a_1 ha_a_1) (va_cwU 0 hts gX11_house_X3_isLookedAt_u106X6 rfl rfl rfl rfl (by decide +kernel) ⟨Nat.le_of_ble_eq_true rfl, Nat.le_of_ble_eq_true rfl⟩) (x_preV hK hP (x_recvH (q := (RX6, TX6, 1)) hK hP ha_a_1 (by rw [hk]; rfl))) rfl rfl hl.1 rfl (lv_room (Nat.le_of_ble_eq_true rfl)) dX11_house_85 ⟨Nat.le_of_ble_eq_true rfl, Nat.le_of_ble_eq_true rfl⟩) (fun r hr => Or.inl ⟨hr, by omega⟩)
        · exact x_run_mono (va_runU (As := []) (rest := []) ⟨hx, hb, hml, hown, hts⟩ (c_X10_isLookedAt l g σ hH a_1 ha_a_1) (va_cwO 0 hts gX11_house_X10_isLookedAt_u106X10 rfl rfl rfl (b0 := cX3_isLookedAt) (m0 := 1) (r0 := (some .boolean)) hw_8 (by decide +kernel) ⟨Nat.le_of_ble_eq_true rfl, Nat.le_of_ble_eq_true rfl⟩) (x_preV hK hP (x_recvH (q := (RX10, TX10, 1)) hK hP ha_a_1 (by rw [hk]; rfl))) rfl rfl hl.1 rfl (lv_room (Nat.le_of_ble_eq_true rfl)) dX11_house_85 ⟨Nat.le_of_ble_eq_true rfl, Nat.le_of_ble_eq_true rfl⟩) (fun r hr => Or.inr ⟨hr, hk⟩)
        · exact x_run_mono (va_runU (As := []) (rest := []) ⟨hx, hb, hml, hown, hts⟩ (c_X3_isLookedAt l g σ hH a_1 ha_a_1) (va_cwU 0 hts gX11_house_X3_isLookedAt_u106X4 rfl rfl rfl rfl (by decide +kernel) ⟨Nat.le_of_ble_eq_true rfl, Nat.le_of_ble_eq_true rfl⟩) (x_preV hK hP (x_recvH (q := (RX4, TX4, 1)) hK hP ha_a_1 (by rw [hk]; rfl))) rfl rfl hl.1 rfl (lv_room (Nat.le_of_ble_eq_true rfl)) dX11_house_85 ⟨Nat.le_of_ble_eq_true rfl, Nat.le_of_ble_eq_true rfl⟩) (fun r hr => Or.inl ⟨hr, by omega⟩)
        · exact x_run_mono (va_runU (As := []) (rest := []) ⟨hx, hb, hml, hown, hts⟩ (c_X3_isLookedAt l g σ hH a_1 ha_a_1) (va_cwU 0 hts gX11_house_X3_isLookedAt_u106X0 rfl rfl rfl rfl (by decide +kernel) ⟨Nat.le_of_ble_eq_true rfl, Nat.le_of_ble_eq_true rfl⟩) (x_preV hK hP (x_recvH (q := (RX0, TX0, 1)) hK hP ha_a_1 (by rw [hk]; rfl))) rfl rfl hl.1 rfl (lv_room (Nat.le_of_ble_eq_true rfl)) dX11_house_85 ⟨Nat.le_of_ble_eq_true rfl, Nat.le_of_ble_eq_true rfl⟩) (fun r hr => Or.inl ⟨hr, by omega⟩)
        · exact x_run_mono (va_runU (As := []) (rest := []) ⟨hx, hb, hml, hown, hts⟩ (c_X3_isLookedAt l g σ hH a_1 ha_a_1) (va_cwU 0 hts gX11_house_X3_isLookedAt_u106X9 rfl rfl rfl rfl (by decide +kernel) ⟨Nat.le_of_ble_eq_true rfl, Nat.le_of_ble_eq_true rfl⟩) (x_preV hK hP (x_recvH (q := (RX9, TX9, 1)) hK hP ha_a_1 (by rw [hk]; rfl))) rfl rfl hl.1 rfl (lv_room (Nat.le_of_ble_eq_true rfl)) dX11_house_85 ⟨Nat.le_of_ble_eq_true rfl, Nat.le_of_ble_eq_true rfl⟩) (fun r hr => Or.inl ⟨hr, by omega⟩)
        · exact x_run_mono (va_runU (As := []) (rest := []) ⟨hx, hb, hml, hown, hts⟩ (c_X1_isLookedAt l g σ hH a_1 ha_a_1) (va_cwO 0 hts gX11_house_X1_isLookedAt_u106X1 rfl rfl rfl (b0 := cX3_isLookedAt) (m0 := 1) (r0 := (some .boolean)) hw_8 (by decide +kernel) ⟨Nat.le_of_ble_eq_true rfl, Nat.le_of_ble_eq_true rfl⟩) (x_preV hK hP (x_recvH (q := (RX1, TX1, 1)) hK hP ha_a_1 (by rw [hk]; rfl))) rfl rfl hl.1 rfl (lv_room (Nat.le_of_ble_eq_true rfl)) dX11_house_85 ⟨Nat.le_of_ble_eq_true rfl, Nat.le_of_ble_eq_true rfl⟩) (fun r hr => Or.inl ⟨hr, by omega⟩)) (fun r_85 hr_85 qr_85 => ?_)
      replace qr_85 : (r_85 = 1 ∧ σ.2.2.1 a_1 ≠ 3) ∨ (r_85 = 0 ∧ σ.2.2.1 a_1 = 3) := qr_85
      refine x_if_eq (tgt := 107) hx hb (by omega) dX11_house_88 (by decide) (fun c_88 => ?_) (fun c_88 => ?_)
      · refine x_bipush (n := -4) hx hb (by decide +kernel) dX11_house_107 ?_
        refine x_retP hx hb hr (by omega) ?_ dX11_house_109 hlocks
        unfold zHouse
        repeat first | rw [if_pos (by omega)] | rw [if_neg (by omega)]
        try rw [eK]
        try rw [eF]
        repeat first | rw [if_pos (by omega)] | rw [if_neg (by omega)]
        try first | rfl | omega
      · refine lv_aload_n hx hb dX11_house_91 rfl (lv_at hl 0 rfl) ?_
        refine lv_aload_n hx hb dX11_house_92 rfl (lv_at hl 1 rfl) ?_
        refine x_get (C := RX11) (T := TX11) (N := 11) hx hb hts hin_X11 hown hK hP (0) (by decide) hx0 rfl 0 (by decide) hw_0 (fun _ h9 => h9) rfl dX11_house_93 ?_
        refine x_get (C := RX7) (T := TX7) (N := 4) hx hb hts hin_X7 hown hK hP (1) (by decide) hm0 rfl 1 (by decide) hw_7 (fun _ h9 => h9) rfl dX11_house_96 ?_
        refine lv_iload_n hx hb dX11_house_99 rfl (lv_at hl 2 rfl) ?_
        refine x_iald (f := P) hx hb hK hP (3) (by decide) hm2 (by omega) (by omega) (by decide) dX11_house_100 ?_
        have hb_3 := hok.2.2.2.1 (h)
        refine x_ci (rest := []) (a := ([.ref a_1, .int (iI (P (h)))] : List Value).toArray) (post := fun r => r = zShown (σ.2.2.1 a_1) (σ.2.2.2 a_1) (P (h))) (by
          have hk0 := (hH a_1 ha_a_1).1
          have hk : σ.2.2.1 a_1 = 0 ∨ σ.2.2.1 a_1 = 1 ∨ σ.2.2.1 a_1 = 2 ∨ σ.2.2.1 a_1 = 3 ∨ σ.2.2.1 a_1 = 4 ∨ σ.2.2.1 a_1 = 5 ∨ σ.2.2.1 a_1 = 6 ∨ σ.2.2.1 a_1 = 7 := by omega
          rcases hk with hk | hk | hk | hk | hk | hk | hk | hk
          · exact x_run_mono (va_runV (As := [.int (iI (P (h)))]) (rest := []) ⟨hx, hb, hml, hown, hts⟩ (c_X3_shownOf l g σ hH a_1 ha_a_1 (P (h)) (by omega) (by omega)) (cwV 1 hts gX11_house_X3_shownOf rfl rfl rfl (by decide +kernel) ⟨Nat.le_of_ble_eq_true rfl, Nat.le_of_ble_eq_true rfl⟩) (x_preV hK hP (x_recvH (q := (RX3, TX3, 1)) hK hP ha_a_1 (by rw [hk]; rfl))) rfl rfl hl.1 rfl (lv_room (Nat.le_of_ble_eq_true rfl)) dX11_house_101 ⟨Nat.le_of_ble_eq_true rfl, Nat.le_of_ble_eq_true rfl⟩) (fun r hr => hr.trans (by rw [hk]; rfl))
          · exact x_run_mono (va_runU (As := [.int (iI (P (h)))]) (rest := []) ⟨hx, hb, hml, hown, hts⟩ (c_X3_shownOf l g σ hH a_1 ha_a_1 (P (h)) (by omega) (by omega)) (va_cwU 1 hts gX11_house_X3_shownOf_u110X2 rfl rfl rfl rfl (by decide +kernel) ⟨Nat.le_of_ble_eq_true rfl, Nat.le_of_ble_eq_true rfl⟩) (x_preV hK hP (x_recvH (q := (RX2, TX2, 1)) hK hP ha_a_1 (by rw [hk]; rfl))) rfl rfl hl.1 rfl (lv_room (Nat.le_of_ble_eq_true rfl)) dX11_house_101 ⟨Nat.le_of_ble_eq_true rfl, Nat.le_of_ble_eq_true rfl⟩) (fun r hr => hr.trans (by rw [hk]; rfl))
          · exact x_run_mono (va_runU (As := [.int (iI (P (h)))]) (rest := []) ⟨hx, hb, hml, hown, hts⟩ (c_X6_shownOf l g σ hH a_1 ha_a_1 (P (h)) (by omega) (by omega)) (va_cwO 1 hts gX11_house_X6_shownOf_u110X6 rfl rfl rfl (b0 := cX3_shownOf) (m0 := 2) (r0 := (some .int)) hw_9 (by decide +kernel) ⟨Nat.le_of_ble_eq_true rfl, Nat.le_of_ble_eq_true rfl⟩) (x_preV hK hP (x_recvH (q := (RX6, TX6, 1)) hK hP ha_a_1 (by rw [hk]; rfl))) rfl rfl hl.1 rfl (lv_room (Nat.le_of_ble_eq_true rfl)) dX11_house_101 ⟨Nat.le_of_ble_eq_true rfl, Nat.le_of_ble_eq_true rfl⟩) (fun r hr => hr.trans (by rw [hk]; rfl))
          · exact x_run_mono (va_runU (As := [.int (iI (P (h)))]) (rest := []) ⟨hx, hb, hml, hown, hts⟩ (c_X3_shownOf l g σ hH a_1 ha_a_1 (P (h)) (by omega) (by omega)) (va_cwU 1 hts gX11_house_X3_shownOf_u110X10 rfl rfl rfl rfl (by decide +kernel) ⟨Nat.le_of_ble_eq_true rfl, Nat.le_of_ble_eq_true rfl⟩) (x_preV hK hP (x_recvH (q := (RX10, TX10, 1)) hK hP ha_a_1 (by rw [hk]; rfl))) rfl rfl hl.1 rfl (lv_room (Nat.le_of_ble_eq_true rfl)) dX11_house_101 ⟨Nat.le_of_ble_eq_true rfl, Nat.le_of_ble_eq_true rfl⟩) (fun r hr => hr.trans (by rw [hk]; rfl))
          · exact x_run_mono (va_runU (As := [.int (iI (P (h)))]) (rest := []) ⟨hx, hb, hml, hown, hts⟩ (c_X4_shownOf l g σ hH a_1 ha_a_1 (P (h)) (by omega) (by omega)) (va_cwO 1 hts gX11_house_X4_shownOf_u110X4 rfl rfl rfl (b0 := cX3_shownOf) (m0 := 2) (r0 := (some .int)) hw_9 (by decide +kernel) ⟨Nat.le_of_ble_eq_true rfl, Nat.le_of_ble_eq_true rfl⟩) (x_preV hK hP (x_recvH (q := (RX4, TX4, 1)) hK hP ha_a_1 (by rw [hk]; rfl))) rfl rfl hl.1 rfl (lv_room (Nat.le_of_ble_eq_true rfl)) dX11_house_101 ⟨Nat.le_of_ble_eq_true rfl, Nat.le_of_ble_eq_true rfl⟩) (fun r hr => hr.trans (by rw [hk]; rfl))
          · exact x_run_mono (va_runU (As := [.int (iI (P (h)))]) (rest := []) ⟨hx, hb, hml, hown, hts⟩ (c_X0_shownOf l g σ hH a_1 ha_a_1 (P (h)) (by omega) (by omega)) (va_cwO 1 hts gX11_house_X0_shownOf_u110X0 rfl rfl rfl (b0 := cX3_shownOf) (m0 := 2) (r0 := (some .int)) hw_9 (by decide +kernel) ⟨Nat.le_of_ble_eq_true rfl, Nat.le_of_ble_eq_true rfl⟩) (x_preV hK hP (x_recvH (q := (RX0, TX0, 1)) hK hP ha_a_1 (by rw [hk]; rfl))) rfl rfl hl.1 rfl (lv_room (Nat.le_of_ble_eq_true rfl)) dX11_house_101 ⟨Nat.le_of_ble_eq_true rfl, Nat.le_of_ble_eq_true rfl⟩) (fun r hr => hr.trans (by rw [hk]; rfl))
          · exact x_run_mono (va_runU (As := [.int (iI (P (h)))]) (rest := []) ⟨hx, hb, hml, hown, hts⟩ (c_X3_shownOf l g σ hH a_1 ha_a_1 (P (h)) (by omega) (by omega)) (va_cwU 1 hts gX11_house_X3_shownOf_u110X9 rfl rfl rfl rfl (by decide +kernel) ⟨Nat.le_of_ble_eq_true rfl, Nat.le_of_ble_eq_true rfl⟩) (x_preV hK hP (x_recvH (q := (RX9, TX9, 1)) hK hP ha_a_1 (by rw [hk]; rfl))) rfl rfl hl.1 rfl (lv_room (Nat.le_of_ble_eq_true rfl)) dX11_house_101 ⟨Nat.le_of_ble_eq_true rfl, Nat.le_of_ble_eq_true rfl⟩) (fun r hr => hr.trans (by rw [hk]; rfl))
          · exact x_run_mono (va_runU (As := [.int (iI (P (h)))]) (rest := []) ⟨hx, hb, hml, hown, hts⟩ (c_X3_shownOf l g σ hH a_1 ha_a_1 (P (h)) (by omega) (by omega)) (va_cwU 1 hts gX11_house_X3_shownOf_u110X1 rfl rfl rfl rfl (by decide +kernel) ⟨Nat.le_of_ble_eq_true rfl, Nat.le_of_ble_eq_true rfl⟩) (x_preV hK hP (x_recvH (q := (RX1, TX1, 1)) hK hP ha_a_1 (by rw [hk]; rfl))) rfl rfl hl.1 rfl (lv_room (Nat.le_of_ble_eq_true rfl)) dX11_house_101 ⟨Nat.le_of_ble_eq_true rfl, Nat.le_of_ble_eq_true rfl⟩) (fun r hr => hr.trans (by rw [hk]; rfl))) (fun r_101 hr_101 qr_101 => ?_)
        replace qr_101 : r_101 = zShown (σ.2.2.1 a_1) (σ.2.2.2 a_1) (P (h)) := qr_101
        have br_101 := zShown_rng (σ.2.2.1 a_1) (hH a_1 ha_a_1).2 (P (h)) (by omega); rw [← qr_101] at br_101
        refine lv_goto (tgt := 109) hx hb dX11_house_104 (by decide) ?_
        refine x_retP hx hb hr (by omega) ?_ dX11_house_109 hlocks
        unfold zHouse
        repeat first | rw [if_pos (by omega)] | rw [if_neg (by omega)]
        try rw [eK]
        try rw [eF]
        repeat first | rw [if_pos (by omega)] | rw [if_neg (by omega)]
        try first | rfl | omega
    · refine x_tabIn (z := 4) (tgt := 110) hx hb c_24 (by decide) dX11_house_24 (by decide) (by decide) rfl (by decide) ?_
      refine lv_aload_n hx hb dX11_house_110 rfl (lv_at hl 1 rfl) ?_
      refine x_get (C := RX11) (T := TX11) (N := 11) hx hb hts hin_X11 hown hK hP (0) (by decide) hx0 rfl 0 (by decide) hw_0 (fun _ h9 => h9) rfl dX11_house_111 ?_
      refine lv_iload_n hx hb dX11_house_114 rfl (lv_at hl 2 rfl) ?_
      refine x_ci (va_runV (As := [.int (iI (h))]) (rest := []) ⟨hx, hb, hml, hown, hts⟩ (c_X7_mostOf l g σ (1) (by decide) (n) (rd) P G ⟨hm0, hm1, hm2⟩ hok hH (h) (by omega)) (cwV 1 hts gX11_house_X7_mostOf rfl rfl rfl (by decide +kernel) ⟨Nat.le_of_ble_eq_true rfl, Nat.le_of_ble_eq_true rfl⟩) (x_preV hK hP (x_recv hK hP (i := 1) (by decide) hm0 rfl)) rfl rfl hl.1 rfl (lv_room (Nat.le_of_ble_eq_true rfl)) dX11_house_115 ⟨Nat.le_of_ble_eq_true rfl, Nat.le_of_ble_eq_true rfl⟩) (fun r_115 hr_115 qr_115 => ?_)
      replace qr_115 : r_115 = zMost (sK σ (G)) (sF σ (G)) (P) (n) (rd) (h) ∧ 0 ≤ r_115 ∧ r_115 ≤ 9999 := qr_115
      refine x_retP hx hb hr (by omega) ?_ dX11_house_118 hlocks
      unfold zHouse
      repeat first | rw [if_pos (by omega)] | rw [if_neg (by omega)]
      try rw [eK]
      try rw [eF]
      repeat first | rw [if_pos (by omega)] | rw [if_neg (by omega)]
      try first | rfl | omega
    · refine x_tabIn (z := 5) (tgt := 119) hx hb c_24 (by decide) dX11_house_24 (by decide) (by decide) rfl (by decide) ?_
      refine lv_aload_n hx hb dX11_house_119 rfl (lv_at hl 0 rfl) ?_
      refine x_ci (rest := []) (a := ([.ref a_1] : List Value).toArray) (post := fun r => r = zWeek (σ.2.2.1 a_1) (σ.2.2.2 a_1)) (by
        have hk0 := (hH a_1 ha_a_1).1
        have hk : σ.2.2.1 a_1 = 0 ∨ σ.2.2.1 a_1 = 1 ∨ σ.2.2.1 a_1 = 2 ∨ σ.2.2.1 a_1 = 3 ∨ σ.2.2.1 a_1 = 4 ∨ σ.2.2.1 a_1 = 5 ∨ σ.2.2.1 a_1 = 6 ∨ σ.2.2.1 a_1 = 7 := by omega
        rcases hk with hk | hk | hk | hk | hk | hk | hk | hk
        · exact x_run_mono (va_runV (As := []) (rest := []) ⟨hx, hb, hml, hown, hts⟩ (c_X3_weekly l g σ hH a_1 ha_a_1) (cwV 0 hts gX11_house_X3_weekly rfl rfl rfl (by decide +kernel) ⟨Nat.le_of_ble_eq_true rfl, Nat.le_of_ble_eq_true rfl⟩) (x_preV hK hP (x_recvH (q := (RX3, TX3, 1)) hK hP ha_a_1 (by rw [hk]; rfl))) rfl rfl hl.1 rfl (lv_room (Nat.le_of_ble_eq_true rfl)) dX11_house_120 ⟨Nat.le_of_ble_eq_true rfl, Nat.le_of_ble_eq_true rfl⟩) (fun r hr => hr.trans (by rw [hk]; rfl))
        · exact x_run_mono (va_runU (As := []) (rest := []) ⟨hx, hb, hml, hown, hts⟩ (c_X2_weekly l g σ hH a_1 ha_a_1) (va_cwO 0 hts gX11_house_X2_weekly_u117X2 rfl rfl rfl (b0 := cX3_weekly) (m0 := 1) (r0 := (some .int)) hw_10 (by decide +kernel) ⟨Nat.le_of_ble_eq_true rfl, Nat.le_of_ble_eq_true rfl⟩) (x_preV hK hP (x_recvH (q := (RX2, TX2, 1)) hK hP ha_a_1 (by rw [hk]; rfl))) rfl rfl hl.1 rfl (lv_room (Nat.le_of_ble_eq_true rfl)) dX11_house_120 ⟨Nat.le_of_ble_eq_true rfl, Nat.le_of_ble_eq_true rfl⟩) (fun r hr => hr.trans (by rw [hk]; rfl))
        · exact x_run_mono (va_runU (As := []) (rest := []) ⟨hx, hb, hml, hown, hts⟩ (c_X6_weekly l g σ hH a_1 ha_a_1) (va_cwO 0 hts gX11_house_X6_weekly_u117X6 rfl rfl rfl (b0 := cX3_weekly) (m0 := 1) (r0 := (some .int)) hw_10 (by decide +kernel) ⟨Nat.le_of_ble_eq_true rfl, Nat.le_of_ble_eq_true rfl⟩) (x_preV hK hP (x_recvH (q := (RX6, TX6, 1)) hK hP ha_a_1 (by rw [hk]; rfl))) rfl rfl hl.1 rfl (lv_room (Nat.le_of_ble_eq_true rfl)) dX11_house_120 ⟨Nat.le_of_ble_eq_true rfl, Nat.le_of_ble_eq_true rfl⟩) (fun r hr => hr.trans (by rw [hk]; rfl))
        · exact x_run_mono (va_runU (As := []) (rest := []) ⟨hx, hb, hml, hown, hts⟩ (c_X10_weekly l g σ hH a_1 ha_a_1) (va_cwO 0 hts gX11_house_X10_weekly_u117X10 rfl rfl rfl (b0 := cX3_weekly) (m0 := 1) (r0 := (some .int)) hw_10 (by decide +kernel) ⟨Nat.le_of_ble_eq_true rfl, Nat.le_of_ble_eq_true rfl⟩) (x_preV hK hP (x_recvH (q := (RX10, TX10, 1)) hK hP ha_a_1 (by rw [hk]; rfl))) rfl rfl hl.1 rfl (lv_room (Nat.le_of_ble_eq_true rfl)) dX11_house_120 ⟨Nat.le_of_ble_eq_true rfl, Nat.le_of_ble_eq_true rfl⟩) (fun r hr => hr.trans (by rw [hk]; rfl))
        · exact x_run_mono (va_runU (As := []) (rest := []) ⟨hx, hb, hml, hown, hts⟩ (c_X4_weekly l g σ hH a_1 ha_a_1) (va_cwO 0 hts gX11_house_X4_weekly_u117X4 rfl rfl rfl (b0 := cX3_weekly) (m0 := 1) (r0 := (some .int)) hw_10 (by decide +kernel) ⟨Nat.le_of_ble_eq_true rfl, Nat.le_of_ble_eq_true rfl⟩) (x_preV hK hP (x_recvH (q := (RX4, TX4, 1)) hK hP ha_a_1 (by rw [hk]; rfl))) rfl rfl hl.1 rfl (lv_room (Nat.le_of_ble_eq_true rfl)) dX11_house_120 ⟨Nat.le_of_ble_eq_true rfl, Nat.le_of_ble_eq_true rfl⟩) (fun r hr => hr.trans (by rw [hk]; rfl))
        · exact x_run_mono (va_runU (As := []) (rest := []) ⟨hx, hb, hml, hown, hts⟩ (c_X0_weekly l g σ hH a_1 ha_a_1) (va_cwO 0 hts gX11_house_X0_weekly_u117X0 rfl rfl rfl (b0 := cX3_weekly) (m0 := 1) (r0 := (some .int)) hw_10 (by decide +kernel) ⟨Nat.le_of_ble_eq_true rfl, Nat.le_of_ble_eq_true rfl⟩) (x_preV hK hP (x_recvH (q := (RX0, TX0, 1)) hK hP ha_a_1 (by rw [hk]; rfl))) rfl rfl hl.1 rfl (lv_room (Nat.le_of_ble_eq_true rfl)) dX11_house_120 ⟨Nat.le_of_ble_eq_true rfl, Nat.le_of_ble_eq_true rfl⟩) (fun r hr => hr.trans (by rw [hk]; rfl))
        · exact x_run_mono (va_runU (As := []) (rest := []) ⟨hx, hb, hml, hown, hts⟩ (c_X9_weekly l g σ hH a_1 ha_a_1) (va_cwO 0 hts gX11_house_X9_weekly_u117X9 rfl rfl rfl (b0 := cX3_weekly) (m0 := 1) (r0 := (some .int)) hw_10 (by decide +kernel) ⟨Nat.le_of_ble_eq_true rfl, Nat.le_of_ble_eq_true rfl⟩) (x_preV hK hP (x_recvH (q := (RX9, TX9, 1)) hK hP ha_a_1 (by rw [hk]; rfl))) rfl rfl hl.1 rfl (lv_room (Nat.le_of_ble_eq_true rfl)) dX11_house_120 ⟨Nat.le_of_ble_eq_true rfl, Nat.le_of_ble_eq_true rfl⟩) (fun r hr => hr.trans (by rw [hk]; rfl))
        · exact x_run_mono (va_runU (As := []) (rest := []) ⟨hx, hb, hml, hown, hts⟩ (c_X1_weekly l g σ hH a_1 ha_a_1) (va_cwO 0 hts gX11_house_X1_weekly_u117X1 rfl rfl rfl (b0 := cX3_weekly) (m0 := 1) (r0 := (some .int)) hw_10 (by decide +kernel) ⟨Nat.le_of_ble_eq_true rfl, Nat.le_of_ble_eq_true rfl⟩) (x_preV hK hP (x_recvH (q := (RX1, TX1, 1)) hK hP ha_a_1 (by rw [hk]; rfl))) rfl rfl hl.1 rfl (lv_room (Nat.le_of_ble_eq_true rfl)) dX11_house_120 ⟨Nat.le_of_ble_eq_true rfl, Nat.le_of_ble_eq_true rfl⟩) (fun r hr => hr.trans (by rw [hk]; rfl))) (fun r_120 hr_120 qr_120 => ?_)
      replace qr_120 : r_120 = zWeek (σ.2.2.1 a_1) (σ.2.2.2 a_1) := qr_120
      have br_120 := zWeek_rng (σ.2.2.1 a_1) (hH a_1 ha_a_1).2; rw [← qr_120] at br_120
      refine x_retP hx hb hr (by omega) ?_ dX11_house_123 hlocks
      unfold zHouse
      repeat first | rw [if_pos (by omega)] | rw [if_neg (by omega)]
      try rw [eK]
      try rw [eF]
      repeat first | rw [if_pos (by omega)] | rw [if_neg (by omega)]
      try first | rfl | omega
    · refine x_tabOut (tgt := 124) hx hb (by omega) dX11_house_24 (by omega) (by decide) ?_
      refine x_iconst hx hb dX11_house_124 ?_
      refine x_retP hx hb hr (by omega) ?_ dX11_house_125 hlocks
      unfold zHouse
      repeat first | rw [if_pos (by omega)] | rw [if_neg (by omega)]
      try rw [eK]
      try rw [eF]
      repeat first | rw [if_pos (by omega)] | rw [if_neg (by omega)]
      try first | rfl | omega
  · refine x_iconst hx hb dX11_house_11 ?_
    refine x_retP hx hb hr (by omega) ?_ dX11_house_12 hlocks
    unfold zHouse
    repeat first | rw [if_pos (by omega)] | rw [if_neg (by omega)]
    try rw [eK]
    try rw [eF]
    repeat first | rw [if_pos (by omega)] | rw [if_neg (by omega)]
    try first | rfl | omega
