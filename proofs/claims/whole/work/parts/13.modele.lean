def x_Ql (g : xG) (A : Nat → Prop) (post : Int → xS → Prop) : Array Value → State → Outcome → State → Prop := fun _ st o t => ∃ (r : Int) (σ : xS), inR r ∧ post r σ ∧ o = .returned (some (.long (jL r))) ∧ x_End g A σ st t
section XROWS3
variable {p : Program} {l : Launch} {e : Env} {R : Room} {s : State} {m : MethodId} {args : Array Value} {below : List Frame} {meth : Method} {c : Code} {H : Heap} {locs : List Loc} {cells slots : Nat} {Q : State → Prop}
variable {cc : ByteArray} {pc : Nat} {ls : Array Slot} {rest : List Value} {g : xG} {σ : xS} {A : Nat → Prop} {H0 : Heap}
theorem x_retQl {post : Int → xS → Prop} (hx : p.tables.exec = Jvm.exec) (hb : c.code = cc) (hr : meth.sig.returnType = some .long) {r : Int} (hr2 : inR r) (hp : post r σ) (hP : xP g σ H) (hD : xD g A σ) (hS : va_S A s.heap H locs) (hdg : decode cc pc = .ok (.lreturn, 1)) (hlocks : meth.locks = false) : W p l e R s m args below meth c H locs cells slots (MQ below (x_Ql g A post) args s cells slots A) (F0 m pc ls [.long (jL r)]) :=
  W.lret hx hb hr (fun t ht _ => ⟨r, σ, hr2, hp, rfl, by rw [ht]; exact hP, hD, hS.F ht⟩) hS.2.2 hdg hlocks
theorem x_cql0 {st0 : List Value} {a : Array Value} {post : Int → xS → Prop} (hr : va_Run p l e R s m args below meth c H locs cells slots 0 0 (F0 m pc ls st0) rest (x_Ql g A post a) A) (hS : va_S A H0 H locs)
    (kk : ∀ (r : Int) (σ1 : xS) (H1 : Heap) (locs1 : List Loc), inR r → post r σ1 → xP g σ1 H1 → xD g A σ1 → va_S A H0 H1 locs1 → W p l e R s m args below meth c H1 locs1 cells slots Q (F0 m (pc + 3) ls (.long (jL r) :: rest))) : W p l e R s m args below meth c H locs cells slots Q (F0 m pc ls st0) := by
  intro T hT X
  obtain ⟨v, st₀, t, T', L, h0, X', hL, e1, e2, ⟨r, σ1, hr1, hr2, hv, hE⟩, st⟩ := hr T hT X
  cases hv
  obtain ⟨t2, a1, b1⟩ := kk r σ1 T'.heap (locs ++ L) hr1 hr2 (by rw [e1]; exact hE.1) hE.2.1 (x_end_S (A0 := A) h0 e1 hE hS hL) T' rfl X'
  exact ⟨t2, st t2 a1, b1⟩
end XROWS3
def zElT (Kp Sz : Int → Int) (d i : Int) : Int := if ¬ (0 ≤ d ∧ d ≤ 7) then 1 else if Kp d ≠ 2 ∨ ¬ (0 ≤ i ∧ i < Sz d) then 2 else 0
def zCopyR (Kp So Sz : Int → Int) (d i e j n : Int) : Int := if ¬ (0 ≤ d ∧ d ≤ 7) ∨ ¬ (0 ≤ e ∧ e ≤ 7) then -1 else if Kp d = 0 ∨ Kp e = 0 then -11 else if Kp d ≠ 2 ∨ Kp e ≠ 2 ∨ So d ≠ So e then -12 else if n < 0 ∨ i < 0 ∨ j < 0 ∨ Sz d - i < n ∨ Sz e - j < n then -13 else n

set_option maxHeartbeats 4000000 in
set_option maxRecDepth 100000 in
theorem c_X12_element (l : Launch) (g : xG) (σ : xS) (A : Nat → Prop) (ov : Nat → Int) (S : Int → Int) (hob : MObj g σ.1 ov) (hs0 : MArr g σ.1 38 29 S) (hok : SmOk S) (Kp So Sz El KK KF : Int → Int) (h42 : MArr g σ.1 42 8 Kp) (h43 : MArr g σ.1 43 8 So) (h44 : MArr g σ.1 44 8 Sz) (h45 : MArr g σ.1 45 800 El) (h46 : MArr g σ.1 46 8 KK) (h47 : MArr g σ.1 47 8 KF) (hsh : ShOk Kp So Sz El KK KF) (d : Int) (hd : inR d) (i0 : Int) (hi : inR i0) : Met l yX12_element wsX12_element ({ frames := 3, cells := 0, slots := 0, locals := 96 }) (va_Pc [.ref (g.2.2 37), .int (iI (d)), .int (iI (i0))] (xPreQ g A σ)) (x_Ql g A (fun r σ1 => σ1.2 = σ.2 ∧ (∀ j, j ≠ 37 → σ1.1 j = σ.1 j) ∧ ∃ ov2, MObj g σ1.1 ov2 ∧ ov2 10 = ov 10 ∧ ov2 11 = zElT Kp Sz d i0 ∧ (zElT Kp Sz d i0 = 0 → r = El (100 * d + i0)))) (0) (0) A := by
  refine Met.ofW (cc := cX12_element) (maxL := 3) (ret := (some .long)) (by decide) rfl ?_
  intro p e s m args below meth c s₁ B hml hv
  obtain ⟨rfl, hP, hK, hD, hA⟩ := hv
  have hx := B.exec
  have hb := B.bytes
  have hr := B.returns
  have hts := atoms_spec (ws := wsX12_element) B.pre
  have hown : s.vm.findClass RX12 = some m.cls := findClass_of_methodNamed B.named
  have hlocks := B.notSynchronized
  have hS : va_S A s.heap s.heap [] := va_S.rf
  have hfr : ∀ j, (j ≠ 37) → σ.1 j = σ.1 j := fun _ _ => rfl
  have hl := lv_entry ([.ref (g.2.2 37), .int (iI (d)), .int (iI (i0))]) (n := 3) (Nat.le_of_ble_eq_true rfl)
  rw [lg_entry_eq]
  generalize (lg_sl ([.ref (g.2.2 37), .int (iI (d)), .int (iI (i0))]) ++ List.replicate (3 - (lg_sl ([.ref (g.2.2 37), .int (iI (d)), .int (iI (i0))])).length) Slot.unset).toArray = ls at hl ⊢
  have hl : lv_has ls 3 [(0, .ref (g.2.2 37)), (1, .int (iI (d))), (2, .int (iI (i0)))] := hl
  have hn0 := hok.2.1
  have hrd0 := hok.2.2.1
  have hw_0 := hts (.fieldLink RX12 22 "TwiceAsRichModel" "kept" "[I") (by decide +kernel)
  have hin_X12 : ∀ w ∈ wsX120, w ∈ wsX12_element := by decide +kernel
  have hw_2 := hts (.fieldLink RX12 46 "TwiceAsRichModel" "thrown" "I") (by decide +kernel)
  have hw_3 := hts (.fieldLink RX12 31 "TwiceAsRichModel" "element" "[I") (by decide +kernel)
  have hw_4 := hts (.fieldLink RX12 28 "TwiceAsRichModel" "size" "[I") (by decide +kernel)
  refine lv_aload_n hx hb dX12_element_0 rfl (lv_at hl 0 rfl) ?_
  refine lv_iload_n hx hb dX12_element_1 rfl (lv_at hl 1 rfl) ?_
  refine x_ci (va_runS (As := [.int (iI (d))]) (rest := [.ref (g.2.2 37)]) ⟨hx, hb, hml, hown, hts⟩ (c_X12_isShelf l g σ (d) (by omega)) (va_cwS 1 hts gX12_element_X12_isShelf rfl rfl rfl (by decide +kernel) ⟨Nat.le_of_ble_eq_true rfl, Nat.le_of_ble_eq_true rfl⟩) (x_preS hK hP) rfl rfl hl.1 rfl (lv_room (Nat.le_of_ble_eq_true rfl)) dX12_element_2 ⟨Nat.le_of_ble_eq_true rfl, Nat.le_of_ble_eq_true rfl⟩) (fun r_2 hr_2 qr_2 => ?_)
  replace qr_2 : (r_2 = 1 ∧ 0 ≤ (d) ∧ (d) ≤ 7) ∨ (r_2 = 0 ∧ ¬ (0 ≤ (d) ∧ (d) ≤ 7)) := qr_2
  refine x_if_ne (tgt := 12) hx hb (by omega) dX12_element_5 (by decide) (fun c_5 => ?_) (fun c_5 => ?_)
  · refine lv_aload_n hx hb dX12_element_12 rfl (lv_at hl 0 rfl) ?_
    refine x_get (C := RX12) (T := TX12) (N := 24) hx hb hts hin_X12 hown hK hP (37) (by decide) hob rfl 4 (by decide) hw_0 (fun _ h9 => h9) rfl dX12_element_13 ?_
    refine lv_iload_n hx hb dX12_element_16 rfl (lv_at hl 1 rfl) ?_
    refine x_iald (f := Kp) hx hb hK hP (42) (by decide) h42 (by omega) (by omega) (by decide) dX12_element_17 ?_
    have hb_1 := hsh.1 (d)
    refine x_iconst hx hb dX12_element_18 ?_
    refine x_icmp_ne (tgt := 40) hx hb (by omega) (by omega) dX12_element_19 (by decide) (fun c_19 => ?_) (fun c_19 => ?_)
    · refine x_iconst hx hb dX12_element_40 ?_
      refine lv_goto (tgt := 45) hx hb dX12_element_41 (by decide) ?_
      refine x_put (C := RX12) (T := TX12) (N := 24) (ty := .int) hx hb hts hin_X12 hown hK hP hD hS (37) (by decide) hob rfl tyX12 tyX12_ok nmX12 11 (by decide) hw_2 (fun _ h9 => h9) rfl (by decide +kernel) rfl rfl (Nat.le_of_ble_eq_true rfl) dX12_element_45 (fun M_2 H locs hnew hne hP hD hS => ?_)
      obtain ⟨ov_3, hov_3⟩ : ∃ q : Nat → Int, q = va_up (ov) 11 (2) := ⟨_, rfl⟩
      have vov_3 : ov_3 11 = 2 := by rw [hov_3]; rfl
      have nov_3 : ∀ j, j ≠ 11 → ov_3 j = ov j := fun j hj => by rw [hov_3]; exact va_up_ne _ _ hj
      have hnew : MObj g M_2 ov_3 := by rw [hov_3]; exact hnew
      have hP : xP g (M_2, σ.2) H := hP
      have hD : xD g A (M_2, σ.2) := hD
      have hob : MObj g M_2 ov_3 := hnew
      have hs0 := (hne (38) (by decide)).trans hs0
      have h42 := (hne (42) (by decide)).trans h42
      have h43 := (hne (43) (by decide)).trans h43
      have h44 := (hne (44) (by decide)).trans h44
      have h45 := (hne (45) (by decide)).trans h45
      have h46 := (hne (46) (by decide)).trans h46
      have h47 := (hne (47) (by decide)).trans h47
      have hfr := x_fr (F := fun j => j ≠ 37) hfr hne (fun j h => by have h : j ≠ 37 := h; omega)
      refine lv_aload_n hx hb dX12_element_48 rfl (lv_at hl 0 rfl) ?_
      refine x_get (C := RX12) (T := TX12) (N := 24) hx hb hts hin_X12 hown hK hP (37) (by decide) hob rfl 11 (by decide) hw_2 (fun _ h9 => h9) rfl dX12_element_49 ?_
      refine x_if_ne (tgt := 70) hx hb (by omega) dX12_element_52 (by decide) (fun c_52 => ?_) (fun c_52 => ?_)
      · refine x_lconst (z := 0) hx hb (by decide +kernel) dX12_element_70 ?_
        refine x_retQl hx hb hr (by omega) ?_ hP hD hS dX12_element_71 hlocks
        first | (exfalso; omega) | (refine ⟨rfl, hfr, _, hob, nov_3 10 (by decide), by (rw [vov_3]; unfold zElT; repeat first | rw [if_pos (by omega)] | rw [if_neg (by omega)]), fun hz9 => ?_⟩; unfold zElT at hz9; first | rfl | (exfalso; first | omega | (rw [if_pos (by omega)] at hz9; omega) | (rw [if_neg (by omega), if_pos (by omega)] at hz9; omega)))
      · have hsd := hsh.2.2.2.2.2.2 d (by omega) (by omega)
        refine lv_aload_n hx hb dX12_element_55 rfl (lv_at hl 0 rfl) ?_
        refine x_get (C := RX12) (T := TX12) (N := 24) hx hb hts hin_X12 hown hK hP (37) (by decide) hob rfl 7 (by decide) hw_3 (fun _ h9 => h9) rfl dX12_element_56 ?_
        refine x_bipush (n := 100) hx hb (by decide +kernel) dX12_element_59 ?_
        refine lv_iload_n hx hb dX12_element_61 rfl (lv_at hl 1 rfl) ?_
        refine x_imul hx hb dX12_element_62 ?_
        refine lv_iload_n hx hb dX12_element_63 rfl (lv_at hl 2 rfl) ?_
        refine x_iadd hx hb dX12_element_64 ?_
        refine x_iald (f := El) hx hb hK hP (45) (by decide) h45 (by omega) (by omega) (by decide) dX12_element_65 ?_
        have hb_4 := hsh.2.2.2.1 ((100 * d) + i0)
        refine x_i2l hx hb (by omega) dX12_element_66 ?_
        refine lv_goto (tgt := 71) hx hb dX12_element_67 (by decide) ?_
        refine x_retQl hx hb hr (by omega) ?_ hP hD hS dX12_element_71 hlocks
        first | (exfalso; omega) | (refine ⟨rfl, hfr, _, hob, nov_3 10 (by decide), by (rw [vov_3]; unfold zElT; repeat first | rw [if_pos (by omega)] | rw [if_neg (by omega)]), fun hz9 => ?_⟩; unfold zElT at hz9; first | rfl | (exfalso; first | omega | (rw [if_pos (by omega)] at hz9; omega) | (rw [if_neg (by omega), if_pos (by omega)] at hz9; omega)))
    · have hsd := hsh.2.2.2.2.2.2 d (by omega) (by omega)
      refine lv_iload_n hx hb dX12_element_22 rfl (lv_at hl 2 rfl) ?_
      refine x_i2l hx hb (by omega) dX12_element_23 ?_
      refine x_lconst (z := 0) hx hb (by decide +kernel) dX12_element_24 ?_
      refine lv_aload_n hx hb dX12_element_25 rfl (lv_at hl 0 rfl) ?_
      refine x_get (C := RX12) (T := TX12) (N := 24) hx hb hts hin_X12 hown hK hP (37) (by decide) hob rfl 6 (by decide) hw_4 (fun _ h9 => h9) rfl dX12_element_26 ?_
      refine lv_iload_n hx hb dX12_element_29 rfl (lv_at hl 1 rfl) ?_
      refine x_iald (f := Sz) hx hb hK hP (44) (by decide) h44 (by omega) (by omega) (by decide) dX12_element_30 ?_
      have hb_5 := hsh.2.2.1 (d)
      refine x_iconst hx hb dX12_element_31 ?_
      refine x_isub hx hb dX12_element_32 ?_
      refine x_i2l hx hb (by omega) dX12_element_33 ?_
      refine x_ci (va_runS (As := [.long (jL (i0)), .long (jL (0)), .long (jL ((Sz (d)) - 1))]) (rest := [.ref (g.2.2 37)]) ⟨hx, hb, hml, hown, hts⟩ (c_X12_isIn l g σ (i0) (by omega) (0) (by omega) ((Sz (d)) - 1) (by omega)) (va_cwS 3 hts gX12_element_X12_isIn rfl rfl rfl (by decide +kernel) ⟨Nat.le_of_ble_eq_true rfl, Nat.le_of_ble_eq_true rfl⟩) (x_preS hK hP) rfl rfl hl.1 rfl (lv_room (Nat.le_of_ble_eq_true rfl)) dX12_element_34 ⟨Nat.le_of_ble_eq_true rfl, Nat.le_of_ble_eq_true rfl⟩) (fun r_34 hr_34 qr_34 => ?_)
      replace qr_34 : (r_34 = 1 ∧ (0) ≤ (i0) ∧ (i0) ≤ ((Sz (d)) - 1)) ∨ (r_34 = 0 ∧ ¬ ((0) ≤ (i0) ∧ (i0) ≤ ((Sz (d)) - 1))) := qr_34
      refine x_if_ne (tgt := 44) hx hb (by omega) dX12_element_37 (by decide) (fun c_37 => ?_) (fun c_37 => ?_)
      · refine x_iconst hx hb dX12_element_44 ?_
        refine x_put (C := RX12) (T := TX12) (N := 24) (ty := .int) hx hb hts hin_X12 hown hK hP hD hS (37) (by decide) hob rfl tyX12 tyX12_ok nmX12 11 (by decide) hw_2 (fun _ h9 => h9) rfl (by decide +kernel) rfl rfl (Nat.le_of_ble_eq_true rfl) dX12_element_45 (fun M_6 H locs hnew hne hP hD hS => ?_)
        obtain ⟨ov_7, hov_7⟩ : ∃ q : Nat → Int, q = va_up (ov) 11 (0) := ⟨_, rfl⟩
        have vov_7 : ov_7 11 = 0 := by rw [hov_7]; rfl
        have nov_7 : ∀ j, j ≠ 11 → ov_7 j = ov j := fun j hj => by rw [hov_7]; exact va_up_ne _ _ hj
        have hnew : MObj g M_6 ov_7 := by rw [hov_7]; exact hnew
        have hP : xP g (M_6, σ.2) H := hP
        have hD : xD g A (M_6, σ.2) := hD
        have hob : MObj g M_6 ov_7 := hnew
        have hs0 := (hne (38) (by decide)).trans hs0
        have h42 := (hne (42) (by decide)).trans h42
        have h43 := (hne (43) (by decide)).trans h43
        have h44 := (hne (44) (by decide)).trans h44
        have h45 := (hne (45) (by decide)).trans h45
        have h46 := (hne (46) (by decide)).trans h46
        have h47 := (hne (47) (by decide)).trans h47
        have hfr := x_fr (F := fun j => j ≠ 37) hfr hne (fun j h => by have h : j ≠ 37 := h; omega)
        refine lv_aload_n hx hb dX12_element_48 rfl (lv_at hl 0 rfl) ?_
        refine x_get (C := RX12) (T := TX12) (N := 24) hx hb hts hin_X12 hown hK hP (37) (by decide) hob rfl 11 (by decide) hw_2 (fun _ h9 => h9) rfl dX12_element_49 ?_
        refine x_if_ne (tgt := 70) hx hb (by omega) dX12_element_52 (by decide) (fun c_52 => ?_) (fun c_52 => ?_)
        · refine x_lconst (z := 0) hx hb (by decide +kernel) dX12_element_70 ?_
          refine x_retQl hx hb hr (by omega) ?_ hP hD hS dX12_element_71 hlocks
          first | (exfalso; omega) | (refine ⟨rfl, hfr, _, hob, nov_7 10 (by decide), by (rw [vov_7]; unfold zElT; repeat first | rw [if_pos (by omega)] | rw [if_neg (by omega)]), fun hz9 => ?_⟩; unfold zElT at hz9; first | rfl | (exfalso; first | omega | (rw [if_pos (by omega)] at hz9; omega) | (rw [if_neg (by omega), if_pos (by omega)] at hz9; omega)))
        · have hsd := hsh.2.2.2.2.2.2 d (by omega) (by omega)
          refine lv_aload_n hx hb dX12_element_55 rfl (lv_at hl 0 rfl) ?_
          refine x_get (C := RX12) (T := TX12) (N := 24) hx hb hts hin_X12 hown hK hP (37) (by decide) hob rfl 7 (by decide) hw_3 (fun _ h9 => h9) rfl dX12_element_56 ?_
          refine x_bipush (n := 100) hx hb (by decide +kernel) dX12_element_59 ?_
          refine lv_iload_n hx hb dX12_element_61 rfl (lv_at hl 1 rfl) ?_
          refine x_imul hx hb dX12_element_62 ?_
          refine lv_iload_n hx hb dX12_element_63 rfl (lv_at hl 2 rfl) ?_
          refine x_iadd hx hb dX12_element_64 ?_
          refine x_iald (f := El) hx hb hK hP (45) (by decide) h45 (by omega) (by omega) (by decide) dX12_element_65 ?_
          have hb_8 := hsh.2.2.2.1 ((100 * d) + i0)
          refine x_i2l hx hb (by omega) dX12_element_66 ?_
          refine lv_goto (tgt := 71) hx hb dX12_element_67 (by decide) ?_
          refine x_retQl hx hb hr (by omega) ?_ hP hD hS dX12_element_71 hlocks
          first | (exfalso; omega) | (refine ⟨rfl, hfr, _, hob, nov_7 10 (by decide), by (rw [vov_7]; unfold zElT; repeat first | rw [if_pos (by omega)] | rw [if_neg (by omega)]), fun hz9 => ?_⟩; unfold zElT at hz9; first | rfl | (exfalso; first | omega | (rw [if_pos (by omega)] at hz9; omega) | (rw [if_neg (by omega), if_pos (by omega)] at hz9; omega)))
      · refine x_iconst hx hb dX12_element_40 ?_
        refine lv_goto (tgt := 45) hx hb dX12_element_41 (by decide) ?_
        refine x_put (C := RX12) (T := TX12) (N := 24) (ty := .int) hx hb hts hin_X12 hown hK hP hD hS (37) (by decide) hob rfl tyX12 tyX12_ok nmX12 11 (by decide) hw_2 (fun _ h9 => h9) rfl (by decide +kernel) rfl rfl (Nat.le_of_ble_eq_true rfl) dX12_element_45 (fun M_9 H locs hnew hne hP hD hS => ?_)
        obtain ⟨ov_10, hov_10⟩ : ∃ q : Nat → Int, q = va_up (ov) 11 (2) := ⟨_, rfl⟩
        have vov_10 : ov_10 11 = 2 := by rw [hov_10]; rfl
        have nov_10 : ∀ j, j ≠ 11 → ov_10 j = ov j := fun j hj => by rw [hov_10]; exact va_up_ne _ _ hj
        have hnew : MObj g M_9 ov_10 := by rw [hov_10]; exact hnew
        have hP : xP g (M_9, σ.2) H := hP
        have hD : xD g A (M_9, σ.2) := hD
        have hob : MObj g M_9 ov_10 := hnew
        have hs0 := (hne (38) (by decide)).trans hs0
        have h42 := (hne (42) (by decide)).trans h42
        have h43 := (hne (43) (by decide)).trans h43
        have h44 := (hne (44) (by decide)).trans h44
        have h45 := (hne (45) (by decide)).trans h45
        have h46 := (hne (46) (by decide)).trans h46
        have h47 := (hne (47) (by decide)).trans h47
        have hfr := x_fr (F := fun j => j ≠ 37) hfr hne (fun j h => by have h : j ≠ 37 := h; omega)
        refine lv_aload_n hx hb dX12_element_48 rfl (lv_at hl 0 rfl) ?_
        refine x_get (C := RX12) (T := TX12) (N := 24) hx hb hts hin_X12 hown hK hP (37) (by decide) hob rfl 11 (by decide) hw_2 (fun _ h9 => h9) rfl dX12_element_49 ?_
        refine x_if_ne (tgt := 70) hx hb (by omega) dX12_element_52 (by decide) (fun c_52 => ?_) (fun c_52 => ?_)
        · refine x_lconst (z := 0) hx hb (by decide +kernel) dX12_element_70 ?_
          refine x_retQl hx hb hr (by omega) ?_ hP hD hS dX12_element_71 hlocks
          first | (exfalso; omega) | (refine ⟨rfl, hfr, _, hob, nov_10 10 (by decide), by (rw [vov_10]; unfold zElT; repeat first | rw [if_pos (by omega)] | rw [if_neg (by omega)]), fun hz9 => ?_⟩; unfold zElT at hz9; first | rfl | (exfalso; first | omega | (rw [if_pos (by omega)] at hz9; omega) | (rw [if_neg (by omega), if_pos (by omega)] at hz9; omega)))
        · have hsd := hsh.2.2.2.2.2.2 d (by omega) (by omega)
          refine lv_aload_n hx hb dX12_element_55 rfl (lv_at hl 0 rfl) ?_
          refine x_get (C := RX12) (T := TX12) (N := 24) hx hb hts hin_X12 hown hK hP (37) (by decide) hob rfl 7 (by decide) hw_3 (fun _ h9 => h9) rfl dX12_element_56 ?_
          refine x_bipush (n := 100) hx hb (by decide +kernel) dX12_element_59 ?_
          refine lv_iload_n hx hb dX12_element_61 rfl (lv_at hl 1 rfl) ?_
          refine x_imul hx hb dX12_element_62 ?_
          refine lv_iload_n hx hb dX12_element_63 rfl (lv_at hl 2 rfl) ?_
          refine x_iadd hx hb dX12_element_64 ?_
          refine x_iald (f := El) hx hb hK hP (45) (by decide) h45 (by omega) (by omega) (by decide) dX12_element_65 ?_
          have hb_11 := hsh.2.2.2.1 ((100 * d) + i0)
          refine x_i2l hx hb (by omega) dX12_element_66 ?_
          refine lv_goto (tgt := 71) hx hb dX12_element_67 (by decide) ?_
          refine x_retQl hx hb hr (by omega) ?_ hP hD hS dX12_element_71 hlocks
          first | (exfalso; omega) | (refine ⟨rfl, hfr, _, hob, nov_10 10 (by decide), by (rw [vov_10]; unfold zElT; repeat first | rw [if_pos (by omega)] | rw [if_neg (by omega)]), fun hz9 => ?_⟩; unfold zElT at hz9; first | rfl | (exfalso; first | omega | (rw [if_pos (by omega)] at hz9; omega) | (rw [if_neg (by omega), if_pos (by omega)] at hz9; omega)))
  · refine x_iconst hx hb dX12_element_8 ?_
    refine lv_goto (tgt := 45) hx hb dX12_element_9 (by decide) ?_
    refine x_put (C := RX12) (T := TX12) (N := 24) (ty := .int) hx hb hts hin_X12 hown hK hP hD hS (37) (by decide) hob rfl tyX12 tyX12_ok nmX12 11 (by decide) hw_2 (fun _ h9 => h9) rfl (by decide +kernel) rfl rfl (Nat.le_of_ble_eq_true rfl) dX12_element_45 (fun M_12 H locs hnew hne hP hD hS => ?_)
    obtain ⟨ov_13, hov_13⟩ : ∃ q : Nat → Int, q = va_up (ov) 11 (1) := ⟨_, rfl⟩
    have vov_13 : ov_13 11 = 1 := by rw [hov_13]; rfl
    have nov_13 : ∀ j, j ≠ 11 → ov_13 j = ov j := fun j hj => by rw [hov_13]; exact va_up_ne _ _ hj
    have hnew : MObj g M_12 ov_13 := by rw [hov_13]; exact hnew
    have hP : xP g (M_12, σ.2) H := hP
    have hD : xD g A (M_12, σ.2) := hD
    have hob : MObj g M_12 ov_13 := hnew
    have hs0 := (hne (38) (by decide)).trans hs0
    have h42 := (hne (42) (by decide)).trans h42
    have h43 := (hne (43) (by decide)).trans h43
    have h44 := (hne (44) (by decide)).trans h44
    have h45 := (hne (45) (by decide)).trans h45
    have h46 := (hne (46) (by decide)).trans h46
    have h47 := (hne (47) (by decide)).trans h47
    have hfr := x_fr (F := fun j => j ≠ 37) hfr hne (fun j h => by have h : j ≠ 37 := h; omega)
    refine lv_aload_n hx hb dX12_element_48 rfl (lv_at hl 0 rfl) ?_
    refine x_get (C := RX12) (T := TX12) (N := 24) hx hb hts hin_X12 hown hK hP (37) (by decide) hob rfl 11 (by decide) hw_2 (fun _ h9 => h9) rfl dX12_element_49 ?_
    refine x_if_ne (tgt := 70) hx hb (by omega) dX12_element_52 (by decide) (fun c_52 => ?_) (fun c_52 => ?_)
    · refine x_lconst (z := 0) hx hb (by decide +kernel) dX12_element_70 ?_
      refine x_retQl hx hb hr (by omega) ?_ hP hD hS dX12_element_71 hlocks
      first | (exfalso; omega) | (refine ⟨rfl, hfr, _, hob, nov_13 10 (by decide), by (rw [vov_13]; unfold zElT; repeat first | rw [if_pos (by omega)] | rw [if_neg (by omega)]), fun hz9 => ?_⟩; unfold zElT at hz9; first | rfl | (exfalso; first | omega | (rw [if_pos (by omega)] at hz9; omega) | (rw [if_neg (by omega), if_pos (by omega)] at hz9; omega)))
    · have hsd := hsh.2.2.2.2.2.2 d (by omega) (by omega)
      refine lv_aload_n hx hb dX12_element_55 rfl (lv_at hl 0 rfl) ?_
      refine x_get (C := RX12) (T := TX12) (N := 24) hx hb hts hin_X12 hown hK hP (37) (by decide) hob rfl 7 (by decide) hw_3 (fun _ h9 => h9) rfl dX12_element_56 ?_
      refine x_bipush (n := 100) hx hb (by decide +kernel) dX12_element_59 ?_
      refine lv_iload_n hx hb dX12_element_61 rfl (lv_at hl 1 rfl) ?_
      refine x_imul hx hb dX12_element_62 ?_
      refine lv_iload_n hx hb dX12_element_63 rfl (lv_at hl 2 rfl) ?_
      refine x_iadd hx hb dX12_element_64 ?_
      refine x_iald (f := El) hx hb hK hP (45) (by decide) h45 (by omega) (by omega) (by decide) dX12_element_65 ?_
      have hb_14 := hsh.2.2.2.1 ((100 * d) + i0)
      refine x_i2l hx hb (by omega) dX12_element_66 ?_
      refine lv_goto (tgt := 71) hx hb dX12_element_67 (by decide) ?_
      refine x_retQl hx hb hr (by omega) ?_ hP hD hS dX12_element_71 hlocks
      first | (exfalso; omega) | (refine ⟨rfl, hfr, _, hob, nov_13 10 (by decide), by (rw [vov_13]; unfold zElT; repeat first | rw [if_pos (by omega)] | rw [if_neg (by omega)]), fun hz9 => ?_⟩; unfold zElT at hz9; first | rfl | (exfalso; first | omega | (rw [if_pos (by omega)] at hz9; omega) | (rw [if_neg (by omega), if_pos (by omega)] at hz9; omega)))

set_option maxHeartbeats 4000000 in
set_option maxRecDepth 100000 in
theorem c_X12_copy (l : Launch) (g : xG) (σ : xS) (A : Nat → Prop) (ov : Nat → Int) (S : Int → Int) (hob : MObj g σ.1 ov) (hs0 : MArr g σ.1 38 29 S) (hok : SmOk S) (Kp So Sz El KK KF : Int → Int) (h42 : MArr g σ.1 42 8 Kp) (h43 : MArr g σ.1 43 8 So) (h44 : MArr g σ.1 44 8 Sz) (h45 : MArr g σ.1 45 800 El) (h46 : MArr g σ.1 46 8 KK) (h47 : MArr g σ.1 47 8 KF) (hsh : ShOk Kp So Sz El KK KF) (d : Int) (hd : inR d) (i0 : Int) (hi : inR i0) (e9 : Int) (he : inR e9) (j0 : Int) (hj : inR j0) (n : Int) (hn : inR n) : Met l yX12_copy wsX12_copy ({ frames := 3, cells := 0, slots := 0, locals := 96 }) (va_Pc [.ref (g.2.2 37), .int (iI (d)), .int (iI (i0)), .int (iI (e9)), .int (iI (j0)), .int (iI (n))] (xPreQ g A σ)) (x_Qi g A (fun r σ1 => σ1.2 = σ.2 ∧ (∀ j, j ≠ 45 → σ1.1 j = σ.1 j) ∧ r = zCopyR Kp So Sz d i0 e9 j0 n ∧ ((r < 0 ∧ σ1.1 = σ.1) ∨ (0 ≤ r ∧ MArr g σ1.1 45 800 (zMoved El (100 * d + i0) (100 * e9 + j0) n))))) (0) (0) A := by
  refine Met.ofW (cc := cX12_copy) (maxL := 8) (ret := (some .int)) (by decide) rfl ?_
  intro p e s m args below meth c s₁ B hml hv
  obtain ⟨rfl, hP, hK, hD, hA⟩ := hv
  have hx := B.exec
  have hb := B.bytes
  have hr := B.returns
  have hts := atoms_spec (ws := wsX12_copy) B.pre
  have hown : s.vm.findClass RX12 = some m.cls := findClass_of_methodNamed B.named
  have hlocks := B.notSynchronized
  have hS : va_S A s.heap s.heap [] := va_S.rf
  have hfr : ∀ j, (j ≠ 45) → σ.1 j = σ.1 j := fun _ _ => rfl
  have hl := lv_entry ([.ref (g.2.2 37), .int (iI (d)), .int (iI (i0)), .int (iI (e9)), .int (iI (j0)), .int (iI (n))]) (n := 8) (Nat.le_of_ble_eq_true rfl)
  rw [lg_entry_eq]
  generalize (lg_sl ([.ref (g.2.2 37), .int (iI (d)), .int (iI (i0)), .int (iI (e9)), .int (iI (j0)), .int (iI (n))]) ++ List.replicate (8 - (lg_sl ([.ref (g.2.2 37), .int (iI (d)), .int (iI (i0)), .int (iI (e9)), .int (iI (j0)), .int (iI (n))])).length) Slot.unset).toArray = ls at hl ⊢
  have hl : lv_has ls 8 [(0, .ref (g.2.2 37)), (1, .int (iI (d))), (2, .int (iI (i0))), (3, .int (iI (e9))), (4, .int (iI (j0))), (5, .int (iI (n)))] := hl
  have hn0 := hok.2.1
  have hrd0 := hok.2.2.1
  have hw_0 := hts (.fieldLink RX12 22 "TwiceAsRichModel" "kept" "[I") (by decide +kernel)
  have hin_X12 : ∀ w ∈ wsX120, w ∈ wsX12_copy := by decide +kernel
  have hw_2 := hts (.fieldLink RX12 25 "TwiceAsRichModel" "sort" "[I") (by decide +kernel)
  have hw_3 := hts (.fieldLink RX12 28 "TwiceAsRichModel" "size" "[I") (by decide +kernel)
  have hw_4 := hts (.fieldLink RX12 31 "TwiceAsRichModel" "element" "[I") (by decide +kernel)
  refine lv_iload_n hx hb dX12_copy_0 rfl (lv_at hl 1 rfl) ?_
  refine x_ci (va_runS (As := [.int (iI (d))]) (rest := []) ⟨hx, hb, hml, hown, hts⟩ (c_X12_isShelf l g σ (d) (by omega)) (va_cwS 1 hts gX12_copy_X12_isShelf rfl rfl rfl (by decide +kernel) ⟨Nat.le_of_ble_eq_true rfl, Nat.le_of_ble_eq_true rfl⟩) (x_preS hK hP) rfl rfl hl.1 rfl (lv_room (Nat.le_of_ble_eq_true rfl)) dX12_copy_1 ⟨Nat.le_of_ble_eq_true rfl, Nat.le_of_ble_eq_true rfl⟩) (fun r_1 hr_1 qr_1 => ?_)
  replace qr_1 : (r_1 = 1 ∧ 0 ≤ (d) ∧ (d) ≤ 7) ∨ (r_1 = 0 ∧ ¬ (0 ≤ (d) ∧ (d) ≤ 7)) := qr_1
  refine x_if_eq (tgt := 14) hx hb (by omega) dX12_copy_4 (by decide) (fun c_4 => ?_) (fun c_4 => ?_)
  · refine x_iconst hx hb dX12_copy_14 ?_
    refine x_retQ hx hb hr (by omega) ?_ hP hD hS dX12_copy_15 hlocks
    refine ⟨rfl, hfr, ?_⟩
    exact ⟨by (unfold zCopyR; repeat first | rw [if_pos (by omega)] | rw [if_neg (by omega)]), Or.inl ⟨by omega, rfl⟩⟩
  · refine lv_iload_n hx hb dX12_copy_7 rfl (lv_at hl 3 rfl) ?_
    refine x_ci (va_runS (As := [.int (iI (e9))]) (rest := []) ⟨hx, hb, hml, hown, hts⟩ (c_X12_isShelf l g σ (e9) (by omega)) (va_cwS 1 hts gX12_copy_X12_isShelf rfl rfl rfl (by decide +kernel) ⟨Nat.le_of_ble_eq_true rfl, Nat.le_of_ble_eq_true rfl⟩) (x_preS hK hP) rfl rfl hl.1 rfl (lv_room (Nat.le_of_ble_eq_true rfl)) dX12_copy_8 ⟨Nat.le_of_ble_eq_true rfl, Nat.le_of_ble_eq_true rfl⟩) (fun r_8 hr_8 qr_8 => ?_)
    replace qr_8 : (r_8 = 1 ∧ 0 ≤ (e9) ∧ (e9) ≤ 7) ∨ (r_8 = 0 ∧ ¬ (0 ≤ (e9) ∧ (e9) ≤ 7)) := qr_8
    refine x_if_ne (tgt := 16) hx hb (by omega) dX12_copy_11 (by decide) (fun c_11 => ?_) (fun c_11 => ?_)
    · have hsd := hsh.2.2.2.2.2.2 d (by omega) (by omega)
      have hse := hsh.2.2.2.2.2.2 e9 (by omega) (by omega)
      refine lv_aload_n hx hb dX12_copy_16 rfl (lv_at hl 0 rfl) ?_
      refine x_get (C := RX12) (T := TX12) (N := 24) hx hb hts hin_X12 hown hK hP (37) (by decide) hob rfl 4 (by decide) hw_0 (fun _ h9 => h9) rfl dX12_copy_17 ?_
      refine lv_iload_n hx hb dX12_copy_20 rfl (lv_at hl 1 rfl) ?_
      refine x_iald (f := Kp) hx hb hK hP (42) (by decide) h42 (by omega) (by omega) (by decide) dX12_copy_21 ?_
      have hb_1 := hsh.1 (d)
      refine x_if_eq (tgt := 34) hx hb (by omega) dX12_copy_22 (by decide) (fun c_22 => ?_) (fun c_22 => ?_)
      · refine x_bipush (n := -11) hx hb (by decide +kernel) dX12_copy_34 ?_
        refine x_retQ hx hb hr (by omega) ?_ hP hD hS dX12_copy_36 hlocks
        refine ⟨rfl, hfr, ?_⟩
        exact ⟨by (unfold zCopyR; repeat first | rw [if_pos (by omega)] | rw [if_neg (by omega)]), Or.inl ⟨by omega, rfl⟩⟩
      · refine lv_aload_n hx hb dX12_copy_25 rfl (lv_at hl 0 rfl) ?_
        refine x_get (C := RX12) (T := TX12) (N := 24) hx hb hts hin_X12 hown hK hP (37) (by decide) hob rfl 4 (by decide) hw_0 (fun _ h9 => h9) rfl dX12_copy_26 ?_
        refine lv_iload_n hx hb dX12_copy_29 rfl (lv_at hl 3 rfl) ?_
        refine x_iald (f := Kp) hx hb hK hP (42) (by decide) h42 (by omega) (by omega) (by decide) dX12_copy_30 ?_
        have hb_2 := hsh.1 (e9)
        refine x_if_ne (tgt := 37) hx hb (by omega) dX12_copy_31 (by decide) (fun c_31 => ?_) (fun c_31 => ?_)
        · refine lv_aload_n hx hb dX12_copy_37 rfl (lv_at hl 0 rfl) ?_
          refine x_get (C := RX12) (T := TX12) (N := 24) hx hb hts hin_X12 hown hK hP (37) (by decide) hob rfl 4 (by decide) hw_0 (fun _ h9 => h9) rfl dX12_copy_38 ?_
          refine lv_iload_n hx hb dX12_copy_41 rfl (lv_at hl 1 rfl) ?_
          refine x_iald (f := Kp) hx hb hK hP (42) (by decide) h42 (by omega) (by omega) (by decide) dX12_copy_42 ?_
          have hb_3 := hsh.1 (d)
          refine x_iconst hx hb dX12_copy_43 ?_
          refine x_icmp_ne (tgt := 72) hx hb (by omega) (by omega) dX12_copy_44 (by decide) (fun c_44 => ?_) (fun c_44 => ?_)
          · refine x_bipush (n := -12) hx hb (by decide +kernel) dX12_copy_72 ?_
            refine x_retQ hx hb hr (by omega) ?_ hP hD hS dX12_copy_74 hlocks
            refine ⟨rfl, hfr, ?_⟩
            exact ⟨by (unfold zCopyR; repeat first | rw [if_pos (by omega)] | rw [if_neg (by omega)]), Or.inl ⟨by omega, rfl⟩⟩
          · refine lv_aload_n hx hb dX12_copy_47 rfl (lv_at hl 0 rfl) ?_
            refine x_get (C := RX12) (T := TX12) (N := 24) hx hb hts hin_X12 hown hK hP (37) (by decide) hob rfl 4 (by decide) hw_0 (fun _ h9 => h9) rfl dX12_copy_48 ?_
            refine lv_iload_n hx hb dX12_copy_51 rfl (lv_at hl 3 rfl) ?_
            refine x_iald (f := Kp) hx hb hK hP (42) (by decide) h42 (by omega) (by omega) (by decide) dX12_copy_52 ?_
            have hb_4 := hsh.1 (e9)
            refine x_iconst hx hb dX12_copy_53 ?_
            refine x_icmp_ne (tgt := 72) hx hb (by omega) (by omega) dX12_copy_54 (by decide) (fun c_54 => ?_) (fun c_54 => ?_)
            · refine x_bipush (n := -12) hx hb (by decide +kernel) dX12_copy_72 ?_
              refine x_retQ hx hb hr (by omega) ?_ hP hD hS dX12_copy_74 hlocks
              refine ⟨rfl, hfr, ?_⟩
              exact ⟨by (unfold zCopyR; repeat first | rw [if_pos (by omega)] | rw [if_neg (by omega)]), Or.inl ⟨by omega, rfl⟩⟩
            · refine lv_aload_n hx hb dX12_copy_57 rfl (lv_at hl 0 rfl) ?_
              refine x_get (C := RX12) (T := TX12) (N := 24) hx hb hts hin_X12 hown hK hP (37) (by decide) hob rfl 5 (by decide) hw_2 (fun _ h9 => h9) rfl dX12_copy_58 ?_
              refine lv_iload_n hx hb dX12_copy_61 rfl (lv_at hl 1 rfl) ?_
              refine x_iald (f := So) hx hb hK hP (43) (by decide) h43 (by omega) (by omega) (by decide) dX12_copy_62 ?_
              have hb_5 := hsh.2.1 (d)
              refine lv_aload_n hx hb dX12_copy_63 rfl (lv_at hl 0 rfl) ?_
              refine x_get (C := RX12) (T := TX12) (N := 24) hx hb hts hin_X12 hown hK hP (37) (by decide) hob rfl 5 (by decide) hw_2 (fun _ h9 => h9) rfl dX12_copy_64 ?_
              refine lv_iload_n hx hb dX12_copy_67 rfl (lv_at hl 3 rfl) ?_
              refine x_iald (f := So) hx hb hK hP (43) (by decide) h43 (by omega) (by omega) (by decide) dX12_copy_68 ?_
              have hb_6 := hsh.2.1 (e9)
              refine x_icmp_eq (tgt := 75) hx hb (by omega) (by omega) dX12_copy_69 (by decide) (fun c_69 => ?_) (fun c_69 => ?_)
              · refine lv_iload hx hb dX12_copy_75 (lv_at hl 5 rfl) ?_
                refine x_if_lt (tgt := 116) hx hb (by omega) dX12_copy_77 (by decide) (fun c_77 => ?_) (fun c_77 => ?_)
                · refine x_bipush (n := -13) hx hb (by decide +kernel) dX12_copy_116 ?_
                  refine x_retQ hx hb hr (by omega) ?_ hP hD hS dX12_copy_118 hlocks
                  refine ⟨rfl, hfr, ?_⟩
                  exact ⟨by (unfold zCopyR; repeat first | rw [if_pos (by omega)] | rw [if_neg (by omega)]), Or.inl ⟨by omega, rfl⟩⟩
                · refine lv_iload_n hx hb dX12_copy_80 rfl (lv_at hl 2 rfl) ?_
                  refine x_if_lt (tgt := 116) hx hb (by omega) dX12_copy_81 (by decide) (fun c_81 => ?_) (fun c_81 => ?_)
                  · refine x_bipush (n := -13) hx hb (by decide +kernel) dX12_copy_116 ?_
                    refine x_retQ hx hb hr (by omega) ?_ hP hD hS dX12_copy_118 hlocks
                    refine ⟨rfl, hfr, ?_⟩
                    exact ⟨by (unfold zCopyR; repeat first | rw [if_pos (by omega)] | rw [if_neg (by omega)]), Or.inl ⟨by omega, rfl⟩⟩
                  · refine lv_iload hx hb dX12_copy_84 (lv_at hl 4 rfl) ?_
                    refine x_if_lt (tgt := 116) hx hb (by omega) dX12_copy_86 (by decide) (fun c_86 => ?_) (fun c_86 => ?_)
                    · refine x_bipush (n := -13) hx hb (by decide +kernel) dX12_copy_116 ?_
                      refine x_retQ hx hb hr (by omega) ?_ hP hD hS dX12_copy_118 hlocks
                      refine ⟨rfl, hfr, ?_⟩
                      exact ⟨by (unfold zCopyR; repeat first | rw [if_pos (by omega)] | rw [if_neg (by omega)]), Or.inl ⟨by omega, rfl⟩⟩
                    · have hsd := hsh.2.2.2.2.2.2 d (by omega) (by omega)
                      have hse := hsh.2.2.2.2.2.2 e9 (by omega) (by omega)
                      refine lv_iload hx hb dX12_copy_89 (lv_at hl 5 rfl) ?_
                      refine lv_aload_n hx hb dX12_copy_91 rfl (lv_at hl 0 rfl) ?_
                      refine x_get (C := RX12) (T := TX12) (N := 24) hx hb hts hin_X12 hown hK hP (37) (by decide) hob rfl 6 (by decide) hw_3 (fun _ h9 => h9) rfl dX12_copy_92 ?_
                      refine lv_iload_n hx hb dX12_copy_95 rfl (lv_at hl 1 rfl) ?_
                      refine x_iald (f := Sz) hx hb hK hP (44) (by decide) h44 (by omega) (by omega) (by decide) dX12_copy_96 ?_
                      have hb_7 := hsh.2.2.1 (d)
                      refine lv_iload_n hx hb dX12_copy_97 rfl (lv_at hl 2 rfl) ?_
                      refine x_isub hx hb dX12_copy_98 ?_
                      refine x_icmp_gt (tgt := 116) hx hb (by omega) (by omega) dX12_copy_99 (by decide) (fun c_99 => ?_) (fun c_99 => ?_)
                      · refine x_bipush (n := -13) hx hb (by decide +kernel) dX12_copy_116 ?_
                        refine x_retQ hx hb hr (by omega) ?_ hP hD hS dX12_copy_118 hlocks
                        refine ⟨rfl, hfr, ?_⟩
                        exact ⟨by (unfold zCopyR; repeat first | rw [if_pos (by omega)] | rw [if_neg (by omega)]), Or.inl ⟨by omega, rfl⟩⟩
                      · refine lv_iload hx hb dX12_copy_102 (lv_at hl 5 rfl) ?_
                        refine lv_aload_n hx hb dX12_copy_104 rfl (lv_at hl 0 rfl) ?_
                        refine x_get (C := RX12) (T := TX12) (N := 24) hx hb hts hin_X12 hown hK hP (37) (by decide) hob rfl 6 (by decide) hw_3 (fun _ h9 => h9) rfl dX12_copy_105 ?_
                        refine lv_iload_n hx hb dX12_copy_108 rfl (lv_at hl 3 rfl) ?_
                        refine x_iald (f := Sz) hx hb hK hP (44) (by decide) h44 (by omega) (by omega) (by decide) dX12_copy_109 ?_
                        have hb_8 := hsh.2.2.1 (e9)
                        refine lv_iload hx hb dX12_copy_110 (lv_at hl 4 rfl) ?_
                        refine x_isub hx hb dX12_copy_112 ?_
                        refine x_icmp_le (tgt := 119) hx hb (by omega) (by omega) dX12_copy_113 (by decide) (fun c_113 => ?_) (fun c_113 => ?_)
                        · refine x_iconst hx hb dX12_copy_119 ?_
                          refine lv_istore (lv' := [(6, .int (iI (0))), (0, .ref (g.2.2 37)), (1, .int (iI (d))), (2, .int (iI (i0))), (3, .int (iI (e9))), (4, .int (iI (j0))), (5, .int (iI (n)))]) hx hb dX12_copy_120 hl (by decide) rfl (fun ls hl => ?_)
                          have hloop_122 : ∀ (k : Nat) (i : Int), (n - i).toNat < k → (hi0 : 0 ≤ i) → (hin : i ≤ n) → (hA : (0 ≤ d ∧ d ≤ 7) ∧ (0 ≤ e9 ∧ e9 ≤ 7) ∧ 0 ≤ i0 ∧ 0 ≤ j0 ∧ i0 + n ≤ 100 ∧ j0 + n ≤ 100) → ∀ (M : xM) (H : Heap) (locs : List Loc), (hob : M (37) = .inr (12, [.ref (g.2.2 38), .ref (g.2.2 39), .ref (g.2.2 40), .ref (g.2.2 41), .ref (g.2.2 42), .ref (g.2.2 43), .ref (g.2.2 44), .ref (g.2.2 45), .ref (g.2.2 46), .ref (g.2.2 47), .int (iI (ov 10)), .int (iI (ov 11)), .int (iI (ov 12)), .int (iI (ov 13)), .int (iI (ov 14)), .int (iI (ov 15)), .ref (g.2.2 48), .int (iI (ov 17)), .int (iI (ov 18)), .int (iI (ov 19)), .int (iI (ov 20)), .int (iI (ov 21)), .ref (g.2.2 49), .int (iI (ov 23))])) → (hs0 : M (38) = .inl (g.2.1 0, 29, .inl (fun k => iI (S (k : Int))))) → (h42 : M (42) = .inl (g.2.1 0, 8, .inl (fun k => iI (Kp (k : Int))))) → (h43 : M (43) = .inl (g.2.1 0, 8, .inl (fun k => iI (So (k : Int))))) → (h44 : M (44) = .inl (g.2.1 0, 8, .inl (fun k => iI (Sz (k : Int))))) → (h45 : M (45) = .inl (g.2.1 0, 800, .inl (fun k => iI (zMove El (100 * d + i0) (100 * e9 + j0) n i (j0 < i0) (k : Int))))) → (h46 : M (46) = .inl (g.2.1 0, 8, .inl (fun k => iI (KK (k : Int))))) → (h47 : M (47) = .inl (g.2.1 0, 8, .inl (fun k => iI (KF (k : Int))))) → (hfr : ∀ j, (j ≠ 45) → M j = σ.1 j) → xP g (M, σ.2) H → xD g A (M, σ.2) → va_S A s.heap H locs → ∀ (ls : Array Slot), lv_has ls 8 [(6, .int (iI (i))), (0, .ref (g.2.2 37)), (1, .int (iI (d))), (2, .int (iI (i0))), (3, .int (iI (e9))), (4, .int (iI (j0))), (5, .int (iI (n)))] → W p l e (headSpec wsX12_copy ({ frames := 3, cells := 0, slots := 0, locals := 96 })).room s m ([.ref (g.2.2 37), .int (iI (d)), .int (iI (i0)), .int (iI (e9)), .int (iI (j0)), .int (iI (n))] : List Value).toArray below meth c H locs 0 0 (MQ below (x_Qi g A (fun r σ1 => σ1.2 = σ.2 ∧ (∀ j, j ≠ 45 → σ1.1 j = σ.1 j) ∧ r = zCopyR Kp So Sz d i0 e9 j0 n ∧ ((r < 0 ∧ σ1.1 = σ.1) ∨ (0 ≤ r ∧ MArr g σ1.1 45 800 (zMoved El (100 * d + i0) (100 * e9 + j0) n))))) ([.ref (g.2.2 37), .int (iI (d)), .int (iI (i0)), .int (iI (e9)), .int (iI (j0)), .int (iI (n))] : List Value).toArray s (0) (0) A) (F0 m 122 ls []) := by
                            intro k
                            induction k with
                            | zero =>
                              intros; exact absurd (by assumption) (Nat.not_lt_zero _)
                            | succ k ih =>
                              intro i hmeas hi0 hin hA M H locs hob hs0 h42 h43 h44 h45 h46 h47 hfr hP hD hS ls hl
                              have ih_9 := ih
                              refine lv_iload hx hb dX12_copy_122 (lv_at hl 0 rfl) ?_
                              refine lv_iload hx hb dX12_copy_124 (lv_at hl 6 rfl) ?_
                              refine x_icmp_ge (tgt := 184) hx hb (by omega) (by omega) dX12_copy_126 (by decide) (fun c_126 => ?_) (fun c_126 => ?_)
                              · refine lv_iload hx hb dX12_copy_184 (lv_at hl 6 rfl) ?_
                                refine x_retQ hx hb hr (by omega) ?_ hP hD hS dX12_copy_186 hlocks
                                refine ⟨rfl, hfr, ?_⟩
                                refine ⟨by (unfold zCopyR; repeat first | rw [if_pos (by omega)] | rw [if_neg (by omega)]), Or.inr ⟨by omega, ?_⟩⟩
                                have e : i = n := by omega
                                rw [e, zMove_n] at h45
                                exact h45
                              · refine lv_iload_n hx hb dX12_copy_129 rfl (lv_at hl 3 rfl) ?_
                                refine lv_iload hx hb dX12_copy_130 (lv_at hl 5 rfl) ?_
                                refine x_icmp_le (tgt := 140) hx hb (by omega) (by omega) dX12_copy_132 (by decide) (fun c_132 => ?_) (fun c_132 => ?_)
                                · refine lv_iload hx hb dX12_copy_140 (lv_at hl 6 rfl) ?_
                                  refine x_iconst hx hb dX12_copy_142 ?_
                                  refine x_isub hx hb dX12_copy_143 ?_
                                  refine lv_iload hx hb dX12_copy_144 (lv_at hl 0 rfl) ?_
                                  refine x_isub hx hb dX12_copy_146 ?_
                                  refine lv_istore (lv' := [(7, .int (iI ((n - 1) - i))), (6, .int (iI (i))), (0, .ref (g.2.2 37)), (1, .int (iI (d))), (2, .int (iI (i0))), (3, .int (iI (e9))), (4, .int (iI (j0))), (5, .int (iI (n)))]) hx hb dX12_copy_147 hl (by decide) rfl (fun ls hl => ?_)
                                  refine lv_aload_n hx hb dX12_copy_149 rfl (lv_at hl 2 rfl) ?_
                                  refine x_get (C := RX12) (T := TX12) (N := 24) hx hb hts hin_X12 hown hK hP (37) (by decide) hob rfl 7 (by decide) hw_4 (fun _ h9 => h9) rfl dX12_copy_150 ?_
                                  refine x_bipush (n := 100) hx hb (by decide +kernel) dX12_copy_153 ?_
                                  refine lv_iload_n hx hb dX12_copy_155 rfl (lv_at hl 5 rfl) ?_
                                  refine x_imul hx hb dX12_copy_156 ?_
                                  refine lv_iload hx hb dX12_copy_157 (lv_at hl 6 rfl) ?_
                                  refine x_iadd hx hb dX12_copy_159 ?_
                                  refine lv_iload hx hb dX12_copy_160 (lv_at hl 0 rfl) ?_
                                  refine x_iadd hx hb dX12_copy_162 ?_
                                  refine lv_aload_n hx hb dX12_copy_163 rfl (lv_at hl 2 rfl) ?_
                                  refine x_get (C := RX12) (T := TX12) (N := 24) hx hb hts hin_X12 hown hK hP (37) (by decide) hob rfl 7 (by decide) hw_4 (fun _ h9 => h9) rfl dX12_copy_164 ?_
                                  refine x_bipush (n := 100) hx hb (by decide +kernel) dX12_copy_167 ?_
                                  refine lv_iload_n hx hb dX12_copy_169 rfl (lv_at hl 3 rfl) ?_
                                  refine x_imul hx hb dX12_copy_170 ?_
                                  refine lv_iload_n hx hb dX12_copy_171 rfl (lv_at hl 4 rfl) ?_
                                  refine x_iadd hx hb dX12_copy_172 ?_
                                  refine lv_iload hx hb dX12_copy_173 (lv_at hl 0 rfl) ?_
                                  refine x_iadd hx hb dX12_copy_175 ?_
                                  refine x_iald (f := zMove El (100 * d + i0) (100 * e9 + j0) n i (j0 < i0)) hx hb hK hP (45) (by decide) h45 (by omega) (by omega) (by decide) dX12_copy_176 ?_
                                  refine x_iast (f := zMove El (100 * d + i0) (100 * e9 + j0) n i (j0 < i0)) hx hb hK hP hD hS (45) (by decide) h45 (by omega) (by omega) (by decide) dX12_copy_177 (fun M_10 H locs hnew hne hP hD hS => ?_)
                                  obtain ⟨f_11, hf_11⟩ : ∃ q : Int → Int, q = (upI (zMove El (100 * d + i0) (100 * e9 + j0) n i (j0 < i0)) (((100 * e9) + j0) + ((n - 1) - i)) ((zMove El (100 * d + i0) (100 * e9 + j0) n i (j0 < i0)) (((100 * d) + i0) + ((n - 1) - i)))) := ⟨_, rfl⟩
                                  rw [← hf_11] at hnew
                                  have hP : xP g (M_10, σ.2) H := hP
                                  have hD : xD g A (M_10, σ.2) := hD
                                  have h45 : M_10 (45) = .inl (g.2.1 0, 800, .inl (fun k => iI (f_11 (k : Int)))) := hnew
                                  have hob : MObj g M_10 ov := (hne (37) (by decide)).trans hob
                                  have hs0 := (hne (38) (by decide)).trans hs0
                                  have h42 := (hne (42) (by decide)).trans h42
                                  have h43 := (hne (43) (by decide)).trans h43
                                  have h44 := (hne (44) (by decide)).trans h44
                                  have h46 := (hne (46) (by decide)).trans h46
                                  have h47 := (hne (47) (by decide)).trans h47
                                  have hfr := x_fr (F := fun j => j ≠ 45) hfr hne (fun j h => by have h : j ≠ 45 := h; omega)
                                  refine x_iinc (k0 := 1) (lv' := [(6, .int (iI (i + 1))), (7, .int (iI ((n - 1) - i))), (0, .ref (g.2.2 37)), (1, .int (iI (d))), (2, .int (iI (i0))), (3, .int (iI (e9))), (4, .int (iI (j0))), (5, .int (iI (n)))]) hx hb dX12_copy_178 hl rfl (by decide) rfl (fun ls hl => ?_)
                                  refine lv_goto (tgt := 122) hx hb dX12_copy_181 (by decide) ?_
                                  have hs : f_11 = zMove El (100 * d + i0) (100 * e9 + j0) n (i + 1) (j0 < i0) := by (rw [hf_11]; first | exact zMove_up (by omega) (by omega) (by omega) | exact zMove_dn (by omega) (by omega) (by omega))
                                  rw [hs] at h45
                                  exact ih_9 (i + 1) (by omega) (by omega) (by omega) (by omega) (M_10) _ _ hob hs0 h42 h43 h44 h45 h46 h47 hfr hP hD hS ls (lv_sub hl [0, 2, 3, 4, 5, 6, 7] rfl)
                                · refine lv_iload hx hb dX12_copy_135 (lv_at hl 0 rfl) ?_
                                  refine lv_goto (tgt := 147) hx hb dX12_copy_137 (by decide) ?_
                                  refine lv_istore (lv' := [(7, .int (iI (i))), (6, .int (iI (i))), (0, .ref (g.2.2 37)), (1, .int (iI (d))), (2, .int (iI (i0))), (3, .int (iI (e9))), (4, .int (iI (j0))), (5, .int (iI (n)))]) hx hb dX12_copy_147 hl (by decide) rfl (fun ls hl => ?_)
                                  refine lv_aload_n hx hb dX12_copy_149 rfl (lv_at hl 2 rfl) ?_
                                  refine x_get (C := RX12) (T := TX12) (N := 24) hx hb hts hin_X12 hown hK hP (37) (by decide) hob rfl 7 (by decide) hw_4 (fun _ h9 => h9) rfl dX12_copy_150 ?_
                                  refine x_bipush (n := 100) hx hb (by decide +kernel) dX12_copy_153 ?_
                                  refine lv_iload_n hx hb dX12_copy_155 rfl (lv_at hl 5 rfl) ?_
                                  refine x_imul hx hb dX12_copy_156 ?_
                                  refine lv_iload hx hb dX12_copy_157 (lv_at hl 6 rfl) ?_
                                  refine x_iadd hx hb dX12_copy_159 ?_
                                  refine lv_iload hx hb dX12_copy_160 (lv_at hl 0 rfl) ?_
                                  refine x_iadd hx hb dX12_copy_162 ?_
                                  refine lv_aload_n hx hb dX12_copy_163 rfl (lv_at hl 2 rfl) ?_
                                  refine x_get (C := RX12) (T := TX12) (N := 24) hx hb hts hin_X12 hown hK hP (37) (by decide) hob rfl 7 (by decide) hw_4 (fun _ h9 => h9) rfl dX12_copy_164 ?_
                                  refine x_bipush (n := 100) hx hb (by decide +kernel) dX12_copy_167 ?_
                                  refine lv_iload_n hx hb dX12_copy_169 rfl (lv_at hl 3 rfl) ?_
                                  refine x_imul hx hb dX12_copy_170 ?_
                                  refine lv_iload_n hx hb dX12_copy_171 rfl (lv_at hl 4 rfl) ?_
                                  refine x_iadd hx hb dX12_copy_172 ?_
                                  refine lv_iload hx hb dX12_copy_173 (lv_at hl 0 rfl) ?_
                                  refine x_iadd hx hb dX12_copy_175 ?_
                                  refine x_iald (f := zMove El (100 * d + i0) (100 * e9 + j0) n i (j0 < i0)) hx hb hK hP (45) (by decide) h45 (by omega) (by omega) (by decide) dX12_copy_176 ?_
                                  refine x_iast (f := zMove El (100 * d + i0) (100 * e9 + j0) n i (j0 < i0)) hx hb hK hP hD hS (45) (by decide) h45 (by omega) (by omega) (by decide) dX12_copy_177 (fun M_12 H locs hnew hne hP hD hS => ?_)
                                  obtain ⟨f_13, hf_13⟩ : ∃ q : Int → Int, q = (upI (zMove El (100 * d + i0) (100 * e9 + j0) n i (j0 < i0)) (((100 * e9) + j0) + i) ((zMove El (100 * d + i0) (100 * e9 + j0) n i (j0 < i0)) (((100 * d) + i0) + i))) := ⟨_, rfl⟩
                                  rw [← hf_13] at hnew
                                  have hP : xP g (M_12, σ.2) H := hP
                                  have hD : xD g A (M_12, σ.2) := hD
                                  have h45 : M_12 (45) = .inl (g.2.1 0, 800, .inl (fun k => iI (f_13 (k : Int)))) := hnew
                                  have hob : MObj g M_12 ov := (hne (37) (by decide)).trans hob
                                  have hs0 := (hne (38) (by decide)).trans hs0
                                  have h42 := (hne (42) (by decide)).trans h42
                                  have h43 := (hne (43) (by decide)).trans h43
                                  have h44 := (hne (44) (by decide)).trans h44
                                  have h46 := (hne (46) (by decide)).trans h46
                                  have h47 := (hne (47) (by decide)).trans h47
                                  have hfr := x_fr (F := fun j => j ≠ 45) hfr hne (fun j h => by have h : j ≠ 45 := h; omega)
                                  refine x_iinc (k0 := 1) (lv' := [(6, .int (iI (i + 1))), (7, .int (iI (i))), (0, .ref (g.2.2 37)), (1, .int (iI (d))), (2, .int (iI (i0))), (3, .int (iI (e9))), (4, .int (iI (j0))), (5, .int (iI (n)))]) hx hb dX12_copy_178 hl rfl (by decide) rfl (fun ls hl => ?_)
                                  refine lv_goto (tgt := 122) hx hb dX12_copy_181 (by decide) ?_
                                  have hs : f_13 = zMove El (100 * d + i0) (100 * e9 + j0) n (i + 1) (j0 < i0) := by (rw [hf_13]; first | exact zMove_up (by omega) (by omega) (by omega) | exact zMove_dn (by omega) (by omega) (by omega))
                                  rw [hs] at h45
                                  exact ih_9 (i + 1) (by omega) (by omega) (by omega) (by omega) (M_12) _ _ hob hs0 h42 h43 h44 h45 h46 h47 hfr hP hD hS ls (lv_sub hl [0, 2, 3, 4, 5, 6, 7] rfl)
                          rw [← zMove_0 El (100 * d + i0) (100 * e9 + j0) n (j0 < i0)] at h45
                          exact hloop_122 (((n - (0)).toNat) + 1) (0) (by omega) (by omega) (by omega) (by omega) (σ.1) _ _ hob hs0 h42 h43 h44 h45 h46 h47 hfr hP hD hS ls (lv_sub hl [0, 1, 2, 3, 4, 5, 6] rfl)
                        · refine x_bipush (n := -13) hx hb (by decide +kernel) dX12_copy_116 ?_
                          refine x_retQ hx hb hr (by omega) ?_ hP hD hS dX12_copy_118 hlocks
                          refine ⟨rfl, hfr, ?_⟩
                          exact ⟨by (unfold zCopyR; repeat first | rw [if_pos (by omega)] | rw [if_neg (by omega)]), Or.inl ⟨by omega, rfl⟩⟩
              · refine x_bipush (n := -12) hx hb (by decide +kernel) dX12_copy_72 ?_
                refine x_retQ hx hb hr (by omega) ?_ hP hD hS dX12_copy_74 hlocks
                refine ⟨rfl, hfr, ?_⟩
                exact ⟨by (unfold zCopyR; repeat first | rw [if_pos (by omega)] | rw [if_neg (by omega)]), Or.inl ⟨by omega, rfl⟩⟩
        · refine x_bipush (n := -11) hx hb (by decide +kernel) dX12_copy_34 ?_
          refine x_retQ hx hb hr (by omega) ?_ hP hD hS dX12_copy_36 hlocks
          refine ⟨rfl, hfr, ?_⟩
          exact ⟨by (unfold zCopyR; repeat first | rw [if_pos (by omega)] | rw [if_neg (by omega)]), Or.inl ⟨by omega, rfl⟩⟩
    · refine x_iconst hx hb dX12_copy_14 ?_
      refine x_retQ hx hb hr (by omega) ?_ hP hD hS dX12_copy_15 hlocks
      refine ⟨rfl, hfr, ?_⟩
      exact ⟨by (unfold zCopyR; repeat first | rw [if_pos (by omega)] | rw [if_neg (by omega)]), Or.inl ⟨by omega, rfl⟩⟩

set_option maxHeartbeats 4000000 in
set_option maxRecDepth 100000 in
theorem c_X12_judge (l : Launch) (g : xG) (σ : xS) (ov : Nat → Int) (S : Int → Int) (hob : MObj g σ.1 ov) (hs0 : MArr g σ.1 38 29 S) (hok : SmOk S) (Kp So Sz El KK KF : Int → Int) (h42 : MArr g σ.1 42 8 Kp) (h43 : MArr g σ.1 43 8 So) (h44 : MArr g σ.1 44 8 Sz) (h45 : MArr g σ.1 45 800 El) (h46 : MArr g σ.1 46 8 KK) (h47 : MArr g σ.1 47 8 KF) (hsh : ShOk Kp So Sz El KK KF) (d : Int) (hd : inR d) : Met l yX12_judge wsX12_judge ({ frames := 4, cells := 0, slots := 0, locals := 128 }) (va_Pc [.ref (g.2.2 37), .int (iI (d))] (xPre g σ)) (x_Si (fun r => (zRowR Kp So d (-1) ≠ 0 ∧ r = zRowR Kp So d (-1)) ∨ (zRowR Kp So d (-1) = 0 ∧ zJudged (fun j => El (100 * d + j)) (mP S) (Sz d) (S 0) (zLeast (So d)) r))) (0) (0) (fun _ => False) := by
  refine Met.ofW (cc := cX12_judge) (maxL := 5) (ret := (some .int)) (by decide) rfl ?_
  intro p e s m args below meth c s₁ B hml hv
  obtain ⟨rfl, hP, hK⟩ := hv
  have hx := B.exec
  have hb := B.bytes
  have hr := B.returns
  have hts := atoms_spec (ws := wsX12_judge) B.pre
  have hown : s.vm.findClass RX12 = some m.cls := findClass_of_methodNamed B.named
  have hlocks := B.notSynchronized
  have hl := lv_entry ([.ref (g.2.2 37), .int (iI (d))]) (n := 5) (Nat.le_of_ble_eq_true rfl)
  rw [lg_entry_eq]
  generalize (lg_sl ([.ref (g.2.2 37), .int (iI (d))]) ++ List.replicate (5 - (lg_sl ([.ref (g.2.2 37), .int (iI (d))])).length) Slot.unset).toArray = ls at hl ⊢
  have hl : lv_has ls 5 [(0, .ref (g.2.2 37)), (1, .int (iI (d)))] := hl
  have hn0 := hok.2.1
  have hrd0 := hok.2.2.1
  have hw_0 := hts (.fieldLink RX12 25 "TwiceAsRichModel" "sort" "[I") (by decide +kernel)
  have hin_X12 : ∀ w ∈ wsX120, w ∈ wsX12_judge := by decide +kernel
  have hw_2 := hts (.constant RX12 242 (-2147483648)) (by decide +kernel)
  have hw_3 := hts (.fieldLink RX12 28 "TwiceAsRichModel" "size" "[I") (by decide +kernel)
  have hw_4 := hts (.fieldLink RX12 9 "TwiceAsRichModel" "s" "[I") (by decide +kernel)
  refine lv_aload_n hx hb dX12_judge_0 rfl (lv_at hl 0 rfl) ?_
  refine lv_iload_n hx hb dX12_judge_1 rfl (lv_at hl 1 rfl) ?_
  refine x_iconst hx hb dX12_judge_2 ?_
  refine x_ci (va_runV (As := [.int (iI (d)), .int (iI (-1))]) (rest := []) ⟨hx, hb, hml, hown, hts⟩ (c_X12_wrongRow l g σ (ov) S hob hs0 hok Kp So Sz El KK KF h42 h43 h44 h45 h46 h47 hsh (d) (by omega) (-1) (by omega)) (cwV 2 hts gX12_judge_X12_wrongRow rfl rfl rfl (by decide +kernel) ⟨Nat.le_of_ble_eq_true rfl, Nat.le_of_ble_eq_true rfl⟩) (x_preV hK hP (x_recv hK hP (i := 37) (by decide) hob rfl)) rfl rfl hl.1 rfl (lv_room (Nat.le_of_ble_eq_true rfl)) dX12_judge_3 ⟨Nat.le_of_ble_eq_true rfl, Nat.le_of_ble_eq_true rfl⟩) (fun r_3 hr_3 qr_3 => ?_)
  replace qr_3 : r_3 = zRowR Kp So (d) (-1) := qr_3
  refine lv_istore_n (lv' := [(2, .int (iI (r_3))), (0, .ref (g.2.2 37)), (1, .int (iI (d)))]) hx hb dX12_judge_6 rfl hl (by decide) rfl (fun ls hl => ?_)
  refine lv_iload_n hx hb dX12_judge_7 rfl (lv_at hl 0 rfl) ?_
  refine x_if_eq (tgt := 13) hx hb (by omega) dX12_judge_8 (by decide) (fun c_8 => ?_) (fun c_8 => ?_)
  · have hk0 := zRowR_0 qr_3 (by omega)
    have hsd := hsh.2.2.2.2.2.2 d hk0.1 hk0.2.1
    refine lv_aload_n hx hb dX12_judge_13 rfl (lv_at hl 1 rfl) ?_
    refine x_get (C := RX12) (T := TX12) (N := 24) hx hb hts hin_X12 hown hK hP (37) (by decide) hob rfl 5 (by decide) hw_0 (fun _ h9 => h9) rfl dX12_judge_14 ?_
    refine lv_iload_n hx hb dX12_judge_17 rfl (lv_at hl 2 rfl) ?_
    refine x_iald (f := So) hx hb hK hP (43) (by decide) h43 (by omega) (by omega) (by decide) dX12_judge_18 ?_
    have hb_1 := hsh.2.1 (d)
    refine x_if_ne (tgt := 27) hx hb (by omega) dX12_judge_19 (by decide) (fun c_19 => ?_) (fun c_19 => ?_)
    · refine lv_aload_n hx hb dX12_judge_27 rfl (lv_at hl 1 rfl) ?_
      refine x_get (C := RX12) (T := TX12) (N := 24) hx hb hts hin_X12 hown hK hP (37) (by decide) hob rfl 5 (by decide) hw_0 (fun _ h9 => h9) rfl dX12_judge_28 ?_
      refine lv_iload_n hx hb dX12_judge_31 rfl (lv_at hl 2 rfl) ?_
      refine x_iald (f := So) hx hb hK hP (43) (by decide) h43 (by omega) (by omega) (by decide) dX12_judge_32 ?_
      have hb_2 := hsh.2.1 (d)
      refine x_iconst hx hb dX12_judge_33 ?_
      refine x_icmp_ne (tgt := 43) hx hb (by omega) (by omega) dX12_judge_34 (by decide) (fun c_34 => ?_) (fun c_34 => ?_)
      · refine x_ldc (n := -2147483648) hx hb hown hw_2 (by decide +kernel) dX12_judge_43 ?_
        refine lv_istore_n (lv' := [(3, .int (iI (-2147483648))), (2, .int (iI (r_3))), (0, .ref (g.2.2 37)), (1, .int (iI (d)))]) hx hb dX12_judge_45 rfl hl (by decide) rfl (fun ls hl => ?_)
        refine x_iconst hx hb dX12_judge_46 ?_
        refine lv_istore (lv' := [(4, .int (iI (0))), (3, .int (iI (-2147483648))), (2, .int (iI (r_3))), (0, .ref (g.2.2 37)), (1, .int (iI (d)))]) hx hb dX12_judge_47 hl (by decide) rfl (fun ls hl => ?_)
        have hloop_49 : ∀ (k : Nat) (i : Int) (sk : Int), (Sz d - i).toNat < k → (hi0 : 0 ≤ i) → (hin : i ≤ Sz d) → (hin2 : i ≤ S 0) → (hsk : zLeast (So d) = sk) → (hskr : inR sk) → (hall : ∀ j, 0 ≤ j → j < i → El (100 * d + j) = sk ∨ El (100 * d + j) = mP S j) → ∀ (ls : Array Slot), lv_has ls 5 [(4, .int (iI (i))), (3, .int (iI (sk))), (2, .int (iI (r_3))), (0, .ref (g.2.2 37)), (1, .int (iI (d)))] → W p l e (headSpec wsX12_judge ({ frames := 4, cells := 0, slots := 0, locals := 128 })).room s m ([.ref (g.2.2 37), .int (iI (d))] : List Value).toArray below meth c s.heap [] 0 0 (MQ below (x_Si (fun r => (zRowR Kp So d (-1) ≠ 0 ∧ r = zRowR Kp So d (-1)) ∨ (zRowR Kp So d (-1) = 0 ∧ zJudged (fun j => El (100 * d + j)) (mP S) (Sz d) (S 0) (zLeast (So d)) r))) ([.ref (g.2.2 37), .int (iI (d))] : List Value).toArray s (0) (0) (fun _ => False)) (F0 m 49 ls []) := by
          intro k
          induction k with
          | zero =>
            intros; exact absurd (by assumption) (Nat.not_lt_zero _)
          | succ k ih =>
            intro i sk hmeas hi0 hin hin2 hsk hskr hall  ls hl
            have ih_3 := ih
            refine lv_iload hx hb dX12_judge_49 (lv_at hl 0 rfl) ?_
            refine lv_aload_n hx hb dX12_judge_51 rfl (lv_at hl 3 rfl) ?_
            refine x_get (C := RX12) (T := TX12) (N := 24) hx hb hts hin_X12 hown hK hP (37) (by decide) hob rfl 6 (by decide) hw_3 (fun _ h9 => h9) rfl dX12_judge_52 ?_
            refine lv_iload_n hx hb dX12_judge_55 rfl (lv_at hl 4 rfl) ?_
            refine x_iald (f := Sz) hx hb hK hP (44) (by decide) h44 (by omega) (by omega) (by decide) dX12_judge_56 ?_
            have hb_4 := hsh.2.2.1 (d)
            refine x_icmp_ge (tgt := 107) hx hb (by omega) (by omega) dX12_judge_57 (by decide) (fun c_57 => ?_) (fun c_57 => ?_)
            · refine lv_aload_n hx hb dX12_judge_107 rfl (lv_at hl 3 rfl) ?_
              refine x_get (C := RX12) (T := TX12) (N := 24) hx hb hts hin_X12 hown hK hP (37) (by decide) hob rfl 6 (by decide) hw_3 (fun _ h9 => h9) rfl dX12_judge_108 ?_
              refine lv_iload_n hx hb dX12_judge_111 rfl (lv_at hl 4 rfl) ?_
              refine x_iald (f := Sz) hx hb hK hP (44) (by decide) h44 (by omega) (by omega) (by decide) dX12_judge_112 ?_
              have hb_5 := hsh.2.2.1 (d)
              refine lv_aload_n hx hb dX12_judge_113 rfl (lv_at hl 3 rfl) ?_
              refine x_get (C := RX12) (T := TX12) (N := 24) hx hb hts hin_X12 hown hK hP (37) (by decide) hob rfl 0 (by decide) hw_4 (fun _ h9 => h9) rfl dX12_judge_114 ?_
              refine x_iconst hx hb dX12_judge_117 ?_
              refine x_iald (f := S) hx hb hK hP (38) (by decide) hs0 (by omega) (by omega) (by decide) dX12_judge_118 ?_
              have hb_6 := hok.1 (0)
              refine x_icmp_ge (tgt := 131) hx hb (by omega) (by omega) dX12_judge_119 (by decide) (fun c_119 => ?_) (fun c_119 => ?_)
              · refine x_bipush (n := -4) hx hb (by decide +kernel) dX12_judge_131 ?_
                refine x_retP hx hb hr (by omega) ?_ dX12_judge_133 hlocks
                right; refine ⟨by omega, ?_⟩
                rw [hsk]
                right; refine ⟨fun j h1 h2 h3 => hall j h1 (by omega), ?_⟩
                first | exact Or.inr (Or.inl ⟨by omega, by omega⟩) | exact Or.inl ⟨by omega, by omega⟩
              · refine lv_aload_n hx hb dX12_judge_122 rfl (lv_at hl 3 rfl) ?_
                refine x_get (C := RX12) (T := TX12) (N := 24) hx hb hts hin_X12 hown hK hP (37) (by decide) hob rfl 6 (by decide) hw_3 (fun _ h9 => h9) rfl dX12_judge_123 ?_
                refine lv_iload_n hx hb dX12_judge_126 rfl (lv_at hl 4 rfl) ?_
                refine x_iald (f := Sz) hx hb hK hP (44) (by decide) h44 (by omega) (by omega) (by decide) dX12_judge_127 ?_
                have hb_7 := hsh.2.2.1 (d)
                refine lv_goto (tgt := 133) hx hb dX12_judge_128 (by decide) ?_
                refine x_retP hx hb hr (by omega) ?_ dX12_judge_133 hlocks
                right; refine ⟨by omega, ?_⟩
                rw [hsk]
                right; refine ⟨fun j h1 h2 h3 => hall j h1 (by omega), ?_⟩
                first | exact Or.inr (Or.inl ⟨by omega, by omega⟩) | exact Or.inl ⟨by omega, by omega⟩
            · refine lv_iload hx hb dX12_judge_60 (lv_at hl 0 rfl) ?_
              refine lv_aload_n hx hb dX12_judge_62 rfl (lv_at hl 3 rfl) ?_
              refine x_get (C := RX12) (T := TX12) (N := 24) hx hb hts hin_X12 hown hK hP (37) (by decide) hob rfl 0 (by decide) hw_4 (fun _ h9 => h9) rfl dX12_judge_63 ?_
              refine x_iconst hx hb dX12_judge_66 ?_
              refine x_iald (f := S) hx hb hK hP (38) (by decide) hs0 (by omega) (by omega) (by decide) dX12_judge_67 ?_
              have hb_8 := hok.1 (0)
              refine x_icmp_eq (tgt := 98) hx hb (by omega) (by omega) dX12_judge_68 (by decide) (fun c_68 => ?_) (fun c_68 => ?_)
              · refine lv_iload hx hb dX12_judge_98 (lv_at hl 0 rfl) ?_
                refine x_retP hx hb hr (by omega) ?_ dX12_judge_100 hlocks
                right; refine ⟨by omega, ?_⟩
                rw [hsk]
                first | (right; refine ⟨fun j h1 h2 h3 => hall j h1 (by omega), Or.inr (Or.inr ⟨by omega, by omega⟩)⟩; done) | (left; refine ⟨hi0, by omega, by omega, ?_, ?_, hall⟩; (show El (100 * d + i) ≠ sk; omega); (show El (100 * d + i) ≠ mP S i; rw [show mP S i = S (2 + 3 * i + 2) from rfl]; omega))
              · refine lv_aload_n hx hb dX12_judge_71 rfl (lv_at hl 3 rfl) ?_
                refine lv_iload_n hx hb dX12_judge_72 rfl (lv_at hl 4 rfl) ?_
                refine lv_iload hx hb dX12_judge_73 (lv_at hl 0 rfl) ?_
                refine x_ci (va_runV (As := [.int (iI (d)), .int (iI (i))]) (rest := []) ⟨hx, hb, hml, hown, hts⟩ (c_X12_toldAt l g σ (ov) S hob hs0 hok Kp So Sz El KK KF h42 h43 h44 h45 h46 h47 hsh (d) (by omega) (i) (by omega)) (cwV 2 hts gX12_judge_X12_toldAt rfl rfl rfl (by decide +kernel) ⟨Nat.le_of_ble_eq_true rfl, Nat.le_of_ble_eq_true rfl⟩) (x_preV hK hP (x_recv hK hP (i := 37) (by decide) hob rfl)) rfl rfl hl.1 rfl (lv_room (Nat.le_of_ble_eq_true rfl)) dX12_judge_75 ⟨Nat.le_of_ble_eq_true rfl, Nat.le_of_ble_eq_true rfl⟩) (fun r_75 hr_75 qr_75 => ?_)
                replace qr_75 : r_75 = El (100 * (d) + (i)) := qr_75
                refine lv_iload_n hx hb dX12_judge_78 rfl (lv_at hl 1 rfl) ?_
                refine x_icmp_eq (tgt := 101) hx hb (by omega) (by omega) dX12_judge_79 (by decide) (fun c_79 => ?_) (fun c_79 => ?_)
                · refine x_iinc (k0 := 0) (lv' := [(4, .int (iI (i + 1))), (3, .int (iI (sk))), (2, .int (iI (r_3))), (0, .ref (g.2.2 37)), (1, .int (iI (d)))]) hx hb dX12_judge_101 hl rfl (by decide) rfl (fun ls hl => ?_)
                  refine lv_goto (tgt := 49) hx hb dX12_judge_104 (by decide) ?_
                  exact ih_3 (i + 1) (sk) (by omega) (by omega) (by omega) (by omega) (by omega) (by omega) (by (intro j h1 h2; by_cases hj : j = i; (subst hj; rw [show mP S j = S (2 + 3 * j + 2) from rfl]; omega); exact hall j h1 (by omega))) ls (lv_sub hl [0, 1, 2, 3, 4] rfl)
                · refine lv_aload_n hx hb dX12_judge_82 rfl (lv_at hl 3 rfl) ?_
                  refine lv_iload_n hx hb dX12_judge_83 rfl (lv_at hl 4 rfl) ?_
                  refine lv_iload hx hb dX12_judge_84 (lv_at hl 0 rfl) ?_
                  refine x_ci (va_runV (As := [.int (iI (d)), .int (iI (i))]) (rest := []) ⟨hx, hb, hml, hown, hts⟩ (c_X12_toldAt l g σ (ov) S hob hs0 hok Kp So Sz El KK KF h42 h43 h44 h45 h46 h47 hsh (d) (by omega) (i) (by omega)) (cwV 2 hts gX12_judge_X12_toldAt rfl rfl rfl (by decide +kernel) ⟨Nat.le_of_ble_eq_true rfl, Nat.le_of_ble_eq_true rfl⟩) (x_preV hK hP (x_recv hK hP (i := 37) (by decide) hob rfl)) rfl rfl hl.1 rfl (lv_room (Nat.le_of_ble_eq_true rfl)) dX12_judge_86 ⟨Nat.le_of_ble_eq_true rfl, Nat.le_of_ble_eq_true rfl⟩) (fun r_86 hr_86 qr_86 => ?_)
                  replace qr_86 : r_86 = El (100 * (d) + (i)) := qr_86
                  refine lv_aload_n hx hb dX12_judge_89 rfl (lv_at hl 3 rfl) ?_
                  refine lv_iload hx hb dX12_judge_90 (lv_at hl 0 rfl) ?_
                  refine x_ci (va_runV (As := [.int (iI (i))]) (rest := [.int (iI (r_86))]) ⟨hx, hb, hml, hown, hts⟩ (c_X12_purse l g σ (ov) S hob hs0 hok.1 (i) (by omega)) (cwV 1 hts gX12_judge_X12_purse rfl rfl rfl (by decide +kernel) ⟨Nat.le_of_ble_eq_true rfl, Nat.le_of_ble_eq_true rfl⟩) (x_preV hK hP (x_recv hK hP (i := 37) (by decide) hob rfl)) rfl rfl hl.1 rfl (lv_room (Nat.le_of_ble_eq_true rfl)) dX12_judge_92 ⟨Nat.le_of_ble_eq_true rfl, Nat.le_of_ble_eq_true rfl⟩) (fun r_92 hr_92 qr_92 => ?_)
                  replace qr_92 : r_92 = S (2 + 3 * (i) + 2) := qr_92
                  refine x_icmp_eq (tgt := 101) hx hb (by omega) (by omega) dX12_judge_95 (by decide) (fun c_95 => ?_) (fun c_95 => ?_)
                  · refine x_iinc (k0 := 0) (lv' := [(4, .int (iI (i + 1))), (3, .int (iI (sk))), (2, .int (iI (r_3))), (0, .ref (g.2.2 37)), (1, .int (iI (d)))]) hx hb dX12_judge_101 hl rfl (by decide) rfl (fun ls hl => ?_)
                    refine lv_goto (tgt := 49) hx hb dX12_judge_104 (by decide) ?_
                    exact ih_3 (i + 1) (sk) (by omega) (by omega) (by omega) (by omega) (by omega) (by omega) (by (intro j h1 h2; by_cases hj : j = i; (subst hj; rw [show mP S j = S (2 + 3 * j + 2) from rfl]; omega); exact hall j h1 (by omega))) ls (lv_sub hl [0, 1, 2, 3, 4] rfl)
                  · refine lv_iload hx hb dX12_judge_98 (lv_at hl 0 rfl) ?_
                    refine x_retP hx hb hr (by omega) ?_ dX12_judge_100 hlocks
                    right; refine ⟨by omega, ?_⟩
                    rw [hsk]
                    first | (right; refine ⟨fun j h1 h2 h3 => hall j h1 (by omega), Or.inr (Or.inr ⟨by omega, by omega⟩)⟩; done) | (left; refine ⟨hi0, by omega, by omega, ?_, ?_, hall⟩; (show El (100 * d + i) ≠ sk; omega); (show El (100 * d + i) ≠ mP S i; rw [show mP S i = S (2 + 3 * i + 2) from rfl]; omega))
        exact hloop_49 (((Sz d - (0)).toNat) + 1) (0) ((-2147483648)) (by omega) (by omega) (by omega) (by omega) (by (unfold zLeast; repeat first | rw [if_pos (by omega)] | rw [if_neg (by omega)])) (by omega) (by (intro j h1 h2; omega)) ls (lv_sub hl [0, 1, 2, 3, 4] rfl)
      · refine x_sipush (n := -32768) hx hb (by decide +kernel) dX12_judge_37 ?_
        refine lv_goto (tgt := 45) hx hb dX12_judge_40 (by decide) ?_
        refine lv_istore_n (lv' := [(3, .int (iI (-32768))), (2, .int (iI (r_3))), (0, .ref (g.2.2 37)), (1, .int (iI (d)))]) hx hb dX12_judge_45 rfl hl (by decide) rfl (fun ls hl => ?_)
        refine x_iconst hx hb dX12_judge_46 ?_
        refine lv_istore (lv' := [(4, .int (iI (0))), (3, .int (iI (-32768))), (2, .int (iI (r_3))), (0, .ref (g.2.2 37)), (1, .int (iI (d)))]) hx hb dX12_judge_47 hl (by decide) rfl (fun ls hl => ?_)
        have hloop_49 : ∀ (k : Nat) (i : Int) (sk : Int), (Sz d - i).toNat < k → (hi0 : 0 ≤ i) → (hin : i ≤ Sz d) → (hin2 : i ≤ S 0) → (hsk : zLeast (So d) = sk) → (hskr : inR sk) → (hall : ∀ j, 0 ≤ j → j < i → El (100 * d + j) = sk ∨ El (100 * d + j) = mP S j) → ∀ (ls : Array Slot), lv_has ls 5 [(4, .int (iI (i))), (3, .int (iI (sk))), (2, .int (iI (r_3))), (0, .ref (g.2.2 37)), (1, .int (iI (d)))] → W p l e (headSpec wsX12_judge ({ frames := 4, cells := 0, slots := 0, locals := 128 })).room s m ([.ref (g.2.2 37), .int (iI (d))] : List Value).toArray below meth c s.heap [] 0 0 (MQ below (x_Si (fun r => (zRowR Kp So d (-1) ≠ 0 ∧ r = zRowR Kp So d (-1)) ∨ (zRowR Kp So d (-1) = 0 ∧ zJudged (fun j => El (100 * d + j)) (mP S) (Sz d) (S 0) (zLeast (So d)) r))) ([.ref (g.2.2 37), .int (iI (d))] : List Value).toArray s (0) (0) (fun _ => False)) (F0 m 49 ls []) := by
          intro k
          induction k with
          | zero =>
            intros; exact absurd (by assumption) (Nat.not_lt_zero _)
          | succ k ih =>
            intro i sk hmeas hi0 hin hin2 hsk hskr hall  ls hl
            have ih_9 := ih
            refine lv_iload hx hb dX12_judge_49 (lv_at hl 0 rfl) ?_
            refine lv_aload_n hx hb dX12_judge_51 rfl (lv_at hl 3 rfl) ?_
            refine x_get (C := RX12) (T := TX12) (N := 24) hx hb hts hin_X12 hown hK hP (37) (by decide) hob rfl 6 (by decide) hw_3 (fun _ h9 => h9) rfl dX12_judge_52 ?_
            refine lv_iload_n hx hb dX12_judge_55 rfl (lv_at hl 4 rfl) ?_
            refine x_iald (f := Sz) hx hb hK hP (44) (by decide) h44 (by omega) (by omega) (by decide) dX12_judge_56 ?_
            have hb_10 := hsh.2.2.1 (d)
            refine x_icmp_ge (tgt := 107) hx hb (by omega) (by omega) dX12_judge_57 (by decide) (fun c_57 => ?_) (fun c_57 => ?_)
            · refine lv_aload_n hx hb dX12_judge_107 rfl (lv_at hl 3 rfl) ?_
              refine x_get (C := RX12) (T := TX12) (N := 24) hx hb hts hin_X12 hown hK hP (37) (by decide) hob rfl 6 (by decide) hw_3 (fun _ h9 => h9) rfl dX12_judge_108 ?_
              refine lv_iload_n hx hb dX12_judge_111 rfl (lv_at hl 4 rfl) ?_
              refine x_iald (f := Sz) hx hb hK hP (44) (by decide) h44 (by omega) (by omega) (by decide) dX12_judge_112 ?_
              have hb_11 := hsh.2.2.1 (d)
              refine lv_aload_n hx hb dX12_judge_113 rfl (lv_at hl 3 rfl) ?_
              refine x_get (C := RX12) (T := TX12) (N := 24) hx hb hts hin_X12 hown hK hP (37) (by decide) hob rfl 0 (by decide) hw_4 (fun _ h9 => h9) rfl dX12_judge_114 ?_
              refine x_iconst hx hb dX12_judge_117 ?_
              refine x_iald (f := S) hx hb hK hP (38) (by decide) hs0 (by omega) (by omega) (by decide) dX12_judge_118 ?_
              have hb_12 := hok.1 (0)
              refine x_icmp_ge (tgt := 131) hx hb (by omega) (by omega) dX12_judge_119 (by decide) (fun c_119 => ?_) (fun c_119 => ?_)
              · refine x_bipush (n := -4) hx hb (by decide +kernel) dX12_judge_131 ?_
                refine x_retP hx hb hr (by omega) ?_ dX12_judge_133 hlocks
                right; refine ⟨by omega, ?_⟩
                rw [hsk]
                right; refine ⟨fun j h1 h2 h3 => hall j h1 (by omega), ?_⟩
                first | exact Or.inr (Or.inl ⟨by omega, by omega⟩) | exact Or.inl ⟨by omega, by omega⟩
              · refine lv_aload_n hx hb dX12_judge_122 rfl (lv_at hl 3 rfl) ?_
                refine x_get (C := RX12) (T := TX12) (N := 24) hx hb hts hin_X12 hown hK hP (37) (by decide) hob rfl 6 (by decide) hw_3 (fun _ h9 => h9) rfl dX12_judge_123 ?_
                refine lv_iload_n hx hb dX12_judge_126 rfl (lv_at hl 4 rfl) ?_
                refine x_iald (f := Sz) hx hb hK hP (44) (by decide) h44 (by omega) (by omega) (by decide) dX12_judge_127 ?_
                have hb_13 := hsh.2.2.1 (d)
                refine lv_goto (tgt := 133) hx hb dX12_judge_128 (by decide) ?_
                refine x_retP hx hb hr (by omega) ?_ dX12_judge_133 hlocks
                right; refine ⟨by omega, ?_⟩
                rw [hsk]
                right; refine ⟨fun j h1 h2 h3 => hall j h1 (by omega), ?_⟩
                first | exact Or.inr (Or.inl ⟨by omega, by omega⟩) | exact Or.inl ⟨by omega, by omega⟩
            · refine lv_iload hx hb dX12_judge_60 (lv_at hl 0 rfl) ?_
              refine lv_aload_n hx hb dX12_judge_62 rfl (lv_at hl 3 rfl) ?_
              refine x_get (C := RX12) (T := TX12) (N := 24) hx hb hts hin_X12 hown hK hP (37) (by decide) hob rfl 0 (by decide) hw_4 (fun _ h9 => h9) rfl dX12_judge_63 ?_
              refine x_iconst hx hb dX12_judge_66 ?_
              refine x_iald (f := S) hx hb hK hP (38) (by decide) hs0 (by omega) (by omega) (by decide) dX12_judge_67 ?_
              have hb_14 := hok.1 (0)
              refine x_icmp_eq (tgt := 98) hx hb (by omega) (by omega) dX12_judge_68 (by decide) (fun c_68 => ?_) (fun c_68 => ?_)
              · refine lv_iload hx hb dX12_judge_98 (lv_at hl 0 rfl) ?_
                refine x_retP hx hb hr (by omega) ?_ dX12_judge_100 hlocks
                right; refine ⟨by omega, ?_⟩
                rw [hsk]
                first | (right; refine ⟨fun j h1 h2 h3 => hall j h1 (by omega), Or.inr (Or.inr ⟨by omega, by omega⟩)⟩; done) | (left; refine ⟨hi0, by omega, by omega, ?_, ?_, hall⟩; (show El (100 * d + i) ≠ sk; omega); (show El (100 * d + i) ≠ mP S i; rw [show mP S i = S (2 + 3 * i + 2) from rfl]; omega))
              · refine lv_aload_n hx hb dX12_judge_71 rfl (lv_at hl 3 rfl) ?_
                refine lv_iload_n hx hb dX12_judge_72 rfl (lv_at hl 4 rfl) ?_
                refine lv_iload hx hb dX12_judge_73 (lv_at hl 0 rfl) ?_
                refine x_ci (va_runV (As := [.int (iI (d)), .int (iI (i))]) (rest := []) ⟨hx, hb, hml, hown, hts⟩ (c_X12_toldAt l g σ (ov) S hob hs0 hok Kp So Sz El KK KF h42 h43 h44 h45 h46 h47 hsh (d) (by omega) (i) (by omega)) (cwV 2 hts gX12_judge_X12_toldAt rfl rfl rfl (by decide +kernel) ⟨Nat.le_of_ble_eq_true rfl, Nat.le_of_ble_eq_true rfl⟩) (x_preV hK hP (x_recv hK hP (i := 37) (by decide) hob rfl)) rfl rfl hl.1 rfl (lv_room (Nat.le_of_ble_eq_true rfl)) dX12_judge_75 ⟨Nat.le_of_ble_eq_true rfl, Nat.le_of_ble_eq_true rfl⟩) (fun r_75 hr_75 qr_75 => ?_)
                replace qr_75 : r_75 = El (100 * (d) + (i)) := qr_75
                refine lv_iload_n hx hb dX12_judge_78 rfl (lv_at hl 1 rfl) ?_
                refine x_icmp_eq (tgt := 101) hx hb (by omega) (by omega) dX12_judge_79 (by decide) (fun c_79 => ?_) (fun c_79 => ?_)
                · refine x_iinc (k0 := 0) (lv' := [(4, .int (iI (i + 1))), (3, .int (iI (sk))), (2, .int (iI (r_3))), (0, .ref (g.2.2 37)), (1, .int (iI (d)))]) hx hb dX12_judge_101 hl rfl (by decide) rfl (fun ls hl => ?_)
                  refine lv_goto (tgt := 49) hx hb dX12_judge_104 (by decide) ?_
                  exact ih_9 (i + 1) (sk) (by omega) (by omega) (by omega) (by omega) (by omega) (by omega) (by (intro j h1 h2; by_cases hj : j = i; (subst hj; rw [show mP S j = S (2 + 3 * j + 2) from rfl]; omega); exact hall j h1 (by omega))) ls (lv_sub hl [0, 1, 2, 3, 4] rfl)
                · refine lv_aload_n hx hb dX12_judge_82 rfl (lv_at hl 3 rfl) ?_
                  refine lv_iload_n hx hb dX12_judge_83 rfl (lv_at hl 4 rfl) ?_
                  refine lv_iload hx hb dX12_judge_84 (lv_at hl 0 rfl) ?_
                  refine x_ci (va_runV (As := [.int (iI (d)), .int (iI (i))]) (rest := []) ⟨hx, hb, hml, hown, hts⟩ (c_X12_toldAt l g σ (ov) S hob hs0 hok Kp So Sz El KK KF h42 h43 h44 h45 h46 h47 hsh (d) (by omega) (i) (by omega)) (cwV 2 hts gX12_judge_X12_toldAt rfl rfl rfl (by decide +kernel) ⟨Nat.le_of_ble_eq_true rfl, Nat.le_of_ble_eq_true rfl⟩) (x_preV hK hP (x_recv hK hP (i := 37) (by decide) hob rfl)) rfl rfl hl.1 rfl (lv_room (Nat.le_of_ble_eq_true rfl)) dX12_judge_86 ⟨Nat.le_of_ble_eq_true rfl, Nat.le_of_ble_eq_true rfl⟩) (fun r_86 hr_86 qr_86 => ?_)
                  replace qr_86 : r_86 = El (100 * (d) + (i)) := qr_86
                  refine lv_aload_n hx hb dX12_judge_89 rfl (lv_at hl 3 rfl) ?_
                  refine lv_iload hx hb dX12_judge_90 (lv_at hl 0 rfl) ?_
                  refine x_ci (va_runV (As := [.int (iI (i))]) (rest := [.int (iI (r_86))]) ⟨hx, hb, hml, hown, hts⟩ (c_X12_purse l g σ (ov) S hob hs0 hok.1 (i) (by omega)) (cwV 1 hts gX12_judge_X12_purse rfl rfl rfl (by decide +kernel) ⟨Nat.le_of_ble_eq_true rfl, Nat.le_of_ble_eq_true rfl⟩) (x_preV hK hP (x_recv hK hP (i := 37) (by decide) hob rfl)) rfl rfl hl.1 rfl (lv_room (Nat.le_of_ble_eq_true rfl)) dX12_judge_92 ⟨Nat.le_of_ble_eq_true rfl, Nat.le_of_ble_eq_true rfl⟩) (fun r_92 hr_92 qr_92 => ?_)
                  replace qr_92 : r_92 = S (2 + 3 * (i) + 2) := qr_92
                  refine x_icmp_eq (tgt := 101) hx hb (by omega) (by omega) dX12_judge_95 (by decide) (fun c_95 => ?_) (fun c_95 => ?_)
                  · refine x_iinc (k0 := 0) (lv' := [(4, .int (iI (i + 1))), (3, .int (iI (sk))), (2, .int (iI (r_3))), (0, .ref (g.2.2 37)), (1, .int (iI (d)))]) hx hb dX12_judge_101 hl rfl (by decide) rfl (fun ls hl => ?_)
                    refine lv_goto (tgt := 49) hx hb dX12_judge_104 (by decide) ?_
                    exact ih_9 (i + 1) (sk) (by omega) (by omega) (by omega) (by omega) (by omega) (by omega) (by (intro j h1 h2; by_cases hj : j = i; (subst hj; rw [show mP S j = S (2 + 3 * j + 2) from rfl]; omega); exact hall j h1 (by omega))) ls (lv_sub hl [0, 1, 2, 3, 4] rfl)
                  · refine lv_iload hx hb dX12_judge_98 (lv_at hl 0 rfl) ?_
                    refine x_retP hx hb hr (by omega) ?_ dX12_judge_100 hlocks
                    right; refine ⟨by omega, ?_⟩
                    rw [hsk]
                    first | (right; refine ⟨fun j h1 h2 h3 => hall j h1 (by omega), Or.inr (Or.inr ⟨by omega, by omega⟩)⟩; done) | (left; refine ⟨hi0, by omega, by omega, ?_, ?_, hall⟩; (show El (100 * d + i) ≠ sk; omega); (show El (100 * d + i) ≠ mP S i; rw [show mP S i = S (2 + 3 * i + 2) from rfl]; omega))
        exact hloop_49 (((Sz d - (0)).toNat) + 1) (0) ((-32768)) (by omega) (by omega) (by omega) (by omega) (by (unfold zLeast; repeat first | rw [if_pos (by omega)] | rw [if_neg (by omega)])) (by omega) (by (intro j h1 h2; omega)) ls (lv_sub hl [0, 1, 2, 3, 4] rfl)
    · refine x_bipush (n := -128) hx hb (by decide +kernel) dX12_judge_22 ?_
      refine lv_goto (tgt := 45) hx hb dX12_judge_24 (by decide) ?_
      refine lv_istore_n (lv' := [(3, .int (iI (-128))), (2, .int (iI (r_3))), (0, .ref (g.2.2 37)), (1, .int (iI (d)))]) hx hb dX12_judge_45 rfl hl (by decide) rfl (fun ls hl => ?_)
      refine x_iconst hx hb dX12_judge_46 ?_
      refine lv_istore (lv' := [(4, .int (iI (0))), (3, .int (iI (-128))), (2, .int (iI (r_3))), (0, .ref (g.2.2 37)), (1, .int (iI (d)))]) hx hb dX12_judge_47 hl (by decide) rfl (fun ls hl => ?_)
      have hloop_49 : ∀ (k : Nat) (i : Int) (sk : Int), (Sz d - i).toNat < k → (hi0 : 0 ≤ i) → (hin : i ≤ Sz d) → (hin2 : i ≤ S 0) → (hsk : zLeast (So d) = sk) → (hskr : inR sk) → (hall : ∀ j, 0 ≤ j → j < i → El (100 * d + j) = sk ∨ El (100 * d + j) = mP S j) → ∀ (ls : Array Slot), lv_has ls 5 [(4, .int (iI (i))), (3, .int (iI (sk))), (2, .int (iI (r_3))), (0, .ref (g.2.2 37)), (1, .int (iI (d)))] → W p l e (headSpec wsX12_judge ({ frames := 4, cells := 0, slots := 0, locals := 128 })).room s m ([.ref (g.2.2 37), .int (iI (d))] : List Value).toArray below meth c s.heap [] 0 0 (MQ below (x_Si (fun r => (zRowR Kp So d (-1) ≠ 0 ∧ r = zRowR Kp So d (-1)) ∨ (zRowR Kp So d (-1) = 0 ∧ zJudged (fun j => El (100 * d + j)) (mP S) (Sz d) (S 0) (zLeast (So d)) r))) ([.ref (g.2.2 37), .int (iI (d))] : List Value).toArray s (0) (0) (fun _ => False)) (F0 m 49 ls []) := by
        intro k
        induction k with
        | zero =>
          intros; exact absurd (by assumption) (Nat.not_lt_zero _)
        | succ k ih =>
          intro i sk hmeas hi0 hin hin2 hsk hskr hall  ls hl
          have ih_15 := ih
          refine lv_iload hx hb dX12_judge_49 (lv_at hl 0 rfl) ?_
          refine lv_aload_n hx hb dX12_judge_51 rfl (lv_at hl 3 rfl) ?_
          refine x_get (C := RX12) (T := TX12) (N := 24) hx hb hts hin_X12 hown hK hP (37) (by decide) hob rfl 6 (by decide) hw_3 (fun _ h9 => h9) rfl dX12_judge_52 ?_
          refine lv_iload_n hx hb dX12_judge_55 rfl (lv_at hl 4 rfl) ?_
          refine x_iald (f := Sz) hx hb hK hP (44) (by decide) h44 (by omega) (by omega) (by decide) dX12_judge_56 ?_
          have hb_16 := hsh.2.2.1 (d)
          refine x_icmp_ge (tgt := 107) hx hb (by omega) (by omega) dX12_judge_57 (by decide) (fun c_57 => ?_) (fun c_57 => ?_)
          · refine lv_aload_n hx hb dX12_judge_107 rfl (lv_at hl 3 rfl) ?_
            refine x_get (C := RX12) (T := TX12) (N := 24) hx hb hts hin_X12 hown hK hP (37) (by decide) hob rfl 6 (by decide) hw_3 (fun _ h9 => h9) rfl dX12_judge_108 ?_
            refine lv_iload_n hx hb dX12_judge_111 rfl (lv_at hl 4 rfl) ?_
            refine x_iald (f := Sz) hx hb hK hP (44) (by decide) h44 (by omega) (by omega) (by decide) dX12_judge_112 ?_
            have hb_17 := hsh.2.2.1 (d)
            refine lv_aload_n hx hb dX12_judge_113 rfl (lv_at hl 3 rfl) ?_
            refine x_get (C := RX12) (T := TX12) (N := 24) hx hb hts hin_X12 hown hK hP (37) (by decide) hob rfl 0 (by decide) hw_4 (fun _ h9 => h9) rfl dX12_judge_114 ?_
            refine x_iconst hx hb dX12_judge_117 ?_
            refine x_iald (f := S) hx hb hK hP (38) (by decide) hs0 (by omega) (by omega) (by decide) dX12_judge_118 ?_
            have hb_18 := hok.1 (0)
            refine x_icmp_ge (tgt := 131) hx hb (by omega) (by omega) dX12_judge_119 (by decide) (fun c_119 => ?_) (fun c_119 => ?_)
            · refine x_bipush (n := -4) hx hb (by decide +kernel) dX12_judge_131 ?_
              refine x_retP hx hb hr (by omega) ?_ dX12_judge_133 hlocks
              right; refine ⟨by omega, ?_⟩
              rw [hsk]
              right; refine ⟨fun j h1 h2 h3 => hall j h1 (by omega), ?_⟩
              first | exact Or.inr (Or.inl ⟨by omega, by omega⟩) | exact Or.inl ⟨by omega, by omega⟩
            · refine lv_aload_n hx hb dX12_judge_122 rfl (lv_at hl 3 rfl) ?_
              refine x_get (C := RX12) (T := TX12) (N := 24) hx hb hts hin_X12 hown hK hP (37) (by decide) hob rfl 6 (by decide) hw_3 (fun _ h9 => h9) rfl dX12_judge_123 ?_
              refine lv_iload_n hx hb dX12_judge_126 rfl (lv_at hl 4 rfl) ?_
              refine x_iald (f := Sz) hx hb hK hP (44) (by decide) h44 (by omega) (by omega) (by decide) dX12_judge_127 ?_
              have hb_19 := hsh.2.2.1 (d)
              refine lv_goto (tgt := 133) hx hb dX12_judge_128 (by decide) ?_
              refine x_retP hx hb hr (by omega) ?_ dX12_judge_133 hlocks
              right; refine ⟨by omega, ?_⟩
              rw [hsk]
              right; refine ⟨fun j h1 h2 h3 => hall j h1 (by omega), ?_⟩
              first | exact Or.inr (Or.inl ⟨by omega, by omega⟩) | exact Or.inl ⟨by omega, by omega⟩
          · refine lv_iload hx hb dX12_judge_60 (lv_at hl 0 rfl) ?_
            refine lv_aload_n hx hb dX12_judge_62 rfl (lv_at hl 3 rfl) ?_
            refine x_get (C := RX12) (T := TX12) (N := 24) hx hb hts hin_X12 hown hK hP (37) (by decide) hob rfl 0 (by decide) hw_4 (fun _ h9 => h9) rfl dX12_judge_63 ?_
            refine x_iconst hx hb dX12_judge_66 ?_
            refine x_iald (f := S) hx hb hK hP (38) (by decide) hs0 (by omega) (by omega) (by decide) dX12_judge_67 ?_
            have hb_20 := hok.1 (0)
            refine x_icmp_eq (tgt := 98) hx hb (by omega) (by omega) dX12_judge_68 (by decide) (fun c_68 => ?_) (fun c_68 => ?_)
            · refine lv_iload hx hb dX12_judge_98 (lv_at hl 0 rfl) ?_
              refine x_retP hx hb hr (by omega) ?_ dX12_judge_100 hlocks
              right; refine ⟨by omega, ?_⟩
              rw [hsk]
              first | (right; refine ⟨fun j h1 h2 h3 => hall j h1 (by omega), Or.inr (Or.inr ⟨by omega, by omega⟩)⟩; done) | (left; refine ⟨hi0, by omega, by omega, ?_, ?_, hall⟩; (show El (100 * d + i) ≠ sk; omega); (show El (100 * d + i) ≠ mP S i; rw [show mP S i = S (2 + 3 * i + 2) from rfl]; omega))
            · refine lv_aload_n hx hb dX12_judge_71 rfl (lv_at hl 3 rfl) ?_
              refine lv_iload_n hx hb dX12_judge_72 rfl (lv_at hl 4 rfl) ?_
              refine lv_iload hx hb dX12_judge_73 (lv_at hl 0 rfl) ?_
              refine x_ci (va_runV (As := [.int (iI (d)), .int (iI (i))]) (rest := []) ⟨hx, hb, hml, hown, hts⟩ (c_X12_toldAt l g σ (ov) S hob hs0 hok Kp So Sz El KK KF h42 h43 h44 h45 h46 h47 hsh (d) (by omega) (i) (by omega)) (cwV 2 hts gX12_judge_X12_toldAt rfl rfl rfl (by decide +kernel) ⟨Nat.le_of_ble_eq_true rfl, Nat.le_of_ble_eq_true rfl⟩) (x_preV hK hP (x_recv hK hP (i := 37) (by decide) hob rfl)) rfl rfl hl.1 rfl (lv_room (Nat.le_of_ble_eq_true rfl)) dX12_judge_75 ⟨Nat.le_of_ble_eq_true rfl, Nat.le_of_ble_eq_true rfl⟩) (fun r_75 hr_75 qr_75 => ?_)
              replace qr_75 : r_75 = El (100 * (d) + (i)) := qr_75
              refine lv_iload_n hx hb dX12_judge_78 rfl (lv_at hl 1 rfl) ?_
              refine x_icmp_eq (tgt := 101) hx hb (by omega) (by omega) dX12_judge_79 (by decide) (fun c_79 => ?_) (fun c_79 => ?_)
              · refine x_iinc (k0 := 0) (lv' := [(4, .int (iI (i + 1))), (3, .int (iI (sk))), (2, .int (iI (r_3))), (0, .ref (g.2.2 37)), (1, .int (iI (d)))]) hx hb dX12_judge_101 hl rfl (by decide) rfl (fun ls hl => ?_)
                refine lv_goto (tgt := 49) hx hb dX12_judge_104 (by decide) ?_
                exact ih_15 (i + 1) (sk) (by omega) (by omega) (by omega) (by omega) (by omega) (by omega) (by (intro j h1 h2; by_cases hj : j = i; (subst hj; rw [show mP S j = S (2 + 3 * j + 2) from rfl]; omega); exact hall j h1 (by omega))) ls (lv_sub hl [0, 1, 2, 3, 4] rfl)
              · refine lv_aload_n hx hb dX12_judge_82 rfl (lv_at hl 3 rfl) ?_
                refine lv_iload_n hx hb dX12_judge_83 rfl (lv_at hl 4 rfl) ?_
                refine lv_iload hx hb dX12_judge_84 (lv_at hl 0 rfl) ?_
                refine x_ci (va_runV (As := [.int (iI (d)), .int (iI (i))]) (rest := []) ⟨hx, hb, hml, hown, hts⟩ (c_X12_toldAt l g σ (ov) S hob hs0 hok Kp So Sz El KK KF h42 h43 h44 h45 h46 h47 hsh (d) (by omega) (i) (by omega)) (cwV 2 hts gX12_judge_X12_toldAt rfl rfl rfl (by decide +kernel) ⟨Nat.le_of_ble_eq_true rfl, Nat.le_of_ble_eq_true rfl⟩) (x_preV hK hP (x_recv hK hP (i := 37) (by decide) hob rfl)) rfl rfl hl.1 rfl (lv_room (Nat.le_of_ble_eq_true rfl)) dX12_judge_86 ⟨Nat.le_of_ble_eq_true rfl, Nat.le_of_ble_eq_true rfl⟩) (fun r_86 hr_86 qr_86 => ?_)
                replace qr_86 : r_86 = El (100 * (d) + (i)) := qr_86
                refine lv_aload_n hx hb dX12_judge_89 rfl (lv_at hl 3 rfl) ?_
                refine lv_iload hx hb dX12_judge_90 (lv_at hl 0 rfl) ?_
                refine x_ci (va_runV (As := [.int (iI (i))]) (rest := [.int (iI (r_86))]) ⟨hx, hb, hml, hown, hts⟩ (c_X12_purse l g σ (ov) S hob hs0 hok.1 (i) (by omega)) (cwV 1 hts gX12_judge_X12_purse rfl rfl rfl (by decide +kernel) ⟨Nat.le_of_ble_eq_true rfl, Nat.le_of_ble_eq_true rfl⟩) (x_preV hK hP (x_recv hK hP (i := 37) (by decide) hob rfl)) rfl rfl hl.1 rfl (lv_room (Nat.le_of_ble_eq_true rfl)) dX12_judge_92 ⟨Nat.le_of_ble_eq_true rfl, Nat.le_of_ble_eq_true rfl⟩) (fun r_92 hr_92 qr_92 => ?_)
                replace qr_92 : r_92 = S (2 + 3 * (i) + 2) := qr_92
                refine x_icmp_eq (tgt := 101) hx hb (by omega) (by omega) dX12_judge_95 (by decide) (fun c_95 => ?_) (fun c_95 => ?_)
                · refine x_iinc (k0 := 0) (lv' := [(4, .int (iI (i + 1))), (3, .int (iI (sk))), (2, .int (iI (r_3))), (0, .ref (g.2.2 37)), (1, .int (iI (d)))]) hx hb dX12_judge_101 hl rfl (by decide) rfl (fun ls hl => ?_)
                  refine lv_goto (tgt := 49) hx hb dX12_judge_104 (by decide) ?_
                  exact ih_15 (i + 1) (sk) (by omega) (by omega) (by omega) (by omega) (by omega) (by omega) (by (intro j h1 h2; by_cases hj : j = i; (subst hj; rw [show mP S j = S (2 + 3 * j + 2) from rfl]; omega); exact hall j h1 (by omega))) ls (lv_sub hl [0, 1, 2, 3, 4] rfl)
                · refine lv_iload hx hb dX12_judge_98 (lv_at hl 0 rfl) ?_
                  refine x_retP hx hb hr (by omega) ?_ dX12_judge_100 hlocks
                  right; refine ⟨by omega, ?_⟩
                  rw [hsk]
                  first | (right; refine ⟨fun j h1 h2 h3 => hall j h1 (by omega), Or.inr (Or.inr ⟨by omega, by omega⟩)⟩; done) | (left; refine ⟨hi0, by omega, by omega, ?_, ?_, hall⟩; (show El (100 * d + i) ≠ sk; omega); (show El (100 * d + i) ≠ mP S i; rw [show mP S i = S (2 + 3 * i + 2) from rfl]; omega))
      exact hloop_49 (((Sz d - (0)).toNat) + 1) (0) ((-128)) (by omega) (by omega) (by omega) (by omega) (by (unfold zLeast; repeat first | rw [if_pos (by omega)] | rw [if_neg (by omega)])) (by omega) (by (intro j h1 h2; omega)) ls (lv_sub hl [0, 1, 2, 3, 4] rfl)
  · refine lv_iload_n hx hb dX12_judge_11 rfl (lv_at hl 0 rfl) ?_
    refine x_retP hx hb hr (by omega) ?_ dX12_judge_12 hlocks
    left; exact ⟨by omega, by omega⟩
