theorem x_aaldN {p : Program} {l : Launch} {e : Env} {R : Room} {s : State} {m : MethodId} {args : Array Value} {below : List Frame} {meth : Method} {c : Code} {H : Heap} {locs : List Loc} {cells slots : Nat} {Q : State → Prop} {cc : ByteArray} {pc : Nat} {ls : Array Slot} {rest : List Value} {g : xG} {σ : xS} {C : String} (t0 : Nat) (hx : p.tables.exec = Jvm.exec) (hb : c.code = cc) (hK : xK g s) (hP : xP g σ H) (i : Nat) (hi : i < xN) {cA : ClassId} {n : Nat} {f : Int → Option Nat} (hm : σ.1 i = .inl (cA, n, .inr (.inr (.inr (.inr (fun k => f (k : Int))))))) (ht : (xtys g)[t0]? = some (cA, .object C)) {z : Int} (h0 : 0 ≤ z) (h1 : z < (n : Int)) (hn : n ≤ 2147483648) (hG : f z = none) (hdg : decode cc pc = .ok (.aaload, 1))
    (k : W p l e R s m args below meth c H locs cells slots Q (F0 m (pc + 1) ls (.null :: rest))) : W p l e R s m args below meth c H locs cells slots Q (F0 m (pc) ls (.int (iI z) :: .ref (g.2.2 i) :: rest)) := x_aald hx hb t0 hK hP i hi hm ht h0 h1 hn hdg (by rw [hG]; exact k)
set_option maxHeartbeats 4000000 in
set_option maxRecDepth 100000 in
theorem c_X7_gift (l : Launch) (g : xG) (σ : xS) (A : Nat → Prop) (b : Nat) (hb3 : b + 2 < xN) (n rd : Int) (P : Int → Int) (G : Int → Option Nat) (hst : StAt g σ.1 b n rd P G) (hok : StOk σ n rd P G) (hH : HsOk σ) (i : Int) (hi : inR i) (j : Int) (hj : inR j) (c0 : Int) (hc : inR c0) : Met l yX7_gift wsX7_gift ({ frames := 3, cells := 0, slots := 0, locals := 96 }) (va_Pc [.ref (g.2.2 (b)), .int (iI (i)), .int (iI (j)), .int (iI (c0))] (xPreQ g A σ)) (x_Qi g A (fun r σ1 => σ1.2 = σ.2 ∧ (∀ j, j ≠ b ∧ j ≠ b + 1 ∧ j ≠ b + 2 → σ1.1 j = σ.1 j) ∧ r = zGiftR P n i j c0 ∧ StAt g σ1.1 b n rd (if zGiftR P n i j c0 = 0 then zGift P i j c0 else P) G)) (0) (0) A := by
  refine Met.ofW (cc := cX7_gift) (maxL := 4) (ret := (some .int)) (by decide) rfl ?_
  intro p e s m args below meth c s₁ B hml hv
  obtain ⟨rfl, hP, hK, hD, hA⟩ := hv
  have hx := B.exec
  have hb := B.bytes
  have hr := B.returns
  have hts := atoms_spec (ws := wsX7_gift) B.pre
  have hown : s.vm.findClass RX7 = some m.cls := findClass_of_methodNamed B.named
  have hlocks := B.notSynchronized
  have hS : va_S A s.heap s.heap [] := va_S.rf
  have hfr : ∀ j, (j ≠ b ∧ j ≠ b + 1 ∧ j ≠ b + 2) → σ.1 j = σ.1 j := fun _ _ => rfl
  have hl := lv_entry ([.ref (g.2.2 (b)), .int (iI (i)), .int (iI (j)), .int (iI (c0))]) (n := 4) (Nat.le_of_ble_eq_true rfl)
  rw [lg_entry_eq]
  generalize (lg_sl ([.ref (g.2.2 (b)), .int (iI (i)), .int (iI (j)), .int (iI (c0))]) ++ List.replicate (4 - (lg_sl ([.ref (g.2.2 (b)), .int (iI (i)), .int (iI (j)), .int (iI (c0))])).length) Slot.unset).toArray = ls at hl ⊢
  have hl : lv_has ls 4 [(0, .ref (g.2.2 (b))), (1, .int (iI (i))), (2, .int (iI (j))), (3, .int (iI (c0)))] := hl
  obtain ⟨hm0, hm1, hm2⟩ := hst
  have hok1 := hok.1
  have hok2 := hok.2.1
  have hok3 := hok.2.2.1
  have hw_0 := hts (.fieldLink RX7 17 "TwiceAsRich$Street" "purses" "[I") (by decide +kernel)
  have hin_X7 : ∀ w ∈ wsX70, w ∈ wsX7_gift := by decide +kernel
  refine lv_aload_n hx hb dX7_gift_0 rfl (lv_at hl 0 rfl) ?_
  refine lv_iload_n hx hb dX7_gift_1 rfl (lv_at hl 1 rfl) ?_
  refine lv_iload_n hx hb dX7_gift_2 rfl (lv_at hl 2 rfl) ?_
  refine x_ci (va_runV (As := [.int (iI (i)), .int (iI (j))]) (rest := []) ⟨hx, hb, hml, hown, hts⟩ (c_X7_hasTwo l g σ (b) hb3 (n) (rd) P G ⟨hm0, hm1, hm2⟩ hok hH (i) (by omega) (j) (by omega)) (cwV 2 hts gX7_gift_X7_hasTwo rfl rfl rfl (by decide +kernel) ⟨Nat.le_of_ble_eq_true rfl, Nat.le_of_ble_eq_true rfl⟩) (x_preV hK hP (x_recv hK hP (i := b) (by omega) hm0 rfl)) rfl rfl hl.1 rfl (lv_room (Nat.le_of_ble_eq_true rfl)) dX7_gift_3 ⟨Nat.le_of_ble_eq_true rfl, Nat.le_of_ble_eq_true rfl⟩) (fun r_3 hr_3 qr_3 => ?_)
  replace qr_3 : (r_3 = 1 ∧ (0 ≤ (i) ∧ (i) < (n) ∧ 0 ≤ (j) ∧ (j) < (n) ∧ (i) ≠ (j))) ∨ (r_3 = 0 ∧ ¬ (0 ≤ (i) ∧ (i) < (n) ∧ 0 ≤ (j) ∧ (j) < (n) ∧ (i) ≠ (j))) := qr_3
  refine x_if_eq (tgt := 14) hx hb (by omega) dX7_gift_6 (by decide) (fun c_6 => ?_) (fun c_6 => ?_)
  · refine x_iconst hx hb dX7_gift_14 ?_
    refine x_retQ hx hb hr (by omega) ?_ hP hD hS dX7_gift_15 hlocks
    have hv : zGiftR P n i j c0 = -1 := by unfold zGiftR; rw [if_pos (by omega)]
    refine ⟨rfl, hfr, hv.symm, ?_⟩
    rw [hv, if_neg (by omega)]; exact ⟨hm0, hm1, hm2⟩
  · refine lv_iload_n hx hb dX7_gift_9 rfl (lv_at hl 3 rfl) ?_
    refine x_iconst hx hb dX7_gift_10 ?_
    refine x_icmp_ge (tgt := 16) hx hb (by omega) (by omega) dX7_gift_11 (by decide) (fun c_11 => ?_) (fun c_11 => ?_)
    · refine lv_aload_n hx hb dX7_gift_16 rfl (lv_at hl 0 rfl) ?_
      refine x_get (C := RX7) (T := TX7) (N := 4) hx hb hts hin_X7 hown hK hP (b) (by omega) hm0 rfl 1 (by decide) hw_0 (fun _ h9 => h9) rfl dX7_gift_17 ?_
      refine lv_iload_n hx hb dX7_gift_20 rfl (lv_at hl 1 rfl) ?_
      refine x_iald (f := P) hx hb hK hP (b + 2) (by omega) hm2 (by omega) (by omega) (by decide) dX7_gift_21 ?_
      have hb_1 := hok.2.2.2.1 (i)
      have hb_2 := (hok.2.2.2.2.2 (i) (by omega) (by omega)).2
      refine lv_iload_n hx hb dX7_gift_22 rfl (lv_at hl 3 rfl) ?_
      refine x_icmp_ge (tgt := 29) hx hb (by omega) (by omega) dX7_gift_23 (by decide) (fun c_23 => ?_) (fun c_23 => ?_)
      · refine lv_aload_n hx hb dX7_gift_29 rfl (lv_at hl 0 rfl) ?_
        refine x_get (C := RX7) (T := TX7) (N := 4) hx hb hts hin_X7 hown hK hP (b) (by omega) hm0 rfl 1 (by decide) hw_0 (fun _ h9 => h9) rfl dX7_gift_30 ?_
        refine lv_iload_n hx hb dX7_gift_33 rfl (lv_at hl 2 rfl) ?_
        refine x_iald (f := P) hx hb hK hP (b + 2) (by omega) hm2 (by omega) (by omega) (by decide) dX7_gift_34 ?_
        have hb_3 := hok.2.2.2.1 (j)
        have hb_4 := (hok.2.2.2.2.2 (j) (by omega) (by omega)).2
        refine lv_iload_n hx hb dX7_gift_35 rfl (lv_at hl 3 rfl) ?_
        refine x_iadd hx hb dX7_gift_36 ?_
        refine x_sipush (n := 9999) hx hb (by decide +kernel) dX7_gift_37 ?_
        refine x_icmp_le (tgt := 46) hx hb (by omega) (by omega) dX7_gift_40 (by decide) (fun c_40 => ?_) (fun c_40 => ?_)
        · refine lv_aload_n hx hb dX7_gift_46 rfl (lv_at hl 0 rfl) ?_
          refine x_get (C := RX7) (T := TX7) (N := 4) hx hb hts hin_X7 hown hK hP (b) (by omega) hm0 rfl 1 (by decide) hw_0 (fun _ h9 => h9) rfl dX7_gift_47 ?_
          refine lv_iload_n hx hb dX7_gift_50 rfl (lv_at hl 1 rfl) ?_
          refine lv_dup2_11 hx hb dX7_gift_51 rfl rfl ?_
          refine x_iald (f := P) hx hb hK hP (b + 2) (by omega) hm2 (by omega) (by omega) (by decide) dX7_gift_52 ?_
          have hb_5 := hok.2.2.2.1 (i)
          have hb_6 := (hok.2.2.2.2.2 (i) (by omega) (by omega)).2
          refine lv_iload_n hx hb dX7_gift_53 rfl (lv_at hl 3 rfl) ?_
          refine x_isub hx hb dX7_gift_54 ?_
          refine x_iast (f := P) hx hb hK hP hD hS (b + 2) (by omega) hm2 (by omega) (by omega) (by decide) dX7_gift_55 (fun M_7 H locs hnew hne hP hD hS => ?_)
          obtain ⟨f_8, hf_8⟩ : ∃ q : Int → Int, q = (upI P (i) ((P (i)) - c0)) := ⟨_, rfl⟩
          rw [← hf_8] at hnew
          have hP : xP g (M_7, σ.2) H := hP
          have hD : xD g A (M_7, σ.2) := hD
          have hm2 : M_7 (b + 2) = .inl (g.2.1 0, 9, .inl (fun k => iI (f_8 (k : Int)))) := hnew
          have hm0 := (hne (b) (by omega)).trans hm0
          have hm1 := (hne (b + 1) (by omega)).trans hm1
          have hfr := x_fr (F := fun j => j ≠ b ∧ j ≠ b + 1 ∧ j ≠ b + 2) hfr hne (fun j h => by have h : j ≠ b ∧ j ≠ b + 1 ∧ j ≠ b + 2 := h; omega)
          refine lv_aload_n hx hb dX7_gift_56 rfl (lv_at hl 0 rfl) ?_
          refine x_get (C := RX7) (T := TX7) (N := 4) hx hb hts hin_X7 hown hK hP (b) (by omega) hm0 rfl 1 (by decide) hw_0 (fun _ h9 => h9) rfl dX7_gift_57 ?_
          refine lv_iload_n hx hb dX7_gift_60 rfl (lv_at hl 2 rfl) ?_
          refine lv_dup2_11 hx hb dX7_gift_61 rfl rfl ?_
          refine x_iald (f := f_8) hx hb hK hP (b + 2) (by omega) hm2 (by omega) (by omega) (by decide) dX7_gift_62 ?_
          have hb_9 := hok.2.2.2.1 (j)
          have hb_10 := (hok.2.2.2.2.2 (j) (by omega) (by omega)).2
          refine lv_iload_n hx hb dX7_gift_63 rfl (lv_at hl 3 rfl) ?_
          refine x_iadd hx hb dX7_gift_64 ?_
          refine x_iast (f := f_8) hx hb hK hP hD hS (b + 2) (by omega) hm2 (by omega) (by omega) (by decide) dX7_gift_65 (fun M_11 H locs hnew hne hP hD hS => ?_)
          obtain ⟨f_12, hf_12⟩ : ∃ q : Int → Int, q = (upI f_8 (j) ((f_8 (j)) + c0)) := ⟨_, rfl⟩
          rw [← hf_12] at hnew
          have hP : xP g (M_11, σ.2) H := hP
          have hD : xD g A (M_11, σ.2) := hD
          have hm2 : M_11 (b + 2) = .inl (g.2.1 0, 9, .inl (fun k => iI (f_12 (k : Int)))) := hnew
          have hm0 := (hne (b) (by omega)).trans hm0
          have hm1 := (hne (b + 1) (by omega)).trans hm1
          have hfr := x_fr (F := fun j => j ≠ b ∧ j ≠ b + 1 ∧ j ≠ b + 2) hfr hne (fun j h => by have h : j ≠ b ∧ j ≠ b + 1 ∧ j ≠ b + 2 := h; omega)
          refine x_iconst hx hb dX7_gift_66 ?_
          refine x_retQ hx hb hr (by omega) ?_ hP hD hS dX7_gift_67 hlocks
          have hv : zGiftR P n i j c0 = 0 := by unfold zGiftR; rw [if_neg (by omega), if_neg (by omega), if_neg (by omega)]
          refine ⟨rfl, hfr, hv.symm, ?_⟩
          rw [hv, if_pos rfl]
          have e : f_12 = zGift P i j c0 := by unfold zGift; subst_vars; rfl
          rw [← e]; exact ⟨hm0, hm1, hm2⟩
        · refine x_bipush (n := -2) hx hb (by decide +kernel) dX7_gift_43 ?_
          refine x_retQ hx hb hr (by omega) ?_ hP hD hS dX7_gift_45 hlocks
          have hv : zGiftR P n i j c0 = -2 := by unfold zGiftR; rw [if_neg (by omega), if_neg (by omega), if_pos (by omega)]
          refine ⟨rfl, hfr, hv.symm, ?_⟩
          rw [hv, if_neg (by omega)]; exact ⟨hm0, hm1, hm2⟩
      · refine x_bipush (n := -3) hx hb (by decide +kernel) dX7_gift_26 ?_
        refine x_retQ hx hb hr (by omega) ?_ hP hD hS dX7_gift_28 hlocks
        have hv : zGiftR P n i j c0 = -3 := by unfold zGiftR; rw [if_neg (by omega), if_pos (by omega)]
        refine ⟨rfl, hfr, hv.symm, ?_⟩
        rw [hv, if_neg (by omega)]; exact ⟨hm0, hm1, hm2⟩
    · refine x_iconst hx hb dX7_gift_14 ?_
      refine x_retQ hx hb hr (by omega) ?_ hP hD hS dX7_gift_15 hlocks
      have hv : zGiftR P n i j c0 = -1 := by unfold zGiftR; rw [if_pos (by omega)]
      refine ⟨rfl, hfr, hv.symm, ?_⟩
      rw [hv, if_neg (by omega)]; exact ⟨hm0, hm1, hm2⟩

set_option maxHeartbeats 4000000 in
set_option maxRecDepth 100000 in
theorem c_X7_steal (l : Launch) (g : xG) (σ : xS) (A : Nat → Prop) (b : Nat) (hb3 : b + 2 < xN) (n rd : Int) (P : Int → Int) (G : Int → Option Nat) (hst : StAt g σ.1 b n rd P G) (hok : StOk σ n rd P G) (hH : HsOk σ) (t : Int) (ht : 0 ≤ t ∧ t < n) (o : Int) (ho : o = -1 ∨ (0 ≤ o ∧ o < n)) : Met l yX7_steal wsX7_steal ({ frames := 1, cells := 0, slots := 0, locals := 32 }) (va_Pc [.ref (g.2.2 (b)), .int (iI (t)), .int (iI (o))] (xPreQ g A σ)) (x_Qv g A (fun σ1 => σ1.2 = σ.2 ∧ (∀ j, j ≠ b ∧ j ≠ b + 1 ∧ j ≠ b + 2 → σ1.1 j = σ.1 j) ∧ StAt g σ1.1 b (n) (rd) (zSteal P n t o) (G))) (0) (0) A := by
  refine Met.ofW (cc := cX7_steal) (maxL := 3) (ret := none) (by decide) rfl ?_
  intro p e s m args below meth c s₁ B hml hv
  obtain ⟨rfl, hP, hK, hD, hA⟩ := hv
  have hx := B.exec
  have hb := B.bytes
  have hr := B.returns
  have hts := atoms_spec (ws := wsX7_steal) B.pre
  have hown : s.vm.findClass RX7 = some m.cls := findClass_of_methodNamed B.named
  have hlocks := B.notSynchronized
  have hS : va_S A s.heap s.heap [] := va_S.rf
  have hfr : ∀ j, (j ≠ b ∧ j ≠ b + 1 ∧ j ≠ b + 2) → σ.1 j = σ.1 j := fun _ _ => rfl
  have hl := lv_entry ([.ref (g.2.2 (b)), .int (iI (t)), .int (iI (o))]) (n := 3) (Nat.le_of_ble_eq_true rfl)
  rw [lg_entry_eq]
  generalize (lg_sl ([.ref (g.2.2 (b)), .int (iI (t)), .int (iI (o))]) ++ List.replicate (3 - (lg_sl ([.ref (g.2.2 (b)), .int (iI (t)), .int (iI (o))])).length) Slot.unset).toArray = ls at hl ⊢
  have hl : lv_has ls 3 [(0, .ref (g.2.2 (b))), (1, .int (iI (t))), (2, .int (iI (o)))] := hl
  obtain ⟨hm0, hm1, hm2⟩ := hst
  have hok1 := hok.1
  have hok2 := hok.2.1
  have hok3 := hok.2.2.1
  have hw_0 := hts (.fieldLink RX7 17 "TwiceAsRich$Street" "purses" "[I") (by decide +kernel)
  have hin_X7 : ∀ w ∈ wsX70, w ∈ wsX7_steal := by decide +kernel
  refine lv_iload_n hx hb dX7_steal_0 rfl (lv_at hl 2 rfl) ?_
  refine x_iconst hx hb dX7_steal_1 ?_
  refine x_icmp_eq (tgt := 46) hx hb (by omega) (by omega) dX7_steal_2 (by decide) (fun c_2 => ?_) (fun c_2 => ?_)
  · refine x_retQv hx hb hr ?_ hP hD hS dX7_steal_46 hlocks
    refine ⟨rfl, hfr, ?_⟩
    have e : zSteal P n t o = P := by unfold zSteal; first | (rw [if_neg (by omega)]; done) | (rw [if_pos (by omega)]; subst_vars; rfl)
    rw [e]; exact ⟨hm0, hm1, hm2⟩
  · refine lv_aload_n hx hb dX7_steal_5 rfl (lv_at hl 0 rfl) ?_
    refine x_get (C := RX7) (T := TX7) (N := 4) hx hb hts hin_X7 hown hK hP (b) (by omega) hm0 rfl 1 (by decide) hw_0 (fun _ h9 => h9) rfl dX7_steal_6 ?_
    refine lv_iload_n hx hb dX7_steal_9 rfl (lv_at hl 2 rfl) ?_
    refine x_iald (f := P) hx hb hK hP (b + 2) (by omega) hm2 (by omega) (by omega) (by decide) dX7_steal_10 ?_
    have hb_1 := hok.2.2.2.1 (o)
    have hb_2 := (hok.2.2.2.2.2 (o) (by omega) (by omega)).2
    refine x_if_le (tgt := 46) hx hb (by omega) dX7_steal_11 (by decide) (fun c_11 => ?_) (fun c_11 => ?_)
    · refine x_retQv hx hb hr ?_ hP hD hS dX7_steal_46 hlocks
      refine ⟨rfl, hfr, ?_⟩
      have e : zSteal P n t o = P := by unfold zSteal; first | (rw [if_neg (by omega)]; done) | (rw [if_pos (by omega)]; subst_vars; rfl)
      rw [e]; exact ⟨hm0, hm1, hm2⟩
    · refine lv_aload_n hx hb dX7_steal_14 rfl (lv_at hl 0 rfl) ?_
      refine x_get (C := RX7) (T := TX7) (N := 4) hx hb hts hin_X7 hown hK hP (b) (by omega) hm0 rfl 1 (by decide) hw_0 (fun _ h9 => h9) rfl dX7_steal_15 ?_
      refine lv_iload_n hx hb dX7_steal_18 rfl (lv_at hl 1 rfl) ?_
      refine x_iald (f := P) hx hb hK hP (b + 2) (by omega) hm2 (by omega) (by omega) (by decide) dX7_steal_19 ?_
      have hb_3 := hok.2.2.2.1 (t)
      have hb_4 := (hok.2.2.2.2.2 (t) (by omega) (by omega)).2
      refine x_sipush (n := 9999) hx hb (by decide +kernel) dX7_steal_20 ?_
      refine x_icmp_ge (tgt := 46) hx hb (by omega) (by omega) dX7_steal_23 (by decide) (fun c_23 => ?_) (fun c_23 => ?_)
      · refine x_retQv hx hb hr ?_ hP hD hS dX7_steal_46 hlocks
        refine ⟨rfl, hfr, ?_⟩
        have e : zSteal P n t o = P := by unfold zSteal; first | (rw [if_neg (by omega)]; done) | (rw [if_pos (by omega)]; subst_vars; rfl)
        rw [e]; exact ⟨hm0, hm1, hm2⟩
      · refine lv_aload_n hx hb dX7_steal_26 rfl (lv_at hl 0 rfl) ?_
        refine x_get (C := RX7) (T := TX7) (N := 4) hx hb hts hin_X7 hown hK hP (b) (by omega) hm0 rfl 1 (by decide) hw_0 (fun _ h9 => h9) rfl dX7_steal_27 ?_
        refine lv_iload_n hx hb dX7_steal_30 rfl (lv_at hl 2 rfl) ?_
        refine lv_dup2_11 hx hb dX7_steal_31 rfl rfl ?_
        refine x_iald (f := P) hx hb hK hP (b + 2) (by omega) hm2 (by omega) (by omega) (by decide) dX7_steal_32 ?_
        have hb_5 := hok.2.2.2.1 (o)
        have hb_6 := (hok.2.2.2.2.2 (o) (by omega) (by omega)).2
        refine x_iconst hx hb dX7_steal_33 ?_
        refine x_isub hx hb dX7_steal_34 ?_
        refine x_iast (f := P) hx hb hK hP hD hS (b + 2) (by omega) hm2 (by omega) (by omega) (by decide) dX7_steal_35 (fun M_7 H locs hnew hne hP hD hS => ?_)
        obtain ⟨f_8, hf_8⟩ : ∃ q : Int → Int, q = (upI P (o) ((P (o)) - 1)) := ⟨_, rfl⟩
        rw [← hf_8] at hnew
        have hP : xP g (M_7, σ.2) H := hP
        have hD : xD g A (M_7, σ.2) := hD
        have hm2 : M_7 (b + 2) = .inl (g.2.1 0, 9, .inl (fun k => iI (f_8 (k : Int)))) := hnew
        have hm0 := (hne (b) (by omega)).trans hm0
        have hm1 := (hne (b + 1) (by omega)).trans hm1
        have hfr := x_fr (F := fun j => j ≠ b ∧ j ≠ b + 1 ∧ j ≠ b + 2) hfr hne (fun j h => by have h : j ≠ b ∧ j ≠ b + 1 ∧ j ≠ b + 2 := h; omega)
        refine lv_aload_n hx hb dX7_steal_36 rfl (lv_at hl 0 rfl) ?_
        refine x_get (C := RX7) (T := TX7) (N := 4) hx hb hts hin_X7 hown hK hP (b) (by omega) hm0 rfl 1 (by decide) hw_0 (fun _ h9 => h9) rfl dX7_steal_37 ?_
        refine lv_iload_n hx hb dX7_steal_40 rfl (lv_at hl 1 rfl) ?_
        refine lv_dup2_11 hx hb dX7_steal_41 rfl rfl ?_
        refine x_iald (f := f_8) hx hb hK hP (b + 2) (by omega) hm2 (by omega) (by omega) (by decide) dX7_steal_42 ?_
        have hb_9 := hok.2.2.2.1 (t)
        have hb_10 := (hok.2.2.2.2.2 (t) (by omega) (by omega)).2
        refine x_iconst hx hb dX7_steal_43 ?_
        refine x_iadd hx hb dX7_steal_44 ?_
        refine x_iast (f := f_8) hx hb hK hP hD hS (b + 2) (by omega) hm2 (by omega) (by omega) (by decide) dX7_steal_45 (fun M_11 H locs hnew hne hP hD hS => ?_)
        obtain ⟨f_12, hf_12⟩ : ∃ q : Int → Int, q = (upI f_8 (t) ((f_8 (t)) + 1)) := ⟨_, rfl⟩
        rw [← hf_12] at hnew
        have hP : xP g (M_11, σ.2) H := hP
        have hD : xD g A (M_11, σ.2) := hD
        have hm2 : M_11 (b + 2) = .inl (g.2.1 0, 9, .inl (fun k => iI (f_12 (k : Int)))) := hnew
        have hm0 := (hne (b) (by omega)).trans hm0
        have hm1 := (hne (b + 1) (by omega)).trans hm1
        have hfr := x_fr (F := fun j => j ≠ b ∧ j ≠ b + 1 ∧ j ≠ b + 2) hfr hne (fun j h => by have h : j ≠ b ∧ j ≠ b + 1 ∧ j ≠ b + 2 := h; omega)
        refine x_retQv hx hb hr ?_ hP hD hS dX7_steal_46 hlocks
        refine ⟨rfl, hfr, ?_⟩
        have e : zSteal P n t o = f_12 := by unfold zSteal; first | (rw [if_neg (by omega)]; done) | (rw [if_pos (by omega)]; subst_vars; rfl)
        rw [e]; exact ⟨hm0, hm1, hm2⟩

set_option maxHeartbeats 4000000 in
set_option maxRecDepth 100000 in
theorem c_X7_exchange (l : Launch) (g : xG) (σ : xS) (A : Nat → Prop) (b : Nat) (hb3 : b + 2 < xN) (n rd : Int) (P : Int → Int) (G : Int → Option Nat) (hst : StAt g σ.1 b n rd P G) (hok : StOk σ n rd P G) (hH : HsOk σ) (i : Int) (hi : 0 ≤ i ∧ i < n) (j : Int) (hj : 0 ≤ j ∧ j < n) (hij : i ≠ j) : Met l yX7_exchange wsX7_exchange ({ frames := 1, cells := 0, slots := 0, locals := 32 }) (va_Pc [.ref (g.2.2 (b)), .int (iI (i)), .int (iI (j))] (xPreQ g A σ)) (x_Qv g A (fun σ1 => σ1.2 = σ.2 ∧ (∀ j, j ≠ b ∧ j ≠ b + 1 ∧ j ≠ b + 2 → σ1.1 j = σ.1 j) ∧ StAt g σ1.1 b (n) (rd) (zSwap P i j) (zSwap G i j))) (0) (0) A := by
  refine Met.ofW (cc := cX7_exchange) (maxL := 5) (ret := none) (by decide) rfl ?_
  intro p e s m args below meth c s₁ B hml hv
  obtain ⟨rfl, hP, hK, hD, hA⟩ := hv
  have hx := B.exec
  have hb := B.bytes
  have hr := B.returns
  have hts := atoms_spec (ws := wsX7_exchange) B.pre
  have hown : s.vm.findClass RX7 = some m.cls := findClass_of_methodNamed B.named
  have hlocks := B.notSynchronized
  have hS : va_S A s.heap s.heap [] := va_S.rf
  have hfr : ∀ j, (j ≠ b ∧ j ≠ b + 1 ∧ j ≠ b + 2) → σ.1 j = σ.1 j := fun _ _ => rfl
  have hl := lv_entry ([.ref (g.2.2 (b)), .int (iI (i)), .int (iI (j))]) (n := 5) (Nat.le_of_ble_eq_true rfl)
  rw [lg_entry_eq]
  generalize (lg_sl ([.ref (g.2.2 (b)), .int (iI (i)), .int (iI (j))]) ++ List.replicate (5 - (lg_sl ([.ref (g.2.2 (b)), .int (iI (i)), .int (iI (j))])).length) Slot.unset).toArray = ls at hl ⊢
  have hl : lv_has ls 5 [(0, .ref (g.2.2 (b))), (1, .int (iI (i))), (2, .int (iI (j)))] := hl
  obtain ⟨hm0, hm1, hm2⟩ := hst
  have hok1 := hok.1
  have hok2 := hok.2.1
  have hok3 := hok.2.2.1
  have hw_0 := hts (.fieldLink RX7 11 "TwiceAsRich$Street" "houses" "[LTwiceAsRich$House;") (by decide +kernel)
  have hin_X7 : ∀ w ∈ wsX70, w ∈ wsX7_exchange := by decide +kernel
  have hw_2 := hts (.fieldLink RX7 17 "TwiceAsRich$Street" "purses" "[I") (by decide +kernel)
  refine lv_aload_n hx hb dX7_exchange_0 rfl (lv_at hl 0 rfl) ?_
  refine x_get (C := RX7) (T := TX7) (N := 4) hx hb hts hin_X7 hown hK hP (b) (by omega) hm0 rfl 0 (by decide) hw_0 (fun _ h9 => h9) rfl dX7_exchange_1 ?_
  refine lv_iload_n hx hb dX7_exchange_4 rfl (lv_at hl 1 rfl) ?_
  obtain ⟨a_1, hG_a_1⟩ : ∃ a, G (i) = some a := by first | exact (hok.2.2.2.2.2 (i) (by omega) (by omega)).1 | (subst_vars; unfold upI; split <;> first | exact ⟨_, rfl⟩ | exact (hok.2.2.2.2.2 (i) (by omega) (by omega)).1)
  have ha_a_1 : a_1 ∈ σ.2.1 := hok.2.2.2.2.1 _ _ hG_a_1
  refine x_aaldS (C := RX3) (f := G) 1 hx hb hK hP (b + 1) (by omega) hm1 rfl (by omega) (by omega) (by decide) hG_a_1 dX7_exchange_5 ?_
  refine lv_astore_n (lv' := [(3, .ref a_1), (0, .ref (g.2.2 (b))), (1, .int (iI (i))), (2, .int (iI (j)))]) hx hb dX7_exchange_6 rfl hl (by decide) rfl (fun ls hl => ?_)
  refine lv_aload_n hx hb dX7_exchange_7 rfl (lv_at hl 1 rfl) ?_
  refine x_get (C := RX7) (T := TX7) (N := 4) hx hb hts hin_X7 hown hK hP (b) (by omega) hm0 rfl 1 (by decide) hw_2 (fun _ h9 => h9) rfl dX7_exchange_8 ?_
  refine lv_iload_n hx hb dX7_exchange_11 rfl (lv_at hl 2 rfl) ?_
  refine x_iald (f := P) hx hb hK hP (b + 2) (by omega) hm2 (by omega) (by omega) (by decide) dX7_exchange_12 ?_
  refine lv_istore (lv' := [(4, .int (iI (P (i)))), (3, .ref a_1), (0, .ref (g.2.2 (b))), (1, .int (iI (i))), (2, .int (iI (j)))]) hx hb dX7_exchange_13 hl (by decide) rfl (fun ls hl => ?_)
  refine lv_aload_n hx hb dX7_exchange_15 rfl (lv_at hl 2 rfl) ?_
  refine x_get (C := RX7) (T := TX7) (N := 4) hx hb hts hin_X7 hown hK hP (b) (by omega) hm0 rfl 0 (by decide) hw_0 (fun _ h9 => h9) rfl dX7_exchange_16 ?_
  refine lv_iload_n hx hb dX7_exchange_19 rfl (lv_at hl 3 rfl) ?_
  refine lv_aload_n hx hb dX7_exchange_20 rfl (lv_at hl 2 rfl) ?_
  refine x_get (C := RX7) (T := TX7) (N := 4) hx hb hts hin_X7 hown hK hP (b) (by omega) hm0 rfl 0 (by decide) hw_0 (fun _ h9 => h9) rfl dX7_exchange_21 ?_
  refine lv_iload_n hx hb dX7_exchange_24 rfl (lv_at hl 4 rfl) ?_
  obtain ⟨a_2, hG_a_2⟩ : ∃ a, G (j) = some a := by first | exact (hok.2.2.2.2.2 (j) (by omega) (by omega)).1 | (subst_vars; unfold upI; split <;> first | exact ⟨_, rfl⟩ | exact (hok.2.2.2.2.2 (j) (by omega) (by omega)).1)
  have ha_a_2 : a_2 ∈ σ.2.1 := hok.2.2.2.2.1 _ _ hG_a_2
  refine x_aaldS (C := RX3) (f := G) 1 hx hb hK hP (b + 1) (by omega) hm1 rfl (by omega) (by omega) (by decide) hG_a_2 dX7_exchange_25 ?_
  refine x_aast (f := G) hx hb hK hP hD hS (b + 1) (by omega) hm1 ha_a_2 (by omega) (by omega) (by decide) dX7_exchange_26 (fun M_3 H locs hnew hne hP hD hS => ?_)
  rw [← hG_a_2] at hnew
  obtain ⟨f_4, hf_4⟩ : ∃ q : Int → Option Nat, q = (upI G (i) (G (j))) := ⟨_, rfl⟩
  rw [← hf_4] at hnew
  have hP : xP g (M_3, σ.2) H := hP
  have hD : xD g A (M_3, σ.2) := hD
  have hm1 : M_3 (b + 1) = .inl (g.2.1 1, 9, .inr (.inr (.inr (.inr (fun k => f_4 (k : Int)))))) := hnew
  have hm0 := (hne (b) (by omega)).trans hm0
  have hm2 := (hne (b + 2) (by omega)).trans hm2
  have hfr := x_fr (F := fun j => j ≠ b ∧ j ≠ b + 1 ∧ j ≠ b + 2) hfr hne (fun j h => by have h : j ≠ b ∧ j ≠ b + 1 ∧ j ≠ b + 2 := h; omega)
  refine lv_aload_n hx hb dX7_exchange_27 rfl (lv_at hl 2 rfl) ?_
  refine x_get (C := RX7) (T := TX7) (N := 4) hx hb hts hin_X7 hown hK hP (b) (by omega) hm0 rfl 1 (by decide) hw_2 (fun _ h9 => h9) rfl dX7_exchange_28 ?_
  refine lv_iload_n hx hb dX7_exchange_31 rfl (lv_at hl 3 rfl) ?_
  refine lv_aload_n hx hb dX7_exchange_32 rfl (lv_at hl 2 rfl) ?_
  refine x_get (C := RX7) (T := TX7) (N := 4) hx hb hts hin_X7 hown hK hP (b) (by omega) hm0 rfl 1 (by decide) hw_2 (fun _ h9 => h9) rfl dX7_exchange_33 ?_
  refine lv_iload_n hx hb dX7_exchange_36 rfl (lv_at hl 4 rfl) ?_
  refine x_iald (f := P) hx hb hK hP (b + 2) (by omega) hm2 (by omega) (by omega) (by decide) dX7_exchange_37 ?_
  refine x_iast (f := P) hx hb hK hP hD hS (b + 2) (by omega) hm2 (by omega) (by omega) (by decide) dX7_exchange_38 (fun M_5 H locs hnew hne hP hD hS => ?_)
  obtain ⟨f_6, hf_6⟩ : ∃ q : Int → Int, q = (upI P (i) (P (j))) := ⟨_, rfl⟩
  rw [← hf_6] at hnew
  have hP : xP g (M_5, σ.2) H := hP
  have hD : xD g A (M_5, σ.2) := hD
  have hm2 : M_5 (b + 2) = .inl (g.2.1 0, 9, .inl (fun k => iI (f_6 (k : Int)))) := hnew
  have hm0 := (hne (b) (by omega)).trans hm0
  have hm1 := (hne (b + 1) (by omega)).trans hm1
  have hfr := x_fr (F := fun j => j ≠ b ∧ j ≠ b + 1 ∧ j ≠ b + 2) hfr hne (fun j h => by have h : j ≠ b ∧ j ≠ b + 1 ∧ j ≠ b + 2 := h; omega)
  refine lv_aload_n hx hb dX7_exchange_39 rfl (lv_at hl 2 rfl) ?_
  refine x_get (C := RX7) (T := TX7) (N := 4) hx hb hts hin_X7 hown hK hP (b) (by omega) hm0 rfl 0 (by decide) hw_0 (fun _ h9 => h9) rfl dX7_exchange_40 ?_
  refine lv_iload_n hx hb dX7_exchange_43 rfl (lv_at hl 4 rfl) ?_
  refine lv_aload_n hx hb dX7_exchange_44 rfl (lv_at hl 1 rfl) ?_
  refine x_aast (f := f_4) hx hb hK hP hD hS (b + 1) (by omega) hm1 ha_a_1 (by omega) (by omega) (by decide) dX7_exchange_45 (fun M_7 H locs hnew hne hP hD hS => ?_)
  rw [← hG_a_1] at hnew
  obtain ⟨f_8, hf_8⟩ : ∃ q : Int → Option Nat, q = (upI f_4 (j) (G (i))) := ⟨_, rfl⟩
  rw [← hf_8] at hnew
  have hP : xP g (M_7, σ.2) H := hP
  have hD : xD g A (M_7, σ.2) := hD
  have hm1 : M_7 (b + 1) = .inl (g.2.1 1, 9, .inr (.inr (.inr (.inr (fun k => f_8 (k : Int)))))) := hnew
  have hm0 := (hne (b) (by omega)).trans hm0
  have hm2 := (hne (b + 2) (by omega)).trans hm2
  have hfr := x_fr (F := fun j => j ≠ b ∧ j ≠ b + 1 ∧ j ≠ b + 2) hfr hne (fun j h => by have h : j ≠ b ∧ j ≠ b + 1 ∧ j ≠ b + 2 := h; omega)
  refine lv_aload_n hx hb dX7_exchange_46 rfl (lv_at hl 2 rfl) ?_
  refine x_get (C := RX7) (T := TX7) (N := 4) hx hb hts hin_X7 hown hK hP (b) (by omega) hm0 rfl 1 (by decide) hw_2 (fun _ h9 => h9) rfl dX7_exchange_47 ?_
  refine lv_iload_n hx hb dX7_exchange_50 rfl (lv_at hl 4 rfl) ?_
  refine lv_iload hx hb dX7_exchange_51 (lv_at hl 0 rfl) ?_
  refine x_iast (f := f_6) hx hb hK hP hD hS (b + 2) (by omega) hm2 (by omega) (by omega) (by decide) dX7_exchange_53 (fun M_9 H locs hnew hne hP hD hS => ?_)
  obtain ⟨f_10, hf_10⟩ : ∃ q : Int → Int, q = (upI f_6 (j) (P (i))) := ⟨_, rfl⟩
  rw [← hf_10] at hnew
  have hP : xP g (M_9, σ.2) H := hP
  have hD : xD g A (M_9, σ.2) := hD
  have hm2 : M_9 (b + 2) = .inl (g.2.1 0, 9, .inl (fun k => iI (f_10 (k : Int)))) := hnew
  have hm0 := (hne (b) (by omega)).trans hm0
  have hm1 := (hne (b + 1) (by omega)).trans hm1
  have hfr := x_fr (F := fun j => j ≠ b ∧ j ≠ b + 1 ∧ j ≠ b + 2) hfr hne (fun j h => by have h : j ≠ b ∧ j ≠ b + 1 ∧ j ≠ b + 2 := h; omega)
  refine x_retQv hx hb hr ?_ hP hD hS dX7_exchange_54 hlocks
  refine ⟨rfl, hfr, ?_⟩
  have e : f_10 = zSwap P i j := by unfold zSwap; subst_vars; rfl
  have e2 : f_8 = zSwap G i j := by unfold zSwap; subst_vars; rfl
  rw [← e, ← e2]; exact ⟨hm0, hm1, hm2⟩

set_option maxHeartbeats 4000000 in
set_option maxRecDepth 100000 in
theorem c_X7_earn (l : Launch) (g : xG) (σ : xS) (A : Nat → Prop) (b : Nat) (hb3 : b + 2 < xN) (n rd : Int) (P : Int → Int) (G : Int → Option Nat) (hst : StAt g σ.1 b n rd P G) (hok : StOk σ n rd P G) (hH : HsOk σ) (w : Int) (hw : 0 ≤ w ∧ w ≤ 99) : Met l yX7_earn wsX7_earn ({ frames := 4, cells := 0, slots := 0, locals := 128 }) (va_Pc [.ref (g.2.2 (b)), .int (iI (w))] (xPreQ g A σ)) (x_Qv g A (fun σ1 => σ1.2 = σ.2 ∧ (∀ j, j ≠ b ∧ j ≠ b + 1 ∧ j ≠ b + 2 → σ1.1 j = σ.1 j) ∧ StAt g σ1.1 b (n) (rd) (zCopy (fun i => min 9999 (P i + w * zWeek (sK σ G i) (sF σ G i))) P n) (G))) (0) (0) A := by
  refine Met.ofW (cc := cX7_earn) (maxL := 3) (ret := none) (by decide) rfl ?_
  intro p e s m args below meth c s₁ B hml hv
  obtain ⟨rfl, hP, hK, hD, hA⟩ := hv
  have hx := B.exec
  have hb := B.bytes
  have hr := B.returns
  have hts := atoms_spec (ws := wsX7_earn) B.pre
  have hown : s.vm.findClass RX7 = some m.cls := findClass_of_methodNamed B.named
  have hlocks := B.notSynchronized
  have hS : va_S A s.heap s.heap [] := va_S.rf
  have hfr : ∀ j, (j ≠ b ∧ j ≠ b + 1 ∧ j ≠ b + 2) → σ.1 j = σ.1 j := fun _ _ => rfl
  have hl := lv_entry ([.ref (g.2.2 (b)), .int (iI (w))]) (n := 3) (Nat.le_of_ble_eq_true rfl)
  rw [lg_entry_eq]
  generalize (lg_sl ([.ref (g.2.2 (b)), .int (iI (w))]) ++ List.replicate (3 - (lg_sl ([.ref (g.2.2 (b)), .int (iI (w))])).length) Slot.unset).toArray = ls at hl ⊢
  have hl : lv_has ls 3 [(0, .ref (g.2.2 (b))), (1, .int (iI (w)))] := hl
  obtain ⟨hm0, hm1, hm2⟩ := hst
  have hok1 := hok.1
  have hok2 := hok.2.1
  have hok3 := hok.2.2.1
  have hw_0 := hts (.fieldLink RX7 21 "TwiceAsRich$Street" "count" "I") (by decide +kernel)
  have hin_X7 : ∀ w ∈ wsX70, w ∈ wsX7_earn := by decide +kernel
  have hw_2 := hts (.fieldLink RX7 17 "TwiceAsRich$Street" "purses" "[I") (by decide +kernel)
  have hw_3 := hts (.fieldLink RX7 11 "TwiceAsRich$Street" "houses" "[LTwiceAsRich$House;") (by decide +kernel)
  have hw_4 := (show (Cond.code yX3_weekly cX3_weekly 1 (some .int)) ∈ wsX7_earn by decide +kernel)
  have hw_5 := hts (.methodLink RX7 57 Lib.Math.min.name) (by decide +kernel)
  have hw_6 := hts (.static Lib.Math.min.name) (by decide +kernel)
  have hw_7 := hts (.initialized "java/lang/Math") (by decide +kernel)
  have hw_8 := hts (.code Lib.Math.min.name Lib.Math.min.code 2 (some .int)) (by decide +kernel)
  refine x_iconst hx hb dX7_earn_0 ?_
  refine lv_istore_n (lv' := [(2, .int (iI (0))), (0, .ref (g.2.2 (b))), (1, .int (iI (w)))]) hx hb dX7_earn_1 rfl hl (by decide) rfl (fun ls hl => ?_)
  have hloop_2 : ∀ (k : Nat) (i : Int), (n - i).toNat < k → (hi0 : 0 ≤ i) → (hin : i ≤ n) → ∀ (M : xM) (H : Heap) (locs : List Loc), (hm0 : M (b) = .inr (7, [.ref (g.2.2 (b + 1)), .ref (g.2.2 (b + 2)), .int (iI (n)), .int (iI (rd))])) → (hm1 : M (b + 1) = .inl (g.2.1 1, 9, .inr (.inr (.inr (.inr (fun k => G (k : Int))))))) → (hm2 : M (b + 2) = .inl (g.2.1 0, 9, .inl (fun k => iI (zCopy (fun i => min 9999 (P i + w * zWeek (sK σ G i) (sF σ G i))) P i (k : Int))))) → (hfr : ∀ j, (j ≠ b ∧ j ≠ b + 1 ∧ j ≠ b + 2) → M j = σ.1 j) → xP g (M, σ.2) H → xD g A (M, σ.2) → va_S A s.heap H locs → ∀ (ls : Array Slot), lv_has ls 3 [(2, .int (iI (i))), (0, .ref (g.2.2 (b))), (1, .int (iI (w)))] → W p l e (headSpec wsX7_earn ({ frames := 4, cells := 0, slots := 0, locals := 128 })).room s m ([.ref (g.2.2 (b)), .int (iI (w))] : List Value).toArray below meth c H locs 0 0 (MQ below (x_Qv g A (fun σ1 => σ1.2 = σ.2 ∧ (∀ j, j ≠ b ∧ j ≠ b + 1 ∧ j ≠ b + 2 → σ1.1 j = σ.1 j) ∧ StAt g σ1.1 b (n) (rd) (zCopy (fun i => min 9999 (P i + w * zWeek (sK σ G i) (sF σ G i))) P n) (G))) ([.ref (g.2.2 (b)), .int (iI (w))] : List Value).toArray s (0) (0) A) (F0 m 2 ls []) := by
    intro k
    induction k with
    | zero =>
      intros; exact absurd (by assumption) (Nat.not_lt_zero _)
    | succ k ih =>
      intro i hmeas hi0 hin M H locs hm0 hm1 hm2 hfr hP hD hS ls hl
      have ih_1 := ih
      refine lv_iload_n hx hb dX7_earn_2 rfl (lv_at hl 0 rfl) ?_
      refine lv_aload_n hx hb dX7_earn_3 rfl (lv_at hl 1 rfl) ?_
      refine x_get (C := RX7) (T := TX7) (N := 4) hx hb hts hin_X7 hown hK hP (b) (by omega) hm0 rfl 2 (by decide) hw_0 (fun _ h9 => h9) rfl dX7_earn_4 ?_
      refine x_icmp_ge (tgt := 46) hx hb (by omega) (by omega) dX7_earn_7 (by decide) (fun c_7 => ?_) (fun c_7 => ?_)
      · refine x_retQv hx hb hr ?_ hP hD hS dX7_earn_46 hlocks
        refine ⟨rfl, hfr, ?_⟩
        have e : i = n := by omega
        rw [e] at hm2
        exact ⟨hm0, hm1, hm2⟩
      · refine lv_aload_n hx hb dX7_earn_10 rfl (lv_at hl 1 rfl) ?_
        refine x_get (C := RX7) (T := TX7) (N := 4) hx hb hts hin_X7 hown hK hP (b) (by omega) hm0 rfl 1 (by decide) hw_2 (fun _ h9 => h9) rfl dX7_earn_11 ?_
        refine lv_iload_n hx hb dX7_earn_14 rfl (lv_at hl 0 rfl) ?_
        refine x_sipush (n := 9999) hx hb (by decide +kernel) dX7_earn_15 ?_
        refine lv_aload_n hx hb dX7_earn_18 rfl (lv_at hl 1 rfl) ?_
        refine x_get (C := RX7) (T := TX7) (N := 4) hx hb hts hin_X7 hown hK hP (b) (by omega) hm0 rfl 1 (by decide) hw_2 (fun _ h9 => h9) rfl dX7_earn_19 ?_
        refine lv_iload_n hx hb dX7_earn_22 rfl (lv_at hl 0 rfl) ?_
        refine x_iald (f := zCopy (fun i => min 9999 (P i + w * zWeek (sK σ G i) (sF σ G i))) P i) hx hb hK hP (b + 2) (by omega) hm2 (by omega) (by omega) (by decide) dX7_earn_23 ?_
        have hb_2 := hok.2.2.2.1 i
        have hb_3 := (hok.2.2.2.2.2 i (by omega) (by omega)).2
        have hrd : zCopy (fun i => min 9999 (P i + w * zWeek (sK σ G i) (sF σ G i))) P i (i) = P i := zCopy_out (by omega)
        refine lv_iload_n hx hb dX7_earn_24 rfl (lv_at hl 2 rfl) ?_
        refine lv_aload_n hx hb dX7_earn_25 rfl (lv_at hl 1 rfl) ?_
        refine x_get (C := RX7) (T := TX7) (N := 4) hx hb hts hin_X7 hown hK hP (b) (by omega) hm0 rfl 0 (by decide) hw_3 (fun _ h9 => h9) rfl dX7_earn_26 ?_
        refine lv_iload_n hx hb dX7_earn_29 rfl (lv_at hl 0 rfl) ?_
        obtain ⟨a_5, hG_a_5⟩ := (hok.2.2.2.2.2 (i) (by omega) (by omega)).1
        have ha_a_5 := hok.2.2.2.2.1 _ _ hG_a_5
        refine x_aaldS (C := RX3) (f := G) 1 hx hb hK hP (b + 1) (by omega) hm1 rfl (by omega) (by omega) (by decide) hG_a_5 dX7_earn_30 ?_
        refine x_ci (rest := [.int (iI (w)), .int (iI ((zCopy (fun i => min 9999 (P i + w * zWeek (sK σ G i) (sF σ G i))) P i) (i))), .int (iI (9999)), .int (iI (i)), .ref (g.2.2 (b + 2))]) (a := ([.ref a_5] : List Value).toArray) (post := fun r => r = zWeek (σ.2.2.1 a_5) (σ.2.2.2 a_5)) (by
          have hk0 := (hH a_5 ha_a_5).1
          have hk : σ.2.2.1 a_5 = 0 ∨ σ.2.2.1 a_5 = 1 ∨ σ.2.2.1 a_5 = 2 ∨ σ.2.2.1 a_5 = 3 ∨ σ.2.2.1 a_5 = 4 ∨ σ.2.2.1 a_5 = 5 ∨ σ.2.2.1 a_5 = 6 ∨ σ.2.2.1 a_5 = 7 := by omega
          rcases hk with hk | hk | hk | hk | hk | hk | hk | hk
          · exact x_run_mono (va_runV (As := []) (rest := [.int (iI (w)), .int (iI ((zCopy (fun i => min 9999 (P i + w * zWeek (sK σ G i) (sF σ G i))) P i) (i))), .int (iI (9999)), .int (iI (i)), .ref (g.2.2 (b + 2))]) ⟨hx, hb, hml, hown, hts⟩ (c_X3_weekly l g (M, σ.2) hH a_5 ha_a_5) (cwV 0 hts gX7_earn_X3_weekly rfl rfl rfl (by decide +kernel) ⟨Nat.le_of_ble_eq_true rfl, Nat.le_of_ble_eq_true rfl⟩) (x_preV hK hP (x_recvH (q := (RX3, TX3, 1)) hK hP ha_a_5 (by rw [hk]; rfl))) rfl rfl hl.1 rfl (lv_room (Nat.le_of_ble_eq_true rfl)) dX7_earn_31 ⟨Nat.le_of_ble_eq_true rfl, Nat.le_of_ble_eq_true rfl⟩) (fun r hr => hr.trans (by rw [hk]; rfl))
          · exact x_run_mono (va_runU (As := []) (rest := [.int (iI (w)), .int (iI ((zCopy (fun i => min 9999 (P i + w * zWeek (sK σ G i) (sF σ G i))) P i) (i))), .int (iI (9999)), .int (iI (i)), .ref (g.2.2 (b + 2))]) ⟨hx, hb, hml, hown, hts⟩ (c_X2_weekly l g (M, σ.2) hH a_5 ha_a_5) (va_cwO 0 hts gX7_earn_X2_weekly_u65X2 rfl rfl rfl (b0 := cX3_weekly) (m0 := 1) (r0 := (some .int)) hw_4 (by decide +kernel) ⟨Nat.le_of_ble_eq_true rfl, Nat.le_of_ble_eq_true rfl⟩) (x_preV hK hP (x_recvH (q := (RX2, TX2, 1)) hK hP ha_a_5 (by rw [hk]; rfl))) rfl rfl hl.1 rfl (lv_room (Nat.le_of_ble_eq_true rfl)) dX7_earn_31 ⟨Nat.le_of_ble_eq_true rfl, Nat.le_of_ble_eq_true rfl⟩) (fun r hr => hr.trans (by rw [hk]; rfl))
          · exact x_run_mono (va_runU (As := []) (rest := [.int (iI (w)), .int (iI ((zCopy (fun i => min 9999 (P i + w * zWeek (sK σ G i) (sF σ G i))) P i) (i))), .int (iI (9999)), .int (iI (i)), .ref (g.2.2 (b + 2))]) ⟨hx, hb, hml, hown, hts⟩ (c_X6_weekly l g (M, σ.2) hH a_5 ha_a_5) (va_cwO 0 hts gX7_earn_X6_weekly_u65X6 rfl rfl rfl (b0 := cX3_weekly) (m0 := 1) (r0 := (some .int)) hw_4 (by decide +kernel) ⟨Nat.le_of_ble_eq_true rfl, Nat.le_of_ble_eq_true rfl⟩) (x_preV hK hP (x_recvH (q := (RX6, TX6, 1)) hK hP ha_a_5 (by rw [hk]; rfl))) rfl rfl hl.1 rfl (lv_room (Nat.le_of_ble_eq_true rfl)) dX7_earn_31 ⟨Nat.le_of_ble_eq_true rfl, Nat.le_of_ble_eq_true rfl⟩) (fun r hr => hr.trans (by rw [hk]; rfl))
          · exact x_run_mono (va_runU (As := []) (rest := [.int (iI (w)), .int (iI ((zCopy (fun i => min 9999 (P i + w * zWeek (sK σ G i) (sF σ G i))) P i) (i))), .int (iI (9999)), .int (iI (i)), .ref (g.2.2 (b + 2))]) ⟨hx, hb, hml, hown, hts⟩ (c_X10_weekly l g (M, σ.2) hH a_5 ha_a_5) (va_cwO 0 hts gX7_earn_X10_weekly_u65X10 rfl rfl rfl (b0 := cX3_weekly) (m0 := 1) (r0 := (some .int)) hw_4 (by decide +kernel) ⟨Nat.le_of_ble_eq_true rfl, Nat.le_of_ble_eq_true rfl⟩) (x_preV hK hP (x_recvH (q := (RX10, TX10, 1)) hK hP ha_a_5 (by rw [hk]; rfl))) rfl rfl hl.1 rfl (lv_room (Nat.le_of_ble_eq_true rfl)) dX7_earn_31 ⟨Nat.le_of_ble_eq_true rfl, Nat.le_of_ble_eq_true rfl⟩) (fun r hr => hr.trans (by rw [hk]; rfl))
          · exact x_run_mono (va_runU (As := []) (rest := [.int (iI (w)), .int (iI ((zCopy (fun i => min 9999 (P i + w * zWeek (sK σ G i) (sF σ G i))) P i) (i))), .int (iI (9999)), .int (iI (i)), .ref (g.2.2 (b + 2))]) ⟨hx, hb, hml, hown, hts⟩ (c_X4_weekly l g (M, σ.2) hH a_5 ha_a_5) (va_cwO 0 hts gX7_earn_X4_weekly_u65X4 rfl rfl rfl (b0 := cX3_weekly) (m0 := 1) (r0 := (some .int)) hw_4 (by decide +kernel) ⟨Nat.le_of_ble_eq_true rfl, Nat.le_of_ble_eq_true rfl⟩) (x_preV hK hP (x_recvH (q := (RX4, TX4, 1)) hK hP ha_a_5 (by rw [hk]; rfl))) rfl rfl hl.1 rfl (lv_room (Nat.le_of_ble_eq_true rfl)) dX7_earn_31 ⟨Nat.le_of_ble_eq_true rfl, Nat.le_of_ble_eq_true rfl⟩) (fun r hr => hr.trans (by rw [hk]; rfl))
          · exact x_run_mono (va_runU (As := []) (rest := [.int (iI (w)), .int (iI ((zCopy (fun i => min 9999 (P i + w * zWeek (sK σ G i) (sF σ G i))) P i) (i))), .int (iI (9999)), .int (iI (i)), .ref (g.2.2 (b + 2))]) ⟨hx, hb, hml, hown, hts⟩ (c_X0_weekly l g (M, σ.2) hH a_5 ha_a_5) (va_cwO 0 hts gX7_earn_X0_weekly_u65X0 rfl rfl rfl (b0 := cX3_weekly) (m0 := 1) (r0 := (some .int)) hw_4 (by decide +kernel) ⟨Nat.le_of_ble_eq_true rfl, Nat.le_of_ble_eq_true rfl⟩) (x_preV hK hP (x_recvH (q := (RX0, TX0, 1)) hK hP ha_a_5 (by rw [hk]; rfl))) rfl rfl hl.1 rfl (lv_room (Nat.le_of_ble_eq_true rfl)) dX7_earn_31 ⟨Nat.le_of_ble_eq_true rfl, Nat.le_of_ble_eq_true rfl⟩) (fun r hr => hr.trans (by rw [hk]; rfl))
          · exact x_run_mono (va_runU (As := []) (rest := [.int (iI (w)), .int (iI ((zCopy (fun i => min 9999 (P i + w * zWeek (sK σ G i) (sF σ G i))) P i) (i))), .int (iI (9999)), .int (iI (i)), .ref (g.2.2 (b + 2))]) ⟨hx, hb, hml, hown, hts⟩ (c_X9_weekly l g (M, σ.2) hH a_5 ha_a_5) (va_cwO 0 hts gX7_earn_X9_weekly_u65X9 rfl rfl rfl (b0 := cX3_weekly) (m0 := 1) (r0 := (some .int)) hw_4 (by decide +kernel) ⟨Nat.le_of_ble_eq_true rfl, Nat.le_of_ble_eq_true rfl⟩) (x_preV hK hP (x_recvH (q := (RX9, TX9, 1)) hK hP ha_a_5 (by rw [hk]; rfl))) rfl rfl hl.1 rfl (lv_room (Nat.le_of_ble_eq_true rfl)) dX7_earn_31 ⟨Nat.le_of_ble_eq_true rfl, Nat.le_of_ble_eq_true rfl⟩) (fun r hr => hr.trans (by rw [hk]; rfl))
          · exact x_run_mono (va_runU (As := []) (rest := [.int (iI (w)), .int (iI ((zCopy (fun i => min 9999 (P i + w * zWeek (sK σ G i) (sF σ G i))) P i) (i))), .int (iI (9999)), .int (iI (i)), .ref (g.2.2 (b + 2))]) ⟨hx, hb, hml, hown, hts⟩ (c_X1_weekly l g (M, σ.2) hH a_5 ha_a_5) (va_cwO 0 hts gX7_earn_X1_weekly_u65X1 rfl rfl rfl (b0 := cX3_weekly) (m0 := 1) (r0 := (some .int)) hw_4 (by decide +kernel) ⟨Nat.le_of_ble_eq_true rfl, Nat.le_of_ble_eq_true rfl⟩) (x_preV hK hP (x_recvH (q := (RX1, TX1, 1)) hK hP ha_a_5 (by rw [hk]; rfl))) rfl rfl hl.1 rfl (lv_room (Nat.le_of_ble_eq_true rfl)) dX7_earn_31 ⟨Nat.le_of_ble_eq_true rfl, Nat.le_of_ble_eq_true rfl⟩) (fun r hr => hr.trans (by rw [hk]; rfl))) (fun r_31 hr_31 qr_31 => ?_)
        replace qr_31 : r_31 = zWeek (σ.2.2.1 a_5) (σ.2.2.2 a_5) := qr_31
        have br_31 := zWeek_rng (σ.2.2.1 a_5) (hH a_5 ha_a_5).2; rw [← qr_31] at br_31
        refine x_imul hx hb dX7_earn_34 ?_
        have hmulb := zMulB w r_31 (by omega) (by omega)
        refine x_iadd hx hb dX7_earn_35 ?_
        refine x_min hx hb (hml.trans hl.1.symm) hown hw_5 hw_6 hw_7 hw_8 (Nat.le_of_ble_eq_true rfl) (Nat.le_of_ble_eq_true rfl) (Nat.le_of_ble_eq_true rfl) (Nat.le_of_ble_eq_true rfl) (by omega) (by omega) dX7_earn_36 (fun q_6 hq_6 => ?_)
        refine x_iast (f := zCopy (fun i => min 9999 (P i + w * zWeek (sK σ G i) (sF σ G i))) P i) hx hb hK hP hD hS (b + 2) (by omega) hm2 (by omega) (by omega) (by decide) dX7_earn_39 (fun M_7 H locs hnew hne hP hD hS => ?_)
        obtain ⟨f_8, hf_8⟩ : ∃ q : Int → Int, q = (upI (zCopy (fun i => min 9999 (P i + w * zWeek (sK σ G i) (sF σ G i))) P i) (i) (q_6)) := ⟨_, rfl⟩
        rw [← hf_8] at hnew
        have hP : xP g (M_7, σ.2) H := hP
        have hD : xD g A (M_7, σ.2) := hD
        have hm2 : M_7 (b + 2) = .inl (g.2.1 0, 9, .inl (fun k => iI (f_8 (k : Int)))) := hnew
        have hm0 := (hne (b) (by omega)).trans hm0
        have hm1 := (hne (b + 1) (by omega)).trans hm1
        have hfr := x_fr (F := fun j => j ≠ b ∧ j ≠ b + 1 ∧ j ≠ b + 2) hfr hne (fun j h => by have h : j ≠ b ∧ j ≠ b + 1 ∧ j ≠ b + 2 := h; omega)
        refine x_iinc (k0 := 0) (lv' := [(2, .int (iI (i + 1))), (0, .ref (g.2.2 (b))), (1, .int (iI (w)))]) hx hb dX7_earn_40 hl rfl (by decide) rfl (fun ls hl => ?_)
        refine lv_goto (tgt := 2) hx hb dX7_earn_43 (by decide) ?_
        have e1 : ∀ a, G i = some a → sK σ G i = σ.2.2.1 a := (fun a h => by simp only [sK, kdO, h])
        have e2 : ∀ a, G i = some a → sF σ G i = σ.2.2.2 a := (fun a h => by simp only [sF, fgO, h])
        have hs : f_8 = zCopy (fun i => min 9999 (P i + w * zWeek (sK σ G i) (sF σ G i))) P (i + 1) := by (rw [hf_8, ← zCopy_step hi0]; refine congrArg (upI _ i) ?_; show _ = min 9999 (P i + w * zWeek (sK σ G i) (sF σ G i)); rw [e1 _ (by assumption), e2 _ (by assumption), ← qr_31]; omega)
        rw [hs] at hm2
        exact ih_1 (i + 1) (by omega) (by omega) (by omega) (M_7) _ _ hm0 hm1 hm2 hfr hP hD hS ls (lv_sub hl [0, 1, 2] rfl)
  rw [← zCopy_0 (fun i => min 9999 (P i + w * zWeek (sK σ G i) (sF σ G i))) P] at hm2
  exact hloop_2 (((n - (0)).toNat) + 1) (0) (by omega) (by omega) (by omega) (σ.1) _ _ hm0 hm1 hm2 hfr hP hD hS ls (lv_sub hl [0, 1, 2] rfl)

set_option maxHeartbeats 4000000 in
set_option maxRecDepth 100000 in
theorem c_X7_become (l : Launch) (g : xG) (σ : xS) (A : Nat → Prop) (b : Nat) (hb3 : b + 2 < xN) (n rd : Int) (P : Int → Int) (G : Int → Option Nat) (hst : StAt g σ.1 b n rd P G) (hok : StOk σ n rd P G) (hH : HsOk σ) (b2 : Nat) (hb2 : b2 + 2 < xN) (hd2 : b + 2 < b2 ∨ b2 + 2 < b) (n2 rd2 : Int) (P2 : Int → Int) (G2 : Int → Option Nat) (hst2 : StAt g σ.1 b2 n2 rd2 P2 G2) (hoq : StOk σ n2 rd2 P2 G2) : Met l yX7_become wsX7_become ({ frames := 1, cells := 0, slots := 0, locals := 32 }) (va_Pc [.ref (g.2.2 (b)), .ref (g.2.2 (b2))] (xPreQ g A σ)) (x_Qv g A (fun σ1 => σ1.2 = σ.2 ∧ (∀ j, j ≠ b ∧ j ≠ b + 1 ∧ j ≠ b + 2 → σ1.1 j = σ.1 j) ∧ StAt g σ1.1 b (n2) (rd2) (zCopy P2 P 9) (zCopy G2 G 9))) (0) (0) A := by
  refine Met.ofW (cc := cX7_become) (maxL := 3) (ret := none) (by decide) rfl ?_
  intro p e s m args below meth c s₁ B hml hv
  obtain ⟨rfl, hP, hK, hD, hA⟩ := hv
  have hx := B.exec
  have hb := B.bytes
  have hr := B.returns
  have hts := atoms_spec (ws := wsX7_become) B.pre
  have hown : s.vm.findClass RX7 = some m.cls := findClass_of_methodNamed B.named
  have hlocks := B.notSynchronized
  have hS : va_S A s.heap s.heap [] := va_S.rf
  have hfr : ∀ j, (j ≠ b ∧ j ≠ b + 1 ∧ j ≠ b + 2) → σ.1 j = σ.1 j := fun _ _ => rfl
  have hl := lv_entry ([.ref (g.2.2 (b)), .ref (g.2.2 (b2))]) (n := 3) (Nat.le_of_ble_eq_true rfl)
  rw [lg_entry_eq]
  generalize (lg_sl ([.ref (g.2.2 (b)), .ref (g.2.2 (b2))]) ++ List.replicate (3 - (lg_sl ([.ref (g.2.2 (b)), .ref (g.2.2 (b2))])).length) Slot.unset).toArray = ls at hl ⊢
  have hl : lv_has ls 3 [(0, .ref (g.2.2 (b))), (1, .ref (g.2.2 (b2)))] := hl
  obtain ⟨hm0, hm1, hm2⟩ := hst
  have hok1 := hok.1
  have hok2 := hok.2.1
  have hok3 := hok.2.2.1
  obtain ⟨hn0, hn1, hn2⟩ := hst2
  have hok2L := hoq.2.2.2.2.1
  have hw_0 := hts (.fieldLink RX7 11 "TwiceAsRich$Street" "houses" "[LTwiceAsRich$House;") (by decide +kernel)
  have hin_X7 : ∀ w ∈ wsX70, w ∈ wsX7_become := by decide +kernel
  have hw_2 := hts (.fieldLink RX7 21 "TwiceAsRich$Street" "count" "I") (by decide +kernel)
  have hw_3 := hts (.fieldLink RX7 25 "TwiceAsRich$Street" "round" "I") (by decide +kernel)
  have hw_4 := hts (.fieldLink RX7 17 "TwiceAsRich$Street" "purses" "[I") (by decide +kernel)
  refine x_iconst hx hb dX7_become_0 ?_
  refine lv_istore_n (lv' := [(2, .int (iI (0))), (0, .ref (g.2.2 (b))), (1, .ref (g.2.2 (b2)))]) hx hb dX7_become_1 rfl hl (by decide) rfl (fun ls hl => ?_)
  have hloop_2 : ∀ (k : Nat) (i : Int), ((9 : Int) - i).toNat < k → (hi0 : 0 ≤ i) → (hin : i ≤ 9) → ∀ (M : xM) (H : Heap) (locs : List Loc), (hm0 : M (b) = .inr (7, [.ref (g.2.2 (b + 1)), .ref (g.2.2 (b + 2)), .int (iI (n)), .int (iI (rd))])) → (hm1 : M (b + 1) = .inl (g.2.1 1, 9, .inr (.inr (.inr (.inr (fun k => zCopy G2 G i (k : Int))))))) → (hm2 : M (b + 2) = .inl (g.2.1 0, 9, .inl (fun k => iI (zCopy P2 P i (k : Int))))) → (hn0 : M (b2) = .inr (7, [.ref (g.2.2 (b2 + 1)), .ref (g.2.2 (b2 + 2)), .int (iI (n2)), .int (iI (rd2))])) → (hn1 : M (b2 + 1) = .inl (g.2.1 1, 9, .inr (.inr (.inr (.inr (fun k => G2 (k : Int))))))) → (hn2 : M (b2 + 2) = .inl (g.2.1 0, 9, .inl (fun k => iI (P2 (k : Int))))) → (hfr : ∀ j, (j ≠ b ∧ j ≠ b + 1 ∧ j ≠ b + 2) → M j = σ.1 j) → xP g (M, σ.2) H → xD g A (M, σ.2) → va_S A s.heap H locs → ∀ (ls : Array Slot), lv_has ls 3 [(2, .int (iI (i))), (0, .ref (g.2.2 (b))), (1, .ref (g.2.2 (b2)))] → W p l e (headSpec wsX7_become ({ frames := 1, cells := 0, slots := 0, locals := 32 })).room s m ([.ref (g.2.2 (b)), .ref (g.2.2 (b2))] : List Value).toArray below meth c H locs 0 0 (MQ below (x_Qv g A (fun σ1 => σ1.2 = σ.2 ∧ (∀ j, j ≠ b ∧ j ≠ b + 1 ∧ j ≠ b + 2 → σ1.1 j = σ.1 j) ∧ StAt g σ1.1 b (n2) (rd2) (zCopy P2 P 9) (zCopy G2 G 9))) ([.ref (g.2.2 (b)), .ref (g.2.2 (b2))] : List Value).toArray s (0) (0) A) (F0 m 2 ls []) := by
    intro k
    induction k with
    | zero =>
      intros; exact absurd (by assumption) (Nat.not_lt_zero _)
    | succ k ih =>
      intro i hmeas hi0 hin M H locs hm0 hm1 hm2 hn0 hn1 hn2 hfr hP hD hS ls hl
      have ih_1 := ih
      refine lv_iload_n hx hb dX7_become_2 rfl (lv_at hl 0 rfl) ?_
      refine lv_aload_n hx hb dX7_become_3 rfl (lv_at hl 1 rfl) ?_
      refine x_get (C := RX7) (T := TX7) (N := 4) hx hb hts hin_X7 hown hK hP (b) (by omega) hm0 rfl 0 (by decide) hw_0 (fun _ h9 => h9) rfl dX7_become_4 ?_
      refine x_alen hx hb hK hP (b + 1) 1 (by omega) hm1 rfl dX7_become_7 ?_
      refine x_icmp_ge (tgt := 41) hx hb (by omega) (by omega) dX7_become_8 (by decide) (fun c_8 => ?_) (fun c_8 => ?_)
      · refine lv_aload_n hx hb dX7_become_41 rfl (lv_at hl 1 rfl) ?_
        refine lv_aload_n hx hb dX7_become_42 rfl (lv_at hl 2 rfl) ?_
        refine x_get (C := RX7) (T := TX7) (N := 4) hx hb hts hin_X7 hown hK hP (b2) (by omega) hn0 rfl 2 (by decide) hw_2 (fun _ h9 => h9) rfl dX7_become_43 ?_
        refine x_put (C := RX7) (T := TX7) (N := 4) (ty := .int) hx hb hts hin_X7 hown hK hP hD hS (b) (by omega) hm0 rfl tyX7 tyX7_ok nmX7 2 (by decide) hw_2 (fun _ h9 => h9) rfl (by decide +kernel) rfl rfl (Nat.le_of_ble_eq_true rfl) dX7_become_46 (fun M_2 H locs hnew hne hP hD hS => ?_)
        have hP : xP g (M_2, σ.2) H := hP
        have hD : xD g A (M_2, σ.2) := hD
        have hm0 : M_2 (b) = .inr (7, [.ref (g.2.2 (b + 1)), .ref (g.2.2 (b + 2)), .int (iI (n2)), .int (iI (rd))]) := hnew
        have hm1 := (hne (b + 1) (by omega)).trans hm1
        have hm2 := (hne (b + 2) (by omega)).trans hm2
        have hn0 := (hne (b2) (by omega)).trans hn0
        have hn1 := (hne (b2 + 1) (by omega)).trans hn1
        have hn2 := (hne (b2 + 2) (by omega)).trans hn2
        have hfr := x_fr (F := fun j => j ≠ b ∧ j ≠ b + 1 ∧ j ≠ b + 2) hfr hne (fun j h => by have h : j ≠ b ∧ j ≠ b + 1 ∧ j ≠ b + 2 := h; omega)
        refine lv_aload_n hx hb dX7_become_49 rfl (lv_at hl 1 rfl) ?_
        refine lv_aload_n hx hb dX7_become_50 rfl (lv_at hl 2 rfl) ?_
        refine x_get (C := RX7) (T := TX7) (N := 4) hx hb hts hin_X7 hown hK hP (b2) (by omega) hn0 rfl 3 (by decide) hw_3 (fun _ h9 => h9) rfl dX7_become_51 ?_
        refine x_put (C := RX7) (T := TX7) (N := 4) (ty := .int) hx hb hts hin_X7 hown hK hP hD hS (b) (by omega) hm0 rfl tyX7 tyX7_ok nmX7 3 (by decide) hw_3 (fun _ h9 => h9) rfl (by decide +kernel) rfl rfl (Nat.le_of_ble_eq_true rfl) dX7_become_54 (fun M_3 H locs hnew hne hP hD hS => ?_)
        have hP : xP g (M_3, σ.2) H := hP
        have hD : xD g A (M_3, σ.2) := hD
        have hm0 : M_3 (b) = .inr (7, [.ref (g.2.2 (b + 1)), .ref (g.2.2 (b + 2)), .int (iI (n2)), .int (iI (rd2))]) := hnew
        have hm1 := (hne (b + 1) (by omega)).trans hm1
        have hm2 := (hne (b + 2) (by omega)).trans hm2
        have hn0 := (hne (b2) (by omega)).trans hn0
        have hn1 := (hne (b2 + 1) (by omega)).trans hn1
        have hn2 := (hne (b2 + 2) (by omega)).trans hn2
        have hfr := x_fr (F := fun j => j ≠ b ∧ j ≠ b + 1 ∧ j ≠ b + 2) hfr hne (fun j h => by have h : j ≠ b ∧ j ≠ b + 1 ∧ j ≠ b + 2 := h; omega)
        refine x_retQv hx hb hr ?_ hP hD hS dX7_become_57 hlocks
        refine ⟨rfl, hfr, ?_⟩
        have e : i = 9 := by omega
        rw [e] at hm1 hm2
        exact ⟨hm0, hm1, hm2⟩
      · refine lv_aload_n hx hb dX7_become_11 rfl (lv_at hl 1 rfl) ?_
        refine x_get (C := RX7) (T := TX7) (N := 4) hx hb hts hin_X7 hown hK hP (b) (by omega) hm0 rfl 0 (by decide) hw_0 (fun _ h9 => h9) rfl dX7_become_12 ?_
        refine lv_iload_n hx hb dX7_become_15 rfl (lv_at hl 0 rfl) ?_
        refine lv_aload_n hx hb dX7_become_16 rfl (lv_at hl 2 rfl) ?_
        refine x_get (C := RX7) (T := TX7) (N := 4) hx hb hts hin_X7 hown hK hP (b2) (by omega) hn0 rfl 0 (by decide) hw_0 (fun _ h9 => h9) rfl dX7_become_17 ?_
        refine lv_iload_n hx hb dX7_become_20 rfl (lv_at hl 0 rfl) ?_
        rcases hG_a_4 : G2 (i) with _ | a_4
        · refine x_aaldN (C := RX3) (f := G2) 1 hx hb hK hP (b2 + 1) (by omega) hn1 rfl (by omega) (by omega) (by decide) hG_a_4 dX7_become_21 ?_
          refine x_aastN (f := zCopy G2 G i) hx hb hK hP hD hS (b + 1) (by omega) hm1 (by omega) (by omega) (by decide) dX7_become_22 (fun M_5 H locs hnew hne hP hD hS => ?_)
          rw [← hG_a_4] at hnew
          obtain ⟨f_6, hf_6⟩ : ∃ q : Int → Option Nat, q = (upI (zCopy G2 G i) (i) (G2 (i))) := ⟨_, rfl⟩
          rw [← hf_6] at hnew
          have hP : xP g (M_5, σ.2) H := hP
          have hD : xD g A (M_5, σ.2) := hD
          have hm1 : M_5 (b + 1) = .inl (g.2.1 1, 9, .inr (.inr (.inr (.inr (fun k => f_6 (k : Int)))))) := hnew
          have hm0 := (hne (b) (by omega)).trans hm0
          have hm2 := (hne (b + 2) (by omega)).trans hm2
          have hn0 := (hne (b2) (by omega)).trans hn0
          have hn1 := (hne (b2 + 1) (by omega)).trans hn1
          have hn2 := (hne (b2 + 2) (by omega)).trans hn2
          have hfr := x_fr (F := fun j => j ≠ b ∧ j ≠ b + 1 ∧ j ≠ b + 2) hfr hne (fun j h => by have h : j ≠ b ∧ j ≠ b + 1 ∧ j ≠ b + 2 := h; omega)
          refine lv_aload_n hx hb dX7_become_23 rfl (lv_at hl 1 rfl) ?_
          refine x_get (C := RX7) (T := TX7) (N := 4) hx hb hts hin_X7 hown hK hP (b) (by omega) hm0 rfl 1 (by decide) hw_4 (fun _ h9 => h9) rfl dX7_become_24 ?_
          refine lv_iload_n hx hb dX7_become_27 rfl (lv_at hl 0 rfl) ?_
          refine lv_aload_n hx hb dX7_become_28 rfl (lv_at hl 2 rfl) ?_
          refine x_get (C := RX7) (T := TX7) (N := 4) hx hb hts hin_X7 hown hK hP (b2) (by omega) hn0 rfl 1 (by decide) hw_4 (fun _ h9 => h9) rfl dX7_become_29 ?_
          refine lv_iload_n hx hb dX7_become_32 rfl (lv_at hl 0 rfl) ?_
          refine x_iald (f := P2) hx hb hK hP (b2 + 2) (by omega) hn2 (by omega) (by omega) (by decide) dX7_become_33 ?_
          refine x_iast (f := zCopy P2 P i) hx hb hK hP hD hS (b + 2) (by omega) hm2 (by omega) (by omega) (by decide) dX7_become_34 (fun M_7 H locs hnew hne hP hD hS => ?_)
          obtain ⟨f_8, hf_8⟩ : ∃ q : Int → Int, q = (upI (zCopy P2 P i) (i) (P2 (i))) := ⟨_, rfl⟩
          rw [← hf_8] at hnew
          have hP : xP g (M_7, σ.2) H := hP
          have hD : xD g A (M_7, σ.2) := hD
          have hm2 : M_7 (b + 2) = .inl (g.2.1 0, 9, .inl (fun k => iI (f_8 (k : Int)))) := hnew
          have hm0 := (hne (b) (by omega)).trans hm0
          have hm1 := (hne (b + 1) (by omega)).trans hm1
          have hn0 := (hne (b2) (by omega)).trans hn0
          have hn1 := (hne (b2 + 1) (by omega)).trans hn1
          have hn2 := (hne (b2 + 2) (by omega)).trans hn2
          have hfr := x_fr (F := fun j => j ≠ b ∧ j ≠ b + 1 ∧ j ≠ b + 2) hfr hne (fun j h => by have h : j ≠ b ∧ j ≠ b + 1 ∧ j ≠ b + 2 := h; omega)
          refine x_iinc (k0 := 0) (lv' := [(2, .int (iI (i + 1))), (0, .ref (g.2.2 (b))), (1, .ref (g.2.2 (b2)))]) hx hb dX7_become_35 hl rfl (by decide) rfl (fun ls hl => ?_)
          refine lv_goto (tgt := 2) hx hb dX7_become_38 (by decide) ?_
          have hs : f_8 = zCopy P2 P (i + 1) := by rw [hf_8]; exact zCopy_step hi0
          rw [hs] at hm2
          have hs1 : f_6 = zCopy G2 G (i + 1) := by rw [hf_6]; exact zCopy_step hi0
          rw [hs1] at hm1
          exact ih_1 (i + 1) (by omega) (by omega) (by omega) (M_7) _ _ hm0 hm1 hm2 hn0 hn1 hn2 hfr hP hD hS ls (lv_sub hl [0, 1, 2] rfl)
        · have ha_a_4 := hok2L _ _ hG_a_4
          refine x_aaldS (C := RX3) (f := G2) 1 hx hb hK hP (b2 + 1) (by omega) hn1 rfl (by omega) (by omega) (by decide) hG_a_4 dX7_become_21 ?_
          refine x_aast (f := zCopy G2 G i) hx hb hK hP hD hS (b + 1) (by omega) hm1 ha_a_4 (by omega) (by omega) (by decide) dX7_become_22 (fun M_9 H locs hnew hne hP hD hS => ?_)
          rw [← hG_a_4] at hnew
          obtain ⟨f_10, hf_10⟩ : ∃ q : Int → Option Nat, q = (upI (zCopy G2 G i) (i) (G2 (i))) := ⟨_, rfl⟩
          rw [← hf_10] at hnew
          have hP : xP g (M_9, σ.2) H := hP
          have hD : xD g A (M_9, σ.2) := hD
          have hm1 : M_9 (b + 1) = .inl (g.2.1 1, 9, .inr (.inr (.inr (.inr (fun k => f_10 (k : Int)))))) := hnew
          have hm0 := (hne (b) (by omega)).trans hm0
          have hm2 := (hne (b + 2) (by omega)).trans hm2
          have hn0 := (hne (b2) (by omega)).trans hn0
          have hn1 := (hne (b2 + 1) (by omega)).trans hn1
          have hn2 := (hne (b2 + 2) (by omega)).trans hn2
          have hfr := x_fr (F := fun j => j ≠ b ∧ j ≠ b + 1 ∧ j ≠ b + 2) hfr hne (fun j h => by have h : j ≠ b ∧ j ≠ b + 1 ∧ j ≠ b + 2 := h; omega)
          refine lv_aload_n hx hb dX7_become_23 rfl (lv_at hl 1 rfl) ?_
          refine x_get (C := RX7) (T := TX7) (N := 4) hx hb hts hin_X7 hown hK hP (b) (by omega) hm0 rfl 1 (by decide) hw_4 (fun _ h9 => h9) rfl dX7_become_24 ?_
          refine lv_iload_n hx hb dX7_become_27 rfl (lv_at hl 0 rfl) ?_
          refine lv_aload_n hx hb dX7_become_28 rfl (lv_at hl 2 rfl) ?_
          refine x_get (C := RX7) (T := TX7) (N := 4) hx hb hts hin_X7 hown hK hP (b2) (by omega) hn0 rfl 1 (by decide) hw_4 (fun _ h9 => h9) rfl dX7_become_29 ?_
          refine lv_iload_n hx hb dX7_become_32 rfl (lv_at hl 0 rfl) ?_
          refine x_iald (f := P2) hx hb hK hP (b2 + 2) (by omega) hn2 (by omega) (by omega) (by decide) dX7_become_33 ?_
          refine x_iast (f := zCopy P2 P i) hx hb hK hP hD hS (b + 2) (by omega) hm2 (by omega) (by omega) (by decide) dX7_become_34 (fun M_11 H locs hnew hne hP hD hS => ?_)
          obtain ⟨f_12, hf_12⟩ : ∃ q : Int → Int, q = (upI (zCopy P2 P i) (i) (P2 (i))) := ⟨_, rfl⟩
          rw [← hf_12] at hnew
          have hP : xP g (M_11, σ.2) H := hP
          have hD : xD g A (M_11, σ.2) := hD
          have hm2 : M_11 (b + 2) = .inl (g.2.1 0, 9, .inl (fun k => iI (f_12 (k : Int)))) := hnew
          have hm0 := (hne (b) (by omega)).trans hm0
          have hm1 := (hne (b + 1) (by omega)).trans hm1
          have hn0 := (hne (b2) (by omega)).trans hn0
          have hn1 := (hne (b2 + 1) (by omega)).trans hn1
          have hn2 := (hne (b2 + 2) (by omega)).trans hn2
          have hfr := x_fr (F := fun j => j ≠ b ∧ j ≠ b + 1 ∧ j ≠ b + 2) hfr hne (fun j h => by have h : j ≠ b ∧ j ≠ b + 1 ∧ j ≠ b + 2 := h; omega)
          refine x_iinc (k0 := 0) (lv' := [(2, .int (iI (i + 1))), (0, .ref (g.2.2 (b))), (1, .ref (g.2.2 (b2)))]) hx hb dX7_become_35 hl rfl (by decide) rfl (fun ls hl => ?_)
          refine lv_goto (tgt := 2) hx hb dX7_become_38 (by decide) ?_
          have hs : f_12 = zCopy P2 P (i + 1) := by rw [hf_12]; exact zCopy_step hi0
          rw [hs] at hm2
          have hs1 : f_10 = zCopy G2 G (i + 1) := by rw [hf_10]; exact zCopy_step hi0
          rw [hs1] at hm1
          exact ih_1 (i + 1) (by omega) (by omega) (by omega) (M_11) _ _ hm0 hm1 hm2 hn0 hn1 hn2 hfr hP hD hS ls (lv_sub hl [0, 1, 2] rfl)
  rw [← zCopy_0 P2 P] at hm2
  rw [← zCopy_0 G2 G] at hm1
  exact hloop_2 ((((9 : Int) - (0)).toNat) + 1) (0) (by omega) (by omega) (by omega) (σ.1) _ _ hm0 hm1 hm2 hn0 hn1 hn2 hfr hP hD hS ls (lv_sub hl [0, 1, 2] rfl)

set_option maxHeartbeats 4000000 in
set_option maxRecDepth 100000 in
theorem c_X7_insert (l : Launch) (g : xG) (σ : xS) (A : Nat → Prop) (b : Nat) (hb3 : b + 2 < xN) (n rd : Int) (P : Int → Int) (G : Int → Option Nat) (hst : StAt g σ.1 b n rd P G) (hok : StOk σ n rd P G) (hH : HsOk σ) (hn8 : n ≤ 8) (k0 : Int) (hk0 : 0 ≤ k0 ∧ k0 ≤ n) (hs : Nat) (ha_hs : hs ∈ σ.2.1) (pu : Int) (hpu : inR pu) : Met l yX7_insert wsX7_insert ({ frames := 1, cells := 0, slots := 0, locals := 32 }) (va_Pc [.ref (g.2.2 (b)), .int (iI (k0)), .ref hs, .int (iI (pu))] (xPreQ g A σ)) (x_Qv g A (fun σ1 => σ1.2 = σ.2 ∧ (∀ j, j ≠ b ∧ j ≠ b + 1 ∧ j ≠ b + 2 → σ1.1 j = σ.1 j) ∧ StAt g σ1.1 b (n + 1) (rd) (upI (zUp P k0 n) k0 pu) (upI (zUp G k0 n) k0 (some hs)))) (0) (0) A := by
  refine Met.ofW (cc := cX7_insert) (maxL := 5) (ret := none) (by decide) rfl ?_
  intro p e s m args below meth c s₁ B hml hv
  obtain ⟨rfl, hP, hK, hD, hA⟩ := hv
  have hx := B.exec
  have hb := B.bytes
  have hr := B.returns
  have hts := atoms_spec (ws := wsX7_insert) B.pre
  have hown : s.vm.findClass RX7 = some m.cls := findClass_of_methodNamed B.named
  have hlocks := B.notSynchronized
  have hS : va_S A s.heap s.heap [] := va_S.rf
  have hfr : ∀ j, (j ≠ b ∧ j ≠ b + 1 ∧ j ≠ b + 2) → σ.1 j = σ.1 j := fun _ _ => rfl
  have hl := lv_entry ([.ref (g.2.2 (b)), .int (iI (k0)), .ref hs, .int (iI (pu))]) (n := 5) (Nat.le_of_ble_eq_true rfl)
  rw [lg_entry_eq]
  generalize (lg_sl ([.ref (g.2.2 (b)), .int (iI (k0)), .ref hs, .int (iI (pu))]) ++ List.replicate (5 - (lg_sl ([.ref (g.2.2 (b)), .int (iI (k0)), .ref hs, .int (iI (pu))])).length) Slot.unset).toArray = ls at hl ⊢
  have hl : lv_has ls 5 [(0, .ref (g.2.2 (b))), (1, .int (iI (k0))), (2, .ref hs), (3, .int (iI (pu)))] := hl
  obtain ⟨hm0, hm1, hm2⟩ := hst
  have hok1 := hok.1
  have hok2 := hok.2.1
  have hok3 := hok.2.2.1
  have hw_0 := hts (.fieldLink RX7 21 "TwiceAsRich$Street" "count" "I") (by decide +kernel)
  have hin_X7 : ∀ w ∈ wsX70, w ∈ wsX7_insert := by decide +kernel
  have hw_2 := hts (.fieldLink RX7 11 "TwiceAsRich$Street" "houses" "[LTwiceAsRich$House;") (by decide +kernel)
  have hw_3 := hts (.fieldLink RX7 17 "TwiceAsRich$Street" "purses" "[I") (by decide +kernel)
  refine lv_iload_n hx hb dX7_insert_0 rfl (lv_at hl 1 rfl) ?_
  refine x_if_lt (tgt := 24) hx hb (by omega) dX7_insert_1 (by decide) (fun c_1 => ?_) (fun c_1 => ?_)
  · exact absurd True.intro (by omega)
  · refine lv_iload_n hx hb dX7_insert_4 rfl (lv_at hl 1 rfl) ?_
    refine lv_aload_n hx hb dX7_insert_5 rfl (lv_at hl 0 rfl) ?_
    refine x_get (C := RX7) (T := TX7) (N := 4) hx hb hts hin_X7 hown hK hP (b) (by omega) hm0 rfl 2 (by decide) hw_0 (fun _ h9 => h9) rfl dX7_insert_6 ?_
    refine x_icmp_gt (tgt := 24) hx hb (by omega) (by omega) dX7_insert_9 (by decide) (fun c_9 => ?_) (fun c_9 => ?_)
    · exact absurd True.intro (by omega)
    · refine lv_aload_n hx hb dX7_insert_12 rfl (lv_at hl 0 rfl) ?_
      refine x_get (C := RX7) (T := TX7) (N := 4) hx hb hts hin_X7 hown hK hP (b) (by omega) hm0 rfl 2 (by decide) hw_0 (fun _ h9 => h9) rfl dX7_insert_13 ?_
      refine lv_aload_n hx hb dX7_insert_16 rfl (lv_at hl 0 rfl) ?_
      refine x_get (C := RX7) (T := TX7) (N := 4) hx hb hts hin_X7 hown hK hP (b) (by omega) hm0 rfl 0 (by decide) hw_2 (fun _ h9 => h9) rfl dX7_insert_17 ?_
      refine x_alen hx hb hK hP (b + 1) 1 (by omega) hm1 rfl dX7_insert_20 ?_
      refine x_icmp_lt (tgt := 25) hx hb (by omega) (by omega) dX7_insert_21 (by decide) (fun c_21 => ?_) (fun c_21 => ?_)
      · refine lv_aload_n hx hb dX7_insert_25 rfl (lv_at hl 0 rfl) ?_
        refine x_get (C := RX7) (T := TX7) (N := 4) hx hb hts hin_X7 hown hK hP (b) (by omega) hm0 rfl 2 (by decide) hw_0 (fun _ h9 => h9) rfl dX7_insert_26 ?_
        refine lv_istore (lv' := [(4, .int (iI (n))), (0, .ref (g.2.2 (b))), (1, .int (iI (k0))), (2, .ref hs), (3, .int (iI (pu)))]) hx hb dX7_insert_29 hl (by decide) rfl (fun ls hl => ?_)
        have hloop_31 : ∀ (k : Nat) (i : Int), (i - k0).toNat < k → (hi0 : k0 ≤ i) → (hin : i ≤ n) → ∀ (M : xM) (H : Heap) (locs : List Loc), (hm0 : M (b) = .inr (7, [.ref (g.2.2 (b + 1)), .ref (g.2.2 (b + 2)), .int (iI (n)), .int (iI (rd))])) → (hm1 : M (b + 1) = .inl (g.2.1 1, 9, .inr (.inr (.inr (.inr (fun k => zUp G i n (k : Int))))))) → (hm2 : M (b + 2) = .inl (g.2.1 0, 9, .inl (fun k => iI (zUp P i n (k : Int))))) → (hfr : ∀ j, (j ≠ b ∧ j ≠ b + 1 ∧ j ≠ b + 2) → M j = σ.1 j) → xP g (M, σ.2) H → xD g A (M, σ.2) → va_S A s.heap H locs → ∀ (ls : Array Slot), lv_has ls 5 [(4, .int (iI (i))), (0, .ref (g.2.2 (b))), (1, .int (iI (k0))), (2, .ref hs), (3, .int (iI (pu)))] → W p l e (headSpec wsX7_insert ({ frames := 1, cells := 0, slots := 0, locals := 32 })).room s m ([.ref (g.2.2 (b)), .int (iI (k0)), .ref hs, .int (iI (pu))] : List Value).toArray below meth c H locs 0 0 (MQ below (x_Qv g A (fun σ1 => σ1.2 = σ.2 ∧ (∀ j, j ≠ b ∧ j ≠ b + 1 ∧ j ≠ b + 2 → σ1.1 j = σ.1 j) ∧ StAt g σ1.1 b (n + 1) (rd) (upI (zUp P k0 n) k0 pu) (upI (zUp G k0 n) k0 (some hs)))) ([.ref (g.2.2 (b)), .int (iI (k0)), .ref hs, .int (iI (pu))] : List Value).toArray s (0) (0) A) (F0 m 31 ls []) := by
          intro k
          induction k with
          | zero =>
            intros; exact absurd (by assumption) (Nat.not_lt_zero _)
          | succ k ih =>
            intro i hmeas hi0 hin M H locs hm0 hm1 hm2 hfr hP hD hS ls hl
            have ih_1 := ih
            refine lv_iload hx hb dX7_insert_31 (lv_at hl 0 rfl) ?_
            refine lv_iload_n hx hb dX7_insert_33 rfl (lv_at hl 2 rfl) ?_
            refine x_icmp_le (tgt := 75) hx hb (by omega) (by omega) dX7_insert_34 (by decide) (fun c_34 => ?_) (fun c_34 => ?_)
            · refine lv_aload_n hx hb dX7_insert_75 rfl (lv_at hl 1 rfl) ?_
              refine x_get (C := RX7) (T := TX7) (N := 4) hx hb hts hin_X7 hown hK hP (b) (by omega) hm0 rfl 0 (by decide) hw_2 (fun _ h9 => h9) rfl dX7_insert_76 ?_
              refine lv_iload_n hx hb dX7_insert_79 rfl (lv_at hl 2 rfl) ?_
              refine lv_aload_n hx hb dX7_insert_80 rfl (lv_at hl 3 rfl) ?_
              refine x_aast (f := zUp G i n) hx hb hK hP hD hS (b + 1) (by omega) hm1 ha_hs (by omega) (by omega) (by decide) dX7_insert_81 (fun M_2 H locs hnew hne hP hD hS => ?_)
              obtain ⟨f_3, hf_3⟩ : ∃ q : Int → Option Nat, q = (upI (zUp G i n) (k0) (some hs)) := ⟨_, rfl⟩
              rw [← hf_3] at hnew
              have hP : xP g (M_2, σ.2) H := hP
              have hD : xD g A (M_2, σ.2) := hD
              have hm1 : M_2 (b + 1) = .inl (g.2.1 1, 9, .inr (.inr (.inr (.inr (fun k => f_3 (k : Int)))))) := hnew
              have hm0 := (hne (b) (by omega)).trans hm0
              have hm2 := (hne (b + 2) (by omega)).trans hm2
              have hfr := x_fr (F := fun j => j ≠ b ∧ j ≠ b + 1 ∧ j ≠ b + 2) hfr hne (fun j h => by have h : j ≠ b ∧ j ≠ b + 1 ∧ j ≠ b + 2 := h; omega)
              refine lv_aload_n hx hb dX7_insert_82 rfl (lv_at hl 1 rfl) ?_
              refine x_get (C := RX7) (T := TX7) (N := 4) hx hb hts hin_X7 hown hK hP (b) (by omega) hm0 rfl 1 (by decide) hw_3 (fun _ h9 => h9) rfl dX7_insert_83 ?_
              refine lv_iload_n hx hb dX7_insert_86 rfl (lv_at hl 2 rfl) ?_
              refine lv_iload_n hx hb dX7_insert_87 rfl (lv_at hl 4 rfl) ?_
              refine x_iast (f := zUp P i n) hx hb hK hP hD hS (b + 2) (by omega) hm2 (by omega) (by omega) (by decide) dX7_insert_88 (fun M_4 H locs hnew hne hP hD hS => ?_)
              obtain ⟨f_5, hf_5⟩ : ∃ q : Int → Int, q = (upI (zUp P i n) (k0) (pu)) := ⟨_, rfl⟩
              rw [← hf_5] at hnew
              have hP : xP g (M_4, σ.2) H := hP
              have hD : xD g A (M_4, σ.2) := hD
              have hm2 : M_4 (b + 2) = .inl (g.2.1 0, 9, .inl (fun k => iI (f_5 (k : Int)))) := hnew
              have hm0 := (hne (b) (by omega)).trans hm0
              have hm1 := (hne (b + 1) (by omega)).trans hm1
              have hfr := x_fr (F := fun j => j ≠ b ∧ j ≠ b + 1 ∧ j ≠ b + 2) hfr hne (fun j h => by have h : j ≠ b ∧ j ≠ b + 1 ∧ j ≠ b + 2 := h; omega)
              refine lv_aload_n hx hb dX7_insert_89 rfl (lv_at hl 1 rfl) ?_
              refine lv_dup hx hb dX7_insert_90 rfl ?_
              refine x_get (C := RX7) (T := TX7) (N := 4) hx hb hts hin_X7 hown hK hP (b) (by omega) hm0 rfl 2 (by decide) hw_0 (fun _ h9 => h9) rfl dX7_insert_91 ?_
              refine x_iconst hx hb dX7_insert_94 ?_
              refine x_iadd hx hb dX7_insert_95 ?_
              refine x_put (C := RX7) (T := TX7) (N := 4) (ty := .int) hx hb hts hin_X7 hown hK hP hD hS (b) (by omega) hm0 rfl tyX7 tyX7_ok nmX7 2 (by decide) hw_0 (fun _ h9 => h9) rfl (by decide +kernel) rfl rfl (Nat.le_of_ble_eq_true rfl) dX7_insert_96 (fun M_6 H locs hnew hne hP hD hS => ?_)
              have hP : xP g (M_6, σ.2) H := hP
              have hD : xD g A (M_6, σ.2) := hD
              have hm0 : M_6 (b) = .inr (7, [.ref (g.2.2 (b + 1)), .ref (g.2.2 (b + 2)), .int (iI (n + 1)), .int (iI (rd))]) := hnew
              have hm1 := (hne (b + 1) (by omega)).trans hm1
              have hm2 := (hne (b + 2) (by omega)).trans hm2
              have hfr := x_fr (F := fun j => j ≠ b ∧ j ≠ b + 1 ∧ j ≠ b + 2) hfr hne (fun j h => by have h : j ≠ b ∧ j ≠ b + 1 ∧ j ≠ b + 2 := h; omega)
              refine x_retQv hx hb hr ?_ hP hD hS dX7_insert_99 hlocks
              refine ⟨rfl, hfr, ?_⟩
              have e : i = k0 := by omega
              subst e
              have e1 : f_5 = upI (zUp P i n) i pu := by subst_vars; rfl
              have e2 : f_3 = upI (zUp G i n) i (some hs) := by subst_vars; rfl
              rw [← e1, ← e2]
              exact ⟨hm0, hm1, hm2⟩
            · refine lv_aload_n hx hb dX7_insert_37 rfl (lv_at hl 1 rfl) ?_
              refine x_get (C := RX7) (T := TX7) (N := 4) hx hb hts hin_X7 hown hK hP (b) (by omega) hm0 rfl 0 (by decide) hw_2 (fun _ h9 => h9) rfl dX7_insert_38 ?_
              refine lv_iload hx hb dX7_insert_41 (lv_at hl 0 rfl) ?_
              refine lv_aload_n hx hb dX7_insert_43 rfl (lv_at hl 1 rfl) ?_
              refine x_get (C := RX7) (T := TX7) (N := 4) hx hb hts hin_X7 hown hK hP (b) (by omega) hm0 rfl 0 (by decide) hw_2 (fun _ h9 => h9) rfl dX7_insert_44 ?_
              refine lv_iload hx hb dX7_insert_47 (lv_at hl 0 rfl) ?_
              refine x_iconst hx hb dX7_insert_49 ?_
              refine x_isub hx hb dX7_insert_50 ?_
              obtain ⟨a_7, hG_a_7⟩ := (hok.2.2.2.2.2 (i - 1) (by omega) (by omega)).1
              have ha_a_7 := hok.2.2.2.2.1 _ _ hG_a_7
              rw [← zUp_rd (f := G) (k := i) (n := n)] at hG_a_7
              refine x_aaldS (C := RX3) (f := zUp G i n) 1 hx hb hK hP (b + 1) (by omega) hm1 rfl (by omega) (by omega) (by decide) hG_a_7 dX7_insert_51 ?_
              refine x_aast (f := zUp G i n) hx hb hK hP hD hS (b + 1) (by omega) hm1 ha_a_7 (by omega) (by omega) (by decide) dX7_insert_52 (fun M_8 H locs hnew hne hP hD hS => ?_)
              rw [← hG_a_7] at hnew
              obtain ⟨f_9, hf_9⟩ : ∃ q : Int → Option Nat, q = (upI (zUp G i n) (i) ((zUp G i n) (i - 1))) := ⟨_, rfl⟩
              rw [← hf_9] at hnew
              have hP : xP g (M_8, σ.2) H := hP
              have hD : xD g A (M_8, σ.2) := hD
              have hm1 : M_8 (b + 1) = .inl (g.2.1 1, 9, .inr (.inr (.inr (.inr (fun k => f_9 (k : Int)))))) := hnew
              have hm0 := (hne (b) (by omega)).trans hm0
              have hm2 := (hne (b + 2) (by omega)).trans hm2
              have hfr := x_fr (F := fun j => j ≠ b ∧ j ≠ b + 1 ∧ j ≠ b + 2) hfr hne (fun j h => by have h : j ≠ b ∧ j ≠ b + 1 ∧ j ≠ b + 2 := h; omega)
              refine lv_aload_n hx hb dX7_insert_53 rfl (lv_at hl 1 rfl) ?_
              refine x_get (C := RX7) (T := TX7) (N := 4) hx hb hts hin_X7 hown hK hP (b) (by omega) hm0 rfl 1 (by decide) hw_3 (fun _ h9 => h9) rfl dX7_insert_54 ?_
              refine lv_iload hx hb dX7_insert_57 (lv_at hl 0 rfl) ?_
              refine lv_aload_n hx hb dX7_insert_59 rfl (lv_at hl 1 rfl) ?_
              refine x_get (C := RX7) (T := TX7) (N := 4) hx hb hts hin_X7 hown hK hP (b) (by omega) hm0 rfl 1 (by decide) hw_3 (fun _ h9 => h9) rfl dX7_insert_60 ?_
              refine lv_iload hx hb dX7_insert_63 (lv_at hl 0 rfl) ?_
              refine x_iconst hx hb dX7_insert_65 ?_
              refine x_isub hx hb dX7_insert_66 ?_
              refine x_iald (f := zUp P i n) hx hb hK hP (b + 2) (by omega) hm2 (by omega) (by omega) (by decide) dX7_insert_67 ?_
              have hz2 := zUp_rd (f := P) (k := i) (n := n)
              refine x_iast (f := zUp P i n) hx hb hK hP hD hS (b + 2) (by omega) hm2 (by omega) (by omega) (by decide) dX7_insert_68 (fun M_11 H locs hnew hne hP hD hS => ?_)
              obtain ⟨f_12, hf_12⟩ : ∃ q : Int → Int, q = (upI (zUp P i n) (i) ((zUp P i n) (i - 1))) := ⟨_, rfl⟩
              rw [← hf_12] at hnew
              have hP : xP g (M_11, σ.2) H := hP
              have hD : xD g A (M_11, σ.2) := hD
              have hm2 : M_11 (b + 2) = .inl (g.2.1 0, 9, .inl (fun k => iI (f_12 (k : Int)))) := hnew
              have hm0 := (hne (b) (by omega)).trans hm0
              have hm1 := (hne (b + 1) (by omega)).trans hm1
              have hfr := x_fr (F := fun j => j ≠ b ∧ j ≠ b + 1 ∧ j ≠ b + 2) hfr hne (fun j h => by have h : j ≠ b ∧ j ≠ b + 1 ∧ j ≠ b + 2 := h; omega)
              refine x_iinc (k0 := 0) (lv' := [(4, .int (iI (i + (-1)))), (0, .ref (g.2.2 (b))), (1, .int (iI (k0))), (2, .ref hs), (3, .int (iI (pu)))]) hx hb dX7_insert_69 hl rfl (by decide) rfl (fun ls hl => ?_)
              refine lv_goto (tgt := 31) hx hb dX7_insert_72 (by decide) ?_
              have hs : f_12 = zUp P (i - 1) n := by rw [hf_12, zUp_rd]; exact zUp_step hin
              rw [hs] at hm2
              have hs1 : f_9 = zUp G (i - 1) n := by rw [hf_9, zUp_rd]; exact zUp_step hin
              rw [hs1] at hm1
              exact ih_1 (i - 1) (by omega) (by omega) (by omega) (M_11) _ _ hm0 hm1 hm2 hfr hP hD hS ls (lv_sub hl [0, 1, 2, 3, 4] rfl)
        rw [← zUp_0 P n] at hm2
        rw [← zUp_0 G n] at hm1
        exact hloop_31 ((((n) - k0).toNat) + 1) (n) (by omega) (by omega) (by omega) (σ.1) _ _ hm0 hm1 hm2 hfr hP hD hS ls (lv_sub hl [0, 1, 2, 3, 4] rfl)
      · exact absurd True.intro (by omega)

set_option maxHeartbeats 4000000 in
set_option maxRecDepth 100000 in
theorem c_X7_remove (l : Launch) (g : xG) (σ : xS) (A : Nat → Prop) (b : Nat) (hb3 : b + 2 < xN) (n rd : Int) (P : Int → Int) (G : Int → Option Nat) (hst : StAt g σ.1 b n rd P G) (hok : StOk σ n rd P G) (hH : HsOk σ) (k0 : Int) (hk0 : 0 ≤ k0 ∧ k0 < n) : Met l yX7_remove wsX7_remove ({ frames := 2, cells := 0, slots := 0, locals := 64 }) (va_Pc [.ref (g.2.2 (b)), .int (iI (k0))] (xPreQ g A σ)) (x_Qv g A (fun σ1 => σ1.2 = σ.2 ∧ (∀ j, j ≠ b ∧ j ≠ b + 1 ∧ j ≠ b + 2 → σ1.1 j = σ.1 j) ∧ StAt g σ1.1 b (n - 1) (rd) (zDown P k0 (n - 1)) (zDown G k0 (n - 1)))) (0) (0) A := by
  refine Met.ofW (cc := cX7_remove) (maxL := 3) (ret := none) (by decide) rfl ?_
  intro p e s m args below meth c s₁ B hml hv
  obtain ⟨rfl, hP, hK, hD, hA⟩ := hv
  have hx := B.exec
  have hb := B.bytes
  have hr := B.returns
  have hts := atoms_spec (ws := wsX7_remove) B.pre
  have hown : s.vm.findClass RX7 = some m.cls := findClass_of_methodNamed B.named
  have hlocks := B.notSynchronized
  have hS : va_S A s.heap s.heap [] := va_S.rf
  have hfr : ∀ j, (j ≠ b ∧ j ≠ b + 1 ∧ j ≠ b + 2) → σ.1 j = σ.1 j := fun _ _ => rfl
  have hl := lv_entry ([.ref (g.2.2 (b)), .int (iI (k0))]) (n := 3) (Nat.le_of_ble_eq_true rfl)
  rw [lg_entry_eq]
  generalize (lg_sl ([.ref (g.2.2 (b)), .int (iI (k0))]) ++ List.replicate (3 - (lg_sl ([.ref (g.2.2 (b)), .int (iI (k0))])).length) Slot.unset).toArray = ls at hl ⊢
  have hl : lv_has ls 3 [(0, .ref (g.2.2 (b))), (1, .int (iI (k0)))] := hl
  obtain ⟨hm0, hm1, hm2⟩ := hst
  have hok1 := hok.1
  have hok2 := hok.2.1
  have hok3 := hok.2.2.1
  have hw_0 := hts (.fieldLink RX7 21 "TwiceAsRich$Street" "count" "I") (by decide +kernel)
  have hin_X7 : ∀ w ∈ wsX70, w ∈ wsX7_remove := by decide +kernel
  have hw_2 := hts (.fieldLink RX7 11 "TwiceAsRich$Street" "houses" "[LTwiceAsRich$House;") (by decide +kernel)
  have hw_3 := hts (.fieldLink RX7 17 "TwiceAsRich$Street" "purses" "[I") (by decide +kernel)
  refine lv_aload_n hx hb dX7_remove_0 rfl (lv_at hl 0 rfl) ?_
  refine lv_iload_n hx hb dX7_remove_1 rfl (lv_at hl 1 rfl) ?_
  refine x_ci (va_runV (As := [.int (iI (k0))]) (rest := []) ⟨hx, hb, hml, hown, hts⟩ (c_X7_has l g σ (b) hb3 (n) (rd) P G ⟨hm0, hm1, hm2⟩ hok hH (k0) (by omega)) (cwV 1 hts gX7_remove_X7_has rfl rfl rfl (by decide +kernel) ⟨Nat.le_of_ble_eq_true rfl, Nat.le_of_ble_eq_true rfl⟩) (x_preV hK hP (x_recv hK hP (i := b) (by omega) hm0 rfl)) rfl rfl hl.1 rfl (lv_room (Nat.le_of_ble_eq_true rfl)) dX7_remove_2 ⟨Nat.le_of_ble_eq_true rfl, Nat.le_of_ble_eq_true rfl⟩) (fun r_2 hr_2 qr_2 => ?_)
  replace qr_2 : (r_2 = 1 ∧ 0 ≤ (k0) ∧ (k0) < (n)) ∨ (r_2 = 0 ∧ ¬ (0 ≤ (k0) ∧ (k0) < (n))) := qr_2
  refine x_if_ne (tgt := 9) hx hb (by omega) dX7_remove_5 (by decide) (fun c_5 => ?_) (fun c_5 => ?_)
  · refine lv_iload_n hx hb dX7_remove_9 rfl (lv_at hl 1 rfl) ?_
    refine lv_istore_n (lv' := [(2, .int (iI (k0))), (0, .ref (g.2.2 (b))), (1, .int (iI (k0)))]) hx hb dX7_remove_10 rfl hl (by decide) rfl (fun ls hl => ?_)
    have hloop_11 : ∀ (k : Nat) (i : Int), (n - 1 - i).toNat < k → (hi0 : k0 ≤ i) → (hin : i ≤ n - 1) → ∀ (M : xM) (H : Heap) (locs : List Loc), (hm0 : M (b) = .inr (7, [.ref (g.2.2 (b + 1)), .ref (g.2.2 (b + 2)), .int (iI (n)), .int (iI (rd))])) → (hm1 : M (b + 1) = .inl (g.2.1 1, 9, .inr (.inr (.inr (.inr (fun k => zDown G k0 i (k : Int))))))) → (hm2 : M (b + 2) = .inl (g.2.1 0, 9, .inl (fun k => iI (zDown P k0 i (k : Int))))) → (hfr : ∀ j, (j ≠ b ∧ j ≠ b + 1 ∧ j ≠ b + 2) → M j = σ.1 j) → xP g (M, σ.2) H → xD g A (M, σ.2) → va_S A s.heap H locs → ∀ (ls : Array Slot), lv_has ls 3 [(2, .int (iI (i))), (0, .ref (g.2.2 (b))), (1, .int (iI (k0)))] → W p l e (headSpec wsX7_remove ({ frames := 2, cells := 0, slots := 0, locals := 64 })).room s m ([.ref (g.2.2 (b)), .int (iI (k0))] : List Value).toArray below meth c H locs 0 0 (MQ below (x_Qv g A (fun σ1 => σ1.2 = σ.2 ∧ (∀ j, j ≠ b ∧ j ≠ b + 1 ∧ j ≠ b + 2 → σ1.1 j = σ.1 j) ∧ StAt g σ1.1 b (n - 1) (rd) (zDown P k0 (n - 1)) (zDown G k0 (n - 1)))) ([.ref (g.2.2 (b)), .int (iI (k0))] : List Value).toArray s (0) (0) A) (F0 m 11 ls []) := by
      intro k
      induction k with
      | zero =>
        intros; exact absurd (by assumption) (Nat.not_lt_zero _)
      | succ k ih =>
        intro i hmeas hi0 hin M H locs hm0 hm1 hm2 hfr hP hD hS ls hl
        have ih_1 := ih
        refine lv_iload_n hx hb dX7_remove_11 rfl (lv_at hl 0 rfl) ?_
        refine lv_aload_n hx hb dX7_remove_12 rfl (lv_at hl 1 rfl) ?_
        refine x_get (C := RX7) (T := TX7) (N := 4) hx hb hts hin_X7 hown hK hP (b) (by omega) hm0 rfl 2 (by decide) hw_0 (fun _ h9 => h9) rfl dX7_remove_13 ?_
        refine x_iconst hx hb dX7_remove_16 ?_
        refine x_isub hx hb dX7_remove_17 ?_
        refine x_icmp_ge (tgt := 55) hx hb (by omega) (by omega) dX7_remove_18 (by decide) (fun c_18 => ?_) (fun c_18 => ?_)
        · refine lv_aload_n hx hb dX7_remove_55 rfl (lv_at hl 1 rfl) ?_
          refine lv_dup hx hb dX7_remove_56 rfl ?_
          refine x_get (C := RX7) (T := TX7) (N := 4) hx hb hts hin_X7 hown hK hP (b) (by omega) hm0 rfl 2 (by decide) hw_0 (fun _ h9 => h9) rfl dX7_remove_57 ?_
          refine x_iconst hx hb dX7_remove_60 ?_
          refine x_isub hx hb dX7_remove_61 ?_
          refine x_put (C := RX7) (T := TX7) (N := 4) (ty := .int) hx hb hts hin_X7 hown hK hP hD hS (b) (by omega) hm0 rfl tyX7 tyX7_ok nmX7 2 (by decide) hw_0 (fun _ h9 => h9) rfl (by decide +kernel) rfl rfl (Nat.le_of_ble_eq_true rfl) dX7_remove_62 (fun M_2 H locs hnew hne hP hD hS => ?_)
          have hP : xP g (M_2, σ.2) H := hP
          have hD : xD g A (M_2, σ.2) := hD
          have hm0 : M_2 (b) = .inr (7, [.ref (g.2.2 (b + 1)), .ref (g.2.2 (b + 2)), .int (iI (n - 1)), .int (iI (rd))]) := hnew
          have hm1 := (hne (b + 1) (by omega)).trans hm1
          have hm2 := (hne (b + 2) (by omega)).trans hm2
          have hfr := x_fr (F := fun j => j ≠ b ∧ j ≠ b + 1 ∧ j ≠ b + 2) hfr hne (fun j h => by have h : j ≠ b ∧ j ≠ b + 1 ∧ j ≠ b + 2 := h; omega)
          refine x_retQv hx hb hr ?_ hP hD hS dX7_remove_65 hlocks
          refine ⟨rfl, hfr, ?_⟩
          have e : i = n - 1 := by omega
          rw [e] at hm1 hm2
          exact ⟨hm0, hm1, hm2⟩
        · refine lv_aload_n hx hb dX7_remove_21 rfl (lv_at hl 1 rfl) ?_
          refine x_get (C := RX7) (T := TX7) (N := 4) hx hb hts hin_X7 hown hK hP (b) (by omega) hm0 rfl 0 (by decide) hw_2 (fun _ h9 => h9) rfl dX7_remove_22 ?_
          refine lv_iload_n hx hb dX7_remove_25 rfl (lv_at hl 0 rfl) ?_
          refine lv_aload_n hx hb dX7_remove_26 rfl (lv_at hl 1 rfl) ?_
          refine x_get (C := RX7) (T := TX7) (N := 4) hx hb hts hin_X7 hown hK hP (b) (by omega) hm0 rfl 0 (by decide) hw_2 (fun _ h9 => h9) rfl dX7_remove_27 ?_
          refine lv_iload_n hx hb dX7_remove_30 rfl (lv_at hl 0 rfl) ?_
          refine x_iconst hx hb dX7_remove_31 ?_
          refine x_iadd hx hb dX7_remove_32 ?_
          obtain ⟨a_3, hG_a_3⟩ := (hok.2.2.2.2.2 (i + 1) (by omega) (by omega)).1
          have ha_a_3 := hok.2.2.2.2.1 _ _ hG_a_3
          rw [← zDown_rd (f := G) (a := k0) (k := i)] at hG_a_3
          refine x_aaldS (C := RX3) (f := zDown G k0 i) 1 hx hb hK hP (b + 1) (by omega) hm1 rfl (by omega) (by omega) (by decide) hG_a_3 dX7_remove_33 ?_
          refine x_aast (f := zDown G k0 i) hx hb hK hP hD hS (b + 1) (by omega) hm1 ha_a_3 (by omega) (by omega) (by decide) dX7_remove_34 (fun M_4 H locs hnew hne hP hD hS => ?_)
          rw [← hG_a_3] at hnew
          obtain ⟨f_5, hf_5⟩ : ∃ q : Int → Option Nat, q = (upI (zDown G k0 i) (i) ((zDown G k0 i) (i + 1))) := ⟨_, rfl⟩
          rw [← hf_5] at hnew
          have hP : xP g (M_4, σ.2) H := hP
          have hD : xD g A (M_4, σ.2) := hD
          have hm1 : M_4 (b + 1) = .inl (g.2.1 1, 9, .inr (.inr (.inr (.inr (fun k => f_5 (k : Int)))))) := hnew
          have hm0 := (hne (b) (by omega)).trans hm0
          have hm2 := (hne (b + 2) (by omega)).trans hm2
          have hfr := x_fr (F := fun j => j ≠ b ∧ j ≠ b + 1 ∧ j ≠ b + 2) hfr hne (fun j h => by have h : j ≠ b ∧ j ≠ b + 1 ∧ j ≠ b + 2 := h; omega)
          refine lv_aload_n hx hb dX7_remove_35 rfl (lv_at hl 1 rfl) ?_
          refine x_get (C := RX7) (T := TX7) (N := 4) hx hb hts hin_X7 hown hK hP (b) (by omega) hm0 rfl 1 (by decide) hw_3 (fun _ h9 => h9) rfl dX7_remove_36 ?_
          refine lv_iload_n hx hb dX7_remove_39 rfl (lv_at hl 0 rfl) ?_
          refine lv_aload_n hx hb dX7_remove_40 rfl (lv_at hl 1 rfl) ?_
          refine x_get (C := RX7) (T := TX7) (N := 4) hx hb hts hin_X7 hown hK hP (b) (by omega) hm0 rfl 1 (by decide) hw_3 (fun _ h9 => h9) rfl dX7_remove_41 ?_
          refine lv_iload_n hx hb dX7_remove_44 rfl (lv_at hl 0 rfl) ?_
          refine x_iconst hx hb dX7_remove_45 ?_
          refine x_iadd hx hb dX7_remove_46 ?_
          refine x_iald (f := zDown P k0 i) hx hb hK hP (b + 2) (by omega) hm2 (by omega) (by omega) (by decide) dX7_remove_47 ?_
          refine x_iast (f := zDown P k0 i) hx hb hK hP hD hS (b + 2) (by omega) hm2 (by omega) (by omega) (by decide) dX7_remove_48 (fun M_6 H locs hnew hne hP hD hS => ?_)
          obtain ⟨f_7, hf_7⟩ : ∃ q : Int → Int, q = (upI (zDown P k0 i) (i) ((zDown P k0 i) (i + 1))) := ⟨_, rfl⟩
          rw [← hf_7] at hnew
          have hP : xP g (M_6, σ.2) H := hP
          have hD : xD g A (M_6, σ.2) := hD
          have hm2 : M_6 (b + 2) = .inl (g.2.1 0, 9, .inl (fun k => iI (f_7 (k : Int)))) := hnew
          have hm0 := (hne (b) (by omega)).trans hm0
          have hm1 := (hne (b + 1) (by omega)).trans hm1
          have hfr := x_fr (F := fun j => j ≠ b ∧ j ≠ b + 1 ∧ j ≠ b + 2) hfr hne (fun j h => by have h : j ≠ b ∧ j ≠ b + 1 ∧ j ≠ b + 2 := h; omega)
          refine x_iinc (k0 := 0) (lv' := [(2, .int (iI (i + 1))), (0, .ref (g.2.2 (b))), (1, .int (iI (k0)))]) hx hb dX7_remove_49 hl rfl (by decide) rfl (fun ls hl => ?_)
          refine lv_goto (tgt := 11) hx hb dX7_remove_52 (by decide) ?_
          have hs : f_7 = zDown P k0 (i + 1) := by rw [hf_7, zDown_rd]; exact zDown_step hi0
          rw [hs] at hm2
          have hs1 : f_5 = zDown G k0 (i + 1) := by rw [hf_5, zDown_rd]; exact zDown_step hi0
          rw [hs1] at hm1
          exact ih_1 (i + 1) (by omega) (by omega) (by omega) (M_6) _ _ hm0 hm1 hm2 hfr hP hD hS ls (lv_sub hl [0, 1, 2] rfl)
    rw [← zDown_0 P k0] at hm2
    rw [← zDown_0 G k0] at hm1
    exact hloop_11 (((n - 1 - (k0)).toNat) + 1) (k0) (by omega) (by omega) (by omega) (σ.1) _ _ hm0 hm1 hm2 hfr hP hD hS ls (lv_sub hl [0, 1, 2] rfl)
  · exact absurd True.intro (by omega)
