theorem StOk_gift {σ : xS} {n rd i j c : Int} {P : Int → Int} {G : Int → Option Nat} (h : StOk σ n rd P G) : StOk σ n rd (if zGiftR P n i j c = 0 then zGift P i j c else P) G := by
  split
  · rename_i h0
    have z := zGiftR_0 rfl h0
    have pi := (h.2.2.2.2.2 i (by omega) (by omega)).2
    have pj := (h.2.2.2.2.2 j (by omega) (by omega)).2
    unfold zGift
    rw [upI_n (by omega)]
    exact StOk_purse (StOk_purse h (by omega)) (by omega)
  · exact h
theorem StOk_earn {σ : xS} {n rd w : Int} {P : Int → Int} {G : Int → Option Nat} (hH : HsOk σ) (h : StOk σ n rd P G) (hw : 1 ≤ w ∧ w ≤ 99) : StOk σ n rd (zCopy (fun i => min 9999 (P i + w * zWeek (sK σ G i) (sF σ G i))) P n) G := by
  obtain ⟨a1, a2, a3, a4, a5, a6⟩ := h
  have hb : ∀ i, 0 ≤ i → i < n → 0 ≤ min 9999 (P i + w * zWeek (sK σ G i) (sF σ G i)) ∧ min 9999 (P i + w * zWeek (sK σ G i) (sF σ G i)) ≤ 9999 := fun i h0 h1 => by
    obtain ⟨⟨b, hb⟩, h2, h3⟩ := a6 i h0 h1
    have hf : sF σ G i = σ.2.2.2 b := by simp only [sF, fgO, hb]
    have hz := zWeek_rng (sK σ G i) (f := sF σ G i) (by rw [hf]; exact (hH b (a5 _ _ hb)).2)
    have hm := zMulB w _ ⟨by omega, by omega⟩ hz
    omega
  refine ⟨a1, a2, a3, fun i => ?_, a5, fun i h0 h1 => ⟨(a6 i h0 h1).1, ?_⟩⟩
  · unfold zCopy
    by_cases q : 0 ≤ i ∧ i < n
    · rw [if_pos q]
      have := hb i q.1 q.2
      show inR (min 9999 (P i + w * zWeek (sK σ G i) (sF σ G i)))
      exact ⟨by omega, by omega⟩
    · rw [if_neg q]; exact a4 i
  · rw [zCopy_in h0 h1]; exact hb i h0 h1
theorem zWorth_cls {σ : xS} {G Gm : Int → Option Nat} {P Pm : Int → Int} {n rd h pu : Int} {ph : Nat} (h0 : 0 ≤ h) (h1 : h < n) (hn : n ≤ 8) (hk : σ.2.2.1 ph = 0) (hf : σ.2.2.2 ph = 0) : zMost (sK σ (upI (zUp (zCopy G Gm 9) (h + 1) n) (h + 1) (some ph))) (sF σ (upI (zUp (zCopy G Gm 9) (h + 1) n) (h + 1) (some ph))) (upI (zUp (zCopy P Pm 9) (h + 1) n) (h + 1) pu) (n + 1) rd h = zMost (zIn (sK σ G) (h + 1) 0) (zIn (sF σ G) (h + 1) 0) (zIn P (h + 1) pu) (n + 1) rd h := by
  have z := zSame_copy (σ := σ) (G := G) (Gm := Gm) (P := P) (Pm := Pm) (n := n) (by omega)
  refine zMost_congr (fun i a b => ?_) ⟨h0, by omega⟩
  unfold sK sF zIn upI zUp
  by_cases q : i = h + 1
  · have q2 : ¬ i < h + 1 := by omega
    simp only [if_pos q, if_neg q2]
    exact ⟨hk, hf, trivial⟩
  · by_cases q3 : i < h + 1
    · have q2 : ¬ (h + 1 < i ∧ i ≤ n) := by omega
      simp only [if_neg q, if_neg q2, if_pos q3]
      exact z i a (by omega)
    · have q2 : h + 1 < i ∧ i ≤ n := by omega
      simp only [if_neg q, if_pos q2, if_neg q3]
      exact z (i - 1) (by omega) (by omega)
theorem zFit_cls {σ : xS} {G Gm : Int → Option Nat} {P Pm : Int → Int} {n rd h v : Int} (hn : n ≤ 9) : zAll (sK σ (zCopy G Gm 9)) (sF σ (zCopy G Gm 9)) (upI (zCopy P Pm 9) h v) n rd = zAll (sK σ G) (sF σ G) (upI P h v) n rd := by
  have z := zSame_copy (σ := σ) (G := G) (Gm := Gm) (P := P) (Pm := Pm) (n := n) (by omega)
  refine zAll_congr (fun i a b => ⟨(z i a b).1, (z i a b).2.1, ?_⟩)
  unfold upI; split
  · rfl
  · exact (z i a b).2.2

set_option maxHeartbeats 4000000 in
set_option maxRecDepth 100000 in
theorem c_X11_round (l : Launch) (g : xG) (σ : xS) (A : Nat → Prop) (ph : Nat) (tk : Int) (hx0 : XObj g σ.1 ph tk) (n rd : Int) (P : Int → Int) (G : Int → Option Nat) (hst : StAt g σ.1 1 n rd P G) (hok : StOk σ n rd P G) (hH : HsOk σ) (v : Int) (hv : inR v) : Met l yX11_round wsX11_round ({ frames := 1, cells := 0, slots := 0, locals := 32 }) (va_Pc [.ref (g.2.2 0), .int (iI (v))] (xPreQ g A σ)) (x_Qi g A (fun r σ1 => σ1.2 = σ.2 ∧ (∀ j, j ≠ 1 ∧ j ≠ 2 ∧ j ≠ 3 → σ1.1 j = σ.1 j) ∧ ((¬ (v = 0 ∨ v = 1) ∧ r = -1 ∧ StAt g σ1.1 1 (n) (rd) (P) (G)) ∨ ((v = 0 ∨ v = 1) ∧ r = rd ∧ StAt g σ1.1 1 (n) (v) (P) (G))))) (0) (0) A := by
  refine Met.ofW (cc := cX11_round) (maxL := 3) (ret := (some .int)) (by decide) rfl ?_
  intro p e s m args below meth c s₁ B hml hv
  obtain ⟨rfl, hP, hK, hD, hA⟩ := hv
  have hx := B.exec
  have hb := B.bytes
  have hr := B.returns
  have hts := atoms_spec (ws := wsX11_round) B.pre
  have hown : s.vm.findClass RX11 = some m.cls := findClass_of_methodNamed B.named
  have hlocks := B.notSynchronized
  have hS : va_S A s.heap s.heap [] := va_S.rf
  have hfr : ∀ j, (j ≠ 1 ∧ j ≠ 2 ∧ j ≠ 3) → σ.1 j = σ.1 j := fun _ _ => rfl
  have hl := lv_entry ([.ref (g.2.2 0), .int (iI (v))]) (n := 3) (Nat.le_of_ble_eq_true rfl)
  rw [lg_entry_eq]
  generalize (lg_sl ([.ref (g.2.2 0), .int (iI (v))]) ++ List.replicate (3 - (lg_sl ([.ref (g.2.2 0), .int (iI (v))])).length) Slot.unset).toArray = ls at hl ⊢
  have hl : lv_has ls 3 [(0, .ref (g.2.2 0)), (1, .int (iI (v)))] := hl
  have hm0 : σ.1 1 = .inr (7, [.ref (g.2.2 2), .ref (g.2.2 3), .int (iI n), .int (iI rd)]) := hst.1
  have hm1 : MRef g σ.1 2 9 G := hst.2.1
  have hm2 : MArr g σ.1 3 9 P := hst.2.2
  have hok1 := hok.1
  have hok2 := hok.2.1
  have hok3 := hok.2.2.1
  have hw_0 := hts (.fieldLink RX11 10 "TwiceAsRich" "street" "LTwiceAsRich$Street;") (by decide +kernel)
  have hin_X11 : ∀ w ∈ wsX110, w ∈ wsX11_round := by decide +kernel
  have hw_2 := hts (.fieldLink RX11 133 "TwiceAsRich$Street" "round" "I") (by decide +kernel)
  have hin_X7 : ∀ w ∈ wsX70, w ∈ wsX11_round := by decide +kernel
  refine lv_iload_n hx hb dX11_round_0 rfl (lv_at hl 1 rfl) ?_
  refine x_if_eq (tgt := 11) hx hb (by omega) dX11_round_1 (by decide) (fun c_1 => ?_) (fun c_1 => ?_)
  · refine lv_aload_n hx hb dX11_round_11 rfl (lv_at hl 0 rfl) ?_
    refine x_get (C := RX11) (T := TX11) (N := 11) hx hb hts hin_X11 hown hK hP (0) (by decide) hx0 rfl 0 (by decide) hw_0 (fun _ h9 => h9) rfl dX11_round_12 ?_
    refine x_get (C := RX7) (T := TX7) (N := 4) hx hb hts hin_X7 hown hK hP (1) (by decide) hm0 rfl 3 (by decide) hw_2 (fun _ h9 => h9) rfl dX11_round_15 ?_
    refine lv_istore_n (lv' := [(2, .int (iI (rd))), (0, .ref (g.2.2 0)), (1, .int (iI (v)))]) hx hb dX11_round_18 rfl hl (by decide) rfl (fun ls hl => ?_)
    refine lv_aload_n hx hb dX11_round_19 rfl (lv_at hl 1 rfl) ?_
    refine x_get (C := RX11) (T := TX11) (N := 11) hx hb hts hin_X11 hown hK hP (0) (by decide) hx0 rfl 0 (by decide) hw_0 (fun _ h9 => h9) rfl dX11_round_20 ?_
    refine lv_iload_n hx hb dX11_round_23 rfl (lv_at hl 2 rfl) ?_
    refine x_put (C := RX7) (T := TX7) (N := 4) (ty := .int) hx hb hts hin_X7 hown hK hP hD hS (1) (by decide) hm0 rfl tyX7 tyX7_ok nmX7 3 (by decide) hw_2 (fun _ h9 => h9) rfl (by decide +kernel) rfl rfl (Nat.le_of_ble_eq_true rfl) dX11_round_24 (fun M_1 H locs hnew hne hP hD hS => ?_)
    have hP : xP g (M_1, σ.2) H := hP
    have hD : xD g A (M_1, σ.2) := hD
    have hm0 : M_1 (1) = .inr (7, [.ref (g.2.2 2), .ref (g.2.2 3), .int (iI (n)), .int (iI (v))]) := hnew
    have hx0 := (hne (0) (by decide)).trans hx0
    have hm1 := (hne (2) (by decide)).trans hm1
    have hm2 := (hne (3) (by decide)).trans hm2
    have hfr := x_fr (F := fun j => j ≠ 1 ∧ j ≠ 2 ∧ j ≠ 3) hfr hne (fun j h => by have h : j ≠ 1 ∧ j ≠ 2 ∧ j ≠ 3 := h; omega)
    refine lv_iload_n hx hb dX11_round_27 rfl (lv_at hl 0 rfl) ?_
    refine x_retQ hx hb hr (by omega) ?_ hP hD hS dX11_round_28 hlocks
    exact ⟨rfl, hfr, Or.inr ⟨by omega, rfl, hm0, hm1, hm2⟩⟩
  · refine lv_iload_n hx hb dX11_round_4 rfl (lv_at hl 1 rfl) ?_
    refine x_iconst hx hb dX11_round_5 ?_
    refine x_icmp_eq (tgt := 11) hx hb (by omega) (by omega) dX11_round_6 (by decide) (fun c_6 => ?_) (fun c_6 => ?_)
    · refine lv_aload_n hx hb dX11_round_11 rfl (lv_at hl 0 rfl) ?_
      refine x_get (C := RX11) (T := TX11) (N := 11) hx hb hts hin_X11 hown hK hP (0) (by decide) hx0 rfl 0 (by decide) hw_0 (fun _ h9 => h9) rfl dX11_round_12 ?_
      refine x_get (C := RX7) (T := TX7) (N := 4) hx hb hts hin_X7 hown hK hP (1) (by decide) hm0 rfl 3 (by decide) hw_2 (fun _ h9 => h9) rfl dX11_round_15 ?_
      refine lv_istore_n (lv' := [(2, .int (iI (rd))), (0, .ref (g.2.2 0)), (1, .int (iI (v)))]) hx hb dX11_round_18 rfl hl (by decide) rfl (fun ls hl => ?_)
      refine lv_aload_n hx hb dX11_round_19 rfl (lv_at hl 1 rfl) ?_
      refine x_get (C := RX11) (T := TX11) (N := 11) hx hb hts hin_X11 hown hK hP (0) (by decide) hx0 rfl 0 (by decide) hw_0 (fun _ h9 => h9) rfl dX11_round_20 ?_
      refine lv_iload_n hx hb dX11_round_23 rfl (lv_at hl 2 rfl) ?_
      refine x_put (C := RX7) (T := TX7) (N := 4) (ty := .int) hx hb hts hin_X7 hown hK hP hD hS (1) (by decide) hm0 rfl tyX7 tyX7_ok nmX7 3 (by decide) hw_2 (fun _ h9 => h9) rfl (by decide +kernel) rfl rfl (Nat.le_of_ble_eq_true rfl) dX11_round_24 (fun M_2 H locs hnew hne hP hD hS => ?_)
      have hP : xP g (M_2, σ.2) H := hP
      have hD : xD g A (M_2, σ.2) := hD
      have hm0 : M_2 (1) = .inr (7, [.ref (g.2.2 2), .ref (g.2.2 3), .int (iI (n)), .int (iI (v))]) := hnew
      have hx0 := (hne (0) (by decide)).trans hx0
      have hm1 := (hne (2) (by decide)).trans hm1
      have hm2 := (hne (3) (by decide)).trans hm2
      have hfr := x_fr (F := fun j => j ≠ 1 ∧ j ≠ 2 ∧ j ≠ 3) hfr hne (fun j h => by have h : j ≠ 1 ∧ j ≠ 2 ∧ j ≠ 3 := h; omega)
      refine lv_iload_n hx hb dX11_round_27 rfl (lv_at hl 0 rfl) ?_
      refine x_retQ hx hb hr (by omega) ?_ hP hD hS dX11_round_28 hlocks
      exact ⟨rfl, hfr, Or.inr ⟨by omega, rfl, hm0, hm1, hm2⟩⟩
    · refine x_iconst hx hb dX11_round_9 ?_
      refine x_retQ hx hb hr (by omega) ?_ hP hD hS dX11_round_10 hlocks
      exact ⟨rfl, hfr, Or.inl ⟨by omega, rfl, hm0, hm1, hm2⟩⟩

set_option maxHeartbeats 4000000 in
set_option maxRecDepth 100000 in
theorem c_X11_give (l : Launch) (g : xG) (σ : xS) (A : Nat → Prop) (ph : Nat) (tk : Int) (hx0 : XObj g σ.1 ph tk) (n rd : Int) (P : Int → Int) (G : Int → Option Nat) (hst : StAt g σ.1 1 n rd P G) (hok : StOk σ n rd P G) (hH : HsOk σ) (a : Int) (ha : inR a) (b : Int) (hb9 : inR b) (c0 : Int) (hc : inR c0) : Met l yX11_give wsX11_give ({ frames := 4, cells := 0, slots := 0, locals := 128 }) (va_Pc [.ref (g.2.2 0), .int (iI (a)), .int (iI (b)), .int (iI (c0))] (xPreQ g A σ)) (x_Qi g A (fun r σ1 => σ1.2 = σ.2 ∧ (∀ j, j ≠ 1 ∧ j ≠ 2 ∧ j ≠ 3 → σ1.1 j = σ.1 j) ∧ ((zGiftR P n a b c0 ≠ 0 ∧ r = zGiftR P n a b c0 ∧ StAt g σ1.1 1 (n) (rd) (P) (G)) ∨ (zGiftR P n a b c0 = 0 ∧ r = P a - c0 ∧ StAt g σ1.1 1 (n) (rd) (zGift P a b c0) (G))))) (0) (0) A := by
  refine Met.ofW (cc := cX11_give) (maxL := 5) (ret := (some .int)) (by decide) rfl ?_
  intro p e s m args below meth c s₁ B hml hv
  obtain ⟨rfl, hP, hK, hD, hA⟩ := hv
  have hx := B.exec
  have hb := B.bytes
  have hr := B.returns
  have hts := atoms_spec (ws := wsX11_give) B.pre
  have hown : s.vm.findClass RX11 = some m.cls := findClass_of_methodNamed B.named
  have hlocks := B.notSynchronized
  have hS : va_S A s.heap s.heap [] := va_S.rf
  have hfr : ∀ j, (j ≠ 1 ∧ j ≠ 2 ∧ j ≠ 3) → σ.1 j = σ.1 j := fun _ _ => rfl
  have hl := lv_entry ([.ref (g.2.2 0), .int (iI (a)), .int (iI (b)), .int (iI (c0))]) (n := 5) (Nat.le_of_ble_eq_true rfl)
  rw [lg_entry_eq]
  generalize (lg_sl ([.ref (g.2.2 0), .int (iI (a)), .int (iI (b)), .int (iI (c0))]) ++ List.replicate (5 - (lg_sl ([.ref (g.2.2 0), .int (iI (a)), .int (iI (b)), .int (iI (c0))])).length) Slot.unset).toArray = ls at hl ⊢
  have hl : lv_has ls 5 [(0, .ref (g.2.2 0)), (1, .int (iI (a))), (2, .int (iI (b))), (3, .int (iI (c0)))] := hl
  have hm0 : σ.1 1 = .inr (7, [.ref (g.2.2 2), .ref (g.2.2 3), .int (iI n), .int (iI rd)]) := hst.1
  have hm1 : MRef g σ.1 2 9 G := hst.2.1
  have hm2 : MArr g σ.1 3 9 P := hst.2.2
  have hok1 := hok.1
  have hok2 := hok.2.1
  have hok3 := hok.2.2.1
  have hw_0 := hts (.fieldLink RX11 10 "TwiceAsRich" "street" "LTwiceAsRich$Street;") (by decide +kernel)
  have hin_X11 : ∀ w ∈ wsX110, w ∈ wsX11_give := by decide +kernel
  have hw_2 := hts (.fieldLink RX11 103 "TwiceAsRich$Street" "purses" "[I") (by decide +kernel)
  have hin_X7 : ∀ w ∈ wsX70, w ∈ wsX11_give := by decide +kernel
  refine lv_aload_n hx hb dX11_give_0 rfl (lv_at hl 0 rfl) ?_
  refine x_get (C := RX11) (T := TX11) (N := 11) hx hb hts hin_X11 hown hK hP (0) (by decide) hx0 rfl 0 (by decide) hw_0 (fun _ h9 => h9) rfl dX11_give_1 ?_
  refine lv_iload_n hx hb dX11_give_4 rfl (lv_at hl 1 rfl) ?_
  refine lv_iload_n hx hb dX11_give_5 rfl (lv_at hl 2 rfl) ?_
  refine lv_iload_n hx hb dX11_give_6 rfl (lv_at hl 3 rfl) ?_
  refine x_cqi0 (va_runV (As := [.int (iI (a)), .int (iI (b)), .int (iI (c0))]) (rest := []) ⟨hx, hb, hml, hown, hts⟩ (c_X7_gift l g σ A (1) (by decide) (n) (rd) P G ⟨hm0, hm1, hm2⟩ hok hH (a) (by omega) (b) (by omega) (c0) (by omega)) (cwV 3 hts gX11_give_X7_gift rfl rfl rfl (by decide +kernel) ⟨Nat.le_of_ble_eq_true rfl, Nat.le_of_ble_eq_true rfl⟩) (x_preVQ hK hP hD hS hA (x_recv hK hP (i := 1) (by decide) hm0 rfl)) rfl rfl hl.1 rfl (lv_room (Nat.le_of_ble_eq_true rfl)) dX11_give_7 ⟨by decide, by decide⟩) hS (fun r_7 σ1 H locs hr_7 hpost hP hD hS => ?_)
  obtain ⟨M_1, p1⟩ := σ1
  obtain ⟨hp0, hfrc, qr_7, hnst⟩ := hpost
  obtain rfl : p1 = σ.2 := hp0
  have hP : xP g (M_1, σ.2) H := hP
  have hD : xD g A (M_1, σ.2) := hD
  have hx0 := (hfrc (0) (by omega)).trans hx0
  have hfr := x_frc (F := fun j => j ≠ 1 ∧ j ≠ 2 ∧ j ≠ 3) hfr hfrc (fun j h => by have h : j ≠ 1 ∧ j ≠ 2 ∧ j ≠ 3 := h; omega)
  obtain ⟨Pn_2, hPn_2⟩ : ∃ q : Int → Int, q = if zGiftR P (n) (a) (b) (c0) = 0 then zGift P (a) (b) (c0) else P := ⟨_, rfl⟩
  obtain ⟨Gn_3, hGn_3⟩ : ∃ q : Int → Option Nat, q = G := ⟨_, rfl⟩
  have ost_4 : StOk σ (n) (rd) Pn_2 Gn_3 := by rw [hPn_2, hGn_3]; exact StOk_gift hok
  rw [← hPn_2, ← hGn_3] at hnst
  have hm0 : M_1 (1) = .inr (7, [.ref (g.2.2 2), .ref (g.2.2 3), .int (iI (n)), .int (iI (rd))]) := hnst.1
  have hm1 : MRef g M_1 2 9 Gn_3 := hnst.2.1
  have hm2 : MArr g M_1 3 9 Pn_2 := hnst.2.2
  refine lv_istore (lv' := [(4, .int (iI (r_7))), (0, .ref (g.2.2 0)), (1, .int (iI (a))), (2, .int (iI (b))), (3, .int (iI (c0)))]) hx hb dX11_give_10 hl (by decide) rfl (fun ls hl => ?_)
  refine lv_iload hx hb dX11_give_12 (lv_at hl 0 rfl) ?_
  refine x_if_eq (tgt := 22) hx hb (by omega) dX11_give_14 (by decide) (fun c_14 => ?_) (fun c_14 => ?_)
  · have hg0 : zGiftR P n a b c0 = 0 := by omega
    have zz := zGiftR_0 rfl hg0
    refine lv_aload_n hx hb dX11_give_22 rfl (lv_at hl 1 rfl) ?_
    refine x_get (C := RX11) (T := TX11) (N := 11) hx hb hts hin_X11 hown hK hP (0) (by decide) hx0 rfl 0 (by decide) hw_0 (fun _ h9 => h9) rfl dX11_give_23 ?_
    refine x_get (C := RX7) (T := TX7) (N := 4) hx hb hts hin_X7 hown hK hP (1) (by decide) hm0 rfl 1 (by decide) hw_2 (fun _ h9 => h9) rfl dX11_give_26 ?_
    refine lv_iload_n hx hb dX11_give_29 rfl (lv_at hl 2 rfl) ?_
    refine x_iald (f := Pn_2) hx hb hK hP (3) (by decide) hm2 (by omega) (by omega) (by decide) dX11_give_30 ?_
    have hb_5 := ost_4.2.2.2.1 (a)
    refine x_retQ hx hb hr (by omega) ?_ hP hD hS dX11_give_31 hlocks
    refine ⟨rfl, hfr, ?_⟩
    first | (left; refine ⟨by omega, by omega, hm0, ?_, ?_⟩; (rw [hGn_3] at hm1; exact hm1); (rw [hPn_2, if_neg (by omega)] at hm2; exact hm2)) | (right; refine ⟨by omega, ?_, hm0, ?_, ?_⟩; (have z := zGiftR_0 rfl hg0; rw [hPn_2, if_pos hg0]; unfold zGift; rw [upI_n (by omega), upI_s]); (rw [hGn_3] at hm1; exact hm1); (rw [hPn_2, if_pos hg0] at hm2; exact hm2))
  · refine lv_iload hx hb dX11_give_17 (lv_at hl 0 rfl) ?_
    refine lv_goto (tgt := 31) hx hb dX11_give_19 (by decide) ?_
    refine x_retQ hx hb hr (by omega) ?_ hP hD hS dX11_give_31 hlocks
    refine ⟨rfl, hfr, ?_⟩
    first | (left; refine ⟨by omega, by omega, hm0, ?_, ?_⟩; (rw [hGn_3] at hm1; exact hm1); (rw [hPn_2, if_neg (by omega)] at hm2; exact hm2)) | (right; refine ⟨by omega, ?_, hm0, ?_, ?_⟩; (have z := zGiftR_0 rfl hg0; rw [hPn_2, if_pos hg0]; unfold zGift; rw [upI_n (by omega), upI_s]); (rw [hGn_3] at hm1; exact hm1); (rw [hPn_2, if_pos hg0] at hm2; exact hm2))

set_option maxHeartbeats 4000000 in
set_option maxRecDepth 100000 in
theorem c_X11_weeks (l : Launch) (g : xG) (σ : xS) (A : Nat → Prop) (ph : Nat) (tk : Int) (hx0 : XObj g σ.1 ph tk) (n rd : Int) (P : Int → Int) (G : Int → Option Nat) (hst : StAt g σ.1 1 n rd P G) (hok : StOk σ n rd P G) (hH : HsOk σ) (w : Int) (hw : inR w) : Met l yX11_weeks wsX11_weeks ({ frames := 5, cells := 0, slots := 0, locals := 160 }) (va_Pc [.ref (g.2.2 0), .int (iI (w))] (xPreQ g A σ)) (x_Qi g A (fun r σ1 => σ1.2 = σ.2 ∧ (∀ j, j ≠ 1 ∧ j ≠ 2 ∧ j ≠ 3 → σ1.1 j = σ.1 j) ∧ ((¬ (1 ≤ w ∧ w ≤ 99) ∧ r = -1 ∧ StAt g σ1.1 1 (n) (rd) (P) (G)) ∨ ((1 ≤ w ∧ w ≤ 99) ∧ r = zSum (zCopy (fun i => min 9999 (P i + w * zWeek (sK σ G i) (sF σ G i))) P n) n.toNat ∧ StAt g σ1.1 1 (n) (rd) (zCopy (fun i => min 9999 (P i + w * zWeek (sK σ G i) (sF σ G i))) P n) (G))))) (0) (0) A := by
  refine Met.ofW (cc := cX11_weeks) (maxL := 2) (ret := (some .int)) (by decide) rfl ?_
  intro p e s m args below meth c s₁ B hml hv
  obtain ⟨rfl, hP, hK, hD, hA⟩ := hv
  have hx := B.exec
  have hb := B.bytes
  have hr := B.returns
  have hts := atoms_spec (ws := wsX11_weeks) B.pre
  have hown : s.vm.findClass RX11 = some m.cls := findClass_of_methodNamed B.named
  have hlocks := B.notSynchronized
  have hS : va_S A s.heap s.heap [] := va_S.rf
  have hfr : ∀ j, (j ≠ 1 ∧ j ≠ 2 ∧ j ≠ 3) → σ.1 j = σ.1 j := fun _ _ => rfl
  have hl := lv_entry ([.ref (g.2.2 0), .int (iI (w))]) (n := 2) (Nat.le_of_ble_eq_true rfl)
  rw [lg_entry_eq]
  generalize (lg_sl ([.ref (g.2.2 0), .int (iI (w))]) ++ List.replicate (2 - (lg_sl ([.ref (g.2.2 0), .int (iI (w))])).length) Slot.unset).toArray = ls at hl ⊢
  have hl : lv_has ls 2 [(0, .ref (g.2.2 0)), (1, .int (iI (w)))] := hl
  have hm0 : σ.1 1 = .inr (7, [.ref (g.2.2 2), .ref (g.2.2 3), .int (iI n), .int (iI rd)]) := hst.1
  have hm1 : MRef g σ.1 2 9 G := hst.2.1
  have hm2 : MArr g σ.1 3 9 P := hst.2.2
  have hok1 := hok.1
  have hok2 := hok.2.1
  have hok3 := hok.2.2.1
  have hw_0 := hts (.fieldLink RX11 10 "TwiceAsRich" "street" "LTwiceAsRich$Street;") (by decide +kernel)
  have hin_X11 : ∀ w ∈ wsX110, w ∈ wsX11_weeks := by decide +kernel
  refine lv_iload_n hx hb dX11_weeks_0 rfl (lv_at hl 1 rfl) ?_
  refine x_iconst hx hb dX11_weeks_1 ?_
  refine x_icmp_lt (tgt := 11) hx hb (by omega) (by omega) dX11_weeks_2 (by decide) (fun c_2 => ?_) (fun c_2 => ?_)
  · refine x_iconst hx hb dX11_weeks_11 ?_
    refine x_retQ hx hb hr (by omega) ?_ hP hD hS dX11_weeks_12 hlocks
    exact ⟨rfl, hfr, Or.inl ⟨by omega, rfl, hm0, hm1, hm2⟩⟩
  · refine lv_iload_n hx hb dX11_weeks_5 rfl (lv_at hl 1 rfl) ?_
    refine x_bipush (n := 99) hx hb (by decide +kernel) dX11_weeks_6 ?_
    refine x_icmp_le (tgt := 13) hx hb (by omega) (by omega) dX11_weeks_8 (by decide) (fun c_8 => ?_) (fun c_8 => ?_)
    · refine lv_aload_n hx hb dX11_weeks_13 rfl (lv_at hl 0 rfl) ?_
      refine x_get (C := RX11) (T := TX11) (N := 11) hx hb hts hin_X11 hown hK hP (0) (by decide) hx0 rfl 0 (by decide) hw_0 (fun _ h9 => h9) rfl dX11_weeks_14 ?_
      refine lv_iload_n hx hb dX11_weeks_17 rfl (lv_at hl 1 rfl) ?_
      refine x_cqv0 (va_runV (As := [.int (iI (w))]) (rest := []) ⟨hx, hb, hml, hown, hts⟩ (c_X7_earn l g σ A (1) (by decide) (n) (rd) P G ⟨hm0, hm1, hm2⟩ hok hH (w) (by omega)) (cwV 1 hts gX11_weeks_X7_earn rfl rfl rfl (by decide +kernel) ⟨Nat.le_of_ble_eq_true rfl, Nat.le_of_ble_eq_true rfl⟩) (x_preVQ hK hP hD hS hA (x_recv hK hP (i := 1) (by decide) hm0 rfl)) rfl rfl hl.1 rfl (lv_room (Nat.le_of_ble_eq_true rfl)) dX11_weeks_18 ⟨by decide, by decide⟩) hS (fun σ1 H locs hpost hP hD hS => ?_)
      obtain ⟨M_1, p1⟩ := σ1
      obtain ⟨hp0, hfrc, hnst⟩ := hpost
      obtain rfl : p1 = σ.2 := hp0
      have hP : xP g (M_1, σ.2) H := hP
      have hD : xD g A (M_1, σ.2) := hD
      have hx0 := (hfrc (0) (by omega)).trans hx0
      have hfr := x_frc (F := fun j => j ≠ 1 ∧ j ≠ 2 ∧ j ≠ 3) hfr hfrc (fun j h => by have h : j ≠ 1 ∧ j ≠ 2 ∧ j ≠ 3 := h; omega)
      obtain ⟨Pn_2, hPn_2⟩ : ∃ q : Int → Int, q = zCopy (fun i => min 9999 (P i + (w) * zWeek (sK σ G i) (sF σ G i))) P (n) := ⟨_, rfl⟩
      obtain ⟨Gn_3, hGn_3⟩ : ∃ q : Int → Option Nat, q = G := ⟨_, rfl⟩
      have ost_4 : StOk σ (n) (rd) Pn_2 Gn_3 := by rw [hPn_2, hGn_3]; exact StOk_earn hH hok (by omega)
      rw [← hPn_2, ← hGn_3] at hnst
      have hm0 : M_1 (1) = .inr (7, [.ref (g.2.2 2), .ref (g.2.2 3), .int (iI (n)), .int (iI (rd))]) := hnst.1
      have hm1 : MRef g M_1 2 9 Gn_3 := hnst.2.1
      have hm2 : MArr g M_1 3 9 Pn_2 := hnst.2.2
      refine lv_aload_n hx hb dX11_weeks_21 rfl (lv_at hl 0 rfl) ?_
      refine x_get (C := RX11) (T := TX11) (N := 11) hx hb hts hin_X11 hown hK hP (0) (by decide) hx0 rfl 0 (by decide) hw_0 (fun _ h9 => h9) rfl dX11_weeks_22 ?_
      refine x_ci (va_runV (As := []) (rest := []) ⟨hx, hb, hml, hown, hts⟩ (c_X7_allCoins l g (M_1, σ.2) (1) (by decide) (n) (rd) Pn_2 Gn_3 ⟨hm0, hm1, hm2⟩ ost_4 hH ) (cwV 0 hts gX11_weeks_X7_allCoins rfl rfl rfl (by decide +kernel) ⟨Nat.le_of_ble_eq_true rfl, Nat.le_of_ble_eq_true rfl⟩) (x_preV hK hP (x_recv hK hP (i := 1) (by decide) hm0 rfl)) rfl rfl hl.1 rfl (lv_room (Nat.le_of_ble_eq_true rfl)) dX11_weeks_25 ⟨Nat.le_of_ble_eq_true rfl, Nat.le_of_ble_eq_true rfl⟩) (fun r_25 hr_25 qr_25 => ?_)
      replace qr_25 : r_25 = zSum (Pn_2) ((n)).toNat ∧ 0 ≤ r_25 ∧ r_25 ≤ 99999 := qr_25
      refine x_retQ hx hb hr (by omega) ?_ hP hD hS dX11_weeks_28 hlocks
      refine ⟨rfl, hfr, Or.inr ⟨by omega, ?_, hm0, ?_, ?_⟩⟩
      · rw [← hPn_2]; exact qr_25.1
      · rw [← hGn_3]; exact hm1
      · rw [← hPn_2]; exact hm2
    · refine x_iconst hx hb dX11_weeks_11 ?_
      refine x_retQ hx hb hr (by omega) ?_ hP hD hS dX11_weeks_12 hlocks
      exact ⟨rfl, hfr, Or.inl ⟨by omega, rfl, hm0, hm1, hm2⟩⟩

set_option maxHeartbeats 4000000 in
set_option maxRecDepth 100000 in
theorem c_X11_worth (l : Launch) (g : xG) (σ : xS) (A : Nat → Prop) (ph : Nat) (tk : Int) (hx0 : XObj g σ.1 ph tk) (n rd : Int) (P : Int → Int) (G : Int → Option Nat) (hst : StAt g σ.1 1 n rd P G) (hok : StOk σ n rd P G) (hH : HsOk σ) (nm rm : Int) (Pm : Int → Int) (Gm : Int → Option Nat) (hsm9 : StAt g σ.1 7 nm rm Pm Gm) (hom : StOk σ nm rm Pm Gm) (hn8 : n ≤ 8) (ha_ph : ph ∈ σ.2.1) (hph : σ.2.2.1 ph = 0 ∧ σ.2.2.2 ph = 0) (h : Int) (hh : inR h) (pu : Int) (hpu : inR pu) : Met l yX11_worth wsX11_worth ({ frames := 6, cells := 0, slots := 0, locals := 192 }) (va_Pc [.ref (g.2.2 0), .int (iI (h)), .int (iI (pu))] (xPreQ g A σ)) (x_Qi g A (fun r σ1 => σ1.2 = σ.2 ∧ (∀ j, j ≠ 7 ∧ j ≠ 8 ∧ j ≠ 9 → σ1.1 j = σ.1 j) ∧ (r = zWorth (sK σ G) (sF σ G) P n rd h pu) ∧ xStr g σ1.1 σ 7)) (0) (0) A := by
  refine Met.ofW (cc := cX11_worth) (maxL := 3) (ret := (some .int)) (by decide) rfl ?_
  intro p e s m args below meth c s₁ B hml hv
  obtain ⟨rfl, hP, hK, hD, hA⟩ := hv
  have hx := B.exec
  have hb := B.bytes
  have hr := B.returns
  have hts := atoms_spec (ws := wsX11_worth) B.pre
  have hown : s.vm.findClass RX11 = some m.cls := findClass_of_methodNamed B.named
  have hlocks := B.notSynchronized
  have hS : va_S A s.heap s.heap [] := va_S.rf
  have hfr : ∀ j, (j ≠ 7 ∧ j ≠ 8 ∧ j ≠ 9) → σ.1 j = σ.1 j := fun _ _ => rfl
  have hl := lv_entry ([.ref (g.2.2 0), .int (iI (h)), .int (iI (pu))]) (n := 3) (Nat.le_of_ble_eq_true rfl)
  rw [lg_entry_eq]
  generalize (lg_sl ([.ref (g.2.2 0), .int (iI (h)), .int (iI (pu))]) ++ List.replicate (3 - (lg_sl ([.ref (g.2.2 0), .int (iI (h)), .int (iI (pu))])).length) Slot.unset).toArray = ls at hl ⊢
  have hl : lv_has ls 3 [(0, .ref (g.2.2 0)), (1, .int (iI (h))), (2, .int (iI (pu)))] := hl
  have hm0 : σ.1 1 = .inr (7, [.ref (g.2.2 2), .ref (g.2.2 3), .int (iI n), .int (iI rd)]) := hst.1
  have hm1 : MRef g σ.1 2 9 G := hst.2.1
  have hm2 : MArr g σ.1 3 9 P := hst.2.2
  have hok1 := hok.1
  have hok2 := hok.2.1
  have hok3 := hok.2.2.1
  have hqm0 : σ.1 7 = .inr (7, [.ref (g.2.2 8), .ref (g.2.2 9), .int (iI nm), .int (iI rm)]) := hsm9.1
  have hqm1 : MRef g σ.1 8 9 Gm := hsm9.2.1
  have hqm2 : MArr g σ.1 9 9 Pm := hsm9.2.2
  have hom1 := hom.1
  have hom2 := hom.2.1
  have hom3 := hom.2.2.1
  have hw_0 := hts (.fieldLink RX11 10 "TwiceAsRich" "street" "LTwiceAsRich$Street;") (by decide +kernel)
  have hin_X11 : ∀ w ∈ wsX110, w ∈ wsX11_worth := by decide +kernel
  have hw_2 := hts (.constant RX11 192 (-1000000001)) (by decide +kernel)
  have hw_3 := hts (.fieldLink RX11 19 "TwiceAsRich" "mind" "LTwiceAsRich$Street;") (by decide +kernel)
  have hw_4 := hts (.fieldLink RX11 27 "TwiceAsRich" "plainHouse" "LTwiceAsRich$House;") (by decide +kernel)
  refine lv_aload_n hx hb dX11_worth_0 rfl (lv_at hl 0 rfl) ?_
  refine x_get (C := RX11) (T := TX11) (N := 11) hx hb hts hin_X11 hown hK hP (0) (by decide) hx0 rfl 0 (by decide) hw_0 (fun _ h9 => h9) rfl dX11_worth_1 ?_
  refine lv_iload_n hx hb dX11_worth_4 rfl (lv_at hl 1 rfl) ?_
  refine x_ci (va_runV (As := [.int (iI (h))]) (rest := []) ⟨hx, hb, hml, hown, hts⟩ (c_X7_has l g σ (1) (by decide) (n) (rd) P G ⟨hm0, hm1, hm2⟩ hok hH (h) (by omega)) (cwV 1 hts gX11_worth_X7_has rfl rfl rfl (by decide +kernel) ⟨Nat.le_of_ble_eq_true rfl, Nat.le_of_ble_eq_true rfl⟩) (x_preV hK hP (x_recv hK hP (i := 1) (by decide) hm0 rfl)) rfl rfl hl.1 rfl (lv_room (Nat.le_of_ble_eq_true rfl)) dX11_worth_5 ⟨Nat.le_of_ble_eq_true rfl, Nat.le_of_ble_eq_true rfl⟩) (fun r_5 hr_5 qr_5 => ?_)
  replace qr_5 : (r_5 = 1 ∧ 0 ≤ (h) ∧ (h) < (n)) ∨ (r_5 = 0 ∧ ¬ (0 ≤ (h) ∧ (h) < (n))) := qr_5
  refine x_if_eq (tgt := 18) hx hb (by omega) dX11_worth_8 (by decide) (fun c_8 => ?_) (fun c_8 => ?_)
  · refine x_ldc (n := -1000000001) hx hb hown hw_2 (by decide +kernel) dX11_worth_18 ?_
    refine x_retQ hx hb hr (by omega) ?_ hP hD hS dX11_worth_20 hlocks
    refine ⟨rfl, hfr, by unfold zWorth; rw [if_neg (by omega)], nm, rm, Pm, Gm, hsm9, hom⟩
  · refine lv_iload_n hx hb dX11_worth_11 rfl (lv_at hl 2 rfl) ?_
    refine x_ci (va_runS (As := [.int (iI (pu))]) (rest := []) ⟨hx, hb, hml, hown, hts⟩ (c_X11_isPurse l g σ  (pu) (by omega)) (va_cwS 1 hts gX11_worth_X11_isPurse rfl rfl rfl (by decide +kernel) ⟨Nat.le_of_ble_eq_true rfl, Nat.le_of_ble_eq_true rfl⟩) (x_preS hK hP) rfl rfl hl.1 rfl (lv_room (Nat.le_of_ble_eq_true rfl)) dX11_worth_12 ⟨Nat.le_of_ble_eq_true rfl, Nat.le_of_ble_eq_true rfl⟩) (fun r_12 hr_12 qr_12 => ?_)
    replace qr_12 : (r_12 = 1 ∧ 0 ≤ (pu) ∧ (pu) ≤ 9999) ∨ (r_12 = 0 ∧ ¬ (0 ≤ (pu) ∧ (pu) ≤ 9999)) := qr_12
    refine x_if_ne (tgt := 21) hx hb (by omega) dX11_worth_15 (by decide) (fun c_15 => ?_) (fun c_15 => ?_)
    · refine lv_aload_n hx hb dX11_worth_21 rfl (lv_at hl 0 rfl) ?_
      refine x_get (C := RX11) (T := TX11) (N := 11) hx hb hts hin_X11 hown hK hP (0) (by decide) hx0 rfl 3 (by decide) hw_3 (fun _ h9 => h9) rfl dX11_worth_22 ?_
      refine lv_aload_n hx hb dX11_worth_25 rfl (lv_at hl 0 rfl) ?_
      refine x_get (C := RX11) (T := TX11) (N := 11) hx hb hts hin_X11 hown hK hP (0) (by decide) hx0 rfl 0 (by decide) hw_0 (fun _ h9 => h9) rfl dX11_worth_26 ?_
      refine x_cqv0 (va_runV (As := [.ref (g.2.2 1)]) (rest := []) ⟨hx, hb, hml, hown, hts⟩ (c_X7_become l g σ A (7) (by decide) (nm) (rm) Pm Gm ⟨hqm0, hqm1, hqm2⟩ hom hH (1) (by decide) (by decide) (n) (rd) P G ⟨hm0, hm1, hm2⟩ hok) (cwV 1 hts gX11_worth_X7_become rfl rfl rfl (by decide +kernel) ⟨Nat.le_of_ble_eq_true rfl, Nat.le_of_ble_eq_true rfl⟩) (x_preVQ hK hP hD hS hA (x_recv hK hP (i := 7) (by decide) hqm0 rfl)) rfl rfl hl.1 rfl (lv_room (Nat.le_of_ble_eq_true rfl)) dX11_worth_29 ⟨by decide, by decide⟩) hS (fun σ1 H locs hpost hP hD hS => ?_)
      obtain ⟨M_1, p1⟩ := σ1
      obtain ⟨hp0, hfrc, hnst⟩ := hpost
      obtain rfl : p1 = σ.2 := hp0
      have hP : xP g (M_1, σ.2) H := hP
      have hD : xD g A (M_1, σ.2) := hD
      have hx0 := (hfrc (0) (by omega)).trans hx0
      have hm0 := (hfrc (1) (by omega)).trans hm0
      have hm1 := (hfrc (2) (by omega)).trans hm1
      have hm2 := (hfrc (3) (by omega)).trans hm2
      have hfr := x_frc (F := fun j => j ≠ 7 ∧ j ≠ 8 ∧ j ≠ 9) hfr hfrc (fun j h => by have h : j ≠ 7 ∧ j ≠ 8 ∧ j ≠ 9 := h; omega)
      obtain ⟨Pn_2, hPn_2⟩ : ∃ q : Int → Int, q = zCopy P Pm 9 := ⟨_, rfl⟩
      obtain ⟨Gn_3, hGn_3⟩ : ∃ q : Int → Option Nat, q = zCopy G Gm 9 := ⟨_, rfl⟩
      have ost_4 : StOk σ (n) (rd) Pn_2 Gn_3 := by rw [hPn_2, hGn_3]; exact StOk_become hom hok
      rw [← hPn_2, ← hGn_3] at hnst
      have hqm0 : M_1 (7) = .inr (7, [.ref (g.2.2 8), .ref (g.2.2 9), .int (iI (n)), .int (iI (rd))]) := hnst.1
      have hqm1 : MRef g M_1 8 9 Gn_3 := hnst.2.1
      have hqm2 : MArr g M_1 9 9 Pn_2 := hnst.2.2
      have e8 := hGn_3
      have e9 := hPn_2
      refine lv_aload_n hx hb dX11_worth_32 rfl (lv_at hl 0 rfl) ?_
      refine x_get (C := RX11) (T := TX11) (N := 11) hx hb hts hin_X11 hown hK hP (0) (by decide) hx0 rfl 3 (by decide) hw_3 (fun _ h9 => h9) rfl dX11_worth_33 ?_
      refine lv_iload_n hx hb dX11_worth_36 rfl (lv_at hl 1 rfl) ?_
      refine x_iconst hx hb dX11_worth_37 ?_
      refine x_iadd hx hb dX11_worth_38 ?_
      refine lv_aload_n hx hb dX11_worth_39 rfl (lv_at hl 0 rfl) ?_
      refine x_get (C := RX11) (T := TX11) (N := 11) hx hb hts hin_X11 hown hK hP (0) (by decide) hx0 rfl 4 (by decide) hw_4 (fun _ h9 => h9) rfl dX11_worth_40 ?_
      refine lv_iload_n hx hb dX11_worth_43 rfl (lv_at hl 2 rfl) ?_
      refine x_cqv0 (va_runV (As := [.int (iI (h + 1)), .ref ph, .int (iI (pu))]) (rest := []) ⟨hx, hb, hml, hown, hts⟩ (c_X7_insert l g (M_1, σ.2) A (7) (by decide) (n) (rd) Pn_2 Gn_3 ⟨hqm0, hqm1, hqm2⟩ ost_4 hH (by omega) (h + 1) (by omega) ph ha_ph (pu) (by omega)) (cwV 3 hts gX11_worth_X7_insert rfl rfl rfl (by decide +kernel) ⟨Nat.le_of_ble_eq_true rfl, Nat.le_of_ble_eq_true rfl⟩) (x_preVQ hK hP hD hS hA (x_recv hK hP (i := 7) (by decide) hqm0 rfl)) rfl rfl hl.1 rfl (lv_room (Nat.le_of_ble_eq_true rfl)) dX11_worth_44 ⟨by decide, by decide⟩) hS (fun σ1 H locs hpost hP hD hS => ?_)
      obtain ⟨M_5, p1⟩ := σ1
      obtain ⟨hp0, hfrc, hnst⟩ := hpost
      obtain rfl : p1 = σ.2 := hp0
      have hP : xP g (M_5, σ.2) H := hP
      have hD : xD g A (M_5, σ.2) := hD
      have hx0 := (hfrc (0) (by omega)).trans hx0
      have hm0 := (hfrc (1) (by omega)).trans hm0
      have hm1 := (hfrc (2) (by omega)).trans hm1
      have hm2 := (hfrc (3) (by omega)).trans hm2
      have hfr := x_frc (F := fun j => j ≠ 7 ∧ j ≠ 8 ∧ j ≠ 9) hfr hfrc (fun j h => by have h : j ≠ 7 ∧ j ≠ 8 ∧ j ≠ 9 := h; omega)
      obtain ⟨Pn_6, hPn_6⟩ : ∃ q : Int → Int, q = upI (zUp Pn_2 (h + 1) (n)) (h + 1) (pu) := ⟨_, rfl⟩
      obtain ⟨Gn_7, hGn_7⟩ : ∃ q : Int → Option Nat, q = upI (zUp Gn_3 (h + 1) (n)) (h + 1) (some ph) := ⟨_, rfl⟩
      have ost_8 : StOk σ (n + 1) (rd) Pn_6 Gn_7 := by rw [hPn_6, hGn_7]; exact StOk_insert ost_4 (by omega) (by omega) ha_ph (by omega)
      rw [← hPn_6, ← hGn_7] at hnst
      have hqm0 : M_5 (7) = .inr (7, [.ref (g.2.2 8), .ref (g.2.2 9), .int (iI (n + 1)), .int (iI (rd))]) := hnst.1
      have hqm1 : MRef g M_5 8 9 Gn_7 := hnst.2.1
      have hqm2 : MArr g M_5 9 9 Pn_6 := hnst.2.2
      refine lv_aload_n hx hb dX11_worth_47 rfl (lv_at hl 0 rfl) ?_
      refine x_get (C := RX11) (T := TX11) (N := 11) hx hb hts hin_X11 hown hK hP (0) (by decide) hx0 rfl 3 (by decide) hw_3 (fun _ h9 => h9) rfl dX11_worth_48 ?_
      refine lv_iload_n hx hb dX11_worth_51 rfl (lv_at hl 1 rfl) ?_
      refine x_ci (va_runV (As := [.int (iI (h))]) (rest := []) ⟨hx, hb, hml, hown, hts⟩ (c_X7_mostOf l g (M_5, σ.2) (7) (by decide) (n + 1) (rd) Pn_6 Gn_7 ⟨hqm0, hqm1, hqm2⟩ ost_8 hH (h) (by omega)) (cwV 1 hts gX11_worth_X7_mostOf rfl rfl rfl (by decide +kernel) ⟨Nat.le_of_ble_eq_true rfl, Nat.le_of_ble_eq_true rfl⟩) (x_preV hK hP (x_recv hK hP (i := 7) (by decide) hqm0 rfl)) rfl rfl hl.1 rfl (lv_room (Nat.le_of_ble_eq_true rfl)) dX11_worth_52 ⟨Nat.le_of_ble_eq_true rfl, Nat.le_of_ble_eq_true rfl⟩) (fun r_52 hr_52 qr_52 => ?_)
      replace qr_52 : r_52 = zMost (sK σ (Gn_7)) (sF σ (Gn_7)) (Pn_6) (n + 1) (rd) (h) ∧ 0 ≤ r_52 ∧ r_52 ≤ 9999 := qr_52
      refine lv_aload_n hx hb dX11_worth_55 rfl (lv_at hl 0 rfl) ?_
      refine x_get (C := RX11) (T := TX11) (N := 11) hx hb hts hin_X11 hown hK hP (0) (by decide) hx0 rfl 0 (by decide) hw_0 (fun _ h9 => h9) rfl dX11_worth_56 ?_
      refine lv_iload_n hx hb dX11_worth_59 rfl (lv_at hl 1 rfl) ?_
      refine x_ci (va_runV (As := [.int (iI (h))]) (rest := [.int (iI (r_52))]) ⟨hx, hb, hml, hown, hts⟩ (c_X7_mostOf l g (M_5, σ.2) (1) (by decide) (n) (rd) P G ⟨hm0, hm1, hm2⟩ hok hH (h) (by omega)) (cwV 1 hts gX11_worth_X7_mostOf rfl rfl rfl (by decide +kernel) ⟨Nat.le_of_ble_eq_true rfl, Nat.le_of_ble_eq_true rfl⟩) (x_preV hK hP (x_recv hK hP (i := 1) (by decide) hm0 rfl)) rfl rfl hl.1 rfl (lv_room (Nat.le_of_ble_eq_true rfl)) dX11_worth_60 ⟨Nat.le_of_ble_eq_true rfl, Nat.le_of_ble_eq_true rfl⟩) (fun r_60 hr_60 qr_60 => ?_)
      replace qr_60 : r_60 = zMost (sK σ (G)) (sF σ (G)) (P) (n) (rd) (h) ∧ 0 ≤ r_60 ∧ r_60 ≤ 9999 := qr_60
      refine x_isub hx hb dX11_worth_63 ?_
      refine x_retQ hx hb hr (by omega) ?_ hP hD hS dX11_worth_64 hlocks
      refine ⟨rfl, hfr, ?_, _, _, _, _, ⟨hqm0, hqm1, hqm2⟩, ost_8⟩
      rw [qr_52.1, qr_60.1, hPn_6, hGn_7, e9, e8]
      unfold zWorth; rw [if_pos (by omega), zWorth_cls (by omega) (by omega) hn8 hph.1 hph.2]
    · refine x_ldc (n := -1000000001) hx hb hown hw_2 (by decide +kernel) dX11_worth_18 ?_
      refine x_retQ hx hb hr (by omega) ?_ hP hD hS dX11_worth_20 hlocks
      refine ⟨rfl, hfr, by unfold zWorth; rw [if_neg (by omega)], nm, rm, Pm, Gm, hsm9, hom⟩
