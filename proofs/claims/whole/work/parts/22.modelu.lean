def zTold (S : Int → Int) (c a b v : Int) : Int × (Int → Int) := if c = 104 then (if a < 8 ∧ S 0 ≠ 8 then (1, zJoin S a b v) else (0, S)) else if c = 114 then (if a ≤ 1 then (1, upI S 1 a) else (0, S)) else if c = 103 then (if zGiftR (mP S) (S 0) a b v = 0 then (1, zGives S a b v) else (0, S)) else if c = 109 then (if 0 ≤ a ∧ a < S 0 ∧ 0 ≤ b ∧ b < S 0 ∧ a ≠ b then (1, zSwapS S a b) else (0, S)) else if S 0 ≠ 0 then (1, upI S 0 (S 0 - 1)) else (0, S)
def zTok (c : Int) (N : Int → Int) : Prop := (c ≠ 117 → 0 ≤ N 0 ∧ N 0 ≤ 9) ∧ (c ≠ 117 → c ≠ 114 → 0 ≤ N 1 ∧ N 1 ≤ 9) ∧ (c = 104 ∨ c = 103 → 0 ≤ N 2 ∧ N 2 ≤ 9999)
theorem zTold_rng (S : Int → Int) (c a b v : Int) : (zTold S c a b v).1 = 0 ∨ (zTold S c a b v).1 = 1 := by
  unfold zTold
  repeat' split
  all_goals (first | exact Or.inl rfl | exact Or.inr rfl)
theorem zTold_ok {S : Int → Int} (ok : SmOk S) (h8 : S 0 ≤ 8) {c : Int} {N : Int → Int} (hN : zTok c N) : SmOk (zTold S c (N 0) (N 1) (N 2)).2 ∧ (zTold S c (N 0) (N 1) (N 2)).2 0 ≤ 8 := by
  have hn := ok.2.1
  unfold zTold
  by_cases c1 : c = 104
  · have a := hN.1 (by omega)
    have b := hN.2.1 (by omega) (by omega)
    have v := hN.2.2 (by omega)
    rw [if_pos c1]
    by_cases q : N 0 < 8 ∧ S 0 ≠ 8
    · rw [if_pos q]
      have z := SmOk_adds ok (k := N 0) (f := N 1) (p := N 2) h8 (by omega) (by omega) (by omega)
      rw [if_neg q.2] at z
      exact ⟨z, by show zJoin S (N 0) (N 1) (N 2) 0 ≤ 8; unfold zJoin; rw [upI_s]; omega⟩
    · rw [if_neg q]; exact ⟨ok, h8⟩
  · rw [if_neg c1]
    by_cases c2 : c = 114
    · have a := hN.1 (by omega)
      rw [if_pos c2]
      by_cases q : N 0 ≤ 1
      · rw [if_pos q]
        show SmOk (upI S 1 (N 0)) ∧ upI S 1 (N 0) 0 ≤ 8
        refine ⟨⟨upI_rng ok.1 ⟨by omega, by omega⟩, by rw [upI_n (by omega)]; exact ok.2.1, by rw [upI_s]; omega, fun i hi hi2 => ?_⟩, by show upI S 1 (N 0) 0 ≤ 8; rw [upI_n (by omega)]; exact h8⟩
        rw [upI_n (by omega)] at hi2
        rw [upI_n (by omega), upI_n (by omega), upI_n (by omega)]
        exact ok.2.2.2 i hi hi2
      · rw [if_neg q]; exact ⟨ok, h8⟩
    · rw [if_neg c2]
      by_cases c3 : c = 103
      · rw [if_pos c3]
        by_cases q : zGiftR (mP S) (S 0) (N 0) (N 1) (N 2) = 0
        · rw [if_pos q]
          have z := SmOk_givesIf ok (a := N 0) (b := N 1) (c := N 2)
          rw [if_pos q] at z
          have g := zGiftR_0 rfl q
          exact ⟨z, by show zGives S (N 0) (N 1) (N 2) 0 ≤ 8; rw [zGives_lo g.1 g.2.2.1 (by omega)]; exact h8⟩
        · rw [if_neg q]; exact ⟨ok, h8⟩
      · rw [if_neg c3]
        by_cases c4 : c = 109
        · rw [if_pos c4]
          by_cases q : 0 ≤ N 0 ∧ N 0 < S 0 ∧ 0 ≤ N 1 ∧ N 1 < S 0 ∧ N 0 ≠ N 1
          · rw [if_pos q]
            exact ⟨SmOk_swap ok ⟨q.1, q.2.1⟩ ⟨q.2.2.1, q.2.2.2.1⟩ q.2.2.2.2 trivial, by show zSwapS S (N 0) (N 1) 0 ≤ 8; rw [zSwapS_hd q.1 q.2.2.1 (by omega)]; exact h8⟩
          · rw [if_neg q]; exact ⟨ok, h8⟩
        · rw [if_neg c4]
          by_cases q : S 0 ≠ 0
          · rw [if_pos q]
            show SmOk (upI S 0 (S 0 - 1)) ∧ upI S 0 (S 0 - 1) 0 ≤ 8
            refine ⟨⟨upI_rng ok.1 ⟨by omega, by omega⟩, by rw [upI_s]; omega, by rw [upI_n (by omega)]; exact ok.2.2.1, fun i hi hi2 => ?_⟩, by show upI S 0 (S 0 - 1) 0 ≤ 8; rw [upI_s]; omega⟩
            rw [upI_s] at hi2
            rw [upI_n (by omega), upI_n (by omega), upI_n (by omega)]
            exact ok.2.2.2 i hi (by omega)
          · rw [if_neg q]; exact ⟨ok, h8⟩

set_option maxHeartbeats 4000000 in
set_option maxRecDepth 100000 in
theorem c_X12_comesTold (l : Launch) (g : xG) (σ : xS) (A : Nat → Prop) (ov : Nat → Int) (S : Int → Int) (hob : MObj g σ.1 ov) (hs0 : MArr g σ.1 38 29 S) (hok : SmOk S) (Nm : Int → Int) (h48 : MArr g σ.1 48 3 Nm) (hNm : ∀ k, inR (Nm k)) (hn8 : S 0 ≤ 8) (c9 : Int) (hl : c9 = 104 ∨ c9 = 114 ∨ c9 = 103 ∨ c9 = 109 ∨ c9 = 117) (hN : zTok c9 Nm) : Met l yX12_comesTold wsX12_comesTold ({ frames := 6, cells := 0, slots := 0, locals := 192 }) (va_Pc [.ref (g.2.2 37), .int (iI (c9))] (xPreQ g A σ)) (x_Qi g A (fun r σ1 => σ1.2 = σ.2 ∧ (∀ j, j ≠ 38 → σ1.1 j = σ.1 j) ∧ r = (zTold S c9 (Nm 0) (Nm 1) (Nm 2)).1 ∧ MArr g σ1.1 38 29 (zTold S c9 (Nm 0) (Nm 1) (Nm 2)).2)) (0) (0) A := by
  refine Met.ofW (cc := cX12_comesTold) (maxL := 4) (ret := (some .boolean)) (by decide) rfl ?_
  intro p e s m args below meth c s₁ B hml hv
  obtain ⟨rfl, hP, hK, hD, hA⟩ := hv
  have hx := B.exec
  have hb := B.bytes
  have hr := B.returns
  have hts := atoms_spec (ws := wsX12_comesTold) B.pre
  have hown : s.vm.findClass RX12 = some m.cls := findClass_of_methodNamed B.named
  have hlocks := B.notSynchronized
  have hS : va_S A s.heap s.heap [] := va_S.rf
  have hfr : ∀ j, (j ≠ 38) → σ.1 j = σ.1 j := fun _ _ => rfl
  have hl := lv_entry ([.ref (g.2.2 37), .int (iI (c9))]) (n := 4) (Nat.le_of_ble_eq_true rfl)
  rw [lg_entry_eq]
  generalize (lg_sl ([.ref (g.2.2 37), .int (iI (c9))]) ++ List.replicate (4 - (lg_sl ([.ref (g.2.2 37), .int (iI (c9))])).length) Slot.unset).toArray = ls at hl ⊢
  have hl : lv_has ls 4 [(0, .ref (g.2.2 37)), (1, .int (iI (c9)))] := hl
  have hn0 := hok.2.1
  have hrd0 := hok.2.2.1
  have hw_0 := hts (.fieldLink RX12 40 "TwiceAsRichModel" "numbers" "[I") (by decide +kernel)
  have hin_X12 : ∀ w ∈ wsX120, w ∈ wsX12_comesTold := by decide +kernel
  have hw_2 := hts (.fieldLink RX12 9 "TwiceAsRichModel" "s" "[I") (by decide +kernel)
  refine lv_aload_n hx hb dX12_comesTold_0 rfl (lv_at hl 0 rfl) ?_
  refine x_get (C := RX12) (T := TX12) (N := 24) hx hb hts hin_X12 hown hK hP (37) (by decide) hob rfl 16 (by decide) hw_0 (fun _ h9 => h9) rfl dX12_comesTold_1 ?_
  refine x_iconst hx hb dX12_comesTold_4 ?_
  refine x_iald (f := Nm) hx hb hK hP (48) (by decide) h48 (by omega) (by omega) (by decide) dX12_comesTold_5 ?_
  have hb_1 := hNm (0)
  refine lv_istore_n (lv' := [(2, .int (iI (Nm (0)))), (0, .ref (g.2.2 37)), (1, .int (iI (c9)))]) hx hb dX12_comesTold_6 rfl hl (by decide) rfl (fun ls hl => ?_)
  refine lv_aload_n hx hb dX12_comesTold_7 rfl (lv_at hl 1 rfl) ?_
  refine x_get (C := RX12) (T := TX12) (N := 24) hx hb hts hin_X12 hown hK hP (37) (by decide) hob rfl 16 (by decide) hw_0 (fun _ h9 => h9) rfl dX12_comesTold_8 ?_
  refine x_iconst hx hb dX12_comesTold_11 ?_
  refine x_iald (f := Nm) hx hb hK hP (48) (by decide) h48 (by omega) (by omega) (by decide) dX12_comesTold_12 ?_
  have hb_2 := hNm (1)
  refine lv_istore_n (lv' := [(3, .int (iI (Nm (1)))), (2, .int (iI (Nm (0)))), (0, .ref (g.2.2 37)), (1, .int (iI (c9)))]) hx hb dX12_comesTold_13 rfl hl (by decide) rfl (fun ls hl => ?_)
  refine lv_iload_n hx hb dX12_comesTold_14 rfl (lv_at hl 3 rfl) ?_
  have c_15 : c9 = 103 ∨ c9 = 104 ∨ c9 = 109 ∨ c9 = 114 ∨ (c9 ≠ 103 ∧ c9 ≠ 104 ∧ c9 ≠ 109 ∧ c9 ≠ 114) := by omega
  rcases c_15 with c_15 | c_15 | c_15 | c_15 | c_15
  · refine x_look (z := 103) (off := (84)) (tgt := 99) hx hb c_15 (by decide) dX12_comesTold_15 (by decide) (by decide +kernel) (by decide) ?_
    have hnA := hN.1 (by omega)
    have hB := hN.2.1 (by omega) (by omega)
    have hV := hN.2.2 (by omega)
    refine lv_aload_n hx hb dX12_comesTold_99 rfl (lv_at hl 2 rfl) ?_
    refine lv_iload_n hx hb dX12_comesTold_100 rfl (lv_at hl 1 rfl) ?_
    refine lv_iload_n hx hb dX12_comesTold_101 rfl (lv_at hl 0 rfl) ?_
    refine lv_aload_n hx hb dX12_comesTold_102 rfl (lv_at hl 2 rfl) ?_
    refine x_get (C := RX12) (T := TX12) (N := 24) hx hb hts hin_X12 hown hK hP (37) (by decide) hob rfl 16 (by decide) hw_0 (fun _ h9 => h9) rfl dX12_comesTold_103 ?_
    refine x_iconst hx hb dX12_comesTold_106 ?_
    refine x_iald (f := Nm) hx hb hK hP (48) (by decide) h48 (by omega) (by omega) (by decide) dX12_comesTold_107 ?_
    have hb_3 := hNm (2)
    refine x_cqi0 (va_runV (As := [.int (iI (Nm (0))), .int (iI (Nm (1))), .int (iI (Nm (2)))]) (rest := []) ⟨hx, hb, hml, hown, hts⟩ (c_X12_givesIf l g σ A (ov) S hob hs0 hok (Nm (0)) (by omega) (Nm (1)) (by omega) (Nm (2)) (by omega)) (cwV 3 hts gX12_comesTold_X12_givesIf rfl rfl rfl (by decide +kernel) ⟨Nat.le_of_ble_eq_true rfl, Nat.le_of_ble_eq_true rfl⟩) (x_preVQ hK hP hD hS hA (x_recv hK hP (i := 37) (by decide) hob rfl)) rfl rfl hl.1 rfl (lv_room (Nat.le_of_ble_eq_true rfl)) dX12_comesTold_108 ⟨by decide, by decide⟩) hS (fun r_108 σ1 H locs hr_108 hpost hP hD hS => ?_)
    obtain ⟨M_4, p1⟩ := σ1
    obtain ⟨hp0, hfrc, qr_108, hnew⟩ := hpost
    obtain rfl : p1 = σ.2 := hp0
    have hP : xP g (M_4, σ.2) H := hP
    have hD : xD g A (M_4, σ.2) := hD
    have hob : MObj g M_4 ov := (hfrc (37) (by omega)).trans hob
    have h48 := (hfrc (48) (by omega)).trans h48
    have hfr := x_frc (F := fun j => j ≠ 38) hfr hfrc (fun j h => by have h : j ≠ 38 := h; omega)
    obtain ⟨S_5, hS_5⟩ : ∃ q : Int → Int, q = (if zGiftR (mP S) (S 0) (Nm (0)) (Nm (1)) (Nm (2)) = 0 then zGives S (Nm (0)) (Nm (1)) (Nm (2)) else S) := ⟨_, rfl⟩
    have hs0 : MArr g M_4 38 29 S_5 := by rw [hS_5]; exact hnew
    have oS_5 : SmOk S_5 := by rw [hS_5]; exact SmOk_givesIf hok
    have pS_5 := oS_5.2.1
    refine x_retQz hx hb hr (by omega) ?_ hP hD hS dX12_comesTold_111 hlocks
    have e : zTold S c9 (Nm 0) (Nm 1) (Nm 2) = (r_108, S_5) := by
      unfold zTold
      rw [if_neg (by omega), if_neg (by omega), if_pos (by omega)]
      rcases qr_108 with q | q
      · rw [if_pos q.2, hS_5, if_pos q.2, q.1]
      · rw [if_neg q.2, hS_5, if_neg q.2, q.1]
    exact ⟨rfl, hfr, by rw [e], by rw [e]; exact hs0⟩
  · refine x_look (z := 104) (off := (41)) (tgt := 56) hx hb c_15 (by decide) dX12_comesTold_15 (by decide) (by decide +kernel) (by decide) ?_
    have hnA := hN.1 (by omega)
    have hB := hN.2.1 (by omega) (by omega)
    have hV := hN.2.2 (by omega)
    refine lv_iload_n hx hb dX12_comesTold_56 rfl (lv_at hl 1 rfl) ?_
    refine x_bipush (n := 8) hx hb (by decide +kernel) dX12_comesTold_57 ?_
    refine x_icmp_ge (tgt := 81) hx hb (by omega) (by omega) dX12_comesTold_59 (by decide) (fun c_59 => ?_) (fun c_59 => ?_)
    · refine x_iconst hx hb dX12_comesTold_81 ?_
      refine x_retQz hx hb hr (by omega) ?_ hP hD hS dX12_comesTold_82 hlocks
      have e : zTold S c9 (Nm 0) (Nm 1) (Nm 2) = ((0), S) := by
        unfold zTold
        (repeat (first | rw [if_pos (by omega)] | rw [if_neg (by omega)]))
        try rw [hS]
        try (repeat (first | rw [if_pos (by omega)] | rw [if_neg (by omega)]))
      exact ⟨rfl, hfr, by rw [e], by rw [e]; exact hs0⟩
    · refine lv_aload_n hx hb dX12_comesTold_62 rfl (lv_at hl 2 rfl) ?_
      refine lv_iload_n hx hb dX12_comesTold_63 rfl (lv_at hl 1 rfl) ?_
      refine lv_iload_n hx hb dX12_comesTold_64 rfl (lv_at hl 0 rfl) ?_
      refine lv_aload_n hx hb dX12_comesTold_65 rfl (lv_at hl 2 rfl) ?_
      refine x_get (C := RX12) (T := TX12) (N := 24) hx hb hts hin_X12 hown hK hP (37) (by decide) hob rfl 16 (by decide) hw_0 (fun _ h9 => h9) rfl dX12_comesTold_66 ?_
      refine x_iconst hx hb dX12_comesTold_69 ?_
      refine x_iald (f := Nm) hx hb hK hP (48) (by decide) h48 (by omega) (by omega) (by decide) dX12_comesTold_70 ?_
      have hb_6 := hNm (2)
      refine x_cqi0 (va_runV (As := [.int (iI (Nm (0))), .int (iI (Nm (1))), .int (iI (Nm (2)))]) (rest := []) ⟨hx, hb, hml, hown, hts⟩ (c_X12_adds l g σ A (ov) S hob hs0 hok (by omega) (Nm (0)) (by omega) (Nm (1)) (by omega) (Nm (2)) (by omega)) (cwV 3 hts gX12_comesTold_X12_adds rfl rfl rfl (by decide +kernel) ⟨Nat.le_of_ble_eq_true rfl, Nat.le_of_ble_eq_true rfl⟩) (x_preVQ hK hP hD hS hA (x_recv hK hP (i := 37) (by decide) hob rfl)) rfl rfl hl.1 rfl (lv_room (Nat.le_of_ble_eq_true rfl)) dX12_comesTold_71 ⟨by decide, by decide⟩) hS (fun r_71 σ1 H locs hr_71 hpost hP hD hS => ?_)
      obtain ⟨M_7, p1⟩ := σ1
      obtain ⟨hp0, hfrc, qr_71, hnew⟩ := hpost
      obtain rfl : p1 = σ.2 := hp0
      have hP : xP g (M_7, σ.2) H := hP
      have hD : xD g A (M_7, σ.2) := hD
      have hob : MObj g M_7 ov := (hfrc (37) (by omega)).trans hob
      have h48 := (hfrc (48) (by omega)).trans h48
      have hfr := x_frc (F := fun j => j ≠ 38) hfr hfrc (fun j h => by have h : j ≠ 38 := h; omega)
      obtain ⟨S_8, hS_8⟩ : ∃ q : Int → Int, q = (if S 0 = 8 then S else zJoin S (Nm (0)) (Nm (1)) (Nm (2))) := ⟨_, rfl⟩
      have hs0 : MArr g M_7 38 29 S_8 := by rw [hS_8]; exact hnew
      have oS_8 : SmOk S_8 := by rw [hS_8]; exact SmOk_adds hok (by omega) (by omega) (by omega) (by omega)
      have pS_8 := oS_8.2.1
      refine x_if_eq (tgt := 81) hx hb (by omega) dX12_comesTold_74 (by decide) (fun c_74 => ?_) (fun c_74 => ?_)
      · refine x_iconst hx hb dX12_comesTold_81 ?_
        refine x_retQz hx hb hr (by omega) ?_ hP hD hS dX12_comesTold_82 hlocks
        have e : zTold S c9 (Nm 0) (Nm 1) (Nm 2) = ((0), S_8) := by
          unfold zTold
          (repeat (first | rw [if_pos (by omega)] | rw [if_neg (by omega)]))
          try rw [hS_8]
          try (repeat (first | rw [if_pos (by omega)] | rw [if_neg (by omega)]))
        exact ⟨rfl, hfr, by rw [e], by rw [e]; exact hs0⟩
      · refine x_iconst hx hb dX12_comesTold_77 ?_
        refine lv_goto (tgt := 82) hx hb dX12_comesTold_78 (by decide) ?_
        refine x_retQz hx hb hr (by omega) ?_ hP hD hS dX12_comesTold_82 hlocks
        have e : zTold S c9 (Nm 0) (Nm 1) (Nm 2) = ((1), S_8) := by
          unfold zTold
          (repeat (first | rw [if_pos (by omega)] | rw [if_neg (by omega)]))
          try rw [hS_8]
          try (repeat (first | rw [if_pos (by omega)] | rw [if_neg (by omega)]))
        exact ⟨rfl, hfr, by rw [e], by rw [e]; exact hs0⟩
  · refine x_look (z := 109) (off := (97)) (tgt := 112) hx hb c_15 (by decide) dX12_comesTold_15 (by decide) (by decide +kernel) (by decide) ?_
    have hnA := hN.1 (by omega)
    have hB := hN.2.1 (by omega) (by omega)
    refine lv_aload_n hx hb dX12_comesTold_112 rfl (lv_at hl 2 rfl) ?_
    refine lv_iload_n hx hb dX12_comesTold_113 rfl (lv_at hl 1 rfl) ?_
    refine lv_iload_n hx hb dX12_comesTold_114 rfl (lv_at hl 0 rfl) ?_
    refine x_ci (va_runV (As := [.int (iI (Nm (0))), .int (iI (Nm (1)))]) (rest := []) ⟨hx, hb, hml, hown, hts⟩ (c_X12_areTwo l g σ (ov) S hob hs0 hok (Nm (0)) (by omega) (Nm (1)) (by omega)) (cwV 2 hts gX12_comesTold_X12_areTwo rfl rfl rfl (by decide +kernel) ⟨Nat.le_of_ble_eq_true rfl, Nat.le_of_ble_eq_true rfl⟩) (x_preV hK hP (x_recv hK hP (i := 37) (by decide) hob rfl)) rfl rfl hl.1 rfl (lv_room (Nat.le_of_ble_eq_true rfl)) dX12_comesTold_115 ⟨Nat.le_of_ble_eq_true rfl, Nat.le_of_ble_eq_true rfl⟩) (fun r_115 hr_115 qr_115 => ?_)
    replace qr_115 : (r_115 = 1 ∧ (0 ≤ (Nm (0)) ∧ (Nm (0)) < S 0 ∧ 0 ≤ (Nm (1)) ∧ (Nm (1)) < S 0 ∧ (Nm (0)) ≠ (Nm (1)))) ∨ (r_115 = 0 ∧ ¬ (0 ≤ (Nm (0)) ∧ (Nm (0)) < S 0 ∧ 0 ≤ (Nm (1)) ∧ (Nm (1)) < S 0 ∧ (Nm (0)) ≠ (Nm (1)))) := qr_115
    refine x_if_ne (tgt := 123) hx hb (by omega) dX12_comesTold_118 (by decide) (fun c_118 => ?_) (fun c_118 => ?_)
    · refine lv_aload_n hx hb dX12_comesTold_123 rfl (lv_at hl 2 rfl) ?_
      refine lv_iload_n hx hb dX12_comesTold_124 rfl (lv_at hl 1 rfl) ?_
      refine lv_iload_n hx hb dX12_comesTold_125 rfl (lv_at hl 0 rfl) ?_
      refine x_cqv0 (va_runV (As := [.int (iI (Nm (0))), .int (iI (Nm (1)))]) (rest := []) ⟨hx, hb, hml, hown, hts⟩ (c_X12_changes l g σ A (ov) S hob hs0 hok (Nm (0)) (by omega) (Nm (1)) (by omega) (by omega)) (cwV 2 hts gX12_comesTold_X12_changes rfl rfl rfl (by decide +kernel) ⟨Nat.le_of_ble_eq_true rfl, Nat.le_of_ble_eq_true rfl⟩) (x_preVQ hK hP hD hS hA (x_recv hK hP (i := 37) (by decide) hob rfl)) rfl rfl hl.1 rfl (lv_room (Nat.le_of_ble_eq_true rfl)) dX12_comesTold_126 ⟨by decide, by decide⟩) hS (fun σ1 H locs hpost hP hD hS => ?_)
      obtain ⟨M_9, p1⟩ := σ1
      obtain ⟨hp0, hfrc, hnew⟩ := hpost
      obtain rfl : p1 = σ.2 := hp0
      have hP : xP g (M_9, σ.2) H := hP
      have hD : xD g A (M_9, σ.2) := hD
      have hob : MObj g M_9 ov := (hfrc (37) (by omega)).trans hob
      have h48 := (hfrc (48) (by omega)).trans h48
      have hfr := x_frc (F := fun j => j ≠ 38) hfr hfrc (fun j h => by have h : j ≠ 38 := h; omega)
      obtain ⟨S_10, hS_10⟩ : ∃ q : Int → Int, q = zSwapS S (Nm (0)) (Nm (1)) := ⟨_, rfl⟩
      have hs0 : MArr g M_9 38 29 S_10 := by rw [hS_10]; exact hnew
      have oS_10 : SmOk S_10 := by rw [hS_10]; exact SmOk_swap hok (by omega) (by omega) (by omega) trivial
      refine x_iconst hx hb dX12_comesTold_129 ?_
      refine x_retQz hx hb hr (by omega) ?_ hP hD hS dX12_comesTold_130 hlocks
      have e : zTold S c9 (Nm 0) (Nm 1) (Nm 2) = ((1), S_10) := by
        unfold zTold
        (repeat (first | rw [if_pos (by omega)] | rw [if_neg (by omega)]))
        try rw [hS_10]
        try (repeat (first | rw [if_pos (by omega)] | rw [if_neg (by omega)]))
      exact ⟨rfl, hfr, by rw [e], by rw [e]; exact hs0⟩
    · refine x_iconst hx hb dX12_comesTold_121 ?_
      refine x_retQz hx hb hr (by omega) ?_ hP hD hS dX12_comesTold_122 hlocks
      have e : zTold S c9 (Nm 0) (Nm 1) (Nm 2) = ((0), S) := by
        unfold zTold
        (repeat (first | rw [if_pos (by omega)] | rw [if_neg (by omega)]))
        try rw [hS]
        try (repeat (first | rw [if_pos (by omega)] | rw [if_neg (by omega)]))
      exact ⟨rfl, hfr, by rw [e], by rw [e]; exact hs0⟩
  · refine x_look (z := 114) (off := (68)) (tgt := 83) hx hb c_15 (by decide) dX12_comesTold_15 (by decide) (by decide +kernel) (by decide) ?_
    have hnA := hN.1 (by omega)
    refine lv_iload_n hx hb dX12_comesTold_83 rfl (lv_at hl 1 rfl) ?_
    refine x_iconst hx hb dX12_comesTold_84 ?_
    refine x_icmp_le (tgt := 90) hx hb (by omega) (by omega) dX12_comesTold_85 (by decide) (fun c_85 => ?_) (fun c_85 => ?_)
    · refine lv_aload_n hx hb dX12_comesTold_90 rfl (lv_at hl 2 rfl) ?_
      refine x_get (C := RX12) (T := TX12) (N := 24) hx hb hts hin_X12 hown hK hP (37) (by decide) hob rfl 0 (by decide) hw_2 (fun _ h9 => h9) rfl dX12_comesTold_91 ?_
      refine x_iconst hx hb dX12_comesTold_94 ?_
      refine lv_iload_n hx hb dX12_comesTold_95 rfl (lv_at hl 1 rfl) ?_
      refine x_iast (f := S) hx hb hK hP hD hS (38) (by decide) hs0 (by omega) (by omega) (by decide) dX12_comesTold_96 (fun M_11 H locs hnew hne hP hD hS => ?_)
      obtain ⟨f_12, hf_12⟩ : ∃ q : Int → Int, q = (upI S (1) (Nm (0))) := ⟨_, rfl⟩
      rw [← hf_12] at hnew
      have hP : xP g (M_11, σ.2) H := hP
      have hD : xD g A (M_11, σ.2) := hD
      have hs0 : M_11 (38) = .inl (g.2.1 0, 29, .inl (fun k => iI (f_12 (k : Int)))) := hnew
      have hob : MObj g M_11 ov := (hne (37) (by decide)).trans hob
      have h48 := (hne (48) (by decide)).trans h48
      have hfr := x_fr (F := fun j => j ≠ 38) hfr hne (fun j h => by have h : j ≠ 38 := h; omega)
      refine x_iconst hx hb dX12_comesTold_97 ?_
      refine x_retQz hx hb hr (by omega) ?_ hP hD hS dX12_comesTold_98 hlocks
      have e : zTold S c9 (Nm 0) (Nm 1) (Nm 2) = ((1), f_12) := by
        unfold zTold
        (repeat (first | rw [if_pos (by omega)] | rw [if_neg (by omega)]))
        try rw [hf_12]
        try (repeat (first | rw [if_pos (by omega)] | rw [if_neg (by omega)]))
      exact ⟨rfl, hfr, by rw [e], by rw [e]; exact hs0⟩
    · refine x_iconst hx hb dX12_comesTold_88 ?_
      refine x_retQz hx hb hr (by omega) ?_ hP hD hS dX12_comesTold_89 hlocks
      have e : zTold S c9 (Nm 0) (Nm 1) (Nm 2) = ((0), S) := by
        unfold zTold
        (repeat (first | rw [if_pos (by omega)] | rw [if_neg (by omega)]))
        try rw [hS]
        try (repeat (first | rw [if_pos (by omega)] | rw [if_neg (by omega)]))
      exact ⟨rfl, hfr, by rw [e], by rw [e]; exact hs0⟩
  · refine x_lookD (tgt := 131) hx hb (by omega) dX12_comesTold_15 (by decide) (fun q hq => by simp at hq; rcases hq with rfl | rfl | rfl | rfl <;> (simp only; omega)) (by decide) ?_
    refine lv_aload_n hx hb dX12_comesTold_131 rfl (lv_at hl 2 rfl) ?_
    refine x_get (C := RX12) (T := TX12) (N := 24) hx hb hts hin_X12 hown hK hP (37) (by decide) hob rfl 0 (by decide) hw_2 (fun _ h9 => h9) rfl dX12_comesTold_132 ?_
    refine x_iconst hx hb dX12_comesTold_135 ?_
    refine x_iald (f := S) hx hb hK hP (38) (by decide) hs0 (by omega) (by omega) (by decide) dX12_comesTold_136 ?_
    have hb_13 := hok.1 (0)
    refine x_if_ne (tgt := 142) hx hb (by omega) dX12_comesTold_137 (by decide) (fun c_137 => ?_) (fun c_137 => ?_)
    · refine lv_aload_n hx hb dX12_comesTold_142 rfl (lv_at hl 2 rfl) ?_
      refine x_get (C := RX12) (T := TX12) (N := 24) hx hb hts hin_X12 hown hK hP (37) (by decide) hob rfl 0 (by decide) hw_2 (fun _ h9 => h9) rfl dX12_comesTold_143 ?_
      refine x_iconst hx hb dX12_comesTold_146 ?_
      refine lv_dup2_11 hx hb dX12_comesTold_147 rfl rfl ?_
      refine x_iald (f := S) hx hb hK hP (38) (by decide) hs0 (by omega) (by omega) (by decide) dX12_comesTold_148 ?_
      have hb_14 := hok.1 (0)
      refine x_iconst hx hb dX12_comesTold_149 ?_
      refine x_isub hx hb dX12_comesTold_150 ?_
      refine x_iast (f := S) hx hb hK hP hD hS (38) (by decide) hs0 (by omega) (by omega) (by decide) dX12_comesTold_151 (fun M_15 H locs hnew hne hP hD hS => ?_)
      obtain ⟨f_16, hf_16⟩ : ∃ q : Int → Int, q = (upI S (0) ((S (0)) - 1)) := ⟨_, rfl⟩
      rw [← hf_16] at hnew
      have hP : xP g (M_15, σ.2) H := hP
      have hD : xD g A (M_15, σ.2) := hD
      have hs0 : M_15 (38) = .inl (g.2.1 0, 29, .inl (fun k => iI (f_16 (k : Int)))) := hnew
      have hob : MObj g M_15 ov := (hne (37) (by decide)).trans hob
      have h48 := (hne (48) (by decide)).trans h48
      have hfr := x_fr (F := fun j => j ≠ 38) hfr hne (fun j h => by have h : j ≠ 38 := h; omega)
      refine x_iconst hx hb dX12_comesTold_152 ?_
      refine x_retQz hx hb hr (by omega) ?_ hP hD hS dX12_comesTold_153 hlocks
      have e : zTold S c9 (Nm 0) (Nm 1) (Nm 2) = ((1), f_16) := by
        unfold zTold
        (repeat (first | rw [if_pos (by omega)] | rw [if_neg (by omega)]))
        try rw [hf_16]
        try (repeat (first | rw [if_pos (by omega)] | rw [if_neg (by omega)]))
      exact ⟨rfl, hfr, by rw [e], by rw [e]; exact hs0⟩
    · refine x_iconst hx hb dX12_comesTold_140 ?_
      refine x_retQz hx hb hr (by omega) ?_ hP hD hS dX12_comesTold_141 hlocks
      have e : zTold S c9 (Nm 0) (Nm 1) (Nm 2) = ((0), S) := by
        unfold zTold
        (repeat (first | rw [if_pos (by omega)] | rw [if_neg (by omega)]))
        try rw [hS]
        try (repeat (first | rw [if_pos (by omega)] | rw [if_neg (by omega)]))
      exact ⟨rfl, hfr, by rw [e], by rw [e]; exact hs0⟩
