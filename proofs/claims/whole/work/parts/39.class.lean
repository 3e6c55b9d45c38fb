set_option maxHeartbeats 4000000 in
set_option maxRecDepth 100000 in
theorem c_X5_noteWhatSuits (l : Launch) (g : xG) (σ : xS) (A : Nat → Prop) (wy un hd9 mv : Int) (hp13 : PObj g σ.1 wy un hd9 mv) (na ra : Int) (Pa : Int → Int) (Ga : Int → Option Nat) (hsa9 : StAt g σ.1 10 na ra Pa Ga) (hoa : StOk σ na ra Pa Ga) (hH : HsOk σ) (ri : Nat) (h16 : MGrs g σ.1) (i : Int) (hi : 0 ≤ i ∧ i < na) (hn6 : na ≤ 6) (nx : Int) (hnx : 0 ≤ nx ∧ nx < na ∧ nx ≠ i) (c0 : Int) (hc0 : 0 ≤ c0 ∧ c0 ≤ 20) (hrie : ri = 17 + i.toNat) (U0 : Int → Int) (hri : MArr g σ.1 ri 21 U0) (hU0r : ∀ k, inR (U0 k)) : Met l yX5_noteWhatSuits wsX5_noteWhatSuits ({ frames := 5, cells := 0, slots := 0, locals := 160 }) (va_Pc [.ref (g.2.2 13), .int (iI (i)), .int (iI (nx)), .int (iI (c0))] (xPreQ g A σ)) (x_Qv g A (fun σ1 => σ1.2 = σ.2 ∧ (∀ j, j ≠ 12 ∧ j ≠ ri → σ1.1 j = σ.1 j) ∧ ∃ T U, StAt g σ1.1 10 na ra T Ga ∧ StOk σ na ra T Ga ∧ MArr g σ1.1 ri 21 U ∧ (∀ k, inR (U k)) ∧ ∀ a b, 1 ≤ a → 1 ≤ b → a + b ≤ c0 → (zBt (U a) b ↔ zPr (sK σ Ga) (sF σ Ga) i nx a b))) (0) (0) A := by
  refine Met.ofW (cc := cX5_noteWhatSuits) (maxL := 6) (ret := none) (by decide) rfl ?_
  intro p e s m args below meth c s₁ B hml hv
  obtain ⟨rfl, hP, hK, hD, hA⟩ := hv
  have hx := B.exec
  have hb := B.bytes
  have hr := B.returns
  have hts := atoms_spec (ws := wsX5_noteWhatSuits) B.pre
  have hown : s.vm.findClass RX5 = some m.cls := findClass_of_methodNamed B.named
  have hlocks := B.notSynchronized
  have hS : va_S A s.heap s.heap [] := va_S.rf
  have hfr : ∀ j, (j ≠ 12 ∧ j ≠ ri) → σ.1 j = σ.1 j := fun _ _ => rfl
  have hl := lv_entry ([.ref (g.2.2 13), .int (iI (i)), .int (iI (nx)), .int (iI (c0))]) (n := 6) (Nat.le_of_ble_eq_true rfl)
  rw [lg_entry_eq]
  generalize (lg_sl ([.ref (g.2.2 13), .int (iI (i)), .int (iI (nx)), .int (iI (c0))]) ++ List.replicate (6 - (lg_sl ([.ref (g.2.2 13), .int (iI (i)), .int (iI (nx)), .int (iI (c0))])).length) Slot.unset).toArray = ls at hl ⊢
  have hl : lv_has ls 6 [(0, .ref (g.2.2 13)), (1, .int (iI (i))), (2, .int (iI (nx))), (3, .int (iI (c0)))] := hl
  have hqa0 : σ.1 10 = .inr (7, [.ref (g.2.2 11), .ref (g.2.2 12), .int (iI na), .int (iI ra)]) := hsa9.1
  have hqa1 : MRef g σ.1 11 9 Ga := hsa9.2.1
  have hqa2 : MArr g σ.1 12 9 Pa := hsa9.2.2
  have hoa1 := hoa.1
  have hoa2 := hoa.2.1
  have hoa3 := hoa.2.2.1
  have hxN : xN = 51 := rfl
  have hw_0 := hts (.fieldLink RX5 27 "TwiceAsRich$Partings" "suits" "[[I") (by decide +kernel)
  have hin_X5 : ∀ w ∈ wsX50, w ∈ wsX5_noteWhatSuits := by decide +kernel
  have hw_2 := hts (.fieldLink RX5 18 "TwiceAsRich$Partings" "parted" "LTwiceAsRich$Street;") (by decide +kernel)
  have hw_3 := hts (.fieldLink RX5 56 "TwiceAsRich$Street" "purses" "[I") (by decide +kernel)
  have hin_X7 : ∀ w ∈ wsX70, w ∈ wsX5_noteWhatSuits := by decide +kernel
  refine lv_aload_n hx hb dX5_noteWhatSuits_0 rfl (lv_at hl 0 rfl) ?_
  refine x_get (C := RX5) (T := TX5) (N := 8) hx hb hts hin_X5 hown hK hP (13) (by decide) hp13 rfl 7 (by decide) hw_0 (fun _ h9 => h9) rfl dX5_noteWhatSuits_1 ?_
  refine lv_iload_n hx hb dX5_noteWhatSuits_4 rfl (lv_at hl 1 rfl) ?_
  have hG_1 : xGs g (i) = some (g.2.2 ri) := by rw [hrie]
  refine x_aalg (f := xGs g) hx hb hK hP (16) (by decide) h16 (by omega) (by omega) (by decide) hG_1 dX5_noteWhatSuits_5 ?_
  refine x_iconst hx hb dX5_noteWhatSuits_6 ?_
  refine x_cqv0 (va_runS (As := [.ref (g.2.2 (ri)), .int (iI (0))]) (rest := []) ⟨hx, hb, hml, hown, hts⟩ (c_J7_fill_53178 l g σ A (ri) (by have hxN : xN = 51 := rfl; omega) (21) (by decide) U0 hri (0)) (va_cwS 2 hts gX5_noteWhatSuits_J7_fill_53178 rfl rfl rfl (by decide +kernel) ⟨Nat.le_of_ble_eq_true rfl, Nat.le_of_ble_eq_true rfl⟩) (x_preSQ hK hP hD hS hA) rfl rfl hl.1 rfl (lv_room (Nat.le_of_ble_eq_true rfl)) dX5_noteWhatSuits_7 ⟨by decide, by decide⟩) hS (fun σ1 H locs hpost hP hD hS => ?_)
  obtain ⟨M_2, p1⟩ := σ1
  obtain ⟨hp0, hne, hnew⟩ := hpost
  obtain rfl : p1 = σ.2 := hp0
  obtain ⟨f_3, hf_3⟩ : ∃ q : Int → Int, q = zCopy (fun _ => 0) U0 ((21 : Nat) : Int) := ⟨_, rfl⟩
  rw [← hf_3] at hnew
  have rf_3 : ∀ k, inR (f_3 k) := by (rw [hf_3]; exact zCopy_all (C := inR) (fun _ => ⟨by omega, by omega⟩) hU0r)
  replace hne : ∀ j, j ≠ ri → M_2 j = σ.1 j := hne
  have hP : xP g (M_2, σ.2) H := hP
  have hD : xD g A (M_2, σ.2) := hD
  have hri : M_2 (ri) = .inl (g.2.1 0, 21, .inl (fun k => iI (f_3 (k : Int)))) := hnew
  have hp13 := (hne (13) (by omega)).trans hp13
  have hqa0 := (hne (10) (by omega)).trans hqa0
  have hqa1 := (hne (11) (by omega)).trans hqa1
  have hqa2 := (hne (12) (by omega)).trans hqa2
  have h16 := (hne (16) (by omega)).trans h16
  have hfr := x_fr (F := fun j => j ≠ 12 ∧ j ≠ ri) hfr hne (fun j h => by have h : j ≠ 12 ∧ j ≠ ri := h; omega)
  refine x_iconst hx hb dX5_noteWhatSuits_10 ?_
  refine lv_istore (lv' := [(4, .int (iI (1))), (0, .ref (g.2.2 13)), (1, .int (iI (i))), (2, .int (iI (nx))), (3, .int (iI (c0)))]) hx hb dX5_noteWhatSuits_11 hl (by decide) rfl (fun ls hl => ?_)
  have hloop_13 : ∀ (k : Nat) (T : Int → Int) (U : Int → Int) (a : Int), ((40 : Int) - a).toNat < k → (ha0 : 1 ≤ a) → (ha1 : a = 1 ∨ a ≤ c0) → (hTo : StOk σ na ra T Ga) → (hUr : ∀ k, inR (U k)) → (hU0 : ∀ k, a ≤ k → k < 21 → U k = 0) → (hUd : ∀ a' b', 1 ≤ a' → a' < a → 1 ≤ b' → a' + b' ≤ c0 → (zBt (U a') b' ↔ zPr (sK σ Ga) (sF σ Ga) i nx a' b')) → ∀ (M : xM) (H : Heap) (locs : List Loc), (hp13 : M (13) = .inr (5, [.int (iI (wy)), .int (iI (un)), .int (iI (hd9)), .int (iI (mv)), .ref (g.2.2 14), .ref (g.2.2 10), .ref (g.2.2 15), .ref (g.2.2 16)])) → (hqa0 : M (10) = .inr (7, [.ref (g.2.2 11), .ref (g.2.2 12), .int (iI (na)), .int (iI (ra))])) → (hqa1 : M (11) = .inl (g.2.1 1, 9, .inr (.inr (.inr (.inr (fun k => Ga (k : Int))))))) → (hqa2 : M (12) = .inl (g.2.1 0, 9, .inl (fun k => iI (T (k : Int))))) → (h16 : M (16) = .inl (g.2.1 2, 6, .inr (.inr (.inr (.inr (fun k => xGs g (k : Int))))))) → (hri : M (ri) = .inl (g.2.1 0, 21, .inl (fun k => iI (U (k : Int))))) → (hfr : ∀ j, (j ≠ 12 ∧ j ≠ ri) → M j = σ.1 j) → xP g (M, σ.2) H → xD g A (M, σ.2) → va_S A s.heap H locs → ∀ (ls : Array Slot), lv_has ls 6 [(4, .int (iI (a))), (0, .ref (g.2.2 13)), (1, .int (iI (i))), (2, .int (iI (nx))), (3, .int (iI (c0)))] → W p l e (headSpec wsX5_noteWhatSuits ({ frames := 5, cells := 0, slots := 0, locals := 160 })).room s m ([.ref (g.2.2 13), .int (iI (i)), .int (iI (nx)), .int (iI (c0))] : List Value).toArray below meth c H locs 0 0 (MQ below (x_Qv g A (fun σ1 => σ1.2 = σ.2 ∧ (∀ j, j ≠ 12 ∧ j ≠ ri → σ1.1 j = σ.1 j) ∧ ∃ T U, StAt g σ1.1 10 na ra T Ga ∧ StOk σ na ra T Ga ∧ MArr g σ1.1 ri 21 U ∧ (∀ k, inR (U k)) ∧ ∀ a b, 1 ≤ a → 1 ≤ b → a + b ≤ c0 → (zBt (U a) b ↔ zPr (sK σ Ga) (sF σ Ga) i nx a b))) ([.ref (g.2.2 13), .int (iI (i)), .int (iI (nx)), .int (iI (c0))] : List Value).toArray s (0) (0) A) (F0 m 13 ls []) := by
    intro k
    induction k with
    | zero =>
      intros; exact absurd (by assumption) (Nat.not_lt_zero _)
    | succ k ih =>
      intro T U a hmeas ha0 ha1 hTo hUr hU0 hUd M H locs hp13 hqa0 hqa1 hqa2 h16 hri hfr hP hD hS ls hl
      have ih_4 := ih
      refine lv_iload hx hb dX5_noteWhatSuits_13 (lv_at hl 0 rfl) ?_
      refine lv_iload_n hx hb dX5_noteWhatSuits_15 rfl (lv_at hl 4 rfl) ?_
      refine x_icmp_ge (tgt := 109) hx hb (by omega) (by omega) dX5_noteWhatSuits_16 (by decide) (fun c_16 => ?_) (fun c_16 => ?_)
      · refine x_retQv hx hb hr ?_ hP hD hS dX5_noteWhatSuits_109 hlocks
        refine ⟨rfl, hfr, _, _, ⟨hqa0, hqa1, hqa2⟩, hTo, hri, hUr, fun a9 b9 h1 h2 h3 => hUd a9 b9 h1 (by omega) h2 h3⟩
      · refine lv_aload_n hx hb dX5_noteWhatSuits_19 rfl (lv_at hl 1 rfl) ?_
        refine x_get (C := RX5) (T := TX5) (N := 8) hx hb hts hin_X5 hown hK hP (13) (by decide) hp13 rfl 5 (by decide) hw_2 (fun _ h9 => h9) rfl dX5_noteWhatSuits_20 ?_
        refine x_get (C := RX7) (T := TX7) (N := 4) hx hb hts hin_X7 hown hK hP (10) (by decide) hqa0 rfl 1 (by decide) hw_3 (fun _ h9 => h9) rfl dX5_noteWhatSuits_23 ?_
        refine lv_iload_n hx hb dX5_noteWhatSuits_26 rfl (lv_at hl 2 rfl) ?_
        refine lv_iload hx hb dX5_noteWhatSuits_27 (lv_at hl 0 rfl) ?_
        refine x_iast (f := T) hx hb hK hP hD hS (12) (by decide) hqa2 (by omega) (by omega) (by decide) dX5_noteWhatSuits_29 (fun M_5 H locs hnew hne hP hD hS => ?_)
        obtain ⟨f_6, hf_6⟩ : ∃ q : Int → Int, q = (upI T (i) (a)) := ⟨_, rfl⟩
        rw [← hf_6] at hnew
        have hP : xP g (M_5, σ.2) H := hP
        have hD : xD g A (M_5, σ.2) := hD
        have hqa2 : M_5 (12) = .inl (g.2.1 0, 9, .inl (fun k => iI (f_6 (k : Int)))) := hnew
        have hp13 := (hne (13) (by decide)).trans hp13
        have hqa0 := (hne (10) (by decide)).trans hqa0
        have hqa1 := (hne (11) (by decide)).trans hqa1
        have h16 := (hne (16) (by decide)).trans h16
        have hri := (hne (ri) (by omega)).trans hri
        have hfr := x_fr (F := fun j => j ≠ 12 ∧ j ≠ ri) hfr hne (fun j h => by have h : j ≠ 12 ∧ j ≠ ri := h; omega)
        have ost_7 : StOk σ (na) (ra) f_6 Ga := by (rw [hf_6]; exact StOk_purse hTo (by omega))
        refine x_iconst hx hb dX5_noteWhatSuits_30 ?_
        refine lv_istore (lv' := [(5, .int (iI (1))), (4, .int (iI (a))), (0, .ref (g.2.2 13)), (1, .int (iI (i))), (2, .int (iI (nx))), (3, .int (iI (c0)))]) hx hb dX5_noteWhatSuits_31 hl (by decide) rfl (fun ls hl => ?_)
        have hloop_33 : ∀ (k : Nat) (T2 : Int → Int) (U2 : Int → Int) (b : Int), ((40 : Int) - b).toNat < k → (hb0 : 1 ≤ b) → (hb1 : b ≤ c0 - a + 1) → (hTo2 : StOk σ na ra T2 Ga) → (hTi : T2 i = a) → (hUr2 : ∀ k, inR (U2 k)) → (hU02 : ∀ k, a < k → k < 21 → U2 k = 0) → (hUd2 : ∀ a' b', 1 ≤ a' → a' < a → 1 ≤ b' → a' + b' ≤ c0 → (zBt (U2 a') b' ↔ zPr (sK σ Ga) (sF σ Ga) i nx a' b')) → (hUa : ∀ j, 1 ≤ j → j < b → (zBt (U2 a) j ↔ zPr (sK σ Ga) (sF σ Ga) i nx a j)) → (hUb : ∀ j, b ≤ j → j ≤ 20 → ¬ zBt (U2 a) j) → ∀ (M : xM) (H : Heap) (locs : List Loc), (hp13 : M (13) = .inr (5, [.int (iI (wy)), .int (iI (un)), .int (iI (hd9)), .int (iI (mv)), .ref (g.2.2 14), .ref (g.2.2 10), .ref (g.2.2 15), .ref (g.2.2 16)])) → (hqa0 : M (10) = .inr (7, [.ref (g.2.2 11), .ref (g.2.2 12), .int (iI (na)), .int (iI (ra))])) → (hqa1 : M (11) = .inl (g.2.1 1, 9, .inr (.inr (.inr (.inr (fun k => Ga (k : Int))))))) → (hqa2 : M (12) = .inl (g.2.1 0, 9, .inl (fun k => iI (T2 (k : Int))))) → (h16 : M (16) = .inl (g.2.1 2, 6, .inr (.inr (.inr (.inr (fun k => xGs g (k : Int))))))) → (hri : M (ri) = .inl (g.2.1 0, 21, .inl (fun k => iI (U2 (k : Int))))) → (hfr : ∀ j, (j ≠ 12 ∧ j ≠ ri) → M j = σ.1 j) → xP g (M, σ.2) H → xD g A (M, σ.2) → va_S A s.heap H locs → ∀ (ls : Array Slot), lv_has ls 6 [(5, .int (iI (b))), (4, .int (iI (a))), (0, .ref (g.2.2 13)), (1, .int (iI (i))), (2, .int (iI (nx))), (3, .int (iI (c0)))] → W p l e (headSpec wsX5_noteWhatSuits ({ frames := 5, cells := 0, slots := 0, locals := 160 })).room s m ([.ref (g.2.2 13), .int (iI (i)), .int (iI (nx)), .int (iI (c0))] : List Value).toArray below meth c H locs 0 0 (MQ below (x_Qv g A (fun σ1 => σ1.2 = σ.2 ∧ (∀ j, j ≠ 12 ∧ j ≠ ri → σ1.1 j = σ.1 j) ∧ ∃ T U, StAt g σ1.1 10 na ra T Ga ∧ StOk σ na ra T Ga ∧ MArr g σ1.1 ri 21 U ∧ (∀ k, inR (U k)) ∧ ∀ a b, 1 ≤ a → 1 ≤ b → a + b ≤ c0 → (zBt (U a) b ↔ zPr (sK σ Ga) (sF σ Ga) i nx a b))) ([.ref (g.2.2 13), .int (iI (i)), .int (iI (nx)), .int (iI (c0))] : List Value).toArray s (0) (0) A) (F0 m 33 ls []) := by
          intro k
          induction k with
          | zero =>
            intros; exact absurd (by assumption) (Nat.not_lt_zero _)
          | succ k ih =>
            intro T2 U2 b hmeas hb0 hb1 hTo2 hTi hUr2 hU02 hUd2 hUa hUb M H locs hp13 hqa0 hqa1 hqa2 h16 hri hfr hP hD hS ls hl
            have ih_8 := ih
            refine lv_iload hx hb dX5_noteWhatSuits_33 (lv_at hl 1 rfl) ?_
            refine lv_iload hx hb dX5_noteWhatSuits_35 (lv_at hl 0 rfl) ?_
            refine x_iadd hx hb dX5_noteWhatSuits_37 ?_
            refine lv_iload_n hx hb dX5_noteWhatSuits_38 rfl (lv_at hl 5 rfl) ?_
            refine x_icmp_gt (tgt := 103) hx hb (by omega) (by omega) dX5_noteWhatSuits_39 (by decide) (fun c_39 => ?_) (fun c_39 => ?_)
            · refine x_iinc (k0 := 1) (lv' := [(4, .int (iI (a + 1))), (5, .int (iI (b))), (0, .ref (g.2.2 13)), (1, .int (iI (i))), (2, .int (iI (nx))), (3, .int (iI (c0)))]) hx hb dX5_noteWhatSuits_103 hl rfl (by decide) rfl (fun ls hl => ?_)
              refine lv_goto (tgt := 13) hx hb dX5_noteWhatSuits_106 (by decide) ?_
              exact ih_4 (T2) (U2) (a + 1) (by omega) (by omega) (by omega) (by exact hTo2) (by exact hUr2) (by (intro k h1 h2; exact hU02 k (by omega) h2)) (by (intro a1 b1 h1 h2 h3 h4; by_cases e9 : a1 = a; (subst e9; exact hUa b1 h3 (by omega)); exact hUd2 a1 b1 h1 (by omega) h3 h4)) (M) _ _ hp13 hqa0 hqa1 hqa2 h16 hri hfr hP hD hS ls (lv_sub hl [0, 2, 3, 4, 5] rfl)
            · refine lv_aload_n hx hb dX5_noteWhatSuits_42 rfl (lv_at hl 2 rfl) ?_
              refine x_get (C := RX5) (T := TX5) (N := 8) hx hb hts hin_X5 hown hK hP (13) (by decide) hp13 rfl 5 (by decide) hw_2 (fun _ h9 => h9) rfl dX5_noteWhatSuits_43 ?_
              refine x_get (C := RX7) (T := TX7) (N := 4) hx hb hts hin_X7 hown hK hP (10) (by decide) hqa0 rfl 1 (by decide) hw_3 (fun _ h9 => h9) rfl dX5_noteWhatSuits_46 ?_
              refine lv_iload_n hx hb dX5_noteWhatSuits_49 rfl (lv_at hl 4 rfl) ?_
              refine lv_iload hx hb dX5_noteWhatSuits_50 (lv_at hl 0 rfl) ?_
              refine x_iast (f := T2) hx hb hK hP hD hS (12) (by decide) hqa2 (by omega) (by omega) (by decide) dX5_noteWhatSuits_52 (fun M_9 H locs hnew hne hP hD hS => ?_)
              obtain ⟨f_10, hf_10⟩ : ∃ q : Int → Int, q = (upI T2 (nx) (b)) := ⟨_, rfl⟩
              rw [← hf_10] at hnew
              have hP : xP g (M_9, σ.2) H := hP
              have hD : xD g A (M_9, σ.2) := hD
              have hqa2 : M_9 (12) = .inl (g.2.1 0, 9, .inl (fun k => iI (f_10 (k : Int)))) := hnew
              have hp13 := (hne (13) (by decide)).trans hp13
              have hqa0 := (hne (10) (by decide)).trans hqa0
              have hqa1 := (hne (11) (by decide)).trans hqa1
              have h16 := (hne (16) (by decide)).trans h16
              have hri := (hne (ri) (by omega)).trans hri
              have hfr := x_fr (F := fun j => j ≠ 12 ∧ j ≠ ri) hfr hne (fun j h => by have h : j ≠ 12 ∧ j ≠ ri := h; omega)
              have ost_11 : StOk σ (na) (ra) f_10 Ga := by (rw [hf_10]; exact StOk_purse hTo2 (by omega))
              have hTn : f_10 nx = b := by (rw [hf_10, upI_s])
              have hTj : f_10 i = a := by (rw [hf_10, upI_n (by omega)]; exact hTi)
              refine lv_iload hx hb dX5_noteWhatSuits_53 (lv_at hl 1 rfl) ?_
              refine lv_aload_n hx hb dX5_noteWhatSuits_55 rfl (lv_at hl 2 rfl) ?_
              refine x_get (C := RX5) (T := TX5) (N := 8) hx hb hts hin_X5 hown hK hP (13) (by decide) hp13 rfl 5 (by decide) hw_2 (fun _ h9 => h9) rfl dX5_noteWhatSuits_56 ?_
              refine lv_iload_n hx hb dX5_noteWhatSuits_59 rfl (lv_at hl 3 rfl) ?_
              refine lv_iload_n hx hb dX5_noteWhatSuits_60 rfl (lv_at hl 4 rfl) ?_
              refine x_ci (va_runV (As := [.int (iI (i)), .int (iI (nx))]) (rest := [.int (iI (a))]) ⟨hx, hb, hml, hown, hts⟩ (c_X7_limitBy l g (M_9, σ.2) (10) (by decide) (na) (ra) f_10 Ga ⟨hqa0, hqa1, hqa2⟩ ost_11 hH (i) (by omega) (nx) (by omega)) (cwV 2 hts gX5_noteWhatSuits_X7_limitBy rfl rfl rfl (by decide +kernel) ⟨Nat.le_of_ble_eq_true rfl, Nat.le_of_ble_eq_true rfl⟩) (x_preV hK hP (x_recv hK hP (i := 10) (by decide) hqa0 rfl)) rfl rfl hl.1 rfl (lv_room (Nat.le_of_ble_eq_true rfl)) dX5_noteWhatSuits_61 ⟨Nat.le_of_ble_eq_true rfl, Nat.le_of_ble_eq_true rfl⟩) (fun r_61 hr_61 qr_61 => ?_)
              replace qr_61 : r_61 = zLim (sK σ (Ga)) (sF σ (Ga)) (f_10) (i) (nx) ∧ 0 ≤ r_61 ∧ r_61 ≤ 1000000 := qr_61
              refine x_icmp_gt (tgt := 97) hx hb (by omega) (by omega) dX5_noteWhatSuits_64 (by decide) (fun c_64 => ?_) (fun c_64 => ?_)
              · refine x_iinc (k0 := 0) (lv' := [(5, .int (iI (b + 1))), (4, .int (iI (a))), (0, .ref (g.2.2 13)), (1, .int (iI (i))), (2, .int (iI (nx))), (3, .int (iI (c0)))]) hx hb dX5_noteWhatSuits_97 hl rfl (by decide) rfl (fun ls hl => ?_)
                refine lv_goto (tgt := 33) hx hb dX5_noteWhatSuits_100 (by decide) ?_
                have e61 : r_61 = zLim (sK σ Ga) (sF σ Ga) (fun _ => b) i nx := by (rw [qr_61.1, zLim_c, hTn])
                have hnP : ¬ zPr (sK σ Ga) (sF σ Ga) i nx a b := fun q => by (have q1 := q.1; omega)
                exact ih_8 (f_10) (U2) (b + 1) (by omega) (by omega) (by omega) (by exact ost_11) (by exact hTj) (by exact hUr2) (by exact hU02) (by exact hUd2) (by (intro j h1 h2; by_cases e9 : j = b; (subst e9; exact ⟨fun q => absurd q (hUb _ (by omega) (by omega)), fun q => absurd q hnP⟩); exact hUa j h1 (by omega))) (by (intro j h1 h2; exact hUb j (by omega) h2)) (M_9) _ _ hp13 hqa0 hqa1 hqa2 h16 hri hfr hP hD hS ls (lv_sub hl [0, 1, 2, 3, 4, 5] rfl)
              · refine lv_iload hx hb dX5_noteWhatSuits_67 (lv_at hl 0 rfl) ?_
                refine lv_aload_n hx hb dX5_noteWhatSuits_69 rfl (lv_at hl 2 rfl) ?_
                refine x_get (C := RX5) (T := TX5) (N := 8) hx hb hts hin_X5 hown hK hP (13) (by decide) hp13 rfl 5 (by decide) hw_2 (fun _ h9 => h9) rfl dX5_noteWhatSuits_70 ?_
                refine lv_iload_n hx hb dX5_noteWhatSuits_73 rfl (lv_at hl 4 rfl) ?_
                refine lv_iload_n hx hb dX5_noteWhatSuits_74 rfl (lv_at hl 3 rfl) ?_
                refine x_ci (va_runV (As := [.int (iI (nx)), .int (iI (i))]) (rest := [.int (iI (b))]) ⟨hx, hb, hml, hown, hts⟩ (c_X7_limitBy l g (M_9, σ.2) (10) (by decide) (na) (ra) f_10 Ga ⟨hqa0, hqa1, hqa2⟩ ost_11 hH (nx) (by omega) (i) (by omega)) (cwV 2 hts gX5_noteWhatSuits_X7_limitBy rfl rfl rfl (by decide +kernel) ⟨Nat.le_of_ble_eq_true rfl, Nat.le_of_ble_eq_true rfl⟩) (x_preV hK hP (x_recv hK hP (i := 10) (by decide) hqa0 rfl)) rfl rfl hl.1 rfl (lv_room (Nat.le_of_ble_eq_true rfl)) dX5_noteWhatSuits_75 ⟨Nat.le_of_ble_eq_true rfl, Nat.le_of_ble_eq_true rfl⟩) (fun r_75 hr_75 qr_75 => ?_)
                replace qr_75 : r_75 = zLim (sK σ (Ga)) (sF σ (Ga)) (f_10) (nx) (i) ∧ 0 ≤ r_75 ∧ r_75 ≤ 1000000 := qr_75
                refine x_icmp_gt (tgt := 97) hx hb (by omega) (by omega) dX5_noteWhatSuits_78 (by decide) (fun c_78 => ?_) (fun c_78 => ?_)
                · refine x_iinc (k0 := 0) (lv' := [(5, .int (iI (b + 1))), (4, .int (iI (a))), (0, .ref (g.2.2 13)), (1, .int (iI (i))), (2, .int (iI (nx))), (3, .int (iI (c0)))]) hx hb dX5_noteWhatSuits_97 hl rfl (by decide) rfl (fun ls hl => ?_)
                  refine lv_goto (tgt := 33) hx hb dX5_noteWhatSuits_100 (by decide) ?_
                  have e61 : r_61 = zLim (sK σ Ga) (sF σ Ga) (fun _ => b) i nx := by (rw [qr_61.1, zLim_c, hTn])
                  have e75 : r_75 = zLim (sK σ Ga) (sF σ Ga) (fun _ => a) nx i := by (rw [qr_75.1, zLim_c, hTj])
                  have hnP : ¬ zPr (sK σ Ga) (sF σ Ga) i nx a b := fun q => by (have q2 := q.2; omega)
                  exact ih_8 (f_10) (U2) (b + 1) (by omega) (by omega) (by omega) (by exact ost_11) (by exact hTj) (by exact hUr2) (by exact hU02) (by exact hUd2) (by (intro j h1 h2; by_cases e9 : j = b; (subst e9; exact ⟨fun q => absurd q (hUb _ (by omega) (by omega)), fun q => absurd q hnP⟩); exact hUa j h1 (by omega))) (by (intro j h1 h2; exact hUb j (by omega) h2)) (M_9) _ _ hp13 hqa0 hqa1 hqa2 h16 hri hfr hP hD hS ls (lv_sub hl [0, 1, 2, 3, 4, 5] rfl)
                · refine lv_aload_n hx hb dX5_noteWhatSuits_81 rfl (lv_at hl 2 rfl) ?_
                  refine x_get (C := RX5) (T := TX5) (N := 8) hx hb hts hin_X5 hown hK hP (13) (by decide) hp13 rfl 7 (by decide) hw_0 (fun _ h9 => h9) rfl dX5_noteWhatSuits_82 ?_
                  refine lv_iload_n hx hb dX5_noteWhatSuits_85 rfl (lv_at hl 3 rfl) ?_
                  have hG_12 : xGs g (i) = some (g.2.2 ri) := by rw [hrie]
                  refine x_aalg (f := xGs g) hx hb hK hP (16) (by decide) h16 (by omega) (by omega) (by decide) hG_12 dX5_noteWhatSuits_86 ?_
                  refine lv_iload hx hb dX5_noteWhatSuits_87 (lv_at hl 1 rfl) ?_
                  refine lv_dup2_11 hx hb dX5_noteWhatSuits_89 rfl rfl ?_
                  refine x_iald (f := U2) hx hb hK hP (ri) (by have hxN : xN = 51 := rfl; omega) hri (by omega) (by omega) (by decide) dX5_noteWhatSuits_90 ?_
                  have hb_13 := hUr2 (a)
                  refine x_iconst hx hb dX5_noteWhatSuits_91 ?_
                  refine lv_iload hx hb dX5_noteWhatSuits_92 (lv_at hl 0 rfl) ?_
                  refine x_ishl hx hb dX5_noteWhatSuits_94 ?_
                  have hb_14 := iShl_rng (1) (b)
                  refine x_ior hx hb dX5_noteWhatSuits_95 ?_
                  have hb_15 := iOr_rng (U2 (a)) (iShl (1) (b))
                  refine x_iast (f := U2) hx hb hK hP hD hS (ri) (by have hxN : xN = 51 := rfl; omega) hri (by omega) (by omega) (by decide) dX5_noteWhatSuits_96 (fun M_16 H locs hnew hne hP hD hS => ?_)
                  obtain ⟨f_17, hf_17⟩ : ∃ q : Int → Int, q = (upI U2 (a) (iOr (U2 (a)) (iShl (1) (b)))) := ⟨_, rfl⟩
                  rw [← hf_17] at hnew
                  have hP : xP g (M_16, σ.2) H := hP
                  have hD : xD g A (M_16, σ.2) := hD
                  have hri : M_16 (ri) = .inl (g.2.1 0, 21, .inl (fun k => iI (f_17 (k : Int)))) := hnew
                  have hp13 := (hne (13) (by omega)).trans hp13
                  have hqa0 := (hne (10) (by omega)).trans hqa0
                  have hqa1 := (hne (11) (by omega)).trans hqa1
                  have hqa2 := (hne (12) (by omega)).trans hqa2
                  have h16 := (hne (16) (by omega)).trans h16
                  have hfr := x_fr (F := fun j => j ≠ 12 ∧ j ≠ ri) hfr hne (fun j h => by have h : j ≠ 12 ∧ j ≠ ri := h; omega)
                  refine x_iinc (k0 := 0) (lv' := [(5, .int (iI (b + 1))), (4, .int (iI (a))), (0, .ref (g.2.2 13)), (1, .int (iI (i))), (2, .int (iI (nx))), (3, .int (iI (c0)))]) hx hb dX5_noteWhatSuits_97 hl rfl (by decide) rfl (fun ls hl => ?_)
                  refine lv_goto (tgt := 33) hx hb dX5_noteWhatSuits_100 (by decide) ?_
                  have e61 : r_61 = zLim (sK σ Ga) (sF σ Ga) (fun _ => b) i nx := by (rw [qr_61.1, zLim_c, hTn])
                  have e75 : r_75 = zLim (sK σ Ga) (sF σ Ga) (fun _ => a) nx i := by (rw [qr_75.1, zLim_c, hTj])
                  have hyP : zPr (sK σ Ga) (sF σ Ga) i nx a b := ⟨by omega, by omega⟩
                  exact ih_8 (f_10) (f_17) (b + 1) (by omega) (by omega) (by omega) (by exact ost_11) (by exact hTj) (by (rw [hf_17]; exact upI_rng hUr2 (iOr_rng _ _))) (by (rw [hf_17]; intro k h1 h2; rw [upI_n (by omega)]; exact hU02 k h1 h2)) (by (rw [hf_17]; intro a1 b1 h1 h2 h3 h4; rw [upI_n (by omega)]; exact hUd2 a1 b1 h1 h2 h3 h4)) (by (rw [hf_17]; intro j h1 h2; rw [upI_s, zBt_or ⟨by omega, by omega⟩ ⟨by omega, by omega⟩]; by_cases e9 : j = b; (subst e9; exact ⟨fun _ => hyP, fun _ => Or.inr rfl⟩); (have z9 := hUa j h1 (by omega); exact ⟨fun q => z9.mp (q.elim id (fun q => absurd q e9)), fun q => Or.inl (z9.mpr q)⟩))) (by (rw [hf_17]; intro j h1 h2; rw [upI_s, zBt_or ⟨by omega, by omega⟩ ⟨by omega, by omega⟩]; exact fun q => q.elim (fun q => hUb j (by omega) h2 q) (fun q => by omega))) (M_16) _ _ hp13 hqa0 hqa1 hqa2 h16 hri hfr hP hD hS ls (lv_sub hl [0, 1, 2, 3, 4, 5] rfl)
        exact hloop_33 ((((40 : Int) - (1)).toNat) + 1) (f_6) (U) (1) (by omega) (by omega) (by omega) (by exact ost_7) (by (rw [hf_6, upI_s])) (by exact hUr) (by (intro k h1 h2; exact hU0 k (by omega) h2)) (by exact hUd) (by (intro j h1 h2; omega)) (by (intro j h1 h2; rw [hU0 a (by omega) (by omega)]; exact zBt_0 (by omega) (by omega))) (M_5) _ _ hp13 hqa0 hqa1 hqa2 h16 hri hfr hP hD hS ls (lv_sub hl [0, 1, 2, 3, 4, 5] rfl)
  exact hloop_13 ((((40 : Int) - (1)).toNat) + 1) (Pa) (f_3) (1) (by omega) (by omega) (by omega) (by exact hoa) (by exact rf_3) (by (intro k a b; rw [hf_3, zCopy_in (by omega) (by omega)])) (by (intro a1 b1 h1 h2; omega)) (M_2) _ _ hp13 hqa0 hqa1 hqa2 h16 hri hfr hP hD hS ls (lv_sub hl [0, 1, 2, 3, 4] rfl)
