section XROWS5
variable {p : Program} {l : Launch} {e : Env} {R : Room} {s : State} {m : MethodId} {args : Array Value} {below : List Frame} {meth : Method} {c : Code} {H : Heap} {locs : List Loc} {cells slots : Nat} {Q : State → Prop}
variable {cc : ByteArray} {pc : Nat} {ls : Array Slot} {rest : List Value} {g : xG} {σ : xS}
theorem x_aalg (hx : p.tables.exec = Jvm.exec) (hb : c.code = cc) (hK : xK g s) (hP : xP g σ H) (i : Nat) (hi : i < xN) {n : Nat} {f : Int → Option Nat} (hm : σ.1 i = .inl (g.2.1 2, n, .inr (.inr (.inr (.inr (fun k => f (k : Int))))))) {z : Int} (h0 : 0 ≤ z) (h1 : z < (n : Int)) (hn : n ≤ 2147483648) {v : Nat} (hG : f z = some v) (hdg : decode cc pc = .ok (.aaload, 1))
    (k : W p l e R s m args below meth c H locs cells slots Q (F0 m (pc + 1) ls (.ref v :: rest))) : W p l e R s m args below meth c H locs cells slots Q (F0 m (pc) ls (.int (iI z) :: .ref (g.2.2 i) :: rest)) := by
  have hin := iI_in h0 h1 hn
  have hlt : (iI z).toNatClampNeg < n := Nat.not_le.mp fun q => hin (Or.inr q)
  have ha : (xW g σ)[i]? = some (g.2.2 i, .inl (g.2.1 2, n, .inr (.inr (.inr (.inr (fun k => f (k : Int))))))) := by rw [xW_get hi, hm]
  refine W.aald (v := va_rf (f (((iI z).toNatClampNeg : Nat) : Int))) (ty := .array .int) hx hb (hP i _ ha) ((hK.1.2 2 _ rfl).1 n (fun j => va_rf (f (j : Int)))) rfl (fun q => by cases q) (by show ¬ (iI z < 0 ∨ (arrV _ _ _).slots.size ≤ _); rw [arrV_size]; exact hin) (by show (arrV _ _ _).slots[_]? = _; rw [arrV_read _ _ hlt]) rfl rfl hdg ?_
  rw [iI_nat h0 (by omega), Int.toNat_of_nonneg h0, hG]; exact k
end XROWS5
abbrev xGf (g : xG) : Int → Option Nat := fun k => some (g.2.2 (29 + k.toNat))
abbrev MGrid (g : xG) (M : xM) : Prop := M 28 = .inl (g.2.1 2, 8, .inr (.inr (.inr (.inr (fun k => xGf g (k : Int))))))

set_option maxHeartbeats 4000000 in
set_option maxRecDepth 100000 in
theorem c_X11_judge (l : Launch) (g : xG) (σ : xS) (ph : Nat) (tk : Int) (hx0 : XObj g σ.1 ph tk) (n rd : Int) (P : Int → Int) (G : Int → Option Nat) (hst : StAt g σ.1 1 n rd P G) (hok : StOk σ n rd P G) (hH : HsOk σ) (Kf : Int → Option Nat) (So Sz : Int → Int) (h25 : MRef g σ.1 25 8 Kf) (h26 : MArr g σ.1 26 8 So) (h27 : MArr g σ.1 27 8 Sz) (hxs : XsOk σ Kf So Sz) (El : Int → Int → Int) (h28 : MGrid g σ.1) (hrow : ∀ d, 0 ≤ d → d ≤ 7 → MArr g σ.1 (29 + d.toNat) 100 (El d)) (hEl : ∀ d k, inR (El d k)) (d : Int) (hd : inR d) : Met l yX11_judge wsX11_judge ({ frames := 3, cells := 0, slots := 0, locals := 96 }) (va_Pc [.ref (g.2.2 0), .int (iI (d))] (xPre g σ)) (x_Si (fun r => (zRowR (xKp Kf So) So d (-1) ≠ 0 ∧ r = zRowR (xKp Kf So) So d (-1)) ∨ (zRowR (xKp Kf So) So d (-1) = 0 ∧ zJudged (El d) P (Sz d) n (zLeast (So d)) r))) (0) (0) (fun _ => False) := by
  refine Met.ofW (cc := cX11_judge) (maxL := 6) (ret := (some .int)) (by decide) rfl ?_
  intro p e s m args below meth c s₁ B hml hv
  obtain ⟨rfl, hP, hK⟩ := hv
  have hx := B.exec
  have hb := B.bytes
  have hr := B.returns
  have hts := atoms_spec (ws := wsX11_judge) B.pre
  have hown : s.vm.findClass RX11 = some m.cls := findClass_of_methodNamed B.named
  have hlocks := B.notSynchronized
  have hl := lv_entry ([.ref (g.2.2 0), .int (iI (d))]) (n := 6) (Nat.le_of_ble_eq_true rfl)
  rw [lg_entry_eq]
  generalize (lg_sl ([.ref (g.2.2 0), .int (iI (d))]) ++ List.replicate (6 - (lg_sl ([.ref (g.2.2 0), .int (iI (d))])).length) Slot.unset).toArray = ls at hl ⊢
  have hl : lv_has ls 6 [(0, .ref (g.2.2 0)), (1, .int (iI (d)))] := hl
  have hm0 : σ.1 1 = .inr (7, [.ref (g.2.2 2), .ref (g.2.2 3), .int (iI n), .int (iI rd)]) := hst.1
  have hm1 : MRef g σ.1 2 9 G := hst.2.1
  have hm2 : MArr g σ.1 3 9 P := hst.2.2
  have hok1 := hok.1
  have hok2 := hok.2.1
  have hok3 := hok.2.2.1
  have hw_0 := hts (.fieldLink RX11 49 "TwiceAsRich" "sorts" "[I") (by decide +kernel)
  have hin_X11 : ∀ w ∈ wsX110, w ∈ wsX11_judge := by decide +kernel
  have hw_2 := hts (.fieldLink RX11 53 "TwiceAsRich" "sizes" "[I") (by decide +kernel)
  have hw_3 := hts (.fieldLink RX11 10 "TwiceAsRich" "street" "LTwiceAsRich$Street;") (by decide +kernel)
  have hw_4 := hts (.fieldLink RX11 126 "TwiceAsRich$Street" "count" "I") (by decide +kernel)
  have hin_X7 : ∀ w ∈ wsX70, w ∈ wsX11_judge := by decide +kernel
  have hw_6 := hts (.methodLink RX11 184 Lib.Math.min.name) (by decide +kernel)
  have hw_7 := hts (.static Lib.Math.min.name) (by decide +kernel)
  have hw_8 := hts (.initialized "java/lang/Math") (by decide +kernel)
  have hw_9 := hts (.code Lib.Math.min.name Lib.Math.min.code 2 (some .int)) (by decide +kernel)
  have hw_10 := hts (.fieldLink RX11 58 "TwiceAsRich" "rows" "[[I") (by decide +kernel)
  have hw_11 := hts (.fieldLink RX11 103 "TwiceAsRich$Street" "purses" "[I") (by decide +kernel)
  refine lv_aload_n hx hb dX11_judge_0 rfl (lv_at hl 0 rfl) ?_
  refine lv_iload_n hx hb dX11_judge_1 rfl (lv_at hl 1 rfl) ?_
  refine x_ci (va_runV (As := [.int (iI (d))]) (rest := []) ⟨hx, hb, hml, hown, hts⟩ (c_X11_rowRefusal l g σ ph tk hx0 Kf So Sz h25 h26 h27 hxs (d) (by omega)) (cwV 1 hts gX11_judge_X11_rowRefusal rfl rfl rfl (by decide +kernel) ⟨Nat.le_of_ble_eq_true rfl, Nat.le_of_ble_eq_true rfl⟩) (x_preV hK hP (x_recv hK hP (i := 0) (by decide) hx0 rfl)) rfl rfl hl.1 rfl (lv_room (Nat.le_of_ble_eq_true rfl)) dX11_judge_2 ⟨Nat.le_of_ble_eq_true rfl, Nat.le_of_ble_eq_true rfl⟩) (fun r_2 hr_2 qr_2 => ?_)
  replace qr_2 : r_2 = zRowR (xKp Kf So) So (d) (-1) := qr_2
  refine lv_istore_n (lv' := [(2, .int (iI (r_2))), (0, .ref (g.2.2 0)), (1, .int (iI (d)))]) hx hb dX11_judge_5 rfl hl (by decide) rfl (fun ls hl => ?_)
  refine lv_iload_n hx hb dX11_judge_6 rfl (lv_at hl 0 rfl) ?_
  refine x_if_eq (tgt := 12) hx hb (by omega) dX11_judge_7 (by decide) (fun c_7 => ?_) (fun c_7 => ?_)
  · have hk0 := zRowR_0 qr_2 (by omega)
    have hk9 := xKp_so hxs (d := d) (by omega) (by omega)
    have hSz : 0 ≤ Sz d ∧ Sz d ≤ 100 := by omega
    refine lv_aload_n hx hb dX11_judge_12 rfl (lv_at hl 1 rfl) ?_
    refine x_get (C := RX11) (T := TX11) (N := 11) hx hb hts hin_X11 hown hK hP (0) (by decide) hx0 rfl 8 (by decide) hw_0 (fun _ h9 => h9) rfl dX11_judge_13 ?_
    refine lv_iload_n hx hb dX11_judge_16 rfl (lv_at hl 2 rfl) ?_
    refine x_iald (f := So) hx hb hK hP (26) (by decide) h26 (by omega) (by omega) (by decide) dX11_judge_17 ?_
    have hb_1 := hxs.1 (d)
    refine x_ci (va_runS (As := [.int (iI (So (d)))]) (rest := []) ⟨hx, hb, hml, hown, hts⟩ (c_X11_leastOf l g σ  (So (d)) (by omega)) (va_cwS 1 hts gX11_judge_X11_leastOf rfl rfl rfl (by decide +kernel) ⟨Nat.le_of_ble_eq_true rfl, Nat.le_of_ble_eq_true rfl⟩) (x_preS hK hP) rfl rfl hl.1 rfl (lv_room (Nat.le_of_ble_eq_true rfl)) dX11_judge_18 ⟨Nat.le_of_ble_eq_true rfl, Nat.le_of_ble_eq_true rfl⟩) (fun r_18 hr_18 qr_18 => ?_)
    replace qr_18 : r_18 = zLeast (So (d)) := qr_18
    refine lv_istore_n (lv' := [(3, .int (iI (r_18))), (2, .int (iI (r_2))), (0, .ref (g.2.2 0)), (1, .int (iI (d)))]) hx hb dX11_judge_21 rfl hl (by decide) rfl (fun ls hl => ?_)
    have hsk0 := qr_18
    refine lv_aload_n hx hb dX11_judge_22 rfl (lv_at hl 2 rfl) ?_
    refine x_get (C := RX11) (T := TX11) (N := 11) hx hb hts hin_X11 hown hK hP (0) (by decide) hx0 rfl 9 (by decide) hw_2 (fun _ h9 => h9) rfl dX11_judge_23 ?_
    refine lv_iload_n hx hb dX11_judge_26 rfl (lv_at hl 3 rfl) ?_
    refine x_iald (f := Sz) hx hb hK hP (27) (by decide) h27 (by omega) (by omega) (by decide) dX11_judge_27 ?_
    have hb_2 := hxs.2.1 (d)
    refine lv_aload_n hx hb dX11_judge_28 rfl (lv_at hl 2 rfl) ?_
    refine x_get (C := RX11) (T := TX11) (N := 11) hx hb hts hin_X11 hown hK hP (0) (by decide) hx0 rfl 0 (by decide) hw_3 (fun _ h9 => h9) rfl dX11_judge_29 ?_
    refine x_get (C := RX7) (T := TX7) (N := 4) hx hb hts hin_X7 hown hK hP (1) (by decide) hm0 rfl 2 (by decide) hw_4 (fun _ h9 => h9) rfl dX11_judge_32 ?_
    refine x_min hx hb (hml.trans hl.1.symm) hown hw_6 hw_7 hw_8 hw_9 (Nat.le_of_ble_eq_true rfl) (Nat.le_of_ble_eq_true rfl) (Nat.le_of_ble_eq_true rfl) (Nat.le_of_ble_eq_true rfl) (by omega) (by omega) dX11_judge_35 (fun q_3 hq_3 => ?_)
    refine lv_istore (lv' := [(4, .int (iI (q_3))), (3, .int (iI (r_18))), (2, .int (iI (r_2))), (0, .ref (g.2.2 0)), (1, .int (iI (d)))]) hx hb dX11_judge_38 hl (by decide) rfl (fun ls hl => ?_)
    refine x_iconst hx hb dX11_judge_40 ?_
    refine lv_istore (lv' := [(5, .int (iI (0))), (4, .int (iI (q_3))), (3, .int (iI (r_18))), (2, .int (iI (r_2))), (0, .ref (g.2.2 0)), (1, .int (iI (d)))]) hx hb dX11_judge_41 hl (by decide) rfl (fun ls hl => ?_)
    have hloop_43 : ∀ (k : Nat) (i : Int) (sk : Int) (bo : Int), (bo - i).toNat < k → (hi0 : 0 ≤ i) → (hbo : bo = min (Sz d) n) → (hin : i ≤ bo) → (hsk : sk = zLeast (So d)) → (hskr : inR sk) → (hall : ∀ j, 0 ≤ j → j < i → El d j = zLeast (So d) ∨ El d j = P j) → ∀ (ls : Array Slot), lv_has ls 6 [(5, .int (iI (i))), (3, .int (iI (sk))), (4, .int (iI (bo))), (2, .int (iI (r_2))), (0, .ref (g.2.2 0)), (1, .int (iI (d)))] → W p l e (headSpec wsX11_judge ({ frames := 3, cells := 0, slots := 0, locals := 96 })).room s m ([.ref (g.2.2 0), .int (iI (d))] : List Value).toArray below meth c s.heap [] 0 0 (MQ below (x_Si (fun r => (zRowR (xKp Kf So) So d (-1) ≠ 0 ∧ r = zRowR (xKp Kf So) So d (-1)) ∨ (zRowR (xKp Kf So) So d (-1) = 0 ∧ zJudged (El d) P (Sz d) n (zLeast (So d)) r))) ([.ref (g.2.2 0), .int (iI (d))] : List Value).toArray s (0) (0) (fun _ => False)) (F0 m 43 ls []) := by
      intro k
      induction k with
      | zero =>
        intros; exact absurd (by assumption) (Nat.not_lt_zero _)
      | succ k ih =>
        intro i sk bo hmeas hi0 hbo hin hsk hskr hall  ls hl
        have ih_4 := ih
        refine lv_iload hx hb dX11_judge_43 (lv_at hl 0 rfl) ?_
        refine lv_iload hx hb dX11_judge_45 (lv_at hl 2 rfl) ?_
        refine x_icmp_ge (tgt := 94) hx hb (by omega) (by omega) dX11_judge_47 (by decide) (fun c_47 => ?_) (fun c_47 => ?_)
        · refine lv_aload_n hx hb dX11_judge_94 rfl (lv_at hl 4 rfl) ?_
          refine x_get (C := RX11) (T := TX11) (N := 11) hx hb hts hin_X11 hown hK hP (0) (by decide) hx0 rfl 9 (by decide) hw_2 (fun _ h9 => h9) rfl dX11_judge_95 ?_
          refine lv_iload_n hx hb dX11_judge_98 rfl (lv_at hl 5 rfl) ?_
          refine x_iald (f := Sz) hx hb hK hP (27) (by decide) h27 (by omega) (by omega) (by decide) dX11_judge_99 ?_
          have hb_5 := hxs.2.1 (d)
          refine lv_aload_n hx hb dX11_judge_100 rfl (lv_at hl 4 rfl) ?_
          refine x_get (C := RX11) (T := TX11) (N := 11) hx hb hts hin_X11 hown hK hP (0) (by decide) hx0 rfl 0 (by decide) hw_3 (fun _ h9 => h9) rfl dX11_judge_101 ?_
          refine x_get (C := RX7) (T := TX7) (N := 4) hx hb hts hin_X7 hown hK hP (1) (by decide) hm0 rfl 2 (by decide) hw_4 (fun _ h9 => h9) rfl dX11_judge_104 ?_
          refine x_icmp_ne (tgt := 115) hx hb (by omega) (by omega) dX11_judge_107 (by decide) (fun c_107 => ?_) (fun c_107 => ?_)
          · refine lv_iload hx hb dX11_judge_115 (lv_at hl 2 rfl) ?_
            refine x_retP hx hb hr (by omega) ?_ dX11_judge_117 hlocks
            right; refine ⟨by omega, Or.inr ⟨fun j h1 h2 h3 => hall j h1 (by omega), ?_⟩⟩
            first | exact Or.inl ⟨by omega, by omega⟩ | (rcases Int.lt_or_gt_of_ne (show Sz d ≠ n by omega) with q | q; exact Or.inr (Or.inl ⟨q, by omega⟩); exact Or.inr (Or.inr ⟨q, by omega⟩))
          · refine x_bipush (n := -4) hx hb (by decide +kernel) dX11_judge_110 ?_
            refine lv_goto (tgt := 117) hx hb dX11_judge_112 (by decide) ?_
            refine x_retP hx hb hr (by omega) ?_ dX11_judge_117 hlocks
            right; refine ⟨by omega, Or.inr ⟨fun j h1 h2 h3 => hall j h1 (by omega), ?_⟩⟩
            first | exact Or.inl ⟨by omega, by omega⟩ | (rcases Int.lt_or_gt_of_ne (show Sz d ≠ n by omega) with q | q; exact Or.inr (Or.inl ⟨q, by omega⟩); exact Or.inr (Or.inr ⟨q, by omega⟩))
        · refine lv_aload_n hx hb dX11_judge_50 rfl (lv_at hl 4 rfl) ?_
          refine x_get (C := RX11) (T := TX11) (N := 11) hx hb hts hin_X11 hown hK hP (0) (by decide) hx0 rfl 10 (by decide) hw_10 (fun _ h9 => h9) rfl dX11_judge_51 ?_
          refine lv_iload_n hx hb dX11_judge_54 rfl (lv_at hl 5 rfl) ?_
          obtain ⟨ri_6, eri_6⟩ : ∃ q : Nat, q = 29 + (d).toNat := ⟨_, rfl⟩
          have hG_ri_6 : xGf g (d) = some (g.2.2 ri_6) := by rw [eri_6]
          have hri_6 : MArr g σ.1 ri_6 100 (El (d)) := by rw [eri_6]; exact hrow (d) (by omega) (by omega)
          refine x_aalg (f := xGf g) hx hb hK hP (28) (by decide) h28 (by omega) (by omega) (by decide) hG_ri_6 dX11_judge_55 ?_
          refine lv_iload hx hb dX11_judge_56 (lv_at hl 0 rfl) ?_
          refine x_iald (f := (El (d))) hx hb hK hP (ri_6) (by have hxN : xN = 51 := rfl; omega) hri_6 (by omega) (by omega) (by decide) dX11_judge_58 ?_
          have hb_7 := hEl (d) (i)
          refine lv_iload_n hx hb dX11_judge_59 rfl (lv_at hl 1 rfl) ?_
          refine x_icmp_eq (tgt := 88) hx hb (by omega) (by omega) dX11_judge_60 (by decide) (fun c_60 => ?_) (fun c_60 => ?_)
          · refine x_iinc (k0 := 0) (lv' := [(5, .int (iI (i + 1))), (3, .int (iI (sk))), (4, .int (iI (bo))), (2, .int (iI (r_2))), (0, .ref (g.2.2 0)), (1, .int (iI (d)))]) hx hb dX11_judge_88 hl rfl (by decide) rfl (fun ls hl => ?_)
            refine lv_goto (tgt := 43) hx hb dX11_judge_91 (by decide) ?_
            exact ih_4 (i + 1) (sk) (bo) (by omega) (by omega) (by omega) (by omega) (by omega) (by omega) (by (intro j h1 h2; by_cases hj : j = i; (subst hj; omega); exact hall j h1 (by omega))) ls (lv_sub hl [0, 1, 2, 3, 4, 5] rfl)
          · refine lv_aload_n hx hb dX11_judge_63 rfl (lv_at hl 4 rfl) ?_
            refine x_get (C := RX11) (T := TX11) (N := 11) hx hb hts hin_X11 hown hK hP (0) (by decide) hx0 rfl 10 (by decide) hw_10 (fun _ h9 => h9) rfl dX11_judge_64 ?_
            refine lv_iload_n hx hb dX11_judge_67 rfl (lv_at hl 5 rfl) ?_
            obtain ⟨ri_8, eri_8⟩ : ∃ q : Nat, q = 29 + (d).toNat := ⟨_, rfl⟩
            have hG_ri_8 : xGf g (d) = some (g.2.2 ri_8) := by rw [eri_8]
            have hri_8 : MArr g σ.1 ri_8 100 (El (d)) := by rw [eri_8]; exact hrow (d) (by omega) (by omega)
            refine x_aalg (f := xGf g) hx hb hK hP (28) (by decide) h28 (by omega) (by omega) (by decide) hG_ri_8 dX11_judge_68 ?_
            refine lv_iload hx hb dX11_judge_69 (lv_at hl 0 rfl) ?_
            refine x_iald (f := (El (d))) hx hb hK hP (ri_8) (by have hxN : xN = 51 := rfl; omega) hri_8 (by omega) (by omega) (by decide) dX11_judge_71 ?_
            have hb_9 := hEl (d) (i)
            refine lv_aload_n hx hb dX11_judge_72 rfl (lv_at hl 4 rfl) ?_
            refine x_get (C := RX11) (T := TX11) (N := 11) hx hb hts hin_X11 hown hK hP (0) (by decide) hx0 rfl 0 (by decide) hw_3 (fun _ h9 => h9) rfl dX11_judge_73 ?_
            refine x_get (C := RX7) (T := TX7) (N := 4) hx hb hts hin_X7 hown hK hP (1) (by decide) hm0 rfl 1 (by decide) hw_11 (fun _ h9 => h9) rfl dX11_judge_76 ?_
            refine lv_iload hx hb dX11_judge_79 (lv_at hl 0 rfl) ?_
            refine x_iald (f := P) hx hb hK hP (3) (by decide) hm2 (by omega) (by omega) (by decide) dX11_judge_81 ?_
            have hb_10 := hok.2.2.2.1 (i)
            refine x_icmp_eq (tgt := 88) hx hb (by omega) (by omega) dX11_judge_82 (by decide) (fun c_82 => ?_) (fun c_82 => ?_)
            · refine x_iinc (k0 := 0) (lv' := [(5, .int (iI (i + 1))), (3, .int (iI (sk))), (4, .int (iI (bo))), (2, .int (iI (r_2))), (0, .ref (g.2.2 0)), (1, .int (iI (d)))]) hx hb dX11_judge_88 hl rfl (by decide) rfl (fun ls hl => ?_)
              refine lv_goto (tgt := 43) hx hb dX11_judge_91 (by decide) ?_
              exact ih_4 (i + 1) (sk) (bo) (by omega) (by omega) (by omega) (by omega) (by omega) (by omega) (by (intro j h1 h2; by_cases hj : j = i; (subst hj; omega); exact hall j h1 (by omega))) ls (lv_sub hl [0, 1, 2, 3, 4, 5] rfl)
            · refine lv_iload hx hb dX11_judge_85 (lv_at hl 0 rfl) ?_
              refine x_retP hx hb hr (by omega) ?_ dX11_judge_87 hlocks
              right; refine ⟨by omega, Or.inl ⟨hi0, by omega, by omega, ?_, ?_, hall⟩⟩
              · rw [← hsk]; omega
              · omega
    exact hloop_43 (((((q_3)) - (0)).toNat) + 1) (0) ((r_18)) ((q_3)) (by omega) (by omega) (by omega) (by omega) (by exact qr_18) (by omega) (by (intro j h1 h2; omega)) ls (lv_sub hl [0, 2, 1, 3, 4, 5] rfl)
  · refine lv_iload_n hx hb dX11_judge_10 rfl (lv_at hl 0 rfl) ?_
    refine x_retP hx hb hr (by omega) ?_ dX11_judge_11 hlocks
    left; exact ⟨by omega, by omega⟩
