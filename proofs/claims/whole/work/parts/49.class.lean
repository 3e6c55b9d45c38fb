theorem zScan_pos {C : Int → Int} {B : Int → Int} {z : Int} (hC : C = zCc B z) (h : (zScan C z 101 0 0).1 = -1) : 0 < z := by
  have q := zScan_ok (C := C) (z := z) (p := 0) (n := 0) ⟨by omega, by omega⟩ (by omega) h
  by_cases e : 0 < z
  · exact e
  · have e2 : C 0 = 0 := by rw [hC]; unfold zCc; rw [if_neg (by omega)]
    have q2 := q.1.1
    unfold zLet at q2
    omega
theorem xK_tr {σ0 σ τ : xS} {F : Nat → Prop} (h : ∀ j, F j → σ.1 j = σ0.1 j) (h2 : ∀ j, F j → τ.1 j = σ.1 j) : ∀ j, F j → τ.1 j = σ0.1 j := fun j q => (h2 j q).trans (h j q)
set_option maxHeartbeats 4000000 in
set_option maxRecDepth 100000 in
theorem c_X8_wrongPlace (l : Launch) (g : xG) (σ0 : xS) (A : Nat → Prop) (bi : Nat) (hbi : bi < xN) (sz : Int) (ht00 : TObj g σ0.1 bi sz 0) (Bf : Int → Int) (hbf0 : MArr g σ0.1 bi 100 Bf) (hsz : 0 ≤ sz ∧ sz ≤ 100) (hBr : ∀ k, inR (Bf k)) (hb7 : bi ≠ 7 ∧ bi ≠ 8 ∧ bi ≠ 9) (hb23 : bi ≠ 23) (n0 rd0 : Int) (P0 : Int → Int) (G0 : Int → Option Nat) (hst0 : StAt g σ0.1 7 n0 rd0 P0 G0) (hok0 : StOk σ0 n0 rd0 P0 G0) (hH0 : HsOk σ0) (h80 : n0 ≤ 8) (S0 : Int → Int) (hsm0 : xSame σ0 n0 rd0 P0 G0 S0) (hscan : (zScan (zCc Bf sz) sz 101 0 0).1 = -1) : Met l yX8_wrongPlace wsX8_wrongPlace ({ frames := 7, cells := 60, slots := 60, locals := 224 }) (va_Pc [.ref (g.2.2 23), .ref (g.2.2 7)] (xnQ g A σ0)) (x_Qi g A (fun r σ1 => (∀ j, j ≠ 7 ∧ j ≠ 8 ∧ j ≠ 9 ∧ j ≠ 23 → σ1.1 j = σ0.1 j) ∧ xGrow σ0 σ1 ∧ HsOk σ1 ∧ ∃ dn2, TObj g σ1.1 bi sz dn2 ∧ (0 ≤ dn2 ∧ dn2 ≤ 100) ∧ ((r = -1 ∧ (zDo (zCc Bf sz) sz 101 0 S0).1 = -1 ∧ dn2 = (zScan (zCc Bf sz) sz 101 0 0).2 ∧ ∃ n rd P G, StAt g σ1.1 7 n rd P G ∧ StOk σ1 n rd P G ∧ n ≤ 8 ∧ xSame σ1 n rd P G (zDo (zCc Bf sz) sz 101 0 S0).2) ∨ (r ≠ -1 ∧ r = (zDo (zCc Bf sz) sz 101 0 S0).1 ∧ (0 ≤ r ∧ r ≤ 200) ∧ xStr g σ1.1 σ1 7)))) 60 60 A := by
  refine Met.ofW (cc := cX8_wrongPlace) (maxL := 4) (ret := (some .int)) (by decide) rfl ?_
  intro p e s m args below meth c s₁ B hml hv
  obtain ⟨rfl, ⟨hP, hK, hD, hA⟩, hN⟩ := hv
  have hx := B.exec
  have hb := B.bytes
  have hr := B.returns
  have hts := atoms_spec (ws := wsX8_wrongPlace) B.pre
  have hown : s.vm.findClass RX8 = some m.cls := findClass_of_methodNamed B.named
  have hlocks := B.notSynchronized
  have hS : va_S A s.heap s.heap [] := va_S.rf
  have hz0 : 0 < sz := zScan_pos rfl hscan
  have hRc : (headSpec wsX8_wrongPlace ({ frames := 7, cells := 60, slots := 60, locals := 224 })).room.cells = 60 := rfl
  have hRs : (headSpec wsX8_wrongPlace ({ frames := 7, cells := 60, slots := 60, locals := 224 })).room.slots = 60 := rfl
  have hl := lv_entry ([.ref (g.2.2 23), .ref (g.2.2 7)]) (n := 4) (Nat.le_of_ble_eq_true rfl)
  rw [lg_entry_eq]
  generalize (lg_sl ([.ref (g.2.2 23), .ref (g.2.2 7)]) ++ List.replicate (4 - (lg_sl ([.ref (g.2.2 23), .ref (g.2.2 7)])).length) Slot.unset).toArray = ls at hl ⊢
  have hl : lv_has ls 4 [(0, .ref (g.2.2 23)), (1, .ref (g.2.2 7))] := hl
  have hw_0 := hts (.fieldLink RX8 21 "TwiceAsRich$StreetText" "size" "I") (by decide +kernel)
  have hin_X8 : ∀ w ∈ wsX80, w ∈ wsX8_wrongPlace := by decide +kernel
  have hw_2 := hts (.fieldLink RX8 25 "TwiceAsRich$StreetText" "done" "I") (by decide +kernel)
  have hloop : ∀ (k : Nat) (σ : xS) (dn w9 : Int) (S : Int → Int) (n rd : Int) (P : Int → Int) (G : Int → Option Nat) (H : Heap) (locs : List Loc) (ls : Array Slot), (hmeas : (200 - w9).toNat < k) → (ht0 : TObj g σ.1 bi sz dn) → (hbf : MArr g σ.1 bi 100 Bf) → (hst : StAt g σ.1 7 n rd P G) → (hok : StOk σ n rd P G) → (hH : HsOk σ) → (h8 : n ≤ 8) → (hsm : xSame σ n rd P G S) → (hfr0 : ∀ j, (j ≠ 7 ∧ j ≠ 8 ∧ j ≠ 9 ∧ j ≠ 23) → σ.1 j = σ0.1 j) → (hgr : xGrow σ0 σ) → (hdn : 0 ≤ dn ∧ 2 * dn ≤ w9 ∧ w9 ≤ 110) → (hsc : (w9 < sz ∧ zScan (zCc Bf sz) sz 101 0 0 = zScan (zCc Bf sz) sz (101 - dn).toNat w9 dn) ∨ (sz ≤ w9 ∧ zScan (zCc Bf sz) sz 101 0 0 = (-1, dn))) → (hdo : zDo (zCc Bf sz) sz 101 0 S0 = zDo (zCc Bf sz) sz (101 - dn).toNat w9 S) → (hP : xP g σ H) → (hD : xD g A σ) → (hS : va_S A s.heap H locs) → (hl : lv_has ls 4 [(3, .int (iI (dn))), (2, .int (iI (w9))), (0, .ref (g.2.2 23)), (1, .ref (g.2.2 7))]) → W p l e (headSpec wsX8_wrongPlace ({ frames := 7, cells := 60, slots := 60, locals := 224 })).room s m ([.ref (g.2.2 23), .ref (g.2.2 7)] : List Value).toArray below meth c H locs dn.toNat dn.toNat (MQ below (x_Qi g A (fun r σ1 => (∀ j, j ≠ 7 ∧ j ≠ 8 ∧ j ≠ 9 ∧ j ≠ 23 → σ1.1 j = σ0.1 j) ∧ xGrow σ0 σ1 ∧ HsOk σ1 ∧ ∃ dn2, TObj g σ1.1 bi sz dn2 ∧ (0 ≤ dn2 ∧ dn2 ≤ 100) ∧ ((r = -1 ∧ (zDo (zCc Bf sz) sz 101 0 S0).1 = -1 ∧ dn2 = (zScan (zCc Bf sz) sz 101 0 0).2 ∧ ∃ n rd P G, StAt g σ1.1 7 n rd P G ∧ StOk σ1 n rd P G ∧ n ≤ 8 ∧ xSame σ1 n rd P G (zDo (zCc Bf sz) sz 101 0 S0).2) ∨ (r ≠ -1 ∧ r = (zDo (zCc Bf sz) sz 101 0 S0).1 ∧ (0 ≤ r ∧ r ≤ 200) ∧ xStr g σ1.1 σ1 7)))) ([.ref (g.2.2 23), .ref (g.2.2 7)] : List Value).toArray s 60 60 A) (F0 m 4 ls []) := by
    intro k
    induction k with
    | zero =>
      intro σ dn w9 S n rd P G H locs ls hmeas; exact absurd hmeas (Nat.not_lt_zero _)
    | succ k ih =>
      intro σ dn w9 S n rd P G H locs ls hmeas ht0 hbf hst hok hH h8 hsm hfr0 hgr hdn hsc hdo hP hD hS hl
      have hm0 : σ.1 7 = .inr (7, [.ref (g.2.2 8), .ref (g.2.2 9), .int (iI n), .int (iI rd)]) := hst.1
      have hm1 : MRef g σ.1 8 9 G := hst.2.1
      have hm2 : MArr g σ.1 9 9 P := hst.2.2
      have hok1 := hok.1
      have hok2 := hok.2.1
      have hok3 := hok.2.2.1
      have hfr : ∀ j, (j ≠ 7 ∧ j ≠ 8 ∧ j ≠ 9 ∧ j ≠ 23) → σ.1 j = σ.1 j := fun _ _ => rfl
      refine lv_iload_n hx hb dX8_wrongPlace_4 rfl (lv_at hl 0 rfl) ?_
      refine lv_aload_n hx hb dX8_wrongPlace_5 rfl (lv_at hl 2 rfl) ?_
      refine x_get (C := RX8) (T := TX8) (N := 3) hx hb hts hin_X8 hown hK hP (23) (by decide) ht0 rfl 1 (by decide) hw_0 (fun _ h9 => h9) rfl dX8_wrongPlace_6 ?_
      refine x_icmp_ge (tgt := 55) hx hb (by omega) (by omega) dX8_wrongPlace_9 (by decide) (fun c_9 => ?_) (fun c_9 => ?_)
      · refine x_iconst hx hb dX8_wrongPlace_55 ?_
        refine W.widen (k := 60) (n := 60) (by omega) (by omega) ?_
        refine x_retQ hx hb hr (by omega) ?_ hP hD hS dX8_wrongPlace_56 hlocks
        refine ⟨fun j hj => (hfr j hj).trans (hfr0 j hj), hgr, hH, dn, ht0, by omega, Or.inl ⟨rfl, ?_, ?_, n, rd, P, G, ⟨hm0, hm1, hm2⟩, hok, h8, ?_⟩⟩
        · rw [hdo, zDo_end (by omega)]
        · rcases hsc with q | q; exfalso; omega; rw [q.2]
        · rw [hdo, zDo_end (by omega)]; exact hsm
      · refine lv_iload_n hx hb dX8_wrongPlace_12 rfl (lv_at hl 1 rfl) ?_
        refine lv_aload_n hx hb dX8_wrongPlace_13 rfl (lv_at hl 2 rfl) ?_
        refine x_get (C := RX8) (T := TX8) (N := 3) hx hb hts hin_X8 hown hK hP (23) (by decide) ht0 rfl 1 (by decide) hw_0 (fun _ h9 => h9) rfl dX8_wrongPlace_14 ?_
        refine x_icmp_ge (tgt := 55) hx hb (by omega) (by omega) dX8_wrongPlace_17 (by decide) (fun c_17 => ?_) (fun c_17 => ?_)
        · refine x_iconst hx hb dX8_wrongPlace_55 ?_
          refine W.widen (k := 60) (n := 60) (by omega) (by omega) ?_
          refine x_retQ hx hb hr (by omega) ?_ hP hD hS dX8_wrongPlace_56 hlocks
          refine ⟨fun j hj => (hfr j hj).trans (hfr0 j hj), hgr, hH, dn, ht0, by omega, Or.inl ⟨rfl, ?_, ?_, n, rd, P, G, ⟨hm0, hm1, hm2⟩, hok, h8, ?_⟩⟩
          · rw [hdo, zDo_end (by omega)]
          · rcases hsc with q | q; exfalso; omega; rw [q.2]
          · rw [hdo, zDo_end (by omega)]; exact hsm
        · have hse : w9 < sz ∧ zScan (zCc Bf sz) sz 101 0 0 = zScan (zCc Bf sz) sz (101 - dn).toNat w9 dn := by (rcases hsc with q | q; exact q; exfalso; omega)
          have hse := hse.2
          have hso := zScan_ok (C := zCc Bf sz) (z := sz) (p := w9) (n := dn) ⟨by omega, by omega⟩ (by omega) (by (rw [← hse]; exact hscan))
          refine lv_aload_n hx hb dX8_wrongPlace_20 rfl (lv_at hl 2 rfl) ?_
          refine lv_iload_n hx hb dX8_wrongPlace_21 rfl (lv_at hl 1 rfl) ?_
          refine lv_aload_n hx hb dX8_wrongPlace_22 rfl (lv_at hl 3 rfl) ?_
          refine x_cqi (mc := 1) (ms := 1) (va_runV (As := [.int (iI (w9)), .ref (g.2.2 7)]) (rest := []) ⟨hx, hb, hml, hown, hts⟩ (c_X8_isDone l g σ A bi hbi sz (dn) ht0 Bf hbf hsz hBr hb7 n rd P G ⟨hm0, hm1, hm2⟩ hok hH h8 S hsm (w9) (by omega) hso.1) (cwV 2 hts gX8_wrongPlace_X8_isDone rfl rfl rfl (by decide +kernel) ⟨Nat.le_of_ble_eq_true rfl, Nat.le_of_ble_eq_true rfl⟩) (xn_preV hK hP hD hS hA hN (x_recv hK hP (i := 23) (by decide) ht0 rfl)) rfl rfl hl.1 rfl (lv_room (Nat.le_of_ble_eq_true rfl)) dX8_wrongPlace_23 ⟨by (rw [hRc]; omega), by (rw [hRs]; omega)⟩) hS (fun r_23 τ H locs hr_23 hpost hP hD hS => ?_)
          have hrz : r_23 = 0 ∨ r_23 = 1 := by (rcases hpost.2.2.2 with q | q; exact Or.inr q.1; exact Or.inl q.1)
          have hgr := hgr.tr hpost.2.1
          have hH := hpost.2.2.1
          have ht0 := (hpost.1 23 (by omega)).trans ht0
          have hbf := (hpost.1 bi (by omega)).trans hbf
          have hfr0 : ∀ j, (j ≠ 7 ∧ j ≠ 8 ∧ j ≠ 9 ∧ j ≠ 23) → τ.1 j = σ0.1 j := fun j hj => (hpost.1 j (by omega)).trans (hfr0 j hj)
          have hfr : ∀ j, (j ≠ 7 ∧ j ≠ 8 ∧ j ≠ 9 ∧ j ≠ 23) → τ.1 j = τ.1 j := fun _ _ => rfl
          refine x_if_ne (tgt := 31) hx hb (by omega) dX8_wrongPlace_26 (by decide) (fun c_26 => ?_) (fun c_26 => ?_)
          · obtain ⟨hz1, n2, rd2, P2, G2, hst2, hok2, h82, hsm2⟩ : (zTl (zCc Bf sz) S w9).1 = 1 ∧ ∃ n2 rd2 P2 G2, StAt g τ.1 7 n2 rd2 P2 G2 ∧ StOk τ n2 rd2 P2 G2 ∧ n2 ≤ 8 ∧ xSame τ n2 rd2 P2 G2 (zTl (zCc Bf sz) S w9).2 := by (rcases hpost.2.2.2 with q | q; exact q.2; exfalso; omega)
            have hm0 : τ.1 7 = .inr (7, [.ref (g.2.2 8), .ref (g.2.2 9), .int (iI n2), .int (iI rd2)]) := hst2.1
            have hm1 : MRef g τ.1 8 9 G2 := hst2.2.1
            have hm2 : MArr g τ.1 9 9 P2 := hst2.2.2
            refine lv_aload_n hx hb dX8_wrongPlace_31 rfl (lv_at hl 2 rfl) ?_
            refine lv_dup hx hb dX8_wrongPlace_32 rfl ?_
            refine x_get (C := RX8) (T := TX8) (N := 3) hx hb hts hin_X8 hown hK hP (23) (by decide) ht0 rfl 2 (by decide) hw_2 (fun _ h9 => h9) rfl dX8_wrongPlace_33 ?_
            refine x_iconst hx hb dX8_wrongPlace_36 ?_
            refine x_iadd hx hb dX8_wrongPlace_37 ?_
            refine x_put (C := RX8) (T := TX8) (N := 3) (ty := .int) hx hb hts hin_X8 hown hK hP hD hS (23) (by decide) ht0 rfl tyX8 tyX8_ok nmX8 2 (by decide) hw_2 (fun _ h9 => h9) rfl (by decide +kernel) rfl rfl (Nat.le_of_ble_eq_true rfl) dX8_wrongPlace_38 (fun M_1 H locs hnew hne hP hD hS => ?_)
            have hP : xP g (M_1, τ.2) H := hP
            have hD : xD g A (M_1, τ.2) := hD
            have ht0 : M_1 (23) = .inr (8, [.ref (g.2.2 (bi)), .int (iI (sz)), .int (iI (dn + 1))]) := hnew
            have hbf := (hne (bi) (by omega)).trans hbf
            have hm0 := (hne (7) (by decide)).trans hm0
            have hm1 := (hne (8) (by decide)).trans hm1
            have hm2 := (hne (9) (by decide)).trans hm2
            have hfr := x_fr (F := fun j => j ≠ 7 ∧ j ≠ 8 ∧ j ≠ 9 ∧ j ≠ 23) hfr hne (fun j h => by have h : j ≠ 7 ∧ j ≠ 8 ∧ j ≠ 9 ∧ j ≠ 23 := h; omega)
            refine lv_aload_n hx hb dX8_wrongPlace_41 rfl (lv_at hl 2 rfl) ?_
            refine lv_iload_n hx hb dX8_wrongPlace_42 rfl (lv_at hl 1 rfl) ?_
            refine x_ci (va_runV (As := [.int (iI (w9))]) (rest := []) ⟨hx, hb, hml, hown, hts⟩ (c_X8_endOf l g (M_1, τ.2) bi hbi (sz) (dn + 1) ht0 Bf hbf hsz hBr (w9) (by omega)) (cwV 1 hts gX8_wrongPlace_X8_endOf rfl rfl rfl (by decide +kernel) ⟨Nat.le_of_ble_eq_true rfl, Nat.le_of_ble_eq_true rfl⟩) (x_preV hK hP (x_recv hK hP (i := 23) (by decide) ht0 rfl)) rfl rfl hl.1 rfl (lv_room (Nat.le_of_ble_eq_true rfl)) dX8_wrongPlace_43 ⟨by (rw [hRc]; omega), by (rw [hRs]; omega)⟩) (fun r_43 hr_43 qr_43 => ?_)
            replace qr_43 : r_43 = zEnd (zCc Bf sz) (w9) ∧ (w9) ≤ r_43 ∧ r_43 ≤ (w9) + 7 := qr_43
            refine x_iconst hx hb dX8_wrongPlace_46 ?_
            refine x_iadd hx hb dX8_wrongPlace_47 ?_
            refine lv_istore_n (lv' := [(2, .int (iI (r_43 + 1))), (3, .int (iI (dn))), (0, .ref (g.2.2 23)), (1, .ref (g.2.2 7))]) hx hb dX8_wrongPlace_48 rfl hl (by decide) rfl (fun ls hl => ?_)
            refine x_iinc (k0 := 1) (lv' := [(3, .int (iI (dn + 1))), (2, .int (iI (r_43 + 1))), (0, .ref (g.2.2 23)), (1, .ref (g.2.2 7))]) hx hb dX8_wrongPlace_49 hl rfl (by decide) rfl (fun ls hl => ?_)
            refine lv_goto (tgt := 4) hx hb dX8_wrongPlace_52 (by decide) ?_
            have hen : dn.toNat + 1 = (dn + 1).toNat := by omega
            rw [hen]
            have hgt9 := zEnd_gt hso.1
            exact ih (M_1, τ.2) (dn + 1) (r_43 + 1) (zTl (zCc Bf sz) S w9).2 n2 rd2 P2 G2 _ _ ls (by omega) ht0 hbf ⟨hm0, hm1, hm2⟩ hok2 hH h82 hsm2 (fun j hj => (hfr j hj).trans (hfr0 j hj)) hgr (by omega) (by (by_cases hq : r_43 + 1 < sz; (left; refine ⟨hq, ?_⟩; rw [hse, zScan_go ⟨by omega, by omega⟩ hso.1 (by omega), ← qr_43.1]); (right; refine ⟨by omega, ?_⟩; rw [hse]; exact zScan_fin ⟨by omega, by omega⟩ hso.1 (by omega)))) (by (rw [hdo, zDo_unf ⟨by omega, by omega⟩, if_pos (by omega), if_pos hz1, ← qr_43.1])) hP hD hS (lv_sub hl [0, 1, 2, 3] rfl)
            -- back
          · refine lv_iload_n hx hb dX8_wrongPlace_29 rfl (lv_at hl 1 rfl) ?_
            refine W.widen (k := 60) (n := 60) (by omega) (by omega) ?_
            refine x_retQ hx hb hr (by omega) ?_ hP hD hS dX8_wrongPlace_30 hlocks
            refine ⟨fun j hj => (hfr j hj).trans (hfr0 j hj), hgr, hH, dn, ht0, by omega, Or.inr ⟨by omega, ?_, by omega, ?_⟩⟩
            · rw [hdo, zDo_unf ⟨by omega, by omega⟩, if_pos (by omega), if_neg (by rcases hpost.2.2.2 with q | q; omega; omega)]
            · rcases hpost.2.2.2 with q | q; exfalso; omega; exact q.2.2
  refine x_iconst hx hb dX8_wrongPlace_0 ?_
  refine lv_istore_n (lv' := [(2, .int (iI (0))), (0, .ref (g.2.2 23)), (1, .ref (g.2.2 7))]) hx hb dX8_wrongPlace_1 rfl hl (by decide) rfl (fun ls hl => ?_)
  refine x_iconst hx hb dX8_wrongPlace_2 ?_
  refine lv_istore_n (lv' := [(3, .int (iI (0))), (2, .int (iI (0))), (0, .ref (g.2.2 23)), (1, .ref (g.2.2 7))]) hx hb dX8_wrongPlace_3 rfl hl (by decide) rfl (fun ls hl => ?_)
  exact hloop 201 σ0 0 0 S0 n0 rd0 P0 G0 _ _ ls (by omega) ht00 hbf0 hst0 hok0 hH0 h80 hsm0 (fun _ _ => rfl) (xGrow.rf rfl) (by omega) (Or.inl ⟨hz0, rfl⟩) rfl hP hD hS (lv_sub hl [0, 1, 2, 3] rfl)
