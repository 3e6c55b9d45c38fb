set_option maxHeartbeats 4000000 in
set_option maxRecDepth 100000 in
theorem lc_given {p : Program} {e : Env} {s : State} {m : MethodId} {below : List Frame} {meth : Method} {c : Code} (l : Launch) (hlst : l.stackTraces = false) {b L : Nat} {xs : Nat → Int32} (hL : L ≤ 3072) (C0 : l_At p s m meth c b L xs) (g : xG) (hK : xK g s) (hN : xNst s) (hT : xcT (fun q : Nat => s.heap.size ≤ q) s s.heap) (Q : State → Prop) (σ : xS) (H : Heap) (locs : List Loc) (cells slots : Nat) (i : Int) (hi0 : 0 ≤ i) (hi : i + 6 ≤ L) (hcl : cells + 64 ≤ 601024) (hsl : slots + 64 ≤ 7293034) (hI : LI g σ) (hP : xP g σ H) (hD : xD g (fun q : Nat => s.heap.size ≤ q) σ) (hS : va_S (fun q : Nat => s.heap.size ≤ q) s.heap H locs) (ls : Array Slot) (hl : lv_has ls 8 [(0, .ref b), (1, .ref (g.2.2 0)), (2, .ref (g.2.2 37)), (3, .ref (g.2.2 50)), (4, .int (iI i))]) (kk : ∀ (σ2 : xS) (H : Heap) (locs : List Loc) (ls : Array Slot), LI g σ2 → xP g σ2 H → xD g (fun q : Nat => s.heap.size ≤ q) σ2 → va_S (fun q : Nat => s.heap.size ≤ q) s.heap H locs → lv_has ls 8 [(0, .ref b), (1, .ref (g.2.2 0)), (2, .ref (g.2.2 37)), (3, .ref (g.2.2 50)), (4, .int (iI i))] → W p l e room_1 s m #[Value.ref b] below meth c H locs (cells + 64) (slots + 64) Q (F0 m 1223 ls [])) : W p l e room_1 s m #[Value.ref b] below meth c H locs cells slots Q (F0 m 699 ls []) := by
  obtain ⟨hx, hb, hml, hown, hts, hXs, hbl, hlocks⟩ := id C0
  have hA : ∀ q : Nat, s.heap.size ≤ q → (fun q : Nat => s.heap.size ≤ q) q := fun _ h => h
  have hbA : ¬ (fun q : Nat => s.heap.size ≤ q) b := Nat.not_le.mpr hbl
  obtain ⟨ph, tk, n, rd, P, G, ni, ri, Pi, Gi, Kf, So, Sz, El, ov, S, Im, Kp, So2, Sz2, El2, KK, KF, hX, hM, hO, hR⟩ := id hI
  obtain ⟨hx0, ⟨ha_ph, hph⟩, htk, hH, ⟨hst, hok, h8⟩, ⟨hsi9, hoi, hi8⟩, ⟨nm, rm, Pm, Gm, hsm9, hom⟩, hpt, ⟨bi0, sz0, dn0, ht0⟩, h25, h26, h27, hxs, h28, hrow, hEl⟩ := id hX
  obtain ⟨v1, hv1, ev1⟩ := iI_of (xs (iI (i + 1)).toNatClampNeg)
  obtain ⟨v2, hv2, ev2⟩ := iI_of (xs (iI (i + 2)).toNatClampNeg)
  refine lv_aload_n hx hb dL_law_699 rfl (lv_at hl 1 rfl) ?_
  refine lv_aload_n hx hb dL_law_700 rfl (lv_at hl 0 rfl) ?_
  refine lv_iload hx hb dL_law_701 (lv_at hl 4 rfl) ?_
  refine x_iconst hx hb dL_law_703 ?_
  refine x_iadd hx hb dL_law_704 ?_
  refine va_sld hx hb hXs hbl hbA hS (iI_in (by omega) (by omega) (by omega)) dL_law_705 ?_
  rw [ev1]
  refine lv_aload_n hx hb dL_law_706 rfl (lv_at hl 0 rfl) ?_
  refine lv_iload hx hb dL_law_707 (lv_at hl 4 rfl) ?_
  refine x_iconst hx hb dL_law_709 ?_
  refine x_iadd hx hb dL_law_710 ?_
  refine va_sld hx hb hXs hbl hbA hS (iI_in (by omega) (by omega) (by omega)) dL_law_711 ?_
  rw [ev2]
  refine x_cqi (mc := 0) (ms := 0) (va_runV (As := [.int (iI v1), .int (iI v2)]) (rest := []) ⟨hx, hb, hml, hown, hts⟩ (c_X11_given l g σ (fun q : Nat => s.heap.size ≤ q) ph tk hx0 n rd P G hst hok hH nm rm Pm Gm hsm9 hom Kf So Sz h25 h26 h27 hxs El h28 hrow hEl v1 hv1 v2 hv2) (cwV 2 hts gL_law_X11_given rfl rfl rfl (by decide +kernel) ⟨Nat.le_of_ble_eq_true rfl, Nat.le_of_ble_eq_true rfl⟩) (x_preVQ hK hP hD hS hA (x_recv hK hP (i := 0) (by decide) hx0 rfl)) rfl rfl hl.1 rfl (lv_room (Nat.le_of_ble_eq_true rfl)) dL_law_712 ⟨by (show cells + 0 ≤ 601024; omega), by (show slots + 0 ≤ 7293034; omega)⟩) hS (fun r1 σ1 H locs hr1 p1 hP hD hS => ?_)
  have hM1 := hM.fr (M1 := σ1.1) (fun j hj => p1.2.1 j (by omega))
  obtain ⟨hob, ⟨hs0, hokm, hn8⟩, ⟨h39, hIm⟩, ⟨Rd, h40⟩, ⟨Mi, h41⟩, ⟨h42, h43, h44, h45, h46, h47⟩, hsh, ⟨Nm, h48, hNm⟩, Wz, h49⟩ := id hM1
  refine lv_aload_n hx hb dL_law_715 rfl (lv_at hl 2 rfl) ?_
  refine lv_aload_n hx hb dL_law_716 rfl (lv_at hl 0 rfl) ?_
  refine lv_iload hx hb dL_law_717 (lv_at hl 4 rfl) ?_
  refine x_iconst hx hb dL_law_719 ?_
  refine x_iadd hx hb dL_law_720 ?_
  refine va_sld hx hb hXs hbl hbA hS (iI_in (by omega) (by omega) (by omega)) dL_law_721 ?_
  rw [ev1]
  refine lv_aload_n hx hb dL_law_722 rfl (lv_at hl 0 rfl) ?_
  refine lv_iload hx hb dL_law_723 (lv_at hl 4 rfl) ?_
  refine x_iconst hx hb dL_law_725 ?_
  refine x_iadd hx hb dL_law_726 ?_
  refine va_sld hx hb hXs hbl hbA hS (iI_in (by omega) (by omega) (by omega)) dL_law_727 ?_
  rw [ev2]
  refine x_cqi0 (va_runV (As := [.int (iI v1), .int (iI v2)]) (rest := [.int (iI r1)]) ⟨hx, hb, hml, hown, hts⟩ (c_X12_given l g σ1 (fun q : Nat => s.heap.size ≤ q) ov S hob hs0 hokm Kp So2 Sz2 El2 KK KF h42 h43 h44 h45 h46 h47 hsh v1 hv1 v2 hv2 Mi h41) (cwV 2 hts gL_law_X12_given rfl rfl rfl (by decide +kernel) ⟨Nat.le_of_ble_eq_true rfl, Nat.le_of_ble_eq_true rfl⟩) (x_preVQ hK hP hD hS hA (x_recv hK hP (i := 37) (by decide) hob rfl)) rfl rfl hl.1 rfl (lv_room (Nat.le_of_ble_eq_true rfl)) dL_law_728 ⟨by (show (cells + 0) + 0 ≤ 601024; omega), by (show (slots + 0) + 0 ≤ 7293034; omega)⟩) hS (fun r2 σ2 H locs hr2 p2 hP hD hS => ?_)
  obtain ⟨e9, hI2⟩ := st_given hX hM hO hR p1 p2
  refine x_icmp_eq (tgt := 1223) hx hb hr1 hr2 dL_law_731 (by decide) (fun c9 => ?_) (fun c9 => ?_)
  · refine W.widen (k := cells + 64) (n := slots + 64) (by omega) (by omega) ?_
    exact kk σ2 H locs ls hI2 hP hD hS hl
  · exact absurd e9 c9

set_option maxHeartbeats 4000000 in
set_option maxRecDepth 100000 in
theorem lc_tax {p : Program} {e : Env} {s : State} {m : MethodId} {below : List Frame} {meth : Method} {c : Code} (l : Launch) (hlst : l.stackTraces = false) {b L : Nat} {xs : Nat → Int32} (hL : L ≤ 3072) (C0 : l_At p s m meth c b L xs) (g : xG) (hK : xK g s) (hN : xNst s) (hT : xcT (fun q : Nat => s.heap.size ≤ q) s s.heap) (Q : State → Prop) (σ : xS) (H : Heap) (locs : List Loc) (cells slots : Nat) (i : Int) (hi0 : 0 ≤ i) (hi : i + 6 ≤ L) (hcl : cells + 64 ≤ 601024) (hsl : slots + 64 ≤ 7293034) (hI : LI g σ) (hP : xP g σ H) (hD : xD g (fun q : Nat => s.heap.size ≤ q) σ) (hS : va_S (fun q : Nat => s.heap.size ≤ q) s.heap H locs) (ls : Array Slot) (hl : lv_has ls 8 [(0, .ref b), (1, .ref (g.2.2 0)), (2, .ref (g.2.2 37)), (3, .ref (g.2.2 50)), (4, .int (iI i))]) (kk : ∀ (σ2 : xS) (H : Heap) (locs : List Loc) (ls : Array Slot), LI g σ2 → xP g σ2 H → xD g (fun q : Nat => s.heap.size ≤ q) σ2 → va_S (fun q : Nat => s.heap.size ≤ q) s.heap H locs → lv_has ls 8 [(0, .ref b), (1, .ref (g.2.2 0)), (2, .ref (g.2.2 37)), (3, .ref (g.2.2 50)), (4, .int (iI i))] → W p l e room_1 s m #[Value.ref b] below meth c H locs (cells + 64) (slots + 64) Q (F0 m 1223 ls [])) : W p l e room_1 s m #[Value.ref b] below meth c H locs cells slots Q (F0 m 736 ls []) := by
  obtain ⟨hx, hb, hml, hown, hts, hXs, hbl, hlocks⟩ := id C0
  have hA : ∀ q : Nat, s.heap.size ≤ q → (fun q : Nat => s.heap.size ≤ q) q := fun _ h => h
  have hbA : ¬ (fun q : Nat => s.heap.size ≤ q) b := Nat.not_le.mpr hbl
  obtain ⟨ph, tk, n, rd, P, G, ni, ri, Pi, Gi, Kf, So, Sz, El, ov, S, Im, Kp, So2, Sz2, El2, KK, KF, hX, hM, hO, hR⟩ := id hI
  obtain ⟨hx0, ⟨ha_ph, hph⟩, htk, hH, ⟨hst, hok, h8⟩, ⟨hsi9, hoi, hi8⟩, ⟨nm, rm, Pm, Gm, hsm9, hom⟩, hpt, ⟨bi0, sz0, dn0, ht0⟩, h25, h26, h27, hxs, h28, hrow, hEl⟩ := id hX
  obtain ⟨v1, hv1, ev1⟩ := iI_of (xs (iI (i + 1)).toNatClampNeg)
  refine lv_aload_n hx hb dL_law_736 rfl (lv_at hl 1 rfl) ?_
  refine lv_aload_n hx hb dL_law_737 rfl (lv_at hl 0 rfl) ?_
  refine lv_iload hx hb dL_law_738 (lv_at hl 4 rfl) ?_
  refine x_iconst hx hb dL_law_740 ?_
  refine x_iadd hx hb dL_law_741 ?_
  refine va_sld hx hb hXs hbl hbA hS (iI_in (by omega) (by omega) (by omega)) dL_law_742 ?_
  rw [ev1]
  refine x_ci (va_runV (As := [.int (iI v1)]) (rest := []) ⟨hx, hb, hml, hown, hts⟩ (c_X11_tax l g σ ph tk hx0 n rd P G hst hok hH v1 hv1) (cwV 1 hts gL_law_X11_tax rfl rfl rfl (by decide +kernel) ⟨Nat.le_of_ble_eq_true rfl, Nat.le_of_ble_eq_true rfl⟩) (x_preV hK hP (x_recv hK hP (i := 0) (by decide) hx0 rfl)) rfl rfl hl.1 rfl (lv_room (Nat.le_of_ble_eq_true rfl)) dL_law_743 ⟨by (show cells + 0 ≤ 601024; omega), by (show slots + 0 ≤ 7293034; omega)⟩) (fun r1 hr1 p1 => ?_)
  have hM1 := hM
  obtain ⟨hob, ⟨hs0, hokm, hn8⟩, ⟨h39, hIm⟩, ⟨Rd, h40⟩, ⟨Mi, h41⟩, ⟨h42, h43, h44, h45, h46, h47⟩, hsh, ⟨Nm, h48, hNm⟩, Wz, h49⟩ := id hM1
  refine lv_aload_n hx hb dL_law_746 rfl (lv_at hl 2 rfl) ?_
  refine lv_aload_n hx hb dL_law_747 rfl (lv_at hl 0 rfl) ?_
  refine lv_iload hx hb dL_law_748 (lv_at hl 4 rfl) ?_
  refine x_iconst hx hb dL_law_750 ?_
  refine x_iadd hx hb dL_law_751 ?_
  refine va_sld hx hb hXs hbl hbA hS (iI_in (by omega) (by omega) (by omega)) dL_law_752 ?_
  rw [ev1]
  refine x_ci (va_runV (As := [.int (iI v1)]) (rest := [.int (iI r1)]) ⟨hx, hb, hml, hown, hts⟩ (c_X12_tax l g σ ov S hob hs0 hokm v1 hv1) (cwV 1 hts gL_law_X12_tax rfl rfl rfl (by decide +kernel) ⟨Nat.le_of_ble_eq_true rfl, Nat.le_of_ble_eq_true rfl⟩) (x_preV hK hP (x_recv hK hP (i := 37) (by decide) hob rfl)) rfl rfl hl.1 rfl (lv_room (Nat.le_of_ble_eq_true rfl)) dL_law_753 ⟨by (show cells + 0 ≤ 601024; omega), by (show slots + 0 ≤ 7293034; omega)⟩) (fun r2 hr2 p2 => ?_)
  have e9 := st_tax hX hM hO hR p1 p2
  refine x_icmp_eq (tgt := 1223) hx hb hr1 hr2 dL_law_756 (by decide) (fun c9 => ?_) (fun c9 => ?_)
  · refine W.widen (k := cells + 64) (n := slots + 64) (by omega) (by omega) ?_
    exact kk σ H locs ls hI hP hD hS hl
  · exact absurd e9 c9

set_option maxHeartbeats 4000000 in
set_option maxRecDepth 100000 in
theorem lc_seeded {p : Program} {e : Env} {s : State} {m : MethodId} {below : List Frame} {meth : Method} {c : Code} (l : Launch) (hlst : l.stackTraces = false) {b L : Nat} {xs : Nat → Int32} (hL : L ≤ 3072) (C0 : l_At p s m meth c b L xs) (g : xG) (hK : xK g s) (hN : xNst s) (hT : xcT (fun q : Nat => s.heap.size ≤ q) s s.heap) (Q : State → Prop) (σ : xS) (H : Heap) (locs : List Loc) (cells slots : Nat) (i : Int) (hi0 : 0 ≤ i) (hi : i + 6 ≤ L) (hcl : cells + 64 ≤ 601024) (hsl : slots + 64 ≤ 7293034) (hI : LI g σ) (hP : xP g σ H) (hD : xD g (fun q : Nat => s.heap.size ≤ q) σ) (hS : va_S (fun q : Nat => s.heap.size ≤ q) s.heap H locs) (ls : Array Slot) (hl : lv_has ls 8 [(0, .ref b), (1, .ref (g.2.2 0)), (2, .ref (g.2.2 37)), (3, .ref (g.2.2 50)), (4, .int (iI i))]) (kk : ∀ (σ2 : xS) (H : Heap) (locs : List Loc) (ls : Array Slot), LI g σ2 → xP g σ2 H → xD g (fun q : Nat => s.heap.size ≤ q) σ2 → va_S (fun q : Nat => s.heap.size ≤ q) s.heap H locs → lv_has ls 8 [(0, .ref b), (1, .ref (g.2.2 0)), (2, .ref (g.2.2 37)), (3, .ref (g.2.2 50)), (4, .int (iI i))] → W p l e room_1 s m #[Value.ref b] below meth c H locs (cells + 64) (slots + 64) Q (F0 m 1223 ls [])) : W p l e room_1 s m #[Value.ref b] below meth c H locs cells slots Q (F0 m 761 ls []) := by
  obtain ⟨hx, hb, hml, hown, hts, hXs, hbl, hlocks⟩ := id C0
  have hA : ∀ q : Nat, s.heap.size ≤ q → (fun q : Nat => s.heap.size ≤ q) q := fun _ h => h
  have hbA : ¬ (fun q : Nat => s.heap.size ≤ q) b := Nat.not_le.mpr hbl
  obtain ⟨ph, tk, n, rd, P, G, ni, ri, Pi, Gi, Kf, So, Sz, El, ov, S, Im, Kp, So2, Sz2, El2, KK, KF, hX, hM, hO, hR⟩ := id hI
  obtain ⟨hx0, ⟨ha_ph, hph⟩, htk, hH, ⟨hst, hok, h8⟩, ⟨hsi9, hoi, hi8⟩, ⟨nm, rm, Pm, Gm, hsm9, hom⟩, hpt, ⟨bi0, sz0, dn0, ht0⟩, h25, h26, h27, hxs, h28, hrow, hEl⟩ := id hX
  obtain ⟨v1, hv1, ev1⟩ := iI_of (xs (iI (i + 1)).toNatClampNeg)
  obtain ⟨v2, hv2, ev2⟩ := iI_of (xs (iI (i + 2)).toNatClampNeg)
  refine lv_aload_n hx hb dL_law_761 rfl (lv_at hl 1 rfl) ?_
  refine lv_aload_n hx hb dL_law_762 rfl (lv_at hl 0 rfl) ?_
  refine lv_iload hx hb dL_law_763 (lv_at hl 4 rfl) ?_
  refine x_iconst hx hb dL_law_765 ?_
  refine x_iadd hx hb dL_law_766 ?_
  refine va_sld hx hb hXs hbl hbA hS (iI_in (by omega) (by omega) (by omega)) dL_law_767 ?_
  rw [ev1]
  refine lv_aload_n hx hb dL_law_768 rfl (lv_at hl 0 rfl) ?_
  refine lv_iload hx hb dL_law_769 (lv_at hl 4 rfl) ?_
  refine x_iconst hx hb dL_law_771 ?_
  refine x_iadd hx hb dL_law_772 ?_
  refine va_sld hx hb hXs hbl hbA hS (iI_in (by omega) (by omega) (by omega)) dL_law_773 ?_
  rw [ev2]
  refine x_cqi (mc := 0) (ms := 0) (va_runV (As := [.int (iI v1), .int (iI v2)]) (rest := []) ⟨hx, hb, hml, hown, hts⟩ (c_X11_seeded l g σ (fun q : Nat => s.heap.size ≤ q) ph tk hx0 n rd P G hst hok hH nm rm Pm Gm hsm9 hom v1 hv1 v2 hv2) (cwV 2 hts gL_law_X11_seeded rfl rfl rfl (by decide +kernel) ⟨Nat.le_of_ble_eq_true rfl, Nat.le_of_ble_eq_true rfl⟩) (x_preVQ hK hP hD hS hA (x_recv hK hP (i := 0) (by decide) hx0 rfl)) rfl rfl hl.1 rfl (lv_room (Nat.le_of_ble_eq_true rfl)) dL_law_774 ⟨by (show cells + 0 ≤ 601024; omega), by (show slots + 0 ≤ 7293034; omega)⟩) hS (fun r1 σ1 H locs hr1 p1 hP hD hS => ?_)
  have hM1 := hM.fr (M1 := σ1.1) (fun j hj => p1.2.1 j (by omega))
  obtain ⟨hob, ⟨hs0, hokm, hn8⟩, ⟨h39, hIm⟩, ⟨Rd, h40⟩, ⟨Mi, h41⟩, ⟨h42, h43, h44, h45, h46, h47⟩, hsh, ⟨Nm, h48, hNm⟩, Wz, h49⟩ := id hM1
  refine lv_aload_n hx hb dL_law_777 rfl (lv_at hl 2 rfl) ?_
  refine lv_aload_n hx hb dL_law_778 rfl (lv_at hl 0 rfl) ?_
  refine lv_iload hx hb dL_law_779 (lv_at hl 4 rfl) ?_
  refine x_iconst hx hb dL_law_781 ?_
  refine x_iadd hx hb dL_law_782 ?_
  refine va_sld hx hb hXs hbl hbA hS (iI_in (by omega) (by omega) (by omega)) dL_law_783 ?_
  rw [ev1]
  refine lv_aload_n hx hb dL_law_784 rfl (lv_at hl 0 rfl) ?_
  refine lv_iload hx hb dL_law_785 (lv_at hl 4 rfl) ?_
  refine x_iconst hx hb dL_law_787 ?_
  refine x_iadd hx hb dL_law_788 ?_
  refine va_sld hx hb hXs hbl hbA hS (iI_in (by omega) (by omega) (by omega)) dL_law_789 ?_
  rw [ev2]
  refine x_cqi0 (va_runV (As := [.int (iI v1), .int (iI v2)]) (rest := [.int (iI r1)]) ⟨hx, hb, hml, hown, hts⟩ (c_X12_seeded l g σ1 (fun q : Nat => s.heap.size ≤ q) ov S hob hs0 hokm v1 hv1 v2 hv2 Mi h41) (cwV 2 hts gL_law_X12_seeded rfl rfl rfl (by decide +kernel) ⟨Nat.le_of_ble_eq_true rfl, Nat.le_of_ble_eq_true rfl⟩) (x_preVQ hK hP hD hS hA (x_recv hK hP (i := 37) (by decide) hob rfl)) rfl rfl hl.1 rfl (lv_room (Nat.le_of_ble_eq_true rfl)) dL_law_790 ⟨by (show (cells + 0) + 0 ≤ 601024; omega), by (show (slots + 0) + 0 ≤ 7293034; omega)⟩) hS (fun r2 σ2 H locs hr2 p2 hP hD hS => ?_)
  obtain ⟨e9, hI2⟩ := st_seeded hX hM hO hR p1 p2
  refine x_icmp_eq (tgt := 1223) hx hb hr1 hr2 dL_law_793 (by decide) (fun c9 => ?_) (fun c9 => ?_)
  · refine W.widen (k := cells + 64) (n := slots + 64) (by omega) (by omega) ?_
    exact kk σ2 H locs ls hI2 hP hD hS hl
  · exact absurd e9 c9

set_option maxHeartbeats 4000000 in
set_option maxRecDepth 100000 in
theorem lc_judge {p : Program} {e : Env} {s : State} {m : MethodId} {below : List Frame} {meth : Method} {c : Code} (l : Launch) (hlst : l.stackTraces = false) {b L : Nat} {xs : Nat → Int32} (hL : L ≤ 3072) (C0 : l_At p s m meth c b L xs) (g : xG) (hK : xK g s) (hN : xNst s) (hT : xcT (fun q : Nat => s.heap.size ≤ q) s s.heap) (Q : State → Prop) (σ : xS) (H : Heap) (locs : List Loc) (cells slots : Nat) (i : Int) (hi0 : 0 ≤ i) (hi : i + 6 ≤ L) (hcl : cells + 64 ≤ 601024) (hsl : slots + 64 ≤ 7293034) (hI : LI g σ) (hP : xP g σ H) (hD : xD g (fun q : Nat => s.heap.size ≤ q) σ) (hS : va_S (fun q : Nat => s.heap.size ≤ q) s.heap H locs) (ls : Array Slot) (hl : lv_has ls 8 [(0, .ref b), (1, .ref (g.2.2 0)), (2, .ref (g.2.2 37)), (3, .ref (g.2.2 50)), (4, .int (iI i))]) (kk : ∀ (σ2 : xS) (H : Heap) (locs : List Loc) (ls : Array Slot), LI g σ2 → xP g σ2 H → xD g (fun q : Nat => s.heap.size ≤ q) σ2 → va_S (fun q : Nat => s.heap.size ≤ q) s.heap H locs → lv_has ls 8 [(0, .ref b), (1, .ref (g.2.2 0)), (2, .ref (g.2.2 37)), (3, .ref (g.2.2 50)), (4, .int (iI i))] → W p l e room_1 s m #[Value.ref b] below meth c H locs (cells + 64) (slots + 64) Q (F0 m 1223 ls [])) : W p l e room_1 s m #[Value.ref b] below meth c H locs cells slots Q (F0 m 798 ls []) := by
  obtain ⟨hx, hb, hml, hown, hts, hXs, hbl, hlocks⟩ := id C0
  have hA : ∀ q : Nat, s.heap.size ≤ q → (fun q : Nat => s.heap.size ≤ q) q := fun _ h => h
  have hbA : ¬ (fun q : Nat => s.heap.size ≤ q) b := Nat.not_le.mpr hbl
  obtain ⟨ph, tk, n, rd, P, G, ni, ri, Pi, Gi, Kf, So, Sz, El, ov, S, Im, Kp, So2, Sz2, El2, KK, KF, hX, hM, hO, hR⟩ := id hI
  obtain ⟨hx0, ⟨ha_ph, hph⟩, htk, hH, ⟨hst, hok, h8⟩, ⟨hsi9, hoi, hi8⟩, ⟨nm, rm, Pm, Gm, hsm9, hom⟩, hpt, ⟨bi0, sz0, dn0, ht0⟩, h25, h26, h27, hxs, h28, hrow, hEl⟩ := id hX
  obtain ⟨v1, hv1, ev1⟩ := iI_of (xs (iI (i + 1)).toNatClampNeg)
  refine lv_aload_n hx hb dL_law_798 rfl (lv_at hl 1 rfl) ?_
  refine lv_aload_n hx hb dL_law_799 rfl (lv_at hl 0 rfl) ?_
  refine lv_iload hx hb dL_law_800 (lv_at hl 4 rfl) ?_
  refine x_iconst hx hb dL_law_802 ?_
  refine x_iadd hx hb dL_law_803 ?_
  refine va_sld hx hb hXs hbl hbA hS (iI_in (by omega) (by omega) (by omega)) dL_law_804 ?_
  rw [ev1]
  refine x_ci (va_runV (As := [.int (iI v1)]) (rest := []) ⟨hx, hb, hml, hown, hts⟩ (c_X11_judge l g σ ph tk hx0 n rd P G hst hok hH Kf So Sz h25 h26 h27 hxs El h28 hrow hEl v1 hv1) (cwV 1 hts gL_law_X11_judge rfl rfl rfl (by decide +kernel) ⟨Nat.le_of_ble_eq_true rfl, Nat.le_of_ble_eq_true rfl⟩) (x_preV hK hP (x_recv hK hP (i := 0) (by decide) hx0 rfl)) rfl rfl hl.1 rfl (lv_room (Nat.le_of_ble_eq_true rfl)) dL_law_805 ⟨by (show cells + 0 ≤ 601024; omega), by (show slots + 0 ≤ 7293034; omega)⟩) (fun r1 hr1 p1 => ?_)
  have hM1 := hM
  obtain ⟨hob, ⟨hs0, hokm, hn8⟩, ⟨h39, hIm⟩, ⟨Rd, h40⟩, ⟨Mi, h41⟩, ⟨h42, h43, h44, h45, h46, h47⟩, hsh, ⟨Nm, h48, hNm⟩, Wz, h49⟩ := id hM1
  refine lv_aload_n hx hb dL_law_808 rfl (lv_at hl 2 rfl) ?_
  refine lv_aload_n hx hb dL_law_809 rfl (lv_at hl 0 rfl) ?_
  refine lv_iload hx hb dL_law_810 (lv_at hl 4 rfl) ?_
  refine x_iconst hx hb dL_law_812 ?_
  refine x_iadd hx hb dL_law_813 ?_
  refine va_sld hx hb hXs hbl hbA hS (iI_in (by omega) (by omega) (by omega)) dL_law_814 ?_
  rw [ev1]
  refine x_ci (va_runV (As := [.int (iI v1)]) (rest := [.int (iI r1)]) ⟨hx, hb, hml, hown, hts⟩ (c_X12_judge l g σ ov S hob hs0 hokm Kp So2 Sz2 El2 KK KF h42 h43 h44 h45 h46 h47 hsh v1 hv1) (cwV 1 hts gL_law_X12_judge rfl rfl rfl (by decide +kernel) ⟨Nat.le_of_ble_eq_true rfl, Nat.le_of_ble_eq_true rfl⟩) (x_preV hK hP (x_recv hK hP (i := 37) (by decide) hob rfl)) rfl rfl hl.1 rfl (lv_room (Nat.le_of_ble_eq_true rfl)) dL_law_815 ⟨by (show cells + 0 ≤ 601024; omega), by (show slots + 0 ≤ 7293034; omega)⟩) (fun r2 hr2 p2 => ?_)
  have e9 := st_judge hX hM hO hR p1 p2
  refine x_icmp_eq (tgt := 1223) hx hb hr1 hr2 dL_law_818 (by decide) (fun c9 => ?_) (fun c9 => ?_)
  · refine W.widen (k := cells + 64) (n := slots + 64) (by omega) (by omega) ?_
    exact kk σ H locs ls hI hP hD hS hl
  · exact absurd e9 c9

set_option maxHeartbeats 4000000 in
set_option maxRecDepth 100000 in
theorem lc_image {p : Program} {e : Env} {s : State} {m : MethodId} {below : List Frame} {meth : Method} {c : Code} (l : Launch) (hlst : l.stackTraces = false) {b L : Nat} {xs : Nat → Int32} (hL : L ≤ 3072) (C0 : l_At p s m meth c b L xs) (g : xG) (hK : xK g s) (hN : xNst s) (hT : xcT (fun q : Nat => s.heap.size ≤ q) s s.heap) (Q : State → Prop) (σ : xS) (H : Heap) (locs : List Loc) (cells slots : Nat) (i : Int) (hi0 : 0 ≤ i) (hi : i + 6 ≤ L) (hcl : cells + 64 ≤ 601024) (hsl : slots + 64 ≤ 7293034) (hI : LI g σ) (hP : xP g σ H) (hD : xD g (fun q : Nat => s.heap.size ≤ q) σ) (hS : va_S (fun q : Nat => s.heap.size ≤ q) s.heap H locs) (ls : Array Slot) (hl : lv_has ls 8 [(0, .ref b), (1, .ref (g.2.2 0)), (2, .ref (g.2.2 37)), (3, .ref (g.2.2 50)), (4, .int (iI i))]) (kk : ∀ (σ2 : xS) (H : Heap) (locs : List Loc) (ls : Array Slot), LI g σ2 → xP g σ2 H → xD g (fun q : Nat => s.heap.size ≤ q) σ2 → va_S (fun q : Nat => s.heap.size ≤ q) s.heap H locs → lv_has ls 8 [(0, .ref b), (1, .ref (g.2.2 0)), (2, .ref (g.2.2 37)), (3, .ref (g.2.2 50)), (4, .int (iI i))] → W p l e room_1 s m #[Value.ref b] below meth c H locs (cells + 64) (slots + 64) Q (F0 m 1223 ls [])) : W p l e room_1 s m #[Value.ref b] below meth c H locs cells slots Q (F0 m 823 ls []) := by
  obtain ⟨hx, hb, hml, hown, hts, hXs, hbl, hlocks⟩ := id C0
  have hA : ∀ q : Nat, s.heap.size ≤ q → (fun q : Nat => s.heap.size ≤ q) q := fun _ h => h
  have hbA : ¬ (fun q : Nat => s.heap.size ≤ q) b := Nat.not_le.mpr hbl
  obtain ⟨ph, tk, n, rd, P, G, ni, ri, Pi, Gi, Kf, So, Sz, El, ov, S, Im, Kp, So2, Sz2, El2, KK, KF, hX, hM, hO, hR⟩ := id hI
  obtain ⟨hx0, ⟨ha_ph, hph⟩, htk, hH, ⟨hst, hok, h8⟩, ⟨hsi9, hoi, hi8⟩, ⟨nm, rm, Pm, Gm, hsm9, hom⟩, hpt, ⟨bi0, sz0, dn0, ht0⟩, h25, h26, h27, hxs, h28, hrow, hEl⟩ := id hX
  refine lv_aload_n hx hb dL_law_823 rfl (lv_at hl 1 rfl) ?_
  refine x_cqi (mc := 0) (ms := 0) (va_runV (As := []) (rest := []) ⟨hx, hb, hml, hown, hts⟩ (c_X11_image l g σ (fun q : Nat => s.heap.size ≤ q) ph tk hx0 n rd P G hst hok hH ni ri Pi Gi hsi9 hoi) (cwV 0 hts gL_law_X11_image rfl rfl rfl (by decide +kernel) ⟨Nat.le_of_ble_eq_true rfl, Nat.le_of_ble_eq_true rfl⟩) (x_preVQ hK hP hD hS hA (x_recv hK hP (i := 0) (by decide) hx0 rfl)) rfl rfl hl.1 rfl (lv_room (Nat.le_of_ble_eq_true rfl)) dL_law_824 ⟨by (show cells + 0 ≤ 601024; omega), by (show slots + 0 ≤ 7293034; omega)⟩) hS (fun r1 σ1 H locs hr1 p1 hP hD hS => ?_)
  have hM1 := hM.fr (M1 := σ1.1) (fun j hj => p1.2.1 j (by omega))
  obtain ⟨hob, ⟨hs0, hokm, hn8⟩, ⟨h39, hIm⟩, ⟨Rd, h40⟩, ⟨Mi, h41⟩, ⟨h42, h43, h44, h45, h46, h47⟩, hsh, ⟨Nm, h48, hNm⟩, Wz, h49⟩ := id hM1
  refine lv_aload_n hx hb dL_law_827 rfl (lv_at hl 2 rfl) ?_
  refine x_cqi0 (va_runV (As := []) (rest := [.int (iI r1)]) ⟨hx, hb, hml, hown, hts⟩ (c_X12_image l g σ1 (fun q : Nat => s.heap.size ≤ q) ov S hob hs0 hokm Im h39) (cwV 0 hts gL_law_X12_image rfl rfl rfl (by decide +kernel) ⟨Nat.le_of_ble_eq_true rfl, Nat.le_of_ble_eq_true rfl⟩) (x_preVQ hK hP hD hS hA (x_recv hK hP (i := 37) (by decide) hob rfl)) rfl rfl hl.1 rfl (lv_room (Nat.le_of_ble_eq_true rfl)) dL_law_828 ⟨by (show (cells + 0) + 0 ≤ 601024; omega), by (show (slots + 0) + 0 ≤ 7293034; omega)⟩) hS (fun r2 σ2 H locs hr2 p2 hP hD hS => ?_)
  obtain ⟨e9, hI2⟩ := st_image hX hM hO hR p1 p2
  refine x_icmp_eq (tgt := 1223) hx hb hr1 hr2 dL_law_831 (by decide) (fun c9 => ?_) (fun c9 => ?_)
  · refine W.widen (k := cells + 64) (n := slots + 64) (by omega) (by omega) ?_
    exact kk σ2 H locs ls hI2 hP hD hS hl
  · exact absurd e9 c9

set_option maxHeartbeats 4000000 in
set_option maxRecDepth 100000 in
theorem lc_restore {p : Program} {e : Env} {s : State} {m : MethodId} {below : List Frame} {meth : Method} {c : Code} (l : Launch) (hlst : l.stackTraces = false) {b L : Nat} {xs : Nat → Int32} (hL : L ≤ 3072) (C0 : l_At p s m meth c b L xs) (g : xG) (hK : xK g s) (hN : xNst s) (hT : xcT (fun q : Nat => s.heap.size ≤ q) s s.heap) (Q : State → Prop) (σ : xS) (H : Heap) (locs : List Loc) (cells slots : Nat) (i : Int) (hi0 : 0 ≤ i) (hi : i + 6 ≤ L) (hcl : cells + 64 ≤ 601024) (hsl : slots + 64 ≤ 7293034) (hI : LI g σ) (hP : xP g σ H) (hD : xD g (fun q : Nat => s.heap.size ≤ q) σ) (hS : va_S (fun q : Nat => s.heap.size ≤ q) s.heap H locs) (ls : Array Slot) (hl : lv_has ls 8 [(0, .ref b), (1, .ref (g.2.2 0)), (2, .ref (g.2.2 37)), (3, .ref (g.2.2 50)), (4, .int (iI i))]) (kk : ∀ (σ2 : xS) (H : Heap) (locs : List Loc) (ls : Array Slot), LI g σ2 → xP g σ2 H → xD g (fun q : Nat => s.heap.size ≤ q) σ2 → va_S (fun q : Nat => s.heap.size ≤ q) s.heap H locs → lv_has ls 8 [(0, .ref b), (1, .ref (g.2.2 0)), (2, .ref (g.2.2 37)), (3, .ref (g.2.2 50)), (4, .int (iI i))] → W p l e room_1 s m #[Value.ref b] below meth c H locs (cells + 64) (slots + 64) Q (F0 m 1223 ls [])) : W p l e room_1 s m #[Value.ref b] below meth c H locs cells slots Q (F0 m 836 ls []) := by
  obtain ⟨hx, hb, hml, hown, hts, hXs, hbl, hlocks⟩ := id C0
  have hA : ∀ q : Nat, s.heap.size ≤ q → (fun q : Nat => s.heap.size ≤ q) q := fun _ h => h
  have hbA : ¬ (fun q : Nat => s.heap.size ≤ q) b := Nat.not_le.mpr hbl
  obtain ⟨ph, tk, n, rd, P, G, ni, ri, Pi, Gi, Kf, So, Sz, El, ov, S, Im, Kp, So2, Sz2, El2, KK, KF, hX, hM, hO, hR⟩ := id hI
  obtain ⟨hx0, ⟨ha_ph, hph⟩, htk, hH, ⟨hst, hok, h8⟩, ⟨hsi9, hoi, hi8⟩, ⟨nm, rm, Pm, Gm, hsm9, hom⟩, hpt, ⟨bi0, sz0, dn0, ht0⟩, h25, h26, h27, hxs, h28, hrow, hEl⟩ := id hX
  refine lv_aload_n hx hb dL_law_836 rfl (lv_at hl 1 rfl) ?_
  refine x_cqi (mc := 0) (ms := 0) (va_runV (As := []) (rest := []) ⟨hx, hb, hml, hown, hts⟩ (c_X11_restore l g σ (fun q : Nat => s.heap.size ≤ q) ph tk hx0 n rd P G hst hok hH ni ri Pi Gi hsi9 hoi htk) (cwV 0 hts gL_law_X11_restore rfl rfl rfl (by decide +kernel) ⟨Nat.le_of_ble_eq_true rfl, Nat.le_of_ble_eq_true rfl⟩) (x_preVQ hK hP hD hS hA (x_recv hK hP (i := 0) (by decide) hx0 rfl)) rfl rfl hl.1 rfl (lv_room (Nat.le_of_ble_eq_true rfl)) dL_law_837 ⟨by (show cells + 0 ≤ 601024; omega), by (show slots + 0 ≤ 7293034; omega)⟩) hS (fun r1 σ1 H locs hr1 p1 hP hD hS => ?_)
  have hM1 := hM.fr (M1 := σ1.1) (fun j hj => p1.2.1 j (by omega))
  obtain ⟨hob, ⟨hs0, hokm, hn8⟩, ⟨h39, hIm⟩, ⟨Rd, h40⟩, ⟨Mi, h41⟩, ⟨h42, h43, h44, h45, h46, h47⟩, hsh, ⟨Nm, h48, hNm⟩, Wz, h49⟩ := id hM1
  have hov : ov 10 = 0 ∨ (ov 10 = 1 ∧ SmOk Im) := by (have q := hR.2.1; rcases htk with t | t; exact Or.inl (q.trans t); exact Or.inr ⟨q.trans t, (hR.2.2.1 t).1⟩)
  refine lv_aload_n hx hb dL_law_840 rfl (lv_at hl 2 rfl) ?_
  refine x_cqi0 (va_runV (As := []) (rest := [.int (iI r1)]) ⟨hx, hb, hml, hown, hts⟩ (c_X12_restore l g σ1 (fun q : Nat => s.heap.size ≤ q) ov S hob hs0 hokm Im h39 hov) (cwV 0 hts gL_law_X12_restore rfl rfl rfl (by decide +kernel) ⟨Nat.le_of_ble_eq_true rfl, Nat.le_of_ble_eq_true rfl⟩) (x_preVQ hK hP hD hS hA (x_recv hK hP (i := 37) (by decide) hob rfl)) rfl rfl hl.1 rfl (lv_room (Nat.le_of_ble_eq_true rfl)) dL_law_841 ⟨by (show (cells + 0) + 0 ≤ 601024; omega), by (show (slots + 0) + 0 ≤ 7293034; omega)⟩) hS (fun r2 σ2 H locs hr2 p2 hP hD hS => ?_)
  obtain ⟨e9, hI2⟩ := st_restore hX hM hO hR p1 p2
  refine x_icmp_eq (tgt := 1223) hx hb hr1 hr2 dL_law_844 (by decide) (fun c9 => ?_) (fun c9 => ?_)
  · refine W.widen (k := cells + 64) (n := slots + 64) (by omega) (by omega) ?_
    exact kk σ2 H locs ls hI2 hP hD hS hl
  · exact absurd e9 c9

set_option maxHeartbeats 4000000 in
set_option maxRecDepth 100000 in
theorem lc_count {p : Program} {e : Env} {s : State} {m : MethodId} {below : List Frame} {meth : Method} {c : Code} (l : Launch) (hlst : l.stackTraces = false) {b L : Nat} {xs : Nat → Int32} (hL : L ≤ 3072) (C0 : l_At p s m meth c b L xs) (g : xG) (hK : xK g s) (hN : xNst s) (hT : xcT (fun q : Nat => s.heap.size ≤ q) s s.heap) (Q : State → Prop) (σ : xS) (H : Heap) (locs : List Loc) (cells slots : Nat) (i : Int) (hi0 : 0 ≤ i) (hi : i + 6 ≤ L) (hcl : cells + 64 ≤ 601024) (hsl : slots + 64 ≤ 7293034) (hI : LI g σ) (hP : xP g σ H) (hD : xD g (fun q : Nat => s.heap.size ≤ q) σ) (hS : va_S (fun q : Nat => s.heap.size ≤ q) s.heap H locs) (ls : Array Slot) (hl : lv_has ls 8 [(0, .ref b), (1, .ref (g.2.2 0)), (2, .ref (g.2.2 37)), (3, .ref (g.2.2 50)), (4, .int (iI i))]) (kk : ∀ (σ2 : xS) (H : Heap) (locs : List Loc) (ls : Array Slot), LI g σ2 → xP g σ2 H → xD g (fun q : Nat => s.heap.size ≤ q) σ2 → va_S (fun q : Nat => s.heap.size ≤ q) s.heap H locs → lv_has ls 8 [(0, .ref b), (1, .ref (g.2.2 0)), (2, .ref (g.2.2 37)), (3, .ref (g.2.2 50)), (4, .int (iI i))] → W p l e room_1 s m #[Value.ref b] below meth c H locs (cells + 64) (slots + 64) Q (F0 m 1223 ls [])) : W p l e room_1 s m #[Value.ref b] below meth c H locs cells slots Q (F0 m 849 ls []) := by
  obtain ⟨hx, hb, hml, hown, hts, hXs, hbl, hlocks⟩ := id C0
  have hA : ∀ q : Nat, s.heap.size ≤ q → (fun q : Nat => s.heap.size ≤ q) q := fun _ h => h
  have hbA : ¬ (fun q : Nat => s.heap.size ≤ q) b := Nat.not_le.mpr hbl
  obtain ⟨ph, tk, n, rd, P, G, ni, ri, Pi, Gi, Kf, So, Sz, El, ov, S, Im, Kp, So2, Sz2, El2, KK, KF, hX, hM, hO, hR⟩ := id hI
  obtain ⟨hx0, ⟨ha_ph, hph⟩, htk, hH, ⟨hst, hok, h8⟩, ⟨hsi9, hoi, hi8⟩, ⟨nm, rm, Pm, Gm, hsm9, hom⟩, hpt, ⟨bi0, sz0, dn0, ht0⟩, h25, h26, h27, hxs, h28, hrow, hEl⟩ := id hX
  obtain ⟨v1, hv1, ev1⟩ := iI_of (xs (iI (i + 1)).toNatClampNeg)
  refine lv_aload_n hx hb dL_law_849 rfl (lv_at hl 1 rfl) ?_
  refine lv_aload_n hx hb dL_law_850 rfl (lv_at hl 0 rfl) ?_
  refine lv_iload hx hb dL_law_851 (lv_at hl 4 rfl) ?_
  refine x_iconst hx hb dL_law_853 ?_
  refine x_iadd hx hb dL_law_854 ?_
  refine va_sld hx hb hXs hbl hbA hS (iI_in (by omega) (by omega) (by omega)) dL_law_855 ?_
  rw [ev1]
  refine x_ci (va_runV (As := [.int (iI v1)]) (rest := []) ⟨hx, hb, hml, hown, hts⟩ (c_X11_count l g σ ph tk hx0 n rd P G hst hok hH v1 hv1) (cwV 1 hts gL_law_X11_count rfl rfl rfl (by decide +kernel) ⟨Nat.le_of_ble_eq_true rfl, Nat.le_of_ble_eq_true rfl⟩) (x_preV hK hP (x_recv hK hP (i := 0) (by decide) hx0 rfl)) rfl rfl hl.1 rfl (lv_room (Nat.le_of_ble_eq_true rfl)) dL_law_856 ⟨by (show cells + 0 ≤ 601024; omega), by (show slots + 0 ≤ 7293034; omega)⟩) (fun r1 hr1 p1 => ?_)
  have hM1 := hM
  obtain ⟨hob, ⟨hs0, hokm, hn8⟩, ⟨h39, hIm⟩, ⟨Rd, h40⟩, ⟨Mi, h41⟩, ⟨h42, h43, h44, h45, h46, h47⟩, hsh, ⟨Nm, h48, hNm⟩, Wz, h49⟩ := id hM1
  refine lv_aload_n hx hb dL_law_859 rfl (lv_at hl 2 rfl) ?_
  refine lv_aload_n hx hb dL_law_860 rfl (lv_at hl 0 rfl) ?_
  refine lv_iload hx hb dL_law_861 (lv_at hl 4 rfl) ?_
  refine x_iconst hx hb dL_law_863 ?_
  refine x_iadd hx hb dL_law_864 ?_
  refine va_sld hx hb hXs hbl hbA hS (iI_in (by omega) (by omega) (by omega)) dL_law_865 ?_
  rw [ev1]
  refine x_ci (va_runV (As := [.int (iI v1)]) (rest := [.int (iI r1)]) ⟨hx, hb, hml, hown, hts⟩ (c_X12_count l g σ ov S hob hs0 hokm v1 hv1) (cwV 1 hts gL_law_X12_count rfl rfl rfl (by decide +kernel) ⟨Nat.le_of_ble_eq_true rfl, Nat.le_of_ble_eq_true rfl⟩) (x_preV hK hP (x_recv hK hP (i := 37) (by decide) hob rfl)) rfl rfl hl.1 rfl (lv_room (Nat.le_of_ble_eq_true rfl)) dL_law_866 ⟨by (show cells + 0 ≤ 601024; omega), by (show slots + 0 ≤ 7293034; omega)⟩) (fun r2 hr2 p2 => ?_)
  have e9 := st_count hX hM hO hR p1 p2
  refine x_icmp_eq (tgt := 1223) hx hb hr1 hr2 dL_law_869 (by decide) (fun c9 => ?_) (fun c9 => ?_)
  · refine W.widen (k := cells + 64) (n := slots + 64) (by omega) (by omega) ?_
    exact kk σ H locs ls hI hP hD hS hl
  · exact absurd e9 c9

set_option maxHeartbeats 4000000 in
set_option maxRecDepth 100000 in
theorem lc_keep {p : Program} {e : Env} {s : State} {m : MethodId} {below : List Frame} {meth : Method} {c : Code} (l : Launch) (hlst : l.stackTraces = false) {b L : Nat} {xs : Nat → Int32} (hL : L ≤ 3072) (C0 : l_At p s m meth c b L xs) (g : xG) (hK : xK g s) (hN : xNst s) (hT : xcT (fun q : Nat => s.heap.size ≤ q) s s.heap) (Q : State → Prop) (σ : xS) (H : Heap) (locs : List Loc) (cells slots : Nat) (i : Int) (hi0 : 0 ≤ i) (hi : i + 6 ≤ L) (hcl : cells + 64 ≤ 601024) (hsl : slots + 64 ≤ 7293034) (hI : LI g σ) (hP : xP g σ H) (hD : xD g (fun q : Nat => s.heap.size ≤ q) σ) (hS : va_S (fun q : Nat => s.heap.size ≤ q) s.heap H locs) (ls : Array Slot) (hl : lv_has ls 8 [(0, .ref b), (1, .ref (g.2.2 0)), (2, .ref (g.2.2 37)), (3, .ref (g.2.2 50)), (4, .int (iI i))]) (kk : ∀ (σ2 : xS) (H : Heap) (locs : List Loc) (ls : Array Slot), LI g σ2 → xP g σ2 H → xD g (fun q : Nat => s.heap.size ≤ q) σ2 → va_S (fun q : Nat => s.heap.size ≤ q) s.heap H locs → lv_has ls 8 [(0, .ref b), (1, .ref (g.2.2 0)), (2, .ref (g.2.2 37)), (3, .ref (g.2.2 50)), (4, .int (iI i))] → W p l e room_1 s m #[Value.ref b] below meth c H locs (cells + 64) (slots + 64) Q (F0 m 1223 ls [])) : W p l e room_1 s m #[Value.ref b] below meth c H locs cells slots Q (F0 m 874 ls []) := by
  obtain ⟨hx, hb, hml, hown, hts, hXs, hbl, hlocks⟩ := id C0
  have hA : ∀ q : Nat, s.heap.size ≤ q → (fun q : Nat => s.heap.size ≤ q) q := fun _ h => h
  have hbA : ¬ (fun q : Nat => s.heap.size ≤ q) b := Nat.not_le.mpr hbl
  obtain ⟨ph, tk, n, rd, P, G, ni, ri, Pi, Gi, Kf, So, Sz, El, ov, S, Im, Kp, So2, Sz2, El2, KK, KF, hX, hM, hO, hR⟩ := id hI
  obtain ⟨hx0, ⟨ha_ph, hph⟩, htk, hH, ⟨hst, hok, h8⟩, ⟨hsi9, hoi, hi8⟩, ⟨nm, rm, Pm, Gm, hsm9, hom⟩, hpt, ⟨bi0, sz0, dn0, ht0⟩, h25, h26, h27, hxs, h28, hrow, hEl⟩ := id hX
  obtain ⟨v1, hv1, ev1⟩ := iI_of (xs (iI (i + 1)).toNatClampNeg)
  obtain ⟨v2, hv2, ev2⟩ := iI_of (xs (iI (i + 2)).toNatClampNeg)
  obtain ⟨v3, hv3, ev3⟩ := iI_of (xs (iI (i + 3)).toNatClampNeg)
  obtain ⟨v4, hv4, ev4⟩ := iI_of (xs (iI (i + 4)).toNatClampNeg)
  refine lv_aload_n hx hb dL_law_874 rfl (lv_at hl 1 rfl) ?_
  refine lv_aload_n hx hb dL_law_875 rfl (lv_at hl 0 rfl) ?_
  refine lv_iload hx hb dL_law_876 (lv_at hl 4 rfl) ?_
  refine x_iconst hx hb dL_law_878 ?_
  refine x_iadd hx hb dL_law_879 ?_
  refine va_sld hx hb hXs hbl hbA hS (iI_in (by omega) (by omega) (by omega)) dL_law_880 ?_
  rw [ev1]
  refine lv_aload_n hx hb dL_law_881 rfl (lv_at hl 0 rfl) ?_
  refine lv_iload hx hb dL_law_882 (lv_at hl 4 rfl) ?_
  refine x_iconst hx hb dL_law_884 ?_
  refine x_iadd hx hb dL_law_885 ?_
  refine va_sld hx hb hXs hbl hbA hS (iI_in (by omega) (by omega) (by omega)) dL_law_886 ?_
  rw [ev2]
  refine lv_aload_n hx hb dL_law_887 rfl (lv_at hl 0 rfl) ?_
  refine lv_iload hx hb dL_law_888 (lv_at hl 4 rfl) ?_
  refine x_iconst hx hb dL_law_890 ?_
  refine x_iadd hx hb dL_law_891 ?_
  refine va_sld hx hb hXs hbl hbA hS (iI_in (by omega) (by omega) (by omega)) dL_law_892 ?_
  rw [ev3]
  refine lv_aload_n hx hb dL_law_893 rfl (lv_at hl 0 rfl) ?_
  refine lv_iload hx hb dL_law_894 (lv_at hl 4 rfl) ?_
  refine x_iconst hx hb dL_law_896 ?_
  refine x_iadd hx hb dL_law_897 ?_
  refine va_sld hx hb hXs hbl hbA hS (iI_in (by omega) (by omega) (by omega)) dL_law_898 ?_
  rw [ev4]
  refine x_cqi (mc := 1) (ms := 1) (va_runV (As := [.int (iI v1), .int (iI v2), .int (iI v3), .int (iI v4)]) (rest := []) ⟨hx, hb, hml, hown, hts⟩ (c_X11_keep l g σ (fun q : Nat => s.heap.size ≤ q) ph tk hx0 hH Kf So Sz h25 h26 h27 hxs v1 hv1 v2 hv2 v3 hv3 v4 hv4) (cwV 4 hts gL_law_X11_keep rfl rfl rfl (by decide +kernel) ⟨Nat.le_of_ble_eq_true rfl, Nat.le_of_ble_eq_true rfl⟩) (x_preVQ hK hP hD hS hA (x_recv hK hP (i := 0) (by decide) hx0 rfl)) rfl rfl hl.1 rfl (lv_room (Nat.le_of_ble_eq_true rfl)) dL_law_899 ⟨by (show cells + 1 ≤ 601024; omega), by (show slots + 1 ≤ 7293034; omega)⟩) hS (fun r1 σ1 H locs hr1 p1 hP hD hS => ?_)
  have hM1 := hM.fr (M1 := σ1.1) (fun j hj => p1.2.2.1 j (by omega))
  obtain ⟨hob, ⟨hs0, hokm, hn8⟩, ⟨h39, hIm⟩, ⟨Rd, h40⟩, ⟨Mi, h41⟩, ⟨h42, h43, h44, h45, h46, h47⟩, hsh, ⟨Nm, h48, hNm⟩, Wz, h49⟩ := id hM1
  refine lv_aload_n hx hb dL_law_902 rfl (lv_at hl 2 rfl) ?_
  refine lv_aload_n hx hb dL_law_903 rfl (lv_at hl 0 rfl) ?_
  refine lv_iload hx hb dL_law_904 (lv_at hl 4 rfl) ?_
  refine x_iconst hx hb dL_law_906 ?_
  refine x_iadd hx hb dL_law_907 ?_
  refine va_sld hx hb hXs hbl hbA hS (iI_in (by omega) (by omega) (by omega)) dL_law_908 ?_
  rw [ev1]
  refine lv_aload_n hx hb dL_law_909 rfl (lv_at hl 0 rfl) ?_
  refine lv_iload hx hb dL_law_910 (lv_at hl 4 rfl) ?_
  refine x_iconst hx hb dL_law_912 ?_
  refine x_iadd hx hb dL_law_913 ?_
  refine va_sld hx hb hXs hbl hbA hS (iI_in (by omega) (by omega) (by omega)) dL_law_914 ?_
  rw [ev2]
  refine lv_aload_n hx hb dL_law_915 rfl (lv_at hl 0 rfl) ?_
  refine lv_iload hx hb dL_law_916 (lv_at hl 4 rfl) ?_
  refine x_iconst hx hb dL_law_918 ?_
  refine x_iadd hx hb dL_law_919 ?_
  refine va_sld hx hb hXs hbl hbA hS (iI_in (by omega) (by omega) (by omega)) dL_law_920 ?_
  rw [ev3]
  refine lv_aload_n hx hb dL_law_921 rfl (lv_at hl 0 rfl) ?_
  refine lv_iload hx hb dL_law_922 (lv_at hl 4 rfl) ?_
  refine x_iconst hx hb dL_law_924 ?_
  refine x_iadd hx hb dL_law_925 ?_
  refine va_sld hx hb hXs hbl hbA hS (iI_in (by omega) (by omega) (by omega)) dL_law_926 ?_
  rw [ev4]
  refine x_cqi0 (va_runV (As := [.int (iI v1), .int (iI v2), .int (iI v3), .int (iI v4)]) (rest := [.int (iI r1)]) ⟨hx, hb, hml, hown, hts⟩ (c_X12_keep l g σ1 (fun q : Nat => s.heap.size ≤ q) ov S hob hs0 hokm Kp So2 Sz2 El2 KK KF h42 h43 h44 h45 h46 h47 hsh v1 hv1 v2 hv2 v3 hv3 v4 hv4) (cwV 4 hts gL_law_X12_keep rfl rfl rfl (by decide +kernel) ⟨Nat.le_of_ble_eq_true rfl, Nat.le_of_ble_eq_true rfl⟩) (x_preVQ hK hP hD hS hA (x_recv hK hP (i := 37) (by decide) hob rfl)) rfl rfl hl.1 rfl (lv_room (Nat.le_of_ble_eq_true rfl)) dL_law_927 ⟨by (show (cells + 1) + 0 ≤ 601024; omega), by (show (slots + 1) + 0 ≤ 7293034; omega)⟩) hS (fun r2 σ2 H locs hr2 p2 hP hD hS => ?_)
  obtain ⟨e9, hI2⟩ := st_keep hX hM hO hR p1 p2 hv3 hv4
  refine x_icmp_eq (tgt := 1223) hx hb hr1 hr2 dL_law_930 (by decide) (fun c9 => ?_) (fun c9 => ?_)
  · refine W.widen (k := cells + 64) (n := slots + 64) (by omega) (by omega) ?_
    exact kk σ2 H locs ls hI2 hP hD hS hl
  · exact absurd e9 c9
