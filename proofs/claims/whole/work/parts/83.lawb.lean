set_option maxHeartbeats 4000000 in
set_option maxRecDepth 100000 in
theorem lc_free {p : Program} {e : Env} {s : State} {m : MethodId} {below : List Frame} {meth : Method} {c : Code} (l : Launch) (hlst : l.stackTraces = false) {b L : Nat} {xs : Nat → Int32} (hL : L ≤ 3072) (C0 : l_At p s m meth c b L xs) (g : xG) (hK : xK g s) (hN : xNst s) (hT : xcT (fun q : Nat => s.heap.size ≤ q) s s.heap) (Q : State → Prop) (σ : xS) (H : Heap) (locs : List Loc) (cells slots : Nat) (i : Int) (hi0 : 0 ≤ i) (hi : i + 6 ≤ L) (hcl : cells + 64 ≤ 601024) (hsl : slots + 64 ≤ 7293034) (hI : LI g σ) (hP : xP g σ H) (hD : xD g (fun q : Nat => s.heap.size ≤ q) σ) (hS : va_S (fun q : Nat => s.heap.size ≤ q) s.heap H locs) (ls : Array Slot) (hl : lv_has ls 8 [(0, .ref b), (1, .ref (g.2.2 0)), (2, .ref (g.2.2 37)), (3, .ref (g.2.2 50)), (4, .int (iI i))]) (kk : ∀ (σ2 : xS) (H : Heap) (locs : List Loc) (ls : Array Slot), LI g σ2 → xP g σ2 H → xD g (fun q : Nat => s.heap.size ≤ q) σ2 → va_S (fun q : Nat => s.heap.size ≤ q) s.heap H locs → lv_has ls 8 [(0, .ref b), (1, .ref (g.2.2 0)), (2, .ref (g.2.2 37)), (3, .ref (g.2.2 50)), (4, .int (iI i))] → W p l e room_1 s m #[Value.ref b] below meth c H locs (cells + 64) (slots + 64) Q (F0 m 1223 ls [])) : W p l e room_1 s m #[Value.ref b] below meth c H locs cells slots Q (F0 m 449 ls []) := by
  obtain ⟨hx, hb, hml, hown, hts, hXs, hbl, hlocks⟩ := id C0
  have hA : ∀ q : Nat, s.heap.size ≤ q → (fun q : Nat => s.heap.size ≤ q) q := fun _ h => h
  have hbA : ¬ (fun q : Nat => s.heap.size ≤ q) b := Nat.not_le.mpr hbl
  obtain ⟨ph, tk, n, rd, P, G, ni, ri, Pi, Gi, Kf, So, Sz, El, ov, S, Im, Kp, So2, Sz2, El2, KK, KF, hX, hM, hO, hR⟩ := id hI
  obtain ⟨hx0, ⟨ha_ph, hph⟩, htk, hH, ⟨hst, hok, h8⟩, ⟨hsi9, hoi, hi8⟩, ⟨nm, rm, Pm, Gm, hsm9, hom⟩, hpt, ⟨bi0, sz0, dn0, ht0⟩, h25, h26, h27, hxs, h28, hrow, hEl⟩ := id hX
  refine lv_aload_n hx hb dL_law_449 rfl (lv_at hl 1 rfl) ?_
  refine x_ci (va_runV (As := []) (rest := []) ⟨hx, hb, hml, hown, hts⟩ (c_X11_free l g σ ph tk hx0 n rd P G hst hok hH) (cwV 0 hts gL_law_X11_free rfl rfl rfl (by decide +kernel) ⟨Nat.le_of_ble_eq_true rfl, Nat.le_of_ble_eq_true rfl⟩) (x_preV hK hP (x_recv hK hP (i := 0) (by decide) hx0 rfl)) rfl rfl hl.1 rfl (lv_room (Nat.le_of_ble_eq_true rfl)) dL_law_450 ⟨by (show cells + 0 ≤ 601024; omega), by (show slots + 0 ≤ 7293034; omega)⟩) (fun r1 hr1 p1 => ?_)
  have hM1 := hM
  obtain ⟨hob, ⟨hs0, hokm, hn8⟩, ⟨h39, hIm⟩, ⟨Rd, h40⟩, ⟨Mi, h41⟩, ⟨h42, h43, h44, h45, h46, h47⟩, hsh, ⟨Nm, h48, hNm⟩, Wz, h49⟩ := id hM1
  refine lv_aload_n hx hb dL_law_453 rfl (lv_at hl 2 rfl) ?_
  refine x_ci (va_runV (As := []) (rest := [.int (iI r1)]) ⟨hx, hb, hml, hown, hts⟩ (c_X12_free l g σ ov S hob hs0 hokm) (cwV 0 hts gL_law_X12_free rfl rfl rfl (by decide +kernel) ⟨Nat.le_of_ble_eq_true rfl, Nat.le_of_ble_eq_true rfl⟩) (x_preV hK hP (x_recv hK hP (i := 37) (by decide) hob rfl)) rfl rfl hl.1 rfl (lv_room (Nat.le_of_ble_eq_true rfl)) dL_law_454 ⟨by (show cells + 0 ≤ 601024; omega), by (show slots + 0 ≤ 7293034; omega)⟩) (fun r2 hr2 p2 => ?_)
  have e9 := st_free hX hM hO hR p1 p2
  refine x_icmp_eq (tgt := 1223) hx hb hr1 hr2 dL_law_457 (by decide) (fun c9 => ?_) (fun c9 => ?_)
  · refine W.widen (k := cells + 64) (n := slots + 64) (by omega) (by omega) ?_
    exact kk σ H locs ls hI hP hD hS hl
  · exact absurd e9 c9

set_option maxHeartbeats 4000000 in
set_option maxRecDepth 100000 in
theorem lc_partings {p : Program} {e : Env} {s : State} {m : MethodId} {below : List Frame} {meth : Method} {c : Code} (l : Launch) (hlst : l.stackTraces = false) {b L : Nat} {xs : Nat → Int32} (hL : L ≤ 3072) (C0 : l_At p s m meth c b L xs) (g : xG) (hK : xK g s) (hN : xNst s) (hT : xcT (fun q : Nat => s.heap.size ≤ q) s s.heap) (Q : State → Prop) (σ : xS) (H : Heap) (locs : List Loc) (cells slots : Nat) (i : Int) (hi0 : 0 ≤ i) (hi : i + 6 ≤ L) (hcl : cells + 64 ≤ 601024) (hsl : slots + 64 ≤ 7293034) (hI : LI g σ) (hP : xP g σ H) (hD : xD g (fun q : Nat => s.heap.size ≤ q) σ) (hS : va_S (fun q : Nat => s.heap.size ≤ q) s.heap H locs) (ls : Array Slot) (hl : lv_has ls 8 [(0, .ref b), (1, .ref (g.2.2 0)), (2, .ref (g.2.2 37)), (3, .ref (g.2.2 50)), (4, .int (iI i))]) (kk : ∀ (σ2 : xS) (H : Heap) (locs : List Loc) (ls : Array Slot), LI g σ2 → xP g σ2 H → xD g (fun q : Nat => s.heap.size ≤ q) σ2 → va_S (fun q : Nat => s.heap.size ≤ q) s.heap H locs → lv_has ls 8 [(0, .ref b), (1, .ref (g.2.2 0)), (2, .ref (g.2.2 37)), (3, .ref (g.2.2 50)), (4, .int (iI i))] → W p l e room_1 s m #[Value.ref b] below meth c H locs (cells + 64) (slots + 64) Q (F0 m 1223 ls [])) : W p l e room_1 s m #[Value.ref b] below meth c H locs cells slots Q (F0 m 462 ls []) := by
  obtain ⟨hx, hb, hml, hown, hts, hXs, hbl, hlocks⟩ := id C0
  have hA : ∀ q : Nat, s.heap.size ≤ q → (fun q : Nat => s.heap.size ≤ q) q := fun _ h => h
  have hbA : ¬ (fun q : Nat => s.heap.size ≤ q) b := Nat.not_le.mpr hbl
  obtain ⟨ph, tk, n, rd, P, G, ni, ri, Pi, Gi, Kf, So, Sz, El, ov, S, Im, Kp, So2, Sz2, El2, KK, KF, hX, hM, hO, hR⟩ := id hI
  obtain ⟨hx0, ⟨ha_ph, hph⟩, htk, hH, ⟨hst, hok, h8⟩, ⟨hsi9, hoi, hi8⟩, ⟨nm, rm, Pm, Gm, hsm9, hom⟩, hpt, ⟨bi0, sz0, dn0, ht0⟩, h25, h26, h27, hxs, h28, hrow, hEl⟩ := id hX
  obtain ⟨v1, hv1, ev1⟩ := iI_of (xs (iI (i + 1)).toNatClampNeg)
  refine lv_aload_n hx hb dL_law_462 rfl (lv_at hl 1 rfl) ?_
  refine lv_aload_n hx hb dL_law_463 rfl (lv_at hl 0 rfl) ?_
  refine lv_iload hx hb dL_law_464 (lv_at hl 4 rfl) ?_
  refine x_iconst hx hb dL_law_466 ?_
  refine x_iadd hx hb dL_law_467 ?_
  refine va_sld hx hb hXs hbl hbA hS (iI_in (by omega) (by omega) (by omega)) dL_law_468 ?_
  rw [ev1]
  refine x_cqi (mc := 0) (ms := 0) (va_runV (As := [.int (iI v1)]) (rest := []) ⟨hx, hb, hml, hown, hts⟩ (c_X11_partings l g σ (fun q : Nat => s.heap.size ≤ q) ph tk hx0 n rd P G hst hok hH hpt v1 hv1) (cwV 1 hts gL_law_X11_partings rfl rfl rfl (by decide +kernel) ⟨Nat.le_of_ble_eq_true rfl, Nat.le_of_ble_eq_true rfl⟩) (x_preVQ hK hP hD hS hA (x_recv hK hP (i := 0) (by decide) hx0 rfl)) rfl rfl hl.1 rfl (lv_room (Nat.le_of_ble_eq_true rfl)) dL_law_469 ⟨by (show cells + 0 ≤ 601024; omega), by (show slots + 0 ≤ 7293034; omega)⟩) hS (fun r1 σ1 H locs hr1 p1 hP hD hS => ?_)
  have hM1 := hM.fr (M1 := σ1.1) (fun j hj => p1.2.1 j (by omega))
  obtain ⟨hob, ⟨hs0, hokm, hn8⟩, ⟨h39, hIm⟩, ⟨Rd, h40⟩, ⟨Mi, h41⟩, ⟨h42, h43, h44, h45, h46, h47⟩, hsh, ⟨Nm, h48, hNm⟩, Wz, h49⟩ := id hM1
  refine lv_aload_n hx hb dL_law_472 rfl (lv_at hl 2 rfl) ?_
  refine lv_aload_n hx hb dL_law_473 rfl (lv_at hl 0 rfl) ?_
  refine lv_iload hx hb dL_law_474 (lv_at hl 4 rfl) ?_
  refine x_iconst hx hb dL_law_476 ?_
  refine x_iadd hx hb dL_law_477 ?_
  refine va_sld hx hb hXs hbl hbA hS (iI_in (by omega) (by omega) (by omega)) dL_law_478 ?_
  rw [ev1]
  refine x_cqi0 (va_runV (As := [.int (iI v1)]) (rest := [.int (iI r1)]) ⟨hx, hb, hml, hown, hts⟩ (c_X12_partings l g σ1 (fun q : Nat => s.heap.size ≤ q) ov S hob hs0 hokm Mi h41 Wz h49 v1 hv1) (cwV 1 hts gL_law_X12_partings rfl rfl rfl (by decide +kernel) ⟨Nat.le_of_ble_eq_true rfl, Nat.le_of_ble_eq_true rfl⟩) (x_preVQ hK hP hD hS hA (x_recv hK hP (i := 37) (by decide) hob rfl)) rfl rfl hl.1 rfl (lv_room (Nat.le_of_ble_eq_true rfl)) dL_law_479 ⟨by (show (cells + 0) + 0 ≤ 601024; omega), by (show (slots + 0) + 0 ≤ 7293034; omega)⟩) hS (fun r2 σ2 H locs hr2 p2 hP hD hS => ?_)
  obtain ⟨e9, hI2⟩ := st_partings hX hM hO hR p1 p2
  refine x_icmp_eq (tgt := 1223) hx hb hr1 hr2 dL_law_482 (by decide) (fun c9 => ?_) (fun c9 => ?_)
  · refine W.widen (k := cells + 64) (n := slots + 64) (by omega) (by omega) ?_
    exact kk σ2 H locs ls hI2 hP hD hS hl
  · exact absurd e9 c9

set_option maxHeartbeats 4000000 in
set_option maxRecDepth 100000 in
theorem lc_uneven {p : Program} {e : Env} {s : State} {m : MethodId} {below : List Frame} {meth : Method} {c : Code} (l : Launch) (hlst : l.stackTraces = false) {b L : Nat} {xs : Nat → Int32} (hL : L ≤ 3072) (C0 : l_At p s m meth c b L xs) (g : xG) (hK : xK g s) (hN : xNst s) (hT : xcT (fun q : Nat => s.heap.size ≤ q) s s.heap) (Q : State → Prop) (σ : xS) (H : Heap) (locs : List Loc) (cells slots : Nat) (i : Int) (hi0 : 0 ≤ i) (hi : i + 6 ≤ L) (hcl : cells + 64 ≤ 601024) (hsl : slots + 64 ≤ 7293034) (hI : LI g σ) (hP : xP g σ H) (hD : xD g (fun q : Nat => s.heap.size ≤ q) σ) (hS : va_S (fun q : Nat => s.heap.size ≤ q) s.heap H locs) (ls : Array Slot) (hl : lv_has ls 8 [(0, .ref b), (1, .ref (g.2.2 0)), (2, .ref (g.2.2 37)), (3, .ref (g.2.2 50)), (4, .int (iI i))]) (kk : ∀ (σ2 : xS) (H : Heap) (locs : List Loc) (ls : Array Slot), LI g σ2 → xP g σ2 H → xD g (fun q : Nat => s.heap.size ≤ q) σ2 → va_S (fun q : Nat => s.heap.size ≤ q) s.heap H locs → lv_has ls 8 [(0, .ref b), (1, .ref (g.2.2 0)), (2, .ref (g.2.2 37)), (3, .ref (g.2.2 50)), (4, .int (iI i))] → W p l e room_1 s m #[Value.ref b] below meth c H locs (cells + 64) (slots + 64) Q (F0 m 1223 ls [])) : W p l e room_1 s m #[Value.ref b] below meth c H locs cells slots Q (F0 m 487 ls []) := by
  obtain ⟨hx, hb, hml, hown, hts, hXs, hbl, hlocks⟩ := id C0
  have hA : ∀ q : Nat, s.heap.size ≤ q → (fun q : Nat => s.heap.size ≤ q) q := fun _ h => h
  have hbA : ¬ (fun q : Nat => s.heap.size ≤ q) b := Nat.not_le.mpr hbl
  obtain ⟨ph, tk, n, rd, P, G, ni, ri, Pi, Gi, Kf, So, Sz, El, ov, S, Im, Kp, So2, Sz2, El2, KK, KF, hX, hM, hO, hR⟩ := id hI
  obtain ⟨hx0, ⟨ha_ph, hph⟩, htk, hH, ⟨hst, hok, h8⟩, ⟨hsi9, hoi, hi8⟩, ⟨nm, rm, Pm, Gm, hsm9, hom⟩, hpt, ⟨bi0, sz0, dn0, ht0⟩, h25, h26, h27, hxs, h28, hrow, hEl⟩ := id hX
  obtain ⟨v1, hv1, ev1⟩ := iI_of (xs (iI (i + 1)).toNatClampNeg)
  refine lv_aload_n hx hb dL_law_487 rfl (lv_at hl 1 rfl) ?_
  refine lv_aload_n hx hb dL_law_488 rfl (lv_at hl 0 rfl) ?_
  refine lv_iload hx hb dL_law_489 (lv_at hl 4 rfl) ?_
  refine x_iconst hx hb dL_law_491 ?_
  refine x_iadd hx hb dL_law_492 ?_
  refine va_sld hx hb hXs hbl hbA hS (iI_in (by omega) (by omega) (by omega)) dL_law_493 ?_
  rw [ev1]
  refine x_cqi (mc := 0) (ms := 0) (va_runV (As := [.int (iI v1)]) (rest := []) ⟨hx, hb, hml, hown, hts⟩ (c_X11_uneven l g σ (fun q : Nat => s.heap.size ≤ q) ph tk hx0 n rd P G hst hok hH hpt v1 hv1) (cwV 1 hts gL_law_X11_uneven rfl rfl rfl (by decide +kernel) ⟨Nat.le_of_ble_eq_true rfl, Nat.le_of_ble_eq_true rfl⟩) (x_preVQ hK hP hD hS hA (x_recv hK hP (i := 0) (by decide) hx0 rfl)) rfl rfl hl.1 rfl (lv_room (Nat.le_of_ble_eq_true rfl)) dL_law_494 ⟨by (show cells + 0 ≤ 601024; omega), by (show slots + 0 ≤ 7293034; omega)⟩) hS (fun r1 σ1 H locs hr1 p1 hP hD hS => ?_)
  have hM1 := hM.fr (M1 := σ1.1) (fun j hj => p1.2.1 j (by omega))
  obtain ⟨hob, ⟨hs0, hokm, hn8⟩, ⟨h39, hIm⟩, ⟨Rd, h40⟩, ⟨Mi, h41⟩, ⟨h42, h43, h44, h45, h46, h47⟩, hsh, ⟨Nm, h48, hNm⟩, Wz, h49⟩ := id hM1
  refine lv_aload_n hx hb dL_law_497 rfl (lv_at hl 2 rfl) ?_
  refine lv_aload_n hx hb dL_law_498 rfl (lv_at hl 0 rfl) ?_
  refine lv_iload hx hb dL_law_499 (lv_at hl 4 rfl) ?_
  refine x_iconst hx hb dL_law_501 ?_
  refine x_iadd hx hb dL_law_502 ?_
  refine va_sld hx hb hXs hbl hbA hS (iI_in (by omega) (by omega) (by omega)) dL_law_503 ?_
  rw [ev1]
  refine x_cqi0 (va_runV (As := [.int (iI v1)]) (rest := [.int (iI r1)]) ⟨hx, hb, hml, hown, hts⟩ (c_X12_uneven l g σ1 (fun q : Nat => s.heap.size ≤ q) ov S hob hs0 hokm Mi h41 Wz h49 v1 hv1) (cwV 1 hts gL_law_X12_uneven rfl rfl rfl (by decide +kernel) ⟨Nat.le_of_ble_eq_true rfl, Nat.le_of_ble_eq_true rfl⟩) (x_preVQ hK hP hD hS hA (x_recv hK hP (i := 37) (by decide) hob rfl)) rfl rfl hl.1 rfl (lv_room (Nat.le_of_ble_eq_true rfl)) dL_law_504 ⟨by (show (cells + 0) + 0 ≤ 601024; omega), by (show (slots + 0) + 0 ≤ 7293034; omega)⟩) hS (fun r2 σ2 H locs hr2 p2 hP hD hS => ?_)
  obtain ⟨e9, hI2⟩ := st_uneven hX hM hO hR p1 p2
  refine x_icmp_eq (tgt := 1223) hx hb hr1 hr2 dL_law_507 (by decide) (fun c9 => ?_) (fun c9 => ?_)
  · refine W.widen (k := cells + 64) (n := slots + 64) (by omega) (by omega) ?_
    exact kk σ2 H locs ls hI2 hP hD hS hl
  · exact absurd e9 c9

set_option maxHeartbeats 4000000 in
set_option maxRecDepth 100000 in
theorem lc_richest {p : Program} {e : Env} {s : State} {m : MethodId} {below : List Frame} {meth : Method} {c : Code} (l : Launch) (hlst : l.stackTraces = false) {b L : Nat} {xs : Nat → Int32} (hL : L ≤ 3072) (C0 : l_At p s m meth c b L xs) (g : xG) (hK : xK g s) (hN : xNst s) (hT : xcT (fun q : Nat => s.heap.size ≤ q) s s.heap) (Q : State → Prop) (σ : xS) (H : Heap) (locs : List Loc) (cells slots : Nat) (i : Int) (hi0 : 0 ≤ i) (hi : i + 6 ≤ L) (hcl : cells + 64 ≤ 601024) (hsl : slots + 64 ≤ 7293034) (hI : LI g σ) (hP : xP g σ H) (hD : xD g (fun q : Nat => s.heap.size ≤ q) σ) (hS : va_S (fun q : Nat => s.heap.size ≤ q) s.heap H locs) (ls : Array Slot) (hl : lv_has ls 8 [(0, .ref b), (1, .ref (g.2.2 0)), (2, .ref (g.2.2 37)), (3, .ref (g.2.2 50)), (4, .int (iI i))]) (kk : ∀ (σ2 : xS) (H : Heap) (locs : List Loc) (ls : Array Slot), LI g σ2 → xP g σ2 H → xD g (fun q : Nat => s.heap.size ≤ q) σ2 → va_S (fun q : Nat => s.heap.size ≤ q) s.heap H locs → lv_has ls 8 [(0, .ref b), (1, .ref (g.2.2 0)), (2, .ref (g.2.2 37)), (3, .ref (g.2.2 50)), (4, .int (iI i))] → W p l e room_1 s m #[Value.ref b] below meth c H locs (cells + 64) (slots + 64) Q (F0 m 1223 ls [])) : W p l e room_1 s m #[Value.ref b] below meth c H locs cells slots Q (F0 m 512 ls []) := by
  obtain ⟨hx, hb, hml, hown, hts, hXs, hbl, hlocks⟩ := id C0
  have hA : ∀ q : Nat, s.heap.size ≤ q → (fun q : Nat => s.heap.size ≤ q) q := fun _ h => h
  have hbA : ¬ (fun q : Nat => s.heap.size ≤ q) b := Nat.not_le.mpr hbl
  obtain ⟨ph, tk, n, rd, P, G, ni, ri, Pi, Gi, Kf, So, Sz, El, ov, S, Im, Kp, So2, Sz2, El2, KK, KF, hX, hM, hO, hR⟩ := id hI
  obtain ⟨hx0, ⟨ha_ph, hph⟩, htk, hH, ⟨hst, hok, h8⟩, ⟨hsi9, hoi, hi8⟩, ⟨nm, rm, Pm, Gm, hsm9, hom⟩, hpt, ⟨bi0, sz0, dn0, ht0⟩, h25, h26, h27, hxs, h28, hrow, hEl⟩ := id hX
  obtain ⟨v1, hv1, ev1⟩ := iI_of (xs (iI (i + 1)).toNatClampNeg)
  obtain ⟨v2, hv2, ev2⟩ := iI_of (xs (iI (i + 2)).toNatClampNeg)
  refine lv_aload_n hx hb dL_law_512 rfl (lv_at hl 1 rfl) ?_
  refine lv_aload_n hx hb dL_law_513 rfl (lv_at hl 0 rfl) ?_
  refine lv_iload hx hb dL_law_514 (lv_at hl 4 rfl) ?_
  refine x_iconst hx hb dL_law_516 ?_
  refine x_iadd hx hb dL_law_517 ?_
  refine va_sld hx hb hXs hbl hbA hS (iI_in (by omega) (by omega) (by omega)) dL_law_518 ?_
  rw [ev1]
  refine lv_aload_n hx hb dL_law_519 rfl (lv_at hl 0 rfl) ?_
  refine lv_iload hx hb dL_law_520 (lv_at hl 4 rfl) ?_
  refine x_iconst hx hb dL_law_522 ?_
  refine x_iadd hx hb dL_law_523 ?_
  refine va_sld hx hb hXs hbl hbA hS (iI_in (by omega) (by omega) (by omega)) dL_law_524 ?_
  rw [ev2]
  refine x_cqi (mc := 0) (ms := 0) (va_runV (As := [.int (iI v1), .int (iI v2)]) (rest := []) ⟨hx, hb, hml, hown, hts⟩ (c_X11_richest l g σ (fun q : Nat => s.heap.size ≤ q) ph tk hx0 n rd P G hst hok hH hpt v1 hv1 v2 hv2) (cwV 2 hts gL_law_X11_richest rfl rfl rfl (by decide +kernel) ⟨Nat.le_of_ble_eq_true rfl, Nat.le_of_ble_eq_true rfl⟩) (x_preVQ hK hP hD hS hA (x_recv hK hP (i := 0) (by decide) hx0 rfl)) rfl rfl hl.1 rfl (lv_room (Nat.le_of_ble_eq_true rfl)) dL_law_525 ⟨by (show cells + 0 ≤ 601024; omega), by (show slots + 0 ≤ 7293034; omega)⟩) hS (fun r1 σ1 H locs hr1 p1 hP hD hS => ?_)
  have hM1 := hM.fr (M1 := σ1.1) (fun j hj => p1.2.1 j (by omega))
  obtain ⟨hob, ⟨hs0, hokm, hn8⟩, ⟨h39, hIm⟩, ⟨Rd, h40⟩, ⟨Mi, h41⟩, ⟨h42, h43, h44, h45, h46, h47⟩, hsh, ⟨Nm, h48, hNm⟩, Wz, h49⟩ := id hM1
  refine lv_aload_n hx hb dL_law_528 rfl (lv_at hl 2 rfl) ?_
  refine lv_aload_n hx hb dL_law_529 rfl (lv_at hl 0 rfl) ?_
  refine lv_iload hx hb dL_law_530 (lv_at hl 4 rfl) ?_
  refine x_iconst hx hb dL_law_532 ?_
  refine x_iadd hx hb dL_law_533 ?_
  refine va_sld hx hb hXs hbl hbA hS (iI_in (by omega) (by omega) (by omega)) dL_law_534 ?_
  rw [ev1]
  refine lv_aload_n hx hb dL_law_535 rfl (lv_at hl 0 rfl) ?_
  refine lv_iload hx hb dL_law_536 (lv_at hl 4 rfl) ?_
  refine x_iconst hx hb dL_law_538 ?_
  refine x_iadd hx hb dL_law_539 ?_
  refine va_sld hx hb hXs hbl hbA hS (iI_in (by omega) (by omega) (by omega)) dL_law_540 ?_
  rw [ev2]
  refine x_cqi0 (va_runV (As := [.int (iI v1), .int (iI v2)]) (rest := [.int (iI r1)]) ⟨hx, hb, hml, hown, hts⟩ (c_X12_richest l g σ1 (fun q : Nat => s.heap.size ≤ q) ov S hob hs0 hokm Mi h41 Wz h49 v1 hv1 v2 hv2) (cwV 2 hts gL_law_X12_richest rfl rfl rfl (by decide +kernel) ⟨Nat.le_of_ble_eq_true rfl, Nat.le_of_ble_eq_true rfl⟩) (x_preVQ hK hP hD hS hA (x_recv hK hP (i := 37) (by decide) hob rfl)) rfl rfl hl.1 rfl (lv_room (Nat.le_of_ble_eq_true rfl)) dL_law_541 ⟨by (show (cells + 0) + 0 ≤ 601024; omega), by (show (slots + 0) + 0 ≤ 7293034; omega)⟩) hS (fun r2 σ2 H locs hr2 p2 hP hD hS => ?_)
  obtain ⟨e9, hI2⟩ := st_richest hX hM hO hR p1 p2
  refine x_icmp_eq (tgt := 1223) hx hb hr1 hr2 dL_law_544 (by decide) (fun c9 => ?_) (fun c9 => ?_)
  · refine W.widen (k := cells + 64) (n := slots + 64) (by omega) (by omega) ?_
    exact kk σ2 H locs ls hI2 hP hD hS hl
  · exact absurd e9 c9

set_option maxHeartbeats 4000000 in
set_option maxRecDepth 100000 in
theorem lc_hands {p : Program} {e : Env} {s : State} {m : MethodId} {below : List Frame} {meth : Method} {c : Code} (l : Launch) (hlst : l.stackTraces = false) {b L : Nat} {xs : Nat → Int32} (hL : L ≤ 3072) (C0 : l_At p s m meth c b L xs) (g : xG) (hK : xK g s) (hN : xNst s) (hT : xcT (fun q : Nat => s.heap.size ≤ q) s s.heap) (Q : State → Prop) (σ : xS) (H : Heap) (locs : List Loc) (cells slots : Nat) (i : Int) (hi0 : 0 ≤ i) (hi : i + 6 ≤ L) (hcl : cells + 64 ≤ 601024) (hsl : slots + 64 ≤ 7293034) (hI : LI g σ) (hP : xP g σ H) (hD : xD g (fun q : Nat => s.heap.size ≤ q) σ) (hS : va_S (fun q : Nat => s.heap.size ≤ q) s.heap H locs) (ls : Array Slot) (hl : lv_has ls 8 [(0, .ref b), (1, .ref (g.2.2 0)), (2, .ref (g.2.2 37)), (3, .ref (g.2.2 50)), (4, .int (iI i))]) (kk : ∀ (σ2 : xS) (H : Heap) (locs : List Loc) (ls : Array Slot), LI g σ2 → xP g σ2 H → xD g (fun q : Nat => s.heap.size ≤ q) σ2 → va_S (fun q : Nat => s.heap.size ≤ q) s.heap H locs → lv_has ls 8 [(0, .ref b), (1, .ref (g.2.2 0)), (2, .ref (g.2.2 37)), (3, .ref (g.2.2 50)), (4, .int (iI i))] → W p l e room_1 s m #[Value.ref b] below meth c H locs (cells + 64) (slots + 64) Q (F0 m 1223 ls [])) : W p l e room_1 s m #[Value.ref b] below meth c H locs cells slots Q (F0 m 549 ls []) := by
  obtain ⟨hx, hb, hml, hown, hts, hXs, hbl, hlocks⟩ := id C0
  have hA : ∀ q : Nat, s.heap.size ≤ q → (fun q : Nat => s.heap.size ≤ q) q := fun _ h => h
  have hbA : ¬ (fun q : Nat => s.heap.size ≤ q) b := Nat.not_le.mpr hbl
  obtain ⟨ph, tk, n, rd, P, G, ni, ri, Pi, Gi, Kf, So, Sz, El, ov, S, Im, Kp, So2, Sz2, El2, KK, KF, hX, hM, hO, hR⟩ := id hI
  obtain ⟨hx0, ⟨ha_ph, hph⟩, htk, hH, ⟨hst, hok, h8⟩, ⟨hsi9, hoi, hi8⟩, ⟨nm, rm, Pm, Gm, hsm9, hom⟩, hpt, ⟨bi0, sz0, dn0, ht0⟩, h25, h26, h27, hxs, h28, hrow, hEl⟩ := id hX
  refine lv_aload_n hx hb dL_law_549 rfl (lv_at hl 1 rfl) ?_
  refine x_cqi (mc := 0) (ms := 0) (va_runV (As := []) (rest := []) ⟨hx, hb, hml, hown, hts⟩ (c_X11_hands l g σ (fun q : Nat => s.heap.size ≤ q) ph tk hx0 n rd P G hst hok hH hpt) (cwV 0 hts gL_law_X11_hands rfl rfl rfl (by decide +kernel) ⟨Nat.le_of_ble_eq_true rfl, Nat.le_of_ble_eq_true rfl⟩) (x_preVQ hK hP hD hS hA (x_recv hK hP (i := 0) (by decide) hx0 rfl)) rfl rfl hl.1 rfl (lv_room (Nat.le_of_ble_eq_true rfl)) dL_law_550 ⟨by (show cells + 0 ≤ 601024; omega), by (show slots + 0 ≤ 7293034; omega)⟩) hS (fun r1 σ1 H locs hr1 p1 hP hD hS => ?_)
  have hM1 := hM.fr (M1 := σ1.1) (fun j hj => p1.2.1 j (by omega))
  obtain ⟨hob, ⟨hs0, hokm, hn8⟩, ⟨h39, hIm⟩, ⟨Rd, h40⟩, ⟨Mi, h41⟩, ⟨h42, h43, h44, h45, h46, h47⟩, hsh, ⟨Nm, h48, hNm⟩, Wz, h49⟩ := id hM1
  refine lv_aload_n hx hb dL_law_553 rfl (lv_at hl 2 rfl) ?_
  refine x_cqi0 (va_runV (As := []) (rest := [.int (iI r1)]) ⟨hx, hb, hml, hown, hts⟩ (c_X12_hands l g σ1 (fun q : Nat => s.heap.size ≤ q) ov S hob hs0 hokm Mi h41 Wz h49) (cwV 0 hts gL_law_X12_hands rfl rfl rfl (by decide +kernel) ⟨Nat.le_of_ble_eq_true rfl, Nat.le_of_ble_eq_true rfl⟩) (x_preVQ hK hP hD hS hA (x_recv hK hP (i := 37) (by decide) hob rfl)) rfl rfl hl.1 rfl (lv_room (Nat.le_of_ble_eq_true rfl)) dL_law_554 ⟨by (show (cells + 0) + 0 ≤ 601024; omega), by (show (slots + 0) + 0 ≤ 7293034; omega)⟩) hS (fun r2 σ2 H locs hr2 p2 hP hD hS => ?_)
  obtain ⟨e9, hI2⟩ := st_hands hX hM hO hR p1 p2
  refine x_icmp_eq (tgt := 1223) hx hb hr1 hr2 dL_law_557 (by decide) (fun c9 => ?_) (fun c9 => ?_)
  · refine W.widen (k := cells + 64) (n := slots + 64) (by omega) (by omega) ?_
    exact kk σ2 H locs ls hI2 hP hD hS hl
  · exact absurd e9 c9

set_option maxHeartbeats 4000000 in
set_option maxRecDepth 100000 in
theorem lc_any {p : Program} {e : Env} {s : State} {m : MethodId} {below : List Frame} {meth : Method} {c : Code} (l : Launch) (hlst : l.stackTraces = false) {b L : Nat} {xs : Nat → Int32} (hL : L ≤ 3072) (C0 : l_At p s m meth c b L xs) (g : xG) (hK : xK g s) (hN : xNst s) (hT : xcT (fun q : Nat => s.heap.size ≤ q) s s.heap) (Q : State → Prop) (σ : xS) (H : Heap) (locs : List Loc) (cells slots : Nat) (i : Int) (hi0 : 0 ≤ i) (hi : i + 6 ≤ L) (hcl : cells + 64 ≤ 601024) (hsl : slots + 64 ≤ 7293034) (hI : LI g σ) (hP : xP g σ H) (hD : xD g (fun q : Nat => s.heap.size ≤ q) σ) (hS : va_S (fun q : Nat => s.heap.size ≤ q) s.heap H locs) (ls : Array Slot) (hl : lv_has ls 8 [(0, .ref b), (1, .ref (g.2.2 0)), (2, .ref (g.2.2 37)), (3, .ref (g.2.2 50)), (4, .int (iI i))]) (kk : ∀ (σ2 : xS) (H : Heap) (locs : List Loc) (ls : Array Slot), LI g σ2 → xP g σ2 H → xD g (fun q : Nat => s.heap.size ≤ q) σ2 → va_S (fun q : Nat => s.heap.size ≤ q) s.heap H locs → lv_has ls 8 [(0, .ref b), (1, .ref (g.2.2 0)), (2, .ref (g.2.2 37)), (3, .ref (g.2.2 50)), (4, .int (iI i))] → W p l e room_1 s m #[Value.ref b] below meth c H locs (cells + 64) (slots + 64) Q (F0 m 1223 ls [])) : W p l e room_1 s m #[Value.ref b] below meth c H locs cells slots Q (F0 m 562 ls []) := by
  obtain ⟨hx, hb, hml, hown, hts, hXs, hbl, hlocks⟩ := id C0
  have hA : ∀ q : Nat, s.heap.size ≤ q → (fun q : Nat => s.heap.size ≤ q) q := fun _ h => h
  have hbA : ¬ (fun q : Nat => s.heap.size ≤ q) b := Nat.not_le.mpr hbl
  obtain ⟨ph, tk, n, rd, P, G, ni, ri, Pi, Gi, Kf, So, Sz, El, ov, S, Im, Kp, So2, Sz2, El2, KK, KF, hX, hM, hO, hR⟩ := id hI
  obtain ⟨hx0, ⟨ha_ph, hph⟩, htk, hH, ⟨hst, hok, h8⟩, ⟨hsi9, hoi, hi8⟩, ⟨nm, rm, Pm, Gm, hsm9, hom⟩, hpt, ⟨bi0, sz0, dn0, ht0⟩, h25, h26, h27, hxs, h28, hrow, hEl⟩ := id hX
  refine lv_aload_n hx hb dL_law_562 rfl (lv_at hl 1 rfl) ?_
  refine x_cqi (mc := 0) (ms := 0) (va_runV (As := []) (rest := []) ⟨hx, hb, hml, hown, hts⟩ (c_X11_any l g σ (fun q : Nat => s.heap.size ≤ q) ph tk hx0 n rd P G hst hok hH hpt) (cwV 0 hts gL_law_X11_any rfl rfl rfl (by decide +kernel) ⟨Nat.le_of_ble_eq_true rfl, Nat.le_of_ble_eq_true rfl⟩) (x_preVQ hK hP hD hS hA (x_recv hK hP (i := 0) (by decide) hx0 rfl)) rfl rfl hl.1 rfl (lv_room (Nat.le_of_ble_eq_true rfl)) dL_law_563 ⟨by (show cells + 0 ≤ 601024; omega), by (show slots + 0 ≤ 7293034; omega)⟩) hS (fun r1 σ1 H locs hr1 p1 hP hD hS => ?_)
  have hM1 := hM.fr (M1 := σ1.1) (fun j hj => p1.2.1 j (by omega))
  obtain ⟨hob, ⟨hs0, hokm, hn8⟩, ⟨h39, hIm⟩, ⟨Rd, h40⟩, ⟨Mi, h41⟩, ⟨h42, h43, h44, h45, h46, h47⟩, hsh, ⟨Nm, h48, hNm⟩, Wz, h49⟩ := id hM1
  refine lv_aload_n hx hb dL_law_566 rfl (lv_at hl 2 rfl) ?_
  refine x_cqi0 (va_runV (As := []) (rest := [.int (iI r1)]) ⟨hx, hb, hml, hown, hts⟩ (c_X12_any l g σ1 (fun q : Nat => s.heap.size ≤ q) ov S hob hs0 hokm Mi h41 Wz h49) (cwV 0 hts gL_law_X12_any rfl rfl rfl (by decide +kernel) ⟨Nat.le_of_ble_eq_true rfl, Nat.le_of_ble_eq_true rfl⟩) (x_preVQ hK hP hD hS hA (x_recv hK hP (i := 37) (by decide) hob rfl)) rfl rfl hl.1 rfl (lv_room (Nat.le_of_ble_eq_true rfl)) dL_law_567 ⟨by (show (cells + 0) + 0 ≤ 601024; omega), by (show (slots + 0) + 0 ≤ 7293034; omega)⟩) hS (fun r2 σ2 H locs hr2 p2 hP hD hS => ?_)
  obtain ⟨e9, hI2⟩ := st_any hX hM hO hR p1 p2
  refine x_icmp_eq (tgt := 1223) hx hb hr1 hr2 dL_law_570 (by decide) (fun c9 => ?_) (fun c9 => ?_)
  · refine W.widen (k := cells + 64) (n := slots + 64) (by omega) (by omega) ?_
    exact kk σ2 H locs ls hI2 hP hD hS hl
  · exact absurd e9 c9

set_option maxHeartbeats 4000000 in
set_option maxRecDepth 100000 in
theorem lc_change {p : Program} {e : Env} {s : State} {m : MethodId} {below : List Frame} {meth : Method} {c : Code} (l : Launch) (hlst : l.stackTraces = false) {b L : Nat} {xs : Nat → Int32} (hL : L ≤ 3072) (C0 : l_At p s m meth c b L xs) (g : xG) (hK : xK g s) (hN : xNst s) (hT : xcT (fun q : Nat => s.heap.size ≤ q) s s.heap) (Q : State → Prop) (σ : xS) (H : Heap) (locs : List Loc) (cells slots : Nat) (i : Int) (hi0 : 0 ≤ i) (hi : i + 6 ≤ L) (hcl : cells + 64 ≤ 601024) (hsl : slots + 64 ≤ 7293034) (hI : LI g σ) (hP : xP g σ H) (hD : xD g (fun q : Nat => s.heap.size ≤ q) σ) (hS : va_S (fun q : Nat => s.heap.size ≤ q) s.heap H locs) (ls : Array Slot) (hl : lv_has ls 8 [(0, .ref b), (1, .ref (g.2.2 0)), (2, .ref (g.2.2 37)), (3, .ref (g.2.2 50)), (4, .int (iI i))]) (kk : ∀ (σ2 : xS) (H : Heap) (locs : List Loc) (ls : Array Slot), LI g σ2 → xP g σ2 H → xD g (fun q : Nat => s.heap.size ≤ q) σ2 → va_S (fun q : Nat => s.heap.size ≤ q) s.heap H locs → lv_has ls 8 [(0, .ref b), (1, .ref (g.2.2 0)), (2, .ref (g.2.2 37)), (3, .ref (g.2.2 50)), (4, .int (iI i))] → W p l e room_1 s m #[Value.ref b] below meth c H locs (cells + 64) (slots + 64) Q (F0 m 1223 ls [])) : W p l e room_1 s m #[Value.ref b] below meth c H locs cells slots Q (F0 m 575 ls []) := by
  obtain ⟨hx, hb, hml, hown, hts, hXs, hbl, hlocks⟩ := id C0
  have hA : ∀ q : Nat, s.heap.size ≤ q → (fun q : Nat => s.heap.size ≤ q) q := fun _ h => h
  have hbA : ¬ (fun q : Nat => s.heap.size ≤ q) b := Nat.not_le.mpr hbl
  obtain ⟨ph, tk, n, rd, P, G, ni, ri, Pi, Gi, Kf, So, Sz, El, ov, S, Im, Kp, So2, Sz2, El2, KK, KF, hX, hM, hO, hR⟩ := id hI
  obtain ⟨hx0, ⟨ha_ph, hph⟩, htk, hH, ⟨hst, hok, h8⟩, ⟨hsi9, hoi, hi8⟩, ⟨nm, rm, Pm, Gm, hsm9, hom⟩, hpt, ⟨bi0, sz0, dn0, ht0⟩, h25, h26, h27, hxs, h28, hrow, hEl⟩ := id hX
  obtain ⟨v1, hv1, ev1⟩ := iI_of (xs (iI (i + 1)).toNatClampNeg)
  refine lv_aload_n hx hb dL_law_575 rfl (lv_at hl 1 rfl) ?_
  refine lv_aload_n hx hb dL_law_576 rfl (lv_at hl 0 rfl) ?_
  refine lv_iload hx hb dL_law_577 (lv_at hl 4 rfl) ?_
  refine x_iconst hx hb dL_law_579 ?_
  refine x_iadd hx hb dL_law_580 ?_
  refine va_sld hx hb hXs hbl hbA hS (iI_in (by omega) (by omega) (by omega)) dL_law_581 ?_
  rw [ev1]
  refine x_cqi (mc := 0) (ms := 0) (va_runV (As := [.int (iI v1)]) (rest := []) ⟨hx, hb, hml, hown, hts⟩ (c_X11_change l g σ (fun q : Nat => s.heap.size ≤ q) ph tk hx0 n rd P G hst hok hH nm rm Pm Gm hsm9 hom v1 hv1) (cwV 1 hts gL_law_X11_change rfl rfl rfl (by decide +kernel) ⟨Nat.le_of_ble_eq_true rfl, Nat.le_of_ble_eq_true rfl⟩) (x_preVQ hK hP hD hS hA (x_recv hK hP (i := 0) (by decide) hx0 rfl)) rfl rfl hl.1 rfl (lv_room (Nat.le_of_ble_eq_true rfl)) dL_law_582 ⟨by (show cells + 0 ≤ 601024; omega), by (show slots + 0 ≤ 7293034; omega)⟩) hS (fun r1 σ1 H locs hr1 p1 hP hD hS => ?_)
  have hM1 := hM.fr (M1 := σ1.1) (fun j hj => p1.2.1 j (by omega))
  obtain ⟨hob, ⟨hs0, hokm, hn8⟩, ⟨h39, hIm⟩, ⟨Rd, h40⟩, ⟨Mi, h41⟩, ⟨h42, h43, h44, h45, h46, h47⟩, hsh, ⟨Nm, h48, hNm⟩, Wz, h49⟩ := id hM1
  refine lv_aload_n hx hb dL_law_585 rfl (lv_at hl 2 rfl) ?_
  refine lv_aload_n hx hb dL_law_586 rfl (lv_at hl 0 rfl) ?_
  refine lv_iload hx hb dL_law_587 (lv_at hl 4 rfl) ?_
  refine x_iconst hx hb dL_law_589 ?_
  refine x_iadd hx hb dL_law_590 ?_
  refine va_sld hx hb hXs hbl hbA hS (iI_in (by omega) (by omega) (by omega)) dL_law_591 ?_
  rw [ev1]
  refine x_cqi0 (va_runV (As := [.int (iI v1)]) (rest := [.int (iI r1)]) ⟨hx, hb, hml, hown, hts⟩ (c_X12_change l g σ1 (fun q : Nat => s.heap.size ≤ q) ov S hob hs0 hokm v1 hv1) (cwV 1 hts gL_law_X12_change rfl rfl rfl (by decide +kernel) ⟨Nat.le_of_ble_eq_true rfl, Nat.le_of_ble_eq_true rfl⟩) (x_preVQ hK hP hD hS hA (x_recv hK hP (i := 37) (by decide) hob rfl)) rfl rfl hl.1 rfl (lv_room (Nat.le_of_ble_eq_true rfl)) dL_law_592 ⟨by (show (cells + 0) + 0 ≤ 601024; omega), by (show (slots + 0) + 0 ≤ 7293034; omega)⟩) hS (fun r2 σ2 H locs hr2 p2 hP hD hS => ?_)
  obtain ⟨e9, hI2⟩ := st_change hX hM hO hR p1 p2
  refine x_icmp_eq (tgt := 1223) hx hb hr1 hr2 dL_law_595 (by decide) (fun c9 => ?_) (fun c9 => ?_)
  · refine W.widen (k := cells + 64) (n := slots + 64) (by omega) (by omega) ?_
    exact kk σ2 H locs ls hI2 hP hD hS hl
  · exact absurd e9 c9

set_option maxHeartbeats 4000000 in
set_option maxRecDepth 100000 in
theorem lc_wedding {p : Program} {e : Env} {s : State} {m : MethodId} {below : List Frame} {meth : Method} {c : Code} (l : Launch) (hlst : l.stackTraces = false) {b L : Nat} {xs : Nat → Int32} (hL : L ≤ 3072) (C0 : l_At p s m meth c b L xs) (g : xG) (hK : xK g s) (hN : xNst s) (hT : xcT (fun q : Nat => s.heap.size ≤ q) s s.heap) (Q : State → Prop) (σ : xS) (H : Heap) (locs : List Loc) (cells slots : Nat) (i : Int) (hi0 : 0 ≤ i) (hi : i + 6 ≤ L) (hcl : cells + 64 ≤ 601024) (hsl : slots + 64 ≤ 7293034) (hI : LI g σ) (hP : xP g σ H) (hD : xD g (fun q : Nat => s.heap.size ≤ q) σ) (hS : va_S (fun q : Nat => s.heap.size ≤ q) s.heap H locs) (ls : Array Slot) (hl : lv_has ls 8 [(0, .ref b), (1, .ref (g.2.2 0)), (2, .ref (g.2.2 37)), (3, .ref (g.2.2 50)), (4, .int (iI i))]) (kk : ∀ (σ2 : xS) (H : Heap) (locs : List Loc) (ls : Array Slot), LI g σ2 → xP g σ2 H → xD g (fun q : Nat => s.heap.size ≤ q) σ2 → va_S (fun q : Nat => s.heap.size ≤ q) s.heap H locs → lv_has ls 8 [(0, .ref b), (1, .ref (g.2.2 0)), (2, .ref (g.2.2 37)), (3, .ref (g.2.2 50)), (4, .int (iI i))] → W p l e room_1 s m #[Value.ref b] below meth c H locs (cells + 64) (slots + 64) Q (F0 m 1223 ls [])) : W p l e room_1 s m #[Value.ref b] below meth c H locs cells slots Q (F0 m 600 ls []) := by
  obtain ⟨hx, hb, hml, hown, hts, hXs, hbl, hlocks⟩ := id C0
  have hA : ∀ q : Nat, s.heap.size ≤ q → (fun q : Nat => s.heap.size ≤ q) q := fun _ h => h
  have hbA : ¬ (fun q : Nat => s.heap.size ≤ q) b := Nat.not_le.mpr hbl
  obtain ⟨ph, tk, n, rd, P, G, ni, ri, Pi, Gi, Kf, So, Sz, El, ov, S, Im, Kp, So2, Sz2, El2, KK, KF, hX, hM, hO, hR⟩ := id hI
  obtain ⟨hx0, ⟨ha_ph, hph⟩, htk, hH, ⟨hst, hok, h8⟩, ⟨hsi9, hoi, hi8⟩, ⟨nm, rm, Pm, Gm, hsm9, hom⟩, hpt, ⟨bi0, sz0, dn0, ht0⟩, h25, h26, h27, hxs, h28, hrow, hEl⟩ := id hX
  obtain ⟨v1, hv1, ev1⟩ := iI_of (xs (iI (i + 1)).toNatClampNeg)
  refine lv_aload_n hx hb dL_law_600 rfl (lv_at hl 1 rfl) ?_
  refine lv_aload_n hx hb dL_law_601 rfl (lv_at hl 0 rfl) ?_
  refine lv_iload hx hb dL_law_602 (lv_at hl 4 rfl) ?_
  refine x_iconst hx hb dL_law_604 ?_
  refine x_iadd hx hb dL_law_605 ?_
  refine va_sld hx hb hXs hbl hbA hS (iI_in (by omega) (by omega) (by omega)) dL_law_606 ?_
  rw [ev1]
  refine x_cqi (mc := 0) (ms := 0) (va_runV (As := [.int (iI v1)]) (rest := []) ⟨hx, hb, hml, hown, hts⟩ (c_X11_wedding l g σ (fun q : Nat => s.heap.size ≤ q) ph tk hx0 n rd P G hst hok hH nm rm Pm Gm hsm9 hom v1 hv1) (cwV 1 hts gL_law_X11_wedding rfl rfl rfl (by decide +kernel) ⟨Nat.le_of_ble_eq_true rfl, Nat.le_of_ble_eq_true rfl⟩) (x_preVQ hK hP hD hS hA (x_recv hK hP (i := 0) (by decide) hx0 rfl)) rfl rfl hl.1 rfl (lv_room (Nat.le_of_ble_eq_true rfl)) dL_law_607 ⟨by (show cells + 0 ≤ 601024; omega), by (show slots + 0 ≤ 7293034; omega)⟩) hS (fun r1 σ1 H locs hr1 p1 hP hD hS => ?_)
  have hM1 := hM.fr (M1 := σ1.1) (fun j hj => p1.2.1 j (by omega))
  obtain ⟨hob, ⟨hs0, hokm, hn8⟩, ⟨h39, hIm⟩, ⟨Rd, h40⟩, ⟨Mi, h41⟩, ⟨h42, h43, h44, h45, h46, h47⟩, hsh, ⟨Nm, h48, hNm⟩, Wz, h49⟩ := id hM1
  refine lv_aload_n hx hb dL_law_610 rfl (lv_at hl 2 rfl) ?_
  refine lv_aload_n hx hb dL_law_611 rfl (lv_at hl 0 rfl) ?_
  refine lv_iload hx hb dL_law_612 (lv_at hl 4 rfl) ?_
  refine x_iconst hx hb dL_law_614 ?_
  refine x_iadd hx hb dL_law_615 ?_
  refine va_sld hx hb hXs hbl hbA hS (iI_in (by omega) (by omega) (by omega)) dL_law_616 ?_
  rw [ev1]
  refine x_cqi0 (va_runV (As := [.int (iI v1)]) (rest := [.int (iI r1)]) ⟨hx, hb, hml, hown, hts⟩ (c_X12_wedding l g σ1 (fun q : Nat => s.heap.size ≤ q) ov S hob hs0 hokm v1 hv1 Mi h41) (cwV 1 hts gL_law_X12_wedding rfl rfl rfl (by decide +kernel) ⟨Nat.le_of_ble_eq_true rfl, Nat.le_of_ble_eq_true rfl⟩) (x_preVQ hK hP hD hS hA (x_recv hK hP (i := 37) (by decide) hob rfl)) rfl rfl hl.1 rfl (lv_room (Nat.le_of_ble_eq_true rfl)) dL_law_617 ⟨by (show (cells + 0) + 0 ≤ 601024; omega), by (show (slots + 0) + 0 ≤ 7293034; omega)⟩) hS (fun r2 σ2 H locs hr2 p2 hP hD hS => ?_)
  obtain ⟨e9, hI2⟩ := st_wedding hX hM hO hR p1 p2
  refine x_icmp_eq (tgt := 1223) hx hb hr1 hr2 dL_law_620 (by decide) (fun c9 => ?_) (fun c9 => ?_)
  · refine W.widen (k := cells + 64) (n := slots + 64) (by omega) (by omega) ?_
    exact kk σ2 H locs ls hI2 hP hD hS hl
  · exact absurd e9 c9

set_option maxHeartbeats 4000000 in
set_option maxRecDepth 100000 in
theorem lc_worth {p : Program} {e : Env} {s : State} {m : MethodId} {below : List Frame} {meth : Method} {c : Code} (l : Launch) (hlst : l.stackTraces = false) {b L : Nat} {xs : Nat → Int32} (hL : L ≤ 3072) (C0 : l_At p s m meth c b L xs) (g : xG) (hK : xK g s) (hN : xNst s) (hT : xcT (fun q : Nat => s.heap.size ≤ q) s s.heap) (Q : State → Prop) (σ : xS) (H : Heap) (locs : List Loc) (cells slots : Nat) (i : Int) (hi0 : 0 ≤ i) (hi : i + 6 ≤ L) (hcl : cells + 64 ≤ 601024) (hsl : slots + 64 ≤ 7293034) (hI : LI g σ) (hP : xP g σ H) (hD : xD g (fun q : Nat => s.heap.size ≤ q) σ) (hS : va_S (fun q : Nat => s.heap.size ≤ q) s.heap H locs) (ls : Array Slot) (hl : lv_has ls 8 [(0, .ref b), (1, .ref (g.2.2 0)), (2, .ref (g.2.2 37)), (3, .ref (g.2.2 50)), (4, .int (iI i))]) (kk : ∀ (σ2 : xS) (H : Heap) (locs : List Loc) (ls : Array Slot), LI g σ2 → xP g σ2 H → xD g (fun q : Nat => s.heap.size ≤ q) σ2 → va_S (fun q : Nat => s.heap.size ≤ q) s.heap H locs → lv_has ls 8 [(0, .ref b), (1, .ref (g.2.2 0)), (2, .ref (g.2.2 37)), (3, .ref (g.2.2 50)), (4, .int (iI i))] → W p l e room_1 s m #[Value.ref b] below meth c H locs (cells + 64) (slots + 64) Q (F0 m 1223 ls [])) : W p l e room_1 s m #[Value.ref b] below meth c H locs cells slots Q (F0 m 625 ls []) := by
  obtain ⟨hx, hb, hml, hown, hts, hXs, hbl, hlocks⟩ := id C0
  have hA : ∀ q : Nat, s.heap.size ≤ q → (fun q : Nat => s.heap.size ≤ q) q := fun _ h => h
  have hbA : ¬ (fun q : Nat => s.heap.size ≤ q) b := Nat.not_le.mpr hbl
  obtain ⟨ph, tk, n, rd, P, G, ni, ri, Pi, Gi, Kf, So, Sz, El, ov, S, Im, Kp, So2, Sz2, El2, KK, KF, hX, hM, hO, hR⟩ := id hI
  obtain ⟨hx0, ⟨ha_ph, hph⟩, htk, hH, ⟨hst, hok, h8⟩, ⟨hsi9, hoi, hi8⟩, ⟨nm, rm, Pm, Gm, hsm9, hom⟩, hpt, ⟨bi0, sz0, dn0, ht0⟩, h25, h26, h27, hxs, h28, hrow, hEl⟩ := id hX
  obtain ⟨v1, hv1, ev1⟩ := iI_of (xs (iI (i + 1)).toNatClampNeg)
  obtain ⟨v2, hv2, ev2⟩ := iI_of (xs (iI (i + 2)).toNatClampNeg)
  refine lv_aload_n hx hb dL_law_625 rfl (lv_at hl 1 rfl) ?_
  refine lv_aload_n hx hb dL_law_626 rfl (lv_at hl 0 rfl) ?_
  refine lv_iload hx hb dL_law_627 (lv_at hl 4 rfl) ?_
  refine x_iconst hx hb dL_law_629 ?_
  refine x_iadd hx hb dL_law_630 ?_
  refine va_sld hx hb hXs hbl hbA hS (iI_in (by omega) (by omega) (by omega)) dL_law_631 ?_
  rw [ev1]
  refine lv_aload_n hx hb dL_law_632 rfl (lv_at hl 0 rfl) ?_
  refine lv_iload hx hb dL_law_633 (lv_at hl 4 rfl) ?_
  refine x_iconst hx hb dL_law_635 ?_
  refine x_iadd hx hb dL_law_636 ?_
  refine va_sld hx hb hXs hbl hbA hS (iI_in (by omega) (by omega) (by omega)) dL_law_637 ?_
  rw [ev2]
  refine x_cqi (mc := 0) (ms := 0) (va_runV (As := [.int (iI v1), .int (iI v2)]) (rest := []) ⟨hx, hb, hml, hown, hts⟩ (c_X11_worth l g σ (fun q : Nat => s.heap.size ≤ q) ph tk hx0 n rd P G hst hok hH nm rm Pm Gm hsm9 hom h8 ha_ph hph v1 hv1 v2 hv2) (cwV 2 hts gL_law_X11_worth rfl rfl rfl (by decide +kernel) ⟨Nat.le_of_ble_eq_true rfl, Nat.le_of_ble_eq_true rfl⟩) (x_preVQ hK hP hD hS hA (x_recv hK hP (i := 0) (by decide) hx0 rfl)) rfl rfl hl.1 rfl (lv_room (Nat.le_of_ble_eq_true rfl)) dL_law_638 ⟨by (show cells + 0 ≤ 601024; omega), by (show slots + 0 ≤ 7293034; omega)⟩) hS (fun r1 σ1 H locs hr1 p1 hP hD hS => ?_)
  have hM1 := hM.fr (M1 := σ1.1) (fun j hj => p1.2.1 j (by omega))
  obtain ⟨hob, ⟨hs0, hokm, hn8⟩, ⟨h39, hIm⟩, ⟨Rd, h40⟩, ⟨Mi, h41⟩, ⟨h42, h43, h44, h45, h46, h47⟩, hsh, ⟨Nm, h48, hNm⟩, Wz, h49⟩ := id hM1
  refine lv_aload_n hx hb dL_law_641 rfl (lv_at hl 2 rfl) ?_
  refine lv_aload_n hx hb dL_law_642 rfl (lv_at hl 0 rfl) ?_
  refine lv_iload hx hb dL_law_643 (lv_at hl 4 rfl) ?_
  refine x_iconst hx hb dL_law_645 ?_
  refine x_iadd hx hb dL_law_646 ?_
  refine va_sld hx hb hXs hbl hbA hS (iI_in (by omega) (by omega) (by omega)) dL_law_647 ?_
  rw [ev1]
  refine lv_aload_n hx hb dL_law_648 rfl (lv_at hl 0 rfl) ?_
  refine lv_iload hx hb dL_law_649 (lv_at hl 4 rfl) ?_
  refine x_iconst hx hb dL_law_651 ?_
  refine x_iadd hx hb dL_law_652 ?_
  refine va_sld hx hb hXs hbl hbA hS (iI_in (by omega) (by omega) (by omega)) dL_law_653 ?_
  rw [ev2]
  refine x_cqi0 (va_runV (As := [.int (iI v1), .int (iI v2)]) (rest := [.int (iI r1)]) ⟨hx, hb, hml, hown, hts⟩ (c_X12_worth l g σ1 (fun q : Nat => s.heap.size ≤ q) ov S hob hs0 hokm hn8 v1 hv1 v2 hv2 Mi h41) (cwV 2 hts gL_law_X12_worth rfl rfl rfl (by decide +kernel) ⟨Nat.le_of_ble_eq_true rfl, Nat.le_of_ble_eq_true rfl⟩) (x_preVQ hK hP hD hS hA (x_recv hK hP (i := 37) (by decide) hob rfl)) rfl rfl hl.1 rfl (lv_room (Nat.le_of_ble_eq_true rfl)) dL_law_654 ⟨by (show (cells + 0) + 0 ≤ 601024; omega), by (show (slots + 0) + 0 ≤ 7293034; omega)⟩) hS (fun r2 σ2 H locs hr2 p2 hP hD hS => ?_)
  obtain ⟨e9, hI2⟩ := st_worth hX hM hO hR p1 p2
  refine x_icmp_eq (tgt := 1223) hx hb hr1 hr2 dL_law_657 (by decide) (fun c9 => ?_) (fun c9 => ?_)
  · refine W.widen (k := cells + 64) (n := slots + 64) (by omega) (by omega) ?_
    exact kk σ2 H locs ls hI2 hP hD hS hl
  · exact absurd e9 c9

set_option maxHeartbeats 4000000 in
set_option maxRecDepth 100000 in
theorem lc_fitting {p : Program} {e : Env} {s : State} {m : MethodId} {below : List Frame} {meth : Method} {c : Code} (l : Launch) (hlst : l.stackTraces = false) {b L : Nat} {xs : Nat → Int32} (hL : L ≤ 3072) (C0 : l_At p s m meth c b L xs) (g : xG) (hK : xK g s) (hN : xNst s) (hT : xcT (fun q : Nat => s.heap.size ≤ q) s s.heap) (Q : State → Prop) (σ : xS) (H : Heap) (locs : List Loc) (cells slots : Nat) (i : Int) (hi0 : 0 ≤ i) (hi : i + 6 ≤ L) (hcl : cells + 64 ≤ 601024) (hsl : slots + 64 ≤ 7293034) (hI : LI g σ) (hP : xP g σ H) (hD : xD g (fun q : Nat => s.heap.size ≤ q) σ) (hS : va_S (fun q : Nat => s.heap.size ≤ q) s.heap H locs) (ls : Array Slot) (hl : lv_has ls 8 [(0, .ref b), (1, .ref (g.2.2 0)), (2, .ref (g.2.2 37)), (3, .ref (g.2.2 50)), (4, .int (iI i))]) (kk : ∀ (σ2 : xS) (H : Heap) (locs : List Loc) (ls : Array Slot), LI g σ2 → xP g σ2 H → xD g (fun q : Nat => s.heap.size ≤ q) σ2 → va_S (fun q : Nat => s.heap.size ≤ q) s.heap H locs → lv_has ls 8 [(0, .ref b), (1, .ref (g.2.2 0)), (2, .ref (g.2.2 37)), (3, .ref (g.2.2 50)), (4, .int (iI i))] → W p l e room_1 s m #[Value.ref b] below meth c H locs (cells + 64) (slots + 64) Q (F0 m 1223 ls [])) : W p l e room_1 s m #[Value.ref b] below meth c H locs cells slots Q (F0 m 662 ls []) := by
  obtain ⟨hx, hb, hml, hown, hts, hXs, hbl, hlocks⟩ := id C0
  have hA : ∀ q : Nat, s.heap.size ≤ q → (fun q : Nat => s.heap.size ≤ q) q := fun _ h => h
  have hbA : ¬ (fun q : Nat => s.heap.size ≤ q) b := Nat.not_le.mpr hbl
  obtain ⟨ph, tk, n, rd, P, G, ni, ri, Pi, Gi, Kf, So, Sz, El, ov, S, Im, Kp, So2, Sz2, El2, KK, KF, hX, hM, hO, hR⟩ := id hI
  obtain ⟨hx0, ⟨ha_ph, hph⟩, htk, hH, ⟨hst, hok, h8⟩, ⟨hsi9, hoi, hi8⟩, ⟨nm, rm, Pm, Gm, hsm9, hom⟩, hpt, ⟨bi0, sz0, dn0, ht0⟩, h25, h26, h27, hxs, h28, hrow, hEl⟩ := id hX
  obtain ⟨v1, hv1, ev1⟩ := iI_of (xs (iI (i + 1)).toNatClampNeg)
  obtain ⟨v2, hv2, ev2⟩ := iI_of (xs (iI (i + 2)).toNatClampNeg)
  refine lv_aload_n hx hb dL_law_662 rfl (lv_at hl 1 rfl) ?_
  refine lv_aload_n hx hb dL_law_663 rfl (lv_at hl 0 rfl) ?_
  refine lv_iload hx hb dL_law_664 (lv_at hl 4 rfl) ?_
  refine x_iconst hx hb dL_law_666 ?_
  refine x_iadd hx hb dL_law_667 ?_
  refine va_sld hx hb hXs hbl hbA hS (iI_in (by omega) (by omega) (by omega)) dL_law_668 ?_
  rw [ev1]
  refine lv_aload_n hx hb dL_law_669 rfl (lv_at hl 0 rfl) ?_
  refine lv_iload hx hb dL_law_670 (lv_at hl 4 rfl) ?_
  refine x_iconst hx hb dL_law_672 ?_
  refine x_iadd hx hb dL_law_673 ?_
  refine va_sld hx hb hXs hbl hbA hS (iI_in (by omega) (by omega) (by omega)) dL_law_674 ?_
  rw [ev2]
  refine x_cqi (mc := 0) (ms := 0) (va_runV (As := [.int (iI v1), .int (iI v2)]) (rest := []) ⟨hx, hb, hml, hown, hts⟩ (c_X11_fitting l g σ (fun q : Nat => s.heap.size ≤ q) ph tk hx0 n rd P G hst hok hH nm rm Pm Gm hsm9 hom v1 hv1 v2 hv2) (cwV 2 hts gL_law_X11_fitting rfl rfl rfl (by decide +kernel) ⟨Nat.le_of_ble_eq_true rfl, Nat.le_of_ble_eq_true rfl⟩) (x_preVQ hK hP hD hS hA (x_recv hK hP (i := 0) (by decide) hx0 rfl)) rfl rfl hl.1 rfl (lv_room (Nat.le_of_ble_eq_true rfl)) dL_law_675 ⟨by (show cells + 0 ≤ 601024; omega), by (show slots + 0 ≤ 7293034; omega)⟩) hS (fun r1 σ1 H locs hr1 p1 hP hD hS => ?_)
  have hM1 := hM.fr (M1 := σ1.1) (fun j hj => p1.2.1 j (by omega))
  obtain ⟨hob, ⟨hs0, hokm, hn8⟩, ⟨h39, hIm⟩, ⟨Rd, h40⟩, ⟨Mi, h41⟩, ⟨h42, h43, h44, h45, h46, h47⟩, hsh, ⟨Nm, h48, hNm⟩, Wz, h49⟩ := id hM1
  refine lv_aload_n hx hb dL_law_678 rfl (lv_at hl 2 rfl) ?_
  refine lv_aload_n hx hb dL_law_679 rfl (lv_at hl 0 rfl) ?_
  refine lv_iload hx hb dL_law_680 (lv_at hl 4 rfl) ?_
  refine x_iconst hx hb dL_law_682 ?_
  refine x_iadd hx hb dL_law_683 ?_
  refine va_sld hx hb hXs hbl hbA hS (iI_in (by omega) (by omega) (by omega)) dL_law_684 ?_
  rw [ev1]
  refine lv_aload_n hx hb dL_law_685 rfl (lv_at hl 0 rfl) ?_
  refine lv_iload hx hb dL_law_686 (lv_at hl 4 rfl) ?_
  refine x_iconst hx hb dL_law_688 ?_
  refine x_iadd hx hb dL_law_689 ?_
  refine va_sld hx hb hXs hbl hbA hS (iI_in (by omega) (by omega) (by omega)) dL_law_690 ?_
  rw [ev2]
  refine x_cqi0 (va_runV (As := [.int (iI v1), .int (iI v2)]) (rest := [.int (iI r1)]) ⟨hx, hb, hml, hown, hts⟩ (c_X12_fitting l g σ1 (fun q : Nat => s.heap.size ≤ q) ov S hob hs0 hokm v1 hv1 v2 hv2 Mi h41) (cwV 2 hts gL_law_X12_fitting rfl rfl rfl (by decide +kernel) ⟨Nat.le_of_ble_eq_true rfl, Nat.le_of_ble_eq_true rfl⟩) (x_preVQ hK hP hD hS hA (x_recv hK hP (i := 37) (by decide) hob rfl)) rfl rfl hl.1 rfl (lv_room (Nat.le_of_ble_eq_true rfl)) dL_law_691 ⟨by (show (cells + 0) + 0 ≤ 601024; omega), by (show (slots + 0) + 0 ≤ 7293034; omega)⟩) hS (fun r2 σ2 H locs hr2 p2 hP hD hS => ?_)
  obtain ⟨e9, hI2⟩ := st_fitting hX hM hO hR p1 p2
  refine x_icmp_eq (tgt := 1223) hx hb hr1 hr2 dL_law_694 (by decide) (fun c9 => ?_) (fun c9 => ?_)
  · refine W.widen (k := cells + 64) (n := slots + 64) (by omega) (by omega) ?_
    exact kk σ2 H locs ls hI2 hP hD hS hl
  · exact absurd e9 c9
