set_option maxHeartbeats 4000000 in
set_option maxRecDepth 100000 in
theorem lc_row {p : Program} {e : Env} {s : State} {m : MethodId} {below : List Frame} {meth : Method} {c : Code} (l : Launch) (hlst : l.stackTraces = false) {b L : Nat} {xs : Nat → Int32} (hL : L ≤ 3072) (C0 : l_At p s m meth c b L xs) (g : xG) (hK : xK g s) (hN : xNst s) (hT : xcT (fun q : Nat => s.heap.size ≤ q) s s.heap) (Q : State → Prop) (σ : xS) (H : Heap) (locs : List Loc) (cells slots : Nat) (i : Int) (hi0 : 0 ≤ i) (hi : i + 6 ≤ L) (hcl : cells + 64 ≤ 601024) (hsl : slots + 64 ≤ 7293034) (hI : LI g σ) (hP : xP g σ H) (hD : xD g (fun q : Nat => s.heap.size ≤ q) σ) (hS : va_S (fun q : Nat => s.heap.size ≤ q) s.heap H locs) (ls : Array Slot) (hl : lv_has ls 8 [(0, .ref b), (1, .ref (g.2.2 0)), (2, .ref (g.2.2 37)), (3, .ref (g.2.2 50)), (4, .int (iI i))]) (kk : ∀ (σ2 : xS) (H : Heap) (locs : List Loc) (ls : Array Slot), LI g σ2 → xP g σ2 H → xD g (fun q : Nat => s.heap.size ≤ q) σ2 → va_S (fun q : Nat => s.heap.size ≤ q) s.heap H locs → lv_has ls 8 [(0, .ref b), (1, .ref (g.2.2 0)), (2, .ref (g.2.2 37)), (3, .ref (g.2.2 50)), (4, .int (iI i))] → W p l e room_1 s m #[Value.ref b] below meth c H locs (cells + 64) (slots + 64) Q (F0 m 1223 ls [])) : W p l e room_1 s m #[Value.ref b] below meth c H locs cells slots Q (F0 m 935 ls []) := by
  obtain ⟨hx, hb, hml, hown, hts, hXs, hbl, hlocks⟩ := id C0
  have hA : ∀ q : Nat, s.heap.size ≤ q → (fun q : Nat => s.heap.size ≤ q) q := fun _ h => h
  have hbA : ¬ (fun q : Nat => s.heap.size ≤ q) b := Nat.not_le.mpr hbl
  obtain ⟨ph, tk, n, rd, P, G, ni, ri, Pi, Gi, Kf, So, Sz, El, ov, S, Im, Kp, So2, Sz2, El2, KK, KF, hX, hM, hO, hR⟩ := id hI
  obtain ⟨hx0, ⟨ha_ph, hph⟩, htk, hH, ⟨hst, hok, h8⟩, ⟨hsi9, hoi, hi8⟩, ⟨nm, rm, Pm, Gm, hsm9, hom⟩, hpt, ⟨bi0, sz0, dn0, ht0⟩, h25, h26, h27, hxs, h28, hrow, hEl⟩ := id hX
  obtain ⟨v1, hv1, ev1⟩ := iI_of (xs (iI (i + 1)).toNatClampNeg)
  obtain ⟨v2, hv2, ev2⟩ := iI_of (xs (iI (i + 2)).toNatClampNeg)
  obtain ⟨v3, hv3, ev3⟩ := iI_of (xs (iI (i + 3)).toNatClampNeg)
  refine lv_aload_n hx hb dL_law_935 rfl (lv_at hl 1 rfl) ?_
  refine lv_aload_n hx hb dL_law_936 rfl (lv_at hl 0 rfl) ?_
  refine lv_iload hx hb dL_law_937 (lv_at hl 4 rfl) ?_
  refine x_iconst hx hb dL_law_939 ?_
  refine x_iadd hx hb dL_law_940 ?_
  refine va_sld hx hb hXs hbl hbA hS (iI_in (by omega) (by omega) (by omega)) dL_law_941 ?_
  rw [ev1]
  refine lv_aload_n hx hb dL_law_942 rfl (lv_at hl 0 rfl) ?_
  refine lv_iload hx hb dL_law_943 (lv_at hl 4 rfl) ?_
  refine x_iconst hx hb dL_law_945 ?_
  refine x_iadd hx hb dL_law_946 ?_
  refine va_sld hx hb hXs hbl hbA hS (iI_in (by omega) (by omega) (by omega)) dL_law_947 ?_
  rw [ev2]
  refine lv_aload_n hx hb dL_law_948 rfl (lv_at hl 0 rfl) ?_
  refine lv_iload hx hb dL_law_949 (lv_at hl 4 rfl) ?_
  refine x_iconst hx hb dL_law_951 ?_
  refine x_iadd hx hb dL_law_952 ?_
  refine va_sld hx hb hXs hbl hbA hS (iI_in (by omega) (by omega) (by omega)) dL_law_953 ?_
  rw [ev3]
  refine x_cqi (mc := 0) (ms := 0) (va_runV (As := [.int (iI v1), .int (iI v2), .int (iI v3)]) (rest := []) ⟨hx, hb, hml, hown, hts⟩ (c_X11_row l g σ (fun q : Nat => s.heap.size ≤ q) ph tk hx0 Kf So Sz h25 h26 h27 hxs El h28 hrow hEl v1 hv1 v2 hv2 v3 hv3) (cwV 3 hts gL_law_X11_row rfl rfl rfl (by decide +kernel) ⟨Nat.le_of_ble_eq_true rfl, Nat.le_of_ble_eq_true rfl⟩) (x_preVQ hK hP hD hS hA (x_recv hK hP (i := 0) (by decide) hx0 rfl)) rfl rfl hl.1 rfl (lv_room (Nat.le_of_ble_eq_true rfl)) dL_law_954 ⟨by (show cells + 0 ≤ 601024; omega), by (show slots + 0 ≤ 7293034; omega)⟩) hS (fun r1 σ1 H locs hr1 p1 hP hD hS => ?_)
  have hM1 := hM.fr (M1 := σ1.1) (fun j hj => fr_row p1 j (by omega))
  obtain ⟨hob, ⟨hs0, hokm, hn8⟩, ⟨h39, hIm⟩, ⟨Rd, h40⟩, ⟨Mi, h41⟩, ⟨h42, h43, h44, h45, h46, h47⟩, hsh, ⟨Nm, h48, hNm⟩, Wz, h49⟩ := id hM1
  refine lv_aload_n hx hb dL_law_957 rfl (lv_at hl 2 rfl) ?_
  refine lv_aload_n hx hb dL_law_958 rfl (lv_at hl 0 rfl) ?_
  refine lv_iload hx hb dL_law_959 (lv_at hl 4 rfl) ?_
  refine x_iconst hx hb dL_law_961 ?_
  refine x_iadd hx hb dL_law_962 ?_
  refine va_sld hx hb hXs hbl hbA hS (iI_in (by omega) (by omega) (by omega)) dL_law_963 ?_
  rw [ev1]
  refine lv_aload_n hx hb dL_law_964 rfl (lv_at hl 0 rfl) ?_
  refine lv_iload hx hb dL_law_965 (lv_at hl 4 rfl) ?_
  refine x_iconst hx hb dL_law_967 ?_
  refine x_iadd hx hb dL_law_968 ?_
  refine va_sld hx hb hXs hbl hbA hS (iI_in (by omega) (by omega) (by omega)) dL_law_969 ?_
  rw [ev2]
  refine lv_aload_n hx hb dL_law_970 rfl (lv_at hl 0 rfl) ?_
  refine lv_iload hx hb dL_law_971 (lv_at hl 4 rfl) ?_
  refine x_iconst hx hb dL_law_973 ?_
  refine x_iadd hx hb dL_law_974 ?_
  refine va_sld hx hb hXs hbl hbA hS (iI_in (by omega) (by omega) (by omega)) dL_law_975 ?_
  rw [ev3]
  refine x_cqi0 (va_runV (As := [.int (iI v1), .int (iI v2), .int (iI v3)]) (rest := [.int (iI r1)]) ⟨hx, hb, hml, hown, hts⟩ (c_X12_row l g σ1 (fun q : Nat => s.heap.size ≤ q) ov S hob hs0 hokm Kp So2 Sz2 El2 KK KF h42 h43 h44 h45 h46 h47 hsh v1 hv1 v2 hv2 v3 hv3) (cwV 3 hts gL_law_X12_row rfl rfl rfl (by decide +kernel) ⟨Nat.le_of_ble_eq_true rfl, Nat.le_of_ble_eq_true rfl⟩) (x_preVQ hK hP hD hS hA (x_recv hK hP (i := 37) (by decide) hob rfl)) rfl rfl hl.1 rfl (lv_room (Nat.le_of_ble_eq_true rfl)) dL_law_976 ⟨by (show (cells + 0) + 0 ≤ 601024; omega), by (show (slots + 0) + 0 ≤ 7293034; omega)⟩) hS (fun r2 σ2 H locs hr2 p2 hP hD hS => ?_)
  obtain ⟨e9, hI2⟩ := st_row hX hM hO hR p1 p2
  refine x_icmp_eq (tgt := 1223) hx hb hr1 hr2 dL_law_979 (by decide) (fun c9 => ?_) (fun c9 => ?_)
  · refine W.widen (k := cells + 64) (n := slots + 64) (by omega) (by omega) ?_
    exact kk σ2 H locs ls hI2 hP hD hS hl
  · exact absurd e9 c9

set_option maxHeartbeats 4000000 in
set_option maxRecDepth 100000 in
theorem lc_put {p : Program} {e : Env} {s : State} {m : MethodId} {below : List Frame} {meth : Method} {c : Code} (l : Launch) (hlst : l.stackTraces = false) {b L : Nat} {xs : Nat → Int32} (hL : L ≤ 3072) (C0 : l_At p s m meth c b L xs) (g : xG) (hK : xK g s) (hN : xNst s) (hT : xcT (fun q : Nat => s.heap.size ≤ q) s s.heap) (Q : State → Prop) (σ : xS) (H : Heap) (locs : List Loc) (cells slots : Nat) (i : Int) (hi0 : 0 ≤ i) (hi : i + 6 ≤ L) (hcl : cells + 64 ≤ 601024) (hsl : slots + 64 ≤ 7293034) (hI : LI g σ) (hP : xP g σ H) (hD : xD g (fun q : Nat => s.heap.size ≤ q) σ) (hS : va_S (fun q : Nat => s.heap.size ≤ q) s.heap H locs) (ls : Array Slot) (hl : lv_has ls 8 [(0, .ref b), (1, .ref (g.2.2 0)), (2, .ref (g.2.2 37)), (3, .ref (g.2.2 50)), (4, .int (iI i))]) (kk : ∀ (σ2 : xS) (H : Heap) (locs : List Loc) (ls : Array Slot), LI g σ2 → xP g σ2 H → xD g (fun q : Nat => s.heap.size ≤ q) σ2 → va_S (fun q : Nat => s.heap.size ≤ q) s.heap H locs → lv_has ls 8 [(0, .ref b), (1, .ref (g.2.2 0)), (2, .ref (g.2.2 37)), (3, .ref (g.2.2 50)), (4, .int (iI i))] → W p l e room_1 s m #[Value.ref b] below meth c H locs (cells + 64) (slots + 64) Q (F0 m 1223 ls [])) : W p l e room_1 s m #[Value.ref b] below meth c H locs cells slots Q (F0 m 984 ls []) := by
  obtain ⟨hx, hb, hml, hown, hts, hXs, hbl, hlocks⟩ := id C0
  have hA : ∀ q : Nat, s.heap.size ≤ q → (fun q : Nat => s.heap.size ≤ q) q := fun _ h => h
  have hbA : ¬ (fun q : Nat => s.heap.size ≤ q) b := Nat.not_le.mpr hbl
  obtain ⟨ph, tk, n, rd, P, G, ni, ri, Pi, Gi, Kf, So, Sz, El, ov, S, Im, Kp, So2, Sz2, El2, KK, KF, hX, hM, hO, hR⟩ := id hI
  obtain ⟨hx0, ⟨ha_ph, hph⟩, htk, hH, ⟨hst, hok, h8⟩, ⟨hsi9, hoi, hi8⟩, ⟨nm, rm, Pm, Gm, hsm9, hom⟩, hpt, ⟨bi0, sz0, dn0, ht0⟩, h25, h26, h27, hxs, h28, hrow, hEl⟩ := id hX
  obtain ⟨v1, hv1, ev1⟩ := iI_of (xs (iI (i + 1)).toNatClampNeg)
  obtain ⟨v2, hv2, ev2⟩ := iI_of (xs (iI (i + 2)).toNatClampNeg)
  obtain ⟨v3, hv3, ev3⟩ := iI_of (xs (iI (i + 3)).toNatClampNeg)
  refine lv_aload_n hx hb dL_law_984 rfl (lv_at hl 1 rfl) ?_
  refine lv_aload_n hx hb dL_law_985 rfl (lv_at hl 0 rfl) ?_
  refine lv_iload hx hb dL_law_986 (lv_at hl 4 rfl) ?_
  refine x_iconst hx hb dL_law_988 ?_
  refine x_iadd hx hb dL_law_989 ?_
  refine va_sld hx hb hXs hbl hbA hS (iI_in (by omega) (by omega) (by omega)) dL_law_990 ?_
  rw [ev1]
  refine lv_aload_n hx hb dL_law_991 rfl (lv_at hl 0 rfl) ?_
  refine lv_iload hx hb dL_law_992 (lv_at hl 4 rfl) ?_
  refine x_iconst hx hb dL_law_994 ?_
  refine x_iadd hx hb dL_law_995 ?_
  refine va_sld hx hb hXs hbl hbA hS (iI_in (by omega) (by omega) (by omega)) dL_law_996 ?_
  rw [ev2]
  refine lv_aload_n hx hb dL_law_997 rfl (lv_at hl 0 rfl) ?_
  refine lv_iload hx hb dL_law_998 (lv_at hl 4 rfl) ?_
  refine x_iconst hx hb dL_law_1000 ?_
  refine x_iadd hx hb dL_law_1001 ?_
  refine va_sld hx hb hXs hbl hbA hS (iI_in (by omega) (by omega) (by omega)) dL_law_1002 ?_
  rw [ev3]
  refine x_cqi (mc := 0) (ms := 0) (va_runV (As := [.int (iI v1), .int (iI v2), .int (iI v3)]) (rest := []) ⟨hx, hb, hml, hown, hts⟩ (c_X11_put l g σ (fun q : Nat => s.heap.size ≤ q) ph tk hx0 Kf So Sz h25 h26 h27 hxs El h28 hrow hEl v1 hv1 v2 hv2 v3 hv3) (cwV 3 hts gL_law_X11_put rfl rfl rfl (by decide +kernel) ⟨Nat.le_of_ble_eq_true rfl, Nat.le_of_ble_eq_true rfl⟩) (x_preVQ hK hP hD hS hA (x_recv hK hP (i := 0) (by decide) hx0 rfl)) rfl rfl hl.1 rfl (lv_room (Nat.le_of_ble_eq_true rfl)) dL_law_1003 ⟨by (show cells + 0 ≤ 601024; omega), by (show slots + 0 ≤ 7293034; omega)⟩) hS (fun r1 σ1 H locs hr1 p1 hP hD hS => ?_)
  have hM1 := hM.fr (M1 := σ1.1) (fun j hj => fr_put p1 j (by omega))
  obtain ⟨hob, ⟨hs0, hokm, hn8⟩, ⟨h39, hIm⟩, ⟨Rd, h40⟩, ⟨Mi, h41⟩, ⟨h42, h43, h44, h45, h46, h47⟩, hsh, ⟨Nm, h48, hNm⟩, Wz, h49⟩ := id hM1
  refine lv_aload_n hx hb dL_law_1006 rfl (lv_at hl 2 rfl) ?_
  refine lv_aload_n hx hb dL_law_1007 rfl (lv_at hl 0 rfl) ?_
  refine lv_iload hx hb dL_law_1008 (lv_at hl 4 rfl) ?_
  refine x_iconst hx hb dL_law_1010 ?_
  refine x_iadd hx hb dL_law_1011 ?_
  refine va_sld hx hb hXs hbl hbA hS (iI_in (by omega) (by omega) (by omega)) dL_law_1012 ?_
  rw [ev1]
  refine lv_aload_n hx hb dL_law_1013 rfl (lv_at hl 0 rfl) ?_
  refine lv_iload hx hb dL_law_1014 (lv_at hl 4 rfl) ?_
  refine x_iconst hx hb dL_law_1016 ?_
  refine x_iadd hx hb dL_law_1017 ?_
  refine va_sld hx hb hXs hbl hbA hS (iI_in (by omega) (by omega) (by omega)) dL_law_1018 ?_
  rw [ev2]
  refine lv_aload_n hx hb dL_law_1019 rfl (lv_at hl 0 rfl) ?_
  refine lv_iload hx hb dL_law_1020 (lv_at hl 4 rfl) ?_
  refine x_iconst hx hb dL_law_1022 ?_
  refine x_iadd hx hb dL_law_1023 ?_
  refine va_sld hx hb hXs hbl hbA hS (iI_in (by omega) (by omega) (by omega)) dL_law_1024 ?_
  rw [ev3]
  refine x_cqi0 (va_runV (As := [.int (iI v1), .int (iI v2), .int (iI v3)]) (rest := [.int (iI r1)]) ⟨hx, hb, hml, hown, hts⟩ (c_X12_put l g σ1 (fun q : Nat => s.heap.size ≤ q) ov S hob hs0 hokm Kp So2 Sz2 El2 KK KF h42 h43 h44 h45 h46 h47 hsh v1 hv1 v2 hv2 v3 hv3) (cwV 3 hts gL_law_X12_put rfl rfl rfl (by decide +kernel) ⟨Nat.le_of_ble_eq_true rfl, Nat.le_of_ble_eq_true rfl⟩) (x_preVQ hK hP hD hS hA (x_recv hK hP (i := 37) (by decide) hob rfl)) rfl rfl hl.1 rfl (lv_room (Nat.le_of_ble_eq_true rfl)) dL_law_1025 ⟨by (show (cells + 0) + 0 ≤ 601024; omega), by (show (slots + 0) + 0 ≤ 7293034; omega)⟩) hS (fun r2 σ2 H locs hr2 p2 hP hD hS => ?_)
  obtain ⟨e9, hI2⟩ := st_put hX hM hO hR p1 p2 hv3
  refine x_icmp_eq (tgt := 1223) hx hb hr1 hr2 dL_law_1028 (by decide) (fun c9 => ?_) (fun c9 => ?_)
  · refine W.widen (k := cells + 64) (n := slots + 64) (by omega) (by omega) ?_
    exact kk σ2 H locs ls hI2 hP hD hS hl
  · exact absurd e9 c9

set_option maxHeartbeats 4000000 in
set_option maxRecDepth 100000 in
theorem lc_element {p : Program} {e : Env} {s : State} {m : MethodId} {below : List Frame} {meth : Method} {c : Code} (l : Launch) (hlst : l.stackTraces = false) {b L : Nat} {xs : Nat → Int32} (hL : L ≤ 3072) (C0 : l_At p s m meth c b L xs) (g : xG) (hK : xK g s) (hN : xNst s) (hT : xcT (fun q : Nat => s.heap.size ≤ q) s s.heap) (Q : State → Prop) (σ : xS) (H : Heap) (locs : List Loc) (cells slots : Nat) (i : Int) (hi0 : 0 ≤ i) (hi : i + 6 ≤ L) (hcl : cells + 64 ≤ 601024) (hsl : slots + 64 ≤ 7293034) (hI : LI g σ) (hP : xP g σ H) (hD : xD g (fun q : Nat => s.heap.size ≤ q) σ) (hS : va_S (fun q : Nat => s.heap.size ≤ q) s.heap H locs) (ls : Array Slot) (hl : lv_has ls 8 [(0, .ref b), (1, .ref (g.2.2 0)), (2, .ref (g.2.2 37)), (3, .ref (g.2.2 50)), (4, .int (iI i))]) (kk : ∀ (σ2 : xS) (H : Heap) (locs : List Loc) (ls : Array Slot), LI g σ2 → xP g σ2 H → xD g (fun q : Nat => s.heap.size ≤ q) σ2 → va_S (fun q : Nat => s.heap.size ≤ q) s.heap H locs → lv_has ls 8 [(0, .ref b), (1, .ref (g.2.2 0)), (2, .ref (g.2.2 37)), (3, .ref (g.2.2 50)), (4, .int (iI i))] → W p l e room_1 s m #[Value.ref b] below meth c H locs (cells + 64) (slots + 64) Q (F0 m 1223 ls [])) : W p l e room_1 s m #[Value.ref b] below meth c H locs cells slots Q (F0 m 1033 ls []) := by
  obtain ⟨hx, hb, hml, hown, hts, hXs, hbl, hlocks⟩ := id C0
  have hA : ∀ q : Nat, s.heap.size ≤ q → (fun q : Nat => s.heap.size ≤ q) q := fun _ h => h
  have hbA : ¬ (fun q : Nat => s.heap.size ≤ q) b := Nat.not_le.mpr hbl
  obtain ⟨ph, tk, n, rd, P, G, ni, ri, Pi, Gi, Kf, So, Sz, El, ov, S, Im, Kp, So2, Sz2, El2, KK, KF, hX, hM, hO, hR⟩ := id hI
  obtain ⟨hx0, ⟨ha_ph, hph⟩, htk, hH, ⟨hst, hok, h8⟩, ⟨hsi9, hoi, hi8⟩, ⟨nm, rm, Pm, Gm, hsm9, hom⟩, hpt, ⟨bi0, sz0, dn0, ht0⟩, h25, h26, h27, hxs, h28, hrow, hEl⟩ := id hX
  obtain ⟨v1, hv1, ev1⟩ := iI_of (xs (iI (i + 1)).toNatClampNeg)
  obtain ⟨v2, hv2, ev2⟩ := iI_of (xs (iI (i + 2)).toNatClampNeg)
  obtain ⟨f0, hf0⟩ := id hO
  refine lv_aload_n hx hb dL_law_1033 rfl (lv_at hl 1 rfl) ?_
  refine lv_aload_n hx hb dL_law_1034 rfl (lv_at hl 0 rfl) ?_
  refine lv_iload hx hb dL_law_1035 (lv_at hl 4 rfl) ?_
  refine x_iconst hx hb dL_law_1037 ?_
  refine x_iadd hx hb dL_law_1038 ?_
  refine va_sld hx hb hXs hbl hbA hS (iI_in (by omega) (by omega) (by omega)) dL_law_1039 ?_
  rw [ev1]
  refine lv_aload_n hx hb dL_law_1040 rfl (lv_at hl 0 rfl) ?_
  refine lv_iload hx hb dL_law_1041 (lv_at hl 4 rfl) ?_
  refine x_iconst hx hb dL_law_1043 ?_
  refine x_iadd hx hb dL_law_1044 ?_
  refine va_sld hx hb hXs hbl hbA hS (iI_in (by omega) (by omega) (by omega)) dL_law_1045 ?_
  rw [ev2]
  refine lv_aload_n hx hb dL_law_1046 rfl (lv_at hl 3 rfl) ?_
  refine xc_cqi (mc := 1) (ms := 6) (vx_runSX (As := [.ref (g.2.2 0), .int (iI v1), .int (iI v2), .ref (g.2.2 50)]) (rest := []) ⟨hx, hb, hml, hown, hts⟩ (c_L_element l g σ (fun q : Nat => s.heap.size ≤ q) hlst ph tk hx0 Kf So Sz h25 h26 h27 hxs El h28 hrow hEl f0 hf0 v1 hv1 v2 hv2) (vx_cwSW 4 hts gL_law_L_element rfl rfl rfl (by decide +kernel) ⟨Nat.le_of_ble_eq_true rfl, Nat.le_of_ble_eq_true rfl⟩) (xc_preS hK hP hD hS hA hT) rfl rfl hl.1 rfl (lv_room (Nat.le_of_ble_eq_true rfl)) dL_law_1047 ⟨by (show cells + 1 ≤ 601024; omega), by (show slots + 6 ≤ 7293034; omega)⟩) hS (fun r1 σ1 H locs hr1 p1 hP hD hS => ?_)
  obtain ⟨a1, a2, a3, f1, a4, a5⟩ := p1
  have hM1 := hM.fr (M1 := σ1.1) (fun j hj => a2 j (by omega))
  obtain ⟨hob, ⟨hs0, hokm, hn8⟩, ⟨h39, hIm⟩, ⟨Rd, h40⟩, ⟨Mi, h41⟩, ⟨h42, h43, h44, h45, h46, h47⟩, hsh, ⟨Nm, h48, hNm⟩, Wz, h49⟩ := id hM1
  refine lv_istore (lv' := [(5, .int (iI r1)), (0, .ref b), (1, .ref (g.2.2 0)), (2, .ref (g.2.2 37)), (3, .ref (g.2.2 50)), (4, .int (iI i))]) hx hb dL_law_1050 hl (by decide) rfl (fun ls hl => ?_)
  have hl0 := lv_sub hl [1, 2, 3, 4, 5] rfl
  refine lv_aload_n hx hb dL_law_1052 rfl (lv_at hl 3 rfl) ?_
  refine lv_aload_n hx hb dL_law_1053 rfl (lv_at hl 1 rfl) ?_
  refine lv_iload hx hb dL_law_1054 (lv_at hl 5 rfl) ?_
  refine x_iconst hx hb dL_law_1056 ?_
  refine x_iadd hx hb dL_law_1057 ?_
  refine va_sld hx hb hXs hbl hbA hS (iI_in (by omega) (by omega) (by omega)) dL_law_1058 ?_
  rw [ev1]
  refine lv_aload_n hx hb dL_law_1059 rfl (lv_at hl 1 rfl) ?_
  refine lv_iload hx hb dL_law_1060 (lv_at hl 5 rfl) ?_
  refine x_iconst hx hb dL_law_1062 ?_
  refine x_iadd hx hb dL_law_1063 ?_
  refine va_sld hx hb hXs hbl hbA hS (iI_in (by omega) (by omega) (by omega)) dL_law_1064 ?_
  rw [ev2]
  refine x_cql0 (va_runV (As := [.int (iI v1), .int (iI v2)]) (rest := []) ⟨hx, hb, hml, hown, hts⟩ (c_X12_element l g σ1 (fun q : Nat => s.heap.size ≤ q) ov S hob hs0 hokm Kp So2 Sz2 El2 KK KF h42 h43 h44 h45 h46 h47 hsh v1 hv1 v2 hv2) (cwV 2 hts gL_law_X12_element rfl rfl rfl (by decide +kernel) ⟨Nat.le_of_ble_eq_true rfl, Nat.le_of_ble_eq_true rfl⟩) (x_preVQ hK hP hD hS hA (x_recv hK hP (i := 37) (by decide) hob rfl)) rfl rfl hl.1 rfl (lv_room (Nat.le_of_ble_eq_true rfl)) dL_law_1065 ⟨by (show (cells + 1) + 0 ≤ 601024; omega), by (show (slots + 6) + 0 ≤ 7293034; omega)⟩) hS (fun r2 σ2 H locs hr2 p2 hP hD hS => ?_)
  obtain ⟨b1, b2, ov2, b3, b4, b5, b6⟩ := p2
  obtain ⟨e1, e2, hI2⟩ := st_element hX hM hR a1 a2 a3 a4 a5 b1 b2 b3 b4 b5 b6
  refine lv_lstore (lv' := [(6, .long (jL r2)), (5, .int (iI r1)), (0, .ref b), (1, .ref (g.2.2 0)), (2, .ref (g.2.2 37)), (3, .ref (g.2.2 50)), (4, .int (iI i))]) hx hb dL_law_1068 hl (by decide) rfl (fun ls hl => ?_)
  refine lv_aload_n hx hb dL_law_1070 rfl (lv_at hl 4 rfl) ?_
  refine x_ci (va_runV (As := []) (rest := []) ⟨hx, hb, hml, hown, hts⟩ (c_X12_thrown l g σ2 ov2 b3 (by (rw [← e1]; exact hr1))) (cwV 0 hts gL_law_X12_thrown rfl rfl rfl (by decide +kernel) ⟨Nat.le_of_ble_eq_true rfl, Nat.le_of_ble_eq_true rfl⟩) (x_preV hK hP (x_recv hK hP (i := 37) (by decide) b3 rfl)) rfl rfl hl.1 rfl (lv_room (Nat.le_of_ble_eq_true rfl)) dL_law_1071 ⟨by (show (cells + 1) + 0 ≤ 601024; omega), by (show (slots + 6) + 0 ≤ 7293034; omega)⟩) (fun r3 hr3 p3 => ?_)
  have p3 : r3 = ov2 11 := p3
  refine lv_iload hx hb dL_law_1074 (lv_at hl 1 rfl) ?_
  refine x_icmp_eq (tgt := 1081) hx hb hr3 hr1 dL_law_1076 (by decide) (fun c9 => ?_) (fun c9 => absurd (p3.trans e1.symm) c9)
  have fin : ∀ (ls : Array Slot), lv_has ls 8 [(0, .ref b), (1, .ref (g.2.2 0)), (2, .ref (g.2.2 37)), (3, .ref (g.2.2 50)), (4, .int (iI i))] → W p l e room_1 s m #[Value.ref b] below meth c H locs (cells + 1) (slots + 6) Q (F0 m 1097 ls []) := fun ls hl => by
    refine lv_goto (tgt := 1223) hx hb dL_law_1097 (by decide) ?_
    refine W.widen (k := cells + 64) (n := slots + 64) (by omega) (by omega) ?_
    exact kk σ2 H locs ls hI2 hP hD hS hl
  have hlf := lv_sub hl [2, 3, 4, 5, 6] rfl
  refine lv_iload hx hb dL_law_1081 (lv_at hl 1 rfl) ?_
  refine x_if_ne (tgt := 1097) hx hb hr1 dL_law_1083 (by decide) (fun c8 => ?_) (fun c8 => ?_)
  · exact fin ls hlf
  · have z0 : r1 = 0 := by omega
    have hf2 : σ2.1 50 = .inl (g.2.1 3, 1, .inr (.inl f1)) := (b2 50 (by omega)).trans a4
    refine lv_aload_n hx hb dL_law_1086 rfl (lv_at hl 5 rfl) ?_
    refine x_iconst hx hb dL_law_1087 ?_
    refine va_lald (D := g.1) hx hb hK.1 hP 50 3 (by rw [xW_get (by decide), hf2]) rfl (iI_in (by omega) (by omega) (by omega)) dL_law_1088 ?_
    rw [show (iI 0).toNatClampNeg = 0 from rfl, e2 z0]
    refine lv_lload hx hb dL_law_1089 (lv_at hl 0 rfl) ?_
    refine x_lcmp hx hb ⟨by omega, by omega⟩ ⟨by omega, by omega⟩ dL_law_1091 (fun q9 hq9 => ?_)
    refine x_if_eq (tgt := 1097) hx hb (by omega) dL_law_1092 (by decide) (fun c7 => ?_) (fun c7 => by (exfalso; omega))
    exact fin ls hlf

set_option maxHeartbeats 4000000 in
set_option maxRecDepth 100000 in
theorem lc_copy {p : Program} {e : Env} {s : State} {m : MethodId} {below : List Frame} {meth : Method} {c : Code} (l : Launch) (hlst : l.stackTraces = false) {b L : Nat} {xs : Nat → Int32} (hL : L ≤ 3072) (C0 : l_At p s m meth c b L xs) (g : xG) (hK : xK g s) (hN : xNst s) (hT : xcT (fun q : Nat => s.heap.size ≤ q) s s.heap) (Q : State → Prop) (σ : xS) (H : Heap) (locs : List Loc) (cells slots : Nat) (i : Int) (hi0 : 0 ≤ i) (hi : i + 6 ≤ L) (hcl : cells + 64 ≤ 601024) (hsl : slots + 64 ≤ 7293034) (hI : LI g σ) (hP : xP g σ H) (hD : xD g (fun q : Nat => s.heap.size ≤ q) σ) (hS : va_S (fun q : Nat => s.heap.size ≤ q) s.heap H locs) (ls : Array Slot) (hl : lv_has ls 8 [(0, .ref b), (1, .ref (g.2.2 0)), (2, .ref (g.2.2 37)), (3, .ref (g.2.2 50)), (4, .int (iI i))]) (kk : ∀ (σ2 : xS) (H : Heap) (locs : List Loc) (ls : Array Slot), LI g σ2 → xP g σ2 H → xD g (fun q : Nat => s.heap.size ≤ q) σ2 → va_S (fun q : Nat => s.heap.size ≤ q) s.heap H locs → lv_has ls 8 [(0, .ref b), (1, .ref (g.2.2 0)), (2, .ref (g.2.2 37)), (3, .ref (g.2.2 50)), (4, .int (iI i))] → W p l e room_1 s m #[Value.ref b] below meth c H locs (cells + 64) (slots + 64) Q (F0 m 1223 ls [])) : W p l e room_1 s m #[Value.ref b] below meth c H locs cells slots Q (F0 m 1100 ls []) := by
  obtain ⟨hx, hb, hml, hown, hts, hXs, hbl, hlocks⟩ := id C0
  have hA : ∀ q : Nat, s.heap.size ≤ q → (fun q : Nat => s.heap.size ≤ q) q := fun _ h => h
  have hbA : ¬ (fun q : Nat => s.heap.size ≤ q) b := Nat.not_le.mpr hbl
  obtain ⟨ph, tk, n, rd, P, G, ni, ri, Pi, Gi, Kf, So, Sz, El, ov, S, Im, Kp, So2, Sz2, El2, KK, KF, hX, hM, hO, hR⟩ := id hI
  obtain ⟨hx0, ⟨ha_ph, hph⟩, htk, hH, ⟨hst, hok, h8⟩, ⟨hsi9, hoi, hi8⟩, ⟨nm, rm, Pm, Gm, hsm9, hom⟩, hpt, ⟨bi0, sz0, dn0, ht0⟩, h25, h26, h27, hxs, h28, hrow, hEl⟩ := id hX
  obtain ⟨v1, hv1, ev1⟩ := iI_of (xs (iI (i + 1)).toNatClampNeg)
  obtain ⟨v2, hv2, ev2⟩ := iI_of (xs (iI (i + 2)).toNatClampNeg)
  obtain ⟨v3, hv3, ev3⟩ := iI_of (xs (iI (i + 3)).toNatClampNeg)
  obtain ⟨v4, hv4, ev4⟩ := iI_of (xs (iI (i + 4)).toNatClampNeg)
  obtain ⟨v5, hv5, ev5⟩ := iI_of (xs (iI (i + 5)).toNatClampNeg)
  refine lv_aload_n hx hb dL_law_1100 rfl (lv_at hl 1 rfl) ?_
  refine lv_aload_n hx hb dL_law_1101 rfl (lv_at hl 0 rfl) ?_
  refine lv_iload hx hb dL_law_1102 (lv_at hl 4 rfl) ?_
  refine x_iconst hx hb dL_law_1104 ?_
  refine x_iadd hx hb dL_law_1105 ?_
  refine va_sld hx hb hXs hbl hbA hS (iI_in (by omega) (by omega) (by omega)) dL_law_1106 ?_
  rw [ev1]
  refine lv_aload_n hx hb dL_law_1107 rfl (lv_at hl 0 rfl) ?_
  refine lv_iload hx hb dL_law_1108 (lv_at hl 4 rfl) ?_
  refine x_iconst hx hb dL_law_1110 ?_
  refine x_iadd hx hb dL_law_1111 ?_
  refine va_sld hx hb hXs hbl hbA hS (iI_in (by omega) (by omega) (by omega)) dL_law_1112 ?_
  rw [ev2]
  refine lv_aload_n hx hb dL_law_1113 rfl (lv_at hl 0 rfl) ?_
  refine lv_iload hx hb dL_law_1114 (lv_at hl 4 rfl) ?_
  refine x_iconst hx hb dL_law_1116 ?_
  refine x_iadd hx hb dL_law_1117 ?_
  refine va_sld hx hb hXs hbl hbA hS (iI_in (by omega) (by omega) (by omega)) dL_law_1118 ?_
  rw [ev3]
  refine lv_aload_n hx hb dL_law_1119 rfl (lv_at hl 0 rfl) ?_
  refine lv_iload hx hb dL_law_1120 (lv_at hl 4 rfl) ?_
  refine x_iconst hx hb dL_law_1122 ?_
  refine x_iadd hx hb dL_law_1123 ?_
  refine va_sld hx hb hXs hbl hbA hS (iI_in (by omega) (by omega) (by omega)) dL_law_1124 ?_
  rw [ev4]
  refine lv_aload_n hx hb dL_law_1125 rfl (lv_at hl 0 rfl) ?_
  refine lv_iload hx hb dL_law_1126 (lv_at hl 4 rfl) ?_
  refine x_iconst hx hb dL_law_1128 ?_
  refine x_iadd hx hb dL_law_1129 ?_
  refine va_sld hx hb hXs hbl hbA hS (iI_in (by omega) (by omega) (by omega)) dL_law_1130 ?_
  rw [ev5]
  refine x_cqi (mc := 0) (ms := 0) (va_runV (As := [.int (iI v1), .int (iI v2), .int (iI v3), .int (iI v4), .int (iI v5)]) (rest := []) ⟨hx, hb, hml, hown, hts⟩ (c_X11_copy l g σ (fun q : Nat => s.heap.size ≤ q) ph tk hx0 Kf So Sz h25 h26 h27 hxs El h28 hrow hEl v1 hv1 v2 hv2 v3 hv3 v4 hv4 v5 hv5) (cwV 5 hts gL_law_X11_copy rfl rfl rfl (by decide +kernel) ⟨Nat.le_of_ble_eq_true rfl, Nat.le_of_ble_eq_true rfl⟩) (x_preVQ hK hP hD hS hA (x_recv hK hP (i := 0) (by decide) hx0 rfl)) rfl rfl hl.1 rfl (lv_room (Nat.le_of_ble_eq_true rfl)) dL_law_1131 ⟨by (show cells + 0 ≤ 601024; omega), by (show slots + 0 ≤ 7293034; omega)⟩) hS (fun r1 σ1 H locs hr1 p1 hP hD hS => ?_)
  have hM1 := hM.fr (M1 := σ1.1) (fun j hj => fr_copy p1 j (by omega))
  obtain ⟨hob, ⟨hs0, hokm, hn8⟩, ⟨h39, hIm⟩, ⟨Rd, h40⟩, ⟨Mi, h41⟩, ⟨h42, h43, h44, h45, h46, h47⟩, hsh, ⟨Nm, h48, hNm⟩, Wz, h49⟩ := id hM1
  refine lv_aload_n hx hb dL_law_1134 rfl (lv_at hl 2 rfl) ?_
  refine lv_aload_n hx hb dL_law_1135 rfl (lv_at hl 0 rfl) ?_
  refine lv_iload hx hb dL_law_1136 (lv_at hl 4 rfl) ?_
  refine x_iconst hx hb dL_law_1138 ?_
  refine x_iadd hx hb dL_law_1139 ?_
  refine va_sld hx hb hXs hbl hbA hS (iI_in (by omega) (by omega) (by omega)) dL_law_1140 ?_
  rw [ev1]
  refine lv_aload_n hx hb dL_law_1141 rfl (lv_at hl 0 rfl) ?_
  refine lv_iload hx hb dL_law_1142 (lv_at hl 4 rfl) ?_
  refine x_iconst hx hb dL_law_1144 ?_
  refine x_iadd hx hb dL_law_1145 ?_
  refine va_sld hx hb hXs hbl hbA hS (iI_in (by omega) (by omega) (by omega)) dL_law_1146 ?_
  rw [ev2]
  refine lv_aload_n hx hb dL_law_1147 rfl (lv_at hl 0 rfl) ?_
  refine lv_iload hx hb dL_law_1148 (lv_at hl 4 rfl) ?_
  refine x_iconst hx hb dL_law_1150 ?_
  refine x_iadd hx hb dL_law_1151 ?_
  refine va_sld hx hb hXs hbl hbA hS (iI_in (by omega) (by omega) (by omega)) dL_law_1152 ?_
  rw [ev3]
  refine lv_aload_n hx hb dL_law_1153 rfl (lv_at hl 0 rfl) ?_
  refine lv_iload hx hb dL_law_1154 (lv_at hl 4 rfl) ?_
  refine x_iconst hx hb dL_law_1156 ?_
  refine x_iadd hx hb dL_law_1157 ?_
  refine va_sld hx hb hXs hbl hbA hS (iI_in (by omega) (by omega) (by omega)) dL_law_1158 ?_
  rw [ev4]
  refine lv_aload_n hx hb dL_law_1159 rfl (lv_at hl 0 rfl) ?_
  refine lv_iload hx hb dL_law_1160 (lv_at hl 4 rfl) ?_
  refine x_iconst hx hb dL_law_1162 ?_
  refine x_iadd hx hb dL_law_1163 ?_
  refine va_sld hx hb hXs hbl hbA hS (iI_in (by omega) (by omega) (by omega)) dL_law_1164 ?_
  rw [ev5]
  refine x_cqi0 (va_runV (As := [.int (iI v1), .int (iI v2), .int (iI v3), .int (iI v4), .int (iI v5)]) (rest := [.int (iI r1)]) ⟨hx, hb, hml, hown, hts⟩ (c_X12_copy l g σ1 (fun q : Nat => s.heap.size ≤ q) ov S hob hs0 hokm Kp So2 Sz2 El2 KK KF h42 h43 h44 h45 h46 h47 hsh v1 hv1 v2 hv2 v3 hv3 v4 hv4 v5 hv5) (cwV 5 hts gL_law_X12_copy rfl rfl rfl (by decide +kernel) ⟨Nat.le_of_ble_eq_true rfl, Nat.le_of_ble_eq_true rfl⟩) (x_preVQ hK hP hD hS hA (x_recv hK hP (i := 37) (by decide) hob rfl)) rfl rfl hl.1 rfl (lv_room (Nat.le_of_ble_eq_true rfl)) dL_law_1165 ⟨by (show (cells + 0) + 0 ≤ 601024; omega), by (show (slots + 0) + 0 ≤ 7293034; omega)⟩) hS (fun r2 σ2 H locs hr2 p2 hP hD hS => ?_)
  obtain ⟨e9, hI2⟩ := st_copy hX hM hO hR p1 p2
  refine x_icmp_eq (tgt := 1223) hx hb hr1 hr2 dL_law_1168 (by decide) (fun c9 => ?_) (fun c9 => ?_)
  · refine W.widen (k := cells + 64) (n := slots + 64) (by omega) (by omega) ?_
    exact kk σ2 H locs ls hI2 hP hD hS hl
  · exact absurd e9 c9

set_option maxHeartbeats 4000000 in
set_option maxRecDepth 100000 in
theorem lc_fee {p : Program} {e : Env} {s : State} {m : MethodId} {below : List Frame} {meth : Method} {c : Code} (l : Launch) (hlst : l.stackTraces = false) {b L : Nat} {xs : Nat → Int32} (hL : L ≤ 3072) (C0 : l_At p s m meth c b L xs) (g : xG) (hK : xK g s) (hN : xNst s) (hT : xcT (fun q : Nat => s.heap.size ≤ q) s s.heap) (Q : State → Prop) (σ : xS) (H : Heap) (locs : List Loc) (cells slots : Nat) (i : Int) (hi0 : 0 ≤ i) (hi : i + 6 ≤ L) (hcl : cells + 64 ≤ 601024) (hsl : slots + 64 ≤ 7293034) (hI : LI g σ) (hP : xP g σ H) (hD : xD g (fun q : Nat => s.heap.size ≤ q) σ) (hS : va_S (fun q : Nat => s.heap.size ≤ q) s.heap H locs) (ls : Array Slot) (hl : lv_has ls 8 [(0, .ref b), (1, .ref (g.2.2 0)), (2, .ref (g.2.2 37)), (3, .ref (g.2.2 50)), (4, .int (iI i))]) (kk : ∀ (σ2 : xS) (H : Heap) (locs : List Loc) (ls : Array Slot), LI g σ2 → xP g σ2 H → xD g (fun q : Nat => s.heap.size ≤ q) σ2 → va_S (fun q : Nat => s.heap.size ≤ q) s.heap H locs → lv_has ls 8 [(0, .ref b), (1, .ref (g.2.2 0)), (2, .ref (g.2.2 37)), (3, .ref (g.2.2 50)), (4, .int (iI i))] → W p l e room_1 s m #[Value.ref b] below meth c H locs (cells + 64) (slots + 64) Q (F0 m 1223 ls [])) : W p l e room_1 s m #[Value.ref b] below meth c H locs cells slots Q (F0 m 1173 ls []) := by
  obtain ⟨hx, hb, hml, hown, hts, hXs, hbl, hlocks⟩ := id C0
  have hA : ∀ q : Nat, s.heap.size ≤ q → (fun q : Nat => s.heap.size ≤ q) q := fun _ h => h
  have hbA : ¬ (fun q : Nat => s.heap.size ≤ q) b := Nat.not_le.mpr hbl
  obtain ⟨ph, tk, n, rd, P, G, ni, ri, Pi, Gi, Kf, So, Sz, El, ov, S, Im, Kp, So2, Sz2, El2, KK, KF, hX, hM, hO, hR⟩ := id hI
  obtain ⟨hx0, ⟨ha_ph, hph⟩, htk, hH, ⟨hst, hok, h8⟩, ⟨hsi9, hoi, hi8⟩, ⟨nm, rm, Pm, Gm, hsm9, hom⟩, hpt, ⟨bi0, sz0, dn0, ht0⟩, h25, h26, h27, hxs, h28, hrow, hEl⟩ := id hX
  obtain ⟨v1, hv1, ev1⟩ := iI_of (xs (iI (i + 1)).toNatClampNeg)
  refine lv_aload_n hx hb dL_law_1173 rfl (lv_at hl 1 rfl) ?_
  refine lv_aload_n hx hb dL_law_1174 rfl (lv_at hl 0 rfl) ?_
  refine lv_iload hx hb dL_law_1175 (lv_at hl 4 rfl) ?_
  refine x_iconst hx hb dL_law_1177 ?_
  refine x_iadd hx hb dL_law_1178 ?_
  refine va_sld hx hb hXs hbl hbA hS (iI_in (by omega) (by omega) (by omega)) dL_law_1179 ?_
  rw [ev1]
  refine x_ci (va_runV (As := [.int (iI v1)]) (rest := []) ⟨hx, hb, hml, hown, hts⟩ (c_X11_fee l g σ ph tk hx0 hH Kf So Sz h25 h26 h27 hxs v1 hv1) (cwV 1 hts gL_law_X11_fee rfl rfl rfl (by decide +kernel) ⟨Nat.le_of_ble_eq_true rfl, Nat.le_of_ble_eq_true rfl⟩) (x_preV hK hP (x_recv hK hP (i := 0) (by decide) hx0 rfl)) rfl rfl hl.1 rfl (lv_room (Nat.le_of_ble_eq_true rfl)) dL_law_1180 ⟨by (show cells + 0 ≤ 601024; omega), by (show slots + 0 ≤ 7293034; omega)⟩) (fun r1 hr1 p1 => ?_)
  have hM1 := hM
  obtain ⟨hob, ⟨hs0, hokm, hn8⟩, ⟨h39, hIm⟩, ⟨Rd, h40⟩, ⟨Mi, h41⟩, ⟨h42, h43, h44, h45, h46, h47⟩, hsh, ⟨Nm, h48, hNm⟩, Wz, h49⟩ := id hM1
  refine lv_aload_n hx hb dL_law_1183 rfl (lv_at hl 2 rfl) ?_
  refine lv_aload_n hx hb dL_law_1184 rfl (lv_at hl 0 rfl) ?_
  refine lv_iload hx hb dL_law_1185 (lv_at hl 4 rfl) ?_
  refine x_iconst hx hb dL_law_1187 ?_
  refine x_iadd hx hb dL_law_1188 ?_
  refine va_sld hx hb hXs hbl hbA hS (iI_in (by omega) (by omega) (by omega)) dL_law_1189 ?_
  rw [ev1]
  refine x_ci (va_runV (As := [.int (iI v1)]) (rest := [.int (iI r1)]) ⟨hx, hb, hml, hown, hts⟩ (c_X12_fee l g σ ov S hob hs0 hokm Kp So2 Sz2 El2 KK KF h42 h43 h44 h45 h46 h47 hsh v1 hv1) (cwV 1 hts gL_law_X12_fee rfl rfl rfl (by decide +kernel) ⟨Nat.le_of_ble_eq_true rfl, Nat.le_of_ble_eq_true rfl⟩) (x_preV hK hP (x_recv hK hP (i := 37) (by decide) hob rfl)) rfl rfl hl.1 rfl (lv_room (Nat.le_of_ble_eq_true rfl)) dL_law_1190 ⟨by (show cells + 0 ≤ 601024; omega), by (show slots + 0 ≤ 7293034; omega)⟩) (fun r2 hr2 p2 => ?_)
  have e9 := st_fee hX hM hO hR p1 p2
  refine x_icmp_eq (tgt := 1223) hx hb hr1 hr2 dL_law_1193 (by decide) (fun c9 => ?_) (fun c9 => ?_)
  · refine W.widen (k := cells + 64) (n := slots + 64) (by omega) (by omega) ?_
    exact kk σ H locs ls hI hP hD hS hl
  · exact absurd e9 c9

set_option maxHeartbeats 4000000 in
set_option maxRecDepth 100000 in
theorem lc_toss {p : Program} {e : Env} {s : State} {m : MethodId} {below : List Frame} {meth : Method} {c : Code} (l : Launch) (hlst : l.stackTraces = false) {b L : Nat} {xs : Nat → Int32} (hL : L ≤ 3072) (C0 : l_At p s m meth c b L xs) (g : xG) (hK : xK g s) (hN : xNst s) (hT : xcT (fun q : Nat => s.heap.size ≤ q) s s.heap) (Q : State → Prop) (σ : xS) (H : Heap) (locs : List Loc) (cells slots : Nat) (i : Int) (hi0 : 0 ≤ i) (hi : i + 6 ≤ L) (hcl : cells + 64 ≤ 601024) (hsl : slots + 64 ≤ 7293034) (hI : LI g σ) (hP : xP g σ H) (hD : xD g (fun q : Nat => s.heap.size ≤ q) σ) (hS : va_S (fun q : Nat => s.heap.size ≤ q) s.heap H locs) (ls : Array Slot) (hl : lv_has ls 8 [(0, .ref b), (1, .ref (g.2.2 0)), (2, .ref (g.2.2 37)), (3, .ref (g.2.2 50)), (4, .int (iI i))]) (kk : ∀ (σ2 : xS) (H : Heap) (locs : List Loc) (ls : Array Slot), LI g σ2 → xP g σ2 H → xD g (fun q : Nat => s.heap.size ≤ q) σ2 → va_S (fun q : Nat => s.heap.size ≤ q) s.heap H locs → lv_has ls 8 [(0, .ref b), (1, .ref (g.2.2 0)), (2, .ref (g.2.2 37)), (3, .ref (g.2.2 50)), (4, .int (iI i))] → W p l e room_1 s m #[Value.ref b] below meth c H locs (cells + 64) (slots + 64) Q (F0 m 1223 ls [])) : W p l e room_1 s m #[Value.ref b] below meth c H locs cells slots Q (F0 m 1198 ls []) := by
  obtain ⟨hx, hb, hml, hown, hts, hXs, hbl, hlocks⟩ := id C0
  have hA : ∀ q : Nat, s.heap.size ≤ q → (fun q : Nat => s.heap.size ≤ q) q := fun _ h => h
  have hbA : ¬ (fun q : Nat => s.heap.size ≤ q) b := Nat.not_le.mpr hbl
  obtain ⟨ph, tk, n, rd, P, G, ni, ri, Pi, Gi, Kf, So, Sz, El, ov, S, Im, Kp, So2, Sz2, El2, KK, KF, hX, hM, hO, hR⟩ := id hI
  obtain ⟨hx0, ⟨ha_ph, hph⟩, htk, hH, ⟨hst, hok, h8⟩, ⟨hsi9, hoi, hi8⟩, ⟨nm, rm, Pm, Gm, hsm9, hom⟩, hpt, ⟨bi0, sz0, dn0, ht0⟩, h25, h26, h27, hxs, h28, hrow, hEl⟩ := id hX
  obtain ⟨v1, hv1, ev1⟩ := iI_of (xs (iI (i + 1)).toNatClampNeg)
  refine lv_aload_n hx hb dL_law_1198 rfl (lv_at hl 1 rfl) ?_
  refine lv_aload_n hx hb dL_law_1199 rfl (lv_at hl 0 rfl) ?_
  refine lv_iload hx hb dL_law_1200 (lv_at hl 4 rfl) ?_
  refine x_iconst hx hb dL_law_1202 ?_
  refine x_iadd hx hb dL_law_1203 ?_
  refine va_sld hx hb hXs hbl hbA hS (iI_in (by omega) (by omega) (by omega)) dL_law_1204 ?_
  rw [ev1]
  refine xc_cqi (mc := 1) (ms := 6) (vx_runVX (As := [.int (iI v1)]) (rest := []) ⟨hx, hb, hml, hown, hts⟩ (c_X11_toss l g σ (fun q : Nat => s.heap.size ≤ q) hlst ph tk hx0 hH Kf So Sz h25 h26 h27 hxs v1 hv1) (vx_cwVW 1 hts gL_law_X11_toss rfl rfl rfl (by decide +kernel) ⟨Nat.le_of_ble_eq_true rfl, Nat.le_of_ble_eq_true rfl⟩) (xc_preV hK hP hD hS hA hT (x_recv hK hP (i := 0) (by decide) hx0 rfl)) rfl rfl hl.1 rfl (lv_room (Nat.le_of_ble_eq_true rfl)) dL_law_1205 ⟨by (show cells + 1 ≤ 601024; omega), by (show slots + 6 ≤ 7293034; omega)⟩) hS (fun r1 σ1 H locs hr1 p1 hP hD hS => ?_)
  have hM1 := hM.fr (M1 := σ1.1) (fun j hj => congrFun p1.2.1 j)
  obtain ⟨hob, ⟨hs0, hokm, hn8⟩, ⟨h39, hIm⟩, ⟨Rd, h40⟩, ⟨Mi, h41⟩, ⟨h42, h43, h44, h45, h46, h47⟩, hsh, ⟨Nm, h48, hNm⟩, Wz, h49⟩ := id hM1
  refine lv_aload_n hx hb dL_law_1208 rfl (lv_at hl 2 rfl) ?_
  refine lv_aload_n hx hb dL_law_1209 rfl (lv_at hl 0 rfl) ?_
  refine lv_iload hx hb dL_law_1210 (lv_at hl 4 rfl) ?_
  refine x_iconst hx hb dL_law_1212 ?_
  refine x_iadd hx hb dL_law_1213 ?_
  refine va_sld hx hb hXs hbl hbA hS (iI_in (by omega) (by omega) (by omega)) dL_law_1214 ?_
  rw [ev1]
  refine x_ci (va_runV (As := [.int (iI v1)]) (rest := [.int (iI r1)]) ⟨hx, hb, hml, hown, hts⟩ (c_X12_toss l g σ1 ov S hob hs0 hokm Kp So2 Sz2 El2 KK KF h42 h43 h44 h45 h46 h47 hsh v1 hv1) (cwV 1 hts gL_law_X12_toss rfl rfl rfl (by decide +kernel) ⟨Nat.le_of_ble_eq_true rfl, Nat.le_of_ble_eq_true rfl⟩) (x_preV hK hP (x_recv hK hP (i := 37) (by decide) hob rfl)) rfl rfl hl.1 rfl (lv_room (Nat.le_of_ble_eq_true rfl)) dL_law_1215 ⟨by (show (cells + 1) + 0 ≤ 601024; omega), by (show (slots + 6) + 0 ≤ 7293034; omega)⟩) (fun r2 hr2 p2 => ?_)
  obtain ⟨e9, hI2⟩ := st_toss hX hM hO hR p1 p2
  refine x_icmp_eq (tgt := 1223) hx hb hr1 hr2 dL_law_1218 (by decide) (fun c9 => ?_) (fun c9 => ?_)
  · refine W.widen (k := cells + 64) (n := slots + 64) (by omega) (by omega) ?_
    exact kk σ1 H locs ls hI2 hP hD hS hl
  · exact absurd e9 c9
