/-- what holds at the law's entry, in the law's own words -/
def l_At (p : Program) (s : State) (m : MethodId) (meth : Method) (c : Code) (b L : Nat) (xs : Nat → Int32) : Prop :=
  p.tables.exec = Jvm.exec ∧ c.code = cL_law ∧ c.maxLocals = 8 ∧ s.vm.findClass RL = some m.cls ∧ (∀ w ∈ wsL_law, w.before #[Value.ref b] s = true) ∧ va_X b L xs s s.heap ∧ b < s.heap.size ∧ meth.locks = false
set_option maxHeartbeats 4000000 in
set_option maxRecDepth 100000 in
theorem lc_street {p : Program} {e : Env} {s : State} {m : MethodId} {below : List Frame} {meth : Method} {c : Code} (l : Launch) (hlst : l.stackTraces = false) {b L : Nat} {xs : Nat → Int32} (hL : L ≤ 3072) (C0 : l_At p s m meth c b L xs) (g : xG) (hK : xK g s) (hN : xNst s) (hT : xcT (fun q : Nat => s.heap.size ≤ q) s s.heap) (Q : State → Prop) (σ : xS) (H : Heap) (locs : List Loc) (cells slots : Nat) (i : Int) (hi0 : 0 ≤ i) (hi : i + 6 ≤ L) (hcl : cells + 64 ≤ 601024) (hsl : slots + 64 ≤ 7293034) (hI : LI g σ) (hP : xP g σ H) (hD : xD g (fun q : Nat => s.heap.size ≤ q) σ) (hS : va_S (fun q : Nat => s.heap.size ≤ q) s.heap H locs) (ls : Array Slot) (hl : lv_has ls 8 [(0, .ref b), (1, .ref (g.2.2 0)), (2, .ref (g.2.2 37)), (3, .ref (g.2.2 50)), (4, .int (iI i))]) (kk : ∀ (σ2 : xS) (H : Heap) (locs : List Loc) (ls : Array Slot), LI g σ2 → xP g σ2 H → xD g (fun q : Nat => s.heap.size ≤ q) σ2 → va_S (fun q : Nat => s.heap.size ≤ q) s.heap H locs → lv_has ls 8 [(0, .ref b), (1, .ref (g.2.2 0)), (2, .ref (g.2.2 37)), (3, .ref (g.2.2 50)), (4, .int (iI i))] → W p l e room_1 s m #[Value.ref b] below meth c H locs (cells + 64) (slots + 64) Q (F0 m 1223 ls [])) : W p l e room_1 s m #[Value.ref b] below meth c H locs cells slots Q (F0 m 188 ls []) := by
  obtain ⟨hx, hb, hml, hown, hts, hXs, hbl, hlocks⟩ := id C0
  have hA : ∀ q : Nat, s.heap.size ≤ q → (fun q : Nat => s.heap.size ≤ q) q := fun _ h => h
  have hbA : ¬ (fun q : Nat => s.heap.size ≤ q) b := Nat.not_le.mpr hbl
  obtain ⟨ph, tk, n, rd, P, G, ni, ri, Pi, Gi, Kf, So, Sz, El, ov, S, Im, Kp, So2, Sz2, El2, KK, KF, hX, hM, hO, hR⟩ := id hI
  obtain ⟨hx0, ⟨ha_ph, hph⟩, htk, hH, ⟨hst, hok, h8⟩, ⟨hsi9, hoi, hi8⟩, ⟨nm, rm, Pm, Gm, hsm9, hom⟩, hpt, ⟨bi0, sz0, dn0, ht0⟩, h25, h26, h27, hxs, h28, hrow, hEl⟩ := id hX
  obtain ⟨v1, hv1, ev1⟩ := iI_of (xs (iI (i + 1)).toNatClampNeg)
  refine lv_aload_n hx hb dL_law_188 rfl (lv_at hl 1 rfl) ?_
  refine lv_aload_n hx hb dL_law_189 rfl (lv_at hl 0 rfl) ?_
  refine lv_iload hx hb dL_law_190 (lv_at hl 4 rfl) ?_
  refine x_iconst hx hb dL_law_192 ?_
  refine x_iadd hx hb dL_law_193 ?_
  refine va_sld hx hb hXs hbl hbA hS (iI_in (by omega) (by omega) (by omega)) dL_law_194 ?_
  rw [ev1]
  refine x_cqi (mc := 60) (ms := 60) (va_runV (As := [.int (iI v1)]) (rest := []) ⟨hx, hb, hml, hown, hts⟩ (c_X11_street l g σ (fun q : Nat => s.heap.size ≤ q) ph tk hx0 n rd P G hst hok hH nm rm Pm Gm hsm9 hom Kf So Sz h25 h26 h27 hxs El h28 hrow hEl bi0 sz0 dn0 ht0 h8 S hR.1 v1 hv1) (cwV 1 hts gL_law_X11_street rfl rfl rfl (by decide +kernel) ⟨Nat.le_of_ble_eq_true rfl, Nat.le_of_ble_eq_true rfl⟩) (xn_preV hK hP hD hS hA hN (x_recv hK hP (i := 0) (by decide) hx0 rfl)) rfl rfl hl.1 rfl (lv_room (Nat.le_of_ble_eq_true rfl)) dL_law_195 ⟨by (show cells + 60 ≤ 601024; omega), by (show slots + 60 ≤ 7293034; omega)⟩) hS (fun r1 σ1 H locs hr1 p1 hP hD hS => ?_)
  have hM1 := hM.fr (M1 := σ1.1) (fun j hj => p1.1 j (by omega))
  obtain ⟨hob, ⟨hs0, hokm, hn8⟩, ⟨h39, hIm⟩, ⟨Rd, h40⟩, ⟨Mi, h41⟩, ⟨h42, h43, h44, h45, h46, h47⟩, hsh, ⟨Nm, h48, hNm⟩, Wz, h49⟩ := id hM1
  refine lv_aload_n hx hb dL_law_198 rfl (lv_at hl 2 rfl) ?_
  refine lv_aload_n hx hb dL_law_199 rfl (lv_at hl 0 rfl) ?_
  refine lv_iload hx hb dL_law_200 (lv_at hl 4 rfl) ?_
  refine x_iconst hx hb dL_law_202 ?_
  refine x_iadd hx hb dL_law_203 ?_
  refine va_sld hx hb hXs hbl hbA hS (iI_in (by omega) (by omega) (by omega)) dL_law_204 ?_
  rw [ev1]
  refine x_cqi0 (va_runV (As := [.int (iI v1)]) (rest := [.int (iI r1)]) ⟨hx, hb, hml, hown, hts⟩ (c_X12_street l g σ1 (fun q : Nat => s.heap.size ≤ q) ov S hob hs0 hokm Kp So2 Sz2 El2 KK KF h42 h43 h44 h45 h46 h47 hsh Nm h48 hNm Rd h40 hn8 v1 hv1) (cwV 1 hts gL_law_X12_street rfl rfl rfl (by decide +kernel) ⟨Nat.le_of_ble_eq_true rfl, Nat.le_of_ble_eq_true rfl⟩) (x_preVQ hK hP hD hS hA (x_recv hK hP (i := 37) (by decide) hob rfl)) rfl rfl hl.1 rfl (lv_room (Nat.le_of_ble_eq_true rfl)) dL_law_205 ⟨by (show (cells + 60) + 0 ≤ 601024; omega), by (show (slots + 60) + 0 ≤ 7293034; omega)⟩) hS (fun r2 σ2 H locs hr2 p2 hP hD hS => ?_)
  obtain ⟨e9, hI2⟩ := st_street hX hM hO hR p1 p2
  refine x_icmp_eq (tgt := 1223) hx hb hr1 hr2 dL_law_208 (by decide) (fun c9 => ?_) (fun c9 => ?_)
  · refine W.widen (k := cells + 64) (n := slots + 64) (by omega) (by omega) ?_
    exact kk σ2 H locs ls hI2 hP hD hS hl
  · exact absurd e9 c9

set_option maxHeartbeats 4000000 in
set_option maxRecDepth 100000 in
theorem lc_house {p : Program} {e : Env} {s : State} {m : MethodId} {below : List Frame} {meth : Method} {c : Code} (l : Launch) (hlst : l.stackTraces = false) {b L : Nat} {xs : Nat → Int32} (hL : L ≤ 3072) (C0 : l_At p s m meth c b L xs) (g : xG) (hK : xK g s) (hN : xNst s) (hT : xcT (fun q : Nat => s.heap.size ≤ q) s s.heap) (Q : State → Prop) (σ : xS) (H : Heap) (locs : List Loc) (cells slots : Nat) (i : Int) (hi0 : 0 ≤ i) (hi : i + 6 ≤ L) (hcl : cells + 64 ≤ 601024) (hsl : slots + 64 ≤ 7293034) (hI : LI g σ) (hP : xP g σ H) (hD : xD g (fun q : Nat => s.heap.size ≤ q) σ) (hS : va_S (fun q : Nat => s.heap.size ≤ q) s.heap H locs) (ls : Array Slot) (hl : lv_has ls 8 [(0, .ref b), (1, .ref (g.2.2 0)), (2, .ref (g.2.2 37)), (3, .ref (g.2.2 50)), (4, .int (iI i))]) (kk : ∀ (σ2 : xS) (H : Heap) (locs : List Loc) (ls : Array Slot), LI g σ2 → xP g σ2 H → xD g (fun q : Nat => s.heap.size ≤ q) σ2 → va_S (fun q : Nat => s.heap.size ≤ q) s.heap H locs → lv_has ls 8 [(0, .ref b), (1, .ref (g.2.2 0)), (2, .ref (g.2.2 37)), (3, .ref (g.2.2 50)), (4, .int (iI i))] → W p l e room_1 s m #[Value.ref b] below meth c H locs (cells + 64) (slots + 64) Q (F0 m 1223 ls [])) : W p l e room_1 s m #[Value.ref b] below meth c H locs cells slots Q (F0 m 213 ls []) := by
  obtain ⟨hx, hb, hml, hown, hts, hXs, hbl, hlocks⟩ := id C0
  have hA : ∀ q : Nat, s.heap.size ≤ q → (fun q : Nat => s.heap.size ≤ q) q := fun _ h => h
  have hbA : ¬ (fun q : Nat => s.heap.size ≤ q) b := Nat.not_le.mpr hbl
  obtain ⟨ph, tk, n, rd, P, G, ni, ri, Pi, Gi, Kf, So, Sz, El, ov, S, Im, Kp, So2, Sz2, El2, KK, KF, hX, hM, hO, hR⟩ := id hI
  obtain ⟨hx0, ⟨ha_ph, hph⟩, htk, hH, ⟨hst, hok, h8⟩, ⟨hsi9, hoi, hi8⟩, ⟨nm, rm, Pm, Gm, hsm9, hom⟩, hpt, ⟨bi0, sz0, dn0, ht0⟩, h25, h26, h27, hxs, h28, hrow, hEl⟩ := id hX
  obtain ⟨v1, hv1, ev1⟩ := iI_of (xs (iI (i + 1)).toNatClampNeg)
  obtain ⟨v2, hv2, ev2⟩ := iI_of (xs (iI (i + 2)).toNatClampNeg)
  refine lv_aload_n hx hb dL_law_213 rfl (lv_at hl 1 rfl) ?_
  refine lv_aload_n hx hb dL_law_214 rfl (lv_at hl 0 rfl) ?_
  refine lv_iload hx hb dL_law_215 (lv_at hl 4 rfl) ?_
  refine x_iconst hx hb dL_law_217 ?_
  refine x_iadd hx hb dL_law_218 ?_
  refine va_sld hx hb hXs hbl hbA hS (iI_in (by omega) (by omega) (by omega)) dL_law_219 ?_
  rw [ev1]
  refine lv_aload_n hx hb dL_law_220 rfl (lv_at hl 0 rfl) ?_
  refine lv_iload hx hb dL_law_221 (lv_at hl 4 rfl) ?_
  refine x_iconst hx hb dL_law_223 ?_
  refine x_iadd hx hb dL_law_224 ?_
  refine va_sld hx hb hXs hbl hbA hS (iI_in (by omega) (by omega) (by omega)) dL_law_225 ?_
  rw [ev2]
  refine x_ci (va_runV (As := [.int (iI v1), .int (iI v2)]) (rest := []) ⟨hx, hb, hml, hown, hts⟩ (c_X11_house l g σ ph tk hx0 n rd P G hst hok hH v1 hv1 v2 hv2) (cwV 2 hts gL_law_X11_house rfl rfl rfl (by decide +kernel) ⟨Nat.le_of_ble_eq_true rfl, Nat.le_of_ble_eq_true rfl⟩) (x_preV hK hP (x_recv hK hP (i := 0) (by decide) hx0 rfl)) rfl rfl hl.1 rfl (lv_room (Nat.le_of_ble_eq_true rfl)) dL_law_226 ⟨by (show cells + 0 ≤ 601024; omega), by (show slots + 0 ≤ 7293034; omega)⟩) (fun r1 hr1 p1 => ?_)
  have hM1 := hM
  obtain ⟨hob, ⟨hs0, hokm, hn8⟩, ⟨h39, hIm⟩, ⟨Rd, h40⟩, ⟨Mi, h41⟩, ⟨h42, h43, h44, h45, h46, h47⟩, hsh, ⟨Nm, h48, hNm⟩, Wz, h49⟩ := id hM1
  refine lv_aload_n hx hb dL_law_229 rfl (lv_at hl 2 rfl) ?_
  refine lv_aload_n hx hb dL_law_230 rfl (lv_at hl 0 rfl) ?_
  refine lv_iload hx hb dL_law_231 (lv_at hl 4 rfl) ?_
  refine x_iconst hx hb dL_law_233 ?_
  refine x_iadd hx hb dL_law_234 ?_
  refine va_sld hx hb hXs hbl hbA hS (iI_in (by omega) (by omega) (by omega)) dL_law_235 ?_
  rw [ev1]
  refine lv_aload_n hx hb dL_law_236 rfl (lv_at hl 0 rfl) ?_
  refine lv_iload hx hb dL_law_237 (lv_at hl 4 rfl) ?_
  refine x_iconst hx hb dL_law_239 ?_
  refine x_iadd hx hb dL_law_240 ?_
  refine va_sld hx hb hXs hbl hbA hS (iI_in (by omega) (by omega) (by omega)) dL_law_241 ?_
  rw [ev2]
  refine x_ci (va_runV (As := [.int (iI v1), .int (iI v2)]) (rest := [.int (iI r1)]) ⟨hx, hb, hml, hown, hts⟩ (c_X12_house l g σ ov S hob hs0 hokm v1 hv1 v2 hv2) (cwV 2 hts gL_law_X12_house rfl rfl rfl (by decide +kernel) ⟨Nat.le_of_ble_eq_true rfl, Nat.le_of_ble_eq_true rfl⟩) (x_preV hK hP (x_recv hK hP (i := 37) (by decide) hob rfl)) rfl rfl hl.1 rfl (lv_room (Nat.le_of_ble_eq_true rfl)) dL_law_242 ⟨by (show cells + 0 ≤ 601024; omega), by (show slots + 0 ≤ 7293034; omega)⟩) (fun r2 hr2 p2 => ?_)
  have e9 := st_house hX hM hO hR p1 p2
  refine x_icmp_eq (tgt := 1223) hx hb hr1 hr2 dL_law_245 (by decide) (fun c9 => ?_) (fun c9 => ?_)
  · refine W.widen (k := cells + 64) (n := slots + 64) (by omega) (by omega) ?_
    exact kk σ H locs ls hI hP hD hS hl
  · exact absurd e9 c9

set_option maxHeartbeats 4000000 in
set_option maxRecDepth 100000 in
theorem lc_comes {p : Program} {e : Env} {s : State} {m : MethodId} {below : List Frame} {meth : Method} {c : Code} (l : Launch) (hlst : l.stackTraces = false) {b L : Nat} {xs : Nat → Int32} (hL : L ≤ 3072) (C0 : l_At p s m meth c b L xs) (g : xG) (hK : xK g s) (hN : xNst s) (hT : xcT (fun q : Nat => s.heap.size ≤ q) s s.heap) (Q : State → Prop) (σ : xS) (H : Heap) (locs : List Loc) (cells slots : Nat) (i : Int) (hi0 : 0 ≤ i) (hi : i + 6 ≤ L) (hcl : cells + 64 ≤ 601024) (hsl : slots + 64 ≤ 7293034) (hI : LI g σ) (hP : xP g σ H) (hD : xD g (fun q : Nat => s.heap.size ≤ q) σ) (hS : va_S (fun q : Nat => s.heap.size ≤ q) s.heap H locs) (ls : Array Slot) (hl : lv_has ls 8 [(0, .ref b), (1, .ref (g.2.2 0)), (2, .ref (g.2.2 37)), (3, .ref (g.2.2 50)), (4, .int (iI i))]) (kk : ∀ (σ2 : xS) (H : Heap) (locs : List Loc) (ls : Array Slot), LI g σ2 → xP g σ2 H → xD g (fun q : Nat => s.heap.size ≤ q) σ2 → va_S (fun q : Nat => s.heap.size ≤ q) s.heap H locs → lv_has ls 8 [(0, .ref b), (1, .ref (g.2.2 0)), (2, .ref (g.2.2 37)), (3, .ref (g.2.2 50)), (4, .int (iI i))] → W p l e room_1 s m #[Value.ref b] below meth c H locs (cells + 64) (slots + 64) Q (F0 m 1223 ls [])) : W p l e room_1 s m #[Value.ref b] below meth c H locs cells slots Q (F0 m 250 ls []) := by
  obtain ⟨hx, hb, hml, hown, hts, hXs, hbl, hlocks⟩ := id C0
  have hA : ∀ q : Nat, s.heap.size ≤ q → (fun q : Nat => s.heap.size ≤ q) q := fun _ h => h
  have hbA : ¬ (fun q : Nat => s.heap.size ≤ q) b := Nat.not_le.mpr hbl
  obtain ⟨ph, tk, n, rd, P, G, ni, ri, Pi, Gi, Kf, So, Sz, El, ov, S, Im, Kp, So2, Sz2, El2, KK, KF, hX, hM, hO, hR⟩ := id hI
  obtain ⟨hx0, ⟨ha_ph, hph⟩, htk, hH, ⟨hst, hok, h8⟩, ⟨hsi9, hoi, hi8⟩, ⟨nm, rm, Pm, Gm, hsm9, hom⟩, hpt, ⟨bi0, sz0, dn0, ht0⟩, h25, h26, h27, hxs, h28, hrow, hEl⟩ := id hX
  obtain ⟨v1, hv1, ev1⟩ := iI_of (xs (iI (i + 1)).toNatClampNeg)
  obtain ⟨v2, hv2, ev2⟩ := iI_of (xs (iI (i + 2)).toNatClampNeg)
  refine lv_aload_n hx hb dL_law_250 rfl (lv_at hl 1 rfl) ?_
  refine lv_aload_n hx hb dL_law_251 rfl (lv_at hl 0 rfl) ?_
  refine lv_iload hx hb dL_law_252 (lv_at hl 4 rfl) ?_
  refine x_iconst hx hb dL_law_254 ?_
  refine x_iadd hx hb dL_law_255 ?_
  refine va_sld hx hb hXs hbl hbA hS (iI_in (by omega) (by omega) (by omega)) dL_law_256 ?_
  rw [ev1]
  refine lv_aload_n hx hb dL_law_257 rfl (lv_at hl 0 rfl) ?_
  refine lv_iload hx hb dL_law_258 (lv_at hl 4 rfl) ?_
  refine x_iconst hx hb dL_law_260 ?_
  refine x_iadd hx hb dL_law_261 ?_
  refine va_sld hx hb hXs hbl hbA hS (iI_in (by omega) (by omega) (by omega)) dL_law_262 ?_
  rw [ev2]
  refine x_cqi (mc := 0) (ms := 0) (va_runV (As := [.int (iI v1), .int (iI v2)]) (rest := []) ⟨hx, hb, hml, hown, hts⟩ (c_X11_comes l g σ (fun q : Nat => s.heap.size ≤ q) ph tk hx0 n rd P G hst hok hH Kf So Sz h25 h26 h27 hxs h8 v1 hv1 v2 hv2) (cwV 2 hts gL_law_X11_comes rfl rfl rfl (by decide +kernel) ⟨Nat.le_of_ble_eq_true rfl, Nat.le_of_ble_eq_true rfl⟩) (x_preVQ hK hP hD hS hA (x_recv hK hP (i := 0) (by decide) hx0 rfl)) rfl rfl hl.1 rfl (lv_room (Nat.le_of_ble_eq_true rfl)) dL_law_263 ⟨by (show cells + 0 ≤ 601024; omega), by (show slots + 0 ≤ 7293034; omega)⟩) hS (fun r1 σ1 H locs hr1 p1 hP hD hS => ?_)
  have hM1 := hM.fr (M1 := σ1.1) (fun j hj => p1.2.1 j (by omega))
  obtain ⟨hob, ⟨hs0, hokm, hn8⟩, ⟨h39, hIm⟩, ⟨Rd, h40⟩, ⟨Mi, h41⟩, ⟨h42, h43, h44, h45, h46, h47⟩, hsh, ⟨Nm, h48, hNm⟩, Wz, h49⟩ := id hM1
  refine lv_aload_n hx hb dL_law_266 rfl (lv_at hl 2 rfl) ?_
  refine lv_aload_n hx hb dL_law_267 rfl (lv_at hl 0 rfl) ?_
  refine lv_iload hx hb dL_law_268 (lv_at hl 4 rfl) ?_
  refine x_iconst hx hb dL_law_270 ?_
  refine x_iadd hx hb dL_law_271 ?_
  refine va_sld hx hb hXs hbl hbA hS (iI_in (by omega) (by omega) (by omega)) dL_law_272 ?_
  rw [ev1]
  refine lv_aload_n hx hb dL_law_273 rfl (lv_at hl 0 rfl) ?_
  refine lv_iload hx hb dL_law_274 (lv_at hl 4 rfl) ?_
  refine x_iconst hx hb dL_law_276 ?_
  refine x_iadd hx hb dL_law_277 ?_
  refine va_sld hx hb hXs hbl hbA hS (iI_in (by omega) (by omega) (by omega)) dL_law_278 ?_
  rw [ev2]
  refine x_cqi0 (va_runV (As := [.int (iI v1), .int (iI v2)]) (rest := [.int (iI r1)]) ⟨hx, hb, hml, hown, hts⟩ (c_X12_comes l g σ1 (fun q : Nat => s.heap.size ≤ q) ov S hob hs0 hokm Kp So2 Sz2 El2 KK KF h42 h43 h44 h45 h46 h47 hsh hn8 v1 hv1 v2 hv2) (cwV 2 hts gL_law_X12_comes rfl rfl rfl (by decide +kernel) ⟨Nat.le_of_ble_eq_true rfl, Nat.le_of_ble_eq_true rfl⟩) (x_preVQ hK hP hD hS hA (x_recv hK hP (i := 37) (by decide) hob rfl)) rfl rfl hl.1 rfl (lv_room (Nat.le_of_ble_eq_true rfl)) dL_law_279 ⟨by (show (cells + 0) + 0 ≤ 601024; omega), by (show (slots + 0) + 0 ≤ 7293034; omega)⟩) hS (fun r2 σ2 H locs hr2 p2 hP hD hS => ?_)
  obtain ⟨e9, hI2⟩ := st_comes hX hM hO hR p1 p2
  refine x_icmp_eq (tgt := 1223) hx hb hr1 hr2 dL_law_282 (by decide) (fun c9 => ?_) (fun c9 => ?_)
  · refine W.widen (k := cells + 64) (n := slots + 64) (by omega) (by omega) ?_
    exact kk σ2 H locs ls hI2 hP hD hS hl
  · exact absurd e9 c9

set_option maxHeartbeats 4000000 in
set_option maxRecDepth 100000 in
theorem lc_round {p : Program} {e : Env} {s : State} {m : MethodId} {below : List Frame} {meth : Method} {c : Code} (l : Launch) (hlst : l.stackTraces = false) {b L : Nat} {xs : Nat → Int32} (hL : L ≤ 3072) (C0 : l_At p s m meth c b L xs) (g : xG) (hK : xK g s) (hN : xNst s) (hT : xcT (fun q : Nat => s.heap.size ≤ q) s s.heap) (Q : State → Prop) (σ : xS) (H : Heap) (locs : List Loc) (cells slots : Nat) (i : Int) (hi0 : 0 ≤ i) (hi : i + 6 ≤ L) (hcl : cells + 64 ≤ 601024) (hsl : slots + 64 ≤ 7293034) (hI : LI g σ) (hP : xP g σ H) (hD : xD g (fun q : Nat => s.heap.size ≤ q) σ) (hS : va_S (fun q : Nat => s.heap.size ≤ q) s.heap H locs) (ls : Array Slot) (hl : lv_has ls 8 [(0, .ref b), (1, .ref (g.2.2 0)), (2, .ref (g.2.2 37)), (3, .ref (g.2.2 50)), (4, .int (iI i))]) (kk : ∀ (σ2 : xS) (H : Heap) (locs : List Loc) (ls : Array Slot), LI g σ2 → xP g σ2 H → xD g (fun q : Nat => s.heap.size ≤ q) σ2 → va_S (fun q : Nat => s.heap.size ≤ q) s.heap H locs → lv_has ls 8 [(0, .ref b), (1, .ref (g.2.2 0)), (2, .ref (g.2.2 37)), (3, .ref (g.2.2 50)), (4, .int (iI i))] → W p l e room_1 s m #[Value.ref b] below meth c H locs (cells + 64) (slots + 64) Q (F0 m 1223 ls [])) : W p l e room_1 s m #[Value.ref b] below meth c H locs cells slots Q (F0 m 287 ls []) := by
  obtain ⟨hx, hb, hml, hown, hts, hXs, hbl, hlocks⟩ := id C0
  have hA : ∀ q : Nat, s.heap.size ≤ q → (fun q : Nat => s.heap.size ≤ q) q := fun _ h => h
  have hbA : ¬ (fun q : Nat => s.heap.size ≤ q) b := Nat.not_le.mpr hbl
  obtain ⟨ph, tk, n, rd, P, G, ni, ri, Pi, Gi, Kf, So, Sz, El, ov, S, Im, Kp, So2, Sz2, El2, KK, KF, hX, hM, hO, hR⟩ := id hI
  obtain ⟨hx0, ⟨ha_ph, hph⟩, htk, hH, ⟨hst, hok, h8⟩, ⟨hsi9, hoi, hi8⟩, ⟨nm, rm, Pm, Gm, hsm9, hom⟩, hpt, ⟨bi0, sz0, dn0, ht0⟩, h25, h26, h27, hxs, h28, hrow, hEl⟩ := id hX
  obtain ⟨v1, hv1, ev1⟩ := iI_of (xs (iI (i + 1)).toNatClampNeg)
  refine lv_aload_n hx hb dL_law_287 rfl (lv_at hl 1 rfl) ?_
  refine lv_aload_n hx hb dL_law_288 rfl (lv_at hl 0 rfl) ?_
  refine lv_iload hx hb dL_law_289 (lv_at hl 4 rfl) ?_
  refine x_iconst hx hb dL_law_291 ?_
  refine x_iadd hx hb dL_law_292 ?_
  refine va_sld hx hb hXs hbl hbA hS (iI_in (by omega) (by omega) (by omega)) dL_law_293 ?_
  rw [ev1]
  refine x_cqi (mc := 0) (ms := 0) (va_runV (As := [.int (iI v1)]) (rest := []) ⟨hx, hb, hml, hown, hts⟩ (c_X11_round l g σ (fun q : Nat => s.heap.size ≤ q) ph tk hx0 n rd P G hst hok hH v1 hv1) (cwV 1 hts gL_law_X11_round rfl rfl rfl (by decide +kernel) ⟨Nat.le_of_ble_eq_true rfl, Nat.le_of_ble_eq_true rfl⟩) (x_preVQ hK hP hD hS hA (x_recv hK hP (i := 0) (by decide) hx0 rfl)) rfl rfl hl.1 rfl (lv_room (Nat.le_of_ble_eq_true rfl)) dL_law_294 ⟨by (show cells + 0 ≤ 601024; omega), by (show slots + 0 ≤ 7293034; omega)⟩) hS (fun r1 σ1 H locs hr1 p1 hP hD hS => ?_)
  have hM1 := hM.fr (M1 := σ1.1) (fun j hj => p1.2.1 j (by omega))
  obtain ⟨hob, ⟨hs0, hokm, hn8⟩, ⟨h39, hIm⟩, ⟨Rd, h40⟩, ⟨Mi, h41⟩, ⟨h42, h43, h44, h45, h46, h47⟩, hsh, ⟨Nm, h48, hNm⟩, Wz, h49⟩ := id hM1
  refine lv_aload_n hx hb dL_law_297 rfl (lv_at hl 2 rfl) ?_
  refine lv_aload_n hx hb dL_law_298 rfl (lv_at hl 0 rfl) ?_
  refine lv_iload hx hb dL_law_299 (lv_at hl 4 rfl) ?_
  refine x_iconst hx hb dL_law_301 ?_
  refine x_iadd hx hb dL_law_302 ?_
  refine va_sld hx hb hXs hbl hbA hS (iI_in (by omega) (by omega) (by omega)) dL_law_303 ?_
  rw [ev1]
  refine x_cqi0 (va_runV (As := [.int (iI v1)]) (rest := [.int (iI r1)]) ⟨hx, hb, hml, hown, hts⟩ (c_X12_round l g σ1 (fun q : Nat => s.heap.size ≤ q) ov S hob hs0 hokm v1 hv1) (cwV 1 hts gL_law_X12_round rfl rfl rfl (by decide +kernel) ⟨Nat.le_of_ble_eq_true rfl, Nat.le_of_ble_eq_true rfl⟩) (x_preVQ hK hP hD hS hA (x_recv hK hP (i := 37) (by decide) hob rfl)) rfl rfl hl.1 rfl (lv_room (Nat.le_of_ble_eq_true rfl)) dL_law_304 ⟨by (show (cells + 0) + 0 ≤ 601024; omega), by (show (slots + 0) + 0 ≤ 7293034; omega)⟩) hS (fun r2 σ2 H locs hr2 p2 hP hD hS => ?_)
  obtain ⟨e9, hI2⟩ := st_round hX hM hO hR p1 p2
  refine x_icmp_eq (tgt := 1223) hx hb hr1 hr2 dL_law_307 (by decide) (fun c9 => ?_) (fun c9 => ?_)
  · refine W.widen (k := cells + 64) (n := slots + 64) (by omega) (by omega) ?_
    exact kk σ2 H locs ls hI2 hP hD hS hl
  · exact absurd e9 c9

set_option maxHeartbeats 4000000 in
set_option maxRecDepth 100000 in
theorem lc_give {p : Program} {e : Env} {s : State} {m : MethodId} {below : List Frame} {meth : Method} {c : Code} (l : Launch) (hlst : l.stackTraces = false) {b L : Nat} {xs : Nat → Int32} (hL : L ≤ 3072) (C0 : l_At p s m meth c b L xs) (g : xG) (hK : xK g s) (hN : xNst s) (hT : xcT (fun q : Nat => s.heap.size ≤ q) s s.heap) (Q : State → Prop) (σ : xS) (H : Heap) (locs : List Loc) (cells slots : Nat) (i : Int) (hi0 : 0 ≤ i) (hi : i + 6 ≤ L) (hcl : cells + 64 ≤ 601024) (hsl : slots + 64 ≤ 7293034) (hI : LI g σ) (hP : xP g σ H) (hD : xD g (fun q : Nat => s.heap.size ≤ q) σ) (hS : va_S (fun q : Nat => s.heap.size ≤ q) s.heap H locs) (ls : Array Slot) (hl : lv_has ls 8 [(0, .ref b), (1, .ref (g.2.2 0)), (2, .ref (g.2.2 37)), (3, .ref (g.2.2 50)), (4, .int (iI i))]) (kk : ∀ (σ2 : xS) (H : Heap) (locs : List Loc) (ls : Array Slot), LI g σ2 → xP g σ2 H → xD g (fun q : Nat => s.heap.size ≤ q) σ2 → va_S (fun q : Nat => s.heap.size ≤ q) s.heap H locs → lv_has ls 8 [(0, .ref b), (1, .ref (g.2.2 0)), (2, .ref (g.2.2 37)), (3, .ref (g.2.2 50)), (4, .int (iI i))] → W p l e room_1 s m #[Value.ref b] below meth c H locs (cells + 64) (slots + 64) Q (F0 m 1223 ls [])) : W p l e room_1 s m #[Value.ref b] below meth c H locs cells slots Q (F0 m 312 ls []) := by
  obtain ⟨hx, hb, hml, hown, hts, hXs, hbl, hlocks⟩ := id C0
  have hA : ∀ q : Nat, s.heap.size ≤ q → (fun q : Nat => s.heap.size ≤ q) q := fun _ h => h
  have hbA : ¬ (fun q : Nat => s.heap.size ≤ q) b := Nat.not_le.mpr hbl
  obtain ⟨ph, tk, n, rd, P, G, ni, ri, Pi, Gi, Kf, So, Sz, El, ov, S, Im, Kp, So2, Sz2, El2, KK, KF, hX, hM, hO, hR⟩ := id hI
  obtain ⟨hx0, ⟨ha_ph, hph⟩, htk, hH, ⟨hst, hok, h8⟩, ⟨hsi9, hoi, hi8⟩, ⟨nm, rm, Pm, Gm, hsm9, hom⟩, hpt, ⟨bi0, sz0, dn0, ht0⟩, h25, h26, h27, hxs, h28, hrow, hEl⟩ := id hX
  obtain ⟨v1, hv1, ev1⟩ := iI_of (xs (iI (i + 1)).toNatClampNeg)
  obtain ⟨v2, hv2, ev2⟩ := iI_of (xs (iI (i + 2)).toNatClampNeg)
  obtain ⟨v3, hv3, ev3⟩ := iI_of (xs (iI (i + 3)).toNatClampNeg)
  refine lv_aload_n hx hb dL_law_312 rfl (lv_at hl 1 rfl) ?_
  refine lv_aload_n hx hb dL_law_313 rfl (lv_at hl 0 rfl) ?_
  refine lv_iload hx hb dL_law_314 (lv_at hl 4 rfl) ?_
  refine x_iconst hx hb dL_law_316 ?_
  refine x_iadd hx hb dL_law_317 ?_
  refine va_sld hx hb hXs hbl hbA hS (iI_in (by omega) (by omega) (by omega)) dL_law_318 ?_
  rw [ev1]
  refine lv_aload_n hx hb dL_law_319 rfl (lv_at hl 0 rfl) ?_
  refine lv_iload hx hb dL_law_320 (lv_at hl 4 rfl) ?_
  refine x_iconst hx hb dL_law_322 ?_
  refine x_iadd hx hb dL_law_323 ?_
  refine va_sld hx hb hXs hbl hbA hS (iI_in (by omega) (by omega) (by omega)) dL_law_324 ?_
  rw [ev2]
  refine lv_aload_n hx hb dL_law_325 rfl (lv_at hl 0 rfl) ?_
  refine lv_iload hx hb dL_law_326 (lv_at hl 4 rfl) ?_
  refine x_iconst hx hb dL_law_328 ?_
  refine x_iadd hx hb dL_law_329 ?_
  refine va_sld hx hb hXs hbl hbA hS (iI_in (by omega) (by omega) (by omega)) dL_law_330 ?_
  rw [ev3]
  refine x_cqi (mc := 0) (ms := 0) (va_runV (As := [.int (iI v1), .int (iI v2), .int (iI v3)]) (rest := []) ⟨hx, hb, hml, hown, hts⟩ (c_X11_give l g σ (fun q : Nat => s.heap.size ≤ q) ph tk hx0 n rd P G hst hok hH v1 hv1 v2 hv2 v3 hv3) (cwV 3 hts gL_law_X11_give rfl rfl rfl (by decide +kernel) ⟨Nat.le_of_ble_eq_true rfl, Nat.le_of_ble_eq_true rfl⟩) (x_preVQ hK hP hD hS hA (x_recv hK hP (i := 0) (by decide) hx0 rfl)) rfl rfl hl.1 rfl (lv_room (Nat.le_of_ble_eq_true rfl)) dL_law_331 ⟨by (show cells + 0 ≤ 601024; omega), by (show slots + 0 ≤ 7293034; omega)⟩) hS (fun r1 σ1 H locs hr1 p1 hP hD hS => ?_)
  have hM1 := hM.fr (M1 := σ1.1) (fun j hj => p1.2.1 j (by omega))
  obtain ⟨hob, ⟨hs0, hokm, hn8⟩, ⟨h39, hIm⟩, ⟨Rd, h40⟩, ⟨Mi, h41⟩, ⟨h42, h43, h44, h45, h46, h47⟩, hsh, ⟨Nm, h48, hNm⟩, Wz, h49⟩ := id hM1
  refine lv_aload_n hx hb dL_law_334 rfl (lv_at hl 2 rfl) ?_
  refine lv_aload_n hx hb dL_law_335 rfl (lv_at hl 0 rfl) ?_
  refine lv_iload hx hb dL_law_336 (lv_at hl 4 rfl) ?_
  refine x_iconst hx hb dL_law_338 ?_
  refine x_iadd hx hb dL_law_339 ?_
  refine va_sld hx hb hXs hbl hbA hS (iI_in (by omega) (by omega) (by omega)) dL_law_340 ?_
  rw [ev1]
  refine lv_aload_n hx hb dL_law_341 rfl (lv_at hl 0 rfl) ?_
  refine lv_iload hx hb dL_law_342 (lv_at hl 4 rfl) ?_
  refine x_iconst hx hb dL_law_344 ?_
  refine x_iadd hx hb dL_law_345 ?_
  refine va_sld hx hb hXs hbl hbA hS (iI_in (by omega) (by omega) (by omega)) dL_law_346 ?_
  rw [ev2]
  refine lv_aload_n hx hb dL_law_347 rfl (lv_at hl 0 rfl) ?_
  refine lv_iload hx hb dL_law_348 (lv_at hl 4 rfl) ?_
  refine x_iconst hx hb dL_law_350 ?_
  refine x_iadd hx hb dL_law_351 ?_
  refine va_sld hx hb hXs hbl hbA hS (iI_in (by omega) (by omega) (by omega)) dL_law_352 ?_
  rw [ev3]
  refine x_cqi0 (va_runV (As := [.int (iI v1), .int (iI v2), .int (iI v3)]) (rest := [.int (iI r1)]) ⟨hx, hb, hml, hown, hts⟩ (c_X12_give l g σ1 (fun q : Nat => s.heap.size ≤ q) ov S hob hs0 hokm v1 hv1 v2 hv2 v3 hv3) (cwV 3 hts gL_law_X12_give rfl rfl rfl (by decide +kernel) ⟨Nat.le_of_ble_eq_true rfl, Nat.le_of_ble_eq_true rfl⟩) (x_preVQ hK hP hD hS hA (x_recv hK hP (i := 37) (by decide) hob rfl)) rfl rfl hl.1 rfl (lv_room (Nat.le_of_ble_eq_true rfl)) dL_law_353 ⟨by (show (cells + 0) + 0 ≤ 601024; omega), by (show (slots + 0) + 0 ≤ 7293034; omega)⟩) hS (fun r2 σ2 H locs hr2 p2 hP hD hS => ?_)
  obtain ⟨e9, hI2⟩ := st_give hX hM hO hR p1 p2
  refine x_icmp_eq (tgt := 1223) hx hb hr1 hr2 dL_law_356 (by decide) (fun c9 => ?_) (fun c9 => ?_)
  · refine W.widen (k := cells + 64) (n := slots + 64) (by omega) (by omega) ?_
    exact kk σ2 H locs ls hI2 hP hD hS hl
  · exact absurd e9 c9

set_option maxHeartbeats 4000000 in
set_option maxRecDepth 100000 in
theorem lc_weeks {p : Program} {e : Env} {s : State} {m : MethodId} {below : List Frame} {meth : Method} {c : Code} (l : Launch) (hlst : l.stackTraces = false) {b L : Nat} {xs : Nat → Int32} (hL : L ≤ 3072) (C0 : l_At p s m meth c b L xs) (g : xG) (hK : xK g s) (hN : xNst s) (hT : xcT (fun q : Nat => s.heap.size ≤ q) s s.heap) (Q : State → Prop) (σ : xS) (H : Heap) (locs : List Loc) (cells slots : Nat) (i : Int) (hi0 : 0 ≤ i) (hi : i + 6 ≤ L) (hcl : cells + 64 ≤ 601024) (hsl : slots + 64 ≤ 7293034) (hI : LI g σ) (hP : xP g σ H) (hD : xD g (fun q : Nat => s.heap.size ≤ q) σ) (hS : va_S (fun q : Nat => s.heap.size ≤ q) s.heap H locs) (ls : Array Slot) (hl : lv_has ls 8 [(0, .ref b), (1, .ref (g.2.2 0)), (2, .ref (g.2.2 37)), (3, .ref (g.2.2 50)), (4, .int (iI i))]) (kk : ∀ (σ2 : xS) (H : Heap) (locs : List Loc) (ls : Array Slot), LI g σ2 → xP g σ2 H → xD g (fun q : Nat => s.heap.size ≤ q) σ2 → va_S (fun q : Nat => s.heap.size ≤ q) s.heap H locs → lv_has ls 8 [(0, .ref b), (1, .ref (g.2.2 0)), (2, .ref (g.2.2 37)), (3, .ref (g.2.2 50)), (4, .int (iI i))] → W p l e room_1 s m #[Value.ref b] below meth c H locs (cells + 64) (slots + 64) Q (F0 m 1223 ls [])) : W p l e room_1 s m #[Value.ref b] below meth c H locs cells slots Q (F0 m 361 ls []) := by
  obtain ⟨hx, hb, hml, hown, hts, hXs, hbl, hlocks⟩ := id C0
  have hA : ∀ q : Nat, s.heap.size ≤ q → (fun q : Nat => s.heap.size ≤ q) q := fun _ h => h
  have hbA : ¬ (fun q : Nat => s.heap.size ≤ q) b := Nat.not_le.mpr hbl
  obtain ⟨ph, tk, n, rd, P, G, ni, ri, Pi, Gi, Kf, So, Sz, El, ov, S, Im, Kp, So2, Sz2, El2, KK, KF, hX, hM, hO, hR⟩ := id hI
  obtain ⟨hx0, ⟨ha_ph, hph⟩, htk, hH, ⟨hst, hok, h8⟩, ⟨hsi9, hoi, hi8⟩, ⟨nm, rm, Pm, Gm, hsm9, hom⟩, hpt, ⟨bi0, sz0, dn0, ht0⟩, h25, h26, h27, hxs, h28, hrow, hEl⟩ := id hX
  obtain ⟨v1, hv1, ev1⟩ := iI_of (xs (iI (i + 1)).toNatClampNeg)
  refine lv_aload_n hx hb dL_law_361 rfl (lv_at hl 1 rfl) ?_
  refine lv_aload_n hx hb dL_law_362 rfl (lv_at hl 0 rfl) ?_
  refine lv_iload hx hb dL_law_363 (lv_at hl 4 rfl) ?_
  refine x_iconst hx hb dL_law_365 ?_
  refine x_iadd hx hb dL_law_366 ?_
  refine va_sld hx hb hXs hbl hbA hS (iI_in (by omega) (by omega) (by omega)) dL_law_367 ?_
  rw [ev1]
  refine x_cqi (mc := 0) (ms := 0) (va_runV (As := [.int (iI v1)]) (rest := []) ⟨hx, hb, hml, hown, hts⟩ (c_X11_weeks l g σ (fun q : Nat => s.heap.size ≤ q) ph tk hx0 n rd P G hst hok hH v1 hv1) (cwV 1 hts gL_law_X11_weeks rfl rfl rfl (by decide +kernel) ⟨Nat.le_of_ble_eq_true rfl, Nat.le_of_ble_eq_true rfl⟩) (x_preVQ hK hP hD hS hA (x_recv hK hP (i := 0) (by decide) hx0 rfl)) rfl rfl hl.1 rfl (lv_room (Nat.le_of_ble_eq_true rfl)) dL_law_368 ⟨by (show cells + 0 ≤ 601024; omega), by (show slots + 0 ≤ 7293034; omega)⟩) hS (fun r1 σ1 H locs hr1 p1 hP hD hS => ?_)
  have hM1 := hM.fr (M1 := σ1.1) (fun j hj => p1.2.1 j (by omega))
  obtain ⟨hob, ⟨hs0, hokm, hn8⟩, ⟨h39, hIm⟩, ⟨Rd, h40⟩, ⟨Mi, h41⟩, ⟨h42, h43, h44, h45, h46, h47⟩, hsh, ⟨Nm, h48, hNm⟩, Wz, h49⟩ := id hM1
  refine lv_aload_n hx hb dL_law_371 rfl (lv_at hl 2 rfl) ?_
  refine lv_aload_n hx hb dL_law_372 rfl (lv_at hl 0 rfl) ?_
  refine lv_iload hx hb dL_law_373 (lv_at hl 4 rfl) ?_
  refine x_iconst hx hb dL_law_375 ?_
  refine x_iadd hx hb dL_law_376 ?_
  refine va_sld hx hb hXs hbl hbA hS (iI_in (by omega) (by omega) (by omega)) dL_law_377 ?_
  rw [ev1]
  refine x_cqi0 (va_runV (As := [.int (iI v1)]) (rest := [.int (iI r1)]) ⟨hx, hb, hml, hown, hts⟩ (c_X12_weeks l g σ1 (fun q : Nat => s.heap.size ≤ q) ov S hob hs0 hokm v1 hv1) (cwV 1 hts gL_law_X12_weeks rfl rfl rfl (by decide +kernel) ⟨Nat.le_of_ble_eq_true rfl, Nat.le_of_ble_eq_true rfl⟩) (x_preVQ hK hP hD hS hA (x_recv hK hP (i := 37) (by decide) hob rfl)) rfl rfl hl.1 rfl (lv_room (Nat.le_of_ble_eq_true rfl)) dL_law_378 ⟨by (show (cells + 0) + 0 ≤ 601024; omega), by (show (slots + 0) + 0 ≤ 7293034; omega)⟩) hS (fun r2 σ2 H locs hr2 p2 hP hD hS => ?_)
  obtain ⟨e9, hI2⟩ := st_weeks hX hM hO hR p1 p2
  refine x_icmp_eq (tgt := 1223) hx hb hr1 hr2 dL_law_381 (by decide) (fun c9 => ?_) (fun c9 => ?_)
  · refine W.widen (k := cells + 64) (n := slots + 64) (by omega) (by omega) ?_
    exact kk σ2 H locs ls hI2 hP hD hS hl
  · exact absurd e9 c9

set_option maxHeartbeats 4000000 in
set_option maxRecDepth 100000 in
theorem lc_lawful {p : Program} {e : Env} {s : State} {m : MethodId} {below : List Frame} {meth : Method} {c : Code} (l : Launch) (hlst : l.stackTraces = false) {b L : Nat} {xs : Nat → Int32} (hL : L ≤ 3072) (C0 : l_At p s m meth c b L xs) (g : xG) (hK : xK g s) (hN : xNst s) (hT : xcT (fun q : Nat => s.heap.size ≤ q) s s.heap) (Q : State → Prop) (σ : xS) (H : Heap) (locs : List Loc) (cells slots : Nat) (i : Int) (hi0 : 0 ≤ i) (hi : i + 6 ≤ L) (hcl : cells + 64 ≤ 601024) (hsl : slots + 64 ≤ 7293034) (hI : LI g σ) (hP : xP g σ H) (hD : xD g (fun q : Nat => s.heap.size ≤ q) σ) (hS : va_S (fun q : Nat => s.heap.size ≤ q) s.heap H locs) (ls : Array Slot) (hl : lv_has ls 8 [(0, .ref b), (1, .ref (g.2.2 0)), (2, .ref (g.2.2 37)), (3, .ref (g.2.2 50)), (4, .int (iI i))]) (kk : ∀ (σ2 : xS) (H : Heap) (locs : List Loc) (ls : Array Slot), LI g σ2 → xP g σ2 H → xD g (fun q : Nat => s.heap.size ≤ q) σ2 → va_S (fun q : Nat => s.heap.size ≤ q) s.heap H locs → lv_has ls 8 [(0, .ref b), (1, .ref (g.2.2 0)), (2, .ref (g.2.2 37)), (3, .ref (g.2.2 50)), (4, .int (iI i))] → W p l e room_1 s m #[Value.ref b] below meth c H locs (cells + 64) (slots + 64) Q (F0 m 1223 ls [])) : W p l e room_1 s m #[Value.ref b] below meth c H locs cells slots Q (F0 m 386 ls []) := by
  obtain ⟨hx, hb, hml, hown, hts, hXs, hbl, hlocks⟩ := id C0
  have hA : ∀ q : Nat, s.heap.size ≤ q → (fun q : Nat => s.heap.size ≤ q) q := fun _ h => h
  have hbA : ¬ (fun q : Nat => s.heap.size ≤ q) b := Nat.not_le.mpr hbl
  obtain ⟨ph, tk, n, rd, P, G, ni, ri, Pi, Gi, Kf, So, Sz, El, ov, S, Im, Kp, So2, Sz2, El2, KK, KF, hX, hM, hO, hR⟩ := id hI
  obtain ⟨hx0, ⟨ha_ph, hph⟩, htk, hH, ⟨hst, hok, h8⟩, ⟨hsi9, hoi, hi8⟩, ⟨nm, rm, Pm, Gm, hsm9, hom⟩, hpt, ⟨bi0, sz0, dn0, ht0⟩, h25, h26, h27, hxs, h28, hrow, hEl⟩ := id hX
  refine lv_aload_n hx hb dL_law_386 rfl (lv_at hl 1 rfl) ?_
  refine x_ci (va_runV (As := []) (rest := []) ⟨hx, hb, hml, hown, hts⟩ (c_X11_lawful l g σ ph tk hx0 n rd P G hst hok hH) (cwV 0 hts gL_law_X11_lawful rfl rfl rfl (by decide +kernel) ⟨Nat.le_of_ble_eq_true rfl, Nat.le_of_ble_eq_true rfl⟩) (x_preV hK hP (x_recv hK hP (i := 0) (by decide) hx0 rfl)) rfl rfl hl.1 rfl (lv_room (Nat.le_of_ble_eq_true rfl)) dL_law_387 ⟨by (show cells + 0 ≤ 601024; omega), by (show slots + 0 ≤ 7293034; omega)⟩) (fun r1 hr1 p1 => ?_)
  have hM1 := hM
  obtain ⟨hob, ⟨hs0, hokm, hn8⟩, ⟨h39, hIm⟩, ⟨Rd, h40⟩, ⟨Mi, h41⟩, ⟨h42, h43, h44, h45, h46, h47⟩, hsh, ⟨Nm, h48, hNm⟩, Wz, h49⟩ := id hM1
  refine lv_aload_n hx hb dL_law_390 rfl (lv_at hl 2 rfl) ?_
  refine x_ci (va_runV (As := []) (rest := [.int (iI r1)]) ⟨hx, hb, hml, hown, hts⟩ (c_X12_lawful l g σ ov S hob hs0 hokm) (cwV 0 hts gL_law_X12_lawful rfl rfl rfl (by decide +kernel) ⟨Nat.le_of_ble_eq_true rfl, Nat.le_of_ble_eq_true rfl⟩) (x_preV hK hP (x_recv hK hP (i := 37) (by decide) hob rfl)) rfl rfl hl.1 rfl (lv_room (Nat.le_of_ble_eq_true rfl)) dL_law_391 ⟨by (show cells + 0 ≤ 601024; omega), by (show slots + 0 ≤ 7293034; omega)⟩) (fun r2 hr2 p2 => ?_)
  have e9 := st_lawful hX hM hO hR p1 p2
  refine x_icmp_eq (tgt := 1223) hx hb hr1 hr2 dL_law_394 (by decide) (fun c9 => ?_) (fun c9 => ?_)
  · refine W.widen (k := cells + 64) (n := slots + 64) (by omega) (by omega) ?_
    exact kk σ H locs ls hI hP hD hS hl
  · exact absurd e9 c9

set_option maxHeartbeats 4000000 in
set_option maxRecDepth 100000 in
theorem lc_breaches {p : Program} {e : Env} {s : State} {m : MethodId} {below : List Frame} {meth : Method} {c : Code} (l : Launch) (hlst : l.stackTraces = false) {b L : Nat} {xs : Nat → Int32} (hL : L ≤ 3072) (C0 : l_At p s m meth c b L xs) (g : xG) (hK : xK g s) (hN : xNst s) (hT : xcT (fun q : Nat => s.heap.size ≤ q) s s.heap) (Q : State → Prop) (σ : xS) (H : Heap) (locs : List Loc) (cells slots : Nat) (i : Int) (hi0 : 0 ≤ i) (hi : i + 6 ≤ L) (hcl : cells + 64 ≤ 601024) (hsl : slots + 64 ≤ 7293034) (hI : LI g σ) (hP : xP g σ H) (hD : xD g (fun q : Nat => s.heap.size ≤ q) σ) (hS : va_S (fun q : Nat => s.heap.size ≤ q) s.heap H locs) (ls : Array Slot) (hl : lv_has ls 8 [(0, .ref b), (1, .ref (g.2.2 0)), (2, .ref (g.2.2 37)), (3, .ref (g.2.2 50)), (4, .int (iI i))]) (kk : ∀ (σ2 : xS) (H : Heap) (locs : List Loc) (ls : Array Slot), LI g σ2 → xP g σ2 H → xD g (fun q : Nat => s.heap.size ≤ q) σ2 → va_S (fun q : Nat => s.heap.size ≤ q) s.heap H locs → lv_has ls 8 [(0, .ref b), (1, .ref (g.2.2 0)), (2, .ref (g.2.2 37)), (3, .ref (g.2.2 50)), (4, .int (iI i))] → W p l e room_1 s m #[Value.ref b] below meth c H locs (cells + 64) (slots + 64) Q (F0 m 1223 ls [])) : W p l e room_1 s m #[Value.ref b] below meth c H locs cells slots Q (F0 m 399 ls []) := by
  obtain ⟨hx, hb, hml, hown, hts, hXs, hbl, hlocks⟩ := id C0
  have hA : ∀ q : Nat, s.heap.size ≤ q → (fun q : Nat => s.heap.size ≤ q) q := fun _ h => h
  have hbA : ¬ (fun q : Nat => s.heap.size ≤ q) b := Nat.not_le.mpr hbl
  obtain ⟨ph, tk, n, rd, P, G, ni, ri, Pi, Gi, Kf, So, Sz, El, ov, S, Im, Kp, So2, Sz2, El2, KK, KF, hX, hM, hO, hR⟩ := id hI
  obtain ⟨hx0, ⟨ha_ph, hph⟩, htk, hH, ⟨hst, hok, h8⟩, ⟨hsi9, hoi, hi8⟩, ⟨nm, rm, Pm, Gm, hsm9, hom⟩, hpt, ⟨bi0, sz0, dn0, ht0⟩, h25, h26, h27, hxs, h28, hrow, hEl⟩ := id hX
  obtain ⟨v1, hv1, ev1⟩ := iI_of (xs (iI (i + 1)).toNatClampNeg)
  refine lv_aload_n hx hb dL_law_399 rfl (lv_at hl 1 rfl) ?_
  refine lv_aload_n hx hb dL_law_400 rfl (lv_at hl 0 rfl) ?_
  refine lv_iload hx hb dL_law_401 (lv_at hl 4 rfl) ?_
  refine x_iconst hx hb dL_law_403 ?_
  refine x_iadd hx hb dL_law_404 ?_
  refine va_sld hx hb hXs hbl hbA hS (iI_in (by omega) (by omega) (by omega)) dL_law_405 ?_
  rw [ev1]
  refine x_ci (va_runV (As := [.int (iI v1)]) (rest := []) ⟨hx, hb, hml, hown, hts⟩ (c_X11_breaches l g σ ph tk hx0 n rd P G hst hok hH v1 hv1) (cwV 1 hts gL_law_X11_breaches rfl rfl rfl (by decide +kernel) ⟨Nat.le_of_ble_eq_true rfl, Nat.le_of_ble_eq_true rfl⟩) (x_preV hK hP (x_recv hK hP (i := 0) (by decide) hx0 rfl)) rfl rfl hl.1 rfl (lv_room (Nat.le_of_ble_eq_true rfl)) dL_law_406 ⟨by (show cells + 0 ≤ 601024; omega), by (show slots + 0 ≤ 7293034; omega)⟩) (fun r1 hr1 p1 => ?_)
  have hM1 := hM
  obtain ⟨hob, ⟨hs0, hokm, hn8⟩, ⟨h39, hIm⟩, ⟨Rd, h40⟩, ⟨Mi, h41⟩, ⟨h42, h43, h44, h45, h46, h47⟩, hsh, ⟨Nm, h48, hNm⟩, Wz, h49⟩ := id hM1
  refine lv_aload_n hx hb dL_law_409 rfl (lv_at hl 2 rfl) ?_
  refine lv_aload_n hx hb dL_law_410 rfl (lv_at hl 0 rfl) ?_
  refine lv_iload hx hb dL_law_411 (lv_at hl 4 rfl) ?_
  refine x_iconst hx hb dL_law_413 ?_
  refine x_iadd hx hb dL_law_414 ?_
  refine va_sld hx hb hXs hbl hbA hS (iI_in (by omega) (by omega) (by omega)) dL_law_415 ?_
  rw [ev1]
  refine x_ci (va_runV (As := [.int (iI v1)]) (rest := [.int (iI r1)]) ⟨hx, hb, hml, hown, hts⟩ (c_X12_breaches l g σ ov S hob hs0 hokm v1 hv1) (cwV 1 hts gL_law_X12_breaches rfl rfl rfl (by decide +kernel) ⟨Nat.le_of_ble_eq_true rfl, Nat.le_of_ble_eq_true rfl⟩) (x_preV hK hP (x_recv hK hP (i := 37) (by decide) hob rfl)) rfl rfl hl.1 rfl (lv_room (Nat.le_of_ble_eq_true rfl)) dL_law_416 ⟨by (show cells + 0 ≤ 601024; omega), by (show slots + 0 ≤ 7293034; omega)⟩) (fun r2 hr2 p2 => ?_)
  have e9 := st_breaches hX hM hO hR p1 p2
  refine x_icmp_eq (tgt := 1223) hx hb hr1 hr2 dL_law_419 (by decide) (fun c9 => ?_) (fun c9 => ?_)
  · refine W.widen (k := cells + 64) (n := slots + 64) (by omega) (by omega) ?_
    exact kk σ H locs ls hI hP hD hS hl
  · exact absurd e9 c9

set_option maxHeartbeats 4000000 in
set_option maxRecDepth 100000 in
theorem lc_held {p : Program} {e : Env} {s : State} {m : MethodId} {below : List Frame} {meth : Method} {c : Code} (l : Launch) (hlst : l.stackTraces = false) {b L : Nat} {xs : Nat → Int32} (hL : L ≤ 3072) (C0 : l_At p s m meth c b L xs) (g : xG) (hK : xK g s) (hN : xNst s) (hT : xcT (fun q : Nat => s.heap.size ≤ q) s s.heap) (Q : State → Prop) (σ : xS) (H : Heap) (locs : List Loc) (cells slots : Nat) (i : Int) (hi0 : 0 ≤ i) (hi : i + 6 ≤ L) (hcl : cells + 64 ≤ 601024) (hsl : slots + 64 ≤ 7293034) (hI : LI g σ) (hP : xP g σ H) (hD : xD g (fun q : Nat => s.heap.size ≤ q) σ) (hS : va_S (fun q : Nat => s.heap.size ≤ q) s.heap H locs) (ls : Array Slot) (hl : lv_has ls 8 [(0, .ref b), (1, .ref (g.2.2 0)), (2, .ref (g.2.2 37)), (3, .ref (g.2.2 50)), (4, .int (iI i))]) (kk : ∀ (σ2 : xS) (H : Heap) (locs : List Loc) (ls : Array Slot), LI g σ2 → xP g σ2 H → xD g (fun q : Nat => s.heap.size ≤ q) σ2 → va_S (fun q : Nat => s.heap.size ≤ q) s.heap H locs → lv_has ls 8 [(0, .ref b), (1, .ref (g.2.2 0)), (2, .ref (g.2.2 37)), (3, .ref (g.2.2 50)), (4, .int (iI i))] → W p l e room_1 s m #[Value.ref b] below meth c H locs (cells + 64) (slots + 64) Q (F0 m 1223 ls [])) : W p l e room_1 s m #[Value.ref b] below meth c H locs cells slots Q (F0 m 424 ls []) := by
  obtain ⟨hx, hb, hml, hown, hts, hXs, hbl, hlocks⟩ := id C0
  have hA : ∀ q : Nat, s.heap.size ≤ q → (fun q : Nat => s.heap.size ≤ q) q := fun _ h => h
  have hbA : ¬ (fun q : Nat => s.heap.size ≤ q) b := Nat.not_le.mpr hbl
  obtain ⟨ph, tk, n, rd, P, G, ni, ri, Pi, Gi, Kf, So, Sz, El, ov, S, Im, Kp, So2, Sz2, El2, KK, KF, hX, hM, hO, hR⟩ := id hI
  obtain ⟨hx0, ⟨ha_ph, hph⟩, htk, hH, ⟨hst, hok, h8⟩, ⟨hsi9, hoi, hi8⟩, ⟨nm, rm, Pm, Gm, hsm9, hom⟩, hpt, ⟨bi0, sz0, dn0, ht0⟩, h25, h26, h27, hxs, h28, hrow, hEl⟩ := id hX
  obtain ⟨v1, hv1, ev1⟩ := iI_of (xs (iI (i + 1)).toNatClampNeg)
  refine lv_aload_n hx hb dL_law_424 rfl (lv_at hl 1 rfl) ?_
  refine lv_aload_n hx hb dL_law_425 rfl (lv_at hl 0 rfl) ?_
  refine lv_iload hx hb dL_law_426 (lv_at hl 4 rfl) ?_
  refine x_iconst hx hb dL_law_428 ?_
  refine x_iadd hx hb dL_law_429 ?_
  refine va_sld hx hb hXs hbl hbA hS (iI_in (by omega) (by omega) (by omega)) dL_law_430 ?_
  rw [ev1]
  refine x_ci (va_runV (As := [.int (iI v1)]) (rest := []) ⟨hx, hb, hml, hown, hts⟩ (c_X11_held l g σ ph tk hx0 n rd P G hst hok hH v1 hv1) (cwV 1 hts gL_law_X11_held rfl rfl rfl (by decide +kernel) ⟨Nat.le_of_ble_eq_true rfl, Nat.le_of_ble_eq_true rfl⟩) (x_preV hK hP (x_recv hK hP (i := 0) (by decide) hx0 rfl)) rfl rfl hl.1 rfl (lv_room (Nat.le_of_ble_eq_true rfl)) dL_law_431 ⟨by (show cells + 0 ≤ 601024; omega), by (show slots + 0 ≤ 7293034; omega)⟩) (fun r1 hr1 p1 => ?_)
  have hM1 := hM
  obtain ⟨hob, ⟨hs0, hokm, hn8⟩, ⟨h39, hIm⟩, ⟨Rd, h40⟩, ⟨Mi, h41⟩, ⟨h42, h43, h44, h45, h46, h47⟩, hsh, ⟨Nm, h48, hNm⟩, Wz, h49⟩ := id hM1
  refine lv_aload_n hx hb dL_law_434 rfl (lv_at hl 2 rfl) ?_
  refine lv_aload_n hx hb dL_law_435 rfl (lv_at hl 0 rfl) ?_
  refine lv_iload hx hb dL_law_436 (lv_at hl 4 rfl) ?_
  refine x_iconst hx hb dL_law_438 ?_
  refine x_iadd hx hb dL_law_439 ?_
  refine va_sld hx hb hXs hbl hbA hS (iI_in (by omega) (by omega) (by omega)) dL_law_440 ?_
  rw [ev1]
  refine x_ci (va_runV (As := [.int (iI v1)]) (rest := [.int (iI r1)]) ⟨hx, hb, hml, hown, hts⟩ (c_X12_held l g σ ov S hob hs0 hokm v1 hv1) (cwV 1 hts gL_law_X12_held rfl rfl rfl (by decide +kernel) ⟨Nat.le_of_ble_eq_true rfl, Nat.le_of_ble_eq_true rfl⟩) (x_preV hK hP (x_recv hK hP (i := 37) (by decide) hob rfl)) rfl rfl hl.1 rfl (lv_room (Nat.le_of_ble_eq_true rfl)) dL_law_441 ⟨by (show cells + 0 ≤ 601024; omega), by (show slots + 0 ≤ 7293034; omega)⟩) (fun r2 hr2 p2 => ?_)
  have e9 := st_held hX hM hO hR p1 p2
  refine x_icmp_eq (tgt := 1223) hx hb hr1 hr2 dL_law_444 (by decide) (fun c9 => ?_) (fun c9 => ?_)
  · refine W.widen (k := cells + 64) (n := slots + 64) (by omega) (by omega) ?_
    exact kk σ H locs ls hI hP hD hS hl
  · exact absurd e9 c9
