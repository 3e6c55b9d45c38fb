/-- the law's end with the answer true, given its last step -/
def l_End (p : Program) (l : Launch) (e : Env) (s : State) (m : MethodId) (below : List Frame) (meth : Method) (c : Code) (b : Nat) (Q : State → Prop) : Prop := ∀ (H : Heap) (ls : Array Slot), W p l e room_1 s m #[Value.ref b] below meth c H [] 601024 7293034 Q (F0 m 1230 ls [.int 1])
set_option maxHeartbeats 4000000 in
set_option maxRecDepth 100000 in
theorem law_loop {p : Program} {e : Env} {s : State} {m : MethodId} {below : List Frame} {meth : Method} {c : Code} (l : Launch) (hlst : l.stackTraces = false) {b L : Nat} {xs : Nat → Int32} (hL : L ≤ 3072) (C0 : l_At p s m meth c b L xs) (g : xG) (hK : xK g s) (hN : xNst s) (hT : xcT (fun q : Nat => s.heap.size ≤ q) s s.heap) (Q : State → Prop) (hE : l_End p l e s m below meth c b Q) : ∀ (k j : Nat) (σ : xS) (H : Heap) (locs : List Loc) (ls : Array Slot) (i : Int), 3072 - 6 * j < k → 6 * j ≤ L → i = 6 * (j : Int) → LI g σ → xP g σ H → xD g (fun q : Nat => s.heap.size ≤ q) σ → va_S (fun q : Nat => s.heap.size ≤ q) s.heap H locs → lv_has ls 8 [(0, .ref b), (1, .ref (g.2.2 0)), (2, .ref (g.2.2 37)), (3, .ref (g.2.2 50)), (4, .int (iI i))] → W p l e room_1 s m #[Value.ref b] below meth c H locs (60 + 64 * j) (2300 + 64 * j) Q (F0 m 23 ls []) := by
  obtain ⟨hx, hb, hml, hown, hts, hXs, hbl, hlocks⟩ := id C0
  have hA : ∀ q : Nat, s.heap.size ≤ q → (fun q : Nat => s.heap.size ≤ q) q := fun _ h => h
  have hbA : ¬ (fun q : Nat => s.heap.size ≤ q) b := Nat.not_le.mpr hbl
  intro k
  induction k with
  | zero =>
    intro j σ H locs ls i h; exact absurd h (Nat.not_lt_zero _)
  | succ k ih =>
    intro j σ H locs ls i hk hj hij hI hP hD hS hl
    refine lv_iload hx hb dL_law_23 (lv_at hl 4 rfl) ?_
    refine lv_aload_n hx hb dL_law_25 rfl (lv_at hl 0 rfl) ?_
    refine va_slen hx hb hXs hbl hbA hS dL_law_26 ?_
    rw [iI_ofNat]
    refine x_bipush (n := 6) hx hb (by decide +kernel) dL_law_27 ?_
    refine x_isub hx hb dL_law_29 ?_
    refine x_icmp_gt (tgt := 1229) hx hb (by omega) (by omega) dL_law_30 (by decide) (fun c1 => ?_) (fun c1 => ?_)
    · refine lv_iconst (v := 1) hx hb dL_law_1229 (by decide) ?_
      refine va_forget (fun q hq => hS.2.2 q hq) ?_
      refine W.widen (k := 601024) (n := 7293034) (by omega) (by omega) ?_
      exact hE H ls
    · have hi6 : i + 6 ≤ L := by omega
      have hj6 : 6 * (j + 1) ≤ L := by omega
      have hcl : 60 + 64 * j + 64 ≤ 601024 := by omega
      have hsl : 2300 + 64 * j + 64 ≤ 7293034 := by omega
      have hi0 : 0 ≤ i := by omega
      have hback : ∀ (σ2 : xS) (H : Heap) (locs : List Loc) (ls : Array Slot), LI g σ2 → xP g σ2 H → xD g (fun q : Nat => s.heap.size ≤ q) σ2 → va_S (fun q : Nat => s.heap.size ≤ q) s.heap H locs → lv_has ls 8 [(0, .ref b), (1, .ref (g.2.2 0)), (2, .ref (g.2.2 37)), (3, .ref (g.2.2 50)), (4, .int (iI i))] → W p l e room_1 s m #[Value.ref b] below meth c H locs (60 + 64 * j + 64) (2300 + 64 * j + 64) Q (F0 m 1223 ls []) := fun σ2 H locs ls hI hP hD hS hl => by
        refine x_iinc (k0 := 4) (lv' := [(4, .int (iI (i + 6))), (0, .ref b), (1, .ref (g.2.2 0)), (2, .ref (g.2.2 37)), (3, .ref (g.2.2 50))]) hx hb dL_law_1223 hl rfl (by decide) rfl (fun ls hl => ?_)
        refine lv_goto (tgt := 23) hx hb dL_law_1226 (by decide) ?_
        have e1 : 60 + 64 * j + 64 = 60 + 64 * (j + 1) := by omega
        have e2 : 2300 + 64 * j + 64 = 2300 + 64 * (j + 1) := by omega
        rw [e1, e2]
        exact ih (j + 1) σ2 H locs ls (i + 6) (by omega) hj6 (by omega) hI hP hD hS (lv_sub hl [1, 2, 3, 4, 0] rfl)
      refine lv_aload_n hx hb dL_law_33 rfl (lv_at hl 0 rfl) ?_
      refine lv_iload hx hb dL_law_34 (lv_at hl 4 rfl) ?_
      refine va_sld hx hb hXs hbl hbA hS (iI_in (by omega) (by omega) (by omega)) dL_law_36 ?_
      obtain ⟨v0, hv0, ev0⟩ := iI_of (xs (iI i).toNatClampNeg)
      rw [ev0]
      refine x_bipush (n := 63) hx hb (by decide +kernel) dL_law_37 ?_
      refine x_iand hx hb dL_law_39 ?_
      have hzr := iAnd_rng v0 63
      generalize iAnd v0 63 = z at hzr ⊢
      by_cases z0 : z = 0
      · refine x_tabIn (z := 0) (tgt := 188) hx hb z0 (by decide) dL_law_40 (by decide) (by decide) rfl (by decide) ?_
        exact lc_street l hlst hL C0 g hK hN hT Q σ H locs _ _ i hi0 hi6 hcl hsl hI hP hD hS ls hl hback
      by_cases z1 : z = 1
      · refine x_tabIn (z := 1) (tgt := 213) hx hb z1 (by decide) dL_law_40 (by decide) (by decide) rfl (by decide) ?_
        exact lc_house l hlst hL C0 g hK hN hT Q σ H locs _ _ i hi0 hi6 hcl hsl hI hP hD hS ls hl hback
      by_cases z2 : z = 2
      · refine x_tabIn (z := 2) (tgt := 250) hx hb z2 (by decide) dL_law_40 (by decide) (by decide) rfl (by decide) ?_
        exact lc_comes l hlst hL C0 g hK hN hT Q σ H locs _ _ i hi0 hi6 hcl hsl hI hP hD hS ls hl hback
      by_cases z3 : z = 3
      · refine x_tabIn (z := 3) (tgt := 287) hx hb z3 (by decide) dL_law_40 (by decide) (by decide) rfl (by decide) ?_
        exact lc_round l hlst hL C0 g hK hN hT Q σ H locs _ _ i hi0 hi6 hcl hsl hI hP hD hS ls hl hback
      by_cases z4 : z = 4
      · refine x_tabIn (z := 4) (tgt := 312) hx hb z4 (by decide) dL_law_40 (by decide) (by decide) rfl (by decide) ?_
        exact lc_give l hlst hL C0 g hK hN hT Q σ H locs _ _ i hi0 hi6 hcl hsl hI hP hD hS ls hl hback
      by_cases z5 : z = 5
      · refine x_tabIn (z := 5) (tgt := 361) hx hb z5 (by decide) dL_law_40 (by decide) (by decide) rfl (by decide) ?_
        exact lc_weeks l hlst hL C0 g hK hN hT Q σ H locs _ _ i hi0 hi6 hcl hsl hI hP hD hS ls hl hback
      by_cases z6 : z = 6
      · refine x_tabIn (z := 6) (tgt := 386) hx hb z6 (by decide) dL_law_40 (by decide) (by decide) rfl (by decide) ?_
        exact lc_lawful l hlst hL C0 g hK hN hT Q σ H locs _ _ i hi0 hi6 hcl hsl hI hP hD hS ls hl hback
      by_cases z7 : z = 7
      · refine x_tabIn (z := 7) (tgt := 399) hx hb z7 (by decide) dL_law_40 (by decide) (by decide) rfl (by decide) ?_
        exact lc_breaches l hlst hL C0 g hK hN hT Q σ H locs _ _ i hi0 hi6 hcl hsl hI hP hD hS ls hl hback
      by_cases z8 : z = 8
      · refine x_tabIn (z := 8) (tgt := 424) hx hb z8 (by decide) dL_law_40 (by decide) (by decide) rfl (by decide) ?_
        exact lc_held l hlst hL C0 g hK hN hT Q σ H locs _ _ i hi0 hi6 hcl hsl hI hP hD hS ls hl hback
      by_cases z9 : z = 9
      · refine x_tabIn (z := 9) (tgt := 449) hx hb z9 (by decide) dL_law_40 (by decide) (by decide) rfl (by decide) ?_
        exact lc_free l hlst hL C0 g hK hN hT Q σ H locs _ _ i hi0 hi6 hcl hsl hI hP hD hS ls hl hback
      by_cases z10 : z = 10
      · refine x_tabIn (z := 10) (tgt := 462) hx hb z10 (by decide) dL_law_40 (by decide) (by decide) rfl (by decide) ?_
        exact lc_partings l hlst hL C0 g hK hN hT Q σ H locs _ _ i hi0 hi6 hcl hsl hI hP hD hS ls hl hback
      by_cases z11 : z = 11
      · refine x_tabIn (z := 11) (tgt := 487) hx hb z11 (by decide) dL_law_40 (by decide) (by decide) rfl (by decide) ?_
        exact lc_uneven l hlst hL C0 g hK hN hT Q σ H locs _ _ i hi0 hi6 hcl hsl hI hP hD hS ls hl hback
      by_cases z12 : z = 12
      · refine x_tabIn (z := 12) (tgt := 512) hx hb z12 (by decide) dL_law_40 (by decide) (by decide) rfl (by decide) ?_
        exact lc_richest l hlst hL C0 g hK hN hT Q σ H locs _ _ i hi0 hi6 hcl hsl hI hP hD hS ls hl hback
      by_cases z13 : z = 13
      · refine x_tabIn (z := 13) (tgt := 549) hx hb z13 (by decide) dL_law_40 (by decide) (by decide) rfl (by decide) ?_
        exact lc_hands l hlst hL C0 g hK hN hT Q σ H locs _ _ i hi0 hi6 hcl hsl hI hP hD hS ls hl hback
      by_cases z14 : z = 14
      · refine x_tabIn (z := 14) (tgt := 562) hx hb z14 (by decide) dL_law_40 (by decide) (by decide) rfl (by decide) ?_
        exact lc_any l hlst hL C0 g hK hN hT Q σ H locs _ _ i hi0 hi6 hcl hsl hI hP hD hS ls hl hback
      by_cases z15 : z = 15
      · refine x_tabIn (z := 15) (tgt := 575) hx hb z15 (by decide) dL_law_40 (by decide) (by decide) rfl (by decide) ?_
        exact lc_change l hlst hL C0 g hK hN hT Q σ H locs _ _ i hi0 hi6 hcl hsl hI hP hD hS ls hl hback
      by_cases z16 : z = 16
      · refine x_tabIn (z := 16) (tgt := 600) hx hb z16 (by decide) dL_law_40 (by decide) (by decide) rfl (by decide) ?_
        exact lc_wedding l hlst hL C0 g hK hN hT Q σ H locs _ _ i hi0 hi6 hcl hsl hI hP hD hS ls hl hback
      by_cases z17 : z = 17
      · refine x_tabIn (z := 17) (tgt := 625) hx hb z17 (by decide) dL_law_40 (by decide) (by decide) rfl (by decide) ?_
        exact lc_worth l hlst hL C0 g hK hN hT Q σ H locs _ _ i hi0 hi6 hcl hsl hI hP hD hS ls hl hback
      by_cases z18 : z = 18
      · refine x_tabIn (z := 18) (tgt := 662) hx hb z18 (by decide) dL_law_40 (by decide) (by decide) rfl (by decide) ?_
        exact lc_fitting l hlst hL C0 g hK hN hT Q σ H locs _ _ i hi0 hi6 hcl hsl hI hP hD hS ls hl hback
      by_cases z19 : z = 19
      · refine x_tabIn (z := 19) (tgt := 699) hx hb z19 (by decide) dL_law_40 (by decide) (by decide) rfl (by decide) ?_
        exact lc_given l hlst hL C0 g hK hN hT Q σ H locs _ _ i hi0 hi6 hcl hsl hI hP hD hS ls hl hback
      by_cases z20 : z = 20
      · refine x_tabIn (z := 20) (tgt := 736) hx hb z20 (by decide) dL_law_40 (by decide) (by decide) rfl (by decide) ?_
        exact lc_tax l hlst hL C0 g hK hN hT Q σ H locs _ _ i hi0 hi6 hcl hsl hI hP hD hS ls hl hback
      by_cases z21 : z = 21
      · refine x_tabIn (z := 21) (tgt := 761) hx hb z21 (by decide) dL_law_40 (by decide) (by decide) rfl (by decide) ?_
        exact lc_seeded l hlst hL C0 g hK hN hT Q σ H locs _ _ i hi0 hi6 hcl hsl hI hP hD hS ls hl hback
      by_cases z22 : z = 22
      · refine x_tabIn (z := 22) (tgt := 798) hx hb z22 (by decide) dL_law_40 (by decide) (by decide) rfl (by decide) ?_
        exact lc_judge l hlst hL C0 g hK hN hT Q σ H locs _ _ i hi0 hi6 hcl hsl hI hP hD hS ls hl hback
      by_cases z23 : z = 23
      · refine x_tabIn (z := 23) (tgt := 823) hx hb z23 (by decide) dL_law_40 (by decide) (by decide) rfl (by decide) ?_
        exact lc_image l hlst hL C0 g hK hN hT Q σ H locs _ _ i hi0 hi6 hcl hsl hI hP hD hS ls hl hback
      by_cases z24 : z = 24
      · refine x_tabIn (z := 24) (tgt := 836) hx hb z24 (by decide) dL_law_40 (by decide) (by decide) rfl (by decide) ?_
        exact lc_restore l hlst hL C0 g hK hN hT Q σ H locs _ _ i hi0 hi6 hcl hsl hI hP hD hS ls hl hback
      by_cases z25 : z = 25
      · refine x_tabIn (z := 25) (tgt := 849) hx hb z25 (by decide) dL_law_40 (by decide) (by decide) rfl (by decide) ?_
        exact lc_count l hlst hL C0 g hK hN hT Q σ H locs _ _ i hi0 hi6 hcl hsl hI hP hD hS ls hl hback
      by_cases z26 : z = 26
      · refine x_tabIn (z := 26) (tgt := 874) hx hb z26 (by decide) dL_law_40 (by decide) (by decide) rfl (by decide) ?_
        exact lc_keep l hlst hL C0 g hK hN hT Q σ H locs _ _ i hi0 hi6 hcl hsl hI hP hD hS ls hl hback
      by_cases z27 : z = 27
      · refine x_tabIn (z := 27) (tgt := 935) hx hb z27 (by decide) dL_law_40 (by decide) (by decide) rfl (by decide) ?_
        exact lc_row l hlst hL C0 g hK hN hT Q σ H locs _ _ i hi0 hi6 hcl hsl hI hP hD hS ls hl hback
      by_cases z28 : z = 28
      · refine x_tabIn (z := 28) (tgt := 984) hx hb z28 (by decide) dL_law_40 (by decide) (by decide) rfl (by decide) ?_
        exact lc_put l hlst hL C0 g hK hN hT Q σ H locs _ _ i hi0 hi6 hcl hsl hI hP hD hS ls hl hback
      by_cases z29 : z = 29
      · refine x_tabIn (z := 29) (tgt := 1033) hx hb z29 (by decide) dL_law_40 (by decide) (by decide) rfl (by decide) ?_
        exact lc_element l hlst hL C0 g hK hN hT Q σ H locs _ _ i hi0 hi6 hcl hsl hI hP hD hS ls hl hback
      by_cases z30 : z = 30
      · refine x_tabIn (z := 30) (tgt := 1100) hx hb z30 (by decide) dL_law_40 (by decide) (by decide) rfl (by decide) ?_
        exact lc_copy l hlst hL C0 g hK hN hT Q σ H locs _ _ i hi0 hi6 hcl hsl hI hP hD hS ls hl hback
      by_cases z31 : z = 31
      · refine x_tabIn (z := 31) (tgt := 1173) hx hb z31 (by decide) dL_law_40 (by decide) (by decide) rfl (by decide) ?_
        exact lc_fee l hlst hL C0 g hK hN hT Q σ H locs _ _ i hi0 hi6 hcl hsl hI hP hD hS ls hl hback
      by_cases z32 : z = 32
      · refine x_tabIn (z := 32) (tgt := 1198) hx hb z32 (by decide) dL_law_40 (by decide) (by decide) rfl (by decide) ?_
        exact lc_toss l hlst hL C0 g hK hN hT Q σ H locs _ _ i hi0 hi6 hcl hsl hI hP hD hS ls hl hback
      refine x_tabOut (tgt := 1223) hx hb hzr dL_law_40 (by omega) (by decide) ?_
      refine W.widen (k := 60 + 64 * j + 64) (n := 2300 + 64 * j + 64) (by omega) (by omega) ?_
      exact hback σ H locs ls hI hP hD hS hl
