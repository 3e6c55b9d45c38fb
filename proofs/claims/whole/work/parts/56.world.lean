set_option maxHeartbeats 8000000 in
set_option maxRecDepth 100000 in
theorem l_world {g : xG} {A : Nat → Prop} {H : Heap} {al : Nat} {q11m : Nat} {q10m : Nat} {q9m : Nat} {q8m : Nat} {q7m : Nat} {q6m : Nat} {q5m : Nat} {q4m : Nat} {q3m : Nat} {q2m : Nat} {q1m : Nat} {q0m : Nat} {am : Nat} {q14x : Nat} {r14x : Nat → Nat} {q13x : Nat} {q12x : Nat} {q11x : Nat} {q0_10x : Nat} {q9x : Nat} {q4_8x : Nat} {r4_8x : Nat → Nat} {q3_8x : Nat} {q1_2_8x : Nat} {q0_2_8x : Nat} {q1_8x : Nat} {q0_8x : Nat} {q7x : Nat} {q6x : Nat} {q1_5x : Nat} {q0_5x : Nat} {q4x : Nat} {q1_3x : Nat} {q0_3x : Nat} {q2x : Nat} {q1_1x : Nat} {q0_1x : Nat} {q0x : Nat} {ax : Nat} (hP : va_P g.1 vwCl ([(al, .inl (g.2.1 3, 1, .inr (.inl (fun _ => jL 0)))), (q11m, eI g 8), (q10m, eI g 3), (q9m, eI g 8), (q8m, eI g 8), (q7m, eI g 800), (q6m, eI g 8), (q5m, eI g 8), (q4m, eI g 8), (q3m, eI g 29), (q2m, eI g 29), (q1m, eI g 29), (q0m, eI g 29), (am, .inr (12, [.ref q0m, .ref q1m, .ref q2m, .ref q3m, .ref q4m, .ref q5m, .ref q6m, .ref q7m, .ref q8m, .ref q9m, .int (iI 0), .int (iI 0), .int (iI 0), .int (iI 0), .int (iI 0), .int (iI 0), .ref q10m, .int (iI 0), .int (iI 0), .int (iI 0), .int (iI 0), .int (iI 0), .ref q11m, .int (iI 0)])), (q14x, eG g 8 r14x), (r14x 0, eI g 100), (r14x 1, eI g 100), (r14x 2, eI g 100), (r14x 3, eI g 100), (r14x 4, eI g 100), (r14x 5, eI g 100), (r14x 6, eI g 100), (r14x 7, eI g 100), (q13x, eI g 8), (q12x, .inl (g.2.1 0, 8, .inl (fun k => iI (zCopy (fun _ => (-1)) (fun _ => 0) ((8 : Nat) : Int) (k : Int))))), (q11x, eQ g 8), (q0_10x, eI g 0), (q9x, .inr (8, [.ref q0_10x, .int (iI 0), .int (iI 0)])), (q4_8x, eG g 6 r4_8x), (r4_8x 0, eI g 21), (r4_8x 1, eI g 21), (r4_8x 2, eI g 21), (r4_8x 3, eI g 21), (r4_8x 4, eI g 21), (r4_8x 5, eI g 21), (q3_8x, eI g 6), (q1_2_8x, eI g 9), (q0_2_8x, eQ g 9), (q1_8x, .inr (7, [.ref q0_2_8x, .ref q1_2_8x, .int (iI 0), .int (iI 0)])), (q0_8x, eI g 6), (q7x, .inr (5, [.int (iI 0), .int (iI 0), .int (iI 0), .int (iI 0), .ref q0_8x, .ref q1_8x, .ref q3_8x, .ref q4_8x])), (q6x, .inr (3, [.int (iI 0)])), (q1_5x, eI g 9), (q0_5x, eQ g 9), (q4x, .inr (7, [.ref q0_5x, .ref q1_5x, .int (iI 0), .int (iI 0)])), (q1_3x, eI g 9), (q0_3x, eQ g 9), (q2x, .inr (7, [.ref q0_3x, .ref q1_3x, .int (iI 0), .int (iI 0)])), (q1_1x, eI g 9), (q0_1x, eQ g 9), (q0x, .inr (7, [.ref q0_1x, .ref q1_1x, .int (iI 0), .int (iI 0)])), (ax, .inr (11, [.ref q0x, .ref q2x, .int (iI 0), .ref q4x, .ref q6x, .ref q7x, .ref q9x, .ref q11x, .ref q12x, .ref q13x, .ref q14x]))]) H) (hD : va_D A ([(al, .inl (g.2.1 3, 1, .inr (.inl (fun _ => jL 0)))), (q11m, eI g 8), (q10m, eI g 3), (q9m, eI g 8), (q8m, eI g 8), (q7m, eI g 800), (q6m, eI g 8), (q5m, eI g 8), (q4m, eI g 8), (q3m, eI g 29), (q2m, eI g 29), (q1m, eI g 29), (q0m, eI g 29), (am, .inr (12, [.ref q0m, .ref q1m, .ref q2m, .ref q3m, .ref q4m, .ref q5m, .ref q6m, .ref q7m, .ref q8m, .ref q9m, .int (iI 0), .int (iI 0), .int (iI 0), .int (iI 0), .int (iI 0), .int (iI 0), .ref q10m, .int (iI 0), .int (iI 0), .int (iI 0), .int (iI 0), .int (iI 0), .ref q11m, .int (iI 0)])), (q14x, eG g 8 r14x), (r14x 0, eI g 100), (r14x 1, eI g 100), (r14x 2, eI g 100), (r14x 3, eI g 100), (r14x 4, eI g 100), (r14x 5, eI g 100), (r14x 6, eI g 100), (r14x 7, eI g 100), (q13x, eI g 8), (q12x, .inl (g.2.1 0, 8, .inl (fun k => iI (zCopy (fun _ => (-1)) (fun _ => 0) ((8 : Nat) : Int) (k : Int))))), (q11x, eQ g 8), (q0_10x, eI g 0), (q9x, .inr (8, [.ref q0_10x, .int (iI 0), .int (iI 0)])), (q4_8x, eG g 6 r4_8x), (r4_8x 0, eI g 21), (r4_8x 1, eI g 21), (r4_8x 2, eI g 21), (r4_8x 3, eI g 21), (r4_8x 4, eI g 21), (r4_8x 5, eI g 21), (q3_8x, eI g 6), (q1_2_8x, eI g 9), (q0_2_8x, eQ g 9), (q1_8x, .inr (7, [.ref q0_2_8x, .ref q1_2_8x, .int (iI 0), .int (iI 0)])), (q0_8x, eI g 6), (q7x, .inr (5, [.int (iI 0), .int (iI 0), .int (iI 0), .int (iI 0), .ref q0_8x, .ref q1_8x, .ref q3_8x, .ref q4_8x])), (q6x, .inr (3, [.int (iI 0)])), (q1_5x, eI g 9), (q0_5x, eQ g 9), (q4x, .inr (7, [.ref q0_5x, .ref q1_5x, .int (iI 0), .int (iI 0)])), (q1_3x, eI g 9), (q0_3x, eQ g 9), (q2x, .inr (7, [.ref q0_3x, .ref q1_3x, .int (iI 0), .int (iI 0)])), (q1_1x, eI g 9), (q0_1x, eQ g 9), (q0x, .inr (7, [.ref q0_1x, .ref q1_1x, .int (iI 0), .int (iI 0)])), (ax, .inr (11, [.ref q0x, .ref q2x, .int (iI 0), .ref q4x, .ref q6x, .ref q7x, .ref q9x, .ref q11x, .ref q12x, .ref q13x, .ref q14x]))])) : ∃ (adr : Nat → Nat) (σ : xS), adr 0 = ax ∧ adr 37 = am ∧ adr 50 = al ∧ xP (g.1, g.2.1, adr) σ H ∧ xD (g.1, g.2.1, adr) A σ ∧ LI (g.1, g.2.1, adr) σ := by
  obtain ⟨adr, hadr⟩ : ∃ f : Nat → Nat, f = fun k => [ax, q0x, q0_1x, q1_1x, q2x, q0_3x, q1_3x, q4x, q0_5x, q1_5x, q1_8x, q0_2_8x, q1_2_8x, q7x, q0_8x, q3_8x, q4_8x, (r4_8x 0), (r4_8x 1), (r4_8x 2), (r4_8x 3), (r4_8x 4), (r4_8x 5), q9x, q0_10x, q11x, q12x, q13x, q14x, (r14x 0), (r14x 1), (r14x 2), (r14x 3), (r14x 4), (r14x 5), (r14x 6), (r14x 7), am, q0m, q1m, q2m, q3m, q4m, q5m, q6m, q7m, q8m, q9m, q10m, q11m, al].getD k 0 := ⟨_, rfl⟩
  have h0 : adr 0 = ax := by rw [hadr]; rfl
  have h1 : adr 1 = q0x := by rw [hadr]; rfl
  have h2 : adr 2 = q0_1x := by rw [hadr]; rfl
  have h3 : adr 3 = q1_1x := by rw [hadr]; rfl
  have h4 : adr 4 = q2x := by rw [hadr]; rfl
  have h5 : adr 5 = q0_3x := by rw [hadr]; rfl
  have h6 : adr 6 = q1_3x := by rw [hadr]; rfl
  have h7 : adr 7 = q4x := by rw [hadr]; rfl
  have h8 : adr 8 = q0_5x := by rw [hadr]; rfl
  have h9 : adr 9 = q1_5x := by rw [hadr]; rfl
  have h10 : adr 10 = q1_8x := by rw [hadr]; rfl
  have h11 : adr 11 = q0_2_8x := by rw [hadr]; rfl
  have h12 : adr 12 = q1_2_8x := by rw [hadr]; rfl
  have h13 : adr 13 = q7x := by rw [hadr]; rfl
  have h14 : adr 14 = q0_8x := by rw [hadr]; rfl
  have h15 : adr 15 = q3_8x := by rw [hadr]; rfl
  have h16 : adr 16 = q4_8x := by rw [hadr]; rfl
  have h17 : adr 17 = (r4_8x 0) := by rw [hadr]; rfl
  have h18 : adr 18 = (r4_8x 1) := by rw [hadr]; rfl
  have h19 : adr 19 = (r4_8x 2) := by rw [hadr]; rfl
  have h20 : adr 20 = (r4_8x 3) := by rw [hadr]; rfl
  have h21 : adr 21 = (r4_8x 4) := by rw [hadr]; rfl
  have h22 : adr 22 = (r4_8x 5) := by rw [hadr]; rfl
  have h23 : adr 23 = q9x := by rw [hadr]; rfl
  have h24 : adr 24 = q0_10x := by rw [hadr]; rfl
  have h25 : adr 25 = q11x := by rw [hadr]; rfl
  have h26 : adr 26 = q12x := by rw [hadr]; rfl
  have h27 : adr 27 = q13x := by rw [hadr]; rfl
  have h28 : adr 28 = q14x := by rw [hadr]; rfl
  have h29 : adr 29 = (r14x 0) := by rw [hadr]; rfl
  have h30 : adr 30 = (r14x 1) := by rw [hadr]; rfl
  have h31 : adr 31 = (r14x 2) := by rw [hadr]; rfl
  have h32 : adr 32 = (r14x 3) := by rw [hadr]; rfl
  have h33 : adr 33 = (r14x 4) := by rw [hadr]; rfl
  have h34 : adr 34 = (r14x 5) := by rw [hadr]; rfl
  have h35 : adr 35 = (r14x 6) := by rw [hadr]; rfl
  have h36 : adr 36 = (r14x 7) := by rw [hadr]; rfl
  have h37 : adr 37 = am := by rw [hadr]; rfl
  have h38 : adr 38 = q0m := by rw [hadr]; rfl
  have h39 : adr 39 = q1m := by rw [hadr]; rfl
  have h40 : adr 40 = q2m := by rw [hadr]; rfl
  have h41 : adr 41 = q3m := by rw [hadr]; rfl
  have h42 : adr 42 = q4m := by rw [hadr]; rfl
  have h43 : adr 43 = q5m := by rw [hadr]; rfl
  have h44 : adr 44 = q6m := by rw [hadr]; rfl
  have h45 : adr 45 = q7m := by rw [hadr]; rfl
  have h46 : adr 46 = q8m := by rw [hadr]; rfl
  have h47 : adr 47 = q9m := by rw [hadr]; rfl
  have h48 : adr 48 = q10m := by rw [hadr]; rfl
  have h49 : adr 49 = q11m := by rw [hadr]; rfl
  have h50 : adr 50 = al := by rw [hadr]; rfl
  have e28 : vp_cell (g.2.1 2) (8, .inr (.inr (.inr (.inr (fun i => if i < 8 then some (r14x i) else none))))) = vp_cell (g.2.1 2) (8, .inr (.inr (.inr (.inr (fun k : Nat => some (adr (29 + (k : Int).toNat))))))) := by
    rw [vp_cell_q, vp_cell_q]
    refine l_ofnC (fun j hj => ?_)
    have hj9 : j = 0 ∨ j = 1 ∨ j = 2 ∨ j = 3 ∨ j = 4 ∨ j = 5 ∨ j = 6 ∨ j = 7 := by omega
    rcases hj9 with rfl | rfl | rfl | rfl | rfl | rfl | rfl | rfl <;> (rw [hadr]; rfl)
  have e16 : vp_cell (g.2.1 2) (6, .inr (.inr (.inr (.inr (fun i => if i < 6 then some (r4_8x i) else none))))) = vp_cell (g.2.1 2) (6, .inr (.inr (.inr (.inr (fun k : Nat => some (adr (17 + (k : Int).toNat))))))) := by
    rw [vp_cell_q, vp_cell_q]
    refine l_ofnC (fun j hj => ?_)
    have hj9 : j = 0 ∨ j = 1 ∨ j = 2 ∨ j = 3 ∨ j = 4 ∨ j = 5 := by omega
    rcases hj9 with rfl | rfl | rfl | rfl | rfl | rfl <;> (rw [hadr]; rfl)
  have hP1 := l_repl hP hD (p := 14) rfl e28
  have hD1 := hD.set (p := 14) (e := .inl (g.2.1 2, 8, .inr (.inr (.inr (.inr (fun k : Nat => some (adr (29 + (k : Int).toNat)))))))) rfl
  have hP2 := l_repl hP1 hD1 (p := 28) rfl e16
  have hD2 := hD1.set (p := 28) (e := .inl (g.2.1 2, 6, .inr (.inr (.inr (.inr (fun k : Nat => some (adr (17 + (k : Int).toNat)))))))) rfl
  obtain ⟨M, hM⟩ : ∃ f : xM, f = fun k => [.inr (11, [.ref q0x, .ref q2x, .int (iI 0), .ref q4x, .ref q6x, .ref q7x, .ref q9x, .ref q11x, .ref q12x, .ref q13x, .ref q14x]), .inr (7, [.ref q0_1x, .ref q1_1x, .int (iI 0), .int (iI 0)]), eQ g 9, eI g 9, .inr (7, [.ref q0_3x, .ref q1_3x, .int (iI 0), .int (iI 0)]), eQ g 9, eI g 9, .inr (7, [.ref q0_5x, .ref q1_5x, .int (iI 0), .int (iI 0)]), eQ g 9, eI g 9, .inr (7, [.ref q0_2_8x, .ref q1_2_8x, .int (iI 0), .int (iI 0)]), eQ g 9, eI g 9, .inr (5, [.int (iI 0), .int (iI 0), .int (iI 0), .int (iI 0), .ref q0_8x, .ref q1_8x, .ref q3_8x, .ref q4_8x]), eI g 6, eI g 6, .inl (g.2.1 2, 6, .inr (.inr (.inr (.inr (fun k : Nat => some (adr (17 + (k : Int).toNat))))))), eI g 21, eI g 21, eI g 21, eI g 21, eI g 21, eI g 21, .inr (8, [.ref q0_10x, .int (iI 0), .int (iI 0)]), eI g 0, eQ g 8, .inl (g.2.1 0, 8, .inl (fun k => iI (zCopy (fun _ => (-1)) (fun _ => 0) ((8 : Nat) : Int) (k : Int)))), eI g 8, .inl (g.2.1 2, 8, .inr (.inr (.inr (.inr (fun k : Nat => some (adr (29 + (k : Int).toNat))))))), eI g 100, eI g 100, eI g 100, eI g 100, eI g 100, eI g 100, eI g 100, eI g 100, .inr (12, [.ref q0m, .ref q1m, .ref q2m, .ref q3m, .ref q4m, .ref q5m, .ref q6m, .ref q7m, .ref q8m, .ref q9m, .int (iI 0), .int (iI 0), .int (iI 0), .int (iI 0), .int (iI 0), .int (iI 0), .ref q10m, .int (iI 0), .int (iI 0), .int (iI 0), .int (iI 0), .int (iI 0), .ref q11m, .int (iI 0)]), eI g 29, eI g 29, eI g 29, eI g 29, eI g 8, eI g 8, eI g 8, eI g 800, eI g 8, eI g 8, eI g 3, eI g 8, .inl (g.2.1 3, 1, .inr (.inl (fun _ => jL 0)))].getD k (.inr (0, [])) := ⟨_, rfl⟩
  have hw : xW (g.1, g.2.1, adr) (M, [q6x], (fun _ => 0), (fun _ => 0)) = [(ax, .inr (11, [.ref q0x, .ref q2x, .int (iI 0), .ref q4x, .ref q6x, .ref q7x, .ref q9x, .ref q11x, .ref q12x, .ref q13x, .ref q14x])), (q0x, .inr (7, [.ref q0_1x, .ref q1_1x, .int (iI 0), .int (iI 0)])), (q0_1x, eQ g 9), (q1_1x, eI g 9), (q2x, .inr (7, [.ref q0_3x, .ref q1_3x, .int (iI 0), .int (iI 0)])), (q0_3x, eQ g 9), (q1_3x, eI g 9), (q4x, .inr (7, [.ref q0_5x, .ref q1_5x, .int (iI 0), .int (iI 0)])), (q0_5x, eQ g 9), (q1_5x, eI g 9), (q1_8x, .inr (7, [.ref q0_2_8x, .ref q1_2_8x, .int (iI 0), .int (iI 0)])), (q0_2_8x, eQ g 9), (q1_2_8x, eI g 9), (q7x, .inr (5, [.int (iI 0), .int (iI 0), .int (iI 0), .int (iI 0), .ref q0_8x, .ref q1_8x, .ref q3_8x, .ref q4_8x])), (q0_8x, eI g 6), (q3_8x, eI g 6), (q4_8x, .inl (g.2.1 2, 6, .inr (.inr (.inr (.inr (fun k : Nat => some (adr (17 + (k : Int).toNat)))))))), ((r4_8x 0), eI g 21), ((r4_8x 1), eI g 21), ((r4_8x 2), eI g 21), ((r4_8x 3), eI g 21), ((r4_8x 4), eI g 21), ((r4_8x 5), eI g 21), (q9x, .inr (8, [.ref q0_10x, .int (iI 0), .int (iI 0)])), (q0_10x, eI g 0), (q11x, eQ g 8), (q12x, .inl (g.2.1 0, 8, .inl (fun k => iI (zCopy (fun _ => (-1)) (fun _ => 0) ((8 : Nat) : Int) (k : Int))))), (q13x, eI g 8), (q14x, .inl (g.2.1 2, 8, .inr (.inr (.inr (.inr (fun k : Nat => some (adr (29 + (k : Int).toNat)))))))), ((r14x 0), eI g 100), ((r14x 1), eI g 100), ((r14x 2), eI g 100), ((r14x 3), eI g 100), ((r14x 4), eI g 100), ((r14x 5), eI g 100), ((r14x 6), eI g 100), ((r14x 7), eI g 100), (am, .inr (12, [.ref q0m, .ref q1m, .ref q2m, .ref q3m, .ref q4m, .ref q5m, .ref q6m, .ref q7m, .ref q8m, .ref q9m, .int (iI 0), .int (iI 0), .int (iI 0), .int (iI 0), .int (iI 0), .int (iI 0), .ref q10m, .int (iI 0), .int (iI 0), .int (iI 0), .int (iI 0), .int (iI 0), .ref q11m, .int (iI 0)])), (q0m, eI g 29), (q1m, eI g 29), (q2m, eI g 29), (q3m, eI g 29), (q4m, eI g 8), (q5m, eI g 8), (q6m, eI g 8), (q7m, eI g 800), (q8m, eI g 8), (q9m, eI g 8), (q10m, eI g 3), (q11m, eI g 8), (al, .inl (g.2.1 3, 1, .inr (.inl (fun _ => jL 0)))), (q6x, .inr (3, [.int (iI 0)]))] := by
    rw [hM]
    show (List.range 51).map (fun i => (adr i, _)) ++ _ = _
    rw [hadr]
    rfl
  have hP3 : xP (g.1, g.2.1, adr) (M, [q6x], (fun _ => 0), (fun _ => 0)) H := by
    unfold xP
    rw [hw]
    exact hP2.sub [51, 50, 49, 48, 47, 46, 45, 44, 43, 42, 38, 37, 36, 40, 39, 35, 28, 29, 30, 31, 32, 33, 34, 27, 26, 25, 24, 23, 14, 15, 16, 17, 18, 19, 20, 21, 22, 13, 12, 11, 10, 9, 8, 7, 6, 5, 4, 3, 2, 1, 0, 41] rfl
  have hD3 : xD (g.1, g.2.1, adr) A (M, [q6x], (fun _ => 0), (fun _ => 0)) := by
    unfold xD
    rw [hw]
    exact hD2.sub [51, 50, 49, 48, 47, 46, 45, 44, 43, 42, 38, 37, 36, 40, 39, 35, 28, 29, 30, 31, 32, 33, 34, 27, 26, 25, 24, 23, 14, 15, 16, 17, 18, 19, 20, 21, 22, 13, 12, 11, 10, 9, 8, 7, 6, 5, 4, 3, 2, 1, 0, 41] (by decide) rfl
  refine ⟨adr, _, h0, h37, h50, hP3, hD3, ?_⟩
  have m0 : M 0 = .inr (11, [.ref (adr 1), .ref (adr 4), .int (iI 0), .ref (adr 7), .ref q6x, .ref (adr 13), .ref (adr 23), .ref (adr 25), .ref (adr 26), .ref (adr 27), .ref (adr 28)]) := by rw [h1, h4, h7, h13, h23, h25, h26, h27, h28, hM]; rfl
  have m1 : M 1 = .inr (7, [.ref (adr 2), .ref (adr 3), .int (iI 0), .int (iI 0)]) := by rw [h2, h3, hM]; rfl
  have m2 : M 2 = eQ g 9 := by rw [hM]; rfl
  have m3 : M 3 = eI g 9 := by rw [hM]; rfl
  have m4 : M 4 = .inr (7, [.ref (adr 5), .ref (adr 6), .int (iI 0), .int (iI 0)]) := by rw [h5, h6, hM]; rfl
  have m5 : M 5 = eQ g 9 := by rw [hM]; rfl
  have m6 : M 6 = eI g 9 := by rw [hM]; rfl
  have m7 : M 7 = .inr (7, [.ref (adr 8), .ref (adr 9), .int (iI 0), .int (iI 0)]) := by rw [h8, h9, hM]; rfl
  have m8 : M 8 = eQ g 9 := by rw [hM]; rfl
  have m9 : M 9 = eI g 9 := by rw [hM]; rfl
  have m10 : M 10 = .inr (7, [.ref (adr 11), .ref (adr 12), .int (iI 0), .int (iI 0)]) := by rw [h11, h12, hM]; rfl
  have m11 : M 11 = eQ g 9 := by rw [hM]; rfl
  have m12 : M 12 = eI g 9 := by rw [hM]; rfl
  have m13 : M 13 = .inr (5, [.int (iI 0), .int (iI 0), .int (iI 0), .int (iI 0), .ref (adr 14), .ref (adr 10), .ref (adr 15), .ref (adr 16)]) := by rw [h10, h14, h15, h16, hM]; rfl
  have m14 : M 14 = eI g 6 := by rw [hM]; rfl
  have m15 : M 15 = eI g 6 := by rw [hM]; rfl
  have m16 : M 16 = .inl (g.2.1 2, 6, .inr (.inr (.inr (.inr (fun k : Nat => some (adr (17 + (k : Int).toNat))))))) := by rw [hM]; rfl
  have m17 : M 17 = eI g 21 := by rw [hM]; rfl
  have m18 : M 18 = eI g 21 := by rw [hM]; rfl
  have m19 : M 19 = eI g 21 := by rw [hM]; rfl
  have m20 : M 20 = eI g 21 := by rw [hM]; rfl
  have m21 : M 21 = eI g 21 := by rw [hM]; rfl
  have m22 : M 22 = eI g 21 := by rw [hM]; rfl
  have m23 : M 23 = .inr (8, [.ref (adr 24), .int (iI 0), .int (iI 0)]) := by rw [h24, hM]; rfl
  have m24 : M 24 = eI g 0 := by rw [hM]; rfl
  have m25 : M 25 = eQ g 8 := by rw [hM]; rfl
  have m26 : M 26 = .inl (g.2.1 0, 8, .inl (fun k => iI (zCopy (fun _ => (-1)) (fun _ => 0) ((8 : Nat) : Int) (k : Int)))) := by rw [hM]; rfl
  have m27 : M 27 = eI g 8 := by rw [hM]; rfl
  have m28 : M 28 = .inl (g.2.1 2, 8, .inr (.inr (.inr (.inr (fun k : Nat => some (adr (29 + (k : Int).toNat))))))) := by rw [hM]; rfl
  have m29 : M 29 = eI g 100 := by rw [hM]; rfl
  have m30 : M 30 = eI g 100 := by rw [hM]; rfl
  have m31 : M 31 = eI g 100 := by rw [hM]; rfl
  have m32 : M 32 = eI g 100 := by rw [hM]; rfl
  have m33 : M 33 = eI g 100 := by rw [hM]; rfl
  have m34 : M 34 = eI g 100 := by rw [hM]; rfl
  have m35 : M 35 = eI g 100 := by rw [hM]; rfl
  have m36 : M 36 = eI g 100 := by rw [hM]; rfl
  have m37 : M 37 = .inr (12, [.ref (adr 38), .ref (adr 39), .ref (adr 40), .ref (adr 41), .ref (adr 42), .ref (adr 43), .ref (adr 44), .ref (adr 45), .ref (adr 46), .ref (adr 47), .int (iI 0), .int (iI 0), .int (iI 0), .int (iI 0), .int (iI 0), .int (iI 0), .ref (adr 48), .int (iI 0), .int (iI 0), .int (iI 0), .int (iI 0), .int (iI 0), .ref (adr 49), .int (iI 0)]) := by rw [h38, h39, h40, h41, h42, h43, h44, h45, h46, h47, h48, h49, hM]; rfl
  have m38 : M 38 = eI g 29 := by rw [hM]; rfl
  have m39 : M 39 = eI g 29 := by rw [hM]; rfl
  have m40 : M 40 = eI g 29 := by rw [hM]; rfl
  have m41 : M 41 = eI g 29 := by rw [hM]; rfl
  have m42 : M 42 = eI g 8 := by rw [hM]; rfl
  have m43 : M 43 = eI g 8 := by rw [hM]; rfl
  have m44 : M 44 = eI g 8 := by rw [hM]; rfl
  have m45 : M 45 = eI g 800 := by rw [hM]; rfl
  have m46 : M 46 = eI g 8 := by rw [hM]; rfl
  have m47 : M 47 = eI g 8 := by rw [hM]; rfl
  have m48 : M 48 = eI g 3 := by rw [hM]; rfl
  have m49 : M 49 = eI g 8 := by rw [hM]; rfl
  have m50 : M 50 = .inl (g.2.1 3, 1, .inr (.inl (fun _ => jL 0))) := by rw [hM]; rfl
  have hSo : ∀ d : Int, 0 ≤ d → d ≤ 7 → (zCopy (fun _ => (-1)) (fun _ => 0) ((8 : Nat) : Int)) d = -1 := fun d d0 d1 => zCopy_in d0 (by omega)
  have r0 : ∀ k : Int, inR ((fun _ => 0 : Int → Int) k) := fun _ => ⟨by show -2147483648 ≤ (0 : Int); omega, by show (0 : Int) < 2147483648; omega⟩
  have st0 : ∀ b : Nat, StOk (M, [q6x], (fun _ => 0), (fun _ => 0)) 0 0 (fun _ => 0) (fun _ => none) := fun _ => ⟨by omega, by omega, Or.inl rfl, r0, fun i a h => (by cases h), fun i a h => (by omega)⟩
  have sm0 : SmOk (fun _ => 0) := ⟨r0, by show 0 ≤ (0 : Int) ∧ (0 : Int) ≤ 9; omega, Or.inl rfl, fun i a h => by (have h : i < 0 := h; omega)⟩
  have xs0 : xSame (M, [q6x], (fun _ => 0), (fun _ => 0)) 0 0 (fun _ => 0) (fun _ => none) (fun _ => 0) := ⟨rfl, rfl, fun i a h => (by omega)⟩
  refine ⟨q6x, 0, 0, 0, fun _ => 0, fun _ => none, 0, 0, fun _ => 0, fun _ => none, fun _ => none, (zCopy (fun _ => (-1)) (fun _ => 0) ((8 : Nat) : Int)), fun _ => 0, (fun _ _ => 0), fun _ => 0, fun _ => 0, fun _ => 0, fun _ => 0, fun _ => 0, fun _ => 0, fun _ => 0, fun _ => 0, fun _ => 0, ?_, ?_, ?_, ?_⟩
  · refine ⟨m0, ⟨List.mem_singleton.mpr rfl, rfl, rfl⟩, Or.inl rfl, fun a _ => ⟨by show (0 : Nat) < 8; omega, by show (0 : Int) ≤ 0; omega, by show (0 : Int) ≤ 9; omega⟩, ⟨⟨m1, m2, m3⟩, st0 0, by omega⟩, ⟨⟨m4, m5, m6⟩, st0 0, by omega⟩, ⟨0, 0, fun _ => 0, fun _ => none, ⟨m7, m8, m9⟩, st0 0⟩, ⟨0, 0, 0, 0, 0, 0, fun _ => 0, fun _ => none, fun _ => 0, fun _ => 0, (fun _ _ => 0), m13, ⟨m10, m11, m12⟩, st0 0, m14, m15, m16, fun d d0 d1 => ?_, fun d k => r0 k⟩, ⟨24, 0, 0, m23⟩, ⟨m25, m26, m27, ⟨zCopy_rng (fun _ => (⟨by decide, by decide⟩ : inR (-1))) r0, r0, fun i a h => (by cases h), fun d d0 d1 => Or.inl (hSo d d0 d1)⟩, m28, fun d d0 d1 => ?_, fun d k => r0 k⟩⟩
    · have hd : d = 0 ∨ d = 1 ∨ d = 2 ∨ d = 3 ∨ d = 4 ∨ d = 5 := by omega
      rcases hd with rfl | rfl | rfl | rfl | rfl | rfl
      · exact m17
      · exact m18
      · exact m19
      · exact m20
      · exact m21
      · exact m22
    · have hd : d = 0 ∨ d = 1 ∨ d = 2 ∨ d = 3 ∨ d = 4 ∨ d = 5 ∨ d = 6 ∨ d = 7 := by omega
      rcases hd with rfl | rfl | rfl | rfl | rfl | rfl | rfl | rfl
      · exact m29
      · exact m30
      · exact m31
      · exact m32
      · exact m33
      · exact m34
      · exact m35
      · exact m36
  · exact ⟨m37, ⟨m38, sm0, by show (0 : Int) ≤ 8; omega⟩, ⟨m39, r0⟩, ⟨fun _ => 0, m40⟩, ⟨fun _ => 0, m41⟩, ⟨m42, m43, m44, m45, m46, m47⟩, ⟨r0, r0, r0, r0, r0, r0, fun d _ _ => Or.inl rfl⟩, ⟨fun _ => 0, m48, r0⟩, fun _ => 0, m49⟩
  · exact ⟨_, m50⟩
  · refine ⟨xs0, rfl, fun h => by omega, fun d d0 d1 => ⟨?_, fun h => ?_, fun h => ?_⟩⟩
    · show kpO none ((zCopy (fun _ => (-1)) (fun _ => 0) ((8 : Nat) : Int)) d) = 0
      rw [hSo d d0 d1]; rfl
    · have h : (0 : Int) = 1 := h
      omega
    · have h : (0 : Int) = 2 := h
      omega
