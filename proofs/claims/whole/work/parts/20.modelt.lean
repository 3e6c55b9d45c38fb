/-! texts: the bytes, the digits behind a place, a statement -/
def zC (El : Int → Int) (b z p : Int) : Int := if p < z then El (b + p) else -1000
def zCnt (C : Int → Int) : Int → Nat → Int
  | _, 0 => 0
  | p, k + 1 => if 48 ≤ C p ∧ C p ≤ 57 then 1 + zCnt C (p + 1) k else 0
def zVl (C : Int → Int) (p : Int) : Nat → Int
  | 0 => 0
  | k + 1 => 10 * zVl C p k + C (p + (k : Int)) - 48
theorem zCnt_rng (C : Int → Int) : ∀ (k : Nat) (p : Int), 0 ≤ zCnt C p k ∧ zCnt C p k ≤ k
  | 0, p => by show 0 ≤ (0 : Int) ∧ (0 : Int) ≤ ((0 : Nat) : Int); omega
  | k + 1, p => by
    have := zCnt_rng C k (p + 1)
    show 0 ≤ (if 48 ≤ C p ∧ C p ≤ 57 then 1 + zCnt C (p + 1) k else 0) ∧ (if 48 ≤ C p ∧ C p ≤ 57 then 1 + zCnt C (p + 1) k else 0) ≤ ((k + 1 : Nat) : Int)
    split <;> omega
theorem zCnt_y {C : Int → Int} {p : Int} (k : Nat) (h : 48 ≤ C p ∧ C p ≤ 57) : zCnt C p (k + 1) = 1 + zCnt C (p + 1) k := if_pos h
theorem zCnt_n {C : Int → Int} {p : Int} (k : Nat) (h : ¬ (48 ≤ C p ∧ C p ≤ 57)) : zCnt C p k = 0 := by
  cases k with
  | zero => rfl
  | succ k => exact if_neg h
theorem zVl_succ (C : Int → Int) (p : Int) {k : Int} (h : 0 ≤ k) : zVl C p (k + 1).toNat = 10 * zVl C p k.toNat + C (p + k) - 48 := by
  have e : (k + 1).toNat = k.toNat + 1 := by omega
  rw [e]
  show 10 * zVl C p k.toNat + C (p + ((k.toNat : Nat) : Int)) - 48 = _
  rw [Int.toNat_of_nonneg h]
theorem zCnt_1 (C : Int → Int) (p : Int) : (zCnt C p 1 = 1 ∧ (∀ k, zCnt C p (k + 1) = 1 + zCnt C (p + 1) k) ∧ 48 ≤ C p ∧ C p ≤ 57) ∨ (zCnt C p 1 = 0 ∧ ∀ k, zCnt C p k = 0) := by
  by_cases h : 48 ≤ C p ∧ C p ≤ 57
  · left
    refine ⟨?_, fun k => zCnt_y k h, h.1, h.2⟩
    rw [zCnt_y 0 h]; rfl
  · right; exact ⟨zCnt_n 1 h, fun k => zCnt_n k h⟩
theorem zVl_1 {C : Int → Int} {p : Int} (h : zCnt C p 1 = 1) : zVl C p (zCnt C p 1).toNat = C p - 48 := by
  rw [h]
  show 10 * 0 + C (p + ((0 : Nat) : Int)) - 48 = _
  rw [show p + ((0 : Nat) : Int) = p by omega]; omega
abbrev zLet (c : Int) : Prop := c = 104 ∨ c = 114 ∨ c = 103 ∨ c = 109 ∨ c = 117
def zMx (c : Int) : Nat := if c = 104 ∨ c = 103 then 6 else if c = 109 then 2 else if c = 114 then 1 else 0
def zFs (c : Int) : Int := if c = 104 ∨ c = 103 then 3 else if c = 109 then 2 else if c = 114 then 1 else 0
def zEnd (C : Int → Int) (p : Int) : Int := if zLet (C p) then p + 1 + zCnt C (p + 1) (zMx (C p)) else p
abbrev zStOk (C : Int → Int) (p : Int) : Prop := zLet (C p) ∧ zFs (C p) ≤ zCnt C (p + 1) (zMx (C p)) ∧ C (zEnd C p) = 59
theorem zEnd_no {C : Int → Int} {p : Int} (h : ¬ zLet (C p)) : zEnd C p = p ∧ ¬ zStOk C p := ⟨if_neg h, fun x => h x.1⟩
theorem zEnd_u {C : Int → Int} {p : Int} (h : C p = 117) : zEnd C p = p + 1 ∧ (zStOk C p ↔ C (p + 1) = 59) := by
  have e : zEnd C p = p + 1 := by
    unfold zEnd zLet zMx; rw [h, if_pos (by omega), if_neg (by omega), if_neg (by omega), if_neg (by omega)]
    show p + 1 + 0 = _; omega
  refine ⟨e, ?_⟩
  unfold zStOk zLet zFs zMx
  rw [e, h, if_neg (by omega), if_neg (by omega), if_neg (by omega), if_neg (by omega), if_neg (by omega), if_neg (by omega)]
  exact ⟨fun x => x.2.2, fun x => ⟨by omega, Int.le_refl _, x⟩⟩
theorem zEnd_r {C : Int → Int} {p : Int} (h : C p = 114) : zEnd C p = p + 1 + zCnt C (p + 1) 1 ∧ (zStOk C p ↔ zCnt C (p + 1) 1 = 1 ∧ C (p + 2) = 59) := by
  have e : zEnd C p = p + 1 + zCnt C (p + 1) 1 := by
    unfold zEnd zLet zMx; rw [h, if_pos (by omega), if_neg (by omega), if_neg (by omega), if_pos rfl]
  refine ⟨e, ?_⟩
  have hr := zCnt_rng C 1 (p + 1)
  unfold zStOk zLet zFs zMx
  rw [e, h, if_neg (by omega), if_neg (by omega), if_pos rfl, if_neg (by omega), if_neg (by omega), if_pos rfl]
  refine ⟨fun x => ⟨by omega, ?_⟩, fun x => ⟨by omega, by omega, ?_⟩⟩
  · have := x.2.2; rwa [show p + 1 + zCnt C (p + 1) 1 = p + 2 by omega] at this
  · rw [show p + 1 + zCnt C (p + 1) 1 = p + 2 by omega]; exact x.2
theorem zEnd_m {C : Int → Int} {p : Int} (h : C p = 109) : (zCnt C (p + 1) 1 = 0 → zEnd C p = p + 1 ∧ ¬ zStOk C p) ∧ (zCnt C (p + 1) 1 = 1 → zEnd C p = p + 2 + zCnt C (p + 2) 1 ∧ (zStOk C p ↔ zCnt C (p + 2) 1 = 1 ∧ C (p + 3) = 59)) := by
  have e : zEnd C p = p + 1 + zCnt C (p + 1) 2 := by
    unfold zEnd zLet zMx; rw [h, if_pos (by omega), if_neg (by omega), if_pos rfl]
  have o : zStOk C p ↔ 2 ≤ zCnt C (p + 1) 2 ∧ C (zEnd C p) = 59 := by
    unfold zStOk zLet zFs zMx
    rw [h, if_neg (by omega), if_pos rfl, if_neg (by omega), if_pos rfl]
    exact ⟨fun x => x.2, fun x => ⟨by omega, x⟩⟩
  have hr := zCnt_rng C 1 (p + 2)
  rcases zCnt_1 C (p + 1) with q | q
  · refine ⟨fun x => by omega, fun _ => ?_⟩
    have e2 : zCnt C (p + 1) 2 = 1 + zCnt C (p + 1 + 1) 1 := q.2.1 1
    rw [show p + 1 + 1 = p + 2 by omega] at e2
    refine ⟨by omega, ?_⟩
    rw [o]
    refine ⟨fun x => ⟨by omega, ?_⟩, fun x => ⟨by omega, ?_⟩⟩
    · have := x.2; rwa [show zEnd C p = p + 3 by omega] at this
    · rw [show zEnd C p = p + 3 by omega]; exact x.2
  · refine ⟨fun _ => ?_, fun x => by omega⟩
    have e2 : zCnt C (p + 1) 2 = 0 := q.2 2
    exact ⟨by omega, fun x => by have := (o.mp x).1; omega⟩
theorem zEnd_h {C : Int → Int} {p : Int} (h : C p = 104 ∨ C p = 103) : (zCnt C (p + 1) 1 = 0 → zEnd C p = p + 1 ∧ ¬ zStOk C p) ∧ (zCnt C (p + 1) 1 = 1 → zCnt C (p + 2) 1 = 0 → zEnd C p = p + 2 ∧ ¬ zStOk C p) ∧ (zCnt C (p + 1) 1 = 1 → zCnt C (p + 2) 1 = 1 → zEnd C p = p + 3 + zCnt C (p + 3) 4 ∧ (zStOk C p ↔ 0 < zCnt C (p + 3) 4 ∧ C (p + 3 + zCnt C (p + 3) 4) = 59)) := by
  have e : zEnd C p = p + 1 + zCnt C (p + 1) 6 := by
    unfold zEnd zLet zMx; rw [if_pos (by omega), if_pos h]
  have o : zStOk C p ↔ 3 ≤ zCnt C (p + 1) 6 ∧ C (zEnd C p) = 59 := by
    unfold zStOk zLet zFs zMx
    rw [if_pos h, if_pos h]
    exact ⟨fun x => x.2, fun x => ⟨by omega, x⟩⟩
  have hr := zCnt_rng C 4 (p + 3)
  rcases zCnt_1 C (p + 1) with q | q
  · have e2 : zCnt C (p + 1) 6 = 1 + zCnt C (p + 1 + 1) 5 := q.2.1 5
    rw [show p + 1 + 1 = p + 2 by omega] at e2
    refine ⟨fun x => by omega, fun _ x => ?_, fun _ x => ?_⟩
    · rcases zCnt_1 C (p + 2) with q2 | q2
      · omega
      · have e3 : zCnt C (p + 2) 5 = 0 := q2.2 5
        exact ⟨by omega, fun y => by have := (o.mp y).1; omega⟩
    · rcases zCnt_1 C (p + 2) with q2 | q2
      · have e3 : zCnt C (p + 2) 5 = 1 + zCnt C (p + 2 + 1) 4 := q2.2.1 4
        rw [show p + 2 + 1 = p + 3 by omega] at e3
        have ee : zEnd C p = p + 3 + zCnt C (p + 3) 4 := by omega
        refine ⟨ee, ?_⟩
        rw [o, ee]
        exact ⟨fun y => ⟨by omega, y.2⟩, fun y => ⟨by omega, y.2⟩⟩
      · omega
  · have e2 : zCnt C (p + 1) 6 = 0 := q.2 6
    exact ⟨fun _ => ⟨by omega, fun x => by have := (o.mp x).1; omega⟩, fun x => by omega, fun x => by omega⟩

set_option maxHeartbeats 4000000 in
set_option maxRecDepth 100000 in
theorem c_X12_here (l : Launch) (g : xG) (σ : xS) (ov : Nat → Int) (hob : MObj g σ.1 ov) (El : Int → Int) (h45 : MArr g σ.1 45 800 El) (hEl : ∀ k, inR (El k)) (b z p9 : Int) (h13 : ov 13 = b) (h14 : ov 14 = z) (h12 : ov 12 = p9) (hbz : 0 ≤ b ∧ b ≤ 700 ∧ (0 ≤ z ∧ z ≤ 100) ∧ 0 ≤ p9 ∧ p9 ≤ 250) : Met l yX12_here wsX12_here ({ frames := 1, cells := 0, slots := 0, locals := 32 }) (va_Pc [.ref (g.2.2 37)] (xPre g σ)) (x_Si (fun r => r = zC El b z p9 ∧ True)) (0) (0) (fun _ => False) := by
  refine Met.ofW (cc := cX12_here) (maxL := 1) (ret := (some .int)) (by decide) rfl ?_
  intro p e s m args below meth c s₁ B hml hv
  obtain ⟨rfl, hP, hK⟩ := hv
  have hx := B.exec
  have hb := B.bytes
  have hr := B.returns
  have hts := atoms_spec (ws := wsX12_here) B.pre
  have hown : s.vm.findClass RX12 = some m.cls := findClass_of_methodNamed B.named
  have hlocks := B.notSynchronized
  have hl := lv_entry ([.ref (g.2.2 37)]) (n := 1) (Nat.le_of_ble_eq_true rfl)
  rw [lg_entry_eq]
  generalize (lg_sl ([.ref (g.2.2 37)]) ++ List.replicate (1 - (lg_sl ([.ref (g.2.2 37)])).length) Slot.unset).toArray = ls at hl ⊢
  have hl : lv_has ls 1 [(0, .ref (g.2.2 37))] := hl
  have hw_0 := hts (.fieldLink RX12 103 "TwiceAsRichModel" "pos" "I") (by decide +kernel)
  have hin_X12 : ∀ w ∈ wsX120, w ∈ wsX12_here := by decide +kernel
  have hw_2 := hts (.fieldLink RX12 106 "TwiceAsRichModel" "end" "I") (by decide +kernel)
  have hw_3 := hts (.fieldLink RX12 31 "TwiceAsRichModel" "element" "[I") (by decide +kernel)
  have hw_4 := hts (.fieldLink RX12 109 "TwiceAsRichModel" "base" "I") (by decide +kernel)
  refine lv_aload_n hx hb dX12_here_0 rfl (lv_at hl 0 rfl) ?_
  refine x_get (C := RX12) (T := TX12) (N := 24) hx hb hts hin_X12 hown hK hP (37) (by decide) hob rfl 12 (by decide) hw_0 (fun _ h9 => h9) rfl dX12_here_1 ?_
  refine lv_aload_n hx hb dX12_here_4 rfl (lv_at hl 0 rfl) ?_
  refine x_get (C := RX12) (T := TX12) (N := 24) hx hb hts hin_X12 hown hK hP (37) (by decide) hob rfl 14 (by decide) hw_2 (fun _ h9 => h9) rfl dX12_here_5 ?_
  refine x_icmp_ge (tgt := 28) hx hb (by omega) (by omega) dX12_here_8 (by decide) (fun c_8 => ?_) (fun c_8 => ?_)
  · refine x_sipush (n := -1000) hx hb (by decide +kernel) dX12_here_28 ?_
    refine x_retP hx hb hr (by omega) ?_ dX12_here_31 hlocks
    refine ⟨?_, trivial⟩
    unfold zC; first | (rw [if_pos (by omega), h13, h12]; done) | (rw [if_neg (by omega)]; done)
  · refine lv_aload_n hx hb dX12_here_11 rfl (lv_at hl 0 rfl) ?_
    refine x_get (C := RX12) (T := TX12) (N := 24) hx hb hts hin_X12 hown hK hP (37) (by decide) hob rfl 7 (by decide) hw_3 (fun _ h9 => h9) rfl dX12_here_12 ?_
    refine lv_aload_n hx hb dX12_here_15 rfl (lv_at hl 0 rfl) ?_
    refine x_get (C := RX12) (T := TX12) (N := 24) hx hb hts hin_X12 hown hK hP (37) (by decide) hob rfl 13 (by decide) hw_4 (fun _ h9 => h9) rfl dX12_here_16 ?_
    refine lv_aload_n hx hb dX12_here_19 rfl (lv_at hl 0 rfl) ?_
    refine x_get (C := RX12) (T := TX12) (N := 24) hx hb hts hin_X12 hown hK hP (37) (by decide) hob rfl 12 (by decide) hw_0 (fun _ h9 => h9) rfl dX12_here_20 ?_
    refine x_iadd hx hb dX12_here_23 ?_
    refine x_iald (f := El) hx hb hK hP (45) (by decide) h45 (by omega) (by omega) (by decide) dX12_here_24 ?_
    have hb_1 := hEl ((ov 13) + (ov 12))
    refine lv_goto (tgt := 31) hx hb dX12_here_25 (by decide) ?_
    refine x_retP hx hb hr (by omega) ?_ dX12_here_31 hlocks
    refine ⟨?_, trivial⟩
    unfold zC; first | (rw [if_pos (by omega), h13, h12]; done) | (rw [if_neg (by omega)]; done)

set_option maxHeartbeats 4000000 in
set_option maxRecDepth 100000 in
theorem c_X12_readsNumber (l : Launch) (g : xG) (σ : xS) (A : Nat → Prop) (ov : Nat → Int) (hob : MObj g σ.1 ov) (El : Int → Int) (h45 : MArr g σ.1 45 800 El) (hEl : ∀ k, inR (El k)) (b z p9 : Int) (h13 : ov 13 = b) (h14 : ov 14 = z) (h12 : ov 12 = p9) (hbz : 0 ≤ b ∧ b ≤ 700 ∧ (0 ≤ z ∧ z ≤ 100) ∧ 0 ≤ p9 ∧ p9 ≤ 240) (Nm : Int → Int) (h48 : MArr g σ.1 48 3 Nm) (hNm : ∀ k, inR (Nm k)) (t : Int) (h15 : ov 15 = t) (ht : 0 ≤ t ∧ t ≤ 2) (mx : Int) (hmx : 1 ≤ mx ∧ mx ≤ 4) : Met l yX12_readsNumber wsX12_readsNumber ({ frames := 2, cells := 0, slots := 0, locals := 64 }) (va_Pc [.ref (g.2.2 37), .int (iI (mx))] (xPreQ g A σ)) (x_Qi g A (fun r σ1 => σ1.2 = σ.2 ∧ (∀ j, j ≠ 37 ∧ j ≠ 48 → σ1.1 j = σ.1 j) ∧ ((r = 1 ∧ 0 < zCnt (zC El b z) p9 mx.toNat) ∨ (r = 0 ∧ zCnt (zC El b z) p9 mx.toNat = 0)) ∧ ∃ ov2, MObj g σ1.1 ov2 ∧ ov2 12 = p9 + zCnt (zC El b z) p9 mx.toNat ∧ ov2 15 = t + 1 ∧ (ov2 10 = ov 10 ∧ ov2 13 = b ∧ ov2 14 = z) ∧ MArr g σ1.1 48 3 (upI Nm t (zVl (zC El b z) p9 (zCnt (zC El b z) p9 mx.toNat).toNat)) ∧ 0 ≤ zVl (zC El b z) p9 (zCnt (zC El b z) p9 mx.toNat).toNat ∧ zVl (zC El b z) p9 (zCnt (zC El b z) p9 mx.toNat).toNat ≤ 9999)) (0) (0) A := by
  refine Met.ofW (cc := cX12_readsNumber) (maxL := 4) (ret := (some .boolean)) (by decide) rfl ?_
  intro p e s m args below meth c s₁ B hml hv
  obtain ⟨rfl, hP, hK, hD, hA⟩ := hv
  have hx := B.exec
  have hb := B.bytes
  have hr := B.returns
  have hts := atoms_spec (ws := wsX12_readsNumber) B.pre
  have hown : s.vm.findClass RX12 = some m.cls := findClass_of_methodNamed B.named
  have hlocks := B.notSynchronized
  have hS : va_S A s.heap s.heap [] := va_S.rf
  have hfr : ∀ j, (j ≠ 37 ∧ j ≠ 48) → σ.1 j = σ.1 j := fun _ _ => rfl
  have hl := lv_entry ([.ref (g.2.2 37), .int (iI (mx))]) (n := 4) (Nat.le_of_ble_eq_true rfl)
  rw [lg_entry_eq]
  generalize (lg_sl ([.ref (g.2.2 37), .int (iI (mx))]) ++ List.replicate (4 - (lg_sl ([.ref (g.2.2 37), .int (iI (mx))])).length) Slot.unset).toArray = ls at hl ⊢
  have hl : lv_has ls 4 [(0, .ref (g.2.2 37)), (1, .int (iI (mx)))] := hl
  have hw_0 := hts (.fieldLink RX12 40 "TwiceAsRichModel" "numbers" "[I") (by decide +kernel)
  have hin_X12 : ∀ w ∈ wsX120, w ∈ wsX12_readsNumber := by decide +kernel
  have hw_2 := hts (.fieldLink RX12 119 "TwiceAsRichModel" "told" "I") (by decide +kernel)
  have hw_3 := hts (.constantLong RX12 115 (48)) (by decide +kernel)
  have hw_4 := hts (.constantLong RX12 117 (57)) (by decide +kernel)
  have hw_5 := hts (.fieldLink RX12 103 "TwiceAsRichModel" "pos" "I") (by decide +kernel)
  refine x_iconst hx hb dX12_readsNumber_0 ?_
  refine lv_istore_n (lv' := [(2, .int (iI (0))), (0, .ref (g.2.2 37)), (1, .int (iI (mx)))]) hx hb dX12_readsNumber_1 rfl hl (by decide) rfl (fun ls hl => ?_)
  refine x_iconst hx hb dX12_readsNumber_2 ?_
  refine lv_istore_n (lv' := [(3, .int (iI (0))), (2, .int (iI (0))), (0, .ref (g.2.2 37)), (1, .int (iI (mx)))]) hx hb dX12_readsNumber_3 rfl hl (by decide) rfl (fun ls hl => ?_)
  have hloop_4 : ∀ (k : Nat) (oz : Nat → Int) (n9 : Int) (v9 : Int), (mx - n9).toNat < k → (hn0 : 0 ≤ n9 ∧ n9 ≤ mx) → (o12 : oz 12 = p9 + n9) → (o13 : oz 13 = b) → (o14 : oz 14 = z) → (o15 : oz 15 = t) → (o10 : oz 10 = ov 10) → (hcn : n9 + zCnt (zC El b z) (p9 + n9) (mx - n9).toNat = zCnt (zC El b z) p9 mx.toNat) → (hvl : v9 = zVl (zC El b z) p9 n9.toNat) → (hvr : 0 ≤ v9 ∧ (n9 = 0 → v9 = 0) ∧ (n9 = 1 → v9 ≤ 9) ∧ (n9 = 2 → v9 ≤ 99) ∧ (n9 = 3 → v9 ≤ 999) ∧ v9 ≤ 9999) → ∀ (M : xM) (H : Heap) (locs : List Loc), (hob : M (37) = .inr (12, [.ref (g.2.2 38), .ref (g.2.2 39), .ref (g.2.2 40), .ref (g.2.2 41), .ref (g.2.2 42), .ref (g.2.2 43), .ref (g.2.2 44), .ref (g.2.2 45), .ref (g.2.2 46), .ref (g.2.2 47), .int (iI (oz 10)), .int (iI (oz 11)), .int (iI (oz 12)), .int (iI (oz 13)), .int (iI (oz 14)), .int (iI (oz 15)), .ref (g.2.2 48), .int (iI (oz 17)), .int (iI (oz 18)), .int (iI (oz 19)), .int (iI (oz 20)), .int (iI (oz 21)), .ref (g.2.2 49), .int (iI (oz 23))])) → (h45 : M (45) = .inl (g.2.1 0, 800, .inl (fun k => iI (El (k : Int))))) → (h48 : M (48) = .inl (g.2.1 0, 3, .inl (fun k => iI (Nm (k : Int))))) → (hfr : ∀ j, (j ≠ 37 ∧ j ≠ 48) → M j = σ.1 j) → xP g (M, σ.2) H → xD g A (M, σ.2) → va_S A s.heap H locs → ∀ (ls : Array Slot), lv_has ls 4 [(3, .int (iI (n9))), (2, .int (iI (v9))), (0, .ref (g.2.2 37)), (1, .int (iI (mx)))] → W p l e (headSpec wsX12_readsNumber ({ frames := 2, cells := 0, slots := 0, locals := 64 })).room s m ([.ref (g.2.2 37), .int (iI (mx))] : List Value).toArray below meth c H locs 0 0 (MQ below (x_Qi g A (fun r σ1 => σ1.2 = σ.2 ∧ (∀ j, j ≠ 37 ∧ j ≠ 48 → σ1.1 j = σ.1 j) ∧ ((r = 1 ∧ 0 < zCnt (zC El b z) p9 mx.toNat) ∨ (r = 0 ∧ zCnt (zC El b z) p9 mx.toNat = 0)) ∧ ∃ ov2, MObj g σ1.1 ov2 ∧ ov2 12 = p9 + zCnt (zC El b z) p9 mx.toNat ∧ ov2 15 = t + 1 ∧ (ov2 10 = ov 10 ∧ ov2 13 = b ∧ ov2 14 = z) ∧ MArr g σ1.1 48 3 (upI Nm t (zVl (zC El b z) p9 (zCnt (zC El b z) p9 mx.toNat).toNat)) ∧ 0 ≤ zVl (zC El b z) p9 (zCnt (zC El b z) p9 mx.toNat).toNat ∧ zVl (zC El b z) p9 (zCnt (zC El b z) p9 mx.toNat).toNat ≤ 9999)) ([.ref (g.2.2 37), .int (iI (mx))] : List Value).toArray s (0) (0) A) (F0 m 4 ls []) := by
    intro k
    induction k with
    | zero =>
      intros; exact absurd (by assumption) (Nat.not_lt_zero _)
    | succ k ih =>
      intro oz n9 v9 hmeas hn0 o12 o13 o14 o15 o10 hcn hvl hvr M H locs hob h45 h48 hfr hP hD hS ls hl
      have ih_1 := ih
      refine lv_iload_n hx hb dX12_readsNumber_4 rfl (lv_at hl 0 rfl) ?_
      refine lv_iload_n hx hb dX12_readsNumber_5 rfl (lv_at hl 3 rfl) ?_
      refine x_icmp_ge (tgt := 55) hx hb (by omega) (by omega) dX12_readsNumber_6 (by decide) (fun c_6 => ?_) (fun c_6 => ?_)
      · refine lv_aload_n hx hb dX12_readsNumber_55 rfl (lv_at hl 2 rfl) ?_
        refine x_get (C := RX12) (T := TX12) (N := 24) hx hb hts hin_X12 hown hK hP (37) (by decide) hob rfl 16 (by decide) hw_0 (fun _ h9 => h9) rfl dX12_readsNumber_56 ?_
        refine lv_aload_n hx hb dX12_readsNumber_59 rfl (lv_at hl 2 rfl) ?_
        refine x_get (C := RX12) (T := TX12) (N := 24) hx hb hts hin_X12 hown hK hP (37) (by decide) hob rfl 15 (by decide) hw_2 (fun _ h9 => h9) rfl dX12_readsNumber_60 ?_
        refine lv_iload_n hx hb dX12_readsNumber_63 rfl (lv_at hl 1 rfl) ?_
        refine x_iast (f := Nm) hx hb hK hP hD hS (48) (by decide) h48 (by omega) (by omega) (by decide) dX12_readsNumber_64 (fun M_2 H locs hnew hne hP hD hS => ?_)
        obtain ⟨f_3, hf_3⟩ : ∃ q : Int → Int, q = (upI Nm (oz 15) (v9)) := ⟨_, rfl⟩
        rw [← hf_3] at hnew
        have hP : xP g (M_2, σ.2) H := hP
        have hD : xD g A (M_2, σ.2) := hD
        have h48 : M_2 (48) = .inl (g.2.1 0, 3, .inl (fun k => iI (f_3 (k : Int)))) := hnew
        have hob : MObj g M_2 oz := (hne (37) (by decide)).trans hob
        have h45 := (hne (45) (by decide)).trans h45
        have hfr := x_fr (F := fun j => j ≠ 37 ∧ j ≠ 48) hfr hne (fun j h => by have h : j ≠ 37 ∧ j ≠ 48 := h; omega)
        refine lv_aload_n hx hb dX12_readsNumber_65 rfl (lv_at hl 2 rfl) ?_
        refine lv_dup hx hb dX12_readsNumber_66 rfl ?_
        refine x_get (C := RX12) (T := TX12) (N := 24) hx hb hts hin_X12 hown hK hP (37) (by decide) hob rfl 15 (by decide) hw_2 (fun _ h9 => h9) rfl dX12_readsNumber_67 ?_
        refine x_iconst hx hb dX12_readsNumber_70 ?_
        refine x_iadd hx hb dX12_readsNumber_71 ?_
        refine x_put (C := RX12) (T := TX12) (N := 24) (ty := .int) hx hb hts hin_X12 hown hK hP hD hS (37) (by decide) hob rfl tyX12 tyX12_ok nmX12 15 (by decide) hw_2 (fun _ h9 => h9) rfl (by decide +kernel) rfl rfl (Nat.le_of_ble_eq_true rfl) dX12_readsNumber_72 (fun M_4 H locs hnew hne hP hD hS => ?_)
        obtain ⟨ov_5, hov_5⟩ : ∃ q : Nat → Int, q = va_up (oz) 15 ((oz 15) + 1) := ⟨_, rfl⟩
        have vov_5 : ov_5 15 = (oz 15) + 1 := by rw [hov_5]; rfl
        have nov_5 : ∀ j, j ≠ 15 → ov_5 j = oz j := fun j hj => by rw [hov_5]; exact va_up_ne _ _ hj
        have hnew : MObj g M_4 ov_5 := by rw [hov_5]; exact hnew
        have hP : xP g (M_4, σ.2) H := hP
        have hD : xD g A (M_4, σ.2) := hD
        have hob : MObj g M_4 ov_5 := hnew
        have h45 := (hne (45) (by decide)).trans h45
        have h48 := (hne (48) (by decide)).trans h48
        have hfr := x_fr (F := fun j => j ≠ 37 ∧ j ≠ 48) hfr hne (fun j h => by have h : j ≠ 37 ∧ j ≠ 48 := h; omega)
        refine lv_iload_n hx hb dX12_readsNumber_75 rfl (lv_at hl 0 rfl) ?_
        refine x_if_le (tgt := 83) hx hb (by omega) dX12_readsNumber_76 (by decide) (fun c_76 => ?_) (fun c_76 => ?_)
        · refine x_iconst hx hb dX12_readsNumber_83 ?_
          refine x_retQz hx hb hr (by omega) ?_ hP hD hS dX12_readsNumber_84 hlocks
          have e : n9 = zCnt (zC El b z) p9 mx.toNat := by (first | (have e0 : (mx - n9).toNat = 0 := (by omega); rw [e0] at hcn; (have hz : zCnt (zC El b z) (p9 + n9) 0 = 0 := rfl); omega) | (have e0 := zCnt_n (C := zC El b z) (p := p9 + n9) (mx - n9).toNat (by rw [← o12, ← qr_10.1]; omega); omega))
          rw [← e, ← hvl]
          refine ⟨rfl, hfr, by omega, ov_5, hob, ?_, ?_, ⟨?_, ?_, ?_⟩, ?_, by omega, by omega⟩
          · exact ((nov_5 12 (by decide)).trans o12)
          · refine vov_5.trans ?_; omega
          · exact ((nov_5 10 (by decide)).trans o10)
          · exact ((nov_5 13 (by decide)).trans o13)
          · exact ((nov_5 14 (by decide)).trans o14)
          · have e48 : f_3 = upI Nm t v9 := by (rw [hf_3, o15])
            rw [← e48]; exact h48
        · refine x_iconst hx hb dX12_readsNumber_79 ?_
          refine lv_goto (tgt := 84) hx hb dX12_readsNumber_80 (by decide) ?_
          refine x_retQz hx hb hr (by omega) ?_ hP hD hS dX12_readsNumber_84 hlocks
          have e : n9 = zCnt (zC El b z) p9 mx.toNat := by (first | (have e0 : (mx - n9).toNat = 0 := (by omega); rw [e0] at hcn; (have hz : zCnt (zC El b z) (p9 + n9) 0 = 0 := rfl); omega) | (have e0 := zCnt_n (C := zC El b z) (p := p9 + n9) (mx - n9).toNat (by rw [← o12, ← qr_10.1]; omega); omega))
          rw [← e, ← hvl]
          refine ⟨rfl, hfr, by omega, ov_5, hob, ?_, ?_, ⟨?_, ?_, ?_⟩, ?_, by omega, by omega⟩
          · exact ((nov_5 12 (by decide)).trans o12)
          · refine vov_5.trans ?_; omega
          · exact ((nov_5 10 (by decide)).trans o10)
          · exact ((nov_5 13 (by decide)).trans o13)
          · exact ((nov_5 14 (by decide)).trans o14)
          · have e48 : f_3 = upI Nm t v9 := by (rw [hf_3, o15])
            rw [← e48]; exact h48
      · refine lv_aload_n hx hb dX12_readsNumber_9 rfl (lv_at hl 2 rfl) ?_
        refine x_ci (va_runV (As := []) (rest := []) ⟨hx, hb, hml, hown, hts⟩ (c_X12_here l g (M, σ.2) (oz) hob El h45 hEl b z ((oz) 12) (by omega) (by omega) rfl (by omega)) (cwV 0 hts gX12_readsNumber_X12_here rfl rfl rfl (by decide +kernel) ⟨Nat.le_of_ble_eq_true rfl, Nat.le_of_ble_eq_true rfl⟩) (x_preV hK hP (x_recv hK hP (i := 37) (by decide) hob rfl)) rfl rfl hl.1 rfl (lv_room (Nat.le_of_ble_eq_true rfl)) dX12_readsNumber_10 ⟨Nat.le_of_ble_eq_true rfl, Nat.le_of_ble_eq_true rfl⟩) (fun r_10 hr_10 qr_10 => ?_)
        replace qr_10 : r_10 = zC El b z (oz 12) ∧ True := qr_10
        refine x_i2l hx hb (by omega) dX12_readsNumber_13 ?_
        refine x_ldc2 (z := 48) hx hb hown hw_3 (by decide +kernel) dX12_readsNumber_14 ?_
        refine x_ldc2 (z := 57) hx hb hown hw_4 (by decide +kernel) dX12_readsNumber_17 ?_
        refine x_ci (va_runS (As := [.long (jL (r_10)), .long (jL (48)), .long (jL (57))]) (rest := []) ⟨hx, hb, hml, hown, hts⟩ (c_X12_isIn l g (M, σ.2) (r_10) (by omega) (48) (by omega) (57) (by omega)) (va_cwS 3 hts gX12_readsNumber_X12_isIn rfl rfl rfl (by decide +kernel) ⟨Nat.le_of_ble_eq_true rfl, Nat.le_of_ble_eq_true rfl⟩) (x_preS hK hP) rfl rfl hl.1 rfl (lv_room (Nat.le_of_ble_eq_true rfl)) dX12_readsNumber_20 ⟨Nat.le_of_ble_eq_true rfl, Nat.le_of_ble_eq_true rfl⟩) (fun r_20 hr_20 qr_20 => ?_)
        replace qr_20 : (r_20 = 1 ∧ (48) ≤ (r_10) ∧ (r_10) ≤ (57)) ∨ (r_20 = 0 ∧ ¬ ((48) ≤ (r_10) ∧ (r_10) ≤ (57))) := qr_20
        refine x_if_eq (tgt := 55) hx hb (by omega) dX12_readsNumber_23 (by decide) (fun c_23 => ?_) (fun c_23 => ?_)
        · refine lv_aload_n hx hb dX12_readsNumber_55 rfl (lv_at hl 2 rfl) ?_
          refine x_get (C := RX12) (T := TX12) (N := 24) hx hb hts hin_X12 hown hK hP (37) (by decide) hob rfl 16 (by decide) hw_0 (fun _ h9 => h9) rfl dX12_readsNumber_56 ?_
          refine lv_aload_n hx hb dX12_readsNumber_59 rfl (lv_at hl 2 rfl) ?_
          refine x_get (C := RX12) (T := TX12) (N := 24) hx hb hts hin_X12 hown hK hP (37) (by decide) hob rfl 15 (by decide) hw_2 (fun _ h9 => h9) rfl dX12_readsNumber_60 ?_
          refine lv_iload_n hx hb dX12_readsNumber_63 rfl (lv_at hl 1 rfl) ?_
          refine x_iast (f := Nm) hx hb hK hP hD hS (48) (by decide) h48 (by omega) (by omega) (by decide) dX12_readsNumber_64 (fun M_6 H locs hnew hne hP hD hS => ?_)
          obtain ⟨f_7, hf_7⟩ : ∃ q : Int → Int, q = (upI Nm (oz 15) (v9)) := ⟨_, rfl⟩
          rw [← hf_7] at hnew
          have hP : xP g (M_6, σ.2) H := hP
          have hD : xD g A (M_6, σ.2) := hD
          have h48 : M_6 (48) = .inl (g.2.1 0, 3, .inl (fun k => iI (f_7 (k : Int)))) := hnew
          have hob : MObj g M_6 oz := (hne (37) (by decide)).trans hob
          have h45 := (hne (45) (by decide)).trans h45
          have hfr := x_fr (F := fun j => j ≠ 37 ∧ j ≠ 48) hfr hne (fun j h => by have h : j ≠ 37 ∧ j ≠ 48 := h; omega)
          refine lv_aload_n hx hb dX12_readsNumber_65 rfl (lv_at hl 2 rfl) ?_
          refine lv_dup hx hb dX12_readsNumber_66 rfl ?_
          refine x_get (C := RX12) (T := TX12) (N := 24) hx hb hts hin_X12 hown hK hP (37) (by decide) hob rfl 15 (by decide) hw_2 (fun _ h9 => h9) rfl dX12_readsNumber_67 ?_
          refine x_iconst hx hb dX12_readsNumber_70 ?_
          refine x_iadd hx hb dX12_readsNumber_71 ?_
          refine x_put (C := RX12) (T := TX12) (N := 24) (ty := .int) hx hb hts hin_X12 hown hK hP hD hS (37) (by decide) hob rfl tyX12 tyX12_ok nmX12 15 (by decide) hw_2 (fun _ h9 => h9) rfl (by decide +kernel) rfl rfl (Nat.le_of_ble_eq_true rfl) dX12_readsNumber_72 (fun M_8 H locs hnew hne hP hD hS => ?_)
          obtain ⟨ov_9, hov_9⟩ : ∃ q : Nat → Int, q = va_up (oz) 15 ((oz 15) + 1) := ⟨_, rfl⟩
          have vov_9 : ov_9 15 = (oz 15) + 1 := by rw [hov_9]; rfl
          have nov_9 : ∀ j, j ≠ 15 → ov_9 j = oz j := fun j hj => by rw [hov_9]; exact va_up_ne _ _ hj
          have hnew : MObj g M_8 ov_9 := by rw [hov_9]; exact hnew
          have hP : xP g (M_8, σ.2) H := hP
          have hD : xD g A (M_8, σ.2) := hD
          have hob : MObj g M_8 ov_9 := hnew
          have h45 := (hne (45) (by decide)).trans h45
          have h48 := (hne (48) (by decide)).trans h48
          have hfr := x_fr (F := fun j => j ≠ 37 ∧ j ≠ 48) hfr hne (fun j h => by have h : j ≠ 37 ∧ j ≠ 48 := h; omega)
          refine lv_iload_n hx hb dX12_readsNumber_75 rfl (lv_at hl 0 rfl) ?_
          refine x_if_le (tgt := 83) hx hb (by omega) dX12_readsNumber_76 (by decide) (fun c_76 => ?_) (fun c_76 => ?_)
          · refine x_iconst hx hb dX12_readsNumber_83 ?_
            refine x_retQz hx hb hr (by omega) ?_ hP hD hS dX12_readsNumber_84 hlocks
            have e : n9 = zCnt (zC El b z) p9 mx.toNat := by (first | (have e0 : (mx - n9).toNat = 0 := (by omega); rw [e0] at hcn; (have hz : zCnt (zC El b z) (p9 + n9) 0 = 0 := rfl); omega) | (have e0 := zCnt_n (C := zC El b z) (p := p9 + n9) (mx - n9).toNat (by rw [← o12, ← qr_10.1]; omega); omega))
            rw [← e, ← hvl]
            refine ⟨rfl, hfr, by omega, ov_9, hob, ?_, ?_, ⟨?_, ?_, ?_⟩, ?_, by omega, by omega⟩
            · exact ((nov_9 12 (by decide)).trans o12)
            · refine vov_9.trans ?_; omega
            · exact ((nov_9 10 (by decide)).trans o10)
            · exact ((nov_9 13 (by decide)).trans o13)
            · exact ((nov_9 14 (by decide)).trans o14)
            · have e48 : f_7 = upI Nm t v9 := by (rw [hf_7, o15])
              rw [← e48]; exact h48
          · refine x_iconst hx hb dX12_readsNumber_79 ?_
            refine lv_goto (tgt := 84) hx hb dX12_readsNumber_80 (by decide) ?_
            refine x_retQz hx hb hr (by omega) ?_ hP hD hS dX12_readsNumber_84 hlocks
            have e : n9 = zCnt (zC El b z) p9 mx.toNat := by (first | (have e0 : (mx - n9).toNat = 0 := (by omega); rw [e0] at hcn; (have hz : zCnt (zC El b z) (p9 + n9) 0 = 0 := rfl); omega) | (have e0 := zCnt_n (C := zC El b z) (p := p9 + n9) (mx - n9).toNat (by rw [← o12, ← qr_10.1]; omega); omega))
            rw [← e, ← hvl]
            refine ⟨rfl, hfr, by omega, ov_9, hob, ?_, ?_, ⟨?_, ?_, ?_⟩, ?_, by omega, by omega⟩
            · exact ((nov_9 12 (by decide)).trans o12)
            · refine vov_9.trans ?_; omega
            · exact ((nov_9 10 (by decide)).trans o10)
            · exact ((nov_9 13 (by decide)).trans o13)
            · exact ((nov_9 14 (by decide)).trans o14)
            · have e48 : f_7 = upI Nm t v9 := by (rw [hf_7, o15])
              rw [← e48]; exact h48
        · refine x_bipush (n := 10) hx hb (by decide +kernel) dX12_readsNumber_26 ?_
          refine lv_iload_n hx hb dX12_readsNumber_28 rfl (lv_at hl 1 rfl) ?_
          refine x_imul hx hb dX12_readsNumber_29 ?_
          refine lv_aload_n hx hb dX12_readsNumber_30 rfl (lv_at hl 2 rfl) ?_
          refine x_ci (va_runV (As := []) (rest := [.int (iI (10 * v9))]) ⟨hx, hb, hml, hown, hts⟩ (c_X12_here l g (M, σ.2) (oz) hob El h45 hEl b z ((oz) 12) (by omega) (by omega) rfl (by omega)) (cwV 0 hts gX12_readsNumber_X12_here rfl rfl rfl (by decide +kernel) ⟨Nat.le_of_ble_eq_true rfl, Nat.le_of_ble_eq_true rfl⟩) (x_preV hK hP (x_recv hK hP (i := 37) (by decide) hob rfl)) rfl rfl hl.1 rfl (lv_room (Nat.le_of_ble_eq_true rfl)) dX12_readsNumber_31 ⟨Nat.le_of_ble_eq_true rfl, Nat.le_of_ble_eq_true rfl⟩) (fun r_31 hr_31 qr_31 => ?_)
          replace qr_31 : r_31 = zC El b z (oz 12) ∧ True := qr_31
          refine x_iadd hx hb dX12_readsNumber_34 ?_
          refine x_bipush (n := 48) hx hb (by decide +kernel) dX12_readsNumber_35 ?_
          refine x_isub hx hb dX12_readsNumber_37 ?_
          refine lv_istore_n (lv' := [(2, .int (iI (((10 * v9) + r_31) - 48))), (3, .int (iI (n9))), (0, .ref (g.2.2 37)), (1, .int (iI (mx)))]) hx hb dX12_readsNumber_38 rfl hl (by decide) rfl (fun ls hl => ?_)
          refine lv_aload_n hx hb dX12_readsNumber_39 rfl (lv_at hl 2 rfl) ?_
          refine lv_dup hx hb dX12_readsNumber_40 rfl ?_
          refine x_get (C := RX12) (T := TX12) (N := 24) hx hb hts hin_X12 hown hK hP (37) (by decide) hob rfl 12 (by decide) hw_5 (fun _ h9 => h9) rfl dX12_readsNumber_41 ?_
          refine x_iconst hx hb dX12_readsNumber_44 ?_
          refine x_iadd hx hb dX12_readsNumber_45 ?_
          refine x_put (C := RX12) (T := TX12) (N := 24) (ty := .int) hx hb hts hin_X12 hown hK hP hD hS (37) (by decide) hob rfl tyX12 tyX12_ok nmX12 12 (by decide) hw_5 (fun _ h9 => h9) rfl (by decide +kernel) rfl rfl (Nat.le_of_ble_eq_true rfl) dX12_readsNumber_46 (fun M_10 H locs hnew hne hP hD hS => ?_)
          obtain ⟨ov_11, hov_11⟩ : ∃ q : Nat → Int, q = va_up (oz) 12 ((oz 12) + 1) := ⟨_, rfl⟩
          have vov_11 : ov_11 12 = (oz 12) + 1 := by rw [hov_11]; rfl
          have nov_11 : ∀ j, j ≠ 12 → ov_11 j = oz j := fun j hj => by rw [hov_11]; exact va_up_ne _ _ hj
          have hnew : MObj g M_10 ov_11 := by rw [hov_11]; exact hnew
          have hP : xP g (M_10, σ.2) H := hP
          have hD : xD g A (M_10, σ.2) := hD
          have hob : MObj g M_10 ov_11 := hnew
          have h45 := (hne (45) (by decide)).trans h45
          have h48 := (hne (48) (by decide)).trans h48
          have hfr := x_fr (F := fun j => j ≠ 37 ∧ j ≠ 48) hfr hne (fun j h => by have h : j ≠ 37 ∧ j ≠ 48 := h; omega)
          refine x_iinc (k0 := 1) (lv' := [(3, .int (iI (n9 + 1))), (2, .int (iI (((10 * v9) + r_31) - 48))), (0, .ref (g.2.2 37)), (1, .int (iI (mx)))]) hx hb dX12_readsNumber_49 hl rfl (by decide) rfl (fun ls hl => ?_)
          refine lv_goto (tgt := 4) hx hb dX12_readsNumber_52 (by decide) ?_
          have cdig : 48 ≤ zC El b z (p9 + n9) ∧ zC El b z (p9 + n9) ≤ 57 := by (rw [← o12, ← qr_10.1]; omega)
          have ceq : zC El b z (p9 + n9) = r_31 := by (rw [← o12]; exact qr_31.1.symm)
          exact ih_1 (ov_11) (n9 + 1) (((10 * v9) + r_31) - 48) (by omega) (by omega) (by rw [vov_11]; omega) (by rw [nov_11 13 (by decide)]; exact o13) (by rw [nov_11 14 (by decide)]; exact o14) (by rw [nov_11 15 (by decide)]; exact o15) (by rw [nov_11 10 (by decide)]; exact o10) (by rw [← hcn, show (mx - n9).toNat = (mx - (n9 + 1)).toNat + 1 by omega, zCnt_y _ cdig, show p9 + n9 + 1 = p9 + (n9 + 1) by omega]; try omega) (by rw [zVl_succ _ _ hn0.1, ← hvl, ceq]; try (first | rfl | omega)) (by omega) (M_10) _ _ hob h45 h48 hfr hP hD hS ls (lv_sub hl [0, 1, 2, 3] rfl)
  exact hloop_4 (((mx - (0)).toNat) + 1) (ov) (0) (0) (by omega) (by omega) (by omega) (by exact h13) (by exact h14) (by exact h15) (by rfl) (by rw [show p9 + 0 = p9 by omega, show mx - 0 = mx by omega]; omega) (by rfl) (by omega) (σ.1) _ _ hob h45 h48 hfr hP hD hS ls (lv_sub hl [0, 1, 2, 3] rfl)
