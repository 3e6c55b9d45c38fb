theorem zPart_end {K : Int → Nat} {F P W : Int → Int} {n rd o c : Int} (hn : 0 ≤ n) (hW : ∀ i, 0 ≤ i → i < n → W i = P i) : zParts (zNote K F W n rd o) (n - 0).toNat 0 c P (0, -4, -4, -4, -4) = zPart K F P n rd o c := by
  unfold zPart
  rw [show (n - 0).toNat = n.toNat by omega]
  exact zParts_congr (n := n) (zNote_local hW) _ _ _ _ _ _ (by omega) (fun _ _ _ => rfl)
def zB : Nat → Int
  | 0 => 1
  | k + 1 => 20 * zB k
theorem zB_pos : ∀ k, 0 ≤ zB k
  | 0 => by decide
  | k + 1 => by have := zB_pos k; show 0 ≤ 20 * zB k; omega
theorem zFold_ways {f : Int → zAcc → zAcc} {a B : Int} {q : zAcc} (m : Nat) (h : ∀ p, a ≤ p → p < a + m → ∀ q, q.1 ≤ (f p q).1 ∧ (f p q).1 ≤ q.1 + B) : q.1 ≤ (zFold f a q m).1 ∧ (zFold f a q m).1 ≤ q.1 + m * B := by
  induction m with
  | zero => exact ⟨Int.le_refl _, by show q.1 ≤ q.1 + ((0 : Nat) : Int) * B; simp⟩
  | succ m ih =>
    have i1 := ih (fun p h1 h2 => h p h1 (by omega))
    have i2 := h (a + m) (by omega) (by omega) (zFold f a q m)
    have e : ((m + 1 : Nat) : Int) * B = m * B + B := by rw [Int.natCast_add, Int.add_mul]; simp
    show q.1 ≤ (f (a + m) (zFold f a q m)).1 ∧ (f (a + m) (zFold f a q m)).1 ≤ q.1 + ((m + 1 : Nat) : Int) * B
    rw [e]; omega
theorem zParts_ways {N : (Int → Int) → zAcc → zAcc} (hN : ∀ P q, q.1 ≤ (N P q).1 ∧ (N P q).1 ≤ q.1 + 1) : ∀ (k : Nat) (h left : Int) (P : Int → Int) (q : zAcc), left ≤ 20 → q.1 ≤ (zParts N k h left P q).1 ∧ (zParts N k h left P q).1 ≤ q.1 + zB k
  | 0, h, left, P, q, hl => by
    show q.1 ≤ (if left = 0 then N P q else q).1 ∧ (if left = 0 then N P q else q).1 ≤ q.1 + 1
    split
    · exact hN P q
    · omega
  | k + 1, h, left, P, q, hl => by
    have hL : 1 ≤ zLst (k : Int) left := by unfold zLst; split <;> omega
    have hf := zFold_ways (f := fun p q => zParts N k (h + 1) (left - p) (upI P h p) q) (a := zLst (k : Int) left) (B := zB k) (q := q) (left - (k : Int) + 1 - zLst (k : Int) left).toNat (fun p h1 h2 q => zParts_ways hN k (h + 1) (left - p) (upI P h p) q (by omega))
    have hb : (((left - (k : Int) + 1 - zLst (k : Int) left).toNat : Nat) : Int) * zB k ≤ 20 * zB k := Int.mul_le_mul_of_nonneg_right (by omega) (zB_pos k)
    exact ⟨hf.1, Int.le_trans hf.2 (by show _ ≤ q.1 + 20 * zB k; omega)⟩
theorem zNote_ways (K : Int → Nat) (F W : Int → Int) (n rd o : Int) (P : Int → Int) (q : zAcc) : q.1 ≤ (zNote K F W n rd o P q).1 ∧ (zNote K F W n rd o P q).1 ≤ q.1 + 1 := by
  unfold zNote; split
  · omega
  · show q.1 ≤ q.1 + 1 ∧ q.1 + 1 ≤ q.1 + 1; omega
theorem zB_le : ∀ k, k ≤ 6 → zB k ≤ 64000000 := by decide
theorem zPart_ways (K : Int → Nat) (F P : Int → Int) (n rd o c : Int) (hn : n ≤ 6) (hc : c ≤ 20) : 0 ≤ (zPart K F P n rd o c).1 ∧ (zPart K F P n rd o c).1 ≤ 64000000 := by
  have h := zParts_ways (zNote_ways K F P n rd o) n.toNat 0 c P (0, -4, -4, -4, -4) hc
  have hb := zB_le n.toNat (by omega)
  unfold zPart
  constructor
  · exact h.1
  · have := h.2
    simp only at this
    omega
def zPartings (K : Int → Nat) (F P : Int → Int) (n rd c : Int) : Int := if zWp n c ≠ 0 then zWp n c else (zPart K F P n rd (-4) c).1
def zUneven (K : Int → Nat) (F P : Int → Int) (n rd c : Int) : Int := if zWp n c ≠ 0 then zWp n c else (zPart K F P n rd (-4) c).2.1
def zRichest (K : Int → Nat) (F P : Int → Int) (n rd c h : Int) : Int := if ¬ (0 ≤ h ∧ h < n) then -1 else if zWp n c ≠ 0 then zWp n c else (zPart K F P n rd h c).2.2.1
def zHands (K : Int → Nat) (F P : Int → Int) (n rd : Int) : Int := if 6 < n ∨ 20 < zSum P n.toNat then -3 else (zPart K F P n rd (-4) (zSum P n.toNat)).2.2.2.1
def zAny (K : Int → Nat) (F P : Int → Int) (n rd : Int) : Int := if 6 < n ∨ 20 < zSum P n.toNat then -3 else (zPart K F P n rd (-4) (zSum P n.toNat)).2.2.2.2

set_option maxHeartbeats 4000000 in
set_option maxRecDepth 100000 in
theorem c_X12_partsAll (l : Launch) (g : xG) (σ : xS) (A : Nat → Prop) (ov : Nat → Int) (S : Int → Int) (hob : MObj g σ.1 ov) (hs0 : MArr g σ.1 38 29 S) (hok : SmOk S) (Mi : Int → Int) (h41 : MArr g σ.1 41 29 Mi) (Wz : Int → Int) (h49 : MArr g σ.1 49 8 Wz) (hn6 : S 0 ≤ 6) (c9 : Int) (hc : 0 ≤ c9 ∧ c9 ≤ 20) (o : Int) (ho : inR o) : Met l yX12_partsAll wsX12_partsAll ({ frames := 20, cells := 0, slots := 0, locals := 640 }) (va_Pc [.ref (g.2.2 37), .int (iI (c9)), .int (iI (o))] (xPreQ g A σ)) (x_Qv g A (fun σ1 => σ1.2 = σ.2 ∧ (∀ j, j ≠ 37 ∧ j ≠ 38 ∧ j ≠ 41 ∧ j ≠ 49 → σ1.1 j = σ.1 j) ∧ (∃ ov2, MObj g σ1.1 ov2 ∧ zAc ov2 = zPart (mK S) (mF S) (mP S) (S 0) (S 1) o c9 ∧ zAccOk (zAc ov2) ∧ ov2 10 = ov 10) ∧ xBack g σ1.1 S ∧ ∃ W2, MArr g σ1.1 49 8 W2)) (0) (0) A := by
  refine Met.ofW (cc := cX12_partsAll) (maxL := 4) (ret := none) (by decide) rfl ?_
  intro p e s m args below meth c s₁ B hml hv
  obtain ⟨rfl, hP, hK, hD, hA⟩ := hv
  have hx := B.exec
  have hb := B.bytes
  have hr := B.returns
  have hts := atoms_spec (ws := wsX12_partsAll) B.pre
  have hown : s.vm.findClass RX12 = some m.cls := findClass_of_methodNamed B.named
  have hlocks := B.notSynchronized
  have hS : va_S A s.heap s.heap [] := va_S.rf
  have hfr : ∀ j, (j ≠ 37 ∧ j ≠ 38 ∧ j ≠ 41 ∧ j ≠ 49) → σ.1 j = σ.1 j := fun _ _ => rfl
  have hl := lv_entry ([.ref (g.2.2 37), .int (iI (c9)), .int (iI (o))]) (n := 4) (Nat.le_of_ble_eq_true rfl)
  rw [lg_entry_eq]
  generalize (lg_sl ([.ref (g.2.2 37), .int (iI (c9)), .int (iI (o))]) ++ List.replicate (4 - (lg_sl ([.ref (g.2.2 37), .int (iI (c9)), .int (iI (o))])).length) Slot.unset).toArray = ls at hl ⊢
  have hl : lv_has ls 4 [(0, .ref (g.2.2 37)), (1, .int (iI (c9))), (2, .int (iI (o)))] := hl
  have hn0 := hok.2.1
  have hrd0 := hok.2.2.1
  have hw_0 := hts (.fieldLink RX12 186 "TwiceAsRichModel" "ways" "I") (by decide +kernel)
  have hin_X12 : ∀ w ∈ wsX120, w ∈ wsX12_partsAll := by decide +kernel
  have hw_2 := hts (.fieldLink RX12 189 "TwiceAsRichModel" "uneven" "I") (by decide +kernel)
  have hw_3 := hts (.fieldLink RX12 192 "TwiceAsRichModel" "most" "I") (by decide +kernel)
  have hw_4 := hts (.fieldLink RX12 195 "TwiceAsRichModel" "fewestHands" "I") (by decide +kernel)
  have hw_5 := hts (.fieldLink RX12 198 "TwiceAsRichModel" "fewestAny" "I") (by decide +kernel)
  have hw_6 := hts (.fieldLink RX12 9 "TwiceAsRichModel" "s" "[I") (by decide +kernel)
  have hw_7 := hts (.fieldLink RX12 43 "TwiceAsRichModel" "was" "[I") (by decide +kernel)
  refine lv_aload_n hx hb dX12_partsAll_0 rfl (lv_at hl 0 rfl) ?_
  refine x_iconst hx hb dX12_partsAll_1 ?_
  refine x_put (C := RX12) (T := TX12) (N := 24) (ty := .int) hx hb hts hin_X12 hown hK hP hD hS (37) (by decide) hob rfl tyX12 tyX12_ok nmX12 17 (by decide) hw_0 (fun _ h9 => h9) rfl (by decide +kernel) rfl rfl (Nat.le_of_ble_eq_true rfl) dX12_partsAll_2 (fun M_1 H locs hnew hne hP hD hS => ?_)
  obtain ⟨ov_2, hov_2⟩ : ∃ q : Nat → Int, q = va_up (ov) 17 (0) := ⟨_, rfl⟩
  have vov_2 : ov_2 17 = 0 := by rw [hov_2]; rfl
  have nov_2 : ∀ j, j ≠ 17 → ov_2 j = ov j := fun j hj => by rw [hov_2]; exact va_up_ne _ _ hj
  have hnew : MObj g M_1 ov_2 := by rw [hov_2]; exact hnew
  have hP : xP g (M_1, σ.2) H := hP
  have hD : xD g A (M_1, σ.2) := hD
  have hob : MObj g M_1 ov_2 := hnew
  have hs0 := (hne (38) (by decide)).trans hs0
  have h41 := (hne (41) (by decide)).trans h41
  have h49 := (hne (49) (by decide)).trans h49
  have hfr := x_fr (F := fun j => j ≠ 37 ∧ j ≠ 38 ∧ j ≠ 41 ∧ j ≠ 49) hfr hne (fun j h => by have h : j ≠ 37 ∧ j ≠ 38 ∧ j ≠ 41 ∧ j ≠ 49 := h; omega)
  refine lv_aload_n hx hb dX12_partsAll_5 rfl (lv_at hl 0 rfl) ?_
  refine x_bipush (n := -4) hx hb (by decide +kernel) dX12_partsAll_6 ?_
  refine x_put (C := RX12) (T := TX12) (N := 24) (ty := .int) hx hb hts hin_X12 hown hK hP hD hS (37) (by decide) hob rfl tyX12 tyX12_ok nmX12 18 (by decide) hw_2 (fun _ h9 => h9) rfl (by decide +kernel) rfl rfl (Nat.le_of_ble_eq_true rfl) dX12_partsAll_8 (fun M_3 H locs hnew hne hP hD hS => ?_)
  obtain ⟨ov_4, hov_4⟩ : ∃ q : Nat → Int, q = va_up (ov_2) 18 (-4) := ⟨_, rfl⟩
  have vov_4 : ov_4 18 = -4 := by rw [hov_4]; rfl
  have nov_4 : ∀ j, j ≠ 18 → ov_4 j = ov_2 j := fun j hj => by rw [hov_4]; exact va_up_ne _ _ hj
  have hnew : MObj g M_3 ov_4 := by rw [hov_4]; exact hnew
  have hP : xP g (M_3, σ.2) H := hP
  have hD : xD g A (M_3, σ.2) := hD
  have hob : MObj g M_3 ov_4 := hnew
  have hs0 := (hne (38) (by decide)).trans hs0
  have h41 := (hne (41) (by decide)).trans h41
  have h49 := (hne (49) (by decide)).trans h49
  have hfr := x_fr (F := fun j => j ≠ 37 ∧ j ≠ 38 ∧ j ≠ 41 ∧ j ≠ 49) hfr hne (fun j h => by have h : j ≠ 37 ∧ j ≠ 38 ∧ j ≠ 41 ∧ j ≠ 49 := h; omega)
  refine lv_aload_n hx hb dX12_partsAll_11 rfl (lv_at hl 0 rfl) ?_
  refine x_bipush (n := -4) hx hb (by decide +kernel) dX12_partsAll_12 ?_
  refine x_put (C := RX12) (T := TX12) (N := 24) (ty := .int) hx hb hts hin_X12 hown hK hP hD hS (37) (by decide) hob rfl tyX12 tyX12_ok nmX12 19 (by decide) hw_3 (fun _ h9 => h9) rfl (by decide +kernel) rfl rfl (Nat.le_of_ble_eq_true rfl) dX12_partsAll_14 (fun M_5 H locs hnew hne hP hD hS => ?_)
  obtain ⟨ov_6, hov_6⟩ : ∃ q : Nat → Int, q = va_up (ov_4) 19 (-4) := ⟨_, rfl⟩
  have vov_6 : ov_6 19 = -4 := by rw [hov_6]; rfl
  have nov_6 : ∀ j, j ≠ 19 → ov_6 j = ov_4 j := fun j hj => by rw [hov_6]; exact va_up_ne _ _ hj
  have hnew : MObj g M_5 ov_6 := by rw [hov_6]; exact hnew
  have hP : xP g (M_5, σ.2) H := hP
  have hD : xD g A (M_5, σ.2) := hD
  have hob : MObj g M_5 ov_6 := hnew
  have hs0 := (hne (38) (by decide)).trans hs0
  have h41 := (hne (41) (by decide)).trans h41
  have h49 := (hne (49) (by decide)).trans h49
  have hfr := x_fr (F := fun j => j ≠ 37 ∧ j ≠ 38 ∧ j ≠ 41 ∧ j ≠ 49) hfr hne (fun j h => by have h : j ≠ 37 ∧ j ≠ 38 ∧ j ≠ 41 ∧ j ≠ 49 := h; omega)
  refine lv_aload_n hx hb dX12_partsAll_17 rfl (lv_at hl 0 rfl) ?_
  refine x_bipush (n := -4) hx hb (by decide +kernel) dX12_partsAll_18 ?_
  refine x_put (C := RX12) (T := TX12) (N := 24) (ty := .int) hx hb hts hin_X12 hown hK hP hD hS (37) (by decide) hob rfl tyX12 tyX12_ok nmX12 20 (by decide) hw_4 (fun _ h9 => h9) rfl (by decide +kernel) rfl rfl (Nat.le_of_ble_eq_true rfl) dX12_partsAll_20 (fun M_7 H locs hnew hne hP hD hS => ?_)
  obtain ⟨ov_8, hov_8⟩ : ∃ q : Nat → Int, q = va_up (ov_6) 20 (-4) := ⟨_, rfl⟩
  have vov_8 : ov_8 20 = -4 := by rw [hov_8]; rfl
  have nov_8 : ∀ j, j ≠ 20 → ov_8 j = ov_6 j := fun j hj => by rw [hov_8]; exact va_up_ne _ _ hj
  have hnew : MObj g M_7 ov_8 := by rw [hov_8]; exact hnew
  have hP : xP g (M_7, σ.2) H := hP
  have hD : xD g A (M_7, σ.2) := hD
  have hob : MObj g M_7 ov_8 := hnew
  have hs0 := (hne (38) (by decide)).trans hs0
  have h41 := (hne (41) (by decide)).trans h41
  have h49 := (hne (49) (by decide)).trans h49
  have hfr := x_fr (F := fun j => j ≠ 37 ∧ j ≠ 38 ∧ j ≠ 41 ∧ j ≠ 49) hfr hne (fun j h => by have h : j ≠ 37 ∧ j ≠ 38 ∧ j ≠ 41 ∧ j ≠ 49 := h; omega)
  refine lv_aload_n hx hb dX12_partsAll_23 rfl (lv_at hl 0 rfl) ?_
  refine x_bipush (n := -4) hx hb (by decide +kernel) dX12_partsAll_24 ?_
  refine x_put (C := RX12) (T := TX12) (N := 24) (ty := .int) hx hb hts hin_X12 hown hK hP hD hS (37) (by decide) hob rfl tyX12 tyX12_ok nmX12 21 (by decide) hw_5 (fun _ h9 => h9) rfl (by decide +kernel) rfl rfl (Nat.le_of_ble_eq_true rfl) dX12_partsAll_26 (fun M_9 H locs hnew hne hP hD hS => ?_)
  obtain ⟨ov_10, hov_10⟩ : ∃ q : Nat → Int, q = va_up (ov_8) 21 (-4) := ⟨_, rfl⟩
  have vov_10 : ov_10 21 = -4 := by rw [hov_10]; rfl
  have nov_10 : ∀ j, j ≠ 21 → ov_10 j = ov_8 j := fun j hj => by rw [hov_10]; exact va_up_ne _ _ hj
  have hnew : MObj g M_9 ov_10 := by rw [hov_10]; exact hnew
  have hP : xP g (M_9, σ.2) H := hP
  have hD : xD g A (M_9, σ.2) := hD
  have hob : MObj g M_9 ov_10 := hnew
  have hs0 := (hne (38) (by decide)).trans hs0
  have h41 := (hne (41) (by decide)).trans h41
  have h49 := (hne (49) (by decide)).trans h49
  have hfr := x_fr (F := fun j => j ≠ 37 ∧ j ≠ 38 ∧ j ≠ 41 ∧ j ≠ 49) hfr hne (fun j h => by have h : j ≠ 37 ∧ j ≠ 38 ∧ j ≠ 41 ∧ j ≠ 49 := h; omega)
  refine x_iconst hx hb dX12_partsAll_29 ?_
  refine lv_istore_n (lv' := [(3, .int (iI (0))), (0, .ref (g.2.2 37)), (1, .int (iI (c9))), (2, .int (iI (o)))]) hx hb dX12_partsAll_30 rfl hl (by decide) rfl (fun ls hl => ?_)
  have hloop_31 : ∀ (k : Nat) (i : Int), (S 0 - i).toNat < k → (hi0 : 0 ≤ i) → (hi1 : i ≤ S 0) → ∀ (M : xM) (H : Heap) (locs : List Loc), (hob : M (37) = .inr (12, [.ref (g.2.2 38), .ref (g.2.2 39), .ref (g.2.2 40), .ref (g.2.2 41), .ref (g.2.2 42), .ref (g.2.2 43), .ref (g.2.2 44), .ref (g.2.2 45), .ref (g.2.2 46), .ref (g.2.2 47), .int (iI (ov_10 10)), .int (iI (ov_10 11)), .int (iI (ov_10 12)), .int (iI (ov_10 13)), .int (iI (ov_10 14)), .int (iI (ov_10 15)), .ref (g.2.2 48), .int (iI (ov_10 17)), .int (iI (ov_10 18)), .int (iI (ov_10 19)), .int (iI (ov_10 20)), .int (iI (ov_10 21)), .ref (g.2.2 49), .int (iI (ov_10 23))])) → (hs0 : M (38) = .inl (g.2.1 0, 29, .inl (fun k => iI (S (k : Int))))) → (h41 : M (41) = .inl (g.2.1 0, 29, .inl (fun k => iI (Mi (k : Int))))) → (h49 : M (49) = .inl (g.2.1 0, 8, .inl (fun k => iI (zCopy (mP S) Wz i (k : Int))))) → (hfr : ∀ j, (j ≠ 37 ∧ j ≠ 38 ∧ j ≠ 41 ∧ j ≠ 49) → M j = σ.1 j) → xP g (M, σ.2) H → xD g A (M, σ.2) → va_S A s.heap H locs → ∀ (ls : Array Slot), lv_has ls 4 [(3, .int (iI (i))), (0, .ref (g.2.2 37)), (1, .int (iI (c9))), (2, .int (iI (o)))] → W p l e (headSpec wsX12_partsAll ({ frames := 20, cells := 0, slots := 0, locals := 640 })).room s m ([.ref (g.2.2 37), .int (iI (c9)), .int (iI (o))] : List Value).toArray below meth c H locs 0 0 (MQ below (x_Qv g A (fun σ1 => σ1.2 = σ.2 ∧ (∀ j, j ≠ 37 ∧ j ≠ 38 ∧ j ≠ 41 ∧ j ≠ 49 → σ1.1 j = σ.1 j) ∧ (∃ ov2, MObj g σ1.1 ov2 ∧ zAc ov2 = zPart (mK S) (mF S) (mP S) (S 0) (S 1) o c9 ∧ zAccOk (zAc ov2) ∧ ov2 10 = ov 10) ∧ xBack g σ1.1 S ∧ ∃ W2, MArr g σ1.1 49 8 W2)) ([.ref (g.2.2 37), .int (iI (c9)), .int (iI (o))] : List Value).toArray s (0) (0) A) (F0 m 31 ls []) := by
    intro k
    induction k with
    | zero =>
      intros; exact absurd (by assumption) (Nat.not_lt_zero _)
    | succ k ih =>
      intro i hmeas hi0 hi1 M H locs hob hs0 h41 h49 hfr hP hD hS ls hl
      have ih_11 := ih
      refine lv_iload_n hx hb dX12_partsAll_31 rfl (lv_at hl 0 rfl) ?_
      refine lv_aload_n hx hb dX12_partsAll_32 rfl (lv_at hl 1 rfl) ?_
      refine x_get (C := RX12) (T := TX12) (N := 24) hx hb hts hin_X12 hown hK hP (37) (by decide) hob rfl 0 (by decide) hw_6 (fun _ h9 => h9) rfl dX12_partsAll_33 ?_
      refine x_iconst hx hb dX12_partsAll_36 ?_
      refine x_iald (f := S) hx hb hK hP (38) (by decide) hs0 (by omega) (by omega) (by decide) dX12_partsAll_37 ?_
      have hb_12 := hok.1 (0)
      refine x_icmp_ge (tgt := 58) hx hb (by omega) (by omega) dX12_partsAll_38 (by decide) (fun c_38 => ?_) (fun c_38 => ?_)
      · have hz : zAc ov_10 = (0, -4, -4, -4, -4) := by (unfold zAc; rw [show ov_10 17 = 0 from ((nov_10 17 (by decide)).trans ((nov_8 17 (by decide)).trans ((nov_6 17 (by decide)).trans ((nov_4 17 (by decide)).trans vov_2)))), show ov_10 18 = -4 from ((nov_10 18 (by decide)).trans ((nov_8 18 (by decide)).trans ((nov_6 18 (by decide)).trans vov_4))), show ov_10 19 = -4 from ((nov_10 19 (by decide)).trans ((nov_8 19 (by decide)).trans vov_6)), show ov_10 20 = -4 from ((nov_10 20 (by decide)).trans vov_8), show ov_10 21 = -4 from vov_10])
        have hAc : zAccOk (zAc ov_10) := by (rw [hz]; unfold zAccOk; decide)
        have h10a : ov_10 10 = ov 10 := ((nov_10 10 (by decide)).trans ((nov_8 10 (by decide)).trans ((nov_6 10 (by decide)).trans ((nov_4 10 (by decide)).trans ((nov_2 10 (by decide)).trans rfl)))))
        have hi : i = S 0 := by omega
        have hWe : ∀ j, 0 ≤ j → j < S 0 → zCopy (mP S) Wz i j = mP S j := fun j a b => zCopy_in a (by omega)
        have hWn : ∀ j, 0 ≤ j → j < S 0 → 0 ≤ zCopy (mP S) Wz i j ∧ zCopy (mP S) Wz i j ≤ 9999 := fun j a b => by (rw [hWe j a b]; exact (hok.2.2.2 j a b).2.2)
        refine lv_aload_n hx hb dX12_partsAll_58 rfl (lv_at hl 1 rfl) ?_
        refine x_cqv0 (va_runV (As := []) (rest := []) ⟨hx, hb, hml, hown, hts⟩ (c_X12_begins l g (M, σ.2) A (ov_10) S Mi hob hs0 h41) (cwV 0 hts gX12_partsAll_X12_begins rfl rfl rfl (by decide +kernel) ⟨Nat.le_of_ble_eq_true rfl, Nat.le_of_ble_eq_true rfl⟩) (x_preVQ hK hP hD hS hA (x_recv hK hP (i := 37) (by decide) hob rfl)) rfl rfl hl.1 rfl (lv_room (Nat.le_of_ble_eq_true rfl)) dX12_partsAll_59 ⟨by decide, by decide⟩) hS (fun σ1 H locs hpost hP hD hS => ?_)
        obtain ⟨M_13, p1⟩ := σ1
        obtain ⟨hp0, hfrc, hnew⟩ := hpost
        obtain rfl : p1 = σ.2 := hp0
        have hP : xP g (M_13, σ.2) H := hP
        have hD : xD g A (M_13, σ.2) := hD
        have hob : MObj g M_13 ov_10 := (hfrc (37) (by omega)).trans hob
        have hs0 := (hfrc (38) (by omega)).trans hs0
        have h49 := (hfrc (49) (by omega)).trans h49
        have hfr := x_frc (F := fun j => j ≠ 37 ∧ j ≠ 38 ∧ j ≠ 41 ∧ j ≠ 49) hfr hfrc (fun j h => by have h : j ≠ 37 ∧ j ≠ 38 ∧ j ≠ 41 ∧ j ≠ 49 := h; omega)
        obtain ⟨Mi_14, hMi_14⟩ : ∃ q : Int → Int, q = zCopy S Mi 29 := ⟨_, rfl⟩
        have h41 : MArr g M_13 41 29 Mi_14 := by rw [hMi_14]; exact hnew
        refine lv_aload_n hx hb dX12_partsAll_62 rfl (lv_at hl 1 rfl) ?_
        refine x_iconst hx hb dX12_partsAll_63 ?_
        refine lv_iload_n hx hb dX12_partsAll_64 rfl (lv_at hl 2 rfl) ?_
        refine lv_iload_n hx hb dX12_partsAll_65 rfl (lv_at hl 3 rfl) ?_
        refine x_cqv0 (va_runV (As := [.int (iI (0)), .int (iI (c9)), .int (iI (o))]) (rest := []) ⟨hx, hb, hml, hown, hts⟩ (c_X12_parts6 l g (M_13, σ.2) A (ov_10) S hob hs0 hok (zCopy (mP S) Wz i) h49 hWn (by omega) (0) (by omega) (c9) (by omega) (o) (by omega) hAc) (cwV 3 hts gX12_partsAll_X12_parts rfl rfl rfl (by decide +kernel) ⟨Nat.le_of_ble_eq_true rfl, Nat.le_of_ble_eq_true rfl⟩) (x_preVQ hK hP hD hS hA (x_recv hK hP (i := 37) (by decide) hob rfl)) rfl rfl hl.1 rfl (lv_room (Nat.le_of_ble_eq_true rfl)) dX12_partsAll_66 ⟨by decide, by decide⟩) hS (fun σ1 H locs hpost hP hD hS => ?_)
        obtain ⟨M_15, p1⟩ := σ1
        obtain ⟨hp0, hfrc, ov_16, T_17, hnew, hnew2, okT_17, smT_17, hacov_16, hokov_16, h10ov_16⟩ := hpost
        obtain rfl : p1 = σ.2 := hp0
        have hP : xP g (M_15, σ.2) H := hP
        have hD : xD g A (M_15, σ.2) := hD
        have h41 := (hfrc (41) (by omega)).trans h41
        have h49 := (hfrc (49) (by omega)).trans h49
        have hfr := x_frc (F := fun j => j ≠ 37 ∧ j ≠ 38 ∧ j ≠ 41 ∧ j ≠ 49) hfr hfrc (fun j h => by have h : j ≠ 37 ∧ j ≠ 38 ∧ j ≠ 41 ∧ j ≠ 49 := h; omega)
        have hob : MObj g M_15 ov_16 := hnew
        have hs0 : MArr g M_15 38 29 T_17 := hnew2
        refine lv_aload_n hx hb dX12_partsAll_69 rfl (lv_at hl 1 rfl) ?_
        refine x_cqv0 (va_runV (As := []) (rest := []) ⟨hx, hb, hml, hown, hts⟩ (c_X12_ends l g (M_15, σ.2) A (ov_16) T_17 Mi_14 hob hs0 h41) (cwV 0 hts gX12_partsAll_X12_ends rfl rfl rfl (by decide +kernel) ⟨Nat.le_of_ble_eq_true rfl, Nat.le_of_ble_eq_true rfl⟩) (x_preVQ hK hP hD hS hA (x_recv hK hP (i := 37) (by decide) hob rfl)) rfl rfl hl.1 rfl (lv_room (Nat.le_of_ble_eq_true rfl)) dX12_partsAll_70 ⟨by decide, by decide⟩) hS (fun σ1 H locs hpost hP hD hS => ?_)
        obtain ⟨M_18, p1⟩ := σ1
        obtain ⟨hp0, hfrc, hnew⟩ := hpost
        obtain rfl : p1 = σ.2 := hp0
        have hP : xP g (M_18, σ.2) H := hP
        have hD : xD g A (M_18, σ.2) := hD
        have hob : MObj g M_18 ov_16 := (hfrc (37) (by omega)).trans hob
        have h41 := (hfrc (41) (by omega)).trans h41
        have h49 := (hfrc (49) (by omega)).trans h49
        have hfr := x_frc (F := fun j => j ≠ 37 ∧ j ≠ 38 ∧ j ≠ 41 ∧ j ≠ 49) hfr hfrc (fun j h => by have h : j ≠ 37 ∧ j ≠ 38 ∧ j ≠ 41 ∧ j ≠ 49 := h; omega)
        obtain ⟨S_19, hS_19⟩ : ∃ q : Int → Int, q = zCopy Mi_14 T_17 29 := ⟨_, rfl⟩
        have hs0 : MArr g M_18 38 29 S_19 := by rw [hS_19]; exact hnew
        refine x_retQv hx hb hr ?_ hP hD hS dX12_partsAll_73 hlocks
        refine ⟨rfl, hfr, ⟨ov_16, hob, ?_, hokov_16, h10ov_16.trans h10a⟩, ?_, _, h49⟩
        · rw [hacov_16, hz]; exact zPart_end hn0.1 hWe
        · exact ⟨_, _, hs0, h41, zKeep_back hok.1 okT_17.1 hMi_14 hS_19⟩
      · refine lv_aload_n hx hb dX12_partsAll_41 rfl (lv_at hl 1 rfl) ?_
        refine x_get (C := RX12) (T := TX12) (N := 24) hx hb hts hin_X12 hown hK hP (37) (by decide) hob rfl 22 (by decide) hw_7 (fun _ h9 => h9) rfl dX12_partsAll_42 ?_
        refine lv_iload_n hx hb dX12_partsAll_45 rfl (lv_at hl 0 rfl) ?_
        refine lv_aload_n hx hb dX12_partsAll_46 rfl (lv_at hl 1 rfl) ?_
        refine lv_iload_n hx hb dX12_partsAll_47 rfl (lv_at hl 0 rfl) ?_
        refine x_ci (va_runV (As := [.int (iI (i))]) (rest := [.int (iI (i)), .ref (g.2.2 49)]) ⟨hx, hb, hml, hown, hts⟩ (c_X12_purse l g (M, σ.2) (ov_10) S hob hs0 hok.1 (i) (by omega)) (cwV 1 hts gX12_partsAll_X12_purse rfl rfl rfl (by decide +kernel) ⟨Nat.le_of_ble_eq_true rfl, Nat.le_of_ble_eq_true rfl⟩) (x_preV hK hP (x_recv hK hP (i := 37) (by decide) hob rfl)) rfl rfl hl.1 rfl (lv_room (Nat.le_of_ble_eq_true rfl)) dX12_partsAll_48 ⟨Nat.le_of_ble_eq_true rfl, Nat.le_of_ble_eq_true rfl⟩) (fun r_48 hr_48 qr_48 => ?_)
        replace qr_48 : r_48 = S (2 + 3 * (i) + 2) := qr_48
        refine x_iast (f := zCopy (mP S) Wz i) hx hb hK hP hD hS (49) (by decide) h49 (by omega) (by omega) (by decide) dX12_partsAll_51 (fun M_20 H locs hnew hne hP hD hS => ?_)
        obtain ⟨f_21, hf_21⟩ : ∃ q : Int → Int, q = (upI (zCopy (mP S) Wz i) (i) (r_48)) := ⟨_, rfl⟩
        rw [← hf_21] at hnew
        have hP : xP g (M_20, σ.2) H := hP
        have hD : xD g A (M_20, σ.2) := hD
        have h49 : M_20 (49) = .inl (g.2.1 0, 8, .inl (fun k => iI (f_21 (k : Int)))) := hnew
        have hob : MObj g M_20 ov_10 := (hne (37) (by decide)).trans hob
        have hs0 := (hne (38) (by decide)).trans hs0
        have h41 := (hne (41) (by decide)).trans h41
        have hfr := x_fr (F := fun j => j ≠ 37 ∧ j ≠ 38 ∧ j ≠ 41 ∧ j ≠ 49) hfr hne (fun j h => by have h : j ≠ 37 ∧ j ≠ 38 ∧ j ≠ 41 ∧ j ≠ 49 := h; omega)
        refine x_iinc (k0 := 0) (lv' := [(3, .int (iI (i + 1))), (0, .ref (g.2.2 37)), (1, .int (iI (c9))), (2, .int (iI (o)))]) hx hb dX12_partsAll_52 hl rfl (by decide) rfl (fun ls hl => ?_)
        refine lv_goto (tgt := 31) hx hb dX12_partsAll_55 (by decide) ?_
        have hs : f_21 = zCopy (mP S) Wz (i + 1) := by (rw [hf_21, qr_48]; exact zCopy_step (f := mP S) hi0)
        rw [hs] at h49
        exact ih_11 (i + 1) (by omega) (by omega) (by omega) (M_20) _ _ hob hs0 h41 h49 hfr hP hD hS ls (lv_sub hl [0, 1, 2, 3] rfl)
  rw [← zCopy_0 (mP S) Wz] at h49
  exact hloop_31 (((S 0 - (0)).toNat) + 1) (0) (by omega) (by omega) (by omega) (M_9) _ _ hob hs0 h41 h49 hfr hP hD hS ls (lv_sub hl [0, 1, 2, 3] rfl)

set_option maxHeartbeats 4000000 in
set_option maxRecDepth 100000 in
theorem c_X12_tooMany (l : Launch) (g : xG) (σ : xS) (ov : Nat → Int) (S : Int → Int) (hob : MObj g σ.1 ov) (hs0 : MArr g σ.1 38 29 S) (hok : SmOk S) : Met l yX12_tooMany wsX12_tooMany ({ frames := 4, cells := 0, slots := 0, locals := 128 }) (va_Pc [.ref (g.2.2 37)] (xPre g σ)) (x_Si (fun r => (r = 1 ∧ (6 < S 0 ∨ 20 < zSum (mP S) (S 0).toNat)) ∨ (r = 0 ∧ ¬ (6 < S 0 ∨ 20 < zSum (mP S) (S 0).toNat)))) (0) (0) (fun _ => False) := by
  refine Met.ofW (cc := cX12_tooMany) (maxL := 1) (ret := (some .boolean)) (by decide) rfl ?_
  intro p e s m args below meth c s₁ B hml hv
  obtain ⟨rfl, hP, hK⟩ := hv
  have hx := B.exec
  have hb := B.bytes
  have hr := B.returns
  have hts := atoms_spec (ws := wsX12_tooMany) B.pre
  have hown : s.vm.findClass RX12 = some m.cls := findClass_of_methodNamed B.named
  have hlocks := B.notSynchronized
  have hl := lv_entry ([.ref (g.2.2 37)]) (n := 1) (Nat.le_of_ble_eq_true rfl)
  rw [lg_entry_eq]
  generalize (lg_sl ([.ref (g.2.2 37)]) ++ List.replicate (1 - (lg_sl ([.ref (g.2.2 37)])).length) Slot.unset).toArray = ls at hl ⊢
  have hl : lv_has ls 1 [(0, .ref (g.2.2 37))] := hl
  have hn0 := hok.2.1
  have hrd0 := hok.2.2.1
  have hw_0 := hts (.fieldLink RX12 9 "TwiceAsRichModel" "s" "[I") (by decide +kernel)
  have hin_X12 : ∀ w ∈ wsX120, w ∈ wsX12_tooMany := by decide +kernel
  refine lv_aload_n hx hb dX12_tooMany_0 rfl (lv_at hl 0 rfl) ?_
  refine x_get (C := RX12) (T := TX12) (N := 24) hx hb hts hin_X12 hown hK hP (37) (by decide) hob rfl 0 (by decide) hw_0 (fun _ h9 => h9) rfl dX12_tooMany_1 ?_
  refine x_iconst hx hb dX12_tooMany_4 ?_
  refine x_iald (f := S) hx hb hK hP (38) (by decide) hs0 (by omega) (by omega) (by decide) dX12_tooMany_5 ?_
  have hb_1 := hok.1 (0)
  refine x_bipush (n := 6) hx hb (by decide +kernel) dX12_tooMany_6 ?_
  refine x_icmp_gt (tgt := 20) hx hb (by omega) (by omega) dX12_tooMany_8 (by decide) (fun c_8 => ?_) (fun c_8 => ?_)
  · refine x_iconst hx hb dX12_tooMany_20 ?_
    refine lv_goto (tgt := 25) hx hb dX12_tooMany_21 (by decide) ?_
    refine x_retPz hx hb hr (by omega) ?_ dX12_tooMany_25 hlocks
    omega
  · refine lv_aload_n hx hb dX12_tooMany_11 rfl (lv_at hl 0 rfl) ?_
    refine x_ci (va_runV (As := []) (rest := []) ⟨hx, hb, hml, hown, hts⟩ (c_X12_coins l g σ (ov) S hob hs0 hok ) (cwV 0 hts gX12_tooMany_X12_coins rfl rfl rfl (by decide +kernel) ⟨Nat.le_of_ble_eq_true rfl, Nat.le_of_ble_eq_true rfl⟩) (x_preV hK hP (x_recv hK hP (i := 37) (by decide) hob rfl)) rfl rfl hl.1 rfl (lv_room (Nat.le_of_ble_eq_true rfl)) dX12_tooMany_12 ⟨Nat.le_of_ble_eq_true rfl, Nat.le_of_ble_eq_true rfl⟩) (fun r_12 hr_12 qr_12 => ?_)
    replace qr_12 : r_12 = zSum (mP S) (S 0).toNat ∧ 0 ≤ r_12 ∧ r_12 ≤ 99999 := qr_12
    refine x_bipush (n := 20) hx hb (by decide +kernel) dX12_tooMany_15 ?_
    refine x_icmp_le (tgt := 24) hx hb (by omega) (by omega) dX12_tooMany_17 (by decide) (fun c_17 => ?_) (fun c_17 => ?_)
    · refine x_iconst hx hb dX12_tooMany_24 ?_
      refine x_retPz hx hb hr (by omega) ?_ dX12_tooMany_25 hlocks
      omega
    · refine x_iconst hx hb dX12_tooMany_20 ?_
      refine lv_goto (tgt := 25) hx hb dX12_tooMany_21 (by decide) ?_
      refine x_retPz hx hb hr (by omega) ?_ dX12_tooMany_25 hlocks
      omega

set_option maxHeartbeats 4000000 in
set_option maxRecDepth 100000 in
theorem c_X12_wrongParting (l : Launch) (g : xG) (σ : xS) (ov : Nat → Int) (S : Int → Int) (hob : MObj g σ.1 ov) (hs0 : MArr g σ.1 38 29 S) (hok : SmOk S) (c9 : Int) (hc : inR c9) : Met l yX12_wrongParting wsX12_wrongParting ({ frames := 2, cells := 0, slots := 0, locals := 64 }) (va_Pc [.ref (g.2.2 37), .int (iI (c9))] (xPre g σ)) (x_Si (fun r => r = zWp (S 0) c9)) (0) (0) (fun _ => False) := by
  refine Met.ofW (cc := cX12_wrongParting) (maxL := 2) (ret := (some .int)) (by decide) rfl ?_
  intro p e s m args below meth c s₁ B hml hv
  obtain ⟨rfl, hP, hK⟩ := hv
  have hx := B.exec
  have hb := B.bytes
  have hr := B.returns
  have hts := atoms_spec (ws := wsX12_wrongParting) B.pre
  have hown : s.vm.findClass RX12 = some m.cls := findClass_of_methodNamed B.named
  have hlocks := B.notSynchronized
  have hl := lv_entry ([.ref (g.2.2 37), .int (iI (c9))]) (n := 2) (Nat.le_of_ble_eq_true rfl)
  rw [lg_entry_eq]
  generalize (lg_sl ([.ref (g.2.2 37), .int (iI (c9))]) ++ List.replicate (2 - (lg_sl ([.ref (g.2.2 37), .int (iI (c9))])).length) Slot.unset).toArray = ls at hl ⊢
  have hl : lv_has ls 2 [(0, .ref (g.2.2 37)), (1, .int (iI (c9)))] := hl
  have hn0 := hok.2.1
  have hrd0 := hok.2.2.1
  have hw_0 := hts (.constantLong RX12 214 (20)) (by decide +kernel)
  have hw_1 := hts (.fieldLink RX12 9 "TwiceAsRichModel" "s" "[I") (by decide +kernel)
  have hin_X12 : ∀ w ∈ wsX120, w ∈ wsX12_wrongParting := by decide +kernel
  refine lv_iload_n hx hb dX12_wrongParting_0 rfl (lv_at hl 1 rfl) ?_
  refine x_i2l hx hb (by omega) dX12_wrongParting_1 ?_
  refine x_lconst (z := 0) hx hb (by decide +kernel) dX12_wrongParting_2 ?_
  refine x_ldc2 (z := 20) hx hb hown hw_0 (by decide +kernel) dX12_wrongParting_3 ?_
  refine x_ci (va_runS (As := [.long (jL (c9)), .long (jL (0)), .long (jL (20))]) (rest := []) ⟨hx, hb, hml, hown, hts⟩ (c_X12_isIn l g σ (c9) (by omega) (0) (by omega) (20) (by omega)) (va_cwS 3 hts gX12_wrongParting_X12_isIn rfl rfl rfl (by decide +kernel) ⟨Nat.le_of_ble_eq_true rfl, Nat.le_of_ble_eq_true rfl⟩) (x_preS hK hP) rfl rfl hl.1 rfl (lv_room (Nat.le_of_ble_eq_true rfl)) dX12_wrongParting_6 ⟨Nat.le_of_ble_eq_true rfl, Nat.le_of_ble_eq_true rfl⟩) (fun r_6 hr_6 qr_6 => ?_)
  replace qr_6 : (r_6 = 1 ∧ (0) ≤ (c9) ∧ (c9) ≤ (20)) ∨ (r_6 = 0 ∧ ¬ ((0) ≤ (c9) ∧ (c9) ≤ (20))) := qr_6
  refine x_if_ne (tgt := 16) hx hb (by omega) dX12_wrongParting_9 (by decide) (fun c_9 => ?_) (fun c_9 => ?_)
  · refine lv_aload_n hx hb dX12_wrongParting_16 rfl (lv_at hl 0 rfl) ?_
    refine x_get (C := RX12) (T := TX12) (N := 24) hx hb hts hin_X12 hown hK hP (37) (by decide) hob rfl 0 (by decide) hw_1 (fun _ h9 => h9) rfl dX12_wrongParting_17 ?_
    refine x_iconst hx hb dX12_wrongParting_20 ?_
    refine x_iald (f := S) hx hb hK hP (38) (by decide) hs0 (by omega) (by omega) (by decide) dX12_wrongParting_21 ?_
    have hb_1 := hok.1 (0)
    refine x_bipush (n := 6) hx hb (by decide +kernel) dX12_wrongParting_22 ?_
    refine x_icmp_le (tgt := 32) hx hb (by omega) (by omega) dX12_wrongParting_24 (by decide) (fun c_24 => ?_) (fun c_24 => ?_)
    · refine x_iconst hx hb dX12_wrongParting_32 ?_
      refine x_retP hx hb hr (by omega) ?_ dX12_wrongParting_33 hlocks
      unfold zWp
      repeat first | rw [if_pos (by omega)] | rw [if_neg (by omega)]
    · refine x_bipush (n := -3) hx hb (by decide +kernel) dX12_wrongParting_27 ?_
      refine lv_goto (tgt := 33) hx hb dX12_wrongParting_29 (by decide) ?_
      refine x_retP hx hb hr (by omega) ?_ dX12_wrongParting_33 hlocks
      unfold zWp
      repeat first | rw [if_pos (by omega)] | rw [if_neg (by omega)]
  · refine x_iconst hx hb dX12_wrongParting_12 ?_
    refine lv_goto (tgt := 33) hx hb dX12_wrongParting_13 (by decide) ?_
    refine x_retP hx hb hr (by omega) ?_ dX12_wrongParting_33 hlocks
    unfold zWp
    repeat first | rw [if_pos (by omega)] | rw [if_neg (by omega)]

set_option maxHeartbeats 4000000 in
set_option maxRecDepth 100000 in
theorem c_X12_partings (l : Launch) (g : xG) (σ : xS) (A : Nat → Prop) (ov : Nat → Int) (S : Int → Int) (hob : MObj g σ.1 ov) (hs0 : MArr g σ.1 38 29 S) (hok : SmOk S) (Mi : Int → Int) (h41 : MArr g σ.1 41 29 Mi) (Wz : Int → Int) (h49 : MArr g σ.1 49 8 Wz) (c9 : Int) (hc : inR c9) : Met l yX12_partings wsX12_partings ({ frames := 21, cells := 0, slots := 0, locals := 672 }) (va_Pc [.ref (g.2.2 37), .int (iI (c9))] (xPreQ g A σ)) (x_Qi g A (fun r σ1 => σ1.2 = σ.2 ∧ (∀ j, j ≠ 37 ∧ j ≠ 38 ∧ j ≠ 41 ∧ j ≠ 49 → σ1.1 j = σ.1 j) ∧ r = zPartings (mK S) (mF S) (mP S) (S 0) (S 1) c9 ∧ (∃ ov2, MObj g σ1.1 ov2 ∧ ov2 10 = ov 10) ∧ xBack g σ1.1 S ∧ ∃ W2, MArr g σ1.1 49 8 W2)) (0) (0) A := by
  refine Met.ofW (cc := cX12_partings) (maxL := 3) (ret := (some .int)) (by decide) rfl ?_
  intro p e s m args below meth c s₁ B hml hv
  obtain ⟨rfl, hP, hK, hD, hA⟩ := hv
  have hx := B.exec
  have hb := B.bytes
  have hr := B.returns
  have hts := atoms_spec (ws := wsX12_partings) B.pre
  have hown : s.vm.findClass RX12 = some m.cls := findClass_of_methodNamed B.named
  have hlocks := B.notSynchronized
  have hS : va_S A s.heap s.heap [] := va_S.rf
  have hfr : ∀ j, (j ≠ 37 ∧ j ≠ 38 ∧ j ≠ 41 ∧ j ≠ 49) → σ.1 j = σ.1 j := fun _ _ => rfl
  have hl := lv_entry ([.ref (g.2.2 37), .int (iI (c9))]) (n := 3) (Nat.le_of_ble_eq_true rfl)
  rw [lg_entry_eq]
  generalize (lg_sl ([.ref (g.2.2 37), .int (iI (c9))]) ++ List.replicate (3 - (lg_sl ([.ref (g.2.2 37), .int (iI (c9))])).length) Slot.unset).toArray = ls at hl ⊢
  have hl : lv_has ls 3 [(0, .ref (g.2.2 37)), (1, .int (iI (c9)))] := hl
  have hn0 := hok.2.1
  have hrd0 := hok.2.2.1
  have hw_0 := hts (.fieldLink RX12 186 "TwiceAsRichModel" "ways" "I") (by decide +kernel)
  have hin_X12 : ∀ w ∈ wsX120, w ∈ wsX12_partings := by decide +kernel
  refine lv_aload_n hx hb dX12_partings_0 rfl (lv_at hl 0 rfl) ?_
  refine lv_iload_n hx hb dX12_partings_1 rfl (lv_at hl 1 rfl) ?_
  refine x_ci (va_runV (As := [.int (iI (c9))]) (rest := []) ⟨hx, hb, hml, hown, hts⟩ (c_X12_wrongParting l g σ (ov) S hob hs0 hok (c9) (by omega)) (cwV 1 hts gX12_partings_X12_wrongParting rfl rfl rfl (by decide +kernel) ⟨Nat.le_of_ble_eq_true rfl, Nat.le_of_ble_eq_true rfl⟩) (x_preV hK hP (x_recv hK hP (i := 37) (by decide) hob rfl)) rfl rfl hl.1 rfl (lv_room (Nat.le_of_ble_eq_true rfl)) dX12_partings_2 ⟨Nat.le_of_ble_eq_true rfl, Nat.le_of_ble_eq_true rfl⟩) (fun r_2 hr_2 qr_2 => ?_)
  replace qr_2 : r_2 = zWp (S 0) (c9) := qr_2
  refine lv_istore_n (lv' := [(2, .int (iI (r_2))), (0, .ref (g.2.2 37)), (1, .int (iI (c9)))]) hx hb dX12_partings_5 rfl hl (by decide) rfl (fun ls hl => ?_)
  refine lv_iload_n hx hb dX12_partings_6 rfl (lv_at hl 0 rfl) ?_
  refine x_if_eq (tgt := 12) hx hb (by omega) dX12_partings_7 (by decide) (fun c_7 => ?_) (fun c_7 => ?_)
  · have hw9 : (0 ≤ c9 ∧ c9 ≤ 20) ∧ S 0 ≤ 6 := by (have z := qr_2; rw [show r_2 = 0 by omega] at z; unfold zWp at z; by_cases c1 : 0 ≤ c9 ∧ c9 ≤ 20; (rw [if_neg (by omega)] at z; by_cases c2 : 6 < S 0; (rw [if_pos c2] at z; omega); exact ⟨c1, by omega⟩); (rw [if_pos c1] at z; omega))
    refine lv_aload_n hx hb dX12_partings_12 rfl (lv_at hl 1 rfl) ?_
    refine lv_iload_n hx hb dX12_partings_13 rfl (lv_at hl 2 rfl) ?_
    refine x_bipush (n := -4) hx hb (by decide +kernel) dX12_partings_14 ?_
    refine x_cqv0 (va_runV (As := [.int (iI (c9)), .int (iI (-4))]) (rest := []) ⟨hx, hb, hml, hown, hts⟩ (c_X12_partsAll l g σ A (ov) S hob hs0 hok Mi h41 Wz h49 (by omega) (c9) (by omega) (-4) (by omega)) (cwV 2 hts gX12_partings_X12_partsAll rfl rfl rfl (by decide +kernel) ⟨Nat.le_of_ble_eq_true rfl, Nat.le_of_ble_eq_true rfl⟩) (x_preVQ hK hP hD hS hA (x_recv hK hP (i := 37) (by decide) hob rfl)) rfl rfl hl.1 rfl (lv_room (Nat.le_of_ble_eq_true rfl)) dX12_partings_16 ⟨by decide, by decide⟩) hS (fun σ1 H locs hpost hP hD hS => ?_)
    obtain ⟨M_1, p1⟩ := σ1
    obtain ⟨hp0, hfrc, ⟨ov_2, hnew, hac, hoka, h10⟩, ⟨S_3, Mi_4, hb1, hb2, hkp⟩, Wz_5, hb3⟩ := hpost
    obtain rfl : p1 = σ.2 := hp0
    have hP : xP g (M_1, σ.2) H := hP
    have hD : xD g A (M_1, σ.2) := hD
    have hfr := x_frc (F := fun j => j ≠ 37 ∧ j ≠ 38 ∧ j ≠ 41 ∧ j ≠ 49) hfr hfrc (fun j h => by have h : j ≠ 37 ∧ j ≠ 38 ∧ j ≠ 41 ∧ j ≠ 49 := h; omega)
    have hob : MObj g M_1 ov_2 := hnew
    have hs0 := hb1
    have h41 := hb2
    have h49 := hb3
    have hrg : inR (ov_2 17) := by (first | (have z := hoka; unfold zAccOk zAc at z; simp only at z; exact ⟨by omega, by omega⟩) | (have z := zPart_ways (mK S) (mF S) (mP S) (S 0) (S 1) (-4) c9 (by omega) (by omega); rw [← hac] at z; unfold zAc at z; simp only at z; exact ⟨by omega, by omega⟩))
    refine lv_aload_n hx hb dX12_partings_19 rfl (lv_at hl 1 rfl) ?_
    refine x_get (C := RX12) (T := TX12) (N := 24) hx hb hts hin_X12 hown hK hP (37) (by decide) hob rfl 17 (by decide) hw_0 (fun _ h9 => h9) rfl dX12_partings_20 ?_
    refine x_retQ hx hb hr (by omega) ?_ hP hD hS dX12_partings_23 hlocks
    have hsel : ov_2 17 = (zAc ov_2).1 := rfl
    rw [hac] at hsel
    refine ⟨rfl, hfr, by (unfold zPartings; rw [if_neg (by omega)]; exact hsel), ⟨ov_2, hob, h10⟩, ⟨_, _, hs0, h41, hkp⟩, _, h49⟩
  · refine lv_iload_n hx hb dX12_partings_10 rfl (lv_at hl 0 rfl) ?_
    refine x_retQ hx hb hr (by omega) ?_ hP hD hS dX12_partings_11 hlocks
    refine ⟨rfl, hfr, by (unfold zPartings; first | (rw [if_pos (by omega)]; exact qr_2) | (rw [if_pos (by omega)]; done) | (rw [if_neg (by omega), if_pos (by omega)]; exact qr_14)), ⟨ov, hob, rfl⟩, ⟨S, Mi, hs0, h41, zKeep_self hok.1⟩, Wz, h49⟩

set_option maxHeartbeats 4000000 in
set_option maxRecDepth 100000 in
theorem c_X12_uneven (l : Launch) (g : xG) (σ : xS) (A : Nat → Prop) (ov : Nat → Int) (S : Int → Int) (hob : MObj g σ.1 ov) (hs0 : MArr g σ.1 38 29 S) (hok : SmOk S) (Mi : Int → Int) (h41 : MArr g σ.1 41 29 Mi) (Wz : Int → Int) (h49 : MArr g σ.1 49 8 Wz) (c9 : Int) (hc : inR c9) : Met l yX12_uneven wsX12_uneven ({ frames := 21, cells := 0, slots := 0, locals := 672 }) (va_Pc [.ref (g.2.2 37), .int (iI (c9))] (xPreQ g A σ)) (x_Qi g A (fun r σ1 => σ1.2 = σ.2 ∧ (∀ j, j ≠ 37 ∧ j ≠ 38 ∧ j ≠ 41 ∧ j ≠ 49 → σ1.1 j = σ.1 j) ∧ r = zUneven (mK S) (mF S) (mP S) (S 0) (S 1) c9 ∧ (∃ ov2, MObj g σ1.1 ov2 ∧ ov2 10 = ov 10) ∧ xBack g σ1.1 S ∧ ∃ W2, MArr g σ1.1 49 8 W2)) (0) (0) A := by
  refine Met.ofW (cc := cX12_uneven) (maxL := 3) (ret := (some .int)) (by decide) rfl ?_
  intro p e s m args below meth c s₁ B hml hv
  obtain ⟨rfl, hP, hK, hD, hA⟩ := hv
  have hx := B.exec
  have hb := B.bytes
  have hr := B.returns
  have hts := atoms_spec (ws := wsX12_uneven) B.pre
  have hown : s.vm.findClass RX12 = some m.cls := findClass_of_methodNamed B.named
  have hlocks := B.notSynchronized
  have hS : va_S A s.heap s.heap [] := va_S.rf
  have hfr : ∀ j, (j ≠ 37 ∧ j ≠ 38 ∧ j ≠ 41 ∧ j ≠ 49) → σ.1 j = σ.1 j := fun _ _ => rfl
  have hl := lv_entry ([.ref (g.2.2 37), .int (iI (c9))]) (n := 3) (Nat.le_of_ble_eq_true rfl)
  rw [lg_entry_eq]
  generalize (lg_sl ([.ref (g.2.2 37), .int (iI (c9))]) ++ List.replicate (3 - (lg_sl ([.ref (g.2.2 37), .int (iI (c9))])).length) Slot.unset).toArray = ls at hl ⊢
  have hl : lv_has ls 3 [(0, .ref (g.2.2 37)), (1, .int (iI (c9)))] := hl
  have hn0 := hok.2.1
  have hrd0 := hok.2.2.1
  have hw_0 := hts (.fieldLink RX12 189 "TwiceAsRichModel" "uneven" "I") (by decide +kernel)
  have hin_X12 : ∀ w ∈ wsX120, w ∈ wsX12_uneven := by decide +kernel
  refine lv_aload_n hx hb dX12_uneven_0 rfl (lv_at hl 0 rfl) ?_
  refine lv_iload_n hx hb dX12_uneven_1 rfl (lv_at hl 1 rfl) ?_
  refine x_ci (va_runV (As := [.int (iI (c9))]) (rest := []) ⟨hx, hb, hml, hown, hts⟩ (c_X12_wrongParting l g σ (ov) S hob hs0 hok (c9) (by omega)) (cwV 1 hts gX12_uneven_X12_wrongParting rfl rfl rfl (by decide +kernel) ⟨Nat.le_of_ble_eq_true rfl, Nat.le_of_ble_eq_true rfl⟩) (x_preV hK hP (x_recv hK hP (i := 37) (by decide) hob rfl)) rfl rfl hl.1 rfl (lv_room (Nat.le_of_ble_eq_true rfl)) dX12_uneven_2 ⟨Nat.le_of_ble_eq_true rfl, Nat.le_of_ble_eq_true rfl⟩) (fun r_2 hr_2 qr_2 => ?_)
  replace qr_2 : r_2 = zWp (S 0) (c9) := qr_2
  refine lv_istore_n (lv' := [(2, .int (iI (r_2))), (0, .ref (g.2.2 37)), (1, .int (iI (c9)))]) hx hb dX12_uneven_5 rfl hl (by decide) rfl (fun ls hl => ?_)
  refine lv_iload_n hx hb dX12_uneven_6 rfl (lv_at hl 0 rfl) ?_
  refine x_if_eq (tgt := 12) hx hb (by omega) dX12_uneven_7 (by decide) (fun c_7 => ?_) (fun c_7 => ?_)
  · have hw9 : (0 ≤ c9 ∧ c9 ≤ 20) ∧ S 0 ≤ 6 := by (have z := qr_2; rw [show r_2 = 0 by omega] at z; unfold zWp at z; by_cases c1 : 0 ≤ c9 ∧ c9 ≤ 20; (rw [if_neg (by omega)] at z; by_cases c2 : 6 < S 0; (rw [if_pos c2] at z; omega); exact ⟨c1, by omega⟩); (rw [if_pos c1] at z; omega))
    refine lv_aload_n hx hb dX12_uneven_12 rfl (lv_at hl 1 rfl) ?_
    refine lv_iload_n hx hb dX12_uneven_13 rfl (lv_at hl 2 rfl) ?_
    refine x_bipush (n := -4) hx hb (by decide +kernel) dX12_uneven_14 ?_
    refine x_cqv0 (va_runV (As := [.int (iI (c9)), .int (iI (-4))]) (rest := []) ⟨hx, hb, hml, hown, hts⟩ (c_X12_partsAll l g σ A (ov) S hob hs0 hok Mi h41 Wz h49 (by omega) (c9) (by omega) (-4) (by omega)) (cwV 2 hts gX12_uneven_X12_partsAll rfl rfl rfl (by decide +kernel) ⟨Nat.le_of_ble_eq_true rfl, Nat.le_of_ble_eq_true rfl⟩) (x_preVQ hK hP hD hS hA (x_recv hK hP (i := 37) (by decide) hob rfl)) rfl rfl hl.1 rfl (lv_room (Nat.le_of_ble_eq_true rfl)) dX12_uneven_16 ⟨by decide, by decide⟩) hS (fun σ1 H locs hpost hP hD hS => ?_)
    obtain ⟨M_1, p1⟩ := σ1
    obtain ⟨hp0, hfrc, ⟨ov_2, hnew, hac, hoka, h10⟩, ⟨S_3, Mi_4, hb1, hb2, hkp⟩, Wz_5, hb3⟩ := hpost
    obtain rfl : p1 = σ.2 := hp0
    have hP : xP g (M_1, σ.2) H := hP
    have hD : xD g A (M_1, σ.2) := hD
    have hfr := x_frc (F := fun j => j ≠ 37 ∧ j ≠ 38 ∧ j ≠ 41 ∧ j ≠ 49) hfr hfrc (fun j h => by have h : j ≠ 37 ∧ j ≠ 38 ∧ j ≠ 41 ∧ j ≠ 49 := h; omega)
    have hob : MObj g M_1 ov_2 := hnew
    have hs0 := hb1
    have h41 := hb2
    have h49 := hb3
    have hrg : inR (ov_2 18) := by (first | (have z := hoka; unfold zAccOk zAc at z; simp only at z; exact ⟨by omega, by omega⟩) | (have z := zPart_ways (mK S) (mF S) (mP S) (S 0) (S 1) (-4) c9 (by omega) (by omega); rw [← hac] at z; unfold zAc at z; simp only at z; exact ⟨by omega, by omega⟩))
    refine lv_aload_n hx hb dX12_uneven_19 rfl (lv_at hl 1 rfl) ?_
    refine x_get (C := RX12) (T := TX12) (N := 24) hx hb hts hin_X12 hown hK hP (37) (by decide) hob rfl 18 (by decide) hw_0 (fun _ h9 => h9) rfl dX12_uneven_20 ?_
    refine x_retQ hx hb hr (by omega) ?_ hP hD hS dX12_uneven_23 hlocks
    have hsel : ov_2 18 = (zAc ov_2).2.1 := rfl
    rw [hac] at hsel
    refine ⟨rfl, hfr, by (unfold zUneven; rw [if_neg (by omega)]; exact hsel), ⟨ov_2, hob, h10⟩, ⟨_, _, hs0, h41, hkp⟩, _, h49⟩
  · refine lv_iload_n hx hb dX12_uneven_10 rfl (lv_at hl 0 rfl) ?_
    refine x_retQ hx hb hr (by omega) ?_ hP hD hS dX12_uneven_11 hlocks
    refine ⟨rfl, hfr, by (unfold zUneven; first | (rw [if_pos (by omega)]; exact qr_2) | (rw [if_pos (by omega)]; done) | (rw [if_neg (by omega), if_pos (by omega)]; exact qr_14)), ⟨ov, hob, rfl⟩, ⟨S, Mi, hs0, h41, zKeep_self hok.1⟩, Wz, h49⟩

set_option maxHeartbeats 4000000 in
set_option maxRecDepth 100000 in
theorem c_X12_richest (l : Launch) (g : xG) (σ : xS) (A : Nat → Prop) (ov : Nat → Int) (S : Int → Int) (hob : MObj g σ.1 ov) (hs0 : MArr g σ.1 38 29 S) (hok : SmOk S) (Mi : Int → Int) (h41 : MArr g σ.1 41 29 Mi) (Wz : Int → Int) (h49 : MArr g σ.1 49 8 Wz) (c9 : Int) (hc : inR c9) (h : Int) (hh : inR h) : Met l yX12_richest wsX12_richest ({ frames := 21, cells := 0, slots := 0, locals := 672 }) (va_Pc [.ref (g.2.2 37), .int (iI (c9)), .int (iI (h))] (xPreQ g A σ)) (x_Qi g A (fun r σ1 => σ1.2 = σ.2 ∧ (∀ j, j ≠ 37 ∧ j ≠ 38 ∧ j ≠ 41 ∧ j ≠ 49 → σ1.1 j = σ.1 j) ∧ r = zRichest (mK S) (mF S) (mP S) (S 0) (S 1) c9 h ∧ (∃ ov2, MObj g σ1.1 ov2 ∧ ov2 10 = ov 10) ∧ xBack g σ1.1 S ∧ ∃ W2, MArr g σ1.1 49 8 W2)) (0) (0) A := by
  refine Met.ofW (cc := cX12_richest) (maxL := 4) (ret := (some .int)) (by decide) rfl ?_
  intro p e s m args below meth c s₁ B hml hv
  obtain ⟨rfl, hP, hK, hD, hA⟩ := hv
  have hx := B.exec
  have hb := B.bytes
  have hr := B.returns
  have hts := atoms_spec (ws := wsX12_richest) B.pre
  have hown : s.vm.findClass RX12 = some m.cls := findClass_of_methodNamed B.named
  have hlocks := B.notSynchronized
  have hS : va_S A s.heap s.heap [] := va_S.rf
  have hfr : ∀ j, (j ≠ 37 ∧ j ≠ 38 ∧ j ≠ 41 ∧ j ≠ 49) → σ.1 j = σ.1 j := fun _ _ => rfl
  have hl := lv_entry ([.ref (g.2.2 37), .int (iI (c9)), .int (iI (h))]) (n := 4) (Nat.le_of_ble_eq_true rfl)
  rw [lg_entry_eq]
  generalize (lg_sl ([.ref (g.2.2 37), .int (iI (c9)), .int (iI (h))]) ++ List.replicate (4 - (lg_sl ([.ref (g.2.2 37), .int (iI (c9)), .int (iI (h))])).length) Slot.unset).toArray = ls at hl ⊢
  have hl : lv_has ls 4 [(0, .ref (g.2.2 37)), (1, .int (iI (c9))), (2, .int (iI (h)))] := hl
  have hn0 := hok.2.1
  have hrd0 := hok.2.2.1
  have hw_0 := hts (.fieldLink RX12 192 "TwiceAsRichModel" "most" "I") (by decide +kernel)
  have hin_X12 : ∀ w ∈ wsX120, w ∈ wsX12_richest := by decide +kernel
  refine lv_aload_n hx hb dX12_richest_0 rfl (lv_at hl 0 rfl) ?_
  refine lv_iload_n hx hb dX12_richest_1 rfl (lv_at hl 2 rfl) ?_
  refine x_ci (va_runV (As := [.int (iI (h))]) (rest := []) ⟨hx, hb, hml, hown, hts⟩ (c_X12_isHouse l g σ (ov) S hob hs0 hok (h) (by omega)) (cwV 1 hts gX12_richest_X12_isHouse rfl rfl rfl (by decide +kernel) ⟨Nat.le_of_ble_eq_true rfl, Nat.le_of_ble_eq_true rfl⟩) (x_preV hK hP (x_recv hK hP (i := 37) (by decide) hob rfl)) rfl rfl hl.1 rfl (lv_room (Nat.le_of_ble_eq_true rfl)) dX12_richest_2 ⟨Nat.le_of_ble_eq_true rfl, Nat.le_of_ble_eq_true rfl⟩) (fun r_2 hr_2 qr_2 => ?_)
  replace qr_2 : (r_2 = 1 ∧ 0 ≤ (h) ∧ (h) < S 0) ∨ (r_2 = 0 ∧ ¬ (0 ≤ (h) ∧ (h) < S 0)) := qr_2
  refine x_if_ne (tgt := 12) hx hb (by omega) dX12_richest_5 (by decide) (fun c_5 => ?_) (fun c_5 => ?_)
  · refine lv_aload_n hx hb dX12_richest_12 rfl (lv_at hl 0 rfl) ?_
    refine lv_iload_n hx hb dX12_richest_13 rfl (lv_at hl 1 rfl) ?_
    refine x_ci (va_runV (As := [.int (iI (c9))]) (rest := []) ⟨hx, hb, hml, hown, hts⟩ (c_X12_wrongParting l g σ (ov) S hob hs0 hok (c9) (by omega)) (cwV 1 hts gX12_richest_X12_wrongParting rfl rfl rfl (by decide +kernel) ⟨Nat.le_of_ble_eq_true rfl, Nat.le_of_ble_eq_true rfl⟩) (x_preV hK hP (x_recv hK hP (i := 37) (by decide) hob rfl)) rfl rfl hl.1 rfl (lv_room (Nat.le_of_ble_eq_true rfl)) dX12_richest_14 ⟨Nat.le_of_ble_eq_true rfl, Nat.le_of_ble_eq_true rfl⟩) (fun r_14 hr_14 qr_14 => ?_)
    replace qr_14 : r_14 = zWp (S 0) (c9) := qr_14
    refine lv_istore_n (lv' := [(3, .int (iI (r_14))), (0, .ref (g.2.2 37)), (1, .int (iI (c9))), (2, .int (iI (h)))]) hx hb dX12_richest_17 rfl hl (by decide) rfl (fun ls hl => ?_)
    refine lv_iload_n hx hb dX12_richest_18 rfl (lv_at hl 0 rfl) ?_
    refine x_if_eq (tgt := 24) hx hb (by omega) dX12_richest_19 (by decide) (fun c_19 => ?_) (fun c_19 => ?_)
    · have hw9 : (0 ≤ c9 ∧ c9 ≤ 20) ∧ S 0 ≤ 6 := by (have z := qr_14; rw [show r_14 = 0 by omega] at z; unfold zWp at z; by_cases c1 : 0 ≤ c9 ∧ c9 ≤ 20; (rw [if_neg (by omega)] at z; by_cases c2 : 6 < S 0; (rw [if_pos c2] at z; omega); exact ⟨c1, by omega⟩); (rw [if_pos c1] at z; omega))
      refine lv_aload_n hx hb dX12_richest_24 rfl (lv_at hl 1 rfl) ?_
      refine lv_iload_n hx hb dX12_richest_25 rfl (lv_at hl 2 rfl) ?_
      refine lv_iload_n hx hb dX12_richest_26 rfl (lv_at hl 3 rfl) ?_
      refine x_cqv0 (va_runV (As := [.int (iI (c9)), .int (iI (h))]) (rest := []) ⟨hx, hb, hml, hown, hts⟩ (c_X12_partsAll l g σ A (ov) S hob hs0 hok Mi h41 Wz h49 (by omega) (c9) (by omega) (h) (by omega)) (cwV 2 hts gX12_richest_X12_partsAll rfl rfl rfl (by decide +kernel) ⟨Nat.le_of_ble_eq_true rfl, Nat.le_of_ble_eq_true rfl⟩) (x_preVQ hK hP hD hS hA (x_recv hK hP (i := 37) (by decide) hob rfl)) rfl rfl hl.1 rfl (lv_room (Nat.le_of_ble_eq_true rfl)) dX12_richest_27 ⟨by decide, by decide⟩) hS (fun σ1 H locs hpost hP hD hS => ?_)
      obtain ⟨M_1, p1⟩ := σ1
      obtain ⟨hp0, hfrc, ⟨ov_2, hnew, hac, hoka, h10⟩, ⟨S_3, Mi_4, hb1, hb2, hkp⟩, Wz_5, hb3⟩ := hpost
      obtain rfl : p1 = σ.2 := hp0
      have hP : xP g (M_1, σ.2) H := hP
      have hD : xD g A (M_1, σ.2) := hD
      have hfr := x_frc (F := fun j => j ≠ 37 ∧ j ≠ 38 ∧ j ≠ 41 ∧ j ≠ 49) hfr hfrc (fun j h => by have h : j ≠ 37 ∧ j ≠ 38 ∧ j ≠ 41 ∧ j ≠ 49 := h; omega)
      have hob : MObj g M_1 ov_2 := hnew
      have hs0 := hb1
      have h41 := hb2
      have h49 := hb3
      have hrg : inR (ov_2 19) := by (first | (have z := hoka; unfold zAccOk zAc at z; simp only at z; exact ⟨by omega, by omega⟩) | (have z := zPart_ways (mK S) (mF S) (mP S) (S 0) (S 1) (-4) c9 (by omega) (by omega); rw [← hac] at z; unfold zAc at z; simp only at z; exact ⟨by omega, by omega⟩))
      refine lv_aload_n hx hb dX12_richest_30 rfl (lv_at hl 1 rfl) ?_
      refine x_get (C := RX12) (T := TX12) (N := 24) hx hb hts hin_X12 hown hK hP (37) (by decide) hob rfl 19 (by decide) hw_0 (fun _ h9 => h9) rfl dX12_richest_31 ?_
      refine x_retQ hx hb hr (by omega) ?_ hP hD hS dX12_richest_34 hlocks
      have hsel : ov_2 19 = (zAc ov_2).2.2.1 := rfl
      rw [hac] at hsel
      refine ⟨rfl, hfr, by (unfold zRichest; rw [if_neg (by omega), if_neg (by omega)]; exact hsel), ⟨ov_2, hob, h10⟩, ⟨_, _, hs0, h41, hkp⟩, _, h49⟩
    · refine lv_iload_n hx hb dX12_richest_22 rfl (lv_at hl 0 rfl) ?_
      refine x_retQ hx hb hr (by omega) ?_ hP hD hS dX12_richest_23 hlocks
      refine ⟨rfl, hfr, by (unfold zRichest; first | (rw [if_pos (by omega)]; exact qr_2) | (rw [if_pos (by omega)]; done) | (rw [if_neg (by omega), if_pos (by omega)]; exact qr_14)), ⟨ov, hob, rfl⟩, ⟨S, Mi, hs0, h41, zKeep_self hok.1⟩, Wz, h49⟩
  · refine x_iconst hx hb dX12_richest_8 ?_
    refine lv_goto (tgt := 17) hx hb dX12_richest_9 (by decide) ?_
    refine lv_istore_n (lv' := [(3, .int (iI (-1))), (0, .ref (g.2.2 37)), (1, .int (iI (c9))), (2, .int (iI (h)))]) hx hb dX12_richest_17 rfl hl (by decide) rfl (fun ls hl => ?_)
    refine lv_iload_n hx hb dX12_richest_18 rfl (lv_at hl 0 rfl) ?_
    refine x_if_eq (tgt := 24) hx hb (by omega) dX12_richest_19 (by decide) (fun c_19 => ?_) (fun c_19 => ?_)
    · exact absurd c_19 (by decide)
    · refine lv_iload_n hx hb dX12_richest_22 rfl (lv_at hl 0 rfl) ?_
      refine x_retQ hx hb hr (by omega) ?_ hP hD hS dX12_richest_23 hlocks
      refine ⟨rfl, hfr, by (unfold zRichest; first | (rw [if_pos (by omega)]; exact qr_2) | (rw [if_pos (by omega)]; done) | (rw [if_neg (by omega), if_pos (by omega)]; exact qr_14)), ⟨ov, hob, rfl⟩, ⟨S, Mi, hs0, h41, zKeep_self hok.1⟩, Wz, h49⟩

set_option maxHeartbeats 4000000 in
set_option maxRecDepth 100000 in
theorem c_X12_hands (l : Launch) (g : xG) (σ : xS) (A : Nat → Prop) (ov : Nat → Int) (S : Int → Int) (hob : MObj g σ.1 ov) (hs0 : MArr g σ.1 38 29 S) (hok : SmOk S) (Mi : Int → Int) (h41 : MArr g σ.1 41 29 Mi) (Wz : Int → Int) (h49 : MArr g σ.1 49 8 Wz) : Met l yX12_hands wsX12_hands ({ frames := 21, cells := 0, slots := 0, locals := 672 }) (va_Pc [.ref (g.2.2 37)] (xPreQ g A σ)) (x_Qi g A (fun r σ1 => σ1.2 = σ.2 ∧ (∀ j, j ≠ 37 ∧ j ≠ 38 ∧ j ≠ 41 ∧ j ≠ 49 → σ1.1 j = σ.1 j) ∧ r = zHands (mK S) (mF S) (mP S) (S 0) (S 1) ∧ (∃ ov2, MObj g σ1.1 ov2 ∧ ov2 10 = ov 10) ∧ xBack g σ1.1 S ∧ ∃ W2, MArr g σ1.1 49 8 W2)) (0) (0) A := by
  refine Met.ofW (cc := cX12_hands) (maxL := 1) (ret := (some .int)) (by decide) rfl ?_
  intro p e s m args below meth c s₁ B hml hv
  obtain ⟨rfl, hP, hK, hD, hA⟩ := hv
  have hx := B.exec
  have hb := B.bytes
  have hr := B.returns
  have hts := atoms_spec (ws := wsX12_hands) B.pre
  have hown : s.vm.findClass RX12 = some m.cls := findClass_of_methodNamed B.named
  have hlocks := B.notSynchronized
  have hS : va_S A s.heap s.heap [] := va_S.rf
  have hfr : ∀ j, (j ≠ 37 ∧ j ≠ 38 ∧ j ≠ 41 ∧ j ≠ 49) → σ.1 j = σ.1 j := fun _ _ => rfl
  have hl := lv_entry ([.ref (g.2.2 37)]) (n := 1) (Nat.le_of_ble_eq_true rfl)
  rw [lg_entry_eq]
  generalize (lg_sl ([.ref (g.2.2 37)]) ++ List.replicate (1 - (lg_sl ([.ref (g.2.2 37)])).length) Slot.unset).toArray = ls at hl ⊢
  have hl : lv_has ls 1 [(0, .ref (g.2.2 37))] := hl
  have hn0 := hok.2.1
  have hrd0 := hok.2.2.1
  have hw_0 := hts (.fieldLink RX12 195 "TwiceAsRichModel" "fewestHands" "I") (by decide +kernel)
  have hin_X12 : ∀ w ∈ wsX120, w ∈ wsX12_hands := by decide +kernel
  refine lv_aload_n hx hb dX12_hands_0 rfl (lv_at hl 0 rfl) ?_
  refine x_ci (va_runV (As := []) (rest := []) ⟨hx, hb, hml, hown, hts⟩ (c_X12_tooMany l g σ (ov) S hob hs0 hok ) (cwV 0 hts gX12_hands_X12_tooMany rfl rfl rfl (by decide +kernel) ⟨Nat.le_of_ble_eq_true rfl, Nat.le_of_ble_eq_true rfl⟩) (x_preV hK hP (x_recv hK hP (i := 37) (by decide) hob rfl)) rfl rfl hl.1 rfl (lv_room (Nat.le_of_ble_eq_true rfl)) dX12_hands_1 ⟨Nat.le_of_ble_eq_true rfl, Nat.le_of_ble_eq_true rfl⟩) (fun r_1 hr_1 qr_1 => ?_)
  replace qr_1 : (r_1 = 1 ∧ (6 < S 0 ∨ 20 < zSum (mP S) (S 0).toNat)) ∨ (r_1 = 0 ∧ ¬ (6 < S 0 ∨ 20 < zSum (mP S) (S 0).toNat)) := qr_1
  refine x_if_eq (tgt := 10) hx hb (by omega) dX12_hands_4 (by decide) (fun c_4 => ?_) (fun c_4 => ?_)
  · refine lv_aload_n hx hb dX12_hands_10 rfl (lv_at hl 0 rfl) ?_
    refine lv_aload_n hx hb dX12_hands_11 rfl (lv_at hl 0 rfl) ?_
    refine x_ci (va_runV (As := []) (rest := [.ref (g.2.2 37)]) ⟨hx, hb, hml, hown, hts⟩ (c_X12_coins l g σ (ov) S hob hs0 hok ) (cwV 0 hts gX12_hands_X12_coins rfl rfl rfl (by decide +kernel) ⟨Nat.le_of_ble_eq_true rfl, Nat.le_of_ble_eq_true rfl⟩) (x_preV hK hP (x_recv hK hP (i := 37) (by decide) hob rfl)) rfl rfl hl.1 rfl (lv_room (Nat.le_of_ble_eq_true rfl)) dX12_hands_12 ⟨Nat.le_of_ble_eq_true rfl, Nat.le_of_ble_eq_true rfl⟩) (fun r_12 hr_12 qr_12 => ?_)
    replace qr_12 : r_12 = zSum (mP S) (S 0).toNat ∧ 0 ≤ r_12 ∧ r_12 ≤ 99999 := qr_12
    refine x_bipush (n := -4) hx hb (by decide +kernel) dX12_hands_15 ?_
    refine x_cqv0 (va_runV (As := [.int (iI (r_12)), .int (iI (-4))]) (rest := []) ⟨hx, hb, hml, hown, hts⟩ (c_X12_partsAll l g σ A (ov) S hob hs0 hok Mi h41 Wz h49 (by omega) (r_12) (by omega) (-4) (by omega)) (cwV 2 hts gX12_hands_X12_partsAll rfl rfl rfl (by decide +kernel) ⟨Nat.le_of_ble_eq_true rfl, Nat.le_of_ble_eq_true rfl⟩) (x_preVQ hK hP hD hS hA (x_recv hK hP (i := 37) (by decide) hob rfl)) rfl rfl hl.1 rfl (lv_room (Nat.le_of_ble_eq_true rfl)) dX12_hands_17 ⟨by decide, by decide⟩) hS (fun σ1 H locs hpost hP hD hS => ?_)
    obtain ⟨M_1, p1⟩ := σ1
    obtain ⟨hp0, hfrc, ⟨ov_2, hnew, hac, hoka, h10⟩, ⟨S_3, Mi_4, hb1, hb2, hkp⟩, Wz_5, hb3⟩ := hpost
    obtain rfl : p1 = σ.2 := hp0
    have hP : xP g (M_1, σ.2) H := hP
    have hD : xD g A (M_1, σ.2) := hD
    have hfr := x_frc (F := fun j => j ≠ 37 ∧ j ≠ 38 ∧ j ≠ 41 ∧ j ≠ 49) hfr hfrc (fun j h => by have h : j ≠ 37 ∧ j ≠ 38 ∧ j ≠ 41 ∧ j ≠ 49 := h; omega)
    have hob : MObj g M_1 ov_2 := hnew
    have hs0 := hb1
    have h41 := hb2
    have h49 := hb3
    have hrg : inR (ov_2 20) := by (first | (have z := hoka; unfold zAccOk zAc at z; simp only at z; exact ⟨by omega, by omega⟩) | (have z := zPart_ways (mK S) (mF S) (mP S) (S 0) (S 1) (-4) c9 (by omega) (by omega); rw [← hac] at z; unfold zAc at z; simp only at z; exact ⟨by omega, by omega⟩))
    refine lv_aload_n hx hb dX12_hands_20 rfl (lv_at hl 0 rfl) ?_
    refine x_get (C := RX12) (T := TX12) (N := 24) hx hb hts hin_X12 hown hK hP (37) (by decide) hob rfl 20 (by decide) hw_0 (fun _ h9 => h9) rfl dX12_hands_21 ?_
    refine x_retQ hx hb hr (by omega) ?_ hP hD hS dX12_hands_24 hlocks
    have hsel : ov_2 20 = (zAc ov_2).2.2.2.1 := rfl
    rw [hac] at hsel
    refine ⟨rfl, hfr, by (unfold zHands; rw [if_neg (by omega), ← qr_12.1]; exact hsel), ⟨ov_2, hob, h10⟩, ⟨_, _, hs0, h41, hkp⟩, _, h49⟩
  · refine x_bipush (n := -3) hx hb (by decide +kernel) dX12_hands_7 ?_
    refine x_retQ hx hb hr (by omega) ?_ hP hD hS dX12_hands_9 hlocks
    refine ⟨rfl, hfr, by (unfold zHands; first | (rw [if_pos (by omega)]; exact qr_2) | (rw [if_pos (by omega)]; done) | (rw [if_neg (by omega), if_pos (by omega)]; exact qr_14)), ⟨ov, hob, rfl⟩, ⟨S, Mi, hs0, h41, zKeep_self hok.1⟩, Wz, h49⟩

set_option maxHeartbeats 4000000 in
set_option maxRecDepth 100000 in
theorem c_X12_any (l : Launch) (g : xG) (σ : xS) (A : Nat → Prop) (ov : Nat → Int) (S : Int → Int) (hob : MObj g σ.1 ov) (hs0 : MArr g σ.1 38 29 S) (hok : SmOk S) (Mi : Int → Int) (h41 : MArr g σ.1 41 29 Mi) (Wz : Int → Int) (h49 : MArr g σ.1 49 8 Wz) : Met l yX12_any wsX12_any ({ frames := 21, cells := 0, slots := 0, locals := 672 }) (va_Pc [.ref (g.2.2 37)] (xPreQ g A σ)) (x_Qi g A (fun r σ1 => σ1.2 = σ.2 ∧ (∀ j, j ≠ 37 ∧ j ≠ 38 ∧ j ≠ 41 ∧ j ≠ 49 → σ1.1 j = σ.1 j) ∧ r = zAny (mK S) (mF S) (mP S) (S 0) (S 1) ∧ (∃ ov2, MObj g σ1.1 ov2 ∧ ov2 10 = ov 10) ∧ xBack g σ1.1 S ∧ ∃ W2, MArr g σ1.1 49 8 W2)) (0) (0) A := by
  refine Met.ofW (cc := cX12_any) (maxL := 1) (ret := (some .int)) (by decide) rfl ?_
  intro p e s m args below meth c s₁ B hml hv
  obtain ⟨rfl, hP, hK, hD, hA⟩ := hv
  have hx := B.exec
  have hb := B.bytes
  have hr := B.returns
  have hts := atoms_spec (ws := wsX12_any) B.pre
  have hown : s.vm.findClass RX12 = some m.cls := findClass_of_methodNamed B.named
  have hlocks := B.notSynchronized
  have hS : va_S A s.heap s.heap [] := va_S.rf
  have hfr : ∀ j, (j ≠ 37 ∧ j ≠ 38 ∧ j ≠ 41 ∧ j ≠ 49) → σ.1 j = σ.1 j := fun _ _ => rfl
  have hl := lv_entry ([.ref (g.2.2 37)]) (n := 1) (Nat.le_of_ble_eq_true rfl)
  rw [lg_entry_eq]
  generalize (lg_sl ([.ref (g.2.2 37)]) ++ List.replicate (1 - (lg_sl ([.ref (g.2.2 37)])).length) Slot.unset).toArray = ls at hl ⊢
  have hl : lv_has ls 1 [(0, .ref (g.2.2 37))] := hl
  have hn0 := hok.2.1
  have hrd0 := hok.2.2.1
  have hw_0 := hts (.fieldLink RX12 198 "TwiceAsRichModel" "fewestAny" "I") (by decide +kernel)
  have hin_X12 : ∀ w ∈ wsX120, w ∈ wsX12_any := by decide +kernel
  refine lv_aload_n hx hb dX12_any_0 rfl (lv_at hl 0 rfl) ?_
  refine x_ci (va_runV (As := []) (rest := []) ⟨hx, hb, hml, hown, hts⟩ (c_X12_tooMany l g σ (ov) S hob hs0 hok ) (cwV 0 hts gX12_any_X12_tooMany rfl rfl rfl (by decide +kernel) ⟨Nat.le_of_ble_eq_true rfl, Nat.le_of_ble_eq_true rfl⟩) (x_preV hK hP (x_recv hK hP (i := 37) (by decide) hob rfl)) rfl rfl hl.1 rfl (lv_room (Nat.le_of_ble_eq_true rfl)) dX12_any_1 ⟨Nat.le_of_ble_eq_true rfl, Nat.le_of_ble_eq_true rfl⟩) (fun r_1 hr_1 qr_1 => ?_)
  replace qr_1 : (r_1 = 1 ∧ (6 < S 0 ∨ 20 < zSum (mP S) (S 0).toNat)) ∨ (r_1 = 0 ∧ ¬ (6 < S 0 ∨ 20 < zSum (mP S) (S 0).toNat)) := qr_1
  refine x_if_eq (tgt := 10) hx hb (by omega) dX12_any_4 (by decide) (fun c_4 => ?_) (fun c_4 => ?_)
  · refine lv_aload_n hx hb dX12_any_10 rfl (lv_at hl 0 rfl) ?_
    refine lv_aload_n hx hb dX12_any_11 rfl (lv_at hl 0 rfl) ?_
    refine x_ci (va_runV (As := []) (rest := [.ref (g.2.2 37)]) ⟨hx, hb, hml, hown, hts⟩ (c_X12_coins l g σ (ov) S hob hs0 hok ) (cwV 0 hts gX12_any_X12_coins rfl rfl rfl (by decide +kernel) ⟨Nat.le_of_ble_eq_true rfl, Nat.le_of_ble_eq_true rfl⟩) (x_preV hK hP (x_recv hK hP (i := 37) (by decide) hob rfl)) rfl rfl hl.1 rfl (lv_room (Nat.le_of_ble_eq_true rfl)) dX12_any_12 ⟨Nat.le_of_ble_eq_true rfl, Nat.le_of_ble_eq_true rfl⟩) (fun r_12 hr_12 qr_12 => ?_)
    replace qr_12 : r_12 = zSum (mP S) (S 0).toNat ∧ 0 ≤ r_12 ∧ r_12 ≤ 99999 := qr_12
    refine x_bipush (n := -4) hx hb (by decide +kernel) dX12_any_15 ?_
    refine x_cqv0 (va_runV (As := [.int (iI (r_12)), .int (iI (-4))]) (rest := []) ⟨hx, hb, hml, hown, hts⟩ (c_X12_partsAll l g σ A (ov) S hob hs0 hok Mi h41 Wz h49 (by omega) (r_12) (by omega) (-4) (by omega)) (cwV 2 hts gX12_any_X12_partsAll rfl rfl rfl (by decide +kernel) ⟨Nat.le_of_ble_eq_true rfl, Nat.le_of_ble_eq_true rfl⟩) (x_preVQ hK hP hD hS hA (x_recv hK hP (i := 37) (by decide) hob rfl)) rfl rfl hl.1 rfl (lv_room (Nat.le_of_ble_eq_true rfl)) dX12_any_17 ⟨by decide, by decide⟩) hS (fun σ1 H locs hpost hP hD hS => ?_)
    obtain ⟨M_1, p1⟩ := σ1
    obtain ⟨hp0, hfrc, ⟨ov_2, hnew, hac, hoka, h10⟩, ⟨S_3, Mi_4, hb1, hb2, hkp⟩, Wz_5, hb3⟩ := hpost
    obtain rfl : p1 = σ.2 := hp0
    have hP : xP g (M_1, σ.2) H := hP
    have hD : xD g A (M_1, σ.2) := hD
    have hfr := x_frc (F := fun j => j ≠ 37 ∧ j ≠ 38 ∧ j ≠ 41 ∧ j ≠ 49) hfr hfrc (fun j h => by have h : j ≠ 37 ∧ j ≠ 38 ∧ j ≠ 41 ∧ j ≠ 49 := h; omega)
    have hob : MObj g M_1 ov_2 := hnew
    have hs0 := hb1
    have h41 := hb2
    have h49 := hb3
    have hrg : inR (ov_2 21) := by (first | (have z := hoka; unfold zAccOk zAc at z; simp only at z; exact ⟨by omega, by omega⟩) | (have z := zPart_ways (mK S) (mF S) (mP S) (S 0) (S 1) (-4) c9 (by omega) (by omega); rw [← hac] at z; unfold zAc at z; simp only at z; exact ⟨by omega, by omega⟩))
    refine lv_aload_n hx hb dX12_any_20 rfl (lv_at hl 0 rfl) ?_
    refine x_get (C := RX12) (T := TX12) (N := 24) hx hb hts hin_X12 hown hK hP (37) (by decide) hob rfl 21 (by decide) hw_0 (fun _ h9 => h9) rfl dX12_any_21 ?_
    refine x_retQ hx hb hr (by omega) ?_ hP hD hS dX12_any_24 hlocks
    have hsel : ov_2 21 = (zAc ov_2).2.2.2.2 := rfl
    rw [hac] at hsel
    refine ⟨rfl, hfr, by (unfold zAny; rw [if_neg (by omega), ← qr_12.1]; exact hsel), ⟨ov_2, hob, h10⟩, ⟨_, _, hs0, h41, hkp⟩, _, h49⟩
  · refine x_bipush (n := -3) hx hb (by decide +kernel) dX12_any_7 ?_
    refine x_retQ hx hb hr (by omega) ?_ hP hD hS dX12_any_9 hlocks
    refine ⟨rfl, hfr, by (unfold zAny; first | (rw [if_pos (by omega)]; exact qr_2) | (rw [if_pos (by omega)]; done) | (rw [if_neg (by omega), if_pos (by omega)]; exact qr_14)), ⟨ov, hob, rfl⟩, ⟨S, Mi, hs0, h41, zKeep_self hok.1⟩, Wz, h49⟩
