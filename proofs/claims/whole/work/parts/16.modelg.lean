theorem zAndNN (a : Int) : 0 ≤ iAnd a 2147483647 := by
  unfold iAnd
  have h : ((iI a &&& iI 2147483647).toBitVec).msb = false := by
    rw [Int32.toBitVec_and, BitVec.msb_and]
    have : (iI 2147483647).toBitVec.msb = false := by decide
    rw [this, Bool.and_false]
  show 0 ≤ ((iI a &&& iI 2147483647).toBitVec).toInt
  rw [BitVec.toInt_eq_msb_cond, h]
  simp
def zNext (z : Int) : Int := z * 1103515245 + 12345
def zDraw (z n : Int) : Int := iAnd z 2147483647 / 65536 % n
theorem zDraw_rng (z : Int) {n : Int} (h : 0 < n) : 0 ≤ zDraw z n ∧ zDraw z n < n := ⟨Int.emod_nonneg _ (by omega), Int.emod_lt_of_pos _ h⟩
def zSdH (n z : Int) : Int := zDraw (zNext z) n
def zSdB (n rd z : Int) : Int := zSide n rd (zSdH n z) (zDraw (zNext (zNext z)) 2)
def zSdP (P : Int → Int) (n rd z : Int) : Int → Int := zSteal P n (zSdH n z) (zSdB n rd z)
def zSdN (K : Int → Nat) (F P : Int → Int) (n rd z : Int) : Nat → Int × (Int → Int) × Int
  | 0 => (z, P, 0)
  | k + 1 => (zNext (zNext (zSdN K F P n rd z k).1), zSdP (zSdN K F P n rd z k).2.1 n rd (zSdN K F P n rd z k).1, if zAll K F (zSdP (zSdN K F P n rd z k).2.1 n rd (zSdN K F P n rd z k).1) n rd = 0 then (zSdN K F P n rd z k).2.2 + 1 else (zSdN K F P n rd z k).2.2)
theorem zSdN_succ (K : Int → Nat) (F P : Int → Int) (n rd z : Int) {k : Int} (hk : 0 ≤ k) : zSdN K F P n rd z (k + 1).toNat = (zNext (zNext (zSdN K F P n rd z k.toNat).1), zSdP (zSdN K F P n rd z k.toNat).2.1 n rd (zSdN K F P n rd z k.toNat).1, if zAll K F (zSdP (zSdN K F P n rd z k.toNat).2.1 n rd (zSdN K F P n rd z k.toNat).1) n rd = 0 then (zSdN K F P n rd z k.toNat).2.2 + 1 else (zSdN K F P n rd z k.toNat).2.2) := by
  have e : (k + 1).toNat = k.toNat + 1 := by omega
  rw [e]; rfl
def zSeeded (K : Int → Nat) (F P : Int → Int) (n rd k z : Int) : Int := if ¬ (1 ≤ k ∧ k ≤ 40) then -1 else if n = 0 then -3 else (zSdN K F P n rd z k.toNat).2.2
theorem zSide_ne {n rd h sd : Int} (hh : 0 ≤ h ∧ h < n) : zSide n rd h sd = -1 ∨ (0 ≤ zSide n rd h sd ∧ zSide n rd h sd < n ∧ zSide n rd h sd ≠ h) := by
  unfold zSide zAhead zBehind
  split <;> split <;> (try split) <;> omega
theorem zSteal_gift {P : Int → Int} {n b h : Int} (hb : 0 ≤ b ∧ b < n) (hh : 0 ≤ h ∧ h < n) (hn : b ≠ h) : (if zGiftR P n b h 1 = 0 then zGift P b h 1 else P) = zSteal P n h b := by
  have e : zGiftR P n b h 1 = 0 ↔ 0 < P b ∧ P h < 9999 := by
    unfold zGiftR
    rw [if_neg (by omega)]
    split
    · omega
    · split <;> omega
  unfold zSteal
  by_cases q : 0 < P b ∧ P h < 9999
  · rw [if_pos (e.mpr q), if_pos ⟨by omega, q.1, q.2⟩]; rfl
  · rw [if_neg (fun x => q (e.mp x)), if_neg (fun x => q x.2)]
theorem zSteal_none {P : Int → Int} {n h : Int} : zSteal P n h (-1) = P := by unfold zSteal; rw [if_neg (by omega)]
theorem mP_gives {S : Int → Int} {a b c : Int} : mP (zGives S a b c) = zGift (mP S) a b c := by
  have e : upI S (2 + 3 * a + 2) (S (2 + 3 * a + 2) - c) (2 + 3 * b + 2) = upI (mP S) a (mP S a - c) b := congrFun (mP_up (S := S) (h := a) (v := S (2 + 3 * a + 2) - c)) b
  unfold zGives zGift
  rw [e, mP_up, mP_up]; rfl
theorem mK_gives {S : Int → Int} {a b c : Int} : mK (zGives S a b c) = mK S := by unfold zGives; rw [mK_up, mK_up]
theorem mF_gives {S : Int → Int} {a b c : Int} : mF (zGives S a b c) = mF S := by unfold zGives; rw [mF_up, mF_up]
theorem zGives_lo {S : Int → Int} {a b c j : Int} (ha : 0 ≤ a) (hb : 0 ≤ b) (hj : j < 2) : zGives S a b c j = S j := by unfold zGives; rw [upI_n (by omega), upI_n (by omega)]
def zGvIf (S : Int → Int) (a b c : Int) : Int → Int := if zGiftR (mP S) (S 0) a b c = 0 then zGives S a b c else S
theorem zGvIf_all {S : Int → Int} {a b c : Int} : mP (zGvIf S a b c) = (if zGiftR (mP S) (S 0) a b c = 0 then zGift (mP S) a b c else mP S) ∧ mK (zGvIf S a b c) = mK S ∧ mF (zGvIf S a b c) = mF S ∧ zGvIf S a b c 0 = S 0 ∧ zGvIf S a b c 1 = S 1 := by
  unfold zGvIf
  by_cases h : zGiftR (mP S) (S 0) a b c = 0
  · rw [if_pos h, if_pos h]
    have z := zGiftR_0 rfl h
    exact ⟨mP_gives, mK_gives, mF_gives, zGives_lo z.1 z.2.2.1 (by omega), zGives_lo z.1 z.2.2.1 (by omega)⟩
  · rw [if_neg h, if_neg h]; exact ⟨rfl, rfl, rfl, rfl, rfl⟩
def zRw (El : Int → Int) (d : Int) : Int → Int := fun j => El (100 * d + j)
def zGvT (n : Int) (R : Int → Int) (t : Int) : Prop := (0 ≤ R (3 * t) ∧ R (3 * t) < n ∧ 0 ≤ R (3 * t + 1) ∧ R (3 * t + 1) < n ∧ R (3 * t) ≠ R (3 * t + 1)) ∧ 1 ≤ R (3 * t + 2) ∧ R (3 * t + 2) ≤ 9999
def zGivOk (n : Int) (R : Int → Int) (z : Int) : Prop := z % 3 = 0 ∧ z ≤ 24 ∧ ∀ t, 0 ≤ t → 3 * t < z → zGvT n R t
def zGvN (R P : Int → Int) (n : Int) : Nat → (Int → Int) × Int
  | 0 => (P, 0)
  | k + 1 => if zGiftR (zGvN R P n k).1 n (R (3 * (k : Int))) (R (3 * (k : Int) + 1)) (R (3 * (k : Int) + 2)) = 0 then (zGift (zGvN R P n k).1 (R (3 * (k : Int))) (R (3 * (k : Int) + 1)) (R (3 * (k : Int) + 2)), (zGvN R P n k).2 + 1) else zGvN R P n k
theorem zGvN_succ (R P : Int → Int) (n : Int) {i : Int} (hi : 0 ≤ i) (h3 : i % 3 = 0) : zGvN R P n ((i + 3) / 3).toNat = if zGiftR (zGvN R P n (i / 3).toNat).1 n (R i) (R (i + 1)) (R (i + 2)) = 0 then (zGift (zGvN R P n (i / 3).toNat).1 (R i) (R (i + 1)) (R (i + 2)), (zGvN R P n (i / 3).toNat).2 + 1) else zGvN R P n (i / 3).toNat := by
  have e : ((i + 3) / 3).toNat = (i / 3).toNat + 1 := by omega
  have e2 : 3 * (((i / 3).toNat : Nat) : Int) = i := by omega
  rw [e]
  show (if zGiftR (zGvN R P n (i / 3).toNat).1 n (R (3 * (((i / 3).toNat : Nat) : Int))) (R (3 * (((i / 3).toNat : Nat) : Int) + 1)) (R (3 * (((i / 3).toNat : Nat) : Int) + 2)) = 0 then (zGift (zGvN R P n (i / 3).toNat).1 (R (3 * (((i / 3).toNat : Nat) : Int))) (R (3 * (((i / 3).toNat : Nat) : Int) + 1)) (R (3 * (((i / 3).toNat : Nat) : Int) + 2)), (zGvN R P n (i / 3).toNat).2 + 1) else zGvN R P n (i / 3).toNat) = _
  rw [e2]
def zGiven (R : Int → Int) (K : Int → Nat) (F P : Int → Int) (n rd wh z : Int) : Int := if wh = 0 then zAll K F (zGvN R P n (z / 3).toNat).1 n rd else (zGvN R P n (z / 3).toNat).2
def zGivNo (Kp So Sz El : Int → Int) (n d wh r : Int) : Prop := (¬ ((0 ≤ d ∧ d ≤ 7) ∧ (0 ≤ wh ∧ wh ≤ 1)) ∧ r = -1) ∨ ((0 ≤ d ∧ d ≤ 7) ∧ (0 ≤ wh ∧ wh ≤ 1) ∧ zRowR Kp So d 1 ≠ 0 ∧ r = zRowR Kp So d 1) ∨ ((0 ≤ d ∧ d ≤ 7) ∧ (0 ≤ wh ∧ wh ≤ 1) ∧ zRowR Kp So d 1 = 0 ∧ ¬ zGivOk n (zRw El d) (Sz d) ∧ r = -13)
def zGivYes (Kp So Sz El : Int → Int) (n d wh : Int) : Prop := (0 ≤ d ∧ d ≤ 7) ∧ (0 ≤ wh ∧ wh ≤ 1) ∧ zRowR Kp So d 1 = 0 ∧ zGivOk n (zRw El d) (Sz d)
def zGivenR (Kp So Sz El : Int → Int) (K : Int → Nat) (F P : Int → Int) (n rd d wh r : Int) : Prop := zGivNo Kp So Sz El n d wh r ∨ (zGivYes Kp So Sz El n d wh ∧ r = zGiven (zRw El d) K F P n rd wh (Sz d))

set_option maxHeartbeats 4000000 in
set_option maxRecDepth 100000 in
theorem c_X12_drawn (l : Launch) (g : xG) (σ : xS) (A : Nat → Prop) (ov : Nat → Int) (hob : MObj g σ.1 ov) (n : Int) (hn : 1 ≤ n ∧ n ≤ 9) : Met l yX12_drawn wsX12_drawn ({ frames := 1, cells := 0, slots := 0, locals := 32 }) (va_Pc [.ref (g.2.2 37), .int (iI (n))] (xPreQ g A σ)) (x_Qi g A (fun r σ1 => σ1.2 = σ.2 ∧ (∀ j, j ≠ 37 → σ1.1 j = σ.1 j) ∧ r = zDraw (zNext (ov 23)) n ∧ MObj g σ1.1 (va_up ov 23 (zNext (ov 23))))) (0) (0) A := by
  refine Met.ofW (cc := cX12_drawn) (maxL := 2) (ret := (some .int)) (by decide) rfl ?_
  intro p e s m args below meth c s₁ B hml hv
  obtain ⟨rfl, hP, hK, hD, hA⟩ := hv
  have hx := B.exec
  have hb := B.bytes
  have hr := B.returns
  have hts := atoms_spec (ws := wsX12_drawn) B.pre
  have hown : s.vm.findClass RX12 = some m.cls := findClass_of_methodNamed B.named
  have hlocks := B.notSynchronized
  have hS : va_S A s.heap s.heap [] := va_S.rf
  have hfr : ∀ j, (j ≠ 37) → σ.1 j = σ.1 j := fun _ _ => rfl
  have hl := lv_entry ([.ref (g.2.2 37), .int (iI (n))]) (n := 2) (Nat.le_of_ble_eq_true rfl)
  rw [lg_entry_eq]
  generalize (lg_sl ([.ref (g.2.2 37), .int (iI (n))]) ++ List.replicate (2 - (lg_sl ([.ref (g.2.2 37), .int (iI (n))])).length) Slot.unset).toArray = ls at hl ⊢
  have hl : lv_has ls 2 [(0, .ref (g.2.2 37)), (1, .int (iI (n)))] := hl
  have hw_0 := hts (.fieldLink RX12 231 "TwiceAsRichModel" "seed" "I") (by decide +kernel)
  have hin_X12 : ∀ w ∈ wsX120, w ∈ wsX12_drawn := by decide +kernel
  have hw_2 := hts (.constant RX12 234 (1103515245)) (by decide +kernel)
  have hw_3 := hts (.constant RX12 235 (2147483647)) (by decide +kernel)
  have hw_4 := hts (.constant RX12 236 (65536)) (by decide +kernel)
  refine lv_aload_n hx hb dX12_drawn_0 rfl (lv_at hl 0 rfl) ?_
  refine lv_aload_n hx hb dX12_drawn_1 rfl (lv_at hl 0 rfl) ?_
  refine x_get (C := RX12) (T := TX12) (N := 24) hx hb hts hin_X12 hown hK hP (37) (by decide) hob rfl 23 (by decide) hw_0 (fun _ h9 => h9) rfl dX12_drawn_2 ?_
  refine x_ldc (n := 1103515245) hx hb hown hw_2 (by decide +kernel) dX12_drawn_5 ?_
  refine x_imul hx hb dX12_drawn_7 ?_
  refine x_sipush (n := 12345) hx hb (by decide +kernel) dX12_drawn_8 ?_
  refine x_iadd hx hb dX12_drawn_11 ?_
  refine x_put (C := RX12) (T := TX12) (N := 24) (ty := .int) hx hb hts hin_X12 hown hK hP hD hS (37) (by decide) hob rfl tyX12 tyX12_ok nmX12 23 (by decide) hw_0 (fun _ h9 => h9) rfl (by decide +kernel) rfl rfl (Nat.le_of_ble_eq_true rfl) dX12_drawn_12 (fun M_1 H locs hnew hne hP hD hS => ?_)
  obtain ⟨ov_2, hov_2⟩ : ∃ q : Nat → Int, q = va_up (ov) 23 (((ov 23) * 1103515245) + 12345) := ⟨_, rfl⟩
  have vov_2 : ov_2 23 = ((ov 23) * 1103515245) + 12345 := by rw [hov_2]; rfl
  have nov_2 : ∀ j, j ≠ 23 → ov_2 j = ov j := fun j hj => by rw [hov_2]; exact va_up_ne _ _ hj
  have hnew : MObj g M_1 ov_2 := by rw [hov_2]; exact hnew
  have hP : xP g (M_1, σ.2) H := hP
  have hD : xD g A (M_1, σ.2) := hD
  have hob : MObj g M_1 ov_2 := hnew
  have hfr := x_fr (F := fun j => j ≠ 37) hfr hne (fun j h => by have h : j ≠ 37 := h; omega)
  refine lv_aload_n hx hb dX12_drawn_15 rfl (lv_at hl 0 rfl) ?_
  refine x_get (C := RX12) (T := TX12) (N := 24) hx hb hts hin_X12 hown hK hP (37) (by decide) hob rfl 23 (by decide) hw_0 (fun _ h9 => h9) rfl dX12_drawn_16 ?_
  refine x_ldc (n := 2147483647) hx hb hown hw_3 (by decide +kernel) dX12_drawn_19 ?_
  refine x_iand hx hb dX12_drawn_21 ?_
  have hb_3 := iAnd_rng (ov_2 23) (2147483647)
  have hnn := zAndNN (ov_2 23)
  refine x_ldc (n := 65536) hx hb hown hw_4 (by decide +kernel) dX12_drawn_22 ?_
  refine x_idiv hx hb (by omega) (by omega) (by omega) (by omega) dX12_drawn_24 ?_
  refine lv_iload_n hx hb dX12_drawn_25 rfl (lv_at hl 1 rfl) ?_
  refine x_irem hx hb (by omega) (by omega) (by omega) (by omega) dX12_drawn_26 ?_
  have hz := zDraw_rng (ov_2 23) (n := n) (by omega)
  unfold zDraw at hz
  refine x_retQ hx hb hr (by omega) ?_ hP hD hS dX12_drawn_27 hlocks
  refine ⟨rfl, hfr, ?_, ?_⟩
  · unfold zDraw zNext; rw [← vov_2]
  · rw [hov_2] at hob; exact hob

set_option maxHeartbeats 4000000 in
set_option maxRecDepth 100000 in
theorem c_X12_seeded (l : Launch) (g : xG) (σ : xS) (A : Nat → Prop) (ov : Nat → Int) (S : Int → Int) (hob : MObj g σ.1 ov) (hs0 : MArr g σ.1 38 29 S) (hok : SmOk S) (k0 : Int) (hk0 : inR k0) (z : Int) (hz : inR z) (Mi : Int → Int) (h41 : MArr g σ.1 41 29 Mi) : Met l yX12_seeded wsX12_seeded ({ frames := 8, cells := 0, slots := 0, locals := 256 }) (va_Pc [.ref (g.2.2 37), .int (iI (k0)), .int (iI (z))] (xPreQ g A σ)) (x_Qi g A (fun r σ1 => σ1.2 = σ.2 ∧ (∀ j, j ≠ 37 ∧ j ≠ 38 ∧ j ≠ 41 → σ1.1 j = σ.1 j) ∧ r = zSeeded (mK S) (mF S) (mP S) (S 0) (S 1) k0 z ∧ (∃ ov2, MObj g σ1.1 ov2 ∧ ov2 10 = ov 10) ∧ xBack g σ1.1 S)) (0) (0) A := by
  refine Met.ofW (cc := cX12_seeded) (maxL := 8) (ret := (some .int)) (by decide) rfl ?_
  intro p e s m args below meth c s₁ B hml hv
  obtain ⟨rfl, hP, hK, hD, hA⟩ := hv
  have hx := B.exec
  have hb := B.bytes
  have hr := B.returns
  have hts := atoms_spec (ws := wsX12_seeded) B.pre
  have hown : s.vm.findClass RX12 = some m.cls := findClass_of_methodNamed B.named
  have hlocks := B.notSynchronized
  have hS : va_S A s.heap s.heap [] := va_S.rf
  have hfr : ∀ j, (j ≠ 37 ∧ j ≠ 38 ∧ j ≠ 41) → σ.1 j = σ.1 j := fun _ _ => rfl
  have hl := lv_entry ([.ref (g.2.2 37), .int (iI (k0)), .int (iI (z))]) (n := 8) (Nat.le_of_ble_eq_true rfl)
  rw [lg_entry_eq]
  generalize (lg_sl ([.ref (g.2.2 37), .int (iI (k0)), .int (iI (z))]) ++ List.replicate (8 - (lg_sl ([.ref (g.2.2 37), .int (iI (k0)), .int (iI (z))])).length) Slot.unset).toArray = ls at hl ⊢
  have hl : lv_has ls 8 [(0, .ref (g.2.2 37)), (1, .int (iI (k0))), (2, .int (iI (z)))] := hl
  have hn0 := hok.2.1
  have hrd0 := hok.2.2.1
  have hw_0 := hts (.constantLong RX12 237 (40)) (by decide +kernel)
  have hw_1 := hts (.fieldLink RX12 9 "TwiceAsRichModel" "s" "[I") (by decide +kernel)
  have hin_X12 : ∀ w ∈ wsX120, w ∈ wsX12_seeded := by decide +kernel
  have hw_3 := hts (.fieldLink RX12 231 "TwiceAsRichModel" "seed" "I") (by decide +kernel)
  refine lv_iload_n hx hb dX12_seeded_0 rfl (lv_at hl 1 rfl) ?_
  refine x_i2l hx hb (by omega) dX12_seeded_1 ?_
  refine x_lconst (z := 1) hx hb (by decide +kernel) dX12_seeded_2 ?_
  refine x_ldc2 (z := 40) hx hb hown hw_0 (by decide +kernel) dX12_seeded_3 ?_
  refine x_ci (va_runS (As := [.long (jL (k0)), .long (jL (1)), .long (jL (40))]) (rest := []) ⟨hx, hb, hml, hown, hts⟩ (c_X12_isIn l g σ (k0) (by omega) (1) (by omega) (40) (by omega)) (va_cwS 3 hts gX12_seeded_X12_isIn rfl rfl rfl (by decide +kernel) ⟨Nat.le_of_ble_eq_true rfl, Nat.le_of_ble_eq_true rfl⟩) (x_preS hK hP) rfl rfl hl.1 rfl (lv_room (Nat.le_of_ble_eq_true rfl)) dX12_seeded_6 ⟨Nat.le_of_ble_eq_true rfl, Nat.le_of_ble_eq_true rfl⟩) (fun r_6 hr_6 qr_6 => ?_)
  replace qr_6 : (r_6 = 1 ∧ (1) ≤ (k0) ∧ (k0) ≤ (40)) ∨ (r_6 = 0 ∧ ¬ ((1) ≤ (k0) ∧ (k0) ≤ (40))) := qr_6
  refine x_if_ne (tgt := 14) hx hb (by omega) dX12_seeded_9 (by decide) (fun c_9 => ?_) (fun c_9 => ?_)
  · refine lv_aload_n hx hb dX12_seeded_14 rfl (lv_at hl 0 rfl) ?_
    refine x_get (C := RX12) (T := TX12) (N := 24) hx hb hts hin_X12 hown hK hP (37) (by decide) hob rfl 0 (by decide) hw_1 (fun _ h9 => h9) rfl dX12_seeded_15 ?_
    refine x_iconst hx hb dX12_seeded_18 ?_
    refine x_iald (f := S) hx hb hK hP (38) (by decide) hs0 (by omega) (by omega) (by decide) dX12_seeded_19 ?_
    have hb_1 := hok.1 (0)
    refine x_if_ne (tgt := 26) hx hb (by omega) dX12_seeded_20 (by decide) (fun c_20 => ?_) (fun c_20 => ?_)
    · refine lv_aload_n hx hb dX12_seeded_26 rfl (lv_at hl 0 rfl) ?_
      refine x_cqv0 (va_runV (As := []) (rest := []) ⟨hx, hb, hml, hown, hts⟩ (c_X12_begins l g σ A (ov) S Mi hob hs0 h41) (cwV 0 hts gX12_seeded_X12_begins rfl rfl rfl (by decide +kernel) ⟨Nat.le_of_ble_eq_true rfl, Nat.le_of_ble_eq_true rfl⟩) (x_preVQ hK hP hD hS hA (x_recv hK hP (i := 37) (by decide) hob rfl)) rfl rfl hl.1 rfl (lv_room (Nat.le_of_ble_eq_true rfl)) dX12_seeded_27 ⟨by decide, by decide⟩) hS (fun σ1 H locs hpost hP hD hS => ?_)
      obtain ⟨M_2, p1⟩ := σ1
      obtain ⟨hp0, hfrc, hnew⟩ := hpost
      obtain rfl : p1 = σ.2 := hp0
      have hP : xP g (M_2, σ.2) H := hP
      have hD : xD g A (M_2, σ.2) := hD
      have hob : MObj g M_2 ov := (hfrc (37) (by omega)).trans hob
      have hs0 := (hfrc (38) (by omega)).trans hs0
      have hfr := x_frc (F := fun j => j ≠ 37 ∧ j ≠ 38 ∧ j ≠ 41) hfr hfrc (fun j h => by have h : j ≠ 37 ∧ j ≠ 38 ∧ j ≠ 41 := h; omega)
      obtain ⟨Mi_3, hMi_3⟩ : ∃ q : Int → Int, q = zCopy S Mi 29 := ⟨_, rfl⟩
      have h41 : MArr g M_2 41 29 Mi_3 := by rw [hMi_3]; exact hnew
      refine lv_aload_n hx hb dX12_seeded_30 rfl (lv_at hl 0 rfl) ?_
      refine lv_iload_n hx hb dX12_seeded_31 rfl (lv_at hl 2 rfl) ?_
      refine x_put (C := RX12) (T := TX12) (N := 24) (ty := .int) hx hb hts hin_X12 hown hK hP hD hS (37) (by decide) hob rfl tyX12 tyX12_ok nmX12 23 (by decide) hw_3 (fun _ h9 => h9) rfl (by decide +kernel) rfl rfl (Nat.le_of_ble_eq_true rfl) dX12_seeded_32 (fun M_4 H locs hnew hne hP hD hS => ?_)
      obtain ⟨ov_5, hov_5⟩ : ∃ q : Nat → Int, q = va_up (ov) 23 (z) := ⟨_, rfl⟩
      have vov_5 : ov_5 23 = z := by rw [hov_5]; rfl
      have nov_5 : ∀ j, j ≠ 23 → ov_5 j = ov j := fun j hj => by rw [hov_5]; exact va_up_ne _ _ hj
      have hnew : MObj g M_4 ov_5 := by rw [hov_5]; exact hnew
      have hP : xP g (M_4, σ.2) H := hP
      have hD : xD g A (M_4, σ.2) := hD
      have hob : MObj g M_4 ov_5 := hnew
      have hs0 := (hne (38) (by decide)).trans hs0
      have h41 := (hne (41) (by decide)).trans h41
      have hfr := x_fr (F := fun j => j ≠ 37 ∧ j ≠ 38 ∧ j ≠ 41) hfr hne (fun j h => by have h : j ≠ 37 ∧ j ≠ 38 ∧ j ≠ 41 := h; omega)
      refine x_iconst hx hb dX12_seeded_35 ?_
      refine lv_istore_n (lv' := [(3, .int (iI (0))), (0, .ref (g.2.2 37)), (1, .int (iI (k0))), (2, .int (iI (z)))]) hx hb dX12_seeded_36 rfl hl (by decide) rfl (fun ls hl => ?_)
      refine x_iconst hx hb dX12_seeded_37 ?_
      refine lv_istore (lv' := [(4, .int (iI (0))), (3, .int (iI (0))), (0, .ref (g.2.2 37)), (1, .int (iI (k0))), (2, .int (iI (z)))]) hx hb dX12_seeded_38 hl (by decide) rfl (fun ls hl => ?_)
      have hloop_40 : ∀ (k : Nat) (T : Int → Int) (oz : Nat → Int) (t9 : Int) (wl : Int), (k0 - t9).toNat < k → (ht0 : 0 ≤ t9) → (ht1 : t9 ≤ k0) → (hwl : 0 ≤ wl ∧ wl ≤ t9) → (hTo : SmOk T) → (eT0 : T 0 = S 0) → (eT1 : T 1 = S 1) → (eTK : mK T = mK S) → (eTF : mF T = mF S) → (eo10 : oz 10 = ov 10) → (hst : (oz 23, mP T, wl) = zSdN (mK S) (mF S) (mP S) (S 0) (S 1) z t9.toNat) → ∀ (M : xM) (H : Heap) (locs : List Loc), (hob : M (37) = .inr (12, [.ref (g.2.2 38), .ref (g.2.2 39), .ref (g.2.2 40), .ref (g.2.2 41), .ref (g.2.2 42), .ref (g.2.2 43), .ref (g.2.2 44), .ref (g.2.2 45), .ref (g.2.2 46), .ref (g.2.2 47), .int (iI (oz 10)), .int (iI (oz 11)), .int (iI (oz 12)), .int (iI (oz 13)), .int (iI (oz 14)), .int (iI (oz 15)), .ref (g.2.2 48), .int (iI (oz 17)), .int (iI (oz 18)), .int (iI (oz 19)), .int (iI (oz 20)), .int (iI (oz 21)), .ref (g.2.2 49), .int (iI (oz 23))])) → (hs0 : M (38) = .inl (g.2.1 0, 29, .inl (fun k => iI (T (k : Int))))) → (h41 : M (41) = .inl (g.2.1 0, 29, .inl (fun k => iI (Mi_3 (k : Int))))) → (hfr : ∀ j, (j ≠ 37 ∧ j ≠ 38 ∧ j ≠ 41) → M j = σ.1 j) → xP g (M, σ.2) H → xD g A (M, σ.2) → va_S A s.heap H locs → ∀ (ls : Array Slot), lv_has ls 8 [(4, .int (iI (t9))), (3, .int (iI (wl))), (0, .ref (g.2.2 37)), (1, .int (iI (k0))), (2, .int (iI (z)))] → W p l e (headSpec wsX12_seeded ({ frames := 8, cells := 0, slots := 0, locals := 256 })).room s m ([.ref (g.2.2 37), .int (iI (k0)), .int (iI (z))] : List Value).toArray below meth c H locs 0 0 (MQ below (x_Qi g A (fun r σ1 => σ1.2 = σ.2 ∧ (∀ j, j ≠ 37 ∧ j ≠ 38 ∧ j ≠ 41 → σ1.1 j = σ.1 j) ∧ r = zSeeded (mK S) (mF S) (mP S) (S 0) (S 1) k0 z ∧ (∃ ov2, MObj g σ1.1 ov2 ∧ ov2 10 = ov 10) ∧ xBack g σ1.1 S)) ([.ref (g.2.2 37), .int (iI (k0)), .int (iI (z))] : List Value).toArray s (0) (0) A) (F0 m 40 ls []) := by
        intro k
        induction k with
        | zero =>
          intros; exact absurd (by assumption) (Nat.not_lt_zero _)
        | succ k ih =>
          intro T oz t9 wl hmeas ht0 ht1 hwl hTo eT0 eT1 eTK eTF eo10 hst M H locs hob hs0 h41 hfr hP hD hS ls hl
          have ih_6 := ih
          refine lv_iload hx hb dX12_seeded_40 (lv_at hl 0 rfl) ?_
          refine lv_iload_n hx hb dX12_seeded_42 rfl (lv_at hl 3 rfl) ?_
          refine x_icmp_ge (tgt := 116) hx hb (by omega) (by omega) dX12_seeded_43 (by decide) (fun c_43 => ?_) (fun c_43 => ?_)
          · refine lv_aload_n hx hb dX12_seeded_116 rfl (lv_at hl 2 rfl) ?_
            refine x_cqv0 (va_runV (As := []) (rest := []) ⟨hx, hb, hml, hown, hts⟩ (c_X12_ends l g (M, σ.2) A (oz) T Mi_3 hob hs0 h41) (cwV 0 hts gX12_seeded_X12_ends rfl rfl rfl (by decide +kernel) ⟨Nat.le_of_ble_eq_true rfl, Nat.le_of_ble_eq_true rfl⟩) (x_preVQ hK hP hD hS hA (x_recv hK hP (i := 37) (by decide) hob rfl)) rfl rfl hl.1 rfl (lv_room (Nat.le_of_ble_eq_true rfl)) dX12_seeded_117 ⟨by decide, by decide⟩) hS (fun σ1 H locs hpost hP hD hS => ?_)
            obtain ⟨M_7, p1⟩ := σ1
            obtain ⟨hp0, hfrc, hnew⟩ := hpost
            obtain rfl : p1 = σ.2 := hp0
            have hP : xP g (M_7, σ.2) H := hP
            have hD : xD g A (M_7, σ.2) := hD
            have hob : MObj g M_7 oz := (hfrc (37) (by omega)).trans hob
            have h41 := (hfrc (41) (by omega)).trans h41
            have hfr := x_frc (F := fun j => j ≠ 37 ∧ j ≠ 38 ∧ j ≠ 41) hfr hfrc (fun j h => by have h : j ≠ 37 ∧ j ≠ 38 ∧ j ≠ 41 := h; omega)
            obtain ⟨S_8, hS_8⟩ : ∃ q : Int → Int, q = zCopy Mi_3 T 29 := ⟨_, rfl⟩
            have hs0 : MArr g M_7 38 29 S_8 := by rw [hS_8]; exact hnew
            refine lv_iload_n hx hb dX12_seeded_120 rfl (lv_at hl 1 rfl) ?_
            refine x_retQ hx hb hr (by omega) ?_ hP hD hS dX12_seeded_121 hlocks
            refine ⟨rfl, hfr, ?_, ⟨_, hob, eo10⟩, ?_⟩
            · have e : t9 = k0 := by omega
              rw [e] at hst
              unfold zSeeded; rw [if_neg (by omega), if_neg (by omega), ← hst]
            · exact ⟨_, _, hs0, h41, zKeep_back hok.1 hTo.1 hMi_3 hS_8⟩
          · refine lv_aload_n hx hb dX12_seeded_46 rfl (lv_at hl 2 rfl) ?_
            refine lv_aload_n hx hb dX12_seeded_47 rfl (lv_at hl 2 rfl) ?_
            refine x_get (C := RX12) (T := TX12) (N := 24) hx hb hts hin_X12 hown hK hP (37) (by decide) hob rfl 0 (by decide) hw_1 (fun _ h9 => h9) rfl dX12_seeded_48 ?_
            refine x_iconst hx hb dX12_seeded_51 ?_
            refine x_iald (f := T) hx hb hK hP (38) (by decide) hs0 (by omega) (by omega) (by decide) dX12_seeded_52 ?_
            have hb_9 := hTo.1 (0)
            refine x_cqi0 (va_runV (As := [.int (iI (T (0)))]) (rest := []) ⟨hx, hb, hml, hown, hts⟩ (c_X12_drawn l g (M, σ.2) A (oz) hob (T (0)) (by omega)) (cwV 1 hts gX12_seeded_X12_drawn rfl rfl rfl (by decide +kernel) ⟨Nat.le_of_ble_eq_true rfl, Nat.le_of_ble_eq_true rfl⟩) (x_preVQ hK hP hD hS hA (x_recv hK hP (i := 37) (by decide) hob rfl)) rfl rfl hl.1 rfl (lv_room (Nat.le_of_ble_eq_true rfl)) dX12_seeded_53 ⟨by decide, by decide⟩) hS (fun r_53 σ1 H locs hr_53 hpost hP hD hS => ?_)
            obtain ⟨M_10, p1⟩ := σ1
            obtain ⟨hp0, hfrc, qr_53, hnew⟩ := hpost
            obtain rfl : p1 = σ.2 := hp0
            have hP : xP g (M_10, σ.2) H := hP
            have hD : xD g A (M_10, σ.2) := hD
            have hs0 := (hfrc (38) (by omega)).trans hs0
            have h41 := (hfrc (41) (by omega)).trans h41
            have hfr := x_frc (F := fun j => j ≠ 37 ∧ j ≠ 38 ∧ j ≠ 41) hfr hfrc (fun j h => by have h : j ≠ 37 ∧ j ≠ 38 ∧ j ≠ 41 := h; omega)
            obtain ⟨ov_11, hov_11⟩ : ∃ q : Nat → Int, q = va_up (oz) 23 (zNext ((oz) 23)) := ⟨_, rfl⟩
            have vov_11 : ov_11 23 = zNext ((oz) 23) := by rw [hov_11]; rfl
            have nov_11 : ∀ j, j ≠ 23 → ov_11 j = (oz) j := fun j hj => by rw [hov_11]; exact va_up_ne _ _ hj
            have hob : MObj g M_10 ov_11 := by rw [hov_11]; exact hnew
            have br_53 := zDraw_rng (zNext ((oz) 23)) (n := T (0)) (by omega); rw [← qr_53] at br_53
            refine lv_istore (lv' := [(5, .int (iI (r_53))), (4, .int (iI (t9))), (3, .int (iI (wl))), (0, .ref (g.2.2 37)), (1, .int (iI (k0))), (2, .int (iI (z)))]) hx hb dX12_seeded_56 hl (by decide) rfl (fun ls hl => ?_)
            refine lv_aload_n hx hb dX12_seeded_58 rfl (lv_at hl 3 rfl) ?_
            refine lv_iload hx hb dX12_seeded_59 (lv_at hl 0 rfl) ?_
            refine lv_aload_n hx hb dX12_seeded_61 rfl (lv_at hl 3 rfl) ?_
            refine x_iconst hx hb dX12_seeded_62 ?_
            refine x_cqi0 (va_runV (As := [.int (iI (2))]) (rest := [.int (iI (r_53)), .ref (g.2.2 37)]) ⟨hx, hb, hml, hown, hts⟩ (c_X12_drawn l g (M_10, σ.2) A (ov_11) hob (2) (by omega)) (cwV 1 hts gX12_seeded_X12_drawn rfl rfl rfl (by decide +kernel) ⟨Nat.le_of_ble_eq_true rfl, Nat.le_of_ble_eq_true rfl⟩) (x_preVQ hK hP hD hS hA (x_recv hK hP (i := 37) (by decide) hob rfl)) rfl rfl hl.1 rfl (lv_room (Nat.le_of_ble_eq_true rfl)) dX12_seeded_63 ⟨by decide, by decide⟩) hS (fun r_63 σ1 H locs hr_63 hpost hP hD hS => ?_)
            obtain ⟨M_12, p1⟩ := σ1
            obtain ⟨hp0, hfrc, qr_63, hnew⟩ := hpost
            obtain rfl : p1 = σ.2 := hp0
            have hP : xP g (M_12, σ.2) H := hP
            have hD : xD g A (M_12, σ.2) := hD
            have hs0 := (hfrc (38) (by omega)).trans hs0
            have h41 := (hfrc (41) (by omega)).trans h41
            have hfr := x_frc (F := fun j => j ≠ 37 ∧ j ≠ 38 ∧ j ≠ 41) hfr hfrc (fun j h => by have h : j ≠ 37 ∧ j ≠ 38 ∧ j ≠ 41 := h; omega)
            obtain ⟨ov_13, hov_13⟩ : ∃ q : Nat → Int, q = va_up (ov_11) 23 (zNext ((ov_11) 23)) := ⟨_, rfl⟩
            have vov_13 : ov_13 23 = zNext ((ov_11) 23) := by rw [hov_13]; rfl
            have nov_13 : ∀ j, j ≠ 23 → ov_13 j = (ov_11) j := fun j hj => by rw [hov_13]; exact va_up_ne _ _ hj
            have hob : MObj g M_12 ov_13 := by rw [hov_13]; exact hnew
            have br_63 := zDraw_rng (zNext ((ov_11) 23)) (n := 2) (by omega); rw [← qr_63] at br_63
            refine x_ci (va_runV (As := [.int (iI (r_53)), .int (iI (r_63))]) (rest := []) ⟨hx, hb, hml, hown, hts⟩ (c_X12_beside l g (M_12, σ.2) (ov_13) T hob hs0 hTo (r_53) (by omega) (r_63) (by omega)) (cwV 2 hts gX12_seeded_X12_beside rfl rfl rfl (by decide +kernel) ⟨Nat.le_of_ble_eq_true rfl, Nat.le_of_ble_eq_true rfl⟩) (x_preV hK hP (x_recv hK hP (i := 37) (by decide) hob rfl)) rfl rfl hl.1 rfl (lv_room (Nat.le_of_ble_eq_true rfl)) dX12_seeded_66 ⟨Nat.le_of_ble_eq_true rfl, Nat.le_of_ble_eq_true rfl⟩) (fun r_66 hr_66 qr_66 => ?_)
            replace qr_66 : (r_66 = zSide (T 0) (T 1) (r_53) (r_63) ∧ 0 ≤ r_66 ∧ r_66 < T 0) ∨ (r_66 = -4 ∧ zSide (T 0) (T 1) (r_53) (r_63) = -1) := qr_66
            refine lv_istore (lv' := [(6, .int (iI (r_66))), (5, .int (iI (r_53))), (4, .int (iI (t9))), (3, .int (iI (wl))), (0, .ref (g.2.2 37)), (1, .int (iI (k0))), (2, .int (iI (z)))]) hx hb dX12_seeded_69 hl (by decide) rfl (fun ls hl => ?_)
            refine lv_iload hx hb dX12_seeded_71 (lv_at hl 0 rfl) ?_
            refine x_if_lt (tgt := 92) hx hb (by omega) dX12_seeded_73 (by decide) (fun c_73 => ?_) (fun c_73 => ?_)
            · refine x_iconst hx hb dX12_seeded_92 ?_
              refine lv_istore (lv' := [(7, .int (iI (0))), (6, .int (iI (r_66))), (5, .int (iI (r_53))), (4, .int (iI (t9))), (3, .int (iI (wl))), (0, .ref (g.2.2 37)), (1, .int (iI (k0))), (2, .int (iI (z)))]) hx hb dX12_seeded_93 hl (by decide) rfl (fun ls hl => ?_)
              have eP : mP T = zSdP (mP T) (S 0) (S 1) (oz 23) := by (unfold zSdP; have eH : zSdH (S 0) (oz 23) = r_53 := (by rw [qr_53, eT0]; rfl); have eB : zSdB (S 0) (S 1) (oz 23) = zSide (S 0) (S 1) r_53 r_63 := (by unfold zSdB; rw [eH, qr_63, vov_11]); rw [eB, eH]; first | (rw [hT]; have z := zGvIf_all (S := T) (a := r_66) (b := r_53) (c := 1); unfold zGvIf at z; rw [z.1, eT0]; rw [eT0, eT1] at qr_66; have hb66 : zSide (S 0) (S 1) r_53 r_63 = r_66 := (by omega)); (have hne66 := zSide_ne (n := S 0) (rd := S 1) (h := r_53) (sd := r_63) (by omega)); (rw [hb66]; exact zSteal_gift (by omega) (by omega) (by omega)) | (rw [eT0, eT1] at qr_66; have hb66 : zSide (S 0) (S 1) r_53 r_63 = -1 := by omega); (rw [hb66, zSteal_none]))
              have eQ : mK T = mK S ∧ mF T = mF S ∧ T 0 = S 0 ∧ T 1 = S 1 := by first | (have z := zGvIf_all (S := T) (a := r_66) (b := r_53) (c := 1); unfold zGvIf at z; rw [← hT] at z; exact ⟨z.2.1.trans eTK, z.2.2.1.trans eTF, z.2.2.2.1.trans eT0, z.2.2.2.2.trans eT1⟩) | exact ⟨eTK, eTF, eT0, eT1⟩
              refine lv_iload_n hx hb dX12_seeded_95 rfl (lv_at hl 4 rfl) ?_
              refine lv_aload_n hx hb dX12_seeded_96 rfl (lv_at hl 5 rfl) ?_
              refine x_ci (va_runV (As := []) (rest := [.int (iI (wl))]) ⟨hx, hb, hml, hown, hts⟩ (c_X12_isLawful l g (M_12, σ.2) (ov_13) T hob hs0 hTo ) (cwV 0 hts gX12_seeded_X12_isLawful rfl rfl rfl (by decide +kernel) ⟨Nat.le_of_ble_eq_true rfl, Nat.le_of_ble_eq_true rfl⟩) (x_preV hK hP (x_recv hK hP (i := 37) (by decide) hob rfl)) rfl rfl hl.1 rfl (lv_room (Nat.le_of_ble_eq_true rfl)) dX12_seeded_97 ⟨Nat.le_of_ble_eq_true rfl, Nat.le_of_ble_eq_true rfl⟩) (fun r_97 hr_97 qr_97 => ?_)
              replace qr_97 : (r_97 = 1 ∧ zAll (mK T) (mF T) (mP T) (T 0) (T 1) = 0) ∨ (r_97 = 0 ∧ zAll (mK T) (mF T) (mP T) (T 0) (T 1) ≠ 0) := qr_97
              have eL : zAll (mK T) (mF T) (mP T) (T 0) (T 1) = zAll (mK S) (mF S) (zSdP (mP T) (S 0) (S 1) (oz 23)) (S 0) (S 1) := by (rw [eQ.1, eQ.2.1, eQ.2.2.1, eQ.2.2.2]; exact congrArg (fun q => zAll (mK S) (mF S) q (S 0) (S 1)) eP)
              refine x_if_eq (tgt := 107) hx hb (by omega) dX12_seeded_100 (by decide) (fun c_100 => ?_) (fun c_100 => ?_)
              · refine x_iconst hx hb dX12_seeded_107 ?_
                refine x_iadd hx hb dX12_seeded_108 ?_
                refine lv_istore_n (lv' := [(3, .int (iI (wl + 0))), (7, .int (iI (0))), (6, .int (iI (r_66))), (5, .int (iI (r_53))), (4, .int (iI (t9))), (0, .ref (g.2.2 37)), (1, .int (iI (k0))), (2, .int (iI (z)))]) hx hb dX12_seeded_109 rfl hl (by decide) rfl (fun ls hl => ?_)
                refine x_iinc (k0 := 4) (lv' := [(4, .int (iI (t9 + 1))), (3, .int (iI (wl + 0))), (7, .int (iI (0))), (6, .int (iI (r_66))), (5, .int (iI (r_53))), (0, .ref (g.2.2 37)), (1, .int (iI (k0))), (2, .int (iI (z)))]) hx hb dX12_seeded_110 hl rfl (by decide) rfl (fun ls hl => ?_)
                refine lv_goto (tgt := 40) hx hb dX12_seeded_113 (by decide) ?_
                exact ih_6 (T) (ov_13) (t9 + 1) (wl + 0) (by omega) (by omega) (by omega) (by omega) (by first | assumption | exact hTo) (by exact eQ.2.2.1) (by exact eQ.2.2.2) (by exact eQ.1) (by exact eQ.2.1) (by rw [nov_13 10 (by decide), nov_11 10 (by decide)]; exact eo10) (by rw [zSdN_succ _ _ _ _ _ _ ht0, ← hst]; refine Prod.ext (by (show ov_13 23 = zNext (zNext (oz 23))); rw [vov_13, vov_11]) (Prod.ext eP ?_); (show _ = (if zAll (mK S) (mF S) (zSdP (mP T) (S 0) (S 1) (oz 23)) (S 0) (S 1) = 0 then wl + 1 else wl)); rw [← eL]; first | (rw [if_pos (by omega)]; done) | (rw [if_neg (by omega)]; (show wl + 0 = wl); omega)) (M_12) _ _ hob hs0 h41 hfr hP hD hS ls (lv_sub hl [0, 1, 5, 6, 7] rfl)
              · refine x_iconst hx hb dX12_seeded_103 ?_
                refine lv_goto (tgt := 108) hx hb dX12_seeded_104 (by decide) ?_
                refine x_iadd hx hb dX12_seeded_108 ?_
                refine lv_istore_n (lv' := [(3, .int (iI (wl + 1))), (7, .int (iI (0))), (6, .int (iI (r_66))), (5, .int (iI (r_53))), (4, .int (iI (t9))), (0, .ref (g.2.2 37)), (1, .int (iI (k0))), (2, .int (iI (z)))]) hx hb dX12_seeded_109 rfl hl (by decide) rfl (fun ls hl => ?_)
                refine x_iinc (k0 := 4) (lv' := [(4, .int (iI (t9 + 1))), (3, .int (iI (wl + 1))), (7, .int (iI (0))), (6, .int (iI (r_66))), (5, .int (iI (r_53))), (0, .ref (g.2.2 37)), (1, .int (iI (k0))), (2, .int (iI (z)))]) hx hb dX12_seeded_110 hl rfl (by decide) rfl (fun ls hl => ?_)
                refine lv_goto (tgt := 40) hx hb dX12_seeded_113 (by decide) ?_
                exact ih_6 (T) (ov_13) (t9 + 1) (wl + 1) (by omega) (by omega) (by omega) (by omega) (by first | assumption | exact hTo) (by exact eQ.2.2.1) (by exact eQ.2.2.2) (by exact eQ.1) (by exact eQ.2.1) (by rw [nov_13 10 (by decide), nov_11 10 (by decide)]; exact eo10) (by rw [zSdN_succ _ _ _ _ _ _ ht0, ← hst]; refine Prod.ext (by (show ov_13 23 = zNext (zNext (oz 23))); rw [vov_13, vov_11]) (Prod.ext eP ?_); (show _ = (if zAll (mK S) (mF S) (zSdP (mP T) (S 0) (S 1) (oz 23)) (S 0) (S 1) = 0 then wl + 1 else wl)); rw [← eL]; first | (rw [if_pos (by omega)]; done) | (rw [if_neg (by omega)]; (show wl + 0 = wl); omega)) (M_12) _ _ hob hs0 h41 hfr hP hD hS ls (lv_sub hl [0, 1, 5, 6, 7] rfl)
            · refine lv_aload_n hx hb dX12_seeded_76 rfl (lv_at hl 4 rfl) ?_
              refine lv_iload hx hb dX12_seeded_77 (lv_at hl 0 rfl) ?_
              refine lv_iload hx hb dX12_seeded_79 (lv_at hl 1 rfl) ?_
              refine x_iconst hx hb dX12_seeded_81 ?_
              refine x_cqi0 (va_runV (As := [.int (iI (r_66)), .int (iI (r_53)), .int (iI (1))]) (rest := []) ⟨hx, hb, hml, hown, hts⟩ (c_X12_givesIf l g (M_12, σ.2) A (ov_13) T hob hs0 hTo (r_66) (by omega) (r_53) (by omega) (1) (by omega)) (cwV 3 hts gX12_seeded_X12_givesIf rfl rfl rfl (by decide +kernel) ⟨Nat.le_of_ble_eq_true rfl, Nat.le_of_ble_eq_true rfl⟩) (x_preVQ hK hP hD hS hA (x_recv hK hP (i := 37) (by decide) hob rfl)) rfl rfl hl.1 rfl (lv_room (Nat.le_of_ble_eq_true rfl)) dX12_seeded_82 ⟨by decide, by decide⟩) hS (fun r_82 σ1 H locs hr_82 hpost hP hD hS => ?_)
              obtain ⟨M_14, p1⟩ := σ1
              obtain ⟨hp0, hfrc, qr_82, hnew⟩ := hpost
              obtain rfl : p1 = σ.2 := hp0
              have hP : xP g (M_14, σ.2) H := hP
              have hD : xD g A (M_14, σ.2) := hD
              have hob : MObj g M_14 ov_13 := (hfrc (37) (by omega)).trans hob
              have h41 := (hfrc (41) (by omega)).trans h41
              have hfr := x_frc (F := fun j => j ≠ 37 ∧ j ≠ 38 ∧ j ≠ 41) hfr hfrc (fun j h => by have h : j ≠ 37 ∧ j ≠ 38 ∧ j ≠ 41 := h; omega)
              obtain ⟨S_15, hS_15⟩ : ∃ q : Int → Int, q = (if zGiftR (mP T) (T 0) (r_66) (r_53) (1) = 0 then zGives T (r_66) (r_53) (1) else T) := ⟨_, rfl⟩
              have hs0 : MArr g M_14 38 29 S_15 := by rw [hS_15]; exact hnew
              have oS_15 : SmOk S_15 := by rw [hS_15]; exact SmOk_givesIf hTo
              have pS_15 := oS_15.2.1
              refine x_if_eq (tgt := 92) hx hb (by omega) dX12_seeded_85 (by decide) (fun c_85 => ?_) (fun c_85 => ?_)
              · refine x_iconst hx hb dX12_seeded_92 ?_
                refine lv_istore (lv' := [(7, .int (iI (0))), (6, .int (iI (r_66))), (5, .int (iI (r_53))), (4, .int (iI (t9))), (3, .int (iI (wl))), (0, .ref (g.2.2 37)), (1, .int (iI (k0))), (2, .int (iI (z)))]) hx hb dX12_seeded_93 hl (by decide) rfl (fun ls hl => ?_)
                have eP : mP S_15 = zSdP (mP T) (S 0) (S 1) (oz 23) := by (unfold zSdP; have eH : zSdH (S 0) (oz 23) = r_53 := (by rw [qr_53, eT0]; rfl); have eB : zSdB (S 0) (S 1) (oz 23) = zSide (S 0) (S 1) r_53 r_63 := (by unfold zSdB; rw [eH, qr_63, vov_11]); rw [eB, eH]; first | (rw [hS_15]; have z := zGvIf_all (S := T) (a := r_66) (b := r_53) (c := 1); unfold zGvIf at z; rw [z.1, eT0]; rw [eT0, eT1] at qr_66; have hb66 : zSide (S 0) (S 1) r_53 r_63 = r_66 := (by omega)); (have hne66 := zSide_ne (n := S 0) (rd := S 1) (h := r_53) (sd := r_63) (by omega)); (rw [hb66]; exact zSteal_gift (by omega) (by omega) (by omega)) | (rw [eT0, eT1] at qr_66; have hb66 : zSide (S 0) (S 1) r_53 r_63 = -1 := by omega); (rw [hb66, zSteal_none]))
                have eQ : mK S_15 = mK S ∧ mF S_15 = mF S ∧ S_15 0 = S 0 ∧ S_15 1 = S 1 := by first | (have z := zGvIf_all (S := T) (a := r_66) (b := r_53) (c := 1); unfold zGvIf at z; rw [← hS_15] at z; exact ⟨z.2.1.trans eTK, z.2.2.1.trans eTF, z.2.2.2.1.trans eT0, z.2.2.2.2.trans eT1⟩) | exact ⟨eTK, eTF, eT0, eT1⟩
                refine lv_iload_n hx hb dX12_seeded_95 rfl (lv_at hl 4 rfl) ?_
                refine lv_aload_n hx hb dX12_seeded_96 rfl (lv_at hl 5 rfl) ?_
                refine x_ci (va_runV (As := []) (rest := [.int (iI (wl))]) ⟨hx, hb, hml, hown, hts⟩ (c_X12_isLawful l g (M_14, σ.2) (ov_13) S_15 hob hs0 oS_15 ) (cwV 0 hts gX12_seeded_X12_isLawful rfl rfl rfl (by decide +kernel) ⟨Nat.le_of_ble_eq_true rfl, Nat.le_of_ble_eq_true rfl⟩) (x_preV hK hP (x_recv hK hP (i := 37) (by decide) hob rfl)) rfl rfl hl.1 rfl (lv_room (Nat.le_of_ble_eq_true rfl)) dX12_seeded_97 ⟨Nat.le_of_ble_eq_true rfl, Nat.le_of_ble_eq_true rfl⟩) (fun r_97 hr_97 qr_97 => ?_)
                replace qr_97 : (r_97 = 1 ∧ zAll (mK S_15) (mF S_15) (mP S_15) (S_15 0) (S_15 1) = 0) ∨ (r_97 = 0 ∧ zAll (mK S_15) (mF S_15) (mP S_15) (S_15 0) (S_15 1) ≠ 0) := qr_97
                have eL : zAll (mK S_15) (mF S_15) (mP S_15) (S_15 0) (S_15 1) = zAll (mK S) (mF S) (zSdP (mP T) (S 0) (S 1) (oz 23)) (S 0) (S 1) := by (rw [eQ.1, eQ.2.1, eQ.2.2.1, eQ.2.2.2]; exact congrArg (fun q => zAll (mK S) (mF S) q (S 0) (S 1)) eP)
                refine x_if_eq (tgt := 107) hx hb (by omega) dX12_seeded_100 (by decide) (fun c_100 => ?_) (fun c_100 => ?_)
                · refine x_iconst hx hb dX12_seeded_107 ?_
                  refine x_iadd hx hb dX12_seeded_108 ?_
                  refine lv_istore_n (lv' := [(3, .int (iI (wl + 0))), (7, .int (iI (0))), (6, .int (iI (r_66))), (5, .int (iI (r_53))), (4, .int (iI (t9))), (0, .ref (g.2.2 37)), (1, .int (iI (k0))), (2, .int (iI (z)))]) hx hb dX12_seeded_109 rfl hl (by decide) rfl (fun ls hl => ?_)
                  refine x_iinc (k0 := 4) (lv' := [(4, .int (iI (t9 + 1))), (3, .int (iI (wl + 0))), (7, .int (iI (0))), (6, .int (iI (r_66))), (5, .int (iI (r_53))), (0, .ref (g.2.2 37)), (1, .int (iI (k0))), (2, .int (iI (z)))]) hx hb dX12_seeded_110 hl rfl (by decide) rfl (fun ls hl => ?_)
                  refine lv_goto (tgt := 40) hx hb dX12_seeded_113 (by decide) ?_
                  exact ih_6 (S_15) (ov_13) (t9 + 1) (wl + 0) (by omega) (by omega) (by omega) (by omega) (by first | assumption | exact hTo) (by exact eQ.2.2.1) (by exact eQ.2.2.2) (by exact eQ.1) (by exact eQ.2.1) (by rw [nov_13 10 (by decide), nov_11 10 (by decide)]; exact eo10) (by rw [zSdN_succ _ _ _ _ _ _ ht0, ← hst]; refine Prod.ext (by (show ov_13 23 = zNext (zNext (oz 23))); rw [vov_13, vov_11]) (Prod.ext eP ?_); (show _ = (if zAll (mK S) (mF S) (zSdP (mP T) (S 0) (S 1) (oz 23)) (S 0) (S 1) = 0 then wl + 1 else wl)); rw [← eL]; first | (rw [if_pos (by omega)]; done) | (rw [if_neg (by omega)]; (show wl + 0 = wl); omega)) (M_14) _ _ hob hs0 h41 hfr hP hD hS ls (lv_sub hl [0, 1, 5, 6, 7] rfl)
                · refine x_iconst hx hb dX12_seeded_103 ?_
                  refine lv_goto (tgt := 108) hx hb dX12_seeded_104 (by decide) ?_
                  refine x_iadd hx hb dX12_seeded_108 ?_
                  refine lv_istore_n (lv' := [(3, .int (iI (wl + 1))), (7, .int (iI (0))), (6, .int (iI (r_66))), (5, .int (iI (r_53))), (4, .int (iI (t9))), (0, .ref (g.2.2 37)), (1, .int (iI (k0))), (2, .int (iI (z)))]) hx hb dX12_seeded_109 rfl hl (by decide) rfl (fun ls hl => ?_)
                  refine x_iinc (k0 := 4) (lv' := [(4, .int (iI (t9 + 1))), (3, .int (iI (wl + 1))), (7, .int (iI (0))), (6, .int (iI (r_66))), (5, .int (iI (r_53))), (0, .ref (g.2.2 37)), (1, .int (iI (k0))), (2, .int (iI (z)))]) hx hb dX12_seeded_110 hl rfl (by decide) rfl (fun ls hl => ?_)
                  refine lv_goto (tgt := 40) hx hb dX12_seeded_113 (by decide) ?_
                  exact ih_6 (S_15) (ov_13) (t9 + 1) (wl + 1) (by omega) (by omega) (by omega) (by omega) (by first | assumption | exact hTo) (by exact eQ.2.2.1) (by exact eQ.2.2.2) (by exact eQ.1) (by exact eQ.2.1) (by rw [nov_13 10 (by decide), nov_11 10 (by decide)]; exact eo10) (by rw [zSdN_succ _ _ _ _ _ _ ht0, ← hst]; refine Prod.ext (by (show ov_13 23 = zNext (zNext (oz 23))); rw [vov_13, vov_11]) (Prod.ext eP ?_); (show _ = (if zAll (mK S) (mF S) (zSdP (mP T) (S 0) (S 1) (oz 23)) (S 0) (S 1) = 0 then wl + 1 else wl)); rw [← eL]; first | (rw [if_pos (by omega)]; done) | (rw [if_neg (by omega)]; (show wl + 0 = wl); omega)) (M_14) _ _ hob hs0 h41 hfr hP hD hS ls (lv_sub hl [0, 1, 5, 6, 7] rfl)
              · refine x_iconst hx hb dX12_seeded_88 ?_
                refine lv_goto (tgt := 93) hx hb dX12_seeded_89 (by decide) ?_
                refine lv_istore (lv' := [(7, .int (iI (1))), (6, .int (iI (r_66))), (5, .int (iI (r_53))), (4, .int (iI (t9))), (3, .int (iI (wl))), (0, .ref (g.2.2 37)), (1, .int (iI (k0))), (2, .int (iI (z)))]) hx hb dX12_seeded_93 hl (by decide) rfl (fun ls hl => ?_)
                have eP : mP S_15 = zSdP (mP T) (S 0) (S 1) (oz 23) := by (unfold zSdP; have eH : zSdH (S 0) (oz 23) = r_53 := (by rw [qr_53, eT0]; rfl); have eB : zSdB (S 0) (S 1) (oz 23) = zSide (S 0) (S 1) r_53 r_63 := (by unfold zSdB; rw [eH, qr_63, vov_11]); rw [eB, eH]; first | (rw [hS_15]; have z := zGvIf_all (S := T) (a := r_66) (b := r_53) (c := 1); unfold zGvIf at z; rw [z.1, eT0]; rw [eT0, eT1] at qr_66; have hb66 : zSide (S 0) (S 1) r_53 r_63 = r_66 := (by omega)); (have hne66 := zSide_ne (n := S 0) (rd := S 1) (h := r_53) (sd := r_63) (by omega)); (rw [hb66]; exact zSteal_gift (by omega) (by omega) (by omega)) | (rw [eT0, eT1] at qr_66; have hb66 : zSide (S 0) (S 1) r_53 r_63 = -1 := by omega); (rw [hb66, zSteal_none]))
                have eQ : mK S_15 = mK S ∧ mF S_15 = mF S ∧ S_15 0 = S 0 ∧ S_15 1 = S 1 := by first | (have z := zGvIf_all (S := T) (a := r_66) (b := r_53) (c := 1); unfold zGvIf at z; rw [← hS_15] at z; exact ⟨z.2.1.trans eTK, z.2.2.1.trans eTF, z.2.2.2.1.trans eT0, z.2.2.2.2.trans eT1⟩) | exact ⟨eTK, eTF, eT0, eT1⟩
                refine lv_iload_n hx hb dX12_seeded_95 rfl (lv_at hl 4 rfl) ?_
                refine lv_aload_n hx hb dX12_seeded_96 rfl (lv_at hl 5 rfl) ?_
                refine x_ci (va_runV (As := []) (rest := [.int (iI (wl))]) ⟨hx, hb, hml, hown, hts⟩ (c_X12_isLawful l g (M_14, σ.2) (ov_13) S_15 hob hs0 oS_15 ) (cwV 0 hts gX12_seeded_X12_isLawful rfl rfl rfl (by decide +kernel) ⟨Nat.le_of_ble_eq_true rfl, Nat.le_of_ble_eq_true rfl⟩) (x_preV hK hP (x_recv hK hP (i := 37) (by decide) hob rfl)) rfl rfl hl.1 rfl (lv_room (Nat.le_of_ble_eq_true rfl)) dX12_seeded_97 ⟨Nat.le_of_ble_eq_true rfl, Nat.le_of_ble_eq_true rfl⟩) (fun r_97 hr_97 qr_97 => ?_)
                replace qr_97 : (r_97 = 1 ∧ zAll (mK S_15) (mF S_15) (mP S_15) (S_15 0) (S_15 1) = 0) ∨ (r_97 = 0 ∧ zAll (mK S_15) (mF S_15) (mP S_15) (S_15 0) (S_15 1) ≠ 0) := qr_97
                have eL : zAll (mK S_15) (mF S_15) (mP S_15) (S_15 0) (S_15 1) = zAll (mK S) (mF S) (zSdP (mP T) (S 0) (S 1) (oz 23)) (S 0) (S 1) := by (rw [eQ.1, eQ.2.1, eQ.2.2.1, eQ.2.2.2]; exact congrArg (fun q => zAll (mK S) (mF S) q (S 0) (S 1)) eP)
                refine x_if_eq (tgt := 107) hx hb (by omega) dX12_seeded_100 (by decide) (fun c_100 => ?_) (fun c_100 => ?_)
                · refine x_iconst hx hb dX12_seeded_107 ?_
                  refine x_iadd hx hb dX12_seeded_108 ?_
                  refine lv_istore_n (lv' := [(3, .int (iI (wl + 0))), (7, .int (iI (1))), (6, .int (iI (r_66))), (5, .int (iI (r_53))), (4, .int (iI (t9))), (0, .ref (g.2.2 37)), (1, .int (iI (k0))), (2, .int (iI (z)))]) hx hb dX12_seeded_109 rfl hl (by decide) rfl (fun ls hl => ?_)
                  refine x_iinc (k0 := 4) (lv' := [(4, .int (iI (t9 + 1))), (3, .int (iI (wl + 0))), (7, .int (iI (1))), (6, .int (iI (r_66))), (5, .int (iI (r_53))), (0, .ref (g.2.2 37)), (1, .int (iI (k0))), (2, .int (iI (z)))]) hx hb dX12_seeded_110 hl rfl (by decide) rfl (fun ls hl => ?_)
                  refine lv_goto (tgt := 40) hx hb dX12_seeded_113 (by decide) ?_
                  exact ih_6 (S_15) (ov_13) (t9 + 1) (wl + 0) (by omega) (by omega) (by omega) (by omega) (by first | assumption | exact hTo) (by exact eQ.2.2.1) (by exact eQ.2.2.2) (by exact eQ.1) (by exact eQ.2.1) (by rw [nov_13 10 (by decide), nov_11 10 (by decide)]; exact eo10) (by rw [zSdN_succ _ _ _ _ _ _ ht0, ← hst]; refine Prod.ext (by (show ov_13 23 = zNext (zNext (oz 23))); rw [vov_13, vov_11]) (Prod.ext eP ?_); (show _ = (if zAll (mK S) (mF S) (zSdP (mP T) (S 0) (S 1) (oz 23)) (S 0) (S 1) = 0 then wl + 1 else wl)); rw [← eL]; first | (rw [if_pos (by omega)]; done) | (rw [if_neg (by omega)]; (show wl + 0 = wl); omega)) (M_14) _ _ hob hs0 h41 hfr hP hD hS ls (lv_sub hl [0, 1, 5, 6, 7] rfl)
                · refine x_iconst hx hb dX12_seeded_103 ?_
                  refine lv_goto (tgt := 108) hx hb dX12_seeded_104 (by decide) ?_
                  refine x_iadd hx hb dX12_seeded_108 ?_
                  refine lv_istore_n (lv' := [(3, .int (iI (wl + 1))), (7, .int (iI (1))), (6, .int (iI (r_66))), (5, .int (iI (r_53))), (4, .int (iI (t9))), (0, .ref (g.2.2 37)), (1, .int (iI (k0))), (2, .int (iI (z)))]) hx hb dX12_seeded_109 rfl hl (by decide) rfl (fun ls hl => ?_)
                  refine x_iinc (k0 := 4) (lv' := [(4, .int (iI (t9 + 1))), (3, .int (iI (wl + 1))), (7, .int (iI (1))), (6, .int (iI (r_66))), (5, .int (iI (r_53))), (0, .ref (g.2.2 37)), (1, .int (iI (k0))), (2, .int (iI (z)))]) hx hb dX12_seeded_110 hl rfl (by decide) rfl (fun ls hl => ?_)
                  refine lv_goto (tgt := 40) hx hb dX12_seeded_113 (by decide) ?_
                  exact ih_6 (S_15) (ov_13) (t9 + 1) (wl + 1) (by omega) (by omega) (by omega) (by omega) (by first | assumption | exact hTo) (by exact eQ.2.2.1) (by exact eQ.2.2.2) (by exact eQ.1) (by exact eQ.2.1) (by rw [nov_13 10 (by decide), nov_11 10 (by decide)]; exact eo10) (by rw [zSdN_succ _ _ _ _ _ _ ht0, ← hst]; refine Prod.ext (by (show ov_13 23 = zNext (zNext (oz 23))); rw [vov_13, vov_11]) (Prod.ext eP ?_); (show _ = (if zAll (mK S) (mF S) (zSdP (mP T) (S 0) (S 1) (oz 23)) (S 0) (S 1) = 0 then wl + 1 else wl)); rw [← eL]; first | (rw [if_pos (by omega)]; done) | (rw [if_neg (by omega)]; (show wl + 0 = wl); omega)) (M_14) _ _ hob hs0 h41 hfr hP hD hS ls (lv_sub hl [0, 1, 5, 6, 7] rfl)
      exact hloop_40 (((k0 - (0)).toNat) + 1) (S) (ov_5) (0) (0) (by omega) (by omega) (by omega) (by omega) (by exact hok) (by rfl) (by rfl) (by rfl) (by rfl) (by exact nov_5 10 (by decide)) (by (rw [vov_5]; rfl)) (M_4) _ _ hob hs0 h41 hfr hP hD hS ls (lv_sub hl [0, 1, 2, 3, 4] rfl)
    · refine x_bipush (n := -3) hx hb (by decide +kernel) dX12_seeded_23 ?_
      refine x_retQ hx hb hr (by omega) ?_ hP hD hS dX12_seeded_25 hlocks
      refine ⟨rfl, hfr, by unfold zSeeded; rw [if_neg (by omega), if_pos (by omega)], ⟨ov, hob, rfl⟩, S, Mi, hs0, h41, zKeep_self hok.1⟩
  · refine x_iconst hx hb dX12_seeded_12 ?_
    refine x_retQ hx hb hr (by omega) ?_ hP hD hS dX12_seeded_13 hlocks
    refine ⟨rfl, hfr, by unfold zSeeded; rw [if_pos (by omega)], ⟨ov, hob, rfl⟩, S, Mi, hs0, h41, zKeep_self hok.1⟩

set_option maxHeartbeats 4000000 in
set_option maxRecDepth 100000 in
theorem c_X12_given (l : Launch) (g : xG) (σ : xS) (A : Nat → Prop) (ov : Nat → Int) (S : Int → Int) (hob : MObj g σ.1 ov) (hs0 : MArr g σ.1 38 29 S) (hok : SmOk S) (Kp So Sz El KK KF : Int → Int) (h42 : MArr g σ.1 42 8 Kp) (h43 : MArr g σ.1 43 8 So) (h44 : MArr g σ.1 44 8 Sz) (h45 : MArr g σ.1 45 800 El) (h46 : MArr g σ.1 46 8 KK) (h47 : MArr g σ.1 47 8 KF) (hsh : ShOk Kp So Sz El KK KF) (d : Int) (hd : inR d) (wh : Int) (hw : inR wh) (Mi : Int → Int) (h41 : MArr g σ.1 41 29 Mi) : Met l yX12_given wsX12_given ({ frames := 7, cells := 0, slots := 0, locals := 224 }) (va_Pc [.ref (g.2.2 37), .int (iI (d)), .int (iI (wh))] (xPreQ g A σ)) (x_Qi g A (fun r σ1 => σ1.2 = σ.2 ∧ (∀ j, j ≠ 38 ∧ j ≠ 41 → σ1.1 j = σ.1 j) ∧ zGivenR Kp So Sz El (mK S) (mF S) (mP S) (S 0) (S 1) d wh r ∧ xBack g σ1.1 S)) (0) (0) A := by
  refine Met.ofW (cc := cX12_given) (maxL := 6) (ret := (some .int)) (by decide) rfl ?_
  intro p e s m args below meth c s₁ B hml hv
  obtain ⟨rfl, hP, hK, hD, hA⟩ := hv
  have hx := B.exec
  have hb := B.bytes
  have hr := B.returns
  have hts := atoms_spec (ws := wsX12_given) B.pre
  have hown : s.vm.findClass RX12 = some m.cls := findClass_of_methodNamed B.named
  have hlocks := B.notSynchronized
  have hS : va_S A s.heap s.heap [] := va_S.rf
  have hfr : ∀ j, (j ≠ 38 ∧ j ≠ 41) → σ.1 j = σ.1 j := fun _ _ => rfl
  have hl := lv_entry ([.ref (g.2.2 37), .int (iI (d)), .int (iI (wh))]) (n := 6) (Nat.le_of_ble_eq_true rfl)
  rw [lg_entry_eq]
  generalize (lg_sl ([.ref (g.2.2 37), .int (iI (d)), .int (iI (wh))]) ++ List.replicate (6 - (lg_sl ([.ref (g.2.2 37), .int (iI (d)), .int (iI (wh))])).length) Slot.unset).toArray = ls at hl ⊢
  have hl : lv_has ls 6 [(0, .ref (g.2.2 37)), (1, .int (iI (d))), (2, .int (iI (wh)))] := hl
  have hn0 := hok.2.1
  have hrd0 := hok.2.2.1
  have hw_0 := hts (.fieldLink RX12 28 "TwiceAsRichModel" "size" "[I") (by decide +kernel)
  have hin_X12 : ∀ w ∈ wsX120, w ∈ wsX12_given := by decide +kernel
  have hw_2 := hts (.constantLong RX12 173 (9999)) (by decide +kernel)
  refine lv_iload_n hx hb dX12_given_0 rfl (lv_at hl 1 rfl) ?_
  refine x_ci (va_runS (As := [.int (iI (d))]) (rest := []) ⟨hx, hb, hml, hown, hts⟩ (c_X12_isShelf l g σ (d) (by omega)) (va_cwS 1 hts gX12_given_X12_isShelf rfl rfl rfl (by decide +kernel) ⟨Nat.le_of_ble_eq_true rfl, Nat.le_of_ble_eq_true rfl⟩) (x_preS hK hP) rfl rfl hl.1 rfl (lv_room (Nat.le_of_ble_eq_true rfl)) dX12_given_1 ⟨Nat.le_of_ble_eq_true rfl, Nat.le_of_ble_eq_true rfl⟩) (fun r_1 hr_1 qr_1 => ?_)
  replace qr_1 : (r_1 = 1 ∧ 0 ≤ (d) ∧ (d) ≤ 7) ∨ (r_1 = 0 ∧ ¬ (0 ≤ (d) ∧ (d) ≤ 7)) := qr_1
  refine x_if_eq (tgt := 17) hx hb (by omega) dX12_given_4 (by decide) (fun c_4 => ?_) (fun c_4 => ?_)
  · refine x_iconst hx hb dX12_given_17 ?_
    refine lv_goto (tgt := 27) hx hb dX12_given_18 (by decide) ?_
    refine lv_istore_n (lv' := [(3, .int (iI (-1))), (0, .ref (g.2.2 37)), (1, .int (iI (d))), (2, .int (iI (wh)))]) hx hb dX12_given_27 rfl hl (by decide) rfl (fun ls hl => ?_)
    refine lv_iload_n hx hb dX12_given_28 rfl (lv_at hl 0 rfl) ?_
    refine x_if_ne (tgt := 57) hx hb (by omega) dX12_given_29 (by decide) (fun c_29 => ?_) (fun c_29 => ?_)
    · refine x_iconst hx hb dX12_given_57 ?_
      refine lv_istore (lv' := [(4, .int (iI (0))), (3, .int (iI (-1))), (0, .ref (g.2.2 37)), (1, .int (iI (d))), (2, .int (iI (wh)))]) hx hb dX12_given_58 hl (by decide) rfl (fun ls hl => ?_)
      have hloop_60 : ∀ (k : Nat) (i : Int) (no : Int), ((105 : Int) - i).toNat < k → (hi0 : 0 ≤ i ∧ i % 3 = 0) → (hi1 : i ≤ 102) → (hnr : inR no) → (hno : (no = 0 ∧ (0 ≤ d ∧ d ≤ 7) ∧ (0 ≤ wh ∧ wh ≤ 1) ∧ zRowR Kp So d 1 = 0 ∧ Sz d % 3 = 0 ∧ Sz d ≤ 24 ∧ ∀ t, 0 ≤ t → 3 * t < i → zGvT (S 0) (zRw El d) t) ∨ (no ≠ 0 ∧ zGivNo Kp So Sz El (S 0) d wh no)) → (hi2 : no = 0 → i ≤ Sz d) → (hsz : no = 0 → 0 ≤ Sz d) → ∀ (ls : Array Slot), lv_has ls 6 [(4, .int (iI (i))), (3, .int (iI (no))), (0, .ref (g.2.2 37)), (1, .int (iI (d))), (2, .int (iI (wh)))] → W p l e (headSpec wsX12_given ({ frames := 7, cells := 0, slots := 0, locals := 224 })).room s m ([.ref (g.2.2 37), .int (iI (d)), .int (iI (wh))] : List Value).toArray below meth c s.heap [] 0 0 (MQ below (x_Qi g A (fun r σ1 => σ1.2 = σ.2 ∧ (∀ j, j ≠ 38 ∧ j ≠ 41 → σ1.1 j = σ.1 j) ∧ zGivenR Kp So Sz El (mK S) (mF S) (mP S) (S 0) (S 1) d wh r ∧ xBack g σ1.1 S)) ([.ref (g.2.2 37), .int (iI (d)), .int (iI (wh))] : List Value).toArray s (0) (0) A) (F0 m 60 ls []) := by
        intro k
        induction k with
        | zero =>
          intros; exact absurd (by assumption) (Nat.not_lt_zero _)
        | succ k ih =>
          intro i no hmeas hi0 hi1 hnr hno hi2 hsz  ls hl
          have ih_1 := ih
          refine lv_iload_n hx hb dX12_given_60 rfl (lv_at hl 1 rfl) ?_
          refine x_if_ne (tgt := 131) hx hb (by omega) dX12_given_61 (by decide) (fun c_61 => ?_) (fun c_61 => ?_)
          · refine lv_iload_n hx hb dX12_given_131 rfl (lv_at hl 1 rfl) ?_
            refine x_if_eq (tgt := 137) hx hb (by omega) dX12_given_132 (by decide) (fun c_132 => ?_) (fun c_132 => ?_)
            · exfalso; omega
            · refine lv_iload_n hx hb dX12_given_135 rfl (lv_at hl 1 rfl) ?_
              refine x_retQ hx hb hr (by omega) ?_ hP hD hS dX12_given_136 hlocks
              refine ⟨rfl, hfr, ?_, S, Mi, hs0, h41, zKeep_self hok.1⟩
              left
              rcases hno with h | h
              · omega
              · exact h.2
          · have hY := hno.resolve_right (fun h => by omega)
            have hk0 := zRowR_0 rfl hY.2.2.2.1
            have hsd := hsh.2.2.2.2.2.2 d hk0.1 hk0.2.1
            refine lv_iload hx hb dX12_given_64 (lv_at hl 0 rfl) ?_
            refine lv_aload_n hx hb dX12_given_66 rfl (lv_at hl 2 rfl) ?_
            refine x_get (C := RX12) (T := TX12) (N := 24) hx hb hts hin_X12 hown hK hP (37) (by decide) hob rfl 6 (by decide) hw_0 (fun _ h9 => h9) rfl dX12_given_67 ?_
            refine lv_iload_n hx hb dX12_given_70 rfl (lv_at hl 3 rfl) ?_
            refine x_iald (f := Sz) hx hb hK hP (44) (by decide) h44 (by omega) (by omega) (by decide) dX12_given_71 ?_
            have hb_2 := hsh.2.2.1 (d)
            refine x_icmp_ge (tgt := 131) hx hb (by omega) (by omega) dX12_given_72 (by decide) (fun c_72 => ?_) (fun c_72 => ?_)
            · refine lv_iload_n hx hb dX12_given_131 rfl (lv_at hl 1 rfl) ?_
              refine x_if_eq (tgt := 137) hx hb (by omega) dX12_given_132 (by decide) (fun c_132 => ?_) (fun c_132 => ?_)
              · have hY := hno.resolve_right (fun h => by omega)
                have hYES : zGivYes Kp So Sz El (S 0) d wh := ⟨hY.2.1, hY.2.2.1, hY.2.2.2.1, hY.2.2.2.2.1, hY.2.2.2.2.2.1, fun t h1 h2 => hY.2.2.2.2.2.2 t h1 (by omega)⟩
                have hsz3 := hY.2.2.2.2.1
                have hsz24 := hY.2.2.2.2.2.1
                refine lv_aload_n hx hb dX12_given_137 rfl (lv_at hl 2 rfl) ?_
                refine x_cqv0 (va_runV (As := []) (rest := []) ⟨hx, hb, hml, hown, hts⟩ (c_X12_begins l g σ A (ov) S Mi hob hs0 h41) (cwV 0 hts gX12_given_X12_begins rfl rfl rfl (by decide +kernel) ⟨Nat.le_of_ble_eq_true rfl, Nat.le_of_ble_eq_true rfl⟩) (x_preVQ hK hP hD hS hA (x_recv hK hP (i := 37) (by decide) hob rfl)) rfl rfl hl.1 rfl (lv_room (Nat.le_of_ble_eq_true rfl)) dX12_given_138 ⟨by decide, by decide⟩) hS (fun σ1 H locs hpost hP hD hS => ?_)
                obtain ⟨M_3, p1⟩ := σ1
                obtain ⟨hp0, hfrc, hnew⟩ := hpost
                obtain rfl : p1 = σ.2 := hp0
                have hP : xP g (M_3, σ.2) H := hP
                have hD : xD g A (M_3, σ.2) := hD
                have hob : MObj g M_3 ov := (hfrc (37) (by omega)).trans hob
                have hs0 := (hfrc (38) (by omega)).trans hs0
                have h42 := (hfrc (42) (by omega)).trans h42
                have h43 := (hfrc (43) (by omega)).trans h43
                have h44 := (hfrc (44) (by omega)).trans h44
                have h45 := (hfrc (45) (by omega)).trans h45
                have h46 := (hfrc (46) (by omega)).trans h46
                have h47 := (hfrc (47) (by omega)).trans h47
                have hfr := x_frc (F := fun j => j ≠ 38 ∧ j ≠ 41) hfr hfrc (fun j h => by have h : j ≠ 38 ∧ j ≠ 41 := h; omega)
                obtain ⟨Mi_4, hMi_4⟩ : ∃ q : Int → Int, q = zCopy S Mi 29 := ⟨_, rfl⟩
                have h41 : MArr g M_3 41 29 Mi_4 := by rw [hMi_4]; exact hnew
                refine x_iconst hx hb dX12_given_141 ?_
                refine lv_istore (lv' := [(4, .int (iI (0))), (3, .int (iI (no))), (0, .ref (g.2.2 37)), (1, .int (iI (d))), (2, .int (iI (wh)))]) hx hb dX12_given_142 hl (by decide) rfl (fun ls hl => ?_)
                refine x_iconst hx hb dX12_given_144 ?_
                refine lv_istore (lv' := [(5, .int (iI (0))), (4, .int (iI (0))), (3, .int (iI (no))), (0, .ref (g.2.2 37)), (1, .int (iI (d))), (2, .int (iI (wh)))]) hx hb dX12_given_145 hl (by decide) rfl (fun ls hl => ?_)
                have hloop_147 : ∀ (k : Nat) (T : Int → Int) (i2 : Int) (ct : Int), (Sz d - i2).toNat < k → (hj0 : 0 ≤ i2 ∧ i2 % 3 = 0) → (hj1 : i2 ≤ Sz d) → (hct : 0 ≤ ct ∧ ct ≤ i2) → (hTo : SmOk T) → (eT0 : T 0 = S 0) → (eT1 : T 1 = S 1) → (eTK : mK T = mK S) → (eTF : mF T = mF S) → (hst : (mP T, ct) = zGvN (zRw El d) (mP S) (S 0) (i2 / 3).toNat) → ∀ (M : xM) (H : Heap) (locs : List Loc), (hob : M (37) = .inr (12, [.ref (g.2.2 38), .ref (g.2.2 39), .ref (g.2.2 40), .ref (g.2.2 41), .ref (g.2.2 42), .ref (g.2.2 43), .ref (g.2.2 44), .ref (g.2.2 45), .ref (g.2.2 46), .ref (g.2.2 47), .int (iI (ov 10)), .int (iI (ov 11)), .int (iI (ov 12)), .int (iI (ov 13)), .int (iI (ov 14)), .int (iI (ov 15)), .ref (g.2.2 48), .int (iI (ov 17)), .int (iI (ov 18)), .int (iI (ov 19)), .int (iI (ov 20)), .int (iI (ov 21)), .ref (g.2.2 49), .int (iI (ov 23))])) → (hs0 : M (38) = .inl (g.2.1 0, 29, .inl (fun k => iI (T (k : Int))))) → (h42 : M (42) = .inl (g.2.1 0, 8, .inl (fun k => iI (Kp (k : Int))))) → (h43 : M (43) = .inl (g.2.1 0, 8, .inl (fun k => iI (So (k : Int))))) → (h44 : M (44) = .inl (g.2.1 0, 8, .inl (fun k => iI (Sz (k : Int))))) → (h45 : M (45) = .inl (g.2.1 0, 800, .inl (fun k => iI (El (k : Int))))) → (h46 : M (46) = .inl (g.2.1 0, 8, .inl (fun k => iI (KK (k : Int))))) → (h47 : M (47) = .inl (g.2.1 0, 8, .inl (fun k => iI (KF (k : Int))))) → (h41 : M (41) = .inl (g.2.1 0, 29, .inl (fun k => iI (Mi_4 (k : Int))))) → (hfr : ∀ j, (j ≠ 38 ∧ j ≠ 41) → M j = σ.1 j) → xP g (M, σ.2) H → xD g A (M, σ.2) → va_S A s.heap H locs → ∀ (ls : Array Slot), lv_has ls 6 [(5, .int (iI (i2))), (4, .int (iI (ct))), (3, .int (iI (no))), (0, .ref (g.2.2 37)), (1, .int (iI (d))), (2, .int (iI (wh)))] → W p l e (headSpec wsX12_given ({ frames := 7, cells := 0, slots := 0, locals := 224 })).room s m ([.ref (g.2.2 37), .int (iI (d)), .int (iI (wh))] : List Value).toArray below meth c H locs 0 0 (MQ below (x_Qi g A (fun r σ1 => σ1.2 = σ.2 ∧ (∀ j, j ≠ 38 ∧ j ≠ 41 → σ1.1 j = σ.1 j) ∧ zGivenR Kp So Sz El (mK S) (mF S) (mP S) (S 0) (S 1) d wh r ∧ xBack g σ1.1 S)) ([.ref (g.2.2 37), .int (iI (d)), .int (iI (wh))] : List Value).toArray s (0) (0) A) (F0 m 147 ls []) := by
                  intro k
                  induction k with
                  | zero =>
                    intros; exact absurd (by assumption) (Nat.not_lt_zero _)
                  | succ k ih =>
                    intro T i2 ct hmeas hj0 hj1 hct hTo eT0 eT1 eTK eTF hst M H locs hob hs0 h42 h43 h44 h45 h46 h47 h41 hfr hP hD hS ls hl
                    have ih_5 := ih
                    refine lv_iload hx hb dX12_given_147 (lv_at hl 0 rfl) ?_
                    refine lv_aload_n hx hb dX12_given_149 rfl (lv_at hl 3 rfl) ?_
                    refine x_get (C := RX12) (T := TX12) (N := 24) hx hb hts hin_X12 hown hK hP (37) (by decide) hob rfl 6 (by decide) hw_0 (fun _ h9 => h9) rfl dX12_given_150 ?_
                    refine lv_iload_n hx hb dX12_given_153 rfl (lv_at hl 4 rfl) ?_
                    refine x_iald (f := Sz) hx hb hK hP (44) (by decide) h44 (by omega) (by omega) (by decide) dX12_given_154 ?_
                    have hb_6 := hsh.2.2.1 (d)
                    refine x_icmp_ge (tgt := 206) hx hb (by omega) (by omega) dX12_given_155 (by decide) (fun c_155 => ?_) (fun c_155 => ?_)
                    · refine lv_aload_n hx hb dX12_given_206 rfl (lv_at hl 3 rfl) ?_
                      refine x_ci (va_runV (As := []) (rest := []) ⟨hx, hb, hml, hown, hts⟩ (c_X12_breachesAll l g (M, σ.2) (ov) T hob hs0 hTo ) (cwV 0 hts gX12_given_X12_breachesAll rfl rfl rfl (by decide +kernel) ⟨Nat.le_of_ble_eq_true rfl, Nat.le_of_ble_eq_true rfl⟩) (x_preV hK hP (x_recv hK hP (i := 37) (by decide) hob rfl)) rfl rfl hl.1 rfl (lv_room (Nat.le_of_ble_eq_true rfl)) dX12_given_207 ⟨Nat.le_of_ble_eq_true rfl, Nat.le_of_ble_eq_true rfl⟩) (fun r_207 hr_207 qr_207 => ?_)
                      replace qr_207 : r_207 = zAll (mK T) (mF T) (mP T) (T 0) (T 1) ∧ 0 ≤ r_207 ∧ r_207 ≤ 18 := qr_207
                      refine lv_istore (lv' := [(5, .int (iI (r_207))), (4, .int (iI (ct))), (3, .int (iI (no))), (0, .ref (g.2.2 37)), (1, .int (iI (d))), (2, .int (iI (wh)))]) hx hb dX12_given_210 hl (by decide) rfl (fun ls hl => ?_)
                      refine lv_aload_n hx hb dX12_given_212 rfl (lv_at hl 3 rfl) ?_
                      refine x_cqv0 (va_runV (As := []) (rest := []) ⟨hx, hb, hml, hown, hts⟩ (c_X12_ends l g (M, σ.2) A (ov) T Mi_4 hob hs0 h41) (cwV 0 hts gX12_given_X12_ends rfl rfl rfl (by decide +kernel) ⟨Nat.le_of_ble_eq_true rfl, Nat.le_of_ble_eq_true rfl⟩) (x_preVQ hK hP hD hS hA (x_recv hK hP (i := 37) (by decide) hob rfl)) rfl rfl hl.1 rfl (lv_room (Nat.le_of_ble_eq_true rfl)) dX12_given_213 ⟨by decide, by decide⟩) hS (fun σ1 H locs hpost hP hD hS => ?_)
                      obtain ⟨M_7, p1⟩ := σ1
                      obtain ⟨hp0, hfrc, hnew⟩ := hpost
                      obtain rfl : p1 = σ.2 := hp0
                      have hP : xP g (M_7, σ.2) H := hP
                      have hD : xD g A (M_7, σ.2) := hD
                      have hob : MObj g M_7 ov := (hfrc (37) (by omega)).trans hob
                      have h42 := (hfrc (42) (by omega)).trans h42
                      have h43 := (hfrc (43) (by omega)).trans h43
                      have h44 := (hfrc (44) (by omega)).trans h44
                      have h45 := (hfrc (45) (by omega)).trans h45
                      have h46 := (hfrc (46) (by omega)).trans h46
                      have h47 := (hfrc (47) (by omega)).trans h47
                      have h41 := (hfrc (41) (by omega)).trans h41
                      have hfr := x_frc (F := fun j => j ≠ 38 ∧ j ≠ 41) hfr hfrc (fun j h => by have h : j ≠ 38 ∧ j ≠ 41 := h; omega)
                      obtain ⟨S_8, hS_8⟩ : ∃ q : Int → Int, q = zCopy Mi_4 T 29 := ⟨_, rfl⟩
                      have hs0 : MArr g M_7 38 29 S_8 := by rw [hS_8]; exact hnew
                      refine lv_iload_n hx hb dX12_given_216 rfl (lv_at hl 5 rfl) ?_
                      refine x_if_ne (tgt := 225) hx hb (by omega) dX12_given_217 (by decide) (fun c_217 => ?_) (fun c_217 => ?_)
                      · refine lv_iload hx hb dX12_given_225 (lv_at hl 1 rfl) ?_
                        refine x_retQ hx hb hr (by omega) ?_ hP hD hS dX12_given_227 hlocks
                        refine ⟨rfl, hfr, Or.inr ⟨hYES, ?_⟩, ?_⟩
                        · have ei : i2 = Sz d := by omega
                          rw [ei] at hst
                          unfold zGiven
                          rw [if_neg (by omega), ← hst]
                        · exact ⟨_, _, hs0, h41, zKeep_back hok.1 hTo.1 hMi_4 hS_8⟩
                      · refine lv_iload hx hb dX12_given_220 (lv_at hl 0 rfl) ?_
                        refine lv_goto (tgt := 227) hx hb dX12_given_222 (by decide) ?_
                        refine x_retQ hx hb hr (by omega) ?_ hP hD hS dX12_given_227 hlocks
                        refine ⟨rfl, hfr, Or.inr ⟨hYES, ?_⟩, ?_⟩
                        · have ei : i2 = Sz d := by omega
                          rw [ei] at hst
                          unfold zGiven
                          rw [if_pos (by omega), ← hst]
                          (show r_207 = zAll (mK S) (mF S) (mP T) (S 0) (S 1))
                          rw [qr_207.1, eTK, eTF, eT0, eT1]
                        · exact ⟨_, _, hs0, h41, zKeep_back hok.1 hTo.1 hMi_4 hS_8⟩
                    · refine lv_iload hx hb dX12_given_158 (lv_at hl 1 rfl) ?_
                      refine lv_aload_n hx hb dX12_given_160 rfl (lv_at hl 3 rfl) ?_
                      refine lv_aload_n hx hb dX12_given_161 rfl (lv_at hl 3 rfl) ?_
                      refine lv_iload_n hx hb dX12_given_162 rfl (lv_at hl 4 rfl) ?_
                      refine lv_iload hx hb dX12_given_163 (lv_at hl 0 rfl) ?_
                      refine x_ci (va_runV (As := [.int (iI (d)), .int (iI (i2))]) (rest := [.ref (g.2.2 37), .int (iI (ct))]) ⟨hx, hb, hml, hown, hts⟩ (c_X12_toldAt l g (M, σ.2) (ov) T hob hs0 hTo Kp So Sz El KK KF h42 h43 h44 h45 h46 h47 hsh (d) (by omega) (i2) (by omega)) (cwV 2 hts gX12_given_X12_toldAt rfl rfl rfl (by decide +kernel) ⟨Nat.le_of_ble_eq_true rfl, Nat.le_of_ble_eq_true rfl⟩) (x_preV hK hP (x_recv hK hP (i := 37) (by decide) hob rfl)) rfl rfl hl.1 rfl (lv_room (Nat.le_of_ble_eq_true rfl)) dX12_given_165 ⟨Nat.le_of_ble_eq_true rfl, Nat.le_of_ble_eq_true rfl⟩) (fun r_165 hr_165 qr_165 => ?_)
                      replace qr_165 : r_165 = El (100 * (d) + (i2)) := qr_165
                      refine lv_aload_n hx hb dX12_given_168 rfl (lv_at hl 3 rfl) ?_
                      refine lv_iload_n hx hb dX12_given_169 rfl (lv_at hl 4 rfl) ?_
                      refine lv_iload hx hb dX12_given_170 (lv_at hl 0 rfl) ?_
                      refine x_iconst hx hb dX12_given_172 ?_
                      refine x_iadd hx hb dX12_given_173 ?_
                      refine x_ci (va_runV (As := [.int (iI (d)), .int (iI (i2 + 1))]) (rest := [.int (iI (r_165)), .ref (g.2.2 37), .int (iI (ct))]) ⟨hx, hb, hml, hown, hts⟩ (c_X12_toldAt l g (M, σ.2) (ov) T hob hs0 hTo Kp So Sz El KK KF h42 h43 h44 h45 h46 h47 hsh (d) (by omega) (i2 + 1) (by omega)) (cwV 2 hts gX12_given_X12_toldAt rfl rfl rfl (by decide +kernel) ⟨Nat.le_of_ble_eq_true rfl, Nat.le_of_ble_eq_true rfl⟩) (x_preV hK hP (x_recv hK hP (i := 37) (by decide) hob rfl)) rfl rfl hl.1 rfl (lv_room (Nat.le_of_ble_eq_true rfl)) dX12_given_174 ⟨Nat.le_of_ble_eq_true rfl, Nat.le_of_ble_eq_true rfl⟩) (fun r_174 hr_174 qr_174 => ?_)
                      replace qr_174 : r_174 = El (100 * (d) + (i2 + 1)) := qr_174
                      refine lv_aload_n hx hb dX12_given_177 rfl (lv_at hl 3 rfl) ?_
                      refine lv_iload_n hx hb dX12_given_178 rfl (lv_at hl 4 rfl) ?_
                      refine lv_iload hx hb dX12_given_179 (lv_at hl 0 rfl) ?_
                      refine x_iconst hx hb dX12_given_181 ?_
                      refine x_iadd hx hb dX12_given_182 ?_
                      refine x_ci (va_runV (As := [.int (iI (d)), .int (iI (i2 + 2))]) (rest := [.int (iI (r_174)), .int (iI (r_165)), .ref (g.2.2 37), .int (iI (ct))]) ⟨hx, hb, hml, hown, hts⟩ (c_X12_toldAt l g (M, σ.2) (ov) T hob hs0 hTo Kp So Sz El KK KF h42 h43 h44 h45 h46 h47 hsh (d) (by omega) (i2 + 2) (by omega)) (cwV 2 hts gX12_given_X12_toldAt rfl rfl rfl (by decide +kernel) ⟨Nat.le_of_ble_eq_true rfl, Nat.le_of_ble_eq_true rfl⟩) (x_preV hK hP (x_recv hK hP (i := 37) (by decide) hob rfl)) rfl rfl hl.1 rfl (lv_room (Nat.le_of_ble_eq_true rfl)) dX12_given_183 ⟨Nat.le_of_ble_eq_true rfl, Nat.le_of_ble_eq_true rfl⟩) (fun r_183 hr_183 qr_183 => ?_)
                      replace qr_183 : r_183 = El (100 * (d) + (i2 + 2)) := qr_183
                      refine x_cqi0 (va_runV (As := [.int (iI (r_165)), .int (iI (r_174)), .int (iI (r_183))]) (rest := [.int (iI (ct))]) ⟨hx, hb, hml, hown, hts⟩ (c_X12_givesIf l g (M, σ.2) A (ov) T hob hs0 hTo (r_165) (by omega) (r_174) (by omega) (r_183) (by omega)) (cwV 3 hts gX12_given_X12_givesIf rfl rfl rfl (by decide +kernel) ⟨Nat.le_of_ble_eq_true rfl, Nat.le_of_ble_eq_true rfl⟩) (x_preVQ hK hP hD hS hA (x_recv hK hP (i := 37) (by decide) hob rfl)) rfl rfl hl.1 rfl (lv_room (Nat.le_of_ble_eq_true rfl)) dX12_given_186 ⟨by decide, by decide⟩) hS (fun r_186 σ1 H locs hr_186 hpost hP hD hS => ?_)
                      obtain ⟨M_9, p1⟩ := σ1
                      obtain ⟨hp0, hfrc, qr_186, hnew⟩ := hpost
                      obtain rfl : p1 = σ.2 := hp0
                      have hP : xP g (M_9, σ.2) H := hP
                      have hD : xD g A (M_9, σ.2) := hD
                      have hob : MObj g M_9 ov := (hfrc (37) (by omega)).trans hob
                      have h42 := (hfrc (42) (by omega)).trans h42
                      have h43 := (hfrc (43) (by omega)).trans h43
                      have h44 := (hfrc (44) (by omega)).trans h44
                      have h45 := (hfrc (45) (by omega)).trans h45
                      have h46 := (hfrc (46) (by omega)).trans h46
                      have h47 := (hfrc (47) (by omega)).trans h47
                      have h41 := (hfrc (41) (by omega)).trans h41
                      have hfr := x_frc (F := fun j => j ≠ 38 ∧ j ≠ 41) hfr hfrc (fun j h => by have h : j ≠ 38 ∧ j ≠ 41 := h; omega)
                      obtain ⟨S_10, hS_10⟩ : ∃ q : Int → Int, q = (if zGiftR (mP T) (T 0) (r_165) (r_174) (r_183) = 0 then zGives T (r_165) (r_174) (r_183) else T) := ⟨_, rfl⟩
                      have hs0 : MArr g M_9 38 29 S_10 := by rw [hS_10]; exact hnew
                      have oS_10 : SmOk S_10 := by rw [hS_10]; exact SmOk_givesIf hTo
                      have pS_10 := oS_10.2.1
                      refine x_if_eq (tgt := 196) hx hb (by omega) dX12_given_189 (by decide) (fun c_189 => ?_) (fun c_189 => ?_)
                      · refine x_iconst hx hb dX12_given_196 ?_
                        refine x_iadd hx hb dX12_given_197 ?_
                        refine lv_istore (lv' := [(4, .int (iI (ct + 0))), (5, .int (iI (i2))), (3, .int (iI (no))), (0, .ref (g.2.2 37)), (1, .int (iI (d))), (2, .int (iI (wh)))]) hx hb dX12_given_198 hl (by decide) rfl (fun ls hl => ?_)
                        refine x_iinc (k0 := 1) (lv' := [(5, .int (iI (i2 + 3))), (4, .int (iI (ct + 0))), (3, .int (iI (no))), (0, .ref (g.2.2 37)), (1, .int (iI (d))), (2, .int (iI (wh)))]) hx hb dX12_given_200 hl rfl (by decide) rfl (fun ls hl => ?_)
                        refine lv_goto (tgt := 147) hx hb dX12_given_203 (by decide) ?_
                        have zz := zGvIf_all (S := T) (a := r_165) (b := r_174) (c := r_183)
                        unfold zGvIf at zz
                        rw [← hS_10] at zz
                        exact ih_5 (S_10) (i2 + 3) (ct + 0) (by omega) (by omega) (by omega) (by omega) (by assumption) (by exact zz.2.2.2.1.trans eT0) (by exact zz.2.2.2.2.trans eT1) (by exact zz.2.1.trans eTK) (by exact zz.2.2.1.trans eTF) (by rw [zGvN_succ _ _ _ hj0.1 hj0.2, ← hst]; rw [zz.1, eT0, qr_165, qr_174, qr_183]; rw [eT0, qr_165, qr_174, qr_183] at qr_186; (show _ = (if zGiftR (mP T) (S 0) (El (100 * d + i2)) (El (100 * d + (i2 + 1))) (El (100 * d + (i2 + 2))) = 0 then (zGift (mP T) (El (100 * d + i2)) (El (100 * d + (i2 + 1))) (El (100 * d + (i2 + 2))), ct + 1) else (mP T, ct))); first | (rw [if_pos (by omega), if_pos (by omega)]; done) | (rw [if_neg (by omega), if_neg (by omega), show ct + 0 = ct by omega]; done)) (M_9) _ _ hob hs0 h42 h43 h44 h45 h46 h47 h41 hfr hP hD hS ls (lv_sub hl [0, 1, 2, 3, 4, 5] rfl)
                      · refine x_iconst hx hb dX12_given_192 ?_
                        refine lv_goto (tgt := 197) hx hb dX12_given_193 (by decide) ?_
                        refine x_iadd hx hb dX12_given_197 ?_
                        refine lv_istore (lv' := [(4, .int (iI (ct + 1))), (5, .int (iI (i2))), (3, .int (iI (no))), (0, .ref (g.2.2 37)), (1, .int (iI (d))), (2, .int (iI (wh)))]) hx hb dX12_given_198 hl (by decide) rfl (fun ls hl => ?_)
                        refine x_iinc (k0 := 1) (lv' := [(5, .int (iI (i2 + 3))), (4, .int (iI (ct + 1))), (3, .int (iI (no))), (0, .ref (g.2.2 37)), (1, .int (iI (d))), (2, .int (iI (wh)))]) hx hb dX12_given_200 hl rfl (by decide) rfl (fun ls hl => ?_)
                        refine lv_goto (tgt := 147) hx hb dX12_given_203 (by decide) ?_
                        have zz := zGvIf_all (S := T) (a := r_165) (b := r_174) (c := r_183)
                        unfold zGvIf at zz
                        rw [← hS_10] at zz
                        exact ih_5 (S_10) (i2 + 3) (ct + 1) (by omega) (by omega) (by omega) (by omega) (by assumption) (by exact zz.2.2.2.1.trans eT0) (by exact zz.2.2.2.2.trans eT1) (by exact zz.2.1.trans eTK) (by exact zz.2.2.1.trans eTF) (by rw [zGvN_succ _ _ _ hj0.1 hj0.2, ← hst]; rw [zz.1, eT0, qr_165, qr_174, qr_183]; rw [eT0, qr_165, qr_174, qr_183] at qr_186; (show _ = (if zGiftR (mP T) (S 0) (El (100 * d + i2)) (El (100 * d + (i2 + 1))) (El (100 * d + (i2 + 2))) = 0 then (zGift (mP T) (El (100 * d + i2)) (El (100 * d + (i2 + 1))) (El (100 * d + (i2 + 2))), ct + 1) else (mP T, ct))); first | (rw [if_pos (by omega), if_pos (by omega)]; done) | (rw [if_neg (by omega), if_neg (by omega), show ct + 0 = ct by omega]; done)) (M_9) _ _ hob hs0 h42 h43 h44 h45 h46 h47 h41 hfr hP hD hS ls (lv_sub hl [0, 1, 2, 3, 4, 5] rfl)
                exact hloop_147 (((Sz d - (0)).toNat) + 1) (S) (0) (0) (by omega) (by omega) (by omega) (by omega) (by exact hok) (by rfl) (by rfl) (by rfl) (by rfl) (by rfl) (M_3) _ _ hob hs0 h42 h43 h44 h45 h46 h47 h41 hfr hP hD hS ls (lv_sub hl [0, 1, 2, 3, 4, 5] rfl)
              · exfalso; omega
            · refine lv_aload_n hx hb dX12_given_75 rfl (lv_at hl 2 rfl) ?_
              refine lv_aload_n hx hb dX12_given_76 rfl (lv_at hl 2 rfl) ?_
              refine lv_iload_n hx hb dX12_given_77 rfl (lv_at hl 3 rfl) ?_
              refine lv_iload hx hb dX12_given_78 (lv_at hl 0 rfl) ?_
              refine x_ci (va_runV (As := [.int (iI (d)), .int (iI (i))]) (rest := [.ref (g.2.2 37)]) ⟨hx, hb, hml, hown, hts⟩ (c_X12_toldAt l g σ (ov) S hob hs0 hok Kp So Sz El KK KF h42 h43 h44 h45 h46 h47 hsh (d) (by omega) (i) (by omega)) (cwV 2 hts gX12_given_X12_toldAt rfl rfl rfl (by decide +kernel) ⟨Nat.le_of_ble_eq_true rfl, Nat.le_of_ble_eq_true rfl⟩) (x_preV hK hP (x_recv hK hP (i := 37) (by decide) hob rfl)) rfl rfl hl.1 rfl (lv_room (Nat.le_of_ble_eq_true rfl)) dX12_given_80 ⟨Nat.le_of_ble_eq_true rfl, Nat.le_of_ble_eq_true rfl⟩) (fun r_80 hr_80 qr_80 => ?_)
              replace qr_80 : r_80 = El (100 * (d) + (i)) := qr_80
              refine lv_aload_n hx hb dX12_given_83 rfl (lv_at hl 2 rfl) ?_
              refine lv_iload_n hx hb dX12_given_84 rfl (lv_at hl 3 rfl) ?_
              refine lv_iload hx hb dX12_given_85 (lv_at hl 0 rfl) ?_
              refine x_iconst hx hb dX12_given_87 ?_
              refine x_iadd hx hb dX12_given_88 ?_
              refine x_ci (va_runV (As := [.int (iI (d)), .int (iI (i + 1))]) (rest := [.int (iI (r_80)), .ref (g.2.2 37)]) ⟨hx, hb, hml, hown, hts⟩ (c_X12_toldAt l g σ (ov) S hob hs0 hok Kp So Sz El KK KF h42 h43 h44 h45 h46 h47 hsh (d) (by omega) (i + 1) (by omega)) (cwV 2 hts gX12_given_X12_toldAt rfl rfl rfl (by decide +kernel) ⟨Nat.le_of_ble_eq_true rfl, Nat.le_of_ble_eq_true rfl⟩) (x_preV hK hP (x_recv hK hP (i := 37) (by decide) hob rfl)) rfl rfl hl.1 rfl (lv_room (Nat.le_of_ble_eq_true rfl)) dX12_given_89 ⟨Nat.le_of_ble_eq_true rfl, Nat.le_of_ble_eq_true rfl⟩) (fun r_89 hr_89 qr_89 => ?_)
              replace qr_89 : r_89 = El (100 * (d) + (i + 1)) := qr_89
              refine x_ci (va_runV (As := [.int (iI (r_80)), .int (iI (r_89))]) (rest := []) ⟨hx, hb, hml, hown, hts⟩ (c_X12_areTwo l g σ (ov) S hob hs0 hok (r_80) (by omega) (r_89) (by omega)) (cwV 2 hts gX12_given_X12_areTwo rfl rfl rfl (by decide +kernel) ⟨Nat.le_of_ble_eq_true rfl, Nat.le_of_ble_eq_true rfl⟩) (x_preV hK hP (x_recv hK hP (i := 37) (by decide) hob rfl)) rfl rfl hl.1 rfl (lv_room (Nat.le_of_ble_eq_true rfl)) dX12_given_92 ⟨Nat.le_of_ble_eq_true rfl, Nat.le_of_ble_eq_true rfl⟩) (fun r_92 hr_92 qr_92 => ?_)
              replace qr_92 : (r_92 = 1 ∧ (0 ≤ (r_80) ∧ (r_80) < S 0 ∧ 0 ≤ (r_89) ∧ (r_89) < S 0 ∧ (r_80) ≠ (r_89))) ∨ (r_92 = 0 ∧ ¬ (0 ≤ (r_80) ∧ (r_80) < S 0 ∧ 0 ≤ (r_89) ∧ (r_89) < S 0 ∧ (r_80) ≠ (r_89))) := qr_92
              refine x_if_eq (tgt := 122) hx hb (by omega) dX12_given_95 (by decide) (fun c_95 => ?_) (fun c_95 => ?_)
              · refine x_bipush (n := -13) hx hb (by decide +kernel) dX12_given_122 ?_
                refine lv_istore_n (lv' := [(3, .int (iI (-13))), (4, .int (iI (i))), (0, .ref (g.2.2 37)), (1, .int (iI (d))), (2, .int (iI (wh)))]) hx hb dX12_given_124 rfl hl (by decide) rfl (fun ls hl => ?_)
                refine x_iinc (k0 := 1) (lv' := [(4, .int (iI (i + 3))), (3, .int (iI (-13))), (0, .ref (g.2.2 37)), (1, .int (iI (d))), (2, .int (iI (wh)))]) hx hb dX12_given_125 hl rfl (by decide) rfl (fun ls hl => ?_)
                refine lv_goto (tgt := 60) hx hb dX12_given_128 (by decide) ?_
                exact ih_1 (i + 3) (-13) (by omega) (by omega) (by omega) (by omega) (by first | exact Or.inl ⟨rfl, hY.2.1, hY.2.2.1, hY.2.2.2.1, hY.2.2.2.2.1, hY.2.2.2.2.2.1, fun t h1 h2 => by by_cases e : t = i / 3; (subst e; unfold zGvT zRw; rw [show 3 * (i / 3) = i by omega]; omega); exact hY.2.2.2.2.2.2 t h1 (by omega)⟩ | exact Or.inr ⟨by omega, Or.inr (Or.inr ⟨hY.2.1, hY.2.2.1, hY.2.2.2.1, fun h => by have h1 := h.2.2 (i / 3) (by omega) (by omega); unfold zGvT zRw at h1; rw [show 3 * (i / 3) = i by omega] at h1; omega, rfl⟩)⟩) (by omega) (by omega) ls (lv_sub hl [0, 1, 2, 3, 4] rfl)
              · refine lv_aload_n hx hb dX12_given_98 rfl (lv_at hl 2 rfl) ?_
                refine lv_iload_n hx hb dX12_given_99 rfl (lv_at hl 3 rfl) ?_
                refine lv_iload hx hb dX12_given_100 (lv_at hl 0 rfl) ?_
                refine x_iconst hx hb dX12_given_102 ?_
                refine x_iadd hx hb dX12_given_103 ?_
                refine x_ci (va_runV (As := [.int (iI (d)), .int (iI (i + 2))]) (rest := []) ⟨hx, hb, hml, hown, hts⟩ (c_X12_toldAt l g σ (ov) S hob hs0 hok Kp So Sz El KK KF h42 h43 h44 h45 h46 h47 hsh (d) (by omega) (i + 2) (by omega)) (cwV 2 hts gX12_given_X12_toldAt rfl rfl rfl (by decide +kernel) ⟨Nat.le_of_ble_eq_true rfl, Nat.le_of_ble_eq_true rfl⟩) (x_preV hK hP (x_recv hK hP (i := 37) (by decide) hob rfl)) rfl rfl hl.1 rfl (lv_room (Nat.le_of_ble_eq_true rfl)) dX12_given_104 ⟨Nat.le_of_ble_eq_true rfl, Nat.le_of_ble_eq_true rfl⟩) (fun r_104 hr_104 qr_104 => ?_)
                replace qr_104 : r_104 = El (100 * (d) + (i + 2)) := qr_104
                refine x_i2l hx hb (by omega) dX12_given_107 ?_
                refine x_lconst (z := 1) hx hb (by decide +kernel) dX12_given_108 ?_
                refine x_ldc2 (z := 9999) hx hb hown hw_2 (by decide +kernel) dX12_given_109 ?_
                refine x_ci (va_runS (As := [.long (jL (r_104)), .long (jL (1)), .long (jL (9999))]) (rest := []) ⟨hx, hb, hml, hown, hts⟩ (c_X12_isIn l g σ (r_104) (by omega) (1) (by omega) (9999) (by omega)) (va_cwS 3 hts gX12_given_X12_isIn rfl rfl rfl (by decide +kernel) ⟨Nat.le_of_ble_eq_true rfl, Nat.le_of_ble_eq_true rfl⟩) (x_preS hK hP) rfl rfl hl.1 rfl (lv_room (Nat.le_of_ble_eq_true rfl)) dX12_given_112 ⟨Nat.le_of_ble_eq_true rfl, Nat.le_of_ble_eq_true rfl⟩) (fun r_112 hr_112 qr_112 => ?_)
                replace qr_112 : (r_112 = 1 ∧ (1) ≤ (r_104) ∧ (r_104) ≤ (9999)) ∨ (r_112 = 0 ∧ ¬ ((1) ≤ (r_104) ∧ (r_104) ≤ (9999))) := qr_112
                refine x_if_eq (tgt := 122) hx hb (by omega) dX12_given_115 (by decide) (fun c_115 => ?_) (fun c_115 => ?_)
                · refine x_bipush (n := -13) hx hb (by decide +kernel) dX12_given_122 ?_
                  refine lv_istore_n (lv' := [(3, .int (iI (-13))), (4, .int (iI (i))), (0, .ref (g.2.2 37)), (1, .int (iI (d))), (2, .int (iI (wh)))]) hx hb dX12_given_124 rfl hl (by decide) rfl (fun ls hl => ?_)
                  refine x_iinc (k0 := 1) (lv' := [(4, .int (iI (i + 3))), (3, .int (iI (-13))), (0, .ref (g.2.2 37)), (1, .int (iI (d))), (2, .int (iI (wh)))]) hx hb dX12_given_125 hl rfl (by decide) rfl (fun ls hl => ?_)
                  refine lv_goto (tgt := 60) hx hb dX12_given_128 (by decide) ?_
                  exact ih_1 (i + 3) (-13) (by omega) (by omega) (by omega) (by omega) (by first | exact Or.inl ⟨rfl, hY.2.1, hY.2.2.1, hY.2.2.2.1, hY.2.2.2.2.1, hY.2.2.2.2.2.1, fun t h1 h2 => by by_cases e : t = i / 3; (subst e; unfold zGvT zRw; rw [show 3 * (i / 3) = i by omega]; omega); exact hY.2.2.2.2.2.2 t h1 (by omega)⟩ | exact Or.inr ⟨by omega, Or.inr (Or.inr ⟨hY.2.1, hY.2.2.1, hY.2.2.2.1, fun h => by have h1 := h.2.2 (i / 3) (by omega) (by omega); unfold zGvT zRw at h1; rw [show 3 * (i / 3) = i by omega] at h1; omega, rfl⟩)⟩) (by omega) (by omega) ls (lv_sub hl [0, 1, 2, 3, 4] rfl)
                · refine x_iconst hx hb dX12_given_118 ?_
                  refine lv_goto (tgt := 124) hx hb dX12_given_119 (by decide) ?_
                  refine lv_istore_n (lv' := [(3, .int (iI (0))), (4, .int (iI (i))), (0, .ref (g.2.2 37)), (1, .int (iI (d))), (2, .int (iI (wh)))]) hx hb dX12_given_124 rfl hl (by decide) rfl (fun ls hl => ?_)
                  refine x_iinc (k0 := 1) (lv' := [(4, .int (iI (i + 3))), (3, .int (iI (0))), (0, .ref (g.2.2 37)), (1, .int (iI (d))), (2, .int (iI (wh)))]) hx hb dX12_given_125 hl rfl (by decide) rfl (fun ls hl => ?_)
                  refine lv_goto (tgt := 60) hx hb dX12_given_128 (by decide) ?_
                  exact ih_1 (i + 3) (0) (by omega) (by omega) (by omega) (by omega) (by first | exact Or.inl ⟨rfl, hY.2.1, hY.2.2.1, hY.2.2.2.1, hY.2.2.2.2.1, hY.2.2.2.2.2.1, fun t h1 h2 => by by_cases e : t = i / 3; (subst e; unfold zGvT zRw; rw [show 3 * (i / 3) = i by omega]; omega); exact hY.2.2.2.2.2.2 t h1 (by omega)⟩ | exact Or.inr ⟨by omega, Or.inr (Or.inr ⟨hY.2.1, hY.2.2.1, hY.2.2.2.1, fun h => by have h1 := h.2.2 (i / 3) (by omega) (by omega); unfold zGvT zRw at h1; rw [show 3 * (i / 3) = i by omega] at h1; omega, rfl⟩)⟩) (by omega) (by omega) ls (lv_sub hl [0, 1, 2, 3, 4] rfl)
      exact hloop_60 ((((105 : Int) - (0)).toNat) + 1) (0) ((-1)) (by omega) (by omega) (by omega) (by omega) (by first | exact Or.inl ⟨rfl, by omega, by omega, by omega, by omega, by omega, fun t h1 h2 => by omega⟩ | exact Or.inl ⟨by omega, by omega, by omega, by omega, by omega, by omega, fun t h1 h2 => by omega⟩ | exact Or.inr ⟨by omega, Or.inl ⟨by omega, by omega⟩⟩ | exact Or.inr ⟨by omega, Or.inr (Or.inl ⟨by omega, by omega, by omega, by omega⟩)⟩ | exact Or.inr ⟨by omega, Or.inr (Or.inr ⟨by omega, by omega, by omega, fun h => by have h1 := h.1; have h2 := h.2.1; omega, by omega⟩)⟩) (by omega) (by omega) ls (lv_sub hl [0, 1, 2, 3, 4] rfl)
    · exact absurd c_29 (by decide)
  · refine lv_iload_n hx hb dX12_given_7 rfl (lv_at hl 2 rfl) ?_
    refine x_i2l hx hb (by omega) dX12_given_8 ?_
    refine x_lconst (z := 0) hx hb (by decide +kernel) dX12_given_9 ?_
    refine x_lconst (z := 1) hx hb (by decide +kernel) dX12_given_10 ?_
    refine x_ci (va_runS (As := [.long (jL (wh)), .long (jL (0)), .long (jL (1))]) (rest := []) ⟨hx, hb, hml, hown, hts⟩ (c_X12_isIn l g σ (wh) (by omega) (0) (by omega) (1) (by omega)) (va_cwS 3 hts gX12_given_X12_isIn rfl rfl rfl (by decide +kernel) ⟨Nat.le_of_ble_eq_true rfl, Nat.le_of_ble_eq_true rfl⟩) (x_preS hK hP) rfl rfl hl.1 rfl (lv_room (Nat.le_of_ble_eq_true rfl)) dX12_given_11 ⟨Nat.le_of_ble_eq_true rfl, Nat.le_of_ble_eq_true rfl⟩) (fun r_11 hr_11 qr_11 => ?_)
    replace qr_11 : (r_11 = 1 ∧ (0) ≤ (wh) ∧ (wh) ≤ (1)) ∨ (r_11 = 0 ∧ ¬ ((0) ≤ (wh) ∧ (wh) ≤ (1))) := qr_11
    refine x_if_ne (tgt := 21) hx hb (by omega) dX12_given_14 (by decide) (fun c_14 => ?_) (fun c_14 => ?_)
    · refine lv_aload_n hx hb dX12_given_21 rfl (lv_at hl 0 rfl) ?_
      refine lv_iload_n hx hb dX12_given_22 rfl (lv_at hl 1 rfl) ?_
      refine x_iconst hx hb dX12_given_23 ?_
      refine x_ci (va_runV (As := [.int (iI (d)), .int (iI (1))]) (rest := []) ⟨hx, hb, hml, hown, hts⟩ (c_X12_wrongRow l g σ (ov) S hob hs0 hok Kp So Sz El KK KF h42 h43 h44 h45 h46 h47 hsh (d) (by omega) (1) (by omega)) (cwV 2 hts gX12_given_X12_wrongRow rfl rfl rfl (by decide +kernel) ⟨Nat.le_of_ble_eq_true rfl, Nat.le_of_ble_eq_true rfl⟩) (x_preV hK hP (x_recv hK hP (i := 37) (by decide) hob rfl)) rfl rfl hl.1 rfl (lv_room (Nat.le_of_ble_eq_true rfl)) dX12_given_24 ⟨Nat.le_of_ble_eq_true rfl, Nat.le_of_ble_eq_true rfl⟩) (fun r_24 hr_24 qr_24 => ?_)
      replace qr_24 : r_24 = zRowR Kp So (d) (1) := qr_24
      refine lv_istore_n (lv' := [(3, .int (iI (r_24))), (0, .ref (g.2.2 37)), (1, .int (iI (d))), (2, .int (iI (wh)))]) hx hb dX12_given_27 rfl hl (by decide) rfl (fun ls hl => ?_)
      refine lv_iload_n hx hb dX12_given_28 rfl (lv_at hl 0 rfl) ?_
      refine x_if_ne (tgt := 57) hx hb (by omega) dX12_given_29 (by decide) (fun c_29 => ?_) (fun c_29 => ?_)
      · refine x_iconst hx hb dX12_given_57 ?_
        refine lv_istore (lv' := [(4, .int (iI (0))), (3, .int (iI (r_24))), (0, .ref (g.2.2 37)), (1, .int (iI (d))), (2, .int (iI (wh)))]) hx hb dX12_given_58 hl (by decide) rfl (fun ls hl => ?_)
        have hloop_60 : ∀ (k : Nat) (i : Int) (no : Int), ((105 : Int) - i).toNat < k → (hi0 : 0 ≤ i ∧ i % 3 = 0) → (hi1 : i ≤ 102) → (hnr : inR no) → (hno : (no = 0 ∧ (0 ≤ d ∧ d ≤ 7) ∧ (0 ≤ wh ∧ wh ≤ 1) ∧ zRowR Kp So d 1 = 0 ∧ Sz d % 3 = 0 ∧ Sz d ≤ 24 ∧ ∀ t, 0 ≤ t → 3 * t < i → zGvT (S 0) (zRw El d) t) ∨ (no ≠ 0 ∧ zGivNo Kp So Sz El (S 0) d wh no)) → (hi2 : no = 0 → i ≤ Sz d) → (hsz : no = 0 → 0 ≤ Sz d) → ∀ (ls : Array Slot), lv_has ls 6 [(4, .int (iI (i))), (3, .int (iI (no))), (0, .ref (g.2.2 37)), (1, .int (iI (d))), (2, .int (iI (wh)))] → W p l e (headSpec wsX12_given ({ frames := 7, cells := 0, slots := 0, locals := 224 })).room s m ([.ref (g.2.2 37), .int (iI (d)), .int (iI (wh))] : List Value).toArray below meth c s.heap [] 0 0 (MQ below (x_Qi g A (fun r σ1 => σ1.2 = σ.2 ∧ (∀ j, j ≠ 38 ∧ j ≠ 41 → σ1.1 j = σ.1 j) ∧ zGivenR Kp So Sz El (mK S) (mF S) (mP S) (S 0) (S 1) d wh r ∧ xBack g σ1.1 S)) ([.ref (g.2.2 37), .int (iI (d)), .int (iI (wh))] : List Value).toArray s (0) (0) A) (F0 m 60 ls []) := by
          intro k
          induction k with
          | zero =>
            intros; exact absurd (by assumption) (Nat.not_lt_zero _)
          | succ k ih =>
            intro i no hmeas hi0 hi1 hnr hno hi2 hsz  ls hl
            have ih_11 := ih
            refine lv_iload_n hx hb dX12_given_60 rfl (lv_at hl 1 rfl) ?_
            refine x_if_ne (tgt := 131) hx hb (by omega) dX12_given_61 (by decide) (fun c_61 => ?_) (fun c_61 => ?_)
            · refine lv_iload_n hx hb dX12_given_131 rfl (lv_at hl 1 rfl) ?_
              refine x_if_eq (tgt := 137) hx hb (by omega) dX12_given_132 (by decide) (fun c_132 => ?_) (fun c_132 => ?_)
              · exfalso; omega
              · refine lv_iload_n hx hb dX12_given_135 rfl (lv_at hl 1 rfl) ?_
                refine x_retQ hx hb hr (by omega) ?_ hP hD hS dX12_given_136 hlocks
                refine ⟨rfl, hfr, ?_, S, Mi, hs0, h41, zKeep_self hok.1⟩
                left
                rcases hno with h | h
                · omega
                · exact h.2
            · have hY := hno.resolve_right (fun h => by omega)
              have hk0 := zRowR_0 rfl hY.2.2.2.1
              have hsd := hsh.2.2.2.2.2.2 d hk0.1 hk0.2.1
              refine lv_iload hx hb dX12_given_64 (lv_at hl 0 rfl) ?_
              refine lv_aload_n hx hb dX12_given_66 rfl (lv_at hl 2 rfl) ?_
              refine x_get (C := RX12) (T := TX12) (N := 24) hx hb hts hin_X12 hown hK hP (37) (by decide) hob rfl 6 (by decide) hw_0 (fun _ h9 => h9) rfl dX12_given_67 ?_
              refine lv_iload_n hx hb dX12_given_70 rfl (lv_at hl 3 rfl) ?_
              refine x_iald (f := Sz) hx hb hK hP (44) (by decide) h44 (by omega) (by omega) (by decide) dX12_given_71 ?_
              have hb_12 := hsh.2.2.1 (d)
              refine x_icmp_ge (tgt := 131) hx hb (by omega) (by omega) dX12_given_72 (by decide) (fun c_72 => ?_) (fun c_72 => ?_)
              · refine lv_iload_n hx hb dX12_given_131 rfl (lv_at hl 1 rfl) ?_
                refine x_if_eq (tgt := 137) hx hb (by omega) dX12_given_132 (by decide) (fun c_132 => ?_) (fun c_132 => ?_)
                · have hY := hno.resolve_right (fun h => by omega)
                  have hYES : zGivYes Kp So Sz El (S 0) d wh := ⟨hY.2.1, hY.2.2.1, hY.2.2.2.1, hY.2.2.2.2.1, hY.2.2.2.2.2.1, fun t h1 h2 => hY.2.2.2.2.2.2 t h1 (by omega)⟩
                  have hsz3 := hY.2.2.2.2.1
                  have hsz24 := hY.2.2.2.2.2.1
                  refine lv_aload_n hx hb dX12_given_137 rfl (lv_at hl 2 rfl) ?_
                  refine x_cqv0 (va_runV (As := []) (rest := []) ⟨hx, hb, hml, hown, hts⟩ (c_X12_begins l g σ A (ov) S Mi hob hs0 h41) (cwV 0 hts gX12_given_X12_begins rfl rfl rfl (by decide +kernel) ⟨Nat.le_of_ble_eq_true rfl, Nat.le_of_ble_eq_true rfl⟩) (x_preVQ hK hP hD hS hA (x_recv hK hP (i := 37) (by decide) hob rfl)) rfl rfl hl.1 rfl (lv_room (Nat.le_of_ble_eq_true rfl)) dX12_given_138 ⟨by decide, by decide⟩) hS (fun σ1 H locs hpost hP hD hS => ?_)
                  obtain ⟨M_13, p1⟩ := σ1
                  obtain ⟨hp0, hfrc, hnew⟩ := hpost
                  obtain rfl : p1 = σ.2 := hp0
                  have hP : xP g (M_13, σ.2) H := hP
                  have hD : xD g A (M_13, σ.2) := hD
                  have hob : MObj g M_13 ov := (hfrc (37) (by omega)).trans hob
                  have hs0 := (hfrc (38) (by omega)).trans hs0
                  have h42 := (hfrc (42) (by omega)).trans h42
                  have h43 := (hfrc (43) (by omega)).trans h43
                  have h44 := (hfrc (44) (by omega)).trans h44
                  have h45 := (hfrc (45) (by omega)).trans h45
                  have h46 := (hfrc (46) (by omega)).trans h46
                  have h47 := (hfrc (47) (by omega)).trans h47
                  have hfr := x_frc (F := fun j => j ≠ 38 ∧ j ≠ 41) hfr hfrc (fun j h => by have h : j ≠ 38 ∧ j ≠ 41 := h; omega)
                  obtain ⟨Mi_14, hMi_14⟩ : ∃ q : Int → Int, q = zCopy S Mi 29 := ⟨_, rfl⟩
                  have h41 : MArr g M_13 41 29 Mi_14 := by rw [hMi_14]; exact hnew
                  refine x_iconst hx hb dX12_given_141 ?_
                  refine lv_istore (lv' := [(4, .int (iI (0))), (3, .int (iI (no))), (0, .ref (g.2.2 37)), (1, .int (iI (d))), (2, .int (iI (wh)))]) hx hb dX12_given_142 hl (by decide) rfl (fun ls hl => ?_)
                  refine x_iconst hx hb dX12_given_144 ?_
                  refine lv_istore (lv' := [(5, .int (iI (0))), (4, .int (iI (0))), (3, .int (iI (no))), (0, .ref (g.2.2 37)), (1, .int (iI (d))), (2, .int (iI (wh)))]) hx hb dX12_given_145 hl (by decide) rfl (fun ls hl => ?_)
                  have hloop_147 : ∀ (k : Nat) (T : Int → Int) (i2 : Int) (ct : Int), (Sz d - i2).toNat < k → (hj0 : 0 ≤ i2 ∧ i2 % 3 = 0) → (hj1 : i2 ≤ Sz d) → (hct : 0 ≤ ct ∧ ct ≤ i2) → (hTo : SmOk T) → (eT0 : T 0 = S 0) → (eT1 : T 1 = S 1) → (eTK : mK T = mK S) → (eTF : mF T = mF S) → (hst : (mP T, ct) = zGvN (zRw El d) (mP S) (S 0) (i2 / 3).toNat) → ∀ (M : xM) (H : Heap) (locs : List Loc), (hob : M (37) = .inr (12, [.ref (g.2.2 38), .ref (g.2.2 39), .ref (g.2.2 40), .ref (g.2.2 41), .ref (g.2.2 42), .ref (g.2.2 43), .ref (g.2.2 44), .ref (g.2.2 45), .ref (g.2.2 46), .ref (g.2.2 47), .int (iI (ov 10)), .int (iI (ov 11)), .int (iI (ov 12)), .int (iI (ov 13)), .int (iI (ov 14)), .int (iI (ov 15)), .ref (g.2.2 48), .int (iI (ov 17)), .int (iI (ov 18)), .int (iI (ov 19)), .int (iI (ov 20)), .int (iI (ov 21)), .ref (g.2.2 49), .int (iI (ov 23))])) → (hs0 : M (38) = .inl (g.2.1 0, 29, .inl (fun k => iI (T (k : Int))))) → (h42 : M (42) = .inl (g.2.1 0, 8, .inl (fun k => iI (Kp (k : Int))))) → (h43 : M (43) = .inl (g.2.1 0, 8, .inl (fun k => iI (So (k : Int))))) → (h44 : M (44) = .inl (g.2.1 0, 8, .inl (fun k => iI (Sz (k : Int))))) → (h45 : M (45) = .inl (g.2.1 0, 800, .inl (fun k => iI (El (k : Int))))) → (h46 : M (46) = .inl (g.2.1 0, 8, .inl (fun k => iI (KK (k : Int))))) → (h47 : M (47) = .inl (g.2.1 0, 8, .inl (fun k => iI (KF (k : Int))))) → (h41 : M (41) = .inl (g.2.1 0, 29, .inl (fun k => iI (Mi_14 (k : Int))))) → (hfr : ∀ j, (j ≠ 38 ∧ j ≠ 41) → M j = σ.1 j) → xP g (M, σ.2) H → xD g A (M, σ.2) → va_S A s.heap H locs → ∀ (ls : Array Slot), lv_has ls 6 [(5, .int (iI (i2))), (4, .int (iI (ct))), (3, .int (iI (no))), (0, .ref (g.2.2 37)), (1, .int (iI (d))), (2, .int (iI (wh)))] → W p l e (headSpec wsX12_given ({ frames := 7, cells := 0, slots := 0, locals := 224 })).room s m ([.ref (g.2.2 37), .int (iI (d)), .int (iI (wh))] : List Value).toArray below meth c H locs 0 0 (MQ below (x_Qi g A (fun r σ1 => σ1.2 = σ.2 ∧ (∀ j, j ≠ 38 ∧ j ≠ 41 → σ1.1 j = σ.1 j) ∧ zGivenR Kp So Sz El (mK S) (mF S) (mP S) (S 0) (S 1) d wh r ∧ xBack g σ1.1 S)) ([.ref (g.2.2 37), .int (iI (d)), .int (iI (wh))] : List Value).toArray s (0) (0) A) (F0 m 147 ls []) := by
                    intro k
                    induction k with
                    | zero =>
                      intros; exact absurd (by assumption) (Nat.not_lt_zero _)
                    | succ k ih =>
                      intro T i2 ct hmeas hj0 hj1 hct hTo eT0 eT1 eTK eTF hst M H locs hob hs0 h42 h43 h44 h45 h46 h47 h41 hfr hP hD hS ls hl
                      have ih_15 := ih
                      refine lv_iload hx hb dX12_given_147 (lv_at hl 0 rfl) ?_
                      refine lv_aload_n hx hb dX12_given_149 rfl (lv_at hl 3 rfl) ?_
                      refine x_get (C := RX12) (T := TX12) (N := 24) hx hb hts hin_X12 hown hK hP (37) (by decide) hob rfl 6 (by decide) hw_0 (fun _ h9 => h9) rfl dX12_given_150 ?_
                      refine lv_iload_n hx hb dX12_given_153 rfl (lv_at hl 4 rfl) ?_
                      refine x_iald (f := Sz) hx hb hK hP (44) (by decide) h44 (by omega) (by omega) (by decide) dX12_given_154 ?_
                      have hb_16 := hsh.2.2.1 (d)
                      refine x_icmp_ge (tgt := 206) hx hb (by omega) (by omega) dX12_given_155 (by decide) (fun c_155 => ?_) (fun c_155 => ?_)
                      · refine lv_aload_n hx hb dX12_given_206 rfl (lv_at hl 3 rfl) ?_
                        refine x_ci (va_runV (As := []) (rest := []) ⟨hx, hb, hml, hown, hts⟩ (c_X12_breachesAll l g (M, σ.2) (ov) T hob hs0 hTo ) (cwV 0 hts gX12_given_X12_breachesAll rfl rfl rfl (by decide +kernel) ⟨Nat.le_of_ble_eq_true rfl, Nat.le_of_ble_eq_true rfl⟩) (x_preV hK hP (x_recv hK hP (i := 37) (by decide) hob rfl)) rfl rfl hl.1 rfl (lv_room (Nat.le_of_ble_eq_true rfl)) dX12_given_207 ⟨Nat.le_of_ble_eq_true rfl, Nat.le_of_ble_eq_true rfl⟩) (fun r_207 hr_207 qr_207 => ?_)
                        replace qr_207 : r_207 = zAll (mK T) (mF T) (mP T) (T 0) (T 1) ∧ 0 ≤ r_207 ∧ r_207 ≤ 18 := qr_207
                        refine lv_istore (lv' := [(5, .int (iI (r_207))), (4, .int (iI (ct))), (3, .int (iI (no))), (0, .ref (g.2.2 37)), (1, .int (iI (d))), (2, .int (iI (wh)))]) hx hb dX12_given_210 hl (by decide) rfl (fun ls hl => ?_)
                        refine lv_aload_n hx hb dX12_given_212 rfl (lv_at hl 3 rfl) ?_
                        refine x_cqv0 (va_runV (As := []) (rest := []) ⟨hx, hb, hml, hown, hts⟩ (c_X12_ends l g (M, σ.2) A (ov) T Mi_14 hob hs0 h41) (cwV 0 hts gX12_given_X12_ends rfl rfl rfl (by decide +kernel) ⟨Nat.le_of_ble_eq_true rfl, Nat.le_of_ble_eq_true rfl⟩) (x_preVQ hK hP hD hS hA (x_recv hK hP (i := 37) (by decide) hob rfl)) rfl rfl hl.1 rfl (lv_room (Nat.le_of_ble_eq_true rfl)) dX12_given_213 ⟨by decide, by decide⟩) hS (fun σ1 H locs hpost hP hD hS => ?_)
                        obtain ⟨M_17, p1⟩ := σ1
                        obtain ⟨hp0, hfrc, hnew⟩ := hpost
                        obtain rfl : p1 = σ.2 := hp0
                        have hP : xP g (M_17, σ.2) H := hP
                        have hD : xD g A (M_17, σ.2) := hD
                        have hob : MObj g M_17 ov := (hfrc (37) (by omega)).trans hob
                        have h42 := (hfrc (42) (by omega)).trans h42
                        have h43 := (hfrc (43) (by omega)).trans h43
                        have h44 := (hfrc (44) (by omega)).trans h44
                        have h45 := (hfrc (45) (by omega)).trans h45
                        have h46 := (hfrc (46) (by omega)).trans h46
                        have h47 := (hfrc (47) (by omega)).trans h47
                        have h41 := (hfrc (41) (by omega)).trans h41
                        have hfr := x_frc (F := fun j => j ≠ 38 ∧ j ≠ 41) hfr hfrc (fun j h => by have h : j ≠ 38 ∧ j ≠ 41 := h; omega)
                        obtain ⟨S_18, hS_18⟩ : ∃ q : Int → Int, q = zCopy Mi_14 T 29 := ⟨_, rfl⟩
                        have hs0 : MArr g M_17 38 29 S_18 := by rw [hS_18]; exact hnew
                        refine lv_iload_n hx hb dX12_given_216 rfl (lv_at hl 5 rfl) ?_
                        refine x_if_ne (tgt := 225) hx hb (by omega) dX12_given_217 (by decide) (fun c_217 => ?_) (fun c_217 => ?_)
                        · refine lv_iload hx hb dX12_given_225 (lv_at hl 1 rfl) ?_
                          refine x_retQ hx hb hr (by omega) ?_ hP hD hS dX12_given_227 hlocks
                          refine ⟨rfl, hfr, Or.inr ⟨hYES, ?_⟩, ?_⟩
                          · have ei : i2 = Sz d := by omega
                            rw [ei] at hst
                            unfold zGiven
                            rw [if_neg (by omega), ← hst]
                          · exact ⟨_, _, hs0, h41, zKeep_back hok.1 hTo.1 hMi_14 hS_18⟩
                        · refine lv_iload hx hb dX12_given_220 (lv_at hl 0 rfl) ?_
                          refine lv_goto (tgt := 227) hx hb dX12_given_222 (by decide) ?_
                          refine x_retQ hx hb hr (by omega) ?_ hP hD hS dX12_given_227 hlocks
                          refine ⟨rfl, hfr, Or.inr ⟨hYES, ?_⟩, ?_⟩
                          · have ei : i2 = Sz d := by omega
                            rw [ei] at hst
                            unfold zGiven
                            rw [if_pos (by omega), ← hst]
                            (show r_207 = zAll (mK S) (mF S) (mP T) (S 0) (S 1))
                            rw [qr_207.1, eTK, eTF, eT0, eT1]
                          · exact ⟨_, _, hs0, h41, zKeep_back hok.1 hTo.1 hMi_14 hS_18⟩
                      · refine lv_iload hx hb dX12_given_158 (lv_at hl 1 rfl) ?_
                        refine lv_aload_n hx hb dX12_given_160 rfl (lv_at hl 3 rfl) ?_
                        refine lv_aload_n hx hb dX12_given_161 rfl (lv_at hl 3 rfl) ?_
                        refine lv_iload_n hx hb dX12_given_162 rfl (lv_at hl 4 rfl) ?_
                        refine lv_iload hx hb dX12_given_163 (lv_at hl 0 rfl) ?_
                        refine x_ci (va_runV (As := [.int (iI (d)), .int (iI (i2))]) (rest := [.ref (g.2.2 37), .int (iI (ct))]) ⟨hx, hb, hml, hown, hts⟩ (c_X12_toldAt l g (M, σ.2) (ov) T hob hs0 hTo Kp So Sz El KK KF h42 h43 h44 h45 h46 h47 hsh (d) (by omega) (i2) (by omega)) (cwV 2 hts gX12_given_X12_toldAt rfl rfl rfl (by decide +kernel) ⟨Nat.le_of_ble_eq_true rfl, Nat.le_of_ble_eq_true rfl⟩) (x_preV hK hP (x_recv hK hP (i := 37) (by decide) hob rfl)) rfl rfl hl.1 rfl (lv_room (Nat.le_of_ble_eq_true rfl)) dX12_given_165 ⟨Nat.le_of_ble_eq_true rfl, Nat.le_of_ble_eq_true rfl⟩) (fun r_165 hr_165 qr_165 => ?_)
                        replace qr_165 : r_165 = El (100 * (d) + (i2)) := qr_165
                        refine lv_aload_n hx hb dX12_given_168 rfl (lv_at hl 3 rfl) ?_
                        refine lv_iload_n hx hb dX12_given_169 rfl (lv_at hl 4 rfl) ?_
                        refine lv_iload hx hb dX12_given_170 (lv_at hl 0 rfl) ?_
                        refine x_iconst hx hb dX12_given_172 ?_
                        refine x_iadd hx hb dX12_given_173 ?_
                        refine x_ci (va_runV (As := [.int (iI (d)), .int (iI (i2 + 1))]) (rest := [.int (iI (r_165)), .ref (g.2.2 37), .int (iI (ct))]) ⟨hx, hb, hml, hown, hts⟩ (c_X12_toldAt l g (M, σ.2) (ov) T hob hs0 hTo Kp So Sz El KK KF h42 h43 h44 h45 h46 h47 hsh (d) (by omega) (i2 + 1) (by omega)) (cwV 2 hts gX12_given_X12_toldAt rfl rfl rfl (by decide +kernel) ⟨Nat.le_of_ble_eq_true rfl, Nat.le_of_ble_eq_true rfl⟩) (x_preV hK hP (x_recv hK hP (i := 37) (by decide) hob rfl)) rfl rfl hl.1 rfl (lv_room (Nat.le_of_ble_eq_true rfl)) dX12_given_174 ⟨Nat.le_of_ble_eq_true rfl, Nat.le_of_ble_eq_true rfl⟩) (fun r_174 hr_174 qr_174 => ?_)
                        replace qr_174 : r_174 = El (100 * (d) + (i2 + 1)) := qr_174
                        refine lv_aload_n hx hb dX12_given_177 rfl (lv_at hl 3 rfl) ?_
                        refine lv_iload_n hx hb dX12_given_178 rfl (lv_at hl 4 rfl) ?_
                        refine lv_iload hx hb dX12_given_179 (lv_at hl 0 rfl) ?_
                        refine x_iconst hx hb dX12_given_181 ?_
                        refine x_iadd hx hb dX12_given_182 ?_
                        refine x_ci (va_runV (As := [.int (iI (d)), .int (iI (i2 + 2))]) (rest := [.int (iI (r_174)), .int (iI (r_165)), .ref (g.2.2 37), .int (iI (ct))]) ⟨hx, hb, hml, hown, hts⟩ (c_X12_toldAt l g (M, σ.2) (ov) T hob hs0 hTo Kp So Sz El KK KF h42 h43 h44 h45 h46 h47 hsh (d) (by omega) (i2 + 2) (by omega)) (cwV 2 hts gX12_given_X12_toldAt rfl rfl rfl (by decide +kernel) ⟨Nat.le_of_ble_eq_true rfl, Nat.le_of_ble_eq_true rfl⟩) (x_preV hK hP (x_recv hK hP (i := 37) (by decide) hob rfl)) rfl rfl hl.1 rfl (lv_room (Nat.le_of_ble_eq_true rfl)) dX12_given_183 ⟨Nat.le_of_ble_eq_true rfl, Nat.le_of_ble_eq_true rfl⟩) (fun r_183 hr_183 qr_183 => ?_)
                        replace qr_183 : r_183 = El (100 * (d) + (i2 + 2)) := qr_183
                        refine x_cqi0 (va_runV (As := [.int (iI (r_165)), .int (iI (r_174)), .int (iI (r_183))]) (rest := [.int (iI (ct))]) ⟨hx, hb, hml, hown, hts⟩ (c_X12_givesIf l g (M, σ.2) A (ov) T hob hs0 hTo (r_165) (by omega) (r_174) (by omega) (r_183) (by omega)) (cwV 3 hts gX12_given_X12_givesIf rfl rfl rfl (by decide +kernel) ⟨Nat.le_of_ble_eq_true rfl, Nat.le_of_ble_eq_true rfl⟩) (x_preVQ hK hP hD hS hA (x_recv hK hP (i := 37) (by decide) hob rfl)) rfl rfl hl.1 rfl (lv_room (Nat.le_of_ble_eq_true rfl)) dX12_given_186 ⟨by decide, by decide⟩) hS (fun r_186 σ1 H locs hr_186 hpost hP hD hS => ?_)
                        obtain ⟨M_19, p1⟩ := σ1
                        obtain ⟨hp0, hfrc, qr_186, hnew⟩ := hpost
                        obtain rfl : p1 = σ.2 := hp0
                        have hP : xP g (M_19, σ.2) H := hP
                        have hD : xD g A (M_19, σ.2) := hD
                        have hob : MObj g M_19 ov := (hfrc (37) (by omega)).trans hob
                        have h42 := (hfrc (42) (by omega)).trans h42
                        have h43 := (hfrc (43) (by omega)).trans h43
                        have h44 := (hfrc (44) (by omega)).trans h44
                        have h45 := (hfrc (45) (by omega)).trans h45
                        have h46 := (hfrc (46) (by omega)).trans h46
                        have h47 := (hfrc (47) (by omega)).trans h47
                        have h41 := (hfrc (41) (by omega)).trans h41
                        have hfr := x_frc (F := fun j => j ≠ 38 ∧ j ≠ 41) hfr hfrc (fun j h => by have h : j ≠ 38 ∧ j ≠ 41 := h; omega)
                        obtain ⟨S_20, hS_20⟩ : ∃ q : Int → Int, q = (if zGiftR (mP T) (T 0) (r_165) (r_174) (r_183) = 0 then zGives T (r_165) (r_174) (r_183) else T) := ⟨_, rfl⟩
                        have hs0 : MArr g M_19 38 29 S_20 := by rw [hS_20]; exact hnew
                        have oS_20 : SmOk S_20 := by rw [hS_20]; exact SmOk_givesIf hTo
                        have pS_20 := oS_20.2.1
                        refine x_if_eq (tgt := 196) hx hb (by omega) dX12_given_189 (by decide) (fun c_189 => ?_) (fun c_189 => ?_)
                        · refine x_iconst hx hb dX12_given_196 ?_
                          refine x_iadd hx hb dX12_given_197 ?_
                          refine lv_istore (lv' := [(4, .int (iI (ct + 0))), (5, .int (iI (i2))), (3, .int (iI (no))), (0, .ref (g.2.2 37)), (1, .int (iI (d))), (2, .int (iI (wh)))]) hx hb dX12_given_198 hl (by decide) rfl (fun ls hl => ?_)
                          refine x_iinc (k0 := 1) (lv' := [(5, .int (iI (i2 + 3))), (4, .int (iI (ct + 0))), (3, .int (iI (no))), (0, .ref (g.2.2 37)), (1, .int (iI (d))), (2, .int (iI (wh)))]) hx hb dX12_given_200 hl rfl (by decide) rfl (fun ls hl => ?_)
                          refine lv_goto (tgt := 147) hx hb dX12_given_203 (by decide) ?_
                          have zz := zGvIf_all (S := T) (a := r_165) (b := r_174) (c := r_183)
                          unfold zGvIf at zz
                          rw [← hS_20] at zz
                          exact ih_15 (S_20) (i2 + 3) (ct + 0) (by omega) (by omega) (by omega) (by omega) (by assumption) (by exact zz.2.2.2.1.trans eT0) (by exact zz.2.2.2.2.trans eT1) (by exact zz.2.1.trans eTK) (by exact zz.2.2.1.trans eTF) (by rw [zGvN_succ _ _ _ hj0.1 hj0.2, ← hst]; rw [zz.1, eT0, qr_165, qr_174, qr_183]; rw [eT0, qr_165, qr_174, qr_183] at qr_186; (show _ = (if zGiftR (mP T) (S 0) (El (100 * d + i2)) (El (100 * d + (i2 + 1))) (El (100 * d + (i2 + 2))) = 0 then (zGift (mP T) (El (100 * d + i2)) (El (100 * d + (i2 + 1))) (El (100 * d + (i2 + 2))), ct + 1) else (mP T, ct))); first | (rw [if_pos (by omega), if_pos (by omega)]; done) | (rw [if_neg (by omega), if_neg (by omega), show ct + 0 = ct by omega]; done)) (M_19) _ _ hob hs0 h42 h43 h44 h45 h46 h47 h41 hfr hP hD hS ls (lv_sub hl [0, 1, 2, 3, 4, 5] rfl)
                        · refine x_iconst hx hb dX12_given_192 ?_
                          refine lv_goto (tgt := 197) hx hb dX12_given_193 (by decide) ?_
                          refine x_iadd hx hb dX12_given_197 ?_
                          refine lv_istore (lv' := [(4, .int (iI (ct + 1))), (5, .int (iI (i2))), (3, .int (iI (no))), (0, .ref (g.2.2 37)), (1, .int (iI (d))), (2, .int (iI (wh)))]) hx hb dX12_given_198 hl (by decide) rfl (fun ls hl => ?_)
                          refine x_iinc (k0 := 1) (lv' := [(5, .int (iI (i2 + 3))), (4, .int (iI (ct + 1))), (3, .int (iI (no))), (0, .ref (g.2.2 37)), (1, .int (iI (d))), (2, .int (iI (wh)))]) hx hb dX12_given_200 hl rfl (by decide) rfl (fun ls hl => ?_)
                          refine lv_goto (tgt := 147) hx hb dX12_given_203 (by decide) ?_
                          have zz := zGvIf_all (S := T) (a := r_165) (b := r_174) (c := r_183)
                          unfold zGvIf at zz
                          rw [← hS_20] at zz
                          exact ih_15 (S_20) (i2 + 3) (ct + 1) (by omega) (by omega) (by omega) (by omega) (by assumption) (by exact zz.2.2.2.1.trans eT0) (by exact zz.2.2.2.2.trans eT1) (by exact zz.2.1.trans eTK) (by exact zz.2.2.1.trans eTF) (by rw [zGvN_succ _ _ _ hj0.1 hj0.2, ← hst]; rw [zz.1, eT0, qr_165, qr_174, qr_183]; rw [eT0, qr_165, qr_174, qr_183] at qr_186; (show _ = (if zGiftR (mP T) (S 0) (El (100 * d + i2)) (El (100 * d + (i2 + 1))) (El (100 * d + (i2 + 2))) = 0 then (zGift (mP T) (El (100 * d + i2)) (El (100 * d + (i2 + 1))) (El (100 * d + (i2 + 2))), ct + 1) else (mP T, ct))); first | (rw [if_pos (by omega), if_pos (by omega)]; done) | (rw [if_neg (by omega), if_neg (by omega), show ct + 0 = ct by omega]; done)) (M_19) _ _ hob hs0 h42 h43 h44 h45 h46 h47 h41 hfr hP hD hS ls (lv_sub hl [0, 1, 2, 3, 4, 5] rfl)
                  exact hloop_147 (((Sz d - (0)).toNat) + 1) (S) (0) (0) (by omega) (by omega) (by omega) (by omega) (by exact hok) (by rfl) (by rfl) (by rfl) (by rfl) (by rfl) (M_13) _ _ hob hs0 h42 h43 h44 h45 h46 h47 h41 hfr hP hD hS ls (lv_sub hl [0, 1, 2, 3, 4, 5] rfl)
                · exfalso; omega
              · refine lv_aload_n hx hb dX12_given_75 rfl (lv_at hl 2 rfl) ?_
                refine lv_aload_n hx hb dX12_given_76 rfl (lv_at hl 2 rfl) ?_
                refine lv_iload_n hx hb dX12_given_77 rfl (lv_at hl 3 rfl) ?_
                refine lv_iload hx hb dX12_given_78 (lv_at hl 0 rfl) ?_
                refine x_ci (va_runV (As := [.int (iI (d)), .int (iI (i))]) (rest := [.ref (g.2.2 37)]) ⟨hx, hb, hml, hown, hts⟩ (c_X12_toldAt l g σ (ov) S hob hs0 hok Kp So Sz El KK KF h42 h43 h44 h45 h46 h47 hsh (d) (by omega) (i) (by omega)) (cwV 2 hts gX12_given_X12_toldAt rfl rfl rfl (by decide +kernel) ⟨Nat.le_of_ble_eq_true rfl, Nat.le_of_ble_eq_true rfl⟩) (x_preV hK hP (x_recv hK hP (i := 37) (by decide) hob rfl)) rfl rfl hl.1 rfl (lv_room (Nat.le_of_ble_eq_true rfl)) dX12_given_80 ⟨Nat.le_of_ble_eq_true rfl, Nat.le_of_ble_eq_true rfl⟩) (fun r_80 hr_80 qr_80 => ?_)
                replace qr_80 : r_80 = El (100 * (d) + (i)) := qr_80
                refine lv_aload_n hx hb dX12_given_83 rfl (lv_at hl 2 rfl) ?_
                refine lv_iload_n hx hb dX12_given_84 rfl (lv_at hl 3 rfl) ?_
                refine lv_iload hx hb dX12_given_85 (lv_at hl 0 rfl) ?_
                refine x_iconst hx hb dX12_given_87 ?_
                refine x_iadd hx hb dX12_given_88 ?_
                refine x_ci (va_runV (As := [.int (iI (d)), .int (iI (i + 1))]) (rest := [.int (iI (r_80)), .ref (g.2.2 37)]) ⟨hx, hb, hml, hown, hts⟩ (c_X12_toldAt l g σ (ov) S hob hs0 hok Kp So Sz El KK KF h42 h43 h44 h45 h46 h47 hsh (d) (by omega) (i + 1) (by omega)) (cwV 2 hts gX12_given_X12_toldAt rfl rfl rfl (by decide +kernel) ⟨Nat.le_of_ble_eq_true rfl, Nat.le_of_ble_eq_true rfl⟩) (x_preV hK hP (x_recv hK hP (i := 37) (by decide) hob rfl)) rfl rfl hl.1 rfl (lv_room (Nat.le_of_ble_eq_true rfl)) dX12_given_89 ⟨Nat.le_of_ble_eq_true rfl, Nat.le_of_ble_eq_true rfl⟩) (fun r_89 hr_89 qr_89 => ?_)
                replace qr_89 : r_89 = El (100 * (d) + (i + 1)) := qr_89
                refine x_ci (va_runV (As := [.int (iI (r_80)), .int (iI (r_89))]) (rest := []) ⟨hx, hb, hml, hown, hts⟩ (c_X12_areTwo l g σ (ov) S hob hs0 hok (r_80) (by omega) (r_89) (by omega)) (cwV 2 hts gX12_given_X12_areTwo rfl rfl rfl (by decide +kernel) ⟨Nat.le_of_ble_eq_true rfl, Nat.le_of_ble_eq_true rfl⟩) (x_preV hK hP (x_recv hK hP (i := 37) (by decide) hob rfl)) rfl rfl hl.1 rfl (lv_room (Nat.le_of_ble_eq_true rfl)) dX12_given_92 ⟨Nat.le_of_ble_eq_true rfl, Nat.le_of_ble_eq_true rfl⟩) (fun r_92 hr_92 qr_92 => ?_)
                replace qr_92 : (r_92 = 1 ∧ (0 ≤ (r_80) ∧ (r_80) < S 0 ∧ 0 ≤ (r_89) ∧ (r_89) < S 0 ∧ (r_80) ≠ (r_89))) ∨ (r_92 = 0 ∧ ¬ (0 ≤ (r_80) ∧ (r_80) < S 0 ∧ 0 ≤ (r_89) ∧ (r_89) < S 0 ∧ (r_80) ≠ (r_89))) := qr_92
                refine x_if_eq (tgt := 122) hx hb (by omega) dX12_given_95 (by decide) (fun c_95 => ?_) (fun c_95 => ?_)
                · refine x_bipush (n := -13) hx hb (by decide +kernel) dX12_given_122 ?_
                  refine lv_istore_n (lv' := [(3, .int (iI (-13))), (4, .int (iI (i))), (0, .ref (g.2.2 37)), (1, .int (iI (d))), (2, .int (iI (wh)))]) hx hb dX12_given_124 rfl hl (by decide) rfl (fun ls hl => ?_)
                  refine x_iinc (k0 := 1) (lv' := [(4, .int (iI (i + 3))), (3, .int (iI (-13))), (0, .ref (g.2.2 37)), (1, .int (iI (d))), (2, .int (iI (wh)))]) hx hb dX12_given_125 hl rfl (by decide) rfl (fun ls hl => ?_)
                  refine lv_goto (tgt := 60) hx hb dX12_given_128 (by decide) ?_
                  exact ih_11 (i + 3) (-13) (by omega) (by omega) (by omega) (by omega) (by first | exact Or.inl ⟨rfl, hY.2.1, hY.2.2.1, hY.2.2.2.1, hY.2.2.2.2.1, hY.2.2.2.2.2.1, fun t h1 h2 => by by_cases e : t = i / 3; (subst e; unfold zGvT zRw; rw [show 3 * (i / 3) = i by omega]; omega); exact hY.2.2.2.2.2.2 t h1 (by omega)⟩ | exact Or.inr ⟨by omega, Or.inr (Or.inr ⟨hY.2.1, hY.2.2.1, hY.2.2.2.1, fun h => by have h1 := h.2.2 (i / 3) (by omega) (by omega); unfold zGvT zRw at h1; rw [show 3 * (i / 3) = i by omega] at h1; omega, rfl⟩)⟩) (by omega) (by omega) ls (lv_sub hl [0, 1, 2, 3, 4] rfl)
                · refine lv_aload_n hx hb dX12_given_98 rfl (lv_at hl 2 rfl) ?_
                  refine lv_iload_n hx hb dX12_given_99 rfl (lv_at hl 3 rfl) ?_
                  refine lv_iload hx hb dX12_given_100 (lv_at hl 0 rfl) ?_
                  refine x_iconst hx hb dX12_given_102 ?_
                  refine x_iadd hx hb dX12_given_103 ?_
                  refine x_ci (va_runV (As := [.int (iI (d)), .int (iI (i + 2))]) (rest := []) ⟨hx, hb, hml, hown, hts⟩ (c_X12_toldAt l g σ (ov) S hob hs0 hok Kp So Sz El KK KF h42 h43 h44 h45 h46 h47 hsh (d) (by omega) (i + 2) (by omega)) (cwV 2 hts gX12_given_X12_toldAt rfl rfl rfl (by decide +kernel) ⟨Nat.le_of_ble_eq_true rfl, Nat.le_of_ble_eq_true rfl⟩) (x_preV hK hP (x_recv hK hP (i := 37) (by decide) hob rfl)) rfl rfl hl.1 rfl (lv_room (Nat.le_of_ble_eq_true rfl)) dX12_given_104 ⟨Nat.le_of_ble_eq_true rfl, Nat.le_of_ble_eq_true rfl⟩) (fun r_104 hr_104 qr_104 => ?_)
                  replace qr_104 : r_104 = El (100 * (d) + (i + 2)) := qr_104
                  refine x_i2l hx hb (by omega) dX12_given_107 ?_
                  refine x_lconst (z := 1) hx hb (by decide +kernel) dX12_given_108 ?_
                  refine x_ldc2 (z := 9999) hx hb hown hw_2 (by decide +kernel) dX12_given_109 ?_
                  refine x_ci (va_runS (As := [.long (jL (r_104)), .long (jL (1)), .long (jL (9999))]) (rest := []) ⟨hx, hb, hml, hown, hts⟩ (c_X12_isIn l g σ (r_104) (by omega) (1) (by omega) (9999) (by omega)) (va_cwS 3 hts gX12_given_X12_isIn rfl rfl rfl (by decide +kernel) ⟨Nat.le_of_ble_eq_true rfl, Nat.le_of_ble_eq_true rfl⟩) (x_preS hK hP) rfl rfl hl.1 rfl (lv_room (Nat.le_of_ble_eq_true rfl)) dX12_given_112 ⟨Nat.le_of_ble_eq_true rfl, Nat.le_of_ble_eq_true rfl⟩) (fun r_112 hr_112 qr_112 => ?_)
                  replace qr_112 : (r_112 = 1 ∧ (1) ≤ (r_104) ∧ (r_104) ≤ (9999)) ∨ (r_112 = 0 ∧ ¬ ((1) ≤ (r_104) ∧ (r_104) ≤ (9999))) := qr_112
                  refine x_if_eq (tgt := 122) hx hb (by omega) dX12_given_115 (by decide) (fun c_115 => ?_) (fun c_115 => ?_)
                  · refine x_bipush (n := -13) hx hb (by decide +kernel) dX12_given_122 ?_
                    refine lv_istore_n (lv' := [(3, .int (iI (-13))), (4, .int (iI (i))), (0, .ref (g.2.2 37)), (1, .int (iI (d))), (2, .int (iI (wh)))]) hx hb dX12_given_124 rfl hl (by decide) rfl (fun ls hl => ?_)
                    refine x_iinc (k0 := 1) (lv' := [(4, .int (iI (i + 3))), (3, .int (iI (-13))), (0, .ref (g.2.2 37)), (1, .int (iI (d))), (2, .int (iI (wh)))]) hx hb dX12_given_125 hl rfl (by decide) rfl (fun ls hl => ?_)
                    refine lv_goto (tgt := 60) hx hb dX12_given_128 (by decide) ?_
                    exact ih_11 (i + 3) (-13) (by omega) (by omega) (by omega) (by omega) (by first | exact Or.inl ⟨rfl, hY.2.1, hY.2.2.1, hY.2.2.2.1, hY.2.2.2.2.1, hY.2.2.2.2.2.1, fun t h1 h2 => by by_cases e : t = i / 3; (subst e; unfold zGvT zRw; rw [show 3 * (i / 3) = i by omega]; omega); exact hY.2.2.2.2.2.2 t h1 (by omega)⟩ | exact Or.inr ⟨by omega, Or.inr (Or.inr ⟨hY.2.1, hY.2.2.1, hY.2.2.2.1, fun h => by have h1 := h.2.2 (i / 3) (by omega) (by omega); unfold zGvT zRw at h1; rw [show 3 * (i / 3) = i by omega] at h1; omega, rfl⟩)⟩) (by omega) (by omega) ls (lv_sub hl [0, 1, 2, 3, 4] rfl)
                  · refine x_iconst hx hb dX12_given_118 ?_
                    refine lv_goto (tgt := 124) hx hb dX12_given_119 (by decide) ?_
                    refine lv_istore_n (lv' := [(3, .int (iI (0))), (4, .int (iI (i))), (0, .ref (g.2.2 37)), (1, .int (iI (d))), (2, .int (iI (wh)))]) hx hb dX12_given_124 rfl hl (by decide) rfl (fun ls hl => ?_)
                    refine x_iinc (k0 := 1) (lv' := [(4, .int (iI (i + 3))), (3, .int (iI (0))), (0, .ref (g.2.2 37)), (1, .int (iI (d))), (2, .int (iI (wh)))]) hx hb dX12_given_125 hl rfl (by decide) rfl (fun ls hl => ?_)
                    refine lv_goto (tgt := 60) hx hb dX12_given_128 (by decide) ?_
                    exact ih_11 (i + 3) (0) (by omega) (by omega) (by omega) (by omega) (by first | exact Or.inl ⟨rfl, hY.2.1, hY.2.2.1, hY.2.2.2.1, hY.2.2.2.2.1, hY.2.2.2.2.2.1, fun t h1 h2 => by by_cases e : t = i / 3; (subst e; unfold zGvT zRw; rw [show 3 * (i / 3) = i by omega]; omega); exact hY.2.2.2.2.2.2 t h1 (by omega)⟩ | exact Or.inr ⟨by omega, Or.inr (Or.inr ⟨hY.2.1, hY.2.2.1, hY.2.2.2.1, fun h => by have h1 := h.2.2 (i / 3) (by omega) (by omega); unfold zGvT zRw at h1; rw [show 3 * (i / 3) = i by omega] at h1; omega, rfl⟩)⟩) (by omega) (by omega) ls (lv_sub hl [0, 1, 2, 3, 4] rfl)
        exact hloop_60 ((((105 : Int) - (0)).toNat) + 1) (0) ((r_24)) (by omega) (by omega) (by omega) (by omega) (by first | exact Or.inl ⟨rfl, by omega, by omega, by omega, by omega, by omega, fun t h1 h2 => by omega⟩ | exact Or.inl ⟨by omega, by omega, by omega, by omega, by omega, by omega, fun t h1 h2 => by omega⟩ | exact Or.inr ⟨by omega, Or.inl ⟨by omega, by omega⟩⟩ | exact Or.inr ⟨by omega, Or.inr (Or.inl ⟨by omega, by omega, by omega, by omega⟩)⟩ | exact Or.inr ⟨by omega, Or.inr (Or.inr ⟨by omega, by omega, by omega, fun h => by have h1 := h.1; have h2 := h.2.1; omega, by omega⟩)⟩) (by omega) (by omega) ls (lv_sub hl [0, 1, 2, 3, 4] rfl)
      · have hk0 := zRowR_0 qr_24 (by omega)
        have hsd := hsh.2.2.2.2.2.2 d hk0.1 hk0.2.1
        refine lv_aload_n hx hb dX12_given_32 rfl (lv_at hl 1 rfl) ?_
        refine x_get (C := RX12) (T := TX12) (N := 24) hx hb hts hin_X12 hown hK hP (37) (by decide) hob rfl 6 (by decide) hw_0 (fun _ h9 => h9) rfl dX12_given_33 ?_
        refine lv_iload_n hx hb dX12_given_36 rfl (lv_at hl 2 rfl) ?_
        refine x_iald (f := Sz) hx hb hK hP (44) (by decide) h44 (by omega) (by omega) (by decide) dX12_given_37 ?_
        have hb_21 := hsh.2.2.1 (d)
        refine x_iconst hx hb dX12_given_38 ?_
        refine x_irem hx hb (by omega) (by omega) (by omega) (by omega) dX12_given_39 ?_
        refine x_if_ne (tgt := 54) hx hb (by omega) dX12_given_40 (by decide) (fun c_40 => ?_) (fun c_40 => ?_)
        · refine x_bipush (n := -13) hx hb (by decide +kernel) dX12_given_54 ?_
          refine lv_istore_n (lv' := [(3, .int (iI (-13))), (0, .ref (g.2.2 37)), (1, .int (iI (d))), (2, .int (iI (wh)))]) hx hb dX12_given_56 rfl hl (by decide) rfl (fun ls hl => ?_)
          refine x_iconst hx hb dX12_given_57 ?_
          refine lv_istore (lv' := [(4, .int (iI (0))), (3, .int (iI (-13))), (0, .ref (g.2.2 37)), (1, .int (iI (d))), (2, .int (iI (wh)))]) hx hb dX12_given_58 hl (by decide) rfl (fun ls hl => ?_)
          have hloop_60 : ∀ (k : Nat) (i : Int) (no : Int), ((105 : Int) - i).toNat < k → (hi0 : 0 ≤ i ∧ i % 3 = 0) → (hi1 : i ≤ 102) → (hnr : inR no) → (hno : (no = 0 ∧ (0 ≤ d ∧ d ≤ 7) ∧ (0 ≤ wh ∧ wh ≤ 1) ∧ zRowR Kp So d 1 = 0 ∧ Sz d % 3 = 0 ∧ Sz d ≤ 24 ∧ ∀ t, 0 ≤ t → 3 * t < i → zGvT (S 0) (zRw El d) t) ∨ (no ≠ 0 ∧ zGivNo Kp So Sz El (S 0) d wh no)) → (hi2 : no = 0 → i ≤ Sz d) → (hsz : no = 0 → 0 ≤ Sz d) → ∀ (ls : Array Slot), lv_has ls 6 [(4, .int (iI (i))), (3, .int (iI (no))), (0, .ref (g.2.2 37)), (1, .int (iI (d))), (2, .int (iI (wh)))] → W p l e (headSpec wsX12_given ({ frames := 7, cells := 0, slots := 0, locals := 224 })).room s m ([.ref (g.2.2 37), .int (iI (d)), .int (iI (wh))] : List Value).toArray below meth c s.heap [] 0 0 (MQ below (x_Qi g A (fun r σ1 => σ1.2 = σ.2 ∧ (∀ j, j ≠ 38 ∧ j ≠ 41 → σ1.1 j = σ.1 j) ∧ zGivenR Kp So Sz El (mK S) (mF S) (mP S) (S 0) (S 1) d wh r ∧ xBack g σ1.1 S)) ([.ref (g.2.2 37), .int (iI (d)), .int (iI (wh))] : List Value).toArray s (0) (0) A) (F0 m 60 ls []) := by
            intro k
            induction k with
            | zero =>
              intros; exact absurd (by assumption) (Nat.not_lt_zero _)
            | succ k ih =>
              intro i no hmeas hi0 hi1 hnr hno hi2 hsz  ls hl
              have ih_22 := ih
              refine lv_iload_n hx hb dX12_given_60 rfl (lv_at hl 1 rfl) ?_
              refine x_if_ne (tgt := 131) hx hb (by omega) dX12_given_61 (by decide) (fun c_61 => ?_) (fun c_61 => ?_)
              · refine lv_iload_n hx hb dX12_given_131 rfl (lv_at hl 1 rfl) ?_
                refine x_if_eq (tgt := 137) hx hb (by omega) dX12_given_132 (by decide) (fun c_132 => ?_) (fun c_132 => ?_)
                · exfalso; omega
                · refine lv_iload_n hx hb dX12_given_135 rfl (lv_at hl 1 rfl) ?_
                  refine x_retQ hx hb hr (by omega) ?_ hP hD hS dX12_given_136 hlocks
                  refine ⟨rfl, hfr, ?_, S, Mi, hs0, h41, zKeep_self hok.1⟩
                  left
                  rcases hno with h | h
                  · omega
                  · exact h.2
              · have hY := hno.resolve_right (fun h => by omega)
                have hk0 := zRowR_0 rfl hY.2.2.2.1
                have hsd := hsh.2.2.2.2.2.2 d hk0.1 hk0.2.1
                refine lv_iload hx hb dX12_given_64 (lv_at hl 0 rfl) ?_
                refine lv_aload_n hx hb dX12_given_66 rfl (lv_at hl 2 rfl) ?_
                refine x_get (C := RX12) (T := TX12) (N := 24) hx hb hts hin_X12 hown hK hP (37) (by decide) hob rfl 6 (by decide) hw_0 (fun _ h9 => h9) rfl dX12_given_67 ?_
                refine lv_iload_n hx hb dX12_given_70 rfl (lv_at hl 3 rfl) ?_
                refine x_iald (f := Sz) hx hb hK hP (44) (by decide) h44 (by omega) (by omega) (by decide) dX12_given_71 ?_
                have hb_23 := hsh.2.2.1 (d)
                refine x_icmp_ge (tgt := 131) hx hb (by omega) (by omega) dX12_given_72 (by decide) (fun c_72 => ?_) (fun c_72 => ?_)
                · refine lv_iload_n hx hb dX12_given_131 rfl (lv_at hl 1 rfl) ?_
                  refine x_if_eq (tgt := 137) hx hb (by omega) dX12_given_132 (by decide) (fun c_132 => ?_) (fun c_132 => ?_)
                  · have hY := hno.resolve_right (fun h => by omega)
                    have hYES : zGivYes Kp So Sz El (S 0) d wh := ⟨hY.2.1, hY.2.2.1, hY.2.2.2.1, hY.2.2.2.2.1, hY.2.2.2.2.2.1, fun t h1 h2 => hY.2.2.2.2.2.2 t h1 (by omega)⟩
                    have hsz3 := hY.2.2.2.2.1
                    have hsz24 := hY.2.2.2.2.2.1
                    refine lv_aload_n hx hb dX12_given_137 rfl (lv_at hl 2 rfl) ?_
                    refine x_cqv0 (va_runV (As := []) (rest := []) ⟨hx, hb, hml, hown, hts⟩ (c_X12_begins l g σ A (ov) S Mi hob hs0 h41) (cwV 0 hts gX12_given_X12_begins rfl rfl rfl (by decide +kernel) ⟨Nat.le_of_ble_eq_true rfl, Nat.le_of_ble_eq_true rfl⟩) (x_preVQ hK hP hD hS hA (x_recv hK hP (i := 37) (by decide) hob rfl)) rfl rfl hl.1 rfl (lv_room (Nat.le_of_ble_eq_true rfl)) dX12_given_138 ⟨by decide, by decide⟩) hS (fun σ1 H locs hpost hP hD hS => ?_)
                    obtain ⟨M_24, p1⟩ := σ1
                    obtain ⟨hp0, hfrc, hnew⟩ := hpost
                    obtain rfl : p1 = σ.2 := hp0
                    have hP : xP g (M_24, σ.2) H := hP
                    have hD : xD g A (M_24, σ.2) := hD
                    have hob : MObj g M_24 ov := (hfrc (37) (by omega)).trans hob
                    have hs0 := (hfrc (38) (by omega)).trans hs0
                    have h42 := (hfrc (42) (by omega)).trans h42
                    have h43 := (hfrc (43) (by omega)).trans h43
                    have h44 := (hfrc (44) (by omega)).trans h44
                    have h45 := (hfrc (45) (by omega)).trans h45
                    have h46 := (hfrc (46) (by omega)).trans h46
                    have h47 := (hfrc (47) (by omega)).trans h47
                    have hfr := x_frc (F := fun j => j ≠ 38 ∧ j ≠ 41) hfr hfrc (fun j h => by have h : j ≠ 38 ∧ j ≠ 41 := h; omega)
                    obtain ⟨Mi_25, hMi_25⟩ : ∃ q : Int → Int, q = zCopy S Mi 29 := ⟨_, rfl⟩
                    have h41 : MArr g M_24 41 29 Mi_25 := by rw [hMi_25]; exact hnew
                    refine x_iconst hx hb dX12_given_141 ?_
                    refine lv_istore (lv' := [(4, .int (iI (0))), (3, .int (iI (no))), (0, .ref (g.2.2 37)), (1, .int (iI (d))), (2, .int (iI (wh)))]) hx hb dX12_given_142 hl (by decide) rfl (fun ls hl => ?_)
                    refine x_iconst hx hb dX12_given_144 ?_
                    refine lv_istore (lv' := [(5, .int (iI (0))), (4, .int (iI (0))), (3, .int (iI (no))), (0, .ref (g.2.2 37)), (1, .int (iI (d))), (2, .int (iI (wh)))]) hx hb dX12_given_145 hl (by decide) rfl (fun ls hl => ?_)
                    have hloop_147 : ∀ (k : Nat) (T : Int → Int) (i2 : Int) (ct : Int), (Sz d - i2).toNat < k → (hj0 : 0 ≤ i2 ∧ i2 % 3 = 0) → (hj1 : i2 ≤ Sz d) → (hct : 0 ≤ ct ∧ ct ≤ i2) → (hTo : SmOk T) → (eT0 : T 0 = S 0) → (eT1 : T 1 = S 1) → (eTK : mK T = mK S) → (eTF : mF T = mF S) → (hst : (mP T, ct) = zGvN (zRw El d) (mP S) (S 0) (i2 / 3).toNat) → ∀ (M : xM) (H : Heap) (locs : List Loc), (hob : M (37) = .inr (12, [.ref (g.2.2 38), .ref (g.2.2 39), .ref (g.2.2 40), .ref (g.2.2 41), .ref (g.2.2 42), .ref (g.2.2 43), .ref (g.2.2 44), .ref (g.2.2 45), .ref (g.2.2 46), .ref (g.2.2 47), .int (iI (ov 10)), .int (iI (ov 11)), .int (iI (ov 12)), .int (iI (ov 13)), .int (iI (ov 14)), .int (iI (ov 15)), .ref (g.2.2 48), .int (iI (ov 17)), .int (iI (ov 18)), .int (iI (ov 19)), .int (iI (ov 20)), .int (iI (ov 21)), .ref (g.2.2 49), .int (iI (ov 23))])) → (hs0 : M (38) = .inl (g.2.1 0, 29, .inl (fun k => iI (T (k : Int))))) → (h42 : M (42) = .inl (g.2.1 0, 8, .inl (fun k => iI (Kp (k : Int))))) → (h43 : M (43) = .inl (g.2.1 0, 8, .inl (fun k => iI (So (k : Int))))) → (h44 : M (44) = .inl (g.2.1 0, 8, .inl (fun k => iI (Sz (k : Int))))) → (h45 : M (45) = .inl (g.2.1 0, 800, .inl (fun k => iI (El (k : Int))))) → (h46 : M (46) = .inl (g.2.1 0, 8, .inl (fun k => iI (KK (k : Int))))) → (h47 : M (47) = .inl (g.2.1 0, 8, .inl (fun k => iI (KF (k : Int))))) → (h41 : M (41) = .inl (g.2.1 0, 29, .inl (fun k => iI (Mi_25 (k : Int))))) → (hfr : ∀ j, (j ≠ 38 ∧ j ≠ 41) → M j = σ.1 j) → xP g (M, σ.2) H → xD g A (M, σ.2) → va_S A s.heap H locs → ∀ (ls : Array Slot), lv_has ls 6 [(5, .int (iI (i2))), (4, .int (iI (ct))), (3, .int (iI (no))), (0, .ref (g.2.2 37)), (1, .int (iI (d))), (2, .int (iI (wh)))] → W p l e (headSpec wsX12_given ({ frames := 7, cells := 0, slots := 0, locals := 224 })).room s m ([.ref (g.2.2 37), .int (iI (d)), .int (iI (wh))] : List Value).toArray below meth c H locs 0 0 (MQ below (x_Qi g A (fun r σ1 => σ1.2 = σ.2 ∧ (∀ j, j ≠ 38 ∧ j ≠ 41 → σ1.1 j = σ.1 j) ∧ zGivenR Kp So Sz El (mK S) (mF S) (mP S) (S 0) (S 1) d wh r ∧ xBack g σ1.1 S)) ([.ref (g.2.2 37), .int (iI (d)), .int (iI (wh))] : List Value).toArray s (0) (0) A) (F0 m 147 ls []) := by
                      intro k
                      induction k with
                      | zero =>
                        intros; exact absurd (by assumption) (Nat.not_lt_zero _)
                      | succ k ih =>
                        intro T i2 ct hmeas hj0 hj1 hct hTo eT0 eT1 eTK eTF hst M H locs hob hs0 h42 h43 h44 h45 h46 h47 h41 hfr hP hD hS ls hl
                        have ih_26 := ih
                        refine lv_iload hx hb dX12_given_147 (lv_at hl 0 rfl) ?_
                        refine lv_aload_n hx hb dX12_given_149 rfl (lv_at hl 3 rfl) ?_
                        refine x_get (C := RX12) (T := TX12) (N := 24) hx hb hts hin_X12 hown hK hP (37) (by decide) hob rfl 6 (by decide) hw_0 (fun _ h9 => h9) rfl dX12_given_150 ?_
                        refine lv_iload_n hx hb dX12_given_153 rfl (lv_at hl 4 rfl) ?_
                        refine x_iald (f := Sz) hx hb hK hP (44) (by decide) h44 (by omega) (by omega) (by decide) dX12_given_154 ?_
                        have hb_27 := hsh.2.2.1 (d)
                        refine x_icmp_ge (tgt := 206) hx hb (by omega) (by omega) dX12_given_155 (by decide) (fun c_155 => ?_) (fun c_155 => ?_)
                        · refine lv_aload_n hx hb dX12_given_206 rfl (lv_at hl 3 rfl) ?_
                          refine x_ci (va_runV (As := []) (rest := []) ⟨hx, hb, hml, hown, hts⟩ (c_X12_breachesAll l g (M, σ.2) (ov) T hob hs0 hTo ) (cwV 0 hts gX12_given_X12_breachesAll rfl rfl rfl (by decide +kernel) ⟨Nat.le_of_ble_eq_true rfl, Nat.le_of_ble_eq_true rfl⟩) (x_preV hK hP (x_recv hK hP (i := 37) (by decide) hob rfl)) rfl rfl hl.1 rfl (lv_room (Nat.le_of_ble_eq_true rfl)) dX12_given_207 ⟨Nat.le_of_ble_eq_true rfl, Nat.le_of_ble_eq_true rfl⟩) (fun r_207 hr_207 qr_207 => ?_)
                          replace qr_207 : r_207 = zAll (mK T) (mF T) (mP T) (T 0) (T 1) ∧ 0 ≤ r_207 ∧ r_207 ≤ 18 := qr_207
                          refine lv_istore (lv' := [(5, .int (iI (r_207))), (4, .int (iI (ct))), (3, .int (iI (no))), (0, .ref (g.2.2 37)), (1, .int (iI (d))), (2, .int (iI (wh)))]) hx hb dX12_given_210 hl (by decide) rfl (fun ls hl => ?_)
                          refine lv_aload_n hx hb dX12_given_212 rfl (lv_at hl 3 rfl) ?_
                          refine x_cqv0 (va_runV (As := []) (rest := []) ⟨hx, hb, hml, hown, hts⟩ (c_X12_ends l g (M, σ.2) A (ov) T Mi_25 hob hs0 h41) (cwV 0 hts gX12_given_X12_ends rfl rfl rfl (by decide +kernel) ⟨Nat.le_of_ble_eq_true rfl, Nat.le_of_ble_eq_true rfl⟩) (x_preVQ hK hP hD hS hA (x_recv hK hP (i := 37) (by decide) hob rfl)) rfl rfl hl.1 rfl (lv_room (Nat.le_of_ble_eq_true rfl)) dX12_given_213 ⟨by decide, by decide⟩) hS (fun σ1 H locs hpost hP hD hS => ?_)
                          obtain ⟨M_28, p1⟩ := σ1
                          obtain ⟨hp0, hfrc, hnew⟩ := hpost
                          obtain rfl : p1 = σ.2 := hp0
                          have hP : xP g (M_28, σ.2) H := hP
                          have hD : xD g A (M_28, σ.2) := hD
                          have hob : MObj g M_28 ov := (hfrc (37) (by omega)).trans hob
                          have h42 := (hfrc (42) (by omega)).trans h42
                          have h43 := (hfrc (43) (by omega)).trans h43
                          have h44 := (hfrc (44) (by omega)).trans h44
                          have h45 := (hfrc (45) (by omega)).trans h45
                          have h46 := (hfrc (46) (by omega)).trans h46
                          have h47 := (hfrc (47) (by omega)).trans h47
                          have h41 := (hfrc (41) (by omega)).trans h41
                          have hfr := x_frc (F := fun j => j ≠ 38 ∧ j ≠ 41) hfr hfrc (fun j h => by have h : j ≠ 38 ∧ j ≠ 41 := h; omega)
                          obtain ⟨S_29, hS_29⟩ : ∃ q : Int → Int, q = zCopy Mi_25 T 29 := ⟨_, rfl⟩
                          have hs0 : MArr g M_28 38 29 S_29 := by rw [hS_29]; exact hnew
                          refine lv_iload_n hx hb dX12_given_216 rfl (lv_at hl 5 rfl) ?_
                          refine x_if_ne (tgt := 225) hx hb (by omega) dX12_given_217 (by decide) (fun c_217 => ?_) (fun c_217 => ?_)
                          · refine lv_iload hx hb dX12_given_225 (lv_at hl 1 rfl) ?_
                            refine x_retQ hx hb hr (by omega) ?_ hP hD hS dX12_given_227 hlocks
                            refine ⟨rfl, hfr, Or.inr ⟨hYES, ?_⟩, ?_⟩
                            · have ei : i2 = Sz d := by omega
                              rw [ei] at hst
                              unfold zGiven
                              rw [if_neg (by omega), ← hst]
                            · exact ⟨_, _, hs0, h41, zKeep_back hok.1 hTo.1 hMi_25 hS_29⟩
                          · refine lv_iload hx hb dX12_given_220 (lv_at hl 0 rfl) ?_
                            refine lv_goto (tgt := 227) hx hb dX12_given_222 (by decide) ?_
                            refine x_retQ hx hb hr (by omega) ?_ hP hD hS dX12_given_227 hlocks
                            refine ⟨rfl, hfr, Or.inr ⟨hYES, ?_⟩, ?_⟩
                            · have ei : i2 = Sz d := by omega
                              rw [ei] at hst
                              unfold zGiven
                              rw [if_pos (by omega), ← hst]
                              (show r_207 = zAll (mK S) (mF S) (mP T) (S 0) (S 1))
                              rw [qr_207.1, eTK, eTF, eT0, eT1]
                            · exact ⟨_, _, hs0, h41, zKeep_back hok.1 hTo.1 hMi_25 hS_29⟩
                        · refine lv_iload hx hb dX12_given_158 (lv_at hl 1 rfl) ?_
                          refine lv_aload_n hx hb dX12_given_160 rfl (lv_at hl 3 rfl) ?_
                          refine lv_aload_n hx hb dX12_given_161 rfl (lv_at hl 3 rfl) ?_
                          refine lv_iload_n hx hb dX12_given_162 rfl (lv_at hl 4 rfl) ?_
                          refine lv_iload hx hb dX12_given_163 (lv_at hl 0 rfl) ?_
                          refine x_ci (va_runV (As := [.int (iI (d)), .int (iI (i2))]) (rest := [.ref (g.2.2 37), .int (iI (ct))]) ⟨hx, hb, hml, hown, hts⟩ (c_X12_toldAt l g (M, σ.2) (ov) T hob hs0 hTo Kp So Sz El KK KF h42 h43 h44 h45 h46 h47 hsh (d) (by omega) (i2) (by omega)) (cwV 2 hts gX12_given_X12_toldAt rfl rfl rfl (by decide +kernel) ⟨Nat.le_of_ble_eq_true rfl, Nat.le_of_ble_eq_true rfl⟩) (x_preV hK hP (x_recv hK hP (i := 37) (by decide) hob rfl)) rfl rfl hl.1 rfl (lv_room (Nat.le_of_ble_eq_true rfl)) dX12_given_165 ⟨Nat.le_of_ble_eq_true rfl, Nat.le_of_ble_eq_true rfl⟩) (fun r_165 hr_165 qr_165 => ?_)
                          replace qr_165 : r_165 = El (100 * (d) + (i2)) := qr_165
                          refine lv_aload_n hx hb dX12_given_168 rfl (lv_at hl 3 rfl) ?_
                          refine lv_iload_n hx hb dX12_given_169 rfl (lv_at hl 4 rfl) ?_
                          refine lv_iload hx hb dX12_given_170 (lv_at hl 0 rfl) ?_
                          refine x_iconst hx hb dX12_given_172 ?_
                          refine x_iadd hx hb dX12_given_173 ?_
                          refine x_ci (va_runV (As := [.int (iI (d)), .int (iI (i2 + 1))]) (rest := [.int (iI (r_165)), .ref (g.2.2 37), .int (iI (ct))]) ⟨hx, hb, hml, hown, hts⟩ (c_X12_toldAt l g (M, σ.2) (ov) T hob hs0 hTo Kp So Sz El KK KF h42 h43 h44 h45 h46 h47 hsh (d) (by omega) (i2 + 1) (by omega)) (cwV 2 hts gX12_given_X12_toldAt rfl rfl rfl (by decide +kernel) ⟨Nat.le_of_ble_eq_true rfl, Nat.le_of_ble_eq_true rfl⟩) (x_preV hK hP (x_recv hK hP (i := 37) (by decide) hob rfl)) rfl rfl hl.1 rfl (lv_room (Nat.le_of_ble_eq_true rfl)) dX12_given_174 ⟨Nat.le_of_ble_eq_true rfl, Nat.le_of_ble_eq_true rfl⟩) (fun r_174 hr_174 qr_174 => ?_)
                          replace qr_174 : r_174 = El (100 * (d) + (i2 + 1)) := qr_174
                          refine lv_aload_n hx hb dX12_given_177 rfl (lv_at hl 3 rfl) ?_
                          refine lv_iload_n hx hb dX12_given_178 rfl (lv_at hl 4 rfl) ?_
                          refine lv_iload hx hb dX12_given_179 (lv_at hl 0 rfl) ?_
                          refine x_iconst hx hb dX12_given_181 ?_
                          refine x_iadd hx hb dX12_given_182 ?_
                          refine x_ci (va_runV (As := [.int (iI (d)), .int (iI (i2 + 2))]) (rest := [.int (iI (r_174)), .int (iI (r_165)), .ref (g.2.2 37), .int (iI (ct))]) ⟨hx, hb, hml, hown, hts⟩ (c_X12_toldAt l g (M, σ.2) (ov) T hob hs0 hTo Kp So Sz El KK KF h42 h43 h44 h45 h46 h47 hsh (d) (by omega) (i2 + 2) (by omega)) (cwV 2 hts gX12_given_X12_toldAt rfl rfl rfl (by decide +kernel) ⟨Nat.le_of_ble_eq_true rfl, Nat.le_of_ble_eq_true rfl⟩) (x_preV hK hP (x_recv hK hP (i := 37) (by decide) hob rfl)) rfl rfl hl.1 rfl (lv_room (Nat.le_of_ble_eq_true rfl)) dX12_given_183 ⟨Nat.le_of_ble_eq_true rfl, Nat.le_of_ble_eq_true rfl⟩) (fun r_183 hr_183 qr_183 => ?_)
                          replace qr_183 : r_183 = El (100 * (d) + (i2 + 2)) := qr_183
                          refine x_cqi0 (va_runV (As := [.int (iI (r_165)), .int (iI (r_174)), .int (iI (r_183))]) (rest := [.int (iI (ct))]) ⟨hx, hb, hml, hown, hts⟩ (c_X12_givesIf l g (M, σ.2) A (ov) T hob hs0 hTo (r_165) (by omega) (r_174) (by omega) (r_183) (by omega)) (cwV 3 hts gX12_given_X12_givesIf rfl rfl rfl (by decide +kernel) ⟨Nat.le_of_ble_eq_true rfl, Nat.le_of_ble_eq_true rfl⟩) (x_preVQ hK hP hD hS hA (x_recv hK hP (i := 37) (by decide) hob rfl)) rfl rfl hl.1 rfl (lv_room (Nat.le_of_ble_eq_true rfl)) dX12_given_186 ⟨by decide, by decide⟩) hS (fun r_186 σ1 H locs hr_186 hpost hP hD hS => ?_)
                          obtain ⟨M_30, p1⟩ := σ1
                          obtain ⟨hp0, hfrc, qr_186, hnew⟩ := hpost
                          obtain rfl : p1 = σ.2 := hp0
                          have hP : xP g (M_30, σ.2) H := hP
                          have hD : xD g A (M_30, σ.2) := hD
                          have hob : MObj g M_30 ov := (hfrc (37) (by omega)).trans hob
                          have h42 := (hfrc (42) (by omega)).trans h42
                          have h43 := (hfrc (43) (by omega)).trans h43
                          have h44 := (hfrc (44) (by omega)).trans h44
                          have h45 := (hfrc (45) (by omega)).trans h45
                          have h46 := (hfrc (46) (by omega)).trans h46
                          have h47 := (hfrc (47) (by omega)).trans h47
                          have h41 := (hfrc (41) (by omega)).trans h41
                          have hfr := x_frc (F := fun j => j ≠ 38 ∧ j ≠ 41) hfr hfrc (fun j h => by have h : j ≠ 38 ∧ j ≠ 41 := h; omega)
                          obtain ⟨S_31, hS_31⟩ : ∃ q : Int → Int, q = (if zGiftR (mP T) (T 0) (r_165) (r_174) (r_183) = 0 then zGives T (r_165) (r_174) (r_183) else T) := ⟨_, rfl⟩
                          have hs0 : MArr g M_30 38 29 S_31 := by rw [hS_31]; exact hnew
                          have oS_31 : SmOk S_31 := by rw [hS_31]; exact SmOk_givesIf hTo
                          have pS_31 := oS_31.2.1
                          refine x_if_eq (tgt := 196) hx hb (by omega) dX12_given_189 (by decide) (fun c_189 => ?_) (fun c_189 => ?_)
                          · refine x_iconst hx hb dX12_given_196 ?_
                            refine x_iadd hx hb dX12_given_197 ?_
                            refine lv_istore (lv' := [(4, .int (iI (ct + 0))), (5, .int (iI (i2))), (3, .int (iI (no))), (0, .ref (g.2.2 37)), (1, .int (iI (d))), (2, .int (iI (wh)))]) hx hb dX12_given_198 hl (by decide) rfl (fun ls hl => ?_)
                            refine x_iinc (k0 := 1) (lv' := [(5, .int (iI (i2 + 3))), (4, .int (iI (ct + 0))), (3, .int (iI (no))), (0, .ref (g.2.2 37)), (1, .int (iI (d))), (2, .int (iI (wh)))]) hx hb dX12_given_200 hl rfl (by decide) rfl (fun ls hl => ?_)
                            refine lv_goto (tgt := 147) hx hb dX12_given_203 (by decide) ?_
                            have zz := zGvIf_all (S := T) (a := r_165) (b := r_174) (c := r_183)
                            unfold zGvIf at zz
                            rw [← hS_31] at zz
                            exact ih_26 (S_31) (i2 + 3) (ct + 0) (by omega) (by omega) (by omega) (by omega) (by assumption) (by exact zz.2.2.2.1.trans eT0) (by exact zz.2.2.2.2.trans eT1) (by exact zz.2.1.trans eTK) (by exact zz.2.2.1.trans eTF) (by rw [zGvN_succ _ _ _ hj0.1 hj0.2, ← hst]; rw [zz.1, eT0, qr_165, qr_174, qr_183]; rw [eT0, qr_165, qr_174, qr_183] at qr_186; (show _ = (if zGiftR (mP T) (S 0) (El (100 * d + i2)) (El (100 * d + (i2 + 1))) (El (100 * d + (i2 + 2))) = 0 then (zGift (mP T) (El (100 * d + i2)) (El (100 * d + (i2 + 1))) (El (100 * d + (i2 + 2))), ct + 1) else (mP T, ct))); first | (rw [if_pos (by omega), if_pos (by omega)]; done) | (rw [if_neg (by omega), if_neg (by omega), show ct + 0 = ct by omega]; done)) (M_30) _ _ hob hs0 h42 h43 h44 h45 h46 h47 h41 hfr hP hD hS ls (lv_sub hl [0, 1, 2, 3, 4, 5] rfl)
                          · refine x_iconst hx hb dX12_given_192 ?_
                            refine lv_goto (tgt := 197) hx hb dX12_given_193 (by decide) ?_
                            refine x_iadd hx hb dX12_given_197 ?_
                            refine lv_istore (lv' := [(4, .int (iI (ct + 1))), (5, .int (iI (i2))), (3, .int (iI (no))), (0, .ref (g.2.2 37)), (1, .int (iI (d))), (2, .int (iI (wh)))]) hx hb dX12_given_198 hl (by decide) rfl (fun ls hl => ?_)
                            refine x_iinc (k0 := 1) (lv' := [(5, .int (iI (i2 + 3))), (4, .int (iI (ct + 1))), (3, .int (iI (no))), (0, .ref (g.2.2 37)), (1, .int (iI (d))), (2, .int (iI (wh)))]) hx hb dX12_given_200 hl rfl (by decide) rfl (fun ls hl => ?_)
                            refine lv_goto (tgt := 147) hx hb dX12_given_203 (by decide) ?_
                            have zz := zGvIf_all (S := T) (a := r_165) (b := r_174) (c := r_183)
                            unfold zGvIf at zz
                            rw [← hS_31] at zz
                            exact ih_26 (S_31) (i2 + 3) (ct + 1) (by omega) (by omega) (by omega) (by omega) (by assumption) (by exact zz.2.2.2.1.trans eT0) (by exact zz.2.2.2.2.trans eT1) (by exact zz.2.1.trans eTK) (by exact zz.2.2.1.trans eTF) (by rw [zGvN_succ _ _ _ hj0.1 hj0.2, ← hst]; rw [zz.1, eT0, qr_165, qr_174, qr_183]; rw [eT0, qr_165, qr_174, qr_183] at qr_186; (show _ = (if zGiftR (mP T) (S 0) (El (100 * d + i2)) (El (100 * d + (i2 + 1))) (El (100 * d + (i2 + 2))) = 0 then (zGift (mP T) (El (100 * d + i2)) (El (100 * d + (i2 + 1))) (El (100 * d + (i2 + 2))), ct + 1) else (mP T, ct))); first | (rw [if_pos (by omega), if_pos (by omega)]; done) | (rw [if_neg (by omega), if_neg (by omega), show ct + 0 = ct by omega]; done)) (M_30) _ _ hob hs0 h42 h43 h44 h45 h46 h47 h41 hfr hP hD hS ls (lv_sub hl [0, 1, 2, 3, 4, 5] rfl)
                    exact hloop_147 (((Sz d - (0)).toNat) + 1) (S) (0) (0) (by omega) (by omega) (by omega) (by omega) (by exact hok) (by rfl) (by rfl) (by rfl) (by rfl) (by rfl) (M_24) _ _ hob hs0 h42 h43 h44 h45 h46 h47 h41 hfr hP hD hS ls (lv_sub hl [0, 1, 2, 3, 4, 5] rfl)
                  · exfalso; omega
                · refine lv_aload_n hx hb dX12_given_75 rfl (lv_at hl 2 rfl) ?_
                  refine lv_aload_n hx hb dX12_given_76 rfl (lv_at hl 2 rfl) ?_
                  refine lv_iload_n hx hb dX12_given_77 rfl (lv_at hl 3 rfl) ?_
                  refine lv_iload hx hb dX12_given_78 (lv_at hl 0 rfl) ?_
                  refine x_ci (va_runV (As := [.int (iI (d)), .int (iI (i))]) (rest := [.ref (g.2.2 37)]) ⟨hx, hb, hml, hown, hts⟩ (c_X12_toldAt l g σ (ov) S hob hs0 hok Kp So Sz El KK KF h42 h43 h44 h45 h46 h47 hsh (d) (by omega) (i) (by omega)) (cwV 2 hts gX12_given_X12_toldAt rfl rfl rfl (by decide +kernel) ⟨Nat.le_of_ble_eq_true rfl, Nat.le_of_ble_eq_true rfl⟩) (x_preV hK hP (x_recv hK hP (i := 37) (by decide) hob rfl)) rfl rfl hl.1 rfl (lv_room (Nat.le_of_ble_eq_true rfl)) dX12_given_80 ⟨Nat.le_of_ble_eq_true rfl, Nat.le_of_ble_eq_true rfl⟩) (fun r_80 hr_80 qr_80 => ?_)
                  replace qr_80 : r_80 = El (100 * (d) + (i)) := qr_80
                  refine lv_aload_n hx hb dX12_given_83 rfl (lv_at hl 2 rfl) ?_
                  refine lv_iload_n hx hb dX12_given_84 rfl (lv_at hl 3 rfl) ?_
                  refine lv_iload hx hb dX12_given_85 (lv_at hl 0 rfl) ?_
                  refine x_iconst hx hb dX12_given_87 ?_
                  refine x_iadd hx hb dX12_given_88 ?_
                  refine x_ci (va_runV (As := [.int (iI (d)), .int (iI (i + 1))]) (rest := [.int (iI (r_80)), .ref (g.2.2 37)]) ⟨hx, hb, hml, hown, hts⟩ (c_X12_toldAt l g σ (ov) S hob hs0 hok Kp So Sz El KK KF h42 h43 h44 h45 h46 h47 hsh (d) (by omega) (i + 1) (by omega)) (cwV 2 hts gX12_given_X12_toldAt rfl rfl rfl (by decide +kernel) ⟨Nat.le_of_ble_eq_true rfl, Nat.le_of_ble_eq_true rfl⟩) (x_preV hK hP (x_recv hK hP (i := 37) (by decide) hob rfl)) rfl rfl hl.1 rfl (lv_room (Nat.le_of_ble_eq_true rfl)) dX12_given_89 ⟨Nat.le_of_ble_eq_true rfl, Nat.le_of_ble_eq_true rfl⟩) (fun r_89 hr_89 qr_89 => ?_)
                  replace qr_89 : r_89 = El (100 * (d) + (i + 1)) := qr_89
                  refine x_ci (va_runV (As := [.int (iI (r_80)), .int (iI (r_89))]) (rest := []) ⟨hx, hb, hml, hown, hts⟩ (c_X12_areTwo l g σ (ov) S hob hs0 hok (r_80) (by omega) (r_89) (by omega)) (cwV 2 hts gX12_given_X12_areTwo rfl rfl rfl (by decide +kernel) ⟨Nat.le_of_ble_eq_true rfl, Nat.le_of_ble_eq_true rfl⟩) (x_preV hK hP (x_recv hK hP (i := 37) (by decide) hob rfl)) rfl rfl hl.1 rfl (lv_room (Nat.le_of_ble_eq_true rfl)) dX12_given_92 ⟨Nat.le_of_ble_eq_true rfl, Nat.le_of_ble_eq_true rfl⟩) (fun r_92 hr_92 qr_92 => ?_)
                  replace qr_92 : (r_92 = 1 ∧ (0 ≤ (r_80) ∧ (r_80) < S 0 ∧ 0 ≤ (r_89) ∧ (r_89) < S 0 ∧ (r_80) ≠ (r_89))) ∨ (r_92 = 0 ∧ ¬ (0 ≤ (r_80) ∧ (r_80) < S 0 ∧ 0 ≤ (r_89) ∧ (r_89) < S 0 ∧ (r_80) ≠ (r_89))) := qr_92
                  refine x_if_eq (tgt := 122) hx hb (by omega) dX12_given_95 (by decide) (fun c_95 => ?_) (fun c_95 => ?_)
                  · refine x_bipush (n := -13) hx hb (by decide +kernel) dX12_given_122 ?_
                    refine lv_istore_n (lv' := [(3, .int (iI (-13))), (4, .int (iI (i))), (0, .ref (g.2.2 37)), (1, .int (iI (d))), (2, .int (iI (wh)))]) hx hb dX12_given_124 rfl hl (by decide) rfl (fun ls hl => ?_)
                    refine x_iinc (k0 := 1) (lv' := [(4, .int (iI (i + 3))), (3, .int (iI (-13))), (0, .ref (g.2.2 37)), (1, .int (iI (d))), (2, .int (iI (wh)))]) hx hb dX12_given_125 hl rfl (by decide) rfl (fun ls hl => ?_)
                    refine lv_goto (tgt := 60) hx hb dX12_given_128 (by decide) ?_
                    exact ih_22 (i + 3) (-13) (by omega) (by omega) (by omega) (by omega) (by first | exact Or.inl ⟨rfl, hY.2.1, hY.2.2.1, hY.2.2.2.1, hY.2.2.2.2.1, hY.2.2.2.2.2.1, fun t h1 h2 => by by_cases e : t = i / 3; (subst e; unfold zGvT zRw; rw [show 3 * (i / 3) = i by omega]; omega); exact hY.2.2.2.2.2.2 t h1 (by omega)⟩ | exact Or.inr ⟨by omega, Or.inr (Or.inr ⟨hY.2.1, hY.2.2.1, hY.2.2.2.1, fun h => by have h1 := h.2.2 (i / 3) (by omega) (by omega); unfold zGvT zRw at h1; rw [show 3 * (i / 3) = i by omega] at h1; omega, rfl⟩)⟩) (by omega) (by omega) ls (lv_sub hl [0, 1, 2, 3, 4] rfl)
                  · refine lv_aload_n hx hb dX12_given_98 rfl (lv_at hl 2 rfl) ?_
                    refine lv_iload_n hx hb dX12_given_99 rfl (lv_at hl 3 rfl) ?_
                    refine lv_iload hx hb dX12_given_100 (lv_at hl 0 rfl) ?_
                    refine x_iconst hx hb dX12_given_102 ?_
                    refine x_iadd hx hb dX12_given_103 ?_
                    refine x_ci (va_runV (As := [.int (iI (d)), .int (iI (i + 2))]) (rest := []) ⟨hx, hb, hml, hown, hts⟩ (c_X12_toldAt l g σ (ov) S hob hs0 hok Kp So Sz El KK KF h42 h43 h44 h45 h46 h47 hsh (d) (by omega) (i + 2) (by omega)) (cwV 2 hts gX12_given_X12_toldAt rfl rfl rfl (by decide +kernel) ⟨Nat.le_of_ble_eq_true rfl, Nat.le_of_ble_eq_true rfl⟩) (x_preV hK hP (x_recv hK hP (i := 37) (by decide) hob rfl)) rfl rfl hl.1 rfl (lv_room (Nat.le_of_ble_eq_true rfl)) dX12_given_104 ⟨Nat.le_of_ble_eq_true rfl, Nat.le_of_ble_eq_true rfl⟩) (fun r_104 hr_104 qr_104 => ?_)
                    replace qr_104 : r_104 = El (100 * (d) + (i + 2)) := qr_104
                    refine x_i2l hx hb (by omega) dX12_given_107 ?_
                    refine x_lconst (z := 1) hx hb (by decide +kernel) dX12_given_108 ?_
                    refine x_ldc2 (z := 9999) hx hb hown hw_2 (by decide +kernel) dX12_given_109 ?_
                    refine x_ci (va_runS (As := [.long (jL (r_104)), .long (jL (1)), .long (jL (9999))]) (rest := []) ⟨hx, hb, hml, hown, hts⟩ (c_X12_isIn l g σ (r_104) (by omega) (1) (by omega) (9999) (by omega)) (va_cwS 3 hts gX12_given_X12_isIn rfl rfl rfl (by decide +kernel) ⟨Nat.le_of_ble_eq_true rfl, Nat.le_of_ble_eq_true rfl⟩) (x_preS hK hP) rfl rfl hl.1 rfl (lv_room (Nat.le_of_ble_eq_true rfl)) dX12_given_112 ⟨Nat.le_of_ble_eq_true rfl, Nat.le_of_ble_eq_true rfl⟩) (fun r_112 hr_112 qr_112 => ?_)
                    replace qr_112 : (r_112 = 1 ∧ (1) ≤ (r_104) ∧ (r_104) ≤ (9999)) ∨ (r_112 = 0 ∧ ¬ ((1) ≤ (r_104) ∧ (r_104) ≤ (9999))) := qr_112
                    refine x_if_eq (tgt := 122) hx hb (by omega) dX12_given_115 (by decide) (fun c_115 => ?_) (fun c_115 => ?_)
                    · refine x_bipush (n := -13) hx hb (by decide +kernel) dX12_given_122 ?_
                      refine lv_istore_n (lv' := [(3, .int (iI (-13))), (4, .int (iI (i))), (0, .ref (g.2.2 37)), (1, .int (iI (d))), (2, .int (iI (wh)))]) hx hb dX12_given_124 rfl hl (by decide) rfl (fun ls hl => ?_)
                      refine x_iinc (k0 := 1) (lv' := [(4, .int (iI (i + 3))), (3, .int (iI (-13))), (0, .ref (g.2.2 37)), (1, .int (iI (d))), (2, .int (iI (wh)))]) hx hb dX12_given_125 hl rfl (by decide) rfl (fun ls hl => ?_)
                      refine lv_goto (tgt := 60) hx hb dX12_given_128 (by decide) ?_
                      exact ih_22 (i + 3) (-13) (by omega) (by omega) (by omega) (by omega) (by first | exact Or.inl ⟨rfl, hY.2.1, hY.2.2.1, hY.2.2.2.1, hY.2.2.2.2.1, hY.2.2.2.2.2.1, fun t h1 h2 => by by_cases e : t = i / 3; (subst e; unfold zGvT zRw; rw [show 3 * (i / 3) = i by omega]; omega); exact hY.2.2.2.2.2.2 t h1 (by omega)⟩ | exact Or.inr ⟨by omega, Or.inr (Or.inr ⟨hY.2.1, hY.2.2.1, hY.2.2.2.1, fun h => by have h1 := h.2.2 (i / 3) (by omega) (by omega); unfold zGvT zRw at h1; rw [show 3 * (i / 3) = i by omega] at h1; omega, rfl⟩)⟩) (by omega) (by omega) ls (lv_sub hl [0, 1, 2, 3, 4] rfl)
                    · refine x_iconst hx hb dX12_given_118 ?_
                      refine lv_goto (tgt := 124) hx hb dX12_given_119 (by decide) ?_
                      refine lv_istore_n (lv' := [(3, .int (iI (0))), (4, .int (iI (i))), (0, .ref (g.2.2 37)), (1, .int (iI (d))), (2, .int (iI (wh)))]) hx hb dX12_given_124 rfl hl (by decide) rfl (fun ls hl => ?_)
                      refine x_iinc (k0 := 1) (lv' := [(4, .int (iI (i + 3))), (3, .int (iI (0))), (0, .ref (g.2.2 37)), (1, .int (iI (d))), (2, .int (iI (wh)))]) hx hb dX12_given_125 hl rfl (by decide) rfl (fun ls hl => ?_)
                      refine lv_goto (tgt := 60) hx hb dX12_given_128 (by decide) ?_
                      exact ih_22 (i + 3) (0) (by omega) (by omega) (by omega) (by omega) (by first | exact Or.inl ⟨rfl, hY.2.1, hY.2.2.1, hY.2.2.2.1, hY.2.2.2.2.1, hY.2.2.2.2.2.1, fun t h1 h2 => by by_cases e : t = i / 3; (subst e; unfold zGvT zRw; rw [show 3 * (i / 3) = i by omega]; omega); exact hY.2.2.2.2.2.2 t h1 (by omega)⟩ | exact Or.inr ⟨by omega, Or.inr (Or.inr ⟨hY.2.1, hY.2.2.1, hY.2.2.2.1, fun h => by have h1 := h.2.2 (i / 3) (by omega) (by omega); unfold zGvT zRw at h1; rw [show 3 * (i / 3) = i by omega] at h1; omega, rfl⟩)⟩) (by omega) (by omega) ls (lv_sub hl [0, 1, 2, 3, 4] rfl)
          exact hloop_60 ((((105 : Int) - (0)).toNat) + 1) (0) ((-13)) (by omega) (by omega) (by omega) (by omega) (by first | exact Or.inl ⟨rfl, by omega, by omega, by omega, by omega, by omega, fun t h1 h2 => by omega⟩ | exact Or.inl ⟨by omega, by omega, by omega, by omega, by omega, by omega, fun t h1 h2 => by omega⟩ | exact Or.inr ⟨by omega, Or.inl ⟨by omega, by omega⟩⟩ | exact Or.inr ⟨by omega, Or.inr (Or.inl ⟨by omega, by omega, by omega, by omega⟩)⟩ | exact Or.inr ⟨by omega, Or.inr (Or.inr ⟨by omega, by omega, by omega, fun h => by have h1 := h.1; have h2 := h.2.1; omega, by omega⟩)⟩) (by omega) (by omega) ls (lv_sub hl [0, 1, 2, 3, 4] rfl)
        · refine lv_aload_n hx hb dX12_given_43 rfl (lv_at hl 1 rfl) ?_
          refine x_get (C := RX12) (T := TX12) (N := 24) hx hb hts hin_X12 hown hK hP (37) (by decide) hob rfl 6 (by decide) hw_0 (fun _ h9 => h9) rfl dX12_given_44 ?_
          refine lv_iload_n hx hb dX12_given_47 rfl (lv_at hl 2 rfl) ?_
          refine x_iald (f := Sz) hx hb hK hP (44) (by decide) h44 (by omega) (by omega) (by decide) dX12_given_48 ?_
          have hb_32 := hsh.2.2.1 (d)
          refine x_bipush (n := 24) hx hb (by decide +kernel) dX12_given_49 ?_
          refine x_icmp_le (tgt := 57) hx hb (by omega) (by omega) dX12_given_51 (by decide) (fun c_51 => ?_) (fun c_51 => ?_)
          · refine x_iconst hx hb dX12_given_57 ?_
            refine lv_istore (lv' := [(4, .int (iI (0))), (3, .int (iI (r_24))), (0, .ref (g.2.2 37)), (1, .int (iI (d))), (2, .int (iI (wh)))]) hx hb dX12_given_58 hl (by decide) rfl (fun ls hl => ?_)
            have hloop_60 : ∀ (k : Nat) (i : Int) (no : Int), ((105 : Int) - i).toNat < k → (hi0 : 0 ≤ i ∧ i % 3 = 0) → (hi1 : i ≤ 102) → (hnr : inR no) → (hno : (no = 0 ∧ (0 ≤ d ∧ d ≤ 7) ∧ (0 ≤ wh ∧ wh ≤ 1) ∧ zRowR Kp So d 1 = 0 ∧ Sz d % 3 = 0 ∧ Sz d ≤ 24 ∧ ∀ t, 0 ≤ t → 3 * t < i → zGvT (S 0) (zRw El d) t) ∨ (no ≠ 0 ∧ zGivNo Kp So Sz El (S 0) d wh no)) → (hi2 : no = 0 → i ≤ Sz d) → (hsz : no = 0 → 0 ≤ Sz d) → ∀ (ls : Array Slot), lv_has ls 6 [(4, .int (iI (i))), (3, .int (iI (no))), (0, .ref (g.2.2 37)), (1, .int (iI (d))), (2, .int (iI (wh)))] → W p l e (headSpec wsX12_given ({ frames := 7, cells := 0, slots := 0, locals := 224 })).room s m ([.ref (g.2.2 37), .int (iI (d)), .int (iI (wh))] : List Value).toArray below meth c s.heap [] 0 0 (MQ below (x_Qi g A (fun r σ1 => σ1.2 = σ.2 ∧ (∀ j, j ≠ 38 ∧ j ≠ 41 → σ1.1 j = σ.1 j) ∧ zGivenR Kp So Sz El (mK S) (mF S) (mP S) (S 0) (S 1) d wh r ∧ xBack g σ1.1 S)) ([.ref (g.2.2 37), .int (iI (d)), .int (iI (wh))] : List Value).toArray s (0) (0) A) (F0 m 60 ls []) := by
              intro k
              induction k with
              | zero =>
                intros; exact absurd (by assumption) (Nat.not_lt_zero _)
              | succ k ih =>
                intro i no hmeas hi0 hi1 hnr hno hi2 hsz  ls hl
                have ih_33 := ih
                refine lv_iload_n hx hb dX12_given_60 rfl (lv_at hl 1 rfl) ?_
                refine x_if_ne (tgt := 131) hx hb (by omega) dX12_given_61 (by decide) (fun c_61 => ?_) (fun c_61 => ?_)
                · refine lv_iload_n hx hb dX12_given_131 rfl (lv_at hl 1 rfl) ?_
                  refine x_if_eq (tgt := 137) hx hb (by omega) dX12_given_132 (by decide) (fun c_132 => ?_) (fun c_132 => ?_)
                  · exfalso; omega
                  · refine lv_iload_n hx hb dX12_given_135 rfl (lv_at hl 1 rfl) ?_
                    refine x_retQ hx hb hr (by omega) ?_ hP hD hS dX12_given_136 hlocks
                    refine ⟨rfl, hfr, ?_, S, Mi, hs0, h41, zKeep_self hok.1⟩
                    left
                    rcases hno with h | h
                    · omega
                    · exact h.2
                · have hY := hno.resolve_right (fun h => by omega)
                  have hk0 := zRowR_0 rfl hY.2.2.2.1
                  have hsd := hsh.2.2.2.2.2.2 d hk0.1 hk0.2.1
                  refine lv_iload hx hb dX12_given_64 (lv_at hl 0 rfl) ?_
                  refine lv_aload_n hx hb dX12_given_66 rfl (lv_at hl 2 rfl) ?_
                  refine x_get (C := RX12) (T := TX12) (N := 24) hx hb hts hin_X12 hown hK hP (37) (by decide) hob rfl 6 (by decide) hw_0 (fun _ h9 => h9) rfl dX12_given_67 ?_
                  refine lv_iload_n hx hb dX12_given_70 rfl (lv_at hl 3 rfl) ?_
                  refine x_iald (f := Sz) hx hb hK hP (44) (by decide) h44 (by omega) (by omega) (by decide) dX12_given_71 ?_
                  have hb_34 := hsh.2.2.1 (d)
                  refine x_icmp_ge (tgt := 131) hx hb (by omega) (by omega) dX12_given_72 (by decide) (fun c_72 => ?_) (fun c_72 => ?_)
                  · refine lv_iload_n hx hb dX12_given_131 rfl (lv_at hl 1 rfl) ?_
                    refine x_if_eq (tgt := 137) hx hb (by omega) dX12_given_132 (by decide) (fun c_132 => ?_) (fun c_132 => ?_)
                    · have hY := hno.resolve_right (fun h => by omega)
                      have hYES : zGivYes Kp So Sz El (S 0) d wh := ⟨hY.2.1, hY.2.2.1, hY.2.2.2.1, hY.2.2.2.2.1, hY.2.2.2.2.2.1, fun t h1 h2 => hY.2.2.2.2.2.2 t h1 (by omega)⟩
                      have hsz3 := hY.2.2.2.2.1
                      have hsz24 := hY.2.2.2.2.2.1
                      refine lv_aload_n hx hb dX12_given_137 rfl (lv_at hl 2 rfl) ?_
                      refine x_cqv0 (va_runV (As := []) (rest := []) ⟨hx, hb, hml, hown, hts⟩ (c_X12_begins l g σ A (ov) S Mi hob hs0 h41) (cwV 0 hts gX12_given_X12_begins rfl rfl rfl (by decide +kernel) ⟨Nat.le_of_ble_eq_true rfl, Nat.le_of_ble_eq_true rfl⟩) (x_preVQ hK hP hD hS hA (x_recv hK hP (i := 37) (by decide) hob rfl)) rfl rfl hl.1 rfl (lv_room (Nat.le_of_ble_eq_true rfl)) dX12_given_138 ⟨by decide, by decide⟩) hS (fun σ1 H locs hpost hP hD hS => ?_)
                      obtain ⟨M_35, p1⟩ := σ1
                      obtain ⟨hp0, hfrc, hnew⟩ := hpost
                      obtain rfl : p1 = σ.2 := hp0
                      have hP : xP g (M_35, σ.2) H := hP
                      have hD : xD g A (M_35, σ.2) := hD
                      have hob : MObj g M_35 ov := (hfrc (37) (by omega)).trans hob
                      have hs0 := (hfrc (38) (by omega)).trans hs0
                      have h42 := (hfrc (42) (by omega)).trans h42
                      have h43 := (hfrc (43) (by omega)).trans h43
                      have h44 := (hfrc (44) (by omega)).trans h44
                      have h45 := (hfrc (45) (by omega)).trans h45
                      have h46 := (hfrc (46) (by omega)).trans h46
                      have h47 := (hfrc (47) (by omega)).trans h47
                      have hfr := x_frc (F := fun j => j ≠ 38 ∧ j ≠ 41) hfr hfrc (fun j h => by have h : j ≠ 38 ∧ j ≠ 41 := h; omega)
                      obtain ⟨Mi_36, hMi_36⟩ : ∃ q : Int → Int, q = zCopy S Mi 29 := ⟨_, rfl⟩
                      have h41 : MArr g M_35 41 29 Mi_36 := by rw [hMi_36]; exact hnew
                      refine x_iconst hx hb dX12_given_141 ?_
                      refine lv_istore (lv' := [(4, .int (iI (0))), (3, .int (iI (no))), (0, .ref (g.2.2 37)), (1, .int (iI (d))), (2, .int (iI (wh)))]) hx hb dX12_given_142 hl (by decide) rfl (fun ls hl => ?_)
                      refine x_iconst hx hb dX12_given_144 ?_
                      refine lv_istore (lv' := [(5, .int (iI (0))), (4, .int (iI (0))), (3, .int (iI (no))), (0, .ref (g.2.2 37)), (1, .int (iI (d))), (2, .int (iI (wh)))]) hx hb dX12_given_145 hl (by decide) rfl (fun ls hl => ?_)
                      have hloop_147 : ∀ (k : Nat) (T : Int → Int) (i2 : Int) (ct : Int), (Sz d - i2).toNat < k → (hj0 : 0 ≤ i2 ∧ i2 % 3 = 0) → (hj1 : i2 ≤ Sz d) → (hct : 0 ≤ ct ∧ ct ≤ i2) → (hTo : SmOk T) → (eT0 : T 0 = S 0) → (eT1 : T 1 = S 1) → (eTK : mK T = mK S) → (eTF : mF T = mF S) → (hst : (mP T, ct) = zGvN (zRw El d) (mP S) (S 0) (i2 / 3).toNat) → ∀ (M : xM) (H : Heap) (locs : List Loc), (hob : M (37) = .inr (12, [.ref (g.2.2 38), .ref (g.2.2 39), .ref (g.2.2 40), .ref (g.2.2 41), .ref (g.2.2 42), .ref (g.2.2 43), .ref (g.2.2 44), .ref (g.2.2 45), .ref (g.2.2 46), .ref (g.2.2 47), .int (iI (ov 10)), .int (iI (ov 11)), .int (iI (ov 12)), .int (iI (ov 13)), .int (iI (ov 14)), .int (iI (ov 15)), .ref (g.2.2 48), .int (iI (ov 17)), .int (iI (ov 18)), .int (iI (ov 19)), .int (iI (ov 20)), .int (iI (ov 21)), .ref (g.2.2 49), .int (iI (ov 23))])) → (hs0 : M (38) = .inl (g.2.1 0, 29, .inl (fun k => iI (T (k : Int))))) → (h42 : M (42) = .inl (g.2.1 0, 8, .inl (fun k => iI (Kp (k : Int))))) → (h43 : M (43) = .inl (g.2.1 0, 8, .inl (fun k => iI (So (k : Int))))) → (h44 : M (44) = .inl (g.2.1 0, 8, .inl (fun k => iI (Sz (k : Int))))) → (h45 : M (45) = .inl (g.2.1 0, 800, .inl (fun k => iI (El (k : Int))))) → (h46 : M (46) = .inl (g.2.1 0, 8, .inl (fun k => iI (KK (k : Int))))) → (h47 : M (47) = .inl (g.2.1 0, 8, .inl (fun k => iI (KF (k : Int))))) → (h41 : M (41) = .inl (g.2.1 0, 29, .inl (fun k => iI (Mi_36 (k : Int))))) → (hfr : ∀ j, (j ≠ 38 ∧ j ≠ 41) → M j = σ.1 j) → xP g (M, σ.2) H → xD g A (M, σ.2) → va_S A s.heap H locs → ∀ (ls : Array Slot), lv_has ls 6 [(5, .int (iI (i2))), (4, .int (iI (ct))), (3, .int (iI (no))), (0, .ref (g.2.2 37)), (1, .int (iI (d))), (2, .int (iI (wh)))] → W p l e (headSpec wsX12_given ({ frames := 7, cells := 0, slots := 0, locals := 224 })).room s m ([.ref (g.2.2 37), .int (iI (d)), .int (iI (wh))] : List Value).toArray below meth c H locs 0 0 (MQ below (x_Qi g A (fun r σ1 => σ1.2 = σ.2 ∧ (∀ j, j ≠ 38 ∧ j ≠ 41 → σ1.1 j = σ.1 j) ∧ zGivenR Kp So Sz El (mK S) (mF S) (mP S) (S 0) (S 1) d wh r ∧ xBack g σ1.1 S)) ([.ref (g.2.2 37), .int (iI (d)), .int (iI (wh))] : List Value).toArray s (0) (0) A) (F0 m 147 ls []) := by
                        intro k
                        induction k with
                        | zero =>
                          intros; exact absurd (by assumption) (Nat.not_lt_zero _)
                        | succ k ih =>
                          intro T i2 ct hmeas hj0 hj1 hct hTo eT0 eT1 eTK eTF hst M H locs hob hs0 h42 h43 h44 h45 h46 h47 h41 hfr hP hD hS ls hl
                          have ih_37 := ih
                          refine lv_iload hx hb dX12_given_147 (lv_at hl 0 rfl) ?_
                          refine lv_aload_n hx hb dX12_given_149 rfl (lv_at hl 3 rfl) ?_
                          refine x_get (C := RX12) (T := TX12) (N := 24) hx hb hts hin_X12 hown hK hP (37) (by decide) hob rfl 6 (by decide) hw_0 (fun _ h9 => h9) rfl dX12_given_150 ?_
                          refine lv_iload_n hx hb dX12_given_153 rfl (lv_at hl 4 rfl) ?_
                          refine x_iald (f := Sz) hx hb hK hP (44) (by decide) h44 (by omega) (by omega) (by decide) dX12_given_154 ?_
                          have hb_38 := hsh.2.2.1 (d)
                          refine x_icmp_ge (tgt := 206) hx hb (by omega) (by omega) dX12_given_155 (by decide) (fun c_155 => ?_) (fun c_155 => ?_)
                          · refine lv_aload_n hx hb dX12_given_206 rfl (lv_at hl 3 rfl) ?_
                            refine x_ci (va_runV (As := []) (rest := []) ⟨hx, hb, hml, hown, hts⟩ (c_X12_breachesAll l g (M, σ.2) (ov) T hob hs0 hTo ) (cwV 0 hts gX12_given_X12_breachesAll rfl rfl rfl (by decide +kernel) ⟨Nat.le_of_ble_eq_true rfl, Nat.le_of_ble_eq_true rfl⟩) (x_preV hK hP (x_recv hK hP (i := 37) (by decide) hob rfl)) rfl rfl hl.1 rfl (lv_room (Nat.le_of_ble_eq_true rfl)) dX12_given_207 ⟨Nat.le_of_ble_eq_true rfl, Nat.le_of_ble_eq_true rfl⟩) (fun r_207 hr_207 qr_207 => ?_)
                            replace qr_207 : r_207 = zAll (mK T) (mF T) (mP T) (T 0) (T 1) ∧ 0 ≤ r_207 ∧ r_207 ≤ 18 := qr_207
                            refine lv_istore (lv' := [(5, .int (iI (r_207))), (4, .int (iI (ct))), (3, .int (iI (no))), (0, .ref (g.2.2 37)), (1, .int (iI (d))), (2, .int (iI (wh)))]) hx hb dX12_given_210 hl (by decide) rfl (fun ls hl => ?_)
                            refine lv_aload_n hx hb dX12_given_212 rfl (lv_at hl 3 rfl) ?_
                            refine x_cqv0 (va_runV (As := []) (rest := []) ⟨hx, hb, hml, hown, hts⟩ (c_X12_ends l g (M, σ.2) A (ov) T Mi_36 hob hs0 h41) (cwV 0 hts gX12_given_X12_ends rfl rfl rfl (by decide +kernel) ⟨Nat.le_of_ble_eq_true rfl, Nat.le_of_ble_eq_true rfl⟩) (x_preVQ hK hP hD hS hA (x_recv hK hP (i := 37) (by decide) hob rfl)) rfl rfl hl.1 rfl (lv_room (Nat.le_of_ble_eq_true rfl)) dX12_given_213 ⟨by decide, by decide⟩) hS (fun σ1 H locs hpost hP hD hS => ?_)
                            obtain ⟨M_39, p1⟩ := σ1
                            obtain ⟨hp0, hfrc, hnew⟩ := hpost
                            obtain rfl : p1 = σ.2 := hp0
                            have hP : xP g (M_39, σ.2) H := hP
                            have hD : xD g A (M_39, σ.2) := hD
                            have hob : MObj g M_39 ov := (hfrc (37) (by omega)).trans hob
                            have h42 := (hfrc (42) (by omega)).trans h42
                            have h43 := (hfrc (43) (by omega)).trans h43
                            have h44 := (hfrc (44) (by omega)).trans h44
                            have h45 := (hfrc (45) (by omega)).trans h45
                            have h46 := (hfrc (46) (by omega)).trans h46
                            have h47 := (hfrc (47) (by omega)).trans h47
                            have h41 := (hfrc (41) (by omega)).trans h41
                            have hfr := x_frc (F := fun j => j ≠ 38 ∧ j ≠ 41) hfr hfrc (fun j h => by have h : j ≠ 38 ∧ j ≠ 41 := h; omega)
                            obtain ⟨S_40, hS_40⟩ : ∃ q : Int → Int, q = zCopy Mi_36 T 29 := ⟨_, rfl⟩
                            have hs0 : MArr g M_39 38 29 S_40 := by rw [hS_40]; exact hnew
                            refine lv_iload_n hx hb dX12_given_216 rfl (lv_at hl 5 rfl) ?_
                            refine x_if_ne (tgt := 225) hx hb (by omega) dX12_given_217 (by decide) (fun c_217 => ?_) (fun c_217 => ?_)
                            · refine lv_iload hx hb dX12_given_225 (lv_at hl 1 rfl) ?_
                              refine x_retQ hx hb hr (by omega) ?_ hP hD hS dX12_given_227 hlocks
                              refine ⟨rfl, hfr, Or.inr ⟨hYES, ?_⟩, ?_⟩
                              · have ei : i2 = Sz d := by omega
                                rw [ei] at hst
                                unfold zGiven
                                rw [if_neg (by omega), ← hst]
                              · exact ⟨_, _, hs0, h41, zKeep_back hok.1 hTo.1 hMi_36 hS_40⟩
                            · refine lv_iload hx hb dX12_given_220 (lv_at hl 0 rfl) ?_
                              refine lv_goto (tgt := 227) hx hb dX12_given_222 (by decide) ?_
                              refine x_retQ hx hb hr (by omega) ?_ hP hD hS dX12_given_227 hlocks
                              refine ⟨rfl, hfr, Or.inr ⟨hYES, ?_⟩, ?_⟩
                              · have ei : i2 = Sz d := by omega
                                rw [ei] at hst
                                unfold zGiven
                                rw [if_pos (by omega), ← hst]
                                (show r_207 = zAll (mK S) (mF S) (mP T) (S 0) (S 1))
                                rw [qr_207.1, eTK, eTF, eT0, eT1]
                              · exact ⟨_, _, hs0, h41, zKeep_back hok.1 hTo.1 hMi_36 hS_40⟩
                          · refine lv_iload hx hb dX12_given_158 (lv_at hl 1 rfl) ?_
                            refine lv_aload_n hx hb dX12_given_160 rfl (lv_at hl 3 rfl) ?_
                            refine lv_aload_n hx hb dX12_given_161 rfl (lv_at hl 3 rfl) ?_
                            refine lv_iload_n hx hb dX12_given_162 rfl (lv_at hl 4 rfl) ?_
                            refine lv_iload hx hb dX12_given_163 (lv_at hl 0 rfl) ?_
                            refine x_ci (va_runV (As := [.int (iI (d)), .int (iI (i2))]) (rest := [.ref (g.2.2 37), .int (iI (ct))]) ⟨hx, hb, hml, hown, hts⟩ (c_X12_toldAt l g (M, σ.2) (ov) T hob hs0 hTo Kp So Sz El KK KF h42 h43 h44 h45 h46 h47 hsh (d) (by omega) (i2) (by omega)) (cwV 2 hts gX12_given_X12_toldAt rfl rfl rfl (by decide +kernel) ⟨Nat.le_of_ble_eq_true rfl, Nat.le_of_ble_eq_true rfl⟩) (x_preV hK hP (x_recv hK hP (i := 37) (by decide) hob rfl)) rfl rfl hl.1 rfl (lv_room (Nat.le_of_ble_eq_true rfl)) dX12_given_165 ⟨Nat.le_of_ble_eq_true rfl, Nat.le_of_ble_eq_true rfl⟩) (fun r_165 hr_165 qr_165 => ?_)
                            replace qr_165 : r_165 = El (100 * (d) + (i2)) := qr_165
                            refine lv_aload_n hx hb dX12_given_168 rfl (lv_at hl 3 rfl) ?_
                            refine lv_iload_n hx hb dX12_given_169 rfl (lv_at hl 4 rfl) ?_
                            refine lv_iload hx hb dX12_given_170 (lv_at hl 0 rfl) ?_
                            refine x_iconst hx hb dX12_given_172 ?_
                            refine x_iadd hx hb dX12_given_173 ?_
                            refine x_ci (va_runV (As := [.int (iI (d)), .int (iI (i2 + 1))]) (rest := [.int (iI (r_165)), .ref (g.2.2 37), .int (iI (ct))]) ⟨hx, hb, hml, hown, hts⟩ (c_X12_toldAt l g (M, σ.2) (ov) T hob hs0 hTo Kp So Sz El KK KF h42 h43 h44 h45 h46 h47 hsh (d) (by omega) (i2 + 1) (by omega)) (cwV 2 hts gX12_given_X12_toldAt rfl rfl rfl (by decide +kernel) ⟨Nat.le_of_ble_eq_true rfl, Nat.le_of_ble_eq_true rfl⟩) (x_preV hK hP (x_recv hK hP (i := 37) (by decide) hob rfl)) rfl rfl hl.1 rfl (lv_room (Nat.le_of_ble_eq_true rfl)) dX12_given_174 ⟨Nat.le_of_ble_eq_true rfl, Nat.le_of_ble_eq_true rfl⟩) (fun r_174 hr_174 qr_174 => ?_)
                            replace qr_174 : r_174 = El (100 * (d) + (i2 + 1)) := qr_174
                            refine lv_aload_n hx hb dX12_given_177 rfl (lv_at hl 3 rfl) ?_
                            refine lv_iload_n hx hb dX12_given_178 rfl (lv_at hl 4 rfl) ?_
                            refine lv_iload hx hb dX12_given_179 (lv_at hl 0 rfl) ?_
                            refine x_iconst hx hb dX12_given_181 ?_
                            refine x_iadd hx hb dX12_given_182 ?_
                            refine x_ci (va_runV (As := [.int (iI (d)), .int (iI (i2 + 2))]) (rest := [.int (iI (r_174)), .int (iI (r_165)), .ref (g.2.2 37), .int (iI (ct))]) ⟨hx, hb, hml, hown, hts⟩ (c_X12_toldAt l g (M, σ.2) (ov) T hob hs0 hTo Kp So Sz El KK KF h42 h43 h44 h45 h46 h47 hsh (d) (by omega) (i2 + 2) (by omega)) (cwV 2 hts gX12_given_X12_toldAt rfl rfl rfl (by decide +kernel) ⟨Nat.le_of_ble_eq_true rfl, Nat.le_of_ble_eq_true rfl⟩) (x_preV hK hP (x_recv hK hP (i := 37) (by decide) hob rfl)) rfl rfl hl.1 rfl (lv_room (Nat.le_of_ble_eq_true rfl)) dX12_given_183 ⟨Nat.le_of_ble_eq_true rfl, Nat.le_of_ble_eq_true rfl⟩) (fun r_183 hr_183 qr_183 => ?_)
                            replace qr_183 : r_183 = El (100 * (d) + (i2 + 2)) := qr_183
                            refine x_cqi0 (va_runV (As := [.int (iI (r_165)), .int (iI (r_174)), .int (iI (r_183))]) (rest := [.int (iI (ct))]) ⟨hx, hb, hml, hown, hts⟩ (c_X12_givesIf l g (M, σ.2) A (ov) T hob hs0 hTo (r_165) (by omega) (r_174) (by omega) (r_183) (by omega)) (cwV 3 hts gX12_given_X12_givesIf rfl rfl rfl (by decide +kernel) ⟨Nat.le_of_ble_eq_true rfl, Nat.le_of_ble_eq_true rfl⟩) (x_preVQ hK hP hD hS hA (x_recv hK hP (i := 37) (by decide) hob rfl)) rfl rfl hl.1 rfl (lv_room (Nat.le_of_ble_eq_true rfl)) dX12_given_186 ⟨by decide, by decide⟩) hS (fun r_186 σ1 H locs hr_186 hpost hP hD hS => ?_)
                            obtain ⟨M_41, p1⟩ := σ1
                            obtain ⟨hp0, hfrc, qr_186, hnew⟩ := hpost
                            obtain rfl : p1 = σ.2 := hp0
                            have hP : xP g (M_41, σ.2) H := hP
                            have hD : xD g A (M_41, σ.2) := hD
                            have hob : MObj g M_41 ov := (hfrc (37) (by omega)).trans hob
                            have h42 := (hfrc (42) (by omega)).trans h42
                            have h43 := (hfrc (43) (by omega)).trans h43
                            have h44 := (hfrc (44) (by omega)).trans h44
                            have h45 := (hfrc (45) (by omega)).trans h45
                            have h46 := (hfrc (46) (by omega)).trans h46
                            have h47 := (hfrc (47) (by omega)).trans h47
                            have h41 := (hfrc (41) (by omega)).trans h41
                            have hfr := x_frc (F := fun j => j ≠ 38 ∧ j ≠ 41) hfr hfrc (fun j h => by have h : j ≠ 38 ∧ j ≠ 41 := h; omega)
                            obtain ⟨S_42, hS_42⟩ : ∃ q : Int → Int, q = (if zGiftR (mP T) (T 0) (r_165) (r_174) (r_183) = 0 then zGives T (r_165) (r_174) (r_183) else T) := ⟨_, rfl⟩
                            have hs0 : MArr g M_41 38 29 S_42 := by rw [hS_42]; exact hnew
                            have oS_42 : SmOk S_42 := by rw [hS_42]; exact SmOk_givesIf hTo
                            have pS_42 := oS_42.2.1
                            refine x_if_eq (tgt := 196) hx hb (by omega) dX12_given_189 (by decide) (fun c_189 => ?_) (fun c_189 => ?_)
                            · refine x_iconst hx hb dX12_given_196 ?_
                              refine x_iadd hx hb dX12_given_197 ?_
                              refine lv_istore (lv' := [(4, .int (iI (ct + 0))), (5, .int (iI (i2))), (3, .int (iI (no))), (0, .ref (g.2.2 37)), (1, .int (iI (d))), (2, .int (iI (wh)))]) hx hb dX12_given_198 hl (by decide) rfl (fun ls hl => ?_)
                              refine x_iinc (k0 := 1) (lv' := [(5, .int (iI (i2 + 3))), (4, .int (iI (ct + 0))), (3, .int (iI (no))), (0, .ref (g.2.2 37)), (1, .int (iI (d))), (2, .int (iI (wh)))]) hx hb dX12_given_200 hl rfl (by decide) rfl (fun ls hl => ?_)
                              refine lv_goto (tgt := 147) hx hb dX12_given_203 (by decide) ?_
                              have zz := zGvIf_all (S := T) (a := r_165) (b := r_174) (c := r_183)
                              unfold zGvIf at zz
                              rw [← hS_42] at zz
                              exact ih_37 (S_42) (i2 + 3) (ct + 0) (by omega) (by omega) (by omega) (by omega) (by assumption) (by exact zz.2.2.2.1.trans eT0) (by exact zz.2.2.2.2.trans eT1) (by exact zz.2.1.trans eTK) (by exact zz.2.2.1.trans eTF) (by rw [zGvN_succ _ _ _ hj0.1 hj0.2, ← hst]; rw [zz.1, eT0, qr_165, qr_174, qr_183]; rw [eT0, qr_165, qr_174, qr_183] at qr_186; (show _ = (if zGiftR (mP T) (S 0) (El (100 * d + i2)) (El (100 * d + (i2 + 1))) (El (100 * d + (i2 + 2))) = 0 then (zGift (mP T) (El (100 * d + i2)) (El (100 * d + (i2 + 1))) (El (100 * d + (i2 + 2))), ct + 1) else (mP T, ct))); first | (rw [if_pos (by omega), if_pos (by omega)]; done) | (rw [if_neg (by omega), if_neg (by omega), show ct + 0 = ct by omega]; done)) (M_41) _ _ hob hs0 h42 h43 h44 h45 h46 h47 h41 hfr hP hD hS ls (lv_sub hl [0, 1, 2, 3, 4, 5] rfl)
                            · refine x_iconst hx hb dX12_given_192 ?_
                              refine lv_goto (tgt := 197) hx hb dX12_given_193 (by decide) ?_
                              refine x_iadd hx hb dX12_given_197 ?_
                              refine lv_istore (lv' := [(4, .int (iI (ct + 1))), (5, .int (iI (i2))), (3, .int (iI (no))), (0, .ref (g.2.2 37)), (1, .int (iI (d))), (2, .int (iI (wh)))]) hx hb dX12_given_198 hl (by decide) rfl (fun ls hl => ?_)
                              refine x_iinc (k0 := 1) (lv' := [(5, .int (iI (i2 + 3))), (4, .int (iI (ct + 1))), (3, .int (iI (no))), (0, .ref (g.2.2 37)), (1, .int (iI (d))), (2, .int (iI (wh)))]) hx hb dX12_given_200 hl rfl (by decide) rfl (fun ls hl => ?_)
                              refine lv_goto (tgt := 147) hx hb dX12_given_203 (by decide) ?_
                              have zz := zGvIf_all (S := T) (a := r_165) (b := r_174) (c := r_183)
                              unfold zGvIf at zz
                              rw [← hS_42] at zz
                              exact ih_37 (S_42) (i2 + 3) (ct + 1) (by omega) (by omega) (by omega) (by omega) (by assumption) (by exact zz.2.2.2.1.trans eT0) (by exact zz.2.2.2.2.trans eT1) (by exact zz.2.1.trans eTK) (by exact zz.2.2.1.trans eTF) (by rw [zGvN_succ _ _ _ hj0.1 hj0.2, ← hst]; rw [zz.1, eT0, qr_165, qr_174, qr_183]; rw [eT0, qr_165, qr_174, qr_183] at qr_186; (show _ = (if zGiftR (mP T) (S 0) (El (100 * d + i2)) (El (100 * d + (i2 + 1))) (El (100 * d + (i2 + 2))) = 0 then (zGift (mP T) (El (100 * d + i2)) (El (100 * d + (i2 + 1))) (El (100 * d + (i2 + 2))), ct + 1) else (mP T, ct))); first | (rw [if_pos (by omega), if_pos (by omega)]; done) | (rw [if_neg (by omega), if_neg (by omega), show ct + 0 = ct by omega]; done)) (M_41) _ _ hob hs0 h42 h43 h44 h45 h46 h47 h41 hfr hP hD hS ls (lv_sub hl [0, 1, 2, 3, 4, 5] rfl)
                      exact hloop_147 (((Sz d - (0)).toNat) + 1) (S) (0) (0) (by omega) (by omega) (by omega) (by omega) (by exact hok) (by rfl) (by rfl) (by rfl) (by rfl) (by rfl) (M_35) _ _ hob hs0 h42 h43 h44 h45 h46 h47 h41 hfr hP hD hS ls (lv_sub hl [0, 1, 2, 3, 4, 5] rfl)
                    · exfalso; omega
                  · refine lv_aload_n hx hb dX12_given_75 rfl (lv_at hl 2 rfl) ?_
                    refine lv_aload_n hx hb dX12_given_76 rfl (lv_at hl 2 rfl) ?_
                    refine lv_iload_n hx hb dX12_given_77 rfl (lv_at hl 3 rfl) ?_
                    refine lv_iload hx hb dX12_given_78 (lv_at hl 0 rfl) ?_
                    refine x_ci (va_runV (As := [.int (iI (d)), .int (iI (i))]) (rest := [.ref (g.2.2 37)]) ⟨hx, hb, hml, hown, hts⟩ (c_X12_toldAt l g σ (ov) S hob hs0 hok Kp So Sz El KK KF h42 h43 h44 h45 h46 h47 hsh (d) (by omega) (i) (by omega)) (cwV 2 hts gX12_given_X12_toldAt rfl rfl rfl (by decide +kernel) ⟨Nat.le_of_ble_eq_true rfl, Nat.le_of_ble_eq_true rfl⟩) (x_preV hK hP (x_recv hK hP (i := 37) (by decide) hob rfl)) rfl rfl hl.1 rfl (lv_room (Nat.le_of_ble_eq_true rfl)) dX12_given_80 ⟨Nat.le_of_ble_eq_true rfl, Nat.le_of_ble_eq_true rfl⟩) (fun r_80 hr_80 qr_80 => ?_)
                    replace qr_80 : r_80 = El (100 * (d) + (i)) := qr_80
                    refine lv_aload_n hx hb dX12_given_83 rfl (lv_at hl 2 rfl) ?_
                    refine lv_iload_n hx hb dX12_given_84 rfl (lv_at hl 3 rfl) ?_
                    refine lv_iload hx hb dX12_given_85 (lv_at hl 0 rfl) ?_
                    refine x_iconst hx hb dX12_given_87 ?_
                    refine x_iadd hx hb dX12_given_88 ?_
                    refine x_ci (va_runV (As := [.int (iI (d)), .int (iI (i + 1))]) (rest := [.int (iI (r_80)), .ref (g.2.2 37)]) ⟨hx, hb, hml, hown, hts⟩ (c_X12_toldAt l g σ (ov) S hob hs0 hok Kp So Sz El KK KF h42 h43 h44 h45 h46 h47 hsh (d) (by omega) (i + 1) (by omega)) (cwV 2 hts gX12_given_X12_toldAt rfl rfl rfl (by decide +kernel) ⟨Nat.le_of_ble_eq_true rfl, Nat.le_of_ble_eq_true rfl⟩) (x_preV hK hP (x_recv hK hP (i := 37) (by decide) hob rfl)) rfl rfl hl.1 rfl (lv_room (Nat.le_of_ble_eq_true rfl)) dX12_given_89 ⟨Nat.le_of_ble_eq_true rfl, Nat.le_of_ble_eq_true rfl⟩) (fun r_89 hr_89 qr_89 => ?_)
                    replace qr_89 : r_89 = El (100 * (d) + (i + 1)) := qr_89
                    refine x_ci (va_runV (As := [.int (iI (r_80)), .int (iI (r_89))]) (rest := []) ⟨hx, hb, hml, hown, hts⟩ (c_X12_areTwo l g σ (ov) S hob hs0 hok (r_80) (by omega) (r_89) (by omega)) (cwV 2 hts gX12_given_X12_areTwo rfl rfl rfl (by decide +kernel) ⟨Nat.le_of_ble_eq_true rfl, Nat.le_of_ble_eq_true rfl⟩) (x_preV hK hP (x_recv hK hP (i := 37) (by decide) hob rfl)) rfl rfl hl.1 rfl (lv_room (Nat.le_of_ble_eq_true rfl)) dX12_given_92 ⟨Nat.le_of_ble_eq_true rfl, Nat.le_of_ble_eq_true rfl⟩) (fun r_92 hr_92 qr_92 => ?_)
                    replace qr_92 : (r_92 = 1 ∧ (0 ≤ (r_80) ∧ (r_80) < S 0 ∧ 0 ≤ (r_89) ∧ (r_89) < S 0 ∧ (r_80) ≠ (r_89))) ∨ (r_92 = 0 ∧ ¬ (0 ≤ (r_80) ∧ (r_80) < S 0 ∧ 0 ≤ (r_89) ∧ (r_89) < S 0 ∧ (r_80) ≠ (r_89))) := qr_92
                    refine x_if_eq (tgt := 122) hx hb (by omega) dX12_given_95 (by decide) (fun c_95 => ?_) (fun c_95 => ?_)
                    · refine x_bipush (n := -13) hx hb (by decide +kernel) dX12_given_122 ?_
                      refine lv_istore_n (lv' := [(3, .int (iI (-13))), (4, .int (iI (i))), (0, .ref (g.2.2 37)), (1, .int (iI (d))), (2, .int (iI (wh)))]) hx hb dX12_given_124 rfl hl (by decide) rfl (fun ls hl => ?_)
                      refine x_iinc (k0 := 1) (lv' := [(4, .int (iI (i + 3))), (3, .int (iI (-13))), (0, .ref (g.2.2 37)), (1, .int (iI (d))), (2, .int (iI (wh)))]) hx hb dX12_given_125 hl rfl (by decide) rfl (fun ls hl => ?_)
                      refine lv_goto (tgt := 60) hx hb dX12_given_128 (by decide) ?_
                      exact ih_33 (i + 3) (-13) (by omega) (by omega) (by omega) (by omega) (by first | exact Or.inl ⟨rfl, hY.2.1, hY.2.2.1, hY.2.2.2.1, hY.2.2.2.2.1, hY.2.2.2.2.2.1, fun t h1 h2 => by by_cases e : t = i / 3; (subst e; unfold zGvT zRw; rw [show 3 * (i / 3) = i by omega]; omega); exact hY.2.2.2.2.2.2 t h1 (by omega)⟩ | exact Or.inr ⟨by omega, Or.inr (Or.inr ⟨hY.2.1, hY.2.2.1, hY.2.2.2.1, fun h => by have h1 := h.2.2 (i / 3) (by omega) (by omega); unfold zGvT zRw at h1; rw [show 3 * (i / 3) = i by omega] at h1; omega, rfl⟩)⟩) (by omega) (by omega) ls (lv_sub hl [0, 1, 2, 3, 4] rfl)
                    · refine lv_aload_n hx hb dX12_given_98 rfl (lv_at hl 2 rfl) ?_
                      refine lv_iload_n hx hb dX12_given_99 rfl (lv_at hl 3 rfl) ?_
                      refine lv_iload hx hb dX12_given_100 (lv_at hl 0 rfl) ?_
                      refine x_iconst hx hb dX12_given_102 ?_
                      refine x_iadd hx hb dX12_given_103 ?_
                      refine x_ci (va_runV (As := [.int (iI (d)), .int (iI (i + 2))]) (rest := []) ⟨hx, hb, hml, hown, hts⟩ (c_X12_toldAt l g σ (ov) S hob hs0 hok Kp So Sz El KK KF h42 h43 h44 h45 h46 h47 hsh (d) (by omega) (i + 2) (by omega)) (cwV 2 hts gX12_given_X12_toldAt rfl rfl rfl (by decide +kernel) ⟨Nat.le_of_ble_eq_true rfl, Nat.le_of_ble_eq_true rfl⟩) (x_preV hK hP (x_recv hK hP (i := 37) (by decide) hob rfl)) rfl rfl hl.1 rfl (lv_room (Nat.le_of_ble_eq_true rfl)) dX12_given_104 ⟨Nat.le_of_ble_eq_true rfl, Nat.le_of_ble_eq_true rfl⟩) (fun r_104 hr_104 qr_104 => ?_)
                      replace qr_104 : r_104 = El (100 * (d) + (i + 2)) := qr_104
                      refine x_i2l hx hb (by omega) dX12_given_107 ?_
                      refine x_lconst (z := 1) hx hb (by decide +kernel) dX12_given_108 ?_
                      refine x_ldc2 (z := 9999) hx hb hown hw_2 (by decide +kernel) dX12_given_109 ?_
                      refine x_ci (va_runS (As := [.long (jL (r_104)), .long (jL (1)), .long (jL (9999))]) (rest := []) ⟨hx, hb, hml, hown, hts⟩ (c_X12_isIn l g σ (r_104) (by omega) (1) (by omega) (9999) (by omega)) (va_cwS 3 hts gX12_given_X12_isIn rfl rfl rfl (by decide +kernel) ⟨Nat.le_of_ble_eq_true rfl, Nat.le_of_ble_eq_true rfl⟩) (x_preS hK hP) rfl rfl hl.1 rfl (lv_room (Nat.le_of_ble_eq_true rfl)) dX12_given_112 ⟨Nat.le_of_ble_eq_true rfl, Nat.le_of_ble_eq_true rfl⟩) (fun r_112 hr_112 qr_112 => ?_)
                      replace qr_112 : (r_112 = 1 ∧ (1) ≤ (r_104) ∧ (r_104) ≤ (9999)) ∨ (r_112 = 0 ∧ ¬ ((1) ≤ (r_104) ∧ (r_104) ≤ (9999))) := qr_112
                      refine x_if_eq (tgt := 122) hx hb (by omega) dX12_given_115 (by decide) (fun c_115 => ?_) (fun c_115 => ?_)
                      · refine x_bipush (n := -13) hx hb (by decide +kernel) dX12_given_122 ?_
                        refine lv_istore_n (lv' := [(3, .int (iI (-13))), (4, .int (iI (i))), (0, .ref (g.2.2 37)), (1, .int (iI (d))), (2, .int (iI (wh)))]) hx hb dX12_given_124 rfl hl (by decide) rfl (fun ls hl => ?_)
                        refine x_iinc (k0 := 1) (lv' := [(4, .int (iI (i + 3))), (3, .int (iI (-13))), (0, .ref (g.2.2 37)), (1, .int (iI (d))), (2, .int (iI (wh)))]) hx hb dX12_given_125 hl rfl (by decide) rfl (fun ls hl => ?_)
                        refine lv_goto (tgt := 60) hx hb dX12_given_128 (by decide) ?_
                        exact ih_33 (i + 3) (-13) (by omega) (by omega) (by omega) (by omega) (by first | exact Or.inl ⟨rfl, hY.2.1, hY.2.2.1, hY.2.2.2.1, hY.2.2.2.2.1, hY.2.2.2.2.2.1, fun t h1 h2 => by by_cases e : t = i / 3; (subst e; unfold zGvT zRw; rw [show 3 * (i / 3) = i by omega]; omega); exact hY.2.2.2.2.2.2 t h1 (by omega)⟩ | exact Or.inr ⟨by omega, Or.inr (Or.inr ⟨hY.2.1, hY.2.2.1, hY.2.2.2.1, fun h => by have h1 := h.2.2 (i / 3) (by omega) (by omega); unfold zGvT zRw at h1; rw [show 3 * (i / 3) = i by omega] at h1; omega, rfl⟩)⟩) (by omega) (by omega) ls (lv_sub hl [0, 1, 2, 3, 4] rfl)
                      · refine x_iconst hx hb dX12_given_118 ?_
                        refine lv_goto (tgt := 124) hx hb dX12_given_119 (by decide) ?_
                        refine lv_istore_n (lv' := [(3, .int (iI (0))), (4, .int (iI (i))), (0, .ref (g.2.2 37)), (1, .int (iI (d))), (2, .int (iI (wh)))]) hx hb dX12_given_124 rfl hl (by decide) rfl (fun ls hl => ?_)
                        refine x_iinc (k0 := 1) (lv' := [(4, .int (iI (i + 3))), (3, .int (iI (0))), (0, .ref (g.2.2 37)), (1, .int (iI (d))), (2, .int (iI (wh)))]) hx hb dX12_given_125 hl rfl (by decide) rfl (fun ls hl => ?_)
                        refine lv_goto (tgt := 60) hx hb dX12_given_128 (by decide) ?_
                        exact ih_33 (i + 3) (0) (by omega) (by omega) (by omega) (by omega) (by first | exact Or.inl ⟨rfl, hY.2.1, hY.2.2.1, hY.2.2.2.1, hY.2.2.2.2.1, hY.2.2.2.2.2.1, fun t h1 h2 => by by_cases e : t = i / 3; (subst e; unfold zGvT zRw; rw [show 3 * (i / 3) = i by omega]; omega); exact hY.2.2.2.2.2.2 t h1 (by omega)⟩ | exact Or.inr ⟨by omega, Or.inr (Or.inr ⟨hY.2.1, hY.2.2.1, hY.2.2.2.1, fun h => by have h1 := h.2.2 (i / 3) (by omega) (by omega); unfold zGvT zRw at h1; rw [show 3 * (i / 3) = i by omega] at h1; omega, rfl⟩)⟩) (by omega) (by omega) ls (lv_sub hl [0, 1, 2, 3, 4] rfl)
            exact hloop_60 ((((105 : Int) - (0)).toNat) + 1) (0) ((r_24)) (by omega) (by omega) (by omega) (by omega) (by first | exact Or.inl ⟨rfl, by omega, by omega, by omega, by omega, by omega, fun t h1 h2 => by omega⟩ | exact Or.inl ⟨by omega, by omega, by omega, by omega, by omega, by omega, fun t h1 h2 => by omega⟩ | exact Or.inr ⟨by omega, Or.inl ⟨by omega, by omega⟩⟩ | exact Or.inr ⟨by omega, Or.inr (Or.inl ⟨by omega, by omega, by omega, by omega⟩)⟩ | exact Or.inr ⟨by omega, Or.inr (Or.inr ⟨by omega, by omega, by omega, fun h => by have h1 := h.1; have h2 := h.2.1; omega, by omega⟩)⟩) (by omega) (by omega) ls (lv_sub hl [0, 1, 2, 3, 4] rfl)
          · refine x_bipush (n := -13) hx hb (by decide +kernel) dX12_given_54 ?_
            refine lv_istore_n (lv' := [(3, .int (iI (-13))), (0, .ref (g.2.2 37)), (1, .int (iI (d))), (2, .int (iI (wh)))]) hx hb dX12_given_56 rfl hl (by decide) rfl (fun ls hl => ?_)
            refine x_iconst hx hb dX12_given_57 ?_
            refine lv_istore (lv' := [(4, .int (iI (0))), (3, .int (iI (-13))), (0, .ref (g.2.2 37)), (1, .int (iI (d))), (2, .int (iI (wh)))]) hx hb dX12_given_58 hl (by decide) rfl (fun ls hl => ?_)
            have hloop_60 : ∀ (k : Nat) (i : Int) (no : Int), ((105 : Int) - i).toNat < k → (hi0 : 0 ≤ i ∧ i % 3 = 0) → (hi1 : i ≤ 102) → (hnr : inR no) → (hno : (no = 0 ∧ (0 ≤ d ∧ d ≤ 7) ∧ (0 ≤ wh ∧ wh ≤ 1) ∧ zRowR Kp So d 1 = 0 ∧ Sz d % 3 = 0 ∧ Sz d ≤ 24 ∧ ∀ t, 0 ≤ t → 3 * t < i → zGvT (S 0) (zRw El d) t) ∨ (no ≠ 0 ∧ zGivNo Kp So Sz El (S 0) d wh no)) → (hi2 : no = 0 → i ≤ Sz d) → (hsz : no = 0 → 0 ≤ Sz d) → ∀ (ls : Array Slot), lv_has ls 6 [(4, .int (iI (i))), (3, .int (iI (no))), (0, .ref (g.2.2 37)), (1, .int (iI (d))), (2, .int (iI (wh)))] → W p l e (headSpec wsX12_given ({ frames := 7, cells := 0, slots := 0, locals := 224 })).room s m ([.ref (g.2.2 37), .int (iI (d)), .int (iI (wh))] : List Value).toArray below meth c s.heap [] 0 0 (MQ below (x_Qi g A (fun r σ1 => σ1.2 = σ.2 ∧ (∀ j, j ≠ 38 ∧ j ≠ 41 → σ1.1 j = σ.1 j) ∧ zGivenR Kp So Sz El (mK S) (mF S) (mP S) (S 0) (S 1) d wh r ∧ xBack g σ1.1 S)) ([.ref (g.2.2 37), .int (iI (d)), .int (iI (wh))] : List Value).toArray s (0) (0) A) (F0 m 60 ls []) := by
              intro k
              induction k with
              | zero =>
                intros; exact absurd (by assumption) (Nat.not_lt_zero _)
              | succ k ih =>
                intro i no hmeas hi0 hi1 hnr hno hi2 hsz  ls hl
                have ih_43 := ih
                refine lv_iload_n hx hb dX12_given_60 rfl (lv_at hl 1 rfl) ?_
                refine x_if_ne (tgt := 131) hx hb (by omega) dX12_given_61 (by decide) (fun c_61 => ?_) (fun c_61 => ?_)
                · refine lv_iload_n hx hb dX12_given_131 rfl (lv_at hl 1 rfl) ?_
                  refine x_if_eq (tgt := 137) hx hb (by omega) dX12_given_132 (by decide) (fun c_132 => ?_) (fun c_132 => ?_)
                  · exfalso; omega
                  · refine lv_iload_n hx hb dX12_given_135 rfl (lv_at hl 1 rfl) ?_
                    refine x_retQ hx hb hr (by omega) ?_ hP hD hS dX12_given_136 hlocks
                    refine ⟨rfl, hfr, ?_, S, Mi, hs0, h41, zKeep_self hok.1⟩
                    left
                    rcases hno with h | h
                    · omega
                    · exact h.2
                · have hY := hno.resolve_right (fun h => by omega)
                  have hk0 := zRowR_0 rfl hY.2.2.2.1
                  have hsd := hsh.2.2.2.2.2.2 d hk0.1 hk0.2.1
                  refine lv_iload hx hb dX12_given_64 (lv_at hl 0 rfl) ?_
                  refine lv_aload_n hx hb dX12_given_66 rfl (lv_at hl 2 rfl) ?_
                  refine x_get (C := RX12) (T := TX12) (N := 24) hx hb hts hin_X12 hown hK hP (37) (by decide) hob rfl 6 (by decide) hw_0 (fun _ h9 => h9) rfl dX12_given_67 ?_
                  refine lv_iload_n hx hb dX12_given_70 rfl (lv_at hl 3 rfl) ?_
                  refine x_iald (f := Sz) hx hb hK hP (44) (by decide) h44 (by omega) (by omega) (by decide) dX12_given_71 ?_
                  have hb_44 := hsh.2.2.1 (d)
                  refine x_icmp_ge (tgt := 131) hx hb (by omega) (by omega) dX12_given_72 (by decide) (fun c_72 => ?_) (fun c_72 => ?_)
                  · refine lv_iload_n hx hb dX12_given_131 rfl (lv_at hl 1 rfl) ?_
                    refine x_if_eq (tgt := 137) hx hb (by omega) dX12_given_132 (by decide) (fun c_132 => ?_) (fun c_132 => ?_)
                    · have hY := hno.resolve_right (fun h => by omega)
                      have hYES : zGivYes Kp So Sz El (S 0) d wh := ⟨hY.2.1, hY.2.2.1, hY.2.2.2.1, hY.2.2.2.2.1, hY.2.2.2.2.2.1, fun t h1 h2 => hY.2.2.2.2.2.2 t h1 (by omega)⟩
                      have hsz3 := hY.2.2.2.2.1
                      have hsz24 := hY.2.2.2.2.2.1
                      refine lv_aload_n hx hb dX12_given_137 rfl (lv_at hl 2 rfl) ?_
                      refine x_cqv0 (va_runV (As := []) (rest := []) ⟨hx, hb, hml, hown, hts⟩ (c_X12_begins l g σ A (ov) S Mi hob hs0 h41) (cwV 0 hts gX12_given_X12_begins rfl rfl rfl (by decide +kernel) ⟨Nat.le_of_ble_eq_true rfl, Nat.le_of_ble_eq_true rfl⟩) (x_preVQ hK hP hD hS hA (x_recv hK hP (i := 37) (by decide) hob rfl)) rfl rfl hl.1 rfl (lv_room (Nat.le_of_ble_eq_true rfl)) dX12_given_138 ⟨by decide, by decide⟩) hS (fun σ1 H locs hpost hP hD hS => ?_)
                      obtain ⟨M_45, p1⟩ := σ1
                      obtain ⟨hp0, hfrc, hnew⟩ := hpost
                      obtain rfl : p1 = σ.2 := hp0
                      have hP : xP g (M_45, σ.2) H := hP
                      have hD : xD g A (M_45, σ.2) := hD
                      have hob : MObj g M_45 ov := (hfrc (37) (by omega)).trans hob
                      have hs0 := (hfrc (38) (by omega)).trans hs0
                      have h42 := (hfrc (42) (by omega)).trans h42
                      have h43 := (hfrc (43) (by omega)).trans h43
                      have h44 := (hfrc (44) (by omega)).trans h44
                      have h45 := (hfrc (45) (by omega)).trans h45
                      have h46 := (hfrc (46) (by omega)).trans h46
                      have h47 := (hfrc (47) (by omega)).trans h47
                      have hfr := x_frc (F := fun j => j ≠ 38 ∧ j ≠ 41) hfr hfrc (fun j h => by have h : j ≠ 38 ∧ j ≠ 41 := h; omega)
                      obtain ⟨Mi_46, hMi_46⟩ : ∃ q : Int → Int, q = zCopy S Mi 29 := ⟨_, rfl⟩
                      have h41 : MArr g M_45 41 29 Mi_46 := by rw [hMi_46]; exact hnew
                      refine x_iconst hx hb dX12_given_141 ?_
                      refine lv_istore (lv' := [(4, .int (iI (0))), (3, .int (iI (no))), (0, .ref (g.2.2 37)), (1, .int (iI (d))), (2, .int (iI (wh)))]) hx hb dX12_given_142 hl (by decide) rfl (fun ls hl => ?_)
                      refine x_iconst hx hb dX12_given_144 ?_
                      refine lv_istore (lv' := [(5, .int (iI (0))), (4, .int (iI (0))), (3, .int (iI (no))), (0, .ref (g.2.2 37)), (1, .int (iI (d))), (2, .int (iI (wh)))]) hx hb dX12_given_145 hl (by decide) rfl (fun ls hl => ?_)
                      have hloop_147 : ∀ (k : Nat) (T : Int → Int) (i2 : Int) (ct : Int), (Sz d - i2).toNat < k → (hj0 : 0 ≤ i2 ∧ i2 % 3 = 0) → (hj1 : i2 ≤ Sz d) → (hct : 0 ≤ ct ∧ ct ≤ i2) → (hTo : SmOk T) → (eT0 : T 0 = S 0) → (eT1 : T 1 = S 1) → (eTK : mK T = mK S) → (eTF : mF T = mF S) → (hst : (mP T, ct) = zGvN (zRw El d) (mP S) (S 0) (i2 / 3).toNat) → ∀ (M : xM) (H : Heap) (locs : List Loc), (hob : M (37) = .inr (12, [.ref (g.2.2 38), .ref (g.2.2 39), .ref (g.2.2 40), .ref (g.2.2 41), .ref (g.2.2 42), .ref (g.2.2 43), .ref (g.2.2 44), .ref (g.2.2 45), .ref (g.2.2 46), .ref (g.2.2 47), .int (iI (ov 10)), .int (iI (ov 11)), .int (iI (ov 12)), .int (iI (ov 13)), .int (iI (ov 14)), .int (iI (ov 15)), .ref (g.2.2 48), .int (iI (ov 17)), .int (iI (ov 18)), .int (iI (ov 19)), .int (iI (ov 20)), .int (iI (ov 21)), .ref (g.2.2 49), .int (iI (ov 23))])) → (hs0 : M (38) = .inl (g.2.1 0, 29, .inl (fun k => iI (T (k : Int))))) → (h42 : M (42) = .inl (g.2.1 0, 8, .inl (fun k => iI (Kp (k : Int))))) → (h43 : M (43) = .inl (g.2.1 0, 8, .inl (fun k => iI (So (k : Int))))) → (h44 : M (44) = .inl (g.2.1 0, 8, .inl (fun k => iI (Sz (k : Int))))) → (h45 : M (45) = .inl (g.2.1 0, 800, .inl (fun k => iI (El (k : Int))))) → (h46 : M (46) = .inl (g.2.1 0, 8, .inl (fun k => iI (KK (k : Int))))) → (h47 : M (47) = .inl (g.2.1 0, 8, .inl (fun k => iI (KF (k : Int))))) → (h41 : M (41) = .inl (g.2.1 0, 29, .inl (fun k => iI (Mi_46 (k : Int))))) → (hfr : ∀ j, (j ≠ 38 ∧ j ≠ 41) → M j = σ.1 j) → xP g (M, σ.2) H → xD g A (M, σ.2) → va_S A s.heap H locs → ∀ (ls : Array Slot), lv_has ls 6 [(5, .int (iI (i2))), (4, .int (iI (ct))), (3, .int (iI (no))), (0, .ref (g.2.2 37)), (1, .int (iI (d))), (2, .int (iI (wh)))] → W p l e (headSpec wsX12_given ({ frames := 7, cells := 0, slots := 0, locals := 224 })).room s m ([.ref (g.2.2 37), .int (iI (d)), .int (iI (wh))] : List Value).toArray below meth c H locs 0 0 (MQ below (x_Qi g A (fun r σ1 => σ1.2 = σ.2 ∧ (∀ j, j ≠ 38 ∧ j ≠ 41 → σ1.1 j = σ.1 j) ∧ zGivenR Kp So Sz El (mK S) (mF S) (mP S) (S 0) (S 1) d wh r ∧ xBack g σ1.1 S)) ([.ref (g.2.2 37), .int (iI (d)), .int (iI (wh))] : List Value).toArray s (0) (0) A) (F0 m 147 ls []) := by
                        intro k
                        induction k with
                        | zero =>
                          intros; exact absurd (by assumption) (Nat.not_lt_zero _)
                        | succ k ih =>
                          intro T i2 ct hmeas hj0 hj1 hct hTo eT0 eT1 eTK eTF hst M H locs hob hs0 h42 h43 h44 h45 h46 h47 h41 hfr hP hD hS ls hl
                          have ih_47 := ih
                          refine lv_iload hx hb dX12_given_147 (lv_at hl 0 rfl) ?_
                          refine lv_aload_n hx hb dX12_given_149 rfl (lv_at hl 3 rfl) ?_
                          refine x_get (C := RX12) (T := TX12) (N := 24) hx hb hts hin_X12 hown hK hP (37) (by decide) hob rfl 6 (by decide) hw_0 (fun _ h9 => h9) rfl dX12_given_150 ?_
                          refine lv_iload_n hx hb dX12_given_153 rfl (lv_at hl 4 rfl) ?_
                          refine x_iald (f := Sz) hx hb hK hP (44) (by decide) h44 (by omega) (by omega) (by decide) dX12_given_154 ?_
                          have hb_48 := hsh.2.2.1 (d)
                          refine x_icmp_ge (tgt := 206) hx hb (by omega) (by omega) dX12_given_155 (by decide) (fun c_155 => ?_) (fun c_155 => ?_)
                          · refine lv_aload_n hx hb dX12_given_206 rfl (lv_at hl 3 rfl) ?_
                            refine x_ci (va_runV (As := []) (rest := []) ⟨hx, hb, hml, hown, hts⟩ (c_X12_breachesAll l g (M, σ.2) (ov) T hob hs0 hTo ) (cwV 0 hts gX12_given_X12_breachesAll rfl rfl rfl (by decide +kernel) ⟨Nat.le_of_ble_eq_true rfl, Nat.le_of_ble_eq_true rfl⟩) (x_preV hK hP (x_recv hK hP (i := 37) (by decide) hob rfl)) rfl rfl hl.1 rfl (lv_room (Nat.le_of_ble_eq_true rfl)) dX12_given_207 ⟨Nat.le_of_ble_eq_true rfl, Nat.le_of_ble_eq_true rfl⟩) (fun r_207 hr_207 qr_207 => ?_)
                            replace qr_207 : r_207 = zAll (mK T) (mF T) (mP T) (T 0) (T 1) ∧ 0 ≤ r_207 ∧ r_207 ≤ 18 := qr_207
                            refine lv_istore (lv' := [(5, .int (iI (r_207))), (4, .int (iI (ct))), (3, .int (iI (no))), (0, .ref (g.2.2 37)), (1, .int (iI (d))), (2, .int (iI (wh)))]) hx hb dX12_given_210 hl (by decide) rfl (fun ls hl => ?_)
                            refine lv_aload_n hx hb dX12_given_212 rfl (lv_at hl 3 rfl) ?_
                            refine x_cqv0 (va_runV (As := []) (rest := []) ⟨hx, hb, hml, hown, hts⟩ (c_X12_ends l g (M, σ.2) A (ov) T Mi_46 hob hs0 h41) (cwV 0 hts gX12_given_X12_ends rfl rfl rfl (by decide +kernel) ⟨Nat.le_of_ble_eq_true rfl, Nat.le_of_ble_eq_true rfl⟩) (x_preVQ hK hP hD hS hA (x_recv hK hP (i := 37) (by decide) hob rfl)) rfl rfl hl.1 rfl (lv_room (Nat.le_of_ble_eq_true rfl)) dX12_given_213 ⟨by decide, by decide⟩) hS (fun σ1 H locs hpost hP hD hS => ?_)
                            obtain ⟨M_49, p1⟩ := σ1
                            obtain ⟨hp0, hfrc, hnew⟩ := hpost
                            obtain rfl : p1 = σ.2 := hp0
                            have hP : xP g (M_49, σ.2) H := hP
                            have hD : xD g A (M_49, σ.2) := hD
                            have hob : MObj g M_49 ov := (hfrc (37) (by omega)).trans hob
                            have h42 := (hfrc (42) (by omega)).trans h42
                            have h43 := (hfrc (43) (by omega)).trans h43
                            have h44 := (hfrc (44) (by omega)).trans h44
                            have h45 := (hfrc (45) (by omega)).trans h45
                            have h46 := (hfrc (46) (by omega)).trans h46
                            have h47 := (hfrc (47) (by omega)).trans h47
                            have h41 := (hfrc (41) (by omega)).trans h41
                            have hfr := x_frc (F := fun j => j ≠ 38 ∧ j ≠ 41) hfr hfrc (fun j h => by have h : j ≠ 38 ∧ j ≠ 41 := h; omega)
                            obtain ⟨S_50, hS_50⟩ : ∃ q : Int → Int, q = zCopy Mi_46 T 29 := ⟨_, rfl⟩
                            have hs0 : MArr g M_49 38 29 S_50 := by rw [hS_50]; exact hnew
                            refine lv_iload_n hx hb dX12_given_216 rfl (lv_at hl 5 rfl) ?_
                            refine x_if_ne (tgt := 225) hx hb (by omega) dX12_given_217 (by decide) (fun c_217 => ?_) (fun c_217 => ?_)
                            · refine lv_iload hx hb dX12_given_225 (lv_at hl 1 rfl) ?_
                              refine x_retQ hx hb hr (by omega) ?_ hP hD hS dX12_given_227 hlocks
                              refine ⟨rfl, hfr, Or.inr ⟨hYES, ?_⟩, ?_⟩
                              · have ei : i2 = Sz d := by omega
                                rw [ei] at hst
                                unfold zGiven
                                rw [if_neg (by omega), ← hst]
                              · exact ⟨_, _, hs0, h41, zKeep_back hok.1 hTo.1 hMi_46 hS_50⟩
                            · refine lv_iload hx hb dX12_given_220 (lv_at hl 0 rfl) ?_
                              refine lv_goto (tgt := 227) hx hb dX12_given_222 (by decide) ?_
                              refine x_retQ hx hb hr (by omega) ?_ hP hD hS dX12_given_227 hlocks
                              refine ⟨rfl, hfr, Or.inr ⟨hYES, ?_⟩, ?_⟩
                              · have ei : i2 = Sz d := by omega
                                rw [ei] at hst
                                unfold zGiven
                                rw [if_pos (by omega), ← hst]
                                (show r_207 = zAll (mK S) (mF S) (mP T) (S 0) (S 1))
                                rw [qr_207.1, eTK, eTF, eT0, eT1]
                              · exact ⟨_, _, hs0, h41, zKeep_back hok.1 hTo.1 hMi_46 hS_50⟩
                          · refine lv_iload hx hb dX12_given_158 (lv_at hl 1 rfl) ?_
                            refine lv_aload_n hx hb dX12_given_160 rfl (lv_at hl 3 rfl) ?_
                            refine lv_aload_n hx hb dX12_given_161 rfl (lv_at hl 3 rfl) ?_
                            refine lv_iload_n hx hb dX12_given_162 rfl (lv_at hl 4 rfl) ?_
                            refine lv_iload hx hb dX12_given_163 (lv_at hl 0 rfl) ?_
                            refine x_ci (va_runV (As := [.int (iI (d)), .int (iI (i2))]) (rest := [.ref (g.2.2 37), .int (iI (ct))]) ⟨hx, hb, hml, hown, hts⟩ (c_X12_toldAt l g (M, σ.2) (ov) T hob hs0 hTo Kp So Sz El KK KF h42 h43 h44 h45 h46 h47 hsh (d) (by omega) (i2) (by omega)) (cwV 2 hts gX12_given_X12_toldAt rfl rfl rfl (by decide +kernel) ⟨Nat.le_of_ble_eq_true rfl, Nat.le_of_ble_eq_true rfl⟩) (x_preV hK hP (x_recv hK hP (i := 37) (by decide) hob rfl)) rfl rfl hl.1 rfl (lv_room (Nat.le_of_ble_eq_true rfl)) dX12_given_165 ⟨Nat.le_of_ble_eq_true rfl, Nat.le_of_ble_eq_true rfl⟩) (fun r_165 hr_165 qr_165 => ?_)
                            replace qr_165 : r_165 = El (100 * (d) + (i2)) := qr_165
                            refine lv_aload_n hx hb dX12_given_168 rfl (lv_at hl 3 rfl) ?_
                            refine lv_iload_n hx hb dX12_given_169 rfl (lv_at hl 4 rfl) ?_
                            refine lv_iload hx hb dX12_given_170 (lv_at hl 0 rfl) ?_
                            refine x_iconst hx hb dX12_given_172 ?_
                            refine x_iadd hx hb dX12_given_173 ?_
                            refine x_ci (va_runV (As := [.int (iI (d)), .int (iI (i2 + 1))]) (rest := [.int (iI (r_165)), .ref (g.2.2 37), .int (iI (ct))]) ⟨hx, hb, hml, hown, hts⟩ (c_X12_toldAt l g (M, σ.2) (ov) T hob hs0 hTo Kp So Sz El KK KF h42 h43 h44 h45 h46 h47 hsh (d) (by omega) (i2 + 1) (by omega)) (cwV 2 hts gX12_given_X12_toldAt rfl rfl rfl (by decide +kernel) ⟨Nat.le_of_ble_eq_true rfl, Nat.le_of_ble_eq_true rfl⟩) (x_preV hK hP (x_recv hK hP (i := 37) (by decide) hob rfl)) rfl rfl hl.1 rfl (lv_room (Nat.le_of_ble_eq_true rfl)) dX12_given_174 ⟨Nat.le_of_ble_eq_true rfl, Nat.le_of_ble_eq_true rfl⟩) (fun r_174 hr_174 qr_174 => ?_)
                            replace qr_174 : r_174 = El (100 * (d) + (i2 + 1)) := qr_174
                            refine lv_aload_n hx hb dX12_given_177 rfl (lv_at hl 3 rfl) ?_
                            refine lv_iload_n hx hb dX12_given_178 rfl (lv_at hl 4 rfl) ?_
                            refine lv_iload hx hb dX12_given_179 (lv_at hl 0 rfl) ?_
                            refine x_iconst hx hb dX12_given_181 ?_
                            refine x_iadd hx hb dX12_given_182 ?_
                            refine x_ci (va_runV (As := [.int (iI (d)), .int (iI (i2 + 2))]) (rest := [.int (iI (r_174)), .int (iI (r_165)), .ref (g.2.2 37), .int (iI (ct))]) ⟨hx, hb, hml, hown, hts⟩ (c_X12_toldAt l g (M, σ.2) (ov) T hob hs0 hTo Kp So Sz El KK KF h42 h43 h44 h45 h46 h47 hsh (d) (by omega) (i2 + 2) (by omega)) (cwV 2 hts gX12_given_X12_toldAt rfl rfl rfl (by decide +kernel) ⟨Nat.le_of_ble_eq_true rfl, Nat.le_of_ble_eq_true rfl⟩) (x_preV hK hP (x_recv hK hP (i := 37) (by decide) hob rfl)) rfl rfl hl.1 rfl (lv_room (Nat.le_of_ble_eq_true rfl)) dX12_given_183 ⟨Nat.le_of_ble_eq_true rfl, Nat.le_of_ble_eq_true rfl⟩) (fun r_183 hr_183 qr_183 => ?_)
                            replace qr_183 : r_183 = El (100 * (d) + (i2 + 2)) := qr_183
                            refine x_cqi0 (va_runV (As := [.int (iI (r_165)), .int (iI (r_174)), .int (iI (r_183))]) (rest := [.int (iI (ct))]) ⟨hx, hb, hml, hown, hts⟩ (c_X12_givesIf l g (M, σ.2) A (ov) T hob hs0 hTo (r_165) (by omega) (r_174) (by omega) (r_183) (by omega)) (cwV 3 hts gX12_given_X12_givesIf rfl rfl rfl (by decide +kernel) ⟨Nat.le_of_ble_eq_true rfl, Nat.le_of_ble_eq_true rfl⟩) (x_preVQ hK hP hD hS hA (x_recv hK hP (i := 37) (by decide) hob rfl)) rfl rfl hl.1 rfl (lv_room (Nat.le_of_ble_eq_true rfl)) dX12_given_186 ⟨by decide, by decide⟩) hS (fun r_186 σ1 H locs hr_186 hpost hP hD hS => ?_)
                            obtain ⟨M_51, p1⟩ := σ1
                            obtain ⟨hp0, hfrc, qr_186, hnew⟩ := hpost
                            obtain rfl : p1 = σ.2 := hp0
                            have hP : xP g (M_51, σ.2) H := hP
                            have hD : xD g A (M_51, σ.2) := hD
                            have hob : MObj g M_51 ov := (hfrc (37) (by omega)).trans hob
                            have h42 := (hfrc (42) (by omega)).trans h42
                            have h43 := (hfrc (43) (by omega)).trans h43
                            have h44 := (hfrc (44) (by omega)).trans h44
                            have h45 := (hfrc (45) (by omega)).trans h45
                            have h46 := (hfrc (46) (by omega)).trans h46
                            have h47 := (hfrc (47) (by omega)).trans h47
                            have h41 := (hfrc (41) (by omega)).trans h41
                            have hfr := x_frc (F := fun j => j ≠ 38 ∧ j ≠ 41) hfr hfrc (fun j h => by have h : j ≠ 38 ∧ j ≠ 41 := h; omega)
                            obtain ⟨S_52, hS_52⟩ : ∃ q : Int → Int, q = (if zGiftR (mP T) (T 0) (r_165) (r_174) (r_183) = 0 then zGives T (r_165) (r_174) (r_183) else T) := ⟨_, rfl⟩
                            have hs0 : MArr g M_51 38 29 S_52 := by rw [hS_52]; exact hnew
                            have oS_52 : SmOk S_52 := by rw [hS_52]; exact SmOk_givesIf hTo
                            have pS_52 := oS_52.2.1
                            refine x_if_eq (tgt := 196) hx hb (by omega) dX12_given_189 (by decide) (fun c_189 => ?_) (fun c_189 => ?_)
                            · refine x_iconst hx hb dX12_given_196 ?_
                              refine x_iadd hx hb dX12_given_197 ?_
                              refine lv_istore (lv' := [(4, .int (iI (ct + 0))), (5, .int (iI (i2))), (3, .int (iI (no))), (0, .ref (g.2.2 37)), (1, .int (iI (d))), (2, .int (iI (wh)))]) hx hb dX12_given_198 hl (by decide) rfl (fun ls hl => ?_)
                              refine x_iinc (k0 := 1) (lv' := [(5, .int (iI (i2 + 3))), (4, .int (iI (ct + 0))), (3, .int (iI (no))), (0, .ref (g.2.2 37)), (1, .int (iI (d))), (2, .int (iI (wh)))]) hx hb dX12_given_200 hl rfl (by decide) rfl (fun ls hl => ?_)
                              refine lv_goto (tgt := 147) hx hb dX12_given_203 (by decide) ?_
                              have zz := zGvIf_all (S := T) (a := r_165) (b := r_174) (c := r_183)
                              unfold zGvIf at zz
                              rw [← hS_52] at zz
                              exact ih_47 (S_52) (i2 + 3) (ct + 0) (by omega) (by omega) (by omega) (by omega) (by assumption) (by exact zz.2.2.2.1.trans eT0) (by exact zz.2.2.2.2.trans eT1) (by exact zz.2.1.trans eTK) (by exact zz.2.2.1.trans eTF) (by rw [zGvN_succ _ _ _ hj0.1 hj0.2, ← hst]; rw [zz.1, eT0, qr_165, qr_174, qr_183]; rw [eT0, qr_165, qr_174, qr_183] at qr_186; (show _ = (if zGiftR (mP T) (S 0) (El (100 * d + i2)) (El (100 * d + (i2 + 1))) (El (100 * d + (i2 + 2))) = 0 then (zGift (mP T) (El (100 * d + i2)) (El (100 * d + (i2 + 1))) (El (100 * d + (i2 + 2))), ct + 1) else (mP T, ct))); first | (rw [if_pos (by omega), if_pos (by omega)]; done) | (rw [if_neg (by omega), if_neg (by omega), show ct + 0 = ct by omega]; done)) (M_51) _ _ hob hs0 h42 h43 h44 h45 h46 h47 h41 hfr hP hD hS ls (lv_sub hl [0, 1, 2, 3, 4, 5] rfl)
                            · refine x_iconst hx hb dX12_given_192 ?_
                              refine lv_goto (tgt := 197) hx hb dX12_given_193 (by decide) ?_
                              refine x_iadd hx hb dX12_given_197 ?_
                              refine lv_istore (lv' := [(4, .int (iI (ct + 1))), (5, .int (iI (i2))), (3, .int (iI (no))), (0, .ref (g.2.2 37)), (1, .int (iI (d))), (2, .int (iI (wh)))]) hx hb dX12_given_198 hl (by decide) rfl (fun ls hl => ?_)
                              refine x_iinc (k0 := 1) (lv' := [(5, .int (iI (i2 + 3))), (4, .int (iI (ct + 1))), (3, .int (iI (no))), (0, .ref (g.2.2 37)), (1, .int (iI (d))), (2, .int (iI (wh)))]) hx hb dX12_given_200 hl rfl (by decide) rfl (fun ls hl => ?_)
                              refine lv_goto (tgt := 147) hx hb dX12_given_203 (by decide) ?_
                              have zz := zGvIf_all (S := T) (a := r_165) (b := r_174) (c := r_183)
                              unfold zGvIf at zz
                              rw [← hS_52] at zz
                              exact ih_47 (S_52) (i2 + 3) (ct + 1) (by omega) (by omega) (by omega) (by omega) (by assumption) (by exact zz.2.2.2.1.trans eT0) (by exact zz.2.2.2.2.trans eT1) (by exact zz.2.1.trans eTK) (by exact zz.2.2.1.trans eTF) (by rw [zGvN_succ _ _ _ hj0.1 hj0.2, ← hst]; rw [zz.1, eT0, qr_165, qr_174, qr_183]; rw [eT0, qr_165, qr_174, qr_183] at qr_186; (show _ = (if zGiftR (mP T) (S 0) (El (100 * d + i2)) (El (100 * d + (i2 + 1))) (El (100 * d + (i2 + 2))) = 0 then (zGift (mP T) (El (100 * d + i2)) (El (100 * d + (i2 + 1))) (El (100 * d + (i2 + 2))), ct + 1) else (mP T, ct))); first | (rw [if_pos (by omega), if_pos (by omega)]; done) | (rw [if_neg (by omega), if_neg (by omega), show ct + 0 = ct by omega]; done)) (M_51) _ _ hob hs0 h42 h43 h44 h45 h46 h47 h41 hfr hP hD hS ls (lv_sub hl [0, 1, 2, 3, 4, 5] rfl)
                      exact hloop_147 (((Sz d - (0)).toNat) + 1) (S) (0) (0) (by omega) (by omega) (by omega) (by omega) (by exact hok) (by rfl) (by rfl) (by rfl) (by rfl) (by rfl) (M_45) _ _ hob hs0 h42 h43 h44 h45 h46 h47 h41 hfr hP hD hS ls (lv_sub hl [0, 1, 2, 3, 4, 5] rfl)
                    · exfalso; omega
                  · refine lv_aload_n hx hb dX12_given_75 rfl (lv_at hl 2 rfl) ?_
                    refine lv_aload_n hx hb dX12_given_76 rfl (lv_at hl 2 rfl) ?_
                    refine lv_iload_n hx hb dX12_given_77 rfl (lv_at hl 3 rfl) ?_
                    refine lv_iload hx hb dX12_given_78 (lv_at hl 0 rfl) ?_
                    refine x_ci (va_runV (As := [.int (iI (d)), .int (iI (i))]) (rest := [.ref (g.2.2 37)]) ⟨hx, hb, hml, hown, hts⟩ (c_X12_toldAt l g σ (ov) S hob hs0 hok Kp So Sz El KK KF h42 h43 h44 h45 h46 h47 hsh (d) (by omega) (i) (by omega)) (cwV 2 hts gX12_given_X12_toldAt rfl rfl rfl (by decide +kernel) ⟨Nat.le_of_ble_eq_true rfl, Nat.le_of_ble_eq_true rfl⟩) (x_preV hK hP (x_recv hK hP (i := 37) (by decide) hob rfl)) rfl rfl hl.1 rfl (lv_room (Nat.le_of_ble_eq_true rfl)) dX12_given_80 ⟨Nat.le_of_ble_eq_true rfl, Nat.le_of_ble_eq_true rfl⟩) (fun r_80 hr_80 qr_80 => ?_)
                    replace qr_80 : r_80 = El (100 * (d) + (i)) := qr_80
                    refine lv_aload_n hx hb dX12_given_83 rfl (lv_at hl 2 rfl) ?_
                    refine lv_iload_n hx hb dX12_given_84 rfl (lv_at hl 3 rfl) ?_
                    refine lv_iload hx hb dX12_given_85 (lv_at hl 0 rfl) ?_
                    refine x_iconst hx hb dX12_given_87 ?_
                    refine x_iadd hx hb dX12_given_88 ?_
                    refine x_ci (va_runV (As := [.int (iI (d)), .int (iI (i + 1))]) (rest := [.int (iI (r_80)), .ref (g.2.2 37)]) ⟨hx, hb, hml, hown, hts⟩ (c_X12_toldAt l g σ (ov) S hob hs0 hok Kp So Sz El KK KF h42 h43 h44 h45 h46 h47 hsh (d) (by omega) (i + 1) (by omega)) (cwV 2 hts gX12_given_X12_toldAt rfl rfl rfl (by decide +kernel) ⟨Nat.le_of_ble_eq_true rfl, Nat.le_of_ble_eq_true rfl⟩) (x_preV hK hP (x_recv hK hP (i := 37) (by decide) hob rfl)) rfl rfl hl.1 rfl (lv_room (Nat.le_of_ble_eq_true rfl)) dX12_given_89 ⟨Nat.le_of_ble_eq_true rfl, Nat.le_of_ble_eq_true rfl⟩) (fun r_89 hr_89 qr_89 => ?_)
                    replace qr_89 : r_89 = El (100 * (d) + (i + 1)) := qr_89
                    refine x_ci (va_runV (As := [.int (iI (r_80)), .int (iI (r_89))]) (rest := []) ⟨hx, hb, hml, hown, hts⟩ (c_X12_areTwo l g σ (ov) S hob hs0 hok (r_80) (by omega) (r_89) (by omega)) (cwV 2 hts gX12_given_X12_areTwo rfl rfl rfl (by decide +kernel) ⟨Nat.le_of_ble_eq_true rfl, Nat.le_of_ble_eq_true rfl⟩) (x_preV hK hP (x_recv hK hP (i := 37) (by decide) hob rfl)) rfl rfl hl.1 rfl (lv_room (Nat.le_of_ble_eq_true rfl)) dX12_given_92 ⟨Nat.le_of_ble_eq_true rfl, Nat.le_of_ble_eq_true rfl⟩) (fun r_92 hr_92 qr_92 => ?_)
                    replace qr_92 : (r_92 = 1 ∧ (0 ≤ (r_80) ∧ (r_80) < S 0 ∧ 0 ≤ (r_89) ∧ (r_89) < S 0 ∧ (r_80) ≠ (r_89))) ∨ (r_92 = 0 ∧ ¬ (0 ≤ (r_80) ∧ (r_80) < S 0 ∧ 0 ≤ (r_89) ∧ (r_89) < S 0 ∧ (r_80) ≠ (r_89))) := qr_92
                    refine x_if_eq (tgt := 122) hx hb (by omega) dX12_given_95 (by decide) (fun c_95 => ?_) (fun c_95 => ?_)
                    · refine x_bipush (n := -13) hx hb (by decide +kernel) dX12_given_122 ?_
                      refine lv_istore_n (lv' := [(3, .int (iI (-13))), (4, .int (iI (i))), (0, .ref (g.2.2 37)), (1, .int (iI (d))), (2, .int (iI (wh)))]) hx hb dX12_given_124 rfl hl (by decide) rfl (fun ls hl => ?_)
                      refine x_iinc (k0 := 1) (lv' := [(4, .int (iI (i + 3))), (3, .int (iI (-13))), (0, .ref (g.2.2 37)), (1, .int (iI (d))), (2, .int (iI (wh)))]) hx hb dX12_given_125 hl rfl (by decide) rfl (fun ls hl => ?_)
                      refine lv_goto (tgt := 60) hx hb dX12_given_128 (by decide) ?_
                      exact ih_43 (i + 3) (-13) (by omega) (by omega) (by omega) (by omega) (by first | exact Or.inl ⟨rfl, hY.2.1, hY.2.2.1, hY.2.2.2.1, hY.2.2.2.2.1, hY.2.2.2.2.2.1, fun t h1 h2 => by by_cases e : t = i / 3; (subst e; unfold zGvT zRw; rw [show 3 * (i / 3) = i by omega]; omega); exact hY.2.2.2.2.2.2 t h1 (by omega)⟩ | exact Or.inr ⟨by omega, Or.inr (Or.inr ⟨hY.2.1, hY.2.2.1, hY.2.2.2.1, fun h => by have h1 := h.2.2 (i / 3) (by omega) (by omega); unfold zGvT zRw at h1; rw [show 3 * (i / 3) = i by omega] at h1; omega, rfl⟩)⟩) (by omega) (by omega) ls (lv_sub hl [0, 1, 2, 3, 4] rfl)
                    · refine lv_aload_n hx hb dX12_given_98 rfl (lv_at hl 2 rfl) ?_
                      refine lv_iload_n hx hb dX12_given_99 rfl (lv_at hl 3 rfl) ?_
                      refine lv_iload hx hb dX12_given_100 (lv_at hl 0 rfl) ?_
                      refine x_iconst hx hb dX12_given_102 ?_
                      refine x_iadd hx hb dX12_given_103 ?_
                      refine x_ci (va_runV (As := [.int (iI (d)), .int (iI (i + 2))]) (rest := []) ⟨hx, hb, hml, hown, hts⟩ (c_X12_toldAt l g σ (ov) S hob hs0 hok Kp So Sz El KK KF h42 h43 h44 h45 h46 h47 hsh (d) (by omega) (i + 2) (by omega)) (cwV 2 hts gX12_given_X12_toldAt rfl rfl rfl (by decide +kernel) ⟨Nat.le_of_ble_eq_true rfl, Nat.le_of_ble_eq_true rfl⟩) (x_preV hK hP (x_recv hK hP (i := 37) (by decide) hob rfl)) rfl rfl hl.1 rfl (lv_room (Nat.le_of_ble_eq_true rfl)) dX12_given_104 ⟨Nat.le_of_ble_eq_true rfl, Nat.le_of_ble_eq_true rfl⟩) (fun r_104 hr_104 qr_104 => ?_)
                      replace qr_104 : r_104 = El (100 * (d) + (i + 2)) := qr_104
                      refine x_i2l hx hb (by omega) dX12_given_107 ?_
                      refine x_lconst (z := 1) hx hb (by decide +kernel) dX12_given_108 ?_
                      refine x_ldc2 (z := 9999) hx hb hown hw_2 (by decide +kernel) dX12_given_109 ?_
                      refine x_ci (va_runS (As := [.long (jL (r_104)), .long (jL (1)), .long (jL (9999))]) (rest := []) ⟨hx, hb, hml, hown, hts⟩ (c_X12_isIn l g σ (r_104) (by omega) (1) (by omega) (9999) (by omega)) (va_cwS 3 hts gX12_given_X12_isIn rfl rfl rfl (by decide +kernel) ⟨Nat.le_of_ble_eq_true rfl, Nat.le_of_ble_eq_true rfl⟩) (x_preS hK hP) rfl rfl hl.1 rfl (lv_room (Nat.le_of_ble_eq_true rfl)) dX12_given_112 ⟨Nat.le_of_ble_eq_true rfl, Nat.le_of_ble_eq_true rfl⟩) (fun r_112 hr_112 qr_112 => ?_)
                      replace qr_112 : (r_112 = 1 ∧ (1) ≤ (r_104) ∧ (r_104) ≤ (9999)) ∨ (r_112 = 0 ∧ ¬ ((1) ≤ (r_104) ∧ (r_104) ≤ (9999))) := qr_112
                      refine x_if_eq (tgt := 122) hx hb (by omega) dX12_given_115 (by decide) (fun c_115 => ?_) (fun c_115 => ?_)
                      · refine x_bipush (n := -13) hx hb (by decide +kernel) dX12_given_122 ?_
                        refine lv_istore_n (lv' := [(3, .int (iI (-13))), (4, .int (iI (i))), (0, .ref (g.2.2 37)), (1, .int (iI (d))), (2, .int (iI (wh)))]) hx hb dX12_given_124 rfl hl (by decide) rfl (fun ls hl => ?_)
                        refine x_iinc (k0 := 1) (lv' := [(4, .int (iI (i + 3))), (3, .int (iI (-13))), (0, .ref (g.2.2 37)), (1, .int (iI (d))), (2, .int (iI (wh)))]) hx hb dX12_given_125 hl rfl (by decide) rfl (fun ls hl => ?_)
                        refine lv_goto (tgt := 60) hx hb dX12_given_128 (by decide) ?_
                        exact ih_43 (i + 3) (-13) (by omega) (by omega) (by omega) (by omega) (by first | exact Or.inl ⟨rfl, hY.2.1, hY.2.2.1, hY.2.2.2.1, hY.2.2.2.2.1, hY.2.2.2.2.2.1, fun t h1 h2 => by by_cases e : t = i / 3; (subst e; unfold zGvT zRw; rw [show 3 * (i / 3) = i by omega]; omega); exact hY.2.2.2.2.2.2 t h1 (by omega)⟩ | exact Or.inr ⟨by omega, Or.inr (Or.inr ⟨hY.2.1, hY.2.2.1, hY.2.2.2.1, fun h => by have h1 := h.2.2 (i / 3) (by omega) (by omega); unfold zGvT zRw at h1; rw [show 3 * (i / 3) = i by omega] at h1; omega, rfl⟩)⟩) (by omega) (by omega) ls (lv_sub hl [0, 1, 2, 3, 4] rfl)
                      · refine x_iconst hx hb dX12_given_118 ?_
                        refine lv_goto (tgt := 124) hx hb dX12_given_119 (by decide) ?_
                        refine lv_istore_n (lv' := [(3, .int (iI (0))), (4, .int (iI (i))), (0, .ref (g.2.2 37)), (1, .int (iI (d))), (2, .int (iI (wh)))]) hx hb dX12_given_124 rfl hl (by decide) rfl (fun ls hl => ?_)
                        refine x_iinc (k0 := 1) (lv' := [(4, .int (iI (i + 3))), (3, .int (iI (0))), (0, .ref (g.2.2 37)), (1, .int (iI (d))), (2, .int (iI (wh)))]) hx hb dX12_given_125 hl rfl (by decide) rfl (fun ls hl => ?_)
                        refine lv_goto (tgt := 60) hx hb dX12_given_128 (by decide) ?_
                        exact ih_43 (i + 3) (0) (by omega) (by omega) (by omega) (by omega) (by first | exact Or.inl ⟨rfl, hY.2.1, hY.2.2.1, hY.2.2.2.1, hY.2.2.2.2.1, hY.2.2.2.2.2.1, fun t h1 h2 => by by_cases e : t = i / 3; (subst e; unfold zGvT zRw; rw [show 3 * (i / 3) = i by omega]; omega); exact hY.2.2.2.2.2.2 t h1 (by omega)⟩ | exact Or.inr ⟨by omega, Or.inr (Or.inr ⟨hY.2.1, hY.2.2.1, hY.2.2.2.1, fun h => by have h1 := h.2.2 (i / 3) (by omega) (by omega); unfold zGvT zRw at h1; rw [show 3 * (i / 3) = i by omega] at h1; omega, rfl⟩)⟩) (by omega) (by omega) ls (lv_sub hl [0, 1, 2, 3, 4] rfl)
            exact hloop_60 ((((105 : Int) - (0)).toNat) + 1) (0) ((-13)) (by omega) (by omega) (by omega) (by omega) (by first | exact Or.inl ⟨rfl, by omega, by omega, by omega, by omega, by omega, fun t h1 h2 => by omega⟩ | exact Or.inl ⟨by omega, by omega, by omega, by omega, by omega, by omega, fun t h1 h2 => by omega⟩ | exact Or.inr ⟨by omega, Or.inl ⟨by omega, by omega⟩⟩ | exact Or.inr ⟨by omega, Or.inr (Or.inl ⟨by omega, by omega, by omega, by omega⟩)⟩ | exact Or.inr ⟨by omega, Or.inr (Or.inr ⟨by omega, by omega, by omega, fun h => by have h1 := h.1; have h2 := h.2.1; omega, by omega⟩)⟩) (by omega) (by omega) ls (lv_sub hl [0, 1, 2, 3, 4] rfl)
    · refine x_iconst hx hb dX12_given_17 ?_
      refine lv_goto (tgt := 27) hx hb dX12_given_18 (by decide) ?_
      refine lv_istore_n (lv' := [(3, .int (iI (-1))), (0, .ref (g.2.2 37)), (1, .int (iI (d))), (2, .int (iI (wh)))]) hx hb dX12_given_27 rfl hl (by decide) rfl (fun ls hl => ?_)
      refine lv_iload_n hx hb dX12_given_28 rfl (lv_at hl 0 rfl) ?_
      refine x_if_ne (tgt := 57) hx hb (by omega) dX12_given_29 (by decide) (fun c_29 => ?_) (fun c_29 => ?_)
      · refine x_iconst hx hb dX12_given_57 ?_
        refine lv_istore (lv' := [(4, .int (iI (0))), (3, .int (iI (-1))), (0, .ref (g.2.2 37)), (1, .int (iI (d))), (2, .int (iI (wh)))]) hx hb dX12_given_58 hl (by decide) rfl (fun ls hl => ?_)
        have hloop_60 : ∀ (k : Nat) (i : Int) (no : Int), ((105 : Int) - i).toNat < k → (hi0 : 0 ≤ i ∧ i % 3 = 0) → (hi1 : i ≤ 102) → (hnr : inR no) → (hno : (no = 0 ∧ (0 ≤ d ∧ d ≤ 7) ∧ (0 ≤ wh ∧ wh ≤ 1) ∧ zRowR Kp So d 1 = 0 ∧ Sz d % 3 = 0 ∧ Sz d ≤ 24 ∧ ∀ t, 0 ≤ t → 3 * t < i → zGvT (S 0) (zRw El d) t) ∨ (no ≠ 0 ∧ zGivNo Kp So Sz El (S 0) d wh no)) → (hi2 : no = 0 → i ≤ Sz d) → (hsz : no = 0 → 0 ≤ Sz d) → ∀ (ls : Array Slot), lv_has ls 6 [(4, .int (iI (i))), (3, .int (iI (no))), (0, .ref (g.2.2 37)), (1, .int (iI (d))), (2, .int (iI (wh)))] → W p l e (headSpec wsX12_given ({ frames := 7, cells := 0, slots := 0, locals := 224 })).room s m ([.ref (g.2.2 37), .int (iI (d)), .int (iI (wh))] : List Value).toArray below meth c s.heap [] 0 0 (MQ below (x_Qi g A (fun r σ1 => σ1.2 = σ.2 ∧ (∀ j, j ≠ 38 ∧ j ≠ 41 → σ1.1 j = σ.1 j) ∧ zGivenR Kp So Sz El (mK S) (mF S) (mP S) (S 0) (S 1) d wh r ∧ xBack g σ1.1 S)) ([.ref (g.2.2 37), .int (iI (d)), .int (iI (wh))] : List Value).toArray s (0) (0) A) (F0 m 60 ls []) := by
          intro k
          induction k with
          | zero =>
            intros; exact absurd (by assumption) (Nat.not_lt_zero _)
          | succ k ih =>
            intro i no hmeas hi0 hi1 hnr hno hi2 hsz  ls hl
            have ih_53 := ih
            refine lv_iload_n hx hb dX12_given_60 rfl (lv_at hl 1 rfl) ?_
            refine x_if_ne (tgt := 131) hx hb (by omega) dX12_given_61 (by decide) (fun c_61 => ?_) (fun c_61 => ?_)
            · refine lv_iload_n hx hb dX12_given_131 rfl (lv_at hl 1 rfl) ?_
              refine x_if_eq (tgt := 137) hx hb (by omega) dX12_given_132 (by decide) (fun c_132 => ?_) (fun c_132 => ?_)
              · exfalso; omega
              · refine lv_iload_n hx hb dX12_given_135 rfl (lv_at hl 1 rfl) ?_
                refine x_retQ hx hb hr (by omega) ?_ hP hD hS dX12_given_136 hlocks
                refine ⟨rfl, hfr, ?_, S, Mi, hs0, h41, zKeep_self hok.1⟩
                left
                rcases hno with h | h
                · omega
                · exact h.2
            · have hY := hno.resolve_right (fun h => by omega)
              have hk0 := zRowR_0 rfl hY.2.2.2.1
              have hsd := hsh.2.2.2.2.2.2 d hk0.1 hk0.2.1
              refine lv_iload hx hb dX12_given_64 (lv_at hl 0 rfl) ?_
              refine lv_aload_n hx hb dX12_given_66 rfl (lv_at hl 2 rfl) ?_
              refine x_get (C := RX12) (T := TX12) (N := 24) hx hb hts hin_X12 hown hK hP (37) (by decide) hob rfl 6 (by decide) hw_0 (fun _ h9 => h9) rfl dX12_given_67 ?_
              refine lv_iload_n hx hb dX12_given_70 rfl (lv_at hl 3 rfl) ?_
              refine x_iald (f := Sz) hx hb hK hP (44) (by decide) h44 (by omega) (by omega) (by decide) dX12_given_71 ?_
              have hb_54 := hsh.2.2.1 (d)
              refine x_icmp_ge (tgt := 131) hx hb (by omega) (by omega) dX12_given_72 (by decide) (fun c_72 => ?_) (fun c_72 => ?_)
              · refine lv_iload_n hx hb dX12_given_131 rfl (lv_at hl 1 rfl) ?_
                refine x_if_eq (tgt := 137) hx hb (by omega) dX12_given_132 (by decide) (fun c_132 => ?_) (fun c_132 => ?_)
                · have hY := hno.resolve_right (fun h => by omega)
                  have hYES : zGivYes Kp So Sz El (S 0) d wh := ⟨hY.2.1, hY.2.2.1, hY.2.2.2.1, hY.2.2.2.2.1, hY.2.2.2.2.2.1, fun t h1 h2 => hY.2.2.2.2.2.2 t h1 (by omega)⟩
                  have hsz3 := hY.2.2.2.2.1
                  have hsz24 := hY.2.2.2.2.2.1
                  refine lv_aload_n hx hb dX12_given_137 rfl (lv_at hl 2 rfl) ?_
                  refine x_cqv0 (va_runV (As := []) (rest := []) ⟨hx, hb, hml, hown, hts⟩ (c_X12_begins l g σ A (ov) S Mi hob hs0 h41) (cwV 0 hts gX12_given_X12_begins rfl rfl rfl (by decide +kernel) ⟨Nat.le_of_ble_eq_true rfl, Nat.le_of_ble_eq_true rfl⟩) (x_preVQ hK hP hD hS hA (x_recv hK hP (i := 37) (by decide) hob rfl)) rfl rfl hl.1 rfl (lv_room (Nat.le_of_ble_eq_true rfl)) dX12_given_138 ⟨by decide, by decide⟩) hS (fun σ1 H locs hpost hP hD hS => ?_)
                  obtain ⟨M_55, p1⟩ := σ1
                  obtain ⟨hp0, hfrc, hnew⟩ := hpost
                  obtain rfl : p1 = σ.2 := hp0
                  have hP : xP g (M_55, σ.2) H := hP
                  have hD : xD g A (M_55, σ.2) := hD
                  have hob : MObj g M_55 ov := (hfrc (37) (by omega)).trans hob
                  have hs0 := (hfrc (38) (by omega)).trans hs0
                  have h42 := (hfrc (42) (by omega)).trans h42
                  have h43 := (hfrc (43) (by omega)).trans h43
                  have h44 := (hfrc (44) (by omega)).trans h44
                  have h45 := (hfrc (45) (by omega)).trans h45
                  have h46 := (hfrc (46) (by omega)).trans h46
                  have h47 := (hfrc (47) (by omega)).trans h47
                  have hfr := x_frc (F := fun j => j ≠ 38 ∧ j ≠ 41) hfr hfrc (fun j h => by have h : j ≠ 38 ∧ j ≠ 41 := h; omega)
                  obtain ⟨Mi_56, hMi_56⟩ : ∃ q : Int → Int, q = zCopy S Mi 29 := ⟨_, rfl⟩
                  have h41 : MArr g M_55 41 29 Mi_56 := by rw [hMi_56]; exact hnew
                  refine x_iconst hx hb dX12_given_141 ?_
                  refine lv_istore (lv' := [(4, .int (iI (0))), (3, .int (iI (no))), (0, .ref (g.2.2 37)), (1, .int (iI (d))), (2, .int (iI (wh)))]) hx hb dX12_given_142 hl (by decide) rfl (fun ls hl => ?_)
                  refine x_iconst hx hb dX12_given_144 ?_
                  refine lv_istore (lv' := [(5, .int (iI (0))), (4, .int (iI (0))), (3, .int (iI (no))), (0, .ref (g.2.2 37)), (1, .int (iI (d))), (2, .int (iI (wh)))]) hx hb dX12_given_145 hl (by decide) rfl (fun ls hl => ?_)
                  have hloop_147 : ∀ (k : Nat) (T : Int → Int) (i2 : Int) (ct : Int), (Sz d - i2).toNat < k → (hj0 : 0 ≤ i2 ∧ i2 % 3 = 0) → (hj1 : i2 ≤ Sz d) → (hct : 0 ≤ ct ∧ ct ≤ i2) → (hTo : SmOk T) → (eT0 : T 0 = S 0) → (eT1 : T 1 = S 1) → (eTK : mK T = mK S) → (eTF : mF T = mF S) → (hst : (mP T, ct) = zGvN (zRw El d) (mP S) (S 0) (i2 / 3).toNat) → ∀ (M : xM) (H : Heap) (locs : List Loc), (hob : M (37) = .inr (12, [.ref (g.2.2 38), .ref (g.2.2 39), .ref (g.2.2 40), .ref (g.2.2 41), .ref (g.2.2 42), .ref (g.2.2 43), .ref (g.2.2 44), .ref (g.2.2 45), .ref (g.2.2 46), .ref (g.2.2 47), .int (iI (ov 10)), .int (iI (ov 11)), .int (iI (ov 12)), .int (iI (ov 13)), .int (iI (ov 14)), .int (iI (ov 15)), .ref (g.2.2 48), .int (iI (ov 17)), .int (iI (ov 18)), .int (iI (ov 19)), .int (iI (ov 20)), .int (iI (ov 21)), .ref (g.2.2 49), .int (iI (ov 23))])) → (hs0 : M (38) = .inl (g.2.1 0, 29, .inl (fun k => iI (T (k : Int))))) → (h42 : M (42) = .inl (g.2.1 0, 8, .inl (fun k => iI (Kp (k : Int))))) → (h43 : M (43) = .inl (g.2.1 0, 8, .inl (fun k => iI (So (k : Int))))) → (h44 : M (44) = .inl (g.2.1 0, 8, .inl (fun k => iI (Sz (k : Int))))) → (h45 : M (45) = .inl (g.2.1 0, 800, .inl (fun k => iI (El (k : Int))))) → (h46 : M (46) = .inl (g.2.1 0, 8, .inl (fun k => iI (KK (k : Int))))) → (h47 : M (47) = .inl (g.2.1 0, 8, .inl (fun k => iI (KF (k : Int))))) → (h41 : M (41) = .inl (g.2.1 0, 29, .inl (fun k => iI (Mi_56 (k : Int))))) → (hfr : ∀ j, (j ≠ 38 ∧ j ≠ 41) → M j = σ.1 j) → xP g (M, σ.2) H → xD g A (M, σ.2) → va_S A s.heap H locs → ∀ (ls : Array Slot), lv_has ls 6 [(5, .int (iI (i2))), (4, .int (iI (ct))), (3, .int (iI (no))), (0, .ref (g.2.2 37)), (1, .int (iI (d))), (2, .int (iI (wh)))] → W p l e (headSpec wsX12_given ({ frames := 7, cells := 0, slots := 0, locals := 224 })).room s m ([.ref (g.2.2 37), .int (iI (d)), .int (iI (wh))] : List Value).toArray below meth c H locs 0 0 (MQ below (x_Qi g A (fun r σ1 => σ1.2 = σ.2 ∧ (∀ j, j ≠ 38 ∧ j ≠ 41 → σ1.1 j = σ.1 j) ∧ zGivenR Kp So Sz El (mK S) (mF S) (mP S) (S 0) (S 1) d wh r ∧ xBack g σ1.1 S)) ([.ref (g.2.2 37), .int (iI (d)), .int (iI (wh))] : List Value).toArray s (0) (0) A) (F0 m 147 ls []) := by
                    intro k
                    induction k with
                    | zero =>
                      intros; exact absurd (by assumption) (Nat.not_lt_zero _)
                    | succ k ih =>
                      intro T i2 ct hmeas hj0 hj1 hct hTo eT0 eT1 eTK eTF hst M H locs hob hs0 h42 h43 h44 h45 h46 h47 h41 hfr hP hD hS ls hl
                      have ih_57 := ih
                      refine lv_iload hx hb dX12_given_147 (lv_at hl 0 rfl) ?_
                      refine lv_aload_n hx hb dX12_given_149 rfl (lv_at hl 3 rfl) ?_
                      refine x_get (C := RX12) (T := TX12) (N := 24) hx hb hts hin_X12 hown hK hP (37) (by decide) hob rfl 6 (by decide) hw_0 (fun _ h9 => h9) rfl dX12_given_150 ?_
                      refine lv_iload_n hx hb dX12_given_153 rfl (lv_at hl 4 rfl) ?_
                      refine x_iald (f := Sz) hx hb hK hP (44) (by decide) h44 (by omega) (by omega) (by decide) dX12_given_154 ?_
                      have hb_58 := hsh.2.2.1 (d)
                      refine x_icmp_ge (tgt := 206) hx hb (by omega) (by omega) dX12_given_155 (by decide) (fun c_155 => ?_) (fun c_155 => ?_)
                      · refine lv_aload_n hx hb dX12_given_206 rfl (lv_at hl 3 rfl) ?_
                        refine x_ci (va_runV (As := []) (rest := []) ⟨hx, hb, hml, hown, hts⟩ (c_X12_breachesAll l g (M, σ.2) (ov) T hob hs0 hTo ) (cwV 0 hts gX12_given_X12_breachesAll rfl rfl rfl (by decide +kernel) ⟨Nat.le_of_ble_eq_true rfl, Nat.le_of_ble_eq_true rfl⟩) (x_preV hK hP (x_recv hK hP (i := 37) (by decide) hob rfl)) rfl rfl hl.1 rfl (lv_room (Nat.le_of_ble_eq_true rfl)) dX12_given_207 ⟨Nat.le_of_ble_eq_true rfl, Nat.le_of_ble_eq_true rfl⟩) (fun r_207 hr_207 qr_207 => ?_)
                        replace qr_207 : r_207 = zAll (mK T) (mF T) (mP T) (T 0) (T 1) ∧ 0 ≤ r_207 ∧ r_207 ≤ 18 := qr_207
                        refine lv_istore (lv' := [(5, .int (iI (r_207))), (4, .int (iI (ct))), (3, .int (iI (no))), (0, .ref (g.2.2 37)), (1, .int (iI (d))), (2, .int (iI (wh)))]) hx hb dX12_given_210 hl (by decide) rfl (fun ls hl => ?_)
                        refine lv_aload_n hx hb dX12_given_212 rfl (lv_at hl 3 rfl) ?_
                        refine x_cqv0 (va_runV (As := []) (rest := []) ⟨hx, hb, hml, hown, hts⟩ (c_X12_ends l g (M, σ.2) A (ov) T Mi_56 hob hs0 h41) (cwV 0 hts gX12_given_X12_ends rfl rfl rfl (by decide +kernel) ⟨Nat.le_of_ble_eq_true rfl, Nat.le_of_ble_eq_true rfl⟩) (x_preVQ hK hP hD hS hA (x_recv hK hP (i := 37) (by decide) hob rfl)) rfl rfl hl.1 rfl (lv_room (Nat.le_of_ble_eq_true rfl)) dX12_given_213 ⟨by decide, by decide⟩) hS (fun σ1 H locs hpost hP hD hS => ?_)
                        obtain ⟨M_59, p1⟩ := σ1
                        obtain ⟨hp0, hfrc, hnew⟩ := hpost
                        obtain rfl : p1 = σ.2 := hp0
                        have hP : xP g (M_59, σ.2) H := hP
                        have hD : xD g A (M_59, σ.2) := hD
                        have hob : MObj g M_59 ov := (hfrc (37) (by omega)).trans hob
                        have h42 := (hfrc (42) (by omega)).trans h42
                        have h43 := (hfrc (43) (by omega)).trans h43
                        have h44 := (hfrc (44) (by omega)).trans h44
                        have h45 := (hfrc (45) (by omega)).trans h45
                        have h46 := (hfrc (46) (by omega)).trans h46
                        have h47 := (hfrc (47) (by omega)).trans h47
                        have h41 := (hfrc (41) (by omega)).trans h41
                        have hfr := x_frc (F := fun j => j ≠ 38 ∧ j ≠ 41) hfr hfrc (fun j h => by have h : j ≠ 38 ∧ j ≠ 41 := h; omega)
                        obtain ⟨S_60, hS_60⟩ : ∃ q : Int → Int, q = zCopy Mi_56 T 29 := ⟨_, rfl⟩
                        have hs0 : MArr g M_59 38 29 S_60 := by rw [hS_60]; exact hnew
                        refine lv_iload_n hx hb dX12_given_216 rfl (lv_at hl 5 rfl) ?_
                        refine x_if_ne (tgt := 225) hx hb (by omega) dX12_given_217 (by decide) (fun c_217 => ?_) (fun c_217 => ?_)
                        · refine lv_iload hx hb dX12_given_225 (lv_at hl 1 rfl) ?_
                          refine x_retQ hx hb hr (by omega) ?_ hP hD hS dX12_given_227 hlocks
                          refine ⟨rfl, hfr, Or.inr ⟨hYES, ?_⟩, ?_⟩
                          · have ei : i2 = Sz d := by omega
                            rw [ei] at hst
                            unfold zGiven
                            rw [if_neg (by omega), ← hst]
                          · exact ⟨_, _, hs0, h41, zKeep_back hok.1 hTo.1 hMi_56 hS_60⟩
                        · refine lv_iload hx hb dX12_given_220 (lv_at hl 0 rfl) ?_
                          refine lv_goto (tgt := 227) hx hb dX12_given_222 (by decide) ?_
                          refine x_retQ hx hb hr (by omega) ?_ hP hD hS dX12_given_227 hlocks
                          refine ⟨rfl, hfr, Or.inr ⟨hYES, ?_⟩, ?_⟩
                          · have ei : i2 = Sz d := by omega
                            rw [ei] at hst
                            unfold zGiven
                            rw [if_pos (by omega), ← hst]
                            (show r_207 = zAll (mK S) (mF S) (mP T) (S 0) (S 1))
                            rw [qr_207.1, eTK, eTF, eT0, eT1]
                          · exact ⟨_, _, hs0, h41, zKeep_back hok.1 hTo.1 hMi_56 hS_60⟩
                      · refine lv_iload hx hb dX12_given_158 (lv_at hl 1 rfl) ?_
                        refine lv_aload_n hx hb dX12_given_160 rfl (lv_at hl 3 rfl) ?_
                        refine lv_aload_n hx hb dX12_given_161 rfl (lv_at hl 3 rfl) ?_
                        refine lv_iload_n hx hb dX12_given_162 rfl (lv_at hl 4 rfl) ?_
                        refine lv_iload hx hb dX12_given_163 (lv_at hl 0 rfl) ?_
                        refine x_ci (va_runV (As := [.int (iI (d)), .int (iI (i2))]) (rest := [.ref (g.2.2 37), .int (iI (ct))]) ⟨hx, hb, hml, hown, hts⟩ (c_X12_toldAt l g (M, σ.2) (ov) T hob hs0 hTo Kp So Sz El KK KF h42 h43 h44 h45 h46 h47 hsh (d) (by omega) (i2) (by omega)) (cwV 2 hts gX12_given_X12_toldAt rfl rfl rfl (by decide +kernel) ⟨Nat.le_of_ble_eq_true rfl, Nat.le_of_ble_eq_true rfl⟩) (x_preV hK hP (x_recv hK hP (i := 37) (by decide) hob rfl)) rfl rfl hl.1 rfl (lv_room (Nat.le_of_ble_eq_true rfl)) dX12_given_165 ⟨Nat.le_of_ble_eq_true rfl, Nat.le_of_ble_eq_true rfl⟩) (fun r_165 hr_165 qr_165 => ?_)
                        replace qr_165 : r_165 = El (100 * (d) + (i2)) := qr_165
                        refine lv_aload_n hx hb dX12_given_168 rfl (lv_at hl 3 rfl) ?_
                        refine lv_iload_n hx hb dX12_given_169 rfl (lv_at hl 4 rfl) ?_
                        refine lv_iload hx hb dX12_given_170 (lv_at hl 0 rfl) ?_
                        refine x_iconst hx hb dX12_given_172 ?_
                        refine x_iadd hx hb dX12_given_173 ?_
                        refine x_ci (va_runV (As := [.int (iI (d)), .int (iI (i2 + 1))]) (rest := [.int (iI (r_165)), .ref (g.2.2 37), .int (iI (ct))]) ⟨hx, hb, hml, hown, hts⟩ (c_X12_toldAt l g (M, σ.2) (ov) T hob hs0 hTo Kp So Sz El KK KF h42 h43 h44 h45 h46 h47 hsh (d) (by omega) (i2 + 1) (by omega)) (cwV 2 hts gX12_given_X12_toldAt rfl rfl rfl (by decide +kernel) ⟨Nat.le_of_ble_eq_true rfl, Nat.le_of_ble_eq_true rfl⟩) (x_preV hK hP (x_recv hK hP (i := 37) (by decide) hob rfl)) rfl rfl hl.1 rfl (lv_room (Nat.le_of_ble_eq_true rfl)) dX12_given_174 ⟨Nat.le_of_ble_eq_true rfl, Nat.le_of_ble_eq_true rfl⟩) (fun r_174 hr_174 qr_174 => ?_)
                        replace qr_174 : r_174 = El (100 * (d) + (i2 + 1)) := qr_174
                        refine lv_aload_n hx hb dX12_given_177 rfl (lv_at hl 3 rfl) ?_
                        refine lv_iload_n hx hb dX12_given_178 rfl (lv_at hl 4 rfl) ?_
                        refine lv_iload hx hb dX12_given_179 (lv_at hl 0 rfl) ?_
                        refine x_iconst hx hb dX12_given_181 ?_
                        refine x_iadd hx hb dX12_given_182 ?_
                        refine x_ci (va_runV (As := [.int (iI (d)), .int (iI (i2 + 2))]) (rest := [.int (iI (r_174)), .int (iI (r_165)), .ref (g.2.2 37), .int (iI (ct))]) ⟨hx, hb, hml, hown, hts⟩ (c_X12_toldAt l g (M, σ.2) (ov) T hob hs0 hTo Kp So Sz El KK KF h42 h43 h44 h45 h46 h47 hsh (d) (by omega) (i2 + 2) (by omega)) (cwV 2 hts gX12_given_X12_toldAt rfl rfl rfl (by decide +kernel) ⟨Nat.le_of_ble_eq_true rfl, Nat.le_of_ble_eq_true rfl⟩) (x_preV hK hP (x_recv hK hP (i := 37) (by decide) hob rfl)) rfl rfl hl.1 rfl (lv_room (Nat.le_of_ble_eq_true rfl)) dX12_given_183 ⟨Nat.le_of_ble_eq_true rfl, Nat.le_of_ble_eq_true rfl⟩) (fun r_183 hr_183 qr_183 => ?_)
                        replace qr_183 : r_183 = El (100 * (d) + (i2 + 2)) := qr_183
                        refine x_cqi0 (va_runV (As := [.int (iI (r_165)), .int (iI (r_174)), .int (iI (r_183))]) (rest := [.int (iI (ct))]) ⟨hx, hb, hml, hown, hts⟩ (c_X12_givesIf l g (M, σ.2) A (ov) T hob hs0 hTo (r_165) (by omega) (r_174) (by omega) (r_183) (by omega)) (cwV 3 hts gX12_given_X12_givesIf rfl rfl rfl (by decide +kernel) ⟨Nat.le_of_ble_eq_true rfl, Nat.le_of_ble_eq_true rfl⟩) (x_preVQ hK hP hD hS hA (x_recv hK hP (i := 37) (by decide) hob rfl)) rfl rfl hl.1 rfl (lv_room (Nat.le_of_ble_eq_true rfl)) dX12_given_186 ⟨by decide, by decide⟩) hS (fun r_186 σ1 H locs hr_186 hpost hP hD hS => ?_)
                        obtain ⟨M_61, p1⟩ := σ1
                        obtain ⟨hp0, hfrc, qr_186, hnew⟩ := hpost
                        obtain rfl : p1 = σ.2 := hp0
                        have hP : xP g (M_61, σ.2) H := hP
                        have hD : xD g A (M_61, σ.2) := hD
                        have hob : MObj g M_61 ov := (hfrc (37) (by omega)).trans hob
                        have h42 := (hfrc (42) (by omega)).trans h42
                        have h43 := (hfrc (43) (by omega)).trans h43
                        have h44 := (hfrc (44) (by omega)).trans h44
                        have h45 := (hfrc (45) (by omega)).trans h45
                        have h46 := (hfrc (46) (by omega)).trans h46
                        have h47 := (hfrc (47) (by omega)).trans h47
                        have h41 := (hfrc (41) (by omega)).trans h41
                        have hfr := x_frc (F := fun j => j ≠ 38 ∧ j ≠ 41) hfr hfrc (fun j h => by have h : j ≠ 38 ∧ j ≠ 41 := h; omega)
                        obtain ⟨S_62, hS_62⟩ : ∃ q : Int → Int, q = (if zGiftR (mP T) (T 0) (r_165) (r_174) (r_183) = 0 then zGives T (r_165) (r_174) (r_183) else T) := ⟨_, rfl⟩
                        have hs0 : MArr g M_61 38 29 S_62 := by rw [hS_62]; exact hnew
                        have oS_62 : SmOk S_62 := by rw [hS_62]; exact SmOk_givesIf hTo
                        have pS_62 := oS_62.2.1
                        refine x_if_eq (tgt := 196) hx hb (by omega) dX12_given_189 (by decide) (fun c_189 => ?_) (fun c_189 => ?_)
                        · refine x_iconst hx hb dX12_given_196 ?_
                          refine x_iadd hx hb dX12_given_197 ?_
                          refine lv_istore (lv' := [(4, .int (iI (ct + 0))), (5, .int (iI (i2))), (3, .int (iI (no))), (0, .ref (g.2.2 37)), (1, .int (iI (d))), (2, .int (iI (wh)))]) hx hb dX12_given_198 hl (by decide) rfl (fun ls hl => ?_)
                          refine x_iinc (k0 := 1) (lv' := [(5, .int (iI (i2 + 3))), (4, .int (iI (ct + 0))), (3, .int (iI (no))), (0, .ref (g.2.2 37)), (1, .int (iI (d))), (2, .int (iI (wh)))]) hx hb dX12_given_200 hl rfl (by decide) rfl (fun ls hl => ?_)
                          refine lv_goto (tgt := 147) hx hb dX12_given_203 (by decide) ?_
                          have zz := zGvIf_all (S := T) (a := r_165) (b := r_174) (c := r_183)
                          unfold zGvIf at zz
                          rw [← hS_62] at zz
                          exact ih_57 (S_62) (i2 + 3) (ct + 0) (by omega) (by omega) (by omega) (by omega) (by assumption) (by exact zz.2.2.2.1.trans eT0) (by exact zz.2.2.2.2.trans eT1) (by exact zz.2.1.trans eTK) (by exact zz.2.2.1.trans eTF) (by rw [zGvN_succ _ _ _ hj0.1 hj0.2, ← hst]; rw [zz.1, eT0, qr_165, qr_174, qr_183]; rw [eT0, qr_165, qr_174, qr_183] at qr_186; (show _ = (if zGiftR (mP T) (S 0) (El (100 * d + i2)) (El (100 * d + (i2 + 1))) (El (100 * d + (i2 + 2))) = 0 then (zGift (mP T) (El (100 * d + i2)) (El (100 * d + (i2 + 1))) (El (100 * d + (i2 + 2))), ct + 1) else (mP T, ct))); first | (rw [if_pos (by omega), if_pos (by omega)]; done) | (rw [if_neg (by omega), if_neg (by omega), show ct + 0 = ct by omega]; done)) (M_61) _ _ hob hs0 h42 h43 h44 h45 h46 h47 h41 hfr hP hD hS ls (lv_sub hl [0, 1, 2, 3, 4, 5] rfl)
                        · refine x_iconst hx hb dX12_given_192 ?_
                          refine lv_goto (tgt := 197) hx hb dX12_given_193 (by decide) ?_
                          refine x_iadd hx hb dX12_given_197 ?_
                          refine lv_istore (lv' := [(4, .int (iI (ct + 1))), (5, .int (iI (i2))), (3, .int (iI (no))), (0, .ref (g.2.2 37)), (1, .int (iI (d))), (2, .int (iI (wh)))]) hx hb dX12_given_198 hl (by decide) rfl (fun ls hl => ?_)
                          refine x_iinc (k0 := 1) (lv' := [(5, .int (iI (i2 + 3))), (4, .int (iI (ct + 1))), (3, .int (iI (no))), (0, .ref (g.2.2 37)), (1, .int (iI (d))), (2, .int (iI (wh)))]) hx hb dX12_given_200 hl rfl (by decide) rfl (fun ls hl => ?_)
                          refine lv_goto (tgt := 147) hx hb dX12_given_203 (by decide) ?_
                          have zz := zGvIf_all (S := T) (a := r_165) (b := r_174) (c := r_183)
                          unfold zGvIf at zz
                          rw [← hS_62] at zz
                          exact ih_57 (S_62) (i2 + 3) (ct + 1) (by omega) (by omega) (by omega) (by omega) (by assumption) (by exact zz.2.2.2.1.trans eT0) (by exact zz.2.2.2.2.trans eT1) (by exact zz.2.1.trans eTK) (by exact zz.2.2.1.trans eTF) (by rw [zGvN_succ _ _ _ hj0.1 hj0.2, ← hst]; rw [zz.1, eT0, qr_165, qr_174, qr_183]; rw [eT0, qr_165, qr_174, qr_183] at qr_186; (show _ = (if zGiftR (mP T) (S 0) (El (100 * d + i2)) (El (100 * d + (i2 + 1))) (El (100 * d + (i2 + 2))) = 0 then (zGift (mP T) (El (100 * d + i2)) (El (100 * d + (i2 + 1))) (El (100 * d + (i2 + 2))), ct + 1) else (mP T, ct))); first | (rw [if_pos (by omega), if_pos (by omega)]; done) | (rw [if_neg (by omega), if_neg (by omega), show ct + 0 = ct by omega]; done)) (M_61) _ _ hob hs0 h42 h43 h44 h45 h46 h47 h41 hfr hP hD hS ls (lv_sub hl [0, 1, 2, 3, 4, 5] rfl)
                  exact hloop_147 (((Sz d - (0)).toNat) + 1) (S) (0) (0) (by omega) (by omega) (by omega) (by omega) (by exact hok) (by rfl) (by rfl) (by rfl) (by rfl) (by rfl) (M_55) _ _ hob hs0 h42 h43 h44 h45 h46 h47 h41 hfr hP hD hS ls (lv_sub hl [0, 1, 2, 3, 4, 5] rfl)
                · exfalso; omega
              · refine lv_aload_n hx hb dX12_given_75 rfl (lv_at hl 2 rfl) ?_
                refine lv_aload_n hx hb dX12_given_76 rfl (lv_at hl 2 rfl) ?_
                refine lv_iload_n hx hb dX12_given_77 rfl (lv_at hl 3 rfl) ?_
                refine lv_iload hx hb dX12_given_78 (lv_at hl 0 rfl) ?_
                refine x_ci (va_runV (As := [.int (iI (d)), .int (iI (i))]) (rest := [.ref (g.2.2 37)]) ⟨hx, hb, hml, hown, hts⟩ (c_X12_toldAt l g σ (ov) S hob hs0 hok Kp So Sz El KK KF h42 h43 h44 h45 h46 h47 hsh (d) (by omega) (i) (by omega)) (cwV 2 hts gX12_given_X12_toldAt rfl rfl rfl (by decide +kernel) ⟨Nat.le_of_ble_eq_true rfl, Nat.le_of_ble_eq_true rfl⟩) (x_preV hK hP (x_recv hK hP (i := 37) (by decide) hob rfl)) rfl rfl hl.1 rfl (lv_room (Nat.le_of_ble_eq_true rfl)) dX12_given_80 ⟨Nat.le_of_ble_eq_true rfl, Nat.le_of_ble_eq_true rfl⟩) (fun r_80 hr_80 qr_80 => ?_)
                replace qr_80 : r_80 = El (100 * (d) + (i)) := qr_80
                refine lv_aload_n hx hb dX12_given_83 rfl (lv_at hl 2 rfl) ?_
                refine lv_iload_n hx hb dX12_given_84 rfl (lv_at hl 3 rfl) ?_
                refine lv_iload hx hb dX12_given_85 (lv_at hl 0 rfl) ?_
                refine x_iconst hx hb dX12_given_87 ?_
                refine x_iadd hx hb dX12_given_88 ?_
                refine x_ci (va_runV (As := [.int (iI (d)), .int (iI (i + 1))]) (rest := [.int (iI (r_80)), .ref (g.2.2 37)]) ⟨hx, hb, hml, hown, hts⟩ (c_X12_toldAt l g σ (ov) S hob hs0 hok Kp So Sz El KK KF h42 h43 h44 h45 h46 h47 hsh (d) (by omega) (i + 1) (by omega)) (cwV 2 hts gX12_given_X12_toldAt rfl rfl rfl (by decide +kernel) ⟨Nat.le_of_ble_eq_true rfl, Nat.le_of_ble_eq_true rfl⟩) (x_preV hK hP (x_recv hK hP (i := 37) (by decide) hob rfl)) rfl rfl hl.1 rfl (lv_room (Nat.le_of_ble_eq_true rfl)) dX12_given_89 ⟨Nat.le_of_ble_eq_true rfl, Nat.le_of_ble_eq_true rfl⟩) (fun r_89 hr_89 qr_89 => ?_)
                replace qr_89 : r_89 = El (100 * (d) + (i + 1)) := qr_89
                refine x_ci (va_runV (As := [.int (iI (r_80)), .int (iI (r_89))]) (rest := []) ⟨hx, hb, hml, hown, hts⟩ (c_X12_areTwo l g σ (ov) S hob hs0 hok (r_80) (by omega) (r_89) (by omega)) (cwV 2 hts gX12_given_X12_areTwo rfl rfl rfl (by decide +kernel) ⟨Nat.le_of_ble_eq_true rfl, Nat.le_of_ble_eq_true rfl⟩) (x_preV hK hP (x_recv hK hP (i := 37) (by decide) hob rfl)) rfl rfl hl.1 rfl (lv_room (Nat.le_of_ble_eq_true rfl)) dX12_given_92 ⟨Nat.le_of_ble_eq_true rfl, Nat.le_of_ble_eq_true rfl⟩) (fun r_92 hr_92 qr_92 => ?_)
                replace qr_92 : (r_92 = 1 ∧ (0 ≤ (r_80) ∧ (r_80) < S 0 ∧ 0 ≤ (r_89) ∧ (r_89) < S 0 ∧ (r_80) ≠ (r_89))) ∨ (r_92 = 0 ∧ ¬ (0 ≤ (r_80) ∧ (r_80) < S 0 ∧ 0 ≤ (r_89) ∧ (r_89) < S 0 ∧ (r_80) ≠ (r_89))) := qr_92
                refine x_if_eq (tgt := 122) hx hb (by omega) dX12_given_95 (by decide) (fun c_95 => ?_) (fun c_95 => ?_)
                · refine x_bipush (n := -13) hx hb (by decide +kernel) dX12_given_122 ?_
                  refine lv_istore_n (lv' := [(3, .int (iI (-13))), (4, .int (iI (i))), (0, .ref (g.2.2 37)), (1, .int (iI (d))), (2, .int (iI (wh)))]) hx hb dX12_given_124 rfl hl (by decide) rfl (fun ls hl => ?_)
                  refine x_iinc (k0 := 1) (lv' := [(4, .int (iI (i + 3))), (3, .int (iI (-13))), (0, .ref (g.2.2 37)), (1, .int (iI (d))), (2, .int (iI (wh)))]) hx hb dX12_given_125 hl rfl (by decide) rfl (fun ls hl => ?_)
                  refine lv_goto (tgt := 60) hx hb dX12_given_128 (by decide) ?_
                  exact ih_53 (i + 3) (-13) (by omega) (by omega) (by omega) (by omega) (by first | exact Or.inl ⟨rfl, hY.2.1, hY.2.2.1, hY.2.2.2.1, hY.2.2.2.2.1, hY.2.2.2.2.2.1, fun t h1 h2 => by by_cases e : t = i / 3; (subst e; unfold zGvT zRw; rw [show 3 * (i / 3) = i by omega]; omega); exact hY.2.2.2.2.2.2 t h1 (by omega)⟩ | exact Or.inr ⟨by omega, Or.inr (Or.inr ⟨hY.2.1, hY.2.2.1, hY.2.2.2.1, fun h => by have h1 := h.2.2 (i / 3) (by omega) (by omega); unfold zGvT zRw at h1; rw [show 3 * (i / 3) = i by omega] at h1; omega, rfl⟩)⟩) (by omega) (by omega) ls (lv_sub hl [0, 1, 2, 3, 4] rfl)
                · refine lv_aload_n hx hb dX12_given_98 rfl (lv_at hl 2 rfl) ?_
                  refine lv_iload_n hx hb dX12_given_99 rfl (lv_at hl 3 rfl) ?_
                  refine lv_iload hx hb dX12_given_100 (lv_at hl 0 rfl) ?_
                  refine x_iconst hx hb dX12_given_102 ?_
                  refine x_iadd hx hb dX12_given_103 ?_
                  refine x_ci (va_runV (As := [.int (iI (d)), .int (iI (i + 2))]) (rest := []) ⟨hx, hb, hml, hown, hts⟩ (c_X12_toldAt l g σ (ov) S hob hs0 hok Kp So Sz El KK KF h42 h43 h44 h45 h46 h47 hsh (d) (by omega) (i + 2) (by omega)) (cwV 2 hts gX12_given_X12_toldAt rfl rfl rfl (by decide +kernel) ⟨Nat.le_of_ble_eq_true rfl, Nat.le_of_ble_eq_true rfl⟩) (x_preV hK hP (x_recv hK hP (i := 37) (by decide) hob rfl)) rfl rfl hl.1 rfl (lv_room (Nat.le_of_ble_eq_true rfl)) dX12_given_104 ⟨Nat.le_of_ble_eq_true rfl, Nat.le_of_ble_eq_true rfl⟩) (fun r_104 hr_104 qr_104 => ?_)
                  replace qr_104 : r_104 = El (100 * (d) + (i + 2)) := qr_104
                  refine x_i2l hx hb (by omega) dX12_given_107 ?_
                  refine x_lconst (z := 1) hx hb (by decide +kernel) dX12_given_108 ?_
                  refine x_ldc2 (z := 9999) hx hb hown hw_2 (by decide +kernel) dX12_given_109 ?_
                  refine x_ci (va_runS (As := [.long (jL (r_104)), .long (jL (1)), .long (jL (9999))]) (rest := []) ⟨hx, hb, hml, hown, hts⟩ (c_X12_isIn l g σ (r_104) (by omega) (1) (by omega) (9999) (by omega)) (va_cwS 3 hts gX12_given_X12_isIn rfl rfl rfl (by decide +kernel) ⟨Nat.le_of_ble_eq_true rfl, Nat.le_of_ble_eq_true rfl⟩) (x_preS hK hP) rfl rfl hl.1 rfl (lv_room (Nat.le_of_ble_eq_true rfl)) dX12_given_112 ⟨Nat.le_of_ble_eq_true rfl, Nat.le_of_ble_eq_true rfl⟩) (fun r_112 hr_112 qr_112 => ?_)
                  replace qr_112 : (r_112 = 1 ∧ (1) ≤ (r_104) ∧ (r_104) ≤ (9999)) ∨ (r_112 = 0 ∧ ¬ ((1) ≤ (r_104) ∧ (r_104) ≤ (9999))) := qr_112
                  refine x_if_eq (tgt := 122) hx hb (by omega) dX12_given_115 (by decide) (fun c_115 => ?_) (fun c_115 => ?_)
                  · refine x_bipush (n := -13) hx hb (by decide +kernel) dX12_given_122 ?_
                    refine lv_istore_n (lv' := [(3, .int (iI (-13))), (4, .int (iI (i))), (0, .ref (g.2.2 37)), (1, .int (iI (d))), (2, .int (iI (wh)))]) hx hb dX12_given_124 rfl hl (by decide) rfl (fun ls hl => ?_)
                    refine x_iinc (k0 := 1) (lv' := [(4, .int (iI (i + 3))), (3, .int (iI (-13))), (0, .ref (g.2.2 37)), (1, .int (iI (d))), (2, .int (iI (wh)))]) hx hb dX12_given_125 hl rfl (by decide) rfl (fun ls hl => ?_)
                    refine lv_goto (tgt := 60) hx hb dX12_given_128 (by decide) ?_
                    exact ih_53 (i + 3) (-13) (by omega) (by omega) (by omega) (by omega) (by first | exact Or.inl ⟨rfl, hY.2.1, hY.2.2.1, hY.2.2.2.1, hY.2.2.2.2.1, hY.2.2.2.2.2.1, fun t h1 h2 => by by_cases e : t = i / 3; (subst e; unfold zGvT zRw; rw [show 3 * (i / 3) = i by omega]; omega); exact hY.2.2.2.2.2.2 t h1 (by omega)⟩ | exact Or.inr ⟨by omega, Or.inr (Or.inr ⟨hY.2.1, hY.2.2.1, hY.2.2.2.1, fun h => by have h1 := h.2.2 (i / 3) (by omega) (by omega); unfold zGvT zRw at h1; rw [show 3 * (i / 3) = i by omega] at h1; omega, rfl⟩)⟩) (by omega) (by omega) ls (lv_sub hl [0, 1, 2, 3, 4] rfl)
                  · refine x_iconst hx hb dX12_given_118 ?_
                    refine lv_goto (tgt := 124) hx hb dX12_given_119 (by decide) ?_
                    refine lv_istore_n (lv' := [(3, .int (iI (0))), (4, .int (iI (i))), (0, .ref (g.2.2 37)), (1, .int (iI (d))), (2, .int (iI (wh)))]) hx hb dX12_given_124 rfl hl (by decide) rfl (fun ls hl => ?_)
                    refine x_iinc (k0 := 1) (lv' := [(4, .int (iI (i + 3))), (3, .int (iI (0))), (0, .ref (g.2.2 37)), (1, .int (iI (d))), (2, .int (iI (wh)))]) hx hb dX12_given_125 hl rfl (by decide) rfl (fun ls hl => ?_)
                    refine lv_goto (tgt := 60) hx hb dX12_given_128 (by decide) ?_
                    exact ih_53 (i + 3) (0) (by omega) (by omega) (by omega) (by omega) (by first | exact Or.inl ⟨rfl, hY.2.1, hY.2.2.1, hY.2.2.2.1, hY.2.2.2.2.1, hY.2.2.2.2.2.1, fun t h1 h2 => by by_cases e : t = i / 3; (subst e; unfold zGvT zRw; rw [show 3 * (i / 3) = i by omega]; omega); exact hY.2.2.2.2.2.2 t h1 (by omega)⟩ | exact Or.inr ⟨by omega, Or.inr (Or.inr ⟨hY.2.1, hY.2.2.1, hY.2.2.2.1, fun h => by have h1 := h.2.2 (i / 3) (by omega) (by omega); unfold zGvT zRw at h1; rw [show 3 * (i / 3) = i by omega] at h1; omega, rfl⟩)⟩) (by omega) (by omega) ls (lv_sub hl [0, 1, 2, 3, 4] rfl)
        exact hloop_60 ((((105 : Int) - (0)).toNat) + 1) (0) ((-1)) (by omega) (by omega) (by omega) (by omega) (by first | exact Or.inl ⟨rfl, by omega, by omega, by omega, by omega, by omega, fun t h1 h2 => by omega⟩ | exact Or.inl ⟨by omega, by omega, by omega, by omega, by omega, by omega, fun t h1 h2 => by omega⟩ | exact Or.inr ⟨by omega, Or.inl ⟨by omega, by omega⟩⟩ | exact Or.inr ⟨by omega, Or.inr (Or.inl ⟨by omega, by omega, by omega, by omega⟩)⟩ | exact Or.inr ⟨by omega, Or.inr (Or.inr ⟨by omega, by omega, by omega, fun h => by have h1 := h.1; have h2 := h.2.1; omega, by omega⟩)⟩) (by omega) (by omega) ls (lv_sub hl [0, 1, 2, 3, 4] rfl)
      · exact absurd c_29 (by decide)
