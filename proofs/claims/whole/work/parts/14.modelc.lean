def zSw (a b q : Int) : Int := if q = a then b else if q = b then a else q
def zAllSw (K : Int → Nat) (F P : Int → Int) (n rd a b : Int) : Int := zAll (fun i => K (zSw a b i)) (fun i => F (zSw a b i)) (fun i => P (zSw a b i)) n rd
def zChI (K : Int → Nat) (F P : Int → Int) (n rd i : Int) (st : Int × Int) : Nat → Int × Int
  | 0 => st
  | k + 1 => if zAllSw K F P n rd i (i + 1 + (k : Int)) < (zChI K F P n rd i st k).1 then (zAllSw K F P n rd i (i + 1 + (k : Int)), 10 * i + (i + 1 + (k : Int))) else zChI K F P n rd i st k
def zChO (K : Int → Nat) (F P : Int → Int) (n rd : Int) : Nat → Int × Int
  | 0 => (zAll K F P n rd, -4)
  | k + 1 => zChI K F P n rd (k : Int) (zChO K F P n rd k) (n - 1 - (k : Int)).toNat
def zChange (K : Int → Nat) (F P : Int → Int) (n rd wh : Int) : Int := if ¬ (0 ≤ wh ∧ wh ≤ 1) then -1 else if wh = 0 then (zChO K F P n rd n.toNat).2 else if (zChO K F P n rd n.toNat).2 < 0 then -4 else (zChO K F P n rd n.toNat).1
theorem zChI_step (K : Int → Nat) (F P : Int → Int) (n rd i : Int) (st : Int × Int) {j : Int} (h : i + 1 ≤ j) : zChI K F P n rd i st (j + 1 - (i + 1)).toNat = if zAllSw K F P n rd i j < (zChI K F P n rd i st (j - (i + 1)).toNat).1 then (zAllSw K F P n rd i j, 10 * i + j) else zChI K F P n rd i st (j - (i + 1)).toNat := by
  have e : (j + 1 - (i + 1)).toNat = (j - (i + 1)).toNat + 1 := by omega
  have e2 : i + 1 + (((j - (i + 1)).toNat : Nat) : Int) = j := by omega
  rw [e]
  show (if zAllSw K F P n rd i (i + 1 + (((j - (i + 1)).toNat : Nat) : Int)) < _ then (zAllSw K F P n rd i (i + 1 + (((j - (i + 1)).toNat : Nat) : Int)), 10 * i + (i + 1 + (((j - (i + 1)).toNat : Nat) : Int))) else _) = _
  rw [e2]
theorem zChO_step (K : Int → Nat) (F P : Int → Int) (n rd : Int) {i : Int} (h : 0 ≤ i) : zChO K F P n rd (i + 1).toNat = zChI K F P n rd i (zChO K F P n rd i.toNat) (n - 1 - i).toNat := by
  have e : (i + 1).toNat = i.toNat + 1 := by omega
  rw [e]
  show zChI K F P n rd ((i.toNat : Nat) : Int) (zChO K F P n rd i.toNat) (n - 1 - ((i.toNat : Nat) : Int)).toNat = _
  rw [Int.toNat_of_nonneg h]
/-- what hangs on the houses there alone -/
theorem zLim_congr {K K2 : Int → Nat} {F F2 P P2 : Int → Int} {i j : Int} (hi : K i = K2 i ∧ F i = F2 i) (hj : j = -1 ∨ (K j = K2 j ∧ F j = F2 j ∧ P j = P2 j)) : zLim K F P i j = zLim K2 F2 P2 i j := by
  unfold zLim
  by_cases h : j = -1
  · rw [if_pos h, if_pos h]
  · rcases hj with hj | hj
    · contradiction
    · rw [if_neg h, if_neg h, hj.1, hj.2.1, hj.2.2, hi.1, hi.2]
def zSame (K K2 : Int → Nat) (F F2 P P2 : Int → Int) (n : Int) : Prop := ∀ i, 0 ≤ i → i < n → K i = K2 i ∧ F i = F2 i ∧ P i = P2 i
theorem zLimA {K K2 : Int → Nat} {F F2 P P2 : Int → Int} {n rd i : Int} (h : zSame K K2 F F2 P P2 n) (hi : 0 ≤ i ∧ i < n) : zLim K F P i (zAhead n rd i) = zLim K2 F2 P2 i (zAhead n rd i) := by
  have a := h i hi.1 hi.2
  refine zLim_congr ⟨a.1, a.2.1⟩ ?_
  rcases zAhead_rng n rd i hi with q | q
  · exact Or.inl q
  · exact Or.inr (h _ q.1 q.2)
theorem zLimB {K K2 : Int → Nat} {F F2 P P2 : Int → Int} {n rd i : Int} (h : zSame K K2 F F2 P P2 n) (hi : 0 ≤ i ∧ i < n) : zLim K F P i (zBehind n rd i) = zLim K2 F2 P2 i (zBehind n rd i) := by
  have a := h i hi.1 hi.2
  refine zLim_congr ⟨a.1, a.2.1⟩ ?_
  rcases zBehind_rng n rd i hi with q | q
  · exact Or.inl q
  · exact Or.inr (h _ q.1 q.2)
theorem zBr_congr {K K2 : Int → Nat} {F F2 P P2 : Int → Int} {n rd i : Int} (h : zSame K K2 F F2 P P2 n) (hi : 0 ≤ i ∧ i < n) : zBr K F P n rd i = zBr K2 F2 P2 n rd i := by
  unfold zBr
  rw [zLimA h hi, zLimB h hi, (h i hi.1 hi.2).2.2]
theorem zMost_congr {K K2 : Int → Nat} {F F2 P P2 : Int → Int} {n rd i : Int} (h : zSame K K2 F F2 P P2 n) (hi : 0 ≤ i ∧ i < n) : zMost K F P n rd i = zMost K2 F2 P2 n rd i := by
  unfold zMost
  rw [zLimA h hi, zLimB h hi]
theorem zHold_congr {K K2 : Int → Nat} {F F2 P P2 : Int → Int} {n rd i : Int} (h : zSame K K2 F F2 P P2 n) (hi : 0 ≤ i ∧ i < n) : zHold K F P n rd i = zHold K2 F2 P2 n rd i := by
  unfold zHold
  rw [zLimA h hi, zLimB h hi, (h i hi.1 hi.2).2.2]
theorem zAll_congr {K K2 : Int → Nat} {F F2 P P2 : Int → Int} {n rd : Int} (h : zSame K K2 F F2 P P2 n) : zAll K F P n rd = zAll K2 F2 P2 n rd := by
  unfold zAll
  exact zSum_cong _ _ _ (fun i h1 h2 => zBr_congr h ⟨h1, by omega⟩)
theorem zNone_congr {K K2 : Int → Nat} {F F2 P P2 : Int → Int} {n rd : Int} (h : zSame K K2 F F2 P P2 n) : zNone K F P n rd = zNone K2 F2 P2 n rd := by
  unfold zNone
  exact zSum_cong _ _ _ (fun i h1 h2 => by simp only [zBr_congr (rd := rd) h ⟨h1, by omega⟩])
theorem zAllSw_congr {K K2 : Int → Nat} {F F2 P P2 : Int → Int} {n rd a b : Int} (h : zSame K K2 F F2 P P2 n) (ha : 0 ≤ a ∧ a < n) (hb : 0 ≤ b ∧ b < n) : zAllSw K F P n rd a b = zAllSw K2 F2 P2 n rd a b := by
  unfold zAllSw
  refine zAll_congr (fun i h1 h2 => h _ ?_ ?_)
  · unfold zSw; split
    · omega
    · split <;> omega
  · unfold zSw; split
    · omega
    · split <;> omega
theorem mPs {S : Int → Int} {a b : Int} (h : a ≠ b) (ha : 0 ≤ a) (hb : 0 ≤ b) {n : Int} : zSame (mK (zSwapS S a b)) (fun i => mK S (zSw a b i)) (mF (zSwapS S a b)) (fun i => mF S (zSw a b i)) (mP (zSwapS S a b)) (fun i => mP S (zSw a b i)) n := by
  intro i h1 _
  refine ⟨?_, ?_, ?_⟩
  · unfold mK; rw [zSwapS_at h i 0 (by omega) h1 ha hb]; rfl
  · unfold mF; rw [zSwapS_at h i 1 (by omega) h1 ha hb]; rfl
  · unfold mP; rw [zSwapS_at h i 2 (by omega) h1 ha hb]; rfl
theorem zSwapS_ix {S : Int → Int} {a b : Int} (h : a ≠ b) (ha : 0 ≤ a) (hb : 0 ≤ b) (q : Int) : zSwapS S a b q = S (if 2 + 3 * a ≤ q ∧ q ≤ 2 + 3 * a + 2 then q - 3 * a + 3 * b else if 2 + 3 * b ≤ q ∧ q ≤ 2 + 3 * b + 2 then q - 3 * b + 3 * a else q) := by
  by_cases h2 : q < 2
  · rw [zSwapS_hd ha hb h2, if_neg (by omega), if_neg (by omega)]
  · have e : q = 2 + 3 * ((q - 2) / 3) + (q - 2) % 3 := by omega
    have hk : (q - 2) % 3 = 0 ∨ (q - 2) % 3 = 1 ∨ (q - 2) % 3 = 2 := by omega
    have z := zSwapS_at (S := S) h ((q - 2) / 3) ((q - 2) % 3) hk (by omega) ha hb
    rw [← e] at z
    rw [z]
    congr 1
    split
    · rw [if_pos (by omega)]; omega
    · split
      · rw [if_neg (by omega), if_pos (by omega)]; omega
      · rw [if_neg (by omega), if_neg (by omega)]; omega
theorem zSwapS_two {S : Int → Int} {a b : Int} (h : a ≠ b) (ha : 0 ≤ a) (hb : 0 ≤ b) : zSwapS (zSwapS S a b) a b = S := by
  funext q
  rw [zSwapS_ix h ha hb, zSwapS_ix h ha hb]
  congr 1
  by_cases h1 : 2 + 3 * a ≤ q ∧ q ≤ 2 + 3 * a + 2
  · simp only [if_pos h1]; rw [if_neg (by omega), if_pos (by omega)]; omega
  · by_cases h2 : 2 + 3 * b ≤ q ∧ q ≤ 2 + 3 * b + 2
    · simp only [if_neg h1, if_pos h2]; rw [if_pos (by omega)]; omega
    · simp only [if_neg h1, if_neg h2]

set_option maxHeartbeats 4000000 in
set_option maxRecDepth 100000 in
theorem c_X12_change (l : Launch) (g : xG) (σ : xS) (A : Nat → Prop) (ov : Nat → Int) (S : Int → Int) (hob : MObj g σ.1 ov) (hs0 : MArr g σ.1 38 29 S) (hok : SmOk S) (wh : Int) (hw : inR wh) : Met l yX12_change wsX12_change ({ frames := 7, cells := 0, slots := 0, locals := 224 }) (va_Pc [.ref (g.2.2 37), .int (iI (wh))] (xPreQ g A σ)) (x_Qi g A (fun r σ1 => σ1.2 = σ.2 ∧ (∀ j, j ≠ 38 → σ1.1 j = σ.1 j) ∧ r = zChange (mK S) (mF S) (mP S) (S 0) (S 1) wh ∧ MArr g σ1.1 38 29 S)) (0) (0) A := by
  refine Met.ofW (cc := cX12_change) (maxL := 7) (ret := (some .int)) (by decide) rfl ?_
  intro p e s m args below meth c s₁ B hml hv
  obtain ⟨rfl, hP, hK, hD, hA⟩ := hv
  have hx := B.exec
  have hb := B.bytes
  have hr := B.returns
  have hts := atoms_spec (ws := wsX12_change) B.pre
  have hown : s.vm.findClass RX12 = some m.cls := findClass_of_methodNamed B.named
  have hlocks := B.notSynchronized
  have hS : va_S A s.heap s.heap [] := va_S.rf
  have hfr : ∀ j, (j ≠ 38) → σ.1 j = σ.1 j := fun _ _ => rfl
  have hl := lv_entry ([.ref (g.2.2 37), .int (iI (wh))]) (n := 7) (Nat.le_of_ble_eq_true rfl)
  rw [lg_entry_eq]
  generalize (lg_sl ([.ref (g.2.2 37), .int (iI (wh))]) ++ List.replicate (7 - (lg_sl ([.ref (g.2.2 37), .int (iI (wh))])).length) Slot.unset).toArray = ls at hl ⊢
  have hl : lv_has ls 7 [(0, .ref (g.2.2 37)), (1, .int (iI (wh)))] := hl
  have hn0 := hok.2.1
  have hrd0 := hok.2.2.1
  have hw_0 := hts (.fieldLink RX12 9 "TwiceAsRichModel" "s" "[I") (by decide +kernel)
  have hin_X12 : ∀ w ∈ wsX120, w ∈ wsX12_change := by decide +kernel
  refine lv_iload_n hx hb dX12_change_0 rfl (lv_at hl 1 rfl) ?_
  refine x_i2l hx hb (by omega) dX12_change_1 ?_
  refine x_lconst (z := 0) hx hb (by decide +kernel) dX12_change_2 ?_
  refine x_lconst (z := 1) hx hb (by decide +kernel) dX12_change_3 ?_
  refine x_ci (va_runS (As := [.long (jL (wh)), .long (jL (0)), .long (jL (1))]) (rest := []) ⟨hx, hb, hml, hown, hts⟩ (c_X12_isIn l g σ (wh) (by omega) (0) (by omega) (1) (by omega)) (va_cwS 3 hts gX12_change_X12_isIn rfl rfl rfl (by decide +kernel) ⟨Nat.le_of_ble_eq_true rfl, Nat.le_of_ble_eq_true rfl⟩) (x_preS hK hP) rfl rfl hl.1 rfl (lv_room (Nat.le_of_ble_eq_true rfl)) dX12_change_4 ⟨Nat.le_of_ble_eq_true rfl, Nat.le_of_ble_eq_true rfl⟩) (fun r_4 hr_4 qr_4 => ?_)
  replace qr_4 : (r_4 = 1 ∧ (0) ≤ (wh) ∧ (wh) ≤ (1)) ∨ (r_4 = 0 ∧ ¬ ((0) ≤ (wh) ∧ (wh) ≤ (1))) := qr_4
  refine x_if_ne (tgt := 12) hx hb (by omega) dX12_change_7 (by decide) (fun c_7 => ?_) (fun c_7 => ?_)
  · refine lv_aload_n hx hb dX12_change_12 rfl (lv_at hl 0 rfl) ?_
    refine x_ci (va_runV (As := []) (rest := []) ⟨hx, hb, hml, hown, hts⟩ (c_X12_breachesAll l g σ (ov) S hob hs0 hok ) (cwV 0 hts gX12_change_X12_breachesAll rfl rfl rfl (by decide +kernel) ⟨Nat.le_of_ble_eq_true rfl, Nat.le_of_ble_eq_true rfl⟩) (x_preV hK hP (x_recv hK hP (i := 37) (by decide) hob rfl)) rfl rfl hl.1 rfl (lv_room (Nat.le_of_ble_eq_true rfl)) dX12_change_13 ⟨Nat.le_of_ble_eq_true rfl, Nat.le_of_ble_eq_true rfl⟩) (fun r_13 hr_13 qr_13 => ?_)
    replace qr_13 : r_13 = zAll (mK S) (mF S) (mP S) (S 0) (S 1) ∧ 0 ≤ r_13 ∧ r_13 ≤ 18 := qr_13
    refine lv_istore_n (lv' := [(2, .int (iI (r_13))), (0, .ref (g.2.2 37)), (1, .int (iI (wh)))]) hx hb dX12_change_16 rfl hl (by decide) rfl (fun ls hl => ?_)
    refine x_bipush (n := -4) hx hb (by decide +kernel) dX12_change_17 ?_
    refine lv_istore_n (lv' := [(3, .int (iI (-4))), (2, .int (iI (r_13))), (0, .ref (g.2.2 37)), (1, .int (iI (wh)))]) hx hb dX12_change_19 rfl hl (by decide) rfl (fun ls hl => ?_)
    refine x_iconst hx hb dX12_change_20 ?_
    refine lv_istore (lv' := [(4, .int (iI (0))), (3, .int (iI (-4))), (2, .int (iI (r_13))), (0, .ref (g.2.2 37)), (1, .int (iI (wh)))]) hx hb dX12_change_21 hl (by decide) rfl (fun ls hl => ?_)
    have hloop_23 : ∀ (k : Nat) (a : Int) (ls9 : Int) (bs : Int), (S 0 - a).toNat < k → (ha0 : 0 ≤ a) → (han : a ≤ S 0) → (hst : (ls9, bs) = zChO (mK S) (mF S) (mP S) (S 0) (S 1) a.toNat) → (hlr : 0 ≤ ls9 ∧ ls9 ≤ 18) → (hbr : -4 ≤ bs ∧ bs ≤ 99) → ∀ (M : xM) (H : Heap) (locs : List Loc), (hob : M (37) = .inr (12, [.ref (g.2.2 38), .ref (g.2.2 39), .ref (g.2.2 40), .ref (g.2.2 41), .ref (g.2.2 42), .ref (g.2.2 43), .ref (g.2.2 44), .ref (g.2.2 45), .ref (g.2.2 46), .ref (g.2.2 47), .int (iI (ov 10)), .int (iI (ov 11)), .int (iI (ov 12)), .int (iI (ov 13)), .int (iI (ov 14)), .int (iI (ov 15)), .ref (g.2.2 48), .int (iI (ov 17)), .int (iI (ov 18)), .int (iI (ov 19)), .int (iI (ov 20)), .int (iI (ov 21)), .ref (g.2.2 49), .int (iI (ov 23))])) → (hs0 : M (38) = .inl (g.2.1 0, 29, .inl (fun k => iI (S (k : Int))))) → (hfr : ∀ j, (j ≠ 38) → M j = σ.1 j) → xP g (M, σ.2) H → xD g A (M, σ.2) → va_S A s.heap H locs → ∀ (ls : Array Slot), lv_has ls 7 [(4, .int (iI (a))), (2, .int (iI (ls9))), (3, .int (iI (bs))), (0, .ref (g.2.2 37)), (1, .int (iI (wh)))] → W p l e (headSpec wsX12_change ({ frames := 7, cells := 0, slots := 0, locals := 224 })).room s m ([.ref (g.2.2 37), .int (iI (wh))] : List Value).toArray below meth c H locs 0 0 (MQ below (x_Qi g A (fun r σ1 => σ1.2 = σ.2 ∧ (∀ j, j ≠ 38 → σ1.1 j = σ.1 j) ∧ r = zChange (mK S) (mF S) (mP S) (S 0) (S 1) wh ∧ MArr g σ1.1 38 29 S)) ([.ref (g.2.2 37), .int (iI (wh))] : List Value).toArray s (0) (0) A) (F0 m 23 ls []) := by
      intro k
      induction k with
      | zero =>
        intros; exact absurd (by assumption) (Nat.not_lt_zero _)
      | succ k ih =>
        intro a ls9 bs hmeas ha0 han hst hlr hbr M H locs hob hs0 hfr hP hD hS ls hl
        have ih_1 := ih
        refine lv_iload hx hb dX12_change_23 (lv_at hl 0 rfl) ?_
        refine lv_aload_n hx hb dX12_change_25 rfl (lv_at hl 3 rfl) ?_
        refine x_get (C := RX12) (T := TX12) (N := 24) hx hb hts hin_X12 hown hK hP (37) (by decide) hob rfl 0 (by decide) hw_0 (fun _ h9 => h9) rfl dX12_change_26 ?_
        refine x_iconst hx hb dX12_change_29 ?_
        refine x_iald (f := S) hx hb hK hP (38) (by decide) hs0 (by omega) (by omega) (by decide) dX12_change_30 ?_
        have hb_2 := hok.1 (0)
        refine x_icmp_ge (tgt := 106) hx hb (by omega) (by omega) dX12_change_31 (by decide) (fun c_31 => ?_) (fun c_31 => ?_)
        · refine lv_iload_n hx hb dX12_change_106 rfl (lv_at hl 4 rfl) ?_
          refine x_if_ne (tgt := 114) hx hb (by omega) dX12_change_107 (by decide) (fun c_107 => ?_) (fun c_107 => ?_)
          · refine lv_iload_n hx hb dX12_change_114 rfl (lv_at hl 2 rfl) ?_
            refine x_if_ge (tgt := 123) hx hb (by omega) dX12_change_115 (by decide) (fun c_115 => ?_) (fun c_115 => ?_)
            · refine lv_iload_n hx hb dX12_change_123 rfl (lv_at hl 1 rfl) ?_
              refine x_retQ hx hb hr (by omega) ?_ hP hD hS dX12_change_124 hlocks
              refine ⟨rfl, hfr, ?_⟩
              have e : (S 0).toNat = a.toNat := by omega
              refine ⟨?_, hs0⟩
              unfold zChange
              rw [e, ← hst]
              repeat first | rw [if_pos (by omega)] | rw [if_neg (by omega)]
              all_goals (first | rfl | omega)
            · refine x_bipush (n := -4) hx hb (by decide +kernel) dX12_change_118 ?_
              refine lv_goto (tgt := 124) hx hb dX12_change_120 (by decide) ?_
              refine x_retQ hx hb hr (by omega) ?_ hP hD hS dX12_change_124 hlocks
              refine ⟨rfl, hfr, ?_⟩
              have e : (S 0).toNat = a.toNat := by omega
              refine ⟨?_, hs0⟩
              unfold zChange
              rw [e, ← hst]
              repeat first | rw [if_pos (by omega)] | rw [if_neg (by omega)]
              all_goals (first | rfl | omega)
          · refine lv_iload_n hx hb dX12_change_110 rfl (lv_at hl 2 rfl) ?_
            refine lv_goto (tgt := 124) hx hb dX12_change_111 (by decide) ?_
            refine x_retQ hx hb hr (by omega) ?_ hP hD hS dX12_change_124 hlocks
            refine ⟨rfl, hfr, ?_⟩
            have e : (S 0).toNat = a.toNat := by omega
            refine ⟨?_, hs0⟩
            unfold zChange
            rw [e, ← hst]
            repeat first | rw [if_pos (by omega)] | rw [if_neg (by omega)]
            all_goals (first | rfl | omega)
        · refine lv_iload hx hb dX12_change_34 (lv_at hl 0 rfl) ?_
          refine x_iconst hx hb dX12_change_36 ?_
          refine x_iadd hx hb dX12_change_37 ?_
          refine lv_istore (lv' := [(5, .int (iI (a + 1))), (4, .int (iI (a))), (2, .int (iI (ls9))), (3, .int (iI (bs))), (0, .ref (g.2.2 37)), (1, .int (iI (wh)))]) hx hb dX12_change_38 hl (by decide) rfl (fun ls hl => ?_)
          have hloop_40 : ∀ (k : Nat) (b : Int) (lt : Int) (bt : Int), (S 0 - b).toNat < k → (hb0 : a + 1 ≤ b) → (hbn : b ≤ S 0) → (hst2 : (lt, bt) = zChI (mK S) (mF S) (mP S) (S 0) (S 1) a (ls9, bs) (b - (a + 1)).toNat) → (hlr2 : 0 ≤ lt ∧ lt ≤ 18) → (hbr2 : -4 ≤ bt ∧ bt ≤ 99) → ∀ (M : xM) (H : Heap) (locs : List Loc), (hob : M (37) = .inr (12, [.ref (g.2.2 38), .ref (g.2.2 39), .ref (g.2.2 40), .ref (g.2.2 41), .ref (g.2.2 42), .ref (g.2.2 43), .ref (g.2.2 44), .ref (g.2.2 45), .ref (g.2.2 46), .ref (g.2.2 47), .int (iI (ov 10)), .int (iI (ov 11)), .int (iI (ov 12)), .int (iI (ov 13)), .int (iI (ov 14)), .int (iI (ov 15)), .ref (g.2.2 48), .int (iI (ov 17)), .int (iI (ov 18)), .int (iI (ov 19)), .int (iI (ov 20)), .int (iI (ov 21)), .ref (g.2.2 49), .int (iI (ov 23))])) → (hs0 : M (38) = .inl (g.2.1 0, 29, .inl (fun k => iI (S (k : Int))))) → (hfr : ∀ j, (j ≠ 38) → M j = σ.1 j) → xP g (M, σ.2) H → xD g A (M, σ.2) → va_S A s.heap H locs → ∀ (ls : Array Slot), lv_has ls 7 [(5, .int (iI (b))), (2, .int (iI (lt))), (3, .int (iI (bt))), (4, .int (iI (a))), (0, .ref (g.2.2 37)), (1, .int (iI (wh)))] → W p l e (headSpec wsX12_change ({ frames := 7, cells := 0, slots := 0, locals := 224 })).room s m ([.ref (g.2.2 37), .int (iI (wh))] : List Value).toArray below meth c H locs 0 0 (MQ below (x_Qi g A (fun r σ1 => σ1.2 = σ.2 ∧ (∀ j, j ≠ 38 → σ1.1 j = σ.1 j) ∧ r = zChange (mK S) (mF S) (mP S) (S 0) (S 1) wh ∧ MArr g σ1.1 38 29 S)) ([.ref (g.2.2 37), .int (iI (wh))] : List Value).toArray s (0) (0) A) (F0 m 40 ls []) := by
            intro k
            induction k with
            | zero =>
              intros; exact absurd (by assumption) (Nat.not_lt_zero _)
            | succ k ih =>
              intro b lt bt hmeas hb0 hbn hst2 hlr2 hbr2 M H locs hob hs0 hfr hP hD hS ls hl
              have ih_3 := ih
              refine lv_iload hx hb dX12_change_40 (lv_at hl 0 rfl) ?_
              refine lv_aload_n hx hb dX12_change_42 rfl (lv_at hl 4 rfl) ?_
              refine x_get (C := RX12) (T := TX12) (N := 24) hx hb hts hin_X12 hown hK hP (37) (by decide) hob rfl 0 (by decide) hw_0 (fun _ h9 => h9) rfl dX12_change_43 ?_
              refine x_iconst hx hb dX12_change_46 ?_
              refine x_iald (f := S) hx hb hK hP (38) (by decide) hs0 (by omega) (by omega) (by decide) dX12_change_47 ?_
              have hb_4 := hok.1 (0)
              refine x_icmp_ge (tgt := 100) hx hb (by omega) (by omega) dX12_change_48 (by decide) (fun c_48 => ?_) (fun c_48 => ?_)
              · refine x_iinc (k0 := 3) (lv' := [(4, .int (iI (a + 1))), (5, .int (iI (b))), (2, .int (iI (lt))), (3, .int (iI (bt))), (0, .ref (g.2.2 37)), (1, .int (iI (wh)))]) hx hb dX12_change_100 hl rfl (by decide) rfl (fun ls hl => ?_)
                refine lv_goto (tgt := 23) hx hb dX12_change_103 (by decide) ?_
                exact ih_1 (a + 1) (lt) (bt) (by omega) (by omega) (by omega) (by (rw [zChO_step _ _ _ _ _ ha0, ← hst, hst2]; congr 1; omega)) (by omega) (by omega) (M) _ _ hob hs0 hfr hP hD hS ls (lv_sub hl [0, 2, 3, 4, 5] rfl)
              · refine lv_aload_n hx hb dX12_change_51 rfl (lv_at hl 4 rfl) ?_
                refine lv_iload hx hb dX12_change_52 (lv_at hl 3 rfl) ?_
                refine lv_iload hx hb dX12_change_54 (lv_at hl 0 rfl) ?_
                refine x_cqv0 (va_runV (As := [.int (iI (a)), .int (iI (b))]) (rest := []) ⟨hx, hb, hml, hown, hts⟩ (c_X12_changes l g (M, σ.2) A (ov) S hob hs0 hok (a) (by omega) (b) (by omega) (by omega)) (cwV 2 hts gX12_change_X12_changes rfl rfl rfl (by decide +kernel) ⟨Nat.le_of_ble_eq_true rfl, Nat.le_of_ble_eq_true rfl⟩) (x_preVQ hK hP hD hS hA (x_recv hK hP (i := 37) (by decide) hob rfl)) rfl rfl hl.1 rfl (lv_room (Nat.le_of_ble_eq_true rfl)) dX12_change_56 ⟨by decide, by decide⟩) hS (fun σ1 H locs hpost hP hD hS => ?_)
                obtain ⟨M_5, p1⟩ := σ1
                obtain ⟨hp0, hfrc, hnew⟩ := hpost
                obtain rfl : p1 = σ.2 := hp0
                have hP : xP g (M_5, σ.2) H := hP
                have hD : xD g A (M_5, σ.2) := hD
                have hob : MObj g M_5 ov := (hfrc (37) (by omega)).trans hob
                have hfr := x_frc (F := fun j => j ≠ 38) hfr hfrc (fun j h => by have h : j ≠ 38 := h; omega)
                obtain ⟨S_6, hS_6⟩ : ∃ q : Int → Int, q = zSwapS S (a) (b) := ⟨_, rfl⟩
                have hs0 : MArr g M_5 38 29 S_6 := by rw [hS_6]; exact hnew
                have oS_6 : SmOk S_6 := by rw [hS_6]; exact SmOk_swap hok (by omega) (by omega) (by omega) trivial
                refine lv_aload_n hx hb dX12_change_59 rfl (lv_at hl 4 rfl) ?_
                have hS_s1 := hS_6
                refine x_ci (va_runV (As := []) (rest := []) ⟨hx, hb, hml, hown, hts⟩ (c_X12_breachesAll l g (M_5, σ.2) (ov) S_6 hob hs0 oS_6 ) (cwV 0 hts gX12_change_X12_breachesAll rfl rfl rfl (by decide +kernel) ⟨Nat.le_of_ble_eq_true rfl, Nat.le_of_ble_eq_true rfl⟩) (x_preV hK hP (x_recv hK hP (i := 37) (by decide) hob rfl)) rfl rfl hl.1 rfl (lv_room (Nat.le_of_ble_eq_true rfl)) dX12_change_60 ⟨Nat.le_of_ble_eq_true rfl, Nat.le_of_ble_eq_true rfl⟩) (fun r_60 hr_60 qr_60 => ?_)
                replace qr_60 : r_60 = zAll (mK S_6) (mF S_6) (mP S_6) (S_6 0) (S_6 1) ∧ 0 ≤ r_60 ∧ r_60 ≤ 18 := qr_60
                refine lv_istore (lv' := [(6, .int (iI (r_60))), (5, .int (iI (b))), (2, .int (iI (lt))), (3, .int (iI (bt))), (4, .int (iI (a))), (0, .ref (g.2.2 37)), (1, .int (iI (wh)))]) hx hb dX12_change_63 hl (by decide) rfl (fun ls hl => ?_)
                have hzz : r_60 = zAllSw (mK S) (mF S) (mP S) (S 0) (S 1) a b := by (rw [qr_60.1, hS_6]; rw [show zSwapS S a b 0 = S 0 from zSwapS_hd (by omega) (by omega) (by omega), show zSwapS S a b 1 = S 1 from zSwapS_hd (by omega) (by omega) (by omega)]; exact zAll_congr (mPs (by omega) (by omega) (by omega)))
                have hz0 : S_6 0 = S 0 := by (rw [hS_6]; exact zSwapS_hd (by omega) (by omega) (by omega))
                refine lv_aload_n hx hb dX12_change_65 rfl (lv_at hl 5 rfl) ?_
                refine lv_iload hx hb dX12_change_66 (lv_at hl 4 rfl) ?_
                refine lv_iload hx hb dX12_change_68 (lv_at hl 1 rfl) ?_
                refine x_cqv0 (va_runV (As := [.int (iI (a)), .int (iI (b))]) (rest := []) ⟨hx, hb, hml, hown, hts⟩ (c_X12_changes l g (M_5, σ.2) A (ov) S_6 hob hs0 oS_6 (a) (by omega) (b) (by omega) (by omega)) (cwV 2 hts gX12_change_X12_changes rfl rfl rfl (by decide +kernel) ⟨Nat.le_of_ble_eq_true rfl, Nat.le_of_ble_eq_true rfl⟩) (x_preVQ hK hP hD hS hA (x_recv hK hP (i := 37) (by decide) hob rfl)) rfl rfl hl.1 rfl (lv_room (Nat.le_of_ble_eq_true rfl)) dX12_change_70 ⟨by decide, by decide⟩) hS (fun σ1 H locs hpost hP hD hS => ?_)
                obtain ⟨M_7, p1⟩ := σ1
                obtain ⟨hp0, hfrc, hnew⟩ := hpost
                obtain rfl : p1 = σ.2 := hp0
                have hP : xP g (M_7, σ.2) H := hP
                have hD : xD g A (M_7, σ.2) := hD
                have hob : MObj g M_7 ov := (hfrc (37) (by omega)).trans hob
                have hfr := x_frc (F := fun j => j ≠ 38) hfr hfrc (fun j h => by have h : j ≠ 38 := h; omega)
                obtain ⟨S_8, hS_8⟩ : ∃ q : Int → Int, q = zSwapS S_6 (a) (b) := ⟨_, rfl⟩
                have hs0 : MArr g M_7 38 29 S_8 := by rw [hS_8]; exact hnew
                have oS_8 : SmOk S_8 := by rw [hS_8]; exact SmOk_swap oS_6 (by omega) (by omega) (by omega) trivial
                refine lv_iload hx hb dX12_change_73 (lv_at hl 0 rfl) ?_
                refine lv_iload_n hx hb dX12_change_75 rfl (lv_at hl 2 rfl) ?_
                refine x_icmp_lt (tgt := 82) hx hb (by omega) (by omega) dX12_change_76 (by decide) (fun c_76 => ?_) (fun c_76 => ?_)
                · refine lv_iload hx hb dX12_change_82 (lv_at hl 0 rfl) ?_
                  refine lv_istore_n (lv' := [(2, .int (iI (r_60))), (6, .int (iI (r_60))), (5, .int (iI (b))), (3, .int (iI (bt))), (4, .int (iI (a))), (0, .ref (g.2.2 37)), (1, .int (iI (wh)))]) hx hb dX12_change_84 rfl hl (by decide) rfl (fun ls hl => ?_)
                  refine x_bipush (n := 10) hx hb (by decide +kernel) dX12_change_85 ?_
                  refine lv_iload hx hb dX12_change_87 (lv_at hl 4 rfl) ?_
                  refine x_imul hx hb dX12_change_89 ?_
                  refine lv_iload hx hb dX12_change_90 (lv_at hl 2 rfl) ?_
                  refine x_iadd hx hb dX12_change_92 ?_
                  refine lv_istore_n (lv' := [(3, .int (iI ((10 * a) + b))), (2, .int (iI (r_60))), (6, .int (iI (r_60))), (5, .int (iI (b))), (4, .int (iI (a))), (0, .ref (g.2.2 37)), (1, .int (iI (wh)))]) hx hb dX12_change_93 rfl hl (by decide) rfl (fun ls hl => ?_)
                  refine x_iinc (k0 := 3) (lv' := [(5, .int (iI (b + 1))), (3, .int (iI ((10 * a) + b))), (2, .int (iI (r_60))), (6, .int (iI (r_60))), (4, .int (iI (a))), (0, .ref (g.2.2 37)), (1, .int (iI (wh)))]) hx hb dX12_change_94 hl rfl (by decide) rfl (fun ls hl => ?_)
                  refine lv_goto (tgt := 40) hx hb dX12_change_97 (by decide) ?_
                  have hsw : S_8 = S := by (rw [hS_8, hS_s1]; exact zSwapS_two (by omega) (by omega) (by omega))
                  rw [hsw] at hs0
                  exact ih_3 (b + 1) (r_60) ((10 * a) + b) (by omega) (by omega) (by omega) (by (rw [zChI_step _ _ _ _ _ _ _ (by omega), ← hst2]; simp only; first | (rw [if_pos (by omega)]; congr 1 <;> omega) | (rw [if_neg (by omega)]))) (by omega) (by omega) (M_7) _ _ hob hs0 hfr hP hD hS ls (lv_sub hl [0, 2, 1, 4, 5, 6] rfl)
                · refine lv_goto (tgt := 94) hx hb dX12_change_79 (by decide) ?_
                  refine x_iinc (k0 := 1) (lv' := [(5, .int (iI (b + 1))), (6, .int (iI (r_60))), (2, .int (iI (lt))), (3, .int (iI (bt))), (4, .int (iI (a))), (0, .ref (g.2.2 37)), (1, .int (iI (wh)))]) hx hb dX12_change_94 hl rfl (by decide) rfl (fun ls hl => ?_)
                  refine lv_goto (tgt := 40) hx hb dX12_change_97 (by decide) ?_
                  have hsw : S_8 = S := by (rw [hS_8, hS_s1]; exact zSwapS_two (by omega) (by omega) (by omega))
                  rw [hsw] at hs0
                  exact ih_3 (b + 1) (lt) (bt) (by omega) (by omega) (by omega) (by (rw [zChI_step _ _ _ _ _ _ _ (by omega), ← hst2]; simp only; first | (rw [if_pos (by omega)]; congr 1 <;> omega) | (rw [if_neg (by omega)]))) (by omega) (by omega) (M_7) _ _ hob hs0 hfr hP hD hS ls (lv_sub hl [0, 2, 3, 4, 5, 6] rfl)
          exact hloop_40 (((S 0 - (a + 1)).toNat) + 1) (a + 1) (ls9) (bs) (by omega) (by omega) (by omega) (by (rw [show (a + 1 - (a + 1)).toNat = 0 by omega]; rfl)) (by omega) (by omega) (M) _ _ hob hs0 hfr hP hD hS ls (lv_sub hl [0, 2, 3, 1, 4, 5] rfl)
    exact hloop_23 (((S 0 - (0)).toNat) + 1) (0) (r_13) (-4) (by omega) (by omega) (by omega) (by (rw [qr_13.1]; rfl)) (by omega) (by omega) (σ.1) _ _ hob hs0 hfr hP hD hS ls (lv_sub hl [0, 2, 1, 3, 4] rfl)
  · refine x_iconst hx hb dX12_change_10 ?_
    refine x_retQ hx hb hr (by omega) ?_ hP hD hS dX12_change_11 hlocks
    refine ⟨rfl, hfr, ?_⟩
    exact ⟨by (unfold zChange; repeat first | rw [if_pos (by omega)] | rw [if_neg (by omega)]), hs0⟩
