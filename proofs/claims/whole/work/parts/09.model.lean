/-! ===== the reference: its object, its street ===== -/
def MObj (g : xG) (M : xM) (ov : Nat → Int) : Prop := M 37 = .inr (12, [.ref (g.2.2 38), .ref (g.2.2 39), .ref (g.2.2 40), .ref (g.2.2 41), .ref (g.2.2 42), .ref (g.2.2 43), .ref (g.2.2 44), .ref (g.2.2 45), .ref (g.2.2 46), .ref (g.2.2 47), .int (iI (ov 10)), .int (iI (ov 11)), .int (iI (ov 12)), .int (iI (ov 13)), .int (iI (ov 14)), .int (iI (ov 15)), .ref (g.2.2 48), .int (iI (ov 17)), .int (iI (ov 18)), .int (iI (ov 19)), .int (iI (ov 20)), .int (iI (ov 21)), .ref (g.2.2 49), .int (iI (ov 23))])
abbrev MArr (g : xG) (M : xM) (i n : Nat) (f : Int → Int) : Prop := M i = .inl (g.2.1 0, n, .inl (fun k => iI (f (k : Int))))
def mK (S : Int → Int) (i : Int) : Nat := (S (2 + 3 * i + 0)).toNat
def mF (S : Int → Int) (i : Int) : Int := S (2 + 3 * i + 1)
def mP (S : Int → Int) (i : Int) : Int := S (2 + 3 * i + 2)
def SmOk (S : Int → Int) : Prop := (∀ k, inR (S k)) ∧ (0 ≤ S 0 ∧ S 0 ≤ 9) ∧ (S 1 = 0 ∨ S 1 = 1) ∧ ∀ i, 0 ≤ i → i < S 0 → (0 ≤ S (2 + 3 * i + 0) ∧ S (2 + 3 * i + 0) < 8) ∧ (0 ≤ S (2 + 3 * i + 1) ∧ S (2 + 3 * i + 1) ≤ 9) ∧ (0 ≤ S (2 + 3 * i + 2) ∧ S (2 + 3 * i + 2) ≤ 9999)
def zSide (n rd i side : Int) : Int := if side = 0 then zAhead n rd i else zBehind n rd i
def zSetN (K : Int → Nat) (F P : Int → Int) (n rd i pu : Int) : Nat → Int
  | 0 => 0
  | k + 1 => if zLim K F P i (zSide n rd i (k : Int)) < pu then iOr (zSetN K F P n rd i pu k) (iShl 1 (zSide n rd i (k : Int))) else zSetN K F P n rd i pu k
def zMostN (K : Int → Nat) (F P : Int → Int) (n rd i : Int) : Nat → Int
  | 0 => 9999
  | k + 1 => if zLim K F P i (zSide n rd i (k : Int)) < zMostN K F P n rd i k then zLim K F P i (zSide n rd i (k : Int)) else zMostN K F P n rd i k
theorem zSetN_succ (K : Int → Nat) (F P : Int → Int) (n rd i pu : Int) {k : Int} (h : 0 ≤ k) : zSetN K F P n rd i pu (k + 1).toNat = if zLim K F P i (zSide n rd i k) < pu then iOr (zSetN K F P n rd i pu k.toNat) (iShl 1 (zSide n rd i k)) else zSetN K F P n rd i pu k.toNat := by
  have e : (k + 1).toNat = k.toNat + 1 := by omega
  rw [e]
  show (if zLim K F P i (zSide n rd i ((k.toNat : Nat) : Int)) < pu then _ else _) = _
  rw [Int.toNat_of_nonneg h]
theorem zMostN_succ (K : Int → Nat) (F P : Int → Int) (n rd i : Int) {k : Int} (h : 0 ≤ k) : zMostN K F P n rd i (k + 1).toNat = if zLim K F P i (zSide n rd i k) < zMostN K F P n rd i k.toNat then zLim K F P i (zSide n rd i k) else zMostN K F P n rd i k.toNat := by
  have e : (k + 1).toNat = k.toNat + 1 := by omega
  rw [e]
  show (if zLim K F P i (zSide n rd i ((k.toNat : Nat) : Int)) < _ then _ else _) = _
  rw [Int.toNat_of_nonneg h]
def zPopF : Nat → Int → Int
  | 0, _ => 0
  | k + 1, v => v % 2 + zPopF k (v / 2)
def zPop (v : Int) : Int := zPopF 10 v
theorem zPop_all : ∀ n : Nat, n < 1024 → zPop (n : Int) = (n : Int) % 2 + zPop ((n : Int) / 2) := by decide +kernel
theorem zPop_step {v : Int} (h : 0 ≤ v) (h2 : v < 1024) : zPop v = v % 2 + zPop (v / 2) := by
  have := zPop_all v.toNat (by omega)
  rwa [Int.toNat_of_nonneg h] at this
theorem zPop_0 : zPop 0 = 0 := by decide +kernel
theorem zBit_all : ∀ n : Nat, n < 1024 → iAnd (n : Int) 1 = (n : Int) % 2 ∧ iShr (n : Int) 1 = (n : Int) / 2 := by decide +kernel
theorem zBit {v : Int} (h : 0 ≤ v) (h2 : v < 1024) : iAnd v 1 = v % 2 ∧ iShr v 1 = v / 2 := by
  have := zBit_all v.toNat (by omega)
  rwa [Int.toNat_of_nonneg h] at this
theorem zModA {x n : Int} (hn : 0 < n) (h : x = n - 1) : x % n = n - 1 := by rw [h]; exact Int.emod_eq_of_lt (by omega) (by omega)
theorem zModB {x n : Int} (hn : 0 < n) (h : x = n + n) : x % n = 0 := by rw [h]; simp
theorem zLim_rng (K : Int → Nat) (F P : Int → Int) (i j : Int) (hf : 0 ≤ F i ∧ F i ≤ 9) (hj : j = -1 ∨ (0 ≤ F j ∧ F j ≤ 9 ∧ 0 ≤ P j ∧ P j ≤ 9999)) : 0 ≤ zLim K F P i j ∧ zLim K F P i j ≤ 1000000 := by
  unfold zLim
  split
  · omega
  · split
    · omega
    · rcases hj with h | h
      · contradiction
      · have h1 := zShown_rng (K j) ⟨h.1, h.2.1⟩ (P j) ⟨h.2.2.1, h.2.2.2⟩
        have h2 := zMay_rng (K i) hf _ h1
        omega
theorem zLim_none (K : Int → Nat) (F P : Int → Int) (i : Int) : zLim K F P i (-1) = 1000000 := by unfold zLim; rw [if_pos rfl]
theorem zLim_wall (K : Int → Nat) (F P : Int → Int) (i j : Int) (h : K j = 3) : zLim K F P i j = 1000000 := by
  unfold zLim
  by_cases h0 : j = -1
  · rw [if_pos h0]
  · rw [if_neg h0, if_pos h]
theorem zLim_some (K : Int → Nat) (F P : Int → Int) (i j : Int) (h0 : j ≠ -1) (h : K j ≠ 3) : zLim K F P i j = zMay (K i) (F i) (zShown (K j) (F j) (P j)) := by
  unfold zLim; rw [if_neg h0, if_neg h]
theorem zBits1 : ∀ a : Nat, a < 9 → zPop (iOr 0 (iShl 1 (a : Int))) = 1 ∧ 0 ≤ iOr 0 (iShl 1 (a : Int)) ∧ iOr 0 (iShl 1 (a : Int)) < 512 ∧ iOr 0 (iShl 1 (a : Int)) = iShl 1 (a : Int) ∧ iShl 1 (a : Int) ≠ 0 := by decide +kernel
theorem zBits2 : ∀ a : Nat, a < 9 → ∀ b : Nat, b < 9 → 0 ≤ iOr (iOr 0 (iShl 1 (a : Int))) (iShl 1 (b : Int)) ∧ iOr (iOr 0 (iShl 1 (a : Int))) (iShl 1 (b : Int)) < 512 ∧ iOr (iOr 0 (iShl 1 (a : Int))) (iShl 1 (b : Int)) ≠ 0 ∧ (a ≠ b → zPop (iOr (iOr 0 (iShl 1 (a : Int))) (iShl 1 (b : Int))) = 2) := by decide +kernel
theorem zB1 {a : Int} (h : 0 ≤ a ∧ a < 9) : zPop (iOr 0 (iShl 1 a)) = 1 ∧ 0 ≤ iOr 0 (iShl 1 a) ∧ iOr 0 (iShl 1 a) < 512 ∧ iOr 0 (iShl 1 a) = iShl 1 a ∧ iShl 1 a ≠ 0 := by
  have := zBits1 a.toNat (by omega)
  rwa [Int.toNat_of_nonneg h.1] at this
theorem zB2 {a b : Int} (h : 0 ≤ a ∧ a < 9) (h2 : 0 ≤ b ∧ b < 9) : 0 ≤ iOr (iOr 0 (iShl 1 a)) (iShl 1 b) ∧ iOr (iOr 0 (iShl 1 a)) (iShl 1 b) < 512 ∧ iOr (iOr 0 (iShl 1 a)) (iShl 1 b) ≠ 0 ∧ (a ≠ b → zPop (iOr (iOr 0 (iShl 1 a)) (iShl 1 b)) = 2) := by
  have := zBits2 a.toNat (by omega) b.toNat (by omega)
  rw [Int.toNat_of_nonneg h.1, Int.toNat_of_nonneg h2.1] at this
  exact ⟨this.1, this.2.1, this.2.2.1, fun hne => this.2.2.2 (by omega)⟩
/-- what the set of those beside one says -/
theorem zSetN_2 (K : Int → Nat) (F P : Int → Int) (n rd i pu : Int) (hi : 0 ≤ i ∧ i < n) (hn : n ≤ 9) (hp : pu ≤ 1000000) : 0 ≤ zSetN K F P n rd i pu 2 ∧ zSetN K F P n rd i pu 2 < 512 ∧ zPop (zSetN K F P n rd i pu 2) = (if zLim K F P i (zAhead n rd i) < pu then 1 else 0) + (if zLim K F P i (zBehind n rd i) < pu then 1 else 0) ∧ zSetN K F P n rd i pu 2 = (if zLim K F P i (zBehind n rd i) < pu then iOr (if zLim K F P i (zAhead n rd i) < pu then iShl 1 (zAhead n rd i) else 0) (iShl 1 (zBehind n rd i)) else (if zLim K F P i (zAhead n rd i) < pu then iShl 1 (zAhead n rd i) else 0)) ∧ (zSetN K F P n rd i pu 2 = 0 ↔ ¬ zLim K F P i (zAhead n rd i) < pu ∧ ¬ zLim K F P i (zBehind n rd i) < pu) := by
  have ra := zAhead_rng n rd i hi
  have rb := zBehind_rng n rd i hi
  have hne : zAhead n rd i = -1 ∨ zBehind n rd i = -1 ∨ zAhead n rd i ≠ zBehind n rd i := by
    unfold zAhead zBehind
    split <;> split <;> (try split) <;> (try split) <;> omega
  have ha : zLim K F P i (zAhead n rd i) < pu → 0 ≤ zAhead n rd i ∧ zAhead n rd i < 9 := by
    intro h
    rcases ra with e | e
    · rw [e, zLim_none] at h; omega
    · omega
  have hb : zLim K F P i (zBehind n rd i) < pu → 0 ≤ zBehind n rd i ∧ zBehind n rd i < 9 := by
    intro h
    rcases rb with e | e
    · rw [e, zLim_none] at h; omega
    · omega
  have e : zSetN K F P n rd i pu 2 = (if zLim K F P i (zBehind n rd i) < pu then iOr (if zLim K F P i (zAhead n rd i) < pu then iOr 0 (iShl 1 (zAhead n rd i)) else 0) (iShl 1 (zBehind n rd i)) else (if zLim K F P i (zAhead n rd i) < pu then iOr 0 (iShl 1 (zAhead n rd i)) else 0)) := rfl
  rw [e]
  by_cases h1 : zLim K F P i (zAhead n rd i) < pu
  · have b1 := zB1 (ha h1)
    by_cases h2 : zLim K F P i (zBehind n rd i) < pu
    · have b2 := zB2 (ha h1) (hb h2)
      simp only [if_pos h1, if_pos h2]
      have r1 := ha h1
      have r2 := hb h2
      have b3 := b2.2.2.2 (by omega)
      exact ⟨b2.1, b2.2.1, by rw [b3]; rfl, by rw [b1.2.2.2.1], ⟨fun h => absurd h b2.2.2.1, fun h => absurd h1 h.1⟩⟩
    · simp only [if_pos h1, if_neg h2]
      exact ⟨b1.2.1, b1.2.2.1, by rw [b1.1]; rfl, b1.2.2.2.1, ⟨fun h => absurd (b1.2.2.2.1.symm.trans h) b1.2.2.2.2, fun h => absurd h1 h.1⟩⟩
  · by_cases h2 : zLim K F P i (zBehind n rd i) < pu
    · have b1 := zB1 (hb h2)
      simp only [if_neg h1, if_pos h2]
      exact ⟨b1.2.1, b1.2.2.1, by rw [b1.1]; rfl, by first | rfl | trivial, ⟨fun h => absurd (b1.2.2.2.1.symm.trans h) b1.2.2.2.2, fun h => absurd h2 h.2⟩⟩
    · simp only [if_neg h1, if_neg h2]
      exact ⟨by omega, by omega, by rw [zPop_0]; rfl, by first | rfl | trivial, ⟨fun _ => ⟨h1, h2⟩, fun _ => by first | rfl | trivial⟩⟩
theorem zMostN_2 (K : Int → Nat) (F P : Int → Int) (n rd i : Int) : zMostN K F P n rd i 2 = zMost K F P n rd i := by
  have e : zMostN K F P n rd i 2 = (if zLim K F P i (zBehind n rd i) < (if zLim K F P i (zAhead n rd i) < 9999 then zLim K F P i (zAhead n rd i) else 9999) then zLim K F P i (zBehind n rd i) else (if zLim K F P i (zAhead n rd i) < 9999 then zLim K F P i (zAhead n rd i) else 9999)) := rfl
  rw [e]
  unfold zMost
  split <;> split <;> omega

set_option maxHeartbeats 4000000 in
set_option maxRecDepth 100000 in
theorem c_X12_isIn (l : Launch) (g : xG) (σ : xS)  (v : Int) (hv : inL v) (a : Int) (ha : inL a) (b : Int) (hb9 : inL b) : Met l yX12_isIn wsX12_isIn ({ frames := 1, cells := 0, slots := 0, locals := 32 }) (va_Pc [.long (jL (v)), .long (jL (a)), .long (jL (b))] (xPre g σ)) (x_Si (fun r => (r = 1 ∧ a ≤ v ∧ v ≤ b) ∨ (r = 0 ∧ ¬ (a ≤ v ∧ v ≤ b)))) (0) (0) (fun _ => False) := by
  refine Met.ofW (cc := cX12_isIn) (maxL := 6) (ret := (some .boolean)) (by decide) rfl ?_
  intro p e s m args below meth c s₁ B hml hv
  obtain ⟨rfl, hP, hK⟩ := hv
  have hx := B.exec
  have hb := B.bytes
  have hr := B.returns
  have hts := atoms_spec (ws := wsX12_isIn) B.pre
  have hown : s.vm.findClass RX12 = some m.cls := findClass_of_methodNamed B.named
  have hlocks := B.notSynchronized
  have hl := lv_entry ([.long (jL (v)), .long (jL (a)), .long (jL (b))]) (n := 6) (Nat.le_of_ble_eq_true rfl)
  rw [lg_entry_eq]
  generalize (lg_sl ([.long (jL (v)), .long (jL (a)), .long (jL (b))]) ++ List.replicate (6 - (lg_sl ([.long (jL (v)), .long (jL (a)), .long (jL (b))])).length) Slot.unset).toArray = ls at hl ⊢
  have hl : lv_has ls 6 [(0, .long (jL (v))), (2, .long (jL (a))), (4, .long (jL (b)))] := hl
  refine lv_lload_n hx hb dX12_isIn_0 rfl (lv_at hl 0 rfl) ?_
  refine lv_lload_n hx hb dX12_isIn_1 rfl (lv_at hl 1 rfl) ?_
  refine x_lcmp hx hb (by omega) (by omega) dX12_isIn_2 (fun q_1 hq_1 => ?_)
  refine x_if_lt (tgt := 17) hx hb (by omega) dX12_isIn_3 (by decide) (fun c_3 => ?_) (fun c_3 => ?_)
  · refine x_iconst hx hb dX12_isIn_17 ?_
    refine x_retPz hx hb hr (by omega) ?_ dX12_isIn_18 hlocks
    omega
  · refine lv_lload_n hx hb dX12_isIn_6 rfl (lv_at hl 0 rfl) ?_
    refine lv_lload hx hb dX12_isIn_7 (lv_at hl 2 rfl) ?_
    refine x_lcmp hx hb (by omega) (by omega) dX12_isIn_9 (fun q_2 hq_2 => ?_)
    refine x_if_gt (tgt := 17) hx hb (by omega) dX12_isIn_10 (by decide) (fun c_10 => ?_) (fun c_10 => ?_)
    · refine x_iconst hx hb dX12_isIn_17 ?_
      refine x_retPz hx hb hr (by omega) ?_ dX12_isIn_18 hlocks
      omega
    · refine x_iconst hx hb dX12_isIn_13 ?_
      refine lv_goto (tgt := 18) hx hb dX12_isIn_14 (by decide) ?_
      refine x_retPz hx hb hr (by omega) ?_ dX12_isIn_18 hlocks
      omega

set_option maxHeartbeats 4000000 in
set_option maxRecDepth 100000 in
theorem c_X12_isShelf (l : Launch) (g : xG) (σ : xS)  (d : Int) (hd : inR d) : Met l yX12_isShelf wsX12_isShelf ({ frames := 2, cells := 0, slots := 0, locals := 64 }) (va_Pc [.int (iI (d))] (xPre g σ)) (x_Si (fun r => (r = 1 ∧ 0 ≤ d ∧ d ≤ 7) ∨ (r = 0 ∧ ¬ (0 ≤ d ∧ d ≤ 7)))) (0) (0) (fun _ => False) := by
  refine Met.ofW (cc := cX12_isShelf) (maxL := 1) (ret := (some .boolean)) (by decide) rfl ?_
  intro p e s m args below meth c s₁ B hml hv
  obtain ⟨rfl, hP, hK⟩ := hv
  have hx := B.exec
  have hb := B.bytes
  have hr := B.returns
  have hts := atoms_spec (ws := wsX12_isShelf) B.pre
  have hown : s.vm.findClass RX12 = some m.cls := findClass_of_methodNamed B.named
  have hlocks := B.notSynchronized
  have hl := lv_entry ([.int (iI (d))]) (n := 1) (Nat.le_of_ble_eq_true rfl)
  rw [lg_entry_eq]
  generalize (lg_sl ([.int (iI (d))]) ++ List.replicate (1 - (lg_sl ([.int (iI (d))])).length) Slot.unset).toArray = ls at hl ⊢
  have hl : lv_has ls 1 [(0, .int (iI (d)))] := hl
  have hw_0 := hts (.constantLong RX12 50 (7)) (by decide +kernel)
  refine lv_iload_n hx hb dX12_isShelf_0 rfl (lv_at hl 0 rfl) ?_
  refine x_i2l hx hb (by omega) dX12_isShelf_1 ?_
  refine x_lconst (z := 0) hx hb (by decide +kernel) dX12_isShelf_2 ?_
  refine x_ldc2 (z := 7) hx hb hown hw_0 (by decide +kernel) dX12_isShelf_3 ?_
  refine x_ci (va_runS (As := [.long (jL (d)), .long (jL (0)), .long (jL (7))]) (rest := []) ⟨hx, hb, hml, hown, hts⟩ (c_X12_isIn l g σ (d) (by omega) (0) (by omega) (7) (by omega)) (va_cwS 3 hts gX12_isShelf_X12_isIn rfl rfl rfl (by decide +kernel) ⟨Nat.le_of_ble_eq_true rfl, Nat.le_of_ble_eq_true rfl⟩) (x_preS hK hP) rfl rfl hl.1 rfl (lv_room (Nat.le_of_ble_eq_true rfl)) dX12_isShelf_6 ⟨Nat.le_of_ble_eq_true rfl, Nat.le_of_ble_eq_true rfl⟩) (fun r_6 hr_6 qr_6 => ?_)
  replace qr_6 : (r_6 = 1 ∧ (0) ≤ (d) ∧ (d) ≤ (7)) ∨ (r_6 = 0 ∧ ¬ ((0) ≤ (d) ∧ (d) ≤ (7))) := qr_6
  refine x_retPz hx hb hr (by omega) ?_ dX12_isShelf_9 hlocks
  omega

set_option maxHeartbeats 4000000 in
set_option maxRecDepth 100000 in
theorem c_X12_isHouse (l : Launch) (g : xG) (σ : xS) (ov : Nat → Int) (S : Int → Int) (hob : MObj g σ.1 ov) (hs0 : MArr g σ.1 38 29 S) (hok : SmOk S) (h : Int) (hh : inR h) : Met l yX12_isHouse wsX12_isHouse ({ frames := 2, cells := 0, slots := 0, locals := 64 }) (va_Pc [.ref (g.2.2 37), .int (iI (h))] (xPre g σ)) (x_Si (fun r => (r = 1 ∧ 0 ≤ h ∧ h < S 0) ∨ (r = 0 ∧ ¬ (0 ≤ h ∧ h < S 0)))) (0) (0) (fun _ => False) := by
  refine Met.ofW (cc := cX12_isHouse) (maxL := 2) (ret := (some .boolean)) (by decide) rfl ?_
  intro p e s m args below meth c s₁ B hml hv
  obtain ⟨rfl, hP, hK⟩ := hv
  have hx := B.exec
  have hb := B.bytes
  have hr := B.returns
  have hts := atoms_spec (ws := wsX12_isHouse) B.pre
  have hown : s.vm.findClass RX12 = some m.cls := findClass_of_methodNamed B.named
  have hlocks := B.notSynchronized
  have hl := lv_entry ([.ref (g.2.2 37), .int (iI (h))]) (n := 2) (Nat.le_of_ble_eq_true rfl)
  rw [lg_entry_eq]
  generalize (lg_sl ([.ref (g.2.2 37), .int (iI (h))]) ++ List.replicate (2 - (lg_sl ([.ref (g.2.2 37), .int (iI (h))])).length) Slot.unset).toArray = ls at hl ⊢
  have hl : lv_has ls 2 [(0, .ref (g.2.2 37)), (1, .int (iI (h)))] := hl
  have hn0 := hok.2.1
  have hrd0 := hok.2.2.1
  have hw_0 := hts (.fieldLink RX12 9 "TwiceAsRichModel" "s" "[I") (by decide +kernel)
  have hin_X12 : ∀ w ∈ wsX120, w ∈ wsX12_isHouse := by decide +kernel
  refine lv_iload_n hx hb dX12_isHouse_0 rfl (lv_at hl 1 rfl) ?_
  refine x_i2l hx hb (by omega) dX12_isHouse_1 ?_
  refine x_lconst (z := 0) hx hb (by decide +kernel) dX12_isHouse_2 ?_
  refine lv_aload_n hx hb dX12_isHouse_3 rfl (lv_at hl 0 rfl) ?_
  refine x_get (C := RX12) (T := TX12) (N := 24) hx hb hts hin_X12 hown hK hP (37) (by decide) hob rfl 0 (by decide) hw_0 (fun _ h9 => h9) rfl dX12_isHouse_4 ?_
  refine x_iconst hx hb dX12_isHouse_7 ?_
  refine x_iald (f := S) hx hb hK hP (38) (by decide) hs0 (by omega) (by omega) (by decide) dX12_isHouse_8 ?_
  have hb_1 := hok.1 (0)
  refine x_iconst hx hb dX12_isHouse_9 ?_
  refine x_isub hx hb dX12_isHouse_10 ?_
  refine x_i2l hx hb (by omega) dX12_isHouse_11 ?_
  refine x_ci (va_runS (As := [.long (jL (h)), .long (jL (0)), .long (jL ((S (0)) - 1))]) (rest := []) ⟨hx, hb, hml, hown, hts⟩ (c_X12_isIn l g σ (h) (by omega) (0) (by omega) ((S (0)) - 1) (by omega)) (va_cwS 3 hts gX12_isHouse_X12_isIn rfl rfl rfl (by decide +kernel) ⟨Nat.le_of_ble_eq_true rfl, Nat.le_of_ble_eq_true rfl⟩) (x_preS hK hP) rfl rfl hl.1 rfl (lv_room (Nat.le_of_ble_eq_true rfl)) dX12_isHouse_12 ⟨Nat.le_of_ble_eq_true rfl, Nat.le_of_ble_eq_true rfl⟩) (fun r_12 hr_12 qr_12 => ?_)
  replace qr_12 : (r_12 = 1 ∧ (0) ≤ (h) ∧ (h) ≤ ((S (0)) - 1)) ∨ (r_12 = 0 ∧ ¬ ((0) ≤ (h) ∧ (h) ≤ ((S (0)) - 1))) := qr_12
  refine x_retPz hx hb hr (by omega) ?_ dX12_isHouse_15 hlocks
  omega

set_option maxHeartbeats 4000000 in
set_option maxRecDepth 100000 in
theorem c_X12_areTwo (l : Launch) (g : xG) (σ : xS) (ov : Nat → Int) (S : Int → Int) (hob : MObj g σ.1 ov) (hs0 : MArr g σ.1 38 29 S) (hok : SmOk S) (a : Int) (ha : inR a) (b : Int) (hb9 : inR b) : Met l yX12_areTwo wsX12_areTwo ({ frames := 3, cells := 0, slots := 0, locals := 96 }) (va_Pc [.ref (g.2.2 37), .int (iI (a)), .int (iI (b))] (xPre g σ)) (x_Si (fun r => (r = 1 ∧ (0 ≤ a ∧ a < S 0 ∧ 0 ≤ b ∧ b < S 0 ∧ a ≠ b)) ∨ (r = 0 ∧ ¬ (0 ≤ a ∧ a < S 0 ∧ 0 ≤ b ∧ b < S 0 ∧ a ≠ b)))) (0) (0) (fun _ => False) := by
  refine Met.ofW (cc := cX12_areTwo) (maxL := 3) (ret := (some .boolean)) (by decide) rfl ?_
  intro p e s m args below meth c s₁ B hml hv
  obtain ⟨rfl, hP, hK⟩ := hv
  have hx := B.exec
  have hb := B.bytes
  have hr := B.returns
  have hts := atoms_spec (ws := wsX12_areTwo) B.pre
  have hown : s.vm.findClass RX12 = some m.cls := findClass_of_methodNamed B.named
  have hlocks := B.notSynchronized
  have hl := lv_entry ([.ref (g.2.2 37), .int (iI (a)), .int (iI (b))]) (n := 3) (Nat.le_of_ble_eq_true rfl)
  rw [lg_entry_eq]
  generalize (lg_sl ([.ref (g.2.2 37), .int (iI (a)), .int (iI (b))]) ++ List.replicate (3 - (lg_sl ([.ref (g.2.2 37), .int (iI (a)), .int (iI (b))])).length) Slot.unset).toArray = ls at hl ⊢
  have hl : lv_has ls 3 [(0, .ref (g.2.2 37)), (1, .int (iI (a))), (2, .int (iI (b)))] := hl
  have hn0 := hok.2.1
  have hrd0 := hok.2.2.1
  refine lv_aload_n hx hb dX12_areTwo_0 rfl (lv_at hl 0 rfl) ?_
  refine lv_iload_n hx hb dX12_areTwo_1 rfl (lv_at hl 1 rfl) ?_
  refine x_ci (va_runV (As := [.int (iI (a))]) (rest := []) ⟨hx, hb, hml, hown, hts⟩ (c_X12_isHouse l g σ (ov) S hob hs0 hok (a) (by omega)) (cwV 1 hts gX12_areTwo_X12_isHouse rfl rfl rfl (by decide +kernel) ⟨Nat.le_of_ble_eq_true rfl, Nat.le_of_ble_eq_true rfl⟩) (x_preV hK hP (x_recv hK hP (i := 37) (by decide) hob rfl)) rfl rfl hl.1 rfl (lv_room (Nat.le_of_ble_eq_true rfl)) dX12_areTwo_2 ⟨Nat.le_of_ble_eq_true rfl, Nat.le_of_ble_eq_true rfl⟩) (fun r_2 hr_2 qr_2 => ?_)
  replace qr_2 : (r_2 = 1 ∧ 0 ≤ (a) ∧ (a) < S 0) ∨ (r_2 = 0 ∧ ¬ (0 ≤ (a) ∧ (a) < S 0)) := qr_2
  refine x_if_eq (tgt := 25) hx hb (by omega) dX12_areTwo_5 (by decide) (fun c_5 => ?_) (fun c_5 => ?_)
  · refine x_iconst hx hb dX12_areTwo_25 ?_
    refine x_retPz hx hb hr (by omega) ?_ dX12_areTwo_26 hlocks
    omega
  · refine lv_aload_n hx hb dX12_areTwo_8 rfl (lv_at hl 0 rfl) ?_
    refine lv_iload_n hx hb dX12_areTwo_9 rfl (lv_at hl 2 rfl) ?_
    refine x_ci (va_runV (As := [.int (iI (b))]) (rest := []) ⟨hx, hb, hml, hown, hts⟩ (c_X12_isHouse l g σ (ov) S hob hs0 hok (b) (by omega)) (cwV 1 hts gX12_areTwo_X12_isHouse rfl rfl rfl (by decide +kernel) ⟨Nat.le_of_ble_eq_true rfl, Nat.le_of_ble_eq_true rfl⟩) (x_preV hK hP (x_recv hK hP (i := 37) (by decide) hob rfl)) rfl rfl hl.1 rfl (lv_room (Nat.le_of_ble_eq_true rfl)) dX12_areTwo_10 ⟨Nat.le_of_ble_eq_true rfl, Nat.le_of_ble_eq_true rfl⟩) (fun r_10 hr_10 qr_10 => ?_)
    replace qr_10 : (r_10 = 1 ∧ 0 ≤ (b) ∧ (b) < S 0) ∨ (r_10 = 0 ∧ ¬ (0 ≤ (b) ∧ (b) < S 0)) := qr_10
    refine x_if_eq (tgt := 25) hx hb (by omega) dX12_areTwo_13 (by decide) (fun c_13 => ?_) (fun c_13 => ?_)
    · refine x_iconst hx hb dX12_areTwo_25 ?_
      refine x_retPz hx hb hr (by omega) ?_ dX12_areTwo_26 hlocks
      omega
    · refine lv_iload_n hx hb dX12_areTwo_16 rfl (lv_at hl 1 rfl) ?_
      refine lv_iload_n hx hb dX12_areTwo_17 rfl (lv_at hl 2 rfl) ?_
      refine x_icmp_eq (tgt := 25) hx hb (by omega) (by omega) dX12_areTwo_18 (by decide) (fun c_18 => ?_) (fun c_18 => ?_)
      · refine x_iconst hx hb dX12_areTwo_25 ?_
        refine x_retPz hx hb hr (by omega) ?_ dX12_areTwo_26 hlocks
        omega
      · refine x_iconst hx hb dX12_areTwo_21 ?_
        refine lv_goto (tgt := 26) hx hb dX12_areTwo_22 (by decide) ?_
        refine x_retPz hx hb hr (by omega) ?_ dX12_areTwo_26 hlocks
        omega

set_option maxHeartbeats 4000000 in
set_option maxRecDepth 100000 in
theorem c_X12_get (l : Launch) (g : xG) (σ : xS) (ov : Nat → Int) (S : Int → Int) (hob : MObj g σ.1 ov) (hs0 : MArr g σ.1 38 29 S) (hokr : ∀ k, inR (S k)) (h : Int) (hh : 0 ≤ h ∧ h < 9) (k : Int) (hk : 0 ≤ k ∧ k < 3) : Met l yX12_get wsX12_get ({ frames := 1, cells := 0, slots := 0, locals := 32 }) (va_Pc [.ref (g.2.2 37), .int (iI (h)), .int (iI (k))] (xPre g σ)) (x_Si (fun r => r = S (2 + 3 * h + k))) (0) (0) (fun _ => False) := by
  refine Met.ofW (cc := cX12_get) (maxL := 3) (ret := (some .int)) (by decide) rfl ?_
  intro p e s m args below meth c s₁ B hml hv
  obtain ⟨rfl, hP, hK⟩ := hv
  have hx := B.exec
  have hb := B.bytes
  have hr := B.returns
  have hts := atoms_spec (ws := wsX12_get) B.pre
  have hown : s.vm.findClass RX12 = some m.cls := findClass_of_methodNamed B.named
  have hlocks := B.notSynchronized
  have hl := lv_entry ([.ref (g.2.2 37), .int (iI (h)), .int (iI (k))]) (n := 3) (Nat.le_of_ble_eq_true rfl)
  rw [lg_entry_eq]
  generalize (lg_sl ([.ref (g.2.2 37), .int (iI (h)), .int (iI (k))]) ++ List.replicate (3 - (lg_sl ([.ref (g.2.2 37), .int (iI (h)), .int (iI (k))])).length) Slot.unset).toArray = ls at hl ⊢
  have hl : lv_has ls 3 [(0, .ref (g.2.2 37)), (1, .int (iI (h))), (2, .int (iI (k)))] := hl
  have hw_0 := hts (.fieldLink RX12 9 "TwiceAsRichModel" "s" "[I") (by decide +kernel)
  have hin_X12 : ∀ w ∈ wsX120, w ∈ wsX12_get := by decide +kernel
  refine lv_aload_n hx hb dX12_get_0 rfl (lv_at hl 0 rfl) ?_
  refine x_get (C := RX12) (T := TX12) (N := 24) hx hb hts hin_X12 hown hK hP (37) (by decide) hob rfl 0 (by decide) hw_0 (fun _ h9 => h9) rfl dX12_get_1 ?_
  refine x_iconst hx hb dX12_get_4 ?_
  refine x_iconst hx hb dX12_get_5 ?_
  refine lv_iload_n hx hb dX12_get_6 rfl (lv_at hl 1 rfl) ?_
  refine x_imul hx hb dX12_get_7 ?_
  refine x_iadd hx hb dX12_get_8 ?_
  refine lv_iload_n hx hb dX12_get_9 rfl (lv_at hl 2 rfl) ?_
  refine x_iadd hx hb dX12_get_10 ?_
  refine x_iald (f := S) hx hb hK hP (38) (by decide) hs0 (by omega) (by omega) (by decide) dX12_get_11 ?_
  have hb_1 := hokr ((2 + (3 * h)) + k)
  refine x_retP hx hb hr (by omega) ?_ dX12_get_12 hlocks
  rfl

set_option maxHeartbeats 4000000 in
set_option maxRecDepth 100000 in
theorem c_X12_kind (l : Launch) (g : xG) (σ : xS) (ov : Nat → Int) (S : Int → Int) (hob : MObj g σ.1 ov) (hs0 : MArr g σ.1 38 29 S) (hokr : ∀ k, inR (S k)) (h : Int) (hh : 0 ≤ h ∧ h < 9) : Met l yX12_kind wsX12_kind ({ frames := 2, cells := 0, slots := 0, locals := 64 }) (va_Pc [.ref (g.2.2 37), .int (iI (h))] (xPre g σ)) (x_Si (fun r => r = S (2 + 3 * h + 0))) (0) (0) (fun _ => False) := by
  refine Met.ofW (cc := cX12_kind) (maxL := 2) (ret := (some .int)) (by decide) rfl ?_
  intro p e s m args below meth c s₁ B hml hv
  obtain ⟨rfl, hP, hK⟩ := hv
  have hx := B.exec
  have hb := B.bytes
  have hr := B.returns
  have hts := atoms_spec (ws := wsX12_kind) B.pre
  have hown : s.vm.findClass RX12 = some m.cls := findClass_of_methodNamed B.named
  have hlocks := B.notSynchronized
  have hl := lv_entry ([.ref (g.2.2 37), .int (iI (h))]) (n := 2) (Nat.le_of_ble_eq_true rfl)
  rw [lg_entry_eq]
  generalize (lg_sl ([.ref (g.2.2 37), .int (iI (h))]) ++ List.replicate (2 - (lg_sl ([.ref (g.2.2 37), .int (iI (h))])).length) Slot.unset).toArray = ls at hl ⊢
  have hl : lv_has ls 2 [(0, .ref (g.2.2 37)), (1, .int (iI (h)))] := hl
  refine lv_aload_n hx hb dX12_kind_0 rfl (lv_at hl 0 rfl) ?_
  refine lv_iload_n hx hb dX12_kind_1 rfl (lv_at hl 1 rfl) ?_
  refine x_iconst hx hb dX12_kind_2 ?_
  refine x_ci (va_runV (As := [.int (iI (h)), .int (iI (0))]) (rest := []) ⟨hx, hb, hml, hown, hts⟩ (c_X12_get l g σ (ov) S hob hs0 hokr (h) (by omega) (0) (by omega)) (cwV 2 hts gX12_kind_X12_get rfl rfl rfl (by decide +kernel) ⟨Nat.le_of_ble_eq_true rfl, Nat.le_of_ble_eq_true rfl⟩) (x_preV hK hP (x_recv hK hP (i := 37) (by decide) hob rfl)) rfl rfl hl.1 rfl (lv_room (Nat.le_of_ble_eq_true rfl)) dX12_kind_3 ⟨Nat.le_of_ble_eq_true rfl, Nat.le_of_ble_eq_true rfl⟩) (fun r_3 hr_3 qr_3 => ?_)
  replace qr_3 : r_3 = S (2 + 3 * (h) + (0)) := qr_3
  refine x_retP hx hb hr (by omega) ?_ dX12_kind_6 hlocks
  exact qr_3

set_option maxHeartbeats 4000000 in
set_option maxRecDepth 100000 in
theorem c_X12_figure (l : Launch) (g : xG) (σ : xS) (ov : Nat → Int) (S : Int → Int) (hob : MObj g σ.1 ov) (hs0 : MArr g σ.1 38 29 S) (hokr : ∀ k, inR (S k)) (h : Int) (hh : 0 ≤ h ∧ h < 9) : Met l yX12_figure wsX12_figure ({ frames := 2, cells := 0, slots := 0, locals := 64 }) (va_Pc [.ref (g.2.2 37), .int (iI (h))] (xPre g σ)) (x_Si (fun r => r = S (2 + 3 * h + 1))) (0) (0) (fun _ => False) := by
  refine Met.ofW (cc := cX12_figure) (maxL := 2) (ret := (some .int)) (by decide) rfl ?_
  intro p e s m args below meth c s₁ B hml hv
  obtain ⟨rfl, hP, hK⟩ := hv
  have hx := B.exec
  have hb := B.bytes
  have hr := B.returns
  have hts := atoms_spec (ws := wsX12_figure) B.pre
  have hown : s.vm.findClass RX12 = some m.cls := findClass_of_methodNamed B.named
  have hlocks := B.notSynchronized
  have hl := lv_entry ([.ref (g.2.2 37), .int (iI (h))]) (n := 2) (Nat.le_of_ble_eq_true rfl)
  rw [lg_entry_eq]
  generalize (lg_sl ([.ref (g.2.2 37), .int (iI (h))]) ++ List.replicate (2 - (lg_sl ([.ref (g.2.2 37), .int (iI (h))])).length) Slot.unset).toArray = ls at hl ⊢
  have hl : lv_has ls 2 [(0, .ref (g.2.2 37)), (1, .int (iI (h)))] := hl
  refine lv_aload_n hx hb dX12_figure_0 rfl (lv_at hl 0 rfl) ?_
  refine lv_iload_n hx hb dX12_figure_1 rfl (lv_at hl 1 rfl) ?_
  refine x_iconst hx hb dX12_figure_2 ?_
  refine x_ci (va_runV (As := [.int (iI (h)), .int (iI (1))]) (rest := []) ⟨hx, hb, hml, hown, hts⟩ (c_X12_get l g σ (ov) S hob hs0 hokr (h) (by omega) (1) (by omega)) (cwV 2 hts gX12_figure_X12_get rfl rfl rfl (by decide +kernel) ⟨Nat.le_of_ble_eq_true rfl, Nat.le_of_ble_eq_true rfl⟩) (x_preV hK hP (x_recv hK hP (i := 37) (by decide) hob rfl)) rfl rfl hl.1 rfl (lv_room (Nat.le_of_ble_eq_true rfl)) dX12_figure_3 ⟨Nat.le_of_ble_eq_true rfl, Nat.le_of_ble_eq_true rfl⟩) (fun r_3 hr_3 qr_3 => ?_)
  replace qr_3 : r_3 = S (2 + 3 * (h) + (1)) := qr_3
  refine x_retP hx hb hr (by omega) ?_ dX12_figure_6 hlocks
  exact qr_3

set_option maxHeartbeats 4000000 in
set_option maxRecDepth 100000 in
theorem c_X12_purse (l : Launch) (g : xG) (σ : xS) (ov : Nat → Int) (S : Int → Int) (hob : MObj g σ.1 ov) (hs0 : MArr g σ.1 38 29 S) (hokr : ∀ k, inR (S k)) (h : Int) (hh : 0 ≤ h ∧ h < 9) : Met l yX12_purse wsX12_purse ({ frames := 2, cells := 0, slots := 0, locals := 64 }) (va_Pc [.ref (g.2.2 37), .int (iI (h))] (xPre g σ)) (x_Si (fun r => r = S (2 + 3 * h + 2))) (0) (0) (fun _ => False) := by
  refine Met.ofW (cc := cX12_purse) (maxL := 2) (ret := (some .int)) (by decide) rfl ?_
  intro p e s m args below meth c s₁ B hml hv
  obtain ⟨rfl, hP, hK⟩ := hv
  have hx := B.exec
  have hb := B.bytes
  have hr := B.returns
  have hts := atoms_spec (ws := wsX12_purse) B.pre
  have hown : s.vm.findClass RX12 = some m.cls := findClass_of_methodNamed B.named
  have hlocks := B.notSynchronized
  have hl := lv_entry ([.ref (g.2.2 37), .int (iI (h))]) (n := 2) (Nat.le_of_ble_eq_true rfl)
  rw [lg_entry_eq]
  generalize (lg_sl ([.ref (g.2.2 37), .int (iI (h))]) ++ List.replicate (2 - (lg_sl ([.ref (g.2.2 37), .int (iI (h))])).length) Slot.unset).toArray = ls at hl ⊢
  have hl : lv_has ls 2 [(0, .ref (g.2.2 37)), (1, .int (iI (h)))] := hl
  refine lv_aload_n hx hb dX12_purse_0 rfl (lv_at hl 0 rfl) ?_
  refine lv_iload_n hx hb dX12_purse_1 rfl (lv_at hl 1 rfl) ?_
  refine x_iconst hx hb dX12_purse_2 ?_
  refine x_ci (va_runV (As := [.int (iI (h)), .int (iI (2))]) (rest := []) ⟨hx, hb, hml, hown, hts⟩ (c_X12_get l g σ (ov) S hob hs0 hokr (h) (by omega) (2) (by omega)) (cwV 2 hts gX12_purse_X12_get rfl rfl rfl (by decide +kernel) ⟨Nat.le_of_ble_eq_true rfl, Nat.le_of_ble_eq_true rfl⟩) (x_preV hK hP (x_recv hK hP (i := 37) (by decide) hob rfl)) rfl rfl hl.1 rfl (lv_room (Nat.le_of_ble_eq_true rfl)) dX12_purse_3 ⟨Nat.le_of_ble_eq_true rfl, Nat.le_of_ble_eq_true rfl⟩) (fun r_3 hr_3 qr_3 => ?_)
  replace qr_3 : r_3 = S (2 + 3 * (h) + (2)) := qr_3
  refine x_retP hx hb hr (by omega) ?_ dX12_purse_6 hlocks
  exact qr_3

set_option maxHeartbeats 4000000 in
set_option maxRecDepth 100000 in
theorem c_X12_isLookedAt (l : Launch) (g : xG) (σ : xS) (ov : Nat → Int) (S : Int → Int) (hob : MObj g σ.1 ov) (hs0 : MArr g σ.1 38 29 S) (hok : SmOk S) (h : Int) (hh : 0 ≤ h ∧ h < S 0) : Met l yX12_isLookedAt wsX12_isLookedAt ({ frames := 3, cells := 0, slots := 0, locals := 96 }) (va_Pc [.ref (g.2.2 37), .int (iI (h))] (xPre g σ)) (x_Si (fun r => (r = 1 ∧ mK S h ≠ 3) ∨ (r = 0 ∧ mK S h = 3))) (0) (0) (fun _ => False) := by
  refine Met.ofW (cc := cX12_isLookedAt) (maxL := 2) (ret := (some .boolean)) (by decide) rfl ?_
  intro p e s m args below meth c s₁ B hml hv
  obtain ⟨rfl, hP, hK⟩ := hv
  have hx := B.exec
  have hb := B.bytes
  have hr := B.returns
  have hts := atoms_spec (ws := wsX12_isLookedAt) B.pre
  have hown : s.vm.findClass RX12 = some m.cls := findClass_of_methodNamed B.named
  have hlocks := B.notSynchronized
  have hl := lv_entry ([.ref (g.2.2 37), .int (iI (h))]) (n := 2) (Nat.le_of_ble_eq_true rfl)
  rw [lg_entry_eq]
  generalize (lg_sl ([.ref (g.2.2 37), .int (iI (h))]) ++ List.replicate (2 - (lg_sl ([.ref (g.2.2 37), .int (iI (h))])).length) Slot.unset).toArray = ls at hl ⊢
  have hl : lv_has ls 2 [(0, .ref (g.2.2 37)), (1, .int (iI (h)))] := hl
  have hn0 := hok.2.1
  have hrd0 := hok.2.2.1
  have hok0 := hok.2.2.2 h hh.1 hh.2
  refine lv_aload_n hx hb dX12_isLookedAt_0 rfl (lv_at hl 0 rfl) ?_
  refine lv_iload_n hx hb dX12_isLookedAt_1 rfl (lv_at hl 1 rfl) ?_
  refine x_ci (va_runV (As := [.int (iI (h))]) (rest := []) ⟨hx, hb, hml, hown, hts⟩ (c_X12_kind l g σ (ov) S hob hs0 hok.1 (h) (by omega)) (cwV 1 hts gX12_isLookedAt_X12_kind rfl rfl rfl (by decide +kernel) ⟨Nat.le_of_ble_eq_true rfl, Nat.le_of_ble_eq_true rfl⟩) (x_preV hK hP (x_recv hK hP (i := 37) (by decide) hob rfl)) rfl rfl hl.1 rfl (lv_room (Nat.le_of_ble_eq_true rfl)) dX12_isLookedAt_2 ⟨Nat.le_of_ble_eq_true rfl, Nat.le_of_ble_eq_true rfl⟩) (fun r_2 hr_2 qr_2 => ?_)
  replace qr_2 : r_2 = S (2 + 3 * (h) + 0) := qr_2
  refine x_iconst hx hb dX12_isLookedAt_5 ?_
  refine x_icmp_eq (tgt := 13) hx hb (by omega) (by omega) dX12_isLookedAt_6 (by decide) (fun c_6 => ?_) (fun c_6 => ?_)
  · refine x_iconst hx hb dX12_isLookedAt_13 ?_
    refine x_retPz hx hb hr (by omega) ?_ dX12_isLookedAt_14 hlocks
    unfold mK; omega
  · refine x_iconst hx hb dX12_isLookedAt_9 ?_
    refine lv_goto (tgt := 14) hx hb dX12_isLookedAt_10 (by decide) ?_
    refine x_retPz hx hb hr (by omega) ?_ dX12_isLookedAt_14 hlocks
    unfold mK; omega

set_option maxHeartbeats 4000000 in
set_option maxRecDepth 100000 in
theorem c_X12_shows (l : Launch) (g : xG) (σ : xS) (ov : Nat → Int) (S : Int → Int) (hob : MObj g σ.1 ov) (hs0 : MArr g σ.1 38 29 S) (hok : SmOk S) (h : Int) (hh : 0 ≤ h ∧ h < S 0) : Met l yX12_shows wsX12_shows ({ frames := 3, cells := 0, slots := 0, locals := 96 }) (va_Pc [.ref (g.2.2 37), .int (iI (h))] (xPre g σ)) (x_Si (fun r => r = zShown (mK S h) (mF S h) (mP S h) ∧ 0 ≤ r ∧ r ≤ 10008)) (0) (0) (fun _ => False) := by
  refine Met.ofW (cc := cX12_shows) (maxL := 3) (ret := (some .int)) (by decide) rfl ?_
  intro p e s m args below meth c s₁ B hml hv
  obtain ⟨rfl, hP, hK⟩ := hv
  have hx := B.exec
  have hb := B.bytes
  have hr := B.returns
  have hts := atoms_spec (ws := wsX12_shows) B.pre
  have hown : s.vm.findClass RX12 = some m.cls := findClass_of_methodNamed B.named
  have hlocks := B.notSynchronized
  have hl := lv_entry ([.ref (g.2.2 37), .int (iI (h))]) (n := 3) (Nat.le_of_ble_eq_true rfl)
  rw [lg_entry_eq]
  generalize (lg_sl ([.ref (g.2.2 37), .int (iI (h))]) ++ List.replicate (3 - (lg_sl ([.ref (g.2.2 37), .int (iI (h))])).length) Slot.unset).toArray = ls at hl ⊢
  have hl : lv_has ls 3 [(0, .ref (g.2.2 37)), (1, .int (iI (h)))] := hl
  have hn0 := hok.2.1
  have hrd0 := hok.2.2.1
  have hok0 := hok.2.2.2 h hh.1 hh.2
  refine lv_aload_n hx hb dX12_shows_0 rfl (lv_at hl 0 rfl) ?_
  refine lv_iload_n hx hb dX12_shows_1 rfl (lv_at hl 1 rfl) ?_
  refine x_ci (va_runV (As := [.int (iI (h))]) (rest := []) ⟨hx, hb, hml, hown, hts⟩ (c_X12_purse l g σ (ov) S hob hs0 hok.1 (h) (by omega)) (cwV 1 hts gX12_shows_X12_purse rfl rfl rfl (by decide +kernel) ⟨Nat.le_of_ble_eq_true rfl, Nat.le_of_ble_eq_true rfl⟩) (x_preV hK hP (x_recv hK hP (i := 37) (by decide) hob rfl)) rfl rfl hl.1 rfl (lv_room (Nat.le_of_ble_eq_true rfl)) dX12_shows_2 ⟨Nat.le_of_ble_eq_true rfl, Nat.le_of_ble_eq_true rfl⟩) (fun r_2 hr_2 qr_2 => ?_)
  replace qr_2 : r_2 = S (2 + 3 * (h) + 2) := qr_2
  refine lv_istore_n (lv' := [(2, .int (iI (r_2))), (0, .ref (g.2.2 37)), (1, .int (iI (h)))]) hx hb dX12_shows_5 rfl hl (by decide) rfl (fun ls hl => ?_)
  refine lv_aload_n hx hb dX12_shows_6 rfl (lv_at hl 1 rfl) ?_
  refine lv_iload_n hx hb dX12_shows_7 rfl (lv_at hl 2 rfl) ?_
  refine x_ci (va_runV (As := [.int (iI (h))]) (rest := []) ⟨hx, hb, hml, hown, hts⟩ (c_X12_kind l g σ (ov) S hob hs0 hok.1 (h) (by omega)) (cwV 1 hts gX12_shows_X12_kind rfl rfl rfl (by decide +kernel) ⟨Nat.le_of_ble_eq_true rfl, Nat.le_of_ble_eq_true rfl⟩) (x_preV hK hP (x_recv hK hP (i := 37) (by decide) hob rfl)) rfl rfl hl.1 rfl (lv_room (Nat.le_of_ble_eq_true rfl)) dX12_shows_8 ⟨Nat.le_of_ble_eq_true rfl, Nat.le_of_ble_eq_true rfl⟩) (fun r_8 hr_8 qr_8 => ?_)
  replace qr_8 : r_8 = S (2 + 3 * (h) + 0) := qr_8
  have c_11 : r_8 = 2 ∨ r_8 = 3 ∨ r_8 = 4 ∨ r_8 = 5 ∨ (r_8 ≠ 2 ∧ r_8 ≠ 3 ∧ r_8 ≠ 4 ∧ r_8 ≠ 5) := by omega
  rcases c_11 with c_11 | c_11 | c_11 | c_11 | c_11
  · refine x_tabIn (z := 2) (tgt := 40) hx hb c_11 (by decide) dX12_shows_11 (by decide) (by decide) rfl (by decide) ?_
    refine x_bipush (n := 9) hx hb (by decide +kernel) dX12_shows_40 ?_
    refine lv_iload_n hx hb dX12_shows_42 rfl (lv_at hl 0 rfl) ?_
    refine x_imul hx hb dX12_shows_43 ?_
    refine x_bipush (n := 10) hx hb (by decide +kernel) dX12_shows_44 ?_
    refine x_idiv hx hb (by omega) (by omega) (by omega) (by omega) dX12_shows_46 ?_
    refine x_retP hx hb hr (by omega) ?_ dX12_shows_47 hlocks
    refine ⟨?_, by omega, by omega⟩
    have hp : r_2 = mP S h := qr_2
    have hk : mK S h = 2 := by unfold mK; omega
    rw [hk]
    show _ = mP S h * 9 / 10
    omega
  · refine x_tabIn (z := 3) (tgt := 66) hx hb c_11 (by decide) dX12_shows_11 (by decide) (by decide) rfl (by decide) ?_
    refine lv_iload_n hx hb dX12_shows_66 rfl (lv_at hl 0 rfl) ?_
    refine x_retP hx hb hr (by omega) ?_ dX12_shows_67 hlocks
    refine ⟨?_, by omega, by omega⟩
    have hp : r_2 = mP S h := qr_2
    have hk : mK S h = 0 ∨ mK S h = 1 ∨ mK S h = 3 ∨ mK S h = 6 ∨ mK S h = 7 := by unfold mK; omega
    rcases hk with hk | hk | hk | hk | hk <;> rw [hk] <;> exact hp
  · refine x_tabIn (z := 4) (tgt := 48) hx hb c_11 (by decide) dX12_shows_11 (by decide) (by decide) rfl (by decide) ?_
    refine lv_iload_n hx hb dX12_shows_48 rfl (lv_at hl 0 rfl) ?_
    refine x_iconst hx hb dX12_shows_49 ?_
    refine x_idiv hx hb (by omega) (by omega) (by omega) (by omega) dX12_shows_50 ?_
    refine x_retP hx hb hr (by omega) ?_ dX12_shows_51 hlocks
    refine ⟨?_, by omega, by omega⟩
    have hp : r_2 = mP S h := qr_2
    have hk : mK S h = 4 := by unfold mK; omega
    rw [hk]
    show _ = mP S h / 2
    omega
  · refine x_tabIn (z := 5) (tgt := 52) hx hb c_11 (by decide) dX12_shows_11 (by decide) (by decide) rfl (by decide) ?_
    refine x_bipush (n := 9) hx hb (by decide +kernel) dX12_shows_52 ?_
    refine lv_iload_n hx hb dX12_shows_54 rfl (lv_at hl 0 rfl) ?_
    refine x_imul hx hb dX12_shows_55 ?_
    refine x_bipush (n := 10) hx hb (by decide +kernel) dX12_shows_56 ?_
    refine x_idiv hx hb (by omega) (by omega) (by omega) (by omega) dX12_shows_58 ?_
    refine lv_aload_n hx hb dX12_shows_59 rfl (lv_at hl 1 rfl) ?_
    refine lv_iload_n hx hb dX12_shows_60 rfl (lv_at hl 2 rfl) ?_
    refine x_ci (va_runV (As := [.int (iI (h))]) (rest := [.int (iI ((9 * r_2) / 10))]) ⟨hx, hb, hml, hown, hts⟩ (c_X12_figure l g σ (ov) S hob hs0 hok.1 (h) (by omega)) (cwV 1 hts gX12_shows_X12_figure rfl rfl rfl (by decide +kernel) ⟨Nat.le_of_ble_eq_true rfl, Nat.le_of_ble_eq_true rfl⟩) (x_preV hK hP (x_recv hK hP (i := 37) (by decide) hob rfl)) rfl rfl hl.1 rfl (lv_room (Nat.le_of_ble_eq_true rfl)) dX12_shows_61 ⟨Nat.le_of_ble_eq_true rfl, Nat.le_of_ble_eq_true rfl⟩) (fun r_61 hr_61 qr_61 => ?_)
    replace qr_61 : r_61 = S (2 + 3 * (h) + 1) := qr_61
    refine x_iadd hx hb dX12_shows_64 ?_
    refine x_retP hx hb hr (by omega) ?_ dX12_shows_65 hlocks
    have hf : r_61 = mF S h := qr_61
    refine ⟨?_, by omega, by omega⟩
    have hp : r_2 = mP S h := qr_2
    have hk : mK S h = 5 := by unfold mK; omega
    rw [hk]
    show _ = mP S h * 9 / 10 + mF S h
    omega
  · refine x_tabOut (tgt := 66) hx hb (by omega) dX12_shows_11 (by omega) (by decide) ?_
    refine lv_iload_n hx hb dX12_shows_66 rfl (lv_at hl 0 rfl) ?_
    refine x_retP hx hb hr (by omega) ?_ dX12_shows_67 hlocks
    refine ⟨?_, by omega, by omega⟩
    have hp : r_2 = mP S h := qr_2
    have hk : mK S h = 0 ∨ mK S h = 1 ∨ mK S h = 3 ∨ mK S h = 6 ∨ mK S h = 7 := by unfold mK; omega
    rcases hk with hk | hk | hk | hk | hk <;> rw [hk] <;> exact hp

set_option maxHeartbeats 4000000 in
set_option maxRecDepth 100000 in
theorem c_X12_mayHave (l : Launch) (g : xG) (σ : xS) (ov : Nat → Int) (S : Int → Int) (hob : MObj g σ.1 ov) (hs0 : MArr g σ.1 38 29 S) (hok : SmOk S) (h : Int) (hh : 0 ≤ h ∧ h < S 0) (x : Int) (hx9 : 0 ≤ x ∧ x ≤ 10008) : Met l yX12_mayHave wsX12_mayHave ({ frames := 3, cells := 0, slots := 0, locals := 96 }) (va_Pc [.ref (g.2.2 37), .int (iI (h)), .int (iI (x))] (xPre g σ)) (x_Si (fun r => r = zMay (mK S h) (mF S h) x ∧ 0 ≤ r ∧ r ≤ 50000)) (0) (0) (fun _ => False) := by
  refine Met.ofW (cc := cX12_mayHave) (maxL := 4) (ret := (some .int)) (by decide) rfl ?_
  intro p e s m args below meth c s₁ B hml hv
  obtain ⟨rfl, hP, hK⟩ := hv
  have hx := B.exec
  have hb := B.bytes
  have hr := B.returns
  have hts := atoms_spec (ws := wsX12_mayHave) B.pre
  have hown : s.vm.findClass RX12 = some m.cls := findClass_of_methodNamed B.named
  have hlocks := B.notSynchronized
  have hl := lv_entry ([.ref (g.2.2 37), .int (iI (h)), .int (iI (x))]) (n := 4) (Nat.le_of_ble_eq_true rfl)
  rw [lg_entry_eq]
  generalize (lg_sl ([.ref (g.2.2 37), .int (iI (h)), .int (iI (x))]) ++ List.replicate (4 - (lg_sl ([.ref (g.2.2 37), .int (iI (h)), .int (iI (x))])).length) Slot.unset).toArray = ls at hl ⊢
  have hl : lv_has ls 4 [(0, .ref (g.2.2 37)), (1, .int (iI (h))), (2, .int (iI (x)))] := hl
  have hn0 := hok.2.1
  have hrd0 := hok.2.2.1
  have hok0 := hok.2.2.2 h hh.1 hh.2
  refine lv_aload_n hx hb dX12_mayHave_0 rfl (lv_at hl 0 rfl) ?_
  refine lv_iload_n hx hb dX12_mayHave_1 rfl (lv_at hl 1 rfl) ?_
  refine x_ci (va_runV (As := [.int (iI (h))]) (rest := []) ⟨hx, hb, hml, hown, hts⟩ (c_X12_figure l g σ (ov) S hob hs0 hok.1 (h) (by omega)) (cwV 1 hts gX12_mayHave_X12_figure rfl rfl rfl (by decide +kernel) ⟨Nat.le_of_ble_eq_true rfl, Nat.le_of_ble_eq_true rfl⟩) (x_preV hK hP (x_recv hK hP (i := 37) (by decide) hob rfl)) rfl rfl hl.1 rfl (lv_room (Nat.le_of_ble_eq_true rfl)) dX12_mayHave_2 ⟨Nat.le_of_ble_eq_true rfl, Nat.le_of_ble_eq_true rfl⟩) (fun r_2 hr_2 qr_2 => ?_)
  replace qr_2 : r_2 = S (2 + 3 * (h) + 1) := qr_2
  refine lv_istore_n (lv' := [(3, .int (iI (r_2))), (0, .ref (g.2.2 37)), (1, .int (iI (h))), (2, .int (iI (x)))]) hx hb dX12_mayHave_5 rfl hl (by decide) rfl (fun ls hl => ?_)
  refine lv_aload_n hx hb dX12_mayHave_6 rfl (lv_at hl 1 rfl) ?_
  refine lv_iload_n hx hb dX12_mayHave_7 rfl (lv_at hl 2 rfl) ?_
  refine x_ci (va_runV (As := [.int (iI (h))]) (rest := []) ⟨hx, hb, hml, hown, hts⟩ (c_X12_kind l g σ (ov) S hob hs0 hok.1 (h) (by omega)) (cwV 1 hts gX12_mayHave_X12_kind rfl rfl rfl (by decide +kernel) ⟨Nat.le_of_ble_eq_true rfl, Nat.le_of_ble_eq_true rfl⟩) (x_preV hK hP (x_recv hK hP (i := 37) (by decide) hob rfl)) rfl rfl hl.1 rfl (lv_room (Nat.le_of_ble_eq_true rfl)) dX12_mayHave_8 ⟨Nat.le_of_ble_eq_true rfl, Nat.le_of_ble_eq_true rfl⟩) (fun r_8 hr_8 qr_8 => ?_)
  replace qr_8 : r_8 = S (2 + 3 * (h) + 0) := qr_8
  have c_11 : r_8 = 1 ∨ r_8 = 2 ∨ r_8 = 3 ∨ r_8 = 4 ∨ r_8 = 5 ∨ r_8 = 6 ∨ r_8 = 7 ∨ (r_8 ≠ 1 ∧ r_8 ≠ 2 ∧ r_8 ≠ 3 ∧ r_8 ≠ 4 ∧ r_8 ≠ 5 ∧ r_8 ≠ 6 ∧ r_8 ≠ 7) := by omega
  rcases c_11 with c_11 | c_11 | c_11 | c_11 | c_11 | c_11 | c_11 | c_11
  · refine x_tabIn (z := 1) (tgt := 52) hx hb c_11 (by decide) dX12_mayHave_11 (by decide) (by decide) rfl (by decide) ?_
    refine x_iconst hx hb dX12_mayHave_52 ?_
    refine lv_iload_n hx hb dX12_mayHave_53 rfl (lv_at hl 3 rfl) ?_
    refine x_imul hx hb dX12_mayHave_54 ?_
    refine lv_iload_n hx hb dX12_mayHave_55 rfl (lv_at hl 0 rfl) ?_
    refine x_iadd hx hb dX12_mayHave_56 ?_
    refine x_retP hx hb hr (by omega) ?_ dX12_mayHave_57 hlocks
    have hf : r_2 = mF S h := qr_2
    refine ⟨?_, by omega, by omega⟩
    have hk : mK S h = 1 := by unfold mK; omega
    rw [hk]
    show _ = 2 * x + mF S h
    omega
  · refine x_tabIn (z := 2) (tgt := 91) hx hb c_11 (by decide) dX12_mayHave_11 (by decide) (by decide) rfl (by decide) ?_
    refine x_iconst hx hb dX12_mayHave_91 ?_
    refine lv_iload_n hx hb dX12_mayHave_92 rfl (lv_at hl 3 rfl) ?_
    refine x_imul hx hb dX12_mayHave_93 ?_
    refine x_retP hx hb hr (by omega) ?_ dX12_mayHave_94 hlocks
    refine ⟨?_, by omega, by omega⟩
    have hk : mK S h = 0 ∨ mK S h = 2 ∨ mK S h = 5 := by unfold mK; omega
    rcases hk with hk | hk | hk <;> rw [hk] <;> rfl
  · refine x_tabIn (z := 3) (tgt := 58) hx hb c_11 (by decide) dX12_mayHave_11 (by decide) (by decide) rfl (by decide) ?_
    refine x_sipush (n := 9999) hx hb (by decide +kernel) dX12_mayHave_58 ?_
    refine x_retP hx hb hr (by omega) ?_ dX12_mayHave_61 hlocks
    refine ⟨?_, by omega, by omega⟩
    have hk : mK S h = 3 ∨ mK S h = 7 := by unfold mK; omega
    rcases hk with hk | hk <;> rw [hk] <;> rfl
  · refine x_tabIn (z := 4) (tgt := 62) hx hb c_11 (by decide) dX12_mayHave_11 (by decide) (by decide) rfl (by decide) ?_
    refine x_iconst hx hb dX12_mayHave_62 ?_
    refine lv_iload_n hx hb dX12_mayHave_63 rfl (lv_at hl 3 rfl) ?_
    refine x_imul hx hb dX12_mayHave_64 ?_
    refine lv_iload_n hx hb dX12_mayHave_65 rfl (lv_at hl 0 rfl) ?_
    refine x_iadd hx hb dX12_mayHave_66 ?_
    refine x_iconst hx hb dX12_mayHave_67 ?_
    refine x_icmp_ge (tgt := 75) hx hb (by omega) (by omega) dX12_mayHave_68 (by decide) (fun c_68 => ?_) (fun c_68 => ?_)
    · refine x_iconst hx hb dX12_mayHave_75 ?_
      refine lv_iload_n hx hb dX12_mayHave_76 rfl (lv_at hl 3 rfl) ?_
      refine x_imul hx hb dX12_mayHave_77 ?_
      refine lv_iload_n hx hb dX12_mayHave_78 rfl (lv_at hl 0 rfl) ?_
      refine x_iadd hx hb dX12_mayHave_79 ?_
      refine x_iconst hx hb dX12_mayHave_80 ?_
      refine x_isub hx hb dX12_mayHave_81 ?_
      refine x_retP hx hb hr (by omega) ?_ dX12_mayHave_82 hlocks
      have hf : r_2 = mF S h := qr_2
      refine ⟨?_, by omega, by omega⟩
      have hk : mK S h = 4 := by unfold mK; omega
      rw [hk]
      show _ = (if 2 * x + mF S h < 1 then 0 else 2 * x + mF S h - 1)
      split <;> omega
    · refine x_iconst hx hb dX12_mayHave_71 ?_
      refine lv_goto (tgt := 82) hx hb dX12_mayHave_72 (by decide) ?_
      refine x_retP hx hb hr (by omega) ?_ dX12_mayHave_82 hlocks
      have hf : r_2 = mF S h := qr_2
      refine ⟨?_, by omega, by omega⟩
      have hk : mK S h = 4 := by unfold mK; omega
      rw [hk]
      show _ = (if 2 * x + mF S h < 1 then 0 else 2 * x + mF S h - 1)
      split <;> omega
  · refine x_tabIn (z := 5) (tgt := 91) hx hb c_11 (by decide) dX12_mayHave_11 (by decide) (by decide) rfl (by decide) ?_
    refine x_iconst hx hb dX12_mayHave_91 ?_
    refine lv_iload_n hx hb dX12_mayHave_92 rfl (lv_at hl 3 rfl) ?_
    refine x_imul hx hb dX12_mayHave_93 ?_
    refine x_retP hx hb hr (by omega) ?_ dX12_mayHave_94 hlocks
    refine ⟨?_, by omega, by omega⟩
    have hk : mK S h = 0 ∨ mK S h = 2 ∨ mK S h = 5 := by unfold mK; omega
    rcases hk with hk | hk | hk <;> rw [hk] <;> rfl
  · refine x_tabIn (z := 6) (tgt := 83) hx hb c_11 (by decide) dX12_mayHave_11 (by decide) (by decide) rfl (by decide) ?_
    refine x_iconst hx hb dX12_mayHave_83 ?_
    refine lv_iload_n hx hb dX12_mayHave_84 rfl (lv_at hl 3 rfl) ?_
    refine x_imul hx hb dX12_mayHave_85 ?_
    refine x_iconst hx hb dX12_mayHave_86 ?_
    refine lv_iload_n hx hb dX12_mayHave_87 rfl (lv_at hl 0 rfl) ?_
    refine x_imul hx hb dX12_mayHave_88 ?_
    refine x_iadd hx hb dX12_mayHave_89 ?_
    refine x_retP hx hb hr (by omega) ?_ dX12_mayHave_90 hlocks
    have hf : r_2 = mF S h := qr_2
    refine ⟨?_, by omega, by omega⟩
    have hk : mK S h = 6 := by unfold mK; omega
    rw [hk]
    show _ = 2 * (2 * x + mF S h)
    omega
  · refine x_tabIn (z := 7) (tgt := 58) hx hb c_11 (by decide) dX12_mayHave_11 (by decide) (by decide) rfl (by decide) ?_
    refine x_sipush (n := 9999) hx hb (by decide +kernel) dX12_mayHave_58 ?_
    refine x_retP hx hb hr (by omega) ?_ dX12_mayHave_61 hlocks
    refine ⟨?_, by omega, by omega⟩
    have hk : mK S h = 3 ∨ mK S h = 7 := by unfold mK; omega
    rcases hk with hk | hk <;> rw [hk] <;> rfl
  · refine x_tabOut (tgt := 91) hx hb (by omega) dX12_mayHave_11 (by omega) (by decide) ?_
    refine x_iconst hx hb dX12_mayHave_91 ?_
    refine lv_iload_n hx hb dX12_mayHave_92 rfl (lv_at hl 3 rfl) ?_
    refine x_imul hx hb dX12_mayHave_93 ?_
    refine x_retP hx hb hr (by omega) ?_ dX12_mayHave_94 hlocks
    refine ⟨?_, by omega, by omega⟩
    have hk : mK S h = 0 ∨ mK S h = 2 ∨ mK S h = 5 := by unfold mK; omega
    rcases hk with hk | hk | hk <;> rw [hk] <;> rfl

set_option maxHeartbeats 4000000 in
set_option maxRecDepth 100000 in
theorem c_X12_earnsBy (l : Launch) (g : xG) (σ : xS)  (k : Int) (hk : 0 ≤ k ∧ k < 8) (f : Int) (hf : 0 ≤ f ∧ f ≤ 9) : Met l yX12_earnsBy wsX12_earnsBy ({ frames := 1, cells := 0, slots := 0, locals := 32 }) (va_Pc [.int (iI (k)), .int (iI (f))] (xPre g σ)) (x_Si (fun r => r = zWeek k.toNat f)) (0) (0) (fun _ => False) := by
  refine Met.ofW (cc := cX12_earnsBy) (maxL := 2) (ret := (some .int)) (by decide) rfl ?_
  intro p e s m args below meth c s₁ B hml hv
  obtain ⟨rfl, hP, hK⟩ := hv
  have hx := B.exec
  have hb := B.bytes
  have hr := B.returns
  have hts := atoms_spec (ws := wsX12_earnsBy) B.pre
  have hown : s.vm.findClass RX12 = some m.cls := findClass_of_methodNamed B.named
  have hlocks := B.notSynchronized
  have hl := lv_entry ([.int (iI (k)), .int (iI (f))]) (n := 2) (Nat.le_of_ble_eq_true rfl)
  rw [lg_entry_eq]
  generalize (lg_sl ([.int (iI (k)), .int (iI (f))]) ++ List.replicate (2 - (lg_sl ([.int (iI (k)), .int (iI (f))])).length) Slot.unset).toArray = ls at hl ⊢
  have hl : lv_has ls 2 [(0, .int (iI (k))), (1, .int (iI (f)))] := hl
  refine lv_iload_n hx hb dX12_earnsBy_0 rfl (lv_at hl 0 rfl) ?_
  have c_1 : k = 1 ∨ k = 2 ∨ k = 3 ∨ k = 4 ∨ k = 5 ∨ k = 6 ∨ k = 7 ∨ (k ≠ 1 ∧ k ≠ 2 ∧ k ≠ 3 ∧ k ≠ 4 ∧ k ≠ 5 ∧ k ≠ 6 ∧ k ≠ 7) := by omega
  rcases c_1 with c_1 | c_1 | c_1 | c_1 | c_1 | c_1 | c_1 | c_1
  · refine x_tabIn (z := 1) (tgt := 44) hx hb c_1 (by decide) dX12_earnsBy_1 (by decide) (by decide) rfl (by decide) ?_
    refine x_iconst hx hb dX12_earnsBy_44 ?_
    refine lv_iload_n hx hb dX12_earnsBy_45 rfl (lv_at hl 1 rfl) ?_
    refine x_iadd hx hb dX12_earnsBy_46 ?_
    refine x_retP hx hb hr (by omega) ?_ dX12_earnsBy_47 hlocks
    have hk : k.toNat = 0 ∨ k.toNat = 1 ∨ k.toNat = 2 ∨ k.toNat = 3 ∨ k.toNat = 4 ∨ k.toNat = 5 ∨ k.toNat = 6 ∨ k.toNat = 7 := by omega
    rcases hk with hk | hk | hk | hk | hk | hk | hk | hk <;> rw [hk] <;> first | (exfalso; omega) | (show _ = 2; omega) | (show _ = 2 + f; omega) | (show _ = 1; omega) | (show _ = 0; omega) | (show _ = 1 + f; omega) | (show _ = 0; omega) | (show _ = 2 * (2 + f); omega) | (show _ = f; omega)
  · refine x_tabIn (z := 2) (tgt := 48) hx hb c_1 (by decide) dX12_earnsBy_1 (by decide) (by decide) rfl (by decide) ?_
    refine x_iconst hx hb dX12_earnsBy_48 ?_
    refine x_retP hx hb hr (by omega) ?_ dX12_earnsBy_49 hlocks
    have hk : k.toNat = 0 ∨ k.toNat = 1 ∨ k.toNat = 2 ∨ k.toNat = 3 ∨ k.toNat = 4 ∨ k.toNat = 5 ∨ k.toNat = 6 ∨ k.toNat = 7 := by omega
    rcases hk with hk | hk | hk | hk | hk | hk | hk | hk <;> rw [hk] <;> first | (exfalso; omega) | (show _ = 2; omega) | (show _ = 2 + f; omega) | (show _ = 1; omega) | (show _ = 0; omega) | (show _ = 1 + f; omega) | (show _ = 0; omega) | (show _ = 2 * (2 + f); omega) | (show _ = f; omega)
  · refine x_tabIn (z := 3) (tgt := 50) hx hb c_1 (by decide) dX12_earnsBy_1 (by decide) (by decide) rfl (by decide) ?_
    refine x_iconst hx hb dX12_earnsBy_50 ?_
    refine x_retP hx hb hr (by omega) ?_ dX12_earnsBy_51 hlocks
    have hk : k.toNat = 0 ∨ k.toNat = 1 ∨ k.toNat = 2 ∨ k.toNat = 3 ∨ k.toNat = 4 ∨ k.toNat = 5 ∨ k.toNat = 6 ∨ k.toNat = 7 := by omega
    rcases hk with hk | hk | hk | hk | hk | hk | hk | hk <;> rw [hk] <;> first | (exfalso; omega) | (show _ = 2; omega) | (show _ = 2 + f; omega) | (show _ = 1; omega) | (show _ = 0; omega) | (show _ = 1 + f; omega) | (show _ = 0; omega) | (show _ = 2 * (2 + f); omega) | (show _ = f; omega)
  · refine x_tabIn (z := 4) (tgt := 52) hx hb c_1 (by decide) dX12_earnsBy_1 (by decide) (by decide) rfl (by decide) ?_
    refine x_iconst hx hb dX12_earnsBy_52 ?_
    refine lv_iload_n hx hb dX12_earnsBy_53 rfl (lv_at hl 1 rfl) ?_
    refine x_iadd hx hb dX12_earnsBy_54 ?_
    refine x_retP hx hb hr (by omega) ?_ dX12_earnsBy_55 hlocks
    have hk : k.toNat = 0 ∨ k.toNat = 1 ∨ k.toNat = 2 ∨ k.toNat = 3 ∨ k.toNat = 4 ∨ k.toNat = 5 ∨ k.toNat = 6 ∨ k.toNat = 7 := by omega
    rcases hk with hk | hk | hk | hk | hk | hk | hk | hk <;> rw [hk] <;> first | (exfalso; omega) | (show _ = 2; omega) | (show _ = 2 + f; omega) | (show _ = 1; omega) | (show _ = 0; omega) | (show _ = 1 + f; omega) | (show _ = 0; omega) | (show _ = 2 * (2 + f); omega) | (show _ = f; omega)
  · refine x_tabIn (z := 5) (tgt := 50) hx hb c_1 (by decide) dX12_earnsBy_1 (by decide) (by decide) rfl (by decide) ?_
    refine x_iconst hx hb dX12_earnsBy_50 ?_
    refine x_retP hx hb hr (by omega) ?_ dX12_earnsBy_51 hlocks
    have hk : k.toNat = 0 ∨ k.toNat = 1 ∨ k.toNat = 2 ∨ k.toNat = 3 ∨ k.toNat = 4 ∨ k.toNat = 5 ∨ k.toNat = 6 ∨ k.toNat = 7 := by omega
    rcases hk with hk | hk | hk | hk | hk | hk | hk | hk <;> rw [hk] <;> first | (exfalso; omega) | (show _ = 2; omega) | (show _ = 2 + f; omega) | (show _ = 1; omega) | (show _ = 0; omega) | (show _ = 1 + f; omega) | (show _ = 0; omega) | (show _ = 2 * (2 + f); omega) | (show _ = f; omega)
  · refine x_tabIn (z := 6) (tgt := 56) hx hb c_1 (by decide) dX12_earnsBy_1 (by decide) (by decide) rfl (by decide) ?_
    refine x_iconst hx hb dX12_earnsBy_56 ?_
    refine x_iconst hx hb dX12_earnsBy_57 ?_
    refine lv_iload_n hx hb dX12_earnsBy_58 rfl (lv_at hl 1 rfl) ?_
    refine x_imul hx hb dX12_earnsBy_59 ?_
    refine x_iadd hx hb dX12_earnsBy_60 ?_
    refine x_retP hx hb hr (by omega) ?_ dX12_earnsBy_61 hlocks
    have hk : k.toNat = 0 ∨ k.toNat = 1 ∨ k.toNat = 2 ∨ k.toNat = 3 ∨ k.toNat = 4 ∨ k.toNat = 5 ∨ k.toNat = 6 ∨ k.toNat = 7 := by omega
    rcases hk with hk | hk | hk | hk | hk | hk | hk | hk <;> rw [hk] <;> first | (exfalso; omega) | (show _ = 2; omega) | (show _ = 2 + f; omega) | (show _ = 1; omega) | (show _ = 0; omega) | (show _ = 1 + f; omega) | (show _ = 0; omega) | (show _ = 2 * (2 + f); omega) | (show _ = f; omega)
  · refine x_tabIn (z := 7) (tgt := 62) hx hb c_1 (by decide) dX12_earnsBy_1 (by decide) (by decide) rfl (by decide) ?_
    refine lv_iload_n hx hb dX12_earnsBy_62 rfl (lv_at hl 1 rfl) ?_
    refine x_retP hx hb hr (by omega) ?_ dX12_earnsBy_63 hlocks
    have hk : k.toNat = 0 ∨ k.toNat = 1 ∨ k.toNat = 2 ∨ k.toNat = 3 ∨ k.toNat = 4 ∨ k.toNat = 5 ∨ k.toNat = 6 ∨ k.toNat = 7 := by omega
    rcases hk with hk | hk | hk | hk | hk | hk | hk | hk <;> rw [hk] <;> first | (exfalso; omega) | (show _ = 2; omega) | (show _ = 2 + f; omega) | (show _ = 1; omega) | (show _ = 0; omega) | (show _ = 1 + f; omega) | (show _ = 0; omega) | (show _ = 2 * (2 + f); omega) | (show _ = f; omega)
  · refine x_tabOut (tgt := 64) hx hb (by omega) dX12_earnsBy_1 (by omega) (by decide) ?_
    refine x_iconst hx hb dX12_earnsBy_64 ?_
    refine x_retP hx hb hr (by omega) ?_ dX12_earnsBy_65 hlocks
    have hk : k.toNat = 0 ∨ k.toNat = 1 ∨ k.toNat = 2 ∨ k.toNat = 3 ∨ k.toNat = 4 ∨ k.toNat = 5 ∨ k.toNat = 6 ∨ k.toNat = 7 := by omega
    rcases hk with hk | hk | hk | hk | hk | hk | hk | hk <;> rw [hk] <;> first | (exfalso; omega) | (show _ = 2; omega) | (show _ = 2 + f; omega) | (show _ = 1; omega) | (show _ = 0; omega) | (show _ = 1 + f; omega) | (show _ = 0; omega) | (show _ = 2 * (2 + f); omega) | (show _ = f; omega)

set_option maxHeartbeats 4000000 in
set_option maxRecDepth 100000 in
theorem c_X12_feeBy (l : Launch) (g : xG) (σ : xS)  (k : Int) (hk : 0 ≤ k ∧ k < 8) (f : Int) (hf : 0 ≤ f ∧ f ≤ 9) : Met l yX12_feeBy wsX12_feeBy ({ frames := 1, cells := 0, slots := 0, locals := 32 }) (va_Pc [.int (iI (k)), .int (iI (f))] (xPre g σ)) (x_Si (fun r => r = zFee k.toNat f)) (0) (0) (fun _ => False) := by
  refine Met.ofW (cc := cX12_feeBy) (maxL := 2) (ret := (some .int)) (by decide) rfl ?_
  intro p e s m args below meth c s₁ B hml hv
  obtain ⟨rfl, hP, hK⟩ := hv
  have hx := B.exec
  have hb := B.bytes
  have hr := B.returns
  have hts := atoms_spec (ws := wsX12_feeBy) B.pre
  have hown : s.vm.findClass RX12 = some m.cls := findClass_of_methodNamed B.named
  have hlocks := B.notSynchronized
  have hl := lv_entry ([.int (iI (k)), .int (iI (f))]) (n := 2) (Nat.le_of_ble_eq_true rfl)
  rw [lg_entry_eq]
  generalize (lg_sl ([.int (iI (k)), .int (iI (f))]) ++ List.replicate (2 - (lg_sl ([.int (iI (k)), .int (iI (f))])).length) Slot.unset).toArray = ls at hl ⊢
  have hl : lv_has ls 2 [(0, .int (iI (k))), (1, .int (iI (f)))] := hl
  refine lv_iload_n hx hb dX12_feeBy_0 rfl (lv_at hl 0 rfl) ?_
  have c_1 : k = 1 ∨ k = 2 ∨ k = 3 ∨ k = 4 ∨ k = 5 ∨ k = 6 ∨ k = 7 ∨ (k ≠ 1 ∧ k ≠ 2 ∧ k ≠ 3 ∧ k ≠ 4 ∧ k ≠ 5 ∧ k ≠ 6 ∧ k ≠ 7) := by omega
  rcases c_1 with c_1 | c_1 | c_1 | c_1 | c_1 | c_1 | c_1 | c_1
  · refine x_tabIn (z := 1) (tgt := 44) hx hb c_1 (by decide) dX12_feeBy_1 (by decide) (by decide) rfl (by decide) ?_
    refine x_iconst hx hb dX12_feeBy_44 ?_
    refine lv_iload_n hx hb dX12_feeBy_45 rfl (lv_at hl 1 rfl) ?_
    refine x_iconst hx hb dX12_feeBy_46 ?_
    refine x_iadd hx hb dX12_feeBy_47 ?_
    refine x_imul hx hb dX12_feeBy_48 ?_
    refine x_retP hx hb hr (by omega) ?_ dX12_feeBy_49 hlocks
    have hk : k.toNat = 0 ∨ k.toNat = 1 ∨ k.toNat = 2 ∨ k.toNat = 3 ∨ k.toNat = 4 ∨ k.toNat = 5 ∨ k.toNat = 6 ∨ k.toNat = 7 := by omega
    rcases hk with hk | hk | hk | hk | hk | hk | hk | hk <;> rw [hk] <;> first | (exfalso; omega) | (show _ = 5; omega) | (show _ = 5 * (f + 1); omega) | (show _ = 3; omega) | (show _ = 8; omega) | (show _ = 5 * (f + 1) + 1; omega) | (show _ = 3 + f; omega) | (show _ = 5 * (f + 1) - f; omega) | (show _ = 16; omega)
  · refine x_tabIn (z := 2) (tgt := 50) hx hb c_1 (by decide) dX12_feeBy_1 (by decide) (by decide) rfl (by decide) ?_
    refine x_iconst hx hb dX12_feeBy_50 ?_
    refine x_retP hx hb hr (by omega) ?_ dX12_feeBy_51 hlocks
    have hk : k.toNat = 0 ∨ k.toNat = 1 ∨ k.toNat = 2 ∨ k.toNat = 3 ∨ k.toNat = 4 ∨ k.toNat = 5 ∨ k.toNat = 6 ∨ k.toNat = 7 := by omega
    rcases hk with hk | hk | hk | hk | hk | hk | hk | hk <;> rw [hk] <;> first | (exfalso; omega) | (show _ = 5; omega) | (show _ = 5 * (f + 1); omega) | (show _ = 3; omega) | (show _ = 8; omega) | (show _ = 5 * (f + 1) + 1; omega) | (show _ = 3 + f; omega) | (show _ = 5 * (f + 1) - f; omega) | (show _ = 16; omega)
  · refine x_tabIn (z := 3) (tgt := 52) hx hb c_1 (by decide) dX12_feeBy_1 (by decide) (by decide) rfl (by decide) ?_
    refine x_bipush (n := 8) hx hb (by decide +kernel) dX12_feeBy_52 ?_
    refine x_retP hx hb hr (by omega) ?_ dX12_feeBy_54 hlocks
    have hk : k.toNat = 0 ∨ k.toNat = 1 ∨ k.toNat = 2 ∨ k.toNat = 3 ∨ k.toNat = 4 ∨ k.toNat = 5 ∨ k.toNat = 6 ∨ k.toNat = 7 := by omega
    rcases hk with hk | hk | hk | hk | hk | hk | hk | hk <;> rw [hk] <;> first | (exfalso; omega) | (show _ = 5; omega) | (show _ = 5 * (f + 1); omega) | (show _ = 3; omega) | (show _ = 8; omega) | (show _ = 5 * (f + 1) + 1; omega) | (show _ = 3 + f; omega) | (show _ = 5 * (f + 1) - f; omega) | (show _ = 16; omega)
  · refine x_tabIn (z := 4) (tgt := 55) hx hb c_1 (by decide) dX12_feeBy_1 (by decide) (by decide) rfl (by decide) ?_
    refine x_iconst hx hb dX12_feeBy_55 ?_
    refine lv_iload_n hx hb dX12_feeBy_56 rfl (lv_at hl 1 rfl) ?_
    refine x_iconst hx hb dX12_feeBy_57 ?_
    refine x_iadd hx hb dX12_feeBy_58 ?_
    refine x_imul hx hb dX12_feeBy_59 ?_
    refine x_iconst hx hb dX12_feeBy_60 ?_
    refine x_iadd hx hb dX12_feeBy_61 ?_
    refine x_retP hx hb hr (by omega) ?_ dX12_feeBy_62 hlocks
    have hk : k.toNat = 0 ∨ k.toNat = 1 ∨ k.toNat = 2 ∨ k.toNat = 3 ∨ k.toNat = 4 ∨ k.toNat = 5 ∨ k.toNat = 6 ∨ k.toNat = 7 := by omega
    rcases hk with hk | hk | hk | hk | hk | hk | hk | hk <;> rw [hk] <;> first | (exfalso; omega) | (show _ = 5; omega) | (show _ = 5 * (f + 1); omega) | (show _ = 3; omega) | (show _ = 8; omega) | (show _ = 5 * (f + 1) + 1; omega) | (show _ = 3 + f; omega) | (show _ = 5 * (f + 1) - f; omega) | (show _ = 16; omega)
  · refine x_tabIn (z := 5) (tgt := 63) hx hb c_1 (by decide) dX12_feeBy_1 (by decide) (by decide) rfl (by decide) ?_
    refine x_iconst hx hb dX12_feeBy_63 ?_
    refine lv_iload_n hx hb dX12_feeBy_64 rfl (lv_at hl 1 rfl) ?_
    refine x_iadd hx hb dX12_feeBy_65 ?_
    refine x_retP hx hb hr (by omega) ?_ dX12_feeBy_66 hlocks
    have hk : k.toNat = 0 ∨ k.toNat = 1 ∨ k.toNat = 2 ∨ k.toNat = 3 ∨ k.toNat = 4 ∨ k.toNat = 5 ∨ k.toNat = 6 ∨ k.toNat = 7 := by omega
    rcases hk with hk | hk | hk | hk | hk | hk | hk | hk <;> rw [hk] <;> first | (exfalso; omega) | (show _ = 5; omega) | (show _ = 5 * (f + 1); omega) | (show _ = 3; omega) | (show _ = 8; omega) | (show _ = 5 * (f + 1) + 1; omega) | (show _ = 3 + f; omega) | (show _ = 5 * (f + 1) - f; omega) | (show _ = 16; omega)
  · refine x_tabIn (z := 6) (tgt := 67) hx hb c_1 (by decide) dX12_feeBy_1 (by decide) (by decide) rfl (by decide) ?_
    refine x_iconst hx hb dX12_feeBy_67 ?_
    refine lv_iload_n hx hb dX12_feeBy_68 rfl (lv_at hl 1 rfl) ?_
    refine x_iconst hx hb dX12_feeBy_69 ?_
    refine x_iadd hx hb dX12_feeBy_70 ?_
    refine x_imul hx hb dX12_feeBy_71 ?_
    refine lv_iload_n hx hb dX12_feeBy_72 rfl (lv_at hl 1 rfl) ?_
    refine x_isub hx hb dX12_feeBy_73 ?_
    refine x_retP hx hb hr (by omega) ?_ dX12_feeBy_74 hlocks
    have hk : k.toNat = 0 ∨ k.toNat = 1 ∨ k.toNat = 2 ∨ k.toNat = 3 ∨ k.toNat = 4 ∨ k.toNat = 5 ∨ k.toNat = 6 ∨ k.toNat = 7 := by omega
    rcases hk with hk | hk | hk | hk | hk | hk | hk | hk <;> rw [hk] <;> first | (exfalso; omega) | (show _ = 5; omega) | (show _ = 5 * (f + 1); omega) | (show _ = 3; omega) | (show _ = 8; omega) | (show _ = 5 * (f + 1) + 1; omega) | (show _ = 3 + f; omega) | (show _ = 5 * (f + 1) - f; omega) | (show _ = 16; omega)
  · refine x_tabIn (z := 7) (tgt := 75) hx hb c_1 (by decide) dX12_feeBy_1 (by decide) (by decide) rfl (by decide) ?_
    refine x_bipush (n := 16) hx hb (by decide +kernel) dX12_feeBy_75 ?_
    refine x_retP hx hb hr (by omega) ?_ dX12_feeBy_77 hlocks
    have hk : k.toNat = 0 ∨ k.toNat = 1 ∨ k.toNat = 2 ∨ k.toNat = 3 ∨ k.toNat = 4 ∨ k.toNat = 5 ∨ k.toNat = 6 ∨ k.toNat = 7 := by omega
    rcases hk with hk | hk | hk | hk | hk | hk | hk | hk <;> rw [hk] <;> first | (exfalso; omega) | (show _ = 5; omega) | (show _ = 5 * (f + 1); omega) | (show _ = 3; omega) | (show _ = 8; omega) | (show _ = 5 * (f + 1) + 1; omega) | (show _ = 3 + f; omega) | (show _ = 5 * (f + 1) - f; omega) | (show _ = 16; omega)
  · refine x_tabOut (tgt := 78) hx hb (by omega) dX12_feeBy_1 (by omega) (by decide) ?_
    refine x_iconst hx hb dX12_feeBy_78 ?_
    refine x_retP hx hb hr (by omega) ?_ dX12_feeBy_79 hlocks
    have hk : k.toNat = 0 ∨ k.toNat = 1 ∨ k.toNat = 2 ∨ k.toNat = 3 ∨ k.toNat = 4 ∨ k.toNat = 5 ∨ k.toNat = 6 ∨ k.toNat = 7 := by omega
    rcases hk with hk | hk | hk | hk | hk | hk | hk | hk <;> rw [hk] <;> first | (exfalso; omega) | (show _ = 5; omega) | (show _ = 5 * (f + 1); omega) | (show _ = 3; omega) | (show _ = 8; omega) | (show _ = 5 * (f + 1) + 1; omega) | (show _ = 3 + f; omega) | (show _ = 5 * (f + 1) - f; omega) | (show _ = 16; omega)

set_option maxHeartbeats 4000000 in
set_option maxRecDepth 100000 in
theorem c_X12_beside (l : Launch) (g : xG) (σ : xS) (ov : Nat → Int) (S : Int → Int) (hob : MObj g σ.1 ov) (hs0 : MArr g σ.1 38 29 S) (hok : SmOk S) (h : Int) (hh : 0 ≤ h ∧ h < S 0) (side : Int) (hs : side = 0 ∨ side = 1) : Met l yX12_beside wsX12_beside ({ frames := 3, cells := 0, slots := 0, locals := 96 }) (va_Pc [.ref (g.2.2 37), .int (iI (h)), .int (iI (side))] (xPre g σ)) (x_Si (fun r => (r = zSide (S 0) (S 1) h side ∧ 0 ≤ r ∧ r < S 0) ∨ (r = -4 ∧ zSide (S 0) (S 1) h side = -1))) (0) (0) (fun _ => False) := by
  refine Met.ofW (cc := cX12_beside) (maxL := 5) (ret := (some .int)) (by decide) rfl ?_
  intro p e s m args below meth c s₁ B hml hv
  obtain ⟨rfl, hP, hK⟩ := hv
  have hx := B.exec
  have hb := B.bytes
  have hr := B.returns
  have hts := atoms_spec (ws := wsX12_beside) B.pre
  have hown : s.vm.findClass RX12 = some m.cls := findClass_of_methodNamed B.named
  have hlocks := B.notSynchronized
  have hl := lv_entry ([.ref (g.2.2 37), .int (iI (h)), .int (iI (side))]) (n := 5) (Nat.le_of_ble_eq_true rfl)
  rw [lg_entry_eq]
  generalize (lg_sl ([.ref (g.2.2 37), .int (iI (h)), .int (iI (side))]) ++ List.replicate (5 - (lg_sl ([.ref (g.2.2 37), .int (iI (h)), .int (iI (side))])).length) Slot.unset).toArray = ls at hl ⊢
  have hl : lv_has ls 5 [(0, .ref (g.2.2 37)), (1, .int (iI (h))), (2, .int (iI (side)))] := hl
  have hn0 := hok.2.1
  have hrd0 := hok.2.2.1
  have hw_0 := hts (.fieldLink RX12 9 "TwiceAsRichModel" "s" "[I") (by decide +kernel)
  have hin_X12 : ∀ w ∈ wsX120, w ∈ wsX12_beside := by decide +kernel
  refine lv_aload_n hx hb dX12_beside_0 rfl (lv_at hl 0 rfl) ?_
  refine x_get (C := RX12) (T := TX12) (N := 24) hx hb hts hin_X12 hown hK hP (37) (by decide) hob rfl 0 (by decide) hw_0 (fun _ h9 => h9) rfl dX12_beside_1 ?_
  refine x_iconst hx hb dX12_beside_4 ?_
  refine x_iald (f := S) hx hb hK hP (38) (by decide) hs0 (by omega) (by omega) (by decide) dX12_beside_5 ?_
  have hb_1 := hok.1 (0)
  refine lv_istore_n (lv' := [(3, .int (iI (S (0)))), (0, .ref (g.2.2 37)), (1, .int (iI (h))), (2, .int (iI (side)))]) hx hb dX12_beside_6 rfl hl (by decide) rfl (fun ls hl => ?_)
  refine lv_iload_n hx hb dX12_beside_7 rfl (lv_at hl 3 rfl) ?_
  refine x_if_ne (tgt := 17) hx hb (by omega) dX12_beside_8 (by decide) (fun c_8 => ?_) (fun c_8 => ?_)
  · refine lv_iload_n hx hb dX12_beside_17 rfl (lv_at hl 2 rfl) ?_
    refine x_iconst hx hb dX12_beside_18 ?_
    refine x_iadd hx hb dX12_beside_19 ?_
    refine lv_istore (lv' := [(4, .int (iI (h + 1))), (3, .int (iI (S (0)))), (0, .ref (g.2.2 37)), (1, .int (iI (h))), (2, .int (iI (side)))]) hx hb dX12_beside_20 hl (by decide) rfl (fun ls hl => ?_)
    refine lv_aload_n hx hb dX12_beside_22 rfl (lv_at hl 2 rfl) ?_
    refine lv_iload hx hb dX12_beside_23 (lv_at hl 0 rfl) ?_
    refine x_ci (va_runV (As := [.int (iI (h + 1))]) (rest := []) ⟨hx, hb, hml, hown, hts⟩ (c_X12_isHouse l g σ (ov) S hob hs0 hok (h + 1) (by omega)) (cwV 1 hts gX12_beside_X12_isHouse rfl rfl rfl (by decide +kernel) ⟨Nat.le_of_ble_eq_true rfl, Nat.le_of_ble_eq_true rfl⟩) (x_preV hK hP (x_recv hK hP (i := 37) (by decide) hob rfl)) rfl rfl hl.1 rfl (lv_room (Nat.le_of_ble_eq_true rfl)) dX12_beside_25 ⟨Nat.le_of_ble_eq_true rfl, Nat.le_of_ble_eq_true rfl⟩) (fun r_25 hr_25 qr_25 => ?_)
    replace qr_25 : (r_25 = 1 ∧ 0 ≤ (h + 1) ∧ (h + 1) < S 0) ∨ (r_25 = 0 ∧ ¬ (0 ≤ (h + 1) ∧ (h + 1) < S 0)) := qr_25
    refine x_if_eq (tgt := 34) hx hb (by omega) dX12_beside_28 (by decide) (fun c_28 => ?_) (fun c_28 => ?_)
    · refine lv_aload_n hx hb dX12_beside_34 rfl (lv_at hl 2 rfl) ?_
      refine x_get (C := RX12) (T := TX12) (N := 24) hx hb hts hin_X12 hown hK hP (37) (by decide) hob rfl 0 (by decide) hw_0 (fun _ h9 => h9) rfl dX12_beside_35 ?_
      refine x_iconst hx hb dX12_beside_38 ?_
      refine x_iald (f := S) hx hb hK hP (38) (by decide) hs0 (by omega) (by omega) (by decide) dX12_beside_39 ?_
      have hb_2 := hok.1 (1)
      refine x_iconst hx hb dX12_beside_40 ?_
      refine x_icmp_ne (tgt := 58) hx hb (by omega) (by omega) dX12_beside_41 (by decide) (fun c_41 => ?_) (fun c_41 => ?_)
      · refine x_bipush (n := -4) hx hb (by decide +kernel) dX12_beside_58 ?_
        refine x_retP hx hb hr (by omega) ?_ dX12_beside_60 hlocks
        unfold zSide zAhead zBehind
        first | (right; refine ⟨rfl, ?_⟩; first | (rw [if_pos (by omega), if_neg (by omega), if_neg (by omega)]; done) | (rw [if_neg (by omega), if_neg (by omega), if_neg (by omega)]; done)) | (left; refine ⟨?_, by omega, by omega⟩; first | (rw [if_pos (by omega), if_neg (by omega), if_pos (by omega)]; omega) | (rw [if_neg (by omega), if_neg (by omega), if_pos (by omega)]; omega))
      · refine lv_iload_n hx hb dX12_beside_44 rfl (lv_at hl 1 rfl) ?_
        refine x_iconst hx hb dX12_beside_45 ?_
        refine x_icmp_lt (tgt := 58) hx hb (by omega) (by omega) dX12_beside_46 (by decide) (fun c_46 => ?_) (fun c_46 => ?_)
        · refine x_bipush (n := -4) hx hb (by decide +kernel) dX12_beside_58 ?_
          refine x_retP hx hb hr (by omega) ?_ dX12_beside_60 hlocks
          unfold zSide zAhead zBehind
          first | (right; refine ⟨rfl, ?_⟩; first | (rw [if_pos (by omega), if_neg (by omega), if_neg (by omega)]; done) | (rw [if_neg (by omega), if_neg (by omega), if_neg (by omega)]; done)) | (left; refine ⟨?_, by omega, by omega⟩; first | (rw [if_pos (by omega), if_neg (by omega), if_pos (by omega)]; omega) | (rw [if_neg (by omega), if_neg (by omega), if_pos (by omega)]; omega))
        · refine lv_iload hx hb dX12_beside_49 (lv_at hl 0 rfl) ?_
          refine lv_iload_n hx hb dX12_beside_51 rfl (lv_at hl 1 rfl) ?_
          refine x_iadd hx hb dX12_beside_52 ?_
          refine lv_iload_n hx hb dX12_beside_53 rfl (lv_at hl 1 rfl) ?_
          refine x_irem hx hb (by omega) (by omega) (by omega) (by omega) dX12_beside_54 ?_
          have hmod : ((((h + 1) + (S (0))) % (S (0))) = S 0 - 1 ∧ side = 0) ∨ ((((h + 1) + (S (0))) % (S (0))) = 0 ∧ side ≠ 0) := by first | exact Or.inl ⟨zModA (by omega) (by omega), by omega⟩ | exact Or.inr ⟨zModB (by omega) (by omega), by omega⟩
          refine lv_goto (tgt := 60) hx hb dX12_beside_55 (by decide) ?_
          refine x_retP hx hb hr (by omega) ?_ dX12_beside_60 hlocks
          unfold zSide zAhead zBehind
          first | (right; refine ⟨rfl, ?_⟩; first | (rw [if_pos (by omega), if_neg (by omega), if_neg (by omega)]; done) | (rw [if_neg (by omega), if_neg (by omega), if_neg (by omega)]; done)) | (left; refine ⟨?_, by omega, by omega⟩; first | (rw [if_pos (by omega), if_neg (by omega), if_pos (by omega)]; omega) | (rw [if_neg (by omega), if_neg (by omega), if_pos (by omega)]; omega))
    · refine lv_iload hx hb dX12_beside_31 (lv_at hl 0 rfl) ?_
      refine x_retP hx hb hr (by omega) ?_ dX12_beside_33 hlocks
      left
      refine ⟨?_, by omega, by omega⟩
      unfold zSide zAhead zBehind
      first | (rw [if_pos (by omega), if_pos (by omega)]; done) | (rw [if_neg (by omega), if_pos (by omega)]; done)
  · refine lv_iload_n hx hb dX12_beside_11 rfl (lv_at hl 2 rfl) ?_
    refine x_iconst hx hb dX12_beside_12 ?_
    refine x_isub hx hb dX12_beside_13 ?_
    refine lv_goto (tgt := 20) hx hb dX12_beside_14 (by decide) ?_
    refine lv_istore (lv' := [(4, .int (iI (h - 1))), (3, .int (iI (S (0)))), (0, .ref (g.2.2 37)), (1, .int (iI (h))), (2, .int (iI (side)))]) hx hb dX12_beside_20 hl (by decide) rfl (fun ls hl => ?_)
    refine lv_aload_n hx hb dX12_beside_22 rfl (lv_at hl 2 rfl) ?_
    refine lv_iload hx hb dX12_beside_23 (lv_at hl 0 rfl) ?_
    refine x_ci (va_runV (As := [.int (iI (h - 1))]) (rest := []) ⟨hx, hb, hml, hown, hts⟩ (c_X12_isHouse l g σ (ov) S hob hs0 hok (h - 1) (by omega)) (cwV 1 hts gX12_beside_X12_isHouse rfl rfl rfl (by decide +kernel) ⟨Nat.le_of_ble_eq_true rfl, Nat.le_of_ble_eq_true rfl⟩) (x_preV hK hP (x_recv hK hP (i := 37) (by decide) hob rfl)) rfl rfl hl.1 rfl (lv_room (Nat.le_of_ble_eq_true rfl)) dX12_beside_25 ⟨Nat.le_of_ble_eq_true rfl, Nat.le_of_ble_eq_true rfl⟩) (fun r_25 hr_25 qr_25 => ?_)
    replace qr_25 : (r_25 = 1 ∧ 0 ≤ (h - 1) ∧ (h - 1) < S 0) ∨ (r_25 = 0 ∧ ¬ (0 ≤ (h - 1) ∧ (h - 1) < S 0)) := qr_25
    refine x_if_eq (tgt := 34) hx hb (by omega) dX12_beside_28 (by decide) (fun c_28 => ?_) (fun c_28 => ?_)
    · refine lv_aload_n hx hb dX12_beside_34 rfl (lv_at hl 2 rfl) ?_
      refine x_get (C := RX12) (T := TX12) (N := 24) hx hb hts hin_X12 hown hK hP (37) (by decide) hob rfl 0 (by decide) hw_0 (fun _ h9 => h9) rfl dX12_beside_35 ?_
      refine x_iconst hx hb dX12_beside_38 ?_
      refine x_iald (f := S) hx hb hK hP (38) (by decide) hs0 (by omega) (by omega) (by decide) dX12_beside_39 ?_
      have hb_3 := hok.1 (1)
      refine x_iconst hx hb dX12_beside_40 ?_
      refine x_icmp_ne (tgt := 58) hx hb (by omega) (by omega) dX12_beside_41 (by decide) (fun c_41 => ?_) (fun c_41 => ?_)
      · refine x_bipush (n := -4) hx hb (by decide +kernel) dX12_beside_58 ?_
        refine x_retP hx hb hr (by omega) ?_ dX12_beside_60 hlocks
        unfold zSide zAhead zBehind
        first | (right; refine ⟨rfl, ?_⟩; first | (rw [if_pos (by omega), if_neg (by omega), if_neg (by omega)]; done) | (rw [if_neg (by omega), if_neg (by omega), if_neg (by omega)]; done)) | (left; refine ⟨?_, by omega, by omega⟩; first | (rw [if_pos (by omega), if_neg (by omega), if_pos (by omega)]; omega) | (rw [if_neg (by omega), if_neg (by omega), if_pos (by omega)]; omega))
      · refine lv_iload_n hx hb dX12_beside_44 rfl (lv_at hl 1 rfl) ?_
        refine x_iconst hx hb dX12_beside_45 ?_
        refine x_icmp_lt (tgt := 58) hx hb (by omega) (by omega) dX12_beside_46 (by decide) (fun c_46 => ?_) (fun c_46 => ?_)
        · refine x_bipush (n := -4) hx hb (by decide +kernel) dX12_beside_58 ?_
          refine x_retP hx hb hr (by omega) ?_ dX12_beside_60 hlocks
          unfold zSide zAhead zBehind
          first | (right; refine ⟨rfl, ?_⟩; first | (rw [if_pos (by omega), if_neg (by omega), if_neg (by omega)]; done) | (rw [if_neg (by omega), if_neg (by omega), if_neg (by omega)]; done)) | (left; refine ⟨?_, by omega, by omega⟩; first | (rw [if_pos (by omega), if_neg (by omega), if_pos (by omega)]; omega) | (rw [if_neg (by omega), if_neg (by omega), if_pos (by omega)]; omega))
        · refine lv_iload hx hb dX12_beside_49 (lv_at hl 0 rfl) ?_
          refine lv_iload_n hx hb dX12_beside_51 rfl (lv_at hl 1 rfl) ?_
          refine x_iadd hx hb dX12_beside_52 ?_
          refine lv_iload_n hx hb dX12_beside_53 rfl (lv_at hl 1 rfl) ?_
          refine x_irem hx hb (by omega) (by omega) (by omega) (by omega) dX12_beside_54 ?_
          have hmod : ((((h - 1) + (S (0))) % (S (0))) = S 0 - 1 ∧ side = 0) ∨ ((((h - 1) + (S (0))) % (S (0))) = 0 ∧ side ≠ 0) := by first | exact Or.inl ⟨zModA (by omega) (by omega), by omega⟩ | exact Or.inr ⟨zModB (by omega) (by omega), by omega⟩
          refine lv_goto (tgt := 60) hx hb dX12_beside_55 (by decide) ?_
          refine x_retP hx hb hr (by omega) ?_ dX12_beside_60 hlocks
          unfold zSide zAhead zBehind
          first | (right; refine ⟨rfl, ?_⟩; first | (rw [if_pos (by omega), if_neg (by omega), if_neg (by omega)]; done) | (rw [if_neg (by omega), if_neg (by omega), if_neg (by omega)]; done)) | (left; refine ⟨?_, by omega, by omega⟩; first | (rw [if_pos (by omega), if_neg (by omega), if_pos (by omega)]; omega) | (rw [if_neg (by omega), if_neg (by omega), if_pos (by omega)]; omega))
    · refine lv_iload hx hb dX12_beside_31 (lv_at hl 0 rfl) ?_
      refine x_retP hx hb hr (by omega) ?_ dX12_beside_33 hlocks
      left
      refine ⟨?_, by omega, by omega⟩
      unfold zSide zAhead zBehind
      first | (rw [if_pos (by omega), if_pos (by omega)]; done) | (rw [if_neg (by omega), if_pos (by omega)]; done)

set_option maxHeartbeats 4000000 in
set_option maxRecDepth 100000 in
theorem c_X12_tooMuchBy (l : Launch) (g : xG) (σ : xS) (ov : Nat → Int) (S : Int → Int) (hob : MObj g σ.1 ov) (hs0 : MArr g σ.1 38 29 S) (hok : SmOk S) (h : Int) (hh : 0 ≤ h ∧ h < S 0) (pu : Int) (hpu : 0 ≤ pu ∧ pu ≤ 10000) : Met l yX12_tooMuchBy wsX12_tooMuchBy ({ frames := 4, cells := 0, slots := 0, locals := 128 }) (va_Pc [.ref (g.2.2 37), .int (iI (h)), .int (iI (pu))] (xPre g σ)) (x_Si (fun r => r = zSetN (mK S) (mF S) (mP S) (S 0) (S 1) h pu 2)) (0) (0) (fun _ => False) := by
  refine Met.ofW (cc := cX12_tooMuchBy) (maxL := 6) (ret := (some .int)) (by decide) rfl ?_
  intro p e s m args below meth c s₁ B hml hv
  obtain ⟨rfl, hP, hK⟩ := hv
  have hx := B.exec
  have hb := B.bytes
  have hr := B.returns
  have hts := atoms_spec (ws := wsX12_tooMuchBy) B.pre
  have hown : s.vm.findClass RX12 = some m.cls := findClass_of_methodNamed B.named
  have hlocks := B.notSynchronized
  have hl := lv_entry ([.ref (g.2.2 37), .int (iI (h)), .int (iI (pu))]) (n := 6) (Nat.le_of_ble_eq_true rfl)
  rw [lg_entry_eq]
  generalize (lg_sl ([.ref (g.2.2 37), .int (iI (h)), .int (iI (pu))]) ++ List.replicate (6 - (lg_sl ([.ref (g.2.2 37), .int (iI (h)), .int (iI (pu))])).length) Slot.unset).toArray = ls at hl ⊢
  have hl : lv_has ls 6 [(0, .ref (g.2.2 37)), (1, .int (iI (h))), (2, .int (iI (pu)))] := hl
  have hn0 := hok.2.1
  have hrd0 := hok.2.2.1
  refine x_iconst hx hb dX12_tooMuchBy_0 ?_
  refine lv_istore_n (lv' := [(3, .int (iI (0))), (0, .ref (g.2.2 37)), (1, .int (iI (h))), (2, .int (iI (pu)))]) hx hb dX12_tooMuchBy_1 rfl hl (by decide) rfl (fun ls hl => ?_)
  refine x_iconst hx hb dX12_tooMuchBy_2 ?_
  refine lv_istore (lv' := [(4, .int (iI (0))), (3, .int (iI (0))), (0, .ref (g.2.2 37)), (1, .int (iI (h))), (2, .int (iI (pu)))]) hx hb dX12_tooMuchBy_3 hl (by decide) rfl (fun ls hl => ?_)
  have hloop_5 : ∀ (k : Nat) (set : Int) (side : Int), ((2 : Int) - side).toNat < k → (hsd0 : 0 ≤ side) → (hsd2 : side ≤ 2) → (hset : set = zSetN (mK S) (mF S) (mP S) (S 0) (S 1) h pu side.toNat) → (hsr : inR set) → ∀ (ls : Array Slot), lv_has ls 6 [(3, .int (iI (set))), (4, .int (iI (side))), (0, .ref (g.2.2 37)), (1, .int (iI (h))), (2, .int (iI (pu)))] → W p l e (headSpec wsX12_tooMuchBy ({ frames := 4, cells := 0, slots := 0, locals := 128 })).room s m ([.ref (g.2.2 37), .int (iI (h)), .int (iI (pu))] : List Value).toArray below meth c s.heap [] 0 0 (MQ below (x_Si (fun r => r = zSetN (mK S) (mF S) (mP S) (S 0) (S 1) h pu 2)) ([.ref (g.2.2 37), .int (iI (h)), .int (iI (pu))] : List Value).toArray s (0) (0) (fun _ => False)) (F0 m 5 ls []) := by
    intro k
    induction k with
    | zero =>
      intros; exact absurd (by assumption) (Nat.not_lt_zero _)
    | succ k ih =>
      intro set side hmeas hsd0 hsd2 hset hsr  ls hl
      have ih_1 := ih
      refine lv_iload hx hb dX12_tooMuchBy_5 (lv_at hl 1 rfl) ?_
      refine x_iconst hx hb dX12_tooMuchBy_7 ?_
      refine x_icmp_ge (tgt := 62) hx hb (by omega) (by omega) dX12_tooMuchBy_8 (by decide) (fun c_8 => ?_) (fun c_8 => ?_)
      · refine lv_iload_n hx hb dX12_tooMuchBy_62 rfl (lv_at hl 0 rfl) ?_
        refine x_retP hx hb hr (by omega) ?_ dX12_tooMuchBy_63 hlocks
        have e : side.toNat = 2 := by omega
        rw [e] at hset
        exact hset
      · refine lv_aload_n hx hb dX12_tooMuchBy_11 rfl (lv_at hl 2 rfl) ?_
        refine lv_iload_n hx hb dX12_tooMuchBy_12 rfl (lv_at hl 3 rfl) ?_
        refine lv_iload hx hb dX12_tooMuchBy_13 (lv_at hl 1 rfl) ?_
        refine x_ci (va_runV (As := [.int (iI (h)), .int (iI (side))]) (rest := []) ⟨hx, hb, hml, hown, hts⟩ (c_X12_beside l g σ (ov) S hob hs0 hok (h) (by omega) (side) (by omega)) (cwV 2 hts gX12_tooMuchBy_X12_beside rfl rfl rfl (by decide +kernel) ⟨Nat.le_of_ble_eq_true rfl, Nat.le_of_ble_eq_true rfl⟩) (x_preV hK hP (x_recv hK hP (i := 37) (by decide) hob rfl)) rfl rfl hl.1 rfl (lv_room (Nat.le_of_ble_eq_true rfl)) dX12_tooMuchBy_15 ⟨Nat.le_of_ble_eq_true rfl, Nat.le_of_ble_eq_true rfl⟩) (fun r_15 hr_15 qr_15 => ?_)
        replace qr_15 : (r_15 = zSide (S 0) (S 1) (h) (side) ∧ 0 ≤ r_15 ∧ r_15 < S 0) ∨ (r_15 = -4 ∧ zSide (S 0) (S 1) (h) (side) = -1) := qr_15
        refine lv_istore (lv' := [(5, .int (iI (r_15))), (3, .int (iI (set))), (4, .int (iI (side))), (0, .ref (g.2.2 37)), (1, .int (iI (h))), (2, .int (iI (pu)))]) hx hb dX12_tooMuchBy_18 hl (by decide) rfl (fun ls hl => ?_)
        refine lv_iload hx hb dX12_tooMuchBy_20 (lv_at hl 0 rfl) ?_
        refine x_if_lt (tgt := 56) hx hb (by omega) dX12_tooMuchBy_22 (by decide) (fun c_22 => ?_) (fun c_22 => ?_)
        · refine x_iinc (k0 := 2) (lv' := [(4, .int (iI (side + 1))), (5, .int (iI (r_15))), (3, .int (iI (set))), (0, .ref (g.2.2 37)), (1, .int (iI (h))), (2, .int (iI (pu)))]) hx hb dX12_tooMuchBy_56 hl rfl (by decide) rfl (fun ls hl => ?_)
          refine lv_goto (tgt := 5) hx hb dX12_tooMuchBy_59 (by decide) ?_
          exact ih_1 (set) (side + 1) (by omega) (by omega) (by omega) (by rw [zSetN_succ _ _ _ _ _ _ _ hsd0, ← hset]; first | (have hq : zSide (S 0) (S 1) h side = -1 := by omega); (rw [hq, zLim_none, if_neg (by omega)]; done) | (have hq : zSide (S 0) (S 1) h side = r_15 := by omega); (rw [hq, zLim_wall _ _ _ _ _ (by omega), if_neg (by omega)]; done) | (have hq : zSide (S 0) (S 1) h side = r_15 := by omega); (rw [hq, zLim_some _ _ _ _ _ (by omega) (by omega), ← qr_40.1, ← qr_43.1, if_neg (by omega)]; done) | (have hq : zSide (S 0) (S 1) h side = r_15 := by omega); (rw [hq, zLim_some _ _ _ _ _ (by omega) (by omega), ← qr_40.1, ← qr_43.1, if_pos (by omega)]; done)) (by omega) ls (lv_sub hl [2, 0, 3, 4, 5] rfl)
        · refine lv_aload_n hx hb dX12_tooMuchBy_25 rfl (lv_at hl 3 rfl) ?_
          refine lv_iload hx hb dX12_tooMuchBy_26 (lv_at hl 0 rfl) ?_
          refine x_ci (va_runV (As := [.int (iI (r_15))]) (rest := []) ⟨hx, hb, hml, hown, hts⟩ (c_X12_isLookedAt l g σ (ov) S hob hs0 hok (r_15) (by omega)) (cwV 1 hts gX12_tooMuchBy_X12_isLookedAt rfl rfl rfl (by decide +kernel) ⟨Nat.le_of_ble_eq_true rfl, Nat.le_of_ble_eq_true rfl⟩) (x_preV hK hP (x_recv hK hP (i := 37) (by decide) hob rfl)) rfl rfl hl.1 rfl (lv_room (Nat.le_of_ble_eq_true rfl)) dX12_tooMuchBy_28 ⟨Nat.le_of_ble_eq_true rfl, Nat.le_of_ble_eq_true rfl⟩) (fun r_28 hr_28 qr_28 => ?_)
          replace qr_28 : (r_28 = 1 ∧ mK S (r_15) ≠ 3) ∨ (r_28 = 0 ∧ mK S (r_15) = 3) := qr_28
          refine x_if_eq (tgt := 56) hx hb (by omega) dX12_tooMuchBy_31 (by decide) (fun c_31 => ?_) (fun c_31 => ?_)
          · refine x_iinc (k0 := 2) (lv' := [(4, .int (iI (side + 1))), (5, .int (iI (r_15))), (3, .int (iI (set))), (0, .ref (g.2.2 37)), (1, .int (iI (h))), (2, .int (iI (pu)))]) hx hb dX12_tooMuchBy_56 hl rfl (by decide) rfl (fun ls hl => ?_)
            refine lv_goto (tgt := 5) hx hb dX12_tooMuchBy_59 (by decide) ?_
            exact ih_1 (set) (side + 1) (by omega) (by omega) (by omega) (by rw [zSetN_succ _ _ _ _ _ _ _ hsd0, ← hset]; first | (have hq : zSide (S 0) (S 1) h side = -1 := by omega); (rw [hq, zLim_none, if_neg (by omega)]; done) | (have hq : zSide (S 0) (S 1) h side = r_15 := by omega); (rw [hq, zLim_wall _ _ _ _ _ (by omega), if_neg (by omega)]; done) | (have hq : zSide (S 0) (S 1) h side = r_15 := by omega); (rw [hq, zLim_some _ _ _ _ _ (by omega) (by omega), ← qr_40.1, ← qr_43.1, if_neg (by omega)]; done) | (have hq : zSide (S 0) (S 1) h side = r_15 := by omega); (rw [hq, zLim_some _ _ _ _ _ (by omega) (by omega), ← qr_40.1, ← qr_43.1, if_pos (by omega)]; done)) (by omega) ls (lv_sub hl [2, 0, 3, 4, 5] rfl)
          · refine lv_iload_n hx hb dX12_tooMuchBy_34 rfl (lv_at hl 5 rfl) ?_
            refine lv_aload_n hx hb dX12_tooMuchBy_35 rfl (lv_at hl 3 rfl) ?_
            refine lv_iload_n hx hb dX12_tooMuchBy_36 rfl (lv_at hl 4 rfl) ?_
            refine lv_aload_n hx hb dX12_tooMuchBy_37 rfl (lv_at hl 3 rfl) ?_
            refine lv_iload hx hb dX12_tooMuchBy_38 (lv_at hl 0 rfl) ?_
            refine x_ci (va_runV (As := [.int (iI (r_15))]) (rest := [.int (iI (h)), .ref (g.2.2 37), .int (iI (pu))]) ⟨hx, hb, hml, hown, hts⟩ (c_X12_shows l g σ (ov) S hob hs0 hok (r_15) (by omega)) (cwV 1 hts gX12_tooMuchBy_X12_shows rfl rfl rfl (by decide +kernel) ⟨Nat.le_of_ble_eq_true rfl, Nat.le_of_ble_eq_true rfl⟩) (x_preV hK hP (x_recv hK hP (i := 37) (by decide) hob rfl)) rfl rfl hl.1 rfl (lv_room (Nat.le_of_ble_eq_true rfl)) dX12_tooMuchBy_40 ⟨Nat.le_of_ble_eq_true rfl, Nat.le_of_ble_eq_true rfl⟩) (fun r_40 hr_40 qr_40 => ?_)
            replace qr_40 : r_40 = zShown (mK S (r_15)) (mF S (r_15)) (mP S (r_15)) ∧ 0 ≤ r_40 ∧ r_40 ≤ 10008 := qr_40
            refine x_ci (va_runV (As := [.int (iI (h)), .int (iI (r_40))]) (rest := [.int (iI (pu))]) ⟨hx, hb, hml, hown, hts⟩ (c_X12_mayHave l g σ (ov) S hob hs0 hok (h) (by omega) (r_40) (by omega)) (cwV 2 hts gX12_tooMuchBy_X12_mayHave rfl rfl rfl (by decide +kernel) ⟨Nat.le_of_ble_eq_true rfl, Nat.le_of_ble_eq_true rfl⟩) (x_preV hK hP (x_recv hK hP (i := 37) (by decide) hob rfl)) rfl rfl hl.1 rfl (lv_room (Nat.le_of_ble_eq_true rfl)) dX12_tooMuchBy_43 ⟨Nat.le_of_ble_eq_true rfl, Nat.le_of_ble_eq_true rfl⟩) (fun r_43 hr_43 qr_43 => ?_)
            replace qr_43 : r_43 = zMay (mK S (h)) (mF S (h)) (r_40) ∧ 0 ≤ r_43 ∧ r_43 ≤ 50000 := qr_43
            refine x_icmp_le (tgt := 56) hx hb (by omega) (by omega) dX12_tooMuchBy_46 (by decide) (fun c_46 => ?_) (fun c_46 => ?_)
            · refine x_iinc (k0 := 2) (lv' := [(4, .int (iI (side + 1))), (5, .int (iI (r_15))), (3, .int (iI (set))), (0, .ref (g.2.2 37)), (1, .int (iI (h))), (2, .int (iI (pu)))]) hx hb dX12_tooMuchBy_56 hl rfl (by decide) rfl (fun ls hl => ?_)
              refine lv_goto (tgt := 5) hx hb dX12_tooMuchBy_59 (by decide) ?_
              exact ih_1 (set) (side + 1) (by omega) (by omega) (by omega) (by rw [zSetN_succ _ _ _ _ _ _ _ hsd0, ← hset]; first | (have hq : zSide (S 0) (S 1) h side = -1 := by omega); (rw [hq, zLim_none, if_neg (by omega)]; done) | (have hq : zSide (S 0) (S 1) h side = r_15 := by omega); (rw [hq, zLim_wall _ _ _ _ _ (by omega), if_neg (by omega)]; done) | (have hq : zSide (S 0) (S 1) h side = r_15 := by omega); (rw [hq, zLim_some _ _ _ _ _ (by omega) (by omega), ← qr_40.1, ← qr_43.1, if_neg (by omega)]; done) | (have hq : zSide (S 0) (S 1) h side = r_15 := by omega); (rw [hq, zLim_some _ _ _ _ _ (by omega) (by omega), ← qr_40.1, ← qr_43.1, if_pos (by omega)]; done)) (by omega) ls (lv_sub hl [2, 0, 3, 4, 5] rfl)
            · refine lv_iload_n hx hb dX12_tooMuchBy_49 rfl (lv_at hl 1 rfl) ?_
              refine x_iconst hx hb dX12_tooMuchBy_50 ?_
              refine lv_iload hx hb dX12_tooMuchBy_51 (lv_at hl 0 rfl) ?_
              refine x_ishl hx hb dX12_tooMuchBy_53 ?_
              have hb_2 := iShl_rng (1) (r_15)
              refine x_ior hx hb dX12_tooMuchBy_54 ?_
              have hb_3 := iOr_rng (set) (iShl (1) (r_15))
              refine lv_istore_n (lv' := [(3, .int (iI (iOr (set) (iShl (1) (r_15))))), (5, .int (iI (r_15))), (4, .int (iI (side))), (0, .ref (g.2.2 37)), (1, .int (iI (h))), (2, .int (iI (pu)))]) hx hb dX12_tooMuchBy_55 rfl hl (by decide) rfl (fun ls hl => ?_)
              refine x_iinc (k0 := 2) (lv' := [(4, .int (iI (side + 1))), (3, .int (iI (iOr (set) (iShl (1) (r_15))))), (5, .int (iI (r_15))), (0, .ref (g.2.2 37)), (1, .int (iI (h))), (2, .int (iI (pu)))]) hx hb dX12_tooMuchBy_56 hl rfl (by decide) rfl (fun ls hl => ?_)
              refine lv_goto (tgt := 5) hx hb dX12_tooMuchBy_59 (by decide) ?_
              exact ih_1 (iOr (set) (iShl (1) (r_15))) (side + 1) (by omega) (by omega) (by omega) (by rw [zSetN_succ _ _ _ _ _ _ _ hsd0, ← hset]; first | (have hq : zSide (S 0) (S 1) h side = -1 := by omega); (rw [hq, zLim_none, if_neg (by omega)]; done) | (have hq : zSide (S 0) (S 1) h side = r_15 := by omega); (rw [hq, zLim_wall _ _ _ _ _ (by omega), if_neg (by omega)]; done) | (have hq : zSide (S 0) (S 1) h side = r_15 := by omega); (rw [hq, zLim_some _ _ _ _ _ (by omega) (by omega), ← qr_40.1, ← qr_43.1, if_neg (by omega)]; done) | (have hq : zSide (S 0) (S 1) h side = r_15 := by omega); (rw [hq, zLim_some _ _ _ _ _ (by omega) (by omega), ← qr_40.1, ← qr_43.1, if_pos (by omega)]; done)) (by omega) ls (lv_sub hl [1, 0, 3, 4, 5] rfl)
  exact hloop_5 ((((2 : Int) - (0)).toNat) + 1) (0) (0) (by omega) (by omega) (by omega) (by rfl) (by omega) ls (lv_sub hl [1, 0, 2, 3, 4] rfl)

set_option maxHeartbeats 4000000 in
set_option maxRecDepth 100000 in
theorem c_X12_bits (l : Launch) (g : xG) (σ : xS)  (v0 : Int) (hv0 : 0 ≤ v0 ∧ v0 < 1024) : Met l yX12_bits wsX12_bits ({ frames := 1, cells := 0, slots := 0, locals := 32 }) (va_Pc [.int (iI (v0))] (xPre g σ)) (x_Si (fun r => r = zPop v0)) (0) (0) (fun _ => False) := by
  refine Met.ofW (cc := cX12_bits) (maxL := 3) (ret := (some .int)) (by decide) rfl ?_
  intro p e s m args below meth c s₁ B hml hv
  obtain ⟨rfl, hP, hK⟩ := hv
  have hx := B.exec
  have hb := B.bytes
  have hr := B.returns
  have hts := atoms_spec (ws := wsX12_bits) B.pre
  have hown : s.vm.findClass RX12 = some m.cls := findClass_of_methodNamed B.named
  have hlocks := B.notSynchronized
  have hl := lv_entry ([.int (iI (v0))]) (n := 3) (Nat.le_of_ble_eq_true rfl)
  rw [lg_entry_eq]
  generalize (lg_sl ([.int (iI (v0))]) ++ List.replicate (3 - (lg_sl ([.int (iI (v0))])).length) Slot.unset).toArray = ls at hl ⊢
  have hl : lv_has ls 3 [(0, .int (iI (v0)))] := hl
  refine x_iconst hx hb dX12_bits_0 ?_
  refine lv_istore_n (lv' := [(1, .int (iI (0))), (0, .int (iI (v0)))]) hx hb dX12_bits_1 rfl hl (by decide) rfl (fun ls hl => ?_)
  refine lv_iload_n hx hb dX12_bits_2 rfl (lv_at hl 1 rfl) ?_
  refine lv_istore_n (lv' := [(2, .int (iI (v0))), (1, .int (iI (0))), (0, .int (iI (v0)))]) hx hb dX12_bits_3 rfl hl (by decide) rfl (fun ls hl => ?_)
  have hloop_4 : ∀ (k : Nat) (n : Int) (v : Int), v.toNat < k → (hv1 : 0 ≤ v ∧ v < 1024) → (hn1 : 0 ≤ n ∧ n + v ≤ 1024) → (hacc : n + zPop v = zPop v0) → ∀ (ls : Array Slot), lv_has ls 3 [(1, .int (iI (n))), (2, .int (iI (v))), (0, .int (iI (v0)))] → W p l e (headSpec wsX12_bits ({ frames := 1, cells := 0, slots := 0, locals := 32 })).room s m ([.int (iI (v0))] : List Value).toArray below meth c s.heap [] 0 0 (MQ below (x_Si (fun r => r = zPop v0)) ([.int (iI (v0))] : List Value).toArray s (0) (0) (fun _ => False)) (F0 m 4 ls []) := by
    intro k
    induction k with
    | zero =>
      intros; exact absurd (by assumption) (Nat.not_lt_zero _)
    | succ k ih =>
      intro n v hmeas hv1 hn1 hacc  ls hl
      have ih_1 := ih
      have hz := zBit hv1.1 hv1.2
      have hp9 := zPop_step hv1.1 hv1.2
      refine lv_iload_n hx hb dX12_bits_4 rfl (lv_at hl 1 rfl) ?_
      refine x_if_le (tgt := 21) hx hb (by omega) dX12_bits_5 (by decide) (fun c_5 => ?_) (fun c_5 => ?_)
      · refine lv_iload_n hx hb dX12_bits_21 rfl (lv_at hl 0 rfl) ?_
        refine x_retP hx hb hr (by omega) ?_ dX12_bits_22 hlocks
        have e : v = 0 := by omega
        rw [e, zPop_0] at hacc
        omega
      · refine lv_iload_n hx hb dX12_bits_8 rfl (lv_at hl 0 rfl) ?_
        refine lv_iload_n hx hb dX12_bits_9 rfl (lv_at hl 1 rfl) ?_
        refine x_iconst hx hb dX12_bits_10 ?_
        refine x_iand hx hb dX12_bits_11 ?_
        have hb_2 := iAnd_rng (v) (1)
        refine x_iadd hx hb dX12_bits_12 ?_
        refine lv_istore_n (lv' := [(1, .int (iI (n + (iAnd (v) (1))))), (2, .int (iI (v))), (0, .int (iI (v0)))]) hx hb dX12_bits_13 rfl hl (by decide) rfl (fun ls hl => ?_)
        refine lv_iload_n hx hb dX12_bits_14 rfl (lv_at hl 1 rfl) ?_
        refine x_iconst hx hb dX12_bits_15 ?_
        refine x_ishr hx hb dX12_bits_16 ?_
        have hb_3 := iShr_rng (v) (1)
        refine lv_istore_n (lv' := [(2, .int (iI (iShr (v) (1)))), (1, .int (iI (n + (iAnd (v) (1))))), (0, .int (iI (v0)))]) hx hb dX12_bits_17 rfl hl (by decide) rfl (fun ls hl => ?_)
        refine lv_goto (tgt := 4) hx hb dX12_bits_18 (by decide) ?_
        exact ih_1 (n + (iAnd (v) (1))) (iShr (v) (1)) (by rw [hz.2]; omega) (by rw [hz.2]; omega) (by rw [hz.1, hz.2]; omega) (by rw [hz.1, hz.2]; omega) ls (lv_sub hl [1, 0, 2] rfl)
  exact hloop_4 (((v0).toNat) + 1) (0) (v0) (by omega) (by omega) (by omega) (by omega) ls (lv_sub hl [1, 0, 2] rfl)

set_option maxHeartbeats 4000000 in
set_option maxRecDepth 100000 in
theorem c_X12_breachesOf (l : Launch) (g : xG) (σ : xS) (ov : Nat → Int) (S : Int → Int) (hob : MObj g σ.1 ov) (hs0 : MArr g σ.1 38 29 S) (hok : SmOk S) (h : Int) (hh : 0 ≤ h ∧ h < S 0) : Met l yX12_breachesOf wsX12_breachesOf ({ frames := 5, cells := 0, slots := 0, locals := 160 }) (va_Pc [.ref (g.2.2 37), .int (iI (h))] (xPre g σ)) (x_Si (fun r => r = zBr (mK S) (mF S) (mP S) (S 0) (S 1) h ∧ 0 ≤ r ∧ r ≤ 2)) (0) (0) (fun _ => False) := by
  refine Met.ofW (cc := cX12_breachesOf) (maxL := 2) (ret := (some .int)) (by decide) rfl ?_
  intro p e s m args below meth c s₁ B hml hv
  obtain ⟨rfl, hP, hK⟩ := hv
  have hx := B.exec
  have hb := B.bytes
  have hr := B.returns
  have hts := atoms_spec (ws := wsX12_breachesOf) B.pre
  have hown : s.vm.findClass RX12 = some m.cls := findClass_of_methodNamed B.named
  have hlocks := B.notSynchronized
  have hl := lv_entry ([.ref (g.2.2 37), .int (iI (h))]) (n := 2) (Nat.le_of_ble_eq_true rfl)
  rw [lg_entry_eq]
  generalize (lg_sl ([.ref (g.2.2 37), .int (iI (h))]) ++ List.replicate (2 - (lg_sl ([.ref (g.2.2 37), .int (iI (h))])).length) Slot.unset).toArray = ls at hl ⊢
  have hl : lv_has ls 2 [(0, .ref (g.2.2 37)), (1, .int (iI (h)))] := hl
  have hn0 := hok.2.1
  have hrd0 := hok.2.2.1
  have hok0 := hok.2.2.2 h hh.1 hh.2
  refine lv_aload_n hx hb dX12_breachesOf_0 rfl (lv_at hl 0 rfl) ?_
  refine lv_iload_n hx hb dX12_breachesOf_1 rfl (lv_at hl 1 rfl) ?_
  refine lv_aload_n hx hb dX12_breachesOf_2 rfl (lv_at hl 0 rfl) ?_
  refine lv_iload_n hx hb dX12_breachesOf_3 rfl (lv_at hl 1 rfl) ?_
  refine x_ci (va_runV (As := [.int (iI (h))]) (rest := [.int (iI (h)), .ref (g.2.2 37)]) ⟨hx, hb, hml, hown, hts⟩ (c_X12_purse l g σ (ov) S hob hs0 hok.1 (h) (by omega)) (cwV 1 hts gX12_breachesOf_X12_purse rfl rfl rfl (by decide +kernel) ⟨Nat.le_of_ble_eq_true rfl, Nat.le_of_ble_eq_true rfl⟩) (x_preV hK hP (x_recv hK hP (i := 37) (by decide) hob rfl)) rfl rfl hl.1 rfl (lv_room (Nat.le_of_ble_eq_true rfl)) dX12_breachesOf_4 ⟨Nat.le_of_ble_eq_true rfl, Nat.le_of_ble_eq_true rfl⟩) (fun r_4 hr_4 qr_4 => ?_)
  replace qr_4 : r_4 = S (2 + 3 * (h) + 2) := qr_4
  refine x_ci (va_runV (As := [.int (iI (h)), .int (iI (r_4))]) (rest := []) ⟨hx, hb, hml, hown, hts⟩ (c_X12_tooMuchBy l g σ (ov) S hob hs0 hok (h) (by omega) (r_4) (by omega)) (cwV 2 hts gX12_breachesOf_X12_tooMuchBy rfl rfl rfl (by decide +kernel) ⟨Nat.le_of_ble_eq_true rfl, Nat.le_of_ble_eq_true rfl⟩) (x_preV hK hP (x_recv hK hP (i := 37) (by decide) hob rfl)) rfl rfl hl.1 rfl (lv_room (Nat.le_of_ble_eq_true rfl)) dX12_breachesOf_7 ⟨Nat.le_of_ble_eq_true rfl, Nat.le_of_ble_eq_true rfl⟩) (fun r_7 hr_7 qr_7 => ?_)
  replace qr_7 : r_7 = zSetN (mK S) (mF S) (mP S) (S 0) (S 1) (h) (r_4) 2 := qr_7
  have hz := zSetN_2 (mK S) (mF S) (mP S) (S 0) (S 1) h r_4 hh (by omega) (by omega)
  rw [← qr_7] at hz
  refine x_ci (va_runS (As := [.int (iI (r_7))]) (rest := []) ⟨hx, hb, hml, hown, hts⟩ (c_X12_bits l g σ (r_7) (by omega)) (va_cwS 1 hts gX12_breachesOf_X12_bits rfl rfl rfl (by decide +kernel) ⟨Nat.le_of_ble_eq_true rfl, Nat.le_of_ble_eq_true rfl⟩) (x_preS hK hP) rfl rfl hl.1 rfl (lv_room (Nat.le_of_ble_eq_true rfl)) dX12_breachesOf_10 ⟨Nat.le_of_ble_eq_true rfl, Nat.le_of_ble_eq_true rfl⟩) (fun r_10 hr_10 qr_10 => ?_)
  replace qr_10 : r_10 = zPop (r_7) := qr_10
  refine x_retP hx hb hr (by omega) ?_ dX12_breachesOf_13 hlocks
  have hz := zSetN_2 (mK S) (mF S) (mP S) (S 0) (S 1) h r_4 hh (by omega) (by omega)
  rw [← qr_7] at hz
  have e : r_10 = zBr (mK S) (mF S) (mP S) (S 0) (S 1) h := by rw [qr_10, hz.2.2.1, qr_4]; rfl
  have e2 := zBr_rng (mK S) (mF S) (mP S) (S 0) (S 1) h
  rw [← e] at e2
  exact ⟨e, e2.1, e2.2⟩

set_option maxHeartbeats 4000000 in
set_option maxRecDepth 100000 in
theorem c_X12_breachesAll (l : Launch) (g : xG) (σ : xS) (ov : Nat → Int) (S : Int → Int) (hob : MObj g σ.1 ov) (hs0 : MArr g σ.1 38 29 S) (hok : SmOk S) : Met l yX12_breachesAll wsX12_breachesAll ({ frames := 6, cells := 0, slots := 0, locals := 192 }) (va_Pc [.ref (g.2.2 37)] (xPre g σ)) (x_Si (fun r => r = zAll (mK S) (mF S) (mP S) (S 0) (S 1) ∧ 0 ≤ r ∧ r ≤ 18)) (0) (0) (fun _ => False) := by
  refine Met.ofW (cc := cX12_breachesAll) (maxL := 3) (ret := (some .int)) (by decide) rfl ?_
  intro p e s m args below meth c s₁ B hml hv
  obtain ⟨rfl, hP, hK⟩ := hv
  have hx := B.exec
  have hb := B.bytes
  have hr := B.returns
  have hts := atoms_spec (ws := wsX12_breachesAll) B.pre
  have hown : s.vm.findClass RX12 = some m.cls := findClass_of_methodNamed B.named
  have hlocks := B.notSynchronized
  have hl := lv_entry ([.ref (g.2.2 37)]) (n := 3) (Nat.le_of_ble_eq_true rfl)
  rw [lg_entry_eq]
  generalize (lg_sl ([.ref (g.2.2 37)]) ++ List.replicate (3 - (lg_sl ([.ref (g.2.2 37)])).length) Slot.unset).toArray = ls at hl ⊢
  have hl : lv_has ls 3 [(0, .ref (g.2.2 37))] := hl
  have hn0 := hok.2.1
  have hrd0 := hok.2.2.1
  have hw_0 := hts (.fieldLink RX12 9 "TwiceAsRichModel" "s" "[I") (by decide +kernel)
  have hin_X12 : ∀ w ∈ wsX120, w ∈ wsX12_breachesAll := by decide +kernel
  refine x_iconst hx hb dX12_breachesAll_0 ?_
  refine lv_istore_n (lv' := [(1, .int (iI (0))), (0, .ref (g.2.2 37))]) hx hb dX12_breachesAll_1 rfl hl (by decide) rfl (fun ls hl => ?_)
  refine x_iconst hx hb dX12_breachesAll_2 ?_
  refine lv_istore_n (lv' := [(2, .int (iI (0))), (1, .int (iI (0))), (0, .ref (g.2.2 37))]) hx hb dX12_breachesAll_3 rfl hl (by decide) rfl (fun ls hl => ?_)
  have hloop_4 : ∀ (k : Nat) (i : Int) (all : Int), (S 0 - i).toNat < k → (hi0 : 0 ≤ i) → (hin : i ≤ S 0) → (hall : all = zSum (fun i => zBr (mK S) (mF S) (mP S) (S 0) (S 1) i) i.toNat) → (hrng : 0 ≤ all ∧ all ≤ 2 * i) → ∀ (ls : Array Slot), lv_has ls 3 [(2, .int (iI (i))), (1, .int (iI (all))), (0, .ref (g.2.2 37))] → W p l e (headSpec wsX12_breachesAll ({ frames := 6, cells := 0, slots := 0, locals := 192 })).room s m ([.ref (g.2.2 37)] : List Value).toArray below meth c s.heap [] 0 0 (MQ below (x_Si (fun r => r = zAll (mK S) (mF S) (mP S) (S 0) (S 1) ∧ 0 ≤ r ∧ r ≤ 18)) ([.ref (g.2.2 37)] : List Value).toArray s (0) (0) (fun _ => False)) (F0 m 4 ls []) := by
    intro k
    induction k with
    | zero =>
      intros; exact absurd (by assumption) (Nat.not_lt_zero _)
    | succ k ih =>
      intro i all hmeas hi0 hin hall hrng  ls hl
      have ih_1 := ih
      refine lv_iload_n hx hb dX12_breachesAll_4 rfl (lv_at hl 0 rfl) ?_
      refine lv_aload_n hx hb dX12_breachesAll_5 rfl (lv_at hl 2 rfl) ?_
      refine x_get (C := RX12) (T := TX12) (N := 24) hx hb hts hin_X12 hown hK hP (37) (by decide) hob rfl 0 (by decide) hw_0 (fun _ h9 => h9) rfl dX12_breachesAll_6 ?_
      refine x_iconst hx hb dX12_breachesAll_9 ?_
      refine x_iald (f := S) hx hb hK hP (38) (by decide) hs0 (by omega) (by omega) (by decide) dX12_breachesAll_10 ?_
      have hb_2 := hok.1 (0)
      refine x_icmp_ge (tgt := 28) hx hb (by omega) (by omega) dX12_breachesAll_11 (by decide) (fun c_11 => ?_) (fun c_11 => ?_)
      · refine lv_iload_n hx hb dX12_breachesAll_28 rfl (lv_at hl 1 rfl) ?_
        refine x_retP hx hb hr (by omega) ?_ dX12_breachesAll_29 hlocks
        refine ⟨?_, by omega, by omega⟩
        unfold zAll
        have e : (S 0).toNat = i.toNat := by omega
        rw [e]; exact hall
      · refine lv_iload_n hx hb dX12_breachesAll_14 rfl (lv_at hl 1 rfl) ?_
        refine lv_aload_n hx hb dX12_breachesAll_15 rfl (lv_at hl 2 rfl) ?_
        refine lv_iload_n hx hb dX12_breachesAll_16 rfl (lv_at hl 0 rfl) ?_
        refine x_ci (va_runV (As := [.int (iI (i))]) (rest := [.int (iI (all))]) ⟨hx, hb, hml, hown, hts⟩ (c_X12_breachesOf l g σ (ov) S hob hs0 hok (i) (by omega)) (cwV 1 hts gX12_breachesAll_X12_breachesOf rfl rfl rfl (by decide +kernel) ⟨Nat.le_of_ble_eq_true rfl, Nat.le_of_ble_eq_true rfl⟩) (x_preV hK hP (x_recv hK hP (i := 37) (by decide) hob rfl)) rfl rfl hl.1 rfl (lv_room (Nat.le_of_ble_eq_true rfl)) dX12_breachesAll_17 ⟨Nat.le_of_ble_eq_true rfl, Nat.le_of_ble_eq_true rfl⟩) (fun r_17 hr_17 qr_17 => ?_)
        replace qr_17 : r_17 = zBr (mK S) (mF S) (mP S) (S 0) (S 1) (i) ∧ 0 ≤ r_17 ∧ r_17 ≤ 2 := qr_17
        refine x_iadd hx hb dX12_breachesAll_20 ?_
        refine lv_istore_n (lv' := [(1, .int (iI (all + r_17))), (2, .int (iI (i))), (0, .ref (g.2.2 37))]) hx hb dX12_breachesAll_21 rfl hl (by decide) rfl (fun ls hl => ?_)
        refine x_iinc (k0 := 1) (lv' := [(2, .int (iI (i + 1))), (1, .int (iI (all + r_17))), (0, .ref (g.2.2 37))]) hx hb dX12_breachesAll_22 hl rfl (by decide) rfl (fun ls hl => ?_)
        refine lv_goto (tgt := 4) hx hb dX12_breachesAll_25 (by decide) ?_
        exact ih_1 (i + 1) (all + r_17) (by omega) (by omega) (by omega) (by rw [zSum_succ _ hi0, ← hall, qr_17.1]) (by omega) ls (lv_sub hl [0, 1, 2] rfl)
  exact hloop_4 (((S 0 - (0)).toNat) + 1) (0) (0) (by omega) (by omega) (by omega) (by rfl) (by omega) ls (lv_sub hl [0, 1, 2] rfl)

set_option maxHeartbeats 4000000 in
set_option maxRecDepth 100000 in
theorem c_X12_isLawful (l : Launch) (g : xG) (σ : xS) (ov : Nat → Int) (S : Int → Int) (hob : MObj g σ.1 ov) (hs0 : MArr g σ.1 38 29 S) (hok : SmOk S) : Met l yX12_isLawful wsX12_isLawful ({ frames := 7, cells := 0, slots := 0, locals := 224 }) (va_Pc [.ref (g.2.2 37)] (xPre g σ)) (x_Si (fun r => (r = 1 ∧ zAll (mK S) (mF S) (mP S) (S 0) (S 1) = 0) ∨ (r = 0 ∧ zAll (mK S) (mF S) (mP S) (S 0) (S 1) ≠ 0))) (0) (0) (fun _ => False) := by
  refine Met.ofW (cc := cX12_isLawful) (maxL := 1) (ret := (some .boolean)) (by decide) rfl ?_
  intro p e s m args below meth c s₁ B hml hv
  obtain ⟨rfl, hP, hK⟩ := hv
  have hx := B.exec
  have hb := B.bytes
  have hr := B.returns
  have hts := atoms_spec (ws := wsX12_isLawful) B.pre
  have hown : s.vm.findClass RX12 = some m.cls := findClass_of_methodNamed B.named
  have hlocks := B.notSynchronized
  have hl := lv_entry ([.ref (g.2.2 37)]) (n := 1) (Nat.le_of_ble_eq_true rfl)
  rw [lg_entry_eq]
  generalize (lg_sl ([.ref (g.2.2 37)]) ++ List.replicate (1 - (lg_sl ([.ref (g.2.2 37)])).length) Slot.unset).toArray = ls at hl ⊢
  have hl : lv_has ls 1 [(0, .ref (g.2.2 37))] := hl
  have hn0 := hok.2.1
  have hrd0 := hok.2.2.1
  refine lv_aload_n hx hb dX12_isLawful_0 rfl (lv_at hl 0 rfl) ?_
  refine x_ci (va_runV (As := []) (rest := []) ⟨hx, hb, hml, hown, hts⟩ (c_X12_breachesAll l g σ (ov) S hob hs0 hok ) (cwV 0 hts gX12_isLawful_X12_breachesAll rfl rfl rfl (by decide +kernel) ⟨Nat.le_of_ble_eq_true rfl, Nat.le_of_ble_eq_true rfl⟩) (x_preV hK hP (x_recv hK hP (i := 37) (by decide) hob rfl)) rfl rfl hl.1 rfl (lv_room (Nat.le_of_ble_eq_true rfl)) dX12_isLawful_1 ⟨Nat.le_of_ble_eq_true rfl, Nat.le_of_ble_eq_true rfl⟩) (fun r_1 hr_1 qr_1 => ?_)
  replace qr_1 : r_1 = zAll (mK S) (mF S) (mP S) (S 0) (S 1) ∧ 0 ≤ r_1 ∧ r_1 ≤ 18 := qr_1
  refine x_if_ne (tgt := 11) hx hb (by omega) dX12_isLawful_4 (by decide) (fun c_4 => ?_) (fun c_4 => ?_)
  · refine x_iconst hx hb dX12_isLawful_11 ?_
    refine x_retPz hx hb hr (by omega) ?_ dX12_isLawful_12 hlocks
    omega
  · refine x_iconst hx hb dX12_isLawful_7 ?_
    refine lv_goto (tgt := 12) hx hb dX12_isLawful_8 (by decide) ?_
    refine x_retPz hx hb hr (by omega) ?_ dX12_isLawful_12 hlocks
    omega

set_option maxHeartbeats 4000000 in
set_option maxRecDepth 100000 in
theorem c_X12_mostOf (l : Launch) (g : xG) (σ : xS) (ov : Nat → Int) (S : Int → Int) (hob : MObj g σ.1 ov) (hs0 : MArr g σ.1 38 29 S) (hok : SmOk S) (h : Int) (hh : 0 ≤ h ∧ h < S 0) : Met l yX12_mostOf wsX12_mostOf ({ frames := 4, cells := 0, slots := 0, locals := 128 }) (va_Pc [.ref (g.2.2 37), .int (iI (h))] (xPre g σ)) (x_Si (fun r => r = zMost (mK S) (mF S) (mP S) (S 0) (S 1) h ∧ 0 ≤ r ∧ r ≤ 9999)) (0) (0) (fun _ => False) := by
  refine Met.ofW (cc := cX12_mostOf) (maxL := 6) (ret := (some .int)) (by decide) rfl ?_
  intro p e s m args below meth c s₁ B hml hv
  obtain ⟨rfl, hP, hK⟩ := hv
  have hx := B.exec
  have hb := B.bytes
  have hr := B.returns
  have hts := atoms_spec (ws := wsX12_mostOf) B.pre
  have hown : s.vm.findClass RX12 = some m.cls := findClass_of_methodNamed B.named
  have hlocks := B.notSynchronized
  have hl := lv_entry ([.ref (g.2.2 37), .int (iI (h))]) (n := 6) (Nat.le_of_ble_eq_true rfl)
  rw [lg_entry_eq]
  generalize (lg_sl ([.ref (g.2.2 37), .int (iI (h))]) ++ List.replicate (6 - (lg_sl ([.ref (g.2.2 37), .int (iI (h))])).length) Slot.unset).toArray = ls at hl ⊢
  have hl : lv_has ls 6 [(0, .ref (g.2.2 37)), (1, .int (iI (h)))] := hl
  have hn0 := hok.2.1
  have hrd0 := hok.2.2.1
  refine x_sipush (n := 9999) hx hb (by decide +kernel) dX12_mostOf_0 ?_
  refine lv_istore_n (lv' := [(2, .int (iI (9999))), (0, .ref (g.2.2 37)), (1, .int (iI (h)))]) hx hb dX12_mostOf_3 rfl hl (by decide) rfl (fun ls hl => ?_)
  refine x_iconst hx hb dX12_mostOf_4 ?_
  refine lv_istore_n (lv' := [(3, .int (iI (0))), (2, .int (iI (9999))), (0, .ref (g.2.2 37)), (1, .int (iI (h)))]) hx hb dX12_mostOf_5 rfl hl (by decide) rfl (fun ls hl => ?_)
  have hloop_6 : ∀ (k : Nat) (set : Int) (side : Int), ((2 : Int) - side).toNat < k → (hsd0 : 0 ≤ side) → (hsd2 : side ≤ 2) → (hset : set = zMostN (mK S) (mF S) (mP S) (S 0) (S 1) h side.toNat) → (hsr : 0 ≤ set ∧ set ≤ 9999) → ∀ (ls : Array Slot), lv_has ls 6 [(2, .int (iI (set))), (3, .int (iI (side))), (0, .ref (g.2.2 37)), (1, .int (iI (h)))] → W p l e (headSpec wsX12_mostOf ({ frames := 4, cells := 0, slots := 0, locals := 128 })).room s m ([.ref (g.2.2 37), .int (iI (h))] : List Value).toArray below meth c s.heap [] 0 0 (MQ below (x_Si (fun r => r = zMost (mK S) (mF S) (mP S) (S 0) (S 1) h ∧ 0 ≤ r ∧ r ≤ 9999)) ([.ref (g.2.2 37), .int (iI (h))] : List Value).toArray s (0) (0) (fun _ => False)) (F0 m 6 ls []) := by
    intro k
    induction k with
    | zero =>
      intros; exact absurd (by assumption) (Nat.not_lt_zero _)
    | succ k ih =>
      intro set side hmeas hsd0 hsd2 hset hsr  ls hl
      have ih_1 := ih
      refine lv_iload_n hx hb dX12_mostOf_6 rfl (lv_at hl 1 rfl) ?_
      refine x_iconst hx hb dX12_mostOf_7 ?_
      refine x_icmp_ge (tgt := 68) hx hb (by omega) (by omega) dX12_mostOf_8 (by decide) (fun c_8 => ?_) (fun c_8 => ?_)
      · refine lv_iload_n hx hb dX12_mostOf_68 rfl (lv_at hl 0 rfl) ?_
        refine x_retP hx hb hr (by omega) ?_ dX12_mostOf_69 hlocks
        have e : side.toNat = 2 := by omega
        rw [e, zMostN_2] at hset
        exact ⟨hset, hsr.1, hsr.2⟩
      · refine lv_aload_n hx hb dX12_mostOf_11 rfl (lv_at hl 2 rfl) ?_
        refine lv_iload_n hx hb dX12_mostOf_12 rfl (lv_at hl 3 rfl) ?_
        refine lv_iload_n hx hb dX12_mostOf_13 rfl (lv_at hl 1 rfl) ?_
        refine x_ci (va_runV (As := [.int (iI (h)), .int (iI (side))]) (rest := []) ⟨hx, hb, hml, hown, hts⟩ (c_X12_beside l g σ (ov) S hob hs0 hok (h) (by omega) (side) (by omega)) (cwV 2 hts gX12_mostOf_X12_beside rfl rfl rfl (by decide +kernel) ⟨Nat.le_of_ble_eq_true rfl, Nat.le_of_ble_eq_true rfl⟩) (x_preV hK hP (x_recv hK hP (i := 37) (by decide) hob rfl)) rfl rfl hl.1 rfl (lv_room (Nat.le_of_ble_eq_true rfl)) dX12_mostOf_14 ⟨Nat.le_of_ble_eq_true rfl, Nat.le_of_ble_eq_true rfl⟩) (fun r_14 hr_14 qr_14 => ?_)
        replace qr_14 : (r_14 = zSide (S 0) (S 1) (h) (side) ∧ 0 ≤ r_14 ∧ r_14 < S 0) ∨ (r_14 = -4 ∧ zSide (S 0) (S 1) (h) (side) = -1) := qr_14
        refine lv_istore (lv' := [(4, .int (iI (r_14))), (2, .int (iI (set))), (3, .int (iI (side))), (0, .ref (g.2.2 37)), (1, .int (iI (h)))]) hx hb dX12_mostOf_17 hl (by decide) rfl (fun ls hl => ?_)
        refine lv_iload hx hb dX12_mostOf_19 (lv_at hl 0 rfl) ?_
        refine x_if_lt (tgt := 62) hx hb (by omega) dX12_mostOf_21 (by decide) (fun c_21 => ?_) (fun c_21 => ?_)
        · refine x_iinc (k0 := 2) (lv' := [(3, .int (iI (side + 1))), (4, .int (iI (r_14))), (2, .int (iI (set))), (0, .ref (g.2.2 37)), (1, .int (iI (h)))]) hx hb dX12_mostOf_62 hl rfl (by decide) rfl (fun ls hl => ?_)
          refine lv_goto (tgt := 6) hx hb dX12_mostOf_65 (by decide) ?_
          exact ih_1 (set) (side + 1) (by omega) (by omega) (by omega) (by rw [zMostN_succ _ _ _ _ _ _ hsd0, ← hset]; first | (have hq : zSide (S 0) (S 1) h side = -1 := by omega); (rw [hq, zLim_none, if_neg (by omega)]; done) | (have hq : zSide (S 0) (S 1) h side = r_14 := by omega); (rw [hq, zLim_wall _ _ _ _ _ (by omega), if_neg (by omega)]; done) | (have hq : zSide (S 0) (S 1) h side = r_14 := by omega); (rw [hq, zLim_some _ _ _ _ _ (by omega) (by omega), ← qr_41.1, ← qr_44.1, if_neg (by omega)]; done) | (have hq : zSide (S 0) (S 1) h side = r_14 := by omega); (rw [hq, zLim_some _ _ _ _ _ (by omega) (by omega), ← qr_41.1, ← qr_44.1, if_pos (by omega)]; done)) (by omega) ls (lv_sub hl [2, 0, 3, 4] rfl)
        · refine lv_aload_n hx hb dX12_mostOf_24 rfl (lv_at hl 3 rfl) ?_
          refine lv_iload hx hb dX12_mostOf_25 (lv_at hl 0 rfl) ?_
          refine x_ci (va_runV (As := [.int (iI (r_14))]) (rest := []) ⟨hx, hb, hml, hown, hts⟩ (c_X12_isLookedAt l g σ (ov) S hob hs0 hok (r_14) (by omega)) (cwV 1 hts gX12_mostOf_X12_isLookedAt rfl rfl rfl (by decide +kernel) ⟨Nat.le_of_ble_eq_true rfl, Nat.le_of_ble_eq_true rfl⟩) (x_preV hK hP (x_recv hK hP (i := 37) (by decide) hob rfl)) rfl rfl hl.1 rfl (lv_room (Nat.le_of_ble_eq_true rfl)) dX12_mostOf_27 ⟨Nat.le_of_ble_eq_true rfl, Nat.le_of_ble_eq_true rfl⟩) (fun r_27 hr_27 qr_27 => ?_)
          replace qr_27 : (r_27 = 1 ∧ mK S (r_14) ≠ 3) ∨ (r_27 = 0 ∧ mK S (r_14) = 3) := qr_27
          refine x_if_ne (tgt := 36) hx hb (by omega) dX12_mostOf_30 (by decide) (fun c_30 => ?_) (fun c_30 => ?_)
          · refine lv_aload_n hx hb dX12_mostOf_36 rfl (lv_at hl 3 rfl) ?_
            refine lv_iload_n hx hb dX12_mostOf_37 rfl (lv_at hl 4 rfl) ?_
            refine lv_aload_n hx hb dX12_mostOf_38 rfl (lv_at hl 3 rfl) ?_
            refine lv_iload hx hb dX12_mostOf_39 (lv_at hl 0 rfl) ?_
            refine x_ci (va_runV (As := [.int (iI (r_14))]) (rest := [.int (iI (h)), .ref (g.2.2 37)]) ⟨hx, hb, hml, hown, hts⟩ (c_X12_shows l g σ (ov) S hob hs0 hok (r_14) (by omega)) (cwV 1 hts gX12_mostOf_X12_shows rfl rfl rfl (by decide +kernel) ⟨Nat.le_of_ble_eq_true rfl, Nat.le_of_ble_eq_true rfl⟩) (x_preV hK hP (x_recv hK hP (i := 37) (by decide) hob rfl)) rfl rfl hl.1 rfl (lv_room (Nat.le_of_ble_eq_true rfl)) dX12_mostOf_41 ⟨Nat.le_of_ble_eq_true rfl, Nat.le_of_ble_eq_true rfl⟩) (fun r_41 hr_41 qr_41 => ?_)
            replace qr_41 : r_41 = zShown (mK S (r_14)) (mF S (r_14)) (mP S (r_14)) ∧ 0 ≤ r_41 ∧ r_41 ≤ 10008 := qr_41
            refine x_ci (va_runV (As := [.int (iI (h)), .int (iI (r_41))]) (rest := []) ⟨hx, hb, hml, hown, hts⟩ (c_X12_mayHave l g σ (ov) S hob hs0 hok (h) (by omega) (r_41) (by omega)) (cwV 2 hts gX12_mostOf_X12_mayHave rfl rfl rfl (by decide +kernel) ⟨Nat.le_of_ble_eq_true rfl, Nat.le_of_ble_eq_true rfl⟩) (x_preV hK hP (x_recv hK hP (i := 37) (by decide) hob rfl)) rfl rfl hl.1 rfl (lv_room (Nat.le_of_ble_eq_true rfl)) dX12_mostOf_44 ⟨Nat.le_of_ble_eq_true rfl, Nat.le_of_ble_eq_true rfl⟩) (fun r_44 hr_44 qr_44 => ?_)
            replace qr_44 : r_44 = zMay (mK S (h)) (mF S (h)) (r_41) ∧ 0 ≤ r_44 ∧ r_44 ≤ 50000 := qr_44
            refine lv_istore (lv' := [(5, .int (iI (r_44))), (4, .int (iI (r_14))), (2, .int (iI (set))), (3, .int (iI (side))), (0, .ref (g.2.2 37)), (1, .int (iI (h)))]) hx hb dX12_mostOf_47 hl (by decide) rfl (fun ls hl => ?_)
            refine lv_iload hx hb dX12_mostOf_49 (lv_at hl 0 rfl) ?_
            refine lv_iload_n hx hb dX12_mostOf_51 rfl (lv_at hl 2 rfl) ?_
            refine x_icmp_ge (tgt := 60) hx hb (by omega) (by omega) dX12_mostOf_52 (by decide) (fun c_52 => ?_) (fun c_52 => ?_)
            · refine lv_iload_n hx hb dX12_mostOf_60 rfl (lv_at hl 2 rfl) ?_
              refine lv_istore_n (lv' := [(2, .int (iI (set))), (5, .int (iI (r_44))), (4, .int (iI (r_14))), (3, .int (iI (side))), (0, .ref (g.2.2 37)), (1, .int (iI (h)))]) hx hb dX12_mostOf_61 rfl hl (by decide) rfl (fun ls hl => ?_)
              refine x_iinc (k0 := 3) (lv' := [(3, .int (iI (side + 1))), (2, .int (iI (set))), (5, .int (iI (r_44))), (4, .int (iI (r_14))), (0, .ref (g.2.2 37)), (1, .int (iI (h)))]) hx hb dX12_mostOf_62 hl rfl (by decide) rfl (fun ls hl => ?_)
              refine lv_goto (tgt := 6) hx hb dX12_mostOf_65 (by decide) ?_
              exact ih_1 (set) (side + 1) (by omega) (by omega) (by omega) (by rw [zMostN_succ _ _ _ _ _ _ hsd0, ← hset]; first | (have hq : zSide (S 0) (S 1) h side = -1 := by omega); (rw [hq, zLim_none, if_neg (by omega)]; done) | (have hq : zSide (S 0) (S 1) h side = r_14 := by omega); (rw [hq, zLim_wall _ _ _ _ _ (by omega), if_neg (by omega)]; done) | (have hq : zSide (S 0) (S 1) h side = r_14 := by omega); (rw [hq, zLim_some _ _ _ _ _ (by omega) (by omega), ← qr_41.1, ← qr_44.1, if_neg (by omega)]; done) | (have hq : zSide (S 0) (S 1) h side = r_14 := by omega); (rw [hq, zLim_some _ _ _ _ _ (by omega) (by omega), ← qr_41.1, ← qr_44.1, if_pos (by omega)]; done)) (by omega) ls (lv_sub hl [1, 0, 4, 5] rfl)
            · refine lv_iload hx hb dX12_mostOf_55 (lv_at hl 0 rfl) ?_
              refine lv_goto (tgt := 61) hx hb dX12_mostOf_57 (by decide) ?_
              refine lv_istore_n (lv' := [(2, .int (iI (r_44))), (5, .int (iI (r_44))), (4, .int (iI (r_14))), (3, .int (iI (side))), (0, .ref (g.2.2 37)), (1, .int (iI (h)))]) hx hb dX12_mostOf_61 rfl hl (by decide) rfl (fun ls hl => ?_)
              refine x_iinc (k0 := 3) (lv' := [(3, .int (iI (side + 1))), (2, .int (iI (r_44))), (5, .int (iI (r_44))), (4, .int (iI (r_14))), (0, .ref (g.2.2 37)), (1, .int (iI (h)))]) hx hb dX12_mostOf_62 hl rfl (by decide) rfl (fun ls hl => ?_)
              refine lv_goto (tgt := 6) hx hb dX12_mostOf_65 (by decide) ?_
              exact ih_1 (r_44) (side + 1) (by omega) (by omega) (by omega) (by rw [zMostN_succ _ _ _ _ _ _ hsd0, ← hset]; first | (have hq : zSide (S 0) (S 1) h side = -1 := by omega); (rw [hq, zLim_none, if_neg (by omega)]; done) | (have hq : zSide (S 0) (S 1) h side = r_14 := by omega); (rw [hq, zLim_wall _ _ _ _ _ (by omega), if_neg (by omega)]; done) | (have hq : zSide (S 0) (S 1) h side = r_14 := by omega); (rw [hq, zLim_some _ _ _ _ _ (by omega) (by omega), ← qr_41.1, ← qr_44.1, if_neg (by omega)]; done) | (have hq : zSide (S 0) (S 1) h side = r_14 := by omega); (rw [hq, zLim_some _ _ _ _ _ (by omega) (by omega), ← qr_41.1, ← qr_44.1, if_pos (by omega)]; done)) (by omega) ls (lv_sub hl [1, 0, 4, 5] rfl)
          · refine lv_goto (tgt := 62) hx hb dX12_mostOf_33 (by decide) ?_
            refine x_iinc (k0 := 2) (lv' := [(3, .int (iI (side + 1))), (4, .int (iI (r_14))), (2, .int (iI (set))), (0, .ref (g.2.2 37)), (1, .int (iI (h)))]) hx hb dX12_mostOf_62 hl rfl (by decide) rfl (fun ls hl => ?_)
            refine lv_goto (tgt := 6) hx hb dX12_mostOf_65 (by decide) ?_
            exact ih_1 (set) (side + 1) (by omega) (by omega) (by omega) (by rw [zMostN_succ _ _ _ _ _ _ hsd0, ← hset]; first | (have hq : zSide (S 0) (S 1) h side = -1 := by omega); (rw [hq, zLim_none, if_neg (by omega)]; done) | (have hq : zSide (S 0) (S 1) h side = r_14 := by omega); (rw [hq, zLim_wall _ _ _ _ _ (by omega), if_neg (by omega)]; done) | (have hq : zSide (S 0) (S 1) h side = r_14 := by omega); (rw [hq, zLim_some _ _ _ _ _ (by omega) (by omega), ← qr_41.1, ← qr_44.1, if_neg (by omega)]; done) | (have hq : zSide (S 0) (S 1) h side = r_14 := by omega); (rw [hq, zLim_some _ _ _ _ _ (by omega) (by omega), ← qr_41.1, ← qr_44.1, if_pos (by omega)]; done)) (by omega) ls (lv_sub hl [2, 0, 3, 4] rfl)
  exact hloop_6 ((((2 : Int) - (0)).toNat) + 1) (9999) (0) (by omega) (by omega) (by omega) (by rfl) (by omega) ls (lv_sub hl [1, 0, 2, 3] rfl)

set_option maxHeartbeats 4000000 in
set_option maxRecDepth 100000 in
theorem c_X12_coins (l : Launch) (g : xG) (σ : xS) (ov : Nat → Int) (S : Int → Int) (hob : MObj g σ.1 ov) (hs0 : MArr g σ.1 38 29 S) (hok : SmOk S) : Met l yX12_coins wsX12_coins ({ frames := 3, cells := 0, slots := 0, locals := 96 }) (va_Pc [.ref (g.2.2 37)] (xPre g σ)) (x_Si (fun r => r = zSum (mP S) (S 0).toNat ∧ 0 ≤ r ∧ r ≤ 99999)) (0) (0) (fun _ => False) := by
  refine Met.ofW (cc := cX12_coins) (maxL := 3) (ret := (some .int)) (by decide) rfl ?_
  intro p e s m args below meth c s₁ B hml hv
  obtain ⟨rfl, hP, hK⟩ := hv
  have hx := B.exec
  have hb := B.bytes
  have hr := B.returns
  have hts := atoms_spec (ws := wsX12_coins) B.pre
  have hown : s.vm.findClass RX12 = some m.cls := findClass_of_methodNamed B.named
  have hlocks := B.notSynchronized
  have hl := lv_entry ([.ref (g.2.2 37)]) (n := 3) (Nat.le_of_ble_eq_true rfl)
  rw [lg_entry_eq]
  generalize (lg_sl ([.ref (g.2.2 37)]) ++ List.replicate (3 - (lg_sl ([.ref (g.2.2 37)])).length) Slot.unset).toArray = ls at hl ⊢
  have hl : lv_has ls 3 [(0, .ref (g.2.2 37))] := hl
  have hn0 := hok.2.1
  have hrd0 := hok.2.2.1
  have hw_0 := hts (.fieldLink RX12 9 "TwiceAsRichModel" "s" "[I") (by decide +kernel)
  have hin_X12 : ∀ w ∈ wsX120, w ∈ wsX12_coins := by decide +kernel
  refine x_iconst hx hb dX12_coins_0 ?_
  refine lv_istore_n (lv' := [(1, .int (iI (0))), (0, .ref (g.2.2 37))]) hx hb dX12_coins_1 rfl hl (by decide) rfl (fun ls hl => ?_)
  refine x_iconst hx hb dX12_coins_2 ?_
  refine lv_istore_n (lv' := [(2, .int (iI (0))), (1, .int (iI (0))), (0, .ref (g.2.2 37))]) hx hb dX12_coins_3 rfl hl (by decide) rfl (fun ls hl => ?_)
  have hloop_4 : ∀ (k : Nat) (i : Int) (all : Int), (S 0 - i).toNat < k → (hi0 : 0 ≤ i) → (hin : i ≤ S 0) → (hall : all = zSum (mP S) i.toNat) → (hrng : 0 ≤ all ∧ all ≤ 9999 * i) → ∀ (ls : Array Slot), lv_has ls 3 [(2, .int (iI (i))), (1, .int (iI (all))), (0, .ref (g.2.2 37))] → W p l e (headSpec wsX12_coins ({ frames := 3, cells := 0, slots := 0, locals := 96 })).room s m ([.ref (g.2.2 37)] : List Value).toArray below meth c s.heap [] 0 0 (MQ below (x_Si (fun r => r = zSum (mP S) (S 0).toNat ∧ 0 ≤ r ∧ r ≤ 99999)) ([.ref (g.2.2 37)] : List Value).toArray s (0) (0) (fun _ => False)) (F0 m 4 ls []) := by
    intro k
    induction k with
    | zero =>
      intros; exact absurd (by assumption) (Nat.not_lt_zero _)
    | succ k ih =>
      intro i all hmeas hi0 hin hall hrng  ls hl
      have ih_1 := ih
      refine lv_iload_n hx hb dX12_coins_4 rfl (lv_at hl 0 rfl) ?_
      refine lv_aload_n hx hb dX12_coins_5 rfl (lv_at hl 2 rfl) ?_
      refine x_get (C := RX12) (T := TX12) (N := 24) hx hb hts hin_X12 hown hK hP (37) (by decide) hob rfl 0 (by decide) hw_0 (fun _ h9 => h9) rfl dX12_coins_6 ?_
      refine x_iconst hx hb dX12_coins_9 ?_
      refine x_iald (f := S) hx hb hK hP (38) (by decide) hs0 (by omega) (by omega) (by decide) dX12_coins_10 ?_
      have hb_2 := hok.1 (0)
      refine x_icmp_ge (tgt := 28) hx hb (by omega) (by omega) dX12_coins_11 (by decide) (fun c_11 => ?_) (fun c_11 => ?_)
      · refine lv_iload_n hx hb dX12_coins_28 rfl (lv_at hl 1 rfl) ?_
        refine x_retP hx hb hr (by omega) ?_ dX12_coins_29 hlocks
        refine ⟨?_, by omega, by omega⟩
        have e : (S 0).toNat = i.toNat := by omega
        rw [e]; exact hall
      · refine lv_iload_n hx hb dX12_coins_14 rfl (lv_at hl 1 rfl) ?_
        refine lv_aload_n hx hb dX12_coins_15 rfl (lv_at hl 2 rfl) ?_
        refine lv_iload_n hx hb dX12_coins_16 rfl (lv_at hl 0 rfl) ?_
        refine x_ci (va_runV (As := [.int (iI (i))]) (rest := [.int (iI (all))]) ⟨hx, hb, hml, hown, hts⟩ (c_X12_purse l g σ (ov) S hob hs0 hok.1 (i) (by omega)) (cwV 1 hts gX12_coins_X12_purse rfl rfl rfl (by decide +kernel) ⟨Nat.le_of_ble_eq_true rfl, Nat.le_of_ble_eq_true rfl⟩) (x_preV hK hP (x_recv hK hP (i := 37) (by decide) hob rfl)) rfl rfl hl.1 rfl (lv_room (Nat.le_of_ble_eq_true rfl)) dX12_coins_17 ⟨Nat.le_of_ble_eq_true rfl, Nat.le_of_ble_eq_true rfl⟩) (fun r_17 hr_17 qr_17 => ?_)
        replace qr_17 : r_17 = S (2 + 3 * (i) + 2) := qr_17
        have hq9 := hok.2.2.2 i hi0 (by omega)
        refine x_iadd hx hb dX12_coins_20 ?_
        refine lv_istore_n (lv' := [(1, .int (iI (all + r_17))), (2, .int (iI (i))), (0, .ref (g.2.2 37))]) hx hb dX12_coins_21 rfl hl (by decide) rfl (fun ls hl => ?_)
        refine x_iinc (k0 := 1) (lv' := [(2, .int (iI (i + 1))), (1, .int (iI (all + r_17))), (0, .ref (g.2.2 37))]) hx hb dX12_coins_22 hl rfl (by decide) rfl (fun ls hl => ?_)
        refine lv_goto (tgt := 4) hx hb dX12_coins_25 (by decide) ?_
        exact ih_1 (i + 1) (all + r_17) (by omega) (by omega) (by omega) (by rw [zSum_succ _ hi0, ← hall]; unfold mP; omega) (by omega) ls (lv_sub hl [0, 1, 2] rfl)
  exact hloop_4 (((S 0 - (0)).toNat) + 1) (0) (0) (by omega) (by omega) (by omega) (by rfl) (by omega) ls (lv_sub hl [0, 1, 2] rfl)
