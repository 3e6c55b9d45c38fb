def ShOk (Kp So Sz El KK KF : Int → Int) : Prop := (∀ k, inR (Kp k)) ∧ (∀ k, inR (So k)) ∧ (∀ k, inR (Sz k)) ∧ (∀ k, inR (El k)) ∧ (∀ k, inR (KK k)) ∧ (∀ k, inR (KF k)) ∧ ∀ d, 0 ≤ d → d ≤ 7 → Kp d = 0 ∨ (Kp d = 1 ∧ (0 ≤ KK d ∧ KK d < 8) ∧ (0 ≤ KF d ∧ KF d ≤ 9)) ∨ (Kp d = 2 ∧ (0 ≤ So d ∧ So d ≤ 2) ∧ (0 ≤ Sz d ∧ Sz d ≤ 100))
/-- why a row is refused: -1, -11, -12; 0 it is not -/
def zRowR (Kp So : Int → Int) (d o : Int) : Int := if ¬ (0 ≤ d ∧ d ≤ 7) then -1 else if Kp d = 0 then -11 else if Kp d ≠ 2 ∨ (0 ≤ o ∧ So d ≠ o) then -12 else 0
def zKeptR (Kp : Int → Int) (d : Int) : Int := if ¬ (0 ≤ d ∧ d ≤ 7) then -1 else if Kp d = 0 then -11 else if Kp d = 1 then 0 else -12
def zTossF (k f : Int) : Int := if k = 3 ∨ f = 0 then -15 else if k = 5 then 100 + f else if k = 6 then 200 + zFee 6 f else f
def zFreeN (K : Int → Nat) (F P : Int → Int) (n rd : Int) : Nat → Int
  | 0 => 0
  | k + 1 => if P (k : Int) < 9999 ∧ zHold K F P n rd (k : Int) = 0 then iOr (zFreeN K F P n rd k) (iShl 1 (k : Int)) else zFreeN K F P n rd k
theorem zFreeN_succ (K : Int → Nat) (F P : Int → Int) (n rd : Int) {k : Int} (h : 0 ≤ k) : zFreeN K F P n rd (k + 1).toNat = if P k < 9999 ∧ zHold K F P n rd k = 0 then iOr (zFreeN K F P n rd k.toNat) (iShl 1 k) else zFreeN K F P n rd k.toNat := by
  have e : (k + 1).toNat = k.toNat + 1 := by omega
  rw [e]
  show (if P ((k.toNat : Nat) : Int) < 9999 ∧ zHold K F P n rd ((k.toNat : Nat) : Int) = 0 then iOr _ (iShl 1 ((k.toNat : Nat) : Int)) else _) = _
  rw [Int.toNat_of_nonneg h]
theorem iOr_zero {x : Int} (h : inR x) : iOr x 0 = x := by
  unfold iOr
  rw [iI_zero, Int32.or_zero, iI_toInt h]
/-- purses looked at: what is answered -/
def zJudged (R P : Int → Int) (z n sk r : Int) : Prop := (0 ≤ r ∧ r < z ∧ r < n ∧ R r ≠ sk ∧ R r ≠ P r ∧ ∀ j, 0 ≤ j → j < r → R j = sk ∨ R j = P j) ∨ ((∀ j, 0 ≤ j → j < z → j < n → R j = sk ∨ R j = P j) ∧ ((z = n ∧ r = -4) ∨ (z < n ∧ r = z) ∨ (n < z ∧ r = n)))
def zLawful (K : Int → Nat) (F P : Int → Int) (n rd : Int) : Int := if zAll K F P n rd = 0 then 1 else 0
def zBreaches (K : Int → Nat) (F P : Int → Int) (n rd h : Int) : Int := if h = -1 then zAll K F P n rd else if 0 ≤ h ∧ h < n then zBr K F P n rd h else -1
def zHeldR (K : Int → Nat) (F P : Int → Int) (n rd h : Int) : Int := if 0 ≤ h ∧ h < n then zHold K F P n rd h else -1
def zCount (K : Int → Nat) (F P : Int → Int) (n rd wh : Int) : Int := if wh = 0 then n else if wh = 1 then rd else if wh = 2 then zSum P n.toNat else if wh = 3 then zNone K F P n rd else -1
def zTax (P : Int → Int) (n lv : Int) : Int := if 0 ≤ lv ∧ lv ≤ 9999 then zSum (fun i => min (P i) lv) n.toNat else -1
def zHouse (K : Int → Nat) (F P : Int → Int) (n rd h wh : Int) : Int := if ¬ (0 ≤ h ∧ h < n) then -1 else if wh = 0 then ((K h : Nat) : Int) else if wh = 1 then F h else if wh = 2 then P h else if wh = 3 then (if K h = 3 then -4 else zShown (K h) (F h) (P h)) else if wh = 4 then zMost K F P n rd h else if wh = 5 then zWeek (K h) (F h) else -1
def zLeast (so : Int) : Int := if so = 0 then -128 else if so = 1 then -32768 else -2147483648
def zLow (so v : Int) : Int := if so = 0 then iByte v else if so = 1 then iShort v else v
def zZero (f : Int → Int) (a n : Int) : Int → Int := fun q => if a ≤ q ∧ q < a + n then 0 else f q
theorem zZero_0 (f : Int → Int) (a : Int) : zZero f a 0 = f := by
  funext q; unfold zZero; rw [if_neg (by omega)]
theorem zZero_step {f : Int → Int} {a k : Int} (h : 0 ≤ k) : upI (zZero f a k) (a + k) 0 = zZero f a (k + 1) := by
  funext q; unfold upI zZero
  by_cases e : q = a + k
  · subst e; rw [if_pos rfl, if_pos (by omega)]
  · rw [if_neg e]
    by_cases h2 : a ≤ q ∧ q < a + k
    · rw [if_pos h2, if_pos (by omega)]
    · rw [if_neg h2, if_neg (by omega)]
/-- n elements from bd on come to be on; k of them have come, from below (up) or from above -/
def zMove (f : Int → Int) (bd be n k : Int) (up : Prop) [Decidable up] : Int → Int := fun q => if be + (if up then 0 else n - k) ≤ q ∧ q < be + (if up then k else n) then f (q - be + bd) else f q
def zMoved (f : Int → Int) (bd be n : Int) : Int → Int := fun q => if be ≤ q ∧ q < be + n then f (q - be + bd) else f q
theorem zMove_0 (f : Int → Int) (bd be n : Int) (up : Prop) [Decidable up] : zMove f bd be n 0 up = f := by
  funext q; unfold zMove
  by_cases h : up
  · simp only [if_pos h]; rw [if_neg (by omega)]
  · simp only [if_neg h]; rw [if_neg (by omega)]
theorem zMove_n {f : Int → Int} {bd be n : Int} {up : Prop} [Decidable up] : zMove f bd be n n up = zMoved f bd be n := by
  funext q; unfold zMove zMoved
  by_cases h : up
  · simp only [if_pos h]
    by_cases h2 : be ≤ q ∧ q < be + n
    · rw [if_pos h2, if_pos (by omega)]
    · rw [if_neg h2, if_neg (by omega)]
  · simp only [if_neg h]
    by_cases h2 : be ≤ q ∧ q < be + n
    · rw [if_pos h2, if_pos (by omega)]
    · rw [if_neg h2, if_neg (by omega)]
theorem zMove_up {f : Int → Int} {bd be n k : Int} {up : Prop} [Decidable up] (hu : up) (hk : 0 ≤ k ∧ k < n) (hr : bd + k < be ∨ be + k ≤ bd + k) : upI (zMove f bd be n k up) (be + k) (zMove f bd be n k up (bd + k)) = zMove f bd be n (k + 1) up := by
  have e : zMove f bd be n k up (bd + k) = f (bd + k) := by
    unfold zMove; simp only [if_pos hu]; rw [if_neg (by omega)]
  rw [e]
  funext q; unfold upI zMove
  simp only [if_pos hu]
  by_cases h : q = be + k
  · subst h; rw [if_pos rfl, if_pos (by omega)]; congr 1; omega
  · rw [if_neg h]
    by_cases h2 : be + 0 ≤ q ∧ q < be + k
    · rw [if_pos h2, if_pos (by omega)]
    · rw [if_neg h2, if_neg (by omega)]
theorem zMove_dn {f : Int → Int} {bd be n k : Int} {up : Prop} [Decidable up] (hu : ¬ up) (hk : 0 ≤ k ∧ k < n) (hr : bd + (n - 1 - k) < be + (n - k) ∨ be + n ≤ bd + (n - 1 - k)) : upI (zMove f bd be n k up) (be + (n - 1 - k)) (zMove f bd be n k up (bd + (n - 1 - k))) = zMove f bd be n (k + 1) up := by
  have e : zMove f bd be n k up (bd + (n - 1 - k)) = f (bd + (n - 1 - k)) := by
    unfold zMove; simp only [if_neg hu]; rw [if_neg (by omega)]
  rw [e]
  funext q; unfold upI zMove
  simp only [if_neg hu]
  by_cases h : q = be + (n - 1 - k)
  · subst h; rw [if_pos rfl, if_pos (by omega)]; congr 1; omega
  · rw [if_neg h]
    by_cases h2 : be + (n - k) ≤ q ∧ q < be + n
    · rw [if_pos h2, if_pos (by omega)]
    · rw [if_neg h2, if_neg (by omega)]
theorem zLow_rng {s v : Int} (h : inR v) : inR (zLow s v) := by
  unfold zLow; split
  · exact iByte_rng _
  · split
    · exact iShort_rng _
    · exact h

set_option maxHeartbeats 4000000 in
set_option maxRecDepth 100000 in
theorem c_X12_wrongGift (l : Launch) (g : xG) (σ : xS) (ov : Nat → Int) (S : Int → Int) (hob : MObj g σ.1 ov) (hs0 : MArr g σ.1 38 29 S) (hok : SmOk S) (a : Int) (ha : inR a) (b : Int) (hb9 : inR b) (c0 : Int) (hc : inR c0) : Met l yX12_wrongGift wsX12_wrongGift ({ frames := 4, cells := 0, slots := 0, locals := 128 }) (va_Pc [.ref (g.2.2 37), .int (iI (a)), .int (iI (b)), .int (iI (c0))] (xPre g σ)) (x_Si (fun r => r = zGiftR (mP S) (S 0) a b c0)) (0) (0) (fun _ => False) := by
  refine Met.ofW (cc := cX12_wrongGift) (maxL := 4) (ret := (some .int)) (by decide) rfl ?_
  intro p e s m args below meth c s₁ B hml hv
  obtain ⟨rfl, hP, hK⟩ := hv
  have hx := B.exec
  have hb := B.bytes
  have hr := B.returns
  have hts := atoms_spec (ws := wsX12_wrongGift) B.pre
  have hown : s.vm.findClass RX12 = some m.cls := findClass_of_methodNamed B.named
  have hlocks := B.notSynchronized
  have hl := lv_entry ([.ref (g.2.2 37), .int (iI (a)), .int (iI (b)), .int (iI (c0))]) (n := 4) (Nat.le_of_ble_eq_true rfl)
  rw [lg_entry_eq]
  generalize (lg_sl ([.ref (g.2.2 37), .int (iI (a)), .int (iI (b)), .int (iI (c0))]) ++ List.replicate (4 - (lg_sl ([.ref (g.2.2 37), .int (iI (a)), .int (iI (b)), .int (iI (c0))])).length) Slot.unset).toArray = ls at hl ⊢
  have hl : lv_has ls 4 [(0, .ref (g.2.2 37)), (1, .int (iI (a))), (2, .int (iI (b))), (3, .int (iI (c0)))] := hl
  have hn0 := hok.2.1
  have hrd0 := hok.2.2.1
  refine lv_aload_n hx hb dX12_wrongGift_0 rfl (lv_at hl 0 rfl) ?_
  refine lv_iload_n hx hb dX12_wrongGift_1 rfl (lv_at hl 1 rfl) ?_
  refine lv_iload_n hx hb dX12_wrongGift_2 rfl (lv_at hl 2 rfl) ?_
  refine x_ci (va_runV (As := [.int (iI (a)), .int (iI (b))]) (rest := []) ⟨hx, hb, hml, hown, hts⟩ (c_X12_areTwo l g σ (ov) S hob hs0 hok (a) (by omega) (b) (by omega)) (cwV 2 hts gX12_wrongGift_X12_areTwo rfl rfl rfl (by decide +kernel) ⟨Nat.le_of_ble_eq_true rfl, Nat.le_of_ble_eq_true rfl⟩) (x_preV hK hP (x_recv hK hP (i := 37) (by decide) hob rfl)) rfl rfl hl.1 rfl (lv_room (Nat.le_of_ble_eq_true rfl)) dX12_wrongGift_3 ⟨Nat.le_of_ble_eq_true rfl, Nat.le_of_ble_eq_true rfl⟩) (fun r_3 hr_3 qr_3 => ?_)
  replace qr_3 : (r_3 = 1 ∧ (0 ≤ (a) ∧ (a) < S 0 ∧ 0 ≤ (b) ∧ (b) < S 0 ∧ (a) ≠ (b))) ∨ (r_3 = 0 ∧ ¬ (0 ≤ (a) ∧ (a) < S 0 ∧ 0 ≤ (b) ∧ (b) < S 0 ∧ (a) ≠ (b))) := qr_3
  refine x_if_eq (tgt := 14) hx hb (by omega) dX12_wrongGift_6 (by decide) (fun c_6 => ?_) (fun c_6 => ?_)
  · refine x_iconst hx hb dX12_wrongGift_14 ?_
    refine lv_goto (tgt := 51) hx hb dX12_wrongGift_15 (by decide) ?_
    refine x_retP hx hb hr (by omega) ?_ dX12_wrongGift_51 hlocks
    have hz1 := fun h1 h2 => (hok.2.2.2 a h1 h2).2.2
    have hz2 := fun h1 h2 => (hok.2.2.2 b h1 h2).2.2
    unfold zGiftR mP
    first | (rw [if_pos (by omega)]; done) | (rw [if_neg (by omega), if_pos (by omega)]; done) | (rw [if_neg (by omega), if_neg (by omega), if_pos (by omega)]; done) | (rw [if_neg (by omega), if_neg (by omega), if_neg (by omega)]; done)
  · refine lv_iload_n hx hb dX12_wrongGift_9 rfl (lv_at hl 3 rfl) ?_
    refine x_iconst hx hb dX12_wrongGift_10 ?_
    refine x_icmp_ge (tgt := 18) hx hb (by omega) (by omega) dX12_wrongGift_11 (by decide) (fun c_11 => ?_) (fun c_11 => ?_)
    · refine lv_aload_n hx hb dX12_wrongGift_18 rfl (lv_at hl 0 rfl) ?_
      refine lv_iload_n hx hb dX12_wrongGift_19 rfl (lv_at hl 1 rfl) ?_
      refine x_ci (va_runV (As := [.int (iI (a))]) (rest := []) ⟨hx, hb, hml, hown, hts⟩ (c_X12_purse l g σ (ov) S hob hs0 hok.1 (a) (by omega)) (cwV 1 hts gX12_wrongGift_X12_purse rfl rfl rfl (by decide +kernel) ⟨Nat.le_of_ble_eq_true rfl, Nat.le_of_ble_eq_true rfl⟩) (x_preV hK hP (x_recv hK hP (i := 37) (by decide) hob rfl)) rfl rfl hl.1 rfl (lv_room (Nat.le_of_ble_eq_true rfl)) dX12_wrongGift_20 ⟨Nat.le_of_ble_eq_true rfl, Nat.le_of_ble_eq_true rfl⟩) (fun r_20 hr_20 qr_20 => ?_)
      replace qr_20 : r_20 = S (2 + 3 * (a) + 2) := qr_20
      refine lv_iload_n hx hb dX12_wrongGift_23 rfl (lv_at hl 3 rfl) ?_
      refine x_icmp_ge (tgt := 32) hx hb (by omega) (by omega) dX12_wrongGift_24 (by decide) (fun c_24 => ?_) (fun c_24 => ?_)
      · refine lv_aload_n hx hb dX12_wrongGift_32 rfl (lv_at hl 0 rfl) ?_
        refine lv_iload_n hx hb dX12_wrongGift_33 rfl (lv_at hl 2 rfl) ?_
        refine x_ci (va_runV (As := [.int (iI (b))]) (rest := []) ⟨hx, hb, hml, hown, hts⟩ (c_X12_purse l g σ (ov) S hob hs0 hok.1 (b) (by omega)) (cwV 1 hts gX12_wrongGift_X12_purse rfl rfl rfl (by decide +kernel) ⟨Nat.le_of_ble_eq_true rfl, Nat.le_of_ble_eq_true rfl⟩) (x_preV hK hP (x_recv hK hP (i := 37) (by decide) hob rfl)) rfl rfl hl.1 rfl (lv_room (Nat.le_of_ble_eq_true rfl)) dX12_wrongGift_34 ⟨Nat.le_of_ble_eq_true rfl, Nat.le_of_ble_eq_true rfl⟩) (fun r_34 hr_34 qr_34 => ?_)
        replace qr_34 : r_34 = S (2 + 3 * (b) + 2) := qr_34
        refine x_sipush (n := 9999) hx hb (by decide +kernel) dX12_wrongGift_37 ?_
        refine lv_iload_n hx hb dX12_wrongGift_40 rfl (lv_at hl 3 rfl) ?_
        have hz1 := (hok.2.2.2 a (by omega) (by omega)).2.2
        refine x_isub hx hb dX12_wrongGift_41 ?_
        refine x_icmp_le (tgt := 50) hx hb (by omega) (by omega) dX12_wrongGift_42 (by decide) (fun c_42 => ?_) (fun c_42 => ?_)
        · refine x_iconst hx hb dX12_wrongGift_50 ?_
          refine x_retP hx hb hr (by omega) ?_ dX12_wrongGift_51 hlocks
          have hz1 := fun h1 h2 => (hok.2.2.2 a h1 h2).2.2
          have hz2 := fun h1 h2 => (hok.2.2.2 b h1 h2).2.2
          unfold zGiftR mP
          first | (rw [if_pos (by omega)]; done) | (rw [if_neg (by omega), if_pos (by omega)]; done) | (rw [if_neg (by omega), if_neg (by omega), if_pos (by omega)]; done) | (rw [if_neg (by omega), if_neg (by omega), if_neg (by omega)]; done)
        · refine x_bipush (n := -2) hx hb (by decide +kernel) dX12_wrongGift_45 ?_
          refine lv_goto (tgt := 51) hx hb dX12_wrongGift_47 (by decide) ?_
          refine x_retP hx hb hr (by omega) ?_ dX12_wrongGift_51 hlocks
          have hz1 := fun h1 h2 => (hok.2.2.2 a h1 h2).2.2
          have hz2 := fun h1 h2 => (hok.2.2.2 b h1 h2).2.2
          unfold zGiftR mP
          first | (rw [if_pos (by omega)]; done) | (rw [if_neg (by omega), if_pos (by omega)]; done) | (rw [if_neg (by omega), if_neg (by omega), if_pos (by omega)]; done) | (rw [if_neg (by omega), if_neg (by omega), if_neg (by omega)]; done)
      · refine x_bipush (n := -3) hx hb (by decide +kernel) dX12_wrongGift_27 ?_
        refine lv_goto (tgt := 51) hx hb dX12_wrongGift_29 (by decide) ?_
        refine x_retP hx hb hr (by omega) ?_ dX12_wrongGift_51 hlocks
        have hz1 := fun h1 h2 => (hok.2.2.2 a h1 h2).2.2
        have hz2 := fun h1 h2 => (hok.2.2.2 b h1 h2).2.2
        unfold zGiftR mP
        first | (rw [if_pos (by omega)]; done) | (rw [if_neg (by omega), if_pos (by omega)]; done) | (rw [if_neg (by omega), if_neg (by omega), if_pos (by omega)]; done) | (rw [if_neg (by omega), if_neg (by omega), if_neg (by omega)]; done)
    · refine x_iconst hx hb dX12_wrongGift_14 ?_
      refine lv_goto (tgt := 51) hx hb dX12_wrongGift_15 (by decide) ?_
      refine x_retP hx hb hr (by omega) ?_ dX12_wrongGift_51 hlocks
      have hz1 := fun h1 h2 => (hok.2.2.2 a h1 h2).2.2
      have hz2 := fun h1 h2 => (hok.2.2.2 b h1 h2).2.2
      unfold zGiftR mP
      first | (rw [if_pos (by omega)]; done) | (rw [if_neg (by omega), if_pos (by omega)]; done) | (rw [if_neg (by omega), if_neg (by omega), if_pos (by omega)]; done) | (rw [if_neg (by omega), if_neg (by omega), if_neg (by omega)]; done)

set_option maxHeartbeats 4000000 in
set_option maxRecDepth 100000 in
theorem c_X12_gives (l : Launch) (g : xG) (σ : xS) (A : Nat → Prop) (ov : Nat → Int) (S : Int → Int) (hob : MObj g σ.1 ov) (hs0 : MArr g σ.1 38 29 S) (hok : SmOk S) (a : Int) (ha : 0 ≤ a ∧ a < 9) (b : Int) (hb9 : 0 ≤ b ∧ b < 9) (c0 : Int) (hc : 0 ≤ c0 ∧ c0 ≤ 9999) (hab : a ≠ b) (h1 : c0 ≤ S (2 + 3 * a + 2)) (h2 : S (2 + 3 * b + 2) + c0 ≤ 9999) (h3 : S (2 + 3 * a + 2) ≤ 9999) (h4 : 0 ≤ S (2 + 3 * b + 2)) : Met l yX12_gives wsX12_gives ({ frames := 3, cells := 0, slots := 0, locals := 96 }) (va_Pc [.ref (g.2.2 37), .int (iI (a)), .int (iI (b)), .int (iI (c0))] (xPreQ g A σ)) (x_Qv g A (fun σ1 => σ1.2 = σ.2 ∧ (∀ j, j ≠ 38 → σ1.1 j = σ.1 j) ∧ MArr g σ1.1 38 29 (zGives S a b c0))) (0) (0) A := by
  refine Met.ofW (cc := cX12_gives) (maxL := 4) (ret := none) (by decide) rfl ?_
  intro p e s m args below meth c s₁ B hml hv
  obtain ⟨rfl, hP, hK, hD, hA⟩ := hv
  have hx := B.exec
  have hb := B.bytes
  have hr := B.returns
  have hts := atoms_spec (ws := wsX12_gives) B.pre
  have hown : s.vm.findClass RX12 = some m.cls := findClass_of_methodNamed B.named
  have hlocks := B.notSynchronized
  have hS : va_S A s.heap s.heap [] := va_S.rf
  have hfr : ∀ j, (j ≠ 38) → σ.1 j = σ.1 j := fun _ _ => rfl
  have hl := lv_entry ([.ref (g.2.2 37), .int (iI (a)), .int (iI (b)), .int (iI (c0))]) (n := 4) (Nat.le_of_ble_eq_true rfl)
  rw [lg_entry_eq]
  generalize (lg_sl ([.ref (g.2.2 37), .int (iI (a)), .int (iI (b)), .int (iI (c0))]) ++ List.replicate (4 - (lg_sl ([.ref (g.2.2 37), .int (iI (a)), .int (iI (b)), .int (iI (c0))])).length) Slot.unset).toArray = ls at hl ⊢
  have hl : lv_has ls 4 [(0, .ref (g.2.2 37)), (1, .int (iI (a))), (2, .int (iI (b))), (3, .int (iI (c0)))] := hl
  have hn0 := hok.2.1
  have hrd0 := hok.2.2.1
  refine lv_aload_n hx hb dX12_gives_0 rfl (lv_at hl 0 rfl) ?_
  refine lv_iload_n hx hb dX12_gives_1 rfl (lv_at hl 1 rfl) ?_
  refine x_iconst hx hb dX12_gives_2 ?_
  refine lv_aload_n hx hb dX12_gives_3 rfl (lv_at hl 0 rfl) ?_
  refine lv_iload_n hx hb dX12_gives_4 rfl (lv_at hl 1 rfl) ?_
  refine x_ci (va_runV (As := [.int (iI (a))]) (rest := [.int (iI (2)), .int (iI (a)), .ref (g.2.2 37)]) ⟨hx, hb, hml, hown, hts⟩ (c_X12_purse l g σ (ov) S hob hs0 hok.1 (a) (by omega)) (cwV 1 hts gX12_gives_X12_purse rfl rfl rfl (by decide +kernel) ⟨Nat.le_of_ble_eq_true rfl, Nat.le_of_ble_eq_true rfl⟩) (x_preV hK hP (x_recv hK hP (i := 37) (by decide) hob rfl)) rfl rfl hl.1 rfl (lv_room (Nat.le_of_ble_eq_true rfl)) dX12_gives_5 ⟨Nat.le_of_ble_eq_true rfl, Nat.le_of_ble_eq_true rfl⟩) (fun r_5 hr_5 qr_5 => ?_)
  replace qr_5 : r_5 = S (2 + 3 * (a) + 2) := qr_5
  refine lv_iload_n hx hb dX12_gives_8 rfl (lv_at hl 3 rfl) ?_
  refine x_isub hx hb dX12_gives_9 ?_
  refine x_cqv0 (va_runV (As := [.int (iI (a)), .int (iI (2)), .int (iI (r_5 - c0))]) (rest := []) ⟨hx, hb, hml, hown, hts⟩ (c_X12_puts l g σ A (ov) S hob hs0 hok.1 (a) (by omega) (2) (by omega) (r_5 - c0) (by omega)) (cwV 3 hts gX12_gives_X12_puts rfl rfl rfl (by decide +kernel) ⟨Nat.le_of_ble_eq_true rfl, Nat.le_of_ble_eq_true rfl⟩) (x_preVQ hK hP hD hS hA (x_recv hK hP (i := 37) (by decide) hob rfl)) rfl rfl hl.1 rfl (lv_room (Nat.le_of_ble_eq_true rfl)) dX12_gives_10 ⟨by decide, by decide⟩) hS (fun σ1 H locs hpost hP hD hS => ?_)
  obtain ⟨M_1, p1⟩ := σ1
  obtain ⟨hp0, hfrc, hnew⟩ := hpost
  obtain rfl : p1 = σ.2 := hp0
  have hP : xP g (M_1, σ.2) H := hP
  have hD : xD g A (M_1, σ.2) := hD
  have hob : MObj g M_1 ov := (hfrc (37) (by omega)).trans hob
  have hfr := x_frc (F := fun j => j ≠ 38) hfr hfrc (fun j h => by have h : j ≠ 38 := h; omega)
  obtain ⟨S_2, hS_2⟩ : ∃ q : Int → Int, q = upI S (2 + 3 * (a) + (2)) (r_5 - c0) := ⟨_, rfl⟩
  have hs0 : MArr g M_1 38 29 S_2 := by rw [hS_2]; exact hnew
  have rS_2 : ∀ k, inR (S_2 k) := by rw [hS_2]; exact upI_rng hok.1 ⟨by omega, by omega⟩
  refine lv_aload_n hx hb dX12_gives_13 rfl (lv_at hl 0 rfl) ?_
  refine lv_iload_n hx hb dX12_gives_14 rfl (lv_at hl 2 rfl) ?_
  refine x_iconst hx hb dX12_gives_15 ?_
  refine lv_aload_n hx hb dX12_gives_16 rfl (lv_at hl 0 rfl) ?_
  refine lv_iload_n hx hb dX12_gives_17 rfl (lv_at hl 2 rfl) ?_
  refine x_ci (va_runV (As := [.int (iI (b))]) (rest := [.int (iI (2)), .int (iI (b)), .ref (g.2.2 37)]) ⟨hx, hb, hml, hown, hts⟩ (c_X12_purse l g (M_1, σ.2) (ov) S_2 hob hs0 rS_2 (b) (by omega)) (cwV 1 hts gX12_gives_X12_purse rfl rfl rfl (by decide +kernel) ⟨Nat.le_of_ble_eq_true rfl, Nat.le_of_ble_eq_true rfl⟩) (x_preV hK hP (x_recv hK hP (i := 37) (by decide) hob rfl)) rfl rfl hl.1 rfl (lv_room (Nat.le_of_ble_eq_true rfl)) dX12_gives_18 ⟨Nat.le_of_ble_eq_true rfl, Nat.le_of_ble_eq_true rfl⟩) (fun r_18 hr_18 qr_18 => ?_)
  replace qr_18 : r_18 = S_2 (2 + 3 * (b) + 2) := qr_18
  have hq2 : S_2 (2 + 3 * b + 2) = S (2 + 3 * b + 2) := by rw [hS_2]; exact upI_n (by omega)
  refine lv_iload_n hx hb dX12_gives_21 rfl (lv_at hl 3 rfl) ?_
  refine x_iadd hx hb dX12_gives_22 ?_
  refine x_cqv0 (va_runV (As := [.int (iI (b)), .int (iI (2)), .int (iI (r_18 + c0))]) (rest := []) ⟨hx, hb, hml, hown, hts⟩ (c_X12_puts l g (M_1, σ.2) A (ov) S_2 hob hs0 rS_2 (b) (by omega) (2) (by omega) (r_18 + c0) (by omega)) (cwV 3 hts gX12_gives_X12_puts rfl rfl rfl (by decide +kernel) ⟨Nat.le_of_ble_eq_true rfl, Nat.le_of_ble_eq_true rfl⟩) (x_preVQ hK hP hD hS hA (x_recv hK hP (i := 37) (by decide) hob rfl)) rfl rfl hl.1 rfl (lv_room (Nat.le_of_ble_eq_true rfl)) dX12_gives_23 ⟨by decide, by decide⟩) hS (fun σ1 H locs hpost hP hD hS => ?_)
  obtain ⟨M_3, p1⟩ := σ1
  obtain ⟨hp0, hfrc, hnew⟩ := hpost
  obtain rfl : p1 = σ.2 := hp0
  have hP : xP g (M_3, σ.2) H := hP
  have hD : xD g A (M_3, σ.2) := hD
  have hob : MObj g M_3 ov := (hfrc (37) (by omega)).trans hob
  have hfr := x_frc (F := fun j => j ≠ 38) hfr hfrc (fun j h => by have h : j ≠ 38 := h; omega)
  obtain ⟨S_4, hS_4⟩ : ∃ q : Int → Int, q = upI S_2 (2 + 3 * (b) + (2)) (r_18 + c0) := ⟨_, rfl⟩
  have hs0 : MArr g M_3 38 29 S_4 := by rw [hS_4]; exact hnew
  have rS_4 : ∀ k, inR (S_4 k) := by rw [hS_4]; exact upI_rng rS_2 ⟨by omega, by omega⟩
  refine x_retQv hx hb hr ?_ hP hD hS dX12_gives_26 hlocks
  refine ⟨rfl, hfr, ?_⟩
  have e : S_4 = zGives S a b c0 := by unfold zGives; subst_vars; rfl
  rw [← e]; exact hs0

theorem zGiftR_0 {P : Int → Int} {n a b c r : Int} (h : r = zGiftR P n a b c) (h0 : r = 0) : 0 ≤ a ∧ a < n ∧ 0 ≤ b ∧ b < n ∧ a ≠ b ∧ 1 ≤ c ∧ c ≤ P a ∧ P b + c ≤ 9999 := by
  rw [h0] at h
  unfold zGiftR at h
  by_cases h1 : ¬ (0 ≤ a ∧ a < n ∧ 0 ≤ b ∧ b < n ∧ a ≠ b) ∨ c < 1
  · rw [if_pos h1] at h; omega
  · rw [if_neg h1] at h
    by_cases h2 : P a < c
    · rw [if_pos h2] at h; omega
    · rw [if_neg h2] at h
      by_cases h3 : 9999 < P b + c
      · rw [if_pos h3] at h; omega
      · omega
set_option maxHeartbeats 4000000 in
set_option maxRecDepth 100000 in
theorem c_X12_givesIf (l : Launch) (g : xG) (σ : xS) (A : Nat → Prop) (ov : Nat → Int) (S : Int → Int) (hob : MObj g σ.1 ov) (hs0 : MArr g σ.1 38 29 S) (hok : SmOk S) (a : Int) (ha : inR a) (b : Int) (hb9 : inR b) (c0 : Int) (hc : inR c0) : Met l yX12_givesIf wsX12_givesIf ({ frames := 5, cells := 0, slots := 0, locals := 160 }) (va_Pc [.ref (g.2.2 37), .int (iI (a)), .int (iI (b)), .int (iI (c0))] (xPreQ g A σ)) (x_Qi g A (fun r σ1 => σ1.2 = σ.2 ∧ (∀ j, j ≠ 38 → σ1.1 j = σ.1 j) ∧ ((r = 1 ∧ zGiftR (mP S) (S 0) a b c0 = 0) ∨ (r = 0 ∧ zGiftR (mP S) (S 0) a b c0 ≠ 0)) ∧ MArr g σ1.1 38 29 (if zGiftR (mP S) (S 0) a b c0 = 0 then zGives S a b c0 else S))) (0) (0) A := by
  refine Met.ofW (cc := cX12_givesIf) (maxL := 4) (ret := (some .boolean)) (by decide) rfl ?_
  intro p e s m args below meth c s₁ B hml hv
  obtain ⟨rfl, hP, hK, hD, hA⟩ := hv
  have hx := B.exec
  have hb := B.bytes
  have hr := B.returns
  have hts := atoms_spec (ws := wsX12_givesIf) B.pre
  have hown : s.vm.findClass RX12 = some m.cls := findClass_of_methodNamed B.named
  have hlocks := B.notSynchronized
  have hS : va_S A s.heap s.heap [] := va_S.rf
  have hfr : ∀ j, (j ≠ 38) → σ.1 j = σ.1 j := fun _ _ => rfl
  have hl := lv_entry ([.ref (g.2.2 37), .int (iI (a)), .int (iI (b)), .int (iI (c0))]) (n := 4) (Nat.le_of_ble_eq_true rfl)
  rw [lg_entry_eq]
  generalize (lg_sl ([.ref (g.2.2 37), .int (iI (a)), .int (iI (b)), .int (iI (c0))]) ++ List.replicate (4 - (lg_sl ([.ref (g.2.2 37), .int (iI (a)), .int (iI (b)), .int (iI (c0))])).length) Slot.unset).toArray = ls at hl ⊢
  have hl : lv_has ls 4 [(0, .ref (g.2.2 37)), (1, .int (iI (a))), (2, .int (iI (b))), (3, .int (iI (c0)))] := hl
  have hn0 := hok.2.1
  have hrd0 := hok.2.2.1
  refine lv_aload_n hx hb dX12_givesIf_0 rfl (lv_at hl 0 rfl) ?_
  refine lv_iload_n hx hb dX12_givesIf_1 rfl (lv_at hl 1 rfl) ?_
  refine lv_iload_n hx hb dX12_givesIf_2 rfl (lv_at hl 2 rfl) ?_
  refine lv_iload_n hx hb dX12_givesIf_3 rfl (lv_at hl 3 rfl) ?_
  refine x_ci (va_runV (As := [.int (iI (a)), .int (iI (b)), .int (iI (c0))]) (rest := []) ⟨hx, hb, hml, hown, hts⟩ (c_X12_wrongGift l g σ (ov) S hob hs0 hok (a) (by omega) (b) (by omega) (c0) (by omega)) (cwV 3 hts gX12_givesIf_X12_wrongGift rfl rfl rfl (by decide +kernel) ⟨Nat.le_of_ble_eq_true rfl, Nat.le_of_ble_eq_true rfl⟩) (x_preV hK hP (x_recv hK hP (i := 37) (by decide) hob rfl)) rfl rfl hl.1 rfl (lv_room (Nat.le_of_ble_eq_true rfl)) dX12_givesIf_4 ⟨Nat.le_of_ble_eq_true rfl, Nat.le_of_ble_eq_true rfl⟩) (fun r_4 hr_4 qr_4 => ?_)
  replace qr_4 : r_4 = zGiftR (mP S) (S 0) (a) (b) (c0) := qr_4
  refine x_if_eq (tgt := 12) hx hb (by omega) dX12_givesIf_7 (by decide) (fun c_7 => ?_) (fun c_7 => ?_)
  · have hzg := zGiftR_0 qr_4 (by omega)
    have hg1 : mP S a = S (2 + 3 * a + 2) := rfl
    have hg2 : mP S b = S (2 + 3 * b + 2) := rfl
    have hga := (hok.2.2.2 a (by omega) (by omega)).2.2
    have hgb := (hok.2.2.2 b (by omega) (by omega)).2.2
    refine lv_aload_n hx hb dX12_givesIf_12 rfl (lv_at hl 0 rfl) ?_
    refine lv_iload_n hx hb dX12_givesIf_13 rfl (lv_at hl 1 rfl) ?_
    refine lv_iload_n hx hb dX12_givesIf_14 rfl (lv_at hl 2 rfl) ?_
    refine lv_iload_n hx hb dX12_givesIf_15 rfl (lv_at hl 3 rfl) ?_
    have hga := (hok.2.2.2 (a) (by omega) (by omega)).2.2
    have hgb := (hok.2.2.2 (b) (by omega) (by omega)).2.2
    refine x_cqv0 (va_runV (As := [.int (iI (a)), .int (iI (b)), .int (iI (c0))]) (rest := []) ⟨hx, hb, hml, hown, hts⟩ (c_X12_gives l g σ A (ov) S hob hs0 hok (a) (by omega) (b) (by omega) (c0) (by omega) (by omega) (by omega) (by omega) (by omega) (by omega)) (cwV 3 hts gX12_givesIf_X12_gives rfl rfl rfl (by decide +kernel) ⟨Nat.le_of_ble_eq_true rfl, Nat.le_of_ble_eq_true rfl⟩) (x_preVQ hK hP hD hS hA (x_recv hK hP (i := 37) (by decide) hob rfl)) rfl rfl hl.1 rfl (lv_room (Nat.le_of_ble_eq_true rfl)) dX12_givesIf_16 ⟨by decide, by decide⟩) hS (fun σ1 H locs hpost hP hD hS => ?_)
    obtain ⟨M_1, p1⟩ := σ1
    obtain ⟨hp0, hfrc, hnew⟩ := hpost
    obtain rfl : p1 = σ.2 := hp0
    have hP : xP g (M_1, σ.2) H := hP
    have hD : xD g A (M_1, σ.2) := hD
    have hob : MObj g M_1 ov := (hfrc (37) (by omega)).trans hob
    have hfr := x_frc (F := fun j => j ≠ 38) hfr hfrc (fun j h => by have h : j ≠ 38 := h; omega)
    obtain ⟨S_2, hS_2⟩ : ∃ q : Int → Int, q = zGives S (a) (b) (c0) := ⟨_, rfl⟩
    have hs0 : MArr g M_1 38 29 S_2 := by rw [hS_2]; exact hnew
    have oS_2 : SmOk S_2 := by rw [hS_2]; exact SmOk_gives hok (by omega) (by omega) (by omega) (by omega) (by omega) (by omega) (by omega)
    refine x_iconst hx hb dX12_givesIf_19 ?_
    refine x_retQz hx hb hr (by omega) ?_ hP hD hS dX12_givesIf_20 hlocks
    refine ⟨rfl, hfr, Or.inl ⟨rfl, by omega⟩, ?_⟩
    rw [if_pos (by omega)]
    have e : S_2 = zGives S a b c0 := by subst_vars; rfl
    rw [← e]; exact hs0
  · refine x_iconst hx hb dX12_givesIf_10 ?_
    refine x_retQz hx hb hr (by omega) ?_ hP hD hS dX12_givesIf_11 hlocks
    refine ⟨rfl, hfr, Or.inr ⟨rfl, by omega⟩, ?_⟩
    rw [if_neg (by omega)]; exact hs0

set_option maxHeartbeats 4000000 in
set_option maxRecDepth 100000 in
theorem c_X12_changes (l : Launch) (g : xG) (σ : xS) (A : Nat → Prop) (ov : Nat → Int) (S : Int → Int) (hob : MObj g σ.1 ov) (hs0 : MArr g σ.1 38 29 S) (hok : SmOk S) (a : Int) (ha : 0 ≤ a ∧ a < 9) (b : Int) (hb9 : 0 ≤ b ∧ b < 9) (hab : a ≠ b) : Met l yX12_changes wsX12_changes ({ frames := 2, cells := 0, slots := 0, locals := 64 }) (va_Pc [.ref (g.2.2 37), .int (iI (a)), .int (iI (b))] (xPreQ g A σ)) (x_Qv g A (fun σ1 => σ1.2 = σ.2 ∧ (∀ j, j ≠ 38 → σ1.1 j = σ.1 j) ∧ MArr g σ1.1 38 29 (zSwapS S a b))) (0) (0) A := by
  refine Met.ofW (cc := cX12_changes) (maxL := 5) (ret := none) (by decide) rfl ?_
  intro p e s m args below meth c s₁ B hml hv
  obtain ⟨rfl, hP, hK, hD, hA⟩ := hv
  have hx := B.exec
  have hb := B.bytes
  have hr := B.returns
  have hts := atoms_spec (ws := wsX12_changes) B.pre
  have hown : s.vm.findClass RX12 = some m.cls := findClass_of_methodNamed B.named
  have hlocks := B.notSynchronized
  have hS : va_S A s.heap s.heap [] := va_S.rf
  have hfr : ∀ j, (j ≠ 38) → σ.1 j = σ.1 j := fun _ _ => rfl
  have hl := lv_entry ([.ref (g.2.2 37), .int (iI (a)), .int (iI (b))]) (n := 5) (Nat.le_of_ble_eq_true rfl)
  rw [lg_entry_eq]
  generalize (lg_sl ([.ref (g.2.2 37), .int (iI (a)), .int (iI (b))]) ++ List.replicate (5 - (lg_sl ([.ref (g.2.2 37), .int (iI (a)), .int (iI (b))])).length) Slot.unset).toArray = ls at hl ⊢
  have hl : lv_has ls 5 [(0, .ref (g.2.2 37)), (1, .int (iI (a))), (2, .int (iI (b)))] := hl
  have hn0 := hok.2.1
  have hrd0 := hok.2.2.1
  refine x_iconst hx hb dX12_changes_0 ?_
  refine lv_istore_n (lv' := [(3, .int (iI (0))), (0, .ref (g.2.2 37)), (1, .int (iI (a))), (2, .int (iI (b)))]) hx hb dX12_changes_1 rfl hl (by decide) rfl (fun ls hl => ?_)
  refine lv_iload_n hx hb dX12_changes_2 rfl (lv_at hl 0 rfl) ?_
  refine x_iconst hx hb dX12_changes_3 ?_
  refine x_icmp_ge (tgt := 41) hx hb (by omega) (by omega) dX12_changes_4 (by decide) (fun c_4 => ?_) (fun c_4 => ?_)
  · exact absurd c_4 (by decide)
  · refine lv_aload_n hx hb dX12_changes_7 rfl (lv_at hl 1 rfl) ?_
    refine lv_iload_n hx hb dX12_changes_8 rfl (lv_at hl 2 rfl) ?_
    refine lv_iload_n hx hb dX12_changes_9 rfl (lv_at hl 0 rfl) ?_
    refine x_ci (va_runV (As := [.int (iI (a)), .int (iI (0))]) (rest := []) ⟨hx, hb, hml, hown, hts⟩ (c_X12_get l g σ (ov) S hob hs0 hok.1 (a) (by omega) (0) (by omega)) (cwV 2 hts gX12_changes_X12_get rfl rfl rfl (by decide +kernel) ⟨Nat.le_of_ble_eq_true rfl, Nat.le_of_ble_eq_true rfl⟩) (x_preV hK hP (x_recv hK hP (i := 37) (by decide) hob rfl)) rfl rfl hl.1 rfl (lv_room (Nat.le_of_ble_eq_true rfl)) dX12_changes_10 ⟨Nat.le_of_ble_eq_true rfl, Nat.le_of_ble_eq_true rfl⟩) (fun r_10 hr_10 qr_10 => ?_)
    replace qr_10 : r_10 = S (2 + 3 * (a) + (0)) := qr_10
    refine lv_istore (lv' := [(4, .int (iI (r_10))), (3, .int (iI (0))), (0, .ref (g.2.2 37)), (1, .int (iI (a))), (2, .int (iI (b)))]) hx hb dX12_changes_13 hl (by decide) rfl (fun ls hl => ?_)
    refine lv_aload_n hx hb dX12_changes_15 rfl (lv_at hl 2 rfl) ?_
    refine lv_iload_n hx hb dX12_changes_16 rfl (lv_at hl 3 rfl) ?_
    refine lv_iload_n hx hb dX12_changes_17 rfl (lv_at hl 1 rfl) ?_
    refine lv_aload_n hx hb dX12_changes_18 rfl (lv_at hl 2 rfl) ?_
    refine lv_iload_n hx hb dX12_changes_19 rfl (lv_at hl 4 rfl) ?_
    refine lv_iload_n hx hb dX12_changes_20 rfl (lv_at hl 1 rfl) ?_
    refine x_ci (va_runV (As := [.int (iI (b)), .int (iI (0))]) (rest := [.int (iI (0)), .int (iI (a)), .ref (g.2.2 37)]) ⟨hx, hb, hml, hown, hts⟩ (c_X12_get l g σ (ov) S hob hs0 hok.1 (b) (by omega) (0) (by omega)) (cwV 2 hts gX12_changes_X12_get rfl rfl rfl (by decide +kernel) ⟨Nat.le_of_ble_eq_true rfl, Nat.le_of_ble_eq_true rfl⟩) (x_preV hK hP (x_recv hK hP (i := 37) (by decide) hob rfl)) rfl rfl hl.1 rfl (lv_room (Nat.le_of_ble_eq_true rfl)) dX12_changes_21 ⟨Nat.le_of_ble_eq_true rfl, Nat.le_of_ble_eq_true rfl⟩) (fun r_21 hr_21 qr_21 => ?_)
    replace qr_21 : r_21 = S (2 + 3 * (b) + (0)) := qr_21
    refine x_cqv0 (va_runV (As := [.int (iI (a)), .int (iI (0)), .int (iI (r_21))]) (rest := []) ⟨hx, hb, hml, hown, hts⟩ (c_X12_puts l g σ A (ov) S hob hs0 hok.1 (a) (by omega) (0) (by omega) (r_21) (by omega)) (cwV 3 hts gX12_changes_X12_puts rfl rfl rfl (by decide +kernel) ⟨Nat.le_of_ble_eq_true rfl, Nat.le_of_ble_eq_true rfl⟩) (x_preVQ hK hP hD hS hA (x_recv hK hP (i := 37) (by decide) hob rfl)) rfl rfl hl.1 rfl (lv_room (Nat.le_of_ble_eq_true rfl)) dX12_changes_24 ⟨by decide, by decide⟩) hS (fun σ1 H locs hpost hP hD hS => ?_)
    obtain ⟨M_1, p1⟩ := σ1
    obtain ⟨hp0, hfrc, hnew⟩ := hpost
    obtain rfl : p1 = σ.2 := hp0
    have hP : xP g (M_1, σ.2) H := hP
    have hD : xD g A (M_1, σ.2) := hD
    have hob : MObj g M_1 ov := (hfrc (37) (by omega)).trans hob
    have hfr := x_frc (F := fun j => j ≠ 38) hfr hfrc (fun j h => by have h : j ≠ 38 := h; omega)
    obtain ⟨S_2, hS_2⟩ : ∃ q : Int → Int, q = upI S (2 + 3 * (a) + (0)) (r_21) := ⟨_, rfl⟩
    have hs0 : MArr g M_1 38 29 S_2 := by rw [hS_2]; exact hnew
    have rS_2 : ∀ k, inR (S_2 k) := by rw [hS_2]; exact upI_rng hok.1 ⟨by omega, by omega⟩
    refine lv_aload_n hx hb dX12_changes_27 rfl (lv_at hl 2 rfl) ?_
    refine lv_iload_n hx hb dX12_changes_28 rfl (lv_at hl 4 rfl) ?_
    refine lv_iload_n hx hb dX12_changes_29 rfl (lv_at hl 1 rfl) ?_
    refine lv_iload hx hb dX12_changes_30 (lv_at hl 0 rfl) ?_
    refine x_cqv0 (va_runV (As := [.int (iI (b)), .int (iI (0)), .int (iI (r_10))]) (rest := []) ⟨hx, hb, hml, hown, hts⟩ (c_X12_puts l g (M_1, σ.2) A (ov) S_2 hob hs0 rS_2 (b) (by omega) (0) (by omega) (r_10) (by omega)) (cwV 3 hts gX12_changes_X12_puts rfl rfl rfl (by decide +kernel) ⟨Nat.le_of_ble_eq_true rfl, Nat.le_of_ble_eq_true rfl⟩) (x_preVQ hK hP hD hS hA (x_recv hK hP (i := 37) (by decide) hob rfl)) rfl rfl hl.1 rfl (lv_room (Nat.le_of_ble_eq_true rfl)) dX12_changes_32 ⟨by decide, by decide⟩) hS (fun σ1 H locs hpost hP hD hS => ?_)
    obtain ⟨M_3, p1⟩ := σ1
    obtain ⟨hp0, hfrc, hnew⟩ := hpost
    obtain rfl : p1 = σ.2 := hp0
    have hP : xP g (M_3, σ.2) H := hP
    have hD : xD g A (M_3, σ.2) := hD
    have hob : MObj g M_3 ov := (hfrc (37) (by omega)).trans hob
    have hfr := x_frc (F := fun j => j ≠ 38) hfr hfrc (fun j h => by have h : j ≠ 38 := h; omega)
    obtain ⟨S_4, hS_4⟩ : ∃ q : Int → Int, q = upI S_2 (2 + 3 * (b) + (0)) (r_10) := ⟨_, rfl⟩
    have hs0 : MArr g M_3 38 29 S_4 := by rw [hS_4]; exact hnew
    have rS_4 : ∀ k, inR (S_4 k) := by rw [hS_4]; exact upI_rng rS_2 ⟨by omega, by omega⟩
    refine x_iinc (k0 := 1) (lv' := [(3, .int (iI (1))), (4, .int (iI (r_10))), (0, .ref (g.2.2 37)), (1, .int (iI (a))), (2, .int (iI (b)))]) hx hb dX12_changes_35 hl rfl (by decide) rfl (fun ls hl => ?_)
    refine lv_goto (tgt := 2) hx hb dX12_changes_38 (by decide) ?_
    refine lv_iload_n hx hb dX12_changes_2 rfl (lv_at hl 0 rfl) ?_
    refine x_iconst hx hb dX12_changes_3 ?_
    refine x_icmp_ge (tgt := 41) hx hb (by omega) (by omega) dX12_changes_4 (by decide) (fun c_4 => ?_) (fun c_4 => ?_)
    · exact absurd c_4 (by decide)
    · refine lv_aload_n hx hb dX12_changes_7 rfl (lv_at hl 2 rfl) ?_
      refine lv_iload_n hx hb dX12_changes_8 rfl (lv_at hl 3 rfl) ?_
      refine lv_iload_n hx hb dX12_changes_9 rfl (lv_at hl 0 rfl) ?_
      refine x_ci (va_runV (As := [.int (iI (a)), .int (iI (1))]) (rest := []) ⟨hx, hb, hml, hown, hts⟩ (c_X12_get l g (M_3, σ.2) (ov) S_4 hob hs0 rS_4 (a) (by omega) (1) (by omega)) (cwV 2 hts gX12_changes_X12_get rfl rfl rfl (by decide +kernel) ⟨Nat.le_of_ble_eq_true rfl, Nat.le_of_ble_eq_true rfl⟩) (x_preV hK hP (x_recv hK hP (i := 37) (by decide) hob rfl)) rfl rfl hl.1 rfl (lv_room (Nat.le_of_ble_eq_true rfl)) dX12_changes_10 ⟨Nat.le_of_ble_eq_true rfl, Nat.le_of_ble_eq_true rfl⟩) (fun r_10 hr_10 qr_10 => ?_)
      replace qr_10 : r_10 = S_4 (2 + 3 * (a) + (1)) := qr_10
      refine lv_istore (lv' := [(4, .int (iI (r_10))), (3, .int (iI (1))), (0, .ref (g.2.2 37)), (1, .int (iI (a))), (2, .int (iI (b)))]) hx hb dX12_changes_13 hl (by decide) rfl (fun ls hl => ?_)
      refine lv_aload_n hx hb dX12_changes_15 rfl (lv_at hl 2 rfl) ?_
      refine lv_iload_n hx hb dX12_changes_16 rfl (lv_at hl 3 rfl) ?_
      refine lv_iload_n hx hb dX12_changes_17 rfl (lv_at hl 1 rfl) ?_
      refine lv_aload_n hx hb dX12_changes_18 rfl (lv_at hl 2 rfl) ?_
      refine lv_iload_n hx hb dX12_changes_19 rfl (lv_at hl 4 rfl) ?_
      refine lv_iload_n hx hb dX12_changes_20 rfl (lv_at hl 1 rfl) ?_
      refine x_ci (va_runV (As := [.int (iI (b)), .int (iI (1))]) (rest := [.int (iI (1)), .int (iI (a)), .ref (g.2.2 37)]) ⟨hx, hb, hml, hown, hts⟩ (c_X12_get l g (M_3, σ.2) (ov) S_4 hob hs0 rS_4 (b) (by omega) (1) (by omega)) (cwV 2 hts gX12_changes_X12_get rfl rfl rfl (by decide +kernel) ⟨Nat.le_of_ble_eq_true rfl, Nat.le_of_ble_eq_true rfl⟩) (x_preV hK hP (x_recv hK hP (i := 37) (by decide) hob rfl)) rfl rfl hl.1 rfl (lv_room (Nat.le_of_ble_eq_true rfl)) dX12_changes_21 ⟨Nat.le_of_ble_eq_true rfl, Nat.le_of_ble_eq_true rfl⟩) (fun r_21 hr_21 qr_21 => ?_)
      replace qr_21 : r_21 = S_4 (2 + 3 * (b) + (1)) := qr_21
      refine x_cqv0 (va_runV (As := [.int (iI (a)), .int (iI (1)), .int (iI (r_21))]) (rest := []) ⟨hx, hb, hml, hown, hts⟩ (c_X12_puts l g (M_3, σ.2) A (ov) S_4 hob hs0 rS_4 (a) (by omega) (1) (by omega) (r_21) (by omega)) (cwV 3 hts gX12_changes_X12_puts rfl rfl rfl (by decide +kernel) ⟨Nat.le_of_ble_eq_true rfl, Nat.le_of_ble_eq_true rfl⟩) (x_preVQ hK hP hD hS hA (x_recv hK hP (i := 37) (by decide) hob rfl)) rfl rfl hl.1 rfl (lv_room (Nat.le_of_ble_eq_true rfl)) dX12_changes_24 ⟨by decide, by decide⟩) hS (fun σ1 H locs hpost hP hD hS => ?_)
      obtain ⟨M_5, p1⟩ := σ1
      obtain ⟨hp0, hfrc, hnew⟩ := hpost
      obtain rfl : p1 = σ.2 := hp0
      have hP : xP g (M_5, σ.2) H := hP
      have hD : xD g A (M_5, σ.2) := hD
      have hob : MObj g M_5 ov := (hfrc (37) (by omega)).trans hob
      have hfr := x_frc (F := fun j => j ≠ 38) hfr hfrc (fun j h => by have h : j ≠ 38 := h; omega)
      obtain ⟨S_6, hS_6⟩ : ∃ q : Int → Int, q = upI S_4 (2 + 3 * (a) + (1)) (r_21) := ⟨_, rfl⟩
      have hs0 : MArr g M_5 38 29 S_6 := by rw [hS_6]; exact hnew
      have rS_6 : ∀ k, inR (S_6 k) := by rw [hS_6]; exact upI_rng rS_4 ⟨by omega, by omega⟩
      refine lv_aload_n hx hb dX12_changes_27 rfl (lv_at hl 2 rfl) ?_
      refine lv_iload_n hx hb dX12_changes_28 rfl (lv_at hl 4 rfl) ?_
      refine lv_iload_n hx hb dX12_changes_29 rfl (lv_at hl 1 rfl) ?_
      refine lv_iload hx hb dX12_changes_30 (lv_at hl 0 rfl) ?_
      refine x_cqv0 (va_runV (As := [.int (iI (b)), .int (iI (1)), .int (iI (r_10))]) (rest := []) ⟨hx, hb, hml, hown, hts⟩ (c_X12_puts l g (M_5, σ.2) A (ov) S_6 hob hs0 rS_6 (b) (by omega) (1) (by omega) (r_10) (by omega)) (cwV 3 hts gX12_changes_X12_puts rfl rfl rfl (by decide +kernel) ⟨Nat.le_of_ble_eq_true rfl, Nat.le_of_ble_eq_true rfl⟩) (x_preVQ hK hP hD hS hA (x_recv hK hP (i := 37) (by decide) hob rfl)) rfl rfl hl.1 rfl (lv_room (Nat.le_of_ble_eq_true rfl)) dX12_changes_32 ⟨by decide, by decide⟩) hS (fun σ1 H locs hpost hP hD hS => ?_)
      obtain ⟨M_7, p1⟩ := σ1
      obtain ⟨hp0, hfrc, hnew⟩ := hpost
      obtain rfl : p1 = σ.2 := hp0
      have hP : xP g (M_7, σ.2) H := hP
      have hD : xD g A (M_7, σ.2) := hD
      have hob : MObj g M_7 ov := (hfrc (37) (by omega)).trans hob
      have hfr := x_frc (F := fun j => j ≠ 38) hfr hfrc (fun j h => by have h : j ≠ 38 := h; omega)
      obtain ⟨S_8, hS_8⟩ : ∃ q : Int → Int, q = upI S_6 (2 + 3 * (b) + (1)) (r_10) := ⟨_, rfl⟩
      have hs0 : MArr g M_7 38 29 S_8 := by rw [hS_8]; exact hnew
      have rS_8 : ∀ k, inR (S_8 k) := by rw [hS_8]; exact upI_rng rS_6 ⟨by omega, by omega⟩
      refine x_iinc (k0 := 1) (lv' := [(3, .int (iI (2))), (4, .int (iI (r_10))), (0, .ref (g.2.2 37)), (1, .int (iI (a))), (2, .int (iI (b)))]) hx hb dX12_changes_35 hl rfl (by decide) rfl (fun ls hl => ?_)
      refine lv_goto (tgt := 2) hx hb dX12_changes_38 (by decide) ?_
      refine lv_iload_n hx hb dX12_changes_2 rfl (lv_at hl 0 rfl) ?_
      refine x_iconst hx hb dX12_changes_3 ?_
      refine x_icmp_ge (tgt := 41) hx hb (by omega) (by omega) dX12_changes_4 (by decide) (fun c_4 => ?_) (fun c_4 => ?_)
      · exact absurd c_4 (by decide)
      · refine lv_aload_n hx hb dX12_changes_7 rfl (lv_at hl 2 rfl) ?_
        refine lv_iload_n hx hb dX12_changes_8 rfl (lv_at hl 3 rfl) ?_
        refine lv_iload_n hx hb dX12_changes_9 rfl (lv_at hl 0 rfl) ?_
        refine x_ci (va_runV (As := [.int (iI (a)), .int (iI (2))]) (rest := []) ⟨hx, hb, hml, hown, hts⟩ (c_X12_get l g (M_7, σ.2) (ov) S_8 hob hs0 rS_8 (a) (by omega) (2) (by omega)) (cwV 2 hts gX12_changes_X12_get rfl rfl rfl (by decide +kernel) ⟨Nat.le_of_ble_eq_true rfl, Nat.le_of_ble_eq_true rfl⟩) (x_preV hK hP (x_recv hK hP (i := 37) (by decide) hob rfl)) rfl rfl hl.1 rfl (lv_room (Nat.le_of_ble_eq_true rfl)) dX12_changes_10 ⟨Nat.le_of_ble_eq_true rfl, Nat.le_of_ble_eq_true rfl⟩) (fun r_10 hr_10 qr_10 => ?_)
        replace qr_10 : r_10 = S_8 (2 + 3 * (a) + (2)) := qr_10
        refine lv_istore (lv' := [(4, .int (iI (r_10))), (3, .int (iI (2))), (0, .ref (g.2.2 37)), (1, .int (iI (a))), (2, .int (iI (b)))]) hx hb dX12_changes_13 hl (by decide) rfl (fun ls hl => ?_)
        refine lv_aload_n hx hb dX12_changes_15 rfl (lv_at hl 2 rfl) ?_
        refine lv_iload_n hx hb dX12_changes_16 rfl (lv_at hl 3 rfl) ?_
        refine lv_iload_n hx hb dX12_changes_17 rfl (lv_at hl 1 rfl) ?_
        refine lv_aload_n hx hb dX12_changes_18 rfl (lv_at hl 2 rfl) ?_
        refine lv_iload_n hx hb dX12_changes_19 rfl (lv_at hl 4 rfl) ?_
        refine lv_iload_n hx hb dX12_changes_20 rfl (lv_at hl 1 rfl) ?_
        refine x_ci (va_runV (As := [.int (iI (b)), .int (iI (2))]) (rest := [.int (iI (2)), .int (iI (a)), .ref (g.2.2 37)]) ⟨hx, hb, hml, hown, hts⟩ (c_X12_get l g (M_7, σ.2) (ov) S_8 hob hs0 rS_8 (b) (by omega) (2) (by omega)) (cwV 2 hts gX12_changes_X12_get rfl rfl rfl (by decide +kernel) ⟨Nat.le_of_ble_eq_true rfl, Nat.le_of_ble_eq_true rfl⟩) (x_preV hK hP (x_recv hK hP (i := 37) (by decide) hob rfl)) rfl rfl hl.1 rfl (lv_room (Nat.le_of_ble_eq_true rfl)) dX12_changes_21 ⟨Nat.le_of_ble_eq_true rfl, Nat.le_of_ble_eq_true rfl⟩) (fun r_21 hr_21 qr_21 => ?_)
        replace qr_21 : r_21 = S_8 (2 + 3 * (b) + (2)) := qr_21
        refine x_cqv0 (va_runV (As := [.int (iI (a)), .int (iI (2)), .int (iI (r_21))]) (rest := []) ⟨hx, hb, hml, hown, hts⟩ (c_X12_puts l g (M_7, σ.2) A (ov) S_8 hob hs0 rS_8 (a) (by omega) (2) (by omega) (r_21) (by omega)) (cwV 3 hts gX12_changes_X12_puts rfl rfl rfl (by decide +kernel) ⟨Nat.le_of_ble_eq_true rfl, Nat.le_of_ble_eq_true rfl⟩) (x_preVQ hK hP hD hS hA (x_recv hK hP (i := 37) (by decide) hob rfl)) rfl rfl hl.1 rfl (lv_room (Nat.le_of_ble_eq_true rfl)) dX12_changes_24 ⟨by decide, by decide⟩) hS (fun σ1 H locs hpost hP hD hS => ?_)
        obtain ⟨M_9, p1⟩ := σ1
        obtain ⟨hp0, hfrc, hnew⟩ := hpost
        obtain rfl : p1 = σ.2 := hp0
        have hP : xP g (M_9, σ.2) H := hP
        have hD : xD g A (M_9, σ.2) := hD
        have hob : MObj g M_9 ov := (hfrc (37) (by omega)).trans hob
        have hfr := x_frc (F := fun j => j ≠ 38) hfr hfrc (fun j h => by have h : j ≠ 38 := h; omega)
        obtain ⟨S_10, hS_10⟩ : ∃ q : Int → Int, q = upI S_8 (2 + 3 * (a) + (2)) (r_21) := ⟨_, rfl⟩
        have hs0 : MArr g M_9 38 29 S_10 := by rw [hS_10]; exact hnew
        have rS_10 : ∀ k, inR (S_10 k) := by rw [hS_10]; exact upI_rng rS_8 ⟨by omega, by omega⟩
        refine lv_aload_n hx hb dX12_changes_27 rfl (lv_at hl 2 rfl) ?_
        refine lv_iload_n hx hb dX12_changes_28 rfl (lv_at hl 4 rfl) ?_
        refine lv_iload_n hx hb dX12_changes_29 rfl (lv_at hl 1 rfl) ?_
        refine lv_iload hx hb dX12_changes_30 (lv_at hl 0 rfl) ?_
        refine x_cqv0 (va_runV (As := [.int (iI (b)), .int (iI (2)), .int (iI (r_10))]) (rest := []) ⟨hx, hb, hml, hown, hts⟩ (c_X12_puts l g (M_9, σ.2) A (ov) S_10 hob hs0 rS_10 (b) (by omega) (2) (by omega) (r_10) (by omega)) (cwV 3 hts gX12_changes_X12_puts rfl rfl rfl (by decide +kernel) ⟨Nat.le_of_ble_eq_true rfl, Nat.le_of_ble_eq_true rfl⟩) (x_preVQ hK hP hD hS hA (x_recv hK hP (i := 37) (by decide) hob rfl)) rfl rfl hl.1 rfl (lv_room (Nat.le_of_ble_eq_true rfl)) dX12_changes_32 ⟨by decide, by decide⟩) hS (fun σ1 H locs hpost hP hD hS => ?_)
        obtain ⟨M_11, p1⟩ := σ1
        obtain ⟨hp0, hfrc, hnew⟩ := hpost
        obtain rfl : p1 = σ.2 := hp0
        have hP : xP g (M_11, σ.2) H := hP
        have hD : xD g A (M_11, σ.2) := hD
        have hob : MObj g M_11 ov := (hfrc (37) (by omega)).trans hob
        have hfr := x_frc (F := fun j => j ≠ 38) hfr hfrc (fun j h => by have h : j ≠ 38 := h; omega)
        obtain ⟨S_12, hS_12⟩ : ∃ q : Int → Int, q = upI S_10 (2 + 3 * (b) + (2)) (r_10) := ⟨_, rfl⟩
        have hs0 : MArr g M_11 38 29 S_12 := by rw [hS_12]; exact hnew
        have rS_12 : ∀ k, inR (S_12 k) := by rw [hS_12]; exact upI_rng rS_10 ⟨by omega, by omega⟩
        refine x_iinc (k0 := 1) (lv' := [(3, .int (iI (3))), (4, .int (iI (r_10))), (0, .ref (g.2.2 37)), (1, .int (iI (a))), (2, .int (iI (b)))]) hx hb dX12_changes_35 hl rfl (by decide) rfl (fun ls hl => ?_)
        refine lv_goto (tgt := 2) hx hb dX12_changes_38 (by decide) ?_
        refine lv_iload_n hx hb dX12_changes_2 rfl (lv_at hl 0 rfl) ?_
        refine x_iconst hx hb dX12_changes_3 ?_
        refine x_icmp_ge (tgt := 41) hx hb (by omega) (by omega) dX12_changes_4 (by decide) (fun c_4 => ?_) (fun c_4 => ?_)
        · refine x_retQv hx hb hr ?_ hP hD hS dX12_changes_41 hlocks
          refine ⟨rfl, hfr, ?_⟩
          have e : S_12 = zSwapS S a b := by (unfold zSwapS zChg; subst_vars; simp only [upI_n (show (2 + 3 * b + 0 : Int) ≠ 2 + 3 * a + 0 by omega)])
          rw [← e]; exact hs0
        · exact absurd c_4 (by decide)

set_option maxHeartbeats 4000000 in
set_option maxRecDepth 100000 in
theorem c_X12_adds (l : Launch) (g : xG) (σ : xS) (A : Nat → Prop) (ov : Nat → Int) (S : Int → Int) (hob : MObj g σ.1 ov) (hs0 : MArr g σ.1 38 29 S) (hok : SmOk S) (hn8 : S 0 ≤ 8) (kd : Int) (hk : inR kd) (f : Int) (hf : inR f) (pu : Int) (hpu : inR pu) : Met l yX12_adds wsX12_adds ({ frames := 3, cells := 0, slots := 0, locals := 96 }) (va_Pc [.ref (g.2.2 37), .int (iI (kd)), .int (iI (f)), .int (iI (pu))] (xPreQ g A σ)) (x_Qi g A (fun r σ1 => σ1.2 = σ.2 ∧ (∀ j, j ≠ 38 → σ1.1 j = σ.1 j) ∧ ((r = 1 ∧ S 0 < 8) ∨ (r = 0 ∧ S 0 = 8)) ∧ MArr g σ1.1 38 29 (if S 0 = 8 then S else zJoin S kd f pu))) (0) (0) A := by
  refine Met.ofW (cc := cX12_adds) (maxL := 4) (ret := (some .boolean)) (by decide) rfl ?_
  intro p e s m args below meth c s₁ B hml hv
  obtain ⟨rfl, hP, hK, hD, hA⟩ := hv
  have hx := B.exec
  have hb := B.bytes
  have hr := B.returns
  have hts := atoms_spec (ws := wsX12_adds) B.pre
  have hown : s.vm.findClass RX12 = some m.cls := findClass_of_methodNamed B.named
  have hlocks := B.notSynchronized
  have hS : va_S A s.heap s.heap [] := va_S.rf
  have hfr : ∀ j, (j ≠ 38) → σ.1 j = σ.1 j := fun _ _ => rfl
  have hl := lv_entry ([.ref (g.2.2 37), .int (iI (kd)), .int (iI (f)), .int (iI (pu))]) (n := 4) (Nat.le_of_ble_eq_true rfl)
  rw [lg_entry_eq]
  generalize (lg_sl ([.ref (g.2.2 37), .int (iI (kd)), .int (iI (f)), .int (iI (pu))]) ++ List.replicate (4 - (lg_sl ([.ref (g.2.2 37), .int (iI (kd)), .int (iI (f)), .int (iI (pu))])).length) Slot.unset).toArray = ls at hl ⊢
  have hl : lv_has ls 4 [(0, .ref (g.2.2 37)), (1, .int (iI (kd))), (2, .int (iI (f))), (3, .int (iI (pu)))] := hl
  have hn0 := hok.2.1
  have hrd0 := hok.2.2.1
  have hw_0 := hts (.fieldLink RX12 9 "TwiceAsRichModel" "s" "[I") (by decide +kernel)
  have hin_X12 : ∀ w ∈ wsX120, w ∈ wsX12_adds := by decide +kernel
  refine lv_aload_n hx hb dX12_adds_0 rfl (lv_at hl 0 rfl) ?_
  refine x_get (C := RX12) (T := TX12) (N := 24) hx hb hts hin_X12 hown hK hP (37) (by decide) hob rfl 0 (by decide) hw_0 (fun _ h9 => h9) rfl dX12_adds_1 ?_
  refine x_iconst hx hb dX12_adds_4 ?_
  refine x_iald (f := S) hx hb hK hP (38) (by decide) hs0 (by omega) (by omega) (by decide) dX12_adds_5 ?_
  have hb_1 := hok.1 (0)
  refine x_bipush (n := 8) hx hb (by decide +kernel) dX12_adds_6 ?_
  refine x_icmp_ne (tgt := 13) hx hb (by omega) (by omega) dX12_adds_8 (by decide) (fun c_8 => ?_) (fun c_8 => ?_)
  · refine lv_aload_n hx hb dX12_adds_13 rfl (lv_at hl 0 rfl) ?_
    refine lv_iload_n hx hb dX12_adds_14 rfl (lv_at hl 1 rfl) ?_
    refine lv_iload_n hx hb dX12_adds_15 rfl (lv_at hl 2 rfl) ?_
    refine lv_iload_n hx hb dX12_adds_16 rfl (lv_at hl 3 rfl) ?_
    refine x_cqv0 (va_runV (As := [.int (iI (kd)), .int (iI (f)), .int (iI (pu))]) (rest := []) ⟨hx, hb, hml, hown, hts⟩ (c_X12_joins l g σ A (ov) S hob hs0 hok.1 (by omega) (kd) (by omega) (f) (by omega) (pu) (by omega)) (cwV 3 hts gX12_adds_X12_joins rfl rfl rfl (by decide +kernel) ⟨Nat.le_of_ble_eq_true rfl, Nat.le_of_ble_eq_true rfl⟩) (x_preVQ hK hP hD hS hA (x_recv hK hP (i := 37) (by decide) hob rfl)) rfl rfl hl.1 rfl (lv_room (Nat.le_of_ble_eq_true rfl)) dX12_adds_17 ⟨by decide, by decide⟩) hS (fun σ1 H locs hpost hP hD hS => ?_)
    obtain ⟨M_2, p1⟩ := σ1
    obtain ⟨hp0, hfrc, hnew⟩ := hpost
    obtain rfl : p1 = σ.2 := hp0
    have hP : xP g (M_2, σ.2) H := hP
    have hD : xD g A (M_2, σ.2) := hD
    have hob : MObj g M_2 ov := (hfrc (37) (by omega)).trans hob
    have hfr := x_frc (F := fun j => j ≠ 38) hfr hfrc (fun j h => by have h : j ≠ 38 := h; omega)
    obtain ⟨S_3, hS_3⟩ : ∃ q : Int → Int, q = zJoin S (kd) (f) (pu) := ⟨_, rfl⟩
    have hs0 : MArr g M_2 38 29 S_3 := by rw [hS_3]; exact hnew
    have rS_3 : ∀ k, inR (S_3 k) := by rw [hS_3]; exact zJoin_rng hok.1 ⟨by omega, by omega⟩ ⟨by omega, by omega⟩ ⟨by omega, by omega⟩ (by omega)
    refine x_iconst hx hb dX12_adds_20 ?_
    refine x_retQz hx hb hr (by omega) ?_ hP hD hS dX12_adds_21 hlocks
    refine ⟨rfl, hfr, Or.inl ⟨rfl, by omega⟩, ?_⟩
    rw [if_neg (by omega)]
    have e : S_3 = zJoin S kd f pu := by subst_vars; rfl
    rw [← e]; exact hs0
  · refine x_iconst hx hb dX12_adds_11 ?_
    refine x_retQz hx hb hr (by omega) ?_ hP hD hS dX12_adds_12 hlocks
    refine ⟨rfl, hfr, Or.inr ⟨rfl, by omega⟩, ?_⟩
    rw [if_pos (by omega)]; exact hs0

set_option maxHeartbeats 4000000 in
set_option maxRecDepth 100000 in
theorem c_X12_wrongRow (l : Launch) (g : xG) (σ : xS) (ov : Nat → Int) (S : Int → Int) (hob : MObj g σ.1 ov) (hs0 : MArr g σ.1 38 29 S) (hok : SmOk S) (Kp So Sz El KK KF : Int → Int) (h42 : MArr g σ.1 42 8 Kp) (h43 : MArr g σ.1 43 8 So) (h44 : MArr g σ.1 44 8 Sz) (h45 : MArr g σ.1 45 800 El) (h46 : MArr g σ.1 46 8 KK) (h47 : MArr g σ.1 47 8 KF) (hsh : ShOk Kp So Sz El KK KF) (d : Int) (hd : inR d) (o : Int) (ho : inR o) : Met l yX12_wrongRow wsX12_wrongRow ({ frames := 3, cells := 0, slots := 0, locals := 96 }) (va_Pc [.ref (g.2.2 37), .int (iI (d)), .int (iI (o))] (xPre g σ)) (x_Si (fun r => r = zRowR Kp So d o)) (0) (0) (fun _ => False) := by
  refine Met.ofW (cc := cX12_wrongRow) (maxL := 3) (ret := (some .int)) (by decide) rfl ?_
  intro p e s m args below meth c s₁ B hml hv
  obtain ⟨rfl, hP, hK⟩ := hv
  have hx := B.exec
  have hb := B.bytes
  have hr := B.returns
  have hts := atoms_spec (ws := wsX12_wrongRow) B.pre
  have hown : s.vm.findClass RX12 = some m.cls := findClass_of_methodNamed B.named
  have hlocks := B.notSynchronized
  have hl := lv_entry ([.ref (g.2.2 37), .int (iI (d)), .int (iI (o))]) (n := 3) (Nat.le_of_ble_eq_true rfl)
  rw [lg_entry_eq]
  generalize (lg_sl ([.ref (g.2.2 37), .int (iI (d)), .int (iI (o))]) ++ List.replicate (3 - (lg_sl ([.ref (g.2.2 37), .int (iI (d)), .int (iI (o))])).length) Slot.unset).toArray = ls at hl ⊢
  have hl : lv_has ls 3 [(0, .ref (g.2.2 37)), (1, .int (iI (d))), (2, .int (iI (o)))] := hl
  have hn0 := hok.2.1
  have hrd0 := hok.2.2.1
  have hw_0 := hts (.fieldLink RX12 22 "TwiceAsRichModel" "kept" "[I") (by decide +kernel)
  have hin_X12 : ∀ w ∈ wsX120, w ∈ wsX12_wrongRow := by decide +kernel
  have hw_2 := hts (.fieldLink RX12 25 "TwiceAsRichModel" "sort" "[I") (by decide +kernel)
  refine lv_iload_n hx hb dX12_wrongRow_0 rfl (lv_at hl 1 rfl) ?_
  refine x_ci (va_runS (As := [.int (iI (d))]) (rest := []) ⟨hx, hb, hml, hown, hts⟩ (c_X12_isShelf l g σ (d) (by omega)) (va_cwS 1 hts gX12_wrongRow_X12_isShelf rfl rfl rfl (by decide +kernel) ⟨Nat.le_of_ble_eq_true rfl, Nat.le_of_ble_eq_true rfl⟩) (x_preS hK hP) rfl rfl hl.1 rfl (lv_room (Nat.le_of_ble_eq_true rfl)) dX12_wrongRow_1 ⟨Nat.le_of_ble_eq_true rfl, Nat.le_of_ble_eq_true rfl⟩) (fun r_1 hr_1 qr_1 => ?_)
  replace qr_1 : (r_1 = 1 ∧ 0 ≤ (d) ∧ (d) ≤ 7) ∨ (r_1 = 0 ∧ ¬ (0 ≤ (d) ∧ (d) ≤ 7)) := qr_1
  refine x_if_ne (tgt := 11) hx hb (by omega) dX12_wrongRow_4 (by decide) (fun c_4 => ?_) (fun c_4 => ?_)
  · refine lv_aload_n hx hb dX12_wrongRow_11 rfl (lv_at hl 0 rfl) ?_
    refine x_get (C := RX12) (T := TX12) (N := 24) hx hb hts hin_X12 hown hK hP (37) (by decide) hob rfl 4 (by decide) hw_0 (fun _ h9 => h9) rfl dX12_wrongRow_12 ?_
    refine lv_iload_n hx hb dX12_wrongRow_15 rfl (lv_at hl 1 rfl) ?_
    refine x_iald (f := Kp) hx hb hK hP (42) (by decide) h42 (by omega) (by omega) (by decide) dX12_wrongRow_16 ?_
    have hb_1 := hsh.1 (d)
    refine x_if_ne (tgt := 25) hx hb (by omega) dX12_wrongRow_17 (by decide) (fun c_17 => ?_) (fun c_17 => ?_)
    · refine lv_aload_n hx hb dX12_wrongRow_25 rfl (lv_at hl 0 rfl) ?_
      refine x_get (C := RX12) (T := TX12) (N := 24) hx hb hts hin_X12 hown hK hP (37) (by decide) hob rfl 4 (by decide) hw_0 (fun _ h9 => h9) rfl dX12_wrongRow_26 ?_
      refine lv_iload_n hx hb dX12_wrongRow_29 rfl (lv_at hl 1 rfl) ?_
      refine x_iald (f := Kp) hx hb hK hP (42) (by decide) h42 (by omega) (by omega) (by decide) dX12_wrongRow_30 ?_
      have hb_2 := hsh.1 (d)
      refine x_iconst hx hb dX12_wrongRow_31 ?_
      refine x_icmp_ne (tgt := 49) hx hb (by omega) (by omega) dX12_wrongRow_32 (by decide) (fun c_32 => ?_) (fun c_32 => ?_)
      · refine x_bipush (n := -12) hx hb (by decide +kernel) dX12_wrongRow_49 ?_
        refine lv_goto (tgt := 55) hx hb dX12_wrongRow_51 (by decide) ?_
        refine x_retP hx hb hr (by omega) ?_ dX12_wrongRow_55 hlocks
        unfold zRowR
        first | (rw [if_pos (by omega)]; done) | (rw [if_neg (by omega), if_pos (by omega)]; done) | (rw [if_neg (by omega), if_neg (by omega), if_pos (by omega)]; done) | (rw [if_neg (by omega), if_neg (by omega), if_neg (by omega)]; done)
      · refine lv_iload_n hx hb dX12_wrongRow_35 rfl (lv_at hl 2 rfl) ?_
        refine x_if_lt (tgt := 54) hx hb (by omega) dX12_wrongRow_36 (by decide) (fun c_36 => ?_) (fun c_36 => ?_)
        · refine x_iconst hx hb dX12_wrongRow_54 ?_
          refine x_retP hx hb hr (by omega) ?_ dX12_wrongRow_55 hlocks
          unfold zRowR
          first | (rw [if_pos (by omega)]; done) | (rw [if_neg (by omega), if_pos (by omega)]; done) | (rw [if_neg (by omega), if_neg (by omega), if_pos (by omega)]; done) | (rw [if_neg (by omega), if_neg (by omega), if_neg (by omega)]; done)
        · refine lv_aload_n hx hb dX12_wrongRow_39 rfl (lv_at hl 0 rfl) ?_
          refine x_get (C := RX12) (T := TX12) (N := 24) hx hb hts hin_X12 hown hK hP (37) (by decide) hob rfl 5 (by decide) hw_2 (fun _ h9 => h9) rfl dX12_wrongRow_40 ?_
          refine lv_iload_n hx hb dX12_wrongRow_43 rfl (lv_at hl 1 rfl) ?_
          refine x_iald (f := So) hx hb hK hP (43) (by decide) h43 (by omega) (by omega) (by decide) dX12_wrongRow_44 ?_
          have hb_3 := hsh.2.1 (d)
          refine lv_iload_n hx hb dX12_wrongRow_45 rfl (lv_at hl 2 rfl) ?_
          refine x_icmp_eq (tgt := 54) hx hb (by omega) (by omega) dX12_wrongRow_46 (by decide) (fun c_46 => ?_) (fun c_46 => ?_)
          · refine x_iconst hx hb dX12_wrongRow_54 ?_
            refine x_retP hx hb hr (by omega) ?_ dX12_wrongRow_55 hlocks
            unfold zRowR
            first | (rw [if_pos (by omega)]; done) | (rw [if_neg (by omega), if_pos (by omega)]; done) | (rw [if_neg (by omega), if_neg (by omega), if_pos (by omega)]; done) | (rw [if_neg (by omega), if_neg (by omega), if_neg (by omega)]; done)
          · refine x_bipush (n := -12) hx hb (by decide +kernel) dX12_wrongRow_49 ?_
            refine lv_goto (tgt := 55) hx hb dX12_wrongRow_51 (by decide) ?_
            refine x_retP hx hb hr (by omega) ?_ dX12_wrongRow_55 hlocks
            unfold zRowR
            first | (rw [if_pos (by omega)]; done) | (rw [if_neg (by omega), if_pos (by omega)]; done) | (rw [if_neg (by omega), if_neg (by omega), if_pos (by omega)]; done) | (rw [if_neg (by omega), if_neg (by omega), if_neg (by omega)]; done)
    · refine x_bipush (n := -11) hx hb (by decide +kernel) dX12_wrongRow_20 ?_
      refine lv_goto (tgt := 55) hx hb dX12_wrongRow_22 (by decide) ?_
      refine x_retP hx hb hr (by omega) ?_ dX12_wrongRow_55 hlocks
      unfold zRowR
      first | (rw [if_pos (by omega)]; done) | (rw [if_neg (by omega), if_pos (by omega)]; done) | (rw [if_neg (by omega), if_neg (by omega), if_pos (by omega)]; done) | (rw [if_neg (by omega), if_neg (by omega), if_neg (by omega)]; done)
  · refine x_iconst hx hb dX12_wrongRow_7 ?_
    refine lv_goto (tgt := 55) hx hb dX12_wrongRow_8 (by decide) ?_
    refine x_retP hx hb hr (by omega) ?_ dX12_wrongRow_55 hlocks
    unfold zRowR
    first | (rw [if_pos (by omega)]; done) | (rw [if_neg (by omega), if_pos (by omega)]; done) | (rw [if_neg (by omega), if_neg (by omega), if_pos (by omega)]; done) | (rw [if_neg (by omega), if_neg (by omega), if_neg (by omega)]; done)

set_option maxHeartbeats 4000000 in
set_option maxRecDepth 100000 in
theorem c_X12_wrongKept (l : Launch) (g : xG) (σ : xS) (ov : Nat → Int) (S : Int → Int) (hob : MObj g σ.1 ov) (hs0 : MArr g σ.1 38 29 S) (hok : SmOk S) (Kp So Sz El KK KF : Int → Int) (h42 : MArr g σ.1 42 8 Kp) (h43 : MArr g σ.1 43 8 So) (h44 : MArr g σ.1 44 8 Sz) (h45 : MArr g σ.1 45 800 El) (h46 : MArr g σ.1 46 8 KK) (h47 : MArr g σ.1 47 8 KF) (hsh : ShOk Kp So Sz El KK KF) (d : Int) (hd : inR d) : Met l yX12_wrongKept wsX12_wrongKept ({ frames := 3, cells := 0, slots := 0, locals := 96 }) (va_Pc [.ref (g.2.2 37), .int (iI (d))] (xPre g σ)) (x_Si (fun r => r = zKeptR Kp d)) (0) (0) (fun _ => False) := by
  refine Met.ofW (cc := cX12_wrongKept) (maxL := 2) (ret := (some .int)) (by decide) rfl ?_
  intro p e s m args below meth c s₁ B hml hv
  obtain ⟨rfl, hP, hK⟩ := hv
  have hx := B.exec
  have hb := B.bytes
  have hr := B.returns
  have hts := atoms_spec (ws := wsX12_wrongKept) B.pre
  have hown : s.vm.findClass RX12 = some m.cls := findClass_of_methodNamed B.named
  have hlocks := B.notSynchronized
  have hl := lv_entry ([.ref (g.2.2 37), .int (iI (d))]) (n := 2) (Nat.le_of_ble_eq_true rfl)
  rw [lg_entry_eq]
  generalize (lg_sl ([.ref (g.2.2 37), .int (iI (d))]) ++ List.replicate (2 - (lg_sl ([.ref (g.2.2 37), .int (iI (d))])).length) Slot.unset).toArray = ls at hl ⊢
  have hl : lv_has ls 2 [(0, .ref (g.2.2 37)), (1, .int (iI (d)))] := hl
  have hn0 := hok.2.1
  have hrd0 := hok.2.2.1
  have hw_0 := hts (.fieldLink RX12 22 "TwiceAsRichModel" "kept" "[I") (by decide +kernel)
  have hin_X12 : ∀ w ∈ wsX120, w ∈ wsX12_wrongKept := by decide +kernel
  refine lv_iload_n hx hb dX12_wrongKept_0 rfl (lv_at hl 1 rfl) ?_
  refine x_ci (va_runS (As := [.int (iI (d))]) (rest := []) ⟨hx, hb, hml, hown, hts⟩ (c_X12_isShelf l g σ (d) (by omega)) (va_cwS 1 hts gX12_wrongKept_X12_isShelf rfl rfl rfl (by decide +kernel) ⟨Nat.le_of_ble_eq_true rfl, Nat.le_of_ble_eq_true rfl⟩) (x_preS hK hP) rfl rfl hl.1 rfl (lv_room (Nat.le_of_ble_eq_true rfl)) dX12_wrongKept_1 ⟨Nat.le_of_ble_eq_true rfl, Nat.le_of_ble_eq_true rfl⟩) (fun r_1 hr_1 qr_1 => ?_)
  replace qr_1 : (r_1 = 1 ∧ 0 ≤ (d) ∧ (d) ≤ 7) ∨ (r_1 = 0 ∧ ¬ (0 ≤ (d) ∧ (d) ≤ 7)) := qr_1
  refine x_if_ne (tgt := 11) hx hb (by omega) dX12_wrongKept_4 (by decide) (fun c_4 => ?_) (fun c_4 => ?_)
  · refine lv_aload_n hx hb dX12_wrongKept_11 rfl (lv_at hl 0 rfl) ?_
    refine x_get (C := RX12) (T := TX12) (N := 24) hx hb hts hin_X12 hown hK hP (37) (by decide) hob rfl 4 (by decide) hw_0 (fun _ h9 => h9) rfl dX12_wrongKept_12 ?_
    refine lv_iload_n hx hb dX12_wrongKept_15 rfl (lv_at hl 1 rfl) ?_
    refine x_iald (f := Kp) hx hb hK hP (42) (by decide) h42 (by omega) (by omega) (by decide) dX12_wrongKept_16 ?_
    have hb_1 := hsh.1 (d)
    refine x_if_ne (tgt := 25) hx hb (by omega) dX12_wrongKept_17 (by decide) (fun c_17 => ?_) (fun c_17 => ?_)
    · refine lv_aload_n hx hb dX12_wrongKept_25 rfl (lv_at hl 0 rfl) ?_
      refine x_get (C := RX12) (T := TX12) (N := 24) hx hb hts hin_X12 hown hK hP (37) (by decide) hob rfl 4 (by decide) hw_0 (fun _ h9 => h9) rfl dX12_wrongKept_26 ?_
      refine lv_iload_n hx hb dX12_wrongKept_29 rfl (lv_at hl 1 rfl) ?_
      refine x_iald (f := Kp) hx hb hK hP (42) (by decide) h42 (by omega) (by omega) (by decide) dX12_wrongKept_30 ?_
      have hb_2 := hsh.1 (d)
      refine x_iconst hx hb dX12_wrongKept_31 ?_
      refine x_icmp_ne (tgt := 39) hx hb (by omega) (by omega) dX12_wrongKept_32 (by decide) (fun c_32 => ?_) (fun c_32 => ?_)
      · refine x_bipush (n := -12) hx hb (by decide +kernel) dX12_wrongKept_39 ?_
        refine x_retP hx hb hr (by omega) ?_ dX12_wrongKept_41 hlocks
        unfold zKeptR
        first | (rw [if_pos (by omega)]; done) | (rw [if_neg (by omega), if_pos (by omega)]; done) | (rw [if_neg (by omega), if_neg (by omega), if_pos (by omega)]; done) | (rw [if_neg (by omega), if_neg (by omega), if_neg (by omega)]; done)
      · refine x_iconst hx hb dX12_wrongKept_35 ?_
        refine lv_goto (tgt := 41) hx hb dX12_wrongKept_36 (by decide) ?_
        refine x_retP hx hb hr (by omega) ?_ dX12_wrongKept_41 hlocks
        unfold zKeptR
        first | (rw [if_pos (by omega)]; done) | (rw [if_neg (by omega), if_pos (by omega)]; done) | (rw [if_neg (by omega), if_neg (by omega), if_pos (by omega)]; done) | (rw [if_neg (by omega), if_neg (by omega), if_neg (by omega)]; done)
    · refine x_bipush (n := -11) hx hb (by decide +kernel) dX12_wrongKept_20 ?_
      refine lv_goto (tgt := 41) hx hb dX12_wrongKept_22 (by decide) ?_
      refine x_retP hx hb hr (by omega) ?_ dX12_wrongKept_41 hlocks
      unfold zKeptR
      first | (rw [if_pos (by omega)]; done) | (rw [if_neg (by omega), if_pos (by omega)]; done) | (rw [if_neg (by omega), if_neg (by omega), if_pos (by omega)]; done) | (rw [if_neg (by omega), if_neg (by omega), if_neg (by omega)]; done)
  · refine x_iconst hx hb dX12_wrongKept_7 ?_
    refine lv_goto (tgt := 41) hx hb dX12_wrongKept_8 (by decide) ?_
    refine x_retP hx hb hr (by omega) ?_ dX12_wrongKept_41 hlocks
    unfold zKeptR
    first | (rw [if_pos (by omega)]; done) | (rw [if_neg (by omega), if_pos (by omega)]; done) | (rw [if_neg (by omega), if_neg (by omega), if_pos (by omega)]; done) | (rw [if_neg (by omega), if_neg (by omega), if_neg (by omega)]; done)

theorem zRowR_0 {Kp So : Int → Int} {d o r : Int} (h : r = zRowR Kp So d o) (h0 : r = 0) : 0 ≤ d ∧ d ≤ 7 ∧ Kp d = 2 ∧ (o < 0 ∨ So d = o) := by
  rw [h0] at h
  unfold zRowR at h
  by_cases h1 : ¬ (0 ≤ d ∧ d ≤ 7)
  · rw [if_pos h1] at h; omega
  · rw [if_neg h1] at h
    by_cases h2 : Kp d = 0
    · rw [if_pos h2] at h; omega
    · rw [if_neg h2] at h
      by_cases h3 : Kp d ≠ 2 ∨ (0 ≤ o ∧ So d ≠ o)
      · rw [if_pos h3] at h; omega
      · omega
theorem zRowR_rng (Kp So : Int → Int) (d o : Int) : -12 ≤ zRowR Kp So d o ∧ zRowR Kp So d o ≤ 0 := by
  unfold zRowR; repeat' split
  all_goals omega
theorem zKeptR_0 {Kp : Int → Int} {d r : Int} (h : r = zKeptR Kp d) (h0 : r = 0) : 0 ≤ d ∧ d ≤ 7 ∧ Kp d = 1 := by
  rw [h0] at h
  unfold zKeptR at h
  by_cases h1 : ¬ (0 ≤ d ∧ d ≤ 7)
  · rw [if_pos h1] at h; omega
  · rw [if_neg h1] at h
    by_cases h2 : Kp d = 0
    · rw [if_pos h2] at h; omega
    · rw [if_neg h2] at h
      by_cases h3 : Kp d = 1
      · omega
      · rw [if_neg h3] at h; omega
set_option maxHeartbeats 4000000 in
set_option maxRecDepth 100000 in
theorem c_X12_toldAt (l : Launch) (g : xG) (σ : xS) (ov : Nat → Int) (S : Int → Int) (hob : MObj g σ.1 ov) (hs0 : MArr g σ.1 38 29 S) (hok : SmOk S) (Kp So Sz El KK KF : Int → Int) (h42 : MArr g σ.1 42 8 Kp) (h43 : MArr g σ.1 43 8 So) (h44 : MArr g σ.1 44 8 Sz) (h45 : MArr g σ.1 45 800 El) (h46 : MArr g σ.1 46 8 KK) (h47 : MArr g σ.1 47 8 KF) (hsh : ShOk Kp So Sz El KK KF) (d : Int) (hd : 0 ≤ d ∧ d ≤ 7) (i : Int) (hi : 0 ≤ i ∧ i < 100) : Met l yX12_toldAt wsX12_toldAt ({ frames := 1, cells := 0, slots := 0, locals := 32 }) (va_Pc [.ref (g.2.2 37), .int (iI (d)), .int (iI (i))] (xPre g σ)) (x_Si (fun r => r = El (100 * d + i))) (0) (0) (fun _ => False) := by
  refine Met.ofW (cc := cX12_toldAt) (maxL := 3) (ret := (some .int)) (by decide) rfl ?_
  intro p e s m args below meth c s₁ B hml hv
  obtain ⟨rfl, hP, hK⟩ := hv
  have hx := B.exec
  have hb := B.bytes
  have hr := B.returns
  have hts := atoms_spec (ws := wsX12_toldAt) B.pre
  have hown : s.vm.findClass RX12 = some m.cls := findClass_of_methodNamed B.named
  have hlocks := B.notSynchronized
  have hl := lv_entry ([.ref (g.2.2 37), .int (iI (d)), .int (iI (i))]) (n := 3) (Nat.le_of_ble_eq_true rfl)
  rw [lg_entry_eq]
  generalize (lg_sl ([.ref (g.2.2 37), .int (iI (d)), .int (iI (i))]) ++ List.replicate (3 - (lg_sl ([.ref (g.2.2 37), .int (iI (d)), .int (iI (i))])).length) Slot.unset).toArray = ls at hl ⊢
  have hl : lv_has ls 3 [(0, .ref (g.2.2 37)), (1, .int (iI (d))), (2, .int (iI (i)))] := hl
  have hn0 := hok.2.1
  have hrd0 := hok.2.2.1
  have hw_0 := hts (.fieldLink RX12 31 "TwiceAsRichModel" "element" "[I") (by decide +kernel)
  have hin_X12 : ∀ w ∈ wsX120, w ∈ wsX12_toldAt := by decide +kernel
  refine lv_aload_n hx hb dX12_toldAt_0 rfl (lv_at hl 0 rfl) ?_
  refine x_get (C := RX12) (T := TX12) (N := 24) hx hb hts hin_X12 hown hK hP (37) (by decide) hob rfl 7 (by decide) hw_0 (fun _ h9 => h9) rfl dX12_toldAt_1 ?_
  refine x_bipush (n := 100) hx hb (by decide +kernel) dX12_toldAt_4 ?_
  refine lv_iload_n hx hb dX12_toldAt_6 rfl (lv_at hl 1 rfl) ?_
  refine x_imul hx hb dX12_toldAt_7 ?_
  refine lv_iload_n hx hb dX12_toldAt_8 rfl (lv_at hl 2 rfl) ?_
  refine x_iadd hx hb dX12_toldAt_9 ?_
  refine x_iald (f := El) hx hb hK hP (45) (by decide) h45 (by omega) (by omega) (by decide) dX12_toldAt_10 ?_
  have hb_1 := hsh.2.2.2.1 ((100 * d) + i)
  refine x_retP hx hb hr (by omega) ?_ dX12_toldAt_11 hlocks
  rfl

set_option maxHeartbeats 4000000 in
set_option maxRecDepth 100000 in
theorem c_X12_lawful (l : Launch) (g : xG) (σ : xS) (ov : Nat → Int) (S : Int → Int) (hob : MObj g σ.1 ov) (hs0 : MArr g σ.1 38 29 S) (hok : SmOk S) : Met l yX12_lawful wsX12_lawful ({ frames := 8, cells := 0, slots := 0, locals := 256 }) (va_Pc [.ref (g.2.2 37)] (xPre g σ)) (x_Si (fun r => r = zLawful (mK S) (mF S) (mP S) (S 0) (S 1))) (0) (0) (fun _ => False) := by
  refine Met.ofW (cc := cX12_lawful) (maxL := 1) (ret := (some .int)) (by decide) rfl ?_
  intro p e s m args below meth c s₁ B hml hv
  obtain ⟨rfl, hP, hK⟩ := hv
  have hx := B.exec
  have hb := B.bytes
  have hr := B.returns
  have hts := atoms_spec (ws := wsX12_lawful) B.pre
  have hown : s.vm.findClass RX12 = some m.cls := findClass_of_methodNamed B.named
  have hlocks := B.notSynchronized
  have hl := lv_entry ([.ref (g.2.2 37)]) (n := 1) (Nat.le_of_ble_eq_true rfl)
  rw [lg_entry_eq]
  generalize (lg_sl ([.ref (g.2.2 37)]) ++ List.replicate (1 - (lg_sl ([.ref (g.2.2 37)])).length) Slot.unset).toArray = ls at hl ⊢
  have hl : lv_has ls 1 [(0, .ref (g.2.2 37))] := hl
  have hn0 := hok.2.1
  have hrd0 := hok.2.2.1
  refine lv_aload_n hx hb dX12_lawful_0 rfl (lv_at hl 0 rfl) ?_
  refine x_ci (va_runV (As := []) (rest := []) ⟨hx, hb, hml, hown, hts⟩ (c_X12_isLawful l g σ (ov) S hob hs0 hok ) (cwV 0 hts gX12_lawful_X12_isLawful rfl rfl rfl (by decide +kernel) ⟨Nat.le_of_ble_eq_true rfl, Nat.le_of_ble_eq_true rfl⟩) (x_preV hK hP (x_recv hK hP (i := 37) (by decide) hob rfl)) rfl rfl hl.1 rfl (lv_room (Nat.le_of_ble_eq_true rfl)) dX12_lawful_1 ⟨Nat.le_of_ble_eq_true rfl, Nat.le_of_ble_eq_true rfl⟩) (fun r_1 hr_1 qr_1 => ?_)
  replace qr_1 : (r_1 = 1 ∧ zAll (mK S) (mF S) (mP S) (S 0) (S 1) = 0) ∨ (r_1 = 0 ∧ zAll (mK S) (mF S) (mP S) (S 0) (S 1) ≠ 0) := qr_1
  refine x_if_eq (tgt := 11) hx hb (by omega) dX12_lawful_4 (by decide) (fun c_4 => ?_) (fun c_4 => ?_)
  · refine x_iconst hx hb dX12_lawful_11 ?_
    refine x_retP hx hb hr (by omega) ?_ dX12_lawful_12 hlocks
    unfold zLawful
    repeat first | rw [if_pos (by omega)] | rw [if_neg (by omega)]
  · refine x_iconst hx hb dX12_lawful_7 ?_
    refine lv_goto (tgt := 12) hx hb dX12_lawful_8 (by decide) ?_
    refine x_retP hx hb hr (by omega) ?_ dX12_lawful_12 hlocks
    unfold zLawful
    repeat first | rw [if_pos (by omega)] | rw [if_neg (by omega)]

set_option maxHeartbeats 4000000 in
set_option maxRecDepth 100000 in
theorem c_X12_breaches (l : Launch) (g : xG) (σ : xS) (ov : Nat → Int) (S : Int → Int) (hob : MObj g σ.1 ov) (hs0 : MArr g σ.1 38 29 S) (hok : SmOk S) (h : Int) (hh : inR h) : Met l yX12_breaches wsX12_breaches ({ frames := 7, cells := 0, slots := 0, locals := 224 }) (va_Pc [.ref (g.2.2 37), .int (iI (h))] (xPre g σ)) (x_Si (fun r => r = zBreaches (mK S) (mF S) (mP S) (S 0) (S 1) h)) (0) (0) (fun _ => False) := by
  refine Met.ofW (cc := cX12_breaches) (maxL := 2) (ret := (some .int)) (by decide) rfl ?_
  intro p e s m args below meth c s₁ B hml hv
  obtain ⟨rfl, hP, hK⟩ := hv
  have hx := B.exec
  have hb := B.bytes
  have hr := B.returns
  have hts := atoms_spec (ws := wsX12_breaches) B.pre
  have hown : s.vm.findClass RX12 = some m.cls := findClass_of_methodNamed B.named
  have hlocks := B.notSynchronized
  have hl := lv_entry ([.ref (g.2.2 37), .int (iI (h))]) (n := 2) (Nat.le_of_ble_eq_true rfl)
  rw [lg_entry_eq]
  generalize (lg_sl ([.ref (g.2.2 37), .int (iI (h))]) ++ List.replicate (2 - (lg_sl ([.ref (g.2.2 37), .int (iI (h))])).length) Slot.unset).toArray = ls at hl ⊢
  have hl : lv_has ls 2 [(0, .ref (g.2.2 37)), (1, .int (iI (h)))] := hl
  have hn0 := hok.2.1
  have hrd0 := hok.2.2.1
  refine lv_iload_n hx hb dX12_breaches_0 rfl (lv_at hl 1 rfl) ?_
  refine x_iconst hx hb dX12_breaches_1 ?_
  refine x_icmp_ne (tgt := 12) hx hb (by omega) (by omega) dX12_breaches_2 (by decide) (fun c_2 => ?_) (fun c_2 => ?_)
  · refine lv_aload_n hx hb dX12_breaches_12 rfl (lv_at hl 0 rfl) ?_
    refine lv_iload_n hx hb dX12_breaches_13 rfl (lv_at hl 1 rfl) ?_
    refine x_ci (va_runV (As := [.int (iI (h))]) (rest := []) ⟨hx, hb, hml, hown, hts⟩ (c_X12_isHouse l g σ (ov) S hob hs0 hok (h) (by omega)) (cwV 1 hts gX12_breaches_X12_isHouse rfl rfl rfl (by decide +kernel) ⟨Nat.le_of_ble_eq_true rfl, Nat.le_of_ble_eq_true rfl⟩) (x_preV hK hP (x_recv hK hP (i := 37) (by decide) hob rfl)) rfl rfl hl.1 rfl (lv_room (Nat.le_of_ble_eq_true rfl)) dX12_breaches_14 ⟨Nat.le_of_ble_eq_true rfl, Nat.le_of_ble_eq_true rfl⟩) (fun r_14 hr_14 qr_14 => ?_)
    replace qr_14 : (r_14 = 1 ∧ 0 ≤ (h) ∧ (h) < S 0) ∨ (r_14 = 0 ∧ ¬ (0 ≤ (h) ∧ (h) < S 0)) := qr_14
    refine x_if_eq (tgt := 28) hx hb (by omega) dX12_breaches_17 (by decide) (fun c_17 => ?_) (fun c_17 => ?_)
    · refine x_iconst hx hb dX12_breaches_28 ?_
      refine x_retP hx hb hr (by omega) ?_ dX12_breaches_29 hlocks
      unfold zBreaches
      repeat first | rw [if_pos (by omega)] | rw [if_neg (by omega)]
      try omega
    · refine lv_aload_n hx hb dX12_breaches_20 rfl (lv_at hl 0 rfl) ?_
      refine lv_iload_n hx hb dX12_breaches_21 rfl (lv_at hl 1 rfl) ?_
      refine x_ci (va_runV (As := [.int (iI (h))]) (rest := []) ⟨hx, hb, hml, hown, hts⟩ (c_X12_breachesOf l g σ (ov) S hob hs0 hok (h) (by omega)) (cwV 1 hts gX12_breaches_X12_breachesOf rfl rfl rfl (by decide +kernel) ⟨Nat.le_of_ble_eq_true rfl, Nat.le_of_ble_eq_true rfl⟩) (x_preV hK hP (x_recv hK hP (i := 37) (by decide) hob rfl)) rfl rfl hl.1 rfl (lv_room (Nat.le_of_ble_eq_true rfl)) dX12_breaches_22 ⟨Nat.le_of_ble_eq_true rfl, Nat.le_of_ble_eq_true rfl⟩) (fun r_22 hr_22 qr_22 => ?_)
      replace qr_22 : r_22 = zBr (mK S) (mF S) (mP S) (S 0) (S 1) (h) ∧ 0 ≤ r_22 ∧ r_22 ≤ 2 := qr_22
      refine lv_goto (tgt := 29) hx hb dX12_breaches_25 (by decide) ?_
      refine x_retP hx hb hr (by omega) ?_ dX12_breaches_29 hlocks
      unfold zBreaches
      repeat first | rw [if_pos (by omega)] | rw [if_neg (by omega)]
      try omega
  · refine lv_aload_n hx hb dX12_breaches_5 rfl (lv_at hl 0 rfl) ?_
    refine x_ci (va_runV (As := []) (rest := []) ⟨hx, hb, hml, hown, hts⟩ (c_X12_breachesAll l g σ (ov) S hob hs0 hok ) (cwV 0 hts gX12_breaches_X12_breachesAll rfl rfl rfl (by decide +kernel) ⟨Nat.le_of_ble_eq_true rfl, Nat.le_of_ble_eq_true rfl⟩) (x_preV hK hP (x_recv hK hP (i := 37) (by decide) hob rfl)) rfl rfl hl.1 rfl (lv_room (Nat.le_of_ble_eq_true rfl)) dX12_breaches_6 ⟨Nat.le_of_ble_eq_true rfl, Nat.le_of_ble_eq_true rfl⟩) (fun r_6 hr_6 qr_6 => ?_)
    replace qr_6 : r_6 = zAll (mK S) (mF S) (mP S) (S 0) (S 1) ∧ 0 ≤ r_6 ∧ r_6 ≤ 18 := qr_6
    refine lv_goto (tgt := 29) hx hb dX12_breaches_9 (by decide) ?_
    refine x_retP hx hb hr (by omega) ?_ dX12_breaches_29 hlocks
    unfold zBreaches
    repeat first | rw [if_pos (by omega)] | rw [if_neg (by omega)]
    try omega

set_option maxHeartbeats 4000000 in
set_option maxRecDepth 100000 in
theorem c_X12_held (l : Launch) (g : xG) (σ : xS) (ov : Nat → Int) (S : Int → Int) (hob : MObj g σ.1 ov) (hs0 : MArr g σ.1 38 29 S) (hok : SmOk S) (h : Int) (hh : inR h) : Met l yX12_held wsX12_held ({ frames := 5, cells := 0, slots := 0, locals := 160 }) (va_Pc [.ref (g.2.2 37), .int (iI (h))] (xPre g σ)) (x_Si (fun r => r = zHeldR (mK S) (mF S) (mP S) (S 0) (S 1) h)) (0) (0) (fun _ => False) := by
  refine Met.ofW (cc := cX12_held) (maxL := 2) (ret := (some .int)) (by decide) rfl ?_
  intro p e s m args below meth c s₁ B hml hv
  obtain ⟨rfl, hP, hK⟩ := hv
  have hx := B.exec
  have hb := B.bytes
  have hr := B.returns
  have hts := atoms_spec (ws := wsX12_held) B.pre
  have hown : s.vm.findClass RX12 = some m.cls := findClass_of_methodNamed B.named
  have hlocks := B.notSynchronized
  have hl := lv_entry ([.ref (g.2.2 37), .int (iI (h))]) (n := 2) (Nat.le_of_ble_eq_true rfl)
  rw [lg_entry_eq]
  generalize (lg_sl ([.ref (g.2.2 37), .int (iI (h))]) ++ List.replicate (2 - (lg_sl ([.ref (g.2.2 37), .int (iI (h))])).length) Slot.unset).toArray = ls at hl ⊢
  have hl : lv_has ls 2 [(0, .ref (g.2.2 37)), (1, .int (iI (h)))] := hl
  have hn0 := hok.2.1
  have hrd0 := hok.2.2.1
  refine lv_aload_n hx hb dX12_held_0 rfl (lv_at hl 0 rfl) ?_
  refine lv_iload_n hx hb dX12_held_1 rfl (lv_at hl 1 rfl) ?_
  refine x_ci (va_runV (As := [.int (iI (h))]) (rest := []) ⟨hx, hb, hml, hown, hts⟩ (c_X12_isHouse l g σ (ov) S hob hs0 hok (h) (by omega)) (cwV 1 hts gX12_held_X12_isHouse rfl rfl rfl (by decide +kernel) ⟨Nat.le_of_ble_eq_true rfl, Nat.le_of_ble_eq_true rfl⟩) (x_preV hK hP (x_recv hK hP (i := 37) (by decide) hob rfl)) rfl rfl hl.1 rfl (lv_room (Nat.le_of_ble_eq_true rfl)) dX12_held_2 ⟨Nat.le_of_ble_eq_true rfl, Nat.le_of_ble_eq_true rfl⟩) (fun r_2 hr_2 qr_2 => ?_)
  replace qr_2 : (r_2 = 1 ∧ 0 ≤ (h) ∧ (h) < S 0) ∨ (r_2 = 0 ∧ ¬ (0 ≤ (h) ∧ (h) < S 0)) := qr_2
  refine x_if_eq (tgt := 23) hx hb (by omega) dX12_held_5 (by decide) (fun c_5 => ?_) (fun c_5 => ?_)
  · refine x_iconst hx hb dX12_held_23 ?_
    refine x_retP hx hb hr (by omega) ?_ dX12_held_24 hlocks
    unfold zHeldR
    repeat first | rw [if_pos (by omega)] | rw [if_neg (by omega)]
    try (have hz := zSetN_2 (mK S) (mF S) (mP S) (S 0) (S 1) h (r_12 + 1) (by omega) (by omega) (by omega); rw [qr_17, hz.2.2.2.1, qr_12]; rfl)
  · refine lv_aload_n hx hb dX12_held_8 rfl (lv_at hl 0 rfl) ?_
    refine lv_iload_n hx hb dX12_held_9 rfl (lv_at hl 1 rfl) ?_
    refine lv_aload_n hx hb dX12_held_10 rfl (lv_at hl 0 rfl) ?_
    refine lv_iload_n hx hb dX12_held_11 rfl (lv_at hl 1 rfl) ?_
    refine x_ci (va_runV (As := [.int (iI (h))]) (rest := [.int (iI (h)), .ref (g.2.2 37)]) ⟨hx, hb, hml, hown, hts⟩ (c_X12_purse l g σ (ov) S hob hs0 hok.1 (h) (by omega)) (cwV 1 hts gX12_held_X12_purse rfl rfl rfl (by decide +kernel) ⟨Nat.le_of_ble_eq_true rfl, Nat.le_of_ble_eq_true rfl⟩) (x_preV hK hP (x_recv hK hP (i := 37) (by decide) hob rfl)) rfl rfl hl.1 rfl (lv_room (Nat.le_of_ble_eq_true rfl)) dX12_held_12 ⟨Nat.le_of_ble_eq_true rfl, Nat.le_of_ble_eq_true rfl⟩) (fun r_12 hr_12 qr_12 => ?_)
    replace qr_12 : r_12 = S (2 + 3 * (h) + 2) := qr_12
    have hok0 := hok.2.2.2 h (by omega) (by omega)
    refine x_iconst hx hb dX12_held_15 ?_
    refine x_iadd hx hb dX12_held_16 ?_
    refine x_ci (va_runV (As := [.int (iI (h)), .int (iI (r_12 + 1))]) (rest := []) ⟨hx, hb, hml, hown, hts⟩ (c_X12_tooMuchBy l g σ (ov) S hob hs0 hok (h) (by omega) (r_12 + 1) (by omega)) (cwV 2 hts gX12_held_X12_tooMuchBy rfl rfl rfl (by decide +kernel) ⟨Nat.le_of_ble_eq_true rfl, Nat.le_of_ble_eq_true rfl⟩) (x_preV hK hP (x_recv hK hP (i := 37) (by decide) hob rfl)) rfl rfl hl.1 rfl (lv_room (Nat.le_of_ble_eq_true rfl)) dX12_held_17 ⟨Nat.le_of_ble_eq_true rfl, Nat.le_of_ble_eq_true rfl⟩) (fun r_17 hr_17 qr_17 => ?_)
    replace qr_17 : r_17 = zSetN (mK S) (mF S) (mP S) (S 0) (S 1) (h) (r_12 + 1) 2 := qr_17
    refine lv_goto (tgt := 24) hx hb dX12_held_20 (by decide) ?_
    refine x_retP hx hb hr (by omega) ?_ dX12_held_24 hlocks
    unfold zHeldR
    repeat first | rw [if_pos (by omega)] | rw [if_neg (by omega)]
    try (have hz := zSetN_2 (mK S) (mF S) (mP S) (S 0) (S 1) h (r_12 + 1) (by omega) (by omega) (by omega); rw [qr_17, hz.2.2.2.1, qr_12]; rfl)

set_option maxHeartbeats 4000000 in
set_option maxRecDepth 100000 in
theorem c_X12_free (l : Launch) (g : xG) (σ : xS) (ov : Nat → Int) (S : Int → Int) (hob : MObj g σ.1 ov) (hs0 : MArr g σ.1 38 29 S) (hok : SmOk S) : Met l yX12_free wsX12_free ({ frames := 5, cells := 0, slots := 0, locals := 160 }) (va_Pc [.ref (g.2.2 37)] (xPre g σ)) (x_Si (fun r => r = zFreeN (mK S) (mF S) (mP S) (S 0) (S 1) (S 0).toNat)) (0) (0) (fun _ => False) := by
  refine Met.ofW (cc := cX12_free) (maxL := 3) (ret := (some .int)) (by decide) rfl ?_
  intro p e s m args below meth c s₁ B hml hv
  obtain ⟨rfl, hP, hK⟩ := hv
  have hx := B.exec
  have hb := B.bytes
  have hr := B.returns
  have hts := atoms_spec (ws := wsX12_free) B.pre
  have hown : s.vm.findClass RX12 = some m.cls := findClass_of_methodNamed B.named
  have hlocks := B.notSynchronized
  have hl := lv_entry ([.ref (g.2.2 37)]) (n := 3) (Nat.le_of_ble_eq_true rfl)
  rw [lg_entry_eq]
  generalize (lg_sl ([.ref (g.2.2 37)]) ++ List.replicate (3 - (lg_sl ([.ref (g.2.2 37)])).length) Slot.unset).toArray = ls at hl ⊢
  have hl : lv_has ls 3 [(0, .ref (g.2.2 37))] := hl
  have hn0 := hok.2.1
  have hrd0 := hok.2.2.1
  have hw_0 := hts (.fieldLink RX12 9 "TwiceAsRichModel" "s" "[I") (by decide +kernel)
  have hin_X12 : ∀ w ∈ wsX120, w ∈ wsX12_free := by decide +kernel
  refine x_iconst hx hb dX12_free_0 ?_
  refine lv_istore_n (lv' := [(1, .int (iI (0))), (0, .ref (g.2.2 37))]) hx hb dX12_free_1 rfl hl (by decide) rfl (fun ls hl => ?_)
  refine x_iconst hx hb dX12_free_2 ?_
  refine lv_istore_n (lv' := [(2, .int (iI (0))), (1, .int (iI (0))), (0, .ref (g.2.2 37))]) hx hb dX12_free_3 rfl hl (by decide) rfl (fun ls hl => ?_)
  have hloop_4 : ∀ (k : Nat) (set : Int) (i : Int), (S 0 - i).toNat < k → (hi0 : 0 ≤ i) → (hin : i ≤ S 0) → (hset : set = zFreeN (mK S) (mF S) (mP S) (S 0) (S 1) i.toNat) → (hsr : inR set) → ∀ (ls : Array Slot), lv_has ls 3 [(1, .int (iI (set))), (2, .int (iI (i))), (0, .ref (g.2.2 37))] → W p l e (headSpec wsX12_free ({ frames := 5, cells := 0, slots := 0, locals := 160 })).room s m ([.ref (g.2.2 37)] : List Value).toArray below meth c s.heap [] 0 0 (MQ below (x_Si (fun r => r = zFreeN (mK S) (mF S) (mP S) (S 0) (S 1) (S 0).toNat)) ([.ref (g.2.2 37)] : List Value).toArray s (0) (0) (fun _ => False)) (F0 m 4 ls []) := by
    intro k
    induction k with
    | zero =>
      intros; exact absurd (by assumption) (Nat.not_lt_zero _)
    | succ k ih =>
      intro set i hmeas hi0 hin hset hsr  ls hl
      have ih_1 := ih
      refine lv_iload_n hx hb dX12_free_4 rfl (lv_at hl 1 rfl) ?_
      refine lv_aload_n hx hb dX12_free_5 rfl (lv_at hl 2 rfl) ?_
      refine x_get (C := RX12) (T := TX12) (N := 24) hx hb hts hin_X12 hown hK hP (37) (by decide) hob rfl 0 (by decide) hw_0 (fun _ h9 => h9) rfl dX12_free_6 ?_
      refine x_iconst hx hb dX12_free_9 ?_
      refine x_iald (f := S) hx hb hK hP (38) (by decide) hs0 (by omega) (by omega) (by decide) dX12_free_10 ?_
      have hb_2 := hok.1 (0)
      refine x_icmp_ge (tgt := 56) hx hb (by omega) (by omega) dX12_free_11 (by decide) (fun c_11 => ?_) (fun c_11 => ?_)
      · refine lv_iload_n hx hb dX12_free_56 rfl (lv_at hl 0 rfl) ?_
        refine x_retP hx hb hr (by omega) ?_ dX12_free_57 hlocks
        have e : (S 0).toNat = i.toNat := by omega
        rw [e]; exact hset
      · refine lv_iload_n hx hb dX12_free_14 rfl (lv_at hl 0 rfl) ?_
        refine lv_aload_n hx hb dX12_free_15 rfl (lv_at hl 2 rfl) ?_
        refine lv_iload_n hx hb dX12_free_16 rfl (lv_at hl 1 rfl) ?_
        refine x_ci (va_runV (As := [.int (iI (i))]) (rest := [.int (iI (set))]) ⟨hx, hb, hml, hown, hts⟩ (c_X12_purse l g σ (ov) S hob hs0 hok.1 (i) (by omega)) (cwV 1 hts gX12_free_X12_purse rfl rfl rfl (by decide +kernel) ⟨Nat.le_of_ble_eq_true rfl, Nat.le_of_ble_eq_true rfl⟩) (x_preV hK hP (x_recv hK hP (i := 37) (by decide) hob rfl)) rfl rfl hl.1 rfl (lv_room (Nat.le_of_ble_eq_true rfl)) dX12_free_17 ⟨Nat.le_of_ble_eq_true rfl, Nat.le_of_ble_eq_true rfl⟩) (fun r_17 hr_17 qr_17 => ?_)
        replace qr_17 : r_17 = S (2 + 3 * (i) + 2) := qr_17
        have hok0 := hok.2.2.2 i (by omega) (by omega)
        have hmp : mP S i = S (2 + 3 * i + 2) := rfl
        have hz := zSetN_2 (mK S) (mF S) (mP S) (S 0) (S 1) i (mP S i + 1) (by omega) (by omega) (by omega)
        refine x_sipush (n := 9999) hx hb (by decide +kernel) dX12_free_20 ?_
        refine x_icmp_ge (tgt := 47) hx hb (by omega) (by omega) dX12_free_23 (by decide) (fun c_23 => ?_) (fun c_23 => ?_)
        · refine x_iconst hx hb dX12_free_47 ?_
          refine x_ior hx hb dX12_free_48 ?_
          have hb_3 := iOr_rng (set) (0)
          refine lv_istore_n (lv' := [(1, .int (iI (iOr (set) (0)))), (2, .int (iI (i))), (0, .ref (g.2.2 37))]) hx hb dX12_free_49 rfl hl (by decide) rfl (fun ls hl => ?_)
          refine x_iinc (k0 := 1) (lv' := [(2, .int (iI (i + 1))), (1, .int (iI (iOr (set) (0)))), (0, .ref (g.2.2 37))]) hx hb dX12_free_50 hl rfl (by decide) rfl (fun ls hl => ?_)
          refine lv_goto (tgt := 4) hx hb dX12_free_53 (by decide) ?_
          exact ih_1 (iOr (set) (0)) (i + 1) (by omega) (by omega) (by omega) (by rw [zFreeN_succ _ _ _ _ _ hi0, ← hset]; first | (rw [iOr_zero hsr, if_neg (by omega)]; done) | (rw [if_pos (by omega)]; done)) (by omega) ls (lv_sub hl [1, 0, 2] rfl)
        · refine lv_aload_n hx hb dX12_free_26 rfl (lv_at hl 2 rfl) ?_
          refine lv_iload_n hx hb dX12_free_27 rfl (lv_at hl 1 rfl) ?_
          refine lv_aload_n hx hb dX12_free_28 rfl (lv_at hl 2 rfl) ?_
          refine lv_iload_n hx hb dX12_free_29 rfl (lv_at hl 1 rfl) ?_
          refine x_ci (va_runV (As := [.int (iI (i))]) (rest := [.int (iI (i)), .ref (g.2.2 37), .int (iI (set))]) ⟨hx, hb, hml, hown, hts⟩ (c_X12_purse l g σ (ov) S hob hs0 hok.1 (i) (by omega)) (cwV 1 hts gX12_free_X12_purse rfl rfl rfl (by decide +kernel) ⟨Nat.le_of_ble_eq_true rfl, Nat.le_of_ble_eq_true rfl⟩) (x_preV hK hP (x_recv hK hP (i := 37) (by decide) hob rfl)) rfl rfl hl.1 rfl (lv_room (Nat.le_of_ble_eq_true rfl)) dX12_free_30 ⟨Nat.le_of_ble_eq_true rfl, Nat.le_of_ble_eq_true rfl⟩) (fun r_30 hr_30 qr_30 => ?_)
          replace qr_30 : r_30 = S (2 + 3 * (i) + 2) := qr_30
          refine x_iconst hx hb dX12_free_33 ?_
          refine x_iadd hx hb dX12_free_34 ?_
          refine x_ci (va_runV (As := [.int (iI (i)), .int (iI (r_30 + 1))]) (rest := [.int (iI (set))]) ⟨hx, hb, hml, hown, hts⟩ (c_X12_tooMuchBy l g σ (ov) S hob hs0 hok (i) (by omega) (r_30 + 1) (by omega)) (cwV 2 hts gX12_free_X12_tooMuchBy rfl rfl rfl (by decide +kernel) ⟨Nat.le_of_ble_eq_true rfl, Nat.le_of_ble_eq_true rfl⟩) (x_preV hK hP (x_recv hK hP (i := 37) (by decide) hob rfl)) rfl rfl hl.1 rfl (lv_room (Nat.le_of_ble_eq_true rfl)) dX12_free_35 ⟨Nat.le_of_ble_eq_true rfl, Nat.le_of_ble_eq_true rfl⟩) (fun r_35 hr_35 qr_35 => ?_)
          replace qr_35 : r_35 = zSetN (mK S) (mF S) (mP S) (S 0) (S 1) (i) (r_30 + 1) 2 := qr_35
          have hhz : zHold (mK S) (mF S) (mP S) (S 0) (S 1) i = r_35 := by rw [qr_35, qr_30]; exact hz.2.2.2.1.symm
          refine x_if_ne (tgt := 47) hx hb (by omega) dX12_free_38 (by decide) (fun c_38 => ?_) (fun c_38 => ?_)
          · refine x_iconst hx hb dX12_free_47 ?_
            refine x_ior hx hb dX12_free_48 ?_
            have hb_4 := iOr_rng (set) (0)
            refine lv_istore_n (lv' := [(1, .int (iI (iOr (set) (0)))), (2, .int (iI (i))), (0, .ref (g.2.2 37))]) hx hb dX12_free_49 rfl hl (by decide) rfl (fun ls hl => ?_)
            refine x_iinc (k0 := 1) (lv' := [(2, .int (iI (i + 1))), (1, .int (iI (iOr (set) (0)))), (0, .ref (g.2.2 37))]) hx hb dX12_free_50 hl rfl (by decide) rfl (fun ls hl => ?_)
            refine lv_goto (tgt := 4) hx hb dX12_free_53 (by decide) ?_
            exact ih_1 (iOr (set) (0)) (i + 1) (by omega) (by omega) (by omega) (by rw [zFreeN_succ _ _ _ _ _ hi0, ← hset]; first | (rw [iOr_zero hsr, if_neg (by omega)]; done) | (rw [if_pos (by omega)]; done)) (by omega) ls (lv_sub hl [1, 0, 2] rfl)
          · refine x_iconst hx hb dX12_free_41 ?_
            refine lv_iload_n hx hb dX12_free_42 rfl (lv_at hl 1 rfl) ?_
            refine x_ishl hx hb dX12_free_43 ?_
            have hb_5 := iShl_rng (1) (i)
            refine lv_goto (tgt := 48) hx hb dX12_free_44 (by decide) ?_
            refine x_ior hx hb dX12_free_48 ?_
            have hb_6 := iOr_rng (set) (iShl (1) (i))
            refine lv_istore_n (lv' := [(1, .int (iI (iOr (set) (iShl (1) (i))))), (2, .int (iI (i))), (0, .ref (g.2.2 37))]) hx hb dX12_free_49 rfl hl (by decide) rfl (fun ls hl => ?_)
            refine x_iinc (k0 := 1) (lv' := [(2, .int (iI (i + 1))), (1, .int (iI (iOr (set) (iShl (1) (i))))), (0, .ref (g.2.2 37))]) hx hb dX12_free_50 hl rfl (by decide) rfl (fun ls hl => ?_)
            refine lv_goto (tgt := 4) hx hb dX12_free_53 (by decide) ?_
            exact ih_1 (iOr (set) (iShl (1) (i))) (i + 1) (by omega) (by omega) (by omega) (by rw [zFreeN_succ _ _ _ _ _ hi0, ← hset]; first | (rw [iOr_zero hsr, if_neg (by omega)]; done) | (rw [if_pos (by omega)]; done)) (by omega) ls (lv_sub hl [1, 0, 2] rfl)
  exact hloop_4 (((S 0 - (0)).toNat) + 1) (0) (0) (by omega) (by omega) (by omega) (by rfl) (by omega) ls (lv_sub hl [1, 0, 2] rfl)

set_option maxHeartbeats 4000000 in
set_option maxRecDepth 100000 in
theorem c_X12_count (l : Launch) (g : xG) (σ : xS) (ov : Nat → Int) (S : Int → Int) (hob : MObj g σ.1 ov) (hs0 : MArr g σ.1 38 29 S) (hok : SmOk S) (wh : Int) (hw : inR wh) : Met l yX12_count wsX12_count ({ frames := 6, cells := 0, slots := 0, locals := 192 }) (va_Pc [.ref (g.2.2 37), .int (iI (wh))] (xPre g σ)) (x_Si (fun r => r = zCount (mK S) (mF S) (mP S) (S 0) (S 1) wh)) (0) (0) (fun _ => False) := by
  refine Met.ofW (cc := cX12_count) (maxL := 4) (ret := (some .int)) (by decide) rfl ?_
  intro p e s m args below meth c s₁ B hml hv
  obtain ⟨rfl, hP, hK⟩ := hv
  have hx := B.exec
  have hb := B.bytes
  have hr := B.returns
  have hts := atoms_spec (ws := wsX12_count) B.pre
  have hown : s.vm.findClass RX12 = some m.cls := findClass_of_methodNamed B.named
  have hlocks := B.notSynchronized
  have hl := lv_entry ([.ref (g.2.2 37), .int (iI (wh))]) (n := 4) (Nat.le_of_ble_eq_true rfl)
  rw [lg_entry_eq]
  generalize (lg_sl ([.ref (g.2.2 37), .int (iI (wh))]) ++ List.replicate (4 - (lg_sl ([.ref (g.2.2 37), .int (iI (wh))])).length) Slot.unset).toArray = ls at hl ⊢
  have hl : lv_has ls 4 [(0, .ref (g.2.2 37)), (1, .int (iI (wh)))] := hl
  have hn0 := hok.2.1
  have hrd0 := hok.2.2.1
  have hw_0 := hts (.fieldLink RX12 9 "TwiceAsRichModel" "s" "[I") (by decide +kernel)
  have hin_X12 : ∀ w ∈ wsX120, w ∈ wsX12_count := by decide +kernel
  refine x_iconst hx hb dX12_count_0 ?_
  refine lv_istore_n (lv' := [(2, .int (iI (0))), (0, .ref (g.2.2 37)), (1, .int (iI (wh)))]) hx hb dX12_count_1 rfl hl (by decide) rfl (fun ls hl => ?_)
  refine lv_iload_n hx hb dX12_count_2 rfl (lv_at hl 2 rfl) ?_
  have c_3 : wh = 0 ∨ wh = 1 ∨ wh = 2 ∨ wh = 3 ∨ (wh ≠ 0 ∧ wh ≠ 1 ∧ wh ≠ 2 ∧ wh ≠ 3) := by omega
  rcases c_3 with c_3 | c_3 | c_3 | c_3 | c_3
  · refine x_tabIn (z := 0) (tgt := 32) hx hb c_3 (by decide) dX12_count_3 (by decide) (by decide) rfl (by decide) ?_
    refine lv_aload_n hx hb dX12_count_32 rfl (lv_at hl 1 rfl) ?_
    refine x_get (C := RX12) (T := TX12) (N := 24) hx hb hts hin_X12 hown hK hP (37) (by decide) hob rfl 0 (by decide) hw_0 (fun _ h9 => h9) rfl dX12_count_33 ?_
    refine lv_iload_n hx hb dX12_count_36 rfl (lv_at hl 2 rfl) ?_
    refine x_iald (f := S) hx hb hK hP (38) (by decide) hs0 (by omega) (by omega) (by decide) dX12_count_37 ?_
    have hb_1 := hok.1 (wh)
    refine x_retP hx hb hr (by omega) ?_ dX12_count_38 hlocks
    unfold zCount
    repeat first | rw [if_pos (by omega)] | rw [if_neg (by omega)]
    rw [c_3]
  · refine x_tabIn (z := 1) (tgt := 32) hx hb c_3 (by decide) dX12_count_3 (by decide) (by decide) rfl (by decide) ?_
    refine lv_aload_n hx hb dX12_count_32 rfl (lv_at hl 1 rfl) ?_
    refine x_get (C := RX12) (T := TX12) (N := 24) hx hb hts hin_X12 hown hK hP (37) (by decide) hob rfl 0 (by decide) hw_0 (fun _ h9 => h9) rfl dX12_count_33 ?_
    refine lv_iload_n hx hb dX12_count_36 rfl (lv_at hl 2 rfl) ?_
    refine x_iald (f := S) hx hb hK hP (38) (by decide) hs0 (by omega) (by omega) (by decide) dX12_count_37 ?_
    have hb_2 := hok.1 (wh)
    refine x_retP hx hb hr (by omega) ?_ dX12_count_38 hlocks
    unfold zCount
    repeat first | rw [if_pos (by omega)] | rw [if_neg (by omega)]
    rw [c_3]
  · refine x_tabIn (z := 2) (tgt := 39) hx hb c_3 (by decide) dX12_count_3 (by decide) (by decide) rfl (by decide) ?_
    refine lv_aload_n hx hb dX12_count_39 rfl (lv_at hl 1 rfl) ?_
    refine x_ci (va_runV (As := []) (rest := []) ⟨hx, hb, hml, hown, hts⟩ (c_X12_coins l g σ (ov) S hob hs0 hok ) (cwV 0 hts gX12_count_X12_coins rfl rfl rfl (by decide +kernel) ⟨Nat.le_of_ble_eq_true rfl, Nat.le_of_ble_eq_true rfl⟩) (x_preV hK hP (x_recv hK hP (i := 37) (by decide) hob rfl)) rfl rfl hl.1 rfl (lv_room (Nat.le_of_ble_eq_true rfl)) dX12_count_40 ⟨Nat.le_of_ble_eq_true rfl, Nat.le_of_ble_eq_true rfl⟩) (fun r_40 hr_40 qr_40 => ?_)
    replace qr_40 : r_40 = zSum (mP S) (S 0).toNat ∧ 0 ≤ r_40 ∧ r_40 ≤ 99999 := qr_40
    refine x_retP hx hb hr (by omega) ?_ dX12_count_43 hlocks
    unfold zCount
    repeat first | rw [if_pos (by omega)] | rw [if_neg (by omega)]
    omega
  · refine x_tabIn (z := 3) (tgt := 44) hx hb c_3 (by decide) dX12_count_3 (by decide) (by decide) rfl (by decide) ?_
    refine x_iconst hx hb dX12_count_44 ?_
    refine lv_istore_n (lv' := [(3, .int (iI (0))), (2, .int (iI (0))), (0, .ref (g.2.2 37)), (1, .int (iI (wh)))]) hx hb dX12_count_45 rfl hl (by decide) rfl (fun ls hl => ?_)
    have hloop_46 : ∀ (k : Nat) (i : Int) (all : Int), (S 0 - i).toNat < k → (hi0 : 0 ≤ i) → (hin : i ≤ S 0) → (hall : all = zSum (fun i => if zBr (mK S) (mF S) (mP S) (S 0) (S 1) i = 0 then 1 else 0) i.toNat) → (hrng : 0 ≤ all ∧ all ≤ i) → ∀ (ls : Array Slot), lv_has ls 4 [(3, .int (iI (i))), (2, .int (iI (all))), (0, .ref (g.2.2 37)), (1, .int (iI (wh)))] → W p l e (headSpec wsX12_count ({ frames := 6, cells := 0, slots := 0, locals := 192 })).room s m ([.ref (g.2.2 37), .int (iI (wh))] : List Value).toArray below meth c s.heap [] 0 0 (MQ below (x_Si (fun r => r = zCount (mK S) (mF S) (mP S) (S 0) (S 1) wh)) ([.ref (g.2.2 37), .int (iI (wh))] : List Value).toArray s (0) (0) (fun _ => False)) (F0 m 46 ls []) := by
      intro k
      induction k with
      | zero =>
        intros; exact absurd (by assumption) (Nat.not_lt_zero _)
      | succ k ih =>
        intro i all hmeas hi0 hin hall hrng  ls hl
        have ih_3 := ih
        refine lv_iload_n hx hb dX12_count_46 rfl (lv_at hl 0 rfl) ?_
        refine lv_aload_n hx hb dX12_count_47 rfl (lv_at hl 2 rfl) ?_
        refine x_get (C := RX12) (T := TX12) (N := 24) hx hb hts hin_X12 hown hK hP (37) (by decide) hob rfl 0 (by decide) hw_0 (fun _ h9 => h9) rfl dX12_count_48 ?_
        refine x_iconst hx hb dX12_count_51 ?_
        refine x_iald (f := S) hx hb hK hP (38) (by decide) hs0 (by omega) (by omega) (by decide) dX12_count_52 ?_
        have hb_4 := hok.1 (0)
        refine x_icmp_ge (tgt := 78) hx hb (by omega) (by omega) dX12_count_53 (by decide) (fun c_53 => ?_) (fun c_53 => ?_)
        · refine lv_iload_n hx hb dX12_count_78 rfl (lv_at hl 1 rfl) ?_
          refine x_retP hx hb hr (by omega) ?_ dX12_count_79 hlocks
          unfold zCount
          repeat first | rw [if_pos (by omega)] | rw [if_neg (by omega)]
          unfold zNone
          have e : (S 0).toNat = i.toNat := by omega
          rw [e]; exact hall
        · refine lv_iload_n hx hb dX12_count_56 rfl (lv_at hl 1 rfl) ?_
          refine lv_aload_n hx hb dX12_count_57 rfl (lv_at hl 2 rfl) ?_
          refine lv_iload_n hx hb dX12_count_58 rfl (lv_at hl 0 rfl) ?_
          refine x_ci (va_runV (As := [.int (iI (i))]) (rest := [.int (iI (all))]) ⟨hx, hb, hml, hown, hts⟩ (c_X12_breachesOf l g σ (ov) S hob hs0 hok (i) (by omega)) (cwV 1 hts gX12_count_X12_breachesOf rfl rfl rfl (by decide +kernel) ⟨Nat.le_of_ble_eq_true rfl, Nat.le_of_ble_eq_true rfl⟩) (x_preV hK hP (x_recv hK hP (i := 37) (by decide) hob rfl)) rfl rfl hl.1 rfl (lv_room (Nat.le_of_ble_eq_true rfl)) dX12_count_59 ⟨Nat.le_of_ble_eq_true rfl, Nat.le_of_ble_eq_true rfl⟩) (fun r_59 hr_59 qr_59 => ?_)
          replace qr_59 : r_59 = zBr (mK S) (mF S) (mP S) (S 0) (S 1) (i) ∧ 0 ≤ r_59 ∧ r_59 ≤ 2 := qr_59
          refine x_if_ne (tgt := 69) hx hb (by omega) dX12_count_62 (by decide) (fun c_62 => ?_) (fun c_62 => ?_)
          · refine x_iconst hx hb dX12_count_69 ?_
            refine x_iadd hx hb dX12_count_70 ?_
            refine lv_istore_n (lv' := [(2, .int (iI (all + 0))), (3, .int (iI (i))), (0, .ref (g.2.2 37)), (1, .int (iI (wh)))]) hx hb dX12_count_71 rfl hl (by decide) rfl (fun ls hl => ?_)
            refine x_iinc (k0 := 1) (lv' := [(3, .int (iI (i + 1))), (2, .int (iI (all + 0))), (0, .ref (g.2.2 37)), (1, .int (iI (wh)))]) hx hb dX12_count_72 hl rfl (by decide) rfl (fun ls hl => ?_)
            refine lv_goto (tgt := 46) hx hb dX12_count_75 (by decide) ?_
            exact ih_3 (i + 1) (all + 0) (by omega) (by omega) (by omega) (by rw [zSum_succ _ hi0, ← hall]; simp only [← qr_59.1]; first | (rw [if_pos (by omega)]; done) | (rw [if_neg (by omega)]; done)) (by omega) ls (lv_sub hl [0, 1, 2, 3] rfl)
          · refine x_iconst hx hb dX12_count_65 ?_
            refine lv_goto (tgt := 70) hx hb dX12_count_66 (by decide) ?_
            refine x_iadd hx hb dX12_count_70 ?_
            refine lv_istore_n (lv' := [(2, .int (iI (all + 1))), (3, .int (iI (i))), (0, .ref (g.2.2 37)), (1, .int (iI (wh)))]) hx hb dX12_count_71 rfl hl (by decide) rfl (fun ls hl => ?_)
            refine x_iinc (k0 := 1) (lv' := [(3, .int (iI (i + 1))), (2, .int (iI (all + 1))), (0, .ref (g.2.2 37)), (1, .int (iI (wh)))]) hx hb dX12_count_72 hl rfl (by decide) rfl (fun ls hl => ?_)
            refine lv_goto (tgt := 46) hx hb dX12_count_75 (by decide) ?_
            exact ih_3 (i + 1) (all + 1) (by omega) (by omega) (by omega) (by rw [zSum_succ _ hi0, ← hall]; simp only [← qr_59.1]; first | (rw [if_pos (by omega)]; done) | (rw [if_neg (by omega)]; done)) (by omega) ls (lv_sub hl [0, 1, 2, 3] rfl)
    exact hloop_46 (((S 0 - (0)).toNat) + 1) (0) (0) (by omega) (by omega) (by omega) (by rfl) (by omega) ls (lv_sub hl [0, 1, 2, 3] rfl)
  · refine x_tabOut (tgt := 80) hx hb (by omega) dX12_count_3 (by omega) (by decide) ?_
    refine x_iconst hx hb dX12_count_80 ?_
    refine x_retP hx hb hr (by omega) ?_ dX12_count_81 hlocks
    unfold zCount
    repeat first | rw [if_pos (by omega)] | rw [if_neg (by omega)]

set_option maxHeartbeats 4000000 in
set_option maxRecDepth 100000 in
theorem c_X12_tax (l : Launch) (g : xG) (σ : xS) (ov : Nat → Int) (S : Int → Int) (hob : MObj g σ.1 ov) (hs0 : MArr g σ.1 38 29 S) (hok : SmOk S) (lv : Int) (hlv : inR lv) : Met l yX12_tax wsX12_tax ({ frames := 3, cells := 0, slots := 0, locals := 96 }) (va_Pc [.ref (g.2.2 37), .int (iI (lv))] (xPre g σ)) (x_Si (fun r => r = zTax (mP S) (S 0) lv)) (0) (0) (fun _ => False) := by
  refine Met.ofW (cc := cX12_tax) (maxL := 4) (ret := (some .int)) (by decide) rfl ?_
  intro p e s m args below meth c s₁ B hml hv
  obtain ⟨rfl, hP, hK⟩ := hv
  have hx := B.exec
  have hb := B.bytes
  have hr := B.returns
  have hts := atoms_spec (ws := wsX12_tax) B.pre
  have hown : s.vm.findClass RX12 = some m.cls := findClass_of_methodNamed B.named
  have hlocks := B.notSynchronized
  have hl := lv_entry ([.ref (g.2.2 37), .int (iI (lv))]) (n := 4) (Nat.le_of_ble_eq_true rfl)
  rw [lg_entry_eq]
  generalize (lg_sl ([.ref (g.2.2 37), .int (iI (lv))]) ++ List.replicate (4 - (lg_sl ([.ref (g.2.2 37), .int (iI (lv))])).length) Slot.unset).toArray = ls at hl ⊢
  have hl : lv_has ls 4 [(0, .ref (g.2.2 37)), (1, .int (iI (lv)))] := hl
  have hn0 := hok.2.1
  have hrd0 := hok.2.2.1
  have hw_0 := hts (.constantLong RX12 173 (9999)) (by decide +kernel)
  have hw_1 := hts (.fieldLink RX12 9 "TwiceAsRichModel" "s" "[I") (by decide +kernel)
  have hin_X12 : ∀ w ∈ wsX120, w ∈ wsX12_tax := by decide +kernel
  refine lv_iload_n hx hb dX12_tax_0 rfl (lv_at hl 1 rfl) ?_
  refine x_i2l hx hb (by omega) dX12_tax_1 ?_
  refine x_lconst (z := 0) hx hb (by decide +kernel) dX12_tax_2 ?_
  refine x_ldc2 (z := 9999) hx hb hown hw_0 (by decide +kernel) dX12_tax_3 ?_
  refine x_ci (va_runS (As := [.long (jL (lv)), .long (jL (0)), .long (jL (9999))]) (rest := []) ⟨hx, hb, hml, hown, hts⟩ (c_X12_isIn l g σ (lv) (by omega) (0) (by omega) (9999) (by omega)) (va_cwS 3 hts gX12_tax_X12_isIn rfl rfl rfl (by decide +kernel) ⟨Nat.le_of_ble_eq_true rfl, Nat.le_of_ble_eq_true rfl⟩) (x_preS hK hP) rfl rfl hl.1 rfl (lv_room (Nat.le_of_ble_eq_true rfl)) dX12_tax_6 ⟨Nat.le_of_ble_eq_true rfl, Nat.le_of_ble_eq_true rfl⟩) (fun r_6 hr_6 qr_6 => ?_)
  replace qr_6 : (r_6 = 1 ∧ (0) ≤ (lv) ∧ (lv) ≤ (9999)) ∨ (r_6 = 0 ∧ ¬ ((0) ≤ (lv) ∧ (lv) ≤ (9999))) := qr_6
  refine x_if_ne (tgt := 14) hx hb (by omega) dX12_tax_9 (by decide) (fun c_9 => ?_) (fun c_9 => ?_)
  · refine x_iconst hx hb dX12_tax_14 ?_
    refine lv_istore_n (lv' := [(2, .int (iI (0))), (0, .ref (g.2.2 37)), (1, .int (iI (lv)))]) hx hb dX12_tax_15 rfl hl (by decide) rfl (fun ls hl => ?_)
    refine x_iconst hx hb dX12_tax_16 ?_
    refine lv_istore_n (lv' := [(3, .int (iI (0))), (2, .int (iI (0))), (0, .ref (g.2.2 37)), (1, .int (iI (lv)))]) hx hb dX12_tax_17 rfl hl (by decide) rfl (fun ls hl => ?_)
    have hloop_18 : ∀ (k : Nat) (i : Int) (all : Int), (S 0 - i).toNat < k → (hi0 : 0 ≤ i) → (hin : i ≤ S 0) → (hall : all = zSum (fun i => min (mP S i) lv) i.toNat) → (hrng : 0 ≤ all ∧ all ≤ 9999 * i) → ∀ (ls : Array Slot), lv_has ls 4 [(3, .int (iI (i))), (2, .int (iI (all))), (0, .ref (g.2.2 37)), (1, .int (iI (lv)))] → W p l e (headSpec wsX12_tax ({ frames := 3, cells := 0, slots := 0, locals := 96 })).room s m ([.ref (g.2.2 37), .int (iI (lv))] : List Value).toArray below meth c s.heap [] 0 0 (MQ below (x_Si (fun r => r = zTax (mP S) (S 0) lv)) ([.ref (g.2.2 37), .int (iI (lv))] : List Value).toArray s (0) (0) (fun _ => False)) (F0 m 18 ls []) := by
      intro k
      induction k with
      | zero =>
        intros; exact absurd (by assumption) (Nat.not_lt_zero _)
      | succ k ih =>
        intro i all hmeas hi0 hin hall hrng  ls hl
        have ih_1 := ih
        refine lv_iload_n hx hb dX12_tax_18 rfl (lv_at hl 0 rfl) ?_
        refine lv_aload_n hx hb dX12_tax_19 rfl (lv_at hl 2 rfl) ?_
        refine x_get (C := RX12) (T := TX12) (N := 24) hx hb hts hin_X12 hown hK hP (37) (by decide) hob rfl 0 (by decide) hw_1 (fun _ h9 => h9) rfl dX12_tax_20 ?_
        refine x_iconst hx hb dX12_tax_23 ?_
        refine x_iald (f := S) hx hb hK hP (38) (by decide) hs0 (by omega) (by omega) (by decide) dX12_tax_24 ?_
        have hb_2 := hok.1 (0)
        refine x_icmp_ge (tgt := 55) hx hb (by omega) (by omega) dX12_tax_25 (by decide) (fun c_25 => ?_) (fun c_25 => ?_)
        · refine lv_iload_n hx hb dX12_tax_55 rfl (lv_at hl 1 rfl) ?_
          refine x_retP hx hb hr (by omega) ?_ dX12_tax_56 hlocks
          unfold zTax
          repeat first | rw [if_pos (by omega)] | rw [if_neg (by omega)]
          have e : (S 0).toNat = i.toNat := by omega
          rw [e]; exact hall
        · refine lv_iload_n hx hb dX12_tax_28 rfl (lv_at hl 1 rfl) ?_
          refine lv_aload_n hx hb dX12_tax_29 rfl (lv_at hl 2 rfl) ?_
          refine lv_iload_n hx hb dX12_tax_30 rfl (lv_at hl 0 rfl) ?_
          refine x_ci (va_runV (As := [.int (iI (i))]) (rest := [.int (iI (all))]) ⟨hx, hb, hml, hown, hts⟩ (c_X12_purse l g σ (ov) S hob hs0 hok.1 (i) (by omega)) (cwV 1 hts gX12_tax_X12_purse rfl rfl rfl (by decide +kernel) ⟨Nat.le_of_ble_eq_true rfl, Nat.le_of_ble_eq_true rfl⟩) (x_preV hK hP (x_recv hK hP (i := 37) (by decide) hob rfl)) rfl rfl hl.1 rfl (lv_room (Nat.le_of_ble_eq_true rfl)) dX12_tax_31 ⟨Nat.le_of_ble_eq_true rfl, Nat.le_of_ble_eq_true rfl⟩) (fun r_31 hr_31 qr_31 => ?_)
          replace qr_31 : r_31 = S (2 + 3 * (i) + 2) := qr_31
          have hq9 := hok.2.2.2 i hi0 (by omega)
          refine lv_iload_n hx hb dX12_tax_34 rfl (lv_at hl 3 rfl) ?_
          refine x_icmp_ge (tgt := 46) hx hb (by omega) (by omega) dX12_tax_35 (by decide) (fun c_35 => ?_) (fun c_35 => ?_)
          · refine lv_iload_n hx hb dX12_tax_46 rfl (lv_at hl 3 rfl) ?_
            refine x_iadd hx hb dX12_tax_47 ?_
            refine lv_istore_n (lv' := [(2, .int (iI (all + lv))), (3, .int (iI (i))), (0, .ref (g.2.2 37)), (1, .int (iI (lv)))]) hx hb dX12_tax_48 rfl hl (by decide) rfl (fun ls hl => ?_)
            refine x_iinc (k0 := 1) (lv' := [(3, .int (iI (i + 1))), (2, .int (iI (all + lv))), (0, .ref (g.2.2 37)), (1, .int (iI (lv)))]) hx hb dX12_tax_49 hl rfl (by decide) rfl (fun ls hl => ?_)
            refine lv_goto (tgt := 18) hx hb dX12_tax_52 (by decide) ?_
            exact ih_1 (i + 1) (all + lv) (by omega) (by omega) (by omega) (by rw [zSum_succ _ hi0, ← hall]; unfold mP; omega) (by omega) ls (lv_sub hl [0, 1, 2, 3] rfl)
          · refine lv_aload_n hx hb dX12_tax_38 rfl (lv_at hl 2 rfl) ?_
            refine lv_iload_n hx hb dX12_tax_39 rfl (lv_at hl 0 rfl) ?_
            refine x_ci (va_runV (As := [.int (iI (i))]) (rest := [.int (iI (all))]) ⟨hx, hb, hml, hown, hts⟩ (c_X12_purse l g σ (ov) S hob hs0 hok.1 (i) (by omega)) (cwV 1 hts gX12_tax_X12_purse rfl rfl rfl (by decide +kernel) ⟨Nat.le_of_ble_eq_true rfl, Nat.le_of_ble_eq_true rfl⟩) (x_preV hK hP (x_recv hK hP (i := 37) (by decide) hob rfl)) rfl rfl hl.1 rfl (lv_room (Nat.le_of_ble_eq_true rfl)) dX12_tax_40 ⟨Nat.le_of_ble_eq_true rfl, Nat.le_of_ble_eq_true rfl⟩) (fun r_40 hr_40 qr_40 => ?_)
            replace qr_40 : r_40 = S (2 + 3 * (i) + 2) := qr_40
            refine lv_goto (tgt := 47) hx hb dX12_tax_43 (by decide) ?_
            refine x_iadd hx hb dX12_tax_47 ?_
            refine lv_istore_n (lv' := [(2, .int (iI (all + r_40))), (3, .int (iI (i))), (0, .ref (g.2.2 37)), (1, .int (iI (lv)))]) hx hb dX12_tax_48 rfl hl (by decide) rfl (fun ls hl => ?_)
            refine x_iinc (k0 := 1) (lv' := [(3, .int (iI (i + 1))), (2, .int (iI (all + r_40))), (0, .ref (g.2.2 37)), (1, .int (iI (lv)))]) hx hb dX12_tax_49 hl rfl (by decide) rfl (fun ls hl => ?_)
            refine lv_goto (tgt := 18) hx hb dX12_tax_52 (by decide) ?_
            exact ih_1 (i + 1) (all + r_40) (by omega) (by omega) (by omega) (by rw [zSum_succ _ hi0, ← hall]; unfold mP; omega) (by omega) ls (lv_sub hl [0, 1, 2, 3] rfl)
    exact hloop_18 (((S 0 - (0)).toNat) + 1) (0) (0) (by omega) (by omega) (by omega) (by rfl) (by omega) ls (lv_sub hl [0, 1, 2, 3] rfl)
  · refine x_iconst hx hb dX12_tax_12 ?_
    refine x_retP hx hb hr (by omega) ?_ dX12_tax_13 hlocks
    unfold zTax
    repeat first | rw [if_pos (by omega)] | rw [if_neg (by omega)]

set_option maxHeartbeats 4000000 in
set_option maxRecDepth 100000 in
theorem c_X12_fee (l : Launch) (g : xG) (σ : xS) (ov : Nat → Int) (S : Int → Int) (hob : MObj g σ.1 ov) (hs0 : MArr g σ.1 38 29 S) (hok : SmOk S) (Kp So Sz El KK KF : Int → Int) (h42 : MArr g σ.1 42 8 Kp) (h43 : MArr g σ.1 43 8 So) (h44 : MArr g σ.1 44 8 Sz) (h45 : MArr g σ.1 45 800 El) (h46 : MArr g σ.1 46 8 KK) (h47 : MArr g σ.1 47 8 KF) (hsh : ShOk Kp So Sz El KK KF) (d : Int) (hd : inR d) : Met l yX12_fee wsX12_fee ({ frames := 4, cells := 0, slots := 0, locals := 128 }) (va_Pc [.ref (g.2.2 37), .int (iI (d))] (xPre g σ)) (x_Si (fun r => r = (if zKeptR Kp d ≠ 0 then zKeptR Kp d else zFee (KK d).toNat (KF d)))) (0) (0) (fun _ => False) := by
  refine Met.ofW (cc := cX12_fee) (maxL := 3) (ret := (some .int)) (by decide) rfl ?_
  intro p e s m args below meth c s₁ B hml hv
  obtain ⟨rfl, hP, hK⟩ := hv
  have hx := B.exec
  have hb := B.bytes
  have hr := B.returns
  have hts := atoms_spec (ws := wsX12_fee) B.pre
  have hown : s.vm.findClass RX12 = some m.cls := findClass_of_methodNamed B.named
  have hlocks := B.notSynchronized
  have hl := lv_entry ([.ref (g.2.2 37), .int (iI (d))]) (n := 3) (Nat.le_of_ble_eq_true rfl)
  rw [lg_entry_eq]
  generalize (lg_sl ([.ref (g.2.2 37), .int (iI (d))]) ++ List.replicate (3 - (lg_sl ([.ref (g.2.2 37), .int (iI (d))])).length) Slot.unset).toArray = ls at hl ⊢
  have hl : lv_has ls 3 [(0, .ref (g.2.2 37)), (1, .int (iI (d)))] := hl
  have hn0 := hok.2.1
  have hrd0 := hok.2.2.1
  have hw_0 := hts (.fieldLink RX12 34 "TwiceAsRichModel" "keptKind" "[I") (by decide +kernel)
  have hin_X12 : ∀ w ∈ wsX120, w ∈ wsX12_fee := by decide +kernel
  have hw_2 := hts (.fieldLink RX12 37 "TwiceAsRichModel" "keptFigure" "[I") (by decide +kernel)
  refine lv_aload_n hx hb dX12_fee_0 rfl (lv_at hl 0 rfl) ?_
  refine lv_iload_n hx hb dX12_fee_1 rfl (lv_at hl 1 rfl) ?_
  refine x_ci (va_runV (As := [.int (iI (d))]) (rest := []) ⟨hx, hb, hml, hown, hts⟩ (c_X12_wrongKept l g σ (ov) S hob hs0 hok Kp So Sz El KK KF h42 h43 h44 h45 h46 h47 hsh (d) (by omega)) (cwV 1 hts gX12_fee_X12_wrongKept rfl rfl rfl (by decide +kernel) ⟨Nat.le_of_ble_eq_true rfl, Nat.le_of_ble_eq_true rfl⟩) (x_preV hK hP (x_recv hK hP (i := 37) (by decide) hob rfl)) rfl rfl hl.1 rfl (lv_room (Nat.le_of_ble_eq_true rfl)) dX12_fee_2 ⟨Nat.le_of_ble_eq_true rfl, Nat.le_of_ble_eq_true rfl⟩) (fun r_2 hr_2 qr_2 => ?_)
  replace qr_2 : r_2 = zKeptR Kp (d) := qr_2
  refine lv_istore_n (lv' := [(2, .int (iI (r_2))), (0, .ref (g.2.2 37)), (1, .int (iI (d)))]) hx hb dX12_fee_5 rfl hl (by decide) rfl (fun ls hl => ?_)
  refine lv_iload_n hx hb dX12_fee_6 rfl (lv_at hl 0 rfl) ?_
  refine x_if_eq (tgt := 14) hx hb (by omega) dX12_fee_7 (by decide) (fun c_7 => ?_) (fun c_7 => ?_)
  · have hk0 := zKeptR_0 qr_2 (by omega)
    have hsd := hsh.2.2.2.2.2.2 d hk0.1 hk0.2.1
    refine lv_aload_n hx hb dX12_fee_14 rfl (lv_at hl 1 rfl) ?_
    refine x_get (C := RX12) (T := TX12) (N := 24) hx hb hts hin_X12 hown hK hP (37) (by decide) hob rfl 8 (by decide) hw_0 (fun _ h9 => h9) rfl dX12_fee_15 ?_
    refine lv_iload_n hx hb dX12_fee_18 rfl (lv_at hl 2 rfl) ?_
    refine x_iald (f := KK) hx hb hK hP (46) (by decide) h46 (by omega) (by omega) (by decide) dX12_fee_19 ?_
    have hb_1 := hsh.2.2.2.2.1 (d)
    refine lv_aload_n hx hb dX12_fee_20 rfl (lv_at hl 1 rfl) ?_
    refine x_get (C := RX12) (T := TX12) (N := 24) hx hb hts hin_X12 hown hK hP (37) (by decide) hob rfl 9 (by decide) hw_2 (fun _ h9 => h9) rfl dX12_fee_21 ?_
    refine lv_iload_n hx hb dX12_fee_24 rfl (lv_at hl 2 rfl) ?_
    refine x_iald (f := KF) hx hb hK hP (47) (by decide) h47 (by omega) (by omega) (by decide) dX12_fee_25 ?_
    have hb_2 := hsh.2.2.2.2.2.1 (d)
    refine x_ci (va_runS (As := [.int (iI (KK (d))), .int (iI (KF (d)))]) (rest := []) ⟨hx, hb, hml, hown, hts⟩ (c_X12_feeBy l g σ (KK (d)) (by omega) (KF (d)) (by omega)) (va_cwS 2 hts gX12_fee_X12_feeBy rfl rfl rfl (by decide +kernel) ⟨Nat.le_of_ble_eq_true rfl, Nat.le_of_ble_eq_true rfl⟩) (x_preS hK hP) rfl rfl hl.1 rfl (lv_room (Nat.le_of_ble_eq_true rfl)) dX12_fee_26 ⟨Nat.le_of_ble_eq_true rfl, Nat.le_of_ble_eq_true rfl⟩) (fun r_26 hr_26 qr_26 => ?_)
    replace qr_26 : r_26 = zFee ((KK (d))).toNat (KF (d)) := qr_26
    have br_26 := zFee_rng ((KK (d))).toNat (f := (KF (d))) (by omega); rw [← qr_26] at br_26
    refine x_retP hx hb hr (by omega) ?_ dX12_fee_29 hlocks
    repeat first | rw [if_pos (by omega)] | rw [if_neg (by omega)]
    omega
  · refine lv_iload_n hx hb dX12_fee_10 rfl (lv_at hl 0 rfl) ?_
    refine lv_goto (tgt := 29) hx hb dX12_fee_11 (by decide) ?_
    refine x_retP hx hb hr (by omega) ?_ dX12_fee_29 hlocks
    repeat first | rw [if_pos (by omega)] | rw [if_neg (by omega)]
    omega

set_option maxHeartbeats 4000000 in
set_option maxRecDepth 100000 in
theorem c_X12_toss (l : Launch) (g : xG) (σ : xS) (ov : Nat → Int) (S : Int → Int) (hob : MObj g σ.1 ov) (hs0 : MArr g σ.1 38 29 S) (hok : SmOk S) (Kp So Sz El KK KF : Int → Int) (h42 : MArr g σ.1 42 8 Kp) (h43 : MArr g σ.1 43 8 So) (h44 : MArr g σ.1 44 8 Sz) (h45 : MArr g σ.1 45 800 El) (h46 : MArr g σ.1 46 8 KK) (h47 : MArr g σ.1 47 8 KF) (hsh : ShOk Kp So Sz El KK KF) (d : Int) (hd : inR d) : Met l yX12_toss wsX12_toss ({ frames := 4, cells := 0, slots := 0, locals := 128 }) (va_Pc [.ref (g.2.2 37), .int (iI (d))] (xPre g σ)) (x_Si (fun r => r = (if zKeptR Kp d ≠ 0 then zKeptR Kp d else zTossF (KK d) (KF d)))) (0) (0) (fun _ => False) := by
  refine Met.ofW (cc := cX12_toss) (maxL := 5) (ret := (some .int)) (by decide) rfl ?_
  intro p e s m args below meth c s₁ B hml hv
  obtain ⟨rfl, hP, hK⟩ := hv
  have hx := B.exec
  have hb := B.bytes
  have hr := B.returns
  have hts := atoms_spec (ws := wsX12_toss) B.pre
  have hown : s.vm.findClass RX12 = some m.cls := findClass_of_methodNamed B.named
  have hlocks := B.notSynchronized
  have hl := lv_entry ([.ref (g.2.2 37), .int (iI (d))]) (n := 5) (Nat.le_of_ble_eq_true rfl)
  rw [lg_entry_eq]
  generalize (lg_sl ([.ref (g.2.2 37), .int (iI (d))]) ++ List.replicate (5 - (lg_sl ([.ref (g.2.2 37), .int (iI (d))])).length) Slot.unset).toArray = ls at hl ⊢
  have hl : lv_has ls 5 [(0, .ref (g.2.2 37)), (1, .int (iI (d)))] := hl
  have hn0 := hok.2.1
  have hrd0 := hok.2.2.1
  have hw_0 := hts (.fieldLink RX12 34 "TwiceAsRichModel" "keptKind" "[I") (by decide +kernel)
  have hin_X12 : ∀ w ∈ wsX120, w ∈ wsX12_toss := by decide +kernel
  have hw_2 := hts (.fieldLink RX12 37 "TwiceAsRichModel" "keptFigure" "[I") (by decide +kernel)
  refine lv_aload_n hx hb dX12_toss_0 rfl (lv_at hl 0 rfl) ?_
  refine lv_iload_n hx hb dX12_toss_1 rfl (lv_at hl 1 rfl) ?_
  refine x_ci (va_runV (As := [.int (iI (d))]) (rest := []) ⟨hx, hb, hml, hown, hts⟩ (c_X12_wrongKept l g σ (ov) S hob hs0 hok Kp So Sz El KK KF h42 h43 h44 h45 h46 h47 hsh (d) (by omega)) (cwV 1 hts gX12_toss_X12_wrongKept rfl rfl rfl (by decide +kernel) ⟨Nat.le_of_ble_eq_true rfl, Nat.le_of_ble_eq_true rfl⟩) (x_preV hK hP (x_recv hK hP (i := 37) (by decide) hob rfl)) rfl rfl hl.1 rfl (lv_room (Nat.le_of_ble_eq_true rfl)) dX12_toss_2 ⟨Nat.le_of_ble_eq_true rfl, Nat.le_of_ble_eq_true rfl⟩) (fun r_2 hr_2 qr_2 => ?_)
  replace qr_2 : r_2 = zKeptR Kp (d) := qr_2
  refine lv_istore_n (lv' := [(2, .int (iI (r_2))), (0, .ref (g.2.2 37)), (1, .int (iI (d)))]) hx hb dX12_toss_5 rfl hl (by decide) rfl (fun ls hl => ?_)
  refine lv_iload_n hx hb dX12_toss_6 rfl (lv_at hl 0 rfl) ?_
  refine x_if_eq (tgt := 12) hx hb (by omega) dX12_toss_7 (by decide) (fun c_7 => ?_) (fun c_7 => ?_)
  · have hk0 := zKeptR_0 qr_2 (by omega)
    have hsd := hsh.2.2.2.2.2.2 d hk0.1 hk0.2.1
    refine lv_aload_n hx hb dX12_toss_12 rfl (lv_at hl 1 rfl) ?_
    refine x_get (C := RX12) (T := TX12) (N := 24) hx hb hts hin_X12 hown hK hP (37) (by decide) hob rfl 8 (by decide) hw_0 (fun _ h9 => h9) rfl dX12_toss_13 ?_
    refine lv_iload_n hx hb dX12_toss_16 rfl (lv_at hl 2 rfl) ?_
    refine x_iald (f := KK) hx hb hK hP (46) (by decide) h46 (by omega) (by omega) (by decide) dX12_toss_17 ?_
    have hb_1 := hsh.2.2.2.2.1 (d)
    refine lv_istore_n (lv' := [(3, .int (iI (KK (d)))), (2, .int (iI (r_2))), (0, .ref (g.2.2 37)), (1, .int (iI (d)))]) hx hb dX12_toss_18 rfl hl (by decide) rfl (fun ls hl => ?_)
    refine lv_aload_n hx hb dX12_toss_19 rfl (lv_at hl 2 rfl) ?_
    refine x_get (C := RX12) (T := TX12) (N := 24) hx hb hts hin_X12 hown hK hP (37) (by decide) hob rfl 9 (by decide) hw_2 (fun _ h9 => h9) rfl dX12_toss_20 ?_
    refine lv_iload_n hx hb dX12_toss_23 rfl (lv_at hl 3 rfl) ?_
    refine x_iald (f := KF) hx hb hK hP (47) (by decide) h47 (by omega) (by omega) (by decide) dX12_toss_24 ?_
    have hb_2 := hsh.2.2.2.2.2.1 (d)
    refine lv_istore (lv' := [(4, .int (iI (KF (d)))), (3, .int (iI (KK (d)))), (2, .int (iI (r_2))), (0, .ref (g.2.2 37)), (1, .int (iI (d)))]) hx hb dX12_toss_25 hl (by decide) rfl (fun ls hl => ?_)
    refine lv_iload_n hx hb dX12_toss_27 rfl (lv_at hl 1 rfl) ?_
    refine x_iconst hx hb dX12_toss_28 ?_
    refine x_icmp_eq (tgt := 37) hx hb (by omega) (by omega) dX12_toss_29 (by decide) (fun c_29 => ?_) (fun c_29 => ?_)
    · refine x_bipush (n := -15) hx hb (by decide +kernel) dX12_toss_37 ?_
      refine lv_goto (tgt := 76) hx hb dX12_toss_39 (by decide) ?_
      refine x_retP hx hb hr (by omega) ?_ dX12_toss_76 hlocks
      repeat first | rw [if_pos (by omega)] | rw [if_neg (by omega)]
      unfold zTossF
      repeat first | rw [if_pos (by omega)] | rw [if_neg (by omega)]
      try (have e6 : (KK d).toNat = 6 := by omega); try rw [qr_67, e6]
    · refine lv_iload hx hb dX12_toss_32 (lv_at hl 0 rfl) ?_
      refine x_if_ne (tgt := 42) hx hb (by omega) dX12_toss_34 (by decide) (fun c_34 => ?_) (fun c_34 => ?_)
      · refine lv_iload_n hx hb dX12_toss_42 rfl (lv_at hl 1 rfl) ?_
        refine x_iconst hx hb dX12_toss_43 ?_
        refine x_icmp_ne (tgt := 55) hx hb (by omega) (by omega) dX12_toss_44 (by decide) (fun c_44 => ?_) (fun c_44 => ?_)
        · refine lv_iload_n hx hb dX12_toss_55 rfl (lv_at hl 1 rfl) ?_
          refine x_bipush (n := 6) hx hb (by decide +kernel) dX12_toss_56 ?_
          refine x_icmp_ne (tgt := 74) hx hb (by omega) (by omega) dX12_toss_58 (by decide) (fun c_58 => ?_) (fun c_58 => ?_)
          · refine lv_iload hx hb dX12_toss_74 (lv_at hl 0 rfl) ?_
            refine x_retP hx hb hr (by omega) ?_ dX12_toss_76 hlocks
            repeat first | rw [if_pos (by omega)] | rw [if_neg (by omega)]
            unfold zTossF
            repeat first | rw [if_pos (by omega)] | rw [if_neg (by omega)]
            try (have e6 : (KK d).toNat = 6 := by omega); try rw [qr_67, e6]
          · refine x_sipush (n := 200) hx hb (by decide +kernel) dX12_toss_61 ?_
            refine lv_iload_n hx hb dX12_toss_64 rfl (lv_at hl 1 rfl) ?_
            refine lv_iload hx hb dX12_toss_65 (lv_at hl 0 rfl) ?_
            refine x_ci (va_runS (As := [.int (iI (KK (d))), .int (iI (KF (d)))]) (rest := [.int (iI (200))]) ⟨hx, hb, hml, hown, hts⟩ (c_X12_feeBy l g σ (KK (d)) (by omega) (KF (d)) (by omega)) (va_cwS 2 hts gX12_toss_X12_feeBy rfl rfl rfl (by decide +kernel) ⟨Nat.le_of_ble_eq_true rfl, Nat.le_of_ble_eq_true rfl⟩) (x_preS hK hP) rfl rfl hl.1 rfl (lv_room (Nat.le_of_ble_eq_true rfl)) dX12_toss_67 ⟨Nat.le_of_ble_eq_true rfl, Nat.le_of_ble_eq_true rfl⟩) (fun r_67 hr_67 qr_67 => ?_)
            replace qr_67 : r_67 = zFee ((KK (d))).toNat (KF (d)) := qr_67
            have br_67 := zFee_rng ((KK (d))).toNat (f := (KF (d))) (by omega); rw [← qr_67] at br_67
            refine x_iadd hx hb dX12_toss_70 ?_
            refine lv_goto (tgt := 76) hx hb dX12_toss_71 (by decide) ?_
            refine x_retP hx hb hr (by omega) ?_ dX12_toss_76 hlocks
            repeat first | rw [if_pos (by omega)] | rw [if_neg (by omega)]
            unfold zTossF
            repeat first | rw [if_pos (by omega)] | rw [if_neg (by omega)]
            try (have e6 : (KK d).toNat = 6 := by omega); try rw [qr_67, e6]
        · refine x_bipush (n := 100) hx hb (by decide +kernel) dX12_toss_47 ?_
          refine lv_iload hx hb dX12_toss_49 (lv_at hl 0 rfl) ?_
          refine x_iadd hx hb dX12_toss_51 ?_
          refine lv_goto (tgt := 76) hx hb dX12_toss_52 (by decide) ?_
          refine x_retP hx hb hr (by omega) ?_ dX12_toss_76 hlocks
          repeat first | rw [if_pos (by omega)] | rw [if_neg (by omega)]
          unfold zTossF
          repeat first | rw [if_pos (by omega)] | rw [if_neg (by omega)]
          try (have e6 : (KK d).toNat = 6 := by omega); try rw [qr_67, e6]
      · refine x_bipush (n := -15) hx hb (by decide +kernel) dX12_toss_37 ?_
        refine lv_goto (tgt := 76) hx hb dX12_toss_39 (by decide) ?_
        refine x_retP hx hb hr (by omega) ?_ dX12_toss_76 hlocks
        repeat first | rw [if_pos (by omega)] | rw [if_neg (by omega)]
        unfold zTossF
        repeat first | rw [if_pos (by omega)] | rw [if_neg (by omega)]
        try (have e6 : (KK d).toNat = 6 := by omega); try rw [qr_67, e6]
  · refine lv_iload_n hx hb dX12_toss_10 rfl (lv_at hl 0 rfl) ?_
    refine x_retP hx hb hr (by omega) ?_ dX12_toss_11 hlocks
    repeat first | rw [if_pos (by omega)] | rw [if_neg (by omega)]
    omega

set_option maxHeartbeats 4000000 in
set_option maxRecDepth 100000 in
theorem c_X12_house (l : Launch) (g : xG) (σ : xS) (ov : Nat → Int) (S : Int → Int) (hob : MObj g σ.1 ov) (hs0 : MArr g σ.1 38 29 S) (hok : SmOk S) (h : Int) (hh : inR h) (wh : Int) (hw : inR wh) : Met l yX12_house wsX12_house ({ frames := 5, cells := 0, slots := 0, locals := 160 }) (va_Pc [.ref (g.2.2 37), .int (iI (h)), .int (iI (wh))] (xPre g σ)) (x_Si (fun r => r = zHouse (mK S) (mF S) (mP S) (S 0) (S 1) h wh)) (0) (0) (fun _ => False) := by
  refine Met.ofW (cc := cX12_house) (maxL := 3) (ret := (some .int)) (by decide) rfl ?_
  intro p e s m args below meth c s₁ B hml hv
  obtain ⟨rfl, hP, hK⟩ := hv
  have hx := B.exec
  have hb := B.bytes
  have hr := B.returns
  have hts := atoms_spec (ws := wsX12_house) B.pre
  have hown : s.vm.findClass RX12 = some m.cls := findClass_of_methodNamed B.named
  have hlocks := B.notSynchronized
  have hl := lv_entry ([.ref (g.2.2 37), .int (iI (h)), .int (iI (wh))]) (n := 3) (Nat.le_of_ble_eq_true rfl)
  rw [lg_entry_eq]
  generalize (lg_sl ([.ref (g.2.2 37), .int (iI (h)), .int (iI (wh))]) ++ List.replicate (3 - (lg_sl ([.ref (g.2.2 37), .int (iI (h)), .int (iI (wh))])).length) Slot.unset).toArray = ls at hl ⊢
  have hl : lv_has ls 3 [(0, .ref (g.2.2 37)), (1, .int (iI (h))), (2, .int (iI (wh)))] := hl
  have hn0 := hok.2.1
  have hrd0 := hok.2.2.1
  refine lv_aload_n hx hb dX12_house_0 rfl (lv_at hl 0 rfl) ?_
  refine lv_iload_n hx hb dX12_house_1 rfl (lv_at hl 1 rfl) ?_
  refine x_ci (va_runV (As := [.int (iI (h))]) (rest := []) ⟨hx, hb, hml, hown, hts⟩ (c_X12_isHouse l g σ (ov) S hob hs0 hok (h) (by omega)) (cwV 1 hts gX12_house_X12_isHouse rfl rfl rfl (by decide +kernel) ⟨Nat.le_of_ble_eq_true rfl, Nat.le_of_ble_eq_true rfl⟩) (x_preV hK hP (x_recv hK hP (i := 37) (by decide) hob rfl)) rfl rfl hl.1 rfl (lv_room (Nat.le_of_ble_eq_true rfl)) dX12_house_2 ⟨Nat.le_of_ble_eq_true rfl, Nat.le_of_ble_eq_true rfl⟩) (fun r_2 hr_2 qr_2 => ?_)
  replace qr_2 : (r_2 = 1 ∧ 0 ≤ (h) ∧ (h) < S 0) ∨ (r_2 = 0 ∧ ¬ (0 ≤ (h) ∧ (h) < S 0)) := qr_2
  refine x_if_ne (tgt := 10) hx hb (by omega) dX12_house_5 (by decide) (fun c_5 => ?_) (fun c_5 => ?_)
  · have hok0 := hok.2.2.2 h (by omega) (by omega)
    refine lv_iload_n hx hb dX12_house_10 rfl (lv_at hl 2 rfl) ?_
    have c_11 : wh = 0 ∨ wh = 1 ∨ wh = 2 ∨ wh = 3 ∨ wh = 4 ∨ wh = 5 ∨ (wh ≠ 0 ∧ wh ≠ 1 ∧ wh ≠ 2 ∧ wh ≠ 3 ∧ wh ≠ 4 ∧ wh ≠ 5) := by omega
    rcases c_11 with c_11 | c_11 | c_11 | c_11 | c_11 | c_11 | c_11
    · refine x_tabIn (z := 0) (tgt := 48) hx hb c_11 (by decide) dX12_house_11 (by decide) (by decide) rfl (by decide) ?_
      refine lv_aload_n hx hb dX12_house_48 rfl (lv_at hl 0 rfl) ?_
      refine lv_iload_n hx hb dX12_house_49 rfl (lv_at hl 1 rfl) ?_
      refine lv_iload_n hx hb dX12_house_50 rfl (lv_at hl 2 rfl) ?_
      refine x_ci (va_runV (As := [.int (iI (h)), .int (iI (wh))]) (rest := []) ⟨hx, hb, hml, hown, hts⟩ (c_X12_get l g σ (ov) S hob hs0 hok.1 (h) (by omega) (wh) (by omega)) (cwV 2 hts gX12_house_X12_get rfl rfl rfl (by decide +kernel) ⟨Nat.le_of_ble_eq_true rfl, Nat.le_of_ble_eq_true rfl⟩) (x_preV hK hP (x_recv hK hP (i := 37) (by decide) hob rfl)) rfl rfl hl.1 rfl (lv_room (Nat.le_of_ble_eq_true rfl)) dX12_house_51 ⟨Nat.le_of_ble_eq_true rfl, Nat.le_of_ble_eq_true rfl⟩) (fun r_51 hr_51 qr_51 => ?_)
      replace qr_51 : r_51 = S (2 + 3 * (h) + (wh)) := qr_51
      refine x_retP hx hb hr (by omega) ?_ dX12_house_54 hlocks
      unfold zHouse
      repeat first | rw [if_pos (by omega)] | rw [if_neg (by omega)]
      rw [c_11] at qr_51
      first | exact qr_51 | (unfold mK; omega)
    · refine x_tabIn (z := 1) (tgt := 48) hx hb c_11 (by decide) dX12_house_11 (by decide) (by decide) rfl (by decide) ?_
      refine lv_aload_n hx hb dX12_house_48 rfl (lv_at hl 0 rfl) ?_
      refine lv_iload_n hx hb dX12_house_49 rfl (lv_at hl 1 rfl) ?_
      refine lv_iload_n hx hb dX12_house_50 rfl (lv_at hl 2 rfl) ?_
      refine x_ci (va_runV (As := [.int (iI (h)), .int (iI (wh))]) (rest := []) ⟨hx, hb, hml, hown, hts⟩ (c_X12_get l g σ (ov) S hob hs0 hok.1 (h) (by omega) (wh) (by omega)) (cwV 2 hts gX12_house_X12_get rfl rfl rfl (by decide +kernel) ⟨Nat.le_of_ble_eq_true rfl, Nat.le_of_ble_eq_true rfl⟩) (x_preV hK hP (x_recv hK hP (i := 37) (by decide) hob rfl)) rfl rfl hl.1 rfl (lv_room (Nat.le_of_ble_eq_true rfl)) dX12_house_51 ⟨Nat.le_of_ble_eq_true rfl, Nat.le_of_ble_eq_true rfl⟩) (fun r_51 hr_51 qr_51 => ?_)
      replace qr_51 : r_51 = S (2 + 3 * (h) + (wh)) := qr_51
      refine x_retP hx hb hr (by omega) ?_ dX12_house_54 hlocks
      unfold zHouse
      repeat first | rw [if_pos (by omega)] | rw [if_neg (by omega)]
      rw [c_11] at qr_51
      first | exact qr_51 | (unfold mK; omega)
    · refine x_tabIn (z := 2) (tgt := 48) hx hb c_11 (by decide) dX12_house_11 (by decide) (by decide) rfl (by decide) ?_
      refine lv_aload_n hx hb dX12_house_48 rfl (lv_at hl 0 rfl) ?_
      refine lv_iload_n hx hb dX12_house_49 rfl (lv_at hl 1 rfl) ?_
      refine lv_iload_n hx hb dX12_house_50 rfl (lv_at hl 2 rfl) ?_
      refine x_ci (va_runV (As := [.int (iI (h)), .int (iI (wh))]) (rest := []) ⟨hx, hb, hml, hown, hts⟩ (c_X12_get l g σ (ov) S hob hs0 hok.1 (h) (by omega) (wh) (by omega)) (cwV 2 hts gX12_house_X12_get rfl rfl rfl (by decide +kernel) ⟨Nat.le_of_ble_eq_true rfl, Nat.le_of_ble_eq_true rfl⟩) (x_preV hK hP (x_recv hK hP (i := 37) (by decide) hob rfl)) rfl rfl hl.1 rfl (lv_room (Nat.le_of_ble_eq_true rfl)) dX12_house_51 ⟨Nat.le_of_ble_eq_true rfl, Nat.le_of_ble_eq_true rfl⟩) (fun r_51 hr_51 qr_51 => ?_)
      replace qr_51 : r_51 = S (2 + 3 * (h) + (wh)) := qr_51
      refine x_retP hx hb hr (by omega) ?_ dX12_house_54 hlocks
      unfold zHouse
      repeat first | rw [if_pos (by omega)] | rw [if_neg (by omega)]
      rw [c_11] at qr_51
      first | exact qr_51 | (unfold mK; omega)
    · refine x_tabIn (z := 3) (tgt := 55) hx hb c_11 (by decide) dX12_house_11 (by decide) (by decide) rfl (by decide) ?_
      refine lv_aload_n hx hb dX12_house_55 rfl (lv_at hl 0 rfl) ?_
      refine lv_iload_n hx hb dX12_house_56 rfl (lv_at hl 1 rfl) ?_
      refine x_ci (va_runV (As := [.int (iI (h))]) (rest := []) ⟨hx, hb, hml, hown, hts⟩ (c_X12_isLookedAt l g σ (ov) S hob hs0 hok (h) (by omega)) (cwV 1 hts gX12_house_X12_isLookedAt rfl rfl rfl (by decide +kernel) ⟨Nat.le_of_ble_eq_true rfl, Nat.le_of_ble_eq_true rfl⟩) (x_preV hK hP (x_recv hK hP (i := 37) (by decide) hob rfl)) rfl rfl hl.1 rfl (lv_room (Nat.le_of_ble_eq_true rfl)) dX12_house_57 ⟨Nat.le_of_ble_eq_true rfl, Nat.le_of_ble_eq_true rfl⟩) (fun r_57 hr_57 qr_57 => ?_)
      replace qr_57 : (r_57 = 1 ∧ mK S (h) ≠ 3) ∨ (r_57 = 0 ∧ mK S (h) = 3) := qr_57
      refine x_if_eq (tgt := 71) hx hb (by omega) dX12_house_60 (by decide) (fun c_60 => ?_) (fun c_60 => ?_)
      · refine x_bipush (n := -4) hx hb (by decide +kernel) dX12_house_71 ?_
        refine x_retP hx hb hr (by omega) ?_ dX12_house_73 hlocks
        unfold zHouse
        repeat first | rw [if_pos (by omega)] | rw [if_neg (by omega)]
        try omega
      · refine lv_aload_n hx hb dX12_house_63 rfl (lv_at hl 0 rfl) ?_
        refine lv_iload_n hx hb dX12_house_64 rfl (lv_at hl 1 rfl) ?_
        refine x_ci (va_runV (As := [.int (iI (h))]) (rest := []) ⟨hx, hb, hml, hown, hts⟩ (c_X12_shows l g σ (ov) S hob hs0 hok (h) (by omega)) (cwV 1 hts gX12_house_X12_shows rfl rfl rfl (by decide +kernel) ⟨Nat.le_of_ble_eq_true rfl, Nat.le_of_ble_eq_true rfl⟩) (x_preV hK hP (x_recv hK hP (i := 37) (by decide) hob rfl)) rfl rfl hl.1 rfl (lv_room (Nat.le_of_ble_eq_true rfl)) dX12_house_65 ⟨Nat.le_of_ble_eq_true rfl, Nat.le_of_ble_eq_true rfl⟩) (fun r_65 hr_65 qr_65 => ?_)
        replace qr_65 : r_65 = zShown (mK S (h)) (mF S (h)) (mP S (h)) ∧ 0 ≤ r_65 ∧ r_65 ≤ 10008 := qr_65
        refine lv_goto (tgt := 73) hx hb dX12_house_68 (by decide) ?_
        refine x_retP hx hb hr (by omega) ?_ dX12_house_73 hlocks
        unfold zHouse
        repeat first | rw [if_pos (by omega)] | rw [if_neg (by omega)]
        try omega
    · refine x_tabIn (z := 4) (tgt := 74) hx hb c_11 (by decide) dX12_house_11 (by decide) (by decide) rfl (by decide) ?_
      refine lv_aload_n hx hb dX12_house_74 rfl (lv_at hl 0 rfl) ?_
      refine lv_iload_n hx hb dX12_house_75 rfl (lv_at hl 1 rfl) ?_
      refine x_ci (va_runV (As := [.int (iI (h))]) (rest := []) ⟨hx, hb, hml, hown, hts⟩ (c_X12_mostOf l g σ (ov) S hob hs0 hok (h) (by omega)) (cwV 1 hts gX12_house_X12_mostOf rfl rfl rfl (by decide +kernel) ⟨Nat.le_of_ble_eq_true rfl, Nat.le_of_ble_eq_true rfl⟩) (x_preV hK hP (x_recv hK hP (i := 37) (by decide) hob rfl)) rfl rfl hl.1 rfl (lv_room (Nat.le_of_ble_eq_true rfl)) dX12_house_76 ⟨Nat.le_of_ble_eq_true rfl, Nat.le_of_ble_eq_true rfl⟩) (fun r_76 hr_76 qr_76 => ?_)
      replace qr_76 : r_76 = zMost (mK S) (mF S) (mP S) (S 0) (S 1) (h) ∧ 0 ≤ r_76 ∧ r_76 ≤ 9999 := qr_76
      refine x_retP hx hb hr (by omega) ?_ dX12_house_79 hlocks
      unfold zHouse
      repeat first | rw [if_pos (by omega)] | rw [if_neg (by omega)]
      try omega
    · refine x_tabIn (z := 5) (tgt := 80) hx hb c_11 (by decide) dX12_house_11 (by decide) (by decide) rfl (by decide) ?_
      refine lv_aload_n hx hb dX12_house_80 rfl (lv_at hl 0 rfl) ?_
      refine lv_iload_n hx hb dX12_house_81 rfl (lv_at hl 1 rfl) ?_
      refine x_ci (va_runV (As := [.int (iI (h))]) (rest := []) ⟨hx, hb, hml, hown, hts⟩ (c_X12_kind l g σ (ov) S hob hs0 hok.1 (h) (by omega)) (cwV 1 hts gX12_house_X12_kind rfl rfl rfl (by decide +kernel) ⟨Nat.le_of_ble_eq_true rfl, Nat.le_of_ble_eq_true rfl⟩) (x_preV hK hP (x_recv hK hP (i := 37) (by decide) hob rfl)) rfl rfl hl.1 rfl (lv_room (Nat.le_of_ble_eq_true rfl)) dX12_house_82 ⟨Nat.le_of_ble_eq_true rfl, Nat.le_of_ble_eq_true rfl⟩) (fun r_82 hr_82 qr_82 => ?_)
      replace qr_82 : r_82 = S (2 + 3 * (h) + 0) := qr_82
      refine lv_aload_n hx hb dX12_house_85 rfl (lv_at hl 0 rfl) ?_
      refine lv_iload_n hx hb dX12_house_86 rfl (lv_at hl 1 rfl) ?_
      refine x_ci (va_runV (As := [.int (iI (h))]) (rest := [.int (iI (r_82))]) ⟨hx, hb, hml, hown, hts⟩ (c_X12_figure l g σ (ov) S hob hs0 hok.1 (h) (by omega)) (cwV 1 hts gX12_house_X12_figure rfl rfl rfl (by decide +kernel) ⟨Nat.le_of_ble_eq_true rfl, Nat.le_of_ble_eq_true rfl⟩) (x_preV hK hP (x_recv hK hP (i := 37) (by decide) hob rfl)) rfl rfl hl.1 rfl (lv_room (Nat.le_of_ble_eq_true rfl)) dX12_house_87 ⟨Nat.le_of_ble_eq_true rfl, Nat.le_of_ble_eq_true rfl⟩) (fun r_87 hr_87 qr_87 => ?_)
      replace qr_87 : r_87 = S (2 + 3 * (h) + 1) := qr_87
      refine x_ci (va_runS (As := [.int (iI (r_82)), .int (iI (r_87))]) (rest := []) ⟨hx, hb, hml, hown, hts⟩ (c_X12_earnsBy l g σ (r_82) (by omega) (r_87) (by omega)) (va_cwS 2 hts gX12_house_X12_earnsBy rfl rfl rfl (by decide +kernel) ⟨Nat.le_of_ble_eq_true rfl, Nat.le_of_ble_eq_true rfl⟩) (x_preS hK hP) rfl rfl hl.1 rfl (lv_room (Nat.le_of_ble_eq_true rfl)) dX12_house_90 ⟨Nat.le_of_ble_eq_true rfl, Nat.le_of_ble_eq_true rfl⟩) (fun r_90 hr_90 qr_90 => ?_)
      replace qr_90 : r_90 = zWeek ((r_82)).toNat (r_87) := qr_90
      have br_90 := zWeek_rng ((r_82)).toNat (f := (r_87)) (by omega); rw [← qr_90] at br_90
      refine x_retP hx hb hr (by omega) ?_ dX12_house_93 hlocks
      unfold zHouse
      repeat first | rw [if_pos (by omega)] | rw [if_neg (by omega)]
      rw [qr_90, qr_82, qr_87]; rfl
    · refine x_tabOut (tgt := 94) hx hb (by omega) dX12_house_11 (by omega) (by decide) ?_
      refine x_iconst hx hb dX12_house_94 ?_
      refine x_retP hx hb hr (by omega) ?_ dX12_house_95 hlocks
      unfold zHouse
      repeat first | rw [if_pos (by omega)] | rw [if_neg (by omega)]
  · refine x_iconst hx hb dX12_house_8 ?_
    refine x_retP hx hb hr (by omega) ?_ dX12_house_9 hlocks
    unfold zHouse
    repeat first | rw [if_pos (by omega)] | rw [if_neg (by omega)]
