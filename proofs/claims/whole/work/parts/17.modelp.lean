/-! partings, gone through -/
abbrev zAcc := Int × Int × Int × Int × Int
def zMin9 (P : Int → Int) : Nat → Int
  | 0 => 9999
  | k + 1 => if P (k : Int) < zMin9 P k then P (k : Int) else zMin9 P k
def zMax0 (P : Int → Int) : Nat → Int
  | 0 => 0
  | k + 1 => if zMax0 P k < P (k : Int) then P (k : Int) else zMax0 P k
def zCar (W P : Int → Int) (k : Nat) : Int := zSum (fun i => W i - P i) k
def zAbs (a : Int) : Int := if a < 0 then -a else a
def zHnd (W P : Int → Int) (k : Nat) : Int := zSum (fun i => zAbs (zCar W P (i + 1).toNat)) k
def zAnS (W P : Int → Int) (k : Nat) : Int := zSum (fun i => if P i < W i then W i - P i else 0) k
def zApt (P : Int → Int) (n : Int) : Int := if n = 0 then 0 else zMax0 P n.toNat - zMin9 P n.toNat
def zGt (a b : Int) : Int := if a < b then b else a
def zFw (a b : Int) : Int := if a < 0 ∨ b < a then b else a
def zMo (o n a b : Int) : Int := if (0 ≤ o ∧ o < n) ∧ a < b then b else a
def zNote (K : Int → Nat) (F W : Int → Int) (n rd o : Int) (P : Int → Int) (q : zAcc) : zAcc := if zAll K F P n rd ≠ 0 then q else (q.1 + 1, zGt q.2.1 (zApt P n), zMo o n q.2.2.1 (P o), zFw q.2.2.2.1 (zHnd W P n.toNat), zFw q.2.2.2.2 (zAnS W P n.toNat))
def zFold {α : Type} (f : Int → α → α) (a : Int) (q : α) : Nat → α
  | 0 => q
  | k + 1 => f (a + (k : Int)) (zFold f a q k)
theorem zFold_succ {α : Type} (f : Int → α → α) (q : α) {a p : Int} (h : a ≤ p) : zFold f a q (p + 1 - a).toNat = f p (zFold f a q (p - a).toNat) := by
  have e : (p + 1 - a).toNat = (p - a).toNat + 1 := by omega
  have e2 : a + (((p - a).toNat : Nat) : Int) = p := by omega
  rw [e]
  show f (a + (((p - a).toNat : Nat) : Int)) _ = _
  rw [e2]
theorem zFold_0 {α : Type} (f : Int → α → α) (q : α) {a p : Int} (h : p ≤ a) : zFold f a q (p - a).toNat = q := by
  have e : (p - a).toNat = 0 := by omega
  rw [e]; rfl
theorem zFold_congr {α : Type} {f f2 : Int → α → α} {a : Int} {q : α} (k : Nat) (h : ∀ p, a ≤ p → p < a + k → ∀ q, f p q = f2 p q) : zFold f a q k = zFold f2 a q k := by
  induction k with
  | zero => rfl
  | succ k ih =>
    show f (a + (k : Int)) (zFold f a q k) = f2 (a + (k : Int)) (zFold f2 a q k)
    rw [ih (fun p h1 h2 q => h p h1 (by omega) q), h _ (by omega) (by omega)]
theorem zFold_ind {α : Type} {f : Int → α → α} {a : Int} {q : α} (C : α → Prop) (k : Nat) (h0 : C q) (h : ∀ p, a ≤ p → p < a + k → ∀ q, C q → C (f p q)) : C (zFold f a q k) := by
  induction k with
  | zero => exact h0
  | succ k ih => exact h _ (by omega) (by omega) _ (ih (fun p h1 h2 q => h p h1 (by omega) q))
def zLst (b left : Int) : Int := if b = 0 ∧ 0 < left then left else 1
def zParts (N : (Int → Int) → zAcc → zAcc) : Nat → Int → Int → (Int → Int) → zAcc → zAcc
  | 0, _, left, P, q => if left = 0 then N P q else q
  | k + 1, h, left, P, q => zFold (fun p q => zParts N k (h + 1) (left - p) (upI P h p) q) (zLst (k : Int) left) q (left - (k : Int) + 1 - zLst (k : Int) left).toNat
theorem zParts_step (N : (Int → Int) → zAcc → zAcc) {n h : Int} (left : Int) (P : Int → Int) (q : zAcc) (hh : h < n) : zParts N (n - h).toNat h left P q = zFold (fun p q => zParts N (n - (h + 1)).toNat (h + 1) (left - p) (upI P h p) q) (zLst (n - 1 - h) left) q (left - (n - 1 - h) + 1 - zLst (n - 1 - h) left).toNat := by
  have e : (n - h).toNat = (n - (h + 1)).toNat + 1 := by omega
  have e2 : (((n - (h + 1)).toNat : Nat) : Int) = n - 1 - h := by omega
  rw [e]
  show zFold (fun p q => zParts N (n - (h + 1)).toNat (h + 1) (left - p) (upI P h p) q) (zLst (((n - (h + 1)).toNat : Nat) : Int) left) q (left - (((n - (h + 1)).toNat : Nat) : Int) + 1 - zLst (((n - (h + 1)).toNat : Nat) : Int) left).toNat = _
  rw [e2]
theorem zParts_end (N : (Int → Int) → zAcc → zAcc) {n h : Int} (left : Int) (P : Int → Int) (q : zAcc) (hh : n ≤ h) : zParts N (n - h).toNat h left P q = if left = 0 then N P q else q := by
  have e : (n - h).toNat = 0 := by omega
  rw [e]; rfl
/-- all that is looked at is purses below n -/
def zLocal (N N2 : (Int → Int) → zAcc → zAcc) (n : Int) : Prop := ∀ P P2 q, (∀ i, 0 ≤ i → i < n → P i = P2 i) → N P q = N2 P2 q
theorem zParts_congr {N N2 : (Int → Int) → zAcc → zAcc} {n : Int} (hN : zLocal N N2 n) : ∀ (k : Nat) (h left : Int) (P P2 : Int → Int) (q : zAcc), h + k = n → (∀ i, 0 ≤ i → i < h → P i = P2 i) → zParts N k h left P q = zParts N2 k h left P2 q
  | 0, h, left, P, P2, q, hk, e => by
    show (if left = 0 then N P q else q) = (if left = 0 then N2 P2 q else q)
    rw [hN P P2 q (fun i h1 h2 => e i h1 (by omega))]
  | k + 1, h, left, P, P2, q, hk, e => by
    show zFold _ _ _ _ = zFold _ _ _ _
    refine zFold_congr _ (fun p _ _ q => zParts_congr hN k (h + 1) _ _ _ _ (by omega) (fun i h1 h2 => ?_))
    unfold upI
    by_cases ei : i = h
    · rw [if_pos ei, if_pos ei]
    · rw [if_neg ei, if_neg ei]; exact e i h1 (by omega)
theorem zMin9_congr {P P2 : Int → Int} (k : Nat) (e : ∀ i : Int, 0 ≤ i → i < k → P i = P2 i) : zMin9 P k = zMin9 P2 k := by
  induction k with
  | zero => rfl
  | succ k ih =>
    show (if P (k : Int) < zMin9 P k then P (k : Int) else zMin9 P k) = _
    rw [ih (fun i h1 h2 => e i h1 (by omega)), e k (by omega) (by omega)]; rfl
theorem zMax0_congr {P P2 : Int → Int} (k : Nat) (e : ∀ i : Int, 0 ≤ i → i < k → P i = P2 i) : zMax0 P k = zMax0 P2 k := by
  induction k with
  | zero => rfl
  | succ k ih =>
    show (if zMax0 P k < P (k : Int) then P (k : Int) else zMax0 P k) = _
    rw [ih (fun i h1 h2 => e i h1 (by omega)), e k (by omega) (by omega)]; rfl
theorem zNote_local {K : Int → Nat} {F W W2 : Int → Int} {n rd o : Int} (hW : ∀ i, 0 ≤ i → i < n → W i = W2 i) : zLocal (zNote K F W n rd o) (zNote K F W2 n rd o) n := by
  intro P P2 q e
  have e1 : zAll K F P n rd = zAll K F P2 n rd := zAll_congr (fun i h1 h2 => ⟨rfl, rfl, e i h1 h2⟩)
  have e2 : zApt P n = zApt P2 n := by
    unfold zApt; rw [zMax0_congr n.toNat (fun i h1 h2 => e i h1 (by omega)), zMin9_congr n.toNat (fun i h1 h2 => e i h1 (by omega))]
  have ec : ∀ i : Int, 0 ≤ i → i < n → zCar W P (i + 1).toNat = zCar W2 P2 (i + 1).toNat := fun i h1 h2 => zSum_cong _ _ _ (fun j h3 h4 => by simp only [hW j h3 (by omega), e j h3 (by omega)])
  have e3 : zHnd W P n.toNat = zHnd W2 P2 n.toNat := zSum_cong _ _ _ (fun i h1 h2 => by simp only [ec i h1 (by omega)])
  have e4 : zAnS W P n.toNat = zAnS W2 P2 n.toNat := zSum_cong _ _ _ (fun i h1 h2 => by simp only [hW i h1 (by omega), e i h1 (by omega)])
  have e5 : ∀ a : Int, zMo o n a (P o) = zMo o n a (P2 o) := fun a => by
    unfold zMo
    by_cases ho : 0 ≤ o ∧ o < n
    · rw [e o ho.1 ho.2]
    · rw [if_neg (fun h => ho h.1), if_neg (fun h => ho h.1)]
  unfold zNote
  rw [e1, e2, e3, e4, e5]
def zAccOk (q : zAcc) : Prop := (-4 ≤ q.2.1 ∧ q.2.1 ≤ 9999) ∧ (-4 ≤ q.2.2.1 ∧ q.2.2.1 ≤ 9999) ∧ (-4 ≤ q.2.2.2.1 ∧ q.2.2.2.1 ≤ 10000000) ∧ (-4 ≤ q.2.2.2.2 ∧ q.2.2.2.2 ≤ 10000000)
def zAc (ov : Nat → Int) : zAcc := (ov 17, ov 18, ov 19, ov 20, ov 21)
def zPart (K : Int → Nat) (F P : Int → Int) (n rd o c : Int) : zAcc := zParts (zNote K F P n rd o) n.toNat 0 c P (0, -4, -4, -4, -4)
def zWp (n c : Int) : Int := if ¬ (0 ≤ c ∧ c ≤ 20) then -1 else if 6 < n then -3 else 0
theorem zMin9_succ (P : Int → Int) {k : Int} (h : 0 ≤ k) : zMin9 P (k + 1).toNat = if P k < zMin9 P k.toNat then P k else zMin9 P k.toNat := by
  have e : (k + 1).toNat = k.toNat + 1 := by omega
  rw [e]
  show (if P ((k.toNat : Nat) : Int) < zMin9 P k.toNat then P ((k.toNat : Nat) : Int) else zMin9 P k.toNat) = _
  rw [Int.toNat_of_nonneg h]
theorem zMax0_succ (P : Int → Int) {k : Int} (h : 0 ≤ k) : zMax0 P (k + 1).toNat = if zMax0 P k.toNat < P k then P k else zMax0 P k.toNat := by
  have e : (k + 1).toNat = k.toNat + 1 := by omega
  rw [e]
  show (if zMax0 P k.toNat < P ((k.toNat : Nat) : Int) then P ((k.toNat : Nat) : Int) else zMax0 P k.toNat) = _
  rw [Int.toNat_of_nonneg h]
def zSam (S T : Int → Int) (h : Int) : Prop := T 0 = S 0 ∧ T 1 = S 1 ∧ mK T = mK S ∧ mF T = mF S ∧ ∀ i, 0 ≤ i → i < h → mP T i = mP S i

set_option maxHeartbeats 4000000 in
set_option maxRecDepth 100000 in
theorem c_X12_partsAre (l : Launch) (g : xG) (σ : xS) (A : Nat → Prop) (ov : Nat → Int) (S : Int → Int) (hob : MObj g σ.1 ov) (hs0 : MArr g σ.1 38 29 S) (hok : SmOk S) (Wz : Int → Int) (h49 : MArr g σ.1 49 8 Wz) (hW : ∀ i, 0 ≤ i → i < S 0 → 0 ≤ Wz i ∧ Wz i ≤ 9999) (hn6 : S 0 ≤ 6) (o : Int) (ho : inR o) (hAc : zAccOk (zAc ov)) : Met l yX12_partsAre wsX12_partsAre ({ frames := 8, cells := 0, slots := 0, locals := 256 }) (va_Pc [.ref (g.2.2 37), .int (iI (o))] (xPreQ g A σ)) (x_Qv g A (fun σ1 => σ1.2 = σ.2 ∧ (∀ j, j ≠ 37 → σ1.1 j = σ.1 j) ∧ ∃ ov2, MObj g σ1.1 ov2 ∧ zAc ov2 = zNote (mK S) (mF S) Wz (S 0) (S 1) o (mP S) (zAc ov) ∧ zAccOk (zAc ov2) ∧ ov2 10 = ov 10)) (0) (0) A := by
  refine Met.ofW (cc := cX12_partsAre) (maxL := 9) (ret := none) (by decide) rfl ?_
  intro p e s m args below meth c s₁ B hml hv
  obtain ⟨rfl, hP, hK, hD, hA⟩ := hv
  have hx := B.exec
  have hb := B.bytes
  have hr := B.returns
  have hts := atoms_spec (ws := wsX12_partsAre) B.pre
  have hown : s.vm.findClass RX12 = some m.cls := findClass_of_methodNamed B.named
  have hlocks := B.notSynchronized
  have hS : va_S A s.heap s.heap [] := va_S.rf
  have hfr : ∀ j, (j ≠ 37) → σ.1 j = σ.1 j := fun _ _ => rfl
  have hl := lv_entry ([.ref (g.2.2 37), .int (iI (o))]) (n := 9) (Nat.le_of_ble_eq_true rfl)
  rw [lg_entry_eq]
  generalize (lg_sl ([.ref (g.2.2 37), .int (iI (o))]) ++ List.replicate (9 - (lg_sl ([.ref (g.2.2 37), .int (iI (o))])).length) Slot.unset).toArray = ls at hl ⊢
  have hl : lv_has ls 9 [(0, .ref (g.2.2 37)), (1, .int (iI (o)))] := hl
  have hn0 := hok.2.1
  have hrd0 := hok.2.2.1
  have hw_0 := hts (.fieldLink RX12 186 "TwiceAsRichModel" "ways" "I") (by decide +kernel)
  have hin_X12 : ∀ w ∈ wsX120, w ∈ wsX12_partsAre := by decide +kernel
  have hw_2 := hts (.fieldLink RX12 9 "TwiceAsRichModel" "s" "[I") (by decide +kernel)
  have hw_3 := hts (.fieldLink RX12 198 "TwiceAsRichModel" "fewestAny" "I") (by decide +kernel)
  have hw_4 := hts (.fieldLink RX12 195 "TwiceAsRichModel" "fewestHands" "I") (by decide +kernel)
  have hw_5 := hts (.fieldLink RX12 192 "TwiceAsRichModel" "most" "I") (by decide +kernel)
  have hw_6 := hts (.fieldLink RX12 189 "TwiceAsRichModel" "uneven" "I") (by decide +kernel)
  have hw_7 := hts (.fieldLink RX12 43 "TwiceAsRichModel" "was" "[I") (by decide +kernel)
  refine lv_aload_n hx hb dX12_partsAre_0 rfl (lv_at hl 0 rfl) ?_
  refine x_ci (va_runV (As := []) (rest := []) ⟨hx, hb, hml, hown, hts⟩ (c_X12_isLawful l g σ (ov) S hob hs0 hok ) (cwV 0 hts gX12_partsAre_X12_isLawful rfl rfl rfl (by decide +kernel) ⟨Nat.le_of_ble_eq_true rfl, Nat.le_of_ble_eq_true rfl⟩) (x_preV hK hP (x_recv hK hP (i := 37) (by decide) hob rfl)) rfl rfl hl.1 rfl (lv_room (Nat.le_of_ble_eq_true rfl)) dX12_partsAre_1 ⟨Nat.le_of_ble_eq_true rfl, Nat.le_of_ble_eq_true rfl⟩) (fun r_1 hr_1 qr_1 => ?_)
  replace qr_1 : (r_1 = 1 ∧ zAll (mK S) (mF S) (mP S) (S 0) (S 1) = 0) ∨ (r_1 = 0 ∧ zAll (mK S) (mF S) (mP S) (S 0) (S 1) ≠ 0) := qr_1
  refine x_if_ne (tgt := 8) hx hb (by omega) dX12_partsAre_4 (by decide) (fun c_4 => ?_) (fun c_4 => ?_)
  · refine lv_aload_n hx hb dX12_partsAre_8 rfl (lv_at hl 0 rfl) ?_
    refine lv_dup hx hb dX12_partsAre_9 rfl ?_
    refine x_get (C := RX12) (T := TX12) (N := 24) hx hb hts hin_X12 hown hK hP (37) (by decide) hob rfl 17 (by decide) hw_0 (fun _ h9 => h9) rfl dX12_partsAre_10 ?_
    refine x_iconst hx hb dX12_partsAre_13 ?_
    refine x_iadd hx hb dX12_partsAre_14 ?_
    refine x_put (C := RX12) (T := TX12) (N := 24) (ty := .int) hx hb hts hin_X12 hown hK hP hD hS (37) (by decide) hob rfl tyX12 tyX12_ok nmX12 17 (by decide) hw_0 (fun _ h9 => h9) rfl (by decide +kernel) rfl rfl (Nat.le_of_ble_eq_true rfl) dX12_partsAre_15 (fun M_1 H locs hnew hne hP hD hS => ?_)
    obtain ⟨ov_2, hov_2⟩ : ∃ q : Nat → Int, q = va_up (ov) 17 ((ov 17) + 1) := ⟨_, rfl⟩
    have vov_2 : ov_2 17 = (ov 17) + 1 := by rw [hov_2]; rfl
    have nov_2 : ∀ j, j ≠ 17 → ov_2 j = ov j := fun j hj => by rw [hov_2]; exact va_up_ne _ _ hj
    have hnew : MObj g M_1 ov_2 := by rw [hov_2]; exact hnew
    have hP : xP g (M_1, σ.2) H := hP
    have hD : xD g A (M_1, σ.2) := hD
    have hob : MObj g M_1 ov_2 := hnew
    have hs0 := (hne (38) (by decide)).trans hs0
    have h49 := (hne (49) (by decide)).trans h49
    have hfr := x_fr (F := fun j => j ≠ 37) hfr hne (fun j h => by have h : j ≠ 37 := h; omega)
    refine x_sipush (n := 9999) hx hb (by decide +kernel) dX12_partsAre_18 ?_
    refine lv_istore_n (lv' := [(2, .int (iI (9999))), (0, .ref (g.2.2 37)), (1, .int (iI (o)))]) hx hb dX12_partsAre_21 rfl hl (by decide) rfl (fun ls hl => ?_)
    refine x_iconst hx hb dX12_partsAre_22 ?_
    refine lv_istore_n (lv' := [(3, .int (iI (0))), (2, .int (iI (9999))), (0, .ref (g.2.2 37)), (1, .int (iI (o)))]) hx hb dX12_partsAre_23 rfl hl (by decide) rfl (fun ls hl => ?_)
    refine x_iconst hx hb dX12_partsAre_24 ?_
    refine lv_istore (lv' := [(4, .int (iI (0))), (3, .int (iI (0))), (2, .int (iI (9999))), (0, .ref (g.2.2 37)), (1, .int (iI (o)))]) hx hb dX12_partsAre_25 hl (by decide) rfl (fun ls hl => ?_)
    refine x_iconst hx hb dX12_partsAre_27 ?_
    refine lv_istore (lv' := [(5, .int (iI (0))), (4, .int (iI (0))), (3, .int (iI (0))), (2, .int (iI (9999))), (0, .ref (g.2.2 37)), (1, .int (iI (o)))]) hx hb dX12_partsAre_28 hl (by decide) rfl (fun ls hl => ?_)
    refine x_iconst hx hb dX12_partsAre_30 ?_
    refine lv_istore (lv' := [(6, .int (iI (0))), (5, .int (iI (0))), (4, .int (iI (0))), (3, .int (iI (0))), (2, .int (iI (9999))), (0, .ref (g.2.2 37)), (1, .int (iI (o)))]) hx hb dX12_partsAre_31 hl (by decide) rfl (fun ls hl => ?_)
    refine x_iconst hx hb dX12_partsAre_33 ?_
    refine lv_istore (lv' := [(7, .int (iI (0))), (6, .int (iI (0))), (5, .int (iI (0))), (4, .int (iI (0))), (3, .int (iI (0))), (2, .int (iI (9999))), (0, .ref (g.2.2 37)), (1, .int (iI (o)))]) hx hb dX12_partsAre_34 hl (by decide) rfl (fun ls hl => ?_)
    have hloop_36 : ∀ (k : Nat) (i : Int) (lst : Int) (grt : Int) (car : Int) (hnd : Int) (an : Int), (S 0 - i).toNat < k → (hi0 : 0 ≤ i) → (hin : i ≤ S 0) → (e1 : lst = zMin9 (mP S) i.toNat) → (e2 : grt = zMax0 (mP S) i.toNat) → (e3 : car = zCar Wz (mP S) i.toNat) → (e4 : hnd = zHnd Wz (mP S) i.toNat) → (e5 : an = zAnS Wz (mP S) i.toNat) → (hrg : (0 ≤ lst ∧ lst ≤ 9999) ∧ (0 ≤ grt ∧ grt ≤ 9999) ∧ (-9999 * i ≤ car ∧ car ≤ 9999 * i) ∧ (0 ≤ hnd ∧ hnd ≤ 99999 * i) ∧ (0 ≤ an ∧ an ≤ 9999 * i)) → (hlg : S 0 ≠ 0 → i ≠ 0 → lst ≤ grt) → ∀ (ls : Array Slot), lv_has ls 9 [(7, .int (iI (i))), (2, .int (iI (lst))), (3, .int (iI (grt))), (4, .int (iI (car))), (5, .int (iI (hnd))), (6, .int (iI (an))), (0, .ref (g.2.2 37)), (1, .int (iI (o)))] → W p l e (headSpec wsX12_partsAre ({ frames := 8, cells := 0, slots := 0, locals := 256 })).room s m ([.ref (g.2.2 37), .int (iI (o))] : List Value).toArray below meth c H locs 0 0 (MQ below (x_Qv g A (fun σ1 => σ1.2 = σ.2 ∧ (∀ j, j ≠ 37 → σ1.1 j = σ.1 j) ∧ ∃ ov2, MObj g σ1.1 ov2 ∧ zAc ov2 = zNote (mK S) (mF S) Wz (S 0) (S 1) o (mP S) (zAc ov) ∧ zAccOk (zAc ov2) ∧ ov2 10 = ov 10)) ([.ref (g.2.2 37), .int (iI (o))] : List Value).toArray s (0) (0) A) (F0 m 36 ls []) := by
      intro k
      induction k with
      | zero =>
        intros; exact absurd (by assumption) (Nat.not_lt_zero _)
      | succ k ih =>
        intro i lst grt car hnd an hmeas hi0 hin e1 e2 e3 e4 e5 hrg hlg  ls hl
        have ih_3 := ih
        have hok0 : i < S 0 → _ := hok.2.2.2 i hi0
        have hmp : mP S i = S (2 + 3 * i + 2) := rfl
        have hok1 : i < S 0 → 0 ≤ Wz i ∧ Wz i ≤ 9999 := hW i hi0
        refine lv_iload hx hb dX12_partsAre_36 (lv_at hl 0 rfl) ?_
        refine lv_aload_n hx hb dX12_partsAre_38 rfl (lv_at hl 6 rfl) ?_
        refine x_get (C := RX12) (T := TX12) (N := 24) hx hb hts hin_X12 hown hK hP (37) (by decide) hob rfl 0 (by decide) hw_2 (fun _ h9 => h9) rfl dX12_partsAre_39 ?_
        refine x_iconst hx hb dX12_partsAre_42 ?_
        refine x_iald (f := S) hx hb hK hP (38) (by decide) hs0 (by omega) (by omega) (by decide) dX12_partsAre_43 ?_
        have hb_4 := hok.1 (0)
        refine x_icmp_ge (tgt := 151) hx hb (by omega) (by omega) dX12_partsAre_44 (by decide) (fun c_44 => ?_) (fun c_44 => ?_)
        · have hmo : mP S o = S (2 + 3 * o + 2) := rfl
          have hpo : 0 ≤ o → o < S 0 → mP S o ≤ 9999 := fun a b => (hok.2.2.2 o a b).2.2.2
          have eq0 : S 0 = i := by omega
          have e4n : zHnd Wz (mP S) (S 0).toNat = hnd := by rw [eq0, e4]
          have e5n : zAnS Wz (mP S) (S 0).toNat = an := by rw [eq0, e5]
          refine lv_aload_n hx hb dX12_partsAre_151 rfl (lv_at hl 6 rfl) ?_
          refine x_get (C := RX12) (T := TX12) (N := 24) hx hb hts hin_X12 hown hK hP (37) (by decide) hob rfl 0 (by decide) hw_2 (fun _ h9 => h9) rfl dX12_partsAre_152 ?_
          refine x_iconst hx hb dX12_partsAre_155 ?_
          refine x_iald (f := S) hx hb hK hP (38) (by decide) hs0 (by omega) (by omega) (by decide) dX12_partsAre_156 ?_
          have hb_5 := hok.1 (0)
          refine x_if_ne (tgt := 164) hx hb (by omega) dX12_partsAre_157 (by decide) (fun c_157 => ?_) (fun c_157 => ?_)
          · refine lv_iload_n hx hb dX12_partsAre_164 rfl (lv_at hl 2 rfl) ?_
            refine lv_iload_n hx hb dX12_partsAre_165 rfl (lv_at hl 1 rfl) ?_
            refine x_isub hx hb dX12_partsAre_166 ?_
            refine lv_istore (lv' := [(7, .int (iI (grt - lst))), (2, .int (iI (lst))), (3, .int (iI (grt))), (4, .int (iI (car))), (5, .int (iI (hnd))), (6, .int (iI (an))), (0, .ref (g.2.2 37)), (1, .int (iI (o)))]) hx hb dX12_partsAre_167 hl (by decide) rfl (fun ls hl => ?_)
            have hapt : zApt (mP S) (S 0) = (grt - lst) := by (unfold zApt; first | (rw [if_pos (by omega)]; done) | (rw [if_neg (by omega), eq0, ← e1, ← e2]))
            have q18 : ov_2 18 = ov 18 := ((nov_2 18 (by decide)).trans rfl)
            have q19 : ov_2 19 = ov 19 := ((nov_2 19 (by decide)).trans rfl)
            have q20 : ov_2 20 = ov 20 := ((nov_2 20 (by decide)).trans rfl)
            have q21 : ov_2 21 = ov 21 := ((nov_2 21 (by decide)).trans rfl)
            have q17 : ov_2 17 = ov 17 + 1 := vov_2
            unfold zAccOk zAc at hAc
            simp only at hAc
            have hjoin_191 : ∀ (oa : Nat → Int), (hoa17 : oa 17 = ov 17 + 1) → (hoa18 : oa 18 = zGt (ov 18) (zApt (mP S) (S 0))) → (hoa19 : oa 19 = ov 19) → (hoa20 : oa 20 = ov 20) → (hoa21 : oa 21 = ov 21) → (hoa10 : oa 10 = ov 10) → ∀ (M : xM) (H : Heap) (locs : List Loc), (hob : M (37) = .inr (12, [.ref (g.2.2 38), .ref (g.2.2 39), .ref (g.2.2 40), .ref (g.2.2 41), .ref (g.2.2 42), .ref (g.2.2 43), .ref (g.2.2 44), .ref (g.2.2 45), .ref (g.2.2 46), .ref (g.2.2 47), .int (iI (oa 10)), .int (iI (oa 11)), .int (iI (oa 12)), .int (iI (oa 13)), .int (iI (oa 14)), .int (iI (oa 15)), .ref (g.2.2 48), .int (iI (oa 17)), .int (iI (oa 18)), .int (iI (oa 19)), .int (iI (oa 20)), .int (iI (oa 21)), .ref (g.2.2 49), .int (iI (oa 23))])) → (hs0 : M (38) = .inl (g.2.1 0, 29, .inl (fun k => iI (S (k : Int))))) → (h49 : M (49) = .inl (g.2.1 0, 8, .inl (fun k => iI (Wz (k : Int))))) → (hfr : ∀ j, (j ≠ 37) → M j = σ.1 j) → xP g (M, σ.2) H → xD g A (M, σ.2) → va_S A s.heap H locs → ∀ (ls : Array Slot), lv_has ls 9 [(7, .int (iI (grt - lst))), (2, .int (iI (lst))), (3, .int (iI (grt))), (4, .int (iI (car))), (5, .int (iI (hnd))), (6, .int (iI (an))), (0, .ref (g.2.2 37)), (1, .int (iI (o)))] → W p l e (headSpec wsX12_partsAre ({ frames := 8, cells := 0, slots := 0, locals := 256 })).room s m ([.ref (g.2.2 37), .int (iI (o))] : List Value).toArray below meth c H locs 0 0 (MQ below (x_Qv g A (fun σ1 => σ1.2 = σ.2 ∧ (∀ j, j ≠ 37 → σ1.1 j = σ.1 j) ∧ ∃ ov2, MObj g σ1.1 ov2 ∧ zAc ov2 = zNote (mK S) (mF S) Wz (S 0) (S 1) o (mP S) (zAc ov) ∧ zAccOk (zAc ov2) ∧ ov2 10 = ov 10)) ([.ref (g.2.2 37), .int (iI (o))] : List Value).toArray s (0) (0) A) (F0 m 191 ls []) := by
              intro oa hoa17 hoa18 hoa19 hoa20 hoa21 hoa10 M H locs hob hs0 h49 hfr hP hD hS ls hl
              have hjoin_227 : ∀ (ob : Nat → Int), (hob17 : ob 17 = ov 17 + 1) → (hob18 : ob 18 = zGt (ov 18) (zApt (mP S) (S 0))) → (hob19 : ob 19 = zMo o (S 0) (ov 19) (mP S o)) → (hob20 : ob 20 = ov 20) → (hob21 : ob 21 = ov 21) → (hob10 : ob 10 = ov 10) → ∀ (M : xM) (H : Heap) (locs : List Loc), (hob : M (37) = .inr (12, [.ref (g.2.2 38), .ref (g.2.2 39), .ref (g.2.2 40), .ref (g.2.2 41), .ref (g.2.2 42), .ref (g.2.2 43), .ref (g.2.2 44), .ref (g.2.2 45), .ref (g.2.2 46), .ref (g.2.2 47), .int (iI (ob 10)), .int (iI (ob 11)), .int (iI (ob 12)), .int (iI (ob 13)), .int (iI (ob 14)), .int (iI (ob 15)), .ref (g.2.2 48), .int (iI (ob 17)), .int (iI (ob 18)), .int (iI (ob 19)), .int (iI (ob 20)), .int (iI (ob 21)), .ref (g.2.2 49), .int (iI (ob 23))])) → (hs0 : M (38) = .inl (g.2.1 0, 29, .inl (fun k => iI (S (k : Int))))) → (h49 : M (49) = .inl (g.2.1 0, 8, .inl (fun k => iI (Wz (k : Int))))) → (hfr : ∀ j, (j ≠ 37) → M j = σ.1 j) → xP g (M, σ.2) H → xD g A (M, σ.2) → va_S A s.heap H locs → ∀ (ls : Array Slot), lv_has ls 9 [(7, .int (iI (grt - lst))), (2, .int (iI (lst))), (3, .int (iI (grt))), (4, .int (iI (car))), (5, .int (iI (hnd))), (6, .int (iI (an))), (0, .ref (g.2.2 37)), (1, .int (iI (o)))] → W p l e (headSpec wsX12_partsAre ({ frames := 8, cells := 0, slots := 0, locals := 256 })).room s m ([.ref (g.2.2 37), .int (iI (o))] : List Value).toArray below meth c H locs 0 0 (MQ below (x_Qv g A (fun σ1 => σ1.2 = σ.2 ∧ (∀ j, j ≠ 37 → σ1.1 j = σ.1 j) ∧ ∃ ov2, MObj g σ1.1 ov2 ∧ zAc ov2 = zNote (mK S) (mF S) Wz (S 0) (S 1) o (mP S) (zAc ov) ∧ zAccOk (zAc ov2) ∧ ov2 10 = ov 10)) ([.ref (g.2.2 37), .int (iI (o))] : List Value).toArray s (0) (0) A) (F0 m 227 ls []) := by
                intro ob hob17 hob18 hob19 hob20 hob21 hob10 M H locs hob hs0 h49 hfr hP hD hS ls hl
                have hjoin_256 : ∀ (oc : Nat → Int), (hoc17 : oc 17 = ov 17 + 1) → (hoc18 : oc 18 = zGt (ov 18) (zApt (mP S) (S 0))) → (hoc19 : oc 19 = zMo o (S 0) (ov 19) (mP S o)) → (hoc20 : oc 20 = zFw (ov 20) (zHnd Wz (mP S) (S 0).toNat)) → (hoc21 : oc 21 = ov 21) → (hoc10 : oc 10 = ov 10) → ∀ (M : xM) (H : Heap) (locs : List Loc), (hob : M (37) = .inr (12, [.ref (g.2.2 38), .ref (g.2.2 39), .ref (g.2.2 40), .ref (g.2.2 41), .ref (g.2.2 42), .ref (g.2.2 43), .ref (g.2.2 44), .ref (g.2.2 45), .ref (g.2.2 46), .ref (g.2.2 47), .int (iI (oc 10)), .int (iI (oc 11)), .int (iI (oc 12)), .int (iI (oc 13)), .int (iI (oc 14)), .int (iI (oc 15)), .ref (g.2.2 48), .int (iI (oc 17)), .int (iI (oc 18)), .int (iI (oc 19)), .int (iI (oc 20)), .int (iI (oc 21)), .ref (g.2.2 49), .int (iI (oc 23))])) → (hs0 : M (38) = .inl (g.2.1 0, 29, .inl (fun k => iI (S (k : Int))))) → (h49 : M (49) = .inl (g.2.1 0, 8, .inl (fun k => iI (Wz (k : Int))))) → (hfr : ∀ j, (j ≠ 37) → M j = σ.1 j) → xP g (M, σ.2) H → xD g A (M, σ.2) → va_S A s.heap H locs → ∀ (ls : Array Slot), lv_has ls 9 [(7, .int (iI (grt - lst))), (2, .int (iI (lst))), (3, .int (iI (grt))), (4, .int (iI (car))), (5, .int (iI (hnd))), (6, .int (iI (an))), (0, .ref (g.2.2 37)), (1, .int (iI (o)))] → W p l e (headSpec wsX12_partsAre ({ frames := 8, cells := 0, slots := 0, locals := 256 })).room s m ([.ref (g.2.2 37), .int (iI (o))] : List Value).toArray below meth c H locs 0 0 (MQ below (x_Qv g A (fun σ1 => σ1.2 = σ.2 ∧ (∀ j, j ≠ 37 → σ1.1 j = σ.1 j) ∧ ∃ ov2, MObj g σ1.1 ov2 ∧ zAc ov2 = zNote (mK S) (mF S) Wz (S 0) (S 1) o (mP S) (zAc ov) ∧ zAccOk (zAc ov2) ∧ ov2 10 = ov 10)) ([.ref (g.2.2 37), .int (iI (o))] : List Value).toArray s (0) (0) A) (F0 m 256 ls []) := by
                  intro oc hoc17 hoc18 hoc19 hoc20 hoc21 hoc10 M H locs hob hs0 h49 hfr hP hD hS ls hl
                  refine lv_aload_n hx hb dX12_partsAre_256 rfl (lv_at hl 6 rfl) ?_
                  refine lv_aload_n hx hb dX12_partsAre_257 rfl (lv_at hl 6 rfl) ?_
                  refine x_get (C := RX12) (T := TX12) (N := 24) hx hb hts hin_X12 hown hK hP (37) (by decide) hob rfl 21 (by decide) hw_3 (fun _ h9 => h9) rfl dX12_partsAre_258 ?_
                  refine x_if_lt (tgt := 273) hx hb (by omega) dX12_partsAre_261 (by decide) (fun c_261 => ?_) (fun c_261 => ?_)
                  · refine lv_iload hx hb dX12_partsAre_273 (lv_at hl 5 rfl) ?_
                    refine lv_goto (tgt := 282) hx hb dX12_partsAre_275 (by decide) ?_
                    refine x_put (C := RX12) (T := TX12) (N := 24) (ty := .int) hx hb hts hin_X12 hown hK hP hD hS (37) (by decide) hob rfl tyX12 tyX12_ok nmX12 21 (by decide) hw_3 (fun _ h9 => h9) rfl (by decide +kernel) rfl rfl (Nat.le_of_ble_eq_true rfl) dX12_partsAre_282 (fun M_6 H locs hnew hne hP hD hS => ?_)
                    obtain ⟨ov_7, hov_7⟩ : ∃ q : Nat → Int, q = va_up (oc) 21 (an) := ⟨_, rfl⟩
                    have vov_7 : ov_7 21 = an := by rw [hov_7]; rfl
                    have nov_7 : ∀ j, j ≠ 21 → ov_7 j = oc j := fun j hj => by rw [hov_7]; exact va_up_ne _ _ hj
                    have hnew : MObj g M_6 ov_7 := by rw [hov_7]; exact hnew
                    have hP : xP g (M_6, σ.2) H := hP
                    have hD : xD g A (M_6, σ.2) := hD
                    have hob : MObj g M_6 ov_7 := hnew
                    have hs0 := (hne (38) (by decide)).trans hs0
                    have h49 := (hne (49) (by decide)).trans h49
                    have hfr := x_fr (F := fun j => j ≠ 37) hfr hne (fun j h => by have h : j ≠ 37 := h; omega)
                    refine x_retQv hx hb hr ?_ hP hD hS dX12_partsAre_285 hlocks
                    have z21 : ov_7 21 = zFw (ov 21) (zAnS Wz (mP S) (S 0).toNat) := by (refine vov_7.trans ?_; (first | unfold zGt | unfold zMo | unfold zFw); first | (rw [if_pos (by omega)]; omega) | (rw [if_neg (by omega)]; omega))
                    have z17 := ((nov_7 17 (by decide)).trans hoc17)
                    have z18 := ((nov_7 18 (by decide)).trans hoc18)
                    have z19 := ((nov_7 19 (by decide)).trans hoc19)
                    have z20 := ((nov_7 20 (by decide)).trans hoc20)
                    have z10 := ((nov_7 10 (by decide)).trans hoc10)
                    refine ⟨rfl, hfr, ov_7, hob, ?_, ?_, z10⟩
                    · unfold zNote; rw [if_neg (by omega)]; exact Prod.ext z17 (Prod.ext z18 (Prod.ext z19 (Prod.ext z20 z21)))
                    · show (-4 ≤ ov_7 18 ∧ ov_7 18 ≤ 9999) ∧ (-4 ≤ ov_7 19 ∧ ov_7 19 ≤ 9999) ∧ (-4 ≤ ov_7 20 ∧ ov_7 20 ≤ 10000000) ∧ (-4 ≤ ov_7 21 ∧ ov_7 21 ≤ 10000000)
                      rw [z18, z19, z20, z21, hapt, e4n, e5n]
                      unfold zGt zMo zFw
                      refine ⟨?_, ?_, ?_, ?_⟩ <;> split <;> omega
                  · refine lv_iload hx hb dX12_partsAre_264 (lv_at hl 5 rfl) ?_
                    refine lv_aload_n hx hb dX12_partsAre_266 rfl (lv_at hl 6 rfl) ?_
                    refine x_get (C := RX12) (T := TX12) (N := 24) hx hb hts hin_X12 hown hK hP (37) (by decide) hob rfl 21 (by decide) hw_3 (fun _ h9 => h9) rfl dX12_partsAre_267 ?_
                    refine x_icmp_ge (tgt := 278) hx hb (by omega) (by omega) dX12_partsAre_270 (by decide) (fun c_270 => ?_) (fun c_270 => ?_)
                    · refine lv_aload_n hx hb dX12_partsAre_278 rfl (lv_at hl 6 rfl) ?_
                      refine x_get (C := RX12) (T := TX12) (N := 24) hx hb hts hin_X12 hown hK hP (37) (by decide) hob rfl 21 (by decide) hw_3 (fun _ h9 => h9) rfl dX12_partsAre_279 ?_
                      refine x_put (C := RX12) (T := TX12) (N := 24) (ty := .int) hx hb hts hin_X12 hown hK hP hD hS (37) (by decide) hob rfl tyX12 tyX12_ok nmX12 21 (by decide) hw_3 (fun _ h9 => h9) rfl (by decide +kernel) rfl rfl (Nat.le_of_ble_eq_true rfl) dX12_partsAre_282 (fun M_8 H locs hnew hne hP hD hS => ?_)
                      obtain ⟨ov_9, hov_9⟩ : ∃ q : Nat → Int, q = va_up (oc) 21 (oc 21) := ⟨_, rfl⟩
                      have vov_9 : ov_9 21 = oc 21 := by rw [hov_9]; rfl
                      have nov_9 : ∀ j, j ≠ 21 → ov_9 j = oc j := fun j hj => by rw [hov_9]; exact va_up_ne _ _ hj
                      have hnew : MObj g M_8 ov_9 := by rw [hov_9]; exact hnew
                      have hP : xP g (M_8, σ.2) H := hP
                      have hD : xD g A (M_8, σ.2) := hD
                      have hob : MObj g M_8 ov_9 := hnew
                      have hs0 := (hne (38) (by decide)).trans hs0
                      have h49 := (hne (49) (by decide)).trans h49
                      have hfr := x_fr (F := fun j => j ≠ 37) hfr hne (fun j h => by have h : j ≠ 37 := h; omega)
                      refine x_retQv hx hb hr ?_ hP hD hS dX12_partsAre_285 hlocks
                      have z21 : ov_9 21 = zFw (ov 21) (zAnS Wz (mP S) (S 0).toNat) := by (refine vov_9.trans ?_; (first | unfold zGt | unfold zMo | unfold zFw); first | (rw [if_pos (by omega)]; omega) | (rw [if_neg (by omega)]; omega))
                      have z17 := ((nov_9 17 (by decide)).trans hoc17)
                      have z18 := ((nov_9 18 (by decide)).trans hoc18)
                      have z19 := ((nov_9 19 (by decide)).trans hoc19)
                      have z20 := ((nov_9 20 (by decide)).trans hoc20)
                      have z10 := ((nov_9 10 (by decide)).trans hoc10)
                      refine ⟨rfl, hfr, ov_9, hob, ?_, ?_, z10⟩
                      · unfold zNote; rw [if_neg (by omega)]; exact Prod.ext z17 (Prod.ext z18 (Prod.ext z19 (Prod.ext z20 z21)))
                      · show (-4 ≤ ov_9 18 ∧ ov_9 18 ≤ 9999) ∧ (-4 ≤ ov_9 19 ∧ ov_9 19 ≤ 9999) ∧ (-4 ≤ ov_9 20 ∧ ov_9 20 ≤ 10000000) ∧ (-4 ≤ ov_9 21 ∧ ov_9 21 ≤ 10000000)
                        rw [z18, z19, z20, z21, hapt, e4n, e5n]
                        unfold zGt zMo zFw
                        refine ⟨?_, ?_, ?_, ?_⟩ <;> split <;> omega
                    · refine lv_iload hx hb dX12_partsAre_273 (lv_at hl 5 rfl) ?_
                      refine lv_goto (tgt := 282) hx hb dX12_partsAre_275 (by decide) ?_
                      refine x_put (C := RX12) (T := TX12) (N := 24) (ty := .int) hx hb hts hin_X12 hown hK hP hD hS (37) (by decide) hob rfl tyX12 tyX12_ok nmX12 21 (by decide) hw_3 (fun _ h9 => h9) rfl (by decide +kernel) rfl rfl (Nat.le_of_ble_eq_true rfl) dX12_partsAre_282 (fun M_10 H locs hnew hne hP hD hS => ?_)
                      obtain ⟨ov_11, hov_11⟩ : ∃ q : Nat → Int, q = va_up (oc) 21 (an) := ⟨_, rfl⟩
                      have vov_11 : ov_11 21 = an := by rw [hov_11]; rfl
                      have nov_11 : ∀ j, j ≠ 21 → ov_11 j = oc j := fun j hj => by rw [hov_11]; exact va_up_ne _ _ hj
                      have hnew : MObj g M_10 ov_11 := by rw [hov_11]; exact hnew
                      have hP : xP g (M_10, σ.2) H := hP
                      have hD : xD g A (M_10, σ.2) := hD
                      have hob : MObj g M_10 ov_11 := hnew
                      have hs0 := (hne (38) (by decide)).trans hs0
                      have h49 := (hne (49) (by decide)).trans h49
                      have hfr := x_fr (F := fun j => j ≠ 37) hfr hne (fun j h => by have h : j ≠ 37 := h; omega)
                      refine x_retQv hx hb hr ?_ hP hD hS dX12_partsAre_285 hlocks
                      have z21 : ov_11 21 = zFw (ov 21) (zAnS Wz (mP S) (S 0).toNat) := by (refine vov_11.trans ?_; (first | unfold zGt | unfold zMo | unfold zFw); first | (rw [if_pos (by omega)]; omega) | (rw [if_neg (by omega)]; omega))
                      have z17 := ((nov_11 17 (by decide)).trans hoc17)
                      have z18 := ((nov_11 18 (by decide)).trans hoc18)
                      have z19 := ((nov_11 19 (by decide)).trans hoc19)
                      have z20 := ((nov_11 20 (by decide)).trans hoc20)
                      have z10 := ((nov_11 10 (by decide)).trans hoc10)
                      refine ⟨rfl, hfr, ov_11, hob, ?_, ?_, z10⟩
                      · unfold zNote; rw [if_neg (by omega)]; exact Prod.ext z17 (Prod.ext z18 (Prod.ext z19 (Prod.ext z20 z21)))
                      · show (-4 ≤ ov_11 18 ∧ ov_11 18 ≤ 9999) ∧ (-4 ≤ ov_11 19 ∧ ov_11 19 ≤ 9999) ∧ (-4 ≤ ov_11 20 ∧ ov_11 20 ≤ 10000000) ∧ (-4 ≤ ov_11 21 ∧ ov_11 21 ≤ 10000000)
                        rw [z18, z19, z20, z21, hapt, e4n, e5n]
                        unfold zGt zMo zFw
                        refine ⟨?_, ?_, ?_, ?_⟩ <;> split <;> omega
                refine lv_aload_n hx hb dX12_partsAre_227 rfl (lv_at hl 6 rfl) ?_
                refine lv_aload_n hx hb dX12_partsAre_228 rfl (lv_at hl 6 rfl) ?_
                refine x_get (C := RX12) (T := TX12) (N := 24) hx hb hts hin_X12 hown hK hP (37) (by decide) hob rfl 20 (by decide) hw_4 (fun _ h9 => h9) rfl dX12_partsAre_229 ?_
                refine x_if_lt (tgt := 244) hx hb (by omega) dX12_partsAre_232 (by decide) (fun c_232 => ?_) (fun c_232 => ?_)
                · refine lv_iload hx hb dX12_partsAre_244 (lv_at hl 4 rfl) ?_
                  refine lv_goto (tgt := 253) hx hb dX12_partsAre_246 (by decide) ?_
                  refine x_put (C := RX12) (T := TX12) (N := 24) (ty := .int) hx hb hts hin_X12 hown hK hP hD hS (37) (by decide) hob rfl tyX12 tyX12_ok nmX12 20 (by decide) hw_4 (fun _ h9 => h9) rfl (by decide +kernel) rfl rfl (Nat.le_of_ble_eq_true rfl) dX12_partsAre_253 (fun M_12 H locs hnew hne hP hD hS => ?_)
                  obtain ⟨ov_13, hov_13⟩ : ∃ q : Nat → Int, q = va_up (ob) 20 (hnd) := ⟨_, rfl⟩
                  have vov_13 : ov_13 20 = hnd := by rw [hov_13]; rfl
                  have nov_13 : ∀ j, j ≠ 20 → ov_13 j = ob j := fun j hj => by rw [hov_13]; exact va_up_ne _ _ hj
                  have hnew : MObj g M_12 ov_13 := by rw [hov_13]; exact hnew
                  have hP : xP g (M_12, σ.2) H := hP
                  have hD : xD g A (M_12, σ.2) := hD
                  have hob : MObj g M_12 ov_13 := hnew
                  have hs0 := (hne (38) (by decide)).trans hs0
                  have h49 := (hne (49) (by decide)).trans h49
                  have hfr := x_fr (F := fun j => j ≠ 37) hfr hne (fun j h => by have h : j ≠ 37 := h; omega)
                  exact hjoin_256 (ov_13) (by exact ((nov_13 17 (by decide)).trans hob17)) (by exact ((nov_13 18 (by decide)).trans hob18)) (by exact ((nov_13 19 (by decide)).trans hob19)) (by refine vov_13.trans ?_; (first | unfold zGt | unfold zMo | unfold zFw); first | (rw [if_pos (by omega)]; omega) | (rw [if_neg (by omega)]; omega)) (by exact ((nov_13 21 (by decide)).trans hob21)) (by exact ((nov_13 10 (by decide)).trans hob10)) (M_12) _ _ hob hs0 h49 hfr hP hD hS ls (lv_sub hl [0, 1, 2, 3, 4, 5, 6, 7] rfl)
                · refine lv_iload hx hb dX12_partsAre_235 (lv_at hl 4 rfl) ?_
                  refine lv_aload_n hx hb dX12_partsAre_237 rfl (lv_at hl 6 rfl) ?_
                  refine x_get (C := RX12) (T := TX12) (N := 24) hx hb hts hin_X12 hown hK hP (37) (by decide) hob rfl 20 (by decide) hw_4 (fun _ h9 => h9) rfl dX12_partsAre_238 ?_
                  refine x_icmp_ge (tgt := 249) hx hb (by omega) (by omega) dX12_partsAre_241 (by decide) (fun c_241 => ?_) (fun c_241 => ?_)
                  · refine lv_aload_n hx hb dX12_partsAre_249 rfl (lv_at hl 6 rfl) ?_
                    refine x_get (C := RX12) (T := TX12) (N := 24) hx hb hts hin_X12 hown hK hP (37) (by decide) hob rfl 20 (by decide) hw_4 (fun _ h9 => h9) rfl dX12_partsAre_250 ?_
                    refine x_put (C := RX12) (T := TX12) (N := 24) (ty := .int) hx hb hts hin_X12 hown hK hP hD hS (37) (by decide) hob rfl tyX12 tyX12_ok nmX12 20 (by decide) hw_4 (fun _ h9 => h9) rfl (by decide +kernel) rfl rfl (Nat.le_of_ble_eq_true rfl) dX12_partsAre_253 (fun M_14 H locs hnew hne hP hD hS => ?_)
                    obtain ⟨ov_15, hov_15⟩ : ∃ q : Nat → Int, q = va_up (ob) 20 (ob 20) := ⟨_, rfl⟩
                    have vov_15 : ov_15 20 = ob 20 := by rw [hov_15]; rfl
                    have nov_15 : ∀ j, j ≠ 20 → ov_15 j = ob j := fun j hj => by rw [hov_15]; exact va_up_ne _ _ hj
                    have hnew : MObj g M_14 ov_15 := by rw [hov_15]; exact hnew
                    have hP : xP g (M_14, σ.2) H := hP
                    have hD : xD g A (M_14, σ.2) := hD
                    have hob : MObj g M_14 ov_15 := hnew
                    have hs0 := (hne (38) (by decide)).trans hs0
                    have h49 := (hne (49) (by decide)).trans h49
                    have hfr := x_fr (F := fun j => j ≠ 37) hfr hne (fun j h => by have h : j ≠ 37 := h; omega)
                    exact hjoin_256 (ov_15) (by exact ((nov_15 17 (by decide)).trans hob17)) (by exact ((nov_15 18 (by decide)).trans hob18)) (by exact ((nov_15 19 (by decide)).trans hob19)) (by refine vov_15.trans ?_; (first | unfold zGt | unfold zMo | unfold zFw); first | (rw [if_pos (by omega)]; omega) | (rw [if_neg (by omega)]; omega)) (by exact ((nov_15 21 (by decide)).trans hob21)) (by exact ((nov_15 10 (by decide)).trans hob10)) (M_14) _ _ hob hs0 h49 hfr hP hD hS ls (lv_sub hl [0, 1, 2, 3, 4, 5, 6, 7] rfl)
                  · refine lv_iload hx hb dX12_partsAre_244 (lv_at hl 4 rfl) ?_
                    refine lv_goto (tgt := 253) hx hb dX12_partsAre_246 (by decide) ?_
                    refine x_put (C := RX12) (T := TX12) (N := 24) (ty := .int) hx hb hts hin_X12 hown hK hP hD hS (37) (by decide) hob rfl tyX12 tyX12_ok nmX12 20 (by decide) hw_4 (fun _ h9 => h9) rfl (by decide +kernel) rfl rfl (Nat.le_of_ble_eq_true rfl) dX12_partsAre_253 (fun M_16 H locs hnew hne hP hD hS => ?_)
                    obtain ⟨ov_17, hov_17⟩ : ∃ q : Nat → Int, q = va_up (ob) 20 (hnd) := ⟨_, rfl⟩
                    have vov_17 : ov_17 20 = hnd := by rw [hov_17]; rfl
                    have nov_17 : ∀ j, j ≠ 20 → ov_17 j = ob j := fun j hj => by rw [hov_17]; exact va_up_ne _ _ hj
                    have hnew : MObj g M_16 ov_17 := by rw [hov_17]; exact hnew
                    have hP : xP g (M_16, σ.2) H := hP
                    have hD : xD g A (M_16, σ.2) := hD
                    have hob : MObj g M_16 ov_17 := hnew
                    have hs0 := (hne (38) (by decide)).trans hs0
                    have h49 := (hne (49) (by decide)).trans h49
                    have hfr := x_fr (F := fun j => j ≠ 37) hfr hne (fun j h => by have h : j ≠ 37 := h; omega)
                    exact hjoin_256 (ov_17) (by exact ((nov_17 17 (by decide)).trans hob17)) (by exact ((nov_17 18 (by decide)).trans hob18)) (by exact ((nov_17 19 (by decide)).trans hob19)) (by refine vov_17.trans ?_; (first | unfold zGt | unfold zMo | unfold zFw); first | (rw [if_pos (by omega)]; omega) | (rw [if_neg (by omega)]; omega)) (by exact ((nov_17 21 (by decide)).trans hob21)) (by exact ((nov_17 10 (by decide)).trans hob10)) (M_16) _ _ hob hs0 h49 hfr hP hD hS ls (lv_sub hl [0, 1, 2, 3, 4, 5, 6, 7] rfl)
              refine lv_aload_n hx hb dX12_partsAre_191 rfl (lv_at hl 6 rfl) ?_
              refine lv_aload_n hx hb dX12_partsAre_192 rfl (lv_at hl 6 rfl) ?_
              refine lv_iload_n hx hb dX12_partsAre_193 rfl (lv_at hl 7 rfl) ?_
              refine x_ci (va_runV (As := [.int (iI (o))]) (rest := [.ref (g.2.2 37)]) ⟨hx, hb, hml, hown, hts⟩ (c_X12_isHouse l g (M, σ.2) (oa) S hob hs0 hok (o) (by omega)) (cwV 1 hts gX12_partsAre_X12_isHouse rfl rfl rfl (by decide +kernel) ⟨Nat.le_of_ble_eq_true rfl, Nat.le_of_ble_eq_true rfl⟩) (x_preV hK hP (x_recv hK hP (i := 37) (by decide) hob rfl)) rfl rfl hl.1 rfl (lv_room (Nat.le_of_ble_eq_true rfl)) dX12_partsAre_194 ⟨Nat.le_of_ble_eq_true rfl, Nat.le_of_ble_eq_true rfl⟩) (fun r_194 hr_194 qr_194 => ?_)
              replace qr_194 : (r_194 = 1 ∧ 0 ≤ (o) ∧ (o) < S 0) ∨ (r_194 = 0 ∧ ¬ (0 ≤ (o) ∧ (o) < S 0)) := qr_194
              refine x_if_eq (tgt := 220) hx hb (by omega) dX12_partsAre_197 (by decide) (fun c_197 => ?_) (fun c_197 => ?_)
              · refine lv_aload_n hx hb dX12_partsAre_220 rfl (lv_at hl 6 rfl) ?_
                refine x_get (C := RX12) (T := TX12) (N := 24) hx hb hts hin_X12 hown hK hP (37) (by decide) hob rfl 19 (by decide) hw_5 (fun _ h9 => h9) rfl dX12_partsAre_221 ?_
                refine x_put (C := RX12) (T := TX12) (N := 24) (ty := .int) hx hb hts hin_X12 hown hK hP hD hS (37) (by decide) hob rfl tyX12 tyX12_ok nmX12 19 (by decide) hw_5 (fun _ h9 => h9) rfl (by decide +kernel) rfl rfl (Nat.le_of_ble_eq_true rfl) dX12_partsAre_224 (fun M_18 H locs hnew hne hP hD hS => ?_)
                obtain ⟨ov_19, hov_19⟩ : ∃ q : Nat → Int, q = va_up (oa) 19 (oa 19) := ⟨_, rfl⟩
                have vov_19 : ov_19 19 = oa 19 := by rw [hov_19]; rfl
                have nov_19 : ∀ j, j ≠ 19 → ov_19 j = oa j := fun j hj => by rw [hov_19]; exact va_up_ne _ _ hj
                have hnew : MObj g M_18 ov_19 := by rw [hov_19]; exact hnew
                have hP : xP g (M_18, σ.2) H := hP
                have hD : xD g A (M_18, σ.2) := hD
                have hob : MObj g M_18 ov_19 := hnew
                have hs0 := (hne (38) (by decide)).trans hs0
                have h49 := (hne (49) (by decide)).trans h49
                have hfr := x_fr (F := fun j => j ≠ 37) hfr hne (fun j h => by have h : j ≠ 37 := h; omega)
                exact hjoin_227 (ov_19) (by exact ((nov_19 17 (by decide)).trans hoa17)) (by exact ((nov_19 18 (by decide)).trans hoa18)) (by refine vov_19.trans ?_; (first | unfold zGt | unfold zMo | unfold zFw); first | (rw [if_pos (by omega)]; omega) | (rw [if_neg (by omega)]; omega)) (by exact ((nov_19 20 (by decide)).trans hoa20)) (by exact ((nov_19 21 (by decide)).trans hoa21)) (by exact ((nov_19 10 (by decide)).trans hoa10)) (M_18) _ _ hob hs0 h49 hfr hP hD hS ls (lv_sub hl [0, 1, 2, 3, 4, 5, 6, 7] rfl)
              · refine lv_aload_n hx hb dX12_partsAre_200 rfl (lv_at hl 6 rfl) ?_
                refine lv_iload_n hx hb dX12_partsAre_201 rfl (lv_at hl 7 rfl) ?_
                refine x_ci (va_runV (As := [.int (iI (o))]) (rest := [.ref (g.2.2 37)]) ⟨hx, hb, hml, hown, hts⟩ (c_X12_purse l g (M, σ.2) (oa) S hob hs0 hok.1 (o) (by omega)) (cwV 1 hts gX12_partsAre_X12_purse rfl rfl rfl (by decide +kernel) ⟨Nat.le_of_ble_eq_true rfl, Nat.le_of_ble_eq_true rfl⟩) (x_preV hK hP (x_recv hK hP (i := 37) (by decide) hob rfl)) rfl rfl hl.1 rfl (lv_room (Nat.le_of_ble_eq_true rfl)) dX12_partsAre_202 ⟨Nat.le_of_ble_eq_true rfl, Nat.le_of_ble_eq_true rfl⟩) (fun r_202 hr_202 qr_202 => ?_)
                replace qr_202 : r_202 = S (2 + 3 * (o) + 2) := qr_202
                refine lv_aload_n hx hb dX12_partsAre_205 rfl (lv_at hl 6 rfl) ?_
                refine x_get (C := RX12) (T := TX12) (N := 24) hx hb hts hin_X12 hown hK hP (37) (by decide) hob rfl 19 (by decide) hw_5 (fun _ h9 => h9) rfl dX12_partsAre_206 ?_
                refine x_icmp_le (tgt := 220) hx hb (by omega) (by omega) dX12_partsAre_209 (by decide) (fun c_209 => ?_) (fun c_209 => ?_)
                · refine lv_aload_n hx hb dX12_partsAre_220 rfl (lv_at hl 6 rfl) ?_
                  refine x_get (C := RX12) (T := TX12) (N := 24) hx hb hts hin_X12 hown hK hP (37) (by decide) hob rfl 19 (by decide) hw_5 (fun _ h9 => h9) rfl dX12_partsAre_221 ?_
                  refine x_put (C := RX12) (T := TX12) (N := 24) (ty := .int) hx hb hts hin_X12 hown hK hP hD hS (37) (by decide) hob rfl tyX12 tyX12_ok nmX12 19 (by decide) hw_5 (fun _ h9 => h9) rfl (by decide +kernel) rfl rfl (Nat.le_of_ble_eq_true rfl) dX12_partsAre_224 (fun M_20 H locs hnew hne hP hD hS => ?_)
                  obtain ⟨ov_21, hov_21⟩ : ∃ q : Nat → Int, q = va_up (oa) 19 (oa 19) := ⟨_, rfl⟩
                  have vov_21 : ov_21 19 = oa 19 := by rw [hov_21]; rfl
                  have nov_21 : ∀ j, j ≠ 19 → ov_21 j = oa j := fun j hj => by rw [hov_21]; exact va_up_ne _ _ hj
                  have hnew : MObj g M_20 ov_21 := by rw [hov_21]; exact hnew
                  have hP : xP g (M_20, σ.2) H := hP
                  have hD : xD g A (M_20, σ.2) := hD
                  have hob : MObj g M_20 ov_21 := hnew
                  have hs0 := (hne (38) (by decide)).trans hs0
                  have h49 := (hne (49) (by decide)).trans h49
                  have hfr := x_fr (F := fun j => j ≠ 37) hfr hne (fun j h => by have h : j ≠ 37 := h; omega)
                  exact hjoin_227 (ov_21) (by exact ((nov_21 17 (by decide)).trans hoa17)) (by exact ((nov_21 18 (by decide)).trans hoa18)) (by refine vov_21.trans ?_; (first | unfold zGt | unfold zMo | unfold zFw); first | (rw [if_pos (by omega)]; omega) | (rw [if_neg (by omega)]; omega)) (by exact ((nov_21 20 (by decide)).trans hoa20)) (by exact ((nov_21 21 (by decide)).trans hoa21)) (by exact ((nov_21 10 (by decide)).trans hoa10)) (M_20) _ _ hob hs0 h49 hfr hP hD hS ls (lv_sub hl [0, 1, 2, 3, 4, 5, 6, 7] rfl)
                · refine lv_aload_n hx hb dX12_partsAre_212 rfl (lv_at hl 6 rfl) ?_
                  refine lv_iload_n hx hb dX12_partsAre_213 rfl (lv_at hl 7 rfl) ?_
                  refine x_ci (va_runV (As := [.int (iI (o))]) (rest := [.ref (g.2.2 37)]) ⟨hx, hb, hml, hown, hts⟩ (c_X12_purse l g (M, σ.2) (oa) S hob hs0 hok.1 (o) (by omega)) (cwV 1 hts gX12_partsAre_X12_purse rfl rfl rfl (by decide +kernel) ⟨Nat.le_of_ble_eq_true rfl, Nat.le_of_ble_eq_true rfl⟩) (x_preV hK hP (x_recv hK hP (i := 37) (by decide) hob rfl)) rfl rfl hl.1 rfl (lv_room (Nat.le_of_ble_eq_true rfl)) dX12_partsAre_214 ⟨Nat.le_of_ble_eq_true rfl, Nat.le_of_ble_eq_true rfl⟩) (fun r_214 hr_214 qr_214 => ?_)
                  replace qr_214 : r_214 = S (2 + 3 * (o) + 2) := qr_214
                  refine lv_goto (tgt := 224) hx hb dX12_partsAre_217 (by decide) ?_
                  refine x_put (C := RX12) (T := TX12) (N := 24) (ty := .int) hx hb hts hin_X12 hown hK hP hD hS (37) (by decide) hob rfl tyX12 tyX12_ok nmX12 19 (by decide) hw_5 (fun _ h9 => h9) rfl (by decide +kernel) rfl rfl (Nat.le_of_ble_eq_true rfl) dX12_partsAre_224 (fun M_22 H locs hnew hne hP hD hS => ?_)
                  obtain ⟨ov_23, hov_23⟩ : ∃ q : Nat → Int, q = va_up (oa) 19 (r_214) := ⟨_, rfl⟩
                  have vov_23 : ov_23 19 = r_214 := by rw [hov_23]; rfl
                  have nov_23 : ∀ j, j ≠ 19 → ov_23 j = oa j := fun j hj => by rw [hov_23]; exact va_up_ne _ _ hj
                  have hnew : MObj g M_22 ov_23 := by rw [hov_23]; exact hnew
                  have hP : xP g (M_22, σ.2) H := hP
                  have hD : xD g A (M_22, σ.2) := hD
                  have hob : MObj g M_22 ov_23 := hnew
                  have hs0 := (hne (38) (by decide)).trans hs0
                  have h49 := (hne (49) (by decide)).trans h49
                  have hfr := x_fr (F := fun j => j ≠ 37) hfr hne (fun j h => by have h : j ≠ 37 := h; omega)
                  exact hjoin_227 (ov_23) (by exact ((nov_23 17 (by decide)).trans hoa17)) (by exact ((nov_23 18 (by decide)).trans hoa18)) (by refine vov_23.trans ?_; (first | unfold zGt | unfold zMo | unfold zFw); first | (rw [if_pos (by omega)]; omega) | (rw [if_neg (by omega)]; omega)) (by exact ((nov_23 20 (by decide)).trans hoa20)) (by exact ((nov_23 21 (by decide)).trans hoa21)) (by exact ((nov_23 10 (by decide)).trans hoa10)) (M_22) _ _ hob hs0 h49 hfr hP hD hS ls (lv_sub hl [0, 1, 2, 3, 4, 5, 6, 7] rfl)
            refine lv_aload_n hx hb dX12_partsAre_169 rfl (lv_at hl 6 rfl) ?_
            refine lv_iload hx hb dX12_partsAre_170 (lv_at hl 0 rfl) ?_
            refine lv_aload_n hx hb dX12_partsAre_172 rfl (lv_at hl 6 rfl) ?_
            refine x_get (C := RX12) (T := TX12) (N := 24) hx hb hts hin_X12 hown hK hP (37) (by decide) hob rfl 18 (by decide) hw_6 (fun _ h9 => h9) rfl dX12_partsAre_173 ?_
            refine x_icmp_le (tgt := 184) hx hb (by omega) (by omega) dX12_partsAre_176 (by decide) (fun c_176 => ?_) (fun c_176 => ?_)
            · refine lv_aload_n hx hb dX12_partsAre_184 rfl (lv_at hl 6 rfl) ?_
              refine x_get (C := RX12) (T := TX12) (N := 24) hx hb hts hin_X12 hown hK hP (37) (by decide) hob rfl 18 (by decide) hw_6 (fun _ h9 => h9) rfl dX12_partsAre_185 ?_
              refine x_put (C := RX12) (T := TX12) (N := 24) (ty := .int) hx hb hts hin_X12 hown hK hP hD hS (37) (by decide) hob rfl tyX12 tyX12_ok nmX12 18 (by decide) hw_6 (fun _ h9 => h9) rfl (by decide +kernel) rfl rfl (Nat.le_of_ble_eq_true rfl) dX12_partsAre_188 (fun M_24 H locs hnew hne hP hD hS => ?_)
              obtain ⟨ov_25, hov_25⟩ : ∃ q : Nat → Int, q = va_up (ov_2) 18 (ov_2 18) := ⟨_, rfl⟩
              have vov_25 : ov_25 18 = ov_2 18 := by rw [hov_25]; rfl
              have nov_25 : ∀ j, j ≠ 18 → ov_25 j = ov_2 j := fun j hj => by rw [hov_25]; exact va_up_ne _ _ hj
              have hnew : MObj g M_24 ov_25 := by rw [hov_25]; exact hnew
              have hP : xP g (M_24, σ.2) H := hP
              have hD : xD g A (M_24, σ.2) := hD
              have hob : MObj g M_24 ov_25 := hnew
              have hs0 := (hne (38) (by decide)).trans hs0
              have h49 := (hne (49) (by decide)).trans h49
              have hfr := x_fr (F := fun j => j ≠ 37) hfr hne (fun j h => by have h : j ≠ 37 := h; omega)
              exact hjoin_191 (ov_25) (by exact ((nov_25 17 (by decide)).trans vov_2)) (by refine vov_25.trans ?_; (first | unfold zGt | unfold zMo | unfold zFw); first | (rw [if_pos (by omega)]; omega) | (rw [if_neg (by omega)]; omega)) (by exact ((nov_25 19 (by decide)).trans ((nov_2 19 (by decide)).trans rfl))) (by exact ((nov_25 20 (by decide)).trans ((nov_2 20 (by decide)).trans rfl))) (by exact ((nov_25 21 (by decide)).trans ((nov_2 21 (by decide)).trans rfl))) (by exact ((nov_25 10 (by decide)).trans ((nov_2 10 (by decide)).trans rfl))) (M_24) _ _ hob hs0 h49 hfr hP hD hS ls (lv_sub hl [0, 1, 2, 3, 4, 5, 6, 7] rfl)
            · refine lv_iload hx hb dX12_partsAre_179 (lv_at hl 0 rfl) ?_
              refine lv_goto (tgt := 188) hx hb dX12_partsAre_181 (by decide) ?_
              refine x_put (C := RX12) (T := TX12) (N := 24) (ty := .int) hx hb hts hin_X12 hown hK hP hD hS (37) (by decide) hob rfl tyX12 tyX12_ok nmX12 18 (by decide) hw_6 (fun _ h9 => h9) rfl (by decide +kernel) rfl rfl (Nat.le_of_ble_eq_true rfl) dX12_partsAre_188 (fun M_26 H locs hnew hne hP hD hS => ?_)
              obtain ⟨ov_27, hov_27⟩ : ∃ q : Nat → Int, q = va_up (ov_2) 18 (grt - lst) := ⟨_, rfl⟩
              have vov_27 : ov_27 18 = grt - lst := by rw [hov_27]; rfl
              have nov_27 : ∀ j, j ≠ 18 → ov_27 j = ov_2 j := fun j hj => by rw [hov_27]; exact va_up_ne _ _ hj
              have hnew : MObj g M_26 ov_27 := by rw [hov_27]; exact hnew
              have hP : xP g (M_26, σ.2) H := hP
              have hD : xD g A (M_26, σ.2) := hD
              have hob : MObj g M_26 ov_27 := hnew
              have hs0 := (hne (38) (by decide)).trans hs0
              have h49 := (hne (49) (by decide)).trans h49
              have hfr := x_fr (F := fun j => j ≠ 37) hfr hne (fun j h => by have h : j ≠ 37 := h; omega)
              exact hjoin_191 (ov_27) (by exact ((nov_27 17 (by decide)).trans vov_2)) (by refine vov_27.trans ?_; (first | unfold zGt | unfold zMo | unfold zFw); first | (rw [if_pos (by omega)]; omega) | (rw [if_neg (by omega)]; omega)) (by exact ((nov_27 19 (by decide)).trans ((nov_2 19 (by decide)).trans rfl))) (by exact ((nov_27 20 (by decide)).trans ((nov_2 20 (by decide)).trans rfl))) (by exact ((nov_27 21 (by decide)).trans ((nov_2 21 (by decide)).trans rfl))) (by exact ((nov_27 10 (by decide)).trans ((nov_2 10 (by decide)).trans rfl))) (M_26) _ _ hob hs0 h49 hfr hP hD hS ls (lv_sub hl [0, 1, 2, 3, 4, 5, 6, 7] rfl)
          · refine x_iconst hx hb dX12_partsAre_160 ?_
            refine lv_goto (tgt := 167) hx hb dX12_partsAre_161 (by decide) ?_
            refine lv_istore (lv' := [(7, .int (iI (0))), (2, .int (iI (lst))), (3, .int (iI (grt))), (4, .int (iI (car))), (5, .int (iI (hnd))), (6, .int (iI (an))), (0, .ref (g.2.2 37)), (1, .int (iI (o)))]) hx hb dX12_partsAre_167 hl (by decide) rfl (fun ls hl => ?_)
            have hapt : zApt (mP S) (S 0) = (0) := by (unfold zApt; first | (rw [if_pos (by omega)]; done) | (rw [if_neg (by omega), eq0, ← e1, ← e2]))
            have q18 : ov_2 18 = ov 18 := ((nov_2 18 (by decide)).trans rfl)
            have q19 : ov_2 19 = ov 19 := ((nov_2 19 (by decide)).trans rfl)
            have q20 : ov_2 20 = ov 20 := ((nov_2 20 (by decide)).trans rfl)
            have q21 : ov_2 21 = ov 21 := ((nov_2 21 (by decide)).trans rfl)
            have q17 : ov_2 17 = ov 17 + 1 := vov_2
            unfold zAccOk zAc at hAc
            simp only at hAc
            have hjoin_191 : ∀ (oa : Nat → Int), (hoa17 : oa 17 = ov 17 + 1) → (hoa18 : oa 18 = zGt (ov 18) (zApt (mP S) (S 0))) → (hoa19 : oa 19 = ov 19) → (hoa20 : oa 20 = ov 20) → (hoa21 : oa 21 = ov 21) → (hoa10 : oa 10 = ov 10) → ∀ (M : xM) (H : Heap) (locs : List Loc), (hob : M (37) = .inr (12, [.ref (g.2.2 38), .ref (g.2.2 39), .ref (g.2.2 40), .ref (g.2.2 41), .ref (g.2.2 42), .ref (g.2.2 43), .ref (g.2.2 44), .ref (g.2.2 45), .ref (g.2.2 46), .ref (g.2.2 47), .int (iI (oa 10)), .int (iI (oa 11)), .int (iI (oa 12)), .int (iI (oa 13)), .int (iI (oa 14)), .int (iI (oa 15)), .ref (g.2.2 48), .int (iI (oa 17)), .int (iI (oa 18)), .int (iI (oa 19)), .int (iI (oa 20)), .int (iI (oa 21)), .ref (g.2.2 49), .int (iI (oa 23))])) → (hs0 : M (38) = .inl (g.2.1 0, 29, .inl (fun k => iI (S (k : Int))))) → (h49 : M (49) = .inl (g.2.1 0, 8, .inl (fun k => iI (Wz (k : Int))))) → (hfr : ∀ j, (j ≠ 37) → M j = σ.1 j) → xP g (M, σ.2) H → xD g A (M, σ.2) → va_S A s.heap H locs → ∀ (ls : Array Slot), lv_has ls 9 [(7, .int (iI (0))), (2, .int (iI (lst))), (3, .int (iI (grt))), (4, .int (iI (car))), (5, .int (iI (hnd))), (6, .int (iI (an))), (0, .ref (g.2.2 37)), (1, .int (iI (o)))] → W p l e (headSpec wsX12_partsAre ({ frames := 8, cells := 0, slots := 0, locals := 256 })).room s m ([.ref (g.2.2 37), .int (iI (o))] : List Value).toArray below meth c H locs 0 0 (MQ below (x_Qv g A (fun σ1 => σ1.2 = σ.2 ∧ (∀ j, j ≠ 37 → σ1.1 j = σ.1 j) ∧ ∃ ov2, MObj g σ1.1 ov2 ∧ zAc ov2 = zNote (mK S) (mF S) Wz (S 0) (S 1) o (mP S) (zAc ov) ∧ zAccOk (zAc ov2) ∧ ov2 10 = ov 10)) ([.ref (g.2.2 37), .int (iI (o))] : List Value).toArray s (0) (0) A) (F0 m 191 ls []) := by
              intro oa hoa17 hoa18 hoa19 hoa20 hoa21 hoa10 M H locs hob hs0 h49 hfr hP hD hS ls hl
              have hjoin_227 : ∀ (ob : Nat → Int), (hob17 : ob 17 = ov 17 + 1) → (hob18 : ob 18 = zGt (ov 18) (zApt (mP S) (S 0))) → (hob19 : ob 19 = zMo o (S 0) (ov 19) (mP S o)) → (hob20 : ob 20 = ov 20) → (hob21 : ob 21 = ov 21) → (hob10 : ob 10 = ov 10) → ∀ (M : xM) (H : Heap) (locs : List Loc), (hob : M (37) = .inr (12, [.ref (g.2.2 38), .ref (g.2.2 39), .ref (g.2.2 40), .ref (g.2.2 41), .ref (g.2.2 42), .ref (g.2.2 43), .ref (g.2.2 44), .ref (g.2.2 45), .ref (g.2.2 46), .ref (g.2.2 47), .int (iI (ob 10)), .int (iI (ob 11)), .int (iI (ob 12)), .int (iI (ob 13)), .int (iI (ob 14)), .int (iI (ob 15)), .ref (g.2.2 48), .int (iI (ob 17)), .int (iI (ob 18)), .int (iI (ob 19)), .int (iI (ob 20)), .int (iI (ob 21)), .ref (g.2.2 49), .int (iI (ob 23))])) → (hs0 : M (38) = .inl (g.2.1 0, 29, .inl (fun k => iI (S (k : Int))))) → (h49 : M (49) = .inl (g.2.1 0, 8, .inl (fun k => iI (Wz (k : Int))))) → (hfr : ∀ j, (j ≠ 37) → M j = σ.1 j) → xP g (M, σ.2) H → xD g A (M, σ.2) → va_S A s.heap H locs → ∀ (ls : Array Slot), lv_has ls 9 [(7, .int (iI (0))), (2, .int (iI (lst))), (3, .int (iI (grt))), (4, .int (iI (car))), (5, .int (iI (hnd))), (6, .int (iI (an))), (0, .ref (g.2.2 37)), (1, .int (iI (o)))] → W p l e (headSpec wsX12_partsAre ({ frames := 8, cells := 0, slots := 0, locals := 256 })).room s m ([.ref (g.2.2 37), .int (iI (o))] : List Value).toArray below meth c H locs 0 0 (MQ below (x_Qv g A (fun σ1 => σ1.2 = σ.2 ∧ (∀ j, j ≠ 37 → σ1.1 j = σ.1 j) ∧ ∃ ov2, MObj g σ1.1 ov2 ∧ zAc ov2 = zNote (mK S) (mF S) Wz (S 0) (S 1) o (mP S) (zAc ov) ∧ zAccOk (zAc ov2) ∧ ov2 10 = ov 10)) ([.ref (g.2.2 37), .int (iI (o))] : List Value).toArray s (0) (0) A) (F0 m 227 ls []) := by
                intro ob hob17 hob18 hob19 hob20 hob21 hob10 M H locs hob hs0 h49 hfr hP hD hS ls hl
                have hjoin_256 : ∀ (oc : Nat → Int), (hoc17 : oc 17 = ov 17 + 1) → (hoc18 : oc 18 = zGt (ov 18) (zApt (mP S) (S 0))) → (hoc19 : oc 19 = zMo o (S 0) (ov 19) (mP S o)) → (hoc20 : oc 20 = zFw (ov 20) (zHnd Wz (mP S) (S 0).toNat)) → (hoc21 : oc 21 = ov 21) → (hoc10 : oc 10 = ov 10) → ∀ (M : xM) (H : Heap) (locs : List Loc), (hob : M (37) = .inr (12, [.ref (g.2.2 38), .ref (g.2.2 39), .ref (g.2.2 40), .ref (g.2.2 41), .ref (g.2.2 42), .ref (g.2.2 43), .ref (g.2.2 44), .ref (g.2.2 45), .ref (g.2.2 46), .ref (g.2.2 47), .int (iI (oc 10)), .int (iI (oc 11)), .int (iI (oc 12)), .int (iI (oc 13)), .int (iI (oc 14)), .int (iI (oc 15)), .ref (g.2.2 48), .int (iI (oc 17)), .int (iI (oc 18)), .int (iI (oc 19)), .int (iI (oc 20)), .int (iI (oc 21)), .ref (g.2.2 49), .int (iI (oc 23))])) → (hs0 : M (38) = .inl (g.2.1 0, 29, .inl (fun k => iI (S (k : Int))))) → (h49 : M (49) = .inl (g.2.1 0, 8, .inl (fun k => iI (Wz (k : Int))))) → (hfr : ∀ j, (j ≠ 37) → M j = σ.1 j) → xP g (M, σ.2) H → xD g A (M, σ.2) → va_S A s.heap H locs → ∀ (ls : Array Slot), lv_has ls 9 [(7, .int (iI (0))), (2, .int (iI (lst))), (3, .int (iI (grt))), (4, .int (iI (car))), (5, .int (iI (hnd))), (6, .int (iI (an))), (0, .ref (g.2.2 37)), (1, .int (iI (o)))] → W p l e (headSpec wsX12_partsAre ({ frames := 8, cells := 0, slots := 0, locals := 256 })).room s m ([.ref (g.2.2 37), .int (iI (o))] : List Value).toArray below meth c H locs 0 0 (MQ below (x_Qv g A (fun σ1 => σ1.2 = σ.2 ∧ (∀ j, j ≠ 37 → σ1.1 j = σ.1 j) ∧ ∃ ov2, MObj g σ1.1 ov2 ∧ zAc ov2 = zNote (mK S) (mF S) Wz (S 0) (S 1) o (mP S) (zAc ov) ∧ zAccOk (zAc ov2) ∧ ov2 10 = ov 10)) ([.ref (g.2.2 37), .int (iI (o))] : List Value).toArray s (0) (0) A) (F0 m 256 ls []) := by
                  intro oc hoc17 hoc18 hoc19 hoc20 hoc21 hoc10 M H locs hob hs0 h49 hfr hP hD hS ls hl
                  refine lv_aload_n hx hb dX12_partsAre_256 rfl (lv_at hl 6 rfl) ?_
                  refine lv_aload_n hx hb dX12_partsAre_257 rfl (lv_at hl 6 rfl) ?_
                  refine x_get (C := RX12) (T := TX12) (N := 24) hx hb hts hin_X12 hown hK hP (37) (by decide) hob rfl 21 (by decide) hw_3 (fun _ h9 => h9) rfl dX12_partsAre_258 ?_
                  refine x_if_lt (tgt := 273) hx hb (by omega) dX12_partsAre_261 (by decide) (fun c_261 => ?_) (fun c_261 => ?_)
                  · refine lv_iload hx hb dX12_partsAre_273 (lv_at hl 5 rfl) ?_
                    refine lv_goto (tgt := 282) hx hb dX12_partsAre_275 (by decide) ?_
                    refine x_put (C := RX12) (T := TX12) (N := 24) (ty := .int) hx hb hts hin_X12 hown hK hP hD hS (37) (by decide) hob rfl tyX12 tyX12_ok nmX12 21 (by decide) hw_3 (fun _ h9 => h9) rfl (by decide +kernel) rfl rfl (Nat.le_of_ble_eq_true rfl) dX12_partsAre_282 (fun M_28 H locs hnew hne hP hD hS => ?_)
                    obtain ⟨ov_29, hov_29⟩ : ∃ q : Nat → Int, q = va_up (oc) 21 (an) := ⟨_, rfl⟩
                    have vov_29 : ov_29 21 = an := by rw [hov_29]; rfl
                    have nov_29 : ∀ j, j ≠ 21 → ov_29 j = oc j := fun j hj => by rw [hov_29]; exact va_up_ne _ _ hj
                    have hnew : MObj g M_28 ov_29 := by rw [hov_29]; exact hnew
                    have hP : xP g (M_28, σ.2) H := hP
                    have hD : xD g A (M_28, σ.2) := hD
                    have hob : MObj g M_28 ov_29 := hnew
                    have hs0 := (hne (38) (by decide)).trans hs0
                    have h49 := (hne (49) (by decide)).trans h49
                    have hfr := x_fr (F := fun j => j ≠ 37) hfr hne (fun j h => by have h : j ≠ 37 := h; omega)
                    refine x_retQv hx hb hr ?_ hP hD hS dX12_partsAre_285 hlocks
                    have z21 : ov_29 21 = zFw (ov 21) (zAnS Wz (mP S) (S 0).toNat) := by (refine vov_29.trans ?_; (first | unfold zGt | unfold zMo | unfold zFw); first | (rw [if_pos (by omega)]; omega) | (rw [if_neg (by omega)]; omega))
                    have z17 := ((nov_29 17 (by decide)).trans hoc17)
                    have z18 := ((nov_29 18 (by decide)).trans hoc18)
                    have z19 := ((nov_29 19 (by decide)).trans hoc19)
                    have z20 := ((nov_29 20 (by decide)).trans hoc20)
                    have z10 := ((nov_29 10 (by decide)).trans hoc10)
                    refine ⟨rfl, hfr, ov_29, hob, ?_, ?_, z10⟩
                    · unfold zNote; rw [if_neg (by omega)]; exact Prod.ext z17 (Prod.ext z18 (Prod.ext z19 (Prod.ext z20 z21)))
                    · show (-4 ≤ ov_29 18 ∧ ov_29 18 ≤ 9999) ∧ (-4 ≤ ov_29 19 ∧ ov_29 19 ≤ 9999) ∧ (-4 ≤ ov_29 20 ∧ ov_29 20 ≤ 10000000) ∧ (-4 ≤ ov_29 21 ∧ ov_29 21 ≤ 10000000)
                      rw [z18, z19, z20, z21, hapt, e4n, e5n]
                      unfold zGt zMo zFw
                      refine ⟨?_, ?_, ?_, ?_⟩ <;> split <;> omega
                  · refine lv_iload hx hb dX12_partsAre_264 (lv_at hl 5 rfl) ?_
                    refine lv_aload_n hx hb dX12_partsAre_266 rfl (lv_at hl 6 rfl) ?_
                    refine x_get (C := RX12) (T := TX12) (N := 24) hx hb hts hin_X12 hown hK hP (37) (by decide) hob rfl 21 (by decide) hw_3 (fun _ h9 => h9) rfl dX12_partsAre_267 ?_
                    refine x_icmp_ge (tgt := 278) hx hb (by omega) (by omega) dX12_partsAre_270 (by decide) (fun c_270 => ?_) (fun c_270 => ?_)
                    · refine lv_aload_n hx hb dX12_partsAre_278 rfl (lv_at hl 6 rfl) ?_
                      refine x_get (C := RX12) (T := TX12) (N := 24) hx hb hts hin_X12 hown hK hP (37) (by decide) hob rfl 21 (by decide) hw_3 (fun _ h9 => h9) rfl dX12_partsAre_279 ?_
                      refine x_put (C := RX12) (T := TX12) (N := 24) (ty := .int) hx hb hts hin_X12 hown hK hP hD hS (37) (by decide) hob rfl tyX12 tyX12_ok nmX12 21 (by decide) hw_3 (fun _ h9 => h9) rfl (by decide +kernel) rfl rfl (Nat.le_of_ble_eq_true rfl) dX12_partsAre_282 (fun M_30 H locs hnew hne hP hD hS => ?_)
                      obtain ⟨ov_31, hov_31⟩ : ∃ q : Nat → Int, q = va_up (oc) 21 (oc 21) := ⟨_, rfl⟩
                      have vov_31 : ov_31 21 = oc 21 := by rw [hov_31]; rfl
                      have nov_31 : ∀ j, j ≠ 21 → ov_31 j = oc j := fun j hj => by rw [hov_31]; exact va_up_ne _ _ hj
                      have hnew : MObj g M_30 ov_31 := by rw [hov_31]; exact hnew
                      have hP : xP g (M_30, σ.2) H := hP
                      have hD : xD g A (M_30, σ.2) := hD
                      have hob : MObj g M_30 ov_31 := hnew
                      have hs0 := (hne (38) (by decide)).trans hs0
                      have h49 := (hne (49) (by decide)).trans h49
                      have hfr := x_fr (F := fun j => j ≠ 37) hfr hne (fun j h => by have h : j ≠ 37 := h; omega)
                      refine x_retQv hx hb hr ?_ hP hD hS dX12_partsAre_285 hlocks
                      have z21 : ov_31 21 = zFw (ov 21) (zAnS Wz (mP S) (S 0).toNat) := by (refine vov_31.trans ?_; (first | unfold zGt | unfold zMo | unfold zFw); first | (rw [if_pos (by omega)]; omega) | (rw [if_neg (by omega)]; omega))
                      have z17 := ((nov_31 17 (by decide)).trans hoc17)
                      have z18 := ((nov_31 18 (by decide)).trans hoc18)
                      have z19 := ((nov_31 19 (by decide)).trans hoc19)
                      have z20 := ((nov_31 20 (by decide)).trans hoc20)
                      have z10 := ((nov_31 10 (by decide)).trans hoc10)
                      refine ⟨rfl, hfr, ov_31, hob, ?_, ?_, z10⟩
                      · unfold zNote; rw [if_neg (by omega)]; exact Prod.ext z17 (Prod.ext z18 (Prod.ext z19 (Prod.ext z20 z21)))
                      · show (-4 ≤ ov_31 18 ∧ ov_31 18 ≤ 9999) ∧ (-4 ≤ ov_31 19 ∧ ov_31 19 ≤ 9999) ∧ (-4 ≤ ov_31 20 ∧ ov_31 20 ≤ 10000000) ∧ (-4 ≤ ov_31 21 ∧ ov_31 21 ≤ 10000000)
                        rw [z18, z19, z20, z21, hapt, e4n, e5n]
                        unfold zGt zMo zFw
                        refine ⟨?_, ?_, ?_, ?_⟩ <;> split <;> omega
                    · refine lv_iload hx hb dX12_partsAre_273 (lv_at hl 5 rfl) ?_
                      refine lv_goto (tgt := 282) hx hb dX12_partsAre_275 (by decide) ?_
                      refine x_put (C := RX12) (T := TX12) (N := 24) (ty := .int) hx hb hts hin_X12 hown hK hP hD hS (37) (by decide) hob rfl tyX12 tyX12_ok nmX12 21 (by decide) hw_3 (fun _ h9 => h9) rfl (by decide +kernel) rfl rfl (Nat.le_of_ble_eq_true rfl) dX12_partsAre_282 (fun M_32 H locs hnew hne hP hD hS => ?_)
                      obtain ⟨ov_33, hov_33⟩ : ∃ q : Nat → Int, q = va_up (oc) 21 (an) := ⟨_, rfl⟩
                      have vov_33 : ov_33 21 = an := by rw [hov_33]; rfl
                      have nov_33 : ∀ j, j ≠ 21 → ov_33 j = oc j := fun j hj => by rw [hov_33]; exact va_up_ne _ _ hj
                      have hnew : MObj g M_32 ov_33 := by rw [hov_33]; exact hnew
                      have hP : xP g (M_32, σ.2) H := hP
                      have hD : xD g A (M_32, σ.2) := hD
                      have hob : MObj g M_32 ov_33 := hnew
                      have hs0 := (hne (38) (by decide)).trans hs0
                      have h49 := (hne (49) (by decide)).trans h49
                      have hfr := x_fr (F := fun j => j ≠ 37) hfr hne (fun j h => by have h : j ≠ 37 := h; omega)
                      refine x_retQv hx hb hr ?_ hP hD hS dX12_partsAre_285 hlocks
                      have z21 : ov_33 21 = zFw (ov 21) (zAnS Wz (mP S) (S 0).toNat) := by (refine vov_33.trans ?_; (first | unfold zGt | unfold zMo | unfold zFw); first | (rw [if_pos (by omega)]; omega) | (rw [if_neg (by omega)]; omega))
                      have z17 := ((nov_33 17 (by decide)).trans hoc17)
                      have z18 := ((nov_33 18 (by decide)).trans hoc18)
                      have z19 := ((nov_33 19 (by decide)).trans hoc19)
                      have z20 := ((nov_33 20 (by decide)).trans hoc20)
                      have z10 := ((nov_33 10 (by decide)).trans hoc10)
                      refine ⟨rfl, hfr, ov_33, hob, ?_, ?_, z10⟩
                      · unfold zNote; rw [if_neg (by omega)]; exact Prod.ext z17 (Prod.ext z18 (Prod.ext z19 (Prod.ext z20 z21)))
                      · show (-4 ≤ ov_33 18 ∧ ov_33 18 ≤ 9999) ∧ (-4 ≤ ov_33 19 ∧ ov_33 19 ≤ 9999) ∧ (-4 ≤ ov_33 20 ∧ ov_33 20 ≤ 10000000) ∧ (-4 ≤ ov_33 21 ∧ ov_33 21 ≤ 10000000)
                        rw [z18, z19, z20, z21, hapt, e4n, e5n]
                        unfold zGt zMo zFw
                        refine ⟨?_, ?_, ?_, ?_⟩ <;> split <;> omega
                refine lv_aload_n hx hb dX12_partsAre_227 rfl (lv_at hl 6 rfl) ?_
                refine lv_aload_n hx hb dX12_partsAre_228 rfl (lv_at hl 6 rfl) ?_
                refine x_get (C := RX12) (T := TX12) (N := 24) hx hb hts hin_X12 hown hK hP (37) (by decide) hob rfl 20 (by decide) hw_4 (fun _ h9 => h9) rfl dX12_partsAre_229 ?_
                refine x_if_lt (tgt := 244) hx hb (by omega) dX12_partsAre_232 (by decide) (fun c_232 => ?_) (fun c_232 => ?_)
                · refine lv_iload hx hb dX12_partsAre_244 (lv_at hl 4 rfl) ?_
                  refine lv_goto (tgt := 253) hx hb dX12_partsAre_246 (by decide) ?_
                  refine x_put (C := RX12) (T := TX12) (N := 24) (ty := .int) hx hb hts hin_X12 hown hK hP hD hS (37) (by decide) hob rfl tyX12 tyX12_ok nmX12 20 (by decide) hw_4 (fun _ h9 => h9) rfl (by decide +kernel) rfl rfl (Nat.le_of_ble_eq_true rfl) dX12_partsAre_253 (fun M_34 H locs hnew hne hP hD hS => ?_)
                  obtain ⟨ov_35, hov_35⟩ : ∃ q : Nat → Int, q = va_up (ob) 20 (hnd) := ⟨_, rfl⟩
                  have vov_35 : ov_35 20 = hnd := by rw [hov_35]; rfl
                  have nov_35 : ∀ j, j ≠ 20 → ov_35 j = ob j := fun j hj => by rw [hov_35]; exact va_up_ne _ _ hj
                  have hnew : MObj g M_34 ov_35 := by rw [hov_35]; exact hnew
                  have hP : xP g (M_34, σ.2) H := hP
                  have hD : xD g A (M_34, σ.2) := hD
                  have hob : MObj g M_34 ov_35 := hnew
                  have hs0 := (hne (38) (by decide)).trans hs0
                  have h49 := (hne (49) (by decide)).trans h49
                  have hfr := x_fr (F := fun j => j ≠ 37) hfr hne (fun j h => by have h : j ≠ 37 := h; omega)
                  exact hjoin_256 (ov_35) (by exact ((nov_35 17 (by decide)).trans hob17)) (by exact ((nov_35 18 (by decide)).trans hob18)) (by exact ((nov_35 19 (by decide)).trans hob19)) (by refine vov_35.trans ?_; (first | unfold zGt | unfold zMo | unfold zFw); first | (rw [if_pos (by omega)]; omega) | (rw [if_neg (by omega)]; omega)) (by exact ((nov_35 21 (by decide)).trans hob21)) (by exact ((nov_35 10 (by decide)).trans hob10)) (M_34) _ _ hob hs0 h49 hfr hP hD hS ls (lv_sub hl [0, 1, 2, 3, 4, 5, 6, 7] rfl)
                · refine lv_iload hx hb dX12_partsAre_235 (lv_at hl 4 rfl) ?_
                  refine lv_aload_n hx hb dX12_partsAre_237 rfl (lv_at hl 6 rfl) ?_
                  refine x_get (C := RX12) (T := TX12) (N := 24) hx hb hts hin_X12 hown hK hP (37) (by decide) hob rfl 20 (by decide) hw_4 (fun _ h9 => h9) rfl dX12_partsAre_238 ?_
                  refine x_icmp_ge (tgt := 249) hx hb (by omega) (by omega) dX12_partsAre_241 (by decide) (fun c_241 => ?_) (fun c_241 => ?_)
                  · refine lv_aload_n hx hb dX12_partsAre_249 rfl (lv_at hl 6 rfl) ?_
                    refine x_get (C := RX12) (T := TX12) (N := 24) hx hb hts hin_X12 hown hK hP (37) (by decide) hob rfl 20 (by decide) hw_4 (fun _ h9 => h9) rfl dX12_partsAre_250 ?_
                    refine x_put (C := RX12) (T := TX12) (N := 24) (ty := .int) hx hb hts hin_X12 hown hK hP hD hS (37) (by decide) hob rfl tyX12 tyX12_ok nmX12 20 (by decide) hw_4 (fun _ h9 => h9) rfl (by decide +kernel) rfl rfl (Nat.le_of_ble_eq_true rfl) dX12_partsAre_253 (fun M_36 H locs hnew hne hP hD hS => ?_)
                    obtain ⟨ov_37, hov_37⟩ : ∃ q : Nat → Int, q = va_up (ob) 20 (ob 20) := ⟨_, rfl⟩
                    have vov_37 : ov_37 20 = ob 20 := by rw [hov_37]; rfl
                    have nov_37 : ∀ j, j ≠ 20 → ov_37 j = ob j := fun j hj => by rw [hov_37]; exact va_up_ne _ _ hj
                    have hnew : MObj g M_36 ov_37 := by rw [hov_37]; exact hnew
                    have hP : xP g (M_36, σ.2) H := hP
                    have hD : xD g A (M_36, σ.2) := hD
                    have hob : MObj g M_36 ov_37 := hnew
                    have hs0 := (hne (38) (by decide)).trans hs0
                    have h49 := (hne (49) (by decide)).trans h49
                    have hfr := x_fr (F := fun j => j ≠ 37) hfr hne (fun j h => by have h : j ≠ 37 := h; omega)
                    exact hjoin_256 (ov_37) (by exact ((nov_37 17 (by decide)).trans hob17)) (by exact ((nov_37 18 (by decide)).trans hob18)) (by exact ((nov_37 19 (by decide)).trans hob19)) (by refine vov_37.trans ?_; (first | unfold zGt | unfold zMo | unfold zFw); first | (rw [if_pos (by omega)]; omega) | (rw [if_neg (by omega)]; omega)) (by exact ((nov_37 21 (by decide)).trans hob21)) (by exact ((nov_37 10 (by decide)).trans hob10)) (M_36) _ _ hob hs0 h49 hfr hP hD hS ls (lv_sub hl [0, 1, 2, 3, 4, 5, 6, 7] rfl)
                  · refine lv_iload hx hb dX12_partsAre_244 (lv_at hl 4 rfl) ?_
                    refine lv_goto (tgt := 253) hx hb dX12_partsAre_246 (by decide) ?_
                    refine x_put (C := RX12) (T := TX12) (N := 24) (ty := .int) hx hb hts hin_X12 hown hK hP hD hS (37) (by decide) hob rfl tyX12 tyX12_ok nmX12 20 (by decide) hw_4 (fun _ h9 => h9) rfl (by decide +kernel) rfl rfl (Nat.le_of_ble_eq_true rfl) dX12_partsAre_253 (fun M_38 H locs hnew hne hP hD hS => ?_)
                    obtain ⟨ov_39, hov_39⟩ : ∃ q : Nat → Int, q = va_up (ob) 20 (hnd) := ⟨_, rfl⟩
                    have vov_39 : ov_39 20 = hnd := by rw [hov_39]; rfl
                    have nov_39 : ∀ j, j ≠ 20 → ov_39 j = ob j := fun j hj => by rw [hov_39]; exact va_up_ne _ _ hj
                    have hnew : MObj g M_38 ov_39 := by rw [hov_39]; exact hnew
                    have hP : xP g (M_38, σ.2) H := hP
                    have hD : xD g A (M_38, σ.2) := hD
                    have hob : MObj g M_38 ov_39 := hnew
                    have hs0 := (hne (38) (by decide)).trans hs0
                    have h49 := (hne (49) (by decide)).trans h49
                    have hfr := x_fr (F := fun j => j ≠ 37) hfr hne (fun j h => by have h : j ≠ 37 := h; omega)
                    exact hjoin_256 (ov_39) (by exact ((nov_39 17 (by decide)).trans hob17)) (by exact ((nov_39 18 (by decide)).trans hob18)) (by exact ((nov_39 19 (by decide)).trans hob19)) (by refine vov_39.trans ?_; (first | unfold zGt | unfold zMo | unfold zFw); first | (rw [if_pos (by omega)]; omega) | (rw [if_neg (by omega)]; omega)) (by exact ((nov_39 21 (by decide)).trans hob21)) (by exact ((nov_39 10 (by decide)).trans hob10)) (M_38) _ _ hob hs0 h49 hfr hP hD hS ls (lv_sub hl [0, 1, 2, 3, 4, 5, 6, 7] rfl)
              refine lv_aload_n hx hb dX12_partsAre_191 rfl (lv_at hl 6 rfl) ?_
              refine lv_aload_n hx hb dX12_partsAre_192 rfl (lv_at hl 6 rfl) ?_
              refine lv_iload_n hx hb dX12_partsAre_193 rfl (lv_at hl 7 rfl) ?_
              refine x_ci (va_runV (As := [.int (iI (o))]) (rest := [.ref (g.2.2 37)]) ⟨hx, hb, hml, hown, hts⟩ (c_X12_isHouse l g (M, σ.2) (oa) S hob hs0 hok (o) (by omega)) (cwV 1 hts gX12_partsAre_X12_isHouse rfl rfl rfl (by decide +kernel) ⟨Nat.le_of_ble_eq_true rfl, Nat.le_of_ble_eq_true rfl⟩) (x_preV hK hP (x_recv hK hP (i := 37) (by decide) hob rfl)) rfl rfl hl.1 rfl (lv_room (Nat.le_of_ble_eq_true rfl)) dX12_partsAre_194 ⟨Nat.le_of_ble_eq_true rfl, Nat.le_of_ble_eq_true rfl⟩) (fun r_194 hr_194 qr_194 => ?_)
              replace qr_194 : (r_194 = 1 ∧ 0 ≤ (o) ∧ (o) < S 0) ∨ (r_194 = 0 ∧ ¬ (0 ≤ (o) ∧ (o) < S 0)) := qr_194
              refine x_if_eq (tgt := 220) hx hb (by omega) dX12_partsAre_197 (by decide) (fun c_197 => ?_) (fun c_197 => ?_)
              · refine lv_aload_n hx hb dX12_partsAre_220 rfl (lv_at hl 6 rfl) ?_
                refine x_get (C := RX12) (T := TX12) (N := 24) hx hb hts hin_X12 hown hK hP (37) (by decide) hob rfl 19 (by decide) hw_5 (fun _ h9 => h9) rfl dX12_partsAre_221 ?_
                refine x_put (C := RX12) (T := TX12) (N := 24) (ty := .int) hx hb hts hin_X12 hown hK hP hD hS (37) (by decide) hob rfl tyX12 tyX12_ok nmX12 19 (by decide) hw_5 (fun _ h9 => h9) rfl (by decide +kernel) rfl rfl (Nat.le_of_ble_eq_true rfl) dX12_partsAre_224 (fun M_40 H locs hnew hne hP hD hS => ?_)
                obtain ⟨ov_41, hov_41⟩ : ∃ q : Nat → Int, q = va_up (oa) 19 (oa 19) := ⟨_, rfl⟩
                have vov_41 : ov_41 19 = oa 19 := by rw [hov_41]; rfl
                have nov_41 : ∀ j, j ≠ 19 → ov_41 j = oa j := fun j hj => by rw [hov_41]; exact va_up_ne _ _ hj
                have hnew : MObj g M_40 ov_41 := by rw [hov_41]; exact hnew
                have hP : xP g (M_40, σ.2) H := hP
                have hD : xD g A (M_40, σ.2) := hD
                have hob : MObj g M_40 ov_41 := hnew
                have hs0 := (hne (38) (by decide)).trans hs0
                have h49 := (hne (49) (by decide)).trans h49
                have hfr := x_fr (F := fun j => j ≠ 37) hfr hne (fun j h => by have h : j ≠ 37 := h; omega)
                exact hjoin_227 (ov_41) (by exact ((nov_41 17 (by decide)).trans hoa17)) (by exact ((nov_41 18 (by decide)).trans hoa18)) (by refine vov_41.trans ?_; (first | unfold zGt | unfold zMo | unfold zFw); first | (rw [if_pos (by omega)]; omega) | (rw [if_neg (by omega)]; omega)) (by exact ((nov_41 20 (by decide)).trans hoa20)) (by exact ((nov_41 21 (by decide)).trans hoa21)) (by exact ((nov_41 10 (by decide)).trans hoa10)) (M_40) _ _ hob hs0 h49 hfr hP hD hS ls (lv_sub hl [0, 1, 2, 3, 4, 5, 6, 7] rfl)
              · refine lv_aload_n hx hb dX12_partsAre_200 rfl (lv_at hl 6 rfl) ?_
                refine lv_iload_n hx hb dX12_partsAre_201 rfl (lv_at hl 7 rfl) ?_
                refine x_ci (va_runV (As := [.int (iI (o))]) (rest := [.ref (g.2.2 37)]) ⟨hx, hb, hml, hown, hts⟩ (c_X12_purse l g (M, σ.2) (oa) S hob hs0 hok.1 (o) (by omega)) (cwV 1 hts gX12_partsAre_X12_purse rfl rfl rfl (by decide +kernel) ⟨Nat.le_of_ble_eq_true rfl, Nat.le_of_ble_eq_true rfl⟩) (x_preV hK hP (x_recv hK hP (i := 37) (by decide) hob rfl)) rfl rfl hl.1 rfl (lv_room (Nat.le_of_ble_eq_true rfl)) dX12_partsAre_202 ⟨Nat.le_of_ble_eq_true rfl, Nat.le_of_ble_eq_true rfl⟩) (fun r_202 hr_202 qr_202 => ?_)
                replace qr_202 : r_202 = S (2 + 3 * (o) + 2) := qr_202
                refine lv_aload_n hx hb dX12_partsAre_205 rfl (lv_at hl 6 rfl) ?_
                refine x_get (C := RX12) (T := TX12) (N := 24) hx hb hts hin_X12 hown hK hP (37) (by decide) hob rfl 19 (by decide) hw_5 (fun _ h9 => h9) rfl dX12_partsAre_206 ?_
                refine x_icmp_le (tgt := 220) hx hb (by omega) (by omega) dX12_partsAre_209 (by decide) (fun c_209 => ?_) (fun c_209 => ?_)
                · refine lv_aload_n hx hb dX12_partsAre_220 rfl (lv_at hl 6 rfl) ?_
                  refine x_get (C := RX12) (T := TX12) (N := 24) hx hb hts hin_X12 hown hK hP (37) (by decide) hob rfl 19 (by decide) hw_5 (fun _ h9 => h9) rfl dX12_partsAre_221 ?_
                  refine x_put (C := RX12) (T := TX12) (N := 24) (ty := .int) hx hb hts hin_X12 hown hK hP hD hS (37) (by decide) hob rfl tyX12 tyX12_ok nmX12 19 (by decide) hw_5 (fun _ h9 => h9) rfl (by decide +kernel) rfl rfl (Nat.le_of_ble_eq_true rfl) dX12_partsAre_224 (fun M_42 H locs hnew hne hP hD hS => ?_)
                  obtain ⟨ov_43, hov_43⟩ : ∃ q : Nat → Int, q = va_up (oa) 19 (oa 19) := ⟨_, rfl⟩
                  have vov_43 : ov_43 19 = oa 19 := by rw [hov_43]; rfl
                  have nov_43 : ∀ j, j ≠ 19 → ov_43 j = oa j := fun j hj => by rw [hov_43]; exact va_up_ne _ _ hj
                  have hnew : MObj g M_42 ov_43 := by rw [hov_43]; exact hnew
                  have hP : xP g (M_42, σ.2) H := hP
                  have hD : xD g A (M_42, σ.2) := hD
                  have hob : MObj g M_42 ov_43 := hnew
                  have hs0 := (hne (38) (by decide)).trans hs0
                  have h49 := (hne (49) (by decide)).trans h49
                  have hfr := x_fr (F := fun j => j ≠ 37) hfr hne (fun j h => by have h : j ≠ 37 := h; omega)
                  exact hjoin_227 (ov_43) (by exact ((nov_43 17 (by decide)).trans hoa17)) (by exact ((nov_43 18 (by decide)).trans hoa18)) (by refine vov_43.trans ?_; (first | unfold zGt | unfold zMo | unfold zFw); first | (rw [if_pos (by omega)]; omega) | (rw [if_neg (by omega)]; omega)) (by exact ((nov_43 20 (by decide)).trans hoa20)) (by exact ((nov_43 21 (by decide)).trans hoa21)) (by exact ((nov_43 10 (by decide)).trans hoa10)) (M_42) _ _ hob hs0 h49 hfr hP hD hS ls (lv_sub hl [0, 1, 2, 3, 4, 5, 6, 7] rfl)
                · refine lv_aload_n hx hb dX12_partsAre_212 rfl (lv_at hl 6 rfl) ?_
                  refine lv_iload_n hx hb dX12_partsAre_213 rfl (lv_at hl 7 rfl) ?_
                  refine x_ci (va_runV (As := [.int (iI (o))]) (rest := [.ref (g.2.2 37)]) ⟨hx, hb, hml, hown, hts⟩ (c_X12_purse l g (M, σ.2) (oa) S hob hs0 hok.1 (o) (by omega)) (cwV 1 hts gX12_partsAre_X12_purse rfl rfl rfl (by decide +kernel) ⟨Nat.le_of_ble_eq_true rfl, Nat.le_of_ble_eq_true rfl⟩) (x_preV hK hP (x_recv hK hP (i := 37) (by decide) hob rfl)) rfl rfl hl.1 rfl (lv_room (Nat.le_of_ble_eq_true rfl)) dX12_partsAre_214 ⟨Nat.le_of_ble_eq_true rfl, Nat.le_of_ble_eq_true rfl⟩) (fun r_214 hr_214 qr_214 => ?_)
                  replace qr_214 : r_214 = S (2 + 3 * (o) + 2) := qr_214
                  refine lv_goto (tgt := 224) hx hb dX12_partsAre_217 (by decide) ?_
                  refine x_put (C := RX12) (T := TX12) (N := 24) (ty := .int) hx hb hts hin_X12 hown hK hP hD hS (37) (by decide) hob rfl tyX12 tyX12_ok nmX12 19 (by decide) hw_5 (fun _ h9 => h9) rfl (by decide +kernel) rfl rfl (Nat.le_of_ble_eq_true rfl) dX12_partsAre_224 (fun M_44 H locs hnew hne hP hD hS => ?_)
                  obtain ⟨ov_45, hov_45⟩ : ∃ q : Nat → Int, q = va_up (oa) 19 (r_214) := ⟨_, rfl⟩
                  have vov_45 : ov_45 19 = r_214 := by rw [hov_45]; rfl
                  have nov_45 : ∀ j, j ≠ 19 → ov_45 j = oa j := fun j hj => by rw [hov_45]; exact va_up_ne _ _ hj
                  have hnew : MObj g M_44 ov_45 := by rw [hov_45]; exact hnew
                  have hP : xP g (M_44, σ.2) H := hP
                  have hD : xD g A (M_44, σ.2) := hD
                  have hob : MObj g M_44 ov_45 := hnew
                  have hs0 := (hne (38) (by decide)).trans hs0
                  have h49 := (hne (49) (by decide)).trans h49
                  have hfr := x_fr (F := fun j => j ≠ 37) hfr hne (fun j h => by have h : j ≠ 37 := h; omega)
                  exact hjoin_227 (ov_45) (by exact ((nov_45 17 (by decide)).trans hoa17)) (by exact ((nov_45 18 (by decide)).trans hoa18)) (by refine vov_45.trans ?_; (first | unfold zGt | unfold zMo | unfold zFw); first | (rw [if_pos (by omega)]; omega) | (rw [if_neg (by omega)]; omega)) (by exact ((nov_45 20 (by decide)).trans hoa20)) (by exact ((nov_45 21 (by decide)).trans hoa21)) (by exact ((nov_45 10 (by decide)).trans hoa10)) (M_44) _ _ hob hs0 h49 hfr hP hD hS ls (lv_sub hl [0, 1, 2, 3, 4, 5, 6, 7] rfl)
            refine lv_aload_n hx hb dX12_partsAre_169 rfl (lv_at hl 6 rfl) ?_
            refine lv_iload hx hb dX12_partsAre_170 (lv_at hl 0 rfl) ?_
            refine lv_aload_n hx hb dX12_partsAre_172 rfl (lv_at hl 6 rfl) ?_
            refine x_get (C := RX12) (T := TX12) (N := 24) hx hb hts hin_X12 hown hK hP (37) (by decide) hob rfl 18 (by decide) hw_6 (fun _ h9 => h9) rfl dX12_partsAre_173 ?_
            refine x_icmp_le (tgt := 184) hx hb (by omega) (by omega) dX12_partsAre_176 (by decide) (fun c_176 => ?_) (fun c_176 => ?_)
            · refine lv_aload_n hx hb dX12_partsAre_184 rfl (lv_at hl 6 rfl) ?_
              refine x_get (C := RX12) (T := TX12) (N := 24) hx hb hts hin_X12 hown hK hP (37) (by decide) hob rfl 18 (by decide) hw_6 (fun _ h9 => h9) rfl dX12_partsAre_185 ?_
              refine x_put (C := RX12) (T := TX12) (N := 24) (ty := .int) hx hb hts hin_X12 hown hK hP hD hS (37) (by decide) hob rfl tyX12 tyX12_ok nmX12 18 (by decide) hw_6 (fun _ h9 => h9) rfl (by decide +kernel) rfl rfl (Nat.le_of_ble_eq_true rfl) dX12_partsAre_188 (fun M_46 H locs hnew hne hP hD hS => ?_)
              obtain ⟨ov_47, hov_47⟩ : ∃ q : Nat → Int, q = va_up (ov_2) 18 (ov_2 18) := ⟨_, rfl⟩
              have vov_47 : ov_47 18 = ov_2 18 := by rw [hov_47]; rfl
              have nov_47 : ∀ j, j ≠ 18 → ov_47 j = ov_2 j := fun j hj => by rw [hov_47]; exact va_up_ne _ _ hj
              have hnew : MObj g M_46 ov_47 := by rw [hov_47]; exact hnew
              have hP : xP g (M_46, σ.2) H := hP
              have hD : xD g A (M_46, σ.2) := hD
              have hob : MObj g M_46 ov_47 := hnew
              have hs0 := (hne (38) (by decide)).trans hs0
              have h49 := (hne (49) (by decide)).trans h49
              have hfr := x_fr (F := fun j => j ≠ 37) hfr hne (fun j h => by have h : j ≠ 37 := h; omega)
              exact hjoin_191 (ov_47) (by exact ((nov_47 17 (by decide)).trans vov_2)) (by refine vov_47.trans ?_; (first | unfold zGt | unfold zMo | unfold zFw); first | (rw [if_pos (by omega)]; omega) | (rw [if_neg (by omega)]; omega)) (by exact ((nov_47 19 (by decide)).trans ((nov_2 19 (by decide)).trans rfl))) (by exact ((nov_47 20 (by decide)).trans ((nov_2 20 (by decide)).trans rfl))) (by exact ((nov_47 21 (by decide)).trans ((nov_2 21 (by decide)).trans rfl))) (by exact ((nov_47 10 (by decide)).trans ((nov_2 10 (by decide)).trans rfl))) (M_46) _ _ hob hs0 h49 hfr hP hD hS ls (lv_sub hl [0, 1, 2, 3, 4, 5, 6, 7] rfl)
            · refine lv_iload hx hb dX12_partsAre_179 (lv_at hl 0 rfl) ?_
              refine lv_goto (tgt := 188) hx hb dX12_partsAre_181 (by decide) ?_
              refine x_put (C := RX12) (T := TX12) (N := 24) (ty := .int) hx hb hts hin_X12 hown hK hP hD hS (37) (by decide) hob rfl tyX12 tyX12_ok nmX12 18 (by decide) hw_6 (fun _ h9 => h9) rfl (by decide +kernel) rfl rfl (Nat.le_of_ble_eq_true rfl) dX12_partsAre_188 (fun M_48 H locs hnew hne hP hD hS => ?_)
              obtain ⟨ov_49, hov_49⟩ : ∃ q : Nat → Int, q = va_up (ov_2) 18 (0) := ⟨_, rfl⟩
              have vov_49 : ov_49 18 = 0 := by rw [hov_49]; rfl
              have nov_49 : ∀ j, j ≠ 18 → ov_49 j = ov_2 j := fun j hj => by rw [hov_49]; exact va_up_ne _ _ hj
              have hnew : MObj g M_48 ov_49 := by rw [hov_49]; exact hnew
              have hP : xP g (M_48, σ.2) H := hP
              have hD : xD g A (M_48, σ.2) := hD
              have hob : MObj g M_48 ov_49 := hnew
              have hs0 := (hne (38) (by decide)).trans hs0
              have h49 := (hne (49) (by decide)).trans h49
              have hfr := x_fr (F := fun j => j ≠ 37) hfr hne (fun j h => by have h : j ≠ 37 := h; omega)
              exact hjoin_191 (ov_49) (by exact ((nov_49 17 (by decide)).trans vov_2)) (by refine vov_49.trans ?_; (first | unfold zGt | unfold zMo | unfold zFw); first | (rw [if_pos (by omega)]; omega) | (rw [if_neg (by omega)]; omega)) (by exact ((nov_49 19 (by decide)).trans ((nov_2 19 (by decide)).trans rfl))) (by exact ((nov_49 20 (by decide)).trans ((nov_2 20 (by decide)).trans rfl))) (by exact ((nov_49 21 (by decide)).trans ((nov_2 21 (by decide)).trans rfl))) (by exact ((nov_49 10 (by decide)).trans ((nov_2 10 (by decide)).trans rfl))) (M_48) _ _ hob hs0 h49 hfr hP hD hS ls (lv_sub hl [0, 1, 2, 3, 4, 5, 6, 7] rfl)
        · refine lv_aload_n hx hb dX12_partsAre_47 rfl (lv_at hl 6 rfl) ?_
          refine lv_iload hx hb dX12_partsAre_48 (lv_at hl 0 rfl) ?_
          refine x_ci (va_runV (As := [.int (iI (i))]) (rest := []) ⟨hx, hb, hml, hown, hts⟩ (c_X12_purse l g (M_1, σ.2) (ov_2) S hob hs0 hok.1 (i) (by omega)) (cwV 1 hts gX12_partsAre_X12_purse rfl rfl rfl (by decide +kernel) ⟨Nat.le_of_ble_eq_true rfl, Nat.le_of_ble_eq_true rfl⟩) (x_preV hK hP (x_recv hK hP (i := 37) (by decide) hob rfl)) rfl rfl hl.1 rfl (lv_room (Nat.le_of_ble_eq_true rfl)) dX12_partsAre_50 ⟨Nat.le_of_ble_eq_true rfl, Nat.le_of_ble_eq_true rfl⟩) (fun r_50 hr_50 qr_50 => ?_)
          replace qr_50 : r_50 = S (2 + 3 * (i) + 2) := qr_50
          refine lv_istore (lv' := [(8, .int (iI (r_50))), (7, .int (iI (i))), (2, .int (iI (lst))), (3, .int (iI (grt))), (4, .int (iI (car))), (5, .int (iI (hnd))), (6, .int (iI (an))), (0, .ref (g.2.2 37)), (1, .int (iI (o)))]) hx hb dX12_partsAre_53 hl (by decide) rfl (fun ls hl => ?_)
          refine lv_iload hx hb dX12_partsAre_55 (lv_at hl 0 rfl) ?_
          refine lv_iload_n hx hb dX12_partsAre_57 rfl (lv_at hl 2 rfl) ?_
          refine x_icmp_ge (tgt := 66) hx hb (by omega) (by omega) dX12_partsAre_58 (by decide) (fun c_58 => ?_) (fun c_58 => ?_)
          · refine lv_iload_n hx hb dX12_partsAre_66 rfl (lv_at hl 2 rfl) ?_
            refine lv_istore_n (lv' := [(2, .int (iI (lst))), (8, .int (iI (r_50))), (7, .int (iI (i))), (3, .int (iI (grt))), (4, .int (iI (car))), (5, .int (iI (hnd))), (6, .int (iI (an))), (0, .ref (g.2.2 37)), (1, .int (iI (o)))]) hx hb dX12_partsAre_67 rfl hl (by decide) rfl (fun ls hl => ?_)
            refine lv_iload hx hb dX12_partsAre_68 (lv_at hl 1 rfl) ?_
            refine lv_iload_n hx hb dX12_partsAre_70 rfl (lv_at hl 3 rfl) ?_
            refine x_icmp_le (tgt := 79) hx hb (by omega) (by omega) dX12_partsAre_71 (by decide) (fun c_71 => ?_) (fun c_71 => ?_)
            · refine lv_iload_n hx hb dX12_partsAre_79 rfl (lv_at hl 3 rfl) ?_
              refine lv_istore_n (lv' := [(3, .int (iI (grt))), (2, .int (iI (lst))), (8, .int (iI (r_50))), (7, .int (iI (i))), (4, .int (iI (car))), (5, .int (iI (hnd))), (6, .int (iI (an))), (0, .ref (g.2.2 37)), (1, .int (iI (o)))]) hx hb dX12_partsAre_80 rfl hl (by decide) rfl (fun ls hl => ?_)
              refine lv_iload hx hb dX12_partsAre_81 (lv_at hl 4 rfl) ?_
              refine lv_aload_n hx hb dX12_partsAre_83 rfl (lv_at hl 7 rfl) ?_
              refine x_get (C := RX12) (T := TX12) (N := 24) hx hb hts hin_X12 hown hK hP (37) (by decide) hob rfl 22 (by decide) hw_7 (fun _ h9 => h9) rfl dX12_partsAre_84 ?_
              refine lv_iload hx hb dX12_partsAre_87 (lv_at hl 3 rfl) ?_
              refine x_iald (f := Wz) hx hb hK hP (49) (by decide) h49 (by omega) (by omega) (by decide) dX12_partsAre_89 ?_
              have hb_50 := hW (i) (by omega) (by omega)
              refine lv_iload hx hb dX12_partsAre_90 (lv_at hl 2 rfl) ?_
              refine x_isub hx hb dX12_partsAre_92 ?_
              refine x_iadd hx hb dX12_partsAre_93 ?_
              refine lv_istore (lv' := [(4, .int (iI (car + ((Wz (i)) - r_50)))), (3, .int (iI (grt))), (2, .int (iI (lst))), (8, .int (iI (r_50))), (7, .int (iI (i))), (5, .int (iI (hnd))), (6, .int (iI (an))), (0, .ref (g.2.2 37)), (1, .int (iI (o)))]) hx hb dX12_partsAre_94 hl (by decide) rfl (fun ls hl => ?_)
              refine lv_iload hx hb dX12_partsAre_96 (lv_at hl 5 rfl) ?_
              refine lv_iload hx hb dX12_partsAre_98 (lv_at hl 0 rfl) ?_
              refine x_if_ge (tgt := 109) hx hb (by omega) dX12_partsAre_100 (by decide) (fun c_100 => ?_) (fun c_100 => ?_)
              · refine lv_iload hx hb dX12_partsAre_109 (lv_at hl 0 rfl) ?_
                refine x_iadd hx hb dX12_partsAre_111 ?_
                refine lv_istore (lv' := [(5, .int (iI (hnd + (car + ((Wz (i)) - r_50))))), (4, .int (iI (car + ((Wz (i)) - r_50)))), (3, .int (iI (grt))), (2, .int (iI (lst))), (8, .int (iI (r_50))), (7, .int (iI (i))), (6, .int (iI (an))), (0, .ref (g.2.2 37)), (1, .int (iI (o)))]) hx hb dX12_partsAre_112 hl (by decide) rfl (fun ls hl => ?_)
                refine lv_iload hx hb dX12_partsAre_114 (lv_at hl 6 rfl) ?_
                refine lv_iload hx hb dX12_partsAre_116 (lv_at hl 4 rfl) ?_
                refine lv_aload_n hx hb dX12_partsAre_118 rfl (lv_at hl 7 rfl) ?_
                refine x_get (C := RX12) (T := TX12) (N := 24) hx hb hts hin_X12 hown hK hP (37) (by decide) hob rfl 22 (by decide) hw_7 (fun _ h9 => h9) rfl dX12_partsAre_119 ?_
                refine lv_iload hx hb dX12_partsAre_122 (lv_at hl 5 rfl) ?_
                refine x_iald (f := Wz) hx hb hK hP (49) (by decide) h49 (by omega) (by omega) (by decide) dX12_partsAre_124 ?_
                have hb_51 := hW (i) (by omega) (by omega)
                refine x_icmp_ge (tgt := 141) hx hb (by omega) (by omega) dX12_partsAre_125 (by decide) (fun c_125 => ?_) (fun c_125 => ?_)
                · refine x_iconst hx hb dX12_partsAre_141 ?_
                  refine x_iadd hx hb dX12_partsAre_142 ?_
                  refine lv_istore (lv' := [(6, .int (iI (an + 0))), (5, .int (iI (hnd + (car + ((Wz (i)) - r_50))))), (4, .int (iI (car + ((Wz (i)) - r_50)))), (3, .int (iI (grt))), (2, .int (iI (lst))), (8, .int (iI (r_50))), (7, .int (iI (i))), (0, .ref (g.2.2 37)), (1, .int (iI (o)))]) hx hb dX12_partsAre_143 hl (by decide) rfl (fun ls hl => ?_)
                  refine x_iinc (k0 := 6) (lv' := [(7, .int (iI (i + 1))), (6, .int (iI (an + 0))), (5, .int (iI (hnd + (car + ((Wz (i)) - r_50))))), (4, .int (iI (car + ((Wz (i)) - r_50)))), (3, .int (iI (grt))), (2, .int (iI (lst))), (8, .int (iI (r_50))), (0, .ref (g.2.2 37)), (1, .int (iI (o)))]) hx hb dX12_partsAre_145 hl rfl (by decide) rfl (fun ls hl => ?_)
                  refine lv_goto (tgt := 36) hx hb dX12_partsAre_148 (by decide) ?_
                  exact ih_3 (i + 1) (lst) (grt) (car + ((Wz (i)) - r_50)) (hnd + (car + ((Wz (i)) - r_50))) (an + 0) (by omega) (by omega) (by omega) (by rw [zMin9_succ _ hi0, ← e1]; first | (rw [if_pos (by omega)]; omega) | (rw [if_neg (by omega)])) (by rw [zMax0_succ _ hi0, ← e2]; first | (rw [if_pos (by omega)]; omega) | (rw [if_neg (by omega)])) (by unfold zCar at e3 ⊢; rw [zSum_succ _ hi0, ← e3]; omega) (by have e3x : zCar Wz (mP S) (i + 1).toNat = car + (Wz i - mP S i) := (by unfold zCar at e3 ⊢; rw [zSum_succ _ hi0, ← e3]); unfold zHnd at e4 ⊢; rw [zSum_succ _ hi0, ← e4, e3x]; unfold zAbs; first | (rw [if_pos (by omega)]; omega) | (rw [if_neg (by omega)]; omega)) (by unfold zAnS at e5 ⊢; rw [zSum_succ _ hi0, ← e5]; first | (rw [if_pos (by omega)]; omega) | (rw [if_neg (by omega)])) (by omega) (by omega) ls (lv_sub hl [0, 5, 4, 3, 2, 1, 7, 8] rfl)
                · refine lv_aload_n hx hb dX12_partsAre_128 rfl (lv_at hl 7 rfl) ?_
                  refine x_get (C := RX12) (T := TX12) (N := 24) hx hb hts hin_X12 hown hK hP (37) (by decide) hob rfl 22 (by decide) hw_7 (fun _ h9 => h9) rfl dX12_partsAre_129 ?_
                  refine lv_iload hx hb dX12_partsAre_132 (lv_at hl 5 rfl) ?_
                  refine x_iald (f := Wz) hx hb hK hP (49) (by decide) h49 (by omega) (by omega) (by decide) dX12_partsAre_134 ?_
                  have hb_52 := hW (i) (by omega) (by omega)
                  refine lv_iload hx hb dX12_partsAre_135 (lv_at hl 4 rfl) ?_
                  refine x_isub hx hb dX12_partsAre_137 ?_
                  refine lv_goto (tgt := 142) hx hb dX12_partsAre_138 (by decide) ?_
                  refine x_iadd hx hb dX12_partsAre_142 ?_
                  refine lv_istore (lv' := [(6, .int (iI (an + ((Wz (i)) - r_50)))), (5, .int (iI (hnd + (car + ((Wz (i)) - r_50))))), (4, .int (iI (car + ((Wz (i)) - r_50)))), (3, .int (iI (grt))), (2, .int (iI (lst))), (8, .int (iI (r_50))), (7, .int (iI (i))), (0, .ref (g.2.2 37)), (1, .int (iI (o)))]) hx hb dX12_partsAre_143 hl (by decide) rfl (fun ls hl => ?_)
                  refine x_iinc (k0 := 6) (lv' := [(7, .int (iI (i + 1))), (6, .int (iI (an + ((Wz (i)) - r_50)))), (5, .int (iI (hnd + (car + ((Wz (i)) - r_50))))), (4, .int (iI (car + ((Wz (i)) - r_50)))), (3, .int (iI (grt))), (2, .int (iI (lst))), (8, .int (iI (r_50))), (0, .ref (g.2.2 37)), (1, .int (iI (o)))]) hx hb dX12_partsAre_145 hl rfl (by decide) rfl (fun ls hl => ?_)
                  refine lv_goto (tgt := 36) hx hb dX12_partsAre_148 (by decide) ?_
                  exact ih_3 (i + 1) (lst) (grt) (car + ((Wz (i)) - r_50)) (hnd + (car + ((Wz (i)) - r_50))) (an + ((Wz (i)) - r_50)) (by omega) (by omega) (by omega) (by rw [zMin9_succ _ hi0, ← e1]; first | (rw [if_pos (by omega)]; omega) | (rw [if_neg (by omega)])) (by rw [zMax0_succ _ hi0, ← e2]; first | (rw [if_pos (by omega)]; omega) | (rw [if_neg (by omega)])) (by unfold zCar at e3 ⊢; rw [zSum_succ _ hi0, ← e3]; omega) (by have e3x : zCar Wz (mP S) (i + 1).toNat = car + (Wz i - mP S i) := (by unfold zCar at e3 ⊢; rw [zSum_succ _ hi0, ← e3]); unfold zHnd at e4 ⊢; rw [zSum_succ _ hi0, ← e4, e3x]; unfold zAbs; first | (rw [if_pos (by omega)]; omega) | (rw [if_neg (by omega)]; omega)) (by unfold zAnS at e5 ⊢; rw [zSum_succ _ hi0, ← e5]; first | (rw [if_pos (by omega)]; omega) | (rw [if_neg (by omega)])) (by omega) (by omega) ls (lv_sub hl [0, 5, 4, 3, 2, 1, 7, 8] rfl)
              · refine lv_iload hx hb dX12_partsAre_103 (lv_at hl 0 rfl) ?_
                refine x_ineg hx hb dX12_partsAre_105 ?_
                refine lv_goto (tgt := 111) hx hb dX12_partsAre_106 (by decide) ?_
                refine x_iadd hx hb dX12_partsAre_111 ?_
                refine lv_istore (lv' := [(5, .int (iI (hnd + (-(car + ((Wz (i)) - r_50)))))), (4, .int (iI (car + ((Wz (i)) - r_50)))), (3, .int (iI (grt))), (2, .int (iI (lst))), (8, .int (iI (r_50))), (7, .int (iI (i))), (6, .int (iI (an))), (0, .ref (g.2.2 37)), (1, .int (iI (o)))]) hx hb dX12_partsAre_112 hl (by decide) rfl (fun ls hl => ?_)
                refine lv_iload hx hb dX12_partsAre_114 (lv_at hl 6 rfl) ?_
                refine lv_iload hx hb dX12_partsAre_116 (lv_at hl 4 rfl) ?_
                refine lv_aload_n hx hb dX12_partsAre_118 rfl (lv_at hl 7 rfl) ?_
                refine x_get (C := RX12) (T := TX12) (N := 24) hx hb hts hin_X12 hown hK hP (37) (by decide) hob rfl 22 (by decide) hw_7 (fun _ h9 => h9) rfl dX12_partsAre_119 ?_
                refine lv_iload hx hb dX12_partsAre_122 (lv_at hl 5 rfl) ?_
                refine x_iald (f := Wz) hx hb hK hP (49) (by decide) h49 (by omega) (by omega) (by decide) dX12_partsAre_124 ?_
                have hb_53 := hW (i) (by omega) (by omega)
                refine x_icmp_ge (tgt := 141) hx hb (by omega) (by omega) dX12_partsAre_125 (by decide) (fun c_125 => ?_) (fun c_125 => ?_)
                · refine x_iconst hx hb dX12_partsAre_141 ?_
                  refine x_iadd hx hb dX12_partsAre_142 ?_
                  refine lv_istore (lv' := [(6, .int (iI (an + 0))), (5, .int (iI (hnd + (-(car + ((Wz (i)) - r_50)))))), (4, .int (iI (car + ((Wz (i)) - r_50)))), (3, .int (iI (grt))), (2, .int (iI (lst))), (8, .int (iI (r_50))), (7, .int (iI (i))), (0, .ref (g.2.2 37)), (1, .int (iI (o)))]) hx hb dX12_partsAre_143 hl (by decide) rfl (fun ls hl => ?_)
                  refine x_iinc (k0 := 6) (lv' := [(7, .int (iI (i + 1))), (6, .int (iI (an + 0))), (5, .int (iI (hnd + (-(car + ((Wz (i)) - r_50)))))), (4, .int (iI (car + ((Wz (i)) - r_50)))), (3, .int (iI (grt))), (2, .int (iI (lst))), (8, .int (iI (r_50))), (0, .ref (g.2.2 37)), (1, .int (iI (o)))]) hx hb dX12_partsAre_145 hl rfl (by decide) rfl (fun ls hl => ?_)
                  refine lv_goto (tgt := 36) hx hb dX12_partsAre_148 (by decide) ?_
                  exact ih_3 (i + 1) (lst) (grt) (car + ((Wz (i)) - r_50)) (hnd + (-(car + ((Wz (i)) - r_50)))) (an + 0) (by omega) (by omega) (by omega) (by rw [zMin9_succ _ hi0, ← e1]; first | (rw [if_pos (by omega)]; omega) | (rw [if_neg (by omega)])) (by rw [zMax0_succ _ hi0, ← e2]; first | (rw [if_pos (by omega)]; omega) | (rw [if_neg (by omega)])) (by unfold zCar at e3 ⊢; rw [zSum_succ _ hi0, ← e3]; omega) (by have e3x : zCar Wz (mP S) (i + 1).toNat = car + (Wz i - mP S i) := (by unfold zCar at e3 ⊢; rw [zSum_succ _ hi0, ← e3]); unfold zHnd at e4 ⊢; rw [zSum_succ _ hi0, ← e4, e3x]; unfold zAbs; first | (rw [if_pos (by omega)]; omega) | (rw [if_neg (by omega)]; omega)) (by unfold zAnS at e5 ⊢; rw [zSum_succ _ hi0, ← e5]; first | (rw [if_pos (by omega)]; omega) | (rw [if_neg (by omega)])) (by omega) (by omega) ls (lv_sub hl [0, 5, 4, 3, 2, 1, 7, 8] rfl)
                · refine lv_aload_n hx hb dX12_partsAre_128 rfl (lv_at hl 7 rfl) ?_
                  refine x_get (C := RX12) (T := TX12) (N := 24) hx hb hts hin_X12 hown hK hP (37) (by decide) hob rfl 22 (by decide) hw_7 (fun _ h9 => h9) rfl dX12_partsAre_129 ?_
                  refine lv_iload hx hb dX12_partsAre_132 (lv_at hl 5 rfl) ?_
                  refine x_iald (f := Wz) hx hb hK hP (49) (by decide) h49 (by omega) (by omega) (by decide) dX12_partsAre_134 ?_
                  have hb_54 := hW (i) (by omega) (by omega)
                  refine lv_iload hx hb dX12_partsAre_135 (lv_at hl 4 rfl) ?_
                  refine x_isub hx hb dX12_partsAre_137 ?_
                  refine lv_goto (tgt := 142) hx hb dX12_partsAre_138 (by decide) ?_
                  refine x_iadd hx hb dX12_partsAre_142 ?_
                  refine lv_istore (lv' := [(6, .int (iI (an + ((Wz (i)) - r_50)))), (5, .int (iI (hnd + (-(car + ((Wz (i)) - r_50)))))), (4, .int (iI (car + ((Wz (i)) - r_50)))), (3, .int (iI (grt))), (2, .int (iI (lst))), (8, .int (iI (r_50))), (7, .int (iI (i))), (0, .ref (g.2.2 37)), (1, .int (iI (o)))]) hx hb dX12_partsAre_143 hl (by decide) rfl (fun ls hl => ?_)
                  refine x_iinc (k0 := 6) (lv' := [(7, .int (iI (i + 1))), (6, .int (iI (an + ((Wz (i)) - r_50)))), (5, .int (iI (hnd + (-(car + ((Wz (i)) - r_50)))))), (4, .int (iI (car + ((Wz (i)) - r_50)))), (3, .int (iI (grt))), (2, .int (iI (lst))), (8, .int (iI (r_50))), (0, .ref (g.2.2 37)), (1, .int (iI (o)))]) hx hb dX12_partsAre_145 hl rfl (by decide) rfl (fun ls hl => ?_)
                  refine lv_goto (tgt := 36) hx hb dX12_partsAre_148 (by decide) ?_
                  exact ih_3 (i + 1) (lst) (grt) (car + ((Wz (i)) - r_50)) (hnd + (-(car + ((Wz (i)) - r_50)))) (an + ((Wz (i)) - r_50)) (by omega) (by omega) (by omega) (by rw [zMin9_succ _ hi0, ← e1]; first | (rw [if_pos (by omega)]; omega) | (rw [if_neg (by omega)])) (by rw [zMax0_succ _ hi0, ← e2]; first | (rw [if_pos (by omega)]; omega) | (rw [if_neg (by omega)])) (by unfold zCar at e3 ⊢; rw [zSum_succ _ hi0, ← e3]; omega) (by have e3x : zCar Wz (mP S) (i + 1).toNat = car + (Wz i - mP S i) := (by unfold zCar at e3 ⊢; rw [zSum_succ _ hi0, ← e3]); unfold zHnd at e4 ⊢; rw [zSum_succ _ hi0, ← e4, e3x]; unfold zAbs; first | (rw [if_pos (by omega)]; omega) | (rw [if_neg (by omega)]; omega)) (by unfold zAnS at e5 ⊢; rw [zSum_succ _ hi0, ← e5]; first | (rw [if_pos (by omega)]; omega) | (rw [if_neg (by omega)])) (by omega) (by omega) ls (lv_sub hl [0, 5, 4, 3, 2, 1, 7, 8] rfl)
            · refine lv_iload hx hb dX12_partsAre_74 (lv_at hl 1 rfl) ?_
              refine lv_goto (tgt := 80) hx hb dX12_partsAre_76 (by decide) ?_
              refine lv_istore_n (lv' := [(3, .int (iI (r_50))), (2, .int (iI (lst))), (8, .int (iI (r_50))), (7, .int (iI (i))), (4, .int (iI (car))), (5, .int (iI (hnd))), (6, .int (iI (an))), (0, .ref (g.2.2 37)), (1, .int (iI (o)))]) hx hb dX12_partsAre_80 rfl hl (by decide) rfl (fun ls hl => ?_)
              refine lv_iload hx hb dX12_partsAre_81 (lv_at hl 4 rfl) ?_
              refine lv_aload_n hx hb dX12_partsAre_83 rfl (lv_at hl 7 rfl) ?_
              refine x_get (C := RX12) (T := TX12) (N := 24) hx hb hts hin_X12 hown hK hP (37) (by decide) hob rfl 22 (by decide) hw_7 (fun _ h9 => h9) rfl dX12_partsAre_84 ?_
              refine lv_iload hx hb dX12_partsAre_87 (lv_at hl 3 rfl) ?_
              refine x_iald (f := Wz) hx hb hK hP (49) (by decide) h49 (by omega) (by omega) (by decide) dX12_partsAre_89 ?_
              have hb_55 := hW (i) (by omega) (by omega)
              refine lv_iload hx hb dX12_partsAre_90 (lv_at hl 2 rfl) ?_
              refine x_isub hx hb dX12_partsAre_92 ?_
              refine x_iadd hx hb dX12_partsAre_93 ?_
              refine lv_istore (lv' := [(4, .int (iI (car + ((Wz (i)) - r_50)))), (3, .int (iI (r_50))), (2, .int (iI (lst))), (8, .int (iI (r_50))), (7, .int (iI (i))), (5, .int (iI (hnd))), (6, .int (iI (an))), (0, .ref (g.2.2 37)), (1, .int (iI (o)))]) hx hb dX12_partsAre_94 hl (by decide) rfl (fun ls hl => ?_)
              refine lv_iload hx hb dX12_partsAre_96 (lv_at hl 5 rfl) ?_
              refine lv_iload hx hb dX12_partsAre_98 (lv_at hl 0 rfl) ?_
              refine x_if_ge (tgt := 109) hx hb (by omega) dX12_partsAre_100 (by decide) (fun c_100 => ?_) (fun c_100 => ?_)
              · refine lv_iload hx hb dX12_partsAre_109 (lv_at hl 0 rfl) ?_
                refine x_iadd hx hb dX12_partsAre_111 ?_
                refine lv_istore (lv' := [(5, .int (iI (hnd + (car + ((Wz (i)) - r_50))))), (4, .int (iI (car + ((Wz (i)) - r_50)))), (3, .int (iI (r_50))), (2, .int (iI (lst))), (8, .int (iI (r_50))), (7, .int (iI (i))), (6, .int (iI (an))), (0, .ref (g.2.2 37)), (1, .int (iI (o)))]) hx hb dX12_partsAre_112 hl (by decide) rfl (fun ls hl => ?_)
                refine lv_iload hx hb dX12_partsAre_114 (lv_at hl 6 rfl) ?_
                refine lv_iload hx hb dX12_partsAre_116 (lv_at hl 4 rfl) ?_
                refine lv_aload_n hx hb dX12_partsAre_118 rfl (lv_at hl 7 rfl) ?_
                refine x_get (C := RX12) (T := TX12) (N := 24) hx hb hts hin_X12 hown hK hP (37) (by decide) hob rfl 22 (by decide) hw_7 (fun _ h9 => h9) rfl dX12_partsAre_119 ?_
                refine lv_iload hx hb dX12_partsAre_122 (lv_at hl 5 rfl) ?_
                refine x_iald (f := Wz) hx hb hK hP (49) (by decide) h49 (by omega) (by omega) (by decide) dX12_partsAre_124 ?_
                have hb_56 := hW (i) (by omega) (by omega)
                refine x_icmp_ge (tgt := 141) hx hb (by omega) (by omega) dX12_partsAre_125 (by decide) (fun c_125 => ?_) (fun c_125 => ?_)
                · refine x_iconst hx hb dX12_partsAre_141 ?_
                  refine x_iadd hx hb dX12_partsAre_142 ?_
                  refine lv_istore (lv' := [(6, .int (iI (an + 0))), (5, .int (iI (hnd + (car + ((Wz (i)) - r_50))))), (4, .int (iI (car + ((Wz (i)) - r_50)))), (3, .int (iI (r_50))), (2, .int (iI (lst))), (8, .int (iI (r_50))), (7, .int (iI (i))), (0, .ref (g.2.2 37)), (1, .int (iI (o)))]) hx hb dX12_partsAre_143 hl (by decide) rfl (fun ls hl => ?_)
                  refine x_iinc (k0 := 6) (lv' := [(7, .int (iI (i + 1))), (6, .int (iI (an + 0))), (5, .int (iI (hnd + (car + ((Wz (i)) - r_50))))), (4, .int (iI (car + ((Wz (i)) - r_50)))), (3, .int (iI (r_50))), (2, .int (iI (lst))), (8, .int (iI (r_50))), (0, .ref (g.2.2 37)), (1, .int (iI (o)))]) hx hb dX12_partsAre_145 hl rfl (by decide) rfl (fun ls hl => ?_)
                  refine lv_goto (tgt := 36) hx hb dX12_partsAre_148 (by decide) ?_
                  exact ih_3 (i + 1) (lst) (r_50) (car + ((Wz (i)) - r_50)) (hnd + (car + ((Wz (i)) - r_50))) (an + 0) (by omega) (by omega) (by omega) (by rw [zMin9_succ _ hi0, ← e1]; first | (rw [if_pos (by omega)]; omega) | (rw [if_neg (by omega)])) (by rw [zMax0_succ _ hi0, ← e2]; first | (rw [if_pos (by omega)]; omega) | (rw [if_neg (by omega)])) (by unfold zCar at e3 ⊢; rw [zSum_succ _ hi0, ← e3]; omega) (by have e3x : zCar Wz (mP S) (i + 1).toNat = car + (Wz i - mP S i) := (by unfold zCar at e3 ⊢; rw [zSum_succ _ hi0, ← e3]); unfold zHnd at e4 ⊢; rw [zSum_succ _ hi0, ← e4, e3x]; unfold zAbs; first | (rw [if_pos (by omega)]; omega) | (rw [if_neg (by omega)]; omega)) (by unfold zAnS at e5 ⊢; rw [zSum_succ _ hi0, ← e5]; first | (rw [if_pos (by omega)]; omega) | (rw [if_neg (by omega)])) (by omega) (by omega) ls (lv_sub hl [0, 5, 4, 3, 2, 1, 7, 8] rfl)
                · refine lv_aload_n hx hb dX12_partsAre_128 rfl (lv_at hl 7 rfl) ?_
                  refine x_get (C := RX12) (T := TX12) (N := 24) hx hb hts hin_X12 hown hK hP (37) (by decide) hob rfl 22 (by decide) hw_7 (fun _ h9 => h9) rfl dX12_partsAre_129 ?_
                  refine lv_iload hx hb dX12_partsAre_132 (lv_at hl 5 rfl) ?_
                  refine x_iald (f := Wz) hx hb hK hP (49) (by decide) h49 (by omega) (by omega) (by decide) dX12_partsAre_134 ?_
                  have hb_57 := hW (i) (by omega) (by omega)
                  refine lv_iload hx hb dX12_partsAre_135 (lv_at hl 4 rfl) ?_
                  refine x_isub hx hb dX12_partsAre_137 ?_
                  refine lv_goto (tgt := 142) hx hb dX12_partsAre_138 (by decide) ?_
                  refine x_iadd hx hb dX12_partsAre_142 ?_
                  refine lv_istore (lv' := [(6, .int (iI (an + ((Wz (i)) - r_50)))), (5, .int (iI (hnd + (car + ((Wz (i)) - r_50))))), (4, .int (iI (car + ((Wz (i)) - r_50)))), (3, .int (iI (r_50))), (2, .int (iI (lst))), (8, .int (iI (r_50))), (7, .int (iI (i))), (0, .ref (g.2.2 37)), (1, .int (iI (o)))]) hx hb dX12_partsAre_143 hl (by decide) rfl (fun ls hl => ?_)
                  refine x_iinc (k0 := 6) (lv' := [(7, .int (iI (i + 1))), (6, .int (iI (an + ((Wz (i)) - r_50)))), (5, .int (iI (hnd + (car + ((Wz (i)) - r_50))))), (4, .int (iI (car + ((Wz (i)) - r_50)))), (3, .int (iI (r_50))), (2, .int (iI (lst))), (8, .int (iI (r_50))), (0, .ref (g.2.2 37)), (1, .int (iI (o)))]) hx hb dX12_partsAre_145 hl rfl (by decide) rfl (fun ls hl => ?_)
                  refine lv_goto (tgt := 36) hx hb dX12_partsAre_148 (by decide) ?_
                  exact ih_3 (i + 1) (lst) (r_50) (car + ((Wz (i)) - r_50)) (hnd + (car + ((Wz (i)) - r_50))) (an + ((Wz (i)) - r_50)) (by omega) (by omega) (by omega) (by rw [zMin9_succ _ hi0, ← e1]; first | (rw [if_pos (by omega)]; omega) | (rw [if_neg (by omega)])) (by rw [zMax0_succ _ hi0, ← e2]; first | (rw [if_pos (by omega)]; omega) | (rw [if_neg (by omega)])) (by unfold zCar at e3 ⊢; rw [zSum_succ _ hi0, ← e3]; omega) (by have e3x : zCar Wz (mP S) (i + 1).toNat = car + (Wz i - mP S i) := (by unfold zCar at e3 ⊢; rw [zSum_succ _ hi0, ← e3]); unfold zHnd at e4 ⊢; rw [zSum_succ _ hi0, ← e4, e3x]; unfold zAbs; first | (rw [if_pos (by omega)]; omega) | (rw [if_neg (by omega)]; omega)) (by unfold zAnS at e5 ⊢; rw [zSum_succ _ hi0, ← e5]; first | (rw [if_pos (by omega)]; omega) | (rw [if_neg (by omega)])) (by omega) (by omega) ls (lv_sub hl [0, 5, 4, 3, 2, 1, 7, 8] rfl)
              · refine lv_iload hx hb dX12_partsAre_103 (lv_at hl 0 rfl) ?_
                refine x_ineg hx hb dX12_partsAre_105 ?_
                refine lv_goto (tgt := 111) hx hb dX12_partsAre_106 (by decide) ?_
                refine x_iadd hx hb dX12_partsAre_111 ?_
                refine lv_istore (lv' := [(5, .int (iI (hnd + (-(car + ((Wz (i)) - r_50)))))), (4, .int (iI (car + ((Wz (i)) - r_50)))), (3, .int (iI (r_50))), (2, .int (iI (lst))), (8, .int (iI (r_50))), (7, .int (iI (i))), (6, .int (iI (an))), (0, .ref (g.2.2 37)), (1, .int (iI (o)))]) hx hb dX12_partsAre_112 hl (by decide) rfl (fun ls hl => ?_)
                refine lv_iload hx hb dX12_partsAre_114 (lv_at hl 6 rfl) ?_
                refine lv_iload hx hb dX12_partsAre_116 (lv_at hl 4 rfl) ?_
                refine lv_aload_n hx hb dX12_partsAre_118 rfl (lv_at hl 7 rfl) ?_
                refine x_get (C := RX12) (T := TX12) (N := 24) hx hb hts hin_X12 hown hK hP (37) (by decide) hob rfl 22 (by decide) hw_7 (fun _ h9 => h9) rfl dX12_partsAre_119 ?_
                refine lv_iload hx hb dX12_partsAre_122 (lv_at hl 5 rfl) ?_
                refine x_iald (f := Wz) hx hb hK hP (49) (by decide) h49 (by omega) (by omega) (by decide) dX12_partsAre_124 ?_
                have hb_58 := hW (i) (by omega) (by omega)
                refine x_icmp_ge (tgt := 141) hx hb (by omega) (by omega) dX12_partsAre_125 (by decide) (fun c_125 => ?_) (fun c_125 => ?_)
                · refine x_iconst hx hb dX12_partsAre_141 ?_
                  refine x_iadd hx hb dX12_partsAre_142 ?_
                  refine lv_istore (lv' := [(6, .int (iI (an + 0))), (5, .int (iI (hnd + (-(car + ((Wz (i)) - r_50)))))), (4, .int (iI (car + ((Wz (i)) - r_50)))), (3, .int (iI (r_50))), (2, .int (iI (lst))), (8, .int (iI (r_50))), (7, .int (iI (i))), (0, .ref (g.2.2 37)), (1, .int (iI (o)))]) hx hb dX12_partsAre_143 hl (by decide) rfl (fun ls hl => ?_)
                  refine x_iinc (k0 := 6) (lv' := [(7, .int (iI (i + 1))), (6, .int (iI (an + 0))), (5, .int (iI (hnd + (-(car + ((Wz (i)) - r_50)))))), (4, .int (iI (car + ((Wz (i)) - r_50)))), (3, .int (iI (r_50))), (2, .int (iI (lst))), (8, .int (iI (r_50))), (0, .ref (g.2.2 37)), (1, .int (iI (o)))]) hx hb dX12_partsAre_145 hl rfl (by decide) rfl (fun ls hl => ?_)
                  refine lv_goto (tgt := 36) hx hb dX12_partsAre_148 (by decide) ?_
                  exact ih_3 (i + 1) (lst) (r_50) (car + ((Wz (i)) - r_50)) (hnd + (-(car + ((Wz (i)) - r_50)))) (an + 0) (by omega) (by omega) (by omega) (by rw [zMin9_succ _ hi0, ← e1]; first | (rw [if_pos (by omega)]; omega) | (rw [if_neg (by omega)])) (by rw [zMax0_succ _ hi0, ← e2]; first | (rw [if_pos (by omega)]; omega) | (rw [if_neg (by omega)])) (by unfold zCar at e3 ⊢; rw [zSum_succ _ hi0, ← e3]; omega) (by have e3x : zCar Wz (mP S) (i + 1).toNat = car + (Wz i - mP S i) := (by unfold zCar at e3 ⊢; rw [zSum_succ _ hi0, ← e3]); unfold zHnd at e4 ⊢; rw [zSum_succ _ hi0, ← e4, e3x]; unfold zAbs; first | (rw [if_pos (by omega)]; omega) | (rw [if_neg (by omega)]; omega)) (by unfold zAnS at e5 ⊢; rw [zSum_succ _ hi0, ← e5]; first | (rw [if_pos (by omega)]; omega) | (rw [if_neg (by omega)])) (by omega) (by omega) ls (lv_sub hl [0, 5, 4, 3, 2, 1, 7, 8] rfl)
                · refine lv_aload_n hx hb dX12_partsAre_128 rfl (lv_at hl 7 rfl) ?_
                  refine x_get (C := RX12) (T := TX12) (N := 24) hx hb hts hin_X12 hown hK hP (37) (by decide) hob rfl 22 (by decide) hw_7 (fun _ h9 => h9) rfl dX12_partsAre_129 ?_
                  refine lv_iload hx hb dX12_partsAre_132 (lv_at hl 5 rfl) ?_
                  refine x_iald (f := Wz) hx hb hK hP (49) (by decide) h49 (by omega) (by omega) (by decide) dX12_partsAre_134 ?_
                  have hb_59 := hW (i) (by omega) (by omega)
                  refine lv_iload hx hb dX12_partsAre_135 (lv_at hl 4 rfl) ?_
                  refine x_isub hx hb dX12_partsAre_137 ?_
                  refine lv_goto (tgt := 142) hx hb dX12_partsAre_138 (by decide) ?_
                  refine x_iadd hx hb dX12_partsAre_142 ?_
                  refine lv_istore (lv' := [(6, .int (iI (an + ((Wz (i)) - r_50)))), (5, .int (iI (hnd + (-(car + ((Wz (i)) - r_50)))))), (4, .int (iI (car + ((Wz (i)) - r_50)))), (3, .int (iI (r_50))), (2, .int (iI (lst))), (8, .int (iI (r_50))), (7, .int (iI (i))), (0, .ref (g.2.2 37)), (1, .int (iI (o)))]) hx hb dX12_partsAre_143 hl (by decide) rfl (fun ls hl => ?_)
                  refine x_iinc (k0 := 6) (lv' := [(7, .int (iI (i + 1))), (6, .int (iI (an + ((Wz (i)) - r_50)))), (5, .int (iI (hnd + (-(car + ((Wz (i)) - r_50)))))), (4, .int (iI (car + ((Wz (i)) - r_50)))), (3, .int (iI (r_50))), (2, .int (iI (lst))), (8, .int (iI (r_50))), (0, .ref (g.2.2 37)), (1, .int (iI (o)))]) hx hb dX12_partsAre_145 hl rfl (by decide) rfl (fun ls hl => ?_)
                  refine lv_goto (tgt := 36) hx hb dX12_partsAre_148 (by decide) ?_
                  exact ih_3 (i + 1) (lst) (r_50) (car + ((Wz (i)) - r_50)) (hnd + (-(car + ((Wz (i)) - r_50)))) (an + ((Wz (i)) - r_50)) (by omega) (by omega) (by omega) (by rw [zMin9_succ _ hi0, ← e1]; first | (rw [if_pos (by omega)]; omega) | (rw [if_neg (by omega)])) (by rw [zMax0_succ _ hi0, ← e2]; first | (rw [if_pos (by omega)]; omega) | (rw [if_neg (by omega)])) (by unfold zCar at e3 ⊢; rw [zSum_succ _ hi0, ← e3]; omega) (by have e3x : zCar Wz (mP S) (i + 1).toNat = car + (Wz i - mP S i) := (by unfold zCar at e3 ⊢; rw [zSum_succ _ hi0, ← e3]); unfold zHnd at e4 ⊢; rw [zSum_succ _ hi0, ← e4, e3x]; unfold zAbs; first | (rw [if_pos (by omega)]; omega) | (rw [if_neg (by omega)]; omega)) (by unfold zAnS at e5 ⊢; rw [zSum_succ _ hi0, ← e5]; first | (rw [if_pos (by omega)]; omega) | (rw [if_neg (by omega)])) (by omega) (by omega) ls (lv_sub hl [0, 5, 4, 3, 2, 1, 7, 8] rfl)
          · refine lv_iload hx hb dX12_partsAre_61 (lv_at hl 0 rfl) ?_
            refine lv_goto (tgt := 67) hx hb dX12_partsAre_63 (by decide) ?_
            refine lv_istore_n (lv' := [(2, .int (iI (r_50))), (8, .int (iI (r_50))), (7, .int (iI (i))), (3, .int (iI (grt))), (4, .int (iI (car))), (5, .int (iI (hnd))), (6, .int (iI (an))), (0, .ref (g.2.2 37)), (1, .int (iI (o)))]) hx hb dX12_partsAre_67 rfl hl (by decide) rfl (fun ls hl => ?_)
            refine lv_iload hx hb dX12_partsAre_68 (lv_at hl 1 rfl) ?_
            refine lv_iload_n hx hb dX12_partsAre_70 rfl (lv_at hl 3 rfl) ?_
            refine x_icmp_le (tgt := 79) hx hb (by omega) (by omega) dX12_partsAre_71 (by decide) (fun c_71 => ?_) (fun c_71 => ?_)
            · refine lv_iload_n hx hb dX12_partsAre_79 rfl (lv_at hl 3 rfl) ?_
              refine lv_istore_n (lv' := [(3, .int (iI (grt))), (2, .int (iI (r_50))), (8, .int (iI (r_50))), (7, .int (iI (i))), (4, .int (iI (car))), (5, .int (iI (hnd))), (6, .int (iI (an))), (0, .ref (g.2.2 37)), (1, .int (iI (o)))]) hx hb dX12_partsAre_80 rfl hl (by decide) rfl (fun ls hl => ?_)
              refine lv_iload hx hb dX12_partsAre_81 (lv_at hl 4 rfl) ?_
              refine lv_aload_n hx hb dX12_partsAre_83 rfl (lv_at hl 7 rfl) ?_
              refine x_get (C := RX12) (T := TX12) (N := 24) hx hb hts hin_X12 hown hK hP (37) (by decide) hob rfl 22 (by decide) hw_7 (fun _ h9 => h9) rfl dX12_partsAre_84 ?_
              refine lv_iload hx hb dX12_partsAre_87 (lv_at hl 3 rfl) ?_
              refine x_iald (f := Wz) hx hb hK hP (49) (by decide) h49 (by omega) (by omega) (by decide) dX12_partsAre_89 ?_
              have hb_60 := hW (i) (by omega) (by omega)
              refine lv_iload hx hb dX12_partsAre_90 (lv_at hl 2 rfl) ?_
              refine x_isub hx hb dX12_partsAre_92 ?_
              refine x_iadd hx hb dX12_partsAre_93 ?_
              refine lv_istore (lv' := [(4, .int (iI (car + ((Wz (i)) - r_50)))), (3, .int (iI (grt))), (2, .int (iI (r_50))), (8, .int (iI (r_50))), (7, .int (iI (i))), (5, .int (iI (hnd))), (6, .int (iI (an))), (0, .ref (g.2.2 37)), (1, .int (iI (o)))]) hx hb dX12_partsAre_94 hl (by decide) rfl (fun ls hl => ?_)
              refine lv_iload hx hb dX12_partsAre_96 (lv_at hl 5 rfl) ?_
              refine lv_iload hx hb dX12_partsAre_98 (lv_at hl 0 rfl) ?_
              refine x_if_ge (tgt := 109) hx hb (by omega) dX12_partsAre_100 (by decide) (fun c_100 => ?_) (fun c_100 => ?_)
              · refine lv_iload hx hb dX12_partsAre_109 (lv_at hl 0 rfl) ?_
                refine x_iadd hx hb dX12_partsAre_111 ?_
                refine lv_istore (lv' := [(5, .int (iI (hnd + (car + ((Wz (i)) - r_50))))), (4, .int (iI (car + ((Wz (i)) - r_50)))), (3, .int (iI (grt))), (2, .int (iI (r_50))), (8, .int (iI (r_50))), (7, .int (iI (i))), (6, .int (iI (an))), (0, .ref (g.2.2 37)), (1, .int (iI (o)))]) hx hb dX12_partsAre_112 hl (by decide) rfl (fun ls hl => ?_)
                refine lv_iload hx hb dX12_partsAre_114 (lv_at hl 6 rfl) ?_
                refine lv_iload hx hb dX12_partsAre_116 (lv_at hl 4 rfl) ?_
                refine lv_aload_n hx hb dX12_partsAre_118 rfl (lv_at hl 7 rfl) ?_
                refine x_get (C := RX12) (T := TX12) (N := 24) hx hb hts hin_X12 hown hK hP (37) (by decide) hob rfl 22 (by decide) hw_7 (fun _ h9 => h9) rfl dX12_partsAre_119 ?_
                refine lv_iload hx hb dX12_partsAre_122 (lv_at hl 5 rfl) ?_
                refine x_iald (f := Wz) hx hb hK hP (49) (by decide) h49 (by omega) (by omega) (by decide) dX12_partsAre_124 ?_
                have hb_61 := hW (i) (by omega) (by omega)
                refine x_icmp_ge (tgt := 141) hx hb (by omega) (by omega) dX12_partsAre_125 (by decide) (fun c_125 => ?_) (fun c_125 => ?_)
                · refine x_iconst hx hb dX12_partsAre_141 ?_
                  refine x_iadd hx hb dX12_partsAre_142 ?_
                  refine lv_istore (lv' := [(6, .int (iI (an + 0))), (5, .int (iI (hnd + (car + ((Wz (i)) - r_50))))), (4, .int (iI (car + ((Wz (i)) - r_50)))), (3, .int (iI (grt))), (2, .int (iI (r_50))), (8, .int (iI (r_50))), (7, .int (iI (i))), (0, .ref (g.2.2 37)), (1, .int (iI (o)))]) hx hb dX12_partsAre_143 hl (by decide) rfl (fun ls hl => ?_)
                  refine x_iinc (k0 := 6) (lv' := [(7, .int (iI (i + 1))), (6, .int (iI (an + 0))), (5, .int (iI (hnd + (car + ((Wz (i)) - r_50))))), (4, .int (iI (car + ((Wz (i)) - r_50)))), (3, .int (iI (grt))), (2, .int (iI (r_50))), (8, .int (iI (r_50))), (0, .ref (g.2.2 37)), (1, .int (iI (o)))]) hx hb dX12_partsAre_145 hl rfl (by decide) rfl (fun ls hl => ?_)
                  refine lv_goto (tgt := 36) hx hb dX12_partsAre_148 (by decide) ?_
                  exact ih_3 (i + 1) (r_50) (grt) (car + ((Wz (i)) - r_50)) (hnd + (car + ((Wz (i)) - r_50))) (an + 0) (by omega) (by omega) (by omega) (by rw [zMin9_succ _ hi0, ← e1]; first | (rw [if_pos (by omega)]; omega) | (rw [if_neg (by omega)])) (by rw [zMax0_succ _ hi0, ← e2]; first | (rw [if_pos (by omega)]; omega) | (rw [if_neg (by omega)])) (by unfold zCar at e3 ⊢; rw [zSum_succ _ hi0, ← e3]; omega) (by have e3x : zCar Wz (mP S) (i + 1).toNat = car + (Wz i - mP S i) := (by unfold zCar at e3 ⊢; rw [zSum_succ _ hi0, ← e3]); unfold zHnd at e4 ⊢; rw [zSum_succ _ hi0, ← e4, e3x]; unfold zAbs; first | (rw [if_pos (by omega)]; omega) | (rw [if_neg (by omega)]; omega)) (by unfold zAnS at e5 ⊢; rw [zSum_succ _ hi0, ← e5]; first | (rw [if_pos (by omega)]; omega) | (rw [if_neg (by omega)])) (by omega) (by omega) ls (lv_sub hl [0, 5, 4, 3, 2, 1, 7, 8] rfl)
                · refine lv_aload_n hx hb dX12_partsAre_128 rfl (lv_at hl 7 rfl) ?_
                  refine x_get (C := RX12) (T := TX12) (N := 24) hx hb hts hin_X12 hown hK hP (37) (by decide) hob rfl 22 (by decide) hw_7 (fun _ h9 => h9) rfl dX12_partsAre_129 ?_
                  refine lv_iload hx hb dX12_partsAre_132 (lv_at hl 5 rfl) ?_
                  refine x_iald (f := Wz) hx hb hK hP (49) (by decide) h49 (by omega) (by omega) (by decide) dX12_partsAre_134 ?_
                  have hb_62 := hW (i) (by omega) (by omega)
                  refine lv_iload hx hb dX12_partsAre_135 (lv_at hl 4 rfl) ?_
                  refine x_isub hx hb dX12_partsAre_137 ?_
                  refine lv_goto (tgt := 142) hx hb dX12_partsAre_138 (by decide) ?_
                  refine x_iadd hx hb dX12_partsAre_142 ?_
                  refine lv_istore (lv' := [(6, .int (iI (an + ((Wz (i)) - r_50)))), (5, .int (iI (hnd + (car + ((Wz (i)) - r_50))))), (4, .int (iI (car + ((Wz (i)) - r_50)))), (3, .int (iI (grt))), (2, .int (iI (r_50))), (8, .int (iI (r_50))), (7, .int (iI (i))), (0, .ref (g.2.2 37)), (1, .int (iI (o)))]) hx hb dX12_partsAre_143 hl (by decide) rfl (fun ls hl => ?_)
                  refine x_iinc (k0 := 6) (lv' := [(7, .int (iI (i + 1))), (6, .int (iI (an + ((Wz (i)) - r_50)))), (5, .int (iI (hnd + (car + ((Wz (i)) - r_50))))), (4, .int (iI (car + ((Wz (i)) - r_50)))), (3, .int (iI (grt))), (2, .int (iI (r_50))), (8, .int (iI (r_50))), (0, .ref (g.2.2 37)), (1, .int (iI (o)))]) hx hb dX12_partsAre_145 hl rfl (by decide) rfl (fun ls hl => ?_)
                  refine lv_goto (tgt := 36) hx hb dX12_partsAre_148 (by decide) ?_
                  exact ih_3 (i + 1) (r_50) (grt) (car + ((Wz (i)) - r_50)) (hnd + (car + ((Wz (i)) - r_50))) (an + ((Wz (i)) - r_50)) (by omega) (by omega) (by omega) (by rw [zMin9_succ _ hi0, ← e1]; first | (rw [if_pos (by omega)]; omega) | (rw [if_neg (by omega)])) (by rw [zMax0_succ _ hi0, ← e2]; first | (rw [if_pos (by omega)]; omega) | (rw [if_neg (by omega)])) (by unfold zCar at e3 ⊢; rw [zSum_succ _ hi0, ← e3]; omega) (by have e3x : zCar Wz (mP S) (i + 1).toNat = car + (Wz i - mP S i) := (by unfold zCar at e3 ⊢; rw [zSum_succ _ hi0, ← e3]); unfold zHnd at e4 ⊢; rw [zSum_succ _ hi0, ← e4, e3x]; unfold zAbs; first | (rw [if_pos (by omega)]; omega) | (rw [if_neg (by omega)]; omega)) (by unfold zAnS at e5 ⊢; rw [zSum_succ _ hi0, ← e5]; first | (rw [if_pos (by omega)]; omega) | (rw [if_neg (by omega)])) (by omega) (by omega) ls (lv_sub hl [0, 5, 4, 3, 2, 1, 7, 8] rfl)
              · refine lv_iload hx hb dX12_partsAre_103 (lv_at hl 0 rfl) ?_
                refine x_ineg hx hb dX12_partsAre_105 ?_
                refine lv_goto (tgt := 111) hx hb dX12_partsAre_106 (by decide) ?_
                refine x_iadd hx hb dX12_partsAre_111 ?_
                refine lv_istore (lv' := [(5, .int (iI (hnd + (-(car + ((Wz (i)) - r_50)))))), (4, .int (iI (car + ((Wz (i)) - r_50)))), (3, .int (iI (grt))), (2, .int (iI (r_50))), (8, .int (iI (r_50))), (7, .int (iI (i))), (6, .int (iI (an))), (0, .ref (g.2.2 37)), (1, .int (iI (o)))]) hx hb dX12_partsAre_112 hl (by decide) rfl (fun ls hl => ?_)
                refine lv_iload hx hb dX12_partsAre_114 (lv_at hl 6 rfl) ?_
                refine lv_iload hx hb dX12_partsAre_116 (lv_at hl 4 rfl) ?_
                refine lv_aload_n hx hb dX12_partsAre_118 rfl (lv_at hl 7 rfl) ?_
                refine x_get (C := RX12) (T := TX12) (N := 24) hx hb hts hin_X12 hown hK hP (37) (by decide) hob rfl 22 (by decide) hw_7 (fun _ h9 => h9) rfl dX12_partsAre_119 ?_
                refine lv_iload hx hb dX12_partsAre_122 (lv_at hl 5 rfl) ?_
                refine x_iald (f := Wz) hx hb hK hP (49) (by decide) h49 (by omega) (by omega) (by decide) dX12_partsAre_124 ?_
                have hb_63 := hW (i) (by omega) (by omega)
                refine x_icmp_ge (tgt := 141) hx hb (by omega) (by omega) dX12_partsAre_125 (by decide) (fun c_125 => ?_) (fun c_125 => ?_)
                · refine x_iconst hx hb dX12_partsAre_141 ?_
                  refine x_iadd hx hb dX12_partsAre_142 ?_
                  refine lv_istore (lv' := [(6, .int (iI (an + 0))), (5, .int (iI (hnd + (-(car + ((Wz (i)) - r_50)))))), (4, .int (iI (car + ((Wz (i)) - r_50)))), (3, .int (iI (grt))), (2, .int (iI (r_50))), (8, .int (iI (r_50))), (7, .int (iI (i))), (0, .ref (g.2.2 37)), (1, .int (iI (o)))]) hx hb dX12_partsAre_143 hl (by decide) rfl (fun ls hl => ?_)
                  refine x_iinc (k0 := 6) (lv' := [(7, .int (iI (i + 1))), (6, .int (iI (an + 0))), (5, .int (iI (hnd + (-(car + ((Wz (i)) - r_50)))))), (4, .int (iI (car + ((Wz (i)) - r_50)))), (3, .int (iI (grt))), (2, .int (iI (r_50))), (8, .int (iI (r_50))), (0, .ref (g.2.2 37)), (1, .int (iI (o)))]) hx hb dX12_partsAre_145 hl rfl (by decide) rfl (fun ls hl => ?_)
                  refine lv_goto (tgt := 36) hx hb dX12_partsAre_148 (by decide) ?_
                  exact ih_3 (i + 1) (r_50) (grt) (car + ((Wz (i)) - r_50)) (hnd + (-(car + ((Wz (i)) - r_50)))) (an + 0) (by omega) (by omega) (by omega) (by rw [zMin9_succ _ hi0, ← e1]; first | (rw [if_pos (by omega)]; omega) | (rw [if_neg (by omega)])) (by rw [zMax0_succ _ hi0, ← e2]; first | (rw [if_pos (by omega)]; omega) | (rw [if_neg (by omega)])) (by unfold zCar at e3 ⊢; rw [zSum_succ _ hi0, ← e3]; omega) (by have e3x : zCar Wz (mP S) (i + 1).toNat = car + (Wz i - mP S i) := (by unfold zCar at e3 ⊢; rw [zSum_succ _ hi0, ← e3]); unfold zHnd at e4 ⊢; rw [zSum_succ _ hi0, ← e4, e3x]; unfold zAbs; first | (rw [if_pos (by omega)]; omega) | (rw [if_neg (by omega)]; omega)) (by unfold zAnS at e5 ⊢; rw [zSum_succ _ hi0, ← e5]; first | (rw [if_pos (by omega)]; omega) | (rw [if_neg (by omega)])) (by omega) (by omega) ls (lv_sub hl [0, 5, 4, 3, 2, 1, 7, 8] rfl)
                · refine lv_aload_n hx hb dX12_partsAre_128 rfl (lv_at hl 7 rfl) ?_
                  refine x_get (C := RX12) (T := TX12) (N := 24) hx hb hts hin_X12 hown hK hP (37) (by decide) hob rfl 22 (by decide) hw_7 (fun _ h9 => h9) rfl dX12_partsAre_129 ?_
                  refine lv_iload hx hb dX12_partsAre_132 (lv_at hl 5 rfl) ?_
                  refine x_iald (f := Wz) hx hb hK hP (49) (by decide) h49 (by omega) (by omega) (by decide) dX12_partsAre_134 ?_
                  have hb_64 := hW (i) (by omega) (by omega)
                  refine lv_iload hx hb dX12_partsAre_135 (lv_at hl 4 rfl) ?_
                  refine x_isub hx hb dX12_partsAre_137 ?_
                  refine lv_goto (tgt := 142) hx hb dX12_partsAre_138 (by decide) ?_
                  refine x_iadd hx hb dX12_partsAre_142 ?_
                  refine lv_istore (lv' := [(6, .int (iI (an + ((Wz (i)) - r_50)))), (5, .int (iI (hnd + (-(car + ((Wz (i)) - r_50)))))), (4, .int (iI (car + ((Wz (i)) - r_50)))), (3, .int (iI (grt))), (2, .int (iI (r_50))), (8, .int (iI (r_50))), (7, .int (iI (i))), (0, .ref (g.2.2 37)), (1, .int (iI (o)))]) hx hb dX12_partsAre_143 hl (by decide) rfl (fun ls hl => ?_)
                  refine x_iinc (k0 := 6) (lv' := [(7, .int (iI (i + 1))), (6, .int (iI (an + ((Wz (i)) - r_50)))), (5, .int (iI (hnd + (-(car + ((Wz (i)) - r_50)))))), (4, .int (iI (car + ((Wz (i)) - r_50)))), (3, .int (iI (grt))), (2, .int (iI (r_50))), (8, .int (iI (r_50))), (0, .ref (g.2.2 37)), (1, .int (iI (o)))]) hx hb dX12_partsAre_145 hl rfl (by decide) rfl (fun ls hl => ?_)
                  refine lv_goto (tgt := 36) hx hb dX12_partsAre_148 (by decide) ?_
                  exact ih_3 (i + 1) (r_50) (grt) (car + ((Wz (i)) - r_50)) (hnd + (-(car + ((Wz (i)) - r_50)))) (an + ((Wz (i)) - r_50)) (by omega) (by omega) (by omega) (by rw [zMin9_succ _ hi0, ← e1]; first | (rw [if_pos (by omega)]; omega) | (rw [if_neg (by omega)])) (by rw [zMax0_succ _ hi0, ← e2]; first | (rw [if_pos (by omega)]; omega) | (rw [if_neg (by omega)])) (by unfold zCar at e3 ⊢; rw [zSum_succ _ hi0, ← e3]; omega) (by have e3x : zCar Wz (mP S) (i + 1).toNat = car + (Wz i - mP S i) := (by unfold zCar at e3 ⊢; rw [zSum_succ _ hi0, ← e3]); unfold zHnd at e4 ⊢; rw [zSum_succ _ hi0, ← e4, e3x]; unfold zAbs; first | (rw [if_pos (by omega)]; omega) | (rw [if_neg (by omega)]; omega)) (by unfold zAnS at e5 ⊢; rw [zSum_succ _ hi0, ← e5]; first | (rw [if_pos (by omega)]; omega) | (rw [if_neg (by omega)])) (by omega) (by omega) ls (lv_sub hl [0, 5, 4, 3, 2, 1, 7, 8] rfl)
            · refine lv_iload hx hb dX12_partsAre_74 (lv_at hl 1 rfl) ?_
              refine lv_goto (tgt := 80) hx hb dX12_partsAre_76 (by decide) ?_
              refine lv_istore_n (lv' := [(3, .int (iI (r_50))), (2, .int (iI (r_50))), (8, .int (iI (r_50))), (7, .int (iI (i))), (4, .int (iI (car))), (5, .int (iI (hnd))), (6, .int (iI (an))), (0, .ref (g.2.2 37)), (1, .int (iI (o)))]) hx hb dX12_partsAre_80 rfl hl (by decide) rfl (fun ls hl => ?_)
              refine lv_iload hx hb dX12_partsAre_81 (lv_at hl 4 rfl) ?_
              refine lv_aload_n hx hb dX12_partsAre_83 rfl (lv_at hl 7 rfl) ?_
              refine x_get (C := RX12) (T := TX12) (N := 24) hx hb hts hin_X12 hown hK hP (37) (by decide) hob rfl 22 (by decide) hw_7 (fun _ h9 => h9) rfl dX12_partsAre_84 ?_
              refine lv_iload hx hb dX12_partsAre_87 (lv_at hl 3 rfl) ?_
              refine x_iald (f := Wz) hx hb hK hP (49) (by decide) h49 (by omega) (by omega) (by decide) dX12_partsAre_89 ?_
              have hb_65 := hW (i) (by omega) (by omega)
              refine lv_iload hx hb dX12_partsAre_90 (lv_at hl 2 rfl) ?_
              refine x_isub hx hb dX12_partsAre_92 ?_
              refine x_iadd hx hb dX12_partsAre_93 ?_
              refine lv_istore (lv' := [(4, .int (iI (car + ((Wz (i)) - r_50)))), (3, .int (iI (r_50))), (2, .int (iI (r_50))), (8, .int (iI (r_50))), (7, .int (iI (i))), (5, .int (iI (hnd))), (6, .int (iI (an))), (0, .ref (g.2.2 37)), (1, .int (iI (o)))]) hx hb dX12_partsAre_94 hl (by decide) rfl (fun ls hl => ?_)
              refine lv_iload hx hb dX12_partsAre_96 (lv_at hl 5 rfl) ?_
              refine lv_iload hx hb dX12_partsAre_98 (lv_at hl 0 rfl) ?_
              refine x_if_ge (tgt := 109) hx hb (by omega) dX12_partsAre_100 (by decide) (fun c_100 => ?_) (fun c_100 => ?_)
              · refine lv_iload hx hb dX12_partsAre_109 (lv_at hl 0 rfl) ?_
                refine x_iadd hx hb dX12_partsAre_111 ?_
                refine lv_istore (lv' := [(5, .int (iI (hnd + (car + ((Wz (i)) - r_50))))), (4, .int (iI (car + ((Wz (i)) - r_50)))), (3, .int (iI (r_50))), (2, .int (iI (r_50))), (8, .int (iI (r_50))), (7, .int (iI (i))), (6, .int (iI (an))), (0, .ref (g.2.2 37)), (1, .int (iI (o)))]) hx hb dX12_partsAre_112 hl (by decide) rfl (fun ls hl => ?_)
                refine lv_iload hx hb dX12_partsAre_114 (lv_at hl 6 rfl) ?_
                refine lv_iload hx hb dX12_partsAre_116 (lv_at hl 4 rfl) ?_
                refine lv_aload_n hx hb dX12_partsAre_118 rfl (lv_at hl 7 rfl) ?_
                refine x_get (C := RX12) (T := TX12) (N := 24) hx hb hts hin_X12 hown hK hP (37) (by decide) hob rfl 22 (by decide) hw_7 (fun _ h9 => h9) rfl dX12_partsAre_119 ?_
                refine lv_iload hx hb dX12_partsAre_122 (lv_at hl 5 rfl) ?_
                refine x_iald (f := Wz) hx hb hK hP (49) (by decide) h49 (by omega) (by omega) (by decide) dX12_partsAre_124 ?_
                have hb_66 := hW (i) (by omega) (by omega)
                refine x_icmp_ge (tgt := 141) hx hb (by omega) (by omega) dX12_partsAre_125 (by decide) (fun c_125 => ?_) (fun c_125 => ?_)
                · refine x_iconst hx hb dX12_partsAre_141 ?_
                  refine x_iadd hx hb dX12_partsAre_142 ?_
                  refine lv_istore (lv' := [(6, .int (iI (an + 0))), (5, .int (iI (hnd + (car + ((Wz (i)) - r_50))))), (4, .int (iI (car + ((Wz (i)) - r_50)))), (3, .int (iI (r_50))), (2, .int (iI (r_50))), (8, .int (iI (r_50))), (7, .int (iI (i))), (0, .ref (g.2.2 37)), (1, .int (iI (o)))]) hx hb dX12_partsAre_143 hl (by decide) rfl (fun ls hl => ?_)
                  refine x_iinc (k0 := 6) (lv' := [(7, .int (iI (i + 1))), (6, .int (iI (an + 0))), (5, .int (iI (hnd + (car + ((Wz (i)) - r_50))))), (4, .int (iI (car + ((Wz (i)) - r_50)))), (3, .int (iI (r_50))), (2, .int (iI (r_50))), (8, .int (iI (r_50))), (0, .ref (g.2.2 37)), (1, .int (iI (o)))]) hx hb dX12_partsAre_145 hl rfl (by decide) rfl (fun ls hl => ?_)
                  refine lv_goto (tgt := 36) hx hb dX12_partsAre_148 (by decide) ?_
                  exact ih_3 (i + 1) (r_50) (r_50) (car + ((Wz (i)) - r_50)) (hnd + (car + ((Wz (i)) - r_50))) (an + 0) (by omega) (by omega) (by omega) (by rw [zMin9_succ _ hi0, ← e1]; first | (rw [if_pos (by omega)]; omega) | (rw [if_neg (by omega)])) (by rw [zMax0_succ _ hi0, ← e2]; first | (rw [if_pos (by omega)]; omega) | (rw [if_neg (by omega)])) (by unfold zCar at e3 ⊢; rw [zSum_succ _ hi0, ← e3]; omega) (by have e3x : zCar Wz (mP S) (i + 1).toNat = car + (Wz i - mP S i) := (by unfold zCar at e3 ⊢; rw [zSum_succ _ hi0, ← e3]); unfold zHnd at e4 ⊢; rw [zSum_succ _ hi0, ← e4, e3x]; unfold zAbs; first | (rw [if_pos (by omega)]; omega) | (rw [if_neg (by omega)]; omega)) (by unfold zAnS at e5 ⊢; rw [zSum_succ _ hi0, ← e5]; first | (rw [if_pos (by omega)]; omega) | (rw [if_neg (by omega)])) (by omega) (by omega) ls (lv_sub hl [0, 5, 4, 3, 2, 1, 7, 8] rfl)
                · refine lv_aload_n hx hb dX12_partsAre_128 rfl (lv_at hl 7 rfl) ?_
                  refine x_get (C := RX12) (T := TX12) (N := 24) hx hb hts hin_X12 hown hK hP (37) (by decide) hob rfl 22 (by decide) hw_7 (fun _ h9 => h9) rfl dX12_partsAre_129 ?_
                  refine lv_iload hx hb dX12_partsAre_132 (lv_at hl 5 rfl) ?_
                  refine x_iald (f := Wz) hx hb hK hP (49) (by decide) h49 (by omega) (by omega) (by decide) dX12_partsAre_134 ?_
                  have hb_67 := hW (i) (by omega) (by omega)
                  refine lv_iload hx hb dX12_partsAre_135 (lv_at hl 4 rfl) ?_
                  refine x_isub hx hb dX12_partsAre_137 ?_
                  refine lv_goto (tgt := 142) hx hb dX12_partsAre_138 (by decide) ?_
                  refine x_iadd hx hb dX12_partsAre_142 ?_
                  refine lv_istore (lv' := [(6, .int (iI (an + ((Wz (i)) - r_50)))), (5, .int (iI (hnd + (car + ((Wz (i)) - r_50))))), (4, .int (iI (car + ((Wz (i)) - r_50)))), (3, .int (iI (r_50))), (2, .int (iI (r_50))), (8, .int (iI (r_50))), (7, .int (iI (i))), (0, .ref (g.2.2 37)), (1, .int (iI (o)))]) hx hb dX12_partsAre_143 hl (by decide) rfl (fun ls hl => ?_)
                  refine x_iinc (k0 := 6) (lv' := [(7, .int (iI (i + 1))), (6, .int (iI (an + ((Wz (i)) - r_50)))), (5, .int (iI (hnd + (car + ((Wz (i)) - r_50))))), (4, .int (iI (car + ((Wz (i)) - r_50)))), (3, .int (iI (r_50))), (2, .int (iI (r_50))), (8, .int (iI (r_50))), (0, .ref (g.2.2 37)), (1, .int (iI (o)))]) hx hb dX12_partsAre_145 hl rfl (by decide) rfl (fun ls hl => ?_)
                  refine lv_goto (tgt := 36) hx hb dX12_partsAre_148 (by decide) ?_
                  exact ih_3 (i + 1) (r_50) (r_50) (car + ((Wz (i)) - r_50)) (hnd + (car + ((Wz (i)) - r_50))) (an + ((Wz (i)) - r_50)) (by omega) (by omega) (by omega) (by rw [zMin9_succ _ hi0, ← e1]; first | (rw [if_pos (by omega)]; omega) | (rw [if_neg (by omega)])) (by rw [zMax0_succ _ hi0, ← e2]; first | (rw [if_pos (by omega)]; omega) | (rw [if_neg (by omega)])) (by unfold zCar at e3 ⊢; rw [zSum_succ _ hi0, ← e3]; omega) (by have e3x : zCar Wz (mP S) (i + 1).toNat = car + (Wz i - mP S i) := (by unfold zCar at e3 ⊢; rw [zSum_succ _ hi0, ← e3]); unfold zHnd at e4 ⊢; rw [zSum_succ _ hi0, ← e4, e3x]; unfold zAbs; first | (rw [if_pos (by omega)]; omega) | (rw [if_neg (by omega)]; omega)) (by unfold zAnS at e5 ⊢; rw [zSum_succ _ hi0, ← e5]; first | (rw [if_pos (by omega)]; omega) | (rw [if_neg (by omega)])) (by omega) (by omega) ls (lv_sub hl [0, 5, 4, 3, 2, 1, 7, 8] rfl)
              · refine lv_iload hx hb dX12_partsAre_103 (lv_at hl 0 rfl) ?_
                refine x_ineg hx hb dX12_partsAre_105 ?_
                refine lv_goto (tgt := 111) hx hb dX12_partsAre_106 (by decide) ?_
                refine x_iadd hx hb dX12_partsAre_111 ?_
                refine lv_istore (lv' := [(5, .int (iI (hnd + (-(car + ((Wz (i)) - r_50)))))), (4, .int (iI (car + ((Wz (i)) - r_50)))), (3, .int (iI (r_50))), (2, .int (iI (r_50))), (8, .int (iI (r_50))), (7, .int (iI (i))), (6, .int (iI (an))), (0, .ref (g.2.2 37)), (1, .int (iI (o)))]) hx hb dX12_partsAre_112 hl (by decide) rfl (fun ls hl => ?_)
                refine lv_iload hx hb dX12_partsAre_114 (lv_at hl 6 rfl) ?_
                refine lv_iload hx hb dX12_partsAre_116 (lv_at hl 4 rfl) ?_
                refine lv_aload_n hx hb dX12_partsAre_118 rfl (lv_at hl 7 rfl) ?_
                refine x_get (C := RX12) (T := TX12) (N := 24) hx hb hts hin_X12 hown hK hP (37) (by decide) hob rfl 22 (by decide) hw_7 (fun _ h9 => h9) rfl dX12_partsAre_119 ?_
                refine lv_iload hx hb dX12_partsAre_122 (lv_at hl 5 rfl) ?_
                refine x_iald (f := Wz) hx hb hK hP (49) (by decide) h49 (by omega) (by omega) (by decide) dX12_partsAre_124 ?_
                have hb_68 := hW (i) (by omega) (by omega)
                refine x_icmp_ge (tgt := 141) hx hb (by omega) (by omega) dX12_partsAre_125 (by decide) (fun c_125 => ?_) (fun c_125 => ?_)
                · refine x_iconst hx hb dX12_partsAre_141 ?_
                  refine x_iadd hx hb dX12_partsAre_142 ?_
                  refine lv_istore (lv' := [(6, .int (iI (an + 0))), (5, .int (iI (hnd + (-(car + ((Wz (i)) - r_50)))))), (4, .int (iI (car + ((Wz (i)) - r_50)))), (3, .int (iI (r_50))), (2, .int (iI (r_50))), (8, .int (iI (r_50))), (7, .int (iI (i))), (0, .ref (g.2.2 37)), (1, .int (iI (o)))]) hx hb dX12_partsAre_143 hl (by decide) rfl (fun ls hl => ?_)
                  refine x_iinc (k0 := 6) (lv' := [(7, .int (iI (i + 1))), (6, .int (iI (an + 0))), (5, .int (iI (hnd + (-(car + ((Wz (i)) - r_50)))))), (4, .int (iI (car + ((Wz (i)) - r_50)))), (3, .int (iI (r_50))), (2, .int (iI (r_50))), (8, .int (iI (r_50))), (0, .ref (g.2.2 37)), (1, .int (iI (o)))]) hx hb dX12_partsAre_145 hl rfl (by decide) rfl (fun ls hl => ?_)
                  refine lv_goto (tgt := 36) hx hb dX12_partsAre_148 (by decide) ?_
                  exact ih_3 (i + 1) (r_50) (r_50) (car + ((Wz (i)) - r_50)) (hnd + (-(car + ((Wz (i)) - r_50)))) (an + 0) (by omega) (by omega) (by omega) (by rw [zMin9_succ _ hi0, ← e1]; first | (rw [if_pos (by omega)]; omega) | (rw [if_neg (by omega)])) (by rw [zMax0_succ _ hi0, ← e2]; first | (rw [if_pos (by omega)]; omega) | (rw [if_neg (by omega)])) (by unfold zCar at e3 ⊢; rw [zSum_succ _ hi0, ← e3]; omega) (by have e3x : zCar Wz (mP S) (i + 1).toNat = car + (Wz i - mP S i) := (by unfold zCar at e3 ⊢; rw [zSum_succ _ hi0, ← e3]); unfold zHnd at e4 ⊢; rw [zSum_succ _ hi0, ← e4, e3x]; unfold zAbs; first | (rw [if_pos (by omega)]; omega) | (rw [if_neg (by omega)]; omega)) (by unfold zAnS at e5 ⊢; rw [zSum_succ _ hi0, ← e5]; first | (rw [if_pos (by omega)]; omega) | (rw [if_neg (by omega)])) (by omega) (by omega) ls (lv_sub hl [0, 5, 4, 3, 2, 1, 7, 8] rfl)
                · refine lv_aload_n hx hb dX12_partsAre_128 rfl (lv_at hl 7 rfl) ?_
                  refine x_get (C := RX12) (T := TX12) (N := 24) hx hb hts hin_X12 hown hK hP (37) (by decide) hob rfl 22 (by decide) hw_7 (fun _ h9 => h9) rfl dX12_partsAre_129 ?_
                  refine lv_iload hx hb dX12_partsAre_132 (lv_at hl 5 rfl) ?_
                  refine x_iald (f := Wz) hx hb hK hP (49) (by decide) h49 (by omega) (by omega) (by decide) dX12_partsAre_134 ?_
                  have hb_69 := hW (i) (by omega) (by omega)
                  refine lv_iload hx hb dX12_partsAre_135 (lv_at hl 4 rfl) ?_
                  refine x_isub hx hb dX12_partsAre_137 ?_
                  refine lv_goto (tgt := 142) hx hb dX12_partsAre_138 (by decide) ?_
                  refine x_iadd hx hb dX12_partsAre_142 ?_
                  refine lv_istore (lv' := [(6, .int (iI (an + ((Wz (i)) - r_50)))), (5, .int (iI (hnd + (-(car + ((Wz (i)) - r_50)))))), (4, .int (iI (car + ((Wz (i)) - r_50)))), (3, .int (iI (r_50))), (2, .int (iI (r_50))), (8, .int (iI (r_50))), (7, .int (iI (i))), (0, .ref (g.2.2 37)), (1, .int (iI (o)))]) hx hb dX12_partsAre_143 hl (by decide) rfl (fun ls hl => ?_)
                  refine x_iinc (k0 := 6) (lv' := [(7, .int (iI (i + 1))), (6, .int (iI (an + ((Wz (i)) - r_50)))), (5, .int (iI (hnd + (-(car + ((Wz (i)) - r_50)))))), (4, .int (iI (car + ((Wz (i)) - r_50)))), (3, .int (iI (r_50))), (2, .int (iI (r_50))), (8, .int (iI (r_50))), (0, .ref (g.2.2 37)), (1, .int (iI (o)))]) hx hb dX12_partsAre_145 hl rfl (by decide) rfl (fun ls hl => ?_)
                  refine lv_goto (tgt := 36) hx hb dX12_partsAre_148 (by decide) ?_
                  exact ih_3 (i + 1) (r_50) (r_50) (car + ((Wz (i)) - r_50)) (hnd + (-(car + ((Wz (i)) - r_50)))) (an + ((Wz (i)) - r_50)) (by omega) (by omega) (by omega) (by rw [zMin9_succ _ hi0, ← e1]; first | (rw [if_pos (by omega)]; omega) | (rw [if_neg (by omega)])) (by rw [zMax0_succ _ hi0, ← e2]; first | (rw [if_pos (by omega)]; omega) | (rw [if_neg (by omega)])) (by unfold zCar at e3 ⊢; rw [zSum_succ _ hi0, ← e3]; omega) (by have e3x : zCar Wz (mP S) (i + 1).toNat = car + (Wz i - mP S i) := (by unfold zCar at e3 ⊢; rw [zSum_succ _ hi0, ← e3]); unfold zHnd at e4 ⊢; rw [zSum_succ _ hi0, ← e4, e3x]; unfold zAbs; first | (rw [if_pos (by omega)]; omega) | (rw [if_neg (by omega)]; omega)) (by unfold zAnS at e5 ⊢; rw [zSum_succ _ hi0, ← e5]; first | (rw [if_pos (by omega)]; omega) | (rw [if_neg (by omega)])) (by omega) (by omega) ls (lv_sub hl [0, 5, 4, 3, 2, 1, 7, 8] rfl)
    exact hloop_36 (((S 0 - (0)).toNat) + 1) (0) (9999) (0) (0) (0) (0) (by omega) (by omega) (by omega) (by rfl) (by rfl) (by rfl) (by rfl) (by rfl) (by omega) (by omega) ls (lv_sub hl [0, 5, 4, 3, 2, 1, 6, 7] rfl)
  · refine x_retQv hx hb hr ?_ hP hD hS dX12_partsAre_7 hlocks
    refine ⟨rfl, hfr, ov, hob, ?_, hAc, rfl⟩
    unfold zNote; rw [if_pos (by omega)]
