def kdO (pk : Nat → Nat) (o : Option Nat) : Nat := match o with
  | some a => pk a
  | none => 0
def fgO (pf : Nat → Int) (o : Option Nat) : Int := match o with
  | some a => pf a
  | none => 0
def sK (σ : xS) (G : Int → Option Nat) : Int → Nat := fun i => kdO σ.2.2.1 (G i)
def sF (σ : xS) (G : Int → Option Nat) : Int → Int := fun i => fgO σ.2.2.2 (G i)
/-- a street's three cells -/
def StAt (g : xG) (M : xM) (b : Nat) (n rd : Int) (P : Int → Int) (G : Int → Option Nat) : Prop := M b = .inr (7, [.ref (g.2.2 (b + 1)), .ref (g.2.2 (b + 2)), .int (iI n), .int (iI rd)]) ∧ M (b + 1) = .inl (g.2.1 1, 9, .inr (.inr (.inr (.inr (fun k => G (k : Int)))))) ∧ M (b + 2) = .inl (g.2.1 0, 9, .inl (fun k => iI (P (k : Int))))
def StOk (σ : xS) (n rd : Int) (P : Int → Int) (G : Int → Option Nat) : Prop := 0 ≤ n ∧ n ≤ 9 ∧ (rd = 0 ∨ rd = 1) ∧ (∀ i, inR (P i)) ∧ (∀ i a, G i = some a → a ∈ σ.2.1) ∧ ∀ i, 0 ≤ i → i < n → (∃ a, G i = some a) ∧ 0 ≤ P i ∧ P i ≤ 9999
def zAhead (n rd i : Int) : Int := if 0 < i then i - 1 else if rd = 1 ∧ 3 ≤ n then n - 1 else -1
def zBehind (n rd i : Int) : Int := if i < n - 1 then i + 1 else if rd = 1 ∧ 3 ≤ n then 0 else -1
def zLim (K : Int → Nat) (F P : Int → Int) (i j : Int) : Int := if j = -1 then 1000000 else if K j = 3 then 1000000 else zMay (K i) (F i) (zShown (K j) (F j) (P j))
def zMost (K : Int → Nat) (F P : Int → Int) (n rd i : Int) : Int := min 9999 (min (zLim K F P i (zAhead n rd i)) (zLim K F P i (zBehind n rd i)))
def zBr (K : Int → Nat) (F P : Int → Int) (n rd i : Int) : Int := (if zLim K F P i (zAhead n rd i) < P i then 1 else 0) + (if zLim K F P i (zBehind n rd i) < P i then 1 else 0)
def zSum (f : Int → Int) : Nat → Int
  | 0 => 0
  | k + 1 => zSum f k + f (k : Int)
def zAll (K : Int → Nat) (F P : Int → Int) (n rd : Int) : Int := zSum (fun i => zBr K F P n rd i) n.toNat
def zNone (K : Int → Nat) (F P : Int → Int) (n rd : Int) : Int := zSum (fun i => if zBr K F P n rd i = 0 then 1 else 0) n.toNat
def zHold (K : Int → Nat) (F P : Int → Int) (n rd i : Int) : Int := if zLim K F P i (zBehind n rd i) < P i + 1 then iOr (if zLim K F P i (zAhead n rd i) < P i + 1 then iShl 1 (zAhead n rd i) else 0) (iShl 1 (zBehind n rd i)) else (if zLim K F P i (zAhead n rd i) < P i + 1 then iShl 1 (zAhead n rd i) else 0)
theorem zAhead_rng (n rd i : Int) (h : 0 ≤ i ∧ i < n) : zAhead n rd i = -1 ∨ (0 ≤ zAhead n rd i ∧ zAhead n rd i < n) := by
  unfold zAhead; split
  · omega
  · split <;> omega
theorem zBehind_rng (n rd i : Int) (h : 0 ≤ i ∧ i < n) : zBehind n rd i = -1 ∨ (0 ≤ zBehind n rd i ∧ zBehind n rd i < n) := by
  unfold zBehind; split
  · omega
  · split <;> omega
theorem zShown_rng (k : Nat) {f : Int} (hf : 0 ≤ f ∧ f ≤ 9) (p : Int) (hp : 0 ≤ p ∧ p ≤ 9999) : 0 ≤ zShown k f p ∧ zShown k f p ≤ 10008 := by
  unfold zShown; split
  · omega
  · split
    · omega
    · split <;> omega
theorem zMay_rng (k : Nat) {f : Int} (hf : 0 ≤ f ∧ f ≤ 9) (x : Int) (hx : 0 ≤ x ∧ x ≤ 10008) : 0 ≤ zMay k f x ∧ zMay k f x ≤ 50000 := by
  unfold zMay; split
  · omega
  · split
    · omega
    · split
      · split <;> omega
      · split <;> omega
theorem zWeek_rng (k : Nat) {f : Int} (hf : 0 ≤ f ∧ f ≤ 9) : 0 ≤ zWeek k f ∧ zWeek k f ≤ 22 := by
  unfold zWeek; repeat' split
  all_goals omega
theorem zFee_rng (k : Nat) {f : Int} (hf : 0 ≤ f ∧ f ≤ 9) : 0 ≤ zFee k f ∧ zFee k f ≤ 51 := by
  unfold zFee; repeat' split
  all_goals omega
theorem zSum_succ (f : Int → Int) {i : Int} (h : 0 ≤ i) : zSum f (i + 1).toNat = zSum f i.toNat + f i := by
  have e : (i + 1).toNat = i.toNat + 1 := by omega
  rw [e]
  show zSum f i.toNat + f ((i.toNat : Nat) : Int) = _
  rw [Int.toNat_of_nonneg h]
theorem zSum_zero (f : Int → Int) : zSum f (0 : Int).toNat = 0 := rfl
theorem zSum_bnd (f : Int → Int) (c : Int) : ∀ k : Nat, (∀ i : Int, 0 ≤ i → i < k → 0 ≤ f i ∧ f i ≤ c) → 0 ≤ zSum f k ∧ zSum f k ≤ k * c
  | 0, _ => by simp [zSum]
  | k + 1, h => by
    have ih := zSum_bnd f c k (fun i h1 h2 => h i h1 (by omega))
    have hk := h k (by omega) (by omega)
    show 0 ≤ zSum f k + f k ∧ zSum f k + f k ≤ ((k + 1 : Nat) : Int) * c
    have e : ((k + 1 : Nat) : Int) * c = k * c + c := by rw [Int.natCast_add, Int.add_mul]; simp
    omega
theorem zMulB (w r : Int) (hw : 0 ≤ w ∧ w ≤ 99) (hr : 0 ≤ r ∧ r ≤ 22) : 0 ≤ w * r ∧ w * r ≤ 2178 := by
  constructor
  · exact Int.mul_nonneg hw.1 hr.1
  · exact Int.le_trans (Int.mul_le_mul hw.2 hr.2 hr.1 (by omega)) (by omega)
def zCopy {α : Type} (f g : Int → α) (k : Int) : Int → α := fun i => if 0 ≤ i ∧ i < k then f i else g i
theorem zCopy_0 {α : Type} (f g : Int → α) : zCopy f g 0 = g := by
  funext i; unfold zCopy; rw [if_neg (by omega)]
theorem zCopy_step {α : Type} {f g : Int → α} {k : Int} (h : 0 ≤ k) : upI (zCopy f g k) k (f k) = zCopy f g (k + 1) := by
  funext i; unfold upI zCopy
  by_cases e : i = k
  · subst e; rw [if_pos rfl, if_pos (by omega)]
  · rw [if_neg e]
    by_cases h2 : 0 ≤ i ∧ i < k
    · rw [if_pos h2, if_pos (by omega)]
    · rw [if_neg h2, if_neg (by omega)]
theorem zCopy_in {α : Type} {f g : Int → α} {k i : Int} (h : 0 ≤ i) (h2 : i < k) : zCopy f g k i = f i := by unfold zCopy; rw [if_pos ⟨h, h2⟩]
theorem zCopy_out {α : Type} {f g : Int → α} {k i : Int} (h2 : k ≤ i) : zCopy f g k i = g i := by unfold zCopy; rw [if_neg (by omega)]
def zUp {α : Type} (f : Int → α) (k n : Int) : Int → α := fun i => if k < i ∧ i ≤ n then f (i - 1) else f i
theorem zUp_0 {α : Type} (f : Int → α) (n : Int) : zUp f n n = f := by
  funext i; unfold zUp; rw [if_neg (by omega)]
theorem zUp_rd {α : Type} {f : Int → α} {k n : Int} : zUp f k n (k - 1) = f (k - 1) := by unfold zUp; rw [if_neg (by omega)]
theorem zUp_step {α : Type} {f : Int → α} {k n : Int} (h : k ≤ n) : upI (zUp f k n) k (f (k - 1)) = zUp f (k - 1) n := by
  funext i; unfold upI zUp
  by_cases e : i = k
  · subst e; rw [if_pos rfl, if_pos (by omega)]
  · rw [if_neg e]
    by_cases h2 : k < i ∧ i ≤ n
    · rw [if_pos h2, if_pos (by omega)]
    · rw [if_neg h2, if_neg (by omega)]
def zDown {α : Type} (f : Int → α) (a k : Int) : Int → α := fun i => if a ≤ i ∧ i < k then f (i + 1) else f i
theorem zDown_0 {α : Type} (f : Int → α) (a : Int) : zDown f a a = f := by
  funext i; unfold zDown; rw [if_neg (by omega)]
theorem zDown_rd {α : Type} {f : Int → α} {a k : Int} : zDown f a k (k + 1) = f (k + 1) := by unfold zDown; rw [if_neg (by omega)]
theorem zDown_step {α : Type} {f : Int → α} {a k : Int} (h : a ≤ k) : upI (zDown f a k) k (f (k + 1)) = zDown f a (k + 1) := by
  funext i; unfold upI zDown
  by_cases e : i = k
  · subst e; rw [if_pos rfl, if_pos (by omega)]
  · rw [if_neg e]
    by_cases h2 : a ≤ i ∧ i < k
    · rw [if_pos h2, if_pos (by omega)]
    · rw [if_neg h2, if_neg (by omega)]
def zGift (P : Int → Int) (a b c : Int) : Int → Int := upI (upI P a (P a - c)) b (upI P a (P a - c) b + c)
def zSteal (P : Int → Int) (n t o : Int) : Int → Int := if o ≠ -1 ∧ 0 < P o ∧ P t < 9999 then upI (upI P o (P o - 1)) t (upI P o (P o - 1) t + 1) else P
def zGiftR (P : Int → Int) (n a b c : Int) : Int := if ¬ (0 ≤ a ∧ a < n ∧ 0 ≤ b ∧ b < n ∧ a ≠ b) ∨ c < 1 then -1 else if P a < c then -3 else if 9999 < P b + c then -2 else 0
def zSwap {α : Type} (f : Int → α) (a b : Int) : Int → α := upI (upI f a (f b)) b (f a)
theorem zBr_rng (K : Int → Nat) (F P : Int → Int) (n rd i : Int) : 0 ≤ zBr K F P n rd i ∧ zBr K F P n rd i ≤ 2 := by
  unfold zBr; split <;> split <;> omega
theorem x_aaldS {p : Program} {l : Launch} {e : Env} {R : Room} {s : State} {m : MethodId} {args : Array Value} {below : List Frame} {meth : Method} {c : Code} {H : Heap} {locs : List Loc} {cells slots : Nat} {Q : State → Prop} {cc : ByteArray} {pc : Nat} {ls : Array Slot} {rest : List Value} {g : xG} {σ : xS} {C : String} (t0 : Nat) (hx : p.tables.exec = Jvm.exec) (hb : c.code = cc) (hK : xK g s) (hP : xP g σ H) (i : Nat) (hi : i < xN) {cA : ClassId} {n : Nat} {f : Int → Option Nat} (hm : σ.1 i = .inl (cA, n, .inr (.inr (.inr (.inr (fun k => f (k : Int))))))) (ht : (xtys g)[t0]? = some (cA, .object C)) {z : Int} (h0 : 0 ≤ z) (h1 : z < (n : Int)) (hn : n ≤ 2147483648) {v : Nat} (hG : f z = some v) (hdg : decode cc pc = .ok (.aaload, 1))
    (k : W p l e R s m args below meth c H locs cells slots Q (F0 m (pc + 1) ls (.ref v :: rest))) : W p l e R s m args below meth c H locs cells slots Q (F0 m (pc) ls (.int (iI z) :: .ref (g.2.2 i) :: rest)) := x_aald hx hb t0 hK hP i hi hm ht h0 h1 hn hdg (by rw [hG]; exact k)

set_option maxHeartbeats 4000000 in
set_option maxRecDepth 100000 in
theorem c_X7_has (l : Launch) (g : xG) (σ : xS) (b : Nat) (hb3 : b + 2 < xN) (n rd : Int) (P : Int → Int) (G : Int → Option Nat) (hst : StAt g σ.1 b n rd P G) (hok : StOk σ n rd P G) (hH : HsOk σ) (i : Int) (hi : inR i) : Met l yX7_has wsX7_has ({ frames := 1, cells := 0, slots := 0, locals := 32 }) (va_Pc [.ref (g.2.2 (b)), .int (iI (i))] (xPre g σ)) (x_Si (fun r => (r = 1 ∧ 0 ≤ i ∧ i < n) ∨ (r = 0 ∧ ¬ (0 ≤ i ∧ i < n)))) (0) (0) (fun _ => False) := by
  refine Met.ofW (cc := cX7_has) (maxL := 2) (ret := (some .boolean)) (by decide) rfl ?_
  intro p e s m args below meth c s₁ B hml hv
  obtain ⟨rfl, hP, hK⟩ := hv
  have hx := B.exec
  have hb := B.bytes
  have hr := B.returns
  have hts := atoms_spec (ws := wsX7_has) B.pre
  have hown : s.vm.findClass RX7 = some m.cls := findClass_of_methodNamed B.named
  have hlocks := B.notSynchronized
  have hl := lv_entry ([.ref (g.2.2 (b)), .int (iI (i))]) (n := 2) (Nat.le_of_ble_eq_true rfl)
  rw [lg_entry_eq]
  generalize (lg_sl ([.ref (g.2.2 (b)), .int (iI (i))]) ++ List.replicate (2 - (lg_sl ([.ref (g.2.2 (b)), .int (iI (i))])).length) Slot.unset).toArray = ls at hl ⊢
  have hl : lv_has ls 2 [(0, .ref (g.2.2 (b))), (1, .int (iI (i)))] := hl
  obtain ⟨hm0, hm1, hm2⟩ := hst
  have hok1 := hok.1
  have hok2 := hok.2.1
  have hok3 := hok.2.2.1
  have hw_0 := hts (.fieldLink RX7 21 "TwiceAsRich$Street" "count" "I") (by decide +kernel)
  have hin_X7 : ∀ w ∈ wsX70, w ∈ wsX7_has := by decide +kernel
  refine lv_iload_n hx hb dX7_has_0 rfl (lv_at hl 1 rfl) ?_
  refine x_if_lt (tgt := 16) hx hb (by omega) dX7_has_1 (by decide) (fun c_1 => ?_) (fun c_1 => ?_)
  · refine x_iconst hx hb dX7_has_16 ?_
    refine x_retPz hx hb hr (by omega) ?_ dX7_has_17 hlocks
    omega
  · refine lv_iload_n hx hb dX7_has_4 rfl (lv_at hl 1 rfl) ?_
    refine lv_aload_n hx hb dX7_has_5 rfl (lv_at hl 0 rfl) ?_
    refine x_get (C := RX7) (T := TX7) (N := 4) hx hb hts hin_X7 hown hK hP (b) (by omega) hm0 rfl 2 (by decide) hw_0 (fun _ h9 => h9) rfl dX7_has_6 ?_
    refine x_icmp_ge (tgt := 16) hx hb (by omega) (by omega) dX7_has_9 (by decide) (fun c_9 => ?_) (fun c_9 => ?_)
    · refine x_iconst hx hb dX7_has_16 ?_
      refine x_retPz hx hb hr (by omega) ?_ dX7_has_17 hlocks
      omega
    · refine x_iconst hx hb dX7_has_12 ?_
      refine lv_goto (tgt := 17) hx hb dX7_has_13 (by decide) ?_
      refine x_retPz hx hb hr (by omega) ?_ dX7_has_17 hlocks
      omega

set_option maxHeartbeats 4000000 in
set_option maxRecDepth 100000 in
theorem c_X7_hasTwo (l : Launch) (g : xG) (σ : xS) (b : Nat) (hb3 : b + 2 < xN) (n rd : Int) (P : Int → Int) (G : Int → Option Nat) (hst : StAt g σ.1 b n rd P G) (hok : StOk σ n rd P G) (hH : HsOk σ) (i : Int) (hi : inR i) (j : Int) (hj : inR j) : Met l yX7_hasTwo wsX7_hasTwo ({ frames := 2, cells := 0, slots := 0, locals := 64 }) (va_Pc [.ref (g.2.2 (b)), .int (iI (i)), .int (iI (j))] (xPre g σ)) (x_Si (fun r => (r = 1 ∧ (0 ≤ i ∧ i < n ∧ 0 ≤ j ∧ j < n ∧ i ≠ j)) ∨ (r = 0 ∧ ¬ (0 ≤ i ∧ i < n ∧ 0 ≤ j ∧ j < n ∧ i ≠ j)))) (0) (0) (fun _ => False) := by
  refine Met.ofW (cc := cX7_hasTwo) (maxL := 3) (ret := (some .boolean)) (by decide) rfl ?_
  intro p e s m args below meth c s₁ B hml hv
  obtain ⟨rfl, hP, hK⟩ := hv
  have hx := B.exec
  have hb := B.bytes
  have hr := B.returns
  have hts := atoms_spec (ws := wsX7_hasTwo) B.pre
  have hown : s.vm.findClass RX7 = some m.cls := findClass_of_methodNamed B.named
  have hlocks := B.notSynchronized
  have hl := lv_entry ([.ref (g.2.2 (b)), .int (iI (i)), .int (iI (j))]) (n := 3) (Nat.le_of_ble_eq_true rfl)
  rw [lg_entry_eq]
  generalize (lg_sl ([.ref (g.2.2 (b)), .int (iI (i)), .int (iI (j))]) ++ List.replicate (3 - (lg_sl ([.ref (g.2.2 (b)), .int (iI (i)), .int (iI (j))])).length) Slot.unset).toArray = ls at hl ⊢
  have hl : lv_has ls 3 [(0, .ref (g.2.2 (b))), (1, .int (iI (i))), (2, .int (iI (j)))] := hl
  obtain ⟨hm0, hm1, hm2⟩ := hst
  have hok1 := hok.1
  have hok2 := hok.2.1
  have hok3 := hok.2.2.1
  refine lv_aload_n hx hb dX7_hasTwo_0 rfl (lv_at hl 0 rfl) ?_
  refine lv_iload_n hx hb dX7_hasTwo_1 rfl (lv_at hl 1 rfl) ?_
  refine x_ci (va_runV (As := [.int (iI (i))]) (rest := []) ⟨hx, hb, hml, hown, hts⟩ (c_X7_has l g σ (b) hb3 (n) (rd) P G ⟨hm0, hm1, hm2⟩ hok hH (i) (by omega)) (cwV 1 hts gX7_hasTwo_X7_has rfl rfl rfl (by decide +kernel) ⟨Nat.le_of_ble_eq_true rfl, Nat.le_of_ble_eq_true rfl⟩) (x_preV hK hP (x_recv hK hP (i := b) (by omega) hm0 rfl)) rfl rfl hl.1 rfl (lv_room (Nat.le_of_ble_eq_true rfl)) dX7_hasTwo_2 ⟨Nat.le_of_ble_eq_true rfl, Nat.le_of_ble_eq_true rfl⟩) (fun r_2 hr_2 qr_2 => ?_)
  replace qr_2 : (r_2 = 1 ∧ 0 ≤ (i) ∧ (i) < (n)) ∨ (r_2 = 0 ∧ ¬ (0 ≤ (i) ∧ (i) < (n))) := qr_2
  refine x_if_eq (tgt := 25) hx hb (by omega) dX7_hasTwo_5 (by decide) (fun c_5 => ?_) (fun c_5 => ?_)
  · refine x_iconst hx hb dX7_hasTwo_25 ?_
    refine x_retPz hx hb hr (by omega) ?_ dX7_hasTwo_26 hlocks
    omega
  · refine lv_aload_n hx hb dX7_hasTwo_8 rfl (lv_at hl 0 rfl) ?_
    refine lv_iload_n hx hb dX7_hasTwo_9 rfl (lv_at hl 2 rfl) ?_
    refine x_ci (va_runV (As := [.int (iI (j))]) (rest := []) ⟨hx, hb, hml, hown, hts⟩ (c_X7_has l g σ (b) hb3 (n) (rd) P G ⟨hm0, hm1, hm2⟩ hok hH (j) (by omega)) (cwV 1 hts gX7_hasTwo_X7_has rfl rfl rfl (by decide +kernel) ⟨Nat.le_of_ble_eq_true rfl, Nat.le_of_ble_eq_true rfl⟩) (x_preV hK hP (x_recv hK hP (i := b) (by omega) hm0 rfl)) rfl rfl hl.1 rfl (lv_room (Nat.le_of_ble_eq_true rfl)) dX7_hasTwo_10 ⟨Nat.le_of_ble_eq_true rfl, Nat.le_of_ble_eq_true rfl⟩) (fun r_10 hr_10 qr_10 => ?_)
    replace qr_10 : (r_10 = 1 ∧ 0 ≤ (j) ∧ (j) < (n)) ∨ (r_10 = 0 ∧ ¬ (0 ≤ (j) ∧ (j) < (n))) := qr_10
    refine x_if_eq (tgt := 25) hx hb (by omega) dX7_hasTwo_13 (by decide) (fun c_13 => ?_) (fun c_13 => ?_)
    · refine x_iconst hx hb dX7_hasTwo_25 ?_
      refine x_retPz hx hb hr (by omega) ?_ dX7_hasTwo_26 hlocks
      omega
    · refine lv_iload_n hx hb dX7_hasTwo_16 rfl (lv_at hl 1 rfl) ?_
      refine lv_iload_n hx hb dX7_hasTwo_17 rfl (lv_at hl 2 rfl) ?_
      refine x_icmp_eq (tgt := 25) hx hb (by omega) (by omega) dX7_hasTwo_18 (by decide) (fun c_18 => ?_) (fun c_18 => ?_)
      · refine x_iconst hx hb dX7_hasTwo_25 ?_
        refine x_retPz hx hb hr (by omega) ?_ dX7_hasTwo_26 hlocks
        omega
      · refine x_iconst hx hb dX7_hasTwo_21 ?_
        refine lv_goto (tgt := 26) hx hb dX7_hasTwo_22 (by decide) ?_
        refine x_retPz hx hb hr (by omega) ?_ dX7_hasTwo_26 hlocks
        omega

set_option maxHeartbeats 4000000 in
set_option maxRecDepth 100000 in
theorem c_X7_isClosed (l : Launch) (g : xG) (σ : xS) (b : Nat) (hb3 : b + 2 < xN) (n rd : Int) (P : Int → Int) (G : Int → Option Nat) (hst : StAt g σ.1 b n rd P G) (hok : StOk σ n rd P G) (hH : HsOk σ) : Met l yX7_isClosed wsX7_isClosed ({ frames := 1, cells := 0, slots := 0, locals := 32 }) (va_Pc [.ref (g.2.2 (b))] (xPre g σ)) (x_Si (fun r => (r = 1 ∧ rd = 1 ∧ 3 ≤ n) ∨ (r = 0 ∧ ¬ (rd = 1 ∧ 3 ≤ n)))) (0) (0) (fun _ => False) := by
  refine Met.ofW (cc := cX7_isClosed) (maxL := 1) (ret := (some .boolean)) (by decide) rfl ?_
  intro p e s m args below meth c s₁ B hml hv
  obtain ⟨rfl, hP, hK⟩ := hv
  have hx := B.exec
  have hb := B.bytes
  have hr := B.returns
  have hts := atoms_spec (ws := wsX7_isClosed) B.pre
  have hown : s.vm.findClass RX7 = some m.cls := findClass_of_methodNamed B.named
  have hlocks := B.notSynchronized
  have hl := lv_entry ([.ref (g.2.2 (b))]) (n := 1) (Nat.le_of_ble_eq_true rfl)
  rw [lg_entry_eq]
  generalize (lg_sl ([.ref (g.2.2 (b))]) ++ List.replicate (1 - (lg_sl ([.ref (g.2.2 (b))])).length) Slot.unset).toArray = ls at hl ⊢
  have hl : lv_has ls 1 [(0, .ref (g.2.2 (b)))] := hl
  obtain ⟨hm0, hm1, hm2⟩ := hst
  have hok1 := hok.1
  have hok2 := hok.2.1
  have hok3 := hok.2.2.1
  have hw_0 := hts (.fieldLink RX7 25 "TwiceAsRich$Street" "round" "I") (by decide +kernel)
  have hin_X7 : ∀ w ∈ wsX70, w ∈ wsX7_isClosed := by decide +kernel
  have hw_2 := hts (.fieldLink RX7 21 "TwiceAsRich$Street" "count" "I") (by decide +kernel)
  refine lv_aload_n hx hb dX7_isClosed_0 rfl (lv_at hl 0 rfl) ?_
  refine x_get (C := RX7) (T := TX7) (N := 4) hx hb hts hin_X7 hown hK hP (b) (by omega) hm0 rfl 3 (by decide) hw_0 (fun _ h9 => h9) rfl dX7_isClosed_1 ?_
  refine x_iconst hx hb dX7_isClosed_4 ?_
  refine x_icmp_ne (tgt := 20) hx hb (by omega) (by omega) dX7_isClosed_5 (by decide) (fun c_5 => ?_) (fun c_5 => ?_)
  · refine x_iconst hx hb dX7_isClosed_20 ?_
    refine x_retPz hx hb hr (by omega) ?_ dX7_isClosed_21 hlocks
    omega
  · refine lv_aload_n hx hb dX7_isClosed_8 rfl (lv_at hl 0 rfl) ?_
    refine x_get (C := RX7) (T := TX7) (N := 4) hx hb hts hin_X7 hown hK hP (b) (by omega) hm0 rfl 2 (by decide) hw_2 (fun _ h9 => h9) rfl dX7_isClosed_9 ?_
    refine x_iconst hx hb dX7_isClosed_12 ?_
    refine x_icmp_lt (tgt := 20) hx hb (by omega) (by omega) dX7_isClosed_13 (by decide) (fun c_13 => ?_) (fun c_13 => ?_)
    · refine x_iconst hx hb dX7_isClosed_20 ?_
      refine x_retPz hx hb hr (by omega) ?_ dX7_isClosed_21 hlocks
      omega
    · refine x_iconst hx hb dX7_isClosed_16 ?_
      refine lv_goto (tgt := 21) hx hb dX7_isClosed_17 (by decide) ?_
      refine x_retPz hx hb hr (by omega) ?_ dX7_isClosed_21 hlocks
      omega

set_option maxHeartbeats 4000000 in
set_option maxRecDepth 100000 in
theorem c_X7_ahead (l : Launch) (g : xG) (σ : xS) (b : Nat) (hb3 : b + 2 < xN) (n rd : Int) (P : Int → Int) (G : Int → Option Nat) (hst : StAt g σ.1 b n rd P G) (hok : StOk σ n rd P G) (hH : HsOk σ) (i : Int) (hi : 0 ≤ i ∧ i < n) : Met l yX7_ahead wsX7_ahead ({ frames := 2, cells := 0, slots := 0, locals := 64 }) (va_Pc [.ref (g.2.2 (b)), .int (iI (i))] (xPre g σ)) (x_Si (fun r => r = zAhead n rd i)) (0) (0) (fun _ => False) := by
  refine Met.ofW (cc := cX7_ahead) (maxL := 2) (ret := (some .int)) (by decide) rfl ?_
  intro p e s m args below meth c s₁ B hml hv
  obtain ⟨rfl, hP, hK⟩ := hv
  have hx := B.exec
  have hb := B.bytes
  have hr := B.returns
  have hts := atoms_spec (ws := wsX7_ahead) B.pre
  have hown : s.vm.findClass RX7 = some m.cls := findClass_of_methodNamed B.named
  have hlocks := B.notSynchronized
  have hl := lv_entry ([.ref (g.2.2 (b)), .int (iI (i))]) (n := 2) (Nat.le_of_ble_eq_true rfl)
  rw [lg_entry_eq]
  generalize (lg_sl ([.ref (g.2.2 (b)), .int (iI (i))]) ++ List.replicate (2 - (lg_sl ([.ref (g.2.2 (b)), .int (iI (i))])).length) Slot.unset).toArray = ls at hl ⊢
  have hl : lv_has ls 2 [(0, .ref (g.2.2 (b))), (1, .int (iI (i)))] := hl
  obtain ⟨hm0, hm1, hm2⟩ := hst
  have hok1 := hok.1
  have hok2 := hok.2.1
  have hok3 := hok.2.2.1
  have hw_0 := hts (.fieldLink RX7 21 "TwiceAsRich$Street" "count" "I") (by decide +kernel)
  have hin_X7 : ∀ w ∈ wsX70, w ∈ wsX7_ahead := by decide +kernel
  refine lv_iload_n hx hb dX7_ahead_0 rfl (lv_at hl 1 rfl) ?_
  refine x_if_le (tgt := 8) hx hb (by omega) dX7_ahead_1 (by decide) (fun c_1 => ?_) (fun c_1 => ?_)
  · refine lv_aload_n hx hb dX7_ahead_8 rfl (lv_at hl 0 rfl) ?_
    refine x_ci (va_runV (As := []) (rest := []) ⟨hx, hb, hml, hown, hts⟩ (c_X7_isClosed l g σ (b) hb3 (n) (rd) P G ⟨hm0, hm1, hm2⟩ hok hH ) (cwV 0 hts gX7_ahead_X7_isClosed rfl rfl rfl (by decide +kernel) ⟨Nat.le_of_ble_eq_true rfl, Nat.le_of_ble_eq_true rfl⟩) (x_preV hK hP (x_recv hK hP (i := b) (by omega) hm0 rfl)) rfl rfl hl.1 rfl (lv_room (Nat.le_of_ble_eq_true rfl)) dX7_ahead_9 ⟨Nat.le_of_ble_eq_true rfl, Nat.le_of_ble_eq_true rfl⟩) (fun r_9 hr_9 qr_9 => ?_)
    replace qr_9 : (r_9 = 1 ∧ (rd) = 1 ∧ 3 ≤ (n)) ∨ (r_9 = 0 ∧ ¬ ((rd) = 1 ∧ 3 ≤ (n))) := qr_9
    refine x_if_eq (tgt := 24) hx hb (by omega) dX7_ahead_12 (by decide) (fun c_12 => ?_) (fun c_12 => ?_)
    · refine x_iconst hx hb dX7_ahead_24 ?_
      refine x_retP hx hb hr (by omega) ?_ dX7_ahead_25 hlocks
      unfold zAhead; split <;> (try split) <;> omega
    · refine lv_aload_n hx hb dX7_ahead_15 rfl (lv_at hl 0 rfl) ?_
      refine x_get (C := RX7) (T := TX7) (N := 4) hx hb hts hin_X7 hown hK hP (b) (by omega) hm0 rfl 2 (by decide) hw_0 (fun _ h9 => h9) rfl dX7_ahead_16 ?_
      refine x_iconst hx hb dX7_ahead_19 ?_
      refine x_isub hx hb dX7_ahead_20 ?_
      refine lv_goto (tgt := 25) hx hb dX7_ahead_21 (by decide) ?_
      refine x_retP hx hb hr (by omega) ?_ dX7_ahead_25 hlocks
      unfold zAhead; split <;> (try split) <;> omega
  · refine lv_iload_n hx hb dX7_ahead_4 rfl (lv_at hl 1 rfl) ?_
    refine x_iconst hx hb dX7_ahead_5 ?_
    refine x_isub hx hb dX7_ahead_6 ?_
    refine x_retP hx hb hr (by omega) ?_ dX7_ahead_7 hlocks
    unfold zAhead; split <;> (try split) <;> omega

set_option maxHeartbeats 4000000 in
set_option maxRecDepth 100000 in
theorem c_X7_behind (l : Launch) (g : xG) (σ : xS) (b : Nat) (hb3 : b + 2 < xN) (n rd : Int) (P : Int → Int) (G : Int → Option Nat) (hst : StAt g σ.1 b n rd P G) (hok : StOk σ n rd P G) (hH : HsOk σ) (i : Int) (hi : 0 ≤ i ∧ i < n) : Met l yX7_behind wsX7_behind ({ frames := 2, cells := 0, slots := 0, locals := 64 }) (va_Pc [.ref (g.2.2 (b)), .int (iI (i))] (xPre g σ)) (x_Si (fun r => r = zBehind n rd i)) (0) (0) (fun _ => False) := by
  refine Met.ofW (cc := cX7_behind) (maxL := 2) (ret := (some .int)) (by decide) rfl ?_
  intro p e s m args below meth c s₁ B hml hv
  obtain ⟨rfl, hP, hK⟩ := hv
  have hx := B.exec
  have hb := B.bytes
  have hr := B.returns
  have hts := atoms_spec (ws := wsX7_behind) B.pre
  have hown : s.vm.findClass RX7 = some m.cls := findClass_of_methodNamed B.named
  have hlocks := B.notSynchronized
  have hl := lv_entry ([.ref (g.2.2 (b)), .int (iI (i))]) (n := 2) (Nat.le_of_ble_eq_true rfl)
  rw [lg_entry_eq]
  generalize (lg_sl ([.ref (g.2.2 (b)), .int (iI (i))]) ++ List.replicate (2 - (lg_sl ([.ref (g.2.2 (b)), .int (iI (i))])).length) Slot.unset).toArray = ls at hl ⊢
  have hl : lv_has ls 2 [(0, .ref (g.2.2 (b))), (1, .int (iI (i)))] := hl
  obtain ⟨hm0, hm1, hm2⟩ := hst
  have hok1 := hok.1
  have hok2 := hok.2.1
  have hok3 := hok.2.2.1
  have hw_0 := hts (.fieldLink RX7 21 "TwiceAsRich$Street" "count" "I") (by decide +kernel)
  have hin_X7 : ∀ w ∈ wsX70, w ∈ wsX7_behind := by decide +kernel
  refine lv_iload_n hx hb dX7_behind_0 rfl (lv_at hl 1 rfl) ?_
  refine lv_aload_n hx hb dX7_behind_1 rfl (lv_at hl 0 rfl) ?_
  refine x_get (C := RX7) (T := TX7) (N := 4) hx hb hts hin_X7 hown hK hP (b) (by omega) hm0 rfl 2 (by decide) hw_0 (fun _ h9 => h9) rfl dX7_behind_2 ?_
  refine x_iconst hx hb dX7_behind_5 ?_
  refine x_isub hx hb dX7_behind_6 ?_
  refine x_icmp_ge (tgt := 14) hx hb (by omega) (by omega) dX7_behind_7 (by decide) (fun c_7 => ?_) (fun c_7 => ?_)
  · refine lv_aload_n hx hb dX7_behind_14 rfl (lv_at hl 0 rfl) ?_
    refine x_ci (va_runV (As := []) (rest := []) ⟨hx, hb, hml, hown, hts⟩ (c_X7_isClosed l g σ (b) hb3 (n) (rd) P G ⟨hm0, hm1, hm2⟩ hok hH ) (cwV 0 hts gX7_behind_X7_isClosed rfl rfl rfl (by decide +kernel) ⟨Nat.le_of_ble_eq_true rfl, Nat.le_of_ble_eq_true rfl⟩) (x_preV hK hP (x_recv hK hP (i := b) (by omega) hm0 rfl)) rfl rfl hl.1 rfl (lv_room (Nat.le_of_ble_eq_true rfl)) dX7_behind_15 ⟨Nat.le_of_ble_eq_true rfl, Nat.le_of_ble_eq_true rfl⟩) (fun r_15 hr_15 qr_15 => ?_)
    replace qr_15 : (r_15 = 1 ∧ (rd) = 1 ∧ 3 ≤ (n)) ∨ (r_15 = 0 ∧ ¬ ((rd) = 1 ∧ 3 ≤ (n))) := qr_15
    refine x_if_eq (tgt := 25) hx hb (by omega) dX7_behind_18 (by decide) (fun c_18 => ?_) (fun c_18 => ?_)
    · refine x_iconst hx hb dX7_behind_25 ?_
      refine x_retP hx hb hr (by omega) ?_ dX7_behind_26 hlocks
      unfold zBehind; split <;> (try split) <;> omega
    · refine x_iconst hx hb dX7_behind_21 ?_
      refine lv_goto (tgt := 26) hx hb dX7_behind_22 (by decide) ?_
      refine x_retP hx hb hr (by omega) ?_ dX7_behind_26 hlocks
      unfold zBehind; split <;> (try split) <;> omega
  · refine lv_iload_n hx hb dX7_behind_10 rfl (lv_at hl 1 rfl) ?_
    refine x_iconst hx hb dX7_behind_11 ?_
    refine x_iadd hx hb dX7_behind_12 ?_
    refine x_retP hx hb hr (by omega) ?_ dX7_behind_13 hlocks
    unfold zBehind; split <;> (try split) <;> omega

set_option maxHeartbeats 4000000 in
set_option maxRecDepth 100000 in
theorem c_X7_limitBy (l : Launch) (g : xG) (σ : xS) (b : Nat) (hb3 : b + 2 < xN) (n rd : Int) (P : Int → Int) (G : Int → Option Nat) (hst : StAt g σ.1 b n rd P G) (hok : StOk σ n rd P G) (hH : HsOk σ) (i : Int) (hi : 0 ≤ i ∧ i < n) (j : Int) (hj : j = -1 ∨ (0 ≤ j ∧ j < n)) : Met l yX7_limitBy wsX7_limitBy ({ frames := 4, cells := 0, slots := 0, locals := 128 }) (va_Pc [.ref (g.2.2 (b)), .int (iI (i)), .int (iI (j))] (xPre g σ)) (x_Si (fun r => r = zLim (sK σ G) (sF σ G) P i j ∧ 0 ≤ r ∧ r ≤ 1000000)) (0) (0) (fun _ => False) := by
  refine Met.ofW (cc := cX7_limitBy) (maxL := 3) (ret := (some .int)) (by decide) rfl ?_
  intro p e s m args below meth c s₁ B hml hv
  obtain ⟨rfl, hP, hK⟩ := hv
  have hx := B.exec
  have hb := B.bytes
  have hr := B.returns
  have hts := atoms_spec (ws := wsX7_limitBy) B.pre
  have hown : s.vm.findClass RX7 = some m.cls := findClass_of_methodNamed B.named
  have hlocks := B.notSynchronized
  have hl := lv_entry ([.ref (g.2.2 (b)), .int (iI (i)), .int (iI (j))]) (n := 3) (Nat.le_of_ble_eq_true rfl)
  rw [lg_entry_eq]
  generalize (lg_sl ([.ref (g.2.2 (b)), .int (iI (i)), .int (iI (j))]) ++ List.replicate (3 - (lg_sl ([.ref (g.2.2 (b)), .int (iI (i)), .int (iI (j))])).length) Slot.unset).toArray = ls at hl ⊢
  have hl : lv_has ls 3 [(0, .ref (g.2.2 (b))), (1, .int (iI (i))), (2, .int (iI (j)))] := hl
  obtain ⟨hm0, hm1, hm2⟩ := hst
  have hok1 := hok.1
  have hok2 := hok.2.1
  have hok3 := hok.2.2.1
  have hw_0 := hts (.constant RX7 39 (1000000)) (by decide +kernel)
  have hw_1 := hts (.fieldLink RX7 11 "TwiceAsRich$Street" "houses" "[LTwiceAsRich$House;") (by decide +kernel)
  have hin_X7 : ∀ w ∈ wsX70, w ∈ wsX7_limitBy := by decide +kernel
  have hw_3 := (show (Cond.code yX3_isLookedAt cX3_isLookedAt 1 (some .boolean)) ∈ wsX7_limitBy by decide +kernel)
  have hw_4 := hts (.fieldLink RX7 17 "TwiceAsRich$Street" "purses" "[I") (by decide +kernel)
  have hw_5 := (show (Cond.code yX3_shownOf cX3_shownOf 2 (some .int)) ∈ wsX7_limitBy by decide +kernel)
  have hw_6 := (show (Cond.code yX3_allowedBy cX3_allowedBy 2 (some .int)) ∈ wsX7_limitBy by decide +kernel)
  refine lv_iload_n hx hb dX7_limitBy_0 rfl (lv_at hl 2 rfl) ?_
  refine x_iconst hx hb dX7_limitBy_1 ?_
  refine x_icmp_eq (tgt := 17) hx hb (by omega) (by omega) dX7_limitBy_2 (by decide) (fun c_2 => ?_) (fun c_2 => ?_)
  · refine x_ldc (n := 1000000) hx hb hown hw_0 (by decide +kernel) dX7_limitBy_17 ?_
    refine x_retP hx hb hr (by omega) ?_ dX7_limitBy_19 hlocks
    refine ⟨?_, by omega, by omega⟩
    unfold zLim
    first | (rw [if_pos (by omega)]; done) | (rw [if_neg (by omega), if_pos (by have e1 : ∀ a, G j = some a → sK σ G j = σ.2.2.1 a := (fun a h => by simp only [sK, kdO, h]); rw [e1 _ (by assumption)]; omega)])
  · refine lv_aload_n hx hb dX7_limitBy_5 rfl (lv_at hl 0 rfl) ?_
    refine x_get (C := RX7) (T := TX7) (N := 4) hx hb hts hin_X7 hown hK hP (b) (by omega) hm0 rfl 0 (by decide) hw_1 (fun _ h9 => h9) rfl dX7_limitBy_6 ?_
    refine lv_iload_n hx hb dX7_limitBy_9 rfl (lv_at hl 2 rfl) ?_
    obtain ⟨a_1, hG_a_1⟩ := (hok.2.2.2.2.2 (j) (by omega) (by omega)).1
    have ha_a_1 := hok.2.2.2.2.1 _ _ hG_a_1
    refine x_aaldS (C := RX3) (f := G) 1 hx hb hK hP (b + 1) (by omega) hm1 rfl (by omega) (by omega) (by decide) hG_a_1 dX7_limitBy_10 ?_
    refine x_ci (rest := []) (a := ([.ref a_1] : List Value).toArray) (post := fun r => (r = 1 ∧ σ.2.2.1 a_1 ≠ 3) ∨ (r = 0 ∧ σ.2.2.1 a_1 = 3)) (by
      have hk0 := (hH a_1 ha_a_1).1
      have hk : σ.2.2.1 a_1 = 0 ∨ σ.2.2.1 a_1 = 1 ∨ σ.2.2.1 a_1 = 2 ∨ σ.2.2.1 a_1 = 3 ∨ σ.2.2.1 a_1 = 4 ∨ σ.2.2.1 a_1 = 5 ∨ σ.2.2.1 a_1 = 6 ∨ σ.2.2.1 a_1 = 7 := by omega
      rcases hk with hk | hk | hk | hk | hk | hk | hk | hk
      · exact x_run_mono (va_runV (As := []) (rest := []) ⟨hx, hb, hml, hown, hts⟩ (c_X3_isLookedAt l g σ hH a_1 ha_a_1) (cwV 0 hts gX7_limitBy_X3_isLookedAt rfl rfl rfl (by decide +kernel) ⟨Nat.le_of_ble_eq_true rfl, Nat.le_of_ble_eq_true rfl⟩) (x_preV hK hP (x_recvH (q := (RX3, TX3, 1)) hK hP ha_a_1 (by rw [hk]; rfl))) rfl rfl hl.1 rfl (lv_room (Nat.le_of_ble_eq_true rfl)) dX7_limitBy_11 ⟨Nat.le_of_ble_eq_true rfl, Nat.le_of_ble_eq_true rfl⟩) (fun r hr => Or.inl ⟨hr, by omega⟩)
      · exact x_run_mono (va_runU (As := []) (rest := []) ⟨hx, hb, hml, hown, hts⟩ (c_X3_isLookedAt l g σ hH a_1 ha_a_1) (va_cwU 0 hts gX7_limitBy_X3_isLookedAt_u36X2 rfl rfl rfl rfl (by decide +kernel) ⟨Nat.le_of_ble_eq_true rfl, Nat.le_of_ble_eq_true rfl⟩) (x_preV hK hP (x_recvH (q := (RX2, TX2, 1)) hK hP ha_a_1 (by rw [hk]; rfl))) rfl rfl hl.1 rfl (lv_room (Nat.le_of_ble_eq_true rfl)) dX7_limitBy_11 ⟨Nat.le_of_ble_eq_true rfl, Nat.le_of_ble_eq_true rfl⟩) (fun r hr => Or.inl ⟨hr, by omega⟩)
      · exact x_run_mono (va_runU (As := []) (rest := []) ⟨hx, hb, hml, hown, hts⟩ (c_X3_isLookedAt l g σ hH a_1 ha_a_1) (va_cwU 0 hts gX7_limitBy_X3_isLookedAt_u36X6 rfl rfl rfl rfl (by decide +kernel) ⟨Nat.le_of_ble_eq_true rfl, Nat.le_of_ble_eq_true rfl⟩) (x_preV hK hP (x_recvH (q := (RX6, TX6, 1)) hK hP ha_a_1 (by rw [hk]; rfl))) rfl rfl hl.1 rfl (lv_room (Nat.le_of_ble_eq_true rfl)) dX7_limitBy_11 ⟨Nat.le_of_ble_eq_true rfl, Nat.le_of_ble_eq_true rfl⟩) (fun r hr => Or.inl ⟨hr, by omega⟩)
      · exact x_run_mono (va_runU (As := []) (rest := []) ⟨hx, hb, hml, hown, hts⟩ (c_X10_isLookedAt l g σ hH a_1 ha_a_1) (va_cwO 0 hts gX7_limitBy_X10_isLookedAt_u36X10 rfl rfl rfl (b0 := cX3_isLookedAt) (m0 := 1) (r0 := (some .boolean)) hw_3 (by decide +kernel) ⟨Nat.le_of_ble_eq_true rfl, Nat.le_of_ble_eq_true rfl⟩) (x_preV hK hP (x_recvH (q := (RX10, TX10, 1)) hK hP ha_a_1 (by rw [hk]; rfl))) rfl rfl hl.1 rfl (lv_room (Nat.le_of_ble_eq_true rfl)) dX7_limitBy_11 ⟨Nat.le_of_ble_eq_true rfl, Nat.le_of_ble_eq_true rfl⟩) (fun r hr => Or.inr ⟨hr, hk⟩)
      · exact x_run_mono (va_runU (As := []) (rest := []) ⟨hx, hb, hml, hown, hts⟩ (c_X3_isLookedAt l g σ hH a_1 ha_a_1) (va_cwU 0 hts gX7_limitBy_X3_isLookedAt_u36X4 rfl rfl rfl rfl (by decide +kernel) ⟨Nat.le_of_ble_eq_true rfl, Nat.le_of_ble_eq_true rfl⟩) (x_preV hK hP (x_recvH (q := (RX4, TX4, 1)) hK hP ha_a_1 (by rw [hk]; rfl))) rfl rfl hl.1 rfl (lv_room (Nat.le_of_ble_eq_true rfl)) dX7_limitBy_11 ⟨Nat.le_of_ble_eq_true rfl, Nat.le_of_ble_eq_true rfl⟩) (fun r hr => Or.inl ⟨hr, by omega⟩)
      · exact x_run_mono (va_runU (As := []) (rest := []) ⟨hx, hb, hml, hown, hts⟩ (c_X3_isLookedAt l g σ hH a_1 ha_a_1) (va_cwU 0 hts gX7_limitBy_X3_isLookedAt_u36X0 rfl rfl rfl rfl (by decide +kernel) ⟨Nat.le_of_ble_eq_true rfl, Nat.le_of_ble_eq_true rfl⟩) (x_preV hK hP (x_recvH (q := (RX0, TX0, 1)) hK hP ha_a_1 (by rw [hk]; rfl))) rfl rfl hl.1 rfl (lv_room (Nat.le_of_ble_eq_true rfl)) dX7_limitBy_11 ⟨Nat.le_of_ble_eq_true rfl, Nat.le_of_ble_eq_true rfl⟩) (fun r hr => Or.inl ⟨hr, by omega⟩)
      · exact x_run_mono (va_runU (As := []) (rest := []) ⟨hx, hb, hml, hown, hts⟩ (c_X3_isLookedAt l g σ hH a_1 ha_a_1) (va_cwU 0 hts gX7_limitBy_X3_isLookedAt_u36X9 rfl rfl rfl rfl (by decide +kernel) ⟨Nat.le_of_ble_eq_true rfl, Nat.le_of_ble_eq_true rfl⟩) (x_preV hK hP (x_recvH (q := (RX9, TX9, 1)) hK hP ha_a_1 (by rw [hk]; rfl))) rfl rfl hl.1 rfl (lv_room (Nat.le_of_ble_eq_true rfl)) dX7_limitBy_11 ⟨Nat.le_of_ble_eq_true rfl, Nat.le_of_ble_eq_true rfl⟩) (fun r hr => Or.inl ⟨hr, by omega⟩)
      · exact x_run_mono (va_runU (As := []) (rest := []) ⟨hx, hb, hml, hown, hts⟩ (c_X1_isLookedAt l g σ hH a_1 ha_a_1) (va_cwO 0 hts gX7_limitBy_X1_isLookedAt_u36X1 rfl rfl rfl (b0 := cX3_isLookedAt) (m0 := 1) (r0 := (some .boolean)) hw_3 (by decide +kernel) ⟨Nat.le_of_ble_eq_true rfl, Nat.le_of_ble_eq_true rfl⟩) (x_preV hK hP (x_recvH (q := (RX1, TX1, 1)) hK hP ha_a_1 (by rw [hk]; rfl))) rfl rfl hl.1 rfl (lv_room (Nat.le_of_ble_eq_true rfl)) dX7_limitBy_11 ⟨Nat.le_of_ble_eq_true rfl, Nat.le_of_ble_eq_true rfl⟩) (fun r hr => Or.inl ⟨hr, by omega⟩)) (fun r_11 hr_11 qr_11 => ?_)
    replace qr_11 : (r_11 = 1 ∧ σ.2.2.1 a_1 ≠ 3) ∨ (r_11 = 0 ∧ σ.2.2.1 a_1 = 3) := qr_11
    refine x_if_ne (tgt := 20) hx hb (by omega) dX7_limitBy_14 (by decide) (fun c_14 => ?_) (fun c_14 => ?_)
    · refine lv_aload_n hx hb dX7_limitBy_20 rfl (lv_at hl 0 rfl) ?_
      refine x_get (C := RX7) (T := TX7) (N := 4) hx hb hts hin_X7 hown hK hP (b) (by omega) hm0 rfl 0 (by decide) hw_1 (fun _ h9 => h9) rfl dX7_limitBy_21 ?_
      refine lv_iload_n hx hb dX7_limitBy_24 rfl (lv_at hl 1 rfl) ?_
      obtain ⟨a_2, hG_a_2⟩ := (hok.2.2.2.2.2 (i) (by omega) (by omega)).1
      have ha_a_2 := hok.2.2.2.2.1 _ _ hG_a_2
      refine x_aaldS (C := RX3) (f := G) 1 hx hb hK hP (b + 1) (by omega) hm1 rfl (by omega) (by omega) (by decide) hG_a_2 dX7_limitBy_25 ?_
      refine lv_aload_n hx hb dX7_limitBy_26 rfl (lv_at hl 0 rfl) ?_
      refine x_get (C := RX7) (T := TX7) (N := 4) hx hb hts hin_X7 hown hK hP (b) (by omega) hm0 rfl 0 (by decide) hw_1 (fun _ h9 => h9) rfl dX7_limitBy_27 ?_
      refine lv_iload_n hx hb dX7_limitBy_30 rfl (lv_at hl 2 rfl) ?_
      obtain ⟨a_3, hG_a_3⟩ := (hok.2.2.2.2.2 (j) (by omega) (by omega)).1
      have ha_a_3 := hok.2.2.2.2.1 _ _ hG_a_3
      refine x_aaldS (C := RX3) (f := G) 1 hx hb hK hP (b + 1) (by omega) hm1 rfl (by omega) (by omega) (by decide) hG_a_3 dX7_limitBy_31 ?_
      refine lv_aload_n hx hb dX7_limitBy_32 rfl (lv_at hl 0 rfl) ?_
      refine x_get (C := RX7) (T := TX7) (N := 4) hx hb hts hin_X7 hown hK hP (b) (by omega) hm0 rfl 1 (by decide) hw_4 (fun _ h9 => h9) rfl dX7_limitBy_33 ?_
      refine lv_iload_n hx hb dX7_limitBy_36 rfl (lv_at hl 2 rfl) ?_
      refine x_iald (f := P) hx hb hK hP (b + 2) (by omega) hm2 (by omega) (by omega) (by decide) dX7_limitBy_37 ?_
      have hb_4 := hok.2.2.2.1 (j)
      have hb_5 := (hok.2.2.2.2.2 (j) (by omega) (by omega)).2
      refine x_ci (rest := [.ref a_2]) (a := ([.ref a_3, .int (iI (P (j)))] : List Value).toArray) (post := fun r => r = zShown (σ.2.2.1 a_3) (σ.2.2.2 a_3) (P (j))) (by
        have hk0 := (hH a_3 ha_a_3).1
        have hk : σ.2.2.1 a_3 = 0 ∨ σ.2.2.1 a_3 = 1 ∨ σ.2.2.1 a_3 = 2 ∨ σ.2.2.1 a_3 = 3 ∨ σ.2.2.1 a_3 = 4 ∨ σ.2.2.1 a_3 = 5 ∨ σ.2.2.1 a_3 = 6 ∨ σ.2.2.1 a_3 = 7 := by omega
        rcases hk with hk | hk | hk | hk | hk | hk | hk | hk
        · exact x_run_mono (va_runV (As := [.int (iI (P (j)))]) (rest := [.ref a_2]) ⟨hx, hb, hml, hown, hts⟩ (c_X3_shownOf l g σ hH a_3 ha_a_3 (P (j)) (by omega) (by omega)) (cwV 1 hts gX7_limitBy_X3_shownOf rfl rfl rfl (by decide +kernel) ⟨Nat.le_of_ble_eq_true rfl, Nat.le_of_ble_eq_true rfl⟩) (x_preV hK hP (x_recvH (q := (RX3, TX3, 1)) hK hP ha_a_3 (by rw [hk]; rfl))) rfl rfl hl.1 rfl (lv_room (Nat.le_of_ble_eq_true rfl)) dX7_limitBy_38 ⟨Nat.le_of_ble_eq_true rfl, Nat.le_of_ble_eq_true rfl⟩) (fun r hr => hr.trans (by rw [hk]; rfl))
        · exact x_run_mono (va_runU (As := [.int (iI (P (j)))]) (rest := [.ref a_2]) ⟨hx, hb, hml, hown, hts⟩ (c_X3_shownOf l g σ hH a_3 ha_a_3 (P (j)) (by omega) (by omega)) (va_cwU 1 hts gX7_limitBy_X3_shownOf_u40X2 rfl rfl rfl rfl (by decide +kernel) ⟨Nat.le_of_ble_eq_true rfl, Nat.le_of_ble_eq_true rfl⟩) (x_preV hK hP (x_recvH (q := (RX2, TX2, 1)) hK hP ha_a_3 (by rw [hk]; rfl))) rfl rfl hl.1 rfl (lv_room (Nat.le_of_ble_eq_true rfl)) dX7_limitBy_38 ⟨Nat.le_of_ble_eq_true rfl, Nat.le_of_ble_eq_true rfl⟩) (fun r hr => hr.trans (by rw [hk]; rfl))
        · exact x_run_mono (va_runU (As := [.int (iI (P (j)))]) (rest := [.ref a_2]) ⟨hx, hb, hml, hown, hts⟩ (c_X6_shownOf l g σ hH a_3 ha_a_3 (P (j)) (by omega) (by omega)) (va_cwO 1 hts gX7_limitBy_X6_shownOf_u40X6 rfl rfl rfl (b0 := cX3_shownOf) (m0 := 2) (r0 := (some .int)) hw_5 (by decide +kernel) ⟨Nat.le_of_ble_eq_true rfl, Nat.le_of_ble_eq_true rfl⟩) (x_preV hK hP (x_recvH (q := (RX6, TX6, 1)) hK hP ha_a_3 (by rw [hk]; rfl))) rfl rfl hl.1 rfl (lv_room (Nat.le_of_ble_eq_true rfl)) dX7_limitBy_38 ⟨Nat.le_of_ble_eq_true rfl, Nat.le_of_ble_eq_true rfl⟩) (fun r hr => hr.trans (by rw [hk]; rfl))
        · exact x_run_mono (va_runU (As := [.int (iI (P (j)))]) (rest := [.ref a_2]) ⟨hx, hb, hml, hown, hts⟩ (c_X3_shownOf l g σ hH a_3 ha_a_3 (P (j)) (by omega) (by omega)) (va_cwU 1 hts gX7_limitBy_X3_shownOf_u40X10 rfl rfl rfl rfl (by decide +kernel) ⟨Nat.le_of_ble_eq_true rfl, Nat.le_of_ble_eq_true rfl⟩) (x_preV hK hP (x_recvH (q := (RX10, TX10, 1)) hK hP ha_a_3 (by rw [hk]; rfl))) rfl rfl hl.1 rfl (lv_room (Nat.le_of_ble_eq_true rfl)) dX7_limitBy_38 ⟨Nat.le_of_ble_eq_true rfl, Nat.le_of_ble_eq_true rfl⟩) (fun r hr => hr.trans (by rw [hk]; rfl))
        · exact x_run_mono (va_runU (As := [.int (iI (P (j)))]) (rest := [.ref a_2]) ⟨hx, hb, hml, hown, hts⟩ (c_X4_shownOf l g σ hH a_3 ha_a_3 (P (j)) (by omega) (by omega)) (va_cwO 1 hts gX7_limitBy_X4_shownOf_u40X4 rfl rfl rfl (b0 := cX3_shownOf) (m0 := 2) (r0 := (some .int)) hw_5 (by decide +kernel) ⟨Nat.le_of_ble_eq_true rfl, Nat.le_of_ble_eq_true rfl⟩) (x_preV hK hP (x_recvH (q := (RX4, TX4, 1)) hK hP ha_a_3 (by rw [hk]; rfl))) rfl rfl hl.1 rfl (lv_room (Nat.le_of_ble_eq_true rfl)) dX7_limitBy_38 ⟨Nat.le_of_ble_eq_true rfl, Nat.le_of_ble_eq_true rfl⟩) (fun r hr => hr.trans (by rw [hk]; rfl))
        · exact x_run_mono (va_runU (As := [.int (iI (P (j)))]) (rest := [.ref a_2]) ⟨hx, hb, hml, hown, hts⟩ (c_X0_shownOf l g σ hH a_3 ha_a_3 (P (j)) (by omega) (by omega)) (va_cwO 1 hts gX7_limitBy_X0_shownOf_u40X0 rfl rfl rfl (b0 := cX3_shownOf) (m0 := 2) (r0 := (some .int)) hw_5 (by decide +kernel) ⟨Nat.le_of_ble_eq_true rfl, Nat.le_of_ble_eq_true rfl⟩) (x_preV hK hP (x_recvH (q := (RX0, TX0, 1)) hK hP ha_a_3 (by rw [hk]; rfl))) rfl rfl hl.1 rfl (lv_room (Nat.le_of_ble_eq_true rfl)) dX7_limitBy_38 ⟨Nat.le_of_ble_eq_true rfl, Nat.le_of_ble_eq_true rfl⟩) (fun r hr => hr.trans (by rw [hk]; rfl))
        · exact x_run_mono (va_runU (As := [.int (iI (P (j)))]) (rest := [.ref a_2]) ⟨hx, hb, hml, hown, hts⟩ (c_X3_shownOf l g σ hH a_3 ha_a_3 (P (j)) (by omega) (by omega)) (va_cwU 1 hts gX7_limitBy_X3_shownOf_u40X9 rfl rfl rfl rfl (by decide +kernel) ⟨Nat.le_of_ble_eq_true rfl, Nat.le_of_ble_eq_true rfl⟩) (x_preV hK hP (x_recvH (q := (RX9, TX9, 1)) hK hP ha_a_3 (by rw [hk]; rfl))) rfl rfl hl.1 rfl (lv_room (Nat.le_of_ble_eq_true rfl)) dX7_limitBy_38 ⟨Nat.le_of_ble_eq_true rfl, Nat.le_of_ble_eq_true rfl⟩) (fun r hr => hr.trans (by rw [hk]; rfl))
        · exact x_run_mono (va_runU (As := [.int (iI (P (j)))]) (rest := [.ref a_2]) ⟨hx, hb, hml, hown, hts⟩ (c_X3_shownOf l g σ hH a_3 ha_a_3 (P (j)) (by omega) (by omega)) (va_cwU 1 hts gX7_limitBy_X3_shownOf_u40X1 rfl rfl rfl rfl (by decide +kernel) ⟨Nat.le_of_ble_eq_true rfl, Nat.le_of_ble_eq_true rfl⟩) (x_preV hK hP (x_recvH (q := (RX1, TX1, 1)) hK hP ha_a_3 (by rw [hk]; rfl))) rfl rfl hl.1 rfl (lv_room (Nat.le_of_ble_eq_true rfl)) dX7_limitBy_38 ⟨Nat.le_of_ble_eq_true rfl, Nat.le_of_ble_eq_true rfl⟩) (fun r hr => hr.trans (by rw [hk]; rfl))) (fun r_38 hr_38 qr_38 => ?_)
      replace qr_38 : r_38 = zShown (σ.2.2.1 a_3) (σ.2.2.2 a_3) (P (j)) := qr_38
      have br_38 := zShown_rng (σ.2.2.1 a_3) (hH a_3 ha_a_3).2 (P (j)) (by omega); rw [← qr_38] at br_38
      refine x_ci (rest := []) (a := ([.ref a_2, .int (iI (r_38))] : List Value).toArray) (post := fun r => r = zMay (σ.2.2.1 a_2) (σ.2.2.2 a_2) (r_38)) (by
        have hk0 := (hH a_2 ha_a_2).1
        have hk : σ.2.2.1 a_2 = 0 ∨ σ.2.2.1 a_2 = 1 ∨ σ.2.2.1 a_2 = 2 ∨ σ.2.2.1 a_2 = 3 ∨ σ.2.2.1 a_2 = 4 ∨ σ.2.2.1 a_2 = 5 ∨ σ.2.2.1 a_2 = 6 ∨ σ.2.2.1 a_2 = 7 := by omega
        rcases hk with hk | hk | hk | hk | hk | hk | hk | hk
        · exact x_run_mono (va_runV (As := [.int (iI (r_38))]) (rest := []) ⟨hx, hb, hml, hown, hts⟩ (c_X3_allowedBy l g σ hH a_2 ha_a_2 (r_38) (by omega) (by omega)) (cwV 1 hts gX7_limitBy_X3_allowedBy rfl rfl rfl (by decide +kernel) ⟨Nat.le_of_ble_eq_true rfl, Nat.le_of_ble_eq_true rfl⟩) (x_preV hK hP (x_recvH (q := (RX3, TX3, 1)) hK hP ha_a_2 (by rw [hk]; rfl))) rfl rfl hl.1 rfl (lv_room (Nat.le_of_ble_eq_true rfl)) dX7_limitBy_41 ⟨Nat.le_of_ble_eq_true rfl, Nat.le_of_ble_eq_true rfl⟩) (fun r hr => hr.trans (by rw [hk]; rfl))
        · exact x_run_mono (va_runU (As := [.int (iI (r_38))]) (rest := []) ⟨hx, hb, hml, hown, hts⟩ (c_X2_allowedBy l g σ hH a_2 ha_a_2 (r_38) (by omega) (by omega)) (va_cwO 1 hts gX7_limitBy_X2_allowedBy_u44X2 rfl rfl rfl (b0 := cX3_allowedBy) (m0 := 2) (r0 := (some .int)) hw_6 (by decide +kernel) ⟨Nat.le_of_ble_eq_true rfl, Nat.le_of_ble_eq_true rfl⟩) (x_preV hK hP (x_recvH (q := (RX2, TX2, 1)) hK hP ha_a_2 (by rw [hk]; rfl))) rfl rfl hl.1 rfl (lv_room (Nat.le_of_ble_eq_true rfl)) dX7_limitBy_41 ⟨Nat.le_of_ble_eq_true rfl, Nat.le_of_ble_eq_true rfl⟩) (fun r hr => hr.trans (by rw [hk]; rfl))
        · exact x_run_mono (va_runU (As := [.int (iI (r_38))]) (rest := []) ⟨hx, hb, hml, hown, hts⟩ (c_X3_allowedBy l g σ hH a_2 ha_a_2 (r_38) (by omega) (by omega)) (va_cwU 1 hts gX7_limitBy_X3_allowedBy_u44X6 rfl rfl rfl rfl (by decide +kernel) ⟨Nat.le_of_ble_eq_true rfl, Nat.le_of_ble_eq_true rfl⟩) (x_preV hK hP (x_recvH (q := (RX6, TX6, 1)) hK hP ha_a_2 (by rw [hk]; rfl))) rfl rfl hl.1 rfl (lv_room (Nat.le_of_ble_eq_true rfl)) dX7_limitBy_41 ⟨Nat.le_of_ble_eq_true rfl, Nat.le_of_ble_eq_true rfl⟩) (fun r hr => hr.trans (by rw [hk]; rfl))
        · exact x_run_mono (va_runU (As := [.int (iI (r_38))]) (rest := []) ⟨hx, hb, hml, hown, hts⟩ (c_X10_allowedBy l g σ hH a_2 ha_a_2 (r_38) (by omega) (by omega)) (va_cwO 1 hts gX7_limitBy_X10_allowedBy_u44X10 rfl rfl rfl (b0 := cX3_allowedBy) (m0 := 2) (r0 := (some .int)) hw_6 (by decide +kernel) ⟨Nat.le_of_ble_eq_true rfl, Nat.le_of_ble_eq_true rfl⟩) (x_preV hK hP (x_recvH (q := (RX10, TX10, 1)) hK hP ha_a_2 (by rw [hk]; rfl))) rfl rfl hl.1 rfl (lv_room (Nat.le_of_ble_eq_true rfl)) dX7_limitBy_41 ⟨Nat.le_of_ble_eq_true rfl, Nat.le_of_ble_eq_true rfl⟩) (fun r hr => hr.trans (by rw [hk]; rfl))
        · exact x_run_mono (va_runU (As := [.int (iI (r_38))]) (rest := []) ⟨hx, hb, hml, hown, hts⟩ (c_X4_allowedBy l g σ hH a_2 ha_a_2 (r_38) (by omega) (by omega)) (va_cwO 1 hts gX7_limitBy_X4_allowedBy_u44X4 rfl rfl rfl (b0 := cX3_allowedBy) (m0 := 2) (r0 := (some .int)) hw_6 (by decide +kernel) ⟨Nat.le_of_ble_eq_true rfl, Nat.le_of_ble_eq_true rfl⟩) (x_preV hK hP (x_recvH (q := (RX4, TX4, 1)) hK hP ha_a_2 (by rw [hk]; rfl))) rfl rfl hl.1 rfl (lv_room (Nat.le_of_ble_eq_true rfl)) dX7_limitBy_41 ⟨Nat.le_of_ble_eq_true rfl, Nat.le_of_ble_eq_true rfl⟩) (fun r hr => hr.trans (by rw [hk]; rfl))
        · exact x_run_mono (va_runU (As := [.int (iI (r_38))]) (rest := []) ⟨hx, hb, hml, hown, hts⟩ (c_X3_allowedBy l g σ hH a_2 ha_a_2 (r_38) (by omega) (by omega)) (va_cwU 1 hts gX7_limitBy_X3_allowedBy_u44X0 rfl rfl rfl rfl (by decide +kernel) ⟨Nat.le_of_ble_eq_true rfl, Nat.le_of_ble_eq_true rfl⟩) (x_preV hK hP (x_recvH (q := (RX0, TX0, 1)) hK hP ha_a_2 (by rw [hk]; rfl))) rfl rfl hl.1 rfl (lv_room (Nat.le_of_ble_eq_true rfl)) dX7_limitBy_41 ⟨Nat.le_of_ble_eq_true rfl, Nat.le_of_ble_eq_true rfl⟩) (fun r hr => hr.trans (by rw [hk]; rfl))
        · exact x_run_mono (va_runU (As := [.int (iI (r_38))]) (rest := []) ⟨hx, hb, hml, hown, hts⟩ (c_X9_allowedBy l g σ hH a_2 ha_a_2 (r_38) (by omega) (by omega)) (va_cwO 1 hts gX7_limitBy_X9_allowedBy_u44X9 rfl rfl rfl (b0 := cX3_allowedBy) (m0 := 2) (r0 := (some .int)) hw_6 (by decide +kernel) ⟨Nat.le_of_ble_eq_true rfl, Nat.le_of_ble_eq_true rfl⟩) (x_preV hK hP (x_recvH (q := (RX9, TX9, 1)) hK hP ha_a_2 (by rw [hk]; rfl))) rfl rfl hl.1 rfl (lv_room (Nat.le_of_ble_eq_true rfl)) dX7_limitBy_41 ⟨Nat.le_of_ble_eq_true rfl, Nat.le_of_ble_eq_true rfl⟩) (fun r hr => hr.trans (by rw [hk]; rfl))
        · exact x_run_mono (va_runU (As := [.int (iI (r_38))]) (rest := []) ⟨hx, hb, hml, hown, hts⟩ (c_X10_allowedBy l g σ hH a_2 ha_a_2 (r_38) (by omega) (by omega)) (va_cwO 1 hts gX7_limitBy_X10_allowedBy_u44X1 rfl rfl rfl (b0 := cX3_allowedBy) (m0 := 2) (r0 := (some .int)) hw_6 (by decide +kernel) ⟨Nat.le_of_ble_eq_true rfl, Nat.le_of_ble_eq_true rfl⟩) (x_preV hK hP (x_recvH (q := (RX1, TX1, 1)) hK hP ha_a_2 (by rw [hk]; rfl))) rfl rfl hl.1 rfl (lv_room (Nat.le_of_ble_eq_true rfl)) dX7_limitBy_41 ⟨Nat.le_of_ble_eq_true rfl, Nat.le_of_ble_eq_true rfl⟩) (fun r hr => hr.trans (by rw [hk]; rfl))) (fun r_41 hr_41 qr_41 => ?_)
      replace qr_41 : r_41 = zMay (σ.2.2.1 a_2) (σ.2.2.2 a_2) (r_38) := qr_41
      have br_41 := zMay_rng (σ.2.2.1 a_2) (hH a_2 ha_a_2).2 (r_38) (by omega); rw [← qr_41] at br_41
      refine x_retP hx hb hr (by omega) ?_ dX7_limitBy_44 hlocks
      refine ⟨?_, by omega, by omega⟩
      have e1 : ∀ i a, G i = some a → sK σ G i = σ.2.2.1 a := (fun i a h => by simp only [sK, kdO, h])
      have e2 : ∀ i a, G i = some a → sF σ G i = σ.2.2.2 a := (fun i a h => by simp only [sF, fgO, h])
      unfold zLim
      rw [if_neg (by omega)]
      rw [e1 j _ (by assumption), e2 j _ (by assumption), e1 i _ (by assumption), e2 i _ (by assumption)]
      obtain rfl : a_1 = a_3 := Option.some.inj (hG_a_1.symm.trans hG_a_3)
      rw [if_neg (by omega), ← qr_38, ← qr_41]
    · refine x_ldc (n := 1000000) hx hb hown hw_0 (by decide +kernel) dX7_limitBy_17 ?_
      refine x_retP hx hb hr (by omega) ?_ dX7_limitBy_19 hlocks
      refine ⟨?_, by omega, by omega⟩
      unfold zLim
      first | (rw [if_pos (by omega)]; done) | (rw [if_neg (by omega), if_pos (by have e1 : ∀ a, G j = some a → sK σ G j = σ.2.2.1 a := (fun a h => by simp only [sK, kdO, h]); rw [e1 _ (by assumption)]; omega)])

set_option maxHeartbeats 4000000 in
set_option maxRecDepth 100000 in
theorem c_X7_mostOf (l : Launch) (g : xG) (σ : xS) (b : Nat) (hb3 : b + 2 < xN) (n rd : Int) (P : Int → Int) (G : Int → Option Nat) (hst : StAt g σ.1 b n rd P G) (hok : StOk σ n rd P G) (hH : HsOk σ) (i : Int) (hi : 0 ≤ i ∧ i < n) : Met l yX7_mostOf wsX7_mostOf ({ frames := 5, cells := 0, slots := 0, locals := 160 }) (va_Pc [.ref (g.2.2 (b)), .int (iI (i))] (xPre g σ)) (x_Si (fun r => r = zMost (sK σ G) (sF σ G) P n rd i ∧ 0 ≤ r ∧ r ≤ 9999)) (0) (0) (fun _ => False) := by
  refine Met.ofW (cc := cX7_mostOf) (maxL := 2) (ret := (some .int)) (by decide) rfl ?_
  intro p e s m args below meth c s₁ B hml hv
  obtain ⟨rfl, hP, hK⟩ := hv
  have hx := B.exec
  have hb := B.bytes
  have hr := B.returns
  have hts := atoms_spec (ws := wsX7_mostOf) B.pre
  have hown : s.vm.findClass RX7 = some m.cls := findClass_of_methodNamed B.named
  have hlocks := B.notSynchronized
  have hl := lv_entry ([.ref (g.2.2 (b)), .int (iI (i))]) (n := 2) (Nat.le_of_ble_eq_true rfl)
  rw [lg_entry_eq]
  generalize (lg_sl ([.ref (g.2.2 (b)), .int (iI (i))]) ++ List.replicate (2 - (lg_sl ([.ref (g.2.2 (b)), .int (iI (i))])).length) Slot.unset).toArray = ls at hl ⊢
  have hl : lv_has ls 2 [(0, .ref (g.2.2 (b))), (1, .int (iI (i)))] := hl
  obtain ⟨hm0, hm1, hm2⟩ := hst
  have hok1 := hok.1
  have hok2 := hok.2.1
  have hok3 := hok.2.2.1
  have hw_0 := hts (.methodLink RX7 57 Lib.Math.min.name) (by decide +kernel)
  have hw_1 := hts (.static Lib.Math.min.name) (by decide +kernel)
  have hw_2 := hts (.initialized "java/lang/Math") (by decide +kernel)
  have hw_3 := hts (.code Lib.Math.min.name Lib.Math.min.code 2 (some .int)) (by decide +kernel)
  refine x_sipush (n := 9999) hx hb (by decide +kernel) dX7_mostOf_0 ?_
  refine lv_aload_n hx hb dX7_mostOf_3 rfl (lv_at hl 0 rfl) ?_
  refine lv_iload_n hx hb dX7_mostOf_4 rfl (lv_at hl 1 rfl) ?_
  refine lv_aload_n hx hb dX7_mostOf_5 rfl (lv_at hl 0 rfl) ?_
  refine lv_iload_n hx hb dX7_mostOf_6 rfl (lv_at hl 1 rfl) ?_
  refine x_ci (va_runV (As := [.int (iI (i))]) (rest := [.int (iI (i)), .ref (g.2.2 (b)), .int (iI (9999))]) ⟨hx, hb, hml, hown, hts⟩ (c_X7_ahead l g σ (b) hb3 (n) (rd) P G ⟨hm0, hm1, hm2⟩ hok hH (i) (by omega)) (cwV 1 hts gX7_mostOf_X7_ahead rfl rfl rfl (by decide +kernel) ⟨Nat.le_of_ble_eq_true rfl, Nat.le_of_ble_eq_true rfl⟩) (x_preV hK hP (x_recv hK hP (i := b) (by omega) hm0 rfl)) rfl rfl hl.1 rfl (lv_room (Nat.le_of_ble_eq_true rfl)) dX7_mostOf_7 ⟨Nat.le_of_ble_eq_true rfl, Nat.le_of_ble_eq_true rfl⟩) (fun r_7 hr_7 qr_7 => ?_)
  replace qr_7 : r_7 = zAhead (n) (rd) (i) := qr_7
  have br_7 := zAhead_rng (n) (rd) (i) (by omega); rw [← qr_7] at br_7
  refine x_ci (va_runV (As := [.int (iI (i)), .int (iI (r_7))]) (rest := [.int (iI (9999))]) ⟨hx, hb, hml, hown, hts⟩ (c_X7_limitBy l g σ (b) hb3 (n) (rd) P G ⟨hm0, hm1, hm2⟩ hok hH (i) (by omega) (r_7) (by omega)) (cwV 2 hts gX7_mostOf_X7_limitBy rfl rfl rfl (by decide +kernel) ⟨Nat.le_of_ble_eq_true rfl, Nat.le_of_ble_eq_true rfl⟩) (x_preV hK hP (x_recv hK hP (i := b) (by omega) hm0 rfl)) rfl rfl hl.1 rfl (lv_room (Nat.le_of_ble_eq_true rfl)) dX7_mostOf_10 ⟨Nat.le_of_ble_eq_true rfl, Nat.le_of_ble_eq_true rfl⟩) (fun r_10 hr_10 qr_10 => ?_)
  replace qr_10 : r_10 = zLim (sK σ (G)) (sF σ (G)) (P) (i) (r_7) ∧ 0 ≤ r_10 ∧ r_10 ≤ 1000000 := qr_10
  refine lv_aload_n hx hb dX7_mostOf_13 rfl (lv_at hl 0 rfl) ?_
  refine lv_iload_n hx hb dX7_mostOf_14 rfl (lv_at hl 1 rfl) ?_
  refine lv_aload_n hx hb dX7_mostOf_15 rfl (lv_at hl 0 rfl) ?_
  refine lv_iload_n hx hb dX7_mostOf_16 rfl (lv_at hl 1 rfl) ?_
  refine x_ci (va_runV (As := [.int (iI (i))]) (rest := [.int (iI (i)), .ref (g.2.2 (b)), .int (iI (r_10)), .int (iI (9999))]) ⟨hx, hb, hml, hown, hts⟩ (c_X7_behind l g σ (b) hb3 (n) (rd) P G ⟨hm0, hm1, hm2⟩ hok hH (i) (by omega)) (cwV 1 hts gX7_mostOf_X7_behind rfl rfl rfl (by decide +kernel) ⟨Nat.le_of_ble_eq_true rfl, Nat.le_of_ble_eq_true rfl⟩) (x_preV hK hP (x_recv hK hP (i := b) (by omega) hm0 rfl)) rfl rfl hl.1 rfl (lv_room (Nat.le_of_ble_eq_true rfl)) dX7_mostOf_17 ⟨Nat.le_of_ble_eq_true rfl, Nat.le_of_ble_eq_true rfl⟩) (fun r_17 hr_17 qr_17 => ?_)
  replace qr_17 : r_17 = zBehind (n) (rd) (i) := qr_17
  have br_17 := zBehind_rng (n) (rd) (i) (by omega); rw [← qr_17] at br_17
  refine x_ci (va_runV (As := [.int (iI (i)), .int (iI (r_17))]) (rest := [.int (iI (r_10)), .int (iI (9999))]) ⟨hx, hb, hml, hown, hts⟩ (c_X7_limitBy l g σ (b) hb3 (n) (rd) P G ⟨hm0, hm1, hm2⟩ hok hH (i) (by omega) (r_17) (by omega)) (cwV 2 hts gX7_mostOf_X7_limitBy rfl rfl rfl (by decide +kernel) ⟨Nat.le_of_ble_eq_true rfl, Nat.le_of_ble_eq_true rfl⟩) (x_preV hK hP (x_recv hK hP (i := b) (by omega) hm0 rfl)) rfl rfl hl.1 rfl (lv_room (Nat.le_of_ble_eq_true rfl)) dX7_mostOf_20 ⟨Nat.le_of_ble_eq_true rfl, Nat.le_of_ble_eq_true rfl⟩) (fun r_20 hr_20 qr_20 => ?_)
  replace qr_20 : r_20 = zLim (sK σ (G)) (sF σ (G)) (P) (i) (r_17) ∧ 0 ≤ r_20 ∧ r_20 ≤ 1000000 := qr_20
  refine x_min hx hb (hml.trans hl.1.symm) hown hw_0 hw_1 hw_2 hw_3 (Nat.le_of_ble_eq_true rfl) (Nat.le_of_ble_eq_true rfl) (Nat.le_of_ble_eq_true rfl) (Nat.le_of_ble_eq_true rfl) (by omega) (by omega) dX7_mostOf_23 (fun q_1 hq_1 => ?_)
  refine x_min hx hb (hml.trans hl.1.symm) hown hw_0 hw_1 hw_2 hw_3 (Nat.le_of_ble_eq_true rfl) (Nat.le_of_ble_eq_true rfl) (Nat.le_of_ble_eq_true rfl) (Nat.le_of_ble_eq_true rfl) (by omega) (by omega) dX7_mostOf_26 (fun q_2 hq_2 => ?_)
  refine x_retP hx hb hr (by omega) ?_ dX7_mostOf_29 hlocks
  refine ⟨?_, by omega, by omega⟩
  unfold zMost
  rw [← qr_7, ← qr_17]
  omega

set_option maxHeartbeats 4000000 in
set_option maxRecDepth 100000 in
theorem c_X7_breachesOf (l : Launch) (g : xG) (σ : xS) (b : Nat) (hb3 : b + 2 < xN) (n rd : Int) (P : Int → Int) (G : Int → Option Nat) (hst : StAt g σ.1 b n rd P G) (hok : StOk σ n rd P G) (hH : HsOk σ) (i : Int) (hi : 0 ≤ i ∧ i < n) : Met l yX7_breachesOf wsX7_breachesOf ({ frames := 5, cells := 0, slots := 0, locals := 160 }) (va_Pc [.ref (g.2.2 (b)), .int (iI (i))] (xPre g σ)) (x_Si (fun r => r = zBr (sK σ G) (sF σ G) P n rd i ∧ 0 ≤ r ∧ r ≤ 2)) (0) (0) (fun _ => False) := by
  refine Met.ofW (cc := cX7_breachesOf) (maxL := 3) (ret := (some .int)) (by decide) rfl ?_
  intro p e s m args below meth c s₁ B hml hv
  obtain ⟨rfl, hP, hK⟩ := hv
  have hx := B.exec
  have hb := B.bytes
  have hr := B.returns
  have hts := atoms_spec (ws := wsX7_breachesOf) B.pre
  have hown : s.vm.findClass RX7 = some m.cls := findClass_of_methodNamed B.named
  have hlocks := B.notSynchronized
  have hl := lv_entry ([.ref (g.2.2 (b)), .int (iI (i))]) (n := 3) (Nat.le_of_ble_eq_true rfl)
  rw [lg_entry_eq]
  generalize (lg_sl ([.ref (g.2.2 (b)), .int (iI (i))]) ++ List.replicate (3 - (lg_sl ([.ref (g.2.2 (b)), .int (iI (i))])).length) Slot.unset).toArray = ls at hl ⊢
  have hl : lv_has ls 3 [(0, .ref (g.2.2 (b))), (1, .int (iI (i)))] := hl
  obtain ⟨hm0, hm1, hm2⟩ := hst
  have hok1 := hok.1
  have hok2 := hok.2.1
  have hok3 := hok.2.2.1
  have hw_0 := hts (.fieldLink RX7 17 "TwiceAsRich$Street" "purses" "[I") (by decide +kernel)
  have hin_X7 : ∀ w ∈ wsX70, w ∈ wsX7_breachesOf := by decide +kernel
  refine lv_aload_n hx hb dX7_breachesOf_0 rfl (lv_at hl 0 rfl) ?_
  refine x_get (C := RX7) (T := TX7) (N := 4) hx hb hts hin_X7 hown hK hP (b) (by omega) hm0 rfl 1 (by decide) hw_0 (fun _ h9 => h9) rfl dX7_breachesOf_1 ?_
  refine lv_iload_n hx hb dX7_breachesOf_4 rfl (lv_at hl 1 rfl) ?_
  refine x_iald (f := P) hx hb hK hP (b + 2) (by omega) hm2 (by omega) (by omega) (by decide) dX7_breachesOf_5 ?_
  have hb_1 := hok.2.2.2.1 (i)
  have hb_2 := (hok.2.2.2.2.2 (i) (by omega) (by omega)).2
  refine lv_aload_n hx hb dX7_breachesOf_6 rfl (lv_at hl 0 rfl) ?_
  refine lv_iload_n hx hb dX7_breachesOf_7 rfl (lv_at hl 1 rfl) ?_
  refine lv_aload_n hx hb dX7_breachesOf_8 rfl (lv_at hl 0 rfl) ?_
  refine lv_iload_n hx hb dX7_breachesOf_9 rfl (lv_at hl 1 rfl) ?_
  refine x_ci (va_runV (As := [.int (iI (i))]) (rest := [.int (iI (i)), .ref (g.2.2 (b)), .int (iI (P (i)))]) ⟨hx, hb, hml, hown, hts⟩ (c_X7_ahead l g σ (b) hb3 (n) (rd) P G ⟨hm0, hm1, hm2⟩ hok hH (i) (by omega)) (cwV 1 hts gX7_breachesOf_X7_ahead rfl rfl rfl (by decide +kernel) ⟨Nat.le_of_ble_eq_true rfl, Nat.le_of_ble_eq_true rfl⟩) (x_preV hK hP (x_recv hK hP (i := b) (by omega) hm0 rfl)) rfl rfl hl.1 rfl (lv_room (Nat.le_of_ble_eq_true rfl)) dX7_breachesOf_10 ⟨Nat.le_of_ble_eq_true rfl, Nat.le_of_ble_eq_true rfl⟩) (fun r_10 hr_10 qr_10 => ?_)
  replace qr_10 : r_10 = zAhead (n) (rd) (i) := qr_10
  have br_10 := zAhead_rng (n) (rd) (i) (by omega); rw [← qr_10] at br_10
  refine x_ci (va_runV (As := [.int (iI (i)), .int (iI (r_10))]) (rest := [.int (iI (P (i)))]) ⟨hx, hb, hml, hown, hts⟩ (c_X7_limitBy l g σ (b) hb3 (n) (rd) P G ⟨hm0, hm1, hm2⟩ hok hH (i) (by omega) (r_10) (by omega)) (cwV 2 hts gX7_breachesOf_X7_limitBy rfl rfl rfl (by decide +kernel) ⟨Nat.le_of_ble_eq_true rfl, Nat.le_of_ble_eq_true rfl⟩) (x_preV hK hP (x_recv hK hP (i := b) (by omega) hm0 rfl)) rfl rfl hl.1 rfl (lv_room (Nat.le_of_ble_eq_true rfl)) dX7_breachesOf_13 ⟨Nat.le_of_ble_eq_true rfl, Nat.le_of_ble_eq_true rfl⟩) (fun r_13 hr_13 qr_13 => ?_)
  replace qr_13 : r_13 = zLim (sK σ (G)) (sF σ (G)) (P) (i) (r_10) ∧ 0 ≤ r_13 ∧ r_13 ≤ 1000000 := qr_13
  refine x_icmp_le (tgt := 23) hx hb (by omega) (by omega) dX7_breachesOf_16 (by decide) (fun c_16 => ?_) (fun c_16 => ?_)
  · refine x_iconst hx hb dX7_breachesOf_23 ?_
    refine lv_istore_n (lv' := [(2, .int (iI (0))), (0, .ref (g.2.2 (b))), (1, .int (iI (i)))]) hx hb dX7_breachesOf_24 rfl hl (by decide) rfl (fun ls hl => ?_)
    refine lv_aload_n hx hb dX7_breachesOf_25 rfl (lv_at hl 1 rfl) ?_
    refine x_get (C := RX7) (T := TX7) (N := 4) hx hb hts hin_X7 hown hK hP (b) (by omega) hm0 rfl 1 (by decide) hw_0 (fun _ h9 => h9) rfl dX7_breachesOf_26 ?_
    refine lv_iload_n hx hb dX7_breachesOf_29 rfl (lv_at hl 2 rfl) ?_
    refine x_iald (f := P) hx hb hK hP (b + 2) (by omega) hm2 (by omega) (by omega) (by decide) dX7_breachesOf_30 ?_
    have hb_3 := hok.2.2.2.1 (i)
    have hb_4 := (hok.2.2.2.2.2 (i) (by omega) (by omega)).2
    refine lv_aload_n hx hb dX7_breachesOf_31 rfl (lv_at hl 1 rfl) ?_
    refine lv_iload_n hx hb dX7_breachesOf_32 rfl (lv_at hl 2 rfl) ?_
    refine lv_aload_n hx hb dX7_breachesOf_33 rfl (lv_at hl 1 rfl) ?_
    refine lv_iload_n hx hb dX7_breachesOf_34 rfl (lv_at hl 2 rfl) ?_
    refine x_ci (va_runV (As := [.int (iI (i))]) (rest := [.int (iI (i)), .ref (g.2.2 (b)), .int (iI (P (i)))]) ⟨hx, hb, hml, hown, hts⟩ (c_X7_behind l g σ (b) hb3 (n) (rd) P G ⟨hm0, hm1, hm2⟩ hok hH (i) (by omega)) (cwV 1 hts gX7_breachesOf_X7_behind rfl rfl rfl (by decide +kernel) ⟨Nat.le_of_ble_eq_true rfl, Nat.le_of_ble_eq_true rfl⟩) (x_preV hK hP (x_recv hK hP (i := b) (by omega) hm0 rfl)) rfl rfl hl.1 rfl (lv_room (Nat.le_of_ble_eq_true rfl)) dX7_breachesOf_35 ⟨Nat.le_of_ble_eq_true rfl, Nat.le_of_ble_eq_true rfl⟩) (fun r_35 hr_35 qr_35 => ?_)
    replace qr_35 : r_35 = zBehind (n) (rd) (i) := qr_35
    have br_35 := zBehind_rng (n) (rd) (i) (by omega); rw [← qr_35] at br_35
    refine x_ci (va_runV (As := [.int (iI (i)), .int (iI (r_35))]) (rest := [.int (iI (P (i)))]) ⟨hx, hb, hml, hown, hts⟩ (c_X7_limitBy l g σ (b) hb3 (n) (rd) P G ⟨hm0, hm1, hm2⟩ hok hH (i) (by omega) (r_35) (by omega)) (cwV 2 hts gX7_breachesOf_X7_limitBy rfl rfl rfl (by decide +kernel) ⟨Nat.le_of_ble_eq_true rfl, Nat.le_of_ble_eq_true rfl⟩) (x_preV hK hP (x_recv hK hP (i := b) (by omega) hm0 rfl)) rfl rfl hl.1 rfl (lv_room (Nat.le_of_ble_eq_true rfl)) dX7_breachesOf_38 ⟨Nat.le_of_ble_eq_true rfl, Nat.le_of_ble_eq_true rfl⟩) (fun r_38 hr_38 qr_38 => ?_)
    replace qr_38 : r_38 = zLim (sK σ (G)) (sF σ (G)) (P) (i) (r_35) ∧ 0 ≤ r_38 ∧ r_38 ≤ 1000000 := qr_38
    refine x_icmp_le (tgt := 50) hx hb (by omega) (by omega) dX7_breachesOf_41 (by decide) (fun c_41 => ?_) (fun c_41 => ?_)
    · refine lv_iload_n hx hb dX7_breachesOf_50 rfl (lv_at hl 0 rfl) ?_
      refine x_retP hx hb hr (by omega) ?_ dX7_breachesOf_51 hlocks
      unfold zBr
      simp only [← qr_10, ← qr_35]
      split <;> split <;> omega
    · refine lv_iload_n hx hb dX7_breachesOf_44 rfl (lv_at hl 0 rfl) ?_
      refine x_iconst hx hb dX7_breachesOf_45 ?_
      refine x_iadd hx hb dX7_breachesOf_46 ?_
      refine lv_goto (tgt := 51) hx hb dX7_breachesOf_47 (by decide) ?_
      refine x_retP hx hb hr (by omega) ?_ dX7_breachesOf_51 hlocks
      unfold zBr
      simp only [← qr_10, ← qr_35]
      split <;> split <;> omega
  · refine x_iconst hx hb dX7_breachesOf_19 ?_
    refine lv_goto (tgt := 24) hx hb dX7_breachesOf_20 (by decide) ?_
    refine lv_istore_n (lv' := [(2, .int (iI (1))), (0, .ref (g.2.2 (b))), (1, .int (iI (i)))]) hx hb dX7_breachesOf_24 rfl hl (by decide) rfl (fun ls hl => ?_)
    refine lv_aload_n hx hb dX7_breachesOf_25 rfl (lv_at hl 1 rfl) ?_
    refine x_get (C := RX7) (T := TX7) (N := 4) hx hb hts hin_X7 hown hK hP (b) (by omega) hm0 rfl 1 (by decide) hw_0 (fun _ h9 => h9) rfl dX7_breachesOf_26 ?_
    refine lv_iload_n hx hb dX7_breachesOf_29 rfl (lv_at hl 2 rfl) ?_
    refine x_iald (f := P) hx hb hK hP (b + 2) (by omega) hm2 (by omega) (by omega) (by decide) dX7_breachesOf_30 ?_
    have hb_5 := hok.2.2.2.1 (i)
    have hb_6 := (hok.2.2.2.2.2 (i) (by omega) (by omega)).2
    refine lv_aload_n hx hb dX7_breachesOf_31 rfl (lv_at hl 1 rfl) ?_
    refine lv_iload_n hx hb dX7_breachesOf_32 rfl (lv_at hl 2 rfl) ?_
    refine lv_aload_n hx hb dX7_breachesOf_33 rfl (lv_at hl 1 rfl) ?_
    refine lv_iload_n hx hb dX7_breachesOf_34 rfl (lv_at hl 2 rfl) ?_
    refine x_ci (va_runV (As := [.int (iI (i))]) (rest := [.int (iI (i)), .ref (g.2.2 (b)), .int (iI (P (i)))]) ⟨hx, hb, hml, hown, hts⟩ (c_X7_behind l g σ (b) hb3 (n) (rd) P G ⟨hm0, hm1, hm2⟩ hok hH (i) (by omega)) (cwV 1 hts gX7_breachesOf_X7_behind rfl rfl rfl (by decide +kernel) ⟨Nat.le_of_ble_eq_true rfl, Nat.le_of_ble_eq_true rfl⟩) (x_preV hK hP (x_recv hK hP (i := b) (by omega) hm0 rfl)) rfl rfl hl.1 rfl (lv_room (Nat.le_of_ble_eq_true rfl)) dX7_breachesOf_35 ⟨Nat.le_of_ble_eq_true rfl, Nat.le_of_ble_eq_true rfl⟩) (fun r_35 hr_35 qr_35 => ?_)
    replace qr_35 : r_35 = zBehind (n) (rd) (i) := qr_35
    have br_35 := zBehind_rng (n) (rd) (i) (by omega); rw [← qr_35] at br_35
    refine x_ci (va_runV (As := [.int (iI (i)), .int (iI (r_35))]) (rest := [.int (iI (P (i)))]) ⟨hx, hb, hml, hown, hts⟩ (c_X7_limitBy l g σ (b) hb3 (n) (rd) P G ⟨hm0, hm1, hm2⟩ hok hH (i) (by omega) (r_35) (by omega)) (cwV 2 hts gX7_breachesOf_X7_limitBy rfl rfl rfl (by decide +kernel) ⟨Nat.le_of_ble_eq_true rfl, Nat.le_of_ble_eq_true rfl⟩) (x_preV hK hP (x_recv hK hP (i := b) (by omega) hm0 rfl)) rfl rfl hl.1 rfl (lv_room (Nat.le_of_ble_eq_true rfl)) dX7_breachesOf_38 ⟨Nat.le_of_ble_eq_true rfl, Nat.le_of_ble_eq_true rfl⟩) (fun r_38 hr_38 qr_38 => ?_)
    replace qr_38 : r_38 = zLim (sK σ (G)) (sF σ (G)) (P) (i) (r_35) ∧ 0 ≤ r_38 ∧ r_38 ≤ 1000000 := qr_38
    refine x_icmp_le (tgt := 50) hx hb (by omega) (by omega) dX7_breachesOf_41 (by decide) (fun c_41 => ?_) (fun c_41 => ?_)
    · refine lv_iload_n hx hb dX7_breachesOf_50 rfl (lv_at hl 0 rfl) ?_
      refine x_retP hx hb hr (by omega) ?_ dX7_breachesOf_51 hlocks
      unfold zBr
      simp only [← qr_10, ← qr_35]
      split <;> split <;> omega
    · refine lv_iload_n hx hb dX7_breachesOf_44 rfl (lv_at hl 0 rfl) ?_
      refine x_iconst hx hb dX7_breachesOf_45 ?_
      refine x_iadd hx hb dX7_breachesOf_46 ?_
      refine lv_goto (tgt := 51) hx hb dX7_breachesOf_47 (by decide) ?_
      refine x_retP hx hb hr (by omega) ?_ dX7_breachesOf_51 hlocks
      unfold zBr
      simp only [← qr_10, ← qr_35]
      split <;> split <;> omega


set_option maxHeartbeats 4000000 in
set_option maxRecDepth 100000 in
theorem c_X7_allBreaches (l : Launch) (g : xG) (σ : xS) (b : Nat) (hb3 : b + 2 < xN) (n rd : Int) (P : Int → Int) (G : Int → Option Nat) (hst : StAt g σ.1 b n rd P G) (hok : StOk σ n rd P G) (hH : HsOk σ) : Met l yX7_allBreaches wsX7_allBreaches ({ frames := 6, cells := 0, slots := 0, locals := 192 }) (va_Pc [.ref (g.2.2 (b))] (xPre g σ)) (x_Si (fun r => r = zAll (sK σ G) (sF σ G) P n rd ∧ 0 ≤ r ∧ r ≤ 18)) (0) (0) (fun _ => False) := by
  refine Met.ofW (cc := cX7_allBreaches) (maxL := 3) (ret := (some .int)) (by decide) rfl ?_
  intro p e s m args below meth c s₁ B hml hv
  obtain ⟨rfl, hP, hK⟩ := hv
  have hx := B.exec
  have hb := B.bytes
  have hr := B.returns
  have hts := atoms_spec (ws := wsX7_allBreaches) B.pre
  have hown : s.vm.findClass RX7 = some m.cls := findClass_of_methodNamed B.named
  have hlocks := B.notSynchronized
  have hl := lv_entry ([.ref (g.2.2 (b))]) (n := 3) (Nat.le_of_ble_eq_true rfl)
  rw [lg_entry_eq]
  generalize (lg_sl ([.ref (g.2.2 (b))]) ++ List.replicate (3 - (lg_sl ([.ref (g.2.2 (b))])).length) Slot.unset).toArray = ls at hl ⊢
  have hl : lv_has ls 3 [(0, .ref (g.2.2 (b)))] := hl
  obtain ⟨hm0, hm1, hm2⟩ := hst
  have hok1 := hok.1
  have hok2 := hok.2.1
  have hok3 := hok.2.2.1
  have hw_0 := hts (.fieldLink RX7 21 "TwiceAsRich$Street" "count" "I") (by decide +kernel)
  have hin_X7 : ∀ w ∈ wsX70, w ∈ wsX7_allBreaches := by decide +kernel
  refine x_iconst hx hb dX7_allBreaches_0 ?_
  refine lv_istore_n (lv' := [(1, .int (iI (0))), (0, .ref (g.2.2 (b)))]) hx hb dX7_allBreaches_1 rfl hl (by decide) rfl (fun ls hl => ?_)
  refine x_iconst hx hb dX7_allBreaches_2 ?_
  refine lv_istore_n (lv' := [(2, .int (iI (0))), (1, .int (iI (0))), (0, .ref (g.2.2 (b)))]) hx hb dX7_allBreaches_3 rfl hl (by decide) rfl (fun ls hl => ?_)
  have hloop_4 : ∀ (k : Nat) (i : Int) (all : Int), (n - i).toNat < k → (hi0 : 0 ≤ i) → (hin : i ≤ n) → (hall : all = zSum (fun i => zBr (sK σ G) (sF σ G) P n rd i) i.toNat) → (hrng : 0 ≤ all ∧ all ≤ 2 * i) → ∀ (ls : Array Slot), lv_has ls 3 [(2, .int (iI (i))), (1, .int (iI (all))), (0, .ref (g.2.2 (b)))] → W p l e (headSpec wsX7_allBreaches ({ frames := 6, cells := 0, slots := 0, locals := 192 })).room s m ([.ref (g.2.2 (b))] : List Value).toArray below meth c s.heap [] 0 0 (MQ below (x_Si (fun r => r = zAll (sK σ G) (sF σ G) P n rd ∧ 0 ≤ r ∧ r ≤ 18)) ([.ref (g.2.2 (b))] : List Value).toArray s (0) (0) (fun _ => False)) (F0 m 4 ls []) := by
    intro k
    induction k with
    | zero =>
      intros; exact absurd (by assumption) (Nat.not_lt_zero _)
    | succ k ih =>
      intro i all hmeas hi0 hin hall hrng  ls hl
      have ih_1 := ih
      refine lv_iload_n hx hb dX7_allBreaches_4 rfl (lv_at hl 0 rfl) ?_
      refine lv_aload_n hx hb dX7_allBreaches_5 rfl (lv_at hl 2 rfl) ?_
      refine x_get (C := RX7) (T := TX7) (N := 4) hx hb hts hin_X7 hown hK hP (b) (by omega) hm0 rfl 2 (by decide) hw_0 (fun _ h9 => h9) rfl dX7_allBreaches_6 ?_
      refine x_icmp_ge (tgt := 26) hx hb (by omega) (by omega) dX7_allBreaches_9 (by decide) (fun c_9 => ?_) (fun c_9 => ?_)
      · refine lv_iload_n hx hb dX7_allBreaches_26 rfl (lv_at hl 1 rfl) ?_
        refine x_retP hx hb hr (by omega) ?_ dX7_allBreaches_27 hlocks
        refine ⟨?_, by omega, by omega⟩
        unfold zAll
        have e : n.toNat = i.toNat := by omega
        rw [e]; exact hall
      · refine lv_iload_n hx hb dX7_allBreaches_12 rfl (lv_at hl 1 rfl) ?_
        refine lv_aload_n hx hb dX7_allBreaches_13 rfl (lv_at hl 2 rfl) ?_
        refine lv_iload_n hx hb dX7_allBreaches_14 rfl (lv_at hl 0 rfl) ?_
        refine x_ci (va_runV (As := [.int (iI (i))]) (rest := [.int (iI (all))]) ⟨hx, hb, hml, hown, hts⟩ (c_X7_breachesOf l g σ (b) hb3 (n) (rd) P G ⟨hm0, hm1, hm2⟩ hok hH (i) (by omega)) (cwV 1 hts gX7_allBreaches_X7_breachesOf rfl rfl rfl (by decide +kernel) ⟨Nat.le_of_ble_eq_true rfl, Nat.le_of_ble_eq_true rfl⟩) (x_preV hK hP (x_recv hK hP (i := b) (by omega) hm0 rfl)) rfl rfl hl.1 rfl (lv_room (Nat.le_of_ble_eq_true rfl)) dX7_allBreaches_15 ⟨Nat.le_of_ble_eq_true rfl, Nat.le_of_ble_eq_true rfl⟩) (fun r_15 hr_15 qr_15 => ?_)
        replace qr_15 : r_15 = zBr (sK σ (G)) (sF σ (G)) (P) (n) (rd) (i) ∧ 0 ≤ r_15 ∧ r_15 ≤ 2 := qr_15
        refine x_iadd hx hb dX7_allBreaches_18 ?_
        refine lv_istore_n (lv' := [(1, .int (iI (all + r_15))), (2, .int (iI (i))), (0, .ref (g.2.2 (b)))]) hx hb dX7_allBreaches_19 rfl hl (by decide) rfl (fun ls hl => ?_)
        refine x_iinc (k0 := 1) (lv' := [(2, .int (iI (i + 1))), (1, .int (iI (all + r_15))), (0, .ref (g.2.2 (b)))]) hx hb dX7_allBreaches_20 hl rfl (by decide) rfl (fun ls hl => ?_)
        refine lv_goto (tgt := 4) hx hb dX7_allBreaches_23 (by decide) ?_
        exact ih_1 (i + 1) (all + r_15) (by omega) (by omega) (by omega) (by rw [zSum_succ _ hi0, ← hall, qr_15.1]) (by omega) ls (lv_sub hl [0, 1, 2] rfl)
  exact hloop_4 (((n - (0)).toNat) + 1) (0) (0) (by omega) (by omega) (by omega) (by rfl) (by omega) ls (lv_sub hl [0, 1, 2] rfl)

set_option maxHeartbeats 4000000 in
set_option maxRecDepth 100000 in
theorem c_X7_housesWithoutBreach (l : Launch) (g : xG) (σ : xS) (b : Nat) (hb3 : b + 2 < xN) (n rd : Int) (P : Int → Int) (G : Int → Option Nat) (hst : StAt g σ.1 b n rd P G) (hok : StOk σ n rd P G) (hH : HsOk σ) : Met l yX7_housesWithoutBreach wsX7_housesWithoutBreach ({ frames := 6, cells := 0, slots := 0, locals := 192 }) (va_Pc [.ref (g.2.2 (b))] (xPre g σ)) (x_Si (fun r => r = zNone (sK σ G) (sF σ G) P n rd)) (0) (0) (fun _ => False) := by
  refine Met.ofW (cc := cX7_housesWithoutBreach) (maxL := 3) (ret := (some .int)) (by decide) rfl ?_
  intro p e s m args below meth c s₁ B hml hv
  obtain ⟨rfl, hP, hK⟩ := hv
  have hx := B.exec
  have hb := B.bytes
  have hr := B.returns
  have hts := atoms_spec (ws := wsX7_housesWithoutBreach) B.pre
  have hown : s.vm.findClass RX7 = some m.cls := findClass_of_methodNamed B.named
  have hlocks := B.notSynchronized
  have hl := lv_entry ([.ref (g.2.2 (b))]) (n := 3) (Nat.le_of_ble_eq_true rfl)
  rw [lg_entry_eq]
  generalize (lg_sl ([.ref (g.2.2 (b))]) ++ List.replicate (3 - (lg_sl ([.ref (g.2.2 (b))])).length) Slot.unset).toArray = ls at hl ⊢
  have hl : lv_has ls 3 [(0, .ref (g.2.2 (b)))] := hl
  obtain ⟨hm0, hm1, hm2⟩ := hst
  have hok1 := hok.1
  have hok2 := hok.2.1
  have hok3 := hok.2.2.1
  have hw_0 := hts (.fieldLink RX7 21 "TwiceAsRich$Street" "count" "I") (by decide +kernel)
  have hin_X7 : ∀ w ∈ wsX70, w ∈ wsX7_housesWithoutBreach := by decide +kernel
  refine x_iconst hx hb dX7_housesWithoutBreach_0 ?_
  refine lv_istore_n (lv' := [(1, .int (iI (0))), (0, .ref (g.2.2 (b)))]) hx hb dX7_housesWithoutBreach_1 rfl hl (by decide) rfl (fun ls hl => ?_)
  refine x_iconst hx hb dX7_housesWithoutBreach_2 ?_
  refine lv_istore_n (lv' := [(2, .int (iI (0))), (1, .int (iI (0))), (0, .ref (g.2.2 (b)))]) hx hb dX7_housesWithoutBreach_3 rfl hl (by decide) rfl (fun ls hl => ?_)
  have hloop_4 : ∀ (k : Nat) (i : Int) (all : Int), (n - i).toNat < k → (hi0 : 0 ≤ i) → (hin : i ≤ n) → (hall : all = zSum (fun i => if zBr (sK σ G) (sF σ G) P n rd i = 0 then 1 else 0) i.toNat) → (hrng : 0 ≤ all ∧ all ≤ 1 * i) → ∀ (ls : Array Slot), lv_has ls 3 [(2, .int (iI (i))), (1, .int (iI (all))), (0, .ref (g.2.2 (b)))] → W p l e (headSpec wsX7_housesWithoutBreach ({ frames := 6, cells := 0, slots := 0, locals := 192 })).room s m ([.ref (g.2.2 (b))] : List Value).toArray below meth c s.heap [] 0 0 (MQ below (x_Si (fun r => r = zNone (sK σ G) (sF σ G) P n rd)) ([.ref (g.2.2 (b))] : List Value).toArray s (0) (0) (fun _ => False)) (F0 m 4 ls []) := by
    intro k
    induction k with
    | zero =>
      intros; exact absurd (by assumption) (Nat.not_lt_zero _)
    | succ k ih =>
      intro i all hmeas hi0 hin hall hrng  ls hl
      have ih_1 := ih
      refine lv_iload_n hx hb dX7_housesWithoutBreach_4 rfl (lv_at hl 0 rfl) ?_
      refine lv_aload_n hx hb dX7_housesWithoutBreach_5 rfl (lv_at hl 2 rfl) ?_
      refine x_get (C := RX7) (T := TX7) (N := 4) hx hb hts hin_X7 hown hK hP (b) (by omega) hm0 rfl 2 (by decide) hw_0 (fun _ h9 => h9) rfl dX7_housesWithoutBreach_6 ?_
      refine x_icmp_ge (tgt := 29) hx hb (by omega) (by omega) dX7_housesWithoutBreach_9 (by decide) (fun c_9 => ?_) (fun c_9 => ?_)
      · refine lv_iload_n hx hb dX7_housesWithoutBreach_29 rfl (lv_at hl 1 rfl) ?_
        refine x_retP hx hb hr (by omega) ?_ dX7_housesWithoutBreach_30 hlocks
        unfold zNone
        have e : n.toNat = i.toNat := by omega
        rw [e]; exact hall
      · refine lv_aload_n hx hb dX7_housesWithoutBreach_12 rfl (lv_at hl 2 rfl) ?_
        refine lv_iload_n hx hb dX7_housesWithoutBreach_13 rfl (lv_at hl 0 rfl) ?_
        refine x_ci (va_runV (As := [.int (iI (i))]) (rest := []) ⟨hx, hb, hml, hown, hts⟩ (c_X7_breachesOf l g σ (b) hb3 (n) (rd) P G ⟨hm0, hm1, hm2⟩ hok hH (i) (by omega)) (cwV 1 hts gX7_housesWithoutBreach_X7_breachesOf rfl rfl rfl (by decide +kernel) ⟨Nat.le_of_ble_eq_true rfl, Nat.le_of_ble_eq_true rfl⟩) (x_preV hK hP (x_recv hK hP (i := b) (by omega) hm0 rfl)) rfl rfl hl.1 rfl (lv_room (Nat.le_of_ble_eq_true rfl)) dX7_housesWithoutBreach_14 ⟨Nat.le_of_ble_eq_true rfl, Nat.le_of_ble_eq_true rfl⟩) (fun r_14 hr_14 qr_14 => ?_)
        replace qr_14 : r_14 = zBr (sK σ (G)) (sF σ (G)) (P) (n) (rd) (i) ∧ 0 ≤ r_14 ∧ r_14 ≤ 2 := qr_14
        refine x_if_ne (tgt := 23) hx hb (by omega) dX7_housesWithoutBreach_17 (by decide) (fun c_17 => ?_) (fun c_17 => ?_)
        · refine x_iinc (k0 := 0) (lv' := [(2, .int (iI (i + 1))), (1, .int (iI (all))), (0, .ref (g.2.2 (b)))]) hx hb dX7_housesWithoutBreach_23 hl rfl (by decide) rfl (fun ls hl => ?_)
          refine lv_goto (tgt := 4) hx hb dX7_housesWithoutBreach_26 (by decide) ?_
          exact ih_1 (i + 1) (all) (by omega) (by omega) (by omega) (by rw [zSum_succ _ hi0, ← hall]; simp only [← qr_14.1]; first | (rw [if_pos (by omega)]; done) | (rw [if_neg (by omega)]; omega)) (by omega) ls (lv_sub hl [0, 1, 2] rfl)
        · refine x_iinc (k0 := 1) (lv' := [(1, .int (iI (all + 1))), (2, .int (iI (i))), (0, .ref (g.2.2 (b)))]) hx hb dX7_housesWithoutBreach_20 hl rfl (by decide) rfl (fun ls hl => ?_)
          refine x_iinc (k0 := 1) (lv' := [(2, .int (iI (i + 1))), (1, .int (iI (all + 1))), (0, .ref (g.2.2 (b)))]) hx hb dX7_housesWithoutBreach_23 hl rfl (by decide) rfl (fun ls hl => ?_)
          refine lv_goto (tgt := 4) hx hb dX7_housesWithoutBreach_26 (by decide) ?_
          exact ih_1 (i + 1) (all + 1) (by omega) (by omega) (by omega) (by rw [zSum_succ _ hi0, ← hall]; simp only [← qr_14.1]; first | (rw [if_pos (by omega)]; done) | (rw [if_neg (by omega)]; omega)) (by omega) ls (lv_sub hl [0, 1, 2] rfl)
  exact hloop_4 (((n - (0)).toNat) + 1) (0) (0) (by omega) (by omega) (by omega) (by rfl) (by omega) ls (lv_sub hl [0, 1, 2] rfl)

set_option maxHeartbeats 4000000 in
set_option maxRecDepth 100000 in
theorem c_X7_allCoins (l : Launch) (g : xG) (σ : xS) (b : Nat) (hb3 : b + 2 < xN) (n rd : Int) (P : Int → Int) (G : Int → Option Nat) (hst : StAt g σ.1 b n rd P G) (hok : StOk σ n rd P G) (hH : HsOk σ) : Met l yX7_allCoins wsX7_allCoins ({ frames := 1, cells := 0, slots := 0, locals := 32 }) (va_Pc [.ref (g.2.2 (b))] (xPre g σ)) (x_Si (fun r => r = zSum P n.toNat ∧ 0 ≤ r ∧ r ≤ 99999)) (0) (0) (fun _ => False) := by
  refine Met.ofW (cc := cX7_allCoins) (maxL := 3) (ret := (some .int)) (by decide) rfl ?_
  intro p e s m args below meth c s₁ B hml hv
  obtain ⟨rfl, hP, hK⟩ := hv
  have hx := B.exec
  have hb := B.bytes
  have hr := B.returns
  have hts := atoms_spec (ws := wsX7_allCoins) B.pre
  have hown : s.vm.findClass RX7 = some m.cls := findClass_of_methodNamed B.named
  have hlocks := B.notSynchronized
  have hl := lv_entry ([.ref (g.2.2 (b))]) (n := 3) (Nat.le_of_ble_eq_true rfl)
  rw [lg_entry_eq]
  generalize (lg_sl ([.ref (g.2.2 (b))]) ++ List.replicate (3 - (lg_sl ([.ref (g.2.2 (b))])).length) Slot.unset).toArray = ls at hl ⊢
  have hl : lv_has ls 3 [(0, .ref (g.2.2 (b)))] := hl
  obtain ⟨hm0, hm1, hm2⟩ := hst
  have hok1 := hok.1
  have hok2 := hok.2.1
  have hok3 := hok.2.2.1
  have hw_0 := hts (.fieldLink RX7 21 "TwiceAsRich$Street" "count" "I") (by decide +kernel)
  have hin_X7 : ∀ w ∈ wsX70, w ∈ wsX7_allCoins := by decide +kernel
  have hw_2 := hts (.fieldLink RX7 17 "TwiceAsRich$Street" "purses" "[I") (by decide +kernel)
  refine x_iconst hx hb dX7_allCoins_0 ?_
  refine lv_istore_n (lv' := [(1, .int (iI (0))), (0, .ref (g.2.2 (b)))]) hx hb dX7_allCoins_1 rfl hl (by decide) rfl (fun ls hl => ?_)
  refine x_iconst hx hb dX7_allCoins_2 ?_
  refine lv_istore_n (lv' := [(2, .int (iI (0))), (1, .int (iI (0))), (0, .ref (g.2.2 (b)))]) hx hb dX7_allCoins_3 rfl hl (by decide) rfl (fun ls hl => ?_)
  have hloop_4 : ∀ (k : Nat) (i : Int) (all : Int), (n - i).toNat < k → (hi0 : 0 ≤ i) → (hin : i ≤ n) → (hall : all = zSum (P) i.toNat) → (hrng : 0 ≤ all ∧ all ≤ 9999 * i) → ∀ (ls : Array Slot), lv_has ls 3 [(2, .int (iI (i))), (1, .int (iI (all))), (0, .ref (g.2.2 (b)))] → W p l e (headSpec wsX7_allCoins ({ frames := 1, cells := 0, slots := 0, locals := 32 })).room s m ([.ref (g.2.2 (b))] : List Value).toArray below meth c s.heap [] 0 0 (MQ below (x_Si (fun r => r = zSum P n.toNat ∧ 0 ≤ r ∧ r ≤ 99999)) ([.ref (g.2.2 (b))] : List Value).toArray s (0) (0) (fun _ => False)) (F0 m 4 ls []) := by
    intro k
    induction k with
    | zero =>
      intros; exact absurd (by assumption) (Nat.not_lt_zero _)
    | succ k ih =>
      intro i all hmeas hi0 hin hall hrng  ls hl
      have ih_1 := ih
      refine lv_iload_n hx hb dX7_allCoins_4 rfl (lv_at hl 0 rfl) ?_
      refine lv_aload_n hx hb dX7_allCoins_5 rfl (lv_at hl 2 rfl) ?_
      refine x_get (C := RX7) (T := TX7) (N := 4) hx hb hts hin_X7 hown hK hP (b) (by omega) hm0 rfl 2 (by decide) hw_0 (fun _ h9 => h9) rfl dX7_allCoins_6 ?_
      refine x_icmp_ge (tgt := 27) hx hb (by omega) (by omega) dX7_allCoins_9 (by decide) (fun c_9 => ?_) (fun c_9 => ?_)
      · refine lv_iload_n hx hb dX7_allCoins_27 rfl (lv_at hl 1 rfl) ?_
        refine x_retP hx hb hr (by omega) ?_ dX7_allCoins_28 hlocks
        have e : n.toNat = i.toNat := by omega
        refine ⟨?_, by omega, by omega⟩
        rw [e]; exact hall
      · refine lv_iload_n hx hb dX7_allCoins_12 rfl (lv_at hl 1 rfl) ?_
        refine lv_aload_n hx hb dX7_allCoins_13 rfl (lv_at hl 2 rfl) ?_
        refine x_get (C := RX7) (T := TX7) (N := 4) hx hb hts hin_X7 hown hK hP (b) (by omega) hm0 rfl 1 (by decide) hw_2 (fun _ h9 => h9) rfl dX7_allCoins_14 ?_
        refine lv_iload_n hx hb dX7_allCoins_17 rfl (lv_at hl 0 rfl) ?_
        refine x_iald (f := P) hx hb hK hP (b + 2) (by omega) hm2 (by omega) (by omega) (by decide) dX7_allCoins_18 ?_
        have hb_2 := hok.2.2.2.1 (i)
        have hb_3 := (hok.2.2.2.2.2 (i) (by omega) (by omega)).2
        refine x_iadd hx hb dX7_allCoins_19 ?_
        refine lv_istore_n (lv' := [(1, .int (iI (all + (P (i))))), (2, .int (iI (i))), (0, .ref (g.2.2 (b)))]) hx hb dX7_allCoins_20 rfl hl (by decide) rfl (fun ls hl => ?_)
        refine x_iinc (k0 := 1) (lv' := [(2, .int (iI (i + 1))), (1, .int (iI (all + (P (i))))), (0, .ref (g.2.2 (b)))]) hx hb dX7_allCoins_21 hl rfl (by decide) rfl (fun ls hl => ?_)
        refine lv_goto (tgt := 4) hx hb dX7_allCoins_24 (by decide) ?_
        exact ih_1 (i + 1) (all + (P (i))) (by omega) (by omega) (by omega) (by rw [zSum_succ _ hi0, ← hall]) (by omega) ls (lv_sub hl [0, 1, 2] rfl)
  exact hloop_4 (((n - (0)).toNat) + 1) (0) (0) (by omega) (by omega) (by omega) (by rfl) (by omega) ls (lv_sub hl [0, 1, 2] rfl)

set_option maxHeartbeats 4000000 in
set_option maxRecDepth 100000 in
theorem c_X7_holdersOf (l : Launch) (g : xG) (σ : xS) (b : Nat) (hb3 : b + 2 < xN) (n rd : Int) (P : Int → Int) (G : Int → Option Nat) (hst : StAt g σ.1 b n rd P G) (hok : StOk σ n rd P G) (hH : HsOk σ) (i : Int) (hi : 0 ≤ i ∧ i < n) : Met l yX7_holdersOf wsX7_holdersOf ({ frames := 5, cells := 0, slots := 0, locals := 160 }) (va_Pc [.ref (g.2.2 (b)), .int (iI (i))] (xPre g σ)) (x_Si (fun r => r = zHold (sK σ G) (sF σ G) P n rd i)) (0) (0) (fun _ => False) := by
  refine Met.ofW (cc := cX7_holdersOf) (maxL := 5) (ret := (some .int)) (by decide) rfl ?_
  intro p e s m args below meth c s₁ B hml hv
  obtain ⟨rfl, hP, hK⟩ := hv
  have hx := B.exec
  have hb := B.bytes
  have hr := B.returns
  have hts := atoms_spec (ws := wsX7_holdersOf) B.pre
  have hown : s.vm.findClass RX7 = some m.cls := findClass_of_methodNamed B.named
  have hlocks := B.notSynchronized
  have hl := lv_entry ([.ref (g.2.2 (b)), .int (iI (i))]) (n := 5) (Nat.le_of_ble_eq_true rfl)
  rw [lg_entry_eq]
  generalize (lg_sl ([.ref (g.2.2 (b)), .int (iI (i))]) ++ List.replicate (5 - (lg_sl ([.ref (g.2.2 (b)), .int (iI (i))])).length) Slot.unset).toArray = ls at hl ⊢
  have hl : lv_has ls 5 [(0, .ref (g.2.2 (b))), (1, .int (iI (i)))] := hl
  obtain ⟨hm0, hm1, hm2⟩ := hst
  have hok1 := hok.1
  have hok2 := hok.2.1
  have hok3 := hok.2.2.1
  have hw_0 := hts (.fieldLink RX7 17 "TwiceAsRich$Street" "purses" "[I") (by decide +kernel)
  have hin_X7 : ∀ w ∈ wsX70, w ∈ wsX7_holdersOf := by decide +kernel
  refine lv_aload_n hx hb dX7_holdersOf_0 rfl (lv_at hl 0 rfl) ?_
  refine lv_iload_n hx hb dX7_holdersOf_1 rfl (lv_at hl 1 rfl) ?_
  refine x_ci (va_runV (As := [.int (iI (i))]) (rest := []) ⟨hx, hb, hml, hown, hts⟩ (c_X7_ahead l g σ (b) hb3 (n) (rd) P G ⟨hm0, hm1, hm2⟩ hok hH (i) (by omega)) (cwV 1 hts gX7_holdersOf_X7_ahead rfl rfl rfl (by decide +kernel) ⟨Nat.le_of_ble_eq_true rfl, Nat.le_of_ble_eq_true rfl⟩) (x_preV hK hP (x_recv hK hP (i := b) (by omega) hm0 rfl)) rfl rfl hl.1 rfl (lv_room (Nat.le_of_ble_eq_true rfl)) dX7_holdersOf_2 ⟨Nat.le_of_ble_eq_true rfl, Nat.le_of_ble_eq_true rfl⟩) (fun r_2 hr_2 qr_2 => ?_)
  replace qr_2 : r_2 = zAhead (n) (rd) (i) := qr_2
  have br_2 := zAhead_rng (n) (rd) (i) (by omega); rw [← qr_2] at br_2
  refine lv_istore_n (lv' := [(2, .int (iI (r_2))), (0, .ref (g.2.2 (b))), (1, .int (iI (i)))]) hx hb dX7_holdersOf_5 rfl hl (by decide) rfl (fun ls hl => ?_)
  refine lv_aload_n hx hb dX7_holdersOf_6 rfl (lv_at hl 1 rfl) ?_
  refine lv_iload_n hx hb dX7_holdersOf_7 rfl (lv_at hl 2 rfl) ?_
  refine x_ci (va_runV (As := [.int (iI (i))]) (rest := []) ⟨hx, hb, hml, hown, hts⟩ (c_X7_behind l g σ (b) hb3 (n) (rd) P G ⟨hm0, hm1, hm2⟩ hok hH (i) (by omega)) (cwV 1 hts gX7_holdersOf_X7_behind rfl rfl rfl (by decide +kernel) ⟨Nat.le_of_ble_eq_true rfl, Nat.le_of_ble_eq_true rfl⟩) (x_preV hK hP (x_recv hK hP (i := b) (by omega) hm0 rfl)) rfl rfl hl.1 rfl (lv_room (Nat.le_of_ble_eq_true rfl)) dX7_holdersOf_8 ⟨Nat.le_of_ble_eq_true rfl, Nat.le_of_ble_eq_true rfl⟩) (fun r_8 hr_8 qr_8 => ?_)
  replace qr_8 : r_8 = zBehind (n) (rd) (i) := qr_8
  have br_8 := zBehind_rng (n) (rd) (i) (by omega); rw [← qr_8] at br_8
  refine lv_istore_n (lv' := [(3, .int (iI (r_8))), (2, .int (iI (r_2))), (0, .ref (g.2.2 (b))), (1, .int (iI (i)))]) hx hb dX7_holdersOf_11 rfl hl (by decide) rfl (fun ls hl => ?_)
  refine lv_aload_n hx hb dX7_holdersOf_12 rfl (lv_at hl 2 rfl) ?_
  refine x_get (C := RX7) (T := TX7) (N := 4) hx hb hts hin_X7 hown hK hP (b) (by omega) hm0 rfl 1 (by decide) hw_0 (fun _ h9 => h9) rfl dX7_holdersOf_13 ?_
  refine lv_iload_n hx hb dX7_holdersOf_16 rfl (lv_at hl 3 rfl) ?_
  refine x_iald (f := P) hx hb hK hP (b + 2) (by omega) hm2 (by omega) (by omega) (by decide) dX7_holdersOf_17 ?_
  have hb_1 := hok.2.2.2.1 (i)
  have hb_2 := (hok.2.2.2.2.2 (i) (by omega) (by omega)).2
  refine x_iconst hx hb dX7_holdersOf_18 ?_
  refine x_iadd hx hb dX7_holdersOf_19 ?_
  refine lv_aload_n hx hb dX7_holdersOf_20 rfl (lv_at hl 2 rfl) ?_
  refine lv_iload_n hx hb dX7_holdersOf_21 rfl (lv_at hl 3 rfl) ?_
  refine lv_iload_n hx hb dX7_holdersOf_22 rfl (lv_at hl 1 rfl) ?_
  refine x_ci (va_runV (As := [.int (iI (i)), .int (iI (r_2))]) (rest := [.int (iI ((P (i)) + 1))]) ⟨hx, hb, hml, hown, hts⟩ (c_X7_limitBy l g σ (b) hb3 (n) (rd) P G ⟨hm0, hm1, hm2⟩ hok hH (i) (by omega) (r_2) (by omega)) (cwV 2 hts gX7_holdersOf_X7_limitBy rfl rfl rfl (by decide +kernel) ⟨Nat.le_of_ble_eq_true rfl, Nat.le_of_ble_eq_true rfl⟩) (x_preV hK hP (x_recv hK hP (i := b) (by omega) hm0 rfl)) rfl rfl hl.1 rfl (lv_room (Nat.le_of_ble_eq_true rfl)) dX7_holdersOf_23 ⟨Nat.le_of_ble_eq_true rfl, Nat.le_of_ble_eq_true rfl⟩) (fun r_23 hr_23 qr_23 => ?_)
  replace qr_23 : r_23 = zLim (sK σ (G)) (sF σ (G)) (P) (i) (r_2) ∧ 0 ≤ r_23 ∧ r_23 ≤ 1000000 := qr_23
  refine x_icmp_le (tgt := 35) hx hb (by omega) (by omega) dX7_holdersOf_26 (by decide) (fun c_26 => ?_) (fun c_26 => ?_)
  · refine x_iconst hx hb dX7_holdersOf_35 ?_
    refine lv_istore (lv' := [(4, .int (iI (0))), (3, .int (iI (r_8))), (2, .int (iI (r_2))), (0, .ref (g.2.2 (b))), (1, .int (iI (i)))]) hx hb dX7_holdersOf_36 hl (by decide) rfl (fun ls hl => ?_)
    refine lv_aload_n hx hb dX7_holdersOf_38 rfl (lv_at hl 3 rfl) ?_
    refine x_get (C := RX7) (T := TX7) (N := 4) hx hb hts hin_X7 hown hK hP (b) (by omega) hm0 rfl 1 (by decide) hw_0 (fun _ h9 => h9) rfl dX7_holdersOf_39 ?_
    refine lv_iload_n hx hb dX7_holdersOf_42 rfl (lv_at hl 4 rfl) ?_
    refine x_iald (f := P) hx hb hK hP (b + 2) (by omega) hm2 (by omega) (by omega) (by decide) dX7_holdersOf_43 ?_
    have hb_3 := hok.2.2.2.1 (i)
    have hb_4 := (hok.2.2.2.2.2 (i) (by omega) (by omega)).2
    refine x_iconst hx hb dX7_holdersOf_44 ?_
    refine x_iadd hx hb dX7_holdersOf_45 ?_
    refine lv_aload_n hx hb dX7_holdersOf_46 rfl (lv_at hl 3 rfl) ?_
    refine lv_iload_n hx hb dX7_holdersOf_47 rfl (lv_at hl 4 rfl) ?_
    refine lv_iload_n hx hb dX7_holdersOf_48 rfl (lv_at hl 1 rfl) ?_
    refine x_ci (va_runV (As := [.int (iI (i)), .int (iI (r_8))]) (rest := [.int (iI ((P (i)) + 1))]) ⟨hx, hb, hml, hown, hts⟩ (c_X7_limitBy l g σ (b) hb3 (n) (rd) P G ⟨hm0, hm1, hm2⟩ hok hH (i) (by omega) (r_8) (by omega)) (cwV 2 hts gX7_holdersOf_X7_limitBy rfl rfl rfl (by decide +kernel) ⟨Nat.le_of_ble_eq_true rfl, Nat.le_of_ble_eq_true rfl⟩) (x_preV hK hP (x_recv hK hP (i := b) (by omega) hm0 rfl)) rfl rfl hl.1 rfl (lv_room (Nat.le_of_ble_eq_true rfl)) dX7_holdersOf_49 ⟨Nat.le_of_ble_eq_true rfl, Nat.le_of_ble_eq_true rfl⟩) (fun r_49 hr_49 qr_49 => ?_)
    replace qr_49 : r_49 = zLim (sK σ (G)) (sF σ (G)) (P) (i) (r_8) ∧ 0 ≤ r_49 ∧ r_49 ≤ 1000000 := qr_49
    refine x_icmp_le (tgt := 64) hx hb (by omega) (by omega) dX7_holdersOf_52 (by decide) (fun c_52 => ?_) (fun c_52 => ?_)
    · refine lv_iload hx hb dX7_holdersOf_64 (lv_at hl 0 rfl) ?_
      refine x_retP hx hb hr (by omega) ?_ dX7_holdersOf_66 hlocks
      unfold zHold
      simp only [← qr_2, ← qr_8]
      rw [← qr_23.1, ← qr_49.1]
      split <;> (try split) <;> first | rfl | omega
    · refine lv_iload hx hb dX7_holdersOf_55 (lv_at hl 0 rfl) ?_
      refine x_iconst hx hb dX7_holdersOf_57 ?_
      refine lv_iload_n hx hb dX7_holdersOf_58 rfl (lv_at hl 1 rfl) ?_
      refine x_ishl hx hb dX7_holdersOf_59 ?_
      have hb_5 := iShl_rng (1) (r_8)
      refine x_ior hx hb dX7_holdersOf_60 ?_
      have hb_6 := iOr_rng (0) (iShl (1) (r_8))
      refine lv_goto (tgt := 66) hx hb dX7_holdersOf_61 (by decide) ?_
      refine x_retP hx hb hr (by omega) ?_ dX7_holdersOf_66 hlocks
      unfold zHold
      simp only [← qr_2, ← qr_8]
      rw [← qr_23.1, ← qr_49.1]
      split <;> (try split) <;> first | rfl | omega
  · refine x_iconst hx hb dX7_holdersOf_29 ?_
    refine lv_iload_n hx hb dX7_holdersOf_30 rfl (lv_at hl 1 rfl) ?_
    refine x_ishl hx hb dX7_holdersOf_31 ?_
    have hb_7 := iShl_rng (1) (r_2)
    refine lv_goto (tgt := 36) hx hb dX7_holdersOf_32 (by decide) ?_
    refine lv_istore (lv' := [(4, .int (iI (iShl (1) (r_2)))), (3, .int (iI (r_8))), (2, .int (iI (r_2))), (0, .ref (g.2.2 (b))), (1, .int (iI (i)))]) hx hb dX7_holdersOf_36 hl (by decide) rfl (fun ls hl => ?_)
    refine lv_aload_n hx hb dX7_holdersOf_38 rfl (lv_at hl 3 rfl) ?_
    refine x_get (C := RX7) (T := TX7) (N := 4) hx hb hts hin_X7 hown hK hP (b) (by omega) hm0 rfl 1 (by decide) hw_0 (fun _ h9 => h9) rfl dX7_holdersOf_39 ?_
    refine lv_iload_n hx hb dX7_holdersOf_42 rfl (lv_at hl 4 rfl) ?_
    refine x_iald (f := P) hx hb hK hP (b + 2) (by omega) hm2 (by omega) (by omega) (by decide) dX7_holdersOf_43 ?_
    have hb_8 := hok.2.2.2.1 (i)
    have hb_9 := (hok.2.2.2.2.2 (i) (by omega) (by omega)).2
    refine x_iconst hx hb dX7_holdersOf_44 ?_
    refine x_iadd hx hb dX7_holdersOf_45 ?_
    refine lv_aload_n hx hb dX7_holdersOf_46 rfl (lv_at hl 3 rfl) ?_
    refine lv_iload_n hx hb dX7_holdersOf_47 rfl (lv_at hl 4 rfl) ?_
    refine lv_iload_n hx hb dX7_holdersOf_48 rfl (lv_at hl 1 rfl) ?_
    refine x_ci (va_runV (As := [.int (iI (i)), .int (iI (r_8))]) (rest := [.int (iI ((P (i)) + 1))]) ⟨hx, hb, hml, hown, hts⟩ (c_X7_limitBy l g σ (b) hb3 (n) (rd) P G ⟨hm0, hm1, hm2⟩ hok hH (i) (by omega) (r_8) (by omega)) (cwV 2 hts gX7_holdersOf_X7_limitBy rfl rfl rfl (by decide +kernel) ⟨Nat.le_of_ble_eq_true rfl, Nat.le_of_ble_eq_true rfl⟩) (x_preV hK hP (x_recv hK hP (i := b) (by omega) hm0 rfl)) rfl rfl hl.1 rfl (lv_room (Nat.le_of_ble_eq_true rfl)) dX7_holdersOf_49 ⟨Nat.le_of_ble_eq_true rfl, Nat.le_of_ble_eq_true rfl⟩) (fun r_49 hr_49 qr_49 => ?_)
    replace qr_49 : r_49 = zLim (sK σ (G)) (sF σ (G)) (P) (i) (r_8) ∧ 0 ≤ r_49 ∧ r_49 ≤ 1000000 := qr_49
    refine x_icmp_le (tgt := 64) hx hb (by omega) (by omega) dX7_holdersOf_52 (by decide) (fun c_52 => ?_) (fun c_52 => ?_)
    · refine lv_iload hx hb dX7_holdersOf_64 (lv_at hl 0 rfl) ?_
      refine x_retP hx hb hr (by omega) ?_ dX7_holdersOf_66 hlocks
      unfold zHold
      simp only [← qr_2, ← qr_8]
      rw [← qr_23.1, ← qr_49.1]
      split <;> (try split) <;> first | rfl | omega
    · refine lv_iload hx hb dX7_holdersOf_55 (lv_at hl 0 rfl) ?_
      refine x_iconst hx hb dX7_holdersOf_57 ?_
      refine lv_iload_n hx hb dX7_holdersOf_58 rfl (lv_at hl 1 rfl) ?_
      refine x_ishl hx hb dX7_holdersOf_59 ?_
      have hb_10 := iShl_rng (1) (r_8)
      refine x_ior hx hb dX7_holdersOf_60 ?_
      have hb_11 := iOr_rng (iShl (1) (r_2)) (iShl (1) (r_8))
      refine lv_goto (tgt := 66) hx hb dX7_holdersOf_61 (by decide) ?_
      refine x_retP hx hb hr (by omega) ?_ dX7_holdersOf_66 hlocks
      unfold zHold
      simp only [← qr_2, ← qr_8]
      rw [← qr_23.1, ← qr_49.1]
      split <;> (try split) <;> first | rfl | omega
