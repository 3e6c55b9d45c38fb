/-! ===== Int values: every Int32 is iI of an Int in range; arithmetic goes through without ranges ===== -/
def iI (z : Int) : Int32 := Int32.ofInt z
abbrev inR (z : Int) : Prop := -2147483648 ≤ z ∧ z < 2147483648
theorem iI_toInt {z : Int} (h : inR z) : (iI z).toInt = z := by
  unfold iI
  rw [Int32.toInt_ofInt]
  have h1 := h.1
  have h2 := h.2
  have hs : Int32.size = 4294967296 := rfl
  rw [hs]
  rw [Int.bmod_eq_of_le (by omega) (by omega)]
theorem iI_of (x : Int32) : ∃ z, inR z ∧ x = iI z := by
  refine ⟨x.toInt, ⟨?_, ?_⟩, ?_⟩
  · exact x.le_toInt
  · exact x.toInt_lt
  · unfold iI; rw [Int32.ofInt_toInt]
theorem iI_self (x : Int32) : iI x.toInt = x := by unfold iI; rw [Int32.ofInt_toInt]
theorem iI_rng (x : Int32) : inR x.toInt := ⟨x.le_toInt, x.toInt_lt⟩
theorem iI_add (a b : Int) : iI a + iI b = iI (a + b) := by unfold iI; rw [Int32.ofInt_add]
theorem iI_mul (a b : Int) : iI a * iI b = iI (a * b) := by unfold iI; rw [Int32.ofInt_mul]
theorem iI_neg (a : Int) : -iI a = iI (-a) := by unfold iI; rw [Int32.ofInt_neg]
theorem iI_sub (a b : Int) : iI a - iI b = iI (a - b) := by
  rw [Int32.sub_eq_add_neg, iI_neg, iI_add]; rfl
theorem iI_eq {a b : Int} (ha : inR a) (hb : inR b) : iI a = iI b ↔ a = b := by
  constructor
  · intro h
    have := congrArg Int32.toInt h
    rwa [iI_toInt ha, iI_toInt hb] at this
  · intro h; rw [h]
theorem iI_lt {a b : Int} (ha : inR a) (hb : inR b) : iI a < iI b ↔ a < b := by
  rw [Int32.lt_iff_toInt_lt, iI_toInt ha, iI_toInt hb]
theorem iI_le {a b : Int} (ha : inR a) (hb : inR b) : iI a ≤ iI b ↔ a ≤ b := by
  rw [Int32.le_iff_toInt_le, iI_toInt ha, iI_toInt hb]
theorem iI_zero : iI 0 = 0 := rfl
theorem iI_nat {a : Int} (h : 0 ≤ a) (h2 : a < 2147483648) : (iI a).toNatClampNeg = a.toNat := by
  show (iI a).toInt.toNat = a.toNat
  rw [iI_toInt ⟨by omega, h2⟩]
theorem iI_in {a : Int} {n : Nat} (h : 0 ≤ a) (h2 : a < (n : Int)) (hn : n ≤ 2147483648) : vp_in (iI a) n := by
  rw [vp_in_iff, iI_toInt ⟨by omega, by omega⟩]
  exact ⟨h, h2⟩
theorem iI_div {a b : Int} (ha : 0 ≤ a) (ha2 : a < 2147483648) (hb : 0 < b) (hb2 : b < 2147483648) : iI a / iI b = iI (a / b) := by
  rw [← Int32.toInt_inj, Int32.toInt_div, iI_toInt ⟨by omega, ha2⟩, iI_toInt ⟨by omega, hb2⟩]
  have h1 : 0 ≤ a / b := Int.ediv_nonneg ha (by omega)
  have h2 : a / b ≤ a := Int.ediv_le_self _ ha
  rw [iI_toInt ⟨by omega, by omega⟩, Int.tdiv_eq_ediv_of_nonneg ha]
  have hs : Int32.size = 4294967296 := rfl
  first | rw [Int.bmod_eq_of_le (by omega) (by omega)] | (rw [hs]; rw [Int.bmod_eq_of_le (by omega) (by omega)])
theorem iI_rem {a b : Int} (ha : 0 ≤ a) (ha2 : a < 2147483648) (hb : 0 < b) (hb2 : b < 2147483648) : iI a - iI a / iI b * iI b = iI (a % b) := by
  rw [iI_div ha ha2 hb hb2, iI_mul, iI_sub]
  congr 1
  have := Int.mul_ediv_add_emod a b
  rw [Int.mul_comm] at this
  omega
theorem iI_ofNat (n : Nat) : Int32.ofNat n = iI (n : Int) := by
  unfold iI
  exact Int32.ofInt_eq_ofNat.symm
/-- shifts and bits, by their Int32 -/
def iShl (a b : Int) : Int := (iI a <<< (iI b &&& 31)).toInt
def iShr (a b : Int) : Int := (iI a >>> (iI b &&& 31)).toInt
def iAnd (a b : Int) : Int := (iI a &&& iI b).toInt
def iOr (a b : Int) : Int := (iI a ||| iI b).toInt
def iByte (a : Int) : Int := ((iI a).toInt8.toInt32).toInt
def iShort (a : Int) : Int := ((iI a).toInt16.toInt32).toInt
def iWrap (a : Int) : Int := (iI a).toInt
theorem iWrap_eq (a : Int) : iI (iWrap a) = iI a := iI_self _
theorem iWrap_rng (a : Int) : inR (iWrap a) := iI_rng _
theorem iShl_rng (a b : Int) : inR (iShl a b) := iI_rng _
theorem iShr_rng (a b : Int) : inR (iShr a b) := iI_rng _
theorem iAnd_rng (a b : Int) : inR (iAnd a b) := iI_rng _
theorem iOr_rng (a b : Int) : inR (iOr a b) := iI_rng _
theorem iByte_rng (a : Int) : inR (iByte a) := iI_rng _
theorem iShort_rng (a : Int) : inR (iShort a) := iI_rng _
/-! ===== the one world: xN cells by index, and houses, any number ===== -/
abbrev xM : Type := Nat → va_E
abbrev xS : Type := xM × List Nat × (Nat → Nat) × (Nat → Int)
abbrev xG : Type := va_G × (Nat → ClassId) × (Nat → Nat)
def xN : Nat := 51
def ciOf (k : Nat) : Nat := match k with
  | 0 => 3
  | 1 => 2
  | 2 => 6
  | 3 => 10
  | 4 => 4
  | 5 => 0
  | 6 => 9
  | _ => 1
def xH (pk : Nat → Nat) (pf : Nat → Int) (a : Nat) : va_E := .inr (ciOf (pk a), [.int (iI (pf a))])
def xW (g : xG) (σ : xS) : va_W := (List.range xN).map (fun i => (g.2.2 i, σ.1 i)) ++ va_pl σ.2.1 (xH σ.2.2.1 σ.2.2.2)
def xP (g : xG) (σ : xS) (H : Heap) : Prop := va_P g.1 vwCl (xW g σ) H
def xD (g : xG) (A : Nat → Prop) (σ : xS) : Prop := va_D A (xW g σ)
def xtys (g : xG) : List (ClassId × FieldType) := [(g.2.1 0, .int), (g.2.1 1, .object RX3), (g.2.1 2, .array .int), (g.2.1 3, .long)]
def hSubs : List String := [RX0, RX1, RX2, RX4, RX6, RX9, RX10]
/-- words of the tables that the printed lists of words leave out: super.shownOf of MISER is the grand-superclass's -/
def xWords : List Cond := [.methodLink RX4 7 ⟨RX2, "shownOf", "(I)I"⟩, .sameMethod RX2 RX3 "shownOf" "(I)I", .superclass RX4 RX2, .superclass RX2 RX3, .instanceMethod yX3_shownOf, .initialized RX3, .code yX3_shownOf cX3_shownOf 2 (some .int)]
def xK (g : xG) (U : State) : Prop := va_K g.1 vwCl (xtys g) U ∧ (∀ q ∈ hSubs, va_Nw (.castable q RX3) U) ∧ ∀ w ∈ xWords, va_Nw w U
theorem xC_moved {C T : String} {u U : State} (hvm : u.vm.Alike U.vm) (h : va_Nw (.castable C T) u) : va_Nw (.castable C T) U := va_tabs rfl (rfl : (u.setVm U.vm).vm = U.vm) (by rw [Cond.castable_setVm hvm]; exact h)
theorem xWords_ok : ∀ w ∈ xWords, (w.onTables && w.keeps) = true := by
  intro w hw
  simp only [xWords, List.mem_cons, List.not_mem_nil, or_false] at hw
  rcases hw with rfl | rfl | rfl | rfl | rfl | rfl | rfl <;> rfl
theorem xK.moved {g : xG} {u U : State} (hW : u.WarmedH U.vm) (h : xK g u) : xK g U := ⟨va_K.moved hW.alike h.1, fun q hq => xC_moved hW.alike (h.2.1 q hq), fun w hw => word_at (args := #[]) (a' := #[]) hW (Or.inl (xWords_ok w hw)) (h.2.2 w hw)⟩
theorem xK.same {g : xG} {u U : State} (hvm : u.vm = U.vm) (h : xK g u) : xK g U := ⟨va_K.moved (by rw [hvm]; exact Vm.Alike.refl _) h.1, fun q hq => va_tabs rfl hvm (h.2.1 q hq), fun w hw => va_tabs (by have := xWords_ok w hw; simp only [Bool.and_eq_true] at this; exact this.1) hvm (h.2.2 w hw)⟩
theorem xW_get {g : xG} {σ : xS} {i : Nat} (hi : i < xN) : (xW g σ)[i]? = some (g.2.2 i, σ.1 i) := by
  unfold xW
  rw [List.getElem?_append_left (by simpa using hi)]
  simp [hi]
theorem xW_set {g : xG} {σ : xS} {i : Nat} (hi : i < xN) (e : va_E) : (xW g σ).set i (g.2.2 i, e) = xW g (va_up σ.1 i e, σ.2) := by
  unfold xW
  rw [List.set_append_left _ _ (by simpa using hi)]
  congr 1
  apply List.ext_getElem?
  intro j
  by_cases hj : j = i
  · subst hj
    rw [List.getElem?_set_self (by simpa using hi)]
    simp [hi, va_up]
  · rw [List.getElem?_set_ne (Ne.symm hj)]
    simp only [List.getElem?_map]
    cases hr : (List.range xN)[j]? with
    | none => rfl
    | some q =>
      have : q = j := by
        have h2 := List.getElem?_eq_some_iff.mp hr
        obtain ⟨h3, h4⟩ := h2
        simpa using h4.symm
      subst this
      simp [va_up, hj]
theorem xM_same {M : xM} {i : Nat} {e : va_E} : va_up M i e i = e := by simp [va_up]
theorem xM_ne {M : xM} {i : Nat} {e : va_E} : ∀ j, j ≠ i → va_up M i e j = M j := fun j h => by simp [va_up, h]
theorem xW_pool {g : xG} {σ : xS} {a : Nat} (ha : a ∈ σ.2.1) : ∃ k : Nat, (xW g σ)[k]? = some (a, Sum.inr (ciOf (σ.2.2.1 a), [Value.int (iI (σ.2.2.2 a))])) := va_pl_get (X := (List.range xN).map (fun i => (g.2.2 i, σ.1 i))) (f := xH σ.2.2.1 σ.2.2.2) ha
/-- the world of a changed cell -/
theorem xD_M {g : xG} {A : Nat → Prop} {σ : xS} {M : xM} (h : xD g A σ) : xD g A (M, σ.2) := by
  have key : ∀ (k : Nat) (q : Nat × va_E), (xW g (M, σ.2))[k]? = some q → ∃ q0, (xW g σ)[k]? = some q0 ∧ q0.1 = q.1 := by
    intro k q hk
    by_cases hl : k < xN
    · rw [xW_get hl] at hk
      cases hk
      exact ⟨_, xW_get hl, rfl⟩
    · refine ⟨q, ?_, rfl⟩
      unfold xW at hk ⊢
      rw [List.getElem?_append_right (by simpa using hl)] at hk ⊢
      simpa using hk
  refine ⟨fun i j x y hi hj hxy => ?_, fun k q hk => ?_⟩
  · obtain ⟨x0, h1, h2⟩ := key i x hi
    obtain ⟨y0, h3, h4⟩ := key j y hj
    exact h.1 i j x0 y0 h1 h3 (h2.trans (hxy.trans h4.symm))
  · obtain ⟨q0, h1, h2⟩ := key k q hk
    rw [← h2]
    exact h.2 k q0 h1
theorem xD_A {g : xG} {A : Nat → Prop} {σ : xS} {i : Nat} (h : xD g A σ) (hi : i < xN) : A (g.2.2 i) := h.2 i _ (xW_get hi)
/-- starts and ends of methods -/
def xPre (g : xG) (σ : xS) (U : State) : Prop := xP g σ U.heap ∧ xK g U
def xPreQ (g : xG) (A : Nat → Prop) (σ : xS) (U : State) : Prop := xP g σ U.heap ∧ xK g U ∧ xD g A σ ∧ ∀ q : Nat, U.heap.size ≤ q → A q
def x_Si (post : Int → Prop) : Array Value → State → Outcome → State → Prop := fun _ st o t => ∃ r : Int, inR r ∧ post r ∧ o = .returned (some (.int (iI r))) ∧ t.heap = st.heap
def x_End (g : xG) (A : Nat → Prop) (σ : xS) (st t : State) : Prop := xP g σ t.heap ∧ xD g A σ ∧ va_F A st t
def x_Qi (g : xG) (A : Nat → Prop) (post : Int → xS → Prop) : Array Value → State → Outcome → State → Prop := fun _ st o t => ∃ (r : Int) (σ : xS), inR r ∧ post r σ ∧ o = .returned (some (.int (iI r))) ∧ x_End g A σ st t
def x_Qv (g : xG) (A : Nat → Prop) (post : xS → Prop) : Array Value → State → Outcome → State → Prop := fun _ st o t => ∃ σ : xS, post σ ∧ o = .returned none ∧ x_End g A σ st t
def x_Qr (g : xG) (A : Nat → Prop) (post : Nat → xS → Prop) : Array Value → State → Outcome → State → Prop := fun _ st o t => ∃ (a : Nat) (σ : xS), post a σ ∧ o = .returned (some (.ref a)) ∧ x_End g A σ st t
theorem x_blind {g : xG} {σ : xS} {av : List Value} : FrameBlind (va_Pc av (xPre g σ)) := fun a U gg mk q => by
  obtain ⟨q0, qP, qK⟩ := q
  exact ⟨q0, qP, xK.same (u := U) (U := U.calling gg mk a) rfl qK⟩
theorem x_blindQ {g : xG} {A : Nat → Prop} {σ : xS} {av : List Value} : FrameBlind (va_Pc av (xPreQ g A σ)) := fun a U gg mk q => by
  obtain ⟨q0, qP, qK, qD, qA⟩ := q
  exact ⟨q0, qP, xK.same (u := U) (U := U.calling gg mk a) rfl qK, qD, qA⟩
theorem x_recv {g : xG} {σ : xS} {s : State} {H : Heap} {i ci : Nat} {fs : List Value} {q : vw_C} (hK : xK g s) (hP : xP g σ H) (hi : i < xN) (hm : σ.1 i = .inr (ci, fs)) (hc : vwCl[ci]? = some q) : ∃ cell : Cell, H[g.2.2 i]? = some cell ∧ cell.vm.isStatics = false ∧ s.vm.findClass q.1 = some cell.cls := va_recv hK.1 hP hc (q0 := i) (by rw [xW_get hi, hm])
theorem x_recvH {g : xG} {σ : xS} {s : State} {H : Heap} {a : Nat} {q : vw_C} (hK : xK g s) (hP : xP g σ H) (ha : a ∈ σ.2.1) (hc : vwCl[ciOf (σ.2.2.1 a)]? = some q) : ∃ cell : Cell, H[a]? = some cell ∧ cell.vm.isStatics = false ∧ s.vm.findClass q.1 = some cell.cls := by
  obtain ⟨k, hk⟩ := xW_pool (g := g) ha
  exact va_recv hK.1 hP hc (q0 := k) hk
theorem x_preV {g : xG} {σ : xS} {s : State} {H : Heap} {a : Nat} {C : String} {As : List Value} (hK : xK g s) (hP : xP g σ H) (hr : ∃ cell : Cell, H[a]? = some cell ∧ cell.vm.isStatics = false ∧ s.vm.findClass C = some cell.cls) : PreV s H C a (va_Pc (.ref a :: As) (xPre g σ)) As :=
  ⟨x_blind, hr, fun U hU hW => ⟨rfl, by rw [hU]; exact hP, xK.moved hW hK⟩⟩
theorem x_preS {g : xG} {σ : xS} {s : State} {H : Heap} {As : List Value} (hK : xK g s) (hP : xP g σ H) : PreS s H (va_Pc As (xPre g σ)) As :=
  ⟨x_blind, fun U hU hW => ⟨rfl, by rw [hU]; exact hP, xK.moved hW hK⟩⟩
theorem x_preVQ {g : xG} {A : Nat → Prop} {σ : xS} {s : State} {H H0 : Heap} {locs : List Loc} {a : Nat} {C : String} {As : List Value} (hK : xK g s) (hP : xP g σ H) (hD : xD g A σ) (hS : va_S A H0 H locs) (hA : ∀ q : Nat, H0.size ≤ q → A q) (hr : ∃ cell : Cell, H[a]? = some cell ∧ cell.vm.isStatics = false ∧ s.vm.findClass C = some cell.cls) : PreV s H C a (va_Pc (.ref a :: As) (xPreQ g A σ)) As :=
  ⟨x_blindQ, hr, fun U hU hW => ⟨rfl, by rw [hU]; exact hP, xK.moved hW hK, hD, fun q h => hA q (Nat.le_trans hS.1 (by rw [← hU]; exact h))⟩⟩
theorem x_preSQ {g : xG} {A : Nat → Prop} {σ : xS} {s : State} {H H0 : Heap} {locs : List Loc} {As : List Value} (hK : xK g s) (hP : xP g σ H) (hD : xD g A σ) (hS : va_S A H0 H locs) (hA : ∀ q : Nat, H0.size ≤ q → A q) : PreS s H (va_Pc As (xPreQ g A σ)) As :=
  ⟨x_blindQ, fun U hU hW => ⟨rfl, by rw [hU]; exact hP, xK.moved hW hK, hD, fun q h => hA q (Nat.le_trans hS.1 (by rw [← hU]; exact h))⟩⟩
section XROWS
variable {p : Program} {l : Launch} {e : Env} {R : Room} {s : State} {m : MethodId} {args : Array Value} {below : List Frame} {meth : Method} {c : Code} {H : Heap} {locs : List Loc} {cells slots : Nat} {Q : State → Prop}
variable {cc : ByteArray} {pc : Nat} {ls : Array Slot} {rest : List Value} {g : xG} {σ : xS} {A : Nat → Prop} {H0 : Heap}
theorem x_iconst (hx : p.tables.exec = Jvm.exec) (hb : c.code = cc) {n : Int} (hdg : decode cc pc = .ok (.iconst n, 1))
    (k : W p l e R s m args below meth c H locs cells slots Q (F0 m (pc + 1) ls (.int (iI n) :: rest))) : W p l e R s m args below meth c H locs cells slots Q (F0 m pc ls (rest)) := lv_iconst (v := iI n) hx hb hdg rfl k
theorem x_bipush (hx : p.tables.exec = Jvm.exec) (hb : c.code = cc) {n : Int} (hv : (Int8.ofInt n).toInt32 = iI n) (hdg : decode cc pc = .ok (.bipush n, 2))
    (k : W p l e R s m args below meth c H locs cells slots Q (F0 m (pc + 2) ls (.int (iI n) :: rest))) : W p l e R s m args below meth c H locs cells slots Q (F0 m pc ls (rest)) := lv_bipush (v := iI n) hx hb hdg hv k
theorem x_sipush (hx : p.tables.exec = Jvm.exec) (hb : c.code = cc) {n : Int} (hv : (Int16.ofInt n).toInt32 = iI n) (hdg : decode cc pc = .ok (.sipush n, 3))
    (k : W p l e R s m args below meth c H locs cells slots Q (F0 m (pc + 3) ls (.int (iI n) :: rest))) : W p l e R s m args below meth c H locs cells slots Q (F0 m pc ls (rest)) := lv_sipush (v := iI n) hx hb hdg hv k
theorem x_ldc (hx : p.tables.exec = Jvm.exec) (hb : c.code = cc) {own : String} {index : Nat} {v : Int32} {n : Int} (hown : s.vm.findClass own = some m.cls) (hconst : (Jvm.Cond.constant own index v).before args s = true) (hn : v = iI n) (hdg : decode cc pc = .ok (.ldc index, 2))
    (k : W p l e R s m args below meth c H locs cells slots Q (F0 m (pc + 2) ls (.int (iI n) :: rest))) : W p l e R s m args below meth c H locs cells slots Q (F0 m pc ls (rest)) := W.ldc hx hb hown hconst rfl hdg (by rw [hn]; exact k)
theorem x_iadd (hx : p.tables.exec = Jvm.exec) (hb : c.code = cc) {a b : Int} (hdg : decode cc pc = .ok (.iadd, 1))
    (k : W p l e R s m args below meth c H locs cells slots Q (F0 m (pc + 1) ls (.int (iI (a + b)) :: rest))) : W p l e R s m args below meth c H locs cells slots Q (F0 m pc ls (.int (iI b) :: .int (iI a) :: rest)) := lv_iadd hx hb hdg (by rw [iI_add]; exact k)
theorem x_isub (hx : p.tables.exec = Jvm.exec) (hb : c.code = cc) {a b : Int} (hdg : decode cc pc = .ok (.isub, 1))
    (k : W p l e R s m args below meth c H locs cells slots Q (F0 m (pc + 1) ls (.int (iI (a - b)) :: rest))) : W p l e R s m args below meth c H locs cells slots Q (F0 m pc ls (.int (iI b) :: .int (iI a) :: rest)) := lv_isub hx hb hdg (by rw [iI_sub]; exact k)
theorem x_imul (hx : p.tables.exec = Jvm.exec) (hb : c.code = cc) {a b : Int} (hdg : decode cc pc = .ok (.imul, 1))
    (k : W p l e R s m args below meth c H locs cells slots Q (F0 m (pc + 1) ls (.int (iI (a * b)) :: rest))) : W p l e R s m args below meth c H locs cells slots Q (F0 m pc ls (.int (iI b) :: .int (iI a) :: rest)) := lv_imul hx hb hdg (by rw [iI_mul]; exact k)
theorem x_ineg (hx : p.tables.exec = Jvm.exec) (hb : c.code = cc) {a : Int} (hdg : decode cc pc = .ok (.ineg, 1))
    (k : W p l e R s m args below meth c H locs cells slots Q (F0 m (pc + 1) ls (.int (iI (-a)) :: rest))) : W p l e R s m args below meth c H locs cells slots Q (F0 m pc ls (.int (iI a) :: rest)) := lv_ineg hx hb hdg (by rw [iI_neg]; exact k)
theorem x_idiv (hx : p.tables.exec = Jvm.exec) (hb : c.code = cc) {a b : Int} (ha : 0 ≤ a) (ha2 : a < 2147483648) (hb0 : 0 < b) (hb2 : b < 2147483648) (hdg : decode cc pc = .ok (.idiv, 1))
    (k : W p l e R s m args below meth c H locs cells slots Q (F0 m (pc + 1) ls (.int (iI (a / b)) :: rest))) : W p l e R s m args below meth c H locs cells slots Q (F0 m pc ls (.int (iI b) :: .int (iI a) :: rest)) := lv_idiv hx hb hdg (fun h => by have := (iI_eq (a := b) (b := 0) ⟨by omega, by omega⟩ ⟨by omega, by omega⟩).mp h; omega) (by rw [iI_div ha ha2 hb0 hb2]; exact k)
theorem x_irem (hx : p.tables.exec = Jvm.exec) (hb : c.code = cc) {a b : Int} (ha : 0 ≤ a) (ha2 : a < 2147483648) (hb0 : 0 < b) (hb2 : b < 2147483648) (hdg : decode cc pc = .ok (.irem, 1))
    (k : W p l e R s m args below meth c H locs cells slots Q (F0 m (pc + 1) ls (.int (iI (a % b)) :: rest))) : W p l e R s m args below meth c H locs cells slots Q (F0 m pc ls (.int (iI b) :: .int (iI a) :: rest)) := lv_irem hx hb hdg (fun h => by have := (iI_eq (a := b) (b := 0) ⟨by omega, by omega⟩ ⟨by omega, by omega⟩).mp h; omega) (by rw [iI_rem ha ha2 hb0 hb2]; exact k)
theorem x_ishl (hx : p.tables.exec = Jvm.exec) (hb : c.code = cc) {a b : Int} (hdg : decode cc pc = .ok (.ishl, 1))
    (k : W p l e R s m args below meth c H locs cells slots Q (F0 m (pc + 1) ls (.int (iI (iShl a b)) :: rest))) : W p l e R s m args below meth c H locs cells slots Q (F0 m pc ls (.int (iI b) :: .int (iI a) :: rest)) := lv_ishl hx hb hdg (by unfold iShl at k; rw [iI_self] at k; exact k)
theorem x_ishr (hx : p.tables.exec = Jvm.exec) (hb : c.code = cc) {a b : Int} (hdg : decode cc pc = .ok (.ishr, 1))
    (k : W p l e R s m args below meth c H locs cells slots Q (F0 m (pc + 1) ls (.int (iI (iShr a b)) :: rest))) : W p l e R s m args below meth c H locs cells slots Q (F0 m pc ls (.int (iI b) :: .int (iI a) :: rest)) := lv_ishr hx hb hdg (by unfold iShr at k; rw [iI_self] at k; exact k)
theorem x_iand (hx : p.tables.exec = Jvm.exec) (hb : c.code = cc) {a b : Int} (hdg : decode cc pc = .ok (.iand, 1))
    (k : W p l e R s m args below meth c H locs cells slots Q (F0 m (pc + 1) ls (.int (iI (iAnd a b)) :: rest))) : W p l e R s m args below meth c H locs cells slots Q (F0 m pc ls (.int (iI b) :: .int (iI a) :: rest)) := lv_iand hx hb hdg (by unfold iAnd at k; rw [iI_self] at k; exact k)
theorem x_ior (hx : p.tables.exec = Jvm.exec) (hb : c.code = cc) {a b : Int} (hdg : decode cc pc = .ok (.ior, 1))
    (k : W p l e R s m args below meth c H locs cells slots Q (F0 m (pc + 1) ls (.int (iI (iOr a b)) :: rest))) : W p l e R s m args below meth c H locs cells slots Q (F0 m pc ls (.int (iI b) :: .int (iI a) :: rest)) := lv_ior hx hb hdg (by unfold iOr at k; rw [iI_self] at k; exact k)
theorem x_i2b (hx : p.tables.exec = Jvm.exec) (hb : c.code = cc) {a : Int} (hdg : decode cc pc = .ok (.i2b, 1))
    (k : W p l e R s m args below meth c H locs cells slots Q (F0 m (pc + 1) ls (.int (iI (iByte a)) :: rest))) : W p l e R s m args below meth c H locs cells slots Q (F0 m pc ls (.int (iI a) :: rest)) := lv_i2b (v := iI (iByte a)) hx hb hdg (by unfold iByte; rw [iI_self]) k
theorem x_i2s (hx : p.tables.exec = Jvm.exec) (hb : c.code = cc) {a : Int} (hdg : decode cc pc = .ok (.i2s, 1))
    (k : W p l e R s m args below meth c H locs cells slots Q (F0 m (pc + 1) ls (.int (iI (iShort a)) :: rest))) : W p l e R s m args below meth c H locs cells slots Q (F0 m pc ls (.int (iI a) :: rest)) := lv_i2s (v := iI (iShort a)) hx hb hdg (by unfold iShort; rw [iI_self]) k
theorem x_icmp_eq (hx : p.tables.exec = Jvm.exec) (hb : c.code = cc) {a b : Int} {off : Int} {tgt : Nat} (ha : inR a) (hb2 : inR b) (hdg : decode cc pc = .ok (.if_icmp .eq off, 3)) (ht : (pc : Int) + off = (tgt : Int))
    (kt : a = b → W p l e R s m args below meth c H locs cells slots Q (F0 m tgt ls rest)) (kf : ¬ a = b → W p l e R s m args below meth c H locs cells slots Q (F0 m (pc + 3) ls (rest))) : W p l e R s m args below meth c H locs cells slots Q (F0 m pc ls (.int (iI b) :: .int (iI a) :: rest)) := lv_icmp_eq hx hb hdg ht (fun h => kt ((iI_eq ha hb2).mp h)) (fun h => kf (fun h2 => h ((iI_eq ha hb2).mpr h2)))
theorem x_if_eq (hx : p.tables.exec = Jvm.exec) (hb : c.code = cc) {a : Int} {off : Int} {tgt : Nat} (ha : inR a) (hdg : decode cc pc = .ok (.ifCond .eq off, 3)) (ht : (pc : Int) + off = (tgt : Int))
    (kt : a = 0 → W p l e R s m args below meth c H locs cells slots Q (F0 m tgt ls rest)) (kf : ¬ a = 0 → W p l e R s m args below meth c H locs cells slots Q (F0 m (pc + 3) ls (rest))) : W p l e R s m args below meth c H locs cells slots Q (F0 m pc ls (.int (iI a) :: rest)) := by
  have h0 : inR 0 := ⟨by omega, by omega⟩
  exact lv_if_eq hx hb hdg ht (fun h => kt ((iI_eq ha h0).mp h)) (fun h => kf (fun h2 => h ((iI_eq ha h0).mpr h2)))
theorem x_icmp_ne (hx : p.tables.exec = Jvm.exec) (hb : c.code = cc) {a b : Int} {off : Int} {tgt : Nat} (ha : inR a) (hb2 : inR b) (hdg : decode cc pc = .ok (.if_icmp .ne off, 3)) (ht : (pc : Int) + off = (tgt : Int))
    (kt : ¬ a = b → W p l e R s m args below meth c H locs cells slots Q (F0 m tgt ls rest)) (kf : a = b → W p l e R s m args below meth c H locs cells slots Q (F0 m (pc + 3) ls (rest))) : W p l e R s m args below meth c H locs cells slots Q (F0 m pc ls (.int (iI b) :: .int (iI a) :: rest)) := lv_icmp_ne hx hb hdg ht (fun h => kt (fun h2 => h ((iI_eq ha hb2).mpr h2))) (fun h => kf ((iI_eq ha hb2).mp h))
theorem x_if_ne (hx : p.tables.exec = Jvm.exec) (hb : c.code = cc) {a : Int} {off : Int} {tgt : Nat} (ha : inR a) (hdg : decode cc pc = .ok (.ifCond .ne off, 3)) (ht : (pc : Int) + off = (tgt : Int))
    (kt : ¬ a = 0 → W p l e R s m args below meth c H locs cells slots Q (F0 m tgt ls rest)) (kf : a = 0 → W p l e R s m args below meth c H locs cells slots Q (F0 m (pc + 3) ls (rest))) : W p l e R s m args below meth c H locs cells slots Q (F0 m pc ls (.int (iI a) :: rest)) := by
  have h0 : inR 0 := ⟨by omega, by omega⟩
  exact lv_if_ne hx hb hdg ht (fun h => kt (fun h2 => h ((iI_eq ha h0).mpr h2))) (fun h => kf ((iI_eq ha h0).mp h))
theorem x_icmp_lt (hx : p.tables.exec = Jvm.exec) (hb : c.code = cc) {a b : Int} {off : Int} {tgt : Nat} (ha : inR a) (hb2 : inR b) (hdg : decode cc pc = .ok (.if_icmp .lt off, 3)) (ht : (pc : Int) + off = (tgt : Int))
    (kt : a < b → W p l e R s m args below meth c H locs cells slots Q (F0 m tgt ls rest)) (kf : b ≤ a → W p l e R s m args below meth c H locs cells slots Q (F0 m (pc + 3) ls (rest))) : W p l e R s m args below meth c H locs cells slots Q (F0 m pc ls (.int (iI b) :: .int (iI a) :: rest)) := lv_icmp_lt hx hb hdg ht (fun h => kt ((iI_lt ha hb2).mp h)) (fun h => kf (Int.not_lt.mp (fun h2 => h ((iI_lt ha hb2).mpr h2))))
theorem x_if_lt (hx : p.tables.exec = Jvm.exec) (hb : c.code = cc) {a : Int} {off : Int} {tgt : Nat} (ha : inR a) (hdg : decode cc pc = .ok (.ifCond .lt off, 3)) (ht : (pc : Int) + off = (tgt : Int))
    (kt : a < 0 → W p l e R s m args below meth c H locs cells slots Q (F0 m tgt ls rest)) (kf : 0 ≤ a → W p l e R s m args below meth c H locs cells slots Q (F0 m (pc + 3) ls (rest))) : W p l e R s m args below meth c H locs cells slots Q (F0 m pc ls (.int (iI a) :: rest)) := by
  have h0 : inR 0 := ⟨by omega, by omega⟩
  exact lv_if_lt hx hb hdg ht (fun h => kt ((iI_lt ha h0).mp h)) (fun h => kf (Int.not_lt.mp (fun h2 => h ((iI_lt ha h0).mpr h2))))
theorem x_icmp_ge (hx : p.tables.exec = Jvm.exec) (hb : c.code = cc) {a b : Int} {off : Int} {tgt : Nat} (ha : inR a) (hb2 : inR b) (hdg : decode cc pc = .ok (.if_icmp .ge off, 3)) (ht : (pc : Int) + off = (tgt : Int))
    (kt : b ≤ a → W p l e R s m args below meth c H locs cells slots Q (F0 m tgt ls rest)) (kf : a < b → W p l e R s m args below meth c H locs cells slots Q (F0 m (pc + 3) ls (rest))) : W p l e R s m args below meth c H locs cells slots Q (F0 m pc ls (.int (iI b) :: .int (iI a) :: rest)) := lv_icmp_ge hx hb hdg ht (fun h => kt ((iI_le hb2 ha).mp h)) (fun h => kf (Int.not_le.mp (fun h2 => h ((iI_le hb2 ha).mpr h2))))
theorem x_if_ge (hx : p.tables.exec = Jvm.exec) (hb : c.code = cc) {a : Int} {off : Int} {tgt : Nat} (ha : inR a) (hdg : decode cc pc = .ok (.ifCond .ge off, 3)) (ht : (pc : Int) + off = (tgt : Int))
    (kt : 0 ≤ a → W p l e R s m args below meth c H locs cells slots Q (F0 m tgt ls rest)) (kf : a < 0 → W p l e R s m args below meth c H locs cells slots Q (F0 m (pc + 3) ls (rest))) : W p l e R s m args below meth c H locs cells slots Q (F0 m pc ls (.int (iI a) :: rest)) := by
  have h0 : inR 0 := ⟨by omega, by omega⟩
  exact lv_if_ge hx hb hdg ht (fun h => kt ((iI_le h0 ha).mp h)) (fun h => kf (Int.not_le.mp (fun h2 => h ((iI_le h0 ha).mpr h2))))
theorem x_icmp_gt (hx : p.tables.exec = Jvm.exec) (hb : c.code = cc) {a b : Int} {off : Int} {tgt : Nat} (ha : inR a) (hb2 : inR b) (hdg : decode cc pc = .ok (.if_icmp .gt off, 3)) (ht : (pc : Int) + off = (tgt : Int))
    (kt : b < a → W p l e R s m args below meth c H locs cells slots Q (F0 m tgt ls rest)) (kf : a ≤ b → W p l e R s m args below meth c H locs cells slots Q (F0 m (pc + 3) ls (rest))) : W p l e R s m args below meth c H locs cells slots Q (F0 m pc ls (.int (iI b) :: .int (iI a) :: rest)) := lv_icmp_gt hx hb hdg ht (fun h => kt ((iI_lt hb2 ha).mp h)) (fun h => kf (Int.not_lt.mp (fun h2 => h ((iI_lt hb2 ha).mpr h2))))
theorem x_if_gt (hx : p.tables.exec = Jvm.exec) (hb : c.code = cc) {a : Int} {off : Int} {tgt : Nat} (ha : inR a) (hdg : decode cc pc = .ok (.ifCond .gt off, 3)) (ht : (pc : Int) + off = (tgt : Int))
    (kt : 0 < a → W p l e R s m args below meth c H locs cells slots Q (F0 m tgt ls rest)) (kf : a ≤ 0 → W p l e R s m args below meth c H locs cells slots Q (F0 m (pc + 3) ls (rest))) : W p l e R s m args below meth c H locs cells slots Q (F0 m pc ls (.int (iI a) :: rest)) := by
  have h0 : inR 0 := ⟨by omega, by omega⟩
  exact lv_if_gt hx hb hdg ht (fun h => kt ((iI_lt h0 ha).mp h)) (fun h => kf (Int.not_lt.mp (fun h2 => h ((iI_lt h0 ha).mpr h2))))
theorem x_icmp_le (hx : p.tables.exec = Jvm.exec) (hb : c.code = cc) {a b : Int} {off : Int} {tgt : Nat} (ha : inR a) (hb2 : inR b) (hdg : decode cc pc = .ok (.if_icmp .le off, 3)) (ht : (pc : Int) + off = (tgt : Int))
    (kt : a ≤ b → W p l e R s m args below meth c H locs cells slots Q (F0 m tgt ls rest)) (kf : b < a → W p l e R s m args below meth c H locs cells slots Q (F0 m (pc + 3) ls (rest))) : W p l e R s m args below meth c H locs cells slots Q (F0 m pc ls (.int (iI b) :: .int (iI a) :: rest)) := lv_icmp_le hx hb hdg ht (fun h => kt ((iI_le ha hb2).mp h)) (fun h => kf (Int.not_le.mp (fun h2 => h ((iI_le ha hb2).mpr h2))))
theorem x_if_le (hx : p.tables.exec = Jvm.exec) (hb : c.code = cc) {a : Int} {off : Int} {tgt : Nat} (ha : inR a) (hdg : decode cc pc = .ok (.ifCond .le off, 3)) (ht : (pc : Int) + off = (tgt : Int))
    (kt : a ≤ 0 → W p l e R s m args below meth c H locs cells slots Q (F0 m tgt ls rest)) (kf : 0 < a → W p l e R s m args below meth c H locs cells slots Q (F0 m (pc + 3) ls (rest))) : W p l e R s m args below meth c H locs cells slots Q (F0 m pc ls (.int (iI a) :: rest)) := by
  have h0 : inR 0 := ⟨by omega, by omega⟩
  exact lv_if_le hx hb hdg ht (fun h => kt ((iI_le ha h0).mp h)) (fun h => kf (Int.not_le.mp (fun h2 => h ((iI_le ha h0).mpr h2))))
theorem x_iinc (hx : p.tables.exec = Jvm.exec) (hb : c.code = cc) {i nL k0 : Nat} {n z : Int} {lv lv' : List (Nat × Value)} (hdg : decode cc pc = .ok (.iinc i n, 3)) (h : lv_has ls nL lv) (hk : lv[k0]? = some (i, .int (iI z))) (hn : i < nL) (hl : (i, Value.int (iI (z + n))) :: lv.filter (fun q => !(q.1 == i) && !(q.1 + 1 == i && q.2.category == 2)) = lv')
    (k : ∀ ls' : Array Slot, lv_has ls' nL lv' → W p l e R s m args below meth c H locs cells slots Q (F0 m (pc + 3) ls' rest)) : W p l e R s m args below meth c H locs cells slots Q (F0 m pc ls (rest)) := lv_iinc (v := iI (z + n)) (x := iI z) hx hb hdg h hk (by rw [← iI_add]; rfl) hn hl k
theorem x_get (hx : p.tables.exec = Jvm.exec) (hb : c.code = cc) {own ref C : String} {T : u_T} {N ci index : Nat} {Ts : List Cond} (hts : ∀ w ∈ Ts, w.before args s = true) (hin : ∀ w ∈ u_ws C T N, w ∈ Ts) (hown : s.vm.findClass own = some m.cls) (hK : xK g s) (hP : xP g σ H) (i : Nat) (hi : i < xN) {fs : List Value} (hm : σ.1 i = .inr (ci, fs)) (hc : vwCl[ci]? = some (C, T, N)) (k0 : Nat) (hk : k0 < N) (hlink : (Cond.fieldLink own index ref (T k0).2.1 (T k0).2.2.1).before args s = true) (hsame : ∀ x, s.fieldFound? (T k0).1 (T k0).2.1 (T k0).2.2.1 = some x → s.fieldFound? ref (T k0).2.1 (T k0).2.2.1 = some x) {v : Value} (hv : fs[k0]? = some v) (hdg : decode cc pc = .ok (.getfield index, 3))
    (k : W p l e R s m args below meth c H locs cells slots Q (F0 m (pc + 3) ls (v :: rest))) : W p l e R s m args below meth c H locs cells slots Q (F0 m pc ls (.ref (g.2.2 i) :: rest)) := va_get (D := g.1) hx hb hts hin hown hK.1 hP i (by rw [xW_get hi, hm]) hc k0 hk hlink hsame hv hdg k
theorem x_getN (hx : p.tables.exec = Jvm.exec) (hb : c.code = cc) {own ref C : String} {T : u_T} {N ci index : Nat} {Ts : List Cond} (hts : ∀ w ∈ Ts, w.before args s = true) (hin : ∀ w ∈ u_ws C T N, w ∈ Ts) (hown : s.vm.findClass own = some m.cls) (hK : xK g s) (hP : xP g σ H) (i : Nat) (hi : i < xN) {fs : List Value} (hm : σ.1 i = .inr (ci, fs)) (hc : vwCl[ci]? = some (C, T, N)) (k0 : Nat) (hk : k0 < N) {host : String} (hlink : (Cond.fieldLinkNest own index ref (T k0).2.1 (T k0).2.2.1 host).before args s = true) (hsame : ∀ x, s.fieldFound? (T k0).1 (T k0).2.1 (T k0).2.2.1 = some x → s.fieldFound? ref (T k0).2.1 (T k0).2.2.1 = some x) {v : Value} (hv : fs[k0]? = some v) (hdg : decode cc pc = .ok (.getfield index, 3))
    (k : W p l e R s m args below meth c H locs cells slots Q (F0 m (pc + 3) ls (v :: rest))) : W p l e R s m args below meth c H locs cells slots Q (F0 m pc ls (.ref (g.2.2 i) :: rest)) := va_getN (D := g.1) hx hb hts hin hown hK.1 hP i (by rw [xW_get hi, hm]) hc k0 hk hlink hsame hv hdg k
theorem x_getH (hx : p.tables.exec = Jvm.exec) (hb : c.code = cc) {own ref C : String} {T : u_T} {N ci index : Nat} {Ts : List Cond} (hts : ∀ w ∈ Ts, w.before args s = true) (hin : ∀ w ∈ u_ws C T N, w ∈ Ts) (hown : s.vm.findClass own = some m.cls) (hK : xK g s) (hP : xP g σ H) {a : Nat} (ha : a ∈ σ.2.1) (hci : ciOf (σ.2.2.1 a) = ci) (hc : vwCl[ci]? = some (C, T, N)) (k0 : Nat) (hk : k0 < N) (hk0 : k0 = 0) (hlink : (Cond.fieldLink own index ref (T k0).2.1 (T k0).2.2.1).before args s = true) (hsame : ∀ x, s.fieldFound? (T k0).1 (T k0).2.1 (T k0).2.2.1 = some x → s.fieldFound? ref (T k0).2.1 (T k0).2.2.1 = some x) (hdg : decode cc pc = .ok (.getfield index, 3))
    (k : W p l e R s m args below meth c H locs cells slots Q (F0 m (pc + 3) ls (.int (iI (σ.2.2.2 a)) :: rest))) : W p l e R s m args below meth c H locs cells slots Q (F0 m pc ls (.ref a :: rest)) := by
  obtain ⟨q0, hq⟩ := xW_pool (g := g) ha
  rw [hci] at hq
  exact va_get (D := g.1) hx hb hts hin hown hK.1 hP q0 hq hc k0 hk hlink hsame (by rw [hk0]; rfl) hdg k
theorem x_put (hx : p.tables.exec = Jvm.exec) (hb : c.code = cc) {own ref C : String} {T : u_T} {N ci index : Nat} {Ts : List Cond} (hts : ∀ w ∈ Ts, w.before args s = true) (hin : ∀ w ∈ u_ws C T N, w ∈ Ts) (hown : s.vm.findClass own = some m.cls) (hK : xK g s) (hP : xP g σ H) (hD : xD g A σ) (hS : va_S A H0 H locs) (i : Nat) (hi : i < xN) {fs : List Value} (hm : σ.1 i = .inr (ci, fs)) (hc : vwCl[ci]? = some (C, T, N)) (ty0 : Nat → FieldType) (hty : ∀ k, k < N → parseFieldDescriptor (T k).2.2.1 = some (ty0 k)) (hnm : ∀ a, a < N → ∀ b, b < N → a ≠ b → (T a).2.1 ≠ (T b).2.1) (k0 : Nat) (hk : k0 < N) (hlink : (Cond.fieldLink own index ref (T k0).2.1 (T k0).2.2.1).before args s = true) (hsame : ∀ x, s.fieldFound? (T k0).1 (T k0).2.1 (T k0).2.2.1 = some x → s.fieldFound? ref (T k0).2.1 (T k0).2.2.1 = some x) (hfin : (T k0).2.2.2 = false) {ty : FieldType} {v : Value} (hd : parseFieldDescriptor (T k0).2.2.1 = some ty) (hn : narrow ty v = v) (hfit : fits ty v = true) (hl : k0 < fs.length) (hdg : decode cc pc = .ok (.putfield index, 3))
    (k : ∀ (M1 : xM) (H1 : Heap) (locs1 : List Loc), M1 i = .inr (ci, fs.set k0 v) → (∀ j, j ≠ i → M1 j = σ.1 j) → xP g (M1, σ.2) H1 → xD g A (M1, σ.2) → va_S A H0 H1 locs1 → W p l e R s m args below meth c H1 locs1 cells slots Q (F0 m (pc + 3) ls (rest))) : W p l e R s m args below meth c H locs cells slots Q (F0 m pc ls (v :: .ref (g.2.2 i) :: rest)) := va_put (D := g.1) hx hb hts hin ty0 hty hnm hown hK.1 hP hD hS i (by rw [xW_get hi, hm]) hc k0 hk hlink hsame hfin hd hn hfit hl hdg (fun H1 locs1 hP1 hD1 hS1 => k _ H1 locs1 (xM_same (M := σ.1) (i := i)) xM_ne (by unfold xP; rw [xW_set hi] at hP1; exact hP1) (xD_M hD) hS1)
theorem x_putN (hx : p.tables.exec = Jvm.exec) (hb : c.code = cc) {own ref C : String} {T : u_T} {N ci index : Nat} {Ts : List Cond} (hts : ∀ w ∈ Ts, w.before args s = true) (hin : ∀ w ∈ u_ws C T N, w ∈ Ts) (hown : s.vm.findClass own = some m.cls) (hK : xK g s) (hP : xP g σ H) (hD : xD g A σ) (hS : va_S A H0 H locs) (i : Nat) (hi : i < xN) {fs : List Value} (hm : σ.1 i = .inr (ci, fs)) (hc : vwCl[ci]? = some (C, T, N)) (ty0 : Nat → FieldType) (hty : ∀ k, k < N → parseFieldDescriptor (T k).2.2.1 = some (ty0 k)) (hnm : ∀ a, a < N → ∀ b, b < N → a ≠ b → (T a).2.1 ≠ (T b).2.1) (k0 : Nat) (hk : k0 < N) {host : String} (hlink : (Cond.fieldLinkNest own index ref (T k0).2.1 (T k0).2.2.1 host).before args s = true) (hsame : ∀ x, s.fieldFound? (T k0).1 (T k0).2.1 (T k0).2.2.1 = some x → s.fieldFound? ref (T k0).2.1 (T k0).2.2.1 = some x) (hfin : (T k0).2.2.2 = false) {ty : FieldType} {v : Value} (hd : parseFieldDescriptor (T k0).2.2.1 = some ty) (hn : narrow ty v = v) (hfit : fits ty v = true) (hl : k0 < fs.length) (hdg : decode cc pc = .ok (.putfield index, 3))
    (k : ∀ (M1 : xM) (H1 : Heap) (locs1 : List Loc), M1 i = .inr (ci, fs.set k0 v) → (∀ j, j ≠ i → M1 j = σ.1 j) → xP g (M1, σ.2) H1 → xD g A (M1, σ.2) → va_S A H0 H1 locs1 → W p l e R s m args below meth c H1 locs1 cells slots Q (F0 m (pc + 3) ls (rest))) : W p l e R s m args below meth c H locs cells slots Q (F0 m pc ls (v :: .ref (g.2.2 i) :: rest)) := va_putN (D := g.1) hx hb hts hin ty0 hty hnm hown hK.1 hP hD hS i (by rw [xW_get hi, hm]) hc k0 hk hlink hsame hfin hd hn hfit hl hdg (fun H1 locs1 hP1 hD1 hS1 => k _ H1 locs1 (xM_same (M := σ.1) (i := i)) xM_ne (by unfold xP; rw [xW_set hi] at hP1; exact hP1) (xD_M hD) hS1)
theorem x_iald (hx : p.tables.exec = Jvm.exec) (hb : c.code = cc) (hK : xK g s) (hP : xP g σ H) (i : Nat) (hi : i < xN) {n : Nat} {f : Int → Int} (hm : σ.1 i = .inl (g.2.1 0, n, .inl (fun k => iI (f (k : Int))))) {z : Int} (h0 : 0 ≤ z) (h1 : z < (n : Int)) (hn : n ≤ 2147483648) (hdg : decode cc pc = .ok (.iaload, 1))
    (k : W p l e R s m args below meth c H locs cells slots Q (F0 m (pc + 1) ls (.int (iI (f z)) :: rest))) : W p l e R s m args below meth c H locs cells slots Q (F0 m pc ls (.int (iI z) :: .ref (g.2.2 i) :: rest)) := va_iald (D := g.1) hx hb hK.1 hP i 0 (by rw [xW_get hi, hm]) rfl (iI_in h0 h1 hn) hdg (by
  show W _ _ _ _ _ _ _ _ _ _ _ _ _ _ _ (F0 m (pc + 1) ls (.int (iI (f (((iI z).toNatClampNeg : Nat) : Int))) :: rest))
  rw [iI_nat h0 (by omega), Int.toNat_of_nonneg h0]
  exact k)
def upI {α : Type} (f : Int → α) (k : Int) (v : α) : Int → α := fun j => if j = k then v else f j
theorem upI_s {α : Type} {f : Int → α} {k : Int} {v : α} : upI f k v k = v := by simp [upI]
theorem upI_n {α : Type} {f : Int → α} {k j : Int} {v : α} (h : j ≠ k) : upI f k v j = f j := by simp [upI, h]
theorem upI_i {f : Int → Int} {z v : Int} (h0 : 0 ≤ z) (h1 : z < 2147483648) : upd (fun k : Nat => iI (f (k : Int))) (iI z).toNatClampNeg (iI v) = fun k : Nat => iI (upI f z v (k : Int)) := by
  rw [iI_nat h0 h1]
  funext j
  simp only [upd, upI]
  by_cases hj : j = z.toNat
  · subst hj; simp [Int.toNat_of_nonneg h0]
  · rw [if_neg hj, if_neg (by omega)]
theorem upI_q {f : Int → Option Nat} {z : Int} {v : Option Nat} (h0 : 0 ≤ z) (h1 : z < 2147483648) : va_up (fun k : Nat => f (k : Int)) (iI z).toNatClampNeg v = fun k : Nat => upI f z v (k : Int) := by
  rw [iI_nat h0 h1]
  funext j
  simp only [va_up, upI]
  by_cases hj : j = z.toNat
  · subst hj; simp [Int.toNat_of_nonneg h0]
  · rw [if_neg hj, if_neg (by omega)]
theorem x_iast (hx : p.tables.exec = Jvm.exec) (hb : c.code = cc) (hK : xK g s) (hP : xP g σ H) (hD : xD g A σ) (hS : va_S A H0 H locs) (i : Nat) (hi : i < xN) {n : Nat} {f : Int → Int} (hm : σ.1 i = .inl (g.2.1 0, n, .inl (fun k => iI (f (k : Int))))) {z v : Int} (h0 : 0 ≤ z) (h1 : z < (n : Int)) (hn : n ≤ 2147483648) (hdg : decode cc pc = .ok (.iastore, 1))
    (k : ∀ (M1 : xM) (H1 : Heap) (locs1 : List Loc), M1 i = .inl (g.2.1 0, n, .inl (fun k => iI (upI f z v (k : Int)))) → (∀ j, j ≠ i → M1 j = σ.1 j) → xP g (M1, σ.2) H1 → xD g A (M1, σ.2) → va_S A H0 H1 locs1 → W p l e R s m args below meth c H1 locs1 cells slots Q (F0 m (pc + 1) ls (rest))) : W p l e R s m args below meth c H locs cells slots Q (F0 m pc ls (.int (iI v) :: .int (iI z) :: .ref (g.2.2 i) :: rest)) := va_iast (D := g.1) hx hb hK.1 hP hD hS i 0 (by rw [xW_get hi, hm]) rfl (iI_in h0 h1 hn) hdg (fun H1 locs1 hP1 hD1 hS1 => k _ H1 locs1 (xM_same (M := σ.1) (i := i)) xM_ne (by unfold xP; rw [upI_i h0 (by omega), xW_set hi] at hP1; exact hP1) (xD_M hD) hS1)
theorem x_aald (hx : p.tables.exec = Jvm.exec) (hb : c.code = cc) {C : String} (t0 : Nat) (hK : xK g s) (hP : xP g σ H) (i : Nat) (hi : i < xN) {cA : ClassId} {n : Nat} {f : Int → Option Nat} (hm : σ.1 i = .inl (cA, n, .inr (.inr (.inr (.inr (fun k => f (k : Int))))))) (ht : (xtys g)[t0]? = some (cA, .object C)) {z : Int} (h0 : 0 ≤ z) (h1 : z < (n : Int)) (hn : n ≤ 2147483648) (hdg : decode cc pc = .ok (.aaload, 1))
    (k : W p l e R s m args below meth c H locs cells slots Q (F0 m (pc + 1) ls (va_rf (f z) :: rest))) : W p l e R s m args below meth c H locs cells slots Q (F0 m pc ls (.int (iI z) :: .ref (g.2.2 i) :: rest)) := va_aldq (D := g.1) hx hb hK.1 hP i t0 (by rw [xW_get hi, hm]) ht (iI_in h0 h1 hn) hdg (by
  show W _ _ _ _ _ _ _ _ _ _ _ _ _ _ _ (F0 m (pc + 1) ls (va_rf (f (((iI z).toNatClampNeg : Nat) : Int)) :: rest))
  rw [iI_nat h0 (by omega), Int.toNat_of_nonneg h0]
  exact k)
theorem x_any {g : xG} {σ : xS} {s : State} {H : Heap} (hK : xK g s) (hP : xP g σ H) {a : Nat} (ha : a ∈ σ.2.1) : va_Any RX3 s H a := by
  obtain ⟨k, hk⟩ := xW_pool (g := g) ha
  have self : ∀ {ci : Nat} {C : String} {T : u_T} {N : Nat}, ciOf (σ.2.2.1 a) = ci → vwCl[ci]? = some (C, T, N) → (C = RX3 ∨ C ∈ hSubs) → va_Any RX3 s H a := by
    intro ci C T N h1 h2 h3
    rw [h1] at hk
    refine va_rAny hK.1 hP hk h2 ?_
    intro comp c0 e1 e2
    rcases h3 with h3 | h3
    · rw [h3] at e2
      cases e1.symm.trans e2
      exact va_asg _ _
    · obtain ⟨c1, t1, f1, f2, f3⟩ := Cond.castable_spec (va_Nw.use (A := #[]) rfl (hK.2.1 C h3))
      cases e2.symm.trans f1
      cases e1.symm.trans f2
      exact f3
  have hc : ciOf (σ.2.2.1 a) = 3 ∨ ciOf (σ.2.2.1 a) = 2 ∨ ciOf (σ.2.2.1 a) = 6 ∨ ciOf (σ.2.2.1 a) = 10 ∨ ciOf (σ.2.2.1 a) = 4 ∨ ciOf (σ.2.2.1 a) = 0 ∨ ciOf (σ.2.2.1 a) = 9 ∨ ciOf (σ.2.2.1 a) = 1 := by
    unfold ciOf
    split <;> simp
  rcases hc with h | h | h | h | h | h | h | h
  · exact self h rfl (Or.inl rfl)
  · exact self h rfl (Or.inr (by decide +kernel))
  · exact self h rfl (Or.inr (by decide +kernel))
  · exact self h rfl (Or.inr (by decide +kernel))
  · exact self h rfl (Or.inr (by decide +kernel))
  · exact self h rfl (Or.inr (by decide +kernel))
  · exact self h rfl (Or.inr (by decide +kernel))
  · exact self h rfl (Or.inr (by decide +kernel))
theorem x_aast (hx : p.tables.exec = Jvm.exec) (hb : c.code = cc) (hK : xK g s) (hP : xP g σ H) (hD : xD g A σ) (hS : va_S A H0 H locs) (i : Nat) (hi : i < xN) {n : Nat} {f : Int → Option Nat} (hm : σ.1 i = .inl (g.2.1 1, n, .inr (.inr (.inr (.inr (fun k => f (k : Int))))))) {v : Nat} (ha : v ∈ σ.2.1) {z : Int} (h0 : 0 ≤ z) (h1 : z < (n : Int)) (hn : n ≤ 2147483648) (hdg : decode cc pc = .ok (.aastore, 1))
    (k : ∀ (M1 : xM) (H1 : Heap) (locs1 : List Loc), M1 i = .inl (g.2.1 1, n, .inr (.inr (.inr (.inr (fun k => upI f z (some v) (k : Int)))))) → (∀ j, j ≠ i → M1 j = σ.1 j) → xP g (M1, σ.2) H1 → xD g A (M1, σ.2) → va_S A H0 H1 locs1 → W p l e R s m args below meth c H1 locs1 cells slots Q (F0 m (pc + 1) ls (rest))) : W p l e R s m args below meth c H locs cells slots Q (F0 m pc ls (.ref v :: .int (iI z) :: .ref (g.2.2 i) :: rest)) := va_astqM (D := g.1) hx hb hK.1 hP hD hS i 1 (by rw [xW_get hi, hm]) rfl (x_any hK hP ha) (iI_in h0 h1 hn) hdg (fun H1 locs1 hP1 hD1 hS1 => k _ H1 locs1 (xM_same (M := σ.1) (i := i)) xM_ne (by unfold xP; rw [upI_q h0 (by omega), xW_set hi] at hP1; exact hP1) (xD_M hD) hS1)
theorem x_aastN (hx : p.tables.exec = Jvm.exec) (hb : c.code = cc) (hK : xK g s) (hP : xP g σ H) (hD : xD g A σ) (hS : va_S A H0 H locs) (i : Nat) (hi : i < xN) {n : Nat} {f : Int → Option Nat} (hm : σ.1 i = .inl (g.2.1 1, n, .inr (.inr (.inr (.inr (fun k => f (k : Int))))))) {z : Int} (h0 : 0 ≤ z) (h1 : z < (n : Int)) (hn : n ≤ 2147483648) (hdg : decode cc pc = .ok (.aastore, 1))
    (k : ∀ (M1 : xM) (H1 : Heap) (locs1 : List Loc), M1 i = .inl (g.2.1 1, n, .inr (.inr (.inr (.inr (fun k => upI f z none (k : Int)))))) → (∀ j, j ≠ i → M1 j = σ.1 j) → xP g (M1, σ.2) H1 → xD g A (M1, σ.2) → va_S A H0 H1 locs1 → W p l e R s m args below meth c H1 locs1 cells slots Q (F0 m (pc + 1) ls (rest))) : W p l e R s m args below meth c H locs cells slots Q (F0 m pc ls (.null :: .int (iI z) :: .ref (g.2.2 i) :: rest)) := va_astqN (D := g.1) hx hb hK.1 hP hD hS i 1 (by rw [xW_get hi, hm]) rfl (iI_in h0 h1 hn) hdg (fun H1 locs1 hP1 hD1 hS1 => k _ H1 locs1 (xM_same (M := σ.1) (i := i)) xM_ne (by unfold xP; rw [upI_q h0 (by omega), xW_set hi] at hP1; exact hP1) (xD_M hD) hS1)
theorem x_alen (hx : p.tables.exec = Jvm.exec) (hb : c.code = cc) (hK : xK g s) (hP : xP g σ H) (i t0 : Nat) (hi : i < xN) {cA : ClassId} {x : vp_A} {ty : FieldType} (hm : σ.1 i = .inl (cA, x)) (ht : (xtys g)[t0]? = some (cA, ty)) (hdg : decode cc pc = .ok (.arraylength, 1))
    (k : W p l e R s m args below meth c H locs cells slots Q (F0 m (pc + 1) ls (.int (iI (x.1 : Int)) :: rest))) : W p l e R s m args below meth c H locs cells slots Q (F0 m pc ls (.ref (g.2.2 i) :: rest)) := va_alen (D := g.1) hx hb hK.1 hP i t0 (by rw [xW_get hi, hm]) ht (v := iI (x.1 : Int)) (iI_ofNat _) hdg k
theorem x_retP {post : Int → Prop} (hx : p.tables.exec = Jvm.exec) (hb : c.code = cc) (hr : meth.sig.returnType = some .int) {r : Int} (hr2 : inR r) (hp : post r) (hdg : decode cc pc = .ok (.ireturn, 1)) (hlocks : meth.locks = false) : W p l e R s m args below meth c s.heap [] 0 0 (MQ below (x_Si post) args s 0 0 (fun _ => False)) (F0 m pc ls [.int (iI r)]) :=
  W.iret hx hb hr (fun t ht _ => ⟨r, hr2, hp, rfl, ht⟩) (fun _ h => by cases h) hdg hlocks
theorem x_nz {r : Int} (h : r = 0 ∨ r = 1) : narrow .boolean (.int (iI r)) = .int (iI r) := by rcases h with rfl | rfl <;> rfl
theorem x_retPz {post : Int → Prop} (hx : p.tables.exec = Jvm.exec) (hb : c.code = cc) (hr : meth.sig.returnType = some .boolean) {r : Int} (hr2 : r = 0 ∨ r = 1) (hp : post r) (hdg : decode cc pc = .ok (.ireturn, 1)) (hlocks : meth.locks = false) : W p l e R s m args below meth c s.heap [] 0 0 (MQ below (x_Si post) args s 0 0 (fun _ => False)) (F0 m pc ls [.int (iI r)]) :=
  W.zret hx hb hr (x_nz hr2) (fun t ht _ => ⟨r, by rcases hr2 with h | h <;> exact ⟨by omega, by omega⟩, hp, rfl, ht⟩) (fun _ h => by cases h) hdg hlocks
theorem x_retQ {post : Int → xS → Prop} (hx : p.tables.exec = Jvm.exec) (hb : c.code = cc) (hr : meth.sig.returnType = some .int) {r : Int} (hr2 : inR r) (hp : post r σ) (hP : xP g σ H) (hD : xD g A σ) (hS : va_S A s.heap H locs) (hdg : decode cc pc = .ok (.ireturn, 1)) (hlocks : meth.locks = false) : W p l e R s m args below meth c H locs cells slots (MQ below (x_Qi g A post) args s cells slots A) (F0 m pc ls [.int (iI r)]) :=
  W.iret hx hb hr (fun t ht _ => ⟨r, σ, hr2, hp, rfl, by rw [ht]; exact hP, hD, hS.F ht⟩) hS.2.2 hdg hlocks
theorem x_retQz {post : Int → xS → Prop} (hx : p.tables.exec = Jvm.exec) (hb : c.code = cc) (hr : meth.sig.returnType = some .boolean) {r : Int} (hr2 : r = 0 ∨ r = 1) (hp : post r σ) (hP : xP g σ H) (hD : xD g A σ) (hS : va_S A s.heap H locs) (hdg : decode cc pc = .ok (.ireturn, 1)) (hlocks : meth.locks = false) : W p l e R s m args below meth c H locs cells slots (MQ below (x_Qi g A post) args s cells slots A) (F0 m pc ls [.int (iI r)]) :=
  W.zret hx hb hr (x_nz hr2) (fun t ht _ => ⟨r, σ, by rcases hr2 with h | h <;> exact ⟨by omega, by omega⟩, hp, rfl, by rw [ht]; exact hP, hD, hS.F ht⟩) hS.2.2 hdg hlocks
theorem x_retQv {post : xS → Prop} (hx : p.tables.exec = Jvm.exec) (hb : c.code = cc) (hr : meth.sig.returnType = none) (hp : post σ) (hP : xP g σ H) (hD : xD g A σ) (hS : va_S A s.heap H locs) (hdg : decode cc pc = .ok (.return_, 1)) (hlocks : meth.locks = false) : W p l e R s m args below meth c H locs cells slots (MQ below (x_Qv g A post) args s cells slots A) (F0 m pc ls []) :=
  W.vret hx hb hr (fun t ht _ => ⟨σ, hp, rfl, by rw [ht]; exact hP, hD, hS.F ht⟩) hS.2.2 hdg hlocks
theorem x_ci {st0 : List Value} {a : Array Value} {post : Int → Prop} (hr : va_Run p l e R s m args below meth c H locs cells slots 0 0 (F0 m pc ls st0) rest (x_Si post a) (fun _ => False))
    (kk : ∀ r : Int, inR r → post r → W p l e R s m args below meth c H locs cells slots Q (F0 m (pc + 3) ls (.int (iI r) :: rest))) : W p l e R s m args below meth c H locs cells slots Q (F0 m pc ls st0) := by
  intro T hT X
  obtain ⟨v, st₀, t, T', L, h0, X', hL, e1, e2, ⟨r, hr1, hr2, hv, hh⟩, st⟩ := hr T hT X
  cases hv
  obtain ⟨t2, a1, b1⟩ := kk r hr1 hr2 T' (by rw [e1, hh, h0]) (Stand.forget X' (fun q h => (hL q h).elim))
  exact ⟨t2, st t2 a1, b1⟩
theorem x_end_S {A0 : Nat → Prop} {st t T' : State} {L : List Loc} (h0 : st.heap = H) (e1 : T'.heap = t.heap) (hE : x_End g A σ st t) (hS : va_S A H0 H locs) (hL : ∀ q ∈ L, A q.base) : va_S A H0 T'.heap (locs ++ L) := by
  obtain ⟨-, -, hz, hk⟩ := hE
  rw [h0] at hz hk
  refine ⟨Nat.le_trans hS.1 (by rw [e1]; exact hz), fun q h1 h2 => by rw [e1, hk q (Nat.lt_of_lt_of_le h1 hS.1) h2]; exact hS.2.1 q h1 h2, fun q hq => ?_⟩
  rcases List.mem_append.mp hq with h | h
  · exact hS.2.2 q h
  · exact hL q h
theorem x_cqi {mc ms : Nat} {st0 : List Value} {a : Array Value} {post : Int → xS → Prop} (hr : va_Run p l e R s m args below meth c H locs cells slots mc ms (F0 m pc ls st0) rest (x_Qi g A post a) A) (hS : va_S A H0 H locs)
    (kk : ∀ (r : Int) (σ1 : xS) (H1 : Heap) (locs1 : List Loc), inR r → post r σ1 → xP g σ1 H1 → xD g A σ1 → va_S A H0 H1 locs1 → W p l e R s m args below meth c H1 locs1 (cells + mc) (slots + ms) Q (F0 m (pc + 3) ls (.int (iI r) :: rest))) : W p l e R s m args below meth c H locs cells slots Q (F0 m pc ls st0) := by
  intro T hT X
  obtain ⟨v, st₀, t, T', L, h0, X', hL, e1, e2, ⟨r, σ1, hr1, hr2, hv, hE⟩, st⟩ := hr T hT X
  cases hv
  obtain ⟨t2, a1, b1⟩ := kk r σ1 T'.heap (locs ++ L) hr1 hr2 (by rw [e1]; exact hE.1) hE.2.1 (x_end_S (A0 := A) h0 e1 hE hS hL) T' rfl X'
  exact ⟨t2, st t2 a1, b1⟩
theorem x_cqv {mc ms : Nat} {st0 : List Value} {a : Array Value} {post : xS → Prop} (hr : va_Run p l e R s m args below meth c H locs cells slots mc ms (F0 m pc ls st0) rest (x_Qv g A post a) A) (hS : va_S A H0 H locs)
    (kk : ∀ (σ1 : xS) (H1 : Heap) (locs1 : List Loc), post σ1 → xP g σ1 H1 → xD g A σ1 → va_S A H0 H1 locs1 → W p l e R s m args below meth c H1 locs1 (cells + mc) (slots + ms) Q (F0 m (pc + 3) ls rest)) : W p l e R s m args below meth c H locs cells slots Q (F0 m pc ls st0) := by
  intro T hT X
  obtain ⟨v, st₀, t, T', L, h0, X', hL, e1, e2, ⟨σ1, hr2, hv, hE⟩, st⟩ := hr T hT X
  cases hv
  obtain ⟨t2, a1, b1⟩ := kk σ1 T'.heap (locs ++ L) hr2 (by rw [e1]; exact hE.1) hE.2.1 (x_end_S (A0 := A) h0 e1 hE hS hL) T' rfl X'
  exact ⟨t2, st t2 a1, b1⟩
theorem x_cqr {mc ms : Nat} {st0 : List Value} {a : Array Value} {post : Nat → xS → Prop} (hr : va_Run p l e R s m args below meth c H locs cells slots mc ms (F0 m pc ls st0) rest (x_Qr g A post a) A) (hS : va_S A H0 H locs)
    (kk : ∀ (b : Nat) (σ1 : xS) (H1 : Heap) (locs1 : List Loc), post b σ1 → xP g σ1 H1 → xD g A σ1 → va_S A H0 H1 locs1 → W p l e R s m args below meth c H1 locs1 (cells + mc) (slots + ms) Q (F0 m (pc + 3) ls (.ref b :: rest))) : W p l e R s m args below meth c H locs cells slots Q (F0 m pc ls st0) := by
  intro T hT X
  obtain ⟨v, st₀, t, T', L, h0, X', hL, e1, e2, ⟨b, σ1, hr2, hv, hE⟩, st⟩ := hr T hT X
  cases hv
  obtain ⟨t2, a1, b1⟩ := kk b σ1 T'.heap (locs ++ L) hr2 (by rw [e1]; exact hE.1) hE.2.1 (x_end_S (A0 := A) h0 e1 hE hS hL) T' rfl X'
  exact ⟨t2, st t2 a1, b1⟩
end XROWS
theorem x_fr {F : Nat → Prop} {M0 M M1 : xM} {i : Nat} (hfr : ∀ j, F j → M j = M0 j) (hne : ∀ j, j ≠ i → M1 j = M j) (h : ∀ j, F j → j ≠ i) : ∀ j, F j → M1 j = M0 j := fun j hj => (hne j (h j hj)).trans (hfr j hj)
def jL (z : Int) : Int64 := Int64.ofInt z
abbrev inL (z : Int) : Prop := -9223372036854775808 ≤ z ∧ z < 9223372036854775808
theorem jL_toInt {z : Int} (h : inL z) : (jL z).toInt = z := by
  unfold jL
  rw [Int64.toInt_ofInt]
  have h1 := h.1
  have h2 := h.2
  rw [Int.bmod_eq_of_le (by simp [Int64.size]; omega) (by simp [Int64.size]; omega)]
theorem jL_of {a : Int} (h : inR a) : (iI a).toInt64 = jL a := by
  have h1 := h.1
  have h2 := h.2
  rw [← Int64.toInt_inj, Int32.toInt_toInt64, iI_toInt h, jL_toInt ⟨by omega, by omega⟩]
theorem jL_cmp {a b : Int} (ha : inL a) (hb : inL b) : (a < b ∧ lg_cmp (jL a) (jL b) = iI (-1)) ∨ (a = b ∧ lg_cmp (jL a) (jL b) = iI 0) ∨ (b < a ∧ lg_cmp (jL a) (jL b) = iI 1) := by
  unfold lg_cmp
  have e1 : (jL a > jL b) ↔ b < a := by
    rw [gt_iff_lt, Int64.lt_iff_toInt_lt, jL_toInt ha, jL_toInt hb]
  have e2 : (jL a = jL b) ↔ a = b := by
    rw [← Int64.toInt_inj, jL_toInt ha, jL_toInt hb]
  rcases Int.lt_trichotomy a b with h | h | h
  · left
    refine ⟨h, ?_⟩
    rw [if_neg (by rw [e1]; omega), if_neg (by rw [e2]; omega)]
    rfl
  · right; left
    refine ⟨h, ?_⟩
    rw [if_neg (by rw [e1]; omega), if_pos (by rw [e2]; exact h)]
    rfl
  · right; right
    refine ⟨h, ?_⟩
    rw [if_pos (by rw [e1]; exact h)]
    rfl
section XROWS2
variable {p : Program} {l : Launch} {e : Env} {R : Room} {s : State} {m : MethodId} {args : Array Value} {below : List Frame} {meth : Method} {c : Code} {H : Heap} {locs : List Loc} {cells slots : Nat} {Q : State → Prop}
variable {cc : ByteArray} {pc : Nat} {ls : Array Slot} {rest : List Value} {g : xG} {σ : xS} {A : Nat → Prop} {H0 : Heap}
theorem x_i2l (hx : p.tables.exec = Jvm.exec) (hb : c.code = cc) {a : Int} (ha : inR a) (hdg : decode cc pc = .ok (.i2l, 1))
    (k : W p l e R s m args below meth c H locs cells slots Q (F0 m (pc + 1) ls (.long (jL a) :: rest))) : W p l e R s m args below meth c H locs cells slots Q (F0 m pc ls (.int (iI a) :: rest)) := lv_i2l (v := jL a) hx hb hdg (jL_of ha) k
theorem x_lconst (hx : p.tables.exec = Jvm.exec) (hb : c.code = cc) {n : Fin 2} {z : Int} (hz : Int64.ofNat (n : Nat) = jL z) (hdg : decode cc pc = .ok (.lconst n, 1))
    (k : W p l e R s m args below meth c H locs cells slots Q (F0 m (pc + 1) ls (.long (jL z) :: rest))) : W p l e R s m args below meth c H locs cells slots Q (F0 m pc ls (rest)) := lv_lconst (v := jL z) hx hb hdg hz k
theorem x_ldc2 (hx : p.tables.exec = Jvm.exec) (hb : c.code = cc) {own : String} {index : Nat} {v : Int64} {z : Int} (hown : s.vm.findClass own = some m.cls) (hconst : (Jvm.Cond.constantLong own index v).before args s = true) (hz : v = jL z) (hdg : decode cc pc = .ok (.ldc2_w index, 3))
    (k : W p l e R s m args below meth c H locs cells slots Q (F0 m (pc + 3) ls (.long (jL z) :: rest))) : W p l e R s m args below meth c H locs cells slots Q (F0 m pc ls (rest)) := lv_ldc2 hx hb hown hconst hdg (by rw [hz]; exact k)
theorem x_lcmp (hx : p.tables.exec = Jvm.exec) (hb : c.code = cc) {a b : Int} (ha : inL a) (hb2 : inL b) (hdg : decode cc pc = .ok (.lcmp, 1))
    (k : ∀ q : Int, ((a < b ∧ q = -1) ∨ (a = b ∧ q = 0) ∨ (b < a ∧ q = 1)) → W p l e R s m args below meth c H locs cells slots Q (F0 m (pc + 1) ls (.int (iI q) :: rest))) : W p l e R s m args below meth c H locs cells slots Q (F0 m pc ls (.long (jL b) :: .long (jL a) :: rest)) := by
  refine W.lcmp hx hb hdg ?_
  rcases jL_cmp ha hb2 with ⟨h, e⟩ | ⟨h, e⟩ | ⟨h, e⟩
  · rw [e]; exact k (-1) (Or.inl ⟨h, rfl⟩)
  · rw [e]; exact k 0 (Or.inr (Or.inl ⟨h, rfl⟩))
  · rw [e]; exact k 1 (Or.inr (Or.inr ⟨h, rfl⟩))
theorem x_min (hx : p.tables.exec = Jvm.exec) (hb : c.code = cc) (hml : c.maxLocals = ls.size) {own : String} {index : Nat} (hown : s.vm.findClass own = some m.cls) (hlink : (Cond.methodLink own index Lib.Math.min.name).before args s = true) (hstat : (Cond.static Lib.Math.min.name).before args s = true) (hini : (Cond.initialized "java/lang/Math").before args s = true) (hcode : (Cond.code Lib.Math.min.name Lib.Math.min.code 2 (some .int)).before args s = true) (hframes : 1 ≤ R.frames) (hlocals : (rest.map fun v => v.category).sum + 13 ≤ R.locals) (hc : cells ≤ R.cells) (hs : slots ≤ R.slots) {a b : Int} (ha : inR a) (hb2 : inR b) (hdg : decode cc pc = .ok (.invokestatic index, 3))
    (k : ∀ q : Int, ((q = a ∧ a ≤ b) ∨ (q = b ∧ b < a)) → W p l e R s m args below meth c H locs cells slots Q (F0 m (pc + 3) ls (.int (iI q) :: rest))) : W p l e R s m args below meth c H locs cells slots Q (F0 m pc ls (.int (iI b) :: .int (iI a) :: rest)) := by
  refine va_mmin hx hb hml hown hlink hstat hini hcode hframes hlocals hc hs hdg ?_
  by_cases h : b < a
  · rw [if_pos ((iI_lt hb2 ha).mpr h)]; exact k b (Or.inr ⟨rfl, h⟩)
  · rw [if_neg (fun h2 => h ((iI_lt hb2 ha).mp h2))]; exact k a (Or.inl ⟨rfl, Int.not_lt.mp h⟩)
theorem x_max (hx : p.tables.exec = Jvm.exec) (hb : c.code = cc) (hml : c.maxLocals = ls.size) {own : String} {index : Nat} (hown : s.vm.findClass own = some m.cls) (hlink : (Cond.methodLink own index Lib.Math.max.name).before args s = true) (hstat : (Cond.static Lib.Math.max.name).before args s = true) (hini : (Cond.initialized "java/lang/Math").before args s = true) (hcode : (Cond.code Lib.Math.max.name Lib.Math.max.code 2 (some .int)).before args s = true) (hframes : 1 ≤ R.frames) (hlocals : (rest.map fun v => v.category).sum + 13 ≤ R.locals) (hc : cells ≤ R.cells) (hs : slots ≤ R.slots) {a b : Int} (ha : inR a) (hb2 : inR b) (hdg : decode cc pc = .ok (.invokestatic index, 3))
    (k : ∀ q : Int, ((q = a ∧ b ≤ a) ∨ (q = b ∧ a < b)) → W p l e R s m args below meth c H locs cells slots Q (F0 m (pc + 3) ls (.int (iI q) :: rest))) : W p l e R s m args below meth c H locs cells slots Q (F0 m pc ls (.int (iI b) :: .int (iI a) :: rest)) := by
  refine va_mmax hx hb hml hown hlink hstat hini hcode hframes hlocals hc hs hdg ?_
  by_cases h : a < b
  · rw [if_pos ((iI_lt ha hb2).mpr h)]; exact k b (Or.inr ⟨rfl, h⟩)
  · rw [if_neg (fun h2 => h ((iI_lt ha hb2).mp h2))]; exact k a (Or.inl ⟨rfl, Int.not_lt.mp h⟩)
theorem x_abs (hx : p.tables.exec = Jvm.exec) (hb : c.code = cc) (hml : c.maxLocals = ls.size) {own : String} {index : Nat} (hown : s.vm.findClass own = some m.cls) (hlink : (Cond.methodLink own index Lib.Math.abs.name).before args s = true) (hstat : (Cond.static Lib.Math.abs.name).before args s = true) (hini : (Cond.initialized "java/lang/Math").before args s = true) (hcode : (Cond.code Lib.Math.abs.name Lib.Math.abs.code 1 (some .int)).before args s = true) (hframes : 1 ≤ R.frames) (hlocals : (rest.map fun v => v.category).sum + 13 ≤ R.locals) (hc : cells ≤ R.cells) (hs : slots ≤ R.slots) {a : Int} (ha : inR a) (ha2 : -2147483648 < a) (hdg : decode cc pc = .ok (.invokestatic index, 3))
    (k : ∀ q : Int, ((0 ≤ a ∧ q = a) ∨ (a < 0 ∧ q = -a)) → W p l e R s m args below meth c H locs cells slots Q (F0 m (pc + 3) ls (.int (iI q) :: rest))) : W p l e R s m args below meth c H locs cells slots Q (F0 m pc ls (.int (iI a) :: rest)) := by
  refine va_mabs hx hb hml hown hlink hstat hini hcode hframes hlocals hc hs hdg ?_
  have h0 : inR 0 := ⟨by omega, by omega⟩
  have ez : (0 : Int32) = iI 0 := rfl
  by_cases h : 0 ≤ a
  · rw [if_pos (by rw [ez]; exact (iI_le h0 ha).mpr h)]; exact k a (Or.inl ⟨h, rfl⟩)
  · rw [if_neg (fun h2 => h ((iI_le h0 ha).mp (by rw [← ez]; exact h2)))]
    have e : (0 : Int32) - iI a = iI (-a) := by
      show iI 0 - iI a = _
      rw [iI_sub]; congr 1; omega
    rw [e]
    exact k (-a) (Or.inr ⟨by omega, rfl⟩)
theorem x_tabOut (hx : p.tables.exec = Jvm.exec) (hb : c.code = cc) {dflt lo hi : Int} {offs : Array Int} {len : Nat} {a : Int} {tgt : Nat} (ha : inR a) (hdg : decode cc pc = .ok (.tableswitch dflt lo hi offs, len)) (h : a < lo ∨ hi < a) (ht : (pc : Int) + dflt = (tgt : Int))
    (k : W p l e R s m args below meth c H locs cells slots Q (F0 m tgt ls rest)) : W p l e R s m args below meth c H locs cells slots Q (F0 m pc ls (.int (iI a) :: rest)) := lv_tableOut hx hb hdg (by rw [iI_toInt ha]; exact h) ht k
theorem x_tabIn (hx : p.tables.exec = Jvm.exec) (hb : c.code = cc) {dflt lo hi : Int} {offs : Array Int} {len : Nat} {a z : Int} {off : Int} {tgt : Nat} (haz : a = z) (hz : inR z) (hdg : decode cc pc = .ok (.tableswitch dflt lo hi offs, len)) (h1 : ¬ z < lo) (h2 : ¬ hi < z) (ho : offs[(z - lo).toNat]? = some off) (ht : (pc : Int) + off = (tgt : Int))
    (k : W p l e R s m args below meth c H locs cells slots Q (F0 m tgt ls rest)) : W p l e R s m args below meth c H locs cells slots Q (F0 m pc ls (.int (iI a) :: rest)) := lv_tableIn hx hb hdg (by rw [haz, iI_toInt hz]; exact h1) (by rw [haz, iI_toInt hz]; exact h2) (by rw [haz, iI_toInt hz]; exact ho) ht k
theorem x_look (hx : p.tables.exec = Jvm.exec) (hb : c.code = cc) {dflt : Int} {ps : Array (Int × Int)} {len : Nat} {a z : Int} {off : Int} {tgt : Nat} (haz : a = z) (hz : inR z) (hdg : decode cc pc = .ok (.lookupswitch dflt ps, len)) (hp : (ps.toList.zip (ps.toList.drop 1)).all (fun (a, next) => a.1 < next.1) = true) (ho : Op.lookupswitch.offset ps.toList dflt z = off) (ht : (pc : Int) + off = (tgt : Int))
    (k : W p l e R s m args below meth c H locs cells slots Q (F0 m tgt ls rest)) : W p l e R s m args below meth c H locs cells slots Q (F0 m pc ls (.int (iI a) :: rest)) := lv_lookup hx hb hdg hp (by rw [haz, iI_toInt hz]; exact ho) ht k
theorem x_offD {l : List (Int × Int)} {d k : Int} (h : ∀ q ∈ l, q.1 ≠ k) : Op.lookupswitch.offset l d k = d := by
  induction l with
  | nil => rfl
  | cons p r ih =>
    obtain ⟨a, o⟩ := p
    have h1 : a ≠ k := h (a, o) List.mem_cons_self
    show (if a = k then o else Op.lookupswitch.offset r d k) = d
    rw [if_neg h1]
    exact ih (fun q hq => h q (List.mem_cons_of_mem _ hq))
theorem x_lookD (hx : p.tables.exec = Jvm.exec) (hb : c.code = cc) {dflt : Int} {ps : Array (Int × Int)} {len : Nat} {a : Int} {tgt : Nat} (ha : inR a) (hdg : decode cc pc = .ok (.lookupswitch dflt ps, len)) (hp : (ps.toList.zip (ps.toList.drop 1)).all (fun (a, next) => a.1 < next.1) = true) (ho : ∀ q ∈ ps.toList, q.1 ≠ a) (ht : (pc : Int) + dflt = (tgt : Int))
    (k : W p l e R s m args below meth c H locs cells slots Q (F0 m tgt ls rest)) : W p l e R s m args below meth c H locs cells slots Q (F0 m pc ls (.int (iI a) :: rest)) := lv_lookup hx hb hdg hp (by rw [iI_toInt ha]; exact x_offD ho) ht k
end XROWS2
