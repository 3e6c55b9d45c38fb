/-! bits of an int -/
def bt (x : Int32) (i : Nat) : Bool := x.toBitVec.getLsbD i
theorem b_ext {x y : Int32} (h : ∀ i, i < 32 → bt x i = bt y i) : x = y := Int32.toBitVec_inj.mp (BitVec.eq_of_getLsbD_eq (fun i hi => h i hi))
theorem b_or (x y : Int32) (i : Nat) : bt (x ||| y) i = (bt x i || bt y i) := by unfold bt; rw [Int32.toBitVec_or, BitVec.getLsbD_or]
theorem b_and (x y : Int32) (i : Nat) : bt (x &&& y) i = (bt x i && bt y i) := by unfold bt; rw [Int32.toBitVec_and, BitVec.getLsbD_and]
theorem b_0 (i : Nat) : bt 0 i = false := BitVec.getLsbD_zero
theorem s_l : ∀ n, n < 32 → ((nI n &&& 31).toBitVec.smod 32).toNat = n := by decide +kernel
theorem b_shl (n : Nat) (hn : n < 32) (x : Int32) {i : Nat} (hi : i < 32) : bt (x <<< (nI n &&& 31)) i = (decide (n ≤ i) && bt x (i - n)) := by
  unfold bt
  rw [Int32.toBitVec_shiftLeft]
  show (x.toBitVec <<< ((nI n &&& 31).toBitVec.smod 32).toNat).getLsbD i = _
  rw [s_l n hn, BitVec.getLsbD_shiftLeft]
  rcases Nat.lt_or_ge i n with h | h
  · simp [h, Nat.not_le.mpr h]
  · simp [hi, h, Nat.not_lt.mpr h]
theorem b_sshr (n : Nat) (hn : n < 32) (x : Int32) {i : Nat} (hi : i < 32) : bt (x >>> (nI n &&& 31)) i = if n + i < 32 then bt x (n + i) else bt x 31 := by
  unfold bt
  rw [Int32.toBitVec_shiftRight]
  show (x.toBitVec.sshiftRight ((nI n &&& 31).toBitVec.smod 32).toNat).getLsbD i = _
  rw [s_l n hn, BitVec.getLsbD_sshiftRight, BitVec.msb_eq_getLsbD_last]
  simp [hi]
theorem zb_one : ∀ i, i < 32 → bt (iI 1) i = decide (i = 0) := by decide +kernel
theorem zb_and1 (Y : Int32) : (Y &&& iI 1).toInt = 1 ↔ bt Y 0 = true := by
  cases h : bt Y 0 with
  | true =>
    have e : Y &&& iI 1 = iI 1 := b_ext (fun i hi => by
      rw [b_and, zb_one i hi]
      by_cases e : i = 0
      · subst e; rw [h]; rfl
      · rw [decide_eq_false e, Bool.and_false])
    rw [e]; exact ⟨fun _ => rfl, fun _ => by decide +kernel⟩
  | false =>
    have e : Y &&& iI 1 = iI 0 := b_ext (fun i hi => by
      rw [b_and, zb_one i hi, show iI 0 = (0 : Int32) from rfl, b_0]
      by_cases e : i = 0
      · subst e; rw [h]; rfl
      · rw [decide_eq_false e, Bool.and_false])
    rw [e]
    exact ⟨fun q => absurd q (by decide +kernel), fun q => by cases q⟩
abbrev zBt (x b : Int) : Prop := iAnd (iShr x b) 1 = 1
theorem zBt_iff (x : Int) (b : Nat) (hb : b < 32) : zBt x (b : Int) ↔ bt (iI x) b = true := by
  show (iI (iShr x b) &&& iI 1).toInt = 1 ↔ _
  rw [zb_and1]
  have e : iI (iShr x b) = iI x >>> (nI b &&& 31) := by unfold iShr; rw [iI_self, ← iI_ofNat]; rfl
  rw [e, b_sshr b hb _ (by omega), Nat.add_zero, if_pos hb]
theorem zBt_0 {b : Int} (h0 : 0 ≤ b) (h1 : b < 32) : ¬ zBt 0 b := by
  obtain ⟨n, rfl⟩ := Int.eq_ofNat_of_zero_le h0
  rw [zBt_iff 0 n (by omega), show iI 0 = (0 : Int32) from rfl, b_0]
  exact fun q => by cases q
theorem zBt_or {x b j : Int} (hb : 0 ≤ b ∧ b < 32) (hj : 0 ≤ j ∧ j < 32) : zBt (iOr x (iShl 1 j)) b ↔ zBt x b ∨ b = j := by
  obtain ⟨n, rfl⟩ := Int.eq_ofNat_of_zero_le hb.1
  obtain ⟨m, rfl⟩ := Int.eq_ofNat_of_zero_le hj.1
  rw [zBt_iff _ n (by omega), zBt_iff _ n (by omega)]
  have e : iI (iOr x (iShl 1 (m : Int))) = iI x ||| (iI 1 <<< (nI m &&& 31)) := by
    unfold iOr iShl
    rw [iI_self, iI_self, ← iI_ofNat m]; rfl
  have e1 : (decide (m ≤ n) && bt (iI 1) (n - m)) = decide (n = m) := by
    by_cases h : m ≤ n
    · rw [zb_one _ (by omega), decide_eq_true h, Bool.true_and]; exact decide_eq_decide.mpr (by omega)
    · rw [decide_eq_false h, Bool.false_and]; exact (decide_eq_false (by omega)).symm
  rw [e, b_or, b_shl m (by omega) _ (by omega), e1, Bool.or_eq_true, decide_eq_true_eq]
  constructor
  · rintro (h | h)
    · exact Or.inl h
    · exact Or.inr (by omega)
  · rintro (h | h)
    · exact Or.inl h
    · exact Or.inr (by omega)
/-! a stretch of ints copied -/
def zCpy (f h : Int → Int) (sp dp n : Int) : Int → Int := fun k => if dp ≤ k ∧ k < dp + n then f (sp + (k - dp)) else h k
theorem zCpy_eq {f h : Int → Int} {sp dp n : Int} (h1 : 0 ≤ sp) (h2 : 0 ≤ dp) (h3 : 0 ≤ n) (h4 : sp < 2147483648) (h5 : dp < 2147483648) (h6 : n < 2147483648) : va_cpy (fun k : Nat => iI (f (k : Int))) (fun k : Nat => iI (h (k : Int))) (iI sp).toNatClampNeg (iI dp).toNatClampNeg (iI n).toNatClampNeg = fun k : Nat => iI (zCpy f h sp dp n (k : Int)) := by
  rw [iI_nat h1 h4, iI_nat h2 h5, iI_nat h3 h6]
  funext k
  unfold va_cpy zCpy
  by_cases q : dp ≤ (k : Int) ∧ (k : Int) < dp + n
  · rw [if_pos q, if_pos (by omega)]
    show iI (f ((sp.toNat + (k - dp.toNat) : Nat) : Int)) = _
    congr 2
    omega
  · rw [if_neg q, if_neg (by omega)]
section XROWS6
variable {p : Program} {l : Launch} {e : Env} {R : Room} {s : State} {m : MethodId} {args : Array Value} {below : List Frame} {meth : Method} {c : Code} {H : Heap} {locs : List Loc} {cells slots : Nat} {Q : State → Prop}
variable {cc : ByteArray} {pc : Nat} {ls : Array Slot} {rest : List Value} {g : xG} {σ : xS} {A : Nat → Prop} {H0 : Heap}
theorem x_acopy (hx : p.tables.exec = Jvm.exec) (hb : c.code = cc) (hml : c.maxLocals = ls.size) {own : String} {index : Nat} (hown : s.vm.findClass own = some m.cls) (hlink : (Cond.methodLink own index arraycopyName).before args s = true) (hnat : (Cond.native arraycopyName).before args s = true) (hstat : (Cond.static arraycopyName).before args s = true) (hini : (Cond.initialized "java/lang/System").before args s = true)
    (hK : xK g s) (hP : xP g σ H) (hD : xD g A σ) (hS : va_S A H0 H locs) (j i : Nat) (hj : j < xN) (hi : i < xN) {n0 n1 : Nat} {f h : Int → Int} (hm0 : σ.1 j = .inl (g.2.1 0, n0, .inl (fun k => iI (f (k : Int))))) (hm1 : σ.1 i = .inl (g.2.1 0, n1, .inl (fun k => iI (h (k : Int))))) {sp dp n : Int} (h1 : 0 ≤ sp) (h2 : 0 ≤ dp) (h3 : 0 ≤ n) (h4 : sp + n ≤ n0) (h5 : dp + n ≤ n1) (hn0 : n0 ≤ 1000) (hn1 : n1 ≤ 1000)
    (hframes : 1 ≤ R.frames) (hlocals : (rest.map fun v => v.category).sum + (nativeFrameWords "java/lang/System" "arraycopy" 5 + 11) ≤ R.locals) (hdg : decode cc pc = .ok (.invokestatic index, 3))
    (k : ∀ (M1 : xM) (H1 : Heap) (locs1 : List Loc), M1 i = .inl (g.2.1 0, n1, .inl (fun k => iI (zCpy f h sp dp n (k : Int)))) → (∀ q, q ≠ i → M1 q = σ.1 q) → xP g (M1, σ.2) H1 → xD g A (M1, σ.2) → va_S A H0 H1 locs1 → W p l e R s m args below meth c H1 locs1 cells slots Q (F0 m (pc + 3) ls rest)) : W p l e R s m args below meth c H locs cells slots Q (F0 m pc ls (.int (iI n) :: .int (iI dp) :: .ref (g.2.2 i) :: .int (iI sp) :: .ref (g.2.2 j) :: rest)) := by
  have nb : ∀ z : Int, 0 ≤ z → z < 2147483648 → ¬ (iI z < 0) := fun z a b q => by
    have q2 : iI z < iI 0 := q
    rw [iI_lt ⟨by omega, b⟩ ⟨by omega, by omega⟩] at q2; omega
  refine va_copyi (D := g.1) hx hb hml hown hlink hnat hstat hini hK.1 hP hD hS j i 0 0 (by rw [xW_get hj, hm0]) (by rw [xW_get hi, hm1]) rfl rfl rfl (nb sp h1 (by omega)) (nb dp h2 (by omega)) (nb n h3 (by omega)) (by rw [iI_nat h1 (by omega), iI_nat h3 (by omega)]; omega) (by rw [iI_nat h2 (by omega), iI_nat h3 (by omega)]; omega) (fun _ _ => rfl) hframes hlocals hdg (fun H1 locs1 hP1 hD1 hS1 => ?_)
  rw [zCpy_eq h1 h2 h3 (by omega) (by omega) (by omega), xW_set hi] at hP1
  exact k _ H1 locs1 (xM_same (M := σ.1) (i := i)) xM_ne hP1 (xD_M hD) hS1
end XROWS6
set_option maxHeartbeats 4000000 in
set_option maxRecDepth 100000 in
theorem c_J7_fill_53178 (l : Launch) (g : xG) (σ : xS) (A : Nat → Prop) (i : Nat) (hi : i < xN) (n : Nat) (hn9 : n ≤ 1000) (f : Int → Int) (hf : MArr g σ.1 i n f) (v : Int) : Met l yJ7_fill_53178 wsJ7_fill_53178 ({ frames := 1, cells := 0, slots := 0, locals := 32 }) (va_Pc [.ref (g.2.2 (i)), .int (iI (v))] (xPreQ g A σ)) (x_Qv g A (fun σ1 => σ1.2 = σ.2 ∧ (∀ j, j ≠ i → σ1.1 j = σ.1 j) ∧ MArr g σ1.1 i n (zCopy (fun _ => v) f (n : Int)))) (0) (0) A := by
  refine Met.ofW (cc := cJ7_fill_53178) (maxL := 4) (ret := none) (by decide) rfl ?_
  intro p e s m args below meth c s₁ B hml hv
  obtain ⟨rfl, hP, hK, hD, hA⟩ := hv
  have hx := B.exec
  have hb := B.bytes
  have hr := B.returns
  have hts := atoms_spec (ws := wsJ7_fill_53178) B.pre
  have hown : s.vm.findClass RJ7 = some m.cls := findClass_of_methodNamed B.named
  have hlocks := B.notSynchronized
  have hS : va_S A s.heap s.heap [] := va_S.rf
  have hfr : ∀ j, (j ≠ i) → σ.1 j = σ.1 j := fun _ _ => rfl
  have hl := lv_entry ([.ref (g.2.2 (i)), .int (iI (v))]) (n := 4) (Nat.le_of_ble_eq_true rfl)
  rw [lg_entry_eq]
  generalize (lg_sl ([.ref (g.2.2 (i)), .int (iI (v))]) ++ List.replicate (4 - (lg_sl ([.ref (g.2.2 (i)), .int (iI (v))])).length) Slot.unset).toArray = ls at hl ⊢
  have hl : lv_has ls 4 [(0, .ref (g.2.2 (i))), (1, .int (iI (v)))] := hl
  refine x_iconst hx hb dJ7_fill_53178_0 ?_
  refine lv_istore_n (lv' := [(2, .int (iI (0))), (0, .ref (g.2.2 (i))), (1, .int (iI (v)))]) hx hb dJ7_fill_53178_1 rfl hl (by decide) rfl (fun ls hl => ?_)
  refine lv_aload_n hx hb dJ7_fill_53178_2 rfl (lv_at hl 1 rfl) ?_
  refine x_alen hx hb hK hP (i) 0 (by omega) hf rfl dJ7_fill_53178_3 ?_
  refine lv_istore_n (lv' := [(3, .int (iI (((n : Nat) : Int)))), (2, .int (iI (0))), (0, .ref (g.2.2 (i))), (1, .int (iI (v)))]) hx hb dJ7_fill_53178_4 rfl hl (by decide) rfl (fun ls hl => ?_)
  have hloop_5 : ∀ (k : Nat) (k9 : Int), ((n : Int) - k9).toNat < k → (hk0 : 0 ≤ k9) → (hk1 : k9 ≤ (n : Int)) → ∀ (M : xM) (H : Heap) (locs : List Loc), (hf : M (i) = .inl (g.2.1 0, n, .inl (fun k => iI (zCopy (fun _ => v) f k9 (k : Int))))) → (hfr : ∀ j, (j ≠ i) → M j = σ.1 j) → xP g (M, σ.2) H → xD g A (M, σ.2) → va_S A s.heap H locs → ∀ (ls : Array Slot), lv_has ls 4 [(2, .int (iI (k9))), (3, .int (iI (((n : Nat) : Int)))), (0, .ref (g.2.2 (i))), (1, .int (iI (v)))] → W p l e (headSpec wsJ7_fill_53178 ({ frames := 1, cells := 0, slots := 0, locals := 32 })).room s m ([.ref (g.2.2 (i)), .int (iI (v))] : List Value).toArray below meth c H locs 0 0 (MQ below (x_Qv g A (fun σ1 => σ1.2 = σ.2 ∧ (∀ j, j ≠ i → σ1.1 j = σ.1 j) ∧ MArr g σ1.1 i n (zCopy (fun _ => v) f (n : Int)))) ([.ref (g.2.2 (i)), .int (iI (v))] : List Value).toArray s (0) (0) A) (F0 m 5 ls []) := by
    intro k
    induction k with
    | zero =>
      intros; exact absurd (by assumption) (Nat.not_lt_zero _)
    | succ k ih =>
      intro k9 hmeas hk0 hk1 M H locs hf hfr hP hD hS ls hl
      have ih_1 := ih
      refine lv_iload_n hx hb dJ7_fill_53178_5 rfl (lv_at hl 0 rfl) ?_
      refine lv_iload_n hx hb dJ7_fill_53178_6 rfl (lv_at hl 1 rfl) ?_
      refine x_icmp_ge (tgt := 20) hx hb (by omega) (by omega) dJ7_fill_53178_7 (by decide) (fun c_7 => ?_) (fun c_7 => ?_)
      · refine x_retQv hx hb hr ?_ hP hD hS dJ7_fill_53178_20 hlocks
        refine ⟨rfl, hfr, ?_⟩
        have e : k9 = (n : Int) := by omega
        rw [e] at hf
        exact hf
      · refine lv_aload_n hx hb dJ7_fill_53178_10 rfl (lv_at hl 2 rfl) ?_
        refine lv_iload_n hx hb dJ7_fill_53178_11 rfl (lv_at hl 0 rfl) ?_
        refine lv_iload_n hx hb dJ7_fill_53178_12 rfl (lv_at hl 3 rfl) ?_
        refine x_iast (f := zCopy (fun _ => v) f k9) hx hb hK hP hD hS (i) (by omega) hf (by omega) (by omega) (by omega) dJ7_fill_53178_13 (fun M_2 H locs hnew hne hP hD hS => ?_)
        obtain ⟨f_3, hf_3⟩ : ∃ q : Int → Int, q = (upI (zCopy (fun _ => v) f k9) (k9) (v)) := ⟨_, rfl⟩
        rw [← hf_3] at hnew
        have hP : xP g (M_2, σ.2) H := hP
        have hD : xD g A (M_2, σ.2) := hD
        have hf : M_2 (i) = .inl (g.2.1 0, n, .inl (fun k => iI (f_3 (k : Int)))) := hnew
        have hfr := x_fr (F := fun j => j ≠ i) hfr hne (fun j h => by have h : j ≠ i := h; omega)
        refine x_iinc (k0 := 0) (lv' := [(2, .int (iI (k9 + 1))), (3, .int (iI (((n : Nat) : Int)))), (0, .ref (g.2.2 (i))), (1, .int (iI (v)))]) hx hb dJ7_fill_53178_14 hl rfl (by decide) rfl (fun ls hl => ?_)
        refine lv_goto (tgt := 5) hx hb dJ7_fill_53178_17 (by decide) ?_
        have hs : f_3 = zCopy (fun _ => v) f (k9 + 1) := by (rw [hf_3]; exact zCopy_step (f := fun _ => v) hk0)
        rw [hs] at hf
        exact ih_1 (k9 + 1) (by omega) (by omega) (by omega) (M_2) _ _ hf hfr hP hD hS ls (lv_sub hl [0, 1, 2, 3] rfl)
  rw [← zCopy_0 (fun _ => v) f] at hf
  exact hloop_5 ((((n : Int) - (0)).toNat) + 1) (0) (by omega) (by omega) (by omega) (σ.1) _ _ hf hfr hP hD hS ls (lv_sub hl [1, 0, 2, 3] rfl)

/-! ===== partings: pairs that suit each other ===== -/
def zPr (K : Int → Nat) (F : Int → Int) (i j a b : Int) : Prop := a ≤ zLim K F (fun _ => b) i j ∧ b ≤ zLim K F (fun _ => a) j i
theorem zLim_c (K : Int → Nat) (F P : Int → Int) (i j : Int) : zLim K F P i j = zLim K F (fun _ => P j) i j := rfl
theorem zAhead_behind {n rd i : Int} (h0 : 0 ≤ i) (h1 : i < n) (h : zBehind n rd i ≠ -1) : zAhead n rd (zBehind n rd i) = i := by
  unfold zBehind at h ⊢
  by_cases q : i < n - 1
  · rw [if_pos q]; unfold zAhead; rw [if_pos (by omega)]; omega
  · rw [if_neg q] at h ⊢
    by_cases q2 : rd = 1 ∧ 3 ≤ n
    · rw [if_pos q2]; unfold zAhead; rw [if_neg (by omega), if_pos q2]; omega
    · rw [if_neg q2] at h; exact absurd rfl h
theorem zBehind_ahead {n rd i : Int} (h0 : 0 ≤ i) (h1 : i < n) (h : zAhead n rd i ≠ -1) : zBehind n rd (zAhead n rd i) = i := by
  unfold zAhead at h ⊢
  by_cases q : 0 < i
  · rw [if_pos q]; unfold zBehind; rw [if_pos (by omega)]; omega
  · rw [if_neg q] at h ⊢
    by_cases q2 : rd = 1 ∧ 3 ≤ n
    · rw [if_pos q2]; unfold zBehind; rw [if_neg (by omega), if_pos q2]; omega
    · rw [if_neg q2] at h; exact absurd rfl h
theorem zSum_0 {f : Int → Int} : ∀ k : Nat, (∀ i : Int, 0 ≤ i → i < k → 0 ≤ f i) → (zSum f k = 0 ↔ ∀ i : Int, 0 ≤ i → i < k → f i = 0)
  | 0, _ => ⟨fun _ i a b => by omega, fun _ => rfl⟩
  | k + 1, h => by
    have ih := zSum_0 k (fun i a b => h i a (by omega))
    have hk := h k (by omega) (by omega)
    have hp : ∀ j : Nat, j ≤ k → 0 ≤ zSum f j := fun j => by
      induction j with
      | zero => exact fun _ => Int.le_refl _
      | succ j ij =>
        intro hj
        have a := ij (by omega)
        have b := h j (by omega) (by omega)
        show 0 ≤ zSum f j + f j
        omega
    have hs := hp k (Nat.le_refl _)
    show zSum f k + f k = 0 ↔ _
    constructor
    · intro q i a b
      have z : zSum f k = 0 := by omega
      by_cases e : i = k
      · subst e; omega
      · exact ih.mp z i a (by omega)
    · intro q
      have a := ih.mpr (fun i a b => q i a (by omega))
      have b := q k (by omega) (by omega)
      omega
theorem zBr_0 {K : Int → Nat} {F P : Int → Int} {n rd i : Int} : zBr K F P n rd i = 0 ↔ P i ≤ zLim K F P i (zAhead n rd i) ∧ P i ≤ zLim K F P i (zBehind n rd i) := by
  unfold zBr; split <;> split <;> omega
theorem zAll_0 {K : Int → Nat} {F P : Int → Int} {n rd : Int} (hn : 0 ≤ n) : zAll K F P n rd = 0 ↔ ∀ i, 0 ≤ i → i < n → zBr K F P n rd i = 0 := by
  unfold zAll
  rw [zSum_0 n.toNat (fun i _ _ => (zBr_rng K F P n rd i).1)]
  constructor
  · intro h i a b; exact h i a (by omega)
  · intro h i a b; exact h i a (by omega)
theorem zAll_pr {K : Int → Nat} {F P : Int → Int} {n rd : Int} (hn : 0 ≤ n) (h : zAll K F P n rd = 0) (i : Int) (h0 : 0 ≤ i) (h1 : i < n) (hb : zBehind n rd i ≠ -1) : zPr K F i (zBehind n rd i) (P i) (P (zBehind n rd i)) := by
  have z := (zAll_0 hn).mp h
  have r := zBehind_rng n rd i ⟨h0, h1⟩
  have a := (zBr_0.mp (z i h0 h1)).2
  have b := (zBr_0.mp (z (zBehind n rd i) (by omega) (by omega))).1
  rw [zAhead_behind h0 h1 hb] at b
  exact ⟨a, b⟩
theorem zAll_of {K : Int → Nat} {F P : Int → Int} {n rd : Int} (hn : 0 ≤ n) (hP : ∀ i, 0 ≤ i → i < n → P i ≤ 9999) (h : ∀ i, 0 ≤ i → i < n → zBehind n rd i ≠ -1 → zPr K F i (zBehind n rd i) (P i) (P (zBehind n rd i))) : zAll K F P n rd = 0 := by
  rw [zAll_0 hn]
  intro i h0 h1
  have hp := hP i h0 h1
  rw [zBr_0]
  constructor
  · by_cases e : zAhead n rd i = -1
    · rw [e, zLim_none]; omega
    · have r := zAhead_rng n rd i ⟨h0, h1⟩
      have z := h (zAhead n rd i) (by omega) (by omega) (by rw [zBehind_ahead h0 h1 e]; omega)
      rw [zBehind_ahead h0 h1 e] at z
      exact z.2
  · by_cases e : zBehind n rd i = -1
    · rw [e, zLim_none]; omega
    · exact (h i h0 h1 e).1
def zGd (K : Int → Nat) (F P : Int → Int) (h : Int) : Prop := ∀ i, 0 ≤ i → i + 1 < h → zPr K F i (i + 1) (P i) (P (i + 1))
theorem zAll_leaf {K : Int → Nat} {F P : Int → Int} {n rd : Int} (hn : 0 ≤ n) (hP : ∀ i, 0 ≤ i → i < n → P i ≤ 9999) (hg : zGd K F P n) : zAll K F P n rd = 0 ↔ (rd = 1 ∧ 3 ≤ n → zPr K F (n - 1) 0 (P (n - 1)) (P 0)) := by
  constructor
  · intro h hc
    have e : zBehind n rd (n - 1) = 0 := by unfold zBehind; rw [if_neg (by omega), if_pos hc]
    have z := zAll_pr hn h (n - 1) (by omega) (by omega) (by rw [e]; omega)
    rw [e] at z; exact z
  · intro h
    refine zAll_of hn hP (fun i h0 h1 hb => ?_)
    by_cases q : i < n - 1
    · have e : zBehind n rd i = i + 1 := by unfold zBehind; rw [if_pos q]
      rw [e]; exact hg i h0 (by omega)
    · have e : i = n - 1 := by omega
      subst e
      by_cases hc : rd = 1 ∧ 3 ≤ n
      · have e : zBehind n rd (n - 1) = 0 := by unfold zBehind; rw [if_neg (by omega), if_pos hc]
        rw [e]; exact h hc
      · exfalso; apply hb; unfold zBehind; rw [if_neg (by omega), if_neg hc]
theorem zNote_bad {K : Int → Nat} {F W P : Int → Int} {n rd o i : Int} (q : zAcc) (h0 : 0 ≤ i) (h1 : i + 1 < n) (hb : ¬ zPr K F i (i + 1) (P i) (P (i + 1))) : zNote K F W n rd o P q = q := by
  unfold zNote
  rw [if_pos]
  intro h
  have e : zBehind n rd i = i + 1 := by unfold zBehind; rw [if_pos (by omega)]
  have z := zAll_pr (by omega) h i h0 (by omega) (by rw [e]; omega)
  rw [e] at z
  exact hb z
theorem zFold_id {α : Type} {f : Int → α → α} {a : Int} {q : α} (h : ∀ p q, f p q = q) : ∀ k, zFold f a q k = q
  | 0 => rfl
  | k + 1 => by
    show f (a + (k : Int)) (zFold f a q k) = q
    rw [h, zFold_id h k]
theorem zParts_bad {N : (Int → Int) → zAcc → zAcc} {n : Int} : ∀ (k : Nat) (h left : Int) (P : Int → Int) (q : zAcc), 0 ≤ h → h + k = n → (∀ P', (∀ i, 0 ≤ i → i < h → P' i = P i) → ∀ q, N P' q = q) → zParts N k h left P q = q
  | 0, h, left, P, q, h9, hk, hb => by
    show (if left = 0 then N P q else q) = q
    split
    · exact hb P (fun _ _ _ => rfl) q
    · rfl
  | k + 1, h, left, P, q, h9, hk, hb => by
    show zFold (fun p q => zParts N k (h + 1) (left - p) (upI P h p) q) _ _ _ = q
    refine zFold_id (fun p q => zParts_bad (n := n) k (h + 1) _ _ _ (by omega) (by omega) (fun P' e q => hb P' (fun i h0 h1 => ?_) q)) _
    rw [e i h0 (by omega), upI_n (by omega)]
theorem zParts_bad2 {K : Int → Nat} {F W : Int → Int} {n rd o h left : Int} {P : Int → Int} (q : zAcc) (h0 : 1 ≤ h) (h1 : h < n) (hb : ¬ zPr K F (h - 1) h (P (h - 1)) (P h)) : zParts (zNote K F W n rd o) (n - (h + 1)).toNat (h + 1) left P q = q := by
  refine zParts_bad (n := n) _ _ _ _ _ (by omega) (by omega) (fun P' e q => zNote_bad (i := h - 1) q (by omega) (by omega) ?_)
  rw [show h - 1 + 1 = h by omega, e (h - 1) (by omega) (by omega), e h (by omega) (by omega)]
  exact hb
def zSuOk (K : Int → Nat) (F : Int → Int) (n rd c : Int) (Su : Int → Int → Int) : Prop := ∀ i, 0 ≤ i → i < n → zBehind n rd i ≠ -1 → ∀ a b, 1 ≤ a → 1 ≤ b → a + b ≤ c → (zBt (Su i a) b ↔ zPr K F i (zBehind n rd i) a b)
def zPth (K : Int → Nat) (F P : Int → Int) (c h lf : Int) : Prop := (∀ i, 0 ≤ i → i < h → 1 ≤ P i ∧ P i + lf ≤ c) ∧ (∀ i j, 0 ≤ i → i < h → 0 ≤ j → j < h → i ≠ j → P i + P j + lf ≤ c) ∧ zGd K F P h
theorem zPth_congr {K : Int → Nat} {F P T : Int → Int} {c h lf : Int} (z : zPth K F P c h lf) (e : ∀ i, 0 ≤ i → i < h → T i = P i) : zPth K F T c h lf :=
  ⟨fun i a b => by rw [e i a b]; exact z.1 i a b, fun i j a b c d q => by rw [e i a b, e j c d]; exact z.2.1 i j a b c d q, fun i a b => by rw [e i a (by omega), e (i + 1) (by omega) b]; exact z.2.2 i a b⟩
theorem zPth_go {K : Int → Nat} {F T : Int → Int} {c h lf p : Int} (z : zPth K F T c h lf) (h0 : 0 ≤ h) (hp : 1 ≤ p) (hp2 : p ≤ lf) (hl : lf ≤ c) (hg : h = 0 ∨ zPr K F (h - 1) h (T (h - 1)) p) : zPth K F (upI T h p) c (h + 1) (lf - p) := by
  refine ⟨fun i a b => ?_, fun i j a b c d q => ?_, fun i a b => ?_⟩
  · by_cases e : i = h
    · subst e; rw [upI_s]; omega
    · rw [upI_n e]; have := z.1 i a (by omega); omega
  · by_cases e : i = h
    · subst e
      rw [upI_s, upI_n (by omega)]; have := z.1 j c (by omega); omega
    · rw [upI_n e]
      by_cases e2 : j = h
      · subst e2; rw [upI_s]; have := z.1 i a (by omega); omega
      · rw [upI_n e2]; have := z.2.1 i j a (by omega) c (by omega) q; omega
  · by_cases e : i + 1 = h
    · rw [upI_n (show i ≠ h by omega), e, upI_s]
      rcases hg with q | q
      · omega
      · rw [show i = h - 1 by omega]; exact q
    · rw [upI_n (show i ≠ h by omega), upI_n e]; exact z.2.2 i a (by omega)
def zRl (n wy un hd mv : Int) (Rc : Int → Int) (Q : Int → zAcc) : Prop := (0 ≤ wy ∧ wy ≤ 100000000) ∧ (0 ≤ un ∧ un ≤ 9999) ∧ (0 ≤ hd ∧ hd ≤ 3600000) ∧ (0 ≤ mv ∧ mv ≤ 60000) ∧ (∀ i, 0 ≤ i → i ≤ 5 → 0 ≤ Rc i ∧ Rc i ≤ 9999) ∧ ∀ o, (Q o).1 = wy ∧ ((wy = 0 ∧ (Q o).2 = (-4, -4, -4, -4) ∧ un = 0 ∧ ∀ i, 0 ≤ i → i ≤ 5 → Rc i = 0) ∨ (wy ≠ 0 ∧ (Q o).2.1 = un ∧ (0 ≤ o ∧ o < n → (Q o).2.2.1 = Rc o) ∧ (Q o).2.2.2.1 = hd ∧ (Q o).2.2.2.2 = mv))
theorem zRl_note {K : Int → Nat} {F P W : Int → Int} {n rd wy un hd mv un2 hd2 mv2 : Int} {Rc Rc2 : Int → Int} {Q : Int → zAcc} (z : zRl n wy un hd mv Rc Q) (hz : zAll K F P n rd = 0) (hw : wy < 100000000) (hn : n ≤ 6) (hP : ∀ i, 0 ≤ i → i < n → 0 ≤ P i ∧ P i ≤ 9999) (ha : 0 ≤ zApt P n ∧ zApt P n ≤ 9999) (hh : 0 ≤ zHnd W P n.toNat ∧ zHnd W P n.toNat ≤ 3600000) (hm : 0 ≤ zAnS W P n.toNat ∧ zAnS W P n.toNat ≤ 60000)
    (e1 : un2 = max un (zApt P n)) (e2 : (wy = 0 ∧ hd2 = zHnd W P n.toNat) ∨ (wy ≠ 0 ∧ hd2 = min hd (zHnd W P n.toNat))) (e3 : (wy = 0 ∧ mv2 = zAnS W P n.toNat) ∨ (wy ≠ 0 ∧ mv2 = min mv (zAnS W P n.toNat))) (e4 : ∀ i, 0 ≤ i → i < n → Rc2 i = max (Rc i) (P i)) (e5 : ∀ i, n ≤ i → Rc2 i = Rc i) : zRl n (wy + 1) un2 hd2 mv2 Rc2 (fun o => zNote K F W n rd o P (Q o)) := by
  obtain ⟨z1, z2, z3, z4, z5, z6⟩ := z
  refine ⟨by omega, by omega, by omega, by omega, fun i a b => ?_, fun o => ?_⟩
  · have r := z5 i a b
    by_cases q : i < n
    · rw [e4 i a q]; have := hP i a q; omega
    · rw [e5 i (by omega)]; exact r
  · obtain ⟨y1, y2⟩ := z6 o
    have eN : zNote K F W n rd o P (Q o) = ((Q o).1 + 1, zGt (Q o).2.1 (zApt P n), zMo o n (Q o).2.2.1 (P o), zFw (Q o).2.2.2.1 (zHnd W P n.toNat), zFw (Q o).2.2.2.2 (zAnS W P n.toNat)) := by
      unfold zNote; rw [if_neg (by omega)]
    simp only [eN]
    refine ⟨by omega, Or.inr ⟨by omega, ?_⟩⟩
    rcases y2 with ⟨w0, y3, y4, y5⟩ | ⟨w0, y3, y4, y5, y6⟩
    · rw [y3]
      simp only
      unfold zGt zMo zFw
      refine ⟨?_, fun ho => ?_, ?_, ?_⟩
      · split <;> omega
      · have a := hP o ho.1 ho.2
        have b := y5 o ho.1 (by omega)
        have c := e4 o ho.1 ho.2
        rw [if_pos ⟨ho, by omega⟩]; omega
      · split <;> omega
      · split <;> omega
    · rw [y3, y5, y6]
      unfold zGt zMo zFw
      refine ⟨?_, fun ho => ?_, ?_, ?_⟩
      · split <;> omega
      · have a := hP o ho.1 ho.2
        have b := y4 ho
        have c := e4 o ho.1 ho.2
        rw [b]
        split <;> omega
      · split <;> omega
      · split <;> omega
theorem zPart_room {N : (Int → Int) → zAcc → zAcc} (hN : ∀ P q, q.1 ≤ (N P q).1 ∧ (N P q).1 ≤ q.1 + 1) {n h lf p wy wz : Int} {P : Int → Int} {q : zAcc} (hh : 0 ≤ h) (hn : h < n) (hlf : lf ≤ 20) (h0 : zLst (n - 1 - h) lf ≤ p) (hp : p ≤ lf - (n - 1 - h)) (hq : q.1 = wy) (hz : (zFold (fun p q => zParts N (n - (h + 1)).toNat (h + 1) (lf - p) (upI P h p) q) (zLst (n - 1 - h) lf) q (p - zLst (n - 1 - h) lf).toNat).1 = wz) (hw : wy + zB (n - h).toNat ≤ 100000000) : wz + zB (n - (h + 1)).toNat ≤ 100000000 := by
  have hL : 1 ≤ zLst (n - 1 - h) lf := by unfold zLst; split <;> omega
  have hf := zFold_ways (f := fun p q => zParts N (n - (h + 1)).toNat (h + 1) (lf - p) (upI P h p) q) (a := zLst (n - 1 - h) lf) (B := zB (n - (h + 1)).toNat) (q := q) (p - zLst (n - 1 - h) lf).toNat (fun p h1 h2 q => zParts_ways hN (n - (h + 1)).toNat (h + 1) (lf - p) (upI P h p) q (by omega))
  have hb : (((p - zLst (n - 1 - h) lf).toNat : Nat) : Int) * zB (n - (h + 1)).toNat ≤ 19 * zB (n - (h + 1)).toNat := Int.mul_le_mul_of_nonneg_right (by omega) (zB_pos _)
  have e : (n - h).toNat = (n - (h + 1)).toNat + 1 := by omega
  have e2 : zB (n - h).toNat = 20 * zB (n - (h + 1)).toNat := by rw [e]; rfl
  have h2 := hf.2
  omega
theorem zNote_localK {K K2 : Int → Nat} {F F2 W W2 : Int → Int} {n rd o : Int} (h : zSame K K2 F F2 W W2 n) : zLocal (zNote K F W n rd o) (zNote K2 F2 W2 n rd o) n := by
  intro P P2 q e
  rw [zNote_local (fun i a b => (h i a b).2.2) P P2 q e]
  have e1 : zAll K F P2 n rd = zAll K2 F2 P2 n rd := zAll_congr (fun i a b => ⟨(h i a b).1, (h i a b).2.1, rfl⟩)
  unfold zNote
  rw [e1]
