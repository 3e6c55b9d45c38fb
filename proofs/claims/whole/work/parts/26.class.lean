section XROWS4
variable {p : Program} {l : Launch} {e : Env} {R : Room} {s : State} {m : MethodId} {args : Array Value} {below : List Frame} {meth : Method} {c : Code} {H : Heap} {locs : List Loc} {cells slots : Nat} {Q : State → Prop}
variable {cc : ByteArray} {pc : Nat} {ls : Array Slot} {rest : List Value}
theorem x_ldcw (hx : p.tables.exec = Jvm.exec) (hb : c.code = cc) {own : String} {index : Nat} {v : Int32} {n : Int} (hown : s.vm.findClass own = some m.cls) (hconst : (Jvm.Cond.constant own index v).before args s = true) (hn : v = iI n) (hdg : decode cc pc = .ok (.ldc_w index, 3))
    (k : W p l e R s m args below meth c H locs cells slots Q (F0 m (pc + 3) ls (.int (iI n) :: rest))) : W p l e R s m args below meth c H locs cells slots Q (F0 m pc ls (rest)) := lv_ldcw hx hb hown hconst hdg (by rw [hn]; exact k)
end XROWS4
theorem iI_wr (a : Int) : iI (iWrap a) = iI a := by unfold iWrap; rw [iI_self]
def XObj (g : xG) (M : xM) (ph : Nat) (tk : Int) : Prop := M 0 = .inr (11, [.ref (g.2.2 1), .ref (g.2.2 4), .int (iI tk), .ref (g.2.2 7), .ref ph, .ref (g.2.2 13), .ref (g.2.2 23), .ref (g.2.2 25), .ref (g.2.2 26), .ref (g.2.2 27), .ref (g.2.2 28)])
abbrev MRef (g : xG) (M : xM) (i n : Nat) (G : Int → Option Nat) : Prop := M i = .inl (g.2.1 1, n, .inr (.inr (.inr (.inr (fun k => G (k : Int))))))
def XsOk (σ : xS) (Kf : Int → Option Nat) (So Sz : Int → Int) : Prop := (∀ k, inR (So k)) ∧ (∀ k, inR (Sz k)) ∧ (∀ i a, Kf i = some a → a ∈ σ.2.1) ∧ ∀ d, 0 ≤ d → d ≤ 7 → So d = -1 ∨ (0 ≤ So d ∧ So d ≤ 2 ∧ Kf d = none ∧ 0 ≤ Sz d ∧ Sz d ≤ 100)
def kpO (o : Option Nat) (so : Int) : Int := match o with
  | some _ => 1
  | none => if so = -1 then 0 else 2
def xKp (Kf : Int → Option Nat) (So : Int → Int) : Int → Int := fun d => kpO (Kf d) (So d)
theorem xKp_so {σ : xS} {Kf : Int → Option Nat} {So Sz : Int → Int} {d : Int} (h : XsOk σ Kf So Sz) (h0 : 0 ≤ d) (h1 : d ≤ 7) : (So d = -1 ∧ (xKp Kf So d = 0 ∨ xKp Kf So d = 1)) ∨ (So d ≠ -1 ∧ (0 ≤ So d ∧ So d ≤ 2) ∧ xKp Kf So d = 2 ∧ 0 ≤ Sz d ∧ Sz d ≤ 100) := by
  rcases h.2.2.2 d h0 h1 with q | q
  · left
    refine ⟨q, ?_⟩
    unfold xKp
    cases Kf d with
    | some a => right; rfl
    | none => left; show (if So d = -1 then (0 : Int) else 2) = 0; rw [if_pos q]
  · right
    refine ⟨by omega, ⟨q.1, q.2.1⟩, ?_, q.2.2.2⟩
    unfold xKp; rw [q.2.2.1]; show (if So d = -1 then (0 : Int) else 2) = 2; rw [if_neg (by omega)]
theorem zRowR_up {Kp So : Int → Int} {d so r : Int} (h : r = zRowR Kp So d (-1)) (h0 : r ≠ 0) : zRowR Kp So d so = r := by
  rw [h] at h0 ⊢
  unfold zRowR at h0 ⊢
  by_cases h1 : ¬ (0 ≤ d ∧ d ≤ 7)
  · rw [if_pos h1, if_pos h1]
  · rw [if_neg h1] at h0 ⊢
    rw [if_neg h1]
    by_cases h2 : Kp d = 0
    · rw [if_pos h2, if_pos h2]
    · rw [if_neg h2] at h0 ⊢
      rw [if_neg h2]
      by_cases h3 : Kp d ≠ 2 ∨ (0 ≤ (-1 : Int) ∧ So d ≠ -1)
      · rw [if_pos h3, if_pos (by omega)]
      · rw [if_neg h3] at h0; exact absurd rfl h0

set_option maxHeartbeats 4000000 in
set_option maxRecDepth 100000 in
theorem c_X11_isPurse (l : Launch) (g : xG) (σ : xS) (v : Int) (hv : inR v) : Met l yX11_isPurse wsX11_isPurse ({ frames := 1, cells := 0, slots := 0, locals := 32 }) (va_Pc [.int (iI (v))] (xPre g σ)) (x_Si (fun r => (r = 1 ∧ 0 ≤ v ∧ v ≤ 9999) ∨ (r = 0 ∧ ¬ (0 ≤ v ∧ v ≤ 9999)))) (0) (0) (fun _ => False) := by
  refine Met.ofW (cc := cX11_isPurse) (maxL := 1) (ret := (some .boolean)) (by decide) rfl ?_
  intro p e s m args below meth c s₁ B hml hv
  obtain ⟨rfl, hP, hK⟩ := hv
  have hx := B.exec
  have hb := B.bytes
  have hr := B.returns
  have hts := atoms_spec (ws := wsX11_isPurse) B.pre
  have hown : s.vm.findClass RX11 = some m.cls := findClass_of_methodNamed B.named
  have hlocks := B.notSynchronized
  have hl := lv_entry ([.int (iI (v))]) (n := 1) (Nat.le_of_ble_eq_true rfl)
  rw [lg_entry_eq]
  generalize (lg_sl ([.int (iI (v))]) ++ List.replicate (1 - (lg_sl ([.int (iI (v))])).length) Slot.unset).toArray = ls at hl ⊢
  have hl : lv_has ls 1 [(0, .int (iI (v)))] := hl
  refine lv_iload_n hx hb dX11_isPurse_0 rfl (lv_at hl 0 rfl) ?_
  refine x_if_lt (tgt := 15) hx hb (by omega) dX11_isPurse_1 (by decide) (fun c_1 => ?_) (fun c_1 => ?_)
  · refine x_iconst hx hb dX11_isPurse_15 ?_
    refine x_retPz hx hb hr (by omega) ?_ dX11_isPurse_16 hlocks
    omega
  · refine lv_iload_n hx hb dX11_isPurse_4 rfl (lv_at hl 0 rfl) ?_
    refine x_sipush (n := 9999) hx hb (by decide +kernel) dX11_isPurse_5 ?_
    refine x_icmp_gt (tgt := 15) hx hb (by omega) (by omega) dX11_isPurse_8 (by decide) (fun c_8 => ?_) (fun c_8 => ?_)
    · refine x_iconst hx hb dX11_isPurse_15 ?_
      refine x_retPz hx hb hr (by omega) ?_ dX11_isPurse_16 hlocks
      omega
    · refine x_iconst hx hb dX11_isPurse_11 ?_
      refine lv_goto (tgt := 16) hx hb dX11_isPurse_12 (by decide) ?_
      refine x_retPz hx hb hr (by omega) ?_ dX11_isPurse_16 hlocks
      omega

set_option maxHeartbeats 4000000 in
set_option maxRecDepth 100000 in
theorem c_X11_isHouse (l : Launch) (g : xG) (σ : xS) (v : Int) (hv : inR v) (w : Int) (hw : inR w) : Met l yX11_isHouse wsX11_isHouse ({ frames := 1, cells := 0, slots := 0, locals := 32 }) (va_Pc [.int (iI (v)), .int (iI (w))] (xPre g σ)) (x_Si (fun r => (r = 1 ∧ (0 ≤ v ∧ v < 8) ∧ 0 ≤ w ∧ w ≤ 9) ∨ (r = 0 ∧ ¬ ((0 ≤ v ∧ v < 8) ∧ 0 ≤ w ∧ w ≤ 9)))) (0) (0) (fun _ => False) := by
  refine Met.ofW (cc := cX11_isHouse) (maxL := 2) (ret := (some .boolean)) (by decide) rfl ?_
  intro p e s m args below meth c s₁ B hml hv
  obtain ⟨rfl, hP, hK⟩ := hv
  have hx := B.exec
  have hb := B.bytes
  have hr := B.returns
  have hts := atoms_spec (ws := wsX11_isHouse) B.pre
  have hown : s.vm.findClass RX11 = some m.cls := findClass_of_methodNamed B.named
  have hlocks := B.notSynchronized
  have hl := lv_entry ([.int (iI (v)), .int (iI (w))]) (n := 2) (Nat.le_of_ble_eq_true rfl)
  rw [lg_entry_eq]
  generalize (lg_sl ([.int (iI (v)), .int (iI (w))]) ++ List.replicate (2 - (lg_sl ([.int (iI (v)), .int (iI (w))])).length) Slot.unset).toArray = ls at hl ⊢
  have hl : lv_has ls 2 [(0, .int (iI (v))), (1, .int (iI (w)))] := hl
  refine lv_iload_n hx hb dX11_isHouse_0 rfl (lv_at hl 0 rfl) ?_
  refine x_if_lt (tgt := 24) hx hb (by omega) dX11_isHouse_1 (by decide) (fun c_1 => ?_) (fun c_1 => ?_)
  · refine x_iconst hx hb dX11_isHouse_24 ?_
    refine x_retPz hx hb hr (by omega) ?_ dX11_isHouse_25 hlocks
    omega
  · refine lv_iload_n hx hb dX11_isHouse_4 rfl (lv_at hl 0 rfl) ?_
    refine x_bipush (n := 8) hx hb (by decide +kernel) dX11_isHouse_5 ?_
    refine x_icmp_ge (tgt := 24) hx hb (by omega) (by omega) dX11_isHouse_7 (by decide) (fun c_7 => ?_) (fun c_7 => ?_)
    · refine x_iconst hx hb dX11_isHouse_24 ?_
      refine x_retPz hx hb hr (by omega) ?_ dX11_isHouse_25 hlocks
      omega
    · refine lv_iload_n hx hb dX11_isHouse_10 rfl (lv_at hl 1 rfl) ?_
      refine x_if_lt (tgt := 24) hx hb (by omega) dX11_isHouse_11 (by decide) (fun c_11 => ?_) (fun c_11 => ?_)
      · refine x_iconst hx hb dX11_isHouse_24 ?_
        refine x_retPz hx hb hr (by omega) ?_ dX11_isHouse_25 hlocks
        omega
      · refine lv_iload_n hx hb dX11_isHouse_14 rfl (lv_at hl 1 rfl) ?_
        refine x_bipush (n := 9) hx hb (by decide +kernel) dX11_isHouse_15 ?_
        refine x_icmp_gt (tgt := 24) hx hb (by omega) (by omega) dX11_isHouse_17 (by decide) (fun c_17 => ?_) (fun c_17 => ?_)
        · refine x_iconst hx hb dX11_isHouse_24 ?_
          refine x_retPz hx hb hr (by omega) ?_ dX11_isHouse_25 hlocks
          omega
        · refine x_iconst hx hb dX11_isHouse_20 ?_
          refine lv_goto (tgt := 25) hx hb dX11_isHouse_21 (by decide) ?_
          refine x_retPz hx hb hr (by omega) ?_ dX11_isHouse_25 hlocks
          omega

set_option maxHeartbeats 4000000 in
set_option maxRecDepth 100000 in
theorem c_X11_isShelf (l : Launch) (g : xG) (σ : xS) (d : Int) (hd : inR d) : Met l yX11_isShelf wsX11_isShelf ({ frames := 1, cells := 0, slots := 0, locals := 32 }) (va_Pc [.int (iI (d))] (xPre g σ)) (x_Si (fun r => (r = 1 ∧ 0 ≤ d ∧ d ≤ 7) ∨ (r = 0 ∧ ¬ (0 ≤ d ∧ d ≤ 7)))) (0) (0) (fun _ => False) := by
  refine Met.ofW (cc := cX11_isShelf) (maxL := 1) (ret := (some .boolean)) (by decide) rfl ?_
  intro p e s m args below meth c s₁ B hml hv
  obtain ⟨rfl, hP, hK⟩ := hv
  have hx := B.exec
  have hb := B.bytes
  have hr := B.returns
  have hts := atoms_spec (ws := wsX11_isShelf) B.pre
  have hown : s.vm.findClass RX11 = some m.cls := findClass_of_methodNamed B.named
  have hlocks := B.notSynchronized
  have hl := lv_entry ([.int (iI (d))]) (n := 1) (Nat.le_of_ble_eq_true rfl)
  rw [lg_entry_eq]
  generalize (lg_sl ([.int (iI (d))]) ++ List.replicate (1 - (lg_sl ([.int (iI (d))])).length) Slot.unset).toArray = ls at hl ⊢
  have hl : lv_has ls 1 [(0, .int (iI (d)))] := hl
  refine lv_iload_n hx hb dX11_isShelf_0 rfl (lv_at hl 0 rfl) ?_
  refine x_if_lt (tgt := 14) hx hb (by omega) dX11_isShelf_1 (by decide) (fun c_1 => ?_) (fun c_1 => ?_)
  · refine x_iconst hx hb dX11_isShelf_14 ?_
    refine x_retPz hx hb hr (by omega) ?_ dX11_isShelf_15 hlocks
    omega
  · refine lv_iload_n hx hb dX11_isShelf_4 rfl (lv_at hl 0 rfl) ?_
    refine x_bipush (n := 8) hx hb (by decide +kernel) dX11_isShelf_5 ?_
    refine x_icmp_ge (tgt := 14) hx hb (by omega) (by omega) dX11_isShelf_7 (by decide) (fun c_7 => ?_) (fun c_7 => ?_)
    · refine x_iconst hx hb dX11_isShelf_14 ?_
      refine x_retPz hx hb hr (by omega) ?_ dX11_isShelf_15 hlocks
      omega
    · refine x_iconst hx hb dX11_isShelf_10 ?_
      refine lv_goto (tgt := 15) hx hb dX11_isShelf_11 (by decide) ?_
      refine x_retPz hx hb hr (by omega) ?_ dX11_isShelf_15 hlocks
      omega

set_option maxHeartbeats 4000000 in
set_option maxRecDepth 100000 in
theorem c_X11_lowestBits (l : Launch) (g : xG) (σ : xS) (so : Int) (hso : inR so) (v : Int) (hv : inR v) : Met l yX11_lowestBits wsX11_lowestBits ({ frames := 1, cells := 0, slots := 0, locals := 32 }) (va_Pc [.int (iI (so)), .int (iI (v))] (xPre g σ)) (x_Si (fun r => r = zLow so v)) (0) (0) (fun _ => False) := by
  refine Met.ofW (cc := cX11_lowestBits) (maxL := 2) (ret := (some .int)) (by decide) rfl ?_
  intro p e s m args below meth c s₁ B hml hv
  obtain ⟨rfl, hP, hK⟩ := hv
  have hx := B.exec
  have hb := B.bytes
  have hr := B.returns
  have hts := atoms_spec (ws := wsX11_lowestBits) B.pre
  have hown : s.vm.findClass RX11 = some m.cls := findClass_of_methodNamed B.named
  have hlocks := B.notSynchronized
  have hl := lv_entry ([.int (iI (so)), .int (iI (v))]) (n := 2) (Nat.le_of_ble_eq_true rfl)
  rw [lg_entry_eq]
  generalize (lg_sl ([.int (iI (so)), .int (iI (v))]) ++ List.replicate (2 - (lg_sl ([.int (iI (so)), .int (iI (v))])).length) Slot.unset).toArray = ls at hl ⊢
  have hl : lv_has ls 2 [(0, .int (iI (so))), (1, .int (iI (v)))] := hl
  refine lv_iload_n hx hb dX11_lowestBits_0 rfl (lv_at hl 0 rfl) ?_
  have c_1 : so = 0 ∨ so = 1 ∨ (so ≠ 0 ∧ so ≠ 1) := by omega
  rcases c_1 with c_1 | c_1 | c_1
  · refine x_look (z := 0) (off := (27)) (tgt := 28) hx hb c_1 (by decide) dX11_lowestBits_1 (by decide) (by decide +kernel) (by decide) ?_
    refine lv_iload_n hx hb dX11_lowestBits_28 rfl (lv_at hl 1 rfl) ?_
    refine x_i2b hx hb dX11_lowestBits_29 ?_
    have hb_1 := iByte_rng (v)
    refine x_retP hx hb hr (by omega) ?_ dX11_lowestBits_30 hlocks
    unfold zLow
    repeat first | rw [if_pos (by omega)] | rw [if_neg (by omega)]
  · refine x_look (z := 1) (off := (30)) (tgt := 31) hx hb c_1 (by decide) dX11_lowestBits_1 (by decide) (by decide +kernel) (by decide) ?_
    refine lv_iload_n hx hb dX11_lowestBits_31 rfl (lv_at hl 1 rfl) ?_
    refine x_i2s hx hb dX11_lowestBits_32 ?_
    have hb_2 := iShort_rng (v)
    refine x_retP hx hb hr (by omega) ?_ dX11_lowestBits_33 hlocks
    unfold zLow
    repeat first | rw [if_pos (by omega)] | rw [if_neg (by omega)]
  · refine x_lookD (tgt := 34) hx hb (by omega) dX11_lowestBits_1 (by decide) (fun q hq => by simp at hq; rcases hq with rfl | rfl <;> (simp only; omega)) (by decide) ?_
    refine lv_iload_n hx hb dX11_lowestBits_34 rfl (lv_at hl 1 rfl) ?_
    refine x_retP hx hb hr (by omega) ?_ dX11_lowestBits_35 hlocks
    unfold zLow
    repeat first | rw [if_pos (by omega)] | rw [if_neg (by omega)]

set_option maxHeartbeats 4000000 in
set_option maxRecDepth 100000 in
theorem c_X11_leastOf (l : Launch) (g : xG) (σ : xS) (so : Int) (hso : inR so) : Met l yX11_leastOf wsX11_leastOf ({ frames := 1, cells := 0, slots := 0, locals := 32 }) (va_Pc [.int (iI (so))] (xPre g σ)) (x_Si (fun r => r = zLeast so)) (0) (0) (fun _ => False) := by
  refine Met.ofW (cc := cX11_leastOf) (maxL := 1) (ret := (some .int)) (by decide) rfl ?_
  intro p e s m args below meth c s₁ B hml hv
  obtain ⟨rfl, hP, hK⟩ := hv
  have hx := B.exec
  have hb := B.bytes
  have hr := B.returns
  have hts := atoms_spec (ws := wsX11_leastOf) B.pre
  have hown : s.vm.findClass RX11 = some m.cls := findClass_of_methodNamed B.named
  have hlocks := B.notSynchronized
  have hl := lv_entry ([.int (iI (so))]) (n := 1) (Nat.le_of_ble_eq_true rfl)
  rw [lg_entry_eq]
  generalize (lg_sl ([.int (iI (so))]) ++ List.replicate (1 - (lg_sl ([.int (iI (so))])).length) Slot.unset).toArray = ls at hl ⊢
  have hl : lv_has ls 1 [(0, .int (iI (so)))] := hl
  have hw_0 := hts (.constant RX11 281 (-2147483648)) (by decide +kernel)
  refine lv_iload_n hx hb dX11_leastOf_0 rfl (lv_at hl 0 rfl) ?_
  have c_1 : so = 0 ∨ so = 1 ∨ (so ≠ 0 ∧ so ≠ 1) := by omega
  rcases c_1 with c_1 | c_1 | c_1
  · refine x_look (z := 0) (off := (27)) (tgt := 28) hx hb c_1 (by decide) dX11_leastOf_1 (by decide) (by decide +kernel) (by decide) ?_
    refine x_bipush (n := -128) hx hb (by decide +kernel) dX11_leastOf_28 ?_
    refine x_retP hx hb hr (by omega) ?_ dX11_leastOf_30 hlocks
    unfold zLeast
    repeat first | rw [if_pos (by omega)] | rw [if_neg (by omega)]
  · refine x_look (z := 1) (off := (30)) (tgt := 31) hx hb c_1 (by decide) dX11_leastOf_1 (by decide) (by decide +kernel) (by decide) ?_
    refine x_sipush (n := -32768) hx hb (by decide +kernel) dX11_leastOf_31 ?_
    refine x_retP hx hb hr (by omega) ?_ dX11_leastOf_34 hlocks
    unfold zLeast
    repeat first | rw [if_pos (by omega)] | rw [if_neg (by omega)]
  · refine x_lookD (tgt := 35) hx hb (by omega) dX11_leastOf_1 (by decide) (fun q hq => by simp at hq; rcases hq with rfl | rfl <;> (simp only; omega)) (by decide) ?_
    refine x_ldcw (n := -2147483648) hx hb hown hw_0 (by decide +kernel) dX11_leastOf_35 ?_
    refine x_retP hx hb hr (by omega) ?_ dX11_leastOf_38 hlocks
    unfold zLeast
    repeat first | rw [if_pos (by omega)] | rw [if_neg (by omega)]

set_option maxHeartbeats 4000000 in
set_option maxRecDepth 100000 in
theorem c_X11_nextDraw (l : Launch) (g : xG) (σ : xS) (v : Int) : Met l yX11_nextDraw wsX11_nextDraw ({ frames := 1, cells := 0, slots := 0, locals := 32 }) (va_Pc [.int (iI (v))] (xPre g σ)) (x_Si (fun r => r = iWrap (zNext v))) (0) (0) (fun _ => False) := by
  refine Met.ofW (cc := cX11_nextDraw) (maxL := 1) (ret := (some .int)) (by decide) rfl ?_
  intro p e s m args below meth c s₁ B hml hv
  obtain ⟨rfl, hP, hK⟩ := hv
  have hx := B.exec
  have hb := B.bytes
  have hr := B.returns
  have hts := atoms_spec (ws := wsX11_nextDraw) B.pre
  have hown : s.vm.findClass RX11 = some m.cls := findClass_of_methodNamed B.named
  have hlocks := B.notSynchronized
  have hl := lv_entry ([.int (iI (v))]) (n := 1) (Nat.le_of_ble_eq_true rfl)
  rw [lg_entry_eq]
  generalize (lg_sl ([.int (iI (v))]) ++ List.replicate (1 - (lg_sl ([.int (iI (v))])).length) Slot.unset).toArray = ls at hl ⊢
  have hl : lv_has ls 1 [(0, .int (iI (v)))] := hl
  have hw_0 := hts (.constant RX11 282 (1103515245)) (by decide +kernel)
  refine lv_iload_n hx hb dX11_nextDraw_0 rfl (lv_at hl 0 rfl) ?_
  refine x_ldcw (n := 1103515245) hx hb hown hw_0 (by decide +kernel) dX11_nextDraw_1 ?_
  refine x_imul hx hb dX11_nextDraw_4 ?_
  refine x_sipush (n := 12345) hx hb (by decide +kernel) dX11_nextDraw_5 ?_
  refine x_iadd hx hb dX11_nextDraw_8 ?_
  rw [← iI_wr ((v * 1103515245) + 12345)]
  have hwr := iWrap_rng ((v * 1103515245) + 12345)
  refine x_retP hx hb hr (by omega) ?_ dX11_nextDraw_9 hlocks
  rfl

set_option maxHeartbeats 4000000 in
set_option maxRecDepth 100000 in
theorem c_X11_drawnBelow (l : Launch) (g : xG) (σ : xS) (v : Int) (w : Int) (hw : inR w) : Met l yX11_drawnBelow wsX11_drawnBelow ({ frames := 1, cells := 0, slots := 0, locals := 32 }) (va_Pc [.int (iI (v)), .int (iI (w))] (xPre g σ)) (x_Si (fun r => r = if w < 1 then 0 else zDraw v w)) (0) (0) (fun _ => False) := by
  refine Met.ofW (cc := cX11_drawnBelow) (maxL := 2) (ret := (some .int)) (by decide) rfl ?_
  intro p e s m args below meth c s₁ B hml hv
  obtain ⟨rfl, hP, hK⟩ := hv
  have hx := B.exec
  have hb := B.bytes
  have hr := B.returns
  have hts := atoms_spec (ws := wsX11_drawnBelow) B.pre
  have hown : s.vm.findClass RX11 = some m.cls := findClass_of_methodNamed B.named
  have hlocks := B.notSynchronized
  have hl := lv_entry ([.int (iI (v)), .int (iI (w))]) (n := 2) (Nat.le_of_ble_eq_true rfl)
  rw [lg_entry_eq]
  generalize (lg_sl ([.int (iI (v)), .int (iI (w))]) ++ List.replicate (2 - (lg_sl ([.int (iI (v)), .int (iI (w))])).length) Slot.unset).toArray = ls at hl ⊢
  have hl : lv_has ls 2 [(0, .int (iI (v))), (1, .int (iI (w)))] := hl
  have hw_0 := hts (.constant RX11 283 (2147483647)) (by decide +kernel)
  have hw_1 := hts (.constant RX11 284 (65536)) (by decide +kernel)
  refine lv_iload_n hx hb dX11_drawnBelow_0 rfl (lv_at hl 1 rfl) ?_
  refine x_iconst hx hb dX11_drawnBelow_1 ?_
  refine x_icmp_ge (tgt := 9) hx hb (by omega) (by omega) dX11_drawnBelow_2 (by decide) (fun c_2 => ?_) (fun c_2 => ?_)
  · refine lv_iload_n hx hb dX11_drawnBelow_9 rfl (lv_at hl 0 rfl) ?_
    refine x_ldcw (n := 2147483647) hx hb hown hw_0 (by decide +kernel) dX11_drawnBelow_10 ?_
    refine x_iand hx hb dX11_drawnBelow_13 ?_
    have hb_1 := iAnd_rng (v) (2147483647)
    have hnn := zAndNN v
    refine x_ldcw (n := 65536) hx hb hown hw_1 (by decide +kernel) dX11_drawnBelow_14 ?_
    refine x_idiv hx hb (by omega) (by omega) (by omega) (by omega) dX11_drawnBelow_17 ?_
    refine lv_iload_n hx hb dX11_drawnBelow_18 rfl (lv_at hl 1 rfl) ?_
    refine x_irem hx hb (by omega) (by omega) (by omega) (by omega) dX11_drawnBelow_19 ?_
    try (have hzr := zDraw_rng v (n := w) (by omega); unfold zDraw at hzr)
    refine x_retP hx hb hr (by omega) ?_ dX11_drawnBelow_20 hlocks
    first | (rw [if_pos (by omega)]; done) | (rw [if_neg (by omega)]; rfl)
  · refine x_iconst hx hb dX11_drawnBelow_5 ?_
    refine lv_goto (tgt := 20) hx hb dX11_drawnBelow_6 (by decide) ?_
    try (have hzr := zDraw_rng v (n := w) (by omega); unfold zDraw at hzr)
    refine x_retP hx hb hr (by omega) ?_ dX11_drawnBelow_20 hlocks
    first | (rw [if_pos (by omega)]; done) | (rw [if_neg (by omega)]; rfl)

set_option maxHeartbeats 4000000 in
set_option maxRecDepth 100000 in
theorem c_X11_holdsNothing (l : Launch) (g : xG) (σ : xS) (ph : Nat) (tk : Int) (hx0 : XObj g σ.1 ph tk) (Kf : Int → Option Nat) (So Sz : Int → Int) (h25 : MRef g σ.1 25 8 Kf) (h26 : MArr g σ.1 26 8 So) (h27 : MArr g σ.1 27 8 Sz) (hxs : XsOk σ Kf So Sz) (d : Int) (hd : 0 ≤ d ∧ d ≤ 7) : Met l yX11_holdsNothing wsX11_holdsNothing ({ frames := 1, cells := 0, slots := 0, locals := 32 }) (va_Pc [.ref (g.2.2 0), .int (iI (d))] (xPre g σ)) (x_Si (fun r => (r = 1 ∧ xKp Kf So d = 0) ∨ (r = 0 ∧ xKp Kf So d ≠ 0))) (0) (0) (fun _ => False) := by
  refine Met.ofW (cc := cX11_holdsNothing) (maxL := 2) (ret := (some .boolean)) (by decide) rfl ?_
  intro p e s m args below meth c s₁ B hml hv
  obtain ⟨rfl, hP, hK⟩ := hv
  have hx := B.exec
  have hb := B.bytes
  have hr := B.returns
  have hts := atoms_spec (ws := wsX11_holdsNothing) B.pre
  have hown : s.vm.findClass RX11 = some m.cls := findClass_of_methodNamed B.named
  have hlocks := B.notSynchronized
  have hl := lv_entry ([.ref (g.2.2 0), .int (iI (d))]) (n := 2) (Nat.le_of_ble_eq_true rfl)
  rw [lg_entry_eq]
  generalize (lg_sl ([.ref (g.2.2 0), .int (iI (d))]) ++ List.replicate (2 - (lg_sl ([.ref (g.2.2 0), .int (iI (d))])).length) Slot.unset).toArray = ls at hl ⊢
  have hl : lv_has ls 2 [(0, .ref (g.2.2 0)), (1, .int (iI (d)))] := hl
  have hw_0 := hts (.fieldLink RX11 45 "TwiceAsRich" "kept" "[LTwiceAsRich$House;") (by decide +kernel)
  have hin_X11 : ∀ w ∈ wsX110, w ∈ wsX11_holdsNothing := by decide +kernel
  have hw_2 := hts (.fieldLink RX11 49 "TwiceAsRich" "sorts" "[I") (by decide +kernel)
  refine lv_aload_n hx hb dX11_holdsNothing_0 rfl (lv_at hl 0 rfl) ?_
  refine x_get (C := RX11) (T := TX11) (N := 11) hx hb hts hin_X11 hown hK hP (0) (by decide) hx0 rfl 7 (by decide) hw_0 (fun _ h9 => h9) rfl dX11_holdsNothing_1 ?_
  refine lv_iload_n hx hb dX11_holdsNothing_4 rfl (lv_at hl 1 rfl) ?_
  rcases hG_a_1 : Kf (d) with _ | a_1
  · refine x_aaldN (C := RX3) (f := Kf) 1 hx hb hK hP (25) (by decide) h25 rfl (by omega) (by omega) (by decide) hG_a_1 dX11_holdsNothing_5 ?_
    refine lv_ifnonnullN hx hb dX11_holdsNothing_6 ?_
    refine lv_aload_n hx hb dX11_holdsNothing_9 rfl (lv_at hl 0 rfl) ?_
    refine x_get (C := RX11) (T := TX11) (N := 11) hx hb hts hin_X11 hown hK hP (0) (by decide) hx0 rfl 8 (by decide) hw_2 (fun _ h9 => h9) rfl dX11_holdsNothing_10 ?_
    refine lv_iload_n hx hb dX11_holdsNothing_13 rfl (lv_at hl 1 rfl) ?_
    refine x_iald (f := So) hx hb hK hP (26) (by decide) h26 (by omega) (by omega) (by decide) dX11_holdsNothing_14 ?_
    have hb_2 := hxs.1 (d)
    refine x_iconst hx hb dX11_holdsNothing_15 ?_
    refine x_icmp_ne (tgt := 23) hx hb (by omega) (by omega) dX11_holdsNothing_16 (by decide) (fun c_16 => ?_) (fun c_16 => ?_)
    · refine x_iconst hx hb dX11_holdsNothing_23 ?_
      refine x_retPz hx hb hr (by omega) ?_ dX11_holdsNothing_24 hlocks
      first | ((have e9 : xKp Kf So d = 1 := by simp only [xKp, kpO, hG_a_1]); omega) | ((have e9 : xKp Kf So d = if So d = -1 then 0 else 2 := by simp only [xKp, kpO, hG_a_1]); split at e9 <;> omega)
    · refine x_iconst hx hb dX11_holdsNothing_19 ?_
      refine lv_goto (tgt := 24) hx hb dX11_holdsNothing_20 (by decide) ?_
      refine x_retPz hx hb hr (by omega) ?_ dX11_holdsNothing_24 hlocks
      first | ((have e9 : xKp Kf So d = 1 := by simp only [xKp, kpO, hG_a_1]); omega) | ((have e9 : xKp Kf So d = if So d = -1 then 0 else 2 := by simp only [xKp, kpO, hG_a_1]); split at e9 <;> omega)
  · have ha_a_1 := hxs.2.2.1 _ _ hG_a_1
    refine x_aaldS (C := RX3) (f := Kf) 1 hx hb hK hP (25) (by decide) h25 rfl (by omega) (by omega) (by decide) hG_a_1 dX11_holdsNothing_5 ?_
    refine lv_ifnonnull (tgt := 23) hx hb dX11_holdsNothing_6 (by decide) ?_
    refine x_iconst hx hb dX11_holdsNothing_23 ?_
    refine x_retPz hx hb hr (by omega) ?_ dX11_holdsNothing_24 hlocks
    first | ((have e9 : xKp Kf So d = 1 := by simp only [xKp, kpO, hG_a_1]); omega) | ((have e9 : xKp Kf So d = if So d = -1 then 0 else 2 := by simp only [xKp, kpO, hG_a_1]); split at e9 <;> omega)

set_option maxHeartbeats 4000000 in
set_option maxRecDepth 100000 in
theorem c_X11_isPlace (l : Launch) (g : xG) (σ : xS) (ph : Nat) (tk : Int) (hx0 : XObj g σ.1 ph tk) (Kf : Int → Option Nat) (So Sz : Int → Int) (h25 : MRef g σ.1 25 8 Kf) (h26 : MArr g σ.1 26 8 So) (h27 : MArr g σ.1 27 8 Sz) (hxs : XsOk σ Kf So Sz) (d : Int) (hd : 0 ≤ d ∧ d ≤ 7) (i : Int) (hi : inR i) : Met l yX11_isPlace wsX11_isPlace ({ frames := 1, cells := 0, slots := 0, locals := 32 }) (va_Pc [.ref (g.2.2 0), .int (iI (d)), .int (iI (i))] (xPre g σ)) (x_Si (fun r => (r = 1 ∧ 0 ≤ i ∧ i < Sz d) ∨ (r = 0 ∧ ¬ (0 ≤ i ∧ i < Sz d)))) (0) (0) (fun _ => False) := by
  refine Met.ofW (cc := cX11_isPlace) (maxL := 3) (ret := (some .boolean)) (by decide) rfl ?_
  intro p e s m args below meth c s₁ B hml hv
  obtain ⟨rfl, hP, hK⟩ := hv
  have hx := B.exec
  have hb := B.bytes
  have hr := B.returns
  have hts := atoms_spec (ws := wsX11_isPlace) B.pre
  have hown : s.vm.findClass RX11 = some m.cls := findClass_of_methodNamed B.named
  have hlocks := B.notSynchronized
  have hl := lv_entry ([.ref (g.2.2 0), .int (iI (d)), .int (iI (i))]) (n := 3) (Nat.le_of_ble_eq_true rfl)
  rw [lg_entry_eq]
  generalize (lg_sl ([.ref (g.2.2 0), .int (iI (d)), .int (iI (i))]) ++ List.replicate (3 - (lg_sl ([.ref (g.2.2 0), .int (iI (d)), .int (iI (i))])).length) Slot.unset).toArray = ls at hl ⊢
  have hl : lv_has ls 3 [(0, .ref (g.2.2 0)), (1, .int (iI (d))), (2, .int (iI (i)))] := hl
  have hw_0 := hts (.fieldLink RX11 53 "TwiceAsRich" "sizes" "[I") (by decide +kernel)
  have hin_X11 : ∀ w ∈ wsX110, w ∈ wsX11_isPlace := by decide +kernel
  refine lv_iload_n hx hb dX11_isPlace_0 rfl (lv_at hl 2 rfl) ?_
  refine x_if_lt (tgt := 18) hx hb (by omega) dX11_isPlace_1 (by decide) (fun c_1 => ?_) (fun c_1 => ?_)
  · refine x_iconst hx hb dX11_isPlace_18 ?_
    refine x_retPz hx hb hr (by omega) ?_ dX11_isPlace_19 hlocks
    omega
  · refine lv_iload_n hx hb dX11_isPlace_4 rfl (lv_at hl 2 rfl) ?_
    refine lv_aload_n hx hb dX11_isPlace_5 rfl (lv_at hl 0 rfl) ?_
    refine x_get (C := RX11) (T := TX11) (N := 11) hx hb hts hin_X11 hown hK hP (0) (by decide) hx0 rfl 9 (by decide) hw_0 (fun _ h9 => h9) rfl dX11_isPlace_6 ?_
    refine lv_iload_n hx hb dX11_isPlace_9 rfl (lv_at hl 1 rfl) ?_
    refine x_iald (f := Sz) hx hb hK hP (27) (by decide) h27 (by omega) (by omega) (by decide) dX11_isPlace_10 ?_
    have hb_1 := hxs.2.1 (d)
    refine x_icmp_ge (tgt := 18) hx hb (by omega) (by omega) dX11_isPlace_11 (by decide) (fun c_11 => ?_) (fun c_11 => ?_)
    · refine x_iconst hx hb dX11_isPlace_18 ?_
      refine x_retPz hx hb hr (by omega) ?_ dX11_isPlace_19 hlocks
      omega
    · refine x_iconst hx hb dX11_isPlace_14 ?_
      refine lv_goto (tgt := 19) hx hb dX11_isPlace_15 (by decide) ?_
      refine x_retPz hx hb hr (by omega) ?_ dX11_isPlace_19 hlocks
      omega

set_option maxHeartbeats 4000000 in
set_option maxRecDepth 100000 in
theorem c_X11_isStretch (l : Launch) (g : xG) (σ : xS) (ph : Nat) (tk : Int) (hx0 : XObj g σ.1 ph tk) (Kf : Int → Option Nat) (So Sz : Int → Int) (h25 : MRef g σ.1 25 8 Kf) (h26 : MArr g σ.1 26 8 So) (h27 : MArr g σ.1 27 8 Sz) (hxs : XsOk σ Kf So Sz) (d : Int) (hd : 0 ≤ d ∧ d ≤ 7) (i : Int) (hi : inR i) (w : Int) (hw : 0 ≤ w ∧ inR w) (hz9 : 0 ≤ Sz d) : Met l yX11_isStretch wsX11_isStretch ({ frames := 1, cells := 0, slots := 0, locals := 32 }) (va_Pc [.ref (g.2.2 0), .int (iI (d)), .int (iI (i)), .int (iI (w))] (xPre g σ)) (x_Si (fun r => (r = 1 ∧ 0 ≤ i ∧ i ≤ Sz d - w) ∨ (r = 0 ∧ ¬ (0 ≤ i ∧ i ≤ Sz d - w)))) (0) (0) (fun _ => False) := by
  refine Met.ofW (cc := cX11_isStretch) (maxL := 4) (ret := (some .boolean)) (by decide) rfl ?_
  intro p e s m args below meth c s₁ B hml hv
  obtain ⟨rfl, hP, hK⟩ := hv
  have hx := B.exec
  have hb := B.bytes
  have hr := B.returns
  have hts := atoms_spec (ws := wsX11_isStretch) B.pre
  have hown : s.vm.findClass RX11 = some m.cls := findClass_of_methodNamed B.named
  have hlocks := B.notSynchronized
  have hl := lv_entry ([.ref (g.2.2 0), .int (iI (d)), .int (iI (i)), .int (iI (w))]) (n := 4) (Nat.le_of_ble_eq_true rfl)
  rw [lg_entry_eq]
  generalize (lg_sl ([.ref (g.2.2 0), .int (iI (d)), .int (iI (i)), .int (iI (w))]) ++ List.replicate (4 - (lg_sl ([.ref (g.2.2 0), .int (iI (d)), .int (iI (i)), .int (iI (w))])).length) Slot.unset).toArray = ls at hl ⊢
  have hl : lv_has ls 4 [(0, .ref (g.2.2 0)), (1, .int (iI (d))), (2, .int (iI (i))), (3, .int (iI (w)))] := hl
  have hw_0 := hts (.fieldLink RX11 53 "TwiceAsRich" "sizes" "[I") (by decide +kernel)
  have hin_X11 : ∀ w ∈ wsX110, w ∈ wsX11_isStretch := by decide +kernel
  refine lv_iload_n hx hb dX11_isStretch_0 rfl (lv_at hl 2 rfl) ?_
  refine x_if_lt (tgt := 20) hx hb (by omega) dX11_isStretch_1 (by decide) (fun c_1 => ?_) (fun c_1 => ?_)
  · refine x_iconst hx hb dX11_isStretch_20 ?_
    refine x_retPz hx hb hr (by omega) ?_ dX11_isStretch_21 hlocks
    omega
  · refine lv_iload_n hx hb dX11_isStretch_4 rfl (lv_at hl 2 rfl) ?_
    refine lv_aload_n hx hb dX11_isStretch_5 rfl (lv_at hl 0 rfl) ?_
    refine x_get (C := RX11) (T := TX11) (N := 11) hx hb hts hin_X11 hown hK hP (0) (by decide) hx0 rfl 9 (by decide) hw_0 (fun _ h9 => h9) rfl dX11_isStretch_6 ?_
    refine lv_iload_n hx hb dX11_isStretch_9 rfl (lv_at hl 1 rfl) ?_
    refine x_iald (f := Sz) hx hb hK hP (27) (by decide) h27 (by omega) (by omega) (by decide) dX11_isStretch_10 ?_
    have hb_1 := hxs.2.1 (d)
    refine lv_iload_n hx hb dX11_isStretch_11 rfl (lv_at hl 3 rfl) ?_
    refine x_isub hx hb dX11_isStretch_12 ?_
    refine x_icmp_gt (tgt := 20) hx hb (by omega) (by omega) dX11_isStretch_13 (by decide) (fun c_13 => ?_) (fun c_13 => ?_)
    · refine x_iconst hx hb dX11_isStretch_20 ?_
      refine x_retPz hx hb hr (by omega) ?_ dX11_isStretch_21 hlocks
      omega
    · refine x_iconst hx hb dX11_isStretch_16 ?_
      refine lv_goto (tgt := 21) hx hb dX11_isStretch_17 (by decide) ?_
      refine x_retPz hx hb hr (by omega) ?_ dX11_isStretch_21 hlocks
      omega

set_option maxHeartbeats 4000000 in
set_option maxRecDepth 100000 in
theorem c_X11_rowRefusal (l : Launch) (g : xG) (σ : xS) (ph : Nat) (tk : Int) (hx0 : XObj g σ.1 ph tk) (Kf : Int → Option Nat) (So Sz : Int → Int) (h25 : MRef g σ.1 25 8 Kf) (h26 : MArr g σ.1 26 8 So) (h27 : MArr g σ.1 27 8 Sz) (hxs : XsOk σ Kf So Sz) (d : Int) (hd : inR d) : Met l yX11_rowRefusal wsX11_rowRefusal ({ frames := 2, cells := 0, slots := 0, locals := 64 }) (va_Pc [.ref (g.2.2 0), .int (iI (d))] (xPre g σ)) (x_Si (fun r => r = zRowR (xKp Kf So) So d (-1))) (0) (0) (fun _ => False) := by
  refine Met.ofW (cc := cX11_rowRefusal) (maxL := 2) (ret := (some .int)) (by decide) rfl ?_
  intro p e s m args below meth c s₁ B hml hv
  obtain ⟨rfl, hP, hK⟩ := hv
  have hx := B.exec
  have hb := B.bytes
  have hr := B.returns
  have hts := atoms_spec (ws := wsX11_rowRefusal) B.pre
  have hown : s.vm.findClass RX11 = some m.cls := findClass_of_methodNamed B.named
  have hlocks := B.notSynchronized
  have hl := lv_entry ([.ref (g.2.2 0), .int (iI (d))]) (n := 2) (Nat.le_of_ble_eq_true rfl)
  rw [lg_entry_eq]
  generalize (lg_sl ([.ref (g.2.2 0), .int (iI (d))]) ++ List.replicate (2 - (lg_sl ([.ref (g.2.2 0), .int (iI (d))])).length) Slot.unset).toArray = ls at hl ⊢
  have hl : lv_has ls 2 [(0, .ref (g.2.2 0)), (1, .int (iI (d)))] := hl
  have hw_0 := hts (.fieldLink RX11 49 "TwiceAsRich" "sorts" "[I") (by decide +kernel)
  have hin_X11 : ∀ w ∈ wsX110, w ∈ wsX11_rowRefusal := by decide +kernel
  refine lv_iload_n hx hb dX11_rowRefusal_0 rfl (lv_at hl 1 rfl) ?_
  refine x_ci (va_runS (As := [.int (iI (d))]) (rest := []) ⟨hx, hb, hml, hown, hts⟩ (c_X11_isShelf l g σ  (d) (by omega)) (va_cwS 1 hts gX11_rowRefusal_X11_isShelf rfl rfl rfl (by decide +kernel) ⟨Nat.le_of_ble_eq_true rfl, Nat.le_of_ble_eq_true rfl⟩) (x_preS hK hP) rfl rfl hl.1 rfl (lv_room (Nat.le_of_ble_eq_true rfl)) dX11_rowRefusal_1 ⟨Nat.le_of_ble_eq_true rfl, Nat.le_of_ble_eq_true rfl⟩) (fun r_1 hr_1 qr_1 => ?_)
  replace qr_1 : (r_1 = 1 ∧ 0 ≤ (d) ∧ (d) ≤ 7) ∨ (r_1 = 0 ∧ ¬ (0 ≤ (d) ∧ (d) ≤ 7)) := qr_1
  refine x_if_ne (tgt := 9) hx hb (by omega) dX11_rowRefusal_4 (by decide) (fun c_4 => ?_) (fun c_4 => ?_)
  · have hk9 := xKp_so hxs (d := d) (by omega) (by omega)
    refine lv_aload_n hx hb dX11_rowRefusal_9 rfl (lv_at hl 0 rfl) ?_
    refine lv_iload_n hx hb dX11_rowRefusal_10 rfl (lv_at hl 1 rfl) ?_
    refine x_ci (va_runV (As := [.int (iI (d))]) (rest := []) ⟨hx, hb, hml, hown, hts⟩ (c_X11_holdsNothing l g σ ph tk hx0 Kf So Sz h25 h26 h27 hxs (d) (by omega)) (cwV 1 hts gX11_rowRefusal_X11_holdsNothing rfl rfl rfl (by decide +kernel) ⟨Nat.le_of_ble_eq_true rfl, Nat.le_of_ble_eq_true rfl⟩) (x_preV hK hP (x_recv hK hP (i := 0) (by decide) hx0 rfl)) rfl rfl hl.1 rfl (lv_room (Nat.le_of_ble_eq_true rfl)) dX11_rowRefusal_11 ⟨Nat.le_of_ble_eq_true rfl, Nat.le_of_ble_eq_true rfl⟩) (fun r_11 hr_11 qr_11 => ?_)
    replace qr_11 : (r_11 = 1 ∧ xKp Kf So (d) = 0) ∨ (r_11 = 0 ∧ xKp Kf So (d) ≠ 0) := qr_11
    refine x_if_eq (tgt := 20) hx hb (by omega) dX11_rowRefusal_14 (by decide) (fun c_14 => ?_) (fun c_14 => ?_)
    · refine lv_aload_n hx hb dX11_rowRefusal_20 rfl (lv_at hl 0 rfl) ?_
      refine x_get (C := RX11) (T := TX11) (N := 11) hx hb hts hin_X11 hown hK hP (0) (by decide) hx0 rfl 8 (by decide) hw_0 (fun _ h9 => h9) rfl dX11_rowRefusal_21 ?_
      refine lv_iload_n hx hb dX11_rowRefusal_24 rfl (lv_at hl 1 rfl) ?_
      refine x_iald (f := So) hx hb hK hP (26) (by decide) h26 (by omega) (by omega) (by decide) dX11_rowRefusal_25 ?_
      have hb_1 := hxs.1 (d)
      refine x_iconst hx hb dX11_rowRefusal_26 ?_
      refine x_icmp_ne (tgt := 35) hx hb (by omega) (by omega) dX11_rowRefusal_27 (by decide) (fun c_27 => ?_) (fun c_27 => ?_)
      · refine x_iconst hx hb dX11_rowRefusal_35 ?_
        refine x_retP hx hb hr (by omega) ?_ dX11_rowRefusal_36 hlocks
        unfold zRowR
        repeat first | rw [if_pos (by omega)] | rw [if_neg (by omega)]
      · refine x_bipush (n := -12) hx hb (by decide +kernel) dX11_rowRefusal_30 ?_
        refine lv_goto (tgt := 36) hx hb dX11_rowRefusal_32 (by decide) ?_
        refine x_retP hx hb hr (by omega) ?_ dX11_rowRefusal_36 hlocks
        unfold zRowR
        repeat first | rw [if_pos (by omega)] | rw [if_neg (by omega)]
    · refine x_bipush (n := -11) hx hb (by decide +kernel) dX11_rowRefusal_17 ?_
      refine x_retP hx hb hr (by omega) ?_ dX11_rowRefusal_19 hlocks
      unfold zRowR
      repeat first | rw [if_pos (by omega)] | rw [if_neg (by omega)]
  · refine x_iconst hx hb dX11_rowRefusal_7 ?_
    refine x_retP hx hb hr (by omega) ?_ dX11_rowRefusal_8 hlocks
    unfold zRowR
    repeat first | rw [if_pos (by omega)] | rw [if_neg (by omega)]

set_option maxHeartbeats 4000000 in
set_option maxRecDepth 100000 in
theorem c_X11_sortRefusal (l : Launch) (g : xG) (σ : xS) (ph : Nat) (tk : Int) (hx0 : XObj g σ.1 ph tk) (Kf : Int → Option Nat) (So Sz : Int → Int) (h25 : MRef g σ.1 25 8 Kf) (h26 : MArr g σ.1 26 8 So) (h27 : MArr g σ.1 27 8 Sz) (hxs : XsOk σ Kf So Sz) (d : Int) (hd : inR d) (so : Int) (hso : 0 ≤ so ∧ so ≤ 2) : Met l yX11_sortRefusal wsX11_sortRefusal ({ frames := 3, cells := 0, slots := 0, locals := 96 }) (va_Pc [.ref (g.2.2 0), .int (iI (d)), .int (iI (so))] (xPre g σ)) (x_Si (fun r => r = zRowR (xKp Kf So) So d so)) (0) (0) (fun _ => False) := by
  refine Met.ofW (cc := cX11_sortRefusal) (maxL := 4) (ret := (some .int)) (by decide) rfl ?_
  intro p e s m args below meth c s₁ B hml hv
  obtain ⟨rfl, hP, hK⟩ := hv
  have hx := B.exec
  have hb := B.bytes
  have hr := B.returns
  have hts := atoms_spec (ws := wsX11_sortRefusal) B.pre
  have hown : s.vm.findClass RX11 = some m.cls := findClass_of_methodNamed B.named
  have hlocks := B.notSynchronized
  have hl := lv_entry ([.ref (g.2.2 0), .int (iI (d)), .int (iI (so))]) (n := 4) (Nat.le_of_ble_eq_true rfl)
  rw [lg_entry_eq]
  generalize (lg_sl ([.ref (g.2.2 0), .int (iI (d)), .int (iI (so))]) ++ List.replicate (4 - (lg_sl ([.ref (g.2.2 0), .int (iI (d)), .int (iI (so))])).length) Slot.unset).toArray = ls at hl ⊢
  have hl : lv_has ls 4 [(0, .ref (g.2.2 0)), (1, .int (iI (d))), (2, .int (iI (so)))] := hl
  have hw_0 := hts (.fieldLink RX11 49 "TwiceAsRich" "sorts" "[I") (by decide +kernel)
  have hin_X11 : ∀ w ∈ wsX110, w ∈ wsX11_sortRefusal := by decide +kernel
  refine lv_aload_n hx hb dX11_sortRefusal_0 rfl (lv_at hl 0 rfl) ?_
  refine lv_iload_n hx hb dX11_sortRefusal_1 rfl (lv_at hl 1 rfl) ?_
  refine x_ci (va_runV (As := [.int (iI (d))]) (rest := []) ⟨hx, hb, hml, hown, hts⟩ (c_X11_rowRefusal l g σ ph tk hx0 Kf So Sz h25 h26 h27 hxs (d) (by omega)) (cwV 1 hts gX11_sortRefusal_X11_rowRefusal rfl rfl rfl (by decide +kernel) ⟨Nat.le_of_ble_eq_true rfl, Nat.le_of_ble_eq_true rfl⟩) (x_preV hK hP (x_recv hK hP (i := 0) (by decide) hx0 rfl)) rfl rfl hl.1 rfl (lv_room (Nat.le_of_ble_eq_true rfl)) dX11_sortRefusal_2 ⟨Nat.le_of_ble_eq_true rfl, Nat.le_of_ble_eq_true rfl⟩) (fun r_2 hr_2 qr_2 => ?_)
  replace qr_2 : r_2 = zRowR (xKp Kf So) So (d) (-1) := qr_2
  refine lv_istore_n (lv' := [(3, .int (iI (r_2))), (0, .ref (g.2.2 0)), (1, .int (iI (d))), (2, .int (iI (so)))]) hx hb dX11_sortRefusal_5 rfl hl (by decide) rfl (fun ls hl => ?_)
  refine lv_iload_n hx hb dX11_sortRefusal_6 rfl (lv_at hl 0 rfl) ?_
  refine x_if_eq (tgt := 12) hx hb (by omega) dX11_sortRefusal_7 (by decide) (fun c_7 => ?_) (fun c_7 => ?_)
  · have hk8 := zRowR_0 qr_2 (by omega)
    have hk9 := xKp_so hxs (d := d) (by omega) (by omega)
    refine lv_aload_n hx hb dX11_sortRefusal_12 rfl (lv_at hl 1 rfl) ?_
    refine x_get (C := RX11) (T := TX11) (N := 11) hx hb hts hin_X11 hown hK hP (0) (by decide) hx0 rfl 8 (by decide) hw_0 (fun _ h9 => h9) rfl dX11_sortRefusal_13 ?_
    refine lv_iload_n hx hb dX11_sortRefusal_16 rfl (lv_at hl 2 rfl) ?_
    refine x_iald (f := So) hx hb hK hP (26) (by decide) h26 (by omega) (by omega) (by decide) dX11_sortRefusal_17 ?_
    have hb_1 := hxs.1 (d)
    refine lv_iload_n hx hb dX11_sortRefusal_18 rfl (lv_at hl 3 rfl) ?_
    refine x_icmp_ne (tgt := 26) hx hb (by omega) (by omega) dX11_sortRefusal_19 (by decide) (fun c_19 => ?_) (fun c_19 => ?_)
    · refine x_bipush (n := -12) hx hb (by decide +kernel) dX11_sortRefusal_26 ?_
      refine x_retP hx hb hr (by omega) ?_ dX11_sortRefusal_28 hlocks
      unfold zRowR
      repeat first | rw [if_pos (by omega)] | rw [if_neg (by omega)]
    · refine x_iconst hx hb dX11_sortRefusal_22 ?_
      refine lv_goto (tgt := 28) hx hb dX11_sortRefusal_23 (by decide) ?_
      refine x_retP hx hb hr (by omega) ?_ dX11_sortRefusal_28 hlocks
      unfold zRowR
      repeat first | rw [if_pos (by omega)] | rw [if_neg (by omega)]
  · refine lv_iload_n hx hb dX11_sortRefusal_10 rfl (lv_at hl 0 rfl) ?_
    refine x_retP hx hb hr (by omega) ?_ dX11_sortRefusal_11 hlocks
    have z := zRowR_up (so := so) qr_2 (by omega)
    rw [z]

set_option maxHeartbeats 4000000 in
set_option maxRecDepth 100000 in
theorem c_X11_houseRefusal (l : Launch) (g : xG) (σ : xS) (ph : Nat) (tk : Int) (hx0 : XObj g σ.1 ph tk) (Kf : Int → Option Nat) (So Sz : Int → Int) (h25 : MRef g σ.1 25 8 Kf) (h26 : MArr g σ.1 26 8 So) (h27 : MArr g σ.1 27 8 Sz) (hxs : XsOk σ Kf So Sz) (d : Int) (hd : inR d) : Met l yX11_houseRefusal wsX11_houseRefusal ({ frames := 2, cells := 0, slots := 0, locals := 64 }) (va_Pc [.ref (g.2.2 0), .int (iI (d))] (xPre g σ)) (x_Si (fun r => r = zKeptR (xKp Kf So) d)) (0) (0) (fun _ => False) := by
  refine Met.ofW (cc := cX11_houseRefusal) (maxL := 2) (ret := (some .int)) (by decide) rfl ?_
  intro p e s m args below meth c s₁ B hml hv
  obtain ⟨rfl, hP, hK⟩ := hv
  have hx := B.exec
  have hb := B.bytes
  have hr := B.returns
  have hts := atoms_spec (ws := wsX11_houseRefusal) B.pre
  have hown : s.vm.findClass RX11 = some m.cls := findClass_of_methodNamed B.named
  have hlocks := B.notSynchronized
  have hl := lv_entry ([.ref (g.2.2 0), .int (iI (d))]) (n := 2) (Nat.le_of_ble_eq_true rfl)
  rw [lg_entry_eq]
  generalize (lg_sl ([.ref (g.2.2 0), .int (iI (d))]) ++ List.replicate (2 - (lg_sl ([.ref (g.2.2 0), .int (iI (d))])).length) Slot.unset).toArray = ls at hl ⊢
  have hl : lv_has ls 2 [(0, .ref (g.2.2 0)), (1, .int (iI (d)))] := hl
  have hw_0 := hts (.fieldLink RX11 45 "TwiceAsRich" "kept" "[LTwiceAsRich$House;") (by decide +kernel)
  have hin_X11 : ∀ w ∈ wsX110, w ∈ wsX11_houseRefusal := by decide +kernel
  refine lv_iload_n hx hb dX11_houseRefusal_0 rfl (lv_at hl 1 rfl) ?_
  refine x_ci (va_runS (As := [.int (iI (d))]) (rest := []) ⟨hx, hb, hml, hown, hts⟩ (c_X11_isShelf l g σ  (d) (by omega)) (va_cwS 1 hts gX11_houseRefusal_X11_isShelf rfl rfl rfl (by decide +kernel) ⟨Nat.le_of_ble_eq_true rfl, Nat.le_of_ble_eq_true rfl⟩) (x_preS hK hP) rfl rfl hl.1 rfl (lv_room (Nat.le_of_ble_eq_true rfl)) dX11_houseRefusal_1 ⟨Nat.le_of_ble_eq_true rfl, Nat.le_of_ble_eq_true rfl⟩) (fun r_1 hr_1 qr_1 => ?_)
  replace qr_1 : (r_1 = 1 ∧ 0 ≤ (d) ∧ (d) ≤ 7) ∨ (r_1 = 0 ∧ ¬ (0 ≤ (d) ∧ (d) ≤ 7)) := qr_1
  refine x_if_ne (tgt := 9) hx hb (by omega) dX11_houseRefusal_4 (by decide) (fun c_4 => ?_) (fun c_4 => ?_)
  · refine lv_aload_n hx hb dX11_houseRefusal_9 rfl (lv_at hl 0 rfl) ?_
    refine lv_iload_n hx hb dX11_houseRefusal_10 rfl (lv_at hl 1 rfl) ?_
    refine x_ci (va_runV (As := [.int (iI (d))]) (rest := []) ⟨hx, hb, hml, hown, hts⟩ (c_X11_holdsNothing l g σ ph tk hx0 Kf So Sz h25 h26 h27 hxs (d) (by omega)) (cwV 1 hts gX11_houseRefusal_X11_holdsNothing rfl rfl rfl (by decide +kernel) ⟨Nat.le_of_ble_eq_true rfl, Nat.le_of_ble_eq_true rfl⟩) (x_preV hK hP (x_recv hK hP (i := 0) (by decide) hx0 rfl)) rfl rfl hl.1 rfl (lv_room (Nat.le_of_ble_eq_true rfl)) dX11_houseRefusal_11 ⟨Nat.le_of_ble_eq_true rfl, Nat.le_of_ble_eq_true rfl⟩) (fun r_11 hr_11 qr_11 => ?_)
    replace qr_11 : (r_11 = 1 ∧ xKp Kf So (d) = 0) ∨ (r_11 = 0 ∧ xKp Kf So (d) ≠ 0) := qr_11
    refine x_if_eq (tgt := 20) hx hb (by omega) dX11_houseRefusal_14 (by decide) (fun c_14 => ?_) (fun c_14 => ?_)
    · refine lv_aload_n hx hb dX11_houseRefusal_20 rfl (lv_at hl 0 rfl) ?_
      refine x_get (C := RX11) (T := TX11) (N := 11) hx hb hts hin_X11 hown hK hP (0) (by decide) hx0 rfl 7 (by decide) hw_0 (fun _ h9 => h9) rfl dX11_houseRefusal_21 ?_
      refine lv_iload_n hx hb dX11_houseRefusal_24 rfl (lv_at hl 1 rfl) ?_
      rcases hG_a_1 : Kf (d) with _ | a_1
      · refine x_aaldN (C := RX3) (f := Kf) 1 hx hb hK hP (25) (by decide) h25 rfl (by omega) (by omega) (by decide) hG_a_1 dX11_houseRefusal_25 ?_
        refine lv_ifnonnullN hx hb dX11_houseRefusal_26 ?_
        refine x_bipush (n := -12) hx hb (by decide +kernel) dX11_houseRefusal_29 ?_
        refine lv_goto (tgt := 35) hx hb dX11_houseRefusal_31 (by decide) ?_
        refine x_retP hx hb hr (by omega) ?_ dX11_houseRefusal_35 hlocks
        unfold zKeptR
        first | (rw [if_pos (by omega)]; done) | (rw [if_neg (by omega), if_pos (by omega)]; done) | ((have e9 : xKp Kf So d = 1 := by simp only [xKp, kpO, hG_a_1]); rw [if_neg (by omega), if_neg (by omega), if_pos (by omega)]) | ((have e9 : xKp Kf So d = if So d = -1 then 0 else 2 := by simp only [xKp, kpO, hG_a_1]); split at e9; omega; rw [if_neg (by omega), if_neg (by omega), if_neg (by omega)])
      · have ha_a_1 := hxs.2.2.1 _ _ hG_a_1
        refine x_aaldS (C := RX3) (f := Kf) 1 hx hb hK hP (25) (by decide) h25 rfl (by omega) (by omega) (by decide) hG_a_1 dX11_houseRefusal_25 ?_
        refine lv_ifnonnull (tgt := 34) hx hb dX11_houseRefusal_26 (by decide) ?_
        refine x_iconst hx hb dX11_houseRefusal_34 ?_
        refine x_retP hx hb hr (by omega) ?_ dX11_houseRefusal_35 hlocks
        unfold zKeptR
        first | (rw [if_pos (by omega)]; done) | (rw [if_neg (by omega), if_pos (by omega)]; done) | ((have e9 : xKp Kf So d = 1 := by simp only [xKp, kpO, hG_a_1]); rw [if_neg (by omega), if_neg (by omega), if_pos (by omega)]) | ((have e9 : xKp Kf So d = if So d = -1 then 0 else 2 := by simp only [xKp, kpO, hG_a_1]); split at e9; omega; rw [if_neg (by omega), if_neg (by omega), if_neg (by omega)])
    · refine x_bipush (n := -11) hx hb (by decide +kernel) dX11_houseRefusal_17 ?_
      refine x_retP hx hb hr (by omega) ?_ dX11_houseRefusal_19 hlocks
      unfold zKeptR
      first | (rw [if_pos (by omega)]; done) | (rw [if_neg (by omega), if_pos (by omega)]; done) | ((have e9 : xKp Kf So d = 1 := by simp only [xKp, kpO, hG_a_1]); rw [if_neg (by omega), if_neg (by omega), if_pos (by omega)]) | ((have e9 : xKp Kf So d = if So d = -1 then 0 else 2 := by simp only [xKp, kpO, hG_a_1]); split at e9; omega; rw [if_neg (by omega), if_neg (by omega), if_neg (by omega)])
  · refine x_iconst hx hb dX11_houseRefusal_7 ?_
    refine x_retP hx hb hr (by omega) ?_ dX11_houseRefusal_8 hlocks
    unfold zKeptR
    first | (rw [if_pos (by omega)]; done) | (rw [if_neg (by omega), if_pos (by omega)]; done) | ((have e9 : xKp Kf So d = 1 := by simp only [xKp, kpO, hG_a_1]); rw [if_neg (by omega), if_neg (by omega), if_pos (by omega)]) | ((have e9 : xKp Kf So d = if So d = -1 then 0 else 2 := by simp only [xKp, kpO, hG_a_1]); split at e9; omega; rw [if_neg (by omega), if_neg (by omega), if_neg (by omega)])

set_option maxHeartbeats 4000000 in
set_option maxRecDepth 100000 in
theorem c_X11_partingRefusal (l : Launch) (g : xG) (σ : xS) (ph : Nat) (tk : Int) (hx0 : XObj g σ.1 ph tk) (n rd : Int) (P : Int → Int) (G : Int → Option Nat) (hst : StAt g σ.1 1 n rd P G) (hok : StOk σ n rd P G) (hH : HsOk σ) (v : Int) (hv : inR v) : Met l yX11_partingRefusal wsX11_partingRefusal ({ frames := 1, cells := 0, slots := 0, locals := 32 }) (va_Pc [.ref (g.2.2 0), .int (iI (v))] (xPre g σ)) (x_Si (fun r => r = zWp n v)) (0) (0) (fun _ => False) := by
  refine Met.ofW (cc := cX11_partingRefusal) (maxL := 2) (ret := (some .int)) (by decide) rfl ?_
  intro p e s m args below meth c s₁ B hml hv
  obtain ⟨rfl, hP, hK⟩ := hv
  have hx := B.exec
  have hb := B.bytes
  have hr := B.returns
  have hts := atoms_spec (ws := wsX11_partingRefusal) B.pre
  have hown : s.vm.findClass RX11 = some m.cls := findClass_of_methodNamed B.named
  have hlocks := B.notSynchronized
  have hl := lv_entry ([.ref (g.2.2 0), .int (iI (v))]) (n := 2) (Nat.le_of_ble_eq_true rfl)
  rw [lg_entry_eq]
  generalize (lg_sl ([.ref (g.2.2 0), .int (iI (v))]) ++ List.replicate (2 - (lg_sl ([.ref (g.2.2 0), .int (iI (v))])).length) Slot.unset).toArray = ls at hl ⊢
  have hl : lv_has ls 2 [(0, .ref (g.2.2 0)), (1, .int (iI (v)))] := hl
  have hm0 : σ.1 1 = .inr (7, [.ref (g.2.2 2), .ref (g.2.2 3), .int (iI n), .int (iI rd)]) := hst.1
  have hm1 : MRef g σ.1 2 9 G := hst.2.1
  have hm2 : MArr g σ.1 3 9 P := hst.2.2
  have hok1 := hok.1
  have hok2 := hok.2.1
  have hok3 := hok.2.2.1
  have hw_0 := hts (.fieldLink RX11 10 "TwiceAsRich" "street" "LTwiceAsRich$Street;") (by decide +kernel)
  have hin_X11 : ∀ w ∈ wsX110, w ∈ wsX11_partingRefusal := by decide +kernel
  have hw_2 := hts (.fieldLink RX11 126 "TwiceAsRich$Street" "count" "I") (by decide +kernel)
  have hin_X7 : ∀ w ∈ wsX70, w ∈ wsX11_partingRefusal := by decide +kernel
  refine lv_iload_n hx hb dX11_partingRefusal_0 rfl (lv_at hl 1 rfl) ?_
  refine x_if_lt (tgt := 10) hx hb (by omega) dX11_partingRefusal_1 (by decide) (fun c_1 => ?_) (fun c_1 => ?_)
  · refine x_iconst hx hb dX11_partingRefusal_10 ?_
    refine x_retP hx hb hr (by omega) ?_ dX11_partingRefusal_11 hlocks
    unfold zWp
    repeat first | rw [if_pos (by omega)] | rw [if_neg (by omega)]
  · refine lv_iload_n hx hb dX11_partingRefusal_4 rfl (lv_at hl 1 rfl) ?_
    refine x_bipush (n := 20) hx hb (by decide +kernel) dX11_partingRefusal_5 ?_
    refine x_icmp_le (tgt := 12) hx hb (by omega) (by omega) dX11_partingRefusal_7 (by decide) (fun c_7 => ?_) (fun c_7 => ?_)
    · refine lv_aload_n hx hb dX11_partingRefusal_12 rfl (lv_at hl 0 rfl) ?_
      refine x_get (C := RX11) (T := TX11) (N := 11) hx hb hts hin_X11 hown hK hP (0) (by decide) hx0 rfl 0 (by decide) hw_0 (fun _ h9 => h9) rfl dX11_partingRefusal_13 ?_
      refine x_get (C := RX7) (T := TX7) (N := 4) hx hb hts hin_X7 hown hK hP (1) (by decide) hm0 rfl 2 (by decide) hw_2 (fun _ h9 => h9) rfl dX11_partingRefusal_16 ?_
      refine x_bipush (n := 6) hx hb (by decide +kernel) dX11_partingRefusal_19 ?_
      refine x_icmp_le (tgt := 29) hx hb (by omega) (by omega) dX11_partingRefusal_21 (by decide) (fun c_21 => ?_) (fun c_21 => ?_)
      · refine x_iconst hx hb dX11_partingRefusal_29 ?_
        refine x_retP hx hb hr (by omega) ?_ dX11_partingRefusal_30 hlocks
        unfold zWp
        repeat first | rw [if_pos (by omega)] | rw [if_neg (by omega)]
      · refine x_bipush (n := -3) hx hb (by decide +kernel) dX11_partingRefusal_24 ?_
        refine lv_goto (tgt := 30) hx hb dX11_partingRefusal_26 (by decide) ?_
        refine x_retP hx hb hr (by omega) ?_ dX11_partingRefusal_30 hlocks
        unfold zWp
        repeat first | rw [if_pos (by omega)] | rw [if_neg (by omega)]
    · refine x_iconst hx hb dX11_partingRefusal_10 ?_
      refine x_retP hx hb hr (by omega) ?_ dX11_partingRefusal_11 hlocks
      unfold zWp
      repeat first | rw [if_pos (by omega)] | rw [if_neg (by omega)]

set_option maxHeartbeats 4000000 in
set_option maxRecDepth 100000 in
theorem c_X11_canBeParted (l : Launch) (g : xG) (σ : xS) (ph : Nat) (tk : Int) (hx0 : XObj g σ.1 ph tk) (n rd : Int) (P : Int → Int) (G : Int → Option Nat) (hst : StAt g σ.1 1 n rd P G) (hok : StOk σ n rd P G) (hH : HsOk σ) : Met l yX11_canBeParted wsX11_canBeParted ({ frames := 2, cells := 0, slots := 0, locals := 64 }) (va_Pc [.ref (g.2.2 0)] (xPre g σ)) (x_Si (fun r => (r = 1 ∧ ¬ (6 < n ∨ 20 < zSum P n.toNat)) ∨ (r = 0 ∧ (6 < n ∨ 20 < zSum P n.toNat)))) (0) (0) (fun _ => False) := by
  refine Met.ofW (cc := cX11_canBeParted) (maxL := 1) (ret := (some .boolean)) (by decide) rfl ?_
  intro p e s m args below meth c s₁ B hml hv
  obtain ⟨rfl, hP, hK⟩ := hv
  have hx := B.exec
  have hb := B.bytes
  have hr := B.returns
  have hts := atoms_spec (ws := wsX11_canBeParted) B.pre
  have hown : s.vm.findClass RX11 = some m.cls := findClass_of_methodNamed B.named
  have hlocks := B.notSynchronized
  have hl := lv_entry ([.ref (g.2.2 0)]) (n := 1) (Nat.le_of_ble_eq_true rfl)
  rw [lg_entry_eq]
  generalize (lg_sl ([.ref (g.2.2 0)]) ++ List.replicate (1 - (lg_sl ([.ref (g.2.2 0)])).length) Slot.unset).toArray = ls at hl ⊢
  have hl : lv_has ls 1 [(0, .ref (g.2.2 0))] := hl
  have hm0 : σ.1 1 = .inr (7, [.ref (g.2.2 2), .ref (g.2.2 3), .int (iI n), .int (iI rd)]) := hst.1
  have hm1 : MRef g σ.1 2 9 G := hst.2.1
  have hm2 : MArr g σ.1 3 9 P := hst.2.2
  have hok1 := hok.1
  have hok2 := hok.2.1
  have hok3 := hok.2.2.1
  have hw_0 := hts (.fieldLink RX11 10 "TwiceAsRich" "street" "LTwiceAsRich$Street;") (by decide +kernel)
  have hin_X11 : ∀ w ∈ wsX110, w ∈ wsX11_canBeParted := by decide +kernel
  have hw_2 := hts (.fieldLink RX11 126 "TwiceAsRich$Street" "count" "I") (by decide +kernel)
  have hin_X7 : ∀ w ∈ wsX70, w ∈ wsX11_canBeParted := by decide +kernel
  refine lv_aload_n hx hb dX11_canBeParted_0 rfl (lv_at hl 0 rfl) ?_
  refine x_get (C := RX11) (T := TX11) (N := 11) hx hb hts hin_X11 hown hK hP (0) (by decide) hx0 rfl 0 (by decide) hw_0 (fun _ h9 => h9) rfl dX11_canBeParted_1 ?_
  refine x_get (C := RX7) (T := TX7) (N := 4) hx hb hts hin_X7 hown hK hP (1) (by decide) hm0 rfl 2 (by decide) hw_2 (fun _ h9 => h9) rfl dX11_canBeParted_4 ?_
  refine x_bipush (n := 6) hx hb (by decide +kernel) dX11_canBeParted_7 ?_
  refine x_icmp_gt (tgt := 28) hx hb (by omega) (by omega) dX11_canBeParted_9 (by decide) (fun c_9 => ?_) (fun c_9 => ?_)
  · refine x_iconst hx hb dX11_canBeParted_28 ?_
    refine x_retPz hx hb hr (by omega) ?_ dX11_canBeParted_29 hlocks
    omega
  · refine lv_aload_n hx hb dX11_canBeParted_12 rfl (lv_at hl 0 rfl) ?_
    refine x_get (C := RX11) (T := TX11) (N := 11) hx hb hts hin_X11 hown hK hP (0) (by decide) hx0 rfl 0 (by decide) hw_0 (fun _ h9 => h9) rfl dX11_canBeParted_13 ?_
    refine x_ci (va_runV (As := []) (rest := []) ⟨hx, hb, hml, hown, hts⟩ (c_X7_allCoins l g σ (1) (by decide) (n) (rd) P G ⟨hm0, hm1, hm2⟩ hok hH ) (cwV 0 hts gX11_canBeParted_X7_allCoins rfl rfl rfl (by decide +kernel) ⟨Nat.le_of_ble_eq_true rfl, Nat.le_of_ble_eq_true rfl⟩) (x_preV hK hP (x_recv hK hP (i := 1) (by decide) hm0 rfl)) rfl rfl hl.1 rfl (lv_room (Nat.le_of_ble_eq_true rfl)) dX11_canBeParted_16 ⟨Nat.le_of_ble_eq_true rfl, Nat.le_of_ble_eq_true rfl⟩) (fun r_16 hr_16 qr_16 => ?_)
    replace qr_16 : r_16 = zSum (P) ((n)).toNat ∧ 0 ≤ r_16 ∧ r_16 ≤ 99999 := qr_16
    refine x_bipush (n := 20) hx hb (by decide +kernel) dX11_canBeParted_19 ?_
    refine x_icmp_gt (tgt := 28) hx hb (by omega) (by omega) dX11_canBeParted_21 (by decide) (fun c_21 => ?_) (fun c_21 => ?_)
    · refine x_iconst hx hb dX11_canBeParted_28 ?_
      refine x_retPz hx hb hr (by omega) ?_ dX11_canBeParted_29 hlocks
      omega
    · refine x_iconst hx hb dX11_canBeParted_24 ?_
      refine lv_goto (tgt := 29) hx hb dX11_canBeParted_25 (by decide) ?_
      refine x_retPz hx hb hr (by omega) ?_ dX11_canBeParted_29 hlocks
      omega

set_option maxHeartbeats 4000000 in
set_option maxRecDepth 100000 in
theorem c_X11_areGifts (l : Launch) (g : xG) (σ : xS) (ph : Nat) (tk : Int) (hx0 : XObj g σ.1 ph tk) (n rd : Int) (P : Int → Int) (G : Int → Option Nat) (hst : StAt g σ.1 1 n rd P G) (hok : StOk σ n rd P G) (hH : HsOk σ) (ri : Nat) (hri : ri < xN) (Rw : Int → Int) (hrw : MArr g σ.1 ri 100 Rw) (hRr : ∀ k, inR (Rw k)) (z : Int) (hz : 0 ≤ z ∧ z ≤ 100) : Met l yX11_areGifts wsX11_areGifts ({ frames := 3, cells := 0, slots := 0, locals := 96 }) (va_Pc [.ref (g.2.2 0), .ref (g.2.2 (ri)), .int (iI (z))] (xPre g σ)) (x_Si (fun r => (r = 1 ∧ zGivOk n Rw z) ∨ (r = 0 ∧ ¬ zGivOk n Rw z))) (0) (0) (fun _ => False) := by
  refine Met.ofW (cc := cX11_areGifts) (maxL := 4) (ret := (some .boolean)) (by decide) rfl ?_
  intro p e s m args below meth c s₁ B hml hv
  obtain ⟨rfl, hP, hK⟩ := hv
  have hx := B.exec
  have hb := B.bytes
  have hr := B.returns
  have hts := atoms_spec (ws := wsX11_areGifts) B.pre
  have hown : s.vm.findClass RX11 = some m.cls := findClass_of_methodNamed B.named
  have hlocks := B.notSynchronized
  have hl := lv_entry ([.ref (g.2.2 0), .ref (g.2.2 (ri)), .int (iI (z))]) (n := 4) (Nat.le_of_ble_eq_true rfl)
  rw [lg_entry_eq]
  generalize (lg_sl ([.ref (g.2.2 0), .ref (g.2.2 (ri)), .int (iI (z))]) ++ List.replicate (4 - (lg_sl ([.ref (g.2.2 0), .ref (g.2.2 (ri)), .int (iI (z))])).length) Slot.unset).toArray = ls at hl ⊢
  have hl : lv_has ls 4 [(0, .ref (g.2.2 0)), (1, .ref (g.2.2 (ri))), (2, .int (iI (z)))] := hl
  have hm0 : σ.1 1 = .inr (7, [.ref (g.2.2 2), .ref (g.2.2 3), .int (iI n), .int (iI rd)]) := hst.1
  have hm1 : MRef g σ.1 2 9 G := hst.2.1
  have hm2 : MArr g σ.1 3 9 P := hst.2.2
  have hok1 := hok.1
  have hok2 := hok.2.1
  have hok3 := hok.2.2.1
  have hw_0 := hts (.fieldLink RX11 10 "TwiceAsRich" "street" "LTwiceAsRich$Street;") (by decide +kernel)
  have hin_X11 : ∀ w ∈ wsX110, w ∈ wsX11_areGifts := by decide +kernel
  refine lv_iload_n hx hb dX11_areGifts_0 rfl (lv_at hl 2 rfl) ?_
  refine x_iconst hx hb dX11_areGifts_1 ?_
  refine x_irem hx hb (by omega) (by omega) (by omega) (by omega) dX11_areGifts_2 ?_
  refine x_if_ne (tgt := 12) hx hb (by omega) dX11_areGifts_3 (by decide) (fun c_3 => ?_) (fun c_3 => ?_)
  · refine x_iconst hx hb dX11_areGifts_12 ?_
    refine x_retPz hx hb hr (by omega) ?_ dX11_areGifts_13 hlocks
    right; refine ⟨rfl, fun h => ?_⟩
    have h1 := h.1
    have h2 := h.2.1
    omega
  · refine lv_iload_n hx hb dX11_areGifts_6 rfl (lv_at hl 2 rfl) ?_
    refine x_bipush (n := 24) hx hb (by decide +kernel) dX11_areGifts_7 ?_
    refine x_icmp_le (tgt := 14) hx hb (by omega) (by omega) dX11_areGifts_9 (by decide) (fun c_9 => ?_) (fun c_9 => ?_)
    · refine x_iconst hx hb dX11_areGifts_14 ?_
      refine lv_istore_n (lv' := [(3, .int (iI (0))), (0, .ref (g.2.2 0)), (1, .ref (g.2.2 (ri))), (2, .int (iI (z)))]) hx hb dX11_areGifts_15 rfl hl (by decide) rfl (fun ls hl => ?_)
      have hloop_16 : ∀ (k : Nat) (i : Int), (z - i).toNat < k → (hi0 : 0 ≤ i ∧ i % 3 = 0) → (hi1 : i ≤ z) → (hz3 : z % 3 = 0 ∧ z ≤ 24) → (hall : ∀ t, 0 ≤ t → 3 * t < i → zGvT n Rw t) → ∀ (ls : Array Slot), lv_has ls 4 [(3, .int (iI (i))), (0, .ref (g.2.2 0)), (1, .ref (g.2.2 (ri))), (2, .int (iI (z)))] → W p l e (headSpec wsX11_areGifts ({ frames := 3, cells := 0, slots := 0, locals := 96 })).room s m ([.ref (g.2.2 0), .ref (g.2.2 (ri)), .int (iI (z))] : List Value).toArray below meth c s.heap [] 0 0 (MQ below (x_Si (fun r => (r = 1 ∧ zGivOk n Rw z) ∨ (r = 0 ∧ ¬ zGivOk n Rw z))) ([.ref (g.2.2 0), .ref (g.2.2 (ri)), .int (iI (z))] : List Value).toArray s (0) (0) (fun _ => False)) (F0 m 16 ls []) := by
        intro k
        induction k with
        | zero =>
          intros; exact absurd (by assumption) (Nat.not_lt_zero _)
        | succ k ih =>
          intro i hmeas hi0 hi1 hz3 hall  ls hl
          have ih_1 := ih
          refine lv_iload_n hx hb dX11_areGifts_16 rfl (lv_at hl 0 rfl) ?_
          refine x_iconst hx hb dX11_areGifts_17 ?_
          refine x_iadd hx hb dX11_areGifts_18 ?_
          refine lv_iload_n hx hb dX11_areGifts_19 rfl (lv_at hl 3 rfl) ?_
          refine x_icmp_gt (tgt := 69) hx hb (by omega) (by omega) dX11_areGifts_20 (by decide) (fun c_20 => ?_) (fun c_20 => ?_)
          · refine x_iconst hx hb dX11_areGifts_69 ?_
            refine x_retPz hx hb hr (by omega) ?_ dX11_areGifts_70 hlocks
            left; exact ⟨rfl, by omega, by omega, fun t h1 h2 => hall t h1 (by omega)⟩
          · refine lv_aload_n hx hb dX11_areGifts_23 rfl (lv_at hl 1 rfl) ?_
            refine x_get (C := RX11) (T := TX11) (N := 11) hx hb hts hin_X11 hown hK hP (0) (by decide) hx0 rfl 0 (by decide) hw_0 (fun _ h9 => h9) rfl dX11_areGifts_24 ?_
            refine lv_aload_n hx hb dX11_areGifts_27 rfl (lv_at hl 2 rfl) ?_
            refine lv_iload_n hx hb dX11_areGifts_28 rfl (lv_at hl 0 rfl) ?_
            refine x_iald (f := Rw) hx hb hK hP (ri) (by omega) hrw (by omega) (by omega) (by decide) dX11_areGifts_29 ?_
            have hb_2 := hRr (i)
            refine lv_aload_n hx hb dX11_areGifts_30 rfl (lv_at hl 2 rfl) ?_
            refine lv_iload_n hx hb dX11_areGifts_31 rfl (lv_at hl 0 rfl) ?_
            refine x_iconst hx hb dX11_areGifts_32 ?_
            refine x_iadd hx hb dX11_areGifts_33 ?_
            refine x_iald (f := Rw) hx hb hK hP (ri) (by omega) hrw (by omega) (by omega) (by decide) dX11_areGifts_34 ?_
            have hb_3 := hRr (i + 1)
            refine x_ci (va_runV (As := [.int (iI (Rw (i))), .int (iI (Rw (i + 1)))]) (rest := []) ⟨hx, hb, hml, hown, hts⟩ (c_X7_hasTwo l g σ (1) (by decide) (n) (rd) P G ⟨hm0, hm1, hm2⟩ hok hH (Rw (i)) (by omega) (Rw (i + 1)) (by omega)) (cwV 2 hts gX11_areGifts_X7_hasTwo rfl rfl rfl (by decide +kernel) ⟨Nat.le_of_ble_eq_true rfl, Nat.le_of_ble_eq_true rfl⟩) (x_preV hK hP (x_recv hK hP (i := 1) (by decide) hm0 rfl)) rfl rfl hl.1 rfl (lv_room (Nat.le_of_ble_eq_true rfl)) dX11_areGifts_35 ⟨Nat.le_of_ble_eq_true rfl, Nat.le_of_ble_eq_true rfl⟩) (fun r_35 hr_35 qr_35 => ?_)
            replace qr_35 : (r_35 = 1 ∧ (0 ≤ (Rw (i)) ∧ (Rw (i)) < (n) ∧ 0 ≤ (Rw (i + 1)) ∧ (Rw (i + 1)) < (n) ∧ (Rw (i)) ≠ (Rw (i + 1)))) ∨ (r_35 = 0 ∧ ¬ (0 ≤ (Rw (i)) ∧ (Rw (i)) < (n) ∧ 0 ≤ (Rw (i + 1)) ∧ (Rw (i + 1)) < (n) ∧ (Rw (i)) ≠ (Rw (i + 1)))) := qr_35
            refine x_if_eq (tgt := 61) hx hb (by omega) dX11_areGifts_38 (by decide) (fun c_38 => ?_) (fun c_38 => ?_)
            · refine x_iconst hx hb dX11_areGifts_61 ?_
              refine x_retPz hx hb hr (by omega) ?_ dX11_areGifts_62 hlocks
              right; refine ⟨rfl, fun h => ?_⟩
              have h2 := h.2.2 (i / 3) (by omega) (by omega)
              unfold zGvT at h2
              rw [show 3 * (i / 3) = i by omega] at h2
              omega
            · refine lv_aload_n hx hb dX11_areGifts_41 rfl (lv_at hl 2 rfl) ?_
              refine lv_iload_n hx hb dX11_areGifts_42 rfl (lv_at hl 0 rfl) ?_
              refine x_iconst hx hb dX11_areGifts_43 ?_
              refine x_iadd hx hb dX11_areGifts_44 ?_
              refine x_iald (f := Rw) hx hb hK hP (ri) (by omega) hrw (by omega) (by omega) (by decide) dX11_areGifts_45 ?_
              have hb_4 := hRr (i + 2)
              refine x_iconst hx hb dX11_areGifts_46 ?_
              refine x_icmp_lt (tgt := 61) hx hb (by omega) (by omega) dX11_areGifts_47 (by decide) (fun c_47 => ?_) (fun c_47 => ?_)
              · refine x_iconst hx hb dX11_areGifts_61 ?_
                refine x_retPz hx hb hr (by omega) ?_ dX11_areGifts_62 hlocks
                right; refine ⟨rfl, fun h => ?_⟩
                have h2 := h.2.2 (i / 3) (by omega) (by omega)
                unfold zGvT at h2
                rw [show 3 * (i / 3) = i by omega] at h2
                omega
              · refine lv_aload_n hx hb dX11_areGifts_50 rfl (lv_at hl 2 rfl) ?_
                refine lv_iload_n hx hb dX11_areGifts_51 rfl (lv_at hl 0 rfl) ?_
                refine x_iconst hx hb dX11_areGifts_52 ?_
                refine x_iadd hx hb dX11_areGifts_53 ?_
                refine x_iald (f := Rw) hx hb hK hP (ri) (by omega) hrw (by omega) (by omega) (by decide) dX11_areGifts_54 ?_
                have hb_5 := hRr (i + 2)
                refine x_sipush (n := 9999) hx hb (by decide +kernel) dX11_areGifts_55 ?_
                refine x_icmp_le (tgt := 63) hx hb (by omega) (by omega) dX11_areGifts_58 (by decide) (fun c_58 => ?_) (fun c_58 => ?_)
                · refine x_iinc (k0 := 0) (lv' := [(3, .int (iI (i + 3))), (0, .ref (g.2.2 0)), (1, .ref (g.2.2 (ri))), (2, .int (iI (z)))]) hx hb dX11_areGifts_63 hl rfl (by decide) rfl (fun ls hl => ?_)
                  refine lv_goto (tgt := 16) hx hb dX11_areGifts_66 (by decide) ?_
                  exact ih_1 (i + 3) (by omega) (by omega) (by omega) (by omega) (by intro t h1 h2; by_cases e9 : t = i / 3; (subst e9; unfold zGvT; rw [show 3 * (i / 3) = i by omega]; omega); exact hall t h1 (by omega)) ls (lv_sub hl [0, 1, 2, 3] rfl)
                · refine x_iconst hx hb dX11_areGifts_61 ?_
                  refine x_retPz hx hb hr (by omega) ?_ dX11_areGifts_62 hlocks
                  right; refine ⟨rfl, fun h => ?_⟩
                  have h2 := h.2.2 (i / 3) (by omega) (by omega)
                  unfold zGvT at h2
                  rw [show 3 * (i / 3) = i by omega] at h2
                  omega
      exact hloop_16 (((z - (0)).toNat) + 1) (0) (by omega) (by omega) (by omega) (by omega) (by intro t h1 h2; omega) ls (lv_sub hl [0, 1, 2, 3] rfl)
    · refine x_iconst hx hb dX11_areGifts_12 ?_
      refine x_retPz hx hb hr (by omega) ?_ dX11_areGifts_13 hlocks
      right; refine ⟨rfl, fun h => ?_⟩
      have h1 := h.1
      have h2 := h.2.1
      omega
