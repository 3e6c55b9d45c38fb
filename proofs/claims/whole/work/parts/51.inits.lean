/-! ===== what is made at the start: each constructor over the cell of its own, ahead of any others ===== -/
def eI (g : xG) (n : Nat) : va_E := .inl (g.2.1 0, n, .inl (fun _ => iI 0))
def eQ (g : xG) (n : Nat) : va_E := .inl (g.2.1 1, n, .inr (.inr (.inr (.inr (fun _ => none)))))
def eG (g : xG) (n : Nat) (r : Nat → Nat) : va_E := .inl (g.2.1 2, n, .inr (.inr (.inr (.inr (fun i => if i < n then some (r i) else none)))))
def lAO (U : State) : Prop := va_AO RX3 U ∧ va_AOA .int U
theorem lAO.moved {u U : State} (hW : u.WarmedH U.vm) (h : lAO u) : lAO U := ⟨h.1.moved hW.alike, over_moved hW.alike h.2⟩
theorem lAO.same {u U : State} (hvm : u.vm = U.vm) (h : lAO u) : lAO U := ⟨h.1.moved (by rw [hvm]; exact Vm.Alike.refl _), over_moved (by rw [hvm]; exact Vm.Alike.refl _) h.2⟩
def m_Pre (g : xG) (A : Nat → Prop) (ws : va_W) (U : State) : Prop := l_Pre g A ws U ∧ lAO U
theorem m_blind {g : xG} {A : Nat → Prop} {ws : va_W} {av : List Value} : FrameBlind (va_Pc av (m_Pre g A ws)) := fun a U gg mk q => by
  obtain ⟨q0, ⟨qP, qK, qD, qA⟩, qO⟩ := q
  exact ⟨q0, ⟨qP, xK.same (u := U) (U := U.calling gg mk a) rfl qK, qD, qA⟩, lAO.same (u := U) (U := U.calling gg mk a) rfl qO⟩
theorem m_preS {g : xG} {A : Nat → Prop} {ws : va_W} {s : State} {H H0 : Heap} {locs : List Loc} {As : List Value} (hK : xK g s) (hO : lAO s) (hP : va_P g.1 vwCl ws H) (hD : va_D A ws) (hS : va_S A H0 H locs) (hA : ∀ q : Nat, H0.size ≤ q → A q) : PreS s H (va_Pc As (m_Pre g A ws)) As :=
  ⟨m_blind, fun U hU hW => ⟨rfl, ⟨by rw [hU]; exact hP, xK.moved hW hK, hD, fun q h => hA q (Nat.le_trans hS.1 (by rw [← hU]; exact h))⟩, hO.moved hW⟩⟩
theorem l_cI {g : xG} {s : State} {cA : ClassId} (hK : va_K g.1 vwCl (xtys g ++ [(cA, .int)]) s) : cA = g.2.1 0 := by
  have h1 := (hK.2 4 _ rfl).2
  have h2 := (hK.2 0 _ rfl).2
  have h1 : s.vm.findClass ("[" ++ FieldType.int.toString) = some cA := h1
  have h2 : s.vm.findClass ("[" ++ FieldType.int.toString) = some (g.2.1 0) := h2
  exact Option.some.inj (h1.symm.trans h2)
theorem l_cQ {g : xG} {s : State} {cA : ClassId} (hK : va_K g.1 vwCl (xtys g ++ [(cA, .object RX3)]) s) : cA = g.2.1 1 := by
  obtain ⟨_, _, _, _, _, h1⟩ := (hK.2 4 _ rfl).2
  obtain ⟨_, _, _, _, _, h2⟩ := (hK.2 1 _ rfl).2
  exact Option.some.inj (h1.symm.trans h2)
theorem l_cG {g : xG} {s : State} {cA : ClassId} (hK : va_K g.1 vwCl (xtys g ++ [(cA, .array .int)]) s) : cA = g.2.1 2 := by
  have h1 := (hK.2 4 _ rfl).2
  have h2 := (hK.2 2 _ rfl).2
  have h1 : s.vm.findClass ("[" ++ (FieldType.array .int).toString) = some cA := h1
  have h2 : s.vm.findClass ("[" ++ (FieldType.array .int).toString) = some (g.2.1 2) := h2
  exact Option.some.inj (h1.symm.trans h2)
theorem l_cL {g : xG} {s : State} {cA : ClassId} (hK : va_K g.1 vwCl (xtys g ++ [(cA, .long)]) s) : cA = g.2.1 3 := by
  have h1 := (hK.2 4 _ rfl).2
  have h2 := (hK.2 3 _ rfl).2
  have h1 : s.vm.findClass ("[" ++ FieldType.long.toString) = some cA := h1
  have h2 : s.vm.findClass ("[" ++ FieldType.long.toString) = some (g.2.1 3) := h2
  exact Option.some.inj (h1.symm.trans h2)
theorem l_frP {D : va_G} {cl : List vw_C} {ws : va_W} {x : Nat × va_E} {H : Heap} (h : va_P D cl (ws ++ [x]) H) : va_P D cl (x :: ws) H := va_P.swap (a := []) (b := ws) (c := [x]) h
theorem l_frD {A : Nat → Prop} {ws : va_W} {x : Nat × va_E} (h : va_D A (ws ++ [x])) : va_D A (x :: ws) := va_D.swap (a := []) (b := ws) (c := [x]) h
theorem l_nneg {n : Int} (h0 : 0 ≤ n) (h1 : n < 2147483648) : ¬ (iI n < 0) := fun q => by
  have q2 : iI n < iI 0 := q
  rw [iI_lt ⟨by omega, h1⟩ ⟨by omega, by omega⟩] at q2; omega
theorem l_ofnC {cA : ClassId} {n : Nat} {f h : Nat → Value} (e : ∀ j, j < n → f j = h j) : arrV cA n f = arrV cA n h := by
  unfold arrV
  congr 1
  apply Array.ext
  · simp
  · intro i h1 h2
    simp only [Array.size_ofFn] at h1
    simp only [Array.getElem_ofFn]
    exact e i h1
theorem l_repl {D : va_G} {cl : List vw_C} {A : Nat → Prop} {p : Nat} {ws : va_W} {a : Nat} {cA : ClassId} {x y : vp_A} {H : Heap} (h : va_P D cl ws H) (hD : va_D A ws) (hp : ws[p]? = some (a, .inl (cA, x))) (e : vp_cell cA x = vp_cell cA y) : va_P D cl (ws.set p (a, .inl (cA, y))) H :=
  h.set hD hp (show H[a]? = some (vp_cell cA y) by rw [← e]; exact h p _ hp) (fun _ _ => rfl)
section MROWS
variable {p : Program} {l : Launch} {e : Env} {R : Room} {s : State} {m : MethodId} {args : Array Value} {below : List Frame} {meth : Method} {c : Code} {H : Heap} {locs : List Loc} {cells slots : Nat} {Q : State → Prop} {cc : ByteArray} {pc : Nat} {ls : Array Slot} {rest : List Value} {g : xG} {σ : xS} {A : Nat → Prop} {H0 : Heap} {ws : va_W}
theorem l_newa (hx : p.tables.exec = Jvm.exec) (hb : c.code = cc) (harr : (Cond.arrayClass .int).before args s = true) (hK : xK g s) (hP : va_P g.1 vwCl ws H) (hD : va_D A ws) (hS : va_S A H0 H locs) (hA : ∀ q : Nat, H0.size ≤ q → A q) {n : Int} {N : Nat} (hn : n = (N : Int)) (hN : N ≤ 1000) (hcells : cells + 1 ≤ R.cells) (hslots : slots + N ≤ R.slots) (hdg : decode cc pc = .ok (.newarray .int, 2))
    (kk : ∀ (q : Nat) (H1 : Heap), va_P g.1 vwCl ((q, eI g N) :: ws) H1 → va_D A ((q, eI g N) :: ws) → va_S A H0 H1 locs → W p l e R s m args below meth c H1 locs (cells + 1) (slots + N) Q (F0 m (pc + 2) ls (.ref q :: rest))) : W p l e R s m args below meth c H locs cells slots Q (F0 m pc ls (.int (iI n) :: rest)) := by
  subst hn
  refine va_newa (atype := .int) (ty := .int) (D := g.1) (a0 := (N, .inl (fun _ => iI 0))) hx hb harr rfl hK.1 hP hD hS hA (fun _ => rfl) (l_nneg (by omega) (by omega)) (by rw [iI_nat (by omega) (by omega)]; omega) (by show N * 4 ≤ 536870912; omega) hcells hslots hdg (fun q cA H1 hK1 hP1 hD1 hS1 => ?_)
  have e := l_cI hK1
  subst e
  exact kk q H1 (l_frP hP1) (l_frD hD1) hS1
theorem l_newl (hx : p.tables.exec = Jvm.exec) (hb : c.code = cc) (harr : (Cond.arrayClass .long).before args s = true) (hK : xK g s) (hP : va_P g.1 vwCl ws H) (hD : va_D A ws) (hS : va_S A H0 H locs) (hA : ∀ q : Nat, H0.size ≤ q → A q) {n : Int} {N : Nat} (hn : n = (N : Int)) (hN : N ≤ 1000) (hcells : cells + 1 ≤ R.cells) (hslots : slots + N ≤ R.slots) (hdg : decode cc pc = .ok (.newarray .long, 2))
    (kk : ∀ (q : Nat) (H1 : Heap), va_P g.1 vwCl ((q, .inl (g.2.1 3, N, .inr (.inl (fun _ => jL 0)))) :: ws) H1 → va_D A ((q, .inl (g.2.1 3, N, .inr (.inl (fun _ => jL 0)))) :: ws) → va_S A H0 H1 locs → W p l e R s m args below meth c H1 locs (cells + 1) (slots + N) Q (F0 m (pc + 2) ls (.ref q :: rest))) : W p l e R s m args below meth c H locs cells slots Q (F0 m pc ls (.int (iI n) :: rest)) := by
  subst hn
  refine va_newa (atype := .long) (ty := .long) (D := g.1) (a0 := (N, .inr (.inl (fun _ => jL 0)))) hx hb harr rfl hK.1 hP hD hS hA (fun _ => rfl) (l_nneg (by omega) (by omega)) (by rw [iI_nat (by omega) (by omega)]; omega) (by show N * 8 ≤ 536870912; omega) hcells hslots hdg (fun q cA H1 hK1 hP1 hD1 hS1 => ?_)
  have e := l_cL hK1
  subst e
  exact kk q H1 (l_frP hP1) (l_frD hD1) hS1
theorem l_newq (hx : p.tables.exec = Jvm.exec) (hb : c.code = cc) {own : String} {index : Nat} (hown : s.vm.findClass own = some m.cls) (hcl : (Cond.classLink own index RX3).before args s = true) (hO : lAO s) (hK : xK g s) (hP : va_P g.1 vwCl ws H) (hD : va_D A ws) (hS : va_S A H0 H locs) (hA : ∀ q : Nat, H0.size ≤ q → A q) {n : Int} {N : Nat} (hn : n = (N : Int)) (hN : N ≤ 1000) (hcells : cells + 1 ≤ R.cells) (hslots : slots + N ≤ R.slots) (hdg : decode cc pc = .ok (.anewarray index, 3))
    (kk : ∀ (q : Nat) (H1 : Heap), va_P g.1 vwCl ((q, eQ g N) :: ws) H1 → va_D A ((q, eQ g N) :: ws) → va_S A H0 H1 locs → W p l e R s m args below meth c H1 locs (cells + 1) (slots + N) Q (F0 m (pc + 3) ls (.ref q :: rest))) : W p l e R s m args below meth c H locs cells slots Q (F0 m pc ls (.int (iI n) :: rest)) := by
  subst hn
  refine va_newq (C := RX3) (D := g.1) (N' := N) hx hb hown hcl hO.1 hK.1 hP hD hS hA (l_nneg (by omega) (by omega)) (by rw [iI_nat (by omega) (by omega)]; omega) (by omega) hcells hslots hdg (fun q cA H1 hK1 hP1 hD1 hS1 => ?_)
  have e := l_cQ hK1
  subst e
  exact kk q H1 (l_frP hP1) (l_frD hD1) hS1
theorem l_rows {r : Nat → Nat} {f : Nat → va_E} {N : Nat} {e : va_E} : va_pl ([] ++ (List.range N).map r) (vr_up f ((List.range N).map r) e) = (List.range N).map (fun i => (r i, e)) := by
  unfold va_pl
  rw [List.nil_append, List.map_map]
  apply List.map_congr_left
  intro i hi
  show (r i, vr_up f ((List.range N).map r) e (r i)) = (r i, e)
  rw [vr_up_in (List.mem_map.mpr ⟨i, hi, rfl⟩)]
theorem l_mna (hx : p.tables.exec = Jvm.exec) (hb : c.code = cc) {own : String} {index : Nat} (hown : s.vm.findClass own = some m.cls) (hcl : (Cond.classLink own index ("[" ++ (FieldType.array .int).toString)).before args s = true) (hO : lAO s) (harr : (Cond.arrayClass .int).before args s = true) (hK : xK g s) (hP : va_P g.1 vwCl ws H) (hD : va_D A ws) (hS : va_S A H0 H locs) (hA : ∀ q : Nat, H0.size ≤ q → A q) {n k : Int} {N K : Nat} (hn : n = (N : Int)) (hk : k = (K : Int)) (hN : N ≤ 1000) (hM : K ≤ 1000) (hcells : cells + (1 + N) ≤ R.cells) (hslots : slots + (N + N * K) ≤ R.slots) (hdg : decode cc pc = .ok (.multianewarray index 2, 4))
    (kk : ∀ (q : Nat) (r : Nat → Nat) (H1 : Heap), va_P g.1 vwCl ((q, eG g N r) :: ((List.range N).map (fun i => (r i, eI g K)) ++ ws)) H1 → va_D A ((q, eG g N r) :: ((List.range N).map (fun i => (r i, eI g K)) ++ ws)) → va_S A H0 H1 locs → W p l e R s m args below meth c H1 locs (cells + 1 + N) (slots + N + N * K) Q (F0 m (pc + 4) ls (.ref q :: rest))) : W p l e R s m args below meth c H locs cells slots Q (F0 m pc ls (.int (iI k) :: .int (iI n) :: rest)) := by
  subst hn
  subst hk
  have hcy : s.vm.findClass (FieldType.array .int).toString = some (g.2.1 0) := (hK.1.2 0 _ rfl).2
  have hP0 : va_P g.1 vwCl (ws ++ va_pl [] (fun _ => eI g 0)) H := by (show va_P g.1 vwCl (ws ++ []) H; rw [List.append_nil]; exact hP)
  have hD0 : va_D A (ws ++ va_pl [] (fun _ => eI g 0)) := by (show va_D A (ws ++ []); rw [List.append_nil]; exact hD)
  refine va_mna (X := ws) (L := []) (f := fun _ => eI g 0) (ty := .int) (D := g.1) (cy := g.2.1 0) (N' := N) (K' := K) (z := (K, .inl (fun _ => iI 0))) hx hb hown hcl hO.2 harr hcy hK.1 hP0 hD0 hS hA (l_nneg (by omega) (by omega)) (l_nneg (by omega) (by omega)) (by rw [iI_nat (by omega) (by omega)]; omega) (by rw [iI_nat (by omega) (by omega)]; omega) (by omega) (by show K * 4 ≤ 536870912; omega) (by omega) rfl rfl hcells hslots (fun cA => arrV_new cA K (.int 0)) hdg (fun q r cA H1 _ _ hK1 hP1 hD1 hS1 => ?_)
  have e := l_cG hK1
  subst e
  rw [l_rows] at hP1 hD1
  have hP2 := va_P.swap (a := []) (b := ws ++ [(q, eG g N r)]) (c := (List.range N).map (fun i => (r i, eI g K))) hP1
  have hD2 := va_D.swap (a := []) (b := ws ++ [(q, eG g N r)]) (c := (List.range N).map (fun i => (r i, eI g K))) hD1
  have hP3 : va_P g.1 vwCl (((List.range N).map (fun i => (r i, eI g K)) ++ ws) ++ [(q, eG g N r)]) H1 := by (rw [List.append_assoc]; exact hP2)
  have hD3 : va_D A (((List.range N).map (fun i => (r i, eI g K)) ++ ws) ++ [(q, eG g N r)]) := by (rw [List.append_assoc]; exact hD2)
  exact kk q r H1 (l_frP hP3) (l_frD hD3) hS1
end MROWS

set_option maxHeartbeats 4000000 in
set_option maxRecDepth 100000 in
/-- Arrays.fill, where the street's other half is not made yet -/
theorem c_fill_l (l : Launch) (g : xG) (A : Nat → Prop) (ws : va_W) (q0 a n : Nat) (f0 : Int → Int) (hw : ws[q0]? = some (a, .inl (g.2.1 0, n, .inl (fun k => iI (f0 (k : Int)))))) (hn9 : n ≤ 1000) (v : Int) : Met l yJ7_fill_53178 wsJ7_fill_53178 ({ frames := 1, cells := 0, slots := 0, locals := 32 }) (va_Pc [.ref a, .int (iI v)] (l_Pre g A ws)) (l_Qv g A (fun w1 => w1 = ws.set q0 (a, .inl (g.2.1 0, n, .inl (fun k => iI (zCopy (fun _ => v) f0 (n : Int) (k : Int))))))) 0 0 A := by
  refine Met.ofW (cc := cJ7_fill_53178) (maxL := 4) (ret := none) (by decide) rfl ?_
  intro p e s m args below meth c s₁ B hml hv
  obtain ⟨rfl, hP, hK, hD, hA⟩ := hv
  have hx := B.exec
  have hb := B.bytes
  have hr := B.returns
  have hts := atoms_spec (ws := wsJ7_fill_53178) B.pre
  have hown : s.vm.findClass RJ7 = some m.cls := findClass_of_methodNamed B.named
  have hlocks := B.notSynchronized
  have hS : va_S A s.heap s.heap [] := va_S.rf
  have hlen := (List.getElem?_eq_some_iff.mp hw).1
  have hl := lv_entry ([.ref a, .int (iI (v))]) (n := 4) (Nat.le_of_ble_eq_true rfl)
  rw [lg_entry_eq]
  generalize (lg_sl ([.ref a, .int (iI (v))]) ++ List.replicate (4 - (lg_sl ([.ref a, .int (iI (v))])).length) Slot.unset).toArray = ls at hl ⊢
  have hl : lv_has ls 4 [(0, .ref a), (1, .int (iI (v)))] := hl
  refine x_iconst hx hb dJ7_fill_53178_0 ?_
  refine lv_istore_n (lv' := [(2, .int (iI (0))), (0, .ref a), (1, .int (iI (v)))]) hx hb dJ7_fill_53178_1 rfl hl (by decide) rfl (fun ls hl => ?_)
  refine lv_aload_n hx hb dJ7_fill_53178_2 rfl (lv_at hl 1 rfl) ?_
  refine va_alen (D := g.1) hx hb hK.1 hP q0 0 hw rfl (iI_ofNat n) dJ7_fill_53178_3 ?_
  refine lv_istore_n (lv' := [(3, .int (iI (((n : Nat) : Int)))), (2, .int (iI (0))), (0, .ref a), (1, .int (iI (v)))]) hx hb dJ7_fill_53178_4 rfl hl (by decide) rfl (fun ls hl => ?_)
  have hloop : ∀ (k : Nat) (k9 : Int), ((n : Int) - k9).toNat < k → (hk0 : 0 ≤ k9) → (hk1 : k9 ≤ (n : Int)) → ∀ (H : Heap) (locs : List Loc), va_P g.1 vwCl (ws.set q0 (a, .inl (g.2.1 0, n, .inl (fun k => iI (zCopy (fun _ => v) f0 k9 (k : Int)))))) H → va_D A (ws.set q0 (a, .inl (g.2.1 0, n, .inl (fun k => iI (zCopy (fun _ => v) f0 k9 (k : Int)))))) → va_S A s.heap H locs → ∀ (ls : Array Slot), lv_has ls 4 [(2, .int (iI k9)), (3, .int (iI (((n : Nat) : Int)))), (0, .ref a), (1, .int (iI (v)))] → W p l e (headSpec wsJ7_fill_53178 ({ frames := 1, cells := 0, slots := 0, locals := 32 })).room s m ([.ref a, .int (iI v)] : List Value).toArray below meth c H locs 0 0 (MQ below (l_Qv g A (fun w1 => w1 = ws.set q0 (a, .inl (g.2.1 0, n, .inl (fun k => iI (zCopy (fun _ => v) f0 (n : Int) (k : Int))))))) ([.ref a, .int (iI v)] : List Value).toArray s 0 0 A) (F0 m 5 ls []) := by
    intro k
    induction k with
    | zero =>
      intros; exact absurd (by assumption) (Nat.not_lt_zero _)
    | succ k ih =>
      intro k9 hmeas hk0 hk1 H locs hP hD hS ls hl
      refine lv_iload_n hx hb dJ7_fill_53178_5 rfl (lv_at hl 0 rfl) ?_
      refine lv_iload_n hx hb dJ7_fill_53178_6 rfl (lv_at hl 1 rfl) ?_
      refine x_icmp_ge (tgt := 20) hx hb (by omega) (by omega) dJ7_fill_53178_7 (by decide) (fun c_7 => ?_) (fun c_7 => ?_)
      · have e9 : k9 = (n : Int) := by omega
        subst e9
        exact l_ret hx hb hr rfl hP hD hS dJ7_fill_53178_20 hlocks
      · refine lv_aload_n hx hb dJ7_fill_53178_10 rfl (lv_at hl 2 rfl) ?_
        refine lv_iload_n hx hb dJ7_fill_53178_11 rfl (lv_at hl 0 rfl) ?_
        refine lv_iload_n hx hb dJ7_fill_53178_12 rfl (lv_at hl 3 rfl) ?_
        refine va_iast (D := g.1) hx hb hK.1 hP hD hS q0 0 (by rw [List.getElem?_set_self hlen]) rfl (iI_in hk0 (by omega) (by omega)) dJ7_fill_53178_13 (fun H1 locs1 hP hD hS => ?_)
        rw [List.set_set, upI_i hk0 (by omega), zCopy_step (f := fun _ => v) hk0] at hP hD
        refine x_iinc (k0 := 0) (lv' := [(2, .int (iI (k9 + 1))), (3, .int (iI (((n : Nat) : Int)))), (0, .ref a), (1, .int (iI (v)))]) hx hb dJ7_fill_53178_14 hl rfl (by decide) rfl (fun ls hl => ?_)
        refine lv_goto (tgt := 5) hx hb dJ7_fill_53178_17 (by decide) ?_
        exact ih (k9 + 1) (by omega) (by omega) (by omega) H1 locs1 hP hD hS ls hl
  have e0 : ws.set q0 (a, .inl (g.2.1 0, n, .inl (fun k => iI (zCopy (fun _ => v) f0 0 (k : Int))))) = ws := by
    rw [zCopy_0]
    exact List.ext_getElem? (fun i => by
      by_cases e : i = q0
      · subst e; rw [List.getElem?_set_self hlen]; exact hw.symm
      · rw [List.getElem?_set_ne (fun q => e q.symm)])
  exact hloop (n + 1) 0 (by omega) (by omega) (by omega) s.heap [] (by rw [e0]; exact hP) (by rw [e0]; exact hD) hS ls (lv_sub hl [1, 0, 2, 3] rfl)

set_option maxHeartbeats 4000000 in
set_option maxRecDepth 100000 in
theorem c_X7_init (l : Launch) (g : xG) (A : Nat → Prop) (ws : va_W) (a : Nat) : Met l yX7_init wsX7_init ({ frames := 1, cells := 2, slots := 18, locals := 32 }) (va_Pc [.ref a] (m_Pre g A ((a, .inr (7, [.null, .null, .int (iI 0), .int (iI 0)])) :: ws))) (l_Qv g A (fun w1 => ∃ (q1 : Nat) (q0 : Nat), w1 = (q1, eI g 9) :: (q0, eQ g 9) :: (a, .inr (7, [.ref q0, .ref q1, .int (iI 0), .int (iI 0)])) :: ws)) 2 18 A := by
  refine Met.ofW (cc := cX7_init) (maxL := 1) (ret := none) (by decide) rfl ?_
  intro p e s m args below meth c s₁ B hml hv
  obtain ⟨rfl, ⟨hP, hK, hD, hA⟩, hO⟩ := hv
  have hx := B.exec
  have hb := B.bytes
  have hr := B.returns
  have hts := atoms_spec (ws := wsX7_init) B.pre
  have hown : s.vm.findClass RX7 = some m.cls := findClass_of_methodNamed B.named
  have hlocks := B.notSynchronized
  have hin : meth.name = "<init>" := (name_of_methodNamed B.named B.method).1
  have hS : va_S A s.heap s.heap [] := va_S.rf
  have hl := lv_entry ([.ref a]) (n := 1) (Nat.le_of_ble_eq_true rfl)
  rw [lg_entry_eq]
  generalize (lg_sl ([.ref a]) ++ List.replicate (1 - (lg_sl ([.ref a])).length) Slot.unset).toArray = ls at hl ⊢
  have hl : lv_has ls 1 [(0, .ref a)] := hl
  have hin_X7 : ∀ w ∈ u_ws RX7 TX7 4, w ∈ wsX7_init := by decide +kernel
  have hw_0 := hts (.classLink RX7 9 RX3) (by decide +kernel)
  have hw_1 := hts (.fieldLink RX7 11 "TwiceAsRich$Street" "houses" "[LTwiceAsRich$House;") (by decide +kernel)
  have hw_2 := hts (.arrayClass .int) (by decide +kernel)
  have hw_3 := hts (.fieldLink RX7 17 "TwiceAsRich$Street" "purses" "[I") (by decide +kernel)
  refine lv_aload_n hx hb dX7_init_0 rfl (lv_at hl 0 rfl) ?_
  refine W.objInit hx hb hown (hts (.methodLink RX7 3 objectInit) (by decide +kernel)) (hts (.instanceMethod objectInit) (by decide +kernel)) (hts (.code objectInit ⟨#[0xb1]⟩ 1 none) (by decide +kernel)) rfl (by rw [hml]; exact hl.1) rfl dX7_init_1 (Nat.le_of_ble_eq_true rfl) (Nat.le_of_ble_eq_true rfl) ?_
  refine W.eq (g2 := F0 m 4 ls []) rfl ?_
  refine lv_aload_n hx hb dX7_init_4 rfl (lv_at hl 0 rfl) ?_
  refine x_bipush (n := 9) hx hb (by decide +kernel) dX7_init_5 ?_
  refine l_newq (N := 9) hx hb hown hw_0 hO hK hP hD hS hA rfl (by decide) (Nat.le_of_ble_eq_true rfl) (Nat.le_of_ble_eq_true rfl) dX7_init_7 (fun q0 H hP hD hS => ?_)
  refine va_putF (D := g.1) (ci := 7) (v := .ref q0) (ty := (.array (.object "TwiceAsRich$House"))) (C := RX7) (T := TX7) (N := 4) hx hb hts hin_X7 tyX7 tyX7_ok nmX7 hown hK.1 hP hD hS 1 rfl rfl 0 (by decide) hw_1 (fun _ h9 => h9) rfl hin rfl (by decide +kernel) rfl rfl (Nat.le_of_ble_eq_true rfl) dX7_init_10 (fun H locs hP hD hS => ?_)
  have hP : va_P g.1 vwCl ((q0, eQ g 9) :: (a, .inr (7, [.ref q0, .null, .int (iI 0), .int (iI 0)])) :: ws) H := hP
  have hD : va_D A ((q0, eQ g 9) :: (a, .inr (7, [.ref q0, .null, .int (iI 0), .int (iI 0)])) :: ws) := hD
  refine lv_aload_n hx hb dX7_init_13 rfl (lv_at hl 0 rfl) ?_
  refine x_bipush (n := 9) hx hb (by decide +kernel) dX7_init_14 ?_
  refine l_newa (N := 9) hx hb hw_2 hK hP hD hS hA rfl (by decide) (Nat.le_of_ble_eq_true rfl) (Nat.le_of_ble_eq_true rfl) dX7_init_16 (fun q1 H hP hD hS => ?_)
  refine va_putF (D := g.1) (ci := 7) (v := .ref q1) (ty := (.array .int)) (C := RX7) (T := TX7) (N := 4) hx hb hts hin_X7 tyX7 tyX7_ok nmX7 hown hK.1 hP hD hS 2 rfl rfl 1 (by decide) hw_3 (fun _ h9 => h9) rfl hin rfl (by decide +kernel) rfl rfl (Nat.le_of_ble_eq_true rfl) dX7_init_18 (fun H locs hP hD hS => ?_)
  have hP : va_P g.1 vwCl ((q1, eI g 9) :: (q0, eQ g 9) :: (a, .inr (7, [.ref q0, .ref q1, .int (iI 0), .int (iI 0)])) :: ws) H := hP
  have hD : va_D A ((q1, eI g 9) :: (q0, eQ g 9) :: (a, .inr (7, [.ref q0, .ref q1, .int (iI 0), .int (iI 0)])) :: ws) := hD
  exact l_ret hx hb hr ⟨q1, q0, rfl⟩ hP hD hS dX7_init_21 hlocks

set_option maxHeartbeats 4000000 in
set_option maxRecDepth 100000 in
theorem c_X8_init (l : Launch) (g : xG) (A : Nat → Prop) (ws : va_W) (a : Nat) : Met l yX8_init wsX8_init ({ frames := 1, cells := 1, slots := 0, locals := 32 }) (va_Pc [.ref a] (m_Pre g A ((a, .inr (8, [.null, .int (iI 0), .int (iI 0)])) :: ws))) (l_Qv g A (fun w1 => ∃ (q0 : Nat), w1 = (q0, eI g 0) :: (a, .inr (8, [.ref q0, .int (iI 0), .int (iI 0)])) :: ws)) 1 0 A := by
  refine Met.ofW (cc := cX8_init) (maxL := 1) (ret := none) (by decide) rfl ?_
  intro p e s m args below meth c s₁ B hml hv
  obtain ⟨rfl, ⟨hP, hK, hD, hA⟩, hO⟩ := hv
  have hx := B.exec
  have hb := B.bytes
  have hr := B.returns
  have hts := atoms_spec (ws := wsX8_init) B.pre
  have hown : s.vm.findClass RX8 = some m.cls := findClass_of_methodNamed B.named
  have hlocks := B.notSynchronized
  have hin : meth.name = "<init>" := (name_of_methodNamed B.named B.method).1
  have hS : va_S A s.heap s.heap [] := va_S.rf
  have hl := lv_entry ([.ref a]) (n := 1) (Nat.le_of_ble_eq_true rfl)
  rw [lg_entry_eq]
  generalize (lg_sl ([.ref a]) ++ List.replicate (1 - (lg_sl ([.ref a])).length) Slot.unset).toArray = ls at hl ⊢
  have hl : lv_has ls 1 [(0, .ref a)] := hl
  have hin_X8 : ∀ w ∈ u_ws RX8 TX8 3, w ∈ wsX8_init := by decide +kernel
  have hw_0 := hts (.arrayClass .int) (by decide +kernel)
  have hw_1 := hts (.fieldLink RX8 9 "TwiceAsRich$StreetText" "bytes" "[I") (by decide +kernel)
  refine lv_aload_n hx hb dX8_init_0 rfl (lv_at hl 0 rfl) ?_
  refine W.objInit hx hb hown (hts (.methodLink RX8 3 objectInit) (by decide +kernel)) (hts (.instanceMethod objectInit) (by decide +kernel)) (hts (.code objectInit ⟨#[0xb1]⟩ 1 none) (by decide +kernel)) rfl (by rw [hml]; exact hl.1) rfl dX8_init_1 (Nat.le_of_ble_eq_true rfl) (Nat.le_of_ble_eq_true rfl) ?_
  refine W.eq (g2 := F0 m 4 ls []) rfl ?_
  refine lv_aload_n hx hb dX8_init_4 rfl (lv_at hl 0 rfl) ?_
  refine x_iconst hx hb dX8_init_5 ?_
  refine l_newa (N := 0) hx hb hw_0 hK hP hD hS hA rfl (by decide) (Nat.le_of_ble_eq_true rfl) (Nat.le_of_ble_eq_true rfl) dX8_init_6 (fun q0 H hP hD hS => ?_)
  refine va_put (D := g.1) (ci := 8) (v := .ref q0) (ty := (.array .int)) (C := RX8) (T := TX8) (N := 3) hx hb hts hin_X8 tyX8 tyX8_ok nmX8 hown hK.1 hP hD hS 1 rfl rfl 0 (by decide) hw_1 (fun _ h9 => h9) rfl (by decide +kernel) rfl rfl (Nat.le_of_ble_eq_true rfl) dX8_init_8 (fun H locs hP hD hS => ?_)
  have hP : va_P g.1 vwCl ((q0, eI g 0) :: (a, .inr (8, [.ref q0, .int (iI 0), .int (iI 0)])) :: ws) H := hP
  have hD : va_D A ((q0, eI g 0) :: (a, .inr (8, [.ref q0, .int (iI 0), .int (iI 0)])) :: ws) := hD
  exact l_ret hx hb hr ⟨q0, rfl⟩ hP hD hS dX8_init_11 hlocks

set_option maxHeartbeats 4000000 in
set_option maxRecDepth 100000 in
theorem c_X5_init (l : Launch) (g : xG) (A : Nat → Prop) (ws : va_W) (a : Nat) : Met l yX5_init wsX5_init ({ frames := 3, cells := 12, slots := 166, locals := 96 }) (va_Pc [.ref a] (m_Pre g A ((a, .inr (5, [.int (iI 0), .int (iI 0), .int (iI 0), .int (iI 0), .null, .null, .null, .null])) :: ws))) (l_Qv g A (fun w1 => ∃ (q4 : Nat) (r4 : Nat → Nat) (q3 : Nat) (q1_2 : Nat) (q0_2 : Nat) (q1 : Nat) (q0 : Nat), w1 = (q4, eG g 6 r4) :: (r4 0, eI g 21) :: (r4 1, eI g 21) :: (r4 2, eI g 21) :: (r4 3, eI g 21) :: (r4 4, eI g 21) :: (r4 5, eI g 21) :: (q3, eI g 6) :: (q1_2, eI g 9) :: (q0_2, eQ g 9) :: (q1, .inr (7, [.ref q0_2, .ref q1_2, .int (iI 0), .int (iI 0)])) :: (q0, eI g 6) :: (a, .inr (5, [.int (iI 0), .int (iI 0), .int (iI 0), .int (iI 0), .ref q0, .ref q1, .ref q3, .ref q4])) :: ws)) 12 166 A := by
  refine Met.ofW (cc := cX5_init) (maxL := 1) (ret := none) (by decide) rfl ?_
  intro p e s m args below meth c s₁ B hml hv
  obtain ⟨rfl, ⟨hP, hK, hD, hA⟩, hO⟩ := hv
  have hx := B.exec
  have hb := B.bytes
  have hr := B.returns
  have hts := atoms_spec (ws := wsX5_init) B.pre
  have hown : s.vm.findClass RX5 = some m.cls := findClass_of_methodNamed B.named
  have hlocks := B.notSynchronized
  have hin : meth.name = "<init>" := (name_of_methodNamed B.named B.method).1
  have hS : va_S A s.heap s.heap [] := va_S.rf
  have hl := lv_entry ([.ref a]) (n := 1) (Nat.le_of_ble_eq_true rfl)
  rw [lg_entry_eq]
  generalize (lg_sl ([.ref a]) ++ List.replicate (1 - (lg_sl ([.ref a])).length) Slot.unset).toArray = ls at hl ⊢
  have hl : lv_has ls 1 [(0, .ref a)] := hl
  have hin_X5 : ∀ w ∈ u_ws RX5 TX5 8, w ∈ wsX5_init := by decide +kernel
  have hin_X7 : ∀ w ∈ u_ws RX7 TX7 4, w ∈ wsX5_init := by decide +kernel
  have hw_0 := hts (.arrayClass .int) (by decide +kernel)
  have hw_1 := hts (.fieldLink RX5 9 "TwiceAsRich$Partings" "richest" "[I") (by decide +kernel)
  have hw_2 := hts (.classLink RX5 15 RX7) (by decide +kernel)
  have hw_3 := hts (.instantiable RX7 4) (by decide +kernel)
  have hw_4 := hts (.initialized RX7) (by decide +kernel)
  have hw_5 := hts (.fieldLink RX5 18 "TwiceAsRich$Partings" "parted" "LTwiceAsRich$Street;") (by decide +kernel)
  have hw_6 := hts (.fieldLink RX5 22 "TwiceAsRich$Partings" "before" "[I") (by decide +kernel)
  have hw_7 := hts (.classLink RX5 25 "[[I") (by decide +kernel)
  have hw_8 := hts (.fieldLink RX5 27 "TwiceAsRich$Partings" "suits" "[[I") (by decide +kernel)
  refine lv_aload_n hx hb dX5_init_0 rfl (lv_at hl 0 rfl) ?_
  refine W.objInit hx hb hown (hts (.methodLink RX5 3 objectInit) (by decide +kernel)) (hts (.instanceMethod objectInit) (by decide +kernel)) (hts (.code objectInit ⟨#[0xb1]⟩ 1 none) (by decide +kernel)) rfl (by rw [hml]; exact hl.1) rfl dX5_init_1 (Nat.le_of_ble_eq_true rfl) (Nat.le_of_ble_eq_true rfl) ?_
  refine W.eq (g2 := F0 m 4 ls []) rfl ?_
  refine lv_aload_n hx hb dX5_init_4 rfl (lv_at hl 0 rfl) ?_
  refine x_bipush (n := 6) hx hb (by decide +kernel) dX5_init_5 ?_
  refine l_newa (N := 6) hx hb hw_0 hK hP hD hS hA rfl (by decide) (Nat.le_of_ble_eq_true rfl) (Nat.le_of_ble_eq_true rfl) dX5_init_7 (fun q0 H hP hD hS => ?_)
  refine va_putF (D := g.1) (ci := 5) (v := .ref q0) (ty := (.array .int)) (C := RX5) (T := TX5) (N := 8) hx hb hts hin_X5 tyX5 tyX5_ok nmX5 hown hK.1 hP hD hS 1 rfl rfl 4 (by decide) hw_1 (fun _ h9 => h9) rfl hin rfl (by decide +kernel) rfl rfl (Nat.le_of_ble_eq_true rfl) dX5_init_9 (fun H locs hP hD hS => ?_)
  have hP : va_P g.1 vwCl ((q0, eI g 6) :: (a, .inr (5, [.int (iI 0), .int (iI 0), .int (iI 0), .int (iI 0), .ref q0, .null, .null, .null])) :: ws) H := hP
  have hD : va_D A ((q0, eI g 6) :: (a, .inr (5, [.int (iI 0), .int (iI 0), .int (iI 0), .int (iI 0), .ref q0, .null, .null, .null])) :: ws) := hD
  refine lv_aload_n hx hb dX5_init_12 rfl (lv_at hl 0 rfl) ?_
  refine va_new (D := g.1) (ci := 7) (fs := [.null, .null, .int (iI 0), .int (iI 0)]) (C := RX7) (T := TX7) (N := 4) hx hb hts hin_X7 tyX7 tyX7_ok hown hw_2 hw_3 hw_4 hK.1 hP hD hS hA rfl (fun j hj => by (have hj9 : j = 0 ∨ j = 1 ∨ j = 2 ∨ j = 3 := by omega); rcases hj9 with rfl | rfl | rfl | rfl <;> rfl) (Nat.le_of_ble_eq_true rfl) (Nat.le_of_ble_eq_true rfl) dX5_init_13 (fun q1 H hP hD hS => ?_)
  have hP := l_frP hP
  have hD := l_frD hD
  have hP : va_P g.1 vwCl ((q1, .inr (7, [.null, .null, .int (iI 0), .int (iI 0)])) :: (q0, eI g 6) :: (a, .inr (5, [.int (iI 0), .int (iI 0), .int (iI 0), .int (iI 0), .ref q0, .null, .null, .null])) :: ws) H := hP
  have hD : va_D A ((q1, .inr (7, [.null, .null, .int (iI 0), .int (iI 0)])) :: (q0, eI g 6) :: (a, .inr (5, [.int (iI 0), .int (iI 0), .int (iI 0), .int (iI 0), .ref q0, .null, .null, .null])) :: ws) := hD
  refine lv_dup hx hb dX5_init_16 rfl ?_
  refine l_clv (mc := 2) (ms := 18) (va_runI (As := []) (rest := [.ref q1, .ref a]) ⟨hx, hb, hml, hown, hts⟩ (c_X7_init l g A ((q0, eI g 6) :: (a, .inr (5, [.int (iI 0), .int (iI 0), .int (iI 0), .int (iI 0), .ref q0, .null, .null, .null])) :: ws) q1) (cwI 0 hts gX5_init_X7_init rfl rfl rfl (hts (.initialized RX7) (by decide +kernel)) (hts (.methodLink RX5 17 yX7_init) (by decide +kernel)) (hts (.instanceMethod yX7_init) (by decide +kernel)) rfl (by decide +kernel) ⟨Nat.le_of_ble_eq_true rfl, Nat.le_of_ble_eq_true rfl⟩) (m_preS hK hO hP hD hS hA) rfl rfl hl.1 rfl (lv_room (Nat.le_of_ble_eq_true rfl)) dX5_init_17 ⟨Nat.le_of_ble_eq_true rfl, Nat.le_of_ble_eq_true rfl⟩) hS (fun ws1 H locs hp hP hD hS => ?_)
  obtain ⟨q1_2, q0_2, hp⟩ := hp
  subst hp
  have hP : va_P g.1 vwCl ((q1_2, eI g 9) :: (q0_2, eQ g 9) :: (q1, .inr (7, [.ref q0_2, .ref q1_2, .int (iI 0), .int (iI 0)])) :: (q0, eI g 6) :: (a, .inr (5, [.int (iI 0), .int (iI 0), .int (iI 0), .int (iI 0), .ref q0, .null, .null, .null])) :: ws) H := hP
  have hD : va_D A ((q1_2, eI g 9) :: (q0_2, eQ g 9) :: (q1, .inr (7, [.ref q0_2, .ref q1_2, .int (iI 0), .int (iI 0)])) :: (q0, eI g 6) :: (a, .inr (5, [.int (iI 0), .int (iI 0), .int (iI 0), .int (iI 0), .ref q0, .null, .null, .null])) :: ws) := hD
  refine va_putF (D := g.1) (ci := 5) (v := .ref q1) (ty := (.object "TwiceAsRich$Street")) (C := RX5) (T := TX5) (N := 8) hx hb hts hin_X5 tyX5 tyX5_ok nmX5 hown hK.1 hP hD hS 4 rfl rfl 5 (by decide) hw_5 (fun _ h9 => h9) rfl hin rfl (by decide +kernel) rfl rfl (Nat.le_of_ble_eq_true rfl) dX5_init_20 (fun H locs hP hD hS => ?_)
  have hP : va_P g.1 vwCl ((q1_2, eI g 9) :: (q0_2, eQ g 9) :: (q1, .inr (7, [.ref q0_2, .ref q1_2, .int (iI 0), .int (iI 0)])) :: (q0, eI g 6) :: (a, .inr (5, [.int (iI 0), .int (iI 0), .int (iI 0), .int (iI 0), .ref q0, .ref q1, .null, .null])) :: ws) H := hP
  have hD : va_D A ((q1_2, eI g 9) :: (q0_2, eQ g 9) :: (q1, .inr (7, [.ref q0_2, .ref q1_2, .int (iI 0), .int (iI 0)])) :: (q0, eI g 6) :: (a, .inr (5, [.int (iI 0), .int (iI 0), .int (iI 0), .int (iI 0), .ref q0, .ref q1, .null, .null])) :: ws) := hD
  refine lv_aload_n hx hb dX5_init_23 rfl (lv_at hl 0 rfl) ?_
  refine x_bipush (n := 6) hx hb (by decide +kernel) dX5_init_24 ?_
  refine l_newa (N := 6) hx hb hw_0 hK hP hD hS hA rfl (by decide) (Nat.le_of_ble_eq_true rfl) (Nat.le_of_ble_eq_true rfl) dX5_init_26 (fun q3 H hP hD hS => ?_)
  refine va_putF (D := g.1) (ci := 5) (v := .ref q3) (ty := (.array .int)) (C := RX5) (T := TX5) (N := 8) hx hb hts hin_X5 tyX5 tyX5_ok nmX5 hown hK.1 hP hD hS 5 rfl rfl 6 (by decide) hw_6 (fun _ h9 => h9) rfl hin rfl (by decide +kernel) rfl rfl (Nat.le_of_ble_eq_true rfl) dX5_init_28 (fun H locs hP hD hS => ?_)
  have hP : va_P g.1 vwCl ((q3, eI g 6) :: (q1_2, eI g 9) :: (q0_2, eQ g 9) :: (q1, .inr (7, [.ref q0_2, .ref q1_2, .int (iI 0), .int (iI 0)])) :: (q0, eI g 6) :: (a, .inr (5, [.int (iI 0), .int (iI 0), .int (iI 0), .int (iI 0), .ref q0, .ref q1, .ref q3, .null])) :: ws) H := hP
  have hD : va_D A ((q3, eI g 6) :: (q1_2, eI g 9) :: (q0_2, eQ g 9) :: (q1, .inr (7, [.ref q0_2, .ref q1_2, .int (iI 0), .int (iI 0)])) :: (q0, eI g 6) :: (a, .inr (5, [.int (iI 0), .int (iI 0), .int (iI 0), .int (iI 0), .ref q0, .ref q1, .ref q3, .null])) :: ws) := hD
  refine lv_aload_n hx hb dX5_init_31 rfl (lv_at hl 0 rfl) ?_
  refine x_bipush (n := 6) hx hb (by decide +kernel) dX5_init_32 ?_
  refine x_bipush (n := 21) hx hb (by decide +kernel) dX5_init_34 ?_
  refine l_mna (N := 6) (K := 21) hx hb hown hw_7 hO hw_0 hK hP hD hS hA rfl rfl (by decide) (by decide) (Nat.le_of_ble_eq_true rfl) (Nat.le_of_ble_eq_true rfl) dX5_init_36 (fun q4 r4 H hP hD hS => ?_)
  have hP : va_P g.1 vwCl ((q4, eG g 6 r4) :: (r4 0, eI g 21) :: (r4 1, eI g 21) :: (r4 2, eI g 21) :: (r4 3, eI g 21) :: (r4 4, eI g 21) :: (r4 5, eI g 21) :: (q3, eI g 6) :: (q1_2, eI g 9) :: (q0_2, eQ g 9) :: (q1, .inr (7, [.ref q0_2, .ref q1_2, .int (iI 0), .int (iI 0)])) :: (q0, eI g 6) :: (a, .inr (5, [.int (iI 0), .int (iI 0), .int (iI 0), .int (iI 0), .ref q0, .ref q1, .ref q3, .null])) :: ws) H := hP
  have hD : va_D A ((q4, eG g 6 r4) :: (r4 0, eI g 21) :: (r4 1, eI g 21) :: (r4 2, eI g 21) :: (r4 3, eI g 21) :: (r4 4, eI g 21) :: (r4 5, eI g 21) :: (q3, eI g 6) :: (q1_2, eI g 9) :: (q0_2, eQ g 9) :: (q1, .inr (7, [.ref q0_2, .ref q1_2, .int (iI 0), .int (iI 0)])) :: (q0, eI g 6) :: (a, .inr (5, [.int (iI 0), .int (iI 0), .int (iI 0), .int (iI 0), .ref q0, .ref q1, .ref q3, .null])) :: ws) := hD
  refine va_putF (D := g.1) (ci := 5) (v := .ref q4) (ty := (.array (.array .int))) (C := RX5) (T := TX5) (N := 8) hx hb hts hin_X5 tyX5 tyX5_ok nmX5 hown hK.1 hP hD hS 12 rfl rfl 7 (by decide) hw_8 (fun _ h9 => h9) rfl hin rfl (by decide +kernel) rfl rfl (Nat.le_of_ble_eq_true rfl) dX5_init_40 (fun H locs hP hD hS => ?_)
  have hP : va_P g.1 vwCl ((q4, eG g 6 r4) :: (r4 0, eI g 21) :: (r4 1, eI g 21) :: (r4 2, eI g 21) :: (r4 3, eI g 21) :: (r4 4, eI g 21) :: (r4 5, eI g 21) :: (q3, eI g 6) :: (q1_2, eI g 9) :: (q0_2, eQ g 9) :: (q1, .inr (7, [.ref q0_2, .ref q1_2, .int (iI 0), .int (iI 0)])) :: (q0, eI g 6) :: (a, .inr (5, [.int (iI 0), .int (iI 0), .int (iI 0), .int (iI 0), .ref q0, .ref q1, .ref q3, .ref q4])) :: ws) H := hP
  have hD : va_D A ((q4, eG g 6 r4) :: (r4 0, eI g 21) :: (r4 1, eI g 21) :: (r4 2, eI g 21) :: (r4 3, eI g 21) :: (r4 4, eI g 21) :: (r4 5, eI g 21) :: (q3, eI g 6) :: (q1_2, eI g 9) :: (q0_2, eQ g 9) :: (q1, .inr (7, [.ref q0_2, .ref q1_2, .int (iI 0), .int (iI 0)])) :: (q0, eI g 6) :: (a, .inr (5, [.int (iI 0), .int (iI 0), .int (iI 0), .int (iI 0), .ref q0, .ref q1, .ref q3, .ref q4])) :: ws) := hD
  exact l_ret hx hb hr ⟨q4, r4, q3, q1_2, q0_2, q1, q0, rfl⟩ hP hD hS dX5_init_43 hlocks

set_option maxHeartbeats 4000000 in
set_option maxRecDepth 100000 in
theorem c_X11_init (l : Launch) (g : xG) (A : Nat → Prop) (ws : va_W) (a : Nat) : Met l yX11_init wsX11_init ({ frames := 6, cells := 37, slots := 1076, locals := 192 }) (va_Pc [.ref a] (m_Pre g A ((a, .inr (11, [.null, .null, .int (iI 0), .null, .null, .null, .null, .null, .null, .null, .null])) :: ws))) (l_Qv g A (fun w1 => ∃ (q14 : Nat) (r14 : Nat → Nat) (q13 : Nat) (q12 : Nat) (q11 : Nat) (q0_10 : Nat) (q9 : Nat) (q4_8 : Nat) (r4_8 : Nat → Nat) (q3_8 : Nat) (q1_2_8 : Nat) (q0_2_8 : Nat) (q1_8 : Nat) (q0_8 : Nat) (q7 : Nat) (q6 : Nat) (q1_5 : Nat) (q0_5 : Nat) (q4 : Nat) (q1_3 : Nat) (q0_3 : Nat) (q2 : Nat) (q1_1 : Nat) (q0_1 : Nat) (q0 : Nat), w1 = (q14, eG g 8 r14) :: (r14 0, eI g 100) :: (r14 1, eI g 100) :: (r14 2, eI g 100) :: (r14 3, eI g 100) :: (r14 4, eI g 100) :: (r14 5, eI g 100) :: (r14 6, eI g 100) :: (r14 7, eI g 100) :: (q13, eI g 8) :: (q12, .inl (g.2.1 0, 8, .inl (fun k => iI (zCopy (fun _ => (-1)) (fun _ => 0) ((8 : Nat) : Int) (k : Int))))) :: (q11, eQ g 8) :: (q0_10, eI g 0) :: (q9, .inr (8, [.ref q0_10, .int (iI 0), .int (iI 0)])) :: (q4_8, eG g 6 r4_8) :: (r4_8 0, eI g 21) :: (r4_8 1, eI g 21) :: (r4_8 2, eI g 21) :: (r4_8 3, eI g 21) :: (r4_8 4, eI g 21) :: (r4_8 5, eI g 21) :: (q3_8, eI g 6) :: (q1_2_8, eI g 9) :: (q0_2_8, eQ g 9) :: (q1_8, .inr (7, [.ref q0_2_8, .ref q1_2_8, .int (iI 0), .int (iI 0)])) :: (q0_8, eI g 6) :: (q7, .inr (5, [.int (iI 0), .int (iI 0), .int (iI 0), .int (iI 0), .ref q0_8, .ref q1_8, .ref q3_8, .ref q4_8])) :: (q6, .inr (3, [.int (iI 0)])) :: (q1_5, eI g 9) :: (q0_5, eQ g 9) :: (q4, .inr (7, [.ref q0_5, .ref q1_5, .int (iI 0), .int (iI 0)])) :: (q1_3, eI g 9) :: (q0_3, eQ g 9) :: (q2, .inr (7, [.ref q0_3, .ref q1_3, .int (iI 0), .int (iI 0)])) :: (q1_1, eI g 9) :: (q0_1, eQ g 9) :: (q0, .inr (7, [.ref q0_1, .ref q1_1, .int (iI 0), .int (iI 0)])) :: (a, .inr (11, [.ref q0, .ref q2, .int (iI 0), .ref q4, .ref q6, .ref q7, .ref q9, .ref q11, .ref q12, .ref q13, .ref q14])) :: ws)) 37 1076 A := by
  refine Met.ofW (cc := cX11_init) (maxL := 1) (ret := none) (by decide) rfl ?_
  intro p e s m args below meth c s₁ B hml hv
  obtain ⟨rfl, ⟨hP, hK, hD, hA⟩, hO⟩ := hv
  have hx := B.exec
  have hb := B.bytes
  have hr := B.returns
  have hts := atoms_spec (ws := wsX11_init) B.pre
  have hown : s.vm.findClass RX11 = some m.cls := findClass_of_methodNamed B.named
  have hlocks := B.notSynchronized
  have hin : meth.name = "<init>" := (name_of_methodNamed B.named B.method).1
  have hS : va_S A s.heap s.heap [] := va_S.rf
  have hl := lv_entry ([.ref a]) (n := 1) (Nat.le_of_ble_eq_true rfl)
  rw [lg_entry_eq]
  generalize (lg_sl ([.ref a]) ++ List.replicate (1 - (lg_sl ([.ref a])).length) Slot.unset).toArray = ls at hl ⊢
  have hl : lv_has ls 1 [(0, .ref a)] := hl
  have hin_X7 : ∀ w ∈ u_ws RX7 TX7 4, w ∈ wsX11_init := by decide +kernel
  have hin_X11 : ∀ w ∈ u_ws RX11 TX11 11, w ∈ wsX11_init := by decide +kernel
  have hin_X3 : ∀ w ∈ u_ws RX3 TX3 1, w ∈ wsX11_init := by decide +kernel
  have hin_X5 : ∀ w ∈ u_ws RX5 TX5 8, w ∈ wsX11_init := by decide +kernel
  have hin_X8 : ∀ w ∈ u_ws RX8 TX8 3, w ∈ wsX11_init := by decide +kernel
  have hw_0 := hts (.classLink RX11 7 RX7) (by decide +kernel)
  have hw_1 := hts (.instantiable RX7 4) (by decide +kernel)
  have hw_2 := hts (.initialized RX7) (by decide +kernel)
  have hw_3 := hts (.fieldLink RX11 10 "TwiceAsRich" "street" "LTwiceAsRich$Street;") (by decide +kernel)
  have hw_4 := hts (.fieldLink RX11 16 "TwiceAsRich" "image" "LTwiceAsRich$Street;") (by decide +kernel)
  have hw_5 := hts (.fieldLink RX11 19 "TwiceAsRich" "mind" "LTwiceAsRich$Street;") (by decide +kernel)
  have hw_6 := hts (.classLink RX11 22 RX3) (by decide +kernel)
  have hw_7 := hts (.instantiable RX3 1) (by decide +kernel)
  have hw_8 := hts (.initialized RX3) (by decide +kernel)
  have hw_9 := hts (.fieldLink RX11 27 "TwiceAsRich" "plainHouse" "LTwiceAsRich$House;") (by decide +kernel)
  have hw_10 := hts (.classLink RX11 31 RX5) (by decide +kernel)
  have hw_11 := hts (.instantiable RX5 8) (by decide +kernel)
  have hw_12 := hts (.initialized RX5) (by decide +kernel)
  have hw_13 := hts (.fieldLink RX11 34 "TwiceAsRich" "partings" "LTwiceAsRich$Partings;") (by decide +kernel)
  have hw_14 := hts (.classLink RX11 38 RX8) (by decide +kernel)
  have hw_15 := hts (.instantiable RX8 3) (by decide +kernel)
  have hw_16 := hts (.initialized RX8) (by decide +kernel)
  have hw_17 := hts (.fieldLink RX11 41 "TwiceAsRich" "text" "LTwiceAsRich$StreetText;") (by decide +kernel)
  have hw_18 := hts (.fieldLink RX11 45 "TwiceAsRich" "kept" "[LTwiceAsRich$House;") (by decide +kernel)
  have hw_19 := hts (.arrayClass .int) (by decide +kernel)
  have hw_20 := hts (.fieldLink RX11 49 "TwiceAsRich" "sorts" "[I") (by decide +kernel)
  have hw_21 := hts (.fieldLink RX11 53 "TwiceAsRich" "sizes" "[I") (by decide +kernel)
  have hw_22 := hts (.classLink RX11 56 "[[I") (by decide +kernel)
  have hw_23 := hts (.fieldLink RX11 58 "TwiceAsRich" "rows" "[[I") (by decide +kernel)
  refine lv_aload_n hx hb dX11_init_0 rfl (lv_at hl 0 rfl) ?_
  refine W.objInit hx hb hown (hts (.methodLink RX11 1 objectInit) (by decide +kernel)) (hts (.instanceMethod objectInit) (by decide +kernel)) (hts (.code objectInit ⟨#[0xb1]⟩ 1 none) (by decide +kernel)) rfl (by rw [hml]; exact hl.1) rfl dX11_init_1 (Nat.le_of_ble_eq_true rfl) (Nat.le_of_ble_eq_true rfl) ?_
  refine W.eq (g2 := F0 m 4 ls []) rfl ?_
  refine lv_aload_n hx hb dX11_init_4 rfl (lv_at hl 0 rfl) ?_
  refine va_new (D := g.1) (ci := 7) (fs := [.null, .null, .int (iI 0), .int (iI 0)]) (C := RX7) (T := TX7) (N := 4) hx hb hts hin_X7 tyX7 tyX7_ok hown hw_0 hw_1 hw_2 hK.1 hP hD hS hA rfl (fun j hj => by (have hj9 : j = 0 ∨ j = 1 ∨ j = 2 ∨ j = 3 := by omega); rcases hj9 with rfl | rfl | rfl | rfl <;> rfl) (Nat.le_of_ble_eq_true rfl) (Nat.le_of_ble_eq_true rfl) dX11_init_5 (fun q0 H hP hD hS => ?_)
  have hP := l_frP hP
  have hD := l_frD hD
  have hP : va_P g.1 vwCl ((q0, .inr (7, [.null, .null, .int (iI 0), .int (iI 0)])) :: (a, .inr (11, [.null, .null, .int (iI 0), .null, .null, .null, .null, .null, .null, .null, .null])) :: ws) H := hP
  have hD : va_D A ((q0, .inr (7, [.null, .null, .int (iI 0), .int (iI 0)])) :: (a, .inr (11, [.null, .null, .int (iI 0), .null, .null, .null, .null, .null, .null, .null, .null])) :: ws) := hD
  refine lv_dup hx hb dX11_init_8 rfl ?_
  refine l_clv (mc := 2) (ms := 18) (va_runI (As := []) (rest := [.ref q0, .ref a]) ⟨hx, hb, hml, hown, hts⟩ (c_X7_init l g A ((a, .inr (11, [.null, .null, .int (iI 0), .null, .null, .null, .null, .null, .null, .null, .null])) :: ws) q0) (cwI 0 hts gX11_init_X7_init rfl rfl rfl (hts (.initialized RX7) (by decide +kernel)) (hts (.methodLink RX11 9 yX7_init) (by decide +kernel)) (hts (.instanceMethod yX7_init) (by decide +kernel)) rfl (by decide +kernel) ⟨Nat.le_of_ble_eq_true rfl, Nat.le_of_ble_eq_true rfl⟩) (m_preS hK hO hP hD hS hA) rfl rfl hl.1 rfl (lv_room (Nat.le_of_ble_eq_true rfl)) dX11_init_9 ⟨Nat.le_of_ble_eq_true rfl, Nat.le_of_ble_eq_true rfl⟩) hS (fun ws1 H locs hp hP hD hS => ?_)
  obtain ⟨q1_1, q0_1, hp⟩ := hp
  subst hp
  have hP : va_P g.1 vwCl ((q1_1, eI g 9) :: (q0_1, eQ g 9) :: (q0, .inr (7, [.ref q0_1, .ref q1_1, .int (iI 0), .int (iI 0)])) :: (a, .inr (11, [.null, .null, .int (iI 0), .null, .null, .null, .null, .null, .null, .null, .null])) :: ws) H := hP
  have hD : va_D A ((q1_1, eI g 9) :: (q0_1, eQ g 9) :: (q0, .inr (7, [.ref q0_1, .ref q1_1, .int (iI 0), .int (iI 0)])) :: (a, .inr (11, [.null, .null, .int (iI 0), .null, .null, .null, .null, .null, .null, .null, .null])) :: ws) := hD
  refine va_putF (D := g.1) (ci := 11) (v := .ref q0) (ty := (.object "TwiceAsRich$Street")) (C := RX11) (T := TX11) (N := 11) hx hb hts hin_X11 tyX11 tyX11_ok nmX11 hown hK.1 hP hD hS 3 rfl rfl 0 (by decide) hw_3 (fun _ h9 => h9) rfl hin rfl (by decide +kernel) rfl rfl (Nat.le_of_ble_eq_true rfl) dX11_init_12 (fun H locs hP hD hS => ?_)
  have hP : va_P g.1 vwCl ((q1_1, eI g 9) :: (q0_1, eQ g 9) :: (q0, .inr (7, [.ref q0_1, .ref q1_1, .int (iI 0), .int (iI 0)])) :: (a, .inr (11, [.ref q0, .null, .int (iI 0), .null, .null, .null, .null, .null, .null, .null, .null])) :: ws) H := hP
  have hD : va_D A ((q1_1, eI g 9) :: (q0_1, eQ g 9) :: (q0, .inr (7, [.ref q0_1, .ref q1_1, .int (iI 0), .int (iI 0)])) :: (a, .inr (11, [.ref q0, .null, .int (iI 0), .null, .null, .null, .null, .null, .null, .null, .null])) :: ws) := hD
  refine lv_aload_n hx hb dX11_init_15 rfl (lv_at hl 0 rfl) ?_
  refine va_new (D := g.1) (ci := 7) (fs := [.null, .null, .int (iI 0), .int (iI 0)]) (C := RX7) (T := TX7) (N := 4) hx hb hts hin_X7 tyX7 tyX7_ok hown hw_0 hw_1 hw_2 hK.1 hP hD hS hA rfl (fun j hj => by (have hj9 : j = 0 ∨ j = 1 ∨ j = 2 ∨ j = 3 := by omega); rcases hj9 with rfl | rfl | rfl | rfl <;> rfl) (Nat.le_of_ble_eq_true rfl) (Nat.le_of_ble_eq_true rfl) dX11_init_16 (fun q2 H hP hD hS => ?_)
  have hP := l_frP hP
  have hD := l_frD hD
  have hP : va_P g.1 vwCl ((q2, .inr (7, [.null, .null, .int (iI 0), .int (iI 0)])) :: (q1_1, eI g 9) :: (q0_1, eQ g 9) :: (q0, .inr (7, [.ref q0_1, .ref q1_1, .int (iI 0), .int (iI 0)])) :: (a, .inr (11, [.ref q0, .null, .int (iI 0), .null, .null, .null, .null, .null, .null, .null, .null])) :: ws) H := hP
  have hD : va_D A ((q2, .inr (7, [.null, .null, .int (iI 0), .int (iI 0)])) :: (q1_1, eI g 9) :: (q0_1, eQ g 9) :: (q0, .inr (7, [.ref q0_1, .ref q1_1, .int (iI 0), .int (iI 0)])) :: (a, .inr (11, [.ref q0, .null, .int (iI 0), .null, .null, .null, .null, .null, .null, .null, .null])) :: ws) := hD
  refine lv_dup hx hb dX11_init_19 rfl ?_
  refine l_clv (mc := 2) (ms := 18) (va_runI (As := []) (rest := [.ref q2, .ref a]) ⟨hx, hb, hml, hown, hts⟩ (c_X7_init l g A ((q1_1, eI g 9) :: (q0_1, eQ g 9) :: (q0, .inr (7, [.ref q0_1, .ref q1_1, .int (iI 0), .int (iI 0)])) :: (a, .inr (11, [.ref q0, .null, .int (iI 0), .null, .null, .null, .null, .null, .null, .null, .null])) :: ws) q2) (cwI 0 hts gX11_init_X7_init rfl rfl rfl (hts (.initialized RX7) (by decide +kernel)) (hts (.methodLink RX11 9 yX7_init) (by decide +kernel)) (hts (.instanceMethod yX7_init) (by decide +kernel)) rfl (by decide +kernel) ⟨Nat.le_of_ble_eq_true rfl, Nat.le_of_ble_eq_true rfl⟩) (m_preS hK hO hP hD hS hA) rfl rfl hl.1 rfl (lv_room (Nat.le_of_ble_eq_true rfl)) dX11_init_20 ⟨Nat.le_of_ble_eq_true rfl, Nat.le_of_ble_eq_true rfl⟩) hS (fun ws1 H locs hp hP hD hS => ?_)
  obtain ⟨q1_3, q0_3, hp⟩ := hp
  subst hp
  have hP : va_P g.1 vwCl ((q1_3, eI g 9) :: (q0_3, eQ g 9) :: (q2, .inr (7, [.ref q0_3, .ref q1_3, .int (iI 0), .int (iI 0)])) :: (q1_1, eI g 9) :: (q0_1, eQ g 9) :: (q0, .inr (7, [.ref q0_1, .ref q1_1, .int (iI 0), .int (iI 0)])) :: (a, .inr (11, [.ref q0, .null, .int (iI 0), .null, .null, .null, .null, .null, .null, .null, .null])) :: ws) H := hP
  have hD : va_D A ((q1_3, eI g 9) :: (q0_3, eQ g 9) :: (q2, .inr (7, [.ref q0_3, .ref q1_3, .int (iI 0), .int (iI 0)])) :: (q1_1, eI g 9) :: (q0_1, eQ g 9) :: (q0, .inr (7, [.ref q0_1, .ref q1_1, .int (iI 0), .int (iI 0)])) :: (a, .inr (11, [.ref q0, .null, .int (iI 0), .null, .null, .null, .null, .null, .null, .null, .null])) :: ws) := hD
  refine va_putF (D := g.1) (ci := 11) (v := .ref q2) (ty := (.object "TwiceAsRich$Street")) (C := RX11) (T := TX11) (N := 11) hx hb hts hin_X11 tyX11 tyX11_ok nmX11 hown hK.1 hP hD hS 6 rfl rfl 1 (by decide) hw_4 (fun _ h9 => h9) rfl hin rfl (by decide +kernel) rfl rfl (Nat.le_of_ble_eq_true rfl) dX11_init_23 (fun H locs hP hD hS => ?_)
  have hP : va_P g.1 vwCl ((q1_3, eI g 9) :: (q0_3, eQ g 9) :: (q2, .inr (7, [.ref q0_3, .ref q1_3, .int (iI 0), .int (iI 0)])) :: (q1_1, eI g 9) :: (q0_1, eQ g 9) :: (q0, .inr (7, [.ref q0_1, .ref q1_1, .int (iI 0), .int (iI 0)])) :: (a, .inr (11, [.ref q0, .ref q2, .int (iI 0), .null, .null, .null, .null, .null, .null, .null, .null])) :: ws) H := hP
  have hD : va_D A ((q1_3, eI g 9) :: (q0_3, eQ g 9) :: (q2, .inr (7, [.ref q0_3, .ref q1_3, .int (iI 0), .int (iI 0)])) :: (q1_1, eI g 9) :: (q0_1, eQ g 9) :: (q0, .inr (7, [.ref q0_1, .ref q1_1, .int (iI 0), .int (iI 0)])) :: (a, .inr (11, [.ref q0, .ref q2, .int (iI 0), .null, .null, .null, .null, .null, .null, .null, .null])) :: ws) := hD
  refine lv_aload_n hx hb dX11_init_26 rfl (lv_at hl 0 rfl) ?_
  refine va_new (D := g.1) (ci := 7) (fs := [.null, .null, .int (iI 0), .int (iI 0)]) (C := RX7) (T := TX7) (N := 4) hx hb hts hin_X7 tyX7 tyX7_ok hown hw_0 hw_1 hw_2 hK.1 hP hD hS hA rfl (fun j hj => by (have hj9 : j = 0 ∨ j = 1 ∨ j = 2 ∨ j = 3 := by omega); rcases hj9 with rfl | rfl | rfl | rfl <;> rfl) (Nat.le_of_ble_eq_true rfl) (Nat.le_of_ble_eq_true rfl) dX11_init_27 (fun q4 H hP hD hS => ?_)
  have hP := l_frP hP
  have hD := l_frD hD
  have hP : va_P g.1 vwCl ((q4, .inr (7, [.null, .null, .int (iI 0), .int (iI 0)])) :: (q1_3, eI g 9) :: (q0_3, eQ g 9) :: (q2, .inr (7, [.ref q0_3, .ref q1_3, .int (iI 0), .int (iI 0)])) :: (q1_1, eI g 9) :: (q0_1, eQ g 9) :: (q0, .inr (7, [.ref q0_1, .ref q1_1, .int (iI 0), .int (iI 0)])) :: (a, .inr (11, [.ref q0, .ref q2, .int (iI 0), .null, .null, .null, .null, .null, .null, .null, .null])) :: ws) H := hP
  have hD : va_D A ((q4, .inr (7, [.null, .null, .int (iI 0), .int (iI 0)])) :: (q1_3, eI g 9) :: (q0_3, eQ g 9) :: (q2, .inr (7, [.ref q0_3, .ref q1_3, .int (iI 0), .int (iI 0)])) :: (q1_1, eI g 9) :: (q0_1, eQ g 9) :: (q0, .inr (7, [.ref q0_1, .ref q1_1, .int (iI 0), .int (iI 0)])) :: (a, .inr (11, [.ref q0, .ref q2, .int (iI 0), .null, .null, .null, .null, .null, .null, .null, .null])) :: ws) := hD
  refine lv_dup hx hb dX11_init_30 rfl ?_
  refine l_clv (mc := 2) (ms := 18) (va_runI (As := []) (rest := [.ref q4, .ref a]) ⟨hx, hb, hml, hown, hts⟩ (c_X7_init l g A ((q1_3, eI g 9) :: (q0_3, eQ g 9) :: (q2, .inr (7, [.ref q0_3, .ref q1_3, .int (iI 0), .int (iI 0)])) :: (q1_1, eI g 9) :: (q0_1, eQ g 9) :: (q0, .inr (7, [.ref q0_1, .ref q1_1, .int (iI 0), .int (iI 0)])) :: (a, .inr (11, [.ref q0, .ref q2, .int (iI 0), .null, .null, .null, .null, .null, .null, .null, .null])) :: ws) q4) (cwI 0 hts gX11_init_X7_init rfl rfl rfl (hts (.initialized RX7) (by decide +kernel)) (hts (.methodLink RX11 9 yX7_init) (by decide +kernel)) (hts (.instanceMethod yX7_init) (by decide +kernel)) rfl (by decide +kernel) ⟨Nat.le_of_ble_eq_true rfl, Nat.le_of_ble_eq_true rfl⟩) (m_preS hK hO hP hD hS hA) rfl rfl hl.1 rfl (lv_room (Nat.le_of_ble_eq_true rfl)) dX11_init_31 ⟨Nat.le_of_ble_eq_true rfl, Nat.le_of_ble_eq_true rfl⟩) hS (fun ws1 H locs hp hP hD hS => ?_)
  obtain ⟨q1_5, q0_5, hp⟩ := hp
  subst hp
  have hP : va_P g.1 vwCl ((q1_5, eI g 9) :: (q0_5, eQ g 9) :: (q4, .inr (7, [.ref q0_5, .ref q1_5, .int (iI 0), .int (iI 0)])) :: (q1_3, eI g 9) :: (q0_3, eQ g 9) :: (q2, .inr (7, [.ref q0_3, .ref q1_3, .int (iI 0), .int (iI 0)])) :: (q1_1, eI g 9) :: (q0_1, eQ g 9) :: (q0, .inr (7, [.ref q0_1, .ref q1_1, .int (iI 0), .int (iI 0)])) :: (a, .inr (11, [.ref q0, .ref q2, .int (iI 0), .null, .null, .null, .null, .null, .null, .null, .null])) :: ws) H := hP
  have hD : va_D A ((q1_5, eI g 9) :: (q0_5, eQ g 9) :: (q4, .inr (7, [.ref q0_5, .ref q1_5, .int (iI 0), .int (iI 0)])) :: (q1_3, eI g 9) :: (q0_3, eQ g 9) :: (q2, .inr (7, [.ref q0_3, .ref q1_3, .int (iI 0), .int (iI 0)])) :: (q1_1, eI g 9) :: (q0_1, eQ g 9) :: (q0, .inr (7, [.ref q0_1, .ref q1_1, .int (iI 0), .int (iI 0)])) :: (a, .inr (11, [.ref q0, .ref q2, .int (iI 0), .null, .null, .null, .null, .null, .null, .null, .null])) :: ws) := hD
  refine va_putF (D := g.1) (ci := 11) (v := .ref q4) (ty := (.object "TwiceAsRich$Street")) (C := RX11) (T := TX11) (N := 11) hx hb hts hin_X11 tyX11 tyX11_ok nmX11 hown hK.1 hP hD hS 9 rfl rfl 3 (by decide) hw_5 (fun _ h9 => h9) rfl hin rfl (by decide +kernel) rfl rfl (Nat.le_of_ble_eq_true rfl) dX11_init_34 (fun H locs hP hD hS => ?_)
  have hP : va_P g.1 vwCl ((q1_5, eI g 9) :: (q0_5, eQ g 9) :: (q4, .inr (7, [.ref q0_5, .ref q1_5, .int (iI 0), .int (iI 0)])) :: (q1_3, eI g 9) :: (q0_3, eQ g 9) :: (q2, .inr (7, [.ref q0_3, .ref q1_3, .int (iI 0), .int (iI 0)])) :: (q1_1, eI g 9) :: (q0_1, eQ g 9) :: (q0, .inr (7, [.ref q0_1, .ref q1_1, .int (iI 0), .int (iI 0)])) :: (a, .inr (11, [.ref q0, .ref q2, .int (iI 0), .ref q4, .null, .null, .null, .null, .null, .null, .null])) :: ws) H := hP
  have hD : va_D A ((q1_5, eI g 9) :: (q0_5, eQ g 9) :: (q4, .inr (7, [.ref q0_5, .ref q1_5, .int (iI 0), .int (iI 0)])) :: (q1_3, eI g 9) :: (q0_3, eQ g 9) :: (q2, .inr (7, [.ref q0_3, .ref q1_3, .int (iI 0), .int (iI 0)])) :: (q1_1, eI g 9) :: (q0_1, eQ g 9) :: (q0, .inr (7, [.ref q0_1, .ref q1_1, .int (iI 0), .int (iI 0)])) :: (a, .inr (11, [.ref q0, .ref q2, .int (iI 0), .ref q4, .null, .null, .null, .null, .null, .null, .null])) :: ws) := hD
  refine lv_aload_n hx hb dX11_init_37 rfl (lv_at hl 0 rfl) ?_
  refine va_new (D := g.1) (ci := 3) (fs := [.int (iI 0)]) (C := RX3) (T := TX3) (N := 1) hx hb hts hin_X3 tyX3 tyX3_ok hown hw_6 hw_7 hw_8 hK.1 hP hD hS hA rfl (fun j hj => by (have hj9 : j = 0 := by omega); rcases hj9 with rfl <;> rfl) (Nat.le_of_ble_eq_true rfl) (Nat.le_of_ble_eq_true rfl) dX11_init_38 (fun q6 H hP hD hS => ?_)
  have hP := l_frP hP
  have hD := l_frD hD
  have hP : va_P g.1 vwCl ((q6, .inr (3, [.int (iI 0)])) :: (q1_5, eI g 9) :: (q0_5, eQ g 9) :: (q4, .inr (7, [.ref q0_5, .ref q1_5, .int (iI 0), .int (iI 0)])) :: (q1_3, eI g 9) :: (q0_3, eQ g 9) :: (q2, .inr (7, [.ref q0_3, .ref q1_3, .int (iI 0), .int (iI 0)])) :: (q1_1, eI g 9) :: (q0_1, eQ g 9) :: (q0, .inr (7, [.ref q0_1, .ref q1_1, .int (iI 0), .int (iI 0)])) :: (a, .inr (11, [.ref q0, .ref q2, .int (iI 0), .ref q4, .null, .null, .null, .null, .null, .null, .null])) :: ws) H := hP
  have hD : va_D A ((q6, .inr (3, [.int (iI 0)])) :: (q1_5, eI g 9) :: (q0_5, eQ g 9) :: (q4, .inr (7, [.ref q0_5, .ref q1_5, .int (iI 0), .int (iI 0)])) :: (q1_3, eI g 9) :: (q0_3, eQ g 9) :: (q2, .inr (7, [.ref q0_3, .ref q1_3, .int (iI 0), .int (iI 0)])) :: (q1_1, eI g 9) :: (q0_1, eQ g 9) :: (q0, .inr (7, [.ref q0_1, .ref q1_1, .int (iI 0), .int (iI 0)])) :: (a, .inr (11, [.ref q0, .ref q2, .int (iI 0), .ref q4, .null, .null, .null, .null, .null, .null, .null])) :: ws) := hD
  refine lv_dup hx hb dX11_init_41 rfl ?_
  refine x_iconst hx hb dX11_init_42 ?_
  refine l_clv (mc := 0) (ms := 0) (va_runI (As := [.int (iI 0)]) (rest := [.ref q6, .ref a]) ⟨hx, hb, hml, hown, hts⟩ (c_X3_init l g A ((q6, .inr (3, [.int (iI 0)])) :: (q1_5, eI g 9) :: (q0_5, eQ g 9) :: (q4, .inr (7, [.ref q0_5, .ref q1_5, .int (iI 0), .int (iI 0)])) :: (q1_3, eI g 9) :: (q0_3, eQ g 9) :: (q2, .inr (7, [.ref q0_3, .ref q1_3, .int (iI 0), .int (iI 0)])) :: (q1_1, eI g 9) :: (q0_1, eQ g 9) :: (q0, .inr (7, [.ref q0_1, .ref q1_1, .int (iI 0), .int (iI 0)])) :: (a, .inr (11, [.ref q0, .ref q2, .int (iI 0), .ref q4, .null, .null, .null, .null, .null, .null, .null])) :: ws) 0 q6 0 (.int (iI 0)) rfl 0) (cwI 1 hts gX11_init_X3_init rfl rfl rfl (hts (.initialized RX3) (by decide +kernel)) (hts (.methodLink RX11 24 yX3_init) (by decide +kernel)) (hts (.instanceMethod yX3_init) (by decide +kernel)) rfl (by decide +kernel) ⟨Nat.le_of_ble_eq_true rfl, Nat.le_of_ble_eq_true rfl⟩) (l_preS hK hP hD hS hA) rfl rfl hl.1 rfl (lv_room (Nat.le_of_ble_eq_true rfl)) dX11_init_43 ⟨Nat.le_of_ble_eq_true rfl, Nat.le_of_ble_eq_true rfl⟩) hS (fun ws1 H locs hp hP hD hS => ?_)
  subst hp
  have hP : va_P g.1 vwCl ((q6, .inr (3, [.int (iI 0)])) :: (q1_5, eI g 9) :: (q0_5, eQ g 9) :: (q4, .inr (7, [.ref q0_5, .ref q1_5, .int (iI 0), .int (iI 0)])) :: (q1_3, eI g 9) :: (q0_3, eQ g 9) :: (q2, .inr (7, [.ref q0_3, .ref q1_3, .int (iI 0), .int (iI 0)])) :: (q1_1, eI g 9) :: (q0_1, eQ g 9) :: (q0, .inr (7, [.ref q0_1, .ref q1_1, .int (iI 0), .int (iI 0)])) :: (a, .inr (11, [.ref q0, .ref q2, .int (iI 0), .ref q4, .null, .null, .null, .null, .null, .null, .null])) :: ws) H := hP
  have hD : va_D A ((q6, .inr (3, [.int (iI 0)])) :: (q1_5, eI g 9) :: (q0_5, eQ g 9) :: (q4, .inr (7, [.ref q0_5, .ref q1_5, .int (iI 0), .int (iI 0)])) :: (q1_3, eI g 9) :: (q0_3, eQ g 9) :: (q2, .inr (7, [.ref q0_3, .ref q1_3, .int (iI 0), .int (iI 0)])) :: (q1_1, eI g 9) :: (q0_1, eQ g 9) :: (q0, .inr (7, [.ref q0_1, .ref q1_1, .int (iI 0), .int (iI 0)])) :: (a, .inr (11, [.ref q0, .ref q2, .int (iI 0), .ref q4, .null, .null, .null, .null, .null, .null, .null])) :: ws) := hD
  refine va_putF (D := g.1) (ci := 11) (v := .ref q6) (ty := (.object "TwiceAsRich$House")) (C := RX11) (T := TX11) (N := 11) hx hb hts hin_X11 tyX11 tyX11_ok nmX11 hown hK.1 hP hD hS 10 rfl rfl 4 (by decide) hw_9 (fun _ h9 => h9) rfl hin rfl (by decide +kernel) rfl rfl (Nat.le_of_ble_eq_true rfl) dX11_init_46 (fun H locs hP hD hS => ?_)
  have hP : va_P g.1 vwCl ((q6, .inr (3, [.int (iI 0)])) :: (q1_5, eI g 9) :: (q0_5, eQ g 9) :: (q4, .inr (7, [.ref q0_5, .ref q1_5, .int (iI 0), .int (iI 0)])) :: (q1_3, eI g 9) :: (q0_3, eQ g 9) :: (q2, .inr (7, [.ref q0_3, .ref q1_3, .int (iI 0), .int (iI 0)])) :: (q1_1, eI g 9) :: (q0_1, eQ g 9) :: (q0, .inr (7, [.ref q0_1, .ref q1_1, .int (iI 0), .int (iI 0)])) :: (a, .inr (11, [.ref q0, .ref q2, .int (iI 0), .ref q4, .ref q6, .null, .null, .null, .null, .null, .null])) :: ws) H := hP
  have hD : va_D A ((q6, .inr (3, [.int (iI 0)])) :: (q1_5, eI g 9) :: (q0_5, eQ g 9) :: (q4, .inr (7, [.ref q0_5, .ref q1_5, .int (iI 0), .int (iI 0)])) :: (q1_3, eI g 9) :: (q0_3, eQ g 9) :: (q2, .inr (7, [.ref q0_3, .ref q1_3, .int (iI 0), .int (iI 0)])) :: (q1_1, eI g 9) :: (q0_1, eQ g 9) :: (q0, .inr (7, [.ref q0_1, .ref q1_1, .int (iI 0), .int (iI 0)])) :: (a, .inr (11, [.ref q0, .ref q2, .int (iI 0), .ref q4, .ref q6, .null, .null, .null, .null, .null, .null])) :: ws) := hD
  refine lv_aload_n hx hb dX11_init_49 rfl (lv_at hl 0 rfl) ?_
  refine va_new (D := g.1) (ci := 5) (fs := [.int (iI 0), .int (iI 0), .int (iI 0), .int (iI 0), .null, .null, .null, .null]) (C := RX5) (T := TX5) (N := 8) hx hb hts hin_X5 tyX5 tyX5_ok hown hw_10 hw_11 hw_12 hK.1 hP hD hS hA rfl (fun j hj => by (have hj9 : j = 0 ∨ j = 1 ∨ j = 2 ∨ j = 3 ∨ j = 4 ∨ j = 5 ∨ j = 6 ∨ j = 7 := by omega); rcases hj9 with rfl | rfl | rfl | rfl | rfl | rfl | rfl | rfl <;> rfl) (Nat.le_of_ble_eq_true rfl) (Nat.le_of_ble_eq_true rfl) dX11_init_50 (fun q7 H hP hD hS => ?_)
  have hP := l_frP hP
  have hD := l_frD hD
  have hP : va_P g.1 vwCl ((q7, .inr (5, [.int (iI 0), .int (iI 0), .int (iI 0), .int (iI 0), .null, .null, .null, .null])) :: (q6, .inr (3, [.int (iI 0)])) :: (q1_5, eI g 9) :: (q0_5, eQ g 9) :: (q4, .inr (7, [.ref q0_5, .ref q1_5, .int (iI 0), .int (iI 0)])) :: (q1_3, eI g 9) :: (q0_3, eQ g 9) :: (q2, .inr (7, [.ref q0_3, .ref q1_3, .int (iI 0), .int (iI 0)])) :: (q1_1, eI g 9) :: (q0_1, eQ g 9) :: (q0, .inr (7, [.ref q0_1, .ref q1_1, .int (iI 0), .int (iI 0)])) :: (a, .inr (11, [.ref q0, .ref q2, .int (iI 0), .ref q4, .ref q6, .null, .null, .null, .null, .null, .null])) :: ws) H := hP
  have hD : va_D A ((q7, .inr (5, [.int (iI 0), .int (iI 0), .int (iI 0), .int (iI 0), .null, .null, .null, .null])) :: (q6, .inr (3, [.int (iI 0)])) :: (q1_5, eI g 9) :: (q0_5, eQ g 9) :: (q4, .inr (7, [.ref q0_5, .ref q1_5, .int (iI 0), .int (iI 0)])) :: (q1_3, eI g 9) :: (q0_3, eQ g 9) :: (q2, .inr (7, [.ref q0_3, .ref q1_3, .int (iI 0), .int (iI 0)])) :: (q1_1, eI g 9) :: (q0_1, eQ g 9) :: (q0, .inr (7, [.ref q0_1, .ref q1_1, .int (iI 0), .int (iI 0)])) :: (a, .inr (11, [.ref q0, .ref q2, .int (iI 0), .ref q4, .ref q6, .null, .null, .null, .null, .null, .null])) :: ws) := hD
  refine lv_dup hx hb dX11_init_53 rfl ?_
  refine l_clv (mc := 12) (ms := 166) (va_runI (As := []) (rest := [.ref q7, .ref a]) ⟨hx, hb, hml, hown, hts⟩ (c_X5_init l g A ((q6, .inr (3, [.int (iI 0)])) :: (q1_5, eI g 9) :: (q0_5, eQ g 9) :: (q4, .inr (7, [.ref q0_5, .ref q1_5, .int (iI 0), .int (iI 0)])) :: (q1_3, eI g 9) :: (q0_3, eQ g 9) :: (q2, .inr (7, [.ref q0_3, .ref q1_3, .int (iI 0), .int (iI 0)])) :: (q1_1, eI g 9) :: (q0_1, eQ g 9) :: (q0, .inr (7, [.ref q0_1, .ref q1_1, .int (iI 0), .int (iI 0)])) :: (a, .inr (11, [.ref q0, .ref q2, .int (iI 0), .ref q4, .ref q6, .null, .null, .null, .null, .null, .null])) :: ws) q7) (cwI 0 hts gX11_init_X5_init rfl rfl rfl (hts (.initialized RX5) (by decide +kernel)) (hts (.methodLink RX11 33 yX5_init) (by decide +kernel)) (hts (.instanceMethod yX5_init) (by decide +kernel)) rfl (by decide +kernel) ⟨Nat.le_of_ble_eq_true rfl, Nat.le_of_ble_eq_true rfl⟩) (m_preS hK hO hP hD hS hA) rfl rfl hl.1 rfl (lv_room (Nat.le_of_ble_eq_true rfl)) dX11_init_54 ⟨Nat.le_of_ble_eq_true rfl, Nat.le_of_ble_eq_true rfl⟩) hS (fun ws1 H locs hp hP hD hS => ?_)
  obtain ⟨q4_8, r4_8, q3_8, q1_2_8, q0_2_8, q1_8, q0_8, hp⟩ := hp
  subst hp
  have hP : va_P g.1 vwCl ((q4_8, eG g 6 r4_8) :: (r4_8 0, eI g 21) :: (r4_8 1, eI g 21) :: (r4_8 2, eI g 21) :: (r4_8 3, eI g 21) :: (r4_8 4, eI g 21) :: (r4_8 5, eI g 21) :: (q3_8, eI g 6) :: (q1_2_8, eI g 9) :: (q0_2_8, eQ g 9) :: (q1_8, .inr (7, [.ref q0_2_8, .ref q1_2_8, .int (iI 0), .int (iI 0)])) :: (q0_8, eI g 6) :: (q7, .inr (5, [.int (iI 0), .int (iI 0), .int (iI 0), .int (iI 0), .ref q0_8, .ref q1_8, .ref q3_8, .ref q4_8])) :: (q6, .inr (3, [.int (iI 0)])) :: (q1_5, eI g 9) :: (q0_5, eQ g 9) :: (q4, .inr (7, [.ref q0_5, .ref q1_5, .int (iI 0), .int (iI 0)])) :: (q1_3, eI g 9) :: (q0_3, eQ g 9) :: (q2, .inr (7, [.ref q0_3, .ref q1_3, .int (iI 0), .int (iI 0)])) :: (q1_1, eI g 9) :: (q0_1, eQ g 9) :: (q0, .inr (7, [.ref q0_1, .ref q1_1, .int (iI 0), .int (iI 0)])) :: (a, .inr (11, [.ref q0, .ref q2, .int (iI 0), .ref q4, .ref q6, .null, .null, .null, .null, .null, .null])) :: ws) H := hP
  have hD : va_D A ((q4_8, eG g 6 r4_8) :: (r4_8 0, eI g 21) :: (r4_8 1, eI g 21) :: (r4_8 2, eI g 21) :: (r4_8 3, eI g 21) :: (r4_8 4, eI g 21) :: (r4_8 5, eI g 21) :: (q3_8, eI g 6) :: (q1_2_8, eI g 9) :: (q0_2_8, eQ g 9) :: (q1_8, .inr (7, [.ref q0_2_8, .ref q1_2_8, .int (iI 0), .int (iI 0)])) :: (q0_8, eI g 6) :: (q7, .inr (5, [.int (iI 0), .int (iI 0), .int (iI 0), .int (iI 0), .ref q0_8, .ref q1_8, .ref q3_8, .ref q4_8])) :: (q6, .inr (3, [.int (iI 0)])) :: (q1_5, eI g 9) :: (q0_5, eQ g 9) :: (q4, .inr (7, [.ref q0_5, .ref q1_5, .int (iI 0), .int (iI 0)])) :: (q1_3, eI g 9) :: (q0_3, eQ g 9) :: (q2, .inr (7, [.ref q0_3, .ref q1_3, .int (iI 0), .int (iI 0)])) :: (q1_1, eI g 9) :: (q0_1, eQ g 9) :: (q0, .inr (7, [.ref q0_1, .ref q1_1, .int (iI 0), .int (iI 0)])) :: (a, .inr (11, [.ref q0, .ref q2, .int (iI 0), .ref q4, .ref q6, .null, .null, .null, .null, .null, .null])) :: ws) := hD
  refine va_putF (D := g.1) (ci := 11) (v := .ref q7) (ty := (.object "TwiceAsRich$Partings")) (C := RX11) (T := TX11) (N := 11) hx hb hts hin_X11 tyX11 tyX11_ok nmX11 hown hK.1 hP hD hS 23 rfl rfl 5 (by decide) hw_13 (fun _ h9 => h9) rfl hin rfl (by decide +kernel) rfl rfl (Nat.le_of_ble_eq_true rfl) dX11_init_57 (fun H locs hP hD hS => ?_)
  have hP : va_P g.1 vwCl ((q4_8, eG g 6 r4_8) :: (r4_8 0, eI g 21) :: (r4_8 1, eI g 21) :: (r4_8 2, eI g 21) :: (r4_8 3, eI g 21) :: (r4_8 4, eI g 21) :: (r4_8 5, eI g 21) :: (q3_8, eI g 6) :: (q1_2_8, eI g 9) :: (q0_2_8, eQ g 9) :: (q1_8, .inr (7, [.ref q0_2_8, .ref q1_2_8, .int (iI 0), .int (iI 0)])) :: (q0_8, eI g 6) :: (q7, .inr (5, [.int (iI 0), .int (iI 0), .int (iI 0), .int (iI 0), .ref q0_8, .ref q1_8, .ref q3_8, .ref q4_8])) :: (q6, .inr (3, [.int (iI 0)])) :: (q1_5, eI g 9) :: (q0_5, eQ g 9) :: (q4, .inr (7, [.ref q0_5, .ref q1_5, .int (iI 0), .int (iI 0)])) :: (q1_3, eI g 9) :: (q0_3, eQ g 9) :: (q2, .inr (7, [.ref q0_3, .ref q1_3, .int (iI 0), .int (iI 0)])) :: (q1_1, eI g 9) :: (q0_1, eQ g 9) :: (q0, .inr (7, [.ref q0_1, .ref q1_1, .int (iI 0), .int (iI 0)])) :: (a, .inr (11, [.ref q0, .ref q2, .int (iI 0), .ref q4, .ref q6, .ref q7, .null, .null, .null, .null, .null])) :: ws) H := hP
  have hD : va_D A ((q4_8, eG g 6 r4_8) :: (r4_8 0, eI g 21) :: (r4_8 1, eI g 21) :: (r4_8 2, eI g 21) :: (r4_8 3, eI g 21) :: (r4_8 4, eI g 21) :: (r4_8 5, eI g 21) :: (q3_8, eI g 6) :: (q1_2_8, eI g 9) :: (q0_2_8, eQ g 9) :: (q1_8, .inr (7, [.ref q0_2_8, .ref q1_2_8, .int (iI 0), .int (iI 0)])) :: (q0_8, eI g 6) :: (q7, .inr (5, [.int (iI 0), .int (iI 0), .int (iI 0), .int (iI 0), .ref q0_8, .ref q1_8, .ref q3_8, .ref q4_8])) :: (q6, .inr (3, [.int (iI 0)])) :: (q1_5, eI g 9) :: (q0_5, eQ g 9) :: (q4, .inr (7, [.ref q0_5, .ref q1_5, .int (iI 0), .int (iI 0)])) :: (q1_3, eI g 9) :: (q0_3, eQ g 9) :: (q2, .inr (7, [.ref q0_3, .ref q1_3, .int (iI 0), .int (iI 0)])) :: (q1_1, eI g 9) :: (q0_1, eQ g 9) :: (q0, .inr (7, [.ref q0_1, .ref q1_1, .int (iI 0), .int (iI 0)])) :: (a, .inr (11, [.ref q0, .ref q2, .int (iI 0), .ref q4, .ref q6, .ref q7, .null, .null, .null, .null, .null])) :: ws) := hD
  refine lv_aload_n hx hb dX11_init_60 rfl (lv_at hl 0 rfl) ?_
  refine va_new (D := g.1) (ci := 8) (fs := [.null, .int (iI 0), .int (iI 0)]) (C := RX8) (T := TX8) (N := 3) hx hb hts hin_X8 tyX8 tyX8_ok hown hw_14 hw_15 hw_16 hK.1 hP hD hS hA rfl (fun j hj => by (have hj9 : j = 0 ∨ j = 1 ∨ j = 2 := by omega); rcases hj9 with rfl | rfl | rfl <;> rfl) (Nat.le_of_ble_eq_true rfl) (Nat.le_of_ble_eq_true rfl) dX11_init_61 (fun q9 H hP hD hS => ?_)
  have hP := l_frP hP
  have hD := l_frD hD
  have hP : va_P g.1 vwCl ((q9, .inr (8, [.null, .int (iI 0), .int (iI 0)])) :: (q4_8, eG g 6 r4_8) :: (r4_8 0, eI g 21) :: (r4_8 1, eI g 21) :: (r4_8 2, eI g 21) :: (r4_8 3, eI g 21) :: (r4_8 4, eI g 21) :: (r4_8 5, eI g 21) :: (q3_8, eI g 6) :: (q1_2_8, eI g 9) :: (q0_2_8, eQ g 9) :: (q1_8, .inr (7, [.ref q0_2_8, .ref q1_2_8, .int (iI 0), .int (iI 0)])) :: (q0_8, eI g 6) :: (q7, .inr (5, [.int (iI 0), .int (iI 0), .int (iI 0), .int (iI 0), .ref q0_8, .ref q1_8, .ref q3_8, .ref q4_8])) :: (q6, .inr (3, [.int (iI 0)])) :: (q1_5, eI g 9) :: (q0_5, eQ g 9) :: (q4, .inr (7, [.ref q0_5, .ref q1_5, .int (iI 0), .int (iI 0)])) :: (q1_3, eI g 9) :: (q0_3, eQ g 9) :: (q2, .inr (7, [.ref q0_3, .ref q1_3, .int (iI 0), .int (iI 0)])) :: (q1_1, eI g 9) :: (q0_1, eQ g 9) :: (q0, .inr (7, [.ref q0_1, .ref q1_1, .int (iI 0), .int (iI 0)])) :: (a, .inr (11, [.ref q0, .ref q2, .int (iI 0), .ref q4, .ref q6, .ref q7, .null, .null, .null, .null, .null])) :: ws) H := hP
  have hD : va_D A ((q9, .inr (8, [.null, .int (iI 0), .int (iI 0)])) :: (q4_8, eG g 6 r4_8) :: (r4_8 0, eI g 21) :: (r4_8 1, eI g 21) :: (r4_8 2, eI g 21) :: (r4_8 3, eI g 21) :: (r4_8 4, eI g 21) :: (r4_8 5, eI g 21) :: (q3_8, eI g 6) :: (q1_2_8, eI g 9) :: (q0_2_8, eQ g 9) :: (q1_8, .inr (7, [.ref q0_2_8, .ref q1_2_8, .int (iI 0), .int (iI 0)])) :: (q0_8, eI g 6) :: (q7, .inr (5, [.int (iI 0), .int (iI 0), .int (iI 0), .int (iI 0), .ref q0_8, .ref q1_8, .ref q3_8, .ref q4_8])) :: (q6, .inr (3, [.int (iI 0)])) :: (q1_5, eI g 9) :: (q0_5, eQ g 9) :: (q4, .inr (7, [.ref q0_5, .ref q1_5, .int (iI 0), .int (iI 0)])) :: (q1_3, eI g 9) :: (q0_3, eQ g 9) :: (q2, .inr (7, [.ref q0_3, .ref q1_3, .int (iI 0), .int (iI 0)])) :: (q1_1, eI g 9) :: (q0_1, eQ g 9) :: (q0, .inr (7, [.ref q0_1, .ref q1_1, .int (iI 0), .int (iI 0)])) :: (a, .inr (11, [.ref q0, .ref q2, .int (iI 0), .ref q4, .ref q6, .ref q7, .null, .null, .null, .null, .null])) :: ws) := hD
  refine lv_dup hx hb dX11_init_64 rfl ?_
  refine l_clv (mc := 1) (ms := 0) (va_runI (As := []) (rest := [.ref q9, .ref a]) ⟨hx, hb, hml, hown, hts⟩ (c_X8_init l g A ((q4_8, eG g 6 r4_8) :: (r4_8 0, eI g 21) :: (r4_8 1, eI g 21) :: (r4_8 2, eI g 21) :: (r4_8 3, eI g 21) :: (r4_8 4, eI g 21) :: (r4_8 5, eI g 21) :: (q3_8, eI g 6) :: (q1_2_8, eI g 9) :: (q0_2_8, eQ g 9) :: (q1_8, .inr (7, [.ref q0_2_8, .ref q1_2_8, .int (iI 0), .int (iI 0)])) :: (q0_8, eI g 6) :: (q7, .inr (5, [.int (iI 0), .int (iI 0), .int (iI 0), .int (iI 0), .ref q0_8, .ref q1_8, .ref q3_8, .ref q4_8])) :: (q6, .inr (3, [.int (iI 0)])) :: (q1_5, eI g 9) :: (q0_5, eQ g 9) :: (q4, .inr (7, [.ref q0_5, .ref q1_5, .int (iI 0), .int (iI 0)])) :: (q1_3, eI g 9) :: (q0_3, eQ g 9) :: (q2, .inr (7, [.ref q0_3, .ref q1_3, .int (iI 0), .int (iI 0)])) :: (q1_1, eI g 9) :: (q0_1, eQ g 9) :: (q0, .inr (7, [.ref q0_1, .ref q1_1, .int (iI 0), .int (iI 0)])) :: (a, .inr (11, [.ref q0, .ref q2, .int (iI 0), .ref q4, .ref q6, .ref q7, .null, .null, .null, .null, .null])) :: ws) q9) (cwI 0 hts gX11_init_X8_init rfl rfl rfl (hts (.initialized RX8) (by decide +kernel)) (hts (.methodLink RX11 40 yX8_init) (by decide +kernel)) (hts (.instanceMethod yX8_init) (by decide +kernel)) rfl (by decide +kernel) ⟨Nat.le_of_ble_eq_true rfl, Nat.le_of_ble_eq_true rfl⟩) (m_preS hK hO hP hD hS hA) rfl rfl hl.1 rfl (lv_room (Nat.le_of_ble_eq_true rfl)) dX11_init_65 ⟨Nat.le_of_ble_eq_true rfl, Nat.le_of_ble_eq_true rfl⟩) hS (fun ws1 H locs hp hP hD hS => ?_)
  obtain ⟨q0_10, hp⟩ := hp
  subst hp
  have hP : va_P g.1 vwCl ((q0_10, eI g 0) :: (q9, .inr (8, [.ref q0_10, .int (iI 0), .int (iI 0)])) :: (q4_8, eG g 6 r4_8) :: (r4_8 0, eI g 21) :: (r4_8 1, eI g 21) :: (r4_8 2, eI g 21) :: (r4_8 3, eI g 21) :: (r4_8 4, eI g 21) :: (r4_8 5, eI g 21) :: (q3_8, eI g 6) :: (q1_2_8, eI g 9) :: (q0_2_8, eQ g 9) :: (q1_8, .inr (7, [.ref q0_2_8, .ref q1_2_8, .int (iI 0), .int (iI 0)])) :: (q0_8, eI g 6) :: (q7, .inr (5, [.int (iI 0), .int (iI 0), .int (iI 0), .int (iI 0), .ref q0_8, .ref q1_8, .ref q3_8, .ref q4_8])) :: (q6, .inr (3, [.int (iI 0)])) :: (q1_5, eI g 9) :: (q0_5, eQ g 9) :: (q4, .inr (7, [.ref q0_5, .ref q1_5, .int (iI 0), .int (iI 0)])) :: (q1_3, eI g 9) :: (q0_3, eQ g 9) :: (q2, .inr (7, [.ref q0_3, .ref q1_3, .int (iI 0), .int (iI 0)])) :: (q1_1, eI g 9) :: (q0_1, eQ g 9) :: (q0, .inr (7, [.ref q0_1, .ref q1_1, .int (iI 0), .int (iI 0)])) :: (a, .inr (11, [.ref q0, .ref q2, .int (iI 0), .ref q4, .ref q6, .ref q7, .null, .null, .null, .null, .null])) :: ws) H := hP
  have hD : va_D A ((q0_10, eI g 0) :: (q9, .inr (8, [.ref q0_10, .int (iI 0), .int (iI 0)])) :: (q4_8, eG g 6 r4_8) :: (r4_8 0, eI g 21) :: (r4_8 1, eI g 21) :: (r4_8 2, eI g 21) :: (r4_8 3, eI g 21) :: (r4_8 4, eI g 21) :: (r4_8 5, eI g 21) :: (q3_8, eI g 6) :: (q1_2_8, eI g 9) :: (q0_2_8, eQ g 9) :: (q1_8, .inr (7, [.ref q0_2_8, .ref q1_2_8, .int (iI 0), .int (iI 0)])) :: (q0_8, eI g 6) :: (q7, .inr (5, [.int (iI 0), .int (iI 0), .int (iI 0), .int (iI 0), .ref q0_8, .ref q1_8, .ref q3_8, .ref q4_8])) :: (q6, .inr (3, [.int (iI 0)])) :: (q1_5, eI g 9) :: (q0_5, eQ g 9) :: (q4, .inr (7, [.ref q0_5, .ref q1_5, .int (iI 0), .int (iI 0)])) :: (q1_3, eI g 9) :: (q0_3, eQ g 9) :: (q2, .inr (7, [.ref q0_3, .ref q1_3, .int (iI 0), .int (iI 0)])) :: (q1_1, eI g 9) :: (q0_1, eQ g 9) :: (q0, .inr (7, [.ref q0_1, .ref q1_1, .int (iI 0), .int (iI 0)])) :: (a, .inr (11, [.ref q0, .ref q2, .int (iI 0), .ref q4, .ref q6, .ref q7, .null, .null, .null, .null, .null])) :: ws) := hD
  refine va_putF (D := g.1) (ci := 11) (v := .ref q9) (ty := (.object "TwiceAsRich$StreetText")) (C := RX11) (T := TX11) (N := 11) hx hb hts hin_X11 tyX11 tyX11_ok nmX11 hown hK.1 hP hD hS 25 rfl rfl 6 (by decide) hw_17 (fun _ h9 => h9) rfl hin rfl (by decide +kernel) rfl rfl (Nat.le_of_ble_eq_true rfl) dX11_init_68 (fun H locs hP hD hS => ?_)
  have hP : va_P g.1 vwCl ((q0_10, eI g 0) :: (q9, .inr (8, [.ref q0_10, .int (iI 0), .int (iI 0)])) :: (q4_8, eG g 6 r4_8) :: (r4_8 0, eI g 21) :: (r4_8 1, eI g 21) :: (r4_8 2, eI g 21) :: (r4_8 3, eI g 21) :: (r4_8 4, eI g 21) :: (r4_8 5, eI g 21) :: (q3_8, eI g 6) :: (q1_2_8, eI g 9) :: (q0_2_8, eQ g 9) :: (q1_8, .inr (7, [.ref q0_2_8, .ref q1_2_8, .int (iI 0), .int (iI 0)])) :: (q0_8, eI g 6) :: (q7, .inr (5, [.int (iI 0), .int (iI 0), .int (iI 0), .int (iI 0), .ref q0_8, .ref q1_8, .ref q3_8, .ref q4_8])) :: (q6, .inr (3, [.int (iI 0)])) :: (q1_5, eI g 9) :: (q0_5, eQ g 9) :: (q4, .inr (7, [.ref q0_5, .ref q1_5, .int (iI 0), .int (iI 0)])) :: (q1_3, eI g 9) :: (q0_3, eQ g 9) :: (q2, .inr (7, [.ref q0_3, .ref q1_3, .int (iI 0), .int (iI 0)])) :: (q1_1, eI g 9) :: (q0_1, eQ g 9) :: (q0, .inr (7, [.ref q0_1, .ref q1_1, .int (iI 0), .int (iI 0)])) :: (a, .inr (11, [.ref q0, .ref q2, .int (iI 0), .ref q4, .ref q6, .ref q7, .ref q9, .null, .null, .null, .null])) :: ws) H := hP
  have hD : va_D A ((q0_10, eI g 0) :: (q9, .inr (8, [.ref q0_10, .int (iI 0), .int (iI 0)])) :: (q4_8, eG g 6 r4_8) :: (r4_8 0, eI g 21) :: (r4_8 1, eI g 21) :: (r4_8 2, eI g 21) :: (r4_8 3, eI g 21) :: (r4_8 4, eI g 21) :: (r4_8 5, eI g 21) :: (q3_8, eI g 6) :: (q1_2_8, eI g 9) :: (q0_2_8, eQ g 9) :: (q1_8, .inr (7, [.ref q0_2_8, .ref q1_2_8, .int (iI 0), .int (iI 0)])) :: (q0_8, eI g 6) :: (q7, .inr (5, [.int (iI 0), .int (iI 0), .int (iI 0), .int (iI 0), .ref q0_8, .ref q1_8, .ref q3_8, .ref q4_8])) :: (q6, .inr (3, [.int (iI 0)])) :: (q1_5, eI g 9) :: (q0_5, eQ g 9) :: (q4, .inr (7, [.ref q0_5, .ref q1_5, .int (iI 0), .int (iI 0)])) :: (q1_3, eI g 9) :: (q0_3, eQ g 9) :: (q2, .inr (7, [.ref q0_3, .ref q1_3, .int (iI 0), .int (iI 0)])) :: (q1_1, eI g 9) :: (q0_1, eQ g 9) :: (q0, .inr (7, [.ref q0_1, .ref q1_1, .int (iI 0), .int (iI 0)])) :: (a, .inr (11, [.ref q0, .ref q2, .int (iI 0), .ref q4, .ref q6, .ref q7, .ref q9, .null, .null, .null, .null])) :: ws) := hD
  refine lv_aload_n hx hb dX11_init_71 rfl (lv_at hl 0 rfl) ?_
  refine x_bipush (n := 8) hx hb (by decide +kernel) dX11_init_72 ?_
  refine l_newq (N := 8) hx hb hown hw_6 hO hK hP hD hS hA rfl (by decide) (Nat.le_of_ble_eq_true rfl) (Nat.le_of_ble_eq_true rfl) dX11_init_74 (fun q11 H hP hD hS => ?_)
  refine va_putF (D := g.1) (ci := 11) (v := .ref q11) (ty := (.array (.object "TwiceAsRich$House"))) (C := RX11) (T := TX11) (N := 11) hx hb hts hin_X11 tyX11 tyX11_ok nmX11 hown hK.1 hP hD hS 26 rfl rfl 7 (by decide) hw_18 (fun _ h9 => h9) rfl hin rfl (by decide +kernel) rfl rfl (Nat.le_of_ble_eq_true rfl) dX11_init_77 (fun H locs hP hD hS => ?_)
  have hP : va_P g.1 vwCl ((q11, eQ g 8) :: (q0_10, eI g 0) :: (q9, .inr (8, [.ref q0_10, .int (iI 0), .int (iI 0)])) :: (q4_8, eG g 6 r4_8) :: (r4_8 0, eI g 21) :: (r4_8 1, eI g 21) :: (r4_8 2, eI g 21) :: (r4_8 3, eI g 21) :: (r4_8 4, eI g 21) :: (r4_8 5, eI g 21) :: (q3_8, eI g 6) :: (q1_2_8, eI g 9) :: (q0_2_8, eQ g 9) :: (q1_8, .inr (7, [.ref q0_2_8, .ref q1_2_8, .int (iI 0), .int (iI 0)])) :: (q0_8, eI g 6) :: (q7, .inr (5, [.int (iI 0), .int (iI 0), .int (iI 0), .int (iI 0), .ref q0_8, .ref q1_8, .ref q3_8, .ref q4_8])) :: (q6, .inr (3, [.int (iI 0)])) :: (q1_5, eI g 9) :: (q0_5, eQ g 9) :: (q4, .inr (7, [.ref q0_5, .ref q1_5, .int (iI 0), .int (iI 0)])) :: (q1_3, eI g 9) :: (q0_3, eQ g 9) :: (q2, .inr (7, [.ref q0_3, .ref q1_3, .int (iI 0), .int (iI 0)])) :: (q1_1, eI g 9) :: (q0_1, eQ g 9) :: (q0, .inr (7, [.ref q0_1, .ref q1_1, .int (iI 0), .int (iI 0)])) :: (a, .inr (11, [.ref q0, .ref q2, .int (iI 0), .ref q4, .ref q6, .ref q7, .ref q9, .ref q11, .null, .null, .null])) :: ws) H := hP
  have hD : va_D A ((q11, eQ g 8) :: (q0_10, eI g 0) :: (q9, .inr (8, [.ref q0_10, .int (iI 0), .int (iI 0)])) :: (q4_8, eG g 6 r4_8) :: (r4_8 0, eI g 21) :: (r4_8 1, eI g 21) :: (r4_8 2, eI g 21) :: (r4_8 3, eI g 21) :: (r4_8 4, eI g 21) :: (r4_8 5, eI g 21) :: (q3_8, eI g 6) :: (q1_2_8, eI g 9) :: (q0_2_8, eQ g 9) :: (q1_8, .inr (7, [.ref q0_2_8, .ref q1_2_8, .int (iI 0), .int (iI 0)])) :: (q0_8, eI g 6) :: (q7, .inr (5, [.int (iI 0), .int (iI 0), .int (iI 0), .int (iI 0), .ref q0_8, .ref q1_8, .ref q3_8, .ref q4_8])) :: (q6, .inr (3, [.int (iI 0)])) :: (q1_5, eI g 9) :: (q0_5, eQ g 9) :: (q4, .inr (7, [.ref q0_5, .ref q1_5, .int (iI 0), .int (iI 0)])) :: (q1_3, eI g 9) :: (q0_3, eQ g 9) :: (q2, .inr (7, [.ref q0_3, .ref q1_3, .int (iI 0), .int (iI 0)])) :: (q1_1, eI g 9) :: (q0_1, eQ g 9) :: (q0, .inr (7, [.ref q0_1, .ref q1_1, .int (iI 0), .int (iI 0)])) :: (a, .inr (11, [.ref q0, .ref q2, .int (iI 0), .ref q4, .ref q6, .ref q7, .ref q9, .ref q11, .null, .null, .null])) :: ws) := hD
  refine lv_aload_n hx hb dX11_init_80 rfl (lv_at hl 0 rfl) ?_
  refine x_bipush (n := 8) hx hb (by decide +kernel) dX11_init_81 ?_
  refine l_newa (N := 8) hx hb hw_19 hK hP hD hS hA rfl (by decide) (Nat.le_of_ble_eq_true rfl) (Nat.le_of_ble_eq_true rfl) dX11_init_83 (fun q12 H hP hD hS => ?_)
  refine va_putF (D := g.1) (ci := 11) (v := .ref q12) (ty := (.array .int)) (C := RX11) (T := TX11) (N := 11) hx hb hts hin_X11 tyX11 tyX11_ok nmX11 hown hK.1 hP hD hS 27 rfl rfl 8 (by decide) hw_20 (fun _ h9 => h9) rfl hin rfl (by decide +kernel) rfl rfl (Nat.le_of_ble_eq_true rfl) dX11_init_85 (fun H locs hP hD hS => ?_)
  have hP : va_P g.1 vwCl ((q12, eI g 8) :: (q11, eQ g 8) :: (q0_10, eI g 0) :: (q9, .inr (8, [.ref q0_10, .int (iI 0), .int (iI 0)])) :: (q4_8, eG g 6 r4_8) :: (r4_8 0, eI g 21) :: (r4_8 1, eI g 21) :: (r4_8 2, eI g 21) :: (r4_8 3, eI g 21) :: (r4_8 4, eI g 21) :: (r4_8 5, eI g 21) :: (q3_8, eI g 6) :: (q1_2_8, eI g 9) :: (q0_2_8, eQ g 9) :: (q1_8, .inr (7, [.ref q0_2_8, .ref q1_2_8, .int (iI 0), .int (iI 0)])) :: (q0_8, eI g 6) :: (q7, .inr (5, [.int (iI 0), .int (iI 0), .int (iI 0), .int (iI 0), .ref q0_8, .ref q1_8, .ref q3_8, .ref q4_8])) :: (q6, .inr (3, [.int (iI 0)])) :: (q1_5, eI g 9) :: (q0_5, eQ g 9) :: (q4, .inr (7, [.ref q0_5, .ref q1_5, .int (iI 0), .int (iI 0)])) :: (q1_3, eI g 9) :: (q0_3, eQ g 9) :: (q2, .inr (7, [.ref q0_3, .ref q1_3, .int (iI 0), .int (iI 0)])) :: (q1_1, eI g 9) :: (q0_1, eQ g 9) :: (q0, .inr (7, [.ref q0_1, .ref q1_1, .int (iI 0), .int (iI 0)])) :: (a, .inr (11, [.ref q0, .ref q2, .int (iI 0), .ref q4, .ref q6, .ref q7, .ref q9, .ref q11, .ref q12, .null, .null])) :: ws) H := hP
  have hD : va_D A ((q12, eI g 8) :: (q11, eQ g 8) :: (q0_10, eI g 0) :: (q9, .inr (8, [.ref q0_10, .int (iI 0), .int (iI 0)])) :: (q4_8, eG g 6 r4_8) :: (r4_8 0, eI g 21) :: (r4_8 1, eI g 21) :: (r4_8 2, eI g 21) :: (r4_8 3, eI g 21) :: (r4_8 4, eI g 21) :: (r4_8 5, eI g 21) :: (q3_8, eI g 6) :: (q1_2_8, eI g 9) :: (q0_2_8, eQ g 9) :: (q1_8, .inr (7, [.ref q0_2_8, .ref q1_2_8, .int (iI 0), .int (iI 0)])) :: (q0_8, eI g 6) :: (q7, .inr (5, [.int (iI 0), .int (iI 0), .int (iI 0), .int (iI 0), .ref q0_8, .ref q1_8, .ref q3_8, .ref q4_8])) :: (q6, .inr (3, [.int (iI 0)])) :: (q1_5, eI g 9) :: (q0_5, eQ g 9) :: (q4, .inr (7, [.ref q0_5, .ref q1_5, .int (iI 0), .int (iI 0)])) :: (q1_3, eI g 9) :: (q0_3, eQ g 9) :: (q2, .inr (7, [.ref q0_3, .ref q1_3, .int (iI 0), .int (iI 0)])) :: (q1_1, eI g 9) :: (q0_1, eQ g 9) :: (q0, .inr (7, [.ref q0_1, .ref q1_1, .int (iI 0), .int (iI 0)])) :: (a, .inr (11, [.ref q0, .ref q2, .int (iI 0), .ref q4, .ref q6, .ref q7, .ref q9, .ref q11, .ref q12, .null, .null])) :: ws) := hD
  refine lv_aload_n hx hb dX11_init_88 rfl (lv_at hl 0 rfl) ?_
  refine x_bipush (n := 8) hx hb (by decide +kernel) dX11_init_89 ?_
  refine l_newa (N := 8) hx hb hw_19 hK hP hD hS hA rfl (by decide) (Nat.le_of_ble_eq_true rfl) (Nat.le_of_ble_eq_true rfl) dX11_init_91 (fun q13 H hP hD hS => ?_)
  refine va_putF (D := g.1) (ci := 11) (v := .ref q13) (ty := (.array .int)) (C := RX11) (T := TX11) (N := 11) hx hb hts hin_X11 tyX11 tyX11_ok nmX11 hown hK.1 hP hD hS 28 rfl rfl 9 (by decide) hw_21 (fun _ h9 => h9) rfl hin rfl (by decide +kernel) rfl rfl (Nat.le_of_ble_eq_true rfl) dX11_init_93 (fun H locs hP hD hS => ?_)
  have hP : va_P g.1 vwCl ((q13, eI g 8) :: (q12, eI g 8) :: (q11, eQ g 8) :: (q0_10, eI g 0) :: (q9, .inr (8, [.ref q0_10, .int (iI 0), .int (iI 0)])) :: (q4_8, eG g 6 r4_8) :: (r4_8 0, eI g 21) :: (r4_8 1, eI g 21) :: (r4_8 2, eI g 21) :: (r4_8 3, eI g 21) :: (r4_8 4, eI g 21) :: (r4_8 5, eI g 21) :: (q3_8, eI g 6) :: (q1_2_8, eI g 9) :: (q0_2_8, eQ g 9) :: (q1_8, .inr (7, [.ref q0_2_8, .ref q1_2_8, .int (iI 0), .int (iI 0)])) :: (q0_8, eI g 6) :: (q7, .inr (5, [.int (iI 0), .int (iI 0), .int (iI 0), .int (iI 0), .ref q0_8, .ref q1_8, .ref q3_8, .ref q4_8])) :: (q6, .inr (3, [.int (iI 0)])) :: (q1_5, eI g 9) :: (q0_5, eQ g 9) :: (q4, .inr (7, [.ref q0_5, .ref q1_5, .int (iI 0), .int (iI 0)])) :: (q1_3, eI g 9) :: (q0_3, eQ g 9) :: (q2, .inr (7, [.ref q0_3, .ref q1_3, .int (iI 0), .int (iI 0)])) :: (q1_1, eI g 9) :: (q0_1, eQ g 9) :: (q0, .inr (7, [.ref q0_1, .ref q1_1, .int (iI 0), .int (iI 0)])) :: (a, .inr (11, [.ref q0, .ref q2, .int (iI 0), .ref q4, .ref q6, .ref q7, .ref q9, .ref q11, .ref q12, .ref q13, .null])) :: ws) H := hP
  have hD : va_D A ((q13, eI g 8) :: (q12, eI g 8) :: (q11, eQ g 8) :: (q0_10, eI g 0) :: (q9, .inr (8, [.ref q0_10, .int (iI 0), .int (iI 0)])) :: (q4_8, eG g 6 r4_8) :: (r4_8 0, eI g 21) :: (r4_8 1, eI g 21) :: (r4_8 2, eI g 21) :: (r4_8 3, eI g 21) :: (r4_8 4, eI g 21) :: (r4_8 5, eI g 21) :: (q3_8, eI g 6) :: (q1_2_8, eI g 9) :: (q0_2_8, eQ g 9) :: (q1_8, .inr (7, [.ref q0_2_8, .ref q1_2_8, .int (iI 0), .int (iI 0)])) :: (q0_8, eI g 6) :: (q7, .inr (5, [.int (iI 0), .int (iI 0), .int (iI 0), .int (iI 0), .ref q0_8, .ref q1_8, .ref q3_8, .ref q4_8])) :: (q6, .inr (3, [.int (iI 0)])) :: (q1_5, eI g 9) :: (q0_5, eQ g 9) :: (q4, .inr (7, [.ref q0_5, .ref q1_5, .int (iI 0), .int (iI 0)])) :: (q1_3, eI g 9) :: (q0_3, eQ g 9) :: (q2, .inr (7, [.ref q0_3, .ref q1_3, .int (iI 0), .int (iI 0)])) :: (q1_1, eI g 9) :: (q0_1, eQ g 9) :: (q0, .inr (7, [.ref q0_1, .ref q1_1, .int (iI 0), .int (iI 0)])) :: (a, .inr (11, [.ref q0, .ref q2, .int (iI 0), .ref q4, .ref q6, .ref q7, .ref q9, .ref q11, .ref q12, .ref q13, .null])) :: ws) := hD
  refine lv_aload_n hx hb dX11_init_96 rfl (lv_at hl 0 rfl) ?_
  refine x_bipush (n := 8) hx hb (by decide +kernel) dX11_init_97 ?_
  refine x_bipush (n := 100) hx hb (by decide +kernel) dX11_init_99 ?_
  refine l_mna (N := 8) (K := 100) hx hb hown hw_22 hO hw_19 hK hP hD hS hA rfl rfl (by decide) (by decide) (Nat.le_of_ble_eq_true rfl) (Nat.le_of_ble_eq_true rfl) dX11_init_101 (fun q14 r14 H hP hD hS => ?_)
  have hP : va_P g.1 vwCl ((q14, eG g 8 r14) :: (r14 0, eI g 100) :: (r14 1, eI g 100) :: (r14 2, eI g 100) :: (r14 3, eI g 100) :: (r14 4, eI g 100) :: (r14 5, eI g 100) :: (r14 6, eI g 100) :: (r14 7, eI g 100) :: (q13, eI g 8) :: (q12, eI g 8) :: (q11, eQ g 8) :: (q0_10, eI g 0) :: (q9, .inr (8, [.ref q0_10, .int (iI 0), .int (iI 0)])) :: (q4_8, eG g 6 r4_8) :: (r4_8 0, eI g 21) :: (r4_8 1, eI g 21) :: (r4_8 2, eI g 21) :: (r4_8 3, eI g 21) :: (r4_8 4, eI g 21) :: (r4_8 5, eI g 21) :: (q3_8, eI g 6) :: (q1_2_8, eI g 9) :: (q0_2_8, eQ g 9) :: (q1_8, .inr (7, [.ref q0_2_8, .ref q1_2_8, .int (iI 0), .int (iI 0)])) :: (q0_8, eI g 6) :: (q7, .inr (5, [.int (iI 0), .int (iI 0), .int (iI 0), .int (iI 0), .ref q0_8, .ref q1_8, .ref q3_8, .ref q4_8])) :: (q6, .inr (3, [.int (iI 0)])) :: (q1_5, eI g 9) :: (q0_5, eQ g 9) :: (q4, .inr (7, [.ref q0_5, .ref q1_5, .int (iI 0), .int (iI 0)])) :: (q1_3, eI g 9) :: (q0_3, eQ g 9) :: (q2, .inr (7, [.ref q0_3, .ref q1_3, .int (iI 0), .int (iI 0)])) :: (q1_1, eI g 9) :: (q0_1, eQ g 9) :: (q0, .inr (7, [.ref q0_1, .ref q1_1, .int (iI 0), .int (iI 0)])) :: (a, .inr (11, [.ref q0, .ref q2, .int (iI 0), .ref q4, .ref q6, .ref q7, .ref q9, .ref q11, .ref q12, .ref q13, .null])) :: ws) H := hP
  have hD : va_D A ((q14, eG g 8 r14) :: (r14 0, eI g 100) :: (r14 1, eI g 100) :: (r14 2, eI g 100) :: (r14 3, eI g 100) :: (r14 4, eI g 100) :: (r14 5, eI g 100) :: (r14 6, eI g 100) :: (r14 7, eI g 100) :: (q13, eI g 8) :: (q12, eI g 8) :: (q11, eQ g 8) :: (q0_10, eI g 0) :: (q9, .inr (8, [.ref q0_10, .int (iI 0), .int (iI 0)])) :: (q4_8, eG g 6 r4_8) :: (r4_8 0, eI g 21) :: (r4_8 1, eI g 21) :: (r4_8 2, eI g 21) :: (r4_8 3, eI g 21) :: (r4_8 4, eI g 21) :: (r4_8 5, eI g 21) :: (q3_8, eI g 6) :: (q1_2_8, eI g 9) :: (q0_2_8, eQ g 9) :: (q1_8, .inr (7, [.ref q0_2_8, .ref q1_2_8, .int (iI 0), .int (iI 0)])) :: (q0_8, eI g 6) :: (q7, .inr (5, [.int (iI 0), .int (iI 0), .int (iI 0), .int (iI 0), .ref q0_8, .ref q1_8, .ref q3_8, .ref q4_8])) :: (q6, .inr (3, [.int (iI 0)])) :: (q1_5, eI g 9) :: (q0_5, eQ g 9) :: (q4, .inr (7, [.ref q0_5, .ref q1_5, .int (iI 0), .int (iI 0)])) :: (q1_3, eI g 9) :: (q0_3, eQ g 9) :: (q2, .inr (7, [.ref q0_3, .ref q1_3, .int (iI 0), .int (iI 0)])) :: (q1_1, eI g 9) :: (q0_1, eQ g 9) :: (q0, .inr (7, [.ref q0_1, .ref q1_1, .int (iI 0), .int (iI 0)])) :: (a, .inr (11, [.ref q0, .ref q2, .int (iI 0), .ref q4, .ref q6, .ref q7, .ref q9, .ref q11, .ref q12, .ref q13, .null])) :: ws) := hD
  refine va_putF (D := g.1) (ci := 11) (v := .ref q14) (ty := (.array (.array .int))) (C := RX11) (T := TX11) (N := 11) hx hb hts hin_X11 tyX11 tyX11_ok nmX11 hown hK.1 hP hD hS 37 rfl rfl 10 (by decide) hw_23 (fun _ h9 => h9) rfl hin rfl (by decide +kernel) rfl rfl (Nat.le_of_ble_eq_true rfl) dX11_init_105 (fun H locs hP hD hS => ?_)
  have hP : va_P g.1 vwCl ((q14, eG g 8 r14) :: (r14 0, eI g 100) :: (r14 1, eI g 100) :: (r14 2, eI g 100) :: (r14 3, eI g 100) :: (r14 4, eI g 100) :: (r14 5, eI g 100) :: (r14 6, eI g 100) :: (r14 7, eI g 100) :: (q13, eI g 8) :: (q12, eI g 8) :: (q11, eQ g 8) :: (q0_10, eI g 0) :: (q9, .inr (8, [.ref q0_10, .int (iI 0), .int (iI 0)])) :: (q4_8, eG g 6 r4_8) :: (r4_8 0, eI g 21) :: (r4_8 1, eI g 21) :: (r4_8 2, eI g 21) :: (r4_8 3, eI g 21) :: (r4_8 4, eI g 21) :: (r4_8 5, eI g 21) :: (q3_8, eI g 6) :: (q1_2_8, eI g 9) :: (q0_2_8, eQ g 9) :: (q1_8, .inr (7, [.ref q0_2_8, .ref q1_2_8, .int (iI 0), .int (iI 0)])) :: (q0_8, eI g 6) :: (q7, .inr (5, [.int (iI 0), .int (iI 0), .int (iI 0), .int (iI 0), .ref q0_8, .ref q1_8, .ref q3_8, .ref q4_8])) :: (q6, .inr (3, [.int (iI 0)])) :: (q1_5, eI g 9) :: (q0_5, eQ g 9) :: (q4, .inr (7, [.ref q0_5, .ref q1_5, .int (iI 0), .int (iI 0)])) :: (q1_3, eI g 9) :: (q0_3, eQ g 9) :: (q2, .inr (7, [.ref q0_3, .ref q1_3, .int (iI 0), .int (iI 0)])) :: (q1_1, eI g 9) :: (q0_1, eQ g 9) :: (q0, .inr (7, [.ref q0_1, .ref q1_1, .int (iI 0), .int (iI 0)])) :: (a, .inr (11, [.ref q0, .ref q2, .int (iI 0), .ref q4, .ref q6, .ref q7, .ref q9, .ref q11, .ref q12, .ref q13, .ref q14])) :: ws) H := hP
  have hD : va_D A ((q14, eG g 8 r14) :: (r14 0, eI g 100) :: (r14 1, eI g 100) :: (r14 2, eI g 100) :: (r14 3, eI g 100) :: (r14 4, eI g 100) :: (r14 5, eI g 100) :: (r14 6, eI g 100) :: (r14 7, eI g 100) :: (q13, eI g 8) :: (q12, eI g 8) :: (q11, eQ g 8) :: (q0_10, eI g 0) :: (q9, .inr (8, [.ref q0_10, .int (iI 0), .int (iI 0)])) :: (q4_8, eG g 6 r4_8) :: (r4_8 0, eI g 21) :: (r4_8 1, eI g 21) :: (r4_8 2, eI g 21) :: (r4_8 3, eI g 21) :: (r4_8 4, eI g 21) :: (r4_8 5, eI g 21) :: (q3_8, eI g 6) :: (q1_2_8, eI g 9) :: (q0_2_8, eQ g 9) :: (q1_8, .inr (7, [.ref q0_2_8, .ref q1_2_8, .int (iI 0), .int (iI 0)])) :: (q0_8, eI g 6) :: (q7, .inr (5, [.int (iI 0), .int (iI 0), .int (iI 0), .int (iI 0), .ref q0_8, .ref q1_8, .ref q3_8, .ref q4_8])) :: (q6, .inr (3, [.int (iI 0)])) :: (q1_5, eI g 9) :: (q0_5, eQ g 9) :: (q4, .inr (7, [.ref q0_5, .ref q1_5, .int (iI 0), .int (iI 0)])) :: (q1_3, eI g 9) :: (q0_3, eQ g 9) :: (q2, .inr (7, [.ref q0_3, .ref q1_3, .int (iI 0), .int (iI 0)])) :: (q1_1, eI g 9) :: (q0_1, eQ g 9) :: (q0, .inr (7, [.ref q0_1, .ref q1_1, .int (iI 0), .int (iI 0)])) :: (a, .inr (11, [.ref q0, .ref q2, .int (iI 0), .ref q4, .ref q6, .ref q7, .ref q9, .ref q11, .ref q12, .ref q13, .ref q14])) :: ws) := hD
  refine lv_aload_n hx hb dX11_init_108 rfl (lv_at hl 0 rfl) ?_
  refine va_get (D := g.1) (C := RX11) (T := TX11) (N := 11) hx hb hts hin_X11 hown hK.1 hP 37 rfl rfl 8 (by decide) hw_20 (fun _ h9 => h9) rfl dX11_init_109 ?_
  refine x_iconst hx hb dX11_init_112 ?_
  refine l_clv (mc := 0) (ms := 0) (va_runS (As := [.ref q12, .int (iI (-1))]) (rest := []) ⟨hx, hb, hml, hown, hts⟩ (c_fill_l l g A ((q14, eG g 8 r14) :: (r14 0, eI g 100) :: (r14 1, eI g 100) :: (r14 2, eI g 100) :: (r14 3, eI g 100) :: (r14 4, eI g 100) :: (r14 5, eI g 100) :: (r14 6, eI g 100) :: (r14 7, eI g 100) :: (q13, eI g 8) :: (q12, eI g 8) :: (q11, eQ g 8) :: (q0_10, eI g 0) :: (q9, .inr (8, [.ref q0_10, .int (iI 0), .int (iI 0)])) :: (q4_8, eG g 6 r4_8) :: (r4_8 0, eI g 21) :: (r4_8 1, eI g 21) :: (r4_8 2, eI g 21) :: (r4_8 3, eI g 21) :: (r4_8 4, eI g 21) :: (r4_8 5, eI g 21) :: (q3_8, eI g 6) :: (q1_2_8, eI g 9) :: (q0_2_8, eQ g 9) :: (q1_8, .inr (7, [.ref q0_2_8, .ref q1_2_8, .int (iI 0), .int (iI 0)])) :: (q0_8, eI g 6) :: (q7, .inr (5, [.int (iI 0), .int (iI 0), .int (iI 0), .int (iI 0), .ref q0_8, .ref q1_8, .ref q3_8, .ref q4_8])) :: (q6, .inr (3, [.int (iI 0)])) :: (q1_5, eI g 9) :: (q0_5, eQ g 9) :: (q4, .inr (7, [.ref q0_5, .ref q1_5, .int (iI 0), .int (iI 0)])) :: (q1_3, eI g 9) :: (q0_3, eQ g 9) :: (q2, .inr (7, [.ref q0_3, .ref q1_3, .int (iI 0), .int (iI 0)])) :: (q1_1, eI g 9) :: (q0_1, eQ g 9) :: (q0, .inr (7, [.ref q0_1, .ref q1_1, .int (iI 0), .int (iI 0)])) :: (a, .inr (11, [.ref q0, .ref q2, .int (iI 0), .ref q4, .ref q6, .ref q7, .ref q9, .ref q11, .ref q12, .ref q13, .ref q14])) :: ws) 10 q12 8 (fun _ => 0) rfl (by decide) (-1)) (va_cwS 2 hts gX11_init_J7_fill_53178 rfl rfl rfl (by decide +kernel) ⟨Nat.le_of_ble_eq_true rfl, Nat.le_of_ble_eq_true rfl⟩) (l_preS hK hP hD hS hA) rfl rfl hl.1 rfl (lv_room (Nat.le_of_ble_eq_true rfl)) dX11_init_113 ⟨Nat.le_of_ble_eq_true rfl, Nat.le_of_ble_eq_true rfl⟩) hS (fun ws1 H locs hp hP hD hS => ?_)
  subst hp
  have hP : va_P g.1 vwCl ((q14, eG g 8 r14) :: (r14 0, eI g 100) :: (r14 1, eI g 100) :: (r14 2, eI g 100) :: (r14 3, eI g 100) :: (r14 4, eI g 100) :: (r14 5, eI g 100) :: (r14 6, eI g 100) :: (r14 7, eI g 100) :: (q13, eI g 8) :: (q12, .inl (g.2.1 0, 8, .inl (fun k => iI (zCopy (fun _ => (-1)) (fun _ => 0) ((8 : Nat) : Int) (k : Int))))) :: (q11, eQ g 8) :: (q0_10, eI g 0) :: (q9, .inr (8, [.ref q0_10, .int (iI 0), .int (iI 0)])) :: (q4_8, eG g 6 r4_8) :: (r4_8 0, eI g 21) :: (r4_8 1, eI g 21) :: (r4_8 2, eI g 21) :: (r4_8 3, eI g 21) :: (r4_8 4, eI g 21) :: (r4_8 5, eI g 21) :: (q3_8, eI g 6) :: (q1_2_8, eI g 9) :: (q0_2_8, eQ g 9) :: (q1_8, .inr (7, [.ref q0_2_8, .ref q1_2_8, .int (iI 0), .int (iI 0)])) :: (q0_8, eI g 6) :: (q7, .inr (5, [.int (iI 0), .int (iI 0), .int (iI 0), .int (iI 0), .ref q0_8, .ref q1_8, .ref q3_8, .ref q4_8])) :: (q6, .inr (3, [.int (iI 0)])) :: (q1_5, eI g 9) :: (q0_5, eQ g 9) :: (q4, .inr (7, [.ref q0_5, .ref q1_5, .int (iI 0), .int (iI 0)])) :: (q1_3, eI g 9) :: (q0_3, eQ g 9) :: (q2, .inr (7, [.ref q0_3, .ref q1_3, .int (iI 0), .int (iI 0)])) :: (q1_1, eI g 9) :: (q0_1, eQ g 9) :: (q0, .inr (7, [.ref q0_1, .ref q1_1, .int (iI 0), .int (iI 0)])) :: (a, .inr (11, [.ref q0, .ref q2, .int (iI 0), .ref q4, .ref q6, .ref q7, .ref q9, .ref q11, .ref q12, .ref q13, .ref q14])) :: ws) H := hP
  have hD : va_D A ((q14, eG g 8 r14) :: (r14 0, eI g 100) :: (r14 1, eI g 100) :: (r14 2, eI g 100) :: (r14 3, eI g 100) :: (r14 4, eI g 100) :: (r14 5, eI g 100) :: (r14 6, eI g 100) :: (r14 7, eI g 100) :: (q13, eI g 8) :: (q12, .inl (g.2.1 0, 8, .inl (fun k => iI (zCopy (fun _ => (-1)) (fun _ => 0) ((8 : Nat) : Int) (k : Int))))) :: (q11, eQ g 8) :: (q0_10, eI g 0) :: (q9, .inr (8, [.ref q0_10, .int (iI 0), .int (iI 0)])) :: (q4_8, eG g 6 r4_8) :: (r4_8 0, eI g 21) :: (r4_8 1, eI g 21) :: (r4_8 2, eI g 21) :: (r4_8 3, eI g 21) :: (r4_8 4, eI g 21) :: (r4_8 5, eI g 21) :: (q3_8, eI g 6) :: (q1_2_8, eI g 9) :: (q0_2_8, eQ g 9) :: (q1_8, .inr (7, [.ref q0_2_8, .ref q1_2_8, .int (iI 0), .int (iI 0)])) :: (q0_8, eI g 6) :: (q7, .inr (5, [.int (iI 0), .int (iI 0), .int (iI 0), .int (iI 0), .ref q0_8, .ref q1_8, .ref q3_8, .ref q4_8])) :: (q6, .inr (3, [.int (iI 0)])) :: (q1_5, eI g 9) :: (q0_5, eQ g 9) :: (q4, .inr (7, [.ref q0_5, .ref q1_5, .int (iI 0), .int (iI 0)])) :: (q1_3, eI g 9) :: (q0_3, eQ g 9) :: (q2, .inr (7, [.ref q0_3, .ref q1_3, .int (iI 0), .int (iI 0)])) :: (q1_1, eI g 9) :: (q0_1, eQ g 9) :: (q0, .inr (7, [.ref q0_1, .ref q1_1, .int (iI 0), .int (iI 0)])) :: (a, .inr (11, [.ref q0, .ref q2, .int (iI 0), .ref q4, .ref q6, .ref q7, .ref q9, .ref q11, .ref q12, .ref q13, .ref q14])) :: ws) := hD
  exact l_ret hx hb hr ⟨q14, r14, q13, q12, q11, q0_10, q9, q4_8, r4_8, q3_8, q1_2_8, q0_2_8, q1_8, q0_8, q7, q6, q1_5, q0_5, q4, q1_3, q0_3, q2, q1_1, q0_1, q0, rfl⟩ hP hD hS dX11_init_116 hlocks

set_option maxHeartbeats 4000000 in
set_option maxRecDepth 100000 in
theorem c_X12_init (l : Launch) (g : xG) (A : Nat → Prop) (ws : va_W) (a : Nat) : Met l yX12_init wsX12_init ({ frames := 2, cells := 12, slots := 967, locals := 64 }) (va_Pc [.ref a] (m_Pre g A ((a, .inr (12, [.null, .null, .null, .null, .null, .null, .null, .null, .null, .null, .int (iI 0), .int (iI 0), .int (iI 0), .int (iI 0), .int (iI 0), .int (iI 0), .null, .int (iI 0), .int (iI 0), .int (iI 0), .int (iI 0), .int (iI 0), .null, .int (iI 0)])) :: ws))) (l_Qv g A (fun w1 => ∃ (q11 : Nat) (q10 : Nat) (q9 : Nat) (q8 : Nat) (q7 : Nat) (q6 : Nat) (q5 : Nat) (q4 : Nat) (q3 : Nat) (q2 : Nat) (q1 : Nat) (q0 : Nat), w1 = (q11, eI g 8) :: (q10, eI g 3) :: (q9, eI g 8) :: (q8, eI g 8) :: (q7, eI g 800) :: (q6, eI g 8) :: (q5, eI g 8) :: (q4, eI g 8) :: (q3, eI g 29) :: (q2, eI g 29) :: (q1, eI g 29) :: (q0, eI g 29) :: (a, .inr (12, [.ref q0, .ref q1, .ref q2, .ref q3, .ref q4, .ref q5, .ref q6, .ref q7, .ref q8, .ref q9, .int (iI 0), .int (iI 0), .int (iI 0), .int (iI 0), .int (iI 0), .int (iI 0), .ref q10, .int (iI 0), .int (iI 0), .int (iI 0), .int (iI 0), .int (iI 0), .ref q11, .int (iI 0)])) :: ws)) 12 967 A := by
  refine Met.ofW (cc := cX12_init) (maxL := 1) (ret := none) (by decide) rfl ?_
  intro p e s m args below meth c s₁ B hml hv
  obtain ⟨rfl, ⟨hP, hK, hD, hA⟩, hO⟩ := hv
  have hx := B.exec
  have hb := B.bytes
  have hr := B.returns
  have hts := atoms_spec (ws := wsX12_init) B.pre
  have hown : s.vm.findClass RX12 = some m.cls := findClass_of_methodNamed B.named
  have hlocks := B.notSynchronized
  have hin : meth.name = "<init>" := (name_of_methodNamed B.named B.method).1
  have hS : va_S A s.heap s.heap [] := va_S.rf
  have hl := lv_entry ([.ref a]) (n := 1) (Nat.le_of_ble_eq_true rfl)
  rw [lg_entry_eq]
  generalize (lg_sl ([.ref a]) ++ List.replicate (1 - (lg_sl ([.ref a])).length) Slot.unset).toArray = ls at hl ⊢
  have hl : lv_has ls 1 [(0, .ref a)] := hl
  have hin_X12 : ∀ w ∈ u_ws RX12 TX12 24, w ∈ wsX12_init := by decide +kernel
  have hw_0 := hts (.arrayClass .int) (by decide +kernel)
  have hw_1 := hts (.fieldLink RX12 9 "TwiceAsRichModel" "s" "[I") (by decide +kernel)
  have hw_2 := hts (.fieldLink RX12 13 "TwiceAsRichModel" "image" "[I") (by decide +kernel)
  have hw_3 := hts (.fieldLink RX12 16 "TwiceAsRichModel" "read" "[I") (by decide +kernel)
  have hw_4 := hts (.fieldLink RX12 19 "TwiceAsRichModel" "mind" "[I") (by decide +kernel)
  have hw_5 := hts (.fieldLink RX12 22 "TwiceAsRichModel" "kept" "[I") (by decide +kernel)
  have hw_6 := hts (.fieldLink RX12 25 "TwiceAsRichModel" "sort" "[I") (by decide +kernel)
  have hw_7 := hts (.fieldLink RX12 28 "TwiceAsRichModel" "size" "[I") (by decide +kernel)
  have hw_8 := hts (.fieldLink RX12 31 "TwiceAsRichModel" "element" "[I") (by decide +kernel)
  have hw_9 := hts (.fieldLink RX12 34 "TwiceAsRichModel" "keptKind" "[I") (by decide +kernel)
  have hw_10 := hts (.fieldLink RX12 37 "TwiceAsRichModel" "keptFigure" "[I") (by decide +kernel)
  have hw_11 := hts (.fieldLink RX12 40 "TwiceAsRichModel" "numbers" "[I") (by decide +kernel)
  have hw_12 := hts (.fieldLink RX12 43 "TwiceAsRichModel" "was" "[I") (by decide +kernel)
  refine lv_aload_n hx hb dX12_init_0 rfl (lv_at hl 0 rfl) ?_
  refine W.objInit hx hb hown (hts (.methodLink RX12 1 objectInit) (by decide +kernel)) (hts (.instanceMethod objectInit) (by decide +kernel)) (hts (.code objectInit ⟨#[0xb1]⟩ 1 none) (by decide +kernel)) rfl (by rw [hml]; exact hl.1) rfl dX12_init_1 (Nat.le_of_ble_eq_true rfl) (Nat.le_of_ble_eq_true rfl) ?_
  refine W.eq (g2 := F0 m 4 ls []) rfl ?_
  refine lv_aload_n hx hb dX12_init_4 rfl (lv_at hl 0 rfl) ?_
  refine x_bipush (n := 29) hx hb (by decide +kernel) dX12_init_5 ?_
  refine l_newa (N := 29) hx hb hw_0 hK hP hD hS hA rfl (by decide) (Nat.le_of_ble_eq_true rfl) (Nat.le_of_ble_eq_true rfl) dX12_init_7 (fun q0 H hP hD hS => ?_)
  refine va_putF (D := g.1) (ci := 12) (v := .ref q0) (ty := (.array .int)) (C := RX12) (T := TX12) (N := 24) hx hb hts hin_X12 tyX12 tyX12_ok nmX12 hown hK.1 hP hD hS 1 rfl rfl 0 (by decide) hw_1 (fun _ h9 => h9) rfl hin rfl (by decide +kernel) rfl rfl (Nat.le_of_ble_eq_true rfl) dX12_init_9 (fun H locs hP hD hS => ?_)
  have hP : va_P g.1 vwCl ((q0, eI g 29) :: (a, .inr (12, [.ref q0, .null, .null, .null, .null, .null, .null, .null, .null, .null, .int (iI 0), .int (iI 0), .int (iI 0), .int (iI 0), .int (iI 0), .int (iI 0), .null, .int (iI 0), .int (iI 0), .int (iI 0), .int (iI 0), .int (iI 0), .null, .int (iI 0)])) :: ws) H := hP
  have hD : va_D A ((q0, eI g 29) :: (a, .inr (12, [.ref q0, .null, .null, .null, .null, .null, .null, .null, .null, .null, .int (iI 0), .int (iI 0), .int (iI 0), .int (iI 0), .int (iI 0), .int (iI 0), .null, .int (iI 0), .int (iI 0), .int (iI 0), .int (iI 0), .int (iI 0), .null, .int (iI 0)])) :: ws) := hD
  refine lv_aload_n hx hb dX12_init_12 rfl (lv_at hl 0 rfl) ?_
  refine x_bipush (n := 29) hx hb (by decide +kernel) dX12_init_13 ?_
  refine l_newa (N := 29) hx hb hw_0 hK hP hD hS hA rfl (by decide) (Nat.le_of_ble_eq_true rfl) (Nat.le_of_ble_eq_true rfl) dX12_init_15 (fun q1 H hP hD hS => ?_)
  refine va_putF (D := g.1) (ci := 12) (v := .ref q1) (ty := (.array .int)) (C := RX12) (T := TX12) (N := 24) hx hb hts hin_X12 tyX12 tyX12_ok nmX12 hown hK.1 hP hD hS 2 rfl rfl 1 (by decide) hw_2 (fun _ h9 => h9) rfl hin rfl (by decide +kernel) rfl rfl (Nat.le_of_ble_eq_true rfl) dX12_init_17 (fun H locs hP hD hS => ?_)
  have hP : va_P g.1 vwCl ((q1, eI g 29) :: (q0, eI g 29) :: (a, .inr (12, [.ref q0, .ref q1, .null, .null, .null, .null, .null, .null, .null, .null, .int (iI 0), .int (iI 0), .int (iI 0), .int (iI 0), .int (iI 0), .int (iI 0), .null, .int (iI 0), .int (iI 0), .int (iI 0), .int (iI 0), .int (iI 0), .null, .int (iI 0)])) :: ws) H := hP
  have hD : va_D A ((q1, eI g 29) :: (q0, eI g 29) :: (a, .inr (12, [.ref q0, .ref q1, .null, .null, .null, .null, .null, .null, .null, .null, .int (iI 0), .int (iI 0), .int (iI 0), .int (iI 0), .int (iI 0), .int (iI 0), .null, .int (iI 0), .int (iI 0), .int (iI 0), .int (iI 0), .int (iI 0), .null, .int (iI 0)])) :: ws) := hD
  refine lv_aload_n hx hb dX12_init_20 rfl (lv_at hl 0 rfl) ?_
  refine x_bipush (n := 29) hx hb (by decide +kernel) dX12_init_21 ?_
  refine l_newa (N := 29) hx hb hw_0 hK hP hD hS hA rfl (by decide) (Nat.le_of_ble_eq_true rfl) (Nat.le_of_ble_eq_true rfl) dX12_init_23 (fun q2 H hP hD hS => ?_)
  refine va_putF (D := g.1) (ci := 12) (v := .ref q2) (ty := (.array .int)) (C := RX12) (T := TX12) (N := 24) hx hb hts hin_X12 tyX12 tyX12_ok nmX12 hown hK.1 hP hD hS 3 rfl rfl 2 (by decide) hw_3 (fun _ h9 => h9) rfl hin rfl (by decide +kernel) rfl rfl (Nat.le_of_ble_eq_true rfl) dX12_init_25 (fun H locs hP hD hS => ?_)
  have hP : va_P g.1 vwCl ((q2, eI g 29) :: (q1, eI g 29) :: (q0, eI g 29) :: (a, .inr (12, [.ref q0, .ref q1, .ref q2, .null, .null, .null, .null, .null, .null, .null, .int (iI 0), .int (iI 0), .int (iI 0), .int (iI 0), .int (iI 0), .int (iI 0), .null, .int (iI 0), .int (iI 0), .int (iI 0), .int (iI 0), .int (iI 0), .null, .int (iI 0)])) :: ws) H := hP
  have hD : va_D A ((q2, eI g 29) :: (q1, eI g 29) :: (q0, eI g 29) :: (a, .inr (12, [.ref q0, .ref q1, .ref q2, .null, .null, .null, .null, .null, .null, .null, .int (iI 0), .int (iI 0), .int (iI 0), .int (iI 0), .int (iI 0), .int (iI 0), .null, .int (iI 0), .int (iI 0), .int (iI 0), .int (iI 0), .int (iI 0), .null, .int (iI 0)])) :: ws) := hD
  refine lv_aload_n hx hb dX12_init_28 rfl (lv_at hl 0 rfl) ?_
  refine x_bipush (n := 29) hx hb (by decide +kernel) dX12_init_29 ?_
  refine l_newa (N := 29) hx hb hw_0 hK hP hD hS hA rfl (by decide) (Nat.le_of_ble_eq_true rfl) (Nat.le_of_ble_eq_true rfl) dX12_init_31 (fun q3 H hP hD hS => ?_)
  refine va_putF (D := g.1) (ci := 12) (v := .ref q3) (ty := (.array .int)) (C := RX12) (T := TX12) (N := 24) hx hb hts hin_X12 tyX12 tyX12_ok nmX12 hown hK.1 hP hD hS 4 rfl rfl 3 (by decide) hw_4 (fun _ h9 => h9) rfl hin rfl (by decide +kernel) rfl rfl (Nat.le_of_ble_eq_true rfl) dX12_init_33 (fun H locs hP hD hS => ?_)
  have hP : va_P g.1 vwCl ((q3, eI g 29) :: (q2, eI g 29) :: (q1, eI g 29) :: (q0, eI g 29) :: (a, .inr (12, [.ref q0, .ref q1, .ref q2, .ref q3, .null, .null, .null, .null, .null, .null, .int (iI 0), .int (iI 0), .int (iI 0), .int (iI 0), .int (iI 0), .int (iI 0), .null, .int (iI 0), .int (iI 0), .int (iI 0), .int (iI 0), .int (iI 0), .null, .int (iI 0)])) :: ws) H := hP
  have hD : va_D A ((q3, eI g 29) :: (q2, eI g 29) :: (q1, eI g 29) :: (q0, eI g 29) :: (a, .inr (12, [.ref q0, .ref q1, .ref q2, .ref q3, .null, .null, .null, .null, .null, .null, .int (iI 0), .int (iI 0), .int (iI 0), .int (iI 0), .int (iI 0), .int (iI 0), .null, .int (iI 0), .int (iI 0), .int (iI 0), .int (iI 0), .int (iI 0), .null, .int (iI 0)])) :: ws) := hD
  refine lv_aload_n hx hb dX12_init_36 rfl (lv_at hl 0 rfl) ?_
  refine x_bipush (n := 8) hx hb (by decide +kernel) dX12_init_37 ?_
  refine l_newa (N := 8) hx hb hw_0 hK hP hD hS hA rfl (by decide) (Nat.le_of_ble_eq_true rfl) (Nat.le_of_ble_eq_true rfl) dX12_init_39 (fun q4 H hP hD hS => ?_)
  refine va_putF (D := g.1) (ci := 12) (v := .ref q4) (ty := (.array .int)) (C := RX12) (T := TX12) (N := 24) hx hb hts hin_X12 tyX12 tyX12_ok nmX12 hown hK.1 hP hD hS 5 rfl rfl 4 (by decide) hw_5 (fun _ h9 => h9) rfl hin rfl (by decide +kernel) rfl rfl (Nat.le_of_ble_eq_true rfl) dX12_init_41 (fun H locs hP hD hS => ?_)
  have hP : va_P g.1 vwCl ((q4, eI g 8) :: (q3, eI g 29) :: (q2, eI g 29) :: (q1, eI g 29) :: (q0, eI g 29) :: (a, .inr (12, [.ref q0, .ref q1, .ref q2, .ref q3, .ref q4, .null, .null, .null, .null, .null, .int (iI 0), .int (iI 0), .int (iI 0), .int (iI 0), .int (iI 0), .int (iI 0), .null, .int (iI 0), .int (iI 0), .int (iI 0), .int (iI 0), .int (iI 0), .null, .int (iI 0)])) :: ws) H := hP
  have hD : va_D A ((q4, eI g 8) :: (q3, eI g 29) :: (q2, eI g 29) :: (q1, eI g 29) :: (q0, eI g 29) :: (a, .inr (12, [.ref q0, .ref q1, .ref q2, .ref q3, .ref q4, .null, .null, .null, .null, .null, .int (iI 0), .int (iI 0), .int (iI 0), .int (iI 0), .int (iI 0), .int (iI 0), .null, .int (iI 0), .int (iI 0), .int (iI 0), .int (iI 0), .int (iI 0), .null, .int (iI 0)])) :: ws) := hD
  refine lv_aload_n hx hb dX12_init_44 rfl (lv_at hl 0 rfl) ?_
  refine x_bipush (n := 8) hx hb (by decide +kernel) dX12_init_45 ?_
  refine l_newa (N := 8) hx hb hw_0 hK hP hD hS hA rfl (by decide) (Nat.le_of_ble_eq_true rfl) (Nat.le_of_ble_eq_true rfl) dX12_init_47 (fun q5 H hP hD hS => ?_)
  refine va_putF (D := g.1) (ci := 12) (v := .ref q5) (ty := (.array .int)) (C := RX12) (T := TX12) (N := 24) hx hb hts hin_X12 tyX12 tyX12_ok nmX12 hown hK.1 hP hD hS 6 rfl rfl 5 (by decide) hw_6 (fun _ h9 => h9) rfl hin rfl (by decide +kernel) rfl rfl (Nat.le_of_ble_eq_true rfl) dX12_init_49 (fun H locs hP hD hS => ?_)
  have hP : va_P g.1 vwCl ((q5, eI g 8) :: (q4, eI g 8) :: (q3, eI g 29) :: (q2, eI g 29) :: (q1, eI g 29) :: (q0, eI g 29) :: (a, .inr (12, [.ref q0, .ref q1, .ref q2, .ref q3, .ref q4, .ref q5, .null, .null, .null, .null, .int (iI 0), .int (iI 0), .int (iI 0), .int (iI 0), .int (iI 0), .int (iI 0), .null, .int (iI 0), .int (iI 0), .int (iI 0), .int (iI 0), .int (iI 0), .null, .int (iI 0)])) :: ws) H := hP
  have hD : va_D A ((q5, eI g 8) :: (q4, eI g 8) :: (q3, eI g 29) :: (q2, eI g 29) :: (q1, eI g 29) :: (q0, eI g 29) :: (a, .inr (12, [.ref q0, .ref q1, .ref q2, .ref q3, .ref q4, .ref q5, .null, .null, .null, .null, .int (iI 0), .int (iI 0), .int (iI 0), .int (iI 0), .int (iI 0), .int (iI 0), .null, .int (iI 0), .int (iI 0), .int (iI 0), .int (iI 0), .int (iI 0), .null, .int (iI 0)])) :: ws) := hD
  refine lv_aload_n hx hb dX12_init_52 rfl (lv_at hl 0 rfl) ?_
  refine x_bipush (n := 8) hx hb (by decide +kernel) dX12_init_53 ?_
  refine l_newa (N := 8) hx hb hw_0 hK hP hD hS hA rfl (by decide) (Nat.le_of_ble_eq_true rfl) (Nat.le_of_ble_eq_true rfl) dX12_init_55 (fun q6 H hP hD hS => ?_)
  refine va_putF (D := g.1) (ci := 12) (v := .ref q6) (ty := (.array .int)) (C := RX12) (T := TX12) (N := 24) hx hb hts hin_X12 tyX12 tyX12_ok nmX12 hown hK.1 hP hD hS 7 rfl rfl 6 (by decide) hw_7 (fun _ h9 => h9) rfl hin rfl (by decide +kernel) rfl rfl (Nat.le_of_ble_eq_true rfl) dX12_init_57 (fun H locs hP hD hS => ?_)
  have hP : va_P g.1 vwCl ((q6, eI g 8) :: (q5, eI g 8) :: (q4, eI g 8) :: (q3, eI g 29) :: (q2, eI g 29) :: (q1, eI g 29) :: (q0, eI g 29) :: (a, .inr (12, [.ref q0, .ref q1, .ref q2, .ref q3, .ref q4, .ref q5, .ref q6, .null, .null, .null, .int (iI 0), .int (iI 0), .int (iI 0), .int (iI 0), .int (iI 0), .int (iI 0), .null, .int (iI 0), .int (iI 0), .int (iI 0), .int (iI 0), .int (iI 0), .null, .int (iI 0)])) :: ws) H := hP
  have hD : va_D A ((q6, eI g 8) :: (q5, eI g 8) :: (q4, eI g 8) :: (q3, eI g 29) :: (q2, eI g 29) :: (q1, eI g 29) :: (q0, eI g 29) :: (a, .inr (12, [.ref q0, .ref q1, .ref q2, .ref q3, .ref q4, .ref q5, .ref q6, .null, .null, .null, .int (iI 0), .int (iI 0), .int (iI 0), .int (iI 0), .int (iI 0), .int (iI 0), .null, .int (iI 0), .int (iI 0), .int (iI 0), .int (iI 0), .int (iI 0), .null, .int (iI 0)])) :: ws) := hD
  refine lv_aload_n hx hb dX12_init_60 rfl (lv_at hl 0 rfl) ?_
  refine x_sipush (n := 800) hx hb (by decide +kernel) dX12_init_61 ?_
  refine l_newa (N := 800) hx hb hw_0 hK hP hD hS hA rfl (by decide) (Nat.le_of_ble_eq_true rfl) (Nat.le_of_ble_eq_true rfl) dX12_init_64 (fun q7 H hP hD hS => ?_)
  refine va_putF (D := g.1) (ci := 12) (v := .ref q7) (ty := (.array .int)) (C := RX12) (T := TX12) (N := 24) hx hb hts hin_X12 tyX12 tyX12_ok nmX12 hown hK.1 hP hD hS 8 rfl rfl 7 (by decide) hw_8 (fun _ h9 => h9) rfl hin rfl (by decide +kernel) rfl rfl (Nat.le_of_ble_eq_true rfl) dX12_init_66 (fun H locs hP hD hS => ?_)
  have hP : va_P g.1 vwCl ((q7, eI g 800) :: (q6, eI g 8) :: (q5, eI g 8) :: (q4, eI g 8) :: (q3, eI g 29) :: (q2, eI g 29) :: (q1, eI g 29) :: (q0, eI g 29) :: (a, .inr (12, [.ref q0, .ref q1, .ref q2, .ref q3, .ref q4, .ref q5, .ref q6, .ref q7, .null, .null, .int (iI 0), .int (iI 0), .int (iI 0), .int (iI 0), .int (iI 0), .int (iI 0), .null, .int (iI 0), .int (iI 0), .int (iI 0), .int (iI 0), .int (iI 0), .null, .int (iI 0)])) :: ws) H := hP
  have hD : va_D A ((q7, eI g 800) :: (q6, eI g 8) :: (q5, eI g 8) :: (q4, eI g 8) :: (q3, eI g 29) :: (q2, eI g 29) :: (q1, eI g 29) :: (q0, eI g 29) :: (a, .inr (12, [.ref q0, .ref q1, .ref q2, .ref q3, .ref q4, .ref q5, .ref q6, .ref q7, .null, .null, .int (iI 0), .int (iI 0), .int (iI 0), .int (iI 0), .int (iI 0), .int (iI 0), .null, .int (iI 0), .int (iI 0), .int (iI 0), .int (iI 0), .int (iI 0), .null, .int (iI 0)])) :: ws) := hD
  refine lv_aload_n hx hb dX12_init_69 rfl (lv_at hl 0 rfl) ?_
  refine x_bipush (n := 8) hx hb (by decide +kernel) dX12_init_70 ?_
  refine l_newa (N := 8) hx hb hw_0 hK hP hD hS hA rfl (by decide) (Nat.le_of_ble_eq_true rfl) (Nat.le_of_ble_eq_true rfl) dX12_init_72 (fun q8 H hP hD hS => ?_)
  refine va_putF (D := g.1) (ci := 12) (v := .ref q8) (ty := (.array .int)) (C := RX12) (T := TX12) (N := 24) hx hb hts hin_X12 tyX12 tyX12_ok nmX12 hown hK.1 hP hD hS 9 rfl rfl 8 (by decide) hw_9 (fun _ h9 => h9) rfl hin rfl (by decide +kernel) rfl rfl (Nat.le_of_ble_eq_true rfl) dX12_init_74 (fun H locs hP hD hS => ?_)
  have hP : va_P g.1 vwCl ((q8, eI g 8) :: (q7, eI g 800) :: (q6, eI g 8) :: (q5, eI g 8) :: (q4, eI g 8) :: (q3, eI g 29) :: (q2, eI g 29) :: (q1, eI g 29) :: (q0, eI g 29) :: (a, .inr (12, [.ref q0, .ref q1, .ref q2, .ref q3, .ref q4, .ref q5, .ref q6, .ref q7, .ref q8, .null, .int (iI 0), .int (iI 0), .int (iI 0), .int (iI 0), .int (iI 0), .int (iI 0), .null, .int (iI 0), .int (iI 0), .int (iI 0), .int (iI 0), .int (iI 0), .null, .int (iI 0)])) :: ws) H := hP
  have hD : va_D A ((q8, eI g 8) :: (q7, eI g 800) :: (q6, eI g 8) :: (q5, eI g 8) :: (q4, eI g 8) :: (q3, eI g 29) :: (q2, eI g 29) :: (q1, eI g 29) :: (q0, eI g 29) :: (a, .inr (12, [.ref q0, .ref q1, .ref q2, .ref q3, .ref q4, .ref q5, .ref q6, .ref q7, .ref q8, .null, .int (iI 0), .int (iI 0), .int (iI 0), .int (iI 0), .int (iI 0), .int (iI 0), .null, .int (iI 0), .int (iI 0), .int (iI 0), .int (iI 0), .int (iI 0), .null, .int (iI 0)])) :: ws) := hD
  refine lv_aload_n hx hb dX12_init_77 rfl (lv_at hl 0 rfl) ?_
  refine x_bipush (n := 8) hx hb (by decide +kernel) dX12_init_78 ?_
  refine l_newa (N := 8) hx hb hw_0 hK hP hD hS hA rfl (by decide) (Nat.le_of_ble_eq_true rfl) (Nat.le_of_ble_eq_true rfl) dX12_init_80 (fun q9 H hP hD hS => ?_)
  refine va_putF (D := g.1) (ci := 12) (v := .ref q9) (ty := (.array .int)) (C := RX12) (T := TX12) (N := 24) hx hb hts hin_X12 tyX12 tyX12_ok nmX12 hown hK.1 hP hD hS 10 rfl rfl 9 (by decide) hw_10 (fun _ h9 => h9) rfl hin rfl (by decide +kernel) rfl rfl (Nat.le_of_ble_eq_true rfl) dX12_init_82 (fun H locs hP hD hS => ?_)
  have hP : va_P g.1 vwCl ((q9, eI g 8) :: (q8, eI g 8) :: (q7, eI g 800) :: (q6, eI g 8) :: (q5, eI g 8) :: (q4, eI g 8) :: (q3, eI g 29) :: (q2, eI g 29) :: (q1, eI g 29) :: (q0, eI g 29) :: (a, .inr (12, [.ref q0, .ref q1, .ref q2, .ref q3, .ref q4, .ref q5, .ref q6, .ref q7, .ref q8, .ref q9, .int (iI 0), .int (iI 0), .int (iI 0), .int (iI 0), .int (iI 0), .int (iI 0), .null, .int (iI 0), .int (iI 0), .int (iI 0), .int (iI 0), .int (iI 0), .null, .int (iI 0)])) :: ws) H := hP
  have hD : va_D A ((q9, eI g 8) :: (q8, eI g 8) :: (q7, eI g 800) :: (q6, eI g 8) :: (q5, eI g 8) :: (q4, eI g 8) :: (q3, eI g 29) :: (q2, eI g 29) :: (q1, eI g 29) :: (q0, eI g 29) :: (a, .inr (12, [.ref q0, .ref q1, .ref q2, .ref q3, .ref q4, .ref q5, .ref q6, .ref q7, .ref q8, .ref q9, .int (iI 0), .int (iI 0), .int (iI 0), .int (iI 0), .int (iI 0), .int (iI 0), .null, .int (iI 0), .int (iI 0), .int (iI 0), .int (iI 0), .int (iI 0), .null, .int (iI 0)])) :: ws) := hD
  refine lv_aload_n hx hb dX12_init_85 rfl (lv_at hl 0 rfl) ?_
  refine x_iconst hx hb dX12_init_86 ?_
  refine l_newa (N := 3) hx hb hw_0 hK hP hD hS hA rfl (by decide) (Nat.le_of_ble_eq_true rfl) (Nat.le_of_ble_eq_true rfl) dX12_init_87 (fun q10 H hP hD hS => ?_)
  refine va_putF (D := g.1) (ci := 12) (v := .ref q10) (ty := (.array .int)) (C := RX12) (T := TX12) (N := 24) hx hb hts hin_X12 tyX12 tyX12_ok nmX12 hown hK.1 hP hD hS 11 rfl rfl 16 (by decide) hw_11 (fun _ h9 => h9) rfl hin rfl (by decide +kernel) rfl rfl (Nat.le_of_ble_eq_true rfl) dX12_init_89 (fun H locs hP hD hS => ?_)
  have hP : va_P g.1 vwCl ((q10, eI g 3) :: (q9, eI g 8) :: (q8, eI g 8) :: (q7, eI g 800) :: (q6, eI g 8) :: (q5, eI g 8) :: (q4, eI g 8) :: (q3, eI g 29) :: (q2, eI g 29) :: (q1, eI g 29) :: (q0, eI g 29) :: (a, .inr (12, [.ref q0, .ref q1, .ref q2, .ref q3, .ref q4, .ref q5, .ref q6, .ref q7, .ref q8, .ref q9, .int (iI 0), .int (iI 0), .int (iI 0), .int (iI 0), .int (iI 0), .int (iI 0), .ref q10, .int (iI 0), .int (iI 0), .int (iI 0), .int (iI 0), .int (iI 0), .null, .int (iI 0)])) :: ws) H := hP
  have hD : va_D A ((q10, eI g 3) :: (q9, eI g 8) :: (q8, eI g 8) :: (q7, eI g 800) :: (q6, eI g 8) :: (q5, eI g 8) :: (q4, eI g 8) :: (q3, eI g 29) :: (q2, eI g 29) :: (q1, eI g 29) :: (q0, eI g 29) :: (a, .inr (12, [.ref q0, .ref q1, .ref q2, .ref q3, .ref q4, .ref q5, .ref q6, .ref q7, .ref q8, .ref q9, .int (iI 0), .int (iI 0), .int (iI 0), .int (iI 0), .int (iI 0), .int (iI 0), .ref q10, .int (iI 0), .int (iI 0), .int (iI 0), .int (iI 0), .int (iI 0), .null, .int (iI 0)])) :: ws) := hD
  refine lv_aload_n hx hb dX12_init_92 rfl (lv_at hl 0 rfl) ?_
  refine x_bipush (n := 8) hx hb (by decide +kernel) dX12_init_93 ?_
  refine l_newa (N := 8) hx hb hw_0 hK hP hD hS hA rfl (by decide) (Nat.le_of_ble_eq_true rfl) (Nat.le_of_ble_eq_true rfl) dX12_init_95 (fun q11 H hP hD hS => ?_)
  refine va_putF (D := g.1) (ci := 12) (v := .ref q11) (ty := (.array .int)) (C := RX12) (T := TX12) (N := 24) hx hb hts hin_X12 tyX12 tyX12_ok nmX12 hown hK.1 hP hD hS 12 rfl rfl 22 (by decide) hw_12 (fun _ h9 => h9) rfl hin rfl (by decide +kernel) rfl rfl (Nat.le_of_ble_eq_true rfl) dX12_init_97 (fun H locs hP hD hS => ?_)
  have hP : va_P g.1 vwCl ((q11, eI g 8) :: (q10, eI g 3) :: (q9, eI g 8) :: (q8, eI g 8) :: (q7, eI g 800) :: (q6, eI g 8) :: (q5, eI g 8) :: (q4, eI g 8) :: (q3, eI g 29) :: (q2, eI g 29) :: (q1, eI g 29) :: (q0, eI g 29) :: (a, .inr (12, [.ref q0, .ref q1, .ref q2, .ref q3, .ref q4, .ref q5, .ref q6, .ref q7, .ref q8, .ref q9, .int (iI 0), .int (iI 0), .int (iI 0), .int (iI 0), .int (iI 0), .int (iI 0), .ref q10, .int (iI 0), .int (iI 0), .int (iI 0), .int (iI 0), .int (iI 0), .ref q11, .int (iI 0)])) :: ws) H := hP
  have hD : va_D A ((q11, eI g 8) :: (q10, eI g 3) :: (q9, eI g 8) :: (q8, eI g 8) :: (q7, eI g 800) :: (q6, eI g 8) :: (q5, eI g 8) :: (q4, eI g 8) :: (q3, eI g 29) :: (q2, eI g 29) :: (q1, eI g 29) :: (q0, eI g 29) :: (a, .inr (12, [.ref q0, .ref q1, .ref q2, .ref q3, .ref q4, .ref q5, .ref q6, .ref q7, .ref q8, .ref q9, .int (iI 0), .int (iI 0), .int (iI 0), .int (iI 0), .int (iI 0), .int (iI 0), .ref q10, .int (iI 0), .int (iI 0), .int (iI 0), .int (iI 0), .int (iI 0), .ref q11, .int (iI 0)])) :: ws) := hD
  exact l_ret hx hb hr ⟨q11, q10, q9, q8, q7, q6, q5, q4, q3, q2, q1, q0, rfl⟩ hP hD hS dX12_init_100 hlocks
