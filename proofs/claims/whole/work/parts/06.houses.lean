/-! ===== the mathematical words ===== -/
def zShown (k : Nat) (f p : Int) : Int := if k = 2 then p * 9 / 10 else if k = 4 then p / 2 else if k = 5 then p * 9 / 10 + f else p
def zMay (k : Nat) (f x : Int) : Int := if k = 1 then 2 * x + f else if k = 3 ∨ k = 7 then 9999 else if k = 4 then (if 2 * x + f < 1 then 0 else 2 * x + f - 1) else if k = 6 then 2 * (2 * x + f) else 2 * x
def zWeek (k : Nat) (f : Int) : Int := if k = 1 then 2 + f else if k = 2 then 1 else if k = 3 ∨ k = 5 then 0 else if k = 4 then 1 + f else if k = 6 then 2 * (2 + f) else if k = 7 then f else 2
def zFee (k : Nat) (f : Int) : Int := if k = 1 then 5 * (f + 1) else if k = 2 then 3 else if k = 3 then 8 else if k = 4 then 5 * (f + 1) + 1 else if k = 5 then 3 + f else if k = 6 then 5 * (f + 1) - f else if k = 7 then 16 else 5
def HsOk (σ : xS) : Prop := ∀ a, a ∈ σ.2.1 → σ.2.2.1 a < 8 ∧ 0 ≤ σ.2.2.2 a ∧ σ.2.2.2 a ≤ 9
theorem x_run_mono {p : Program} {l : Launch} {e : Env} {R : Room} {s : State} {m : MethodId} {args : Array Value} {below : List Frame} {meth : Method} {c : Code} {H : Heap} {locs : List Loc} {cells slots : Nat} {gg : JFrame} {rest : List Value} {a : Array Value} {post post2 : Int → Prop} (h : va_Run p l e R s m args below meth c H locs cells slots 0 0 gg rest (x_Si post a) (fun _ => False)) (hp : ∀ r, post r → post2 r) : va_Run p l e R s m args below meth c H locs cells slots 0 0 gg rest (x_Si post2 a) (fun _ => False) := by
  intro T hT X
  obtain ⟨v, st₀, t, T', L, h0, X', hL, e1, e2, ⟨r, hr1, hr2, hv, hh⟩, st⟩ := h T hT X
  exact ⟨v, st₀, t, T', L, h0, X', hL, e1, e2, ⟨r, hr1, hp r hr2, hv, hh⟩, st⟩
def hCls : List vw_C := [(RX0, TX0, 1), (RX1, TX1, 1), (RX2, TX2, 1), (RX3, TX3, 1), (RX4, TX4, 1), (RX6, TX6, 1), (RX9, TX9, 1), (RX10, TX10, 1)]
theorem x_hcl (k : Nat) : ∃ q, vwCl[ciOf k]? = some q ∧ q ∈ hCls ∧ q.2.2 = 1 ∧ q.2.1 0 = ("TwiceAsRich$House", "figure", "I", true) := by
  have hc : ciOf k = 3 ∨ ciOf k = 2 ∨ ciOf k = 6 ∨ ciOf k = 10 ∨ ciOf k = 4 ∨ ciOf k = 0 ∨ ciOf k = 9 ∨ ciOf k = 1 := by
    unfold ciOf
    split <;> simp
  rcases hc with h | h | h | h | h | h | h | h <;> rw [h] <;> refine ⟨_, rfl, ?_, rfl, rfl⟩ <;> simp [hCls]
theorem x_house {g : xG} {σ : xS} {s : State} {H : Heap} {a : Nat} (hK : xK g s) (hP : xP g σ H) (ha : a ∈ σ.2.1) : ∃ (C : String) (cC : ClassId), ClassAt s C cC ∧ ∃ cell : Cell, H[a]? = some cell ∧ cell.vm.isStatics = false ∧ s.vm.findClass C = some cell.cls := by
  obtain ⟨q, h1, h2, h3, h4⟩ := x_hcl (σ.2.2.1 a)
  exact ⟨q.1, _, (hK.1.1 _ _ h1).2, x_recvH hK hP ha h1⟩
theorem x_fig {p : Program} {l : Launch} {e : Env} {R : Room} {s : State} {m : MethodId} {args : Array Value} {below : List Frame} {meth : Method} {c : Code} {H : Heap} {locs : List Loc} {cells slots : Nat} {Q : State → Prop} {cc : ByteArray} {pc : Nat} {ls : Array Slot} {rest : List Value} {g : xG} {σ : xS} (hx : p.tables.exec = Jvm.exec) (hb : c.code = cc) {own ref : String} {index : Nat} {Ts : List Cond} (hts : ∀ w ∈ Ts, w.before args s = true) (hin : ∀ q ∈ hCls, ∀ w ∈ u_ws q.1 q.2.1 q.2.2, w ∈ Ts) (hown : s.vm.findClass own = some m.cls) (hK : xK g s) (hP : xP g σ H) {a : Nat} (ha : a ∈ σ.2.1) (hlink : (Cond.fieldLink own index ref "figure" "I").before args s = true) (hsame : ∀ x, s.fieldFound? "TwiceAsRich$House" "figure" "I" = some x → s.fieldFound? ref "figure" "I" = some x) (hdg : decode cc pc = .ok (.getfield index, 3))
    (k : W p l e R s m args below meth c H locs cells slots Q (F0 m (pc + 3) ls (.int (iI (σ.2.2.2 a)) :: rest))) : W p l e R s m args below meth c H locs cells slots Q (F0 m (pc) ls (.ref a :: rest)) := by
  obtain ⟨⟨C, T, N⟩, h1, h2, h3, h4⟩ := x_hcl (σ.2.2.1 a)
  simp only at h3 h4
  subst h3
  refine x_getH (ref := ref) (C := C) (T := T) (N := 1) hx hb hts (hin _ h2) hown hK hP ha rfl h1 0 (by decide) rfl ?_ ?_ hdg k
  · rw [h4]; exact hlink
  · rw [h4]; exact hsame
/-- super.m(..) where the superclass has m of its own superclass -/
theorem x_callSX {p : Program} {l : Launch} {e : Env} {R : Room} {s : State} {m : MethodId} {args : Array Value} {below : List Frame} {meth : Method} {c : Code} {T : State} {locs : List Loc} {cells slots : Nat} (X : Stand p l e R s m args below meth c T locs cells slots) (hexec : p.tables.exec = Jvm.exec) {own owner : String} {index : Nat} {x : MethodName} {bytes : ByteArray} {maxL : Nat} {ret : Option FieldType}
    (hown : s.vm.findClass own = some m.cls) (hlink : (Cond.methodLink own index x).before args s = true) (hsame : (Cond.sameMethod x.cls owner x.name x.desc).before args s = true) (hsup : (Cond.superclass own x.cls).before args s = true) (hsup2 : (Cond.superclass x.cls owner).before args s = true)
    (hinst : (Cond.instanceMethod ⟨owner, x.name, x.desc⟩).before args s = true) (hcode : (Cond.code ⟨owner, x.name, x.desc⟩ bytes maxL ret).before args s = true) (hno : x.name ≠ "<init>")
    {W : Nat} {Pre : Pt → Array Value → Prop} {Post : Pt → Array Value → Option Value → Pt → Prop} (hK : Back l R p e below s args ⟨owner, x.name, x.desc⟩ 3 W Pre Post)
    {b : Addr} {cellB : Cell} {kB : Class} (hcell : T.heap[b]? = some cellB) (hobj : cellB.vm.isStatics = false) (hkB : s.vm.classes[cellB.cls]? = some kB)
    {g : JFrame} (hg : g.method = m) (hsize : g.locals.size = c.maxLocals) {argsL rest : List Value} (hlen : ∀ sig, parseMethodDescriptor x.desc = some sig → argsL.length = sig.parameters.length)
    (hstack : g.stack = argsL.reverse ++ .ref b :: rest) (hW : 2 * g.monitorRoom + (rest.map fun v => v.category).sum ≤ W) (hdg : decode c.code g.pc = .ok (.invokespecial index, 3))
    (hpre : ∀ vm₁, s.WarmedH vm₁ → Pre ⟨T.setVm vm₁, locs, cells, slots⟩ (Value.ref b :: argsL).toArray) :
    ∃ (v : Option Value) (vm₁ : Vm) (B : Pt), s.WarmedH vm₁ ∧ Stand p l e R s m args below meth c B.U B.locs B.cells B.slots ∧ Post ⟨T.setVm vm₁, locs, cells, slots⟩ (Value.ref b :: argsL).toArray v B ∧
      ∀ target, Steps p.tables e below (B.U.setTop { g with pc := g.pc + 3, stack := v.toList ++ rest }) target → Steps p.tables e below (T.setTop g) target := by
  obtain ⟨mk, methM, hnamed, hmethM, hstM, habM⟩ := Cond.instanceMethod_spec hinst
  obtain ⟨methM', cM, hmethM', -, -, -, -, -, -, hsigM⟩ := Cond.code_spec hnamed hcode
  cases hmethM.symm.trans hmethM'
  obtain ⟨ps, dk, kp, hps, hdk, hkp, hsuper, -, -, hnid⟩ := Cond.superclass_spec hown hsup
  obtain ⟨po, dk2, ko, hpo, hdk2, hko, hsuper2, -, -, hnid2⟩ := Cond.superclass_spec hps hsup2
  have hpm : po = mk.cls := Option.some.inj (hpo.symm.trans (findClass_of_methodNamed hnamed))
  have hsub : s.vm.isSubclass ps mk.cls = true := by
    rw [← hpm]
    have hsz : 0 < s.vm.classes.size := Nat.lt_of_le_of_lt (Nat.zero_le _) (Array.getElem?_eq_some_iff.mp hdk2).1
    obtain ⟨n, hn⟩ : ∃ n, s.vm.classes.size = n + 1 := ⟨s.vm.classes.size - 1, by omega⟩
    unfold Vm.isSubclass
    rw [hn]
    simp [Vm.isSubclassAux, hdk2, hsuper2]
  obtain ⟨vm₁, X₁, hstep₁⟩ := X.invokespecialUp hexec hown hlink hsame hnamed hmethM hstM habM hno hdk hnid hps hsuper hsub (a := b) (cell := cellB) hcell
    (fun z h => by rw [h] at hobj; cases hobj) hkB (g := g) hg (argsL := argsL) (rest := rest) (hlen _ hsigM) hstack hdg
  obtain ⟨v, B, X', hpost, hsteps⟩ := hK m meth c ⟨T.setVm vm₁, locs, cells, slots⟩ { g with stack := rest } (.invokespecial index) mk (Value.ref b :: argsL).toArray X₁ hg hsize hdg hW (X₁.named hnamed) (hpre vm₁ X₁.warmed)
  exact ⟨v, vm₁, B, X₁.warmed, X', hpost, fun target h => hstep₁ _ (by rw [doInvoke_state]; exact hsteps.trans h)⟩
theorem x_word {g : xG} {s : State} {args : Array Value} (hK : xK g s) {w : Cond} (hw : w ∈ xWords) : w.before args s = true := by
  have h := xWords_ok w hw
  simp only [Bool.and_eq_true] at h
  exact va_Nw.use h.1 (hK.2.2 w hw)
theorem x_runSX {p : Program} {l : Launch} {e : Env} {R : Room} {s : State} {m : MethodId} {args : Array Value} {below : List Frame} {meth : Method} {c : Code} {H : Heap} {locs : List Loc} {cells slots : Nat} {cc : ByteArray} {nL : Nat} {Ts : List Cond} {g : xG} (hKx : xK g s) {C : String} {cC : ClassId} {rm : Room} {Pc : Array Value → State → Prop} {Qc : Array Value → State → Outcome → State → Prop} {free : Addr → Prop} {b : Addr} {As rest : List Value} {gf : JFrame}
    (hat : ClassAt s C cC) (S : CallFix p m c cc nL s args Ts RX4) (hM : Met l yX3_shownOf wsX3_shownOf rm Pc Qc 0 0 free) (hr0 : rm.cells = 0) (hr1 : rm.slots = 0) (hR : rm.frames + 1 ≤ R.frames ∧ 8 + (2 + 11) + rm.locals ≤ R.locals) (hp : PreV s H C b Pc As)
    (hg : gf.method = m) (hn : As.length = 1) (hsize : gf.locals.size = nL) (hstack : gf.stack = As.reverse ++ .ref b :: rest) (hW : 2 * gf.monitorRoom + (rest.map fun v => v.category).sum ≤ 8) (hdg : decode cc gf.pc = .ok (.invokespecial 7, 3)) (hf : cells + 0 ≤ R.cells ∧ slots + 0 ≤ R.slots) :
    va_Run p l e R s m args below meth c H locs cells slots 0 0 gf rest (Qc (Value.ref b :: As).toArray) (free) := by
  have hws : ∀ w ∈ wsX3_shownOf, ∀ (a' : Array Value) (U : State), s.WarmedH U.vm → w.before a' U = true := by
    intro w hw a' U hWU
    have hw : w = .code yX3_shownOf cX3_shownOf 2 (some .int) := by simpa [wsX3_shownOf] using hw
    have hmem : w ∈ xWords := by rw [hw]; simp [xWords]
    exact word_at (args := #[]) hWU (Or.inl (xWords_ok w hmem)) (hKx.2.2 w hmem)
  have hini : (Cond.initialized RX3).before args s = true := x_word hKx (by simp [xWords])
  have hK : Back l R p e below s args yX3_shownOf 3 8 (PreOf R 0 0 Pc) (PostOf Qc 0 0 free) := back_of (bytes := cX3_shownOf) (maxL := 2) (ret := some .int) hM hp.1 hr0 hr1 hR.1 hR.2 hws (by simp [wsX3_shownOf]) (fun a' U hW => word_at hW (Or.inl (by first | rfl | simp [Cond.onTables, Cond.keeps, Cond.steady])) hini)
  obtain ⟨hx, hb, hml, ho, -⟩ := S
  obtain ⟨-, ⟨cellB, hcB, hoB, hclB⟩, hPc⟩ := hp
  obtain ⟨hfc, kB, hkB, -⟩ := hat
  cases hfc.symm.trans hclB
  intro T hT X
  obtain ⟨v, vm₁, ⟨U', l2, c2, s2⟩, hW₁, X', ⟨g', mk, t, L, e1, e2, hq, h1, hL, h2, h3⟩, st⟩ := x_callSX X hx (owner := RX3) (index := 7) (x := ⟨RX2, "shownOf", "(I)I"⟩) (bytes := cX3_shownOf) (maxL := 2) (ret := some .int) ho (x_word hKx (by simp [xWords])) (x_word hKx (by simp [xWords])) (x_word hKx (by simp [xWords])) (x_word hKx (by simp [xWords])) (x_word hKx (by simp [xWords, yX3_shownOf])) (x_word hKx (by simp [xWords, yX3_shownOf])) (by decide) hK (by rw [hT]; exact hcB) hoB hkB hg (hsize.trans hml.symm) (argsL := As) (rest := rest) (fun sig h => by
      have h2 : (parseMethodDescriptor "(I)I").map (fun d => d.parameters.length) = some 1 := by decide +kernel
      rw [h] at h2
      exact hn.trans (Option.some.inj h2).symm) hstack hW (by rw [hb]; exact hdg)
    (fun vm₁ hW₁ => ⟨hf.1, hf.2, hPc (T.setVm vm₁) hT hW₁⟩)
  dsimp only [Pt.U, Pt.locs, Pt.cells, Pt.slots] at X' e1 e2 h1 h2 h3 st
  subst h1; subst h2; subst h3
  exact ⟨v, (T.setVm vm₁).calling g' mk (Value.ref b :: As).toArray, t, U', L, hT, X', hL, e1, e2, hq, st⟩

set_option maxHeartbeats 4000000 in
set_option maxRecDepth 100000 in
theorem c_X3_kind (l : Launch) (g : xG) (σ : xS) (hH : HsOk σ) (a : Nat) (ha_a : a ∈ σ.2.1) : Met l yX3_kind wsX3_kind ({ frames := 1, cells := 0, slots := 0, locals := 32 }) (va_Pc [.ref a] (xPre g σ)) (x_Si (fun r => r = 0)) (0) (0) (fun _ => False) := by
  refine Met.ofW (cc := cX3_kind) (maxL := 1) (ret := (some .int)) (by decide) rfl ?_
  intro p e s m args below meth c s₁ B hml hv
  obtain ⟨rfl, hP, hK⟩ := hv
  have hx := B.exec
  have hb := B.bytes
  have hr := B.returns
  have hts := atoms_spec (ws := wsX3_kind) B.pre
  have hown : s.vm.findClass RX3 = some m.cls := findClass_of_methodNamed B.named
  have hlocks := B.notSynchronized
  have hl := lv_entry ([.ref a]) (n := 1) (Nat.le_of_ble_eq_true rfl)
  rw [lg_entry_eq]
  generalize (lg_sl ([.ref a]) ++ List.replicate (1 - (lg_sl ([.ref a])).length) Slot.unset).toArray = ls at hl ⊢
  have hl : lv_has ls 1 [(0, .ref a)] := hl
  have hH1 := (hH a ha_a).2.1
  have hH2 := (hH a ha_a).2.2
  refine x_iconst hx hb dX3_kind_0 ?_
  refine x_retP hx hb hr (by omega) ?_ dX3_kind_1 hlocks
  first | rfl | omega | (split <;> omega)

set_option maxHeartbeats 4000000 in
set_option maxRecDepth 100000 in
theorem c_X2_kind (l : Launch) (g : xG) (σ : xS) (hH : HsOk σ) (a : Nat) (ha_a : a ∈ σ.2.1) : Met l yX2_kind wsX2_kind ({ frames := 1, cells := 0, slots := 0, locals := 32 }) (va_Pc [.ref a] (xPre g σ)) (x_Si (fun r => r = 1)) (0) (0) (fun _ => False) := by
  refine Met.ofW (cc := cX2_kind) (maxL := 1) (ret := (some .int)) (by decide) rfl ?_
  intro p e s m args below meth c s₁ B hml hv
  obtain ⟨rfl, hP, hK⟩ := hv
  have hx := B.exec
  have hb := B.bytes
  have hr := B.returns
  have hts := atoms_spec (ws := wsX2_kind) B.pre
  have hown : s.vm.findClass RX2 = some m.cls := findClass_of_methodNamed B.named
  have hlocks := B.notSynchronized
  have hl := lv_entry ([.ref a]) (n := 1) (Nat.le_of_ble_eq_true rfl)
  rw [lg_entry_eq]
  generalize (lg_sl ([.ref a]) ++ List.replicate (1 - (lg_sl ([.ref a])).length) Slot.unset).toArray = ls at hl ⊢
  have hl : lv_has ls 1 [(0, .ref a)] := hl
  have hH1 := (hH a ha_a).2.1
  have hH2 := (hH a ha_a).2.2
  refine x_iconst hx hb dX2_kind_0 ?_
  refine x_retP hx hb hr (by omega) ?_ dX2_kind_1 hlocks
  first | rfl | omega | (split <;> omega)

set_option maxHeartbeats 4000000 in
set_option maxRecDepth 100000 in
theorem c_X6_kind (l : Launch) (g : xG) (σ : xS) (hH : HsOk σ) (a : Nat) (ha_a : a ∈ σ.2.1) : Met l yX6_kind wsX6_kind ({ frames := 1, cells := 0, slots := 0, locals := 32 }) (va_Pc [.ref a] (xPre g σ)) (x_Si (fun r => r = 2)) (0) (0) (fun _ => False) := by
  refine Met.ofW (cc := cX6_kind) (maxL := 1) (ret := (some .int)) (by decide) rfl ?_
  intro p e s m args below meth c s₁ B hml hv
  obtain ⟨rfl, hP, hK⟩ := hv
  have hx := B.exec
  have hb := B.bytes
  have hr := B.returns
  have hts := atoms_spec (ws := wsX6_kind) B.pre
  have hown : s.vm.findClass RX6 = some m.cls := findClass_of_methodNamed B.named
  have hlocks := B.notSynchronized
  have hl := lv_entry ([.ref a]) (n := 1) (Nat.le_of_ble_eq_true rfl)
  rw [lg_entry_eq]
  generalize (lg_sl ([.ref a]) ++ List.replicate (1 - (lg_sl ([.ref a])).length) Slot.unset).toArray = ls at hl ⊢
  have hl : lv_has ls 1 [(0, .ref a)] := hl
  have hH1 := (hH a ha_a).2.1
  have hH2 := (hH a ha_a).2.2
  refine x_iconst hx hb dX6_kind_0 ?_
  refine x_retP hx hb hr (by omega) ?_ dX6_kind_1 hlocks
  first | rfl | omega | (split <;> omega)

set_option maxHeartbeats 4000000 in
set_option maxRecDepth 100000 in
theorem c_X10_kind (l : Launch) (g : xG) (σ : xS) (hH : HsOk σ) (a : Nat) (ha_a : a ∈ σ.2.1) : Met l yX10_kind wsX10_kind ({ frames := 1, cells := 0, slots := 0, locals := 32 }) (va_Pc [.ref a] (xPre g σ)) (x_Si (fun r => r = 3)) (0) (0) (fun _ => False) := by
  refine Met.ofW (cc := cX10_kind) (maxL := 1) (ret := (some .int)) (by decide) rfl ?_
  intro p e s m args below meth c s₁ B hml hv
  obtain ⟨rfl, hP, hK⟩ := hv
  have hx := B.exec
  have hb := B.bytes
  have hr := B.returns
  have hts := atoms_spec (ws := wsX10_kind) B.pre
  have hown : s.vm.findClass RX10 = some m.cls := findClass_of_methodNamed B.named
  have hlocks := B.notSynchronized
  have hl := lv_entry ([.ref a]) (n := 1) (Nat.le_of_ble_eq_true rfl)
  rw [lg_entry_eq]
  generalize (lg_sl ([.ref a]) ++ List.replicate (1 - (lg_sl ([.ref a])).length) Slot.unset).toArray = ls at hl ⊢
  have hl : lv_has ls 1 [(0, .ref a)] := hl
  have hH1 := (hH a ha_a).2.1
  have hH2 := (hH a ha_a).2.2
  refine x_iconst hx hb dX10_kind_0 ?_
  refine x_retP hx hb hr (by omega) ?_ dX10_kind_1 hlocks
  first | rfl | omega | (split <;> omega)

set_option maxHeartbeats 4000000 in
set_option maxRecDepth 100000 in
theorem c_X4_kind (l : Launch) (g : xG) (σ : xS) (hH : HsOk σ) (a : Nat) (ha_a : a ∈ σ.2.1) : Met l yX4_kind wsX4_kind ({ frames := 1, cells := 0, slots := 0, locals := 32 }) (va_Pc [.ref a] (xPre g σ)) (x_Si (fun r => r = 4)) (0) (0) (fun _ => False) := by
  refine Met.ofW (cc := cX4_kind) (maxL := 1) (ret := (some .int)) (by decide) rfl ?_
  intro p e s m args below meth c s₁ B hml hv
  obtain ⟨rfl, hP, hK⟩ := hv
  have hx := B.exec
  have hb := B.bytes
  have hr := B.returns
  have hts := atoms_spec (ws := wsX4_kind) B.pre
  have hown : s.vm.findClass RX4 = some m.cls := findClass_of_methodNamed B.named
  have hlocks := B.notSynchronized
  have hl := lv_entry ([.ref a]) (n := 1) (Nat.le_of_ble_eq_true rfl)
  rw [lg_entry_eq]
  generalize (lg_sl ([.ref a]) ++ List.replicate (1 - (lg_sl ([.ref a])).length) Slot.unset).toArray = ls at hl ⊢
  have hl : lv_has ls 1 [(0, .ref a)] := hl
  have hH1 := (hH a ha_a).2.1
  have hH2 := (hH a ha_a).2.2
  refine x_iconst hx hb dX4_kind_0 ?_
  refine x_retP hx hb hr (by omega) ?_ dX4_kind_1 hlocks
  first | rfl | omega | (split <;> omega)

set_option maxHeartbeats 4000000 in
set_option maxRecDepth 100000 in
theorem c_X0_kind (l : Launch) (g : xG) (σ : xS) (hH : HsOk σ) (a : Nat) (ha_a : a ∈ σ.2.1) : Met l yX0_kind wsX0_kind ({ frames := 1, cells := 0, slots := 0, locals := 32 }) (va_Pc [.ref a] (xPre g σ)) (x_Si (fun r => r = 5)) (0) (0) (fun _ => False) := by
  refine Met.ofW (cc := cX0_kind) (maxL := 1) (ret := (some .int)) (by decide) rfl ?_
  intro p e s m args below meth c s₁ B hml hv
  obtain ⟨rfl, hP, hK⟩ := hv
  have hx := B.exec
  have hb := B.bytes
  have hr := B.returns
  have hts := atoms_spec (ws := wsX0_kind) B.pre
  have hown : s.vm.findClass RX0 = some m.cls := findClass_of_methodNamed B.named
  have hlocks := B.notSynchronized
  have hl := lv_entry ([.ref a]) (n := 1) (Nat.le_of_ble_eq_true rfl)
  rw [lg_entry_eq]
  generalize (lg_sl ([.ref a]) ++ List.replicate (1 - (lg_sl ([.ref a])).length) Slot.unset).toArray = ls at hl ⊢
  have hl : lv_has ls 1 [(0, .ref a)] := hl
  have hH1 := (hH a ha_a).2.1
  have hH2 := (hH a ha_a).2.2
  refine x_iconst hx hb dX0_kind_0 ?_
  refine x_retP hx hb hr (by omega) ?_ dX0_kind_1 hlocks
  first | rfl | omega | (split <;> omega)

set_option maxHeartbeats 4000000 in
set_option maxRecDepth 100000 in
theorem c_X9_kind (l : Launch) (g : xG) (σ : xS) (hH : HsOk σ) (a : Nat) (ha_a : a ∈ σ.2.1) : Met l yX9_kind wsX9_kind ({ frames := 1, cells := 0, slots := 0, locals := 32 }) (va_Pc [.ref a] (xPre g σ)) (x_Si (fun r => r = 6)) (0) (0) (fun _ => False) := by
  refine Met.ofW (cc := cX9_kind) (maxL := 1) (ret := (some .int)) (by decide) rfl ?_
  intro p e s m args below meth c s₁ B hml hv
  obtain ⟨rfl, hP, hK⟩ := hv
  have hx := B.exec
  have hb := B.bytes
  have hr := B.returns
  have hts := atoms_spec (ws := wsX9_kind) B.pre
  have hown : s.vm.findClass RX9 = some m.cls := findClass_of_methodNamed B.named
  have hlocks := B.notSynchronized
  have hl := lv_entry ([.ref a]) (n := 1) (Nat.le_of_ble_eq_true rfl)
  rw [lg_entry_eq]
  generalize (lg_sl ([.ref a]) ++ List.replicate (1 - (lg_sl ([.ref a])).length) Slot.unset).toArray = ls at hl ⊢
  have hl : lv_has ls 1 [(0, .ref a)] := hl
  have hH1 := (hH a ha_a).2.1
  have hH2 := (hH a ha_a).2.2
  refine x_bipush (n := 6) hx hb (by decide +kernel) dX9_kind_0 ?_
  refine x_retP hx hb hr (by omega) ?_ dX9_kind_2 hlocks
  first | rfl | omega | (split <;> omega)

set_option maxHeartbeats 4000000 in
set_option maxRecDepth 100000 in
theorem c_X1_kind (l : Launch) (g : xG) (σ : xS) (hH : HsOk σ) (a : Nat) (ha_a : a ∈ σ.2.1) : Met l yX1_kind wsX1_kind ({ frames := 1, cells := 0, slots := 0, locals := 32 }) (va_Pc [.ref a] (xPre g σ)) (x_Si (fun r => r = 7)) (0) (0) (fun _ => False) := by
  refine Met.ofW (cc := cX1_kind) (maxL := 1) (ret := (some .int)) (by decide) rfl ?_
  intro p e s m args below meth c s₁ B hml hv
  obtain ⟨rfl, hP, hK⟩ := hv
  have hx := B.exec
  have hb := B.bytes
  have hr := B.returns
  have hts := atoms_spec (ws := wsX1_kind) B.pre
  have hown : s.vm.findClass RX1 = some m.cls := findClass_of_methodNamed B.named
  have hlocks := B.notSynchronized
  have hl := lv_entry ([.ref a]) (n := 1) (Nat.le_of_ble_eq_true rfl)
  rw [lg_entry_eq]
  generalize (lg_sl ([.ref a]) ++ List.replicate (1 - (lg_sl ([.ref a])).length) Slot.unset).toArray = ls at hl ⊢
  have hl : lv_has ls 1 [(0, .ref a)] := hl
  have hH1 := (hH a ha_a).2.1
  have hH2 := (hH a ha_a).2.2
  refine x_bipush (n := 7) hx hb (by decide +kernel) dX1_kind_0 ?_
  refine x_retP hx hb hr (by omega) ?_ dX1_kind_2 hlocks
  first | rfl | omega | (split <;> omega)

set_option maxHeartbeats 4000000 in
set_option maxRecDepth 100000 in
theorem c_X3_isLookedAt (l : Launch) (g : xG) (σ : xS) (hH : HsOk σ) (a : Nat) (ha_a : a ∈ σ.2.1) : Met l yX3_isLookedAt wsX3_isLookedAt ({ frames := 1, cells := 0, slots := 0, locals := 32 }) (va_Pc [.ref a] (xPre g σ)) (x_Si (fun r => r = 1)) (0) (0) (fun _ => False) := by
  refine Met.ofW (cc := cX3_isLookedAt) (maxL := 1) (ret := (some .boolean)) (by decide) rfl ?_
  intro p e s m args below meth c s₁ B hml hv
  obtain ⟨rfl, hP, hK⟩ := hv
  have hx := B.exec
  have hb := B.bytes
  have hr := B.returns
  have hts := atoms_spec (ws := wsX3_isLookedAt) B.pre
  have hown : s.vm.findClass RX3 = some m.cls := findClass_of_methodNamed B.named
  have hlocks := B.notSynchronized
  have hl := lv_entry ([.ref a]) (n := 1) (Nat.le_of_ble_eq_true rfl)
  rw [lg_entry_eq]
  generalize (lg_sl ([.ref a]) ++ List.replicate (1 - (lg_sl ([.ref a])).length) Slot.unset).toArray = ls at hl ⊢
  have hl : lv_has ls 1 [(0, .ref a)] := hl
  have hH1 := (hH a ha_a).2.1
  have hH2 := (hH a ha_a).2.2
  refine x_iconst hx hb dX3_isLookedAt_0 ?_
  refine x_retPz hx hb hr (by omega) ?_ dX3_isLookedAt_1 hlocks
  first | rfl | omega | (split <;> omega)

set_option maxHeartbeats 4000000 in
set_option maxRecDepth 100000 in
theorem c_X10_isLookedAt (l : Launch) (g : xG) (σ : xS) (hH : HsOk σ) (a : Nat) (ha_a : a ∈ σ.2.1) : Met l yX10_isLookedAt wsX10_isLookedAt ({ frames := 1, cells := 0, slots := 0, locals := 32 }) (va_Pc [.ref a] (xPre g σ)) (x_Si (fun r => r = 0)) (0) (0) (fun _ => False) := by
  refine Met.ofW (cc := cX10_isLookedAt) (maxL := 1) (ret := (some .boolean)) (by decide) rfl ?_
  intro p e s m args below meth c s₁ B hml hv
  obtain ⟨rfl, hP, hK⟩ := hv
  have hx := B.exec
  have hb := B.bytes
  have hr := B.returns
  have hts := atoms_spec (ws := wsX10_isLookedAt) B.pre
  have hown : s.vm.findClass RX10 = some m.cls := findClass_of_methodNamed B.named
  have hlocks := B.notSynchronized
  have hl := lv_entry ([.ref a]) (n := 1) (Nat.le_of_ble_eq_true rfl)
  rw [lg_entry_eq]
  generalize (lg_sl ([.ref a]) ++ List.replicate (1 - (lg_sl ([.ref a])).length) Slot.unset).toArray = ls at hl ⊢
  have hl : lv_has ls 1 [(0, .ref a)] := hl
  have hH1 := (hH a ha_a).2.1
  have hH2 := (hH a ha_a).2.2
  refine x_iconst hx hb dX10_isLookedAt_0 ?_
  refine x_retPz hx hb hr (by omega) ?_ dX10_isLookedAt_1 hlocks
  first | rfl | omega | (split <;> omega)

set_option maxHeartbeats 4000000 in
set_option maxRecDepth 100000 in
theorem c_X1_isLookedAt (l : Launch) (g : xG) (σ : xS) (hH : HsOk σ) (a : Nat) (ha_a : a ∈ σ.2.1) : Met l yX1_isLookedAt wsX1_isLookedAt ({ frames := 1, cells := 0, slots := 0, locals := 32 }) (va_Pc [.ref a] (xPre g σ)) (x_Si (fun r => r = 1)) (0) (0) (fun _ => False) := by
  refine Met.ofW (cc := cX1_isLookedAt) (maxL := 1) (ret := (some .boolean)) (by decide) rfl ?_
  intro p e s m args below meth c s₁ B hml hv
  obtain ⟨rfl, hP, hK⟩ := hv
  have hx := B.exec
  have hb := B.bytes
  have hr := B.returns
  have hts := atoms_spec (ws := wsX1_isLookedAt) B.pre
  have hown : s.vm.findClass RX1 = some m.cls := findClass_of_methodNamed B.named
  have hlocks := B.notSynchronized
  have hl := lv_entry ([.ref a]) (n := 1) (Nat.le_of_ble_eq_true rfl)
  rw [lg_entry_eq]
  generalize (lg_sl ([.ref a]) ++ List.replicate (1 - (lg_sl ([.ref a])).length) Slot.unset).toArray = ls at hl ⊢
  have hl : lv_has ls 1 [(0, .ref a)] := hl
  have hH1 := (hH a ha_a).2.1
  have hH2 := (hH a ha_a).2.2
  refine x_iconst hx hb dX1_isLookedAt_0 ?_
  refine x_retPz hx hb hr (by omega) ?_ dX1_isLookedAt_1 hlocks
  first | rfl | omega | (split <;> omega)

set_option maxHeartbeats 4000000 in
set_option maxRecDepth 100000 in
theorem c_X3_shownOf (l : Launch) (g : xG) (σ : xS) (hH : HsOk σ) (a : Nat) (ha_a : a ∈ σ.2.1) (p0 : Int) (hp0 : 0 ≤ p0) (hp1 : p0 ≤ 100000) : Met l yX3_shownOf wsX3_shownOf ({ frames := 1, cells := 0, slots := 0, locals := 32 }) (va_Pc [.ref a, .int (iI (p0))] (xPre g σ)) (x_Si (fun r => r = p0)) (0) (0) (fun _ => False) := by
  refine Met.ofW (cc := cX3_shownOf) (maxL := 2) (ret := (some .int)) (by decide) rfl ?_
  intro p e s m args below meth c s₁ B hml hv
  obtain ⟨rfl, hP, hK⟩ := hv
  have hx := B.exec
  have hb := B.bytes
  have hr := B.returns
  have hts := atoms_spec (ws := wsX3_shownOf) B.pre
  have hown : s.vm.findClass RX3 = some m.cls := findClass_of_methodNamed B.named
  have hlocks := B.notSynchronized
  have hl := lv_entry ([.ref a, .int (iI (p0))]) (n := 2) (Nat.le_of_ble_eq_true rfl)
  rw [lg_entry_eq]
  generalize (lg_sl ([.ref a, .int (iI (p0))]) ++ List.replicate (2 - (lg_sl ([.ref a, .int (iI (p0))])).length) Slot.unset).toArray = ls at hl ⊢
  have hl : lv_has ls 2 [(0, .ref a), (1, .int (iI (p0)))] := hl
  have hH1 := (hH a ha_a).2.1
  have hH2 := (hH a ha_a).2.2
  refine lv_iload_n hx hb dX3_shownOf_0 rfl (lv_at hl 1 rfl) ?_
  refine x_retP hx hb hr (by omega) ?_ dX3_shownOf_1 hlocks
  first | rfl | omega | (split <;> omega)

set_option maxHeartbeats 4000000 in
set_option maxRecDepth 100000 in
theorem c_X6_shownOf (l : Launch) (g : xG) (σ : xS) (hH : HsOk σ) (a : Nat) (ha_a : a ∈ σ.2.1) (p0 : Int) (hp0 : 0 ≤ p0) (hp1 : p0 ≤ 100000) : Met l yX6_shownOf wsX6_shownOf ({ frames := 2, cells := 0, slots := 0, locals := 64 }) (va_Pc [.ref a, .int (iI (p0))] (xPre g σ)) (x_Si (fun r => r = p0 * 9 / 10)) (0) (0) (fun _ => False) := by
  refine Met.ofW (cc := cX6_shownOf) (maxL := 2) (ret := (some .int)) (by decide) rfl ?_
  intro p e s m args below meth c s₁ B hml hv
  obtain ⟨rfl, hP, hK⟩ := hv
  have hx := B.exec
  have hb := B.bytes
  have hr := B.returns
  have hts := atoms_spec (ws := wsX6_shownOf) B.pre
  have hown : s.vm.findClass RX6 = some m.cls := findClass_of_methodNamed B.named
  have hlocks := B.notSynchronized
  have hl := lv_entry ([.ref a, .int (iI (p0))]) (n := 2) (Nat.le_of_ble_eq_true rfl)
  rw [lg_entry_eq]
  generalize (lg_sl ([.ref a, .int (iI (p0))]) ++ List.replicate (2 - (lg_sl ([.ref a, .int (iI (p0))])).length) Slot.unset).toArray = ls at hl ⊢
  have hl : lv_has ls 2 [(0, .ref a), (1, .int (iI (p0)))] := hl
  have hH1 := (hH a ha_a).2.1
  have hH2 := (hH a ha_a).2.2
  refine lv_aload_n hx hb dX6_shownOf_0 rfl (lv_at hl 0 rfl) ?_
  refine lv_iload_n hx hb dX6_shownOf_1 rfl (lv_at hl 1 rfl) ?_
  obtain ⟨C0, cC0, hat0, hrec0⟩ := x_house hK hP ha_a
  refine x_ci (va_runSU (As := [.int (iI (p0))]) (rest := []) hat0 ⟨hx, hb, hml, hown, hts⟩ (c_X3_shownOf l g σ hH a ha_a (p0) (by omega) (by omega)) (va_cwSU 1 hts gX6_shownOf_X3_shownOf_s7 rfl rfl rfl (by decide +kernel) ⟨Nat.le_of_ble_eq_true rfl, Nat.le_of_ble_eq_true rfl⟩) (x_preV hK hP hrec0) rfl rfl hl.1 rfl (lv_room (Nat.le_of_ble_eq_true rfl)) dX6_shownOf_2 ⟨Nat.le_of_ble_eq_true rfl, Nat.le_of_ble_eq_true rfl⟩) (fun r_2 hr_2 qr_2 => ?_)
  replace qr_2 : r_2 = (p0) := qr_2
  refine x_bipush (n := 9) hx hb (by decide +kernel) dX6_shownOf_5 ?_
  refine x_imul hx hb dX6_shownOf_7 ?_
  refine x_bipush (n := 10) hx hb (by decide +kernel) dX6_shownOf_8 ?_
  refine x_idiv hx hb (by omega) (by omega) (by omega) (by omega) dX6_shownOf_10 ?_
  refine x_retP hx hb hr (by omega) ?_ dX6_shownOf_11 hlocks
  first | rfl | omega | (split <;> omega)

set_option maxHeartbeats 4000000 in
set_option maxRecDepth 100000 in
theorem c_X4_shownOf (l : Launch) (g : xG) (σ : xS) (hH : HsOk σ) (a : Nat) (ha_a : a ∈ σ.2.1) (p0 : Int) (hp0 : 0 ≤ p0) (hp1 : p0 ≤ 100000) : Met l yX4_shownOf wsX4_shownOf ({ frames := 2, cells := 0, slots := 0, locals := 64 }) (va_Pc [.ref a, .int (iI (p0))] (xPre g σ)) (x_Si (fun r => r = p0 / 2)) (0) (0) (fun _ => False) := by
  refine Met.ofW (cc := cX4_shownOf) (maxL := 2) (ret := (some .int)) (by decide) rfl ?_
  intro p e s m args below meth c s₁ B hml hv
  obtain ⟨rfl, hP, hK⟩ := hv
  have hx := B.exec
  have hb := B.bytes
  have hr := B.returns
  have hts := atoms_spec (ws := wsX4_shownOf) B.pre
  have hown : s.vm.findClass RX4 = some m.cls := findClass_of_methodNamed B.named
  have hlocks := B.notSynchronized
  have hl := lv_entry ([.ref a, .int (iI (p0))]) (n := 2) (Nat.le_of_ble_eq_true rfl)
  rw [lg_entry_eq]
  generalize (lg_sl ([.ref a, .int (iI (p0))]) ++ List.replicate (2 - (lg_sl ([.ref a, .int (iI (p0))])).length) Slot.unset).toArray = ls at hl ⊢
  have hl : lv_has ls 2 [(0, .ref a), (1, .int (iI (p0)))] := hl
  have hH1 := (hH a ha_a).2.1
  have hH2 := (hH a ha_a).2.2
  refine lv_aload_n hx hb dX4_shownOf_0 rfl (lv_at hl 0 rfl) ?_
  refine lv_iload_n hx hb dX4_shownOf_1 rfl (lv_at hl 1 rfl) ?_
  obtain ⟨C0, cC0, hat0, hrec0⟩ := x_house hK hP ha_a
  refine x_ci (x_runSX hK (As := [.int (iI (p0))]) (rest := []) hat0 ⟨hx, hb, hml, hown, hts⟩ (c_X3_shownOf l g σ hH a ha_a p0 (by omega) (by omega)) rfl rfl ⟨Nat.le_of_ble_eq_true rfl, Nat.le_of_ble_eq_true rfl⟩ (x_preV hK hP hrec0) rfl rfl hl.1 rfl (lv_room (Nat.le_of_ble_eq_true rfl)) dX4_shownOf_2 ⟨Nat.le_of_ble_eq_true rfl, Nat.le_of_ble_eq_true rfl⟩) (fun r_2 hr_2 qr_2 => ?_)
  replace qr_2 : r_2 = p0 := qr_2
  refine x_iconst hx hb dX4_shownOf_5 ?_
  refine x_idiv hx hb (by omega) (by omega) (by omega) (by omega) dX4_shownOf_6 ?_
  refine x_retP hx hb hr (by omega) ?_ dX4_shownOf_7 hlocks
  first | rfl | omega | (split <;> omega)

set_option maxHeartbeats 4000000 in
set_option maxRecDepth 100000 in
theorem c_X0_shownOf (l : Launch) (g : xG) (σ : xS) (hH : HsOk σ) (a : Nat) (ha_a : a ∈ σ.2.1) (p0 : Int) (hp0 : 0 ≤ p0) (hp1 : p0 ≤ 100000) : Met l yX0_shownOf wsX0_shownOf ({ frames := 3, cells := 0, slots := 0, locals := 96 }) (va_Pc [.ref a, .int (iI (p0))] (xPre g σ)) (x_Si (fun r => r = p0 * 9 / 10 + σ.2.2.2 a)) (0) (0) (fun _ => False) := by
  refine Met.ofW (cc := cX0_shownOf) (maxL := 2) (ret := (some .int)) (by decide) rfl ?_
  intro p e s m args below meth c s₁ B hml hv
  obtain ⟨rfl, hP, hK⟩ := hv
  have hx := B.exec
  have hb := B.bytes
  have hr := B.returns
  have hts := atoms_spec (ws := wsX0_shownOf) B.pre
  have hown : s.vm.findClass RX0 = some m.cls := findClass_of_methodNamed B.named
  have hlocks := B.notSynchronized
  have hl := lv_entry ([.ref a, .int (iI (p0))]) (n := 2) (Nat.le_of_ble_eq_true rfl)
  rw [lg_entry_eq]
  generalize (lg_sl ([.ref a, .int (iI (p0))]) ++ List.replicate (2 - (lg_sl ([.ref a, .int (iI (p0))])).length) Slot.unset).toArray = ls at hl ⊢
  have hl : lv_has ls 2 [(0, .ref a), (1, .int (iI (p0)))] := hl
  have hH1 := (hH a ha_a).2.1
  have hH2 := (hH a ha_a).2.2
  have hw_0 := hts (.fieldLink RX0 11 "TwiceAsRich$Beggar" "figure" "I") (by decide +kernel)
  have hinH := (show ∀ q ∈ hCls, ∀ w ∈ u_ws q.1 q.2.1 q.2.2, w ∈ wsX0_shownOf by decide +kernel)
  have hw_2 := hts (.sameField "TwiceAsRich$Beggar" "TwiceAsRich$House" "figure" "I") (by decide +kernel)
  refine lv_aload_n hx hb dX0_shownOf_0 rfl (lv_at hl 0 rfl) ?_
  refine lv_iload_n hx hb dX0_shownOf_1 rfl (lv_at hl 1 rfl) ?_
  obtain ⟨C0, cC0, hat0, hrec0⟩ := x_house hK hP ha_a
  refine x_ci (va_runSU (As := [.int (iI (p0))]) (rest := []) hat0 ⟨hx, hb, hml, hown, hts⟩ (c_X6_shownOf l g σ hH a ha_a (p0) (by omega) (by omega)) (va_cwSU 1 hts gX0_shownOf_X6_shownOf_s7 rfl rfl rfl (by decide +kernel) ⟨Nat.le_of_ble_eq_true rfl, Nat.le_of_ble_eq_true rfl⟩) (x_preV hK hP hrec0) rfl rfl hl.1 rfl (lv_room (Nat.le_of_ble_eq_true rfl)) dX0_shownOf_2 ⟨Nat.le_of_ble_eq_true rfl, Nat.le_of_ble_eq_true rfl⟩) (fun r_2 hr_2 qr_2 => ?_)
  replace qr_2 : r_2 = (p0) * 9 / 10 := qr_2
  refine lv_aload_n hx hb dX0_shownOf_5 rfl (lv_at hl 0 rfl) ?_
  refine x_fig hx hb hts hinH hown hK hP ha_a hw_0 (u_same hw_2) dX0_shownOf_6 ?_
  refine x_iadd hx hb dX0_shownOf_9 ?_
  refine x_retP hx hb hr (by omega) ?_ dX0_shownOf_10 hlocks
  first | rfl | omega | (split <;> omega)

set_option maxHeartbeats 4000000 in
set_option maxRecDepth 100000 in
theorem c_X3_allowedBy (l : Launch) (g : xG) (σ : xS) (hH : HsOk σ) (a : Nat) (ha_a : a ∈ σ.2.1) (p0 : Int) (hp0 : 0 ≤ p0) (hp1 : p0 ≤ 100000) : Met l yX3_allowedBy wsX3_allowedBy ({ frames := 1, cells := 0, slots := 0, locals := 32 }) (va_Pc [.ref a, .int (iI (p0))] (xPre g σ)) (x_Si (fun r => r = 2 * p0)) (0) (0) (fun _ => False) := by
  refine Met.ofW (cc := cX3_allowedBy) (maxL := 2) (ret := (some .int)) (by decide) rfl ?_
  intro p e s m args below meth c s₁ B hml hv
  obtain ⟨rfl, hP, hK⟩ := hv
  have hx := B.exec
  have hb := B.bytes
  have hr := B.returns
  have hts := atoms_spec (ws := wsX3_allowedBy) B.pre
  have hown : s.vm.findClass RX3 = some m.cls := findClass_of_methodNamed B.named
  have hlocks := B.notSynchronized
  have hl := lv_entry ([.ref a, .int (iI (p0))]) (n := 2) (Nat.le_of_ble_eq_true rfl)
  rw [lg_entry_eq]
  generalize (lg_sl ([.ref a, .int (iI (p0))]) ++ List.replicate (2 - (lg_sl ([.ref a, .int (iI (p0))])).length) Slot.unset).toArray = ls at hl ⊢
  have hl : lv_has ls 2 [(0, .ref a), (1, .int (iI (p0)))] := hl
  have hH1 := (hH a ha_a).2.1
  have hH2 := (hH a ha_a).2.2
  refine x_iconst hx hb dX3_allowedBy_0 ?_
  refine lv_iload_n hx hb dX3_allowedBy_1 rfl (lv_at hl 1 rfl) ?_
  refine x_imul hx hb dX3_allowedBy_2 ?_
  refine x_retP hx hb hr (by omega) ?_ dX3_allowedBy_3 hlocks
  first | rfl | omega | (split <;> omega)

set_option maxHeartbeats 4000000 in
set_option maxRecDepth 100000 in
theorem c_X2_allowedBy (l : Launch) (g : xG) (σ : xS) (hH : HsOk σ) (a : Nat) (ha_a : a ∈ σ.2.1) (p0 : Int) (hp0 : 0 ≤ p0) (hp1 : p0 ≤ 100000) : Met l yX2_allowedBy wsX2_allowedBy ({ frames := 2, cells := 0, slots := 0, locals := 64 }) (va_Pc [.ref a, .int (iI (p0))] (xPre g σ)) (x_Si (fun r => r = 2 * p0 + σ.2.2.2 a)) (0) (0) (fun _ => False) := by
  refine Met.ofW (cc := cX2_allowedBy) (maxL := 2) (ret := (some .int)) (by decide) rfl ?_
  intro p e s m args below meth c s₁ B hml hv
  obtain ⟨rfl, hP, hK⟩ := hv
  have hx := B.exec
  have hb := B.bytes
  have hr := B.returns
  have hts := atoms_spec (ws := wsX2_allowedBy) B.pre
  have hown : s.vm.findClass RX2 = some m.cls := findClass_of_methodNamed B.named
  have hlocks := B.notSynchronized
  have hl := lv_entry ([.ref a, .int (iI (p0))]) (n := 2) (Nat.le_of_ble_eq_true rfl)
  rw [lg_entry_eq]
  generalize (lg_sl ([.ref a, .int (iI (p0))]) ++ List.replicate (2 - (lg_sl ([.ref a, .int (iI (p0))])).length) Slot.unset).toArray = ls at hl ⊢
  have hl : lv_has ls 2 [(0, .ref a), (1, .int (iI (p0)))] := hl
  have hH1 := (hH a ha_a).2.1
  have hH2 := (hH a ha_a).2.2
  have hw_0 := hts (.fieldLink RX2 11 "TwiceAsRich$Heir" "figure" "I") (by decide +kernel)
  have hinH := (show ∀ q ∈ hCls, ∀ w ∈ u_ws q.1 q.2.1 q.2.2, w ∈ wsX2_allowedBy by decide +kernel)
  have hw_2 := hts (.sameField "TwiceAsRich$Heir" "TwiceAsRich$House" "figure" "I") (by decide +kernel)
  refine lv_aload_n hx hb dX2_allowedBy_0 rfl (lv_at hl 0 rfl) ?_
  refine lv_iload_n hx hb dX2_allowedBy_1 rfl (lv_at hl 1 rfl) ?_
  obtain ⟨C0, cC0, hat0, hrec0⟩ := x_house hK hP ha_a
  refine x_ci (va_runSU (As := [.int (iI (p0))]) (rest := []) hat0 ⟨hx, hb, hml, hown, hts⟩ (c_X3_allowedBy l g σ hH a ha_a (p0) (by omega) (by omega)) (va_cwSU 1 hts gX2_allowedBy_X3_allowedBy_s7 rfl rfl rfl (by decide +kernel) ⟨Nat.le_of_ble_eq_true rfl, Nat.le_of_ble_eq_true rfl⟩) (x_preV hK hP hrec0) rfl rfl hl.1 rfl (lv_room (Nat.le_of_ble_eq_true rfl)) dX2_allowedBy_2 ⟨Nat.le_of_ble_eq_true rfl, Nat.le_of_ble_eq_true rfl⟩) (fun r_2 hr_2 qr_2 => ?_)
  replace qr_2 : r_2 = 2 * (p0) := qr_2
  refine lv_aload_n hx hb dX2_allowedBy_5 rfl (lv_at hl 0 rfl) ?_
  refine x_fig hx hb hts hinH hown hK hP ha_a hw_0 (u_same hw_2) dX2_allowedBy_6 ?_
  refine x_iadd hx hb dX2_allowedBy_9 ?_
  refine x_retP hx hb hr (by omega) ?_ dX2_allowedBy_10 hlocks
  first | rfl | omega | (split <;> omega)

set_option maxHeartbeats 4000000 in
set_option maxRecDepth 100000 in
theorem c_X10_allowedBy (l : Launch) (g : xG) (σ : xS) (hH : HsOk σ) (a : Nat) (ha_a : a ∈ σ.2.1) (p0 : Int) (hp0 : 0 ≤ p0) (hp1 : p0 ≤ 100000) : Met l yX10_allowedBy wsX10_allowedBy ({ frames := 1, cells := 0, slots := 0, locals := 32 }) (va_Pc [.ref a, .int (iI (p0))] (xPre g σ)) (x_Si (fun r => r = 9999)) (0) (0) (fun _ => False) := by
  refine Met.ofW (cc := cX10_allowedBy) (maxL := 2) (ret := (some .int)) (by decide) rfl ?_
  intro p e s m args below meth c s₁ B hml hv
  obtain ⟨rfl, hP, hK⟩ := hv
  have hx := B.exec
  have hb := B.bytes
  have hr := B.returns
  have hts := atoms_spec (ws := wsX10_allowedBy) B.pre
  have hown : s.vm.findClass RX10 = some m.cls := findClass_of_methodNamed B.named
  have hlocks := B.notSynchronized
  have hl := lv_entry ([.ref a, .int (iI (p0))]) (n := 2) (Nat.le_of_ble_eq_true rfl)
  rw [lg_entry_eq]
  generalize (lg_sl ([.ref a, .int (iI (p0))]) ++ List.replicate (2 - (lg_sl ([.ref a, .int (iI (p0))])).length) Slot.unset).toArray = ls at hl ⊢
  have hl : lv_has ls 2 [(0, .ref a), (1, .int (iI (p0)))] := hl
  have hH1 := (hH a ha_a).2.1
  have hH2 := (hH a ha_a).2.2
  refine x_sipush (n := 9999) hx hb (by decide +kernel) dX10_allowedBy_0 ?_
  refine x_retP hx hb hr (by omega) ?_ dX10_allowedBy_3 hlocks
  first | rfl | omega | (split <;> omega)

set_option maxHeartbeats 4000000 in
set_option maxRecDepth 100000 in
theorem c_X4_allowedBy (l : Launch) (g : xG) (σ : xS) (hH : HsOk σ) (a : Nat) (ha_a : a ∈ σ.2.1) (p0 : Int) (hp0 : 0 ≤ p0) (hp1 : p0 ≤ 100000) : Met l yX4_allowedBy wsX4_allowedBy ({ frames := 3, cells := 0, slots := 0, locals := 96 }) (va_Pc [.ref a, .int (iI (p0))] (xPre g σ)) (x_Si (fun r => r = (if 2 * p0 + σ.2.2.2 a < 1 then 0 else 2 * p0 + σ.2.2.2 a - 1))) (0) (0) (fun _ => False) := by
  refine Met.ofW (cc := cX4_allowedBy) (maxL := 2) (ret := (some .int)) (by decide) rfl ?_
  intro p e s m args below meth c s₁ B hml hv
  obtain ⟨rfl, hP, hK⟩ := hv
  have hx := B.exec
  have hb := B.bytes
  have hr := B.returns
  have hts := atoms_spec (ws := wsX4_allowedBy) B.pre
  have hown : s.vm.findClass RX4 = some m.cls := findClass_of_methodNamed B.named
  have hlocks := B.notSynchronized
  have hl := lv_entry ([.ref a, .int (iI (p0))]) (n := 2) (Nat.le_of_ble_eq_true rfl)
  rw [lg_entry_eq]
  generalize (lg_sl ([.ref a, .int (iI (p0))]) ++ List.replicate (2 - (lg_sl ([.ref a, .int (iI (p0))])).length) Slot.unset).toArray = ls at hl ⊢
  have hl : lv_has ls 2 [(0, .ref a), (1, .int (iI (p0)))] := hl
  have hH1 := (hH a ha_a).2.1
  have hH2 := (hH a ha_a).2.2
  have hw_0 := hts (.methodLink RX4 14 Lib.Math.max.name) (by decide +kernel)
  have hw_1 := hts (.static Lib.Math.max.name) (by decide +kernel)
  have hw_2 := hts (.initialized "java/lang/Math") (by decide +kernel)
  have hw_3 := hts (.code Lib.Math.max.name Lib.Math.max.code 2 (some .int)) (by decide +kernel)
  refine x_iconst hx hb dX4_allowedBy_0 ?_
  refine lv_aload_n hx hb dX4_allowedBy_1 rfl (lv_at hl 0 rfl) ?_
  refine lv_iload_n hx hb dX4_allowedBy_2 rfl (lv_at hl 1 rfl) ?_
  obtain ⟨C0, cC0, hat0, hrec0⟩ := x_house hK hP ha_a
  refine x_ci (va_runSU (As := [.int (iI (p0))]) (rest := [.int (iI (0))]) hat0 ⟨hx, hb, hml, hown, hts⟩ (c_X2_allowedBy l g σ hH a ha_a (p0) (by omega) (by omega)) (va_cwSU 1 hts gX4_allowedBy_X2_allowedBy_s11 rfl rfl rfl (by decide +kernel) ⟨Nat.le_of_ble_eq_true rfl, Nat.le_of_ble_eq_true rfl⟩) (x_preV hK hP hrec0) rfl rfl hl.1 rfl (lv_room (Nat.le_of_ble_eq_true rfl)) dX4_allowedBy_3 ⟨Nat.le_of_ble_eq_true rfl, Nat.le_of_ble_eq_true rfl⟩) (fun r_3 hr_3 qr_3 => ?_)
  replace qr_3 : r_3 = 2 * (p0) + σ.2.2.2 a := qr_3
  refine x_iconst hx hb dX4_allowedBy_6 ?_
  refine x_isub hx hb dX4_allowedBy_7 ?_
  refine x_max hx hb (hml.trans hl.1.symm) hown hw_0 hw_1 hw_2 hw_3 (Nat.le_of_ble_eq_true rfl) (Nat.le_of_ble_eq_true rfl) (Nat.le_of_ble_eq_true rfl) (Nat.le_of_ble_eq_true rfl) (by omega) (by omega) dX4_allowedBy_8 (fun q_1 hq_1 => ?_)
  refine x_retP hx hb hr (by omega) ?_ dX4_allowedBy_11 hlocks
  first | rfl | omega | (split <;> omega)

set_option maxHeartbeats 4000000 in
set_option maxRecDepth 100000 in
theorem c_X9_allowedBy (l : Launch) (g : xG) (σ : xS) (hH : HsOk σ) (a : Nat) (ha_a : a ∈ σ.2.1) (p0 : Int) (hp0 : 0 ≤ p0) (hp1 : p0 ≤ 100000) : Met l yX9_allowedBy wsX9_allowedBy ({ frames := 3, cells := 0, slots := 0, locals := 96 }) (va_Pc [.ref a, .int (iI (p0))] (xPre g σ)) (x_Si (fun r => r = 2 * (2 * p0 + σ.2.2.2 a))) (0) (0) (fun _ => False) := by
  refine Met.ofW (cc := cX9_allowedBy) (maxL := 2) (ret := (some .int)) (by decide) rfl ?_
  intro p e s m args below meth c s₁ B hml hv
  obtain ⟨rfl, hP, hK⟩ := hv
  have hx := B.exec
  have hb := B.bytes
  have hr := B.returns
  have hts := atoms_spec (ws := wsX9_allowedBy) B.pre
  have hown : s.vm.findClass RX9 = some m.cls := findClass_of_methodNamed B.named
  have hlocks := B.notSynchronized
  have hl := lv_entry ([.ref a, .int (iI (p0))]) (n := 2) (Nat.le_of_ble_eq_true rfl)
  rw [lg_entry_eq]
  generalize (lg_sl ([.ref a, .int (iI (p0))]) ++ List.replicate (2 - (lg_sl ([.ref a, .int (iI (p0))])).length) Slot.unset).toArray = ls at hl ⊢
  have hl : lv_has ls 2 [(0, .ref a), (1, .int (iI (p0)))] := hl
  have hH1 := (hH a ha_a).2.1
  have hH2 := (hH a ha_a).2.2
  refine x_iconst hx hb dX9_allowedBy_0 ?_
  refine lv_aload_n hx hb dX9_allowedBy_1 rfl (lv_at hl 0 rfl) ?_
  refine lv_iload_n hx hb dX9_allowedBy_2 rfl (lv_at hl 1 rfl) ?_
  obtain ⟨C0, cC0, hat0, hrec0⟩ := x_house hK hP ha_a
  refine x_ci (va_runSU (As := [.int (iI (p0))]) (rest := [.int (iI (2))]) hat0 ⟨hx, hb, hml, hown, hts⟩ (c_X2_allowedBy l g σ hH a ha_a (p0) (by omega) (by omega)) (va_cwSU 1 hts gX9_allowedBy_X2_allowedBy_s7 rfl rfl rfl (by decide +kernel) ⟨Nat.le_of_ble_eq_true rfl, Nat.le_of_ble_eq_true rfl⟩) (x_preV hK hP hrec0) rfl rfl hl.1 rfl (lv_room (Nat.le_of_ble_eq_true rfl)) dX9_allowedBy_3 ⟨Nat.le_of_ble_eq_true rfl, Nat.le_of_ble_eq_true rfl⟩) (fun r_3 hr_3 qr_3 => ?_)
  replace qr_3 : r_3 = 2 * (p0) + σ.2.2.2 a := qr_3
  refine x_imul hx hb dX9_allowedBy_6 ?_
  refine x_retP hx hb hr (by omega) ?_ dX9_allowedBy_7 hlocks
  first | rfl | omega | (split <;> omega)

set_option maxHeartbeats 4000000 in
set_option maxRecDepth 100000 in
theorem c_X3_weekly (l : Launch) (g : xG) (σ : xS) (hH : HsOk σ) (a : Nat) (ha_a : a ∈ σ.2.1) : Met l yX3_weekly wsX3_weekly ({ frames := 1, cells := 0, slots := 0, locals := 32 }) (va_Pc [.ref a] (xPre g σ)) (x_Si (fun r => r = 2)) (0) (0) (fun _ => False) := by
  refine Met.ofW (cc := cX3_weekly) (maxL := 1) (ret := (some .int)) (by decide) rfl ?_
  intro p e s m args below meth c s₁ B hml hv
  obtain ⟨rfl, hP, hK⟩ := hv
  have hx := B.exec
  have hb := B.bytes
  have hr := B.returns
  have hts := atoms_spec (ws := wsX3_weekly) B.pre
  have hown : s.vm.findClass RX3 = some m.cls := findClass_of_methodNamed B.named
  have hlocks := B.notSynchronized
  have hl := lv_entry ([.ref a]) (n := 1) (Nat.le_of_ble_eq_true rfl)
  rw [lg_entry_eq]
  generalize (lg_sl ([.ref a]) ++ List.replicate (1 - (lg_sl ([.ref a])).length) Slot.unset).toArray = ls at hl ⊢
  have hl : lv_has ls 1 [(0, .ref a)] := hl
  have hH1 := (hH a ha_a).2.1
  have hH2 := (hH a ha_a).2.2
  refine x_iconst hx hb dX3_weekly_0 ?_
  refine x_retP hx hb hr (by omega) ?_ dX3_weekly_1 hlocks
  first | rfl | omega | (split <;> omega)

set_option maxHeartbeats 4000000 in
set_option maxRecDepth 100000 in
theorem c_X2_weekly (l : Launch) (g : xG) (σ : xS) (hH : HsOk σ) (a : Nat) (ha_a : a ∈ σ.2.1) : Met l yX2_weekly wsX2_weekly ({ frames := 2, cells := 0, slots := 0, locals := 64 }) (va_Pc [.ref a] (xPre g σ)) (x_Si (fun r => r = 2 + σ.2.2.2 a)) (0) (0) (fun _ => False) := by
  refine Met.ofW (cc := cX2_weekly) (maxL := 1) (ret := (some .int)) (by decide) rfl ?_
  intro p e s m args below meth c s₁ B hml hv
  obtain ⟨rfl, hP, hK⟩ := hv
  have hx := B.exec
  have hb := B.bytes
  have hr := B.returns
  have hts := atoms_spec (ws := wsX2_weekly) B.pre
  have hown : s.vm.findClass RX2 = some m.cls := findClass_of_methodNamed B.named
  have hlocks := B.notSynchronized
  have hl := lv_entry ([.ref a]) (n := 1) (Nat.le_of_ble_eq_true rfl)
  rw [lg_entry_eq]
  generalize (lg_sl ([.ref a]) ++ List.replicate (1 - (lg_sl ([.ref a])).length) Slot.unset).toArray = ls at hl ⊢
  have hl : lv_has ls 1 [(0, .ref a)] := hl
  have hH1 := (hH a ha_a).2.1
  have hH2 := (hH a ha_a).2.2
  have hw_0 := hts (.fieldLink RX2 11 "TwiceAsRich$Heir" "figure" "I") (by decide +kernel)
  have hinH := (show ∀ q ∈ hCls, ∀ w ∈ u_ws q.1 q.2.1 q.2.2, w ∈ wsX2_weekly by decide +kernel)
  have hw_2 := hts (.sameField "TwiceAsRich$Heir" "TwiceAsRich$House" "figure" "I") (by decide +kernel)
  refine lv_aload_n hx hb dX2_weekly_0 rfl (lv_at hl 0 rfl) ?_
  obtain ⟨C0, cC0, hat0, hrec0⟩ := x_house hK hP ha_a
  refine x_ci (va_runSU (As := []) (rest := []) hat0 ⟨hx, hb, hml, hown, hts⟩ (c_X3_weekly l g σ hH a ha_a) (va_cwSU 0 hts gX2_weekly_X3_weekly_s17 rfl rfl rfl (by decide +kernel) ⟨Nat.le_of_ble_eq_true rfl, Nat.le_of_ble_eq_true rfl⟩) (x_preV hK hP hrec0) rfl rfl hl.1 rfl (lv_room (Nat.le_of_ble_eq_true rfl)) dX2_weekly_1 ⟨Nat.le_of_ble_eq_true rfl, Nat.le_of_ble_eq_true rfl⟩) (fun r_1 hr_1 qr_1 => ?_)
  replace qr_1 : r_1 = 2 := qr_1
  subst qr_1
  refine lv_aload_n hx hb dX2_weekly_4 rfl (lv_at hl 0 rfl) ?_
  refine x_fig hx hb hts hinH hown hK hP ha_a hw_0 (u_same hw_2) dX2_weekly_5 ?_
  refine x_iadd hx hb dX2_weekly_8 ?_
  refine x_retP hx hb hr (by omega) ?_ dX2_weekly_9 hlocks
  first | rfl | omega | (split <;> omega)

set_option maxHeartbeats 4000000 in
set_option maxRecDepth 100000 in
theorem c_X6_weekly (l : Launch) (g : xG) (σ : xS) (hH : HsOk σ) (a : Nat) (ha_a : a ∈ σ.2.1) : Met l yX6_weekly wsX6_weekly ({ frames := 2, cells := 0, slots := 0, locals := 64 }) (va_Pc [.ref a] (xPre g σ)) (x_Si (fun r => r = 1)) (0) (0) (fun _ => False) := by
  refine Met.ofW (cc := cX6_weekly) (maxL := 1) (ret := (some .int)) (by decide) rfl ?_
  intro p e s m args below meth c s₁ B hml hv
  obtain ⟨rfl, hP, hK⟩ := hv
  have hx := B.exec
  have hb := B.bytes
  have hr := B.returns
  have hts := atoms_spec (ws := wsX6_weekly) B.pre
  have hown : s.vm.findClass RX6 = some m.cls := findClass_of_methodNamed B.named
  have hlocks := B.notSynchronized
  have hl := lv_entry ([.ref a]) (n := 1) (Nat.le_of_ble_eq_true rfl)
  rw [lg_entry_eq]
  generalize (lg_sl ([.ref a]) ++ List.replicate (1 - (lg_sl ([.ref a])).length) Slot.unset).toArray = ls at hl ⊢
  have hl : lv_has ls 1 [(0, .ref a)] := hl
  have hH1 := (hH a ha_a).2.1
  have hH2 := (hH a ha_a).2.2
  refine lv_aload_n hx hb dX6_weekly_0 rfl (lv_at hl 0 rfl) ?_
  obtain ⟨C0, cC0, hat0, hrec0⟩ := x_house hK hP ha_a
  refine x_ci (va_runSU (As := []) (rest := []) hat0 ⟨hx, hb, hml, hown, hts⟩ (c_X3_weekly l g σ hH a ha_a) (va_cwSU 0 hts gX6_weekly_X3_weekly_s11 rfl rfl rfl (by decide +kernel) ⟨Nat.le_of_ble_eq_true rfl, Nat.le_of_ble_eq_true rfl⟩) (x_preV hK hP hrec0) rfl rfl hl.1 rfl (lv_room (Nat.le_of_ble_eq_true rfl)) dX6_weekly_1 ⟨Nat.le_of_ble_eq_true rfl, Nat.le_of_ble_eq_true rfl⟩) (fun r_1 hr_1 qr_1 => ?_)
  replace qr_1 : r_1 = 2 := qr_1
  subst qr_1
  refine x_iconst hx hb dX6_weekly_4 ?_
  refine x_isub hx hb dX6_weekly_5 ?_
  refine x_retP hx hb hr (by omega) ?_ dX6_weekly_6 hlocks
  first | rfl | omega | (split <;> omega)

set_option maxHeartbeats 4000000 in
set_option maxRecDepth 100000 in
theorem c_X10_weekly (l : Launch) (g : xG) (σ : xS) (hH : HsOk σ) (a : Nat) (ha_a : a ∈ σ.2.1) : Met l yX10_weekly wsX10_weekly ({ frames := 1, cells := 0, slots := 0, locals := 32 }) (va_Pc [.ref a] (xPre g σ)) (x_Si (fun r => r = 0)) (0) (0) (fun _ => False) := by
  refine Met.ofW (cc := cX10_weekly) (maxL := 1) (ret := (some .int)) (by decide) rfl ?_
  intro p e s m args below meth c s₁ B hml hv
  obtain ⟨rfl, hP, hK⟩ := hv
  have hx := B.exec
  have hb := B.bytes
  have hr := B.returns
  have hts := atoms_spec (ws := wsX10_weekly) B.pre
  have hown : s.vm.findClass RX10 = some m.cls := findClass_of_methodNamed B.named
  have hlocks := B.notSynchronized
  have hl := lv_entry ([.ref a]) (n := 1) (Nat.le_of_ble_eq_true rfl)
  rw [lg_entry_eq]
  generalize (lg_sl ([.ref a]) ++ List.replicate (1 - (lg_sl ([.ref a])).length) Slot.unset).toArray = ls at hl ⊢
  have hl : lv_has ls 1 [(0, .ref a)] := hl
  have hH1 := (hH a ha_a).2.1
  have hH2 := (hH a ha_a).2.2
  refine x_iconst hx hb dX10_weekly_0 ?_
  refine x_retP hx hb hr (by omega) ?_ dX10_weekly_1 hlocks
  first | rfl | omega | (split <;> omega)

set_option maxHeartbeats 4000000 in
set_option maxRecDepth 100000 in
theorem c_X4_weekly (l : Launch) (g : xG) (σ : xS) (hH : HsOk σ) (a : Nat) (ha_a : a ∈ σ.2.1) : Met l yX4_weekly wsX4_weekly ({ frames := 3, cells := 0, slots := 0, locals := 96 }) (va_Pc [.ref a] (xPre g σ)) (x_Si (fun r => r = 1 + σ.2.2.2 a)) (0) (0) (fun _ => False) := by
  refine Met.ofW (cc := cX4_weekly) (maxL := 1) (ret := (some .int)) (by decide) rfl ?_
  intro p e s m args below meth c s₁ B hml hv
  obtain ⟨rfl, hP, hK⟩ := hv
  have hx := B.exec
  have hb := B.bytes
  have hr := B.returns
  have hts := atoms_spec (ws := wsX4_weekly) B.pre
  have hown : s.vm.findClass RX4 = some m.cls := findClass_of_methodNamed B.named
  have hlocks := B.notSynchronized
  have hl := lv_entry ([.ref a]) (n := 1) (Nat.le_of_ble_eq_true rfl)
  rw [lg_entry_eq]
  generalize (lg_sl ([.ref a]) ++ List.replicate (1 - (lg_sl ([.ref a])).length) Slot.unset).toArray = ls at hl ⊢
  have hl : lv_has ls 1 [(0, .ref a)] := hl
  have hH1 := (hH a ha_a).2.1
  have hH2 := (hH a ha_a).2.2
  refine lv_aload_n hx hb dX4_weekly_0 rfl (lv_at hl 0 rfl) ?_
  obtain ⟨C0, cC0, hat0, hrec0⟩ := x_house hK hP ha_a
  refine x_ci (va_runSU (As := []) (rest := []) hat0 ⟨hx, hb, hml, hown, hts⟩ (c_X2_weekly l g σ hH a ha_a) (va_cwSU 0 hts gX4_weekly_X2_weekly_s20 rfl rfl rfl (by decide +kernel) ⟨Nat.le_of_ble_eq_true rfl, Nat.le_of_ble_eq_true rfl⟩) (x_preV hK hP hrec0) rfl rfl hl.1 rfl (lv_room (Nat.le_of_ble_eq_true rfl)) dX4_weekly_1 ⟨Nat.le_of_ble_eq_true rfl, Nat.le_of_ble_eq_true rfl⟩) (fun r_1 hr_1 qr_1 => ?_)
  replace qr_1 : r_1 = 2 + σ.2.2.2 a := qr_1
  refine x_iconst hx hb dX4_weekly_4 ?_
  refine x_isub hx hb dX4_weekly_5 ?_
  refine x_retP hx hb hr (by omega) ?_ dX4_weekly_6 hlocks
  first | rfl | omega | (split <;> omega)

set_option maxHeartbeats 4000000 in
set_option maxRecDepth 100000 in
theorem c_X0_weekly (l : Launch) (g : xG) (σ : xS) (hH : HsOk σ) (a : Nat) (ha_a : a ∈ σ.2.1) : Met l yX0_weekly wsX0_weekly ({ frames := 3, cells := 0, slots := 0, locals := 96 }) (va_Pc [.ref a] (xPre g σ)) (x_Si (fun r => r = 0)) (0) (0) (fun _ => False) := by
  refine Met.ofW (cc := cX0_weekly) (maxL := 1) (ret := (some .int)) (by decide) rfl ?_
  intro p e s m args below meth c s₁ B hml hv
  obtain ⟨rfl, hP, hK⟩ := hv
  have hx := B.exec
  have hb := B.bytes
  have hr := B.returns
  have hts := atoms_spec (ws := wsX0_weekly) B.pre
  have hown : s.vm.findClass RX0 = some m.cls := findClass_of_methodNamed B.named
  have hlocks := B.notSynchronized
  have hl := lv_entry ([.ref a]) (n := 1) (Nat.le_of_ble_eq_true rfl)
  rw [lg_entry_eq]
  generalize (lg_sl ([.ref a]) ++ List.replicate (1 - (lg_sl ([.ref a])).length) Slot.unset).toArray = ls at hl ⊢
  have hl : lv_has ls 1 [(0, .ref a)] := hl
  have hH1 := (hH a ha_a).2.1
  have hH2 := (hH a ha_a).2.2
  refine lv_aload_n hx hb dX0_weekly_0 rfl (lv_at hl 0 rfl) ?_
  obtain ⟨C0, cC0, hat0, hrec0⟩ := x_house hK hP ha_a
  refine x_ci (va_runSU (As := []) (rest := []) hat0 ⟨hx, hb, hml, hown, hts⟩ (c_X6_weekly l g σ hH a ha_a) (va_cwSU 0 hts gX0_weekly_X6_weekly_s17 rfl rfl rfl (by decide +kernel) ⟨Nat.le_of_ble_eq_true rfl, Nat.le_of_ble_eq_true rfl⟩) (x_preV hK hP hrec0) rfl rfl hl.1 rfl (lv_room (Nat.le_of_ble_eq_true rfl)) dX0_weekly_1 ⟨Nat.le_of_ble_eq_true rfl, Nat.le_of_ble_eq_true rfl⟩) (fun r_1 hr_1 qr_1 => ?_)
  replace qr_1 : r_1 = 1 := qr_1
  subst qr_1
  refine x_iconst hx hb dX0_weekly_4 ?_
  refine x_isub hx hb dX0_weekly_5 ?_
  refine x_retP hx hb hr (by omega) ?_ dX0_weekly_6 hlocks
  first | rfl | omega | (split <;> omega)

set_option maxHeartbeats 4000000 in
set_option maxRecDepth 100000 in
theorem c_X9_weekly (l : Launch) (g : xG) (σ : xS) (hH : HsOk σ) (a : Nat) (ha_a : a ∈ σ.2.1) : Met l yX9_weekly wsX9_weekly ({ frames := 3, cells := 0, slots := 0, locals := 96 }) (va_Pc [.ref a] (xPre g σ)) (x_Si (fun r => r = 2 * (2 + σ.2.2.2 a))) (0) (0) (fun _ => False) := by
  refine Met.ofW (cc := cX9_weekly) (maxL := 1) (ret := (some .int)) (by decide) rfl ?_
  intro p e s m args below meth c s₁ B hml hv
  obtain ⟨rfl, hP, hK⟩ := hv
  have hx := B.exec
  have hb := B.bytes
  have hr := B.returns
  have hts := atoms_spec (ws := wsX9_weekly) B.pre
  have hown : s.vm.findClass RX9 = some m.cls := findClass_of_methodNamed B.named
  have hlocks := B.notSynchronized
  have hl := lv_entry ([.ref a]) (n := 1) (Nat.le_of_ble_eq_true rfl)
  rw [lg_entry_eq]
  generalize (lg_sl ([.ref a]) ++ List.replicate (1 - (lg_sl ([.ref a])).length) Slot.unset).toArray = ls at hl ⊢
  have hl : lv_has ls 1 [(0, .ref a)] := hl
  have hH1 := (hH a ha_a).2.1
  have hH2 := (hH a ha_a).2.2
  refine x_iconst hx hb dX9_weekly_0 ?_
  refine lv_aload_n hx hb dX9_weekly_1 rfl (lv_at hl 0 rfl) ?_
  obtain ⟨C0, cC0, hat0, hrec0⟩ := x_house hK hP ha_a
  refine x_ci (va_runSU (As := []) (rest := [.int (iI (2))]) hat0 ⟨hx, hb, hml, hown, hts⟩ (c_X2_weekly l g σ hH a ha_a) (va_cwSU 0 hts gX9_weekly_X2_weekly_s11 rfl rfl rfl (by decide +kernel) ⟨Nat.le_of_ble_eq_true rfl, Nat.le_of_ble_eq_true rfl⟩) (x_preV hK hP hrec0) rfl rfl hl.1 rfl (lv_room (Nat.le_of_ble_eq_true rfl)) dX9_weekly_2 ⟨Nat.le_of_ble_eq_true rfl, Nat.le_of_ble_eq_true rfl⟩) (fun r_2 hr_2 qr_2 => ?_)
  replace qr_2 : r_2 = 2 + σ.2.2.2 a := qr_2
  refine x_imul hx hb dX9_weekly_5 ?_
  refine x_retP hx hb hr (by omega) ?_ dX9_weekly_6 hlocks
  first | rfl | omega | (split <;> omega)

set_option maxHeartbeats 4000000 in
set_option maxRecDepth 100000 in
theorem c_X1_weekly (l : Launch) (g : xG) (σ : xS) (hH : HsOk σ) (a : Nat) (ha_a : a ∈ σ.2.1) : Met l yX1_weekly wsX1_weekly ({ frames := 2, cells := 0, slots := 0, locals := 64 }) (va_Pc [.ref a] (xPre g σ)) (x_Si (fun r => r = σ.2.2.2 a)) (0) (0) (fun _ => False) := by
  refine Met.ofW (cc := cX1_weekly) (maxL := 1) (ret := (some .int)) (by decide) rfl ?_
  intro p e s m args below meth c s₁ B hml hv
  obtain ⟨rfl, hP, hK⟩ := hv
  have hx := B.exec
  have hb := B.bytes
  have hr := B.returns
  have hts := atoms_spec (ws := wsX1_weekly) B.pre
  have hown : s.vm.findClass RX1 = some m.cls := findClass_of_methodNamed B.named
  have hlocks := B.notSynchronized
  have hl := lv_entry ([.ref a]) (n := 1) (Nat.le_of_ble_eq_true rfl)
  rw [lg_entry_eq]
  generalize (lg_sl ([.ref a]) ++ List.replicate (1 - (lg_sl ([.ref a])).length) Slot.unset).toArray = ls at hl ⊢
  have hl : lv_has ls 1 [(0, .ref a)] := hl
  have hH1 := (hH a ha_a).2.1
  have hH2 := (hH a ha_a).2.2
  have hw_0 := hts (.fieldLink RX1 11 "TwiceAsRich$Blind" "figure" "I") (by decide +kernel)
  have hinH := (show ∀ q ∈ hCls, ∀ w ∈ u_ws q.1 q.2.1 q.2.2, w ∈ wsX1_weekly by decide +kernel)
  have hw_2 := hts (.sameField "TwiceAsRich$Blind" "TwiceAsRich$House" "figure" "I") (by decide +kernel)
  refine lv_aload_n hx hb dX1_weekly_0 rfl (lv_at hl 0 rfl) ?_
  obtain ⟨C0, cC0, hat0, hrec0⟩ := x_house hK hP ha_a
  refine x_ci (va_runSU (As := []) (rest := []) hat0 ⟨hx, hb, hml, hown, hts⟩ (c_X10_weekly l g σ hH a ha_a) (va_cwSU 0 hts gX1_weekly_X10_weekly_s7 rfl rfl rfl (by decide +kernel) ⟨Nat.le_of_ble_eq_true rfl, Nat.le_of_ble_eq_true rfl⟩) (x_preV hK hP hrec0) rfl rfl hl.1 rfl (lv_room (Nat.le_of_ble_eq_true rfl)) dX1_weekly_1 ⟨Nat.le_of_ble_eq_true rfl, Nat.le_of_ble_eq_true rfl⟩) (fun r_1 hr_1 qr_1 => ?_)
  replace qr_1 : r_1 = 0 := qr_1
  subst qr_1
  refine lv_aload_n hx hb dX1_weekly_4 rfl (lv_at hl 0 rfl) ?_
  refine x_fig hx hb hts hinH hown hK hP ha_a hw_0 (u_same hw_2) dX1_weekly_5 ?_
  refine x_iadd hx hb dX1_weekly_8 ?_
  refine x_retP hx hb hr (by omega) ?_ dX1_weekly_9 hlocks
  first | rfl | omega | (split <;> omega)

set_option maxHeartbeats 4000000 in
set_option maxRecDepth 100000 in
theorem c_X3_price (l : Launch) (g : xG) (σ : xS) (hH : HsOk σ) (a : Nat) (ha_a : a ∈ σ.2.1) : Met l yX3_price wsX3_price ({ frames := 1, cells := 0, slots := 0, locals := 32 }) (va_Pc [.ref a] (xPre g σ)) (x_Si (fun r => r = 5)) (0) (0) (fun _ => False) := by
  refine Met.ofW (cc := cX3_price) (maxL := 1) (ret := (some .int)) (by decide) rfl ?_
  intro p e s m args below meth c s₁ B hml hv
  obtain ⟨rfl, hP, hK⟩ := hv
  have hx := B.exec
  have hb := B.bytes
  have hr := B.returns
  have hts := atoms_spec (ws := wsX3_price) B.pre
  have hown : s.vm.findClass RX3 = some m.cls := findClass_of_methodNamed B.named
  have hlocks := B.notSynchronized
  have hl := lv_entry ([.ref a]) (n := 1) (Nat.le_of_ble_eq_true rfl)
  rw [lg_entry_eq]
  generalize (lg_sl ([.ref a]) ++ List.replicate (1 - (lg_sl ([.ref a])).length) Slot.unset).toArray = ls at hl ⊢
  have hl : lv_has ls 1 [(0, .ref a)] := hl
  have hH1 := (hH a ha_a).2.1
  have hH2 := (hH a ha_a).2.2
  refine x_iconst hx hb dX3_price_0 ?_
  refine x_retP hx hb hr (by omega) ?_ dX3_price_1 hlocks
  first | rfl | omega | (split <;> omega)

set_option maxHeartbeats 4000000 in
set_option maxRecDepth 100000 in
theorem c_X2_price (l : Launch) (g : xG) (σ : xS) (hH : HsOk σ) (a : Nat) (ha_a : a ∈ σ.2.1) : Met l yX2_price wsX2_price ({ frames := 2, cells := 0, slots := 0, locals := 64 }) (va_Pc [.ref a] (xPre g σ)) (x_Si (fun r => r = 5 * (σ.2.2.2 a + 1))) (0) (0) (fun _ => False) := by
  refine Met.ofW (cc := cX2_price) (maxL := 1) (ret := (some .int)) (by decide) rfl ?_
  intro p e s m args below meth c s₁ B hml hv
  obtain ⟨rfl, hP, hK⟩ := hv
  have hx := B.exec
  have hb := B.bytes
  have hr := B.returns
  have hts := atoms_spec (ws := wsX2_price) B.pre
  have hown : s.vm.findClass RX2 = some m.cls := findClass_of_methodNamed B.named
  have hlocks := B.notSynchronized
  have hl := lv_entry ([.ref a]) (n := 1) (Nat.le_of_ble_eq_true rfl)
  rw [lg_entry_eq]
  generalize (lg_sl ([.ref a]) ++ List.replicate (1 - (lg_sl ([.ref a])).length) Slot.unset).toArray = ls at hl ⊢
  have hl : lv_has ls 1 [(0, .ref a)] := hl
  have hH1 := (hH a ha_a).2.1
  have hH2 := (hH a ha_a).2.2
  have hw_0 := hts (.fieldLink RX2 11 "TwiceAsRich$Heir" "figure" "I") (by decide +kernel)
  have hinH := (show ∀ q ∈ hCls, ∀ w ∈ u_ws q.1 q.2.1 q.2.2, w ∈ wsX2_price by decide +kernel)
  have hw_2 := hts (.sameField "TwiceAsRich$Heir" "TwiceAsRich$House" "figure" "I") (by decide +kernel)
  refine lv_aload_n hx hb dX2_price_0 rfl (lv_at hl 0 rfl) ?_
  obtain ⟨C0, cC0, hat0, hrec0⟩ := x_house hK hP ha_a
  refine x_ci (va_runSU (As := []) (rest := []) hat0 ⟨hx, hb, hml, hown, hts⟩ (c_X3_price l g σ hH a ha_a) (va_cwSU 0 hts gX2_price_X3_price_s21 rfl rfl rfl (by decide +kernel) ⟨Nat.le_of_ble_eq_true rfl, Nat.le_of_ble_eq_true rfl⟩) (x_preV hK hP hrec0) rfl rfl hl.1 rfl (lv_room (Nat.le_of_ble_eq_true rfl)) dX2_price_1 ⟨Nat.le_of_ble_eq_true rfl, Nat.le_of_ble_eq_true rfl⟩) (fun r_1 hr_1 qr_1 => ?_)
  replace qr_1 : r_1 = 5 := qr_1
  subst qr_1
  refine lv_aload_n hx hb dX2_price_4 rfl (lv_at hl 0 rfl) ?_
  refine x_fig hx hb hts hinH hown hK hP ha_a hw_0 (u_same hw_2) dX2_price_5 ?_
  refine x_iconst hx hb dX2_price_8 ?_
  refine x_iadd hx hb dX2_price_9 ?_
  refine x_imul hx hb dX2_price_10 ?_
  refine x_retP hx hb hr (by omega) ?_ dX2_price_11 hlocks
  first | rfl | omega | (split <;> omega)

set_option maxHeartbeats 4000000 in
set_option maxRecDepth 100000 in
theorem c_X6_price (l : Launch) (g : xG) (σ : xS) (hH : HsOk σ) (a : Nat) (ha_a : a ∈ σ.2.1) : Met l yX6_price wsX6_price ({ frames := 2, cells := 0, slots := 0, locals := 64 }) (va_Pc [.ref a] (xPre g σ)) (x_Si (fun r => r = 3)) (0) (0) (fun _ => False) := by
  refine Met.ofW (cc := cX6_price) (maxL := 1) (ret := (some .int)) (by decide) rfl ?_
  intro p e s m args below meth c s₁ B hml hv
  obtain ⟨rfl, hP, hK⟩ := hv
  have hx := B.exec
  have hb := B.bytes
  have hr := B.returns
  have hts := atoms_spec (ws := wsX6_price) B.pre
  have hown : s.vm.findClass RX6 = some m.cls := findClass_of_methodNamed B.named
  have hlocks := B.notSynchronized
  have hl := lv_entry ([.ref a]) (n := 1) (Nat.le_of_ble_eq_true rfl)
  rw [lg_entry_eq]
  generalize (lg_sl ([.ref a]) ++ List.replicate (1 - (lg_sl ([.ref a])).length) Slot.unset).toArray = ls at hl ⊢
  have hl : lv_has ls 1 [(0, .ref a)] := hl
  have hH1 := (hH a ha_a).2.1
  have hH2 := (hH a ha_a).2.2
  refine lv_aload_n hx hb dX6_price_0 rfl (lv_at hl 0 rfl) ?_
  obtain ⟨C0, cC0, hat0, hrec0⟩ := x_house hK hP ha_a
  refine x_ci (va_runSU (As := []) (rest := []) hat0 ⟨hx, hb, hml, hown, hts⟩ (c_X3_price l g σ hH a ha_a) (va_cwSU 0 hts gX6_price_X3_price_s15 rfl rfl rfl (by decide +kernel) ⟨Nat.le_of_ble_eq_true rfl, Nat.le_of_ble_eq_true rfl⟩) (x_preV hK hP hrec0) rfl rfl hl.1 rfl (lv_room (Nat.le_of_ble_eq_true rfl)) dX6_price_1 ⟨Nat.le_of_ble_eq_true rfl, Nat.le_of_ble_eq_true rfl⟩) (fun r_1 hr_1 qr_1 => ?_)
  replace qr_1 : r_1 = 5 := qr_1
  subst qr_1
  refine x_iconst hx hb dX6_price_4 ?_
  refine x_isub hx hb dX6_price_5 ?_
  refine x_retP hx hb hr (by omega) ?_ dX6_price_6 hlocks
  first | rfl | omega | (split <;> omega)

set_option maxHeartbeats 4000000 in
set_option maxRecDepth 100000 in
theorem c_X10_price (l : Launch) (g : xG) (σ : xS) (hH : HsOk σ) (a : Nat) (ha_a : a ∈ σ.2.1) : Met l yX10_price wsX10_price ({ frames := 2, cells := 0, slots := 0, locals := 64 }) (va_Pc [.ref a] (xPre g σ)) (x_Si (fun r => r = 8)) (0) (0) (fun _ => False) := by
  refine Met.ofW (cc := cX10_price) (maxL := 1) (ret := (some .int)) (by decide) rfl ?_
  intro p e s m args below meth c s₁ B hml hv
  obtain ⟨rfl, hP, hK⟩ := hv
  have hx := B.exec
  have hb := B.bytes
  have hr := B.returns
  have hts := atoms_spec (ws := wsX10_price) B.pre
  have hown : s.vm.findClass RX10 = some m.cls := findClass_of_methodNamed B.named
  have hlocks := B.notSynchronized
  have hl := lv_entry ([.ref a]) (n := 1) (Nat.le_of_ble_eq_true rfl)
  rw [lg_entry_eq]
  generalize (lg_sl ([.ref a]) ++ List.replicate (1 - (lg_sl ([.ref a])).length) Slot.unset).toArray = ls at hl ⊢
  have hl : lv_has ls 1 [(0, .ref a)] := hl
  have hH1 := (hH a ha_a).2.1
  have hH2 := (hH a ha_a).2.2
  refine lv_aload_n hx hb dX10_price_0 rfl (lv_at hl 0 rfl) ?_
  obtain ⟨C0, cC0, hat0, hrec0⟩ := x_house hK hP ha_a
  refine x_ci (va_runSU (As := []) (rest := []) hat0 ⟨hx, hb, hml, hown, hts⟩ (c_X3_price l g σ hH a ha_a) (va_cwSU 0 hts gX10_price_X3_price_s9 rfl rfl rfl (by decide +kernel) ⟨Nat.le_of_ble_eq_true rfl, Nat.le_of_ble_eq_true rfl⟩) (x_preV hK hP hrec0) rfl rfl hl.1 rfl (lv_room (Nat.le_of_ble_eq_true rfl)) dX10_price_1 ⟨Nat.le_of_ble_eq_true rfl, Nat.le_of_ble_eq_true rfl⟩) (fun r_1 hr_1 qr_1 => ?_)
  replace qr_1 : r_1 = 5 := qr_1
  subst qr_1
  refine x_iconst hx hb dX10_price_4 ?_
  refine x_iadd hx hb dX10_price_5 ?_
  refine x_retP hx hb hr (by omega) ?_ dX10_price_6 hlocks
  first | rfl | omega | (split <;> omega)

set_option maxHeartbeats 4000000 in
set_option maxRecDepth 100000 in
theorem c_X4_price (l : Launch) (g : xG) (σ : xS) (hH : HsOk σ) (a : Nat) (ha_a : a ∈ σ.2.1) : Met l yX4_price wsX4_price ({ frames := 3, cells := 0, slots := 0, locals := 96 }) (va_Pc [.ref a] (xPre g σ)) (x_Si (fun r => r = 5 * (σ.2.2.2 a + 1) + 1)) (0) (0) (fun _ => False) := by
  refine Met.ofW (cc := cX4_price) (maxL := 1) (ret := (some .int)) (by decide) rfl ?_
  intro p e s m args below meth c s₁ B hml hv
  obtain ⟨rfl, hP, hK⟩ := hv
  have hx := B.exec
  have hb := B.bytes
  have hr := B.returns
  have hts := atoms_spec (ws := wsX4_price) B.pre
  have hown : s.vm.findClass RX4 = some m.cls := findClass_of_methodNamed B.named
  have hlocks := B.notSynchronized
  have hl := lv_entry ([.ref a]) (n := 1) (Nat.le_of_ble_eq_true rfl)
  rw [lg_entry_eq]
  generalize (lg_sl ([.ref a]) ++ List.replicate (1 - (lg_sl ([.ref a])).length) Slot.unset).toArray = ls at hl ⊢
  have hl : lv_has ls 1 [(0, .ref a)] := hl
  have hH1 := (hH a ha_a).2.1
  have hH2 := (hH a ha_a).2.2
  refine lv_aload_n hx hb dX4_price_0 rfl (lv_at hl 0 rfl) ?_
  obtain ⟨C0, cC0, hat0, hrec0⟩ := x_house hK hP ha_a
  refine x_ci (va_runSU (As := []) (rest := []) hat0 ⟨hx, hb, hml, hown, hts⟩ (c_X2_price l g σ hH a ha_a) (va_cwSU 0 hts gX4_price_X2_price_s24 rfl rfl rfl (by decide +kernel) ⟨Nat.le_of_ble_eq_true rfl, Nat.le_of_ble_eq_true rfl⟩) (x_preV hK hP hrec0) rfl rfl hl.1 rfl (lv_room (Nat.le_of_ble_eq_true rfl)) dX4_price_1 ⟨Nat.le_of_ble_eq_true rfl, Nat.le_of_ble_eq_true rfl⟩) (fun r_1 hr_1 qr_1 => ?_)
  replace qr_1 : r_1 = 5 * (σ.2.2.2 a + 1) := qr_1
  refine x_iconst hx hb dX4_price_4 ?_
  refine x_iadd hx hb dX4_price_5 ?_
  refine x_retP hx hb hr (by omega) ?_ dX4_price_6 hlocks
  first | rfl | omega | (split <;> omega)

set_option maxHeartbeats 4000000 in
set_option maxRecDepth 100000 in
theorem c_X0_price (l : Launch) (g : xG) (σ : xS) (hH : HsOk σ) (a : Nat) (ha_a : a ∈ σ.2.1) : Met l yX0_price wsX0_price ({ frames := 3, cells := 0, slots := 0, locals := 96 }) (va_Pc [.ref a] (xPre g σ)) (x_Si (fun r => r = 3 + σ.2.2.2 a)) (0) (0) (fun _ => False) := by
  refine Met.ofW (cc := cX0_price) (maxL := 1) (ret := (some .int)) (by decide) rfl ?_
  intro p e s m args below meth c s₁ B hml hv
  obtain ⟨rfl, hP, hK⟩ := hv
  have hx := B.exec
  have hb := B.bytes
  have hr := B.returns
  have hts := atoms_spec (ws := wsX0_price) B.pre
  have hown : s.vm.findClass RX0 = some m.cls := findClass_of_methodNamed B.named
  have hlocks := B.notSynchronized
  have hl := lv_entry ([.ref a]) (n := 1) (Nat.le_of_ble_eq_true rfl)
  rw [lg_entry_eq]
  generalize (lg_sl ([.ref a]) ++ List.replicate (1 - (lg_sl ([.ref a])).length) Slot.unset).toArray = ls at hl ⊢
  have hl : lv_has ls 1 [(0, .ref a)] := hl
  have hH1 := (hH a ha_a).2.1
  have hH2 := (hH a ha_a).2.2
  have hw_0 := hts (.fieldLink RX0 11 "TwiceAsRich$Beggar" "figure" "I") (by decide +kernel)
  have hinH := (show ∀ q ∈ hCls, ∀ w ∈ u_ws q.1 q.2.1 q.2.2, w ∈ wsX0_price by decide +kernel)
  have hw_2 := hts (.sameField "TwiceAsRich$Beggar" "TwiceAsRich$House" "figure" "I") (by decide +kernel)
  refine lv_aload_n hx hb dX0_price_0 rfl (lv_at hl 0 rfl) ?_
  obtain ⟨C0, cC0, hat0, hrec0⟩ := x_house hK hP ha_a
  refine x_ci (va_runSU (As := []) (rest := []) hat0 ⟨hx, hb, hml, hown, hts⟩ (c_X6_price l g σ hH a ha_a) (va_cwSU 0 hts gX0_price_X6_price_s21 rfl rfl rfl (by decide +kernel) ⟨Nat.le_of_ble_eq_true rfl, Nat.le_of_ble_eq_true rfl⟩) (x_preV hK hP hrec0) rfl rfl hl.1 rfl (lv_room (Nat.le_of_ble_eq_true rfl)) dX0_price_1 ⟨Nat.le_of_ble_eq_true rfl, Nat.le_of_ble_eq_true rfl⟩) (fun r_1 hr_1 qr_1 => ?_)
  replace qr_1 : r_1 = 3 := qr_1
  subst qr_1
  refine lv_aload_n hx hb dX0_price_4 rfl (lv_at hl 0 rfl) ?_
  refine x_fig hx hb hts hinH hown hK hP ha_a hw_0 (u_same hw_2) dX0_price_5 ?_
  refine x_iadd hx hb dX0_price_8 ?_
  refine x_retP hx hb hr (by omega) ?_ dX0_price_9 hlocks
  first | rfl | omega | (split <;> omega)

set_option maxHeartbeats 4000000 in
set_option maxRecDepth 100000 in
theorem c_X9_price (l : Launch) (g : xG) (σ : xS) (hH : HsOk σ) (a : Nat) (ha_a : a ∈ σ.2.1) : Met l yX9_price wsX9_price ({ frames := 3, cells := 0, slots := 0, locals := 96 }) (va_Pc [.ref a] (xPre g σ)) (x_Si (fun r => r = 5 * (σ.2.2.2 a + 1) - σ.2.2.2 a)) (0) (0) (fun _ => False) := by
  refine Met.ofW (cc := cX9_price) (maxL := 1) (ret := (some .int)) (by decide) rfl ?_
  intro p e s m args below meth c s₁ B hml hv
  obtain ⟨rfl, hP, hK⟩ := hv
  have hx := B.exec
  have hb := B.bytes
  have hr := B.returns
  have hts := atoms_spec (ws := wsX9_price) B.pre
  have hown : s.vm.findClass RX9 = some m.cls := findClass_of_methodNamed B.named
  have hlocks := B.notSynchronized
  have hl := lv_entry ([.ref a]) (n := 1) (Nat.le_of_ble_eq_true rfl)
  rw [lg_entry_eq]
  generalize (lg_sl ([.ref a]) ++ List.replicate (1 - (lg_sl ([.ref a])).length) Slot.unset).toArray = ls at hl ⊢
  have hl : lv_has ls 1 [(0, .ref a)] := hl
  have hH1 := (hH a ha_a).2.1
  have hH2 := (hH a ha_a).2.2
  have hw_0 := hts (.fieldLink RX9 18 "TwiceAsRich$Twins" "figure" "I") (by decide +kernel)
  have hinH := (show ∀ q ∈ hCls, ∀ w ∈ u_ws q.1 q.2.1 q.2.2, w ∈ wsX9_price by decide +kernel)
  have hw_2 := hts (.sameField "TwiceAsRich$Twins" "TwiceAsRich$House" "figure" "I") (by decide +kernel)
  refine lv_aload_n hx hb dX9_price_0 rfl (lv_at hl 0 rfl) ?_
  obtain ⟨C0, cC0, hat0, hrec0⟩ := x_house hK hP ha_a
  refine x_ci (va_runSU (As := []) (rest := []) hat0 ⟨hx, hb, hml, hown, hts⟩ (c_X2_price l g σ hH a ha_a) (va_cwSU 0 hts gX9_price_X2_price_s15 rfl rfl rfl (by decide +kernel) ⟨Nat.le_of_ble_eq_true rfl, Nat.le_of_ble_eq_true rfl⟩) (x_preV hK hP hrec0) rfl rfl hl.1 rfl (lv_room (Nat.le_of_ble_eq_true rfl)) dX9_price_1 ⟨Nat.le_of_ble_eq_true rfl, Nat.le_of_ble_eq_true rfl⟩) (fun r_1 hr_1 qr_1 => ?_)
  replace qr_1 : r_1 = 5 * (σ.2.2.2 a + 1) := qr_1
  refine lv_aload_n hx hb dX9_price_4 rfl (lv_at hl 0 rfl) ?_
  refine x_fig hx hb hts hinH hown hK hP ha_a hw_0 (u_same hw_2) dX9_price_5 ?_
  refine x_isub hx hb dX9_price_8 ?_
  refine x_retP hx hb hr (by omega) ?_ dX9_price_9 hlocks
  first | rfl | omega | (split <;> omega)

set_option maxHeartbeats 4000000 in
set_option maxRecDepth 100000 in
theorem c_X1_price (l : Launch) (g : xG) (σ : xS) (hH : HsOk σ) (a : Nat) (ha_a : a ∈ σ.2.1) : Met l yX1_price wsX1_price ({ frames := 3, cells := 0, slots := 0, locals := 96 }) (va_Pc [.ref a] (xPre g σ)) (x_Si (fun r => r = 16)) (0) (0) (fun _ => False) := by
  refine Met.ofW (cc := cX1_price) (maxL := 1) (ret := (some .int)) (by decide) rfl ?_
  intro p e s m args below meth c s₁ B hml hv
  obtain ⟨rfl, hP, hK⟩ := hv
  have hx := B.exec
  have hb := B.bytes
  have hr := B.returns
  have hts := atoms_spec (ws := wsX1_price) B.pre
  have hown : s.vm.findClass RX1 = some m.cls := findClass_of_methodNamed B.named
  have hlocks := B.notSynchronized
  have hl := lv_entry ([.ref a]) (n := 1) (Nat.le_of_ble_eq_true rfl)
  rw [lg_entry_eq]
  generalize (lg_sl ([.ref a]) ++ List.replicate (1 - (lg_sl ([.ref a])).length) Slot.unset).toArray = ls at hl ⊢
  have hl : lv_has ls 1 [(0, .ref a)] := hl
  have hH1 := (hH a ha_a).2.1
  have hH2 := (hH a ha_a).2.2
  refine x_iconst hx hb dX1_price_0 ?_
  refine lv_aload_n hx hb dX1_price_1 rfl (lv_at hl 0 rfl) ?_
  obtain ⟨C0, cC0, hat0, hrec0⟩ := x_house hK hP ha_a
  refine x_ci (va_runSU (As := []) (rest := [.int (iI (2))]) hat0 ⟨hx, hb, hml, hown, hts⟩ (c_X10_price l g σ hH a ha_a) (va_cwSU 0 hts gX1_price_X10_price_s17 rfl rfl rfl (by decide +kernel) ⟨Nat.le_of_ble_eq_true rfl, Nat.le_of_ble_eq_true rfl⟩) (x_preV hK hP hrec0) rfl rfl hl.1 rfl (lv_room (Nat.le_of_ble_eq_true rfl)) dX1_price_2 ⟨Nat.le_of_ble_eq_true rfl, Nat.le_of_ble_eq_true rfl⟩) (fun r_2 hr_2 qr_2 => ?_)
  replace qr_2 : r_2 = 8 := qr_2
  subst qr_2
  refine x_imul hx hb dX1_price_5 ?_
  refine x_retP hx hb hr (by omega) ?_ dX1_price_6 hlocks
  first | rfl | omega | (split <;> omega)

set_option maxHeartbeats 4000000 in
set_option maxRecDepth 100000 in
theorem c_X3_hasFailure (l : Launch) (g : xG) (σ : xS) (hH : HsOk σ) (a : Nat) (ha_a : a ∈ σ.2.1) : Met l yX3_hasFailure wsX3_hasFailure ({ frames := 1, cells := 0, slots := 0, locals := 32 }) (va_Pc [.ref a] (xPre g σ)) (x_Si (fun r => (r = 1 ∧ σ.2.2.2 a ≠ 0) ∨ (r = 0 ∧ σ.2.2.2 a = 0))) (0) (0) (fun _ => False) := by
  refine Met.ofW (cc := cX3_hasFailure) (maxL := 1) (ret := (some .boolean)) (by decide) rfl ?_
  intro p e s m args below meth c s₁ B hml hv
  obtain ⟨rfl, hP, hK⟩ := hv
  have hx := B.exec
  have hb := B.bytes
  have hr := B.returns
  have hts := atoms_spec (ws := wsX3_hasFailure) B.pre
  have hown : s.vm.findClass RX3 = some m.cls := findClass_of_methodNamed B.named
  have hlocks := B.notSynchronized
  have hl := lv_entry ([.ref a]) (n := 1) (Nat.le_of_ble_eq_true rfl)
  rw [lg_entry_eq]
  generalize (lg_sl ([.ref a]) ++ List.replicate (1 - (lg_sl ([.ref a])).length) Slot.unset).toArray = ls at hl ⊢
  have hl : lv_has ls 1 [(0, .ref a)] := hl
  have hH1 := (hH a ha_a).2.1
  have hH2 := (hH a ha_a).2.2
  have hw_0 := hts (.fieldLink RX3 7 "TwiceAsRich$House" "figure" "I") (by decide +kernel)
  have hinH := (show ∀ q ∈ hCls, ∀ w ∈ u_ws q.1 q.2.1 q.2.2, w ∈ wsX3_hasFailure by decide +kernel)
  refine lv_aload_n hx hb dX3_hasFailure_0 rfl (lv_at hl 0 rfl) ?_
  refine x_fig hx hb hts hinH hown hK hP ha_a hw_0 (fun _ h9 => h9) dX3_hasFailure_1 ?_
  refine x_if_eq (tgt := 11) hx hb (by omega) dX3_hasFailure_4 (by decide) (fun c_4 => ?_) (fun c_4 => ?_)
  · refine x_iconst hx hb dX3_hasFailure_11 ?_
    refine x_retPz hx hb hr (by omega) ?_ dX3_hasFailure_12 hlocks
    first | rfl | exact Or.inl ⟨rfl, by omega⟩ | exact Or.inr ⟨rfl, by omega⟩
  · refine x_iconst hx hb dX3_hasFailure_7 ?_
    refine lv_goto (tgt := 12) hx hb dX3_hasFailure_8 (by decide) ?_
    refine x_retPz hx hb hr (by omega) ?_ dX3_hasFailure_12 hlocks
    first | rfl | exact Or.inl ⟨rfl, by omega⟩ | exact Or.inr ⟨rfl, by omega⟩

set_option maxHeartbeats 4000000 in
set_option maxRecDepth 100000 in
theorem c_X10_hasFailure (l : Launch) (g : xG) (σ : xS) (hH : HsOk σ) (a : Nat) (ha_a : a ∈ σ.2.1) : Met l yX10_hasFailure wsX10_hasFailure ({ frames := 1, cells := 0, slots := 0, locals := 32 }) (va_Pc [.ref a] (xPre g σ)) (x_Si (fun r => r = 0)) (0) (0) (fun _ => False) := by
  refine Met.ofW (cc := cX10_hasFailure) (maxL := 1) (ret := (some .boolean)) (by decide) rfl ?_
  intro p e s m args below meth c s₁ B hml hv
  obtain ⟨rfl, hP, hK⟩ := hv
  have hx := B.exec
  have hb := B.bytes
  have hr := B.returns
  have hts := atoms_spec (ws := wsX10_hasFailure) B.pre
  have hown : s.vm.findClass RX10 = some m.cls := findClass_of_methodNamed B.named
  have hlocks := B.notSynchronized
  have hl := lv_entry ([.ref a]) (n := 1) (Nat.le_of_ble_eq_true rfl)
  rw [lg_entry_eq]
  generalize (lg_sl ([.ref a]) ++ List.replicate (1 - (lg_sl ([.ref a])).length) Slot.unset).toArray = ls at hl ⊢
  have hl : lv_has ls 1 [(0, .ref a)] := hl
  have hH1 := (hH a ha_a).2.1
  have hH2 := (hH a ha_a).2.2
  refine x_iconst hx hb dX10_hasFailure_0 ?_
  refine x_retPz hx hb hr (by omega) ?_ dX10_hasFailure_1 hlocks
  first | rfl | exact Or.inl ⟨rfl, by omega⟩ | exact Or.inr ⟨rfl, by omega⟩

set_option maxHeartbeats 4000000 in
set_option maxRecDepth 100000 in
theorem c_X1_hasFailure (l : Launch) (g : xG) (σ : xS) (hH : HsOk σ) (a : Nat) (ha_a : a ∈ σ.2.1) : Met l yX1_hasFailure wsX1_hasFailure ({ frames := 1, cells := 0, slots := 0, locals := 32 }) (va_Pc [.ref a] (xPre g σ)) (x_Si (fun r => (r = 1 ∧ σ.2.2.2 a ≠ 0) ∨ (r = 0 ∧ σ.2.2.2 a = 0))) (0) (0) (fun _ => False) := by
  refine Met.ofW (cc := cX1_hasFailure) (maxL := 1) (ret := (some .boolean)) (by decide) rfl ?_
  intro p e s m args below meth c s₁ B hml hv
  obtain ⟨rfl, hP, hK⟩ := hv
  have hx := B.exec
  have hb := B.bytes
  have hr := B.returns
  have hts := atoms_spec (ws := wsX1_hasFailure) B.pre
  have hown : s.vm.findClass RX1 = some m.cls := findClass_of_methodNamed B.named
  have hlocks := B.notSynchronized
  have hl := lv_entry ([.ref a]) (n := 1) (Nat.le_of_ble_eq_true rfl)
  rw [lg_entry_eq]
  generalize (lg_sl ([.ref a]) ++ List.replicate (1 - (lg_sl ([.ref a])).length) Slot.unset).toArray = ls at hl ⊢
  have hl : lv_has ls 1 [(0, .ref a)] := hl
  have hH1 := (hH a ha_a).2.1
  have hH2 := (hH a ha_a).2.2
  have hw_0 := hts (.fieldLink RX1 11 "TwiceAsRich$Blind" "figure" "I") (by decide +kernel)
  have hinH := (show ∀ q ∈ hCls, ∀ w ∈ u_ws q.1 q.2.1 q.2.2, w ∈ wsX1_hasFailure by decide +kernel)
  have hw_2 := hts (.sameField "TwiceAsRich$Blind" "TwiceAsRich$House" "figure" "I") (by decide +kernel)
  refine lv_aload_n hx hb dX1_hasFailure_0 rfl (lv_at hl 0 rfl) ?_
  refine x_fig hx hb hts hinH hown hK hP ha_a hw_0 (u_same hw_2) dX1_hasFailure_1 ?_
  refine x_if_eq (tgt := 11) hx hb (by omega) dX1_hasFailure_4 (by decide) (fun c_4 => ?_) (fun c_4 => ?_)
  · refine x_iconst hx hb dX1_hasFailure_11 ?_
    refine x_retPz hx hb hr (by omega) ?_ dX1_hasFailure_12 hlocks
    first | rfl | exact Or.inl ⟨rfl, by omega⟩ | exact Or.inr ⟨rfl, by omega⟩
  · refine x_iconst hx hb dX1_hasFailure_7 ?_
    refine lv_goto (tgt := 12) hx hb dX1_hasFailure_8 (by decide) ?_
    refine x_retPz hx hb hr (by omega) ?_ dX1_hasFailure_12 hlocks
    first | rfl | exact Or.inl ⟨rfl, by omega⟩ | exact Or.inr ⟨rfl, by omega⟩
