/-! ===== BEGIN a method of a class above, found by the receiver, that may throw (follows va_callVU, va_runU of this kit) ===== -/
section
variable {p : Program} {l : Launch} {e : Env} {R : Room} {s : State} {m : MethodId} {args : Array Value} {below : List Frame} {meth : Method} {c : Code} {H : Heap} {locs : List Loc} {cells slots : Nat}
theorem vx_callVU {T : State} {locs : List Loc} {cells slots : Nat} (X : Stand p l e R s m args below meth c T locs cells slots) (hexec : p.tables.exec = Jvm.exec) {own C owner : String} {index : Nat} {x y : MethodName} {bytes : ByteArray} {maxL : Nat} {ret : Option FieldType}
    (hown : s.vm.findClass own = some m.cls) (hlink : (Cond.methodLink own index x).before args s = true) (hsame : (Cond.sameMethod x.cls owner x.name x.desc).before args s = true)
    (hd0 : va_Decl s ⟨owner, x.name, x.desc⟩) (howner : owner ≠ "java/lang/invoke/MethodHandle" ∧ owner ≠ "java/lang/invoke/VarHandle")
    (hsel : (Cond.selects C x y).before args s = true) (hinst : (Cond.instanceMethod y).before args s = true) (hcode : (Cond.code y bytes maxL ret).before args s = true)
    {W : Nat} {Pre : Pt → Array Value → Prop} {Post : Pt → Array Value → Option Value → Pt → Prop} {PostX : Pt → Array Value → Addr → Pt → Prop} (hK : vx_Back l R p e below s args y 3 W Pre Post PostX)
    {b : Addr} {cellB : Cell} (hcell : T.heap[b]? = some cellB) (hobj : cellB.vm.isStatics = false) (hcls : s.vm.findClass C = some cellB.cls)
    {g : JFrame} (hg : g.method = m) (hsize : g.locals.size = c.maxLocals) {argsL rest : List Value} (hlen : ∀ sig, parseMethodDescriptor x.desc = some sig → argsL.length = sig.parameters.length)
    (hstack : g.stack = argsL.reverse ++ .ref b :: rest) (hW : 2 * g.monitorRoom + (rest.map fun v => v.category).sum ≤ W) (hdg : decode c.code g.pc = .ok (.invokevirtual index, 3))
    (hpre : ∀ vm₁, s.WarmedH vm₁ → Pre ⟨T.setVm vm₁, locs, cells, slots⟩ (Value.ref b :: argsL).toArray) :
    (∃ (v : Option Value) (vm₁ : Vm) (B : Pt), s.WarmedH vm₁ ∧ Stand p l e R s m args below meth c B.U B.locs B.cells B.slots ∧ Post ⟨T.setVm vm₁, locs, cells, slots⟩ (Value.ref b :: argsL).toArray v B ∧
      ∀ target, Steps p.tables e below (B.U.setTop { g with pc := g.pc + 3, stack := v.toList ++ rest }) target → Steps p.tables e below (T.setTop g) target) ∨
    (∃ (q : Addr) (vm₁ : Vm) (B : Pt), s.WarmedH vm₁ ∧ Stand p l e R s m args below meth c B.U B.locs B.cells B.slots ∧ PostX ⟨T.setVm vm₁, locs, cells, slots⟩ (Value.ref b :: argsL).toArray q B ∧
      Steps p.tables e below (T.setTop g) ((B.U.setTop { g with stack := rest }).pushFrame (.throwing q))) := by
  obtain ⟨r0, r, hn, hrm, hstR, hsigR⟩ := hd0
  obtain ⟨cn, ck, r1, hcn, hck, hni, hf, hn1⟩ := Cond.sameMethod_found hsame
  cases hn.symm.trans hn1
  obtain ⟨mk, methM, hnamed, hmethM, -, habM⟩ := Cond.instanceMethod_spec hinst
  obtain ⟨c2, r2, m2, q1, q2, q3, q4, kP, hkP, hkPi⟩ := Cond.selects_spec hsel
  cases hcls.symm.trans q1
  cases hf.symm.trans q2
  cases hnamed.symm.trans q3
  have hselP : selectMethod e.platform s.vm cellB.cls r0 = .method mk := by rw [Launch.admits_selectMethod X.admits]; exact q4
  obtain ⟨vm₁, X₁, hstep₁⟩ := X.invokevirtualUp hexec hown hlink hsame howner hn hrm hstR (a := b) (cell := cellB) hcell
    (fun z h => by rw [h] at hobj; cases hobj) hselP hmethM habM hkP hkPi (g := g) hg (argsL := argsL) (rest := rest) (hlen _ hsigR) hstack hdg
  rcases hK m meth c ⟨T.setVm vm₁, locs, cells, slots⟩ { g with stack := rest } (.invokevirtual index) mk (Value.ref b :: argsL).toArray X₁ hg hsize hdg hW (X₁.named hnamed) (hpre vm₁ X₁.warmed) with ⟨v, B, X', hpost, hsteps⟩ | ⟨q, B, X', hpost, hsteps⟩
  · exact Or.inl ⟨v, vm₁, B, X₁.warmed, X', hpost, fun target h => hstep₁ _ fun acts => by rw [doInvoke_state]; exact hsteps.trans h⟩
  · exact Or.inr ⟨q, vm₁, B, X₁.warmed, X', hpost, hstep₁ _ fun acts => by rw [doInvoke_state]; exact hsteps⟩
theorem vx_runU {x y : MethodName} {bytes cc : ByteArray} {maxL nL mc ms n index : Nat} {ret : Option FieldType} {ws : List Cond} {rm : Room} {Pc : Array Value → State → Prop} {Qc : Array Value → State → Outcome → State → Prop} {XC : String → State → State → Prop} {free : Addr → Prop} {Ts : List Cond} {own C owner : String} {b : Addr} {As rest : List Value} {g : JFrame}
    (S : CallFix p m c cc nL s args Ts own) (hM : vx_Met l y ws rm Pc Qc XC mc ms free) (cw : va_CU R s args own C owner index x y bytes maxL ret ws rm mc ms n) (hp : PreV s H C b Pc As)
    (hg : g.method = m) (hn : As.length = n) (hsize : g.locals.size = nL) (hstack : g.stack = As.reverse ++ .ref b :: rest) (hW : 2 * g.monitorRoom + (rest.map fun v => v.category).sum ≤ 8) (hdg : decode cc g.pc = .ok (.invokevirtual index, 3)) (hf : cells + mc ≤ R.cells ∧ slots + ms ≤ R.slots) :
    vx_Run p l e R s m args below meth c H locs cells slots mc ms g rest (Qc (Value.ref b :: As).toArray) XC free := by
  obtain ⟨hrc, hrs, hfr, hlo, hws, hcw⟩ := cw.back
  have hini := cw.init
  have hK : vx_Back l R p e below s args y 3 8 (PreOf R mc ms Pc) (PostOf Qc mc ms free) (vx_Post XC mc ms free) := vx_back (bytes := bytes) (maxL := maxL) (ret := ret) hM hp.1 hrc hrs hfr hlo hws hcw (fun a' U hW => word_at hW (Or.inl (by first | rfl | simp [Cond.onTables, Cond.keeps, Cond.steady])) hini)
  obtain ⟨hx, hb, hml, ho, -⟩ := S
  obtain ⟨-, ⟨cellB, hcB, hoB, hclB⟩, hPc⟩ := hp
  intro T hT X
  rcases vx_callVU X hx (C := C) (owner := owner) (bytes := bytes) (maxL := maxL) (ret := ret) ho cw.link cw.same cw.decl cw.notMH cw.sel cw.inst cw.code hK (by rw [hT]; exact hcB) hoB hclB hg (hsize.trans hml.symm) (argsL := As) (rest := rest) (fun sig h => hn.trans (cw.len sig h)) hstack hW (by rw [hb]; exact hdg)
    (fun vm₁ hW₁ => ⟨hf.1, hf.2, hPc (T.setVm vm₁) hT hW₁⟩) with ⟨v, vm₁, ⟨U', l2, c2, s2⟩, hW₁, X', ⟨g', mk, t, L, e1, e2, hq, h1, hL, h2, h3⟩, st⟩ | ⟨q, vm₁, ⟨U', l2, c2, s2⟩, hW₁, X', ⟨g', mk, t, L, E, ce, e1, e2, hq, hce, hcv, hcl, h1, hL, h2, h3⟩, st⟩
  · dsimp only [Pt.U, Pt.locs, Pt.cells, Pt.slots] at X' e1 e2 h1 h2 h3 st
    subst h1; subst h2; subst h3
    exact Or.inl ⟨v, (T.setVm vm₁).calling g' mk (Value.ref b :: As).toArray, t, U', L, hT, X', hL, e1, e2, hq, st⟩
  · dsimp only [Pt.U, Pt.locs, Pt.cells, Pt.slots] at X' e1 e2 h1 h2 h3 st hcl
    subst h1; subst h2; subst h3
    exact Or.inr ⟨q, (T.setVm vm₁).calling g' mk (Value.ref b :: As).toArray, t, U', L, E, ce, hT, X', hL, e1, e2, hq, hce, hcv, vx_cls hW₁ hcl, st⟩
end

/-! ===== what is thrown ===== -/
def nISE : String := "java/lang/IllegalStateException"
def nIAE : String := "java/lang/IllegalArgumentException"
def nUOE : String := "java/lang/UnsupportedOperationException"
def xcDecl : List MethodName := [Bundle.init0 "java/lang/RuntimeException", Bundle.init0 "java/lang/Exception", Bundle.init0 Bundle.tN, Bundle.initS "java/lang/RuntimeException", Bundle.initS "java/lang/Exception", Bundle.initS Bundle.tN]
/-- what a throw, and a catch, need of the machine -/
def xcT (A : Nat → Prop) (U : State) (H : Heap) : Prop := vx_Zq Bundle.tN "UNASSIGNED_STACK" Bundle.steD A U H ∧ vx_Zq Bundle.tN "SUPPRESSED_SENTINEL" Bundle.listD A U H ∧ (∃ a, vk_R RX11 244 "no such shelf" a U) ∧ (∃ a, vk_R RX11 251 "no row, or no such place" a U) ∧ va_Nc nISE nUOE U ∧ va_Nc nIAE nUOE U ∧ va_Nc nISE nIAE U ∧ va_Nw (.castable nUOE nUOE) U ∧ va_Nw (.castable nIAE nIAE) U ∧ va_Nw (.castable nISE nISE) U ∧ ∀ y ∈ xcDecl, va_Nw (.declares y) U
theorem xcT.moved {A : Nat → Prop} {u U : State} {H : Heap} (hW : u.WarmedH U.vm) (h : xcT A u H) : xcT A U H := by
  obtain ⟨h1, h2, ⟨a, h3⟩, ⟨b, h4⟩, h5, h6, h7, h8, h9, h10, h11⟩ := h
  exact ⟨h1.moved hW.alike, h2.moved hW.alike, ⟨a, h3.warm hW⟩, ⟨b, h4.warm hW⟩, h5.moved hW.alike, h6.moved hW.alike, h7.moved hW.alike, xC_moved hW.alike h8, xC_moved hW.alike h9, xC_moved hW.alike h10, fun y hy => (h11 y hy).warmD hW⟩
theorem xcT.same {A : Nat → Prop} {u U : State} {H : Heap} (hvm : u.vm = U.vm) (h : xcT A u H) : xcT A U H := by
  have ha : u.vm.Alike U.vm := by rw [hvm]; exact Vm.Alike.refl _
  obtain ⟨h1, h2, ⟨a, h3⟩, ⟨b, h4⟩, h5, h6, h7, h8, h9, h10, h11⟩ := h
  exact ⟨h1.moved ha, h2.moved ha, ⟨a, h3.same hvm.symm⟩, ⟨b, h4.same hvm.symm⟩, h5.moved ha, h6.moved ha, h7.moved ha, xC_moved ha h8, xC_moved ha h9, xC_moved ha h10, fun y hy => va_Nw.same rfl hvm (h11 y hy)⟩
theorem xcT.kept {A : Nat → Prop} {U : State} {H H1 : Heap} (hq : ∀ a : Nat, a < H.size → ¬ A a → H1[a]? = H[a]?) (h : xcT A U H) : xcT A U H1 := ⟨h.1.kept hq, h.2.1.kept hq, h.2.2⟩
def xcQ (g : xG) (A : Nat → Prop) (σ : xS) (U : State) : Prop := xPreQ g A σ U ∧ xcT A U U.heap
def xcX (g : xG) (A : Nat → Prop) (σ : xS) (N : String) : String → State → State → Prop := fun E st t => E = N ∧ xP g σ t.heap ∧ xD g A σ ∧ va_F A st t
theorem xc_blind {g : xG} {A : Nat → Prop} {σ : xS} {av : List Value} : FrameBlind (va_Pc av (xcQ g A σ)) := fun a U gg mk q => by
  obtain ⟨q0, ⟨qP, qK, qD, qA⟩, qT⟩ := q
  exact ⟨q0, ⟨qP, xK.same (u := U) (U := U.calling gg mk a) rfl qK, qD, qA⟩, xcT.same (u := U) (U := U.calling gg mk a) rfl qT⟩
theorem xc_preV {g : xG} {A : Nat → Prop} {σ : xS} {s : State} {H : Heap} {locs : List Loc} {a : Nat} {C : String} {As : List Value} (hK : xK g s) (hP : xP g σ H) (hD : xD g A σ) (hS : va_S A s.heap H locs) (hA : ∀ q : Nat, s.heap.size ≤ q → A q) (hT : xcT A s s.heap) (hr : ∃ cell : Cell, H[a]? = some cell ∧ cell.vm.isStatics = false ∧ s.vm.findClass C = some cell.cls) : PreV s H C a (va_Pc (.ref a :: As) (xcQ g A σ)) As :=
  ⟨xc_blind, hr, fun U hU hW => ⟨rfl, ⟨by rw [hU]; exact hP, xK.moved hW hK, hD, fun q h => hA q (Nat.le_trans hS.1 (by rw [← hU]; exact h))⟩, by rw [hU]; exact (hT.kept hS.2.1).moved hW⟩⟩
theorem xc_preS {g : xG} {A : Nat → Prop} {σ : xS} {s : State} {H : Heap} {locs : List Loc} {As : List Value} (hK : xK g s) (hP : xP g σ H) (hD : xD g A σ) (hS : va_S A s.heap H locs) (hA : ∀ q : Nat, s.heap.size ≤ q → A q) (hT : xcT A s s.heap) : PreS s H (va_Pc As (xcQ g A σ)) As :=
  ⟨xc_blind, fun U hU hW => ⟨rfl, ⟨by rw [hU]; exact hP, xK.moved hW hK, hD, fun q h => hA q (Nat.le_trans hS.1 (by rw [← hU]; exact h))⟩, by rw [hU]; exact (hT.kept hS.2.1).moved hW⟩⟩
section XCROWS
variable {p : Program} {l : Launch} {e : Env} {R : Room} {s : State} {m : MethodId} {args : Array Value} {below : List Frame} {meth : Method} {c : Code} {H : Heap} {locs : List Loc} {cells slots : Nat} {Q : State → Prop} {cc : ByteArray} {pc : Nat} {ls : Array Slot} {rest : List Value} {g : xG} {σ : xS} {A : Nat → Prop} {H0 : Heap}
theorem xc_S {st t T' : State} {L : List Loc} (h0 : st.heap = H) (e1 : T'.heap = t.heap) (hF : va_F A st t) (hS : va_S A H0 H locs) (hL : ∀ q ∈ L, A q.base) : va_S A H0 T'.heap (locs ++ L) := by
  obtain ⟨hz, hk⟩ := hF
  rw [h0] at hz hk
  refine ⟨Nat.le_trans hS.1 (by rw [e1]; exact hz), fun q h1 h2 => by rw [e1, hk q (Nat.lt_of_lt_of_le h1 hS.1) h2]; exact hS.2.1 q h1 h2, fun q hq => ?_⟩
  rcases List.mem_append.mp hq with h | h
  · exact hS.2.2 q h
  · exact hL q h
/-- a callee that always throws N -/
theorem xc_cf {mc ms : Nat} {st0 : List Value} {N : String} (hr : vx_Run p l e R s m args below meth c H locs cells slots mc ms (F0 m pc ls st0) rest (fun _ _ _ => False) (xcX g A σ N) A) (hS : va_S A H0 H locs)
    (kx : ∀ (q9 : Nat) (ce : Cell) (H1 : Heap) (locs1 : List Loc), H1[q9]? = some ce → ce.vm = .none → s.vm.findClass N = some ce.cls → xP g σ H1 → xD g A σ → va_S A H0 H1 locs1 → vx_W p l e R s m args below meth c H1 locs1 (cells + mc) (slots + ms) Q (F0 m pc ls rest) q9) : W p l e R s m args below meth c H locs cells slots Q (F0 m pc ls st0) := by
  intro T hT X
  rcases hr T hT X with ⟨v, st₀, t, T', L, h0, X', hL, e1, e2, hF, st⟩ | ⟨q, st₀, t, T', L, E, ce, h0, X', hL, e1, e2, ⟨rfl, hP1, hD1, hF⟩, hce, hcv, hcl, st⟩
  · exact hF.elim
  · obtain ⟨t2, a1, b1⟩ := kx q ce T'.heap (locs ++ L) (by rw [e1]; exact hce) hcv hcl (by rw [e1]; exact hP1) hD1 (xc_S h0 e1 hF hS hL) T' rfl X'
    exact ⟨t2, st.trans a1, b1⟩
/-- a callee with a table, that never throws -/
theorem xc_cqi {mc ms : Nat} {st0 : List Value} {a : Array Value} {post : Int → xS → Prop} (hr : vx_Run p l e R s m args below meth c H locs cells slots mc ms (F0 m pc ls st0) rest (x_Qi g A post a) (fun _ _ _ => False) A) (hS : va_S A H0 H locs)
    (kk : ∀ (r : Int) (σ1 : xS) (H1 : Heap) (locs1 : List Loc), inR r → post r σ1 → xP g σ1 H1 → xD g A σ1 → va_S A H0 H1 locs1 → W p l e R s m args below meth c H1 locs1 (cells + mc) (slots + ms) Q (F0 m (pc + 3) ls (.int (iI r) :: rest))) : W p l e R s m args below meth c H locs cells slots Q (F0 m pc ls st0) := by
  intro T hT X
  rcases hr T hT X with ⟨v, st₀, t, T', L, h0, X', hL, e1, e2, ⟨r, σ1, hr1, hr2, hv, hE⟩, st⟩ | ⟨q, st₀, t, T', L, E, ce, h0, X', hL, e1, e2, hF, hce, hcv, hcl, st⟩
  · cases hv
    obtain ⟨t2, a1, b1⟩ := kk r σ1 T'.heap (locs ++ L) hr1 hr2 (by rw [e1]; exact hE.1) hE.2.1 (x_end_S (A0 := A) h0 e1 hE hS hL) T' rfl X'
    exact ⟨t2, st t2 a1, b1⟩
  · exact hF.elim
end XCROWS

theorem v_X3_fail (l : Launch) (hlst : l.stackTraces = false) (g : xG) (σ : xS) (A : Nat → Prop) (a : Nat) : vx_Met l yX3_fail wsX3_fail ({ frames := 8, cells := 1, slots := 6, locals := 256 }) (va_Pc [.ref a] (xcQ g A σ)) (fun _ _ _ _ => False) (xcX g A σ nISE) 1 6 A := by
  refine vx_ofW (cc := cX3_fail) (maxL := 1) (ret := none) (by decide) rfl ?_
  intro p e s m args below meth c s₁ B hml hne hv
  obtain ⟨rfl, ⟨hP, hK, hD, hA⟩, hT⟩ := hv
  have hx := B.exec
  have hb := B.bytes
  have hts := atoms_spec (ws := wsX3_fail) B.pre
  have hown : s.vm.findClass RX3 = some m.cls := findClass_of_methodNamed B.named
  have hlocks := B.notSynchronized
  have hS : va_S A s.heap s.heap [] := va_S.rf
  have hl := lv_entry ([.ref a]) (n := 1) (Nat.le_of_ble_eq_true rfl)
  rw [lg_entry_eq]
  generalize (lg_sl ([.ref a]) ++ List.replicate (1 - (lg_sl ([.ref a])).length) Slot.unset).toArray = ls at hl ⊢
  have hl : lv_has ls 1 [(0, .ref a)] := hl
  refine vx_throw0 (cls := nISE) (names := ["java/lang/RuntimeException", "java/lang/Exception"]) (ik := 13) (ic := 15) (A := A) hx hb hlst hown (by decide +kernel) (by decide +kernel) (hts (.classLink RX3 13 nISE) (by decide +kernel)) (hts (.initialized nISE) (by decide +kernel)) (vx_hat (B := .castable nISE nISE :: xcDecl.map .declares) (fun w hw => hts w (List.mem_cons_of_mem _ (List.mem_append_right _ hw))) (by decide +kernel) (fun w hw => by (rcases List.mem_cons.mp hw with hw | hw; (subst hw; exact va_Nw.use rfl hT.2.2.2.2.2.2.2.2.2.1); (obtain ⟨y, hy, hw⟩ := List.mem_map.mp hw; subst hw; exact va_Nw.use rfl (hT.2.2.2.2.2.2.2.2.2.2 y hy))))) (by decide +kernel) hT.1 hT.2.1 hS (hl.1.trans hml.symm) dX3_fail_0 dX3_fail_3 dX3_fail_4 dX3_fail_7 (fun x hx => (hne x hx).elim) (Nat.le_of_ble_eq_true rfl) (Nat.le_of_ble_eq_true rfl) (Nat.le_of_ble_eq_true rfl) (Nat.le_of_ble_eq_true rfl) hlocks (fun t _ hz hk => ⟨rfl, va_P.kept hP (fun k x hx => hk x.1 ((hP k x hx).lt)), hD, hz, fun q h1 _ => hk q h1⟩) (fun z hz => by cases hz) (Nat.le_of_ble_eq_true rfl) (Nat.le_of_ble_eq_true rfl)

theorem v_X0_fail (l : Launch) (hlst : l.stackTraces = false) (g : xG) (σ : xS) (A : Nat → Prop) (a : Nat) : vx_Met l yX0_fail wsX0_fail ({ frames := 8, cells := 1, slots := 6, locals := 256 }) (va_Pc [.ref a] (xcQ g A σ)) (fun _ _ _ _ => False) (xcX g A σ nIAE) 1 6 A := by
  refine vx_ofW (cc := cX0_fail) (maxL := 1) (ret := none) (by decide) rfl ?_
  intro p e s m args below meth c s₁ B hml hne hv
  obtain ⟨rfl, ⟨hP, hK, hD, hA⟩, hT⟩ := hv
  have hx := B.exec
  have hb := B.bytes
  have hts := atoms_spec (ws := wsX0_fail) B.pre
  have hown : s.vm.findClass RX0 = some m.cls := findClass_of_methodNamed B.named
  have hlocks := B.notSynchronized
  have hS : va_S A s.heap s.heap [] := va_S.rf
  have hl := lv_entry ([.ref a]) (n := 1) (Nat.le_of_ble_eq_true rfl)
  rw [lg_entry_eq]
  generalize (lg_sl ([.ref a]) ++ List.replicate (1 - (lg_sl ([.ref a])).length) Slot.unset).toArray = ls at hl ⊢
  have hl : lv_has ls 1 [(0, .ref a)] := hl
  refine vx_throw0 (cls := nIAE) (names := ["java/lang/RuntimeException", "java/lang/Exception"]) (ik := 24) (ic := 26) (A := A) hx hb hlst hown (by decide +kernel) (by decide +kernel) (hts (.classLink RX0 24 nIAE) (by decide +kernel)) (hts (.initialized nIAE) (by decide +kernel)) (vx_hat (B := .castable nIAE nIAE :: xcDecl.map .declares) (fun w hw => hts w (List.mem_cons_of_mem _ (List.mem_append_right _ hw))) (by decide +kernel) (fun w hw => by (rcases List.mem_cons.mp hw with hw | hw; (subst hw; exact va_Nw.use rfl hT.2.2.2.2.2.2.2.2.1); (obtain ⟨y, hy, hw⟩ := List.mem_map.mp hw; subst hw; exact va_Nw.use rfl (hT.2.2.2.2.2.2.2.2.2.2 y hy))))) (by decide +kernel) hT.1 hT.2.1 hS (hl.1.trans hml.symm) dX0_fail_0 dX0_fail_3 dX0_fail_4 dX0_fail_7 (fun x hx => (hne x hx).elim) (Nat.le_of_ble_eq_true rfl) (Nat.le_of_ble_eq_true rfl) (Nat.le_of_ble_eq_true rfl) (Nat.le_of_ble_eq_true rfl) hlocks (fun t _ hz hk => ⟨rfl, va_P.kept hP (fun k x hx => hk x.1 ((hP k x hx).lt)), hD, hz, fun q h1 _ => hk q h1⟩) (fun z hz => by cases hz) (Nat.le_of_ble_eq_true rfl) (Nat.le_of_ble_eq_true rfl)

theorem v_X9_fail (l : Launch) (hlst : l.stackTraces = false) (g : xG) (σ : xS) (A : Nat → Prop) (a : Nat) : vx_Met l yX9_fail wsX9_fail ({ frames := 8, cells := 1, slots := 6, locals := 256 }) (va_Pc [.ref a] (xcQ g A σ)) (fun _ _ _ _ => False) (xcX g A σ nUOE) 1 6 A := by
  refine vx_ofW (cc := cX9_fail) (maxL := 1) (ret := none) (by decide) rfl ?_
  intro p e s m args below meth c s₁ B hml hne hv
  obtain ⟨rfl, ⟨hP, hK, hD, hA⟩, hT⟩ := hv
  have hx := B.exec
  have hb := B.bytes
  have hts := atoms_spec (ws := wsX9_fail) B.pre
  have hown : s.vm.findClass RX9 = some m.cls := findClass_of_methodNamed B.named
  have hlocks := B.notSynchronized
  have hS : va_S A s.heap s.heap [] := va_S.rf
  have hl := lv_entry ([.ref a]) (n := 1) (Nat.le_of_ble_eq_true rfl)
  rw [lg_entry_eq]
  generalize (lg_sl ([.ref a]) ++ List.replicate (1 - (lg_sl ([.ref a])).length) Slot.unset).toArray = ls at hl ⊢
  have hl : lv_has ls 1 [(0, .ref a)] := hl
  refine vx_throw0 (cls := nUOE) (names := ["java/lang/RuntimeException", "java/lang/Exception"]) (ik := 24) (ic := 26) (A := A) hx hb hlst hown (by decide +kernel) (by decide +kernel) (hts (.classLink RX9 24 nUOE) (by decide +kernel)) (hts (.initialized nUOE) (by decide +kernel)) (vx_hat (B := .castable nUOE nUOE :: xcDecl.map .declares) (fun w hw => hts w (List.mem_cons_of_mem _ (List.mem_append_right _ hw))) (by decide +kernel) (fun w hw => by (rcases List.mem_cons.mp hw with hw | hw; (subst hw; exact va_Nw.use rfl hT.2.2.2.2.2.2.2.1); (obtain ⟨y, hy, hw⟩ := List.mem_map.mp hw; subst hw; exact va_Nw.use rfl (hT.2.2.2.2.2.2.2.2.2.2 y hy))))) (by decide +kernel) hT.1 hT.2.1 hS (hl.1.trans hml.symm) dX9_fail_0 dX9_fail_3 dX9_fail_4 dX9_fail_7 (fun x hx => (hne x hx).elim) (Nat.le_of_ble_eq_true rfl) (Nat.le_of_ble_eq_true rfl) (Nat.le_of_ble_eq_true rfl) (Nat.le_of_ble_eq_true rfl) hlocks (fun t _ hz hk => ⟨rfl, va_P.kept hP (fun k x hx => hk x.1 ((hP k x hx).lt)), hD, hz, fun q h1 _ => hk q h1⟩) (fun z hz => by cases hz) (Nat.le_of_ble_eq_true rfl) (Nat.le_of_ble_eq_true rfl)

set_option maxHeartbeats 4000000 in
set_option maxRecDepth 100000 in
theorem c_X11_toss (l : Launch) (g : xG) (σ : xS) (A : Nat → Prop) (hlst : l.stackTraces = false) (ph : Nat) (tk : Int) (hx0 : XObj g σ.1 ph tk) (hH : HsOk σ) (Kf : Int → Option Nat) (So Sz : Int → Int) (h25 : MRef g σ.1 25 8 Kf) (h26 : MArr g σ.1 26 8 So) (h27 : MArr g σ.1 27 8 Sz) (hxs : XsOk σ Kf So Sz) (d : Int) (hd : inR d) : vx_Met l yX11_toss wsX11_toss ({ frames := 10, cells := 1, slots := 6, locals := 320 }) (va_Pc [.ref (g.2.2 0), .int (iI (d))] (xcQ g A σ)) (x_Qi g A (fun r σ1 => σ1.2 = σ.2 ∧ σ1.1 = σ.1 ∧ r = (if zKeptR (xKp Kf So) d ≠ 0 then zKeptR (xKp Kf So) d else zTossF ((sK σ Kf d : Nat) : Int) (sF σ Kf d)))) (fun _ _ _ => False) (1) (6) A := by
  refine vx_ofWH (cc := cX11_toss) (maxL := 5) (ret := (some .int)) (by decide) rfl ?_
  intro p e s m args below meth c s₁ B hml hv
  obtain ⟨rfl, ⟨hP, hK, hD, hA⟩, hT⟩ := hv
  have hx := B.exec
  have hb := B.bytes
  have hr := B.returns
  have hts := atoms_spec (ws := wsX11_toss) B.pre
  have hown : s.vm.findClass RX11 = some m.cls := findClass_of_methodNamed B.named
  have hlocks := B.notSynchronized
  have hS : va_S A s.heap s.heap [] := va_S.rf
  have hfr : ∀ j, (True) → σ.1 j = σ.1 j := fun _ _ => rfl
  have hl := lv_entry ([.ref (g.2.2 0), .int (iI (d))]) (n := 5) (Nat.le_of_ble_eq_true rfl)
  rw [lg_entry_eq]
  generalize (lg_sl ([.ref (g.2.2 0), .int (iI (d))]) ++ List.replicate (5 - (lg_sl ([.ref (g.2.2 0), .int (iI (d))])).length) Slot.unset).toArray = ls at hl ⊢
  have hl : lv_has ls 5 [(0, .ref (g.2.2 0)), (1, .int (iI (d)))] := hl
  have htab : c.exceptionTable.toList = [⟨29, 33, 36, 276⟩, ⟨29, 33, 47, 242⟩, ⟨29, 33, 57, 249⟩] := vx_table (x := yX11_toss) B (hts (.codeWith yX11_toss cX11_toss 5 (some .int) [(29, 33, 36, 276), (29, 33, 47, 242), (29, 33, 57, 249)]) (by decide +kernel))
  have hw_0 := hts (.fieldLink RX11 45 "TwiceAsRich" "kept" "[LTwiceAsRich$House;") (by decide +kernel)
  have hin_X11 : ∀ w ∈ wsX110, w ∈ wsX11_toss := by decide +kernel
  have hw_2 := (show (Cond.code yX3_hasFailure cX3_hasFailure 1 (some .boolean)) ∈ wsX11_toss by decide +kernel)
  have hw_3 := hts (.fieldLink RX11 99 "TwiceAsRich$House" "figure" "I") (by decide +kernel)
  have hinH := (show ∀ q ∈ hCls, ∀ w ∈ u_ws q.1 q.2.1 q.2.2, w ∈ wsX11_toss by decide +kernel)
  have hw_5 := (show (Cond.code yX3_fail cX3_fail 1 none) ∈ wsX11_toss by decide +kernel)
  have hw_6 := (show (Cond.code yX3_price cX3_price 1 (some .int)) ∈ wsX11_toss by decide +kernel)
  refine lv_aload_n hx hb dX11_toss_0 rfl (lv_at hl 0 rfl) ?_
  refine lv_iload_n hx hb dX11_toss_1 rfl (lv_at hl 1 rfl) ?_
  refine x_ci (va_runV (As := [.int (iI (d))]) (rest := []) ⟨hx, hb, hml, hown, hts⟩ (c_X11_houseRefusal l g σ ph tk hx0 Kf So Sz h25 h26 h27 hxs (d) (by omega)) (cwV 1 hts gX11_toss_X11_houseRefusal rfl rfl rfl (by decide +kernel) ⟨Nat.le_of_ble_eq_true rfl, Nat.le_of_ble_eq_true rfl⟩) (x_preV hK hP (x_recv hK hP (i := 0) (by decide) hx0 rfl)) rfl rfl hl.1 rfl (lv_room (Nat.le_of_ble_eq_true rfl)) dX11_toss_2 ⟨Nat.le_of_ble_eq_true rfl, Nat.le_of_ble_eq_true rfl⟩) (fun r_2 hr_2 qr_2 => ?_)
  replace qr_2 : r_2 = zKeptR (xKp Kf So) (d) := qr_2
  refine lv_istore_n (lv' := [(2, .int (iI (r_2))), (0, .ref (g.2.2 0)), (1, .int (iI (d)))]) hx hb dX11_toss_5 rfl hl (by decide) rfl (fun ls hl => ?_)
  refine lv_iload_n hx hb dX11_toss_6 rfl (lv_at hl 0 rfl) ?_
  refine x_if_eq (tgt := 12) hx hb (by omega) dX11_toss_7 (by decide) (fun c_7 => ?_) (fun c_7 => ?_)
  · have hk9 := zKeptR_0 qr_2 (by omega)
    refine lv_aload_n hx hb dX11_toss_12 rfl (lv_at hl 1 rfl) ?_
    refine x_get (C := RX11) (T := TX11) (N := 11) hx hb hts hin_X11 hown hK hP (0) (by decide) hx0 rfl 7 (by decide) hw_0 (fun _ h9 => h9) rfl dX11_toss_13 ?_
    refine lv_iload_n hx hb dX11_toss_16 rfl (lv_at hl 2 rfl) ?_
    rcases hG_a_1 : Kf (d) with _ | a_1
    · refine x_aaldN (C := RX3) (f := Kf) 1 hx hb hK hP (25) (by decide) h25 rfl (by omega) (by omega) (by decide) hG_a_1 dX11_toss_17 ?_
      exfalso; have z9 := zKeptR_0 qr_2 (by omega); (have e9 : xKp Kf So d = if So d = -1 then 0 else 2 := by simp only [xKp, kpO, hG_a_1]); split at e9 <;> omega
    · have ha_a_1 := hxs.2.2.1 _ _ hG_a_1
      refine x_aaldS (C := RX3) (f := Kf) 1 hx hb hK hP (25) (by decide) h25 rfl (by omega) (by omega) (by decide) hG_a_1 dX11_toss_17 ?_
      have eK : sK σ Kf d = σ.2.2.1 a_1 := by simp only [sK, kdO, hG_a_1]
      have eF : sF σ Kf d = σ.2.2.2 a_1 := by simp only [sF, fgO, hG_a_1]
      have hb9 := hH a_1 ha_a_1
      refine lv_astore_n (lv' := [(3, .ref a_1), (2, .int (iI (r_2))), (0, .ref (g.2.2 0)), (1, .int (iI (d)))]) hx hb dX11_toss_18 rfl hl (by decide) rfl (fun ls hl => ?_)
      refine lv_aload_n hx hb dX11_toss_19 rfl (lv_at hl 0 rfl) ?_
      refine x_ci (rest := []) (a := ([.ref a_1] : List Value).toArray) (post := fun r => (r = 1 ∧ σ.2.2.1 a_1 ≠ 3 ∧ σ.2.2.2 a_1 ≠ 0) ∨ (r = 0 ∧ (σ.2.2.1 a_1 = 3 ∨ σ.2.2.2 a_1 = 0))) (by
        have hk0 := (hH a_1 ha_a_1).1
        have hk : σ.2.2.1 a_1 = 0 ∨ σ.2.2.1 a_1 = 1 ∨ σ.2.2.1 a_1 = 2 ∨ σ.2.2.1 a_1 = 3 ∨ σ.2.2.1 a_1 = 4 ∨ σ.2.2.1 a_1 = 5 ∨ σ.2.2.1 a_1 = 6 ∨ σ.2.2.1 a_1 = 7 := by omega
        rcases hk with hk | hk | hk | hk | hk | hk | hk | hk
        · exact x_run_mono (va_runV (As := []) (rest := []) ⟨hx, hb, hml, hown, hts⟩ (c_X3_hasFailure l g σ hH a_1 ha_a_1) (cwV 0 hts gX11_toss_X3_hasFailure rfl rfl rfl (by decide +kernel) ⟨Nat.le_of_ble_eq_true rfl, Nat.le_of_ble_eq_true rfl⟩) (x_preV hK hP (x_recvH (q := (RX3, TX3, 1)) hK hP ha_a_1 (by rw [hk]; rfl))) rfl rfl hl.1 rfl (lv_room (Nat.le_of_ble_eq_true rfl)) dX11_toss_20 ⟨Nat.le_of_ble_eq_true rfl, Nat.le_of_ble_eq_true rfl⟩) (fun r hr => hr.elim (fun h => Or.inl ⟨h.1, by omega, h.2⟩) (fun h => Or.inr ⟨h.1, Or.inr h.2⟩))
        · exact x_run_mono (va_runU (As := []) (rest := []) ⟨hx, hb, hml, hown, hts⟩ (c_X3_hasFailure l g σ hH a_1 ha_a_1) (va_cwU 0 hts gX11_toss_X3_hasFailure_u270X2 rfl rfl rfl rfl (by decide +kernel) ⟨Nat.le_of_ble_eq_true rfl, Nat.le_of_ble_eq_true rfl⟩) (x_preV hK hP (x_recvH (q := (RX2, TX2, 1)) hK hP ha_a_1 (by rw [hk]; rfl))) rfl rfl hl.1 rfl (lv_room (Nat.le_of_ble_eq_true rfl)) dX11_toss_20 ⟨Nat.le_of_ble_eq_true rfl, Nat.le_of_ble_eq_true rfl⟩) (fun r hr => hr.elim (fun h => Or.inl ⟨h.1, by omega, h.2⟩) (fun h => Or.inr ⟨h.1, Or.inr h.2⟩))
        · exact x_run_mono (va_runU (As := []) (rest := []) ⟨hx, hb, hml, hown, hts⟩ (c_X3_hasFailure l g σ hH a_1 ha_a_1) (va_cwU 0 hts gX11_toss_X3_hasFailure_u270X6 rfl rfl rfl rfl (by decide +kernel) ⟨Nat.le_of_ble_eq_true rfl, Nat.le_of_ble_eq_true rfl⟩) (x_preV hK hP (x_recvH (q := (RX6, TX6, 1)) hK hP ha_a_1 (by rw [hk]; rfl))) rfl rfl hl.1 rfl (lv_room (Nat.le_of_ble_eq_true rfl)) dX11_toss_20 ⟨Nat.le_of_ble_eq_true rfl, Nat.le_of_ble_eq_true rfl⟩) (fun r hr => hr.elim (fun h => Or.inl ⟨h.1, by omega, h.2⟩) (fun h => Or.inr ⟨h.1, Or.inr h.2⟩))
        · exact x_run_mono (va_runU (As := []) (rest := []) ⟨hx, hb, hml, hown, hts⟩ (c_X10_hasFailure l g σ hH a_1 ha_a_1) (va_cwO 0 hts gX11_toss_X10_hasFailure_u270X10 rfl rfl rfl (b0 := cX3_hasFailure) (m0 := 1) (r0 := (some .boolean)) hw_2 (by decide +kernel) ⟨Nat.le_of_ble_eq_true rfl, Nat.le_of_ble_eq_true rfl⟩) (x_preV hK hP (x_recvH (q := (RX10, TX10, 1)) hK hP ha_a_1 (by rw [hk]; rfl))) rfl rfl hl.1 rfl (lv_room (Nat.le_of_ble_eq_true rfl)) dX11_toss_20 ⟨Nat.le_of_ble_eq_true rfl, Nat.le_of_ble_eq_true rfl⟩) (fun r hr => Or.inr ⟨hr, Or.inl hk⟩)
        · exact x_run_mono (va_runU (As := []) (rest := []) ⟨hx, hb, hml, hown, hts⟩ (c_X3_hasFailure l g σ hH a_1 ha_a_1) (va_cwU 0 hts gX11_toss_X3_hasFailure_u270X4 rfl rfl rfl rfl (by decide +kernel) ⟨Nat.le_of_ble_eq_true rfl, Nat.le_of_ble_eq_true rfl⟩) (x_preV hK hP (x_recvH (q := (RX4, TX4, 1)) hK hP ha_a_1 (by rw [hk]; rfl))) rfl rfl hl.1 rfl (lv_room (Nat.le_of_ble_eq_true rfl)) dX11_toss_20 ⟨Nat.le_of_ble_eq_true rfl, Nat.le_of_ble_eq_true rfl⟩) (fun r hr => hr.elim (fun h => Or.inl ⟨h.1, by omega, h.2⟩) (fun h => Or.inr ⟨h.1, Or.inr h.2⟩))
        · exact x_run_mono (va_runU (As := []) (rest := []) ⟨hx, hb, hml, hown, hts⟩ (c_X3_hasFailure l g σ hH a_1 ha_a_1) (va_cwU 0 hts gX11_toss_X3_hasFailure_u270X0 rfl rfl rfl rfl (by decide +kernel) ⟨Nat.le_of_ble_eq_true rfl, Nat.le_of_ble_eq_true rfl⟩) (x_preV hK hP (x_recvH (q := (RX0, TX0, 1)) hK hP ha_a_1 (by rw [hk]; rfl))) rfl rfl hl.1 rfl (lv_room (Nat.le_of_ble_eq_true rfl)) dX11_toss_20 ⟨Nat.le_of_ble_eq_true rfl, Nat.le_of_ble_eq_true rfl⟩) (fun r hr => hr.elim (fun h => Or.inl ⟨h.1, by omega, h.2⟩) (fun h => Or.inr ⟨h.1, Or.inr h.2⟩))
        · exact x_run_mono (va_runU (As := []) (rest := []) ⟨hx, hb, hml, hown, hts⟩ (c_X3_hasFailure l g σ hH a_1 ha_a_1) (va_cwU 0 hts gX11_toss_X3_hasFailure_u270X9 rfl rfl rfl rfl (by decide +kernel) ⟨Nat.le_of_ble_eq_true rfl, Nat.le_of_ble_eq_true rfl⟩) (x_preV hK hP (x_recvH (q := (RX9, TX9, 1)) hK hP ha_a_1 (by rw [hk]; rfl))) rfl rfl hl.1 rfl (lv_room (Nat.le_of_ble_eq_true rfl)) dX11_toss_20 ⟨Nat.le_of_ble_eq_true rfl, Nat.le_of_ble_eq_true rfl⟩) (fun r hr => hr.elim (fun h => Or.inl ⟨h.1, by omega, h.2⟩) (fun h => Or.inr ⟨h.1, Or.inr h.2⟩))
        · exact x_run_mono (va_runU (As := []) (rest := []) ⟨hx, hb, hml, hown, hts⟩ (c_X1_hasFailure l g σ hH a_1 ha_a_1) (va_cwO 0 hts gX11_toss_X1_hasFailure_u270X1 rfl rfl rfl (b0 := cX3_hasFailure) (m0 := 1) (r0 := (some .boolean)) hw_2 (by decide +kernel) ⟨Nat.le_of_ble_eq_true rfl, Nat.le_of_ble_eq_true rfl⟩) (x_preV hK hP (x_recvH (q := (RX1, TX1, 1)) hK hP ha_a_1 (by rw [hk]; rfl))) rfl rfl hl.1 rfl (lv_room (Nat.le_of_ble_eq_true rfl)) dX11_toss_20 ⟨Nat.le_of_ble_eq_true rfl, Nat.le_of_ble_eq_true rfl⟩) (fun r hr => hr.elim (fun h => Or.inl ⟨h.1, by omega, h.2⟩) (fun h => Or.inr ⟨h.1, Or.inr h.2⟩))) (fun r_20 hr_20 qr_20 => ?_)
      replace qr_20 : (r_20 = 1 ∧ σ.2.2.1 a_1 ≠ 3 ∧ σ.2.2.2 a_1 ≠ 0) ∨ (r_20 = 0 ∧ (σ.2.2.1 a_1 = 3 ∨ σ.2.2.2 a_1 = 0)) := qr_20
      refine x_if_ne (tgt := 29) hx hb (by omega) dX11_toss_23 (by decide) (fun c_23 => ?_) (fun c_23 => ?_)
      · refine lv_aload_n hx hb dX11_toss_29 rfl (lv_at hl 0 rfl) ?_
        have hk : σ.2.2.1 a_1 = 0 ∨ σ.2.2.1 a_1 = 1 ∨ σ.2.2.1 a_1 = 2 ∨ σ.2.2.1 a_1 = 4 ∨ σ.2.2.1 a_1 = 5 ∨ σ.2.2.1 a_1 = 6 ∨ σ.2.2.1 a_1 = 7 := by (have hk0 := (hH a_1 ha_a_1).1; omega)
        rcases hk with hk | hk | hk | hk | hk | hk | hk
        · refine xc_cf (vx_runV (As := []) (rest := []) ⟨hx, hb, hml, hown, hts⟩ (v_X3_fail l hlst g σ A a_1) (cwV 0 hts gX11_toss_X3_fail rfl rfl rfl (by decide +kernel) ⟨Nat.le_of_ble_eq_true rfl, Nat.le_of_ble_eq_true rfl⟩) (xc_preV hK hP hD hS hA hT (x_recvH (q := (RX3, TX3, 1)) hK hP ha_a_1 (by rw [hk]; rfl))) rfl rfl hl.1 rfl (lv_room (Nat.le_of_ble_eq_true rfl)) dX11_toss_30 ⟨Nat.le_of_ble_eq_true rfl, Nat.le_of_ble_eq_true rfl⟩) hS (fun q9 ce H locs hce hcv hcl hP hD hS => ?_)
          refine vx_catch (name := nISE) (E := nISE) hown [⟨29, 33, 36, 276⟩, ⟨29, 33, 47, 242⟩] ⟨29, 33, 57, 249⟩ [] htab (fun z hz => by (rcases List.mem_cons.mp hz with hz | hz; (subst hz; exact Or.inr ⟨by decide, nUOE, hts (.classLink RX11 276 nUOE) (by decide +kernel), hT.2.2.2.2.1⟩); (rw [List.mem_singleton] at hz; subst hz; exact Or.inr ⟨by decide, nIAE, hts (.classLink RX11 242 nIAE) (by decide +kernel), hT.2.2.2.2.2.2.1⟩))) (by decide) (by decide) (hts (.classLink RX11 249 nISE) (by decide +kernel)) (va_Nw.use rfl hT.2.2.2.2.2.2.2.2.2.1) hce hcv hcl ?_
          refine lv_astore (lv' := [(4, .ref q9), (3, .ref a_1), (2, .int (iI (r_2))), (0, .ref (g.2.2 0)), (1, .int (iI (d)))]) hx hb dX11_toss_57 hl (by decide) rfl (fun ls hl => ?_)
          refine lv_aload_n hx hb dX11_toss_59 rfl (lv_at hl 1 rfl) ?_
          refine x_fig hx hb hts hinH hown hK hP ha_a_1 hw_3 (fun _ h9 => h9) dX11_toss_60 ?_
          refine vx_ret ?_
          refine W.widen (k := 1) (n := 6) (by omega) (by omega) ?_
          refine x_retQ hx hb hr (by omega) ?_ hP hD hS dX11_toss_63 hlocks
          refine ⟨rfl, rfl, ?_⟩
          rw [if_neg (by omega), eK, eF]
          unfold zTossF
          first | (rw [if_pos (by omega)]; done) | (rw [if_neg (by omega), if_pos (by omega)]; done) | (rw [if_neg (by omega), if_neg (by omega), if_pos (by omega)]; (have z6 : r_42 = zFee 6 (σ.2.2.2 a_1) := by (rw [qr_42, hk])); omega) | (rw [if_neg (by omega), if_neg (by omega), if_neg (by omega)])
        · refine xc_cf (vx_runU (As := []) (rest := []) ⟨hx, hb, hml, hown, hts⟩ (v_X3_fail l hlst g σ A a_1) (va_cwU 0 hts gX11_toss_X3_fail_u273X2 rfl rfl rfl rfl (by decide +kernel) ⟨Nat.le_of_ble_eq_true rfl, Nat.le_of_ble_eq_true rfl⟩) (xc_preV hK hP hD hS hA hT (x_recvH (q := (RX2, TX2, 1)) hK hP ha_a_1 (by rw [hk]; rfl))) rfl rfl hl.1 rfl (lv_room (Nat.le_of_ble_eq_true rfl)) dX11_toss_30 ⟨Nat.le_of_ble_eq_true rfl, Nat.le_of_ble_eq_true rfl⟩) hS (fun q9 ce H locs hce hcv hcl hP hD hS => ?_)
          refine vx_catch (name := nISE) (E := nISE) hown [⟨29, 33, 36, 276⟩, ⟨29, 33, 47, 242⟩] ⟨29, 33, 57, 249⟩ [] htab (fun z hz => by (rcases List.mem_cons.mp hz with hz | hz; (subst hz; exact Or.inr ⟨by decide, nUOE, hts (.classLink RX11 276 nUOE) (by decide +kernel), hT.2.2.2.2.1⟩); (rw [List.mem_singleton] at hz; subst hz; exact Or.inr ⟨by decide, nIAE, hts (.classLink RX11 242 nIAE) (by decide +kernel), hT.2.2.2.2.2.2.1⟩))) (by decide) (by decide) (hts (.classLink RX11 249 nISE) (by decide +kernel)) (va_Nw.use rfl hT.2.2.2.2.2.2.2.2.2.1) hce hcv hcl ?_
          refine lv_astore (lv' := [(4, .ref q9), (3, .ref a_1), (2, .int (iI (r_2))), (0, .ref (g.2.2 0)), (1, .int (iI (d)))]) hx hb dX11_toss_57 hl (by decide) rfl (fun ls hl => ?_)
          refine lv_aload_n hx hb dX11_toss_59 rfl (lv_at hl 1 rfl) ?_
          refine x_fig hx hb hts hinH hown hK hP ha_a_1 hw_3 (fun _ h9 => h9) dX11_toss_60 ?_
          refine vx_ret ?_
          refine W.widen (k := 1) (n := 6) (by omega) (by omega) ?_
          refine x_retQ hx hb hr (by omega) ?_ hP hD hS dX11_toss_63 hlocks
          refine ⟨rfl, rfl, ?_⟩
          rw [if_neg (by omega), eK, eF]
          unfold zTossF
          first | (rw [if_pos (by omega)]; done) | (rw [if_neg (by omega), if_pos (by omega)]; done) | (rw [if_neg (by omega), if_neg (by omega), if_pos (by omega)]; (have z6 : r_42 = zFee 6 (σ.2.2.2 a_1) := by (rw [qr_42, hk])); omega) | (rw [if_neg (by omega), if_neg (by omega), if_neg (by omega)])
        · refine xc_cf (vx_runU (As := []) (rest := []) ⟨hx, hb, hml, hown, hts⟩ (v_X3_fail l hlst g σ A a_1) (va_cwU 0 hts gX11_toss_X3_fail_u273X6 rfl rfl rfl rfl (by decide +kernel) ⟨Nat.le_of_ble_eq_true rfl, Nat.le_of_ble_eq_true rfl⟩) (xc_preV hK hP hD hS hA hT (x_recvH (q := (RX6, TX6, 1)) hK hP ha_a_1 (by rw [hk]; rfl))) rfl rfl hl.1 rfl (lv_room (Nat.le_of_ble_eq_true rfl)) dX11_toss_30 ⟨Nat.le_of_ble_eq_true rfl, Nat.le_of_ble_eq_true rfl⟩) hS (fun q9 ce H locs hce hcv hcl hP hD hS => ?_)
          refine vx_catch (name := nISE) (E := nISE) hown [⟨29, 33, 36, 276⟩, ⟨29, 33, 47, 242⟩] ⟨29, 33, 57, 249⟩ [] htab (fun z hz => by (rcases List.mem_cons.mp hz with hz | hz; (subst hz; exact Or.inr ⟨by decide, nUOE, hts (.classLink RX11 276 nUOE) (by decide +kernel), hT.2.2.2.2.1⟩); (rw [List.mem_singleton] at hz; subst hz; exact Or.inr ⟨by decide, nIAE, hts (.classLink RX11 242 nIAE) (by decide +kernel), hT.2.2.2.2.2.2.1⟩))) (by decide) (by decide) (hts (.classLink RX11 249 nISE) (by decide +kernel)) (va_Nw.use rfl hT.2.2.2.2.2.2.2.2.2.1) hce hcv hcl ?_
          refine lv_astore (lv' := [(4, .ref q9), (3, .ref a_1), (2, .int (iI (r_2))), (0, .ref (g.2.2 0)), (1, .int (iI (d)))]) hx hb dX11_toss_57 hl (by decide) rfl (fun ls hl => ?_)
          refine lv_aload_n hx hb dX11_toss_59 rfl (lv_at hl 1 rfl) ?_
          refine x_fig hx hb hts hinH hown hK hP ha_a_1 hw_3 (fun _ h9 => h9) dX11_toss_60 ?_
          refine vx_ret ?_
          refine W.widen (k := 1) (n := 6) (by omega) (by omega) ?_
          refine x_retQ hx hb hr (by omega) ?_ hP hD hS dX11_toss_63 hlocks
          refine ⟨rfl, rfl, ?_⟩
          rw [if_neg (by omega), eK, eF]
          unfold zTossF
          first | (rw [if_pos (by omega)]; done) | (rw [if_neg (by omega), if_pos (by omega)]; done) | (rw [if_neg (by omega), if_neg (by omega), if_pos (by omega)]; (have z6 : r_42 = zFee 6 (σ.2.2.2 a_1) := by (rw [qr_42, hk])); omega) | (rw [if_neg (by omega), if_neg (by omega), if_neg (by omega)])
        · refine xc_cf (vx_runU (As := []) (rest := []) ⟨hx, hb, hml, hown, hts⟩ (v_X3_fail l hlst g σ A a_1) (va_cwU 0 hts gX11_toss_X3_fail_u273X4 rfl rfl rfl rfl (by decide +kernel) ⟨Nat.le_of_ble_eq_true rfl, Nat.le_of_ble_eq_true rfl⟩) (xc_preV hK hP hD hS hA hT (x_recvH (q := (RX4, TX4, 1)) hK hP ha_a_1 (by rw [hk]; rfl))) rfl rfl hl.1 rfl (lv_room (Nat.le_of_ble_eq_true rfl)) dX11_toss_30 ⟨Nat.le_of_ble_eq_true rfl, Nat.le_of_ble_eq_true rfl⟩) hS (fun q9 ce H locs hce hcv hcl hP hD hS => ?_)
          refine vx_catch (name := nISE) (E := nISE) hown [⟨29, 33, 36, 276⟩, ⟨29, 33, 47, 242⟩] ⟨29, 33, 57, 249⟩ [] htab (fun z hz => by (rcases List.mem_cons.mp hz with hz | hz; (subst hz; exact Or.inr ⟨by decide, nUOE, hts (.classLink RX11 276 nUOE) (by decide +kernel), hT.2.2.2.2.1⟩); (rw [List.mem_singleton] at hz; subst hz; exact Or.inr ⟨by decide, nIAE, hts (.classLink RX11 242 nIAE) (by decide +kernel), hT.2.2.2.2.2.2.1⟩))) (by decide) (by decide) (hts (.classLink RX11 249 nISE) (by decide +kernel)) (va_Nw.use rfl hT.2.2.2.2.2.2.2.2.2.1) hce hcv hcl ?_
          refine lv_astore (lv' := [(4, .ref q9), (3, .ref a_1), (2, .int (iI (r_2))), (0, .ref (g.2.2 0)), (1, .int (iI (d)))]) hx hb dX11_toss_57 hl (by decide) rfl (fun ls hl => ?_)
          refine lv_aload_n hx hb dX11_toss_59 rfl (lv_at hl 1 rfl) ?_
          refine x_fig hx hb hts hinH hown hK hP ha_a_1 hw_3 (fun _ h9 => h9) dX11_toss_60 ?_
          refine vx_ret ?_
          refine W.widen (k := 1) (n := 6) (by omega) (by omega) ?_
          refine x_retQ hx hb hr (by omega) ?_ hP hD hS dX11_toss_63 hlocks
          refine ⟨rfl, rfl, ?_⟩
          rw [if_neg (by omega), eK, eF]
          unfold zTossF
          first | (rw [if_pos (by omega)]; done) | (rw [if_neg (by omega), if_pos (by omega)]; done) | (rw [if_neg (by omega), if_neg (by omega), if_pos (by omega)]; (have z6 : r_42 = zFee 6 (σ.2.2.2 a_1) := by (rw [qr_42, hk])); omega) | (rw [if_neg (by omega), if_neg (by omega), if_neg (by omega)])
        · refine xc_cf (vx_runU (As := []) (rest := []) ⟨hx, hb, hml, hown, hts⟩ (v_X0_fail l hlst g σ A a_1) (va_cwO 0 hts gX11_toss_X0_fail_u273X0 rfl rfl rfl (b0 := cX3_fail) (m0 := 1) (r0 := none) hw_5 (by decide +kernel) ⟨Nat.le_of_ble_eq_true rfl, Nat.le_of_ble_eq_true rfl⟩) (xc_preV hK hP hD hS hA hT (x_recvH (q := (RX0, TX0, 1)) hK hP ha_a_1 (by rw [hk]; rfl))) rfl rfl hl.1 rfl (lv_room (Nat.le_of_ble_eq_true rfl)) dX11_toss_30 ⟨Nat.le_of_ble_eq_true rfl, Nat.le_of_ble_eq_true rfl⟩) hS (fun q9 ce H locs hce hcv hcl hP hD hS => ?_)
          refine vx_catch (name := nIAE) (E := nIAE) hown [⟨29, 33, 36, 276⟩] ⟨29, 33, 47, 242⟩ [⟨29, 33, 57, 249⟩] htab (fun z hz => by (rw [List.mem_singleton] at hz; subst hz; exact Or.inr ⟨by decide, nUOE, hts (.classLink RX11 276 nUOE) (by decide +kernel), hT.2.2.2.2.2.1⟩)) (by decide) (by decide) (hts (.classLink RX11 242 nIAE) (by decide +kernel)) (va_Nw.use rfl hT.2.2.2.2.2.2.2.2.1) hce hcv hcl ?_
          refine lv_astore (lv' := [(4, .ref q9), (3, .ref a_1), (2, .int (iI (r_2))), (0, .ref (g.2.2 0)), (1, .int (iI (d)))]) hx hb dX11_toss_47 hl (by decide) rfl (fun ls hl => ?_)
          refine x_bipush (n := 100) hx hb (by decide +kernel) dX11_toss_49 ?_
          refine lv_aload_n hx hb dX11_toss_51 rfl (lv_at hl 1 rfl) ?_
          refine x_fig hx hb hts hinH hown hK hP ha_a_1 hw_3 (fun _ h9 => h9) dX11_toss_52 ?_
          refine x_iadd hx hb dX11_toss_55 ?_
          refine vx_ret ?_
          refine W.widen (k := 1) (n := 6) (by omega) (by omega) ?_
          refine x_retQ hx hb hr (by omega) ?_ hP hD hS dX11_toss_56 hlocks
          refine ⟨rfl, rfl, ?_⟩
          rw [if_neg (by omega), eK, eF]
          unfold zTossF
          first | (rw [if_pos (by omega)]; done) | (rw [if_neg (by omega), if_pos (by omega)]; done) | (rw [if_neg (by omega), if_neg (by omega), if_pos (by omega)]; (have z6 : r_42 = zFee 6 (σ.2.2.2 a_1) := by (rw [qr_42, hk])); omega) | (rw [if_neg (by omega), if_neg (by omega), if_neg (by omega)])
        · refine xc_cf (vx_runU (As := []) (rest := []) ⟨hx, hb, hml, hown, hts⟩ (v_X9_fail l hlst g σ A a_1) (va_cwO 0 hts gX11_toss_X9_fail_u273X9 rfl rfl rfl (b0 := cX3_fail) (m0 := 1) (r0 := none) hw_5 (by decide +kernel) ⟨Nat.le_of_ble_eq_true rfl, Nat.le_of_ble_eq_true rfl⟩) (xc_preV hK hP hD hS hA hT (x_recvH (q := (RX9, TX9, 1)) hK hP ha_a_1 (by rw [hk]; rfl))) rfl rfl hl.1 rfl (lv_room (Nat.le_of_ble_eq_true rfl)) dX11_toss_30 ⟨Nat.le_of_ble_eq_true rfl, Nat.le_of_ble_eq_true rfl⟩) hS (fun q9 ce H locs hce hcv hcl hP hD hS => ?_)
          refine vx_catch (name := nUOE) (E := nUOE) hown [] ⟨29, 33, 36, 276⟩ [⟨29, 33, 47, 242⟩, ⟨29, 33, 57, 249⟩] htab (fun z hz => absurd hz List.not_mem_nil) (by decide) (by decide) (hts (.classLink RX11 276 nUOE) (by decide +kernel)) (va_Nw.use rfl hT.2.2.2.2.2.2.2.1) hce hcv hcl ?_
          refine lv_astore (lv' := [(4, .ref q9), (3, .ref a_1), (2, .int (iI (r_2))), (0, .ref (g.2.2 0)), (1, .int (iI (d)))]) hx hb dX11_toss_36 hl (by decide) rfl (fun ls hl => ?_)
          refine x_sipush (n := 200) hx hb (by decide +kernel) dX11_toss_38 ?_
          refine lv_aload_n hx hb dX11_toss_41 rfl (lv_at hl 1 rfl) ?_
          refine x_ci (rest := [.int (iI (200))]) (a := ([.ref a_1] : List Value).toArray) (post := fun r => r = zFee (σ.2.2.1 a_1) (σ.2.2.2 a_1)) (by
            have hk0 := (hH a_1 ha_a_1).1
            have hk : σ.2.2.1 a_1 = 0 ∨ σ.2.2.1 a_1 = 1 ∨ σ.2.2.1 a_1 = 2 ∨ σ.2.2.1 a_1 = 3 ∨ σ.2.2.1 a_1 = 4 ∨ σ.2.2.1 a_1 = 5 ∨ σ.2.2.1 a_1 = 6 ∨ σ.2.2.1 a_1 = 7 := by omega
            rcases hk with hk | hk | hk | hk | hk | hk | hk | hk
            · exact x_run_mono (va_runV (As := []) (rest := [.int (iI (200))]) ⟨hx, hb, hml, hown, hts⟩ (c_X3_price l g σ hH a_1 ha_a_1) (cwV 0 hts gX11_toss_X3_price rfl rfl rfl (by decide +kernel) ⟨Nat.le_of_ble_eq_true rfl, Nat.le_of_ble_eq_true rfl⟩) (x_preV hK hP (x_recvH (q := (RX3, TX3, 1)) hK hP ha_a_1 (by rw [hk]; rfl))) rfl rfl hl.1 rfl (lv_room (Nat.le_of_ble_eq_true rfl)) dX11_toss_42 ⟨Nat.le_of_ble_eq_true rfl, Nat.le_of_ble_eq_true rfl⟩) (fun r hr => hr.trans (by rw [hk]; rfl))
            · exact x_run_mono (va_runU (As := []) (rest := [.int (iI (200))]) ⟨hx, hb, hml, hown, hts⟩ (c_X2_price l g σ hH a_1 ha_a_1) (va_cwO 0 hts gX11_toss_X2_price_u267X2 rfl rfl rfl (b0 := cX3_price) (m0 := 1) (r0 := (some .int)) hw_6 (by decide +kernel) ⟨Nat.le_of_ble_eq_true rfl, Nat.le_of_ble_eq_true rfl⟩) (x_preV hK hP (x_recvH (q := (RX2, TX2, 1)) hK hP ha_a_1 (by rw [hk]; rfl))) rfl rfl hl.1 rfl (lv_room (Nat.le_of_ble_eq_true rfl)) dX11_toss_42 ⟨Nat.le_of_ble_eq_true rfl, Nat.le_of_ble_eq_true rfl⟩) (fun r hr => hr.trans (by rw [hk]; rfl))
            · exact x_run_mono (va_runU (As := []) (rest := [.int (iI (200))]) ⟨hx, hb, hml, hown, hts⟩ (c_X6_price l g σ hH a_1 ha_a_1) (va_cwO 0 hts gX11_toss_X6_price_u267X6 rfl rfl rfl (b0 := cX3_price) (m0 := 1) (r0 := (some .int)) hw_6 (by decide +kernel) ⟨Nat.le_of_ble_eq_true rfl, Nat.le_of_ble_eq_true rfl⟩) (x_preV hK hP (x_recvH (q := (RX6, TX6, 1)) hK hP ha_a_1 (by rw [hk]; rfl))) rfl rfl hl.1 rfl (lv_room (Nat.le_of_ble_eq_true rfl)) dX11_toss_42 ⟨Nat.le_of_ble_eq_true rfl, Nat.le_of_ble_eq_true rfl⟩) (fun r hr => hr.trans (by rw [hk]; rfl))
            · exact x_run_mono (va_runU (As := []) (rest := [.int (iI (200))]) ⟨hx, hb, hml, hown, hts⟩ (c_X10_price l g σ hH a_1 ha_a_1) (va_cwO 0 hts gX11_toss_X10_price_u267X10 rfl rfl rfl (b0 := cX3_price) (m0 := 1) (r0 := (some .int)) hw_6 (by decide +kernel) ⟨Nat.le_of_ble_eq_true rfl, Nat.le_of_ble_eq_true rfl⟩) (x_preV hK hP (x_recvH (q := (RX10, TX10, 1)) hK hP ha_a_1 (by rw [hk]; rfl))) rfl rfl hl.1 rfl (lv_room (Nat.le_of_ble_eq_true rfl)) dX11_toss_42 ⟨Nat.le_of_ble_eq_true rfl, Nat.le_of_ble_eq_true rfl⟩) (fun r hr => hr.trans (by rw [hk]; rfl))
            · exact x_run_mono (va_runU (As := []) (rest := [.int (iI (200))]) ⟨hx, hb, hml, hown, hts⟩ (c_X4_price l g σ hH a_1 ha_a_1) (va_cwO 0 hts gX11_toss_X4_price_u267X4 rfl rfl rfl (b0 := cX3_price) (m0 := 1) (r0 := (some .int)) hw_6 (by decide +kernel) ⟨Nat.le_of_ble_eq_true rfl, Nat.le_of_ble_eq_true rfl⟩) (x_preV hK hP (x_recvH (q := (RX4, TX4, 1)) hK hP ha_a_1 (by rw [hk]; rfl))) rfl rfl hl.1 rfl (lv_room (Nat.le_of_ble_eq_true rfl)) dX11_toss_42 ⟨Nat.le_of_ble_eq_true rfl, Nat.le_of_ble_eq_true rfl⟩) (fun r hr => hr.trans (by rw [hk]; rfl))
            · exact x_run_mono (va_runU (As := []) (rest := [.int (iI (200))]) ⟨hx, hb, hml, hown, hts⟩ (c_X0_price l g σ hH a_1 ha_a_1) (va_cwO 0 hts gX11_toss_X0_price_u267X0 rfl rfl rfl (b0 := cX3_price) (m0 := 1) (r0 := (some .int)) hw_6 (by decide +kernel) ⟨Nat.le_of_ble_eq_true rfl, Nat.le_of_ble_eq_true rfl⟩) (x_preV hK hP (x_recvH (q := (RX0, TX0, 1)) hK hP ha_a_1 (by rw [hk]; rfl))) rfl rfl hl.1 rfl (lv_room (Nat.le_of_ble_eq_true rfl)) dX11_toss_42 ⟨Nat.le_of_ble_eq_true rfl, Nat.le_of_ble_eq_true rfl⟩) (fun r hr => hr.trans (by rw [hk]; rfl))
            · exact x_run_mono (va_runU (As := []) (rest := [.int (iI (200))]) ⟨hx, hb, hml, hown, hts⟩ (c_X9_price l g σ hH a_1 ha_a_1) (va_cwO 0 hts gX11_toss_X9_price_u267X9 rfl rfl rfl (b0 := cX3_price) (m0 := 1) (r0 := (some .int)) hw_6 (by decide +kernel) ⟨Nat.le_of_ble_eq_true rfl, Nat.le_of_ble_eq_true rfl⟩) (x_preV hK hP (x_recvH (q := (RX9, TX9, 1)) hK hP ha_a_1 (by rw [hk]; rfl))) rfl rfl hl.1 rfl (lv_room (Nat.le_of_ble_eq_true rfl)) dX11_toss_42 ⟨Nat.le_of_ble_eq_true rfl, Nat.le_of_ble_eq_true rfl⟩) (fun r hr => hr.trans (by rw [hk]; rfl))
            · exact x_run_mono (va_runU (As := []) (rest := [.int (iI (200))]) ⟨hx, hb, hml, hown, hts⟩ (c_X1_price l g σ hH a_1 ha_a_1) (va_cwO 0 hts gX11_toss_X1_price_u267X1 rfl rfl rfl (b0 := cX3_price) (m0 := 1) (r0 := (some .int)) hw_6 (by decide +kernel) ⟨Nat.le_of_ble_eq_true rfl, Nat.le_of_ble_eq_true rfl⟩) (x_preV hK hP (x_recvH (q := (RX1, TX1, 1)) hK hP ha_a_1 (by rw [hk]; rfl))) rfl rfl hl.1 rfl (lv_room (Nat.le_of_ble_eq_true rfl)) dX11_toss_42 ⟨Nat.le_of_ble_eq_true rfl, Nat.le_of_ble_eq_true rfl⟩) (fun r hr => hr.trans (by rw [hk]; rfl))) (fun r_42 hr_42 qr_42 => ?_)
          replace qr_42 : r_42 = zFee (σ.2.2.1 a_1) (σ.2.2.2 a_1) := qr_42
          have br_42 := zFee_rng (σ.2.2.1 a_1) (hH a_1 ha_a_1).2; rw [← qr_42] at br_42
          refine x_iadd hx hb dX11_toss_45 ?_
          refine vx_ret ?_
          refine W.widen (k := 1) (n := 6) (by omega) (by omega) ?_
          refine x_retQ hx hb hr (by omega) ?_ hP hD hS dX11_toss_46 hlocks
          refine ⟨rfl, rfl, ?_⟩
          rw [if_neg (by omega), eK, eF]
          unfold zTossF
          first | (rw [if_pos (by omega)]; done) | (rw [if_neg (by omega), if_pos (by omega)]; done) | (rw [if_neg (by omega), if_neg (by omega), if_pos (by omega)]; (have z6 : r_42 = zFee 6 (σ.2.2.2 a_1) := by (rw [qr_42, hk])); omega) | (rw [if_neg (by omega), if_neg (by omega), if_neg (by omega)])
        · refine xc_cf (vx_runU (As := []) (rest := []) ⟨hx, hb, hml, hown, hts⟩ (v_X3_fail l hlst g σ A a_1) (va_cwU 0 hts gX11_toss_X3_fail_u273X1 rfl rfl rfl rfl (by decide +kernel) ⟨Nat.le_of_ble_eq_true rfl, Nat.le_of_ble_eq_true rfl⟩) (xc_preV hK hP hD hS hA hT (x_recvH (q := (RX1, TX1, 1)) hK hP ha_a_1 (by rw [hk]; rfl))) rfl rfl hl.1 rfl (lv_room (Nat.le_of_ble_eq_true rfl)) dX11_toss_30 ⟨Nat.le_of_ble_eq_true rfl, Nat.le_of_ble_eq_true rfl⟩) hS (fun q9 ce H locs hce hcv hcl hP hD hS => ?_)
          refine vx_catch (name := nISE) (E := nISE) hown [⟨29, 33, 36, 276⟩, ⟨29, 33, 47, 242⟩] ⟨29, 33, 57, 249⟩ [] htab (fun z hz => by (rcases List.mem_cons.mp hz with hz | hz; (subst hz; exact Or.inr ⟨by decide, nUOE, hts (.classLink RX11 276 nUOE) (by decide +kernel), hT.2.2.2.2.1⟩); (rw [List.mem_singleton] at hz; subst hz; exact Or.inr ⟨by decide, nIAE, hts (.classLink RX11 242 nIAE) (by decide +kernel), hT.2.2.2.2.2.2.1⟩))) (by decide) (by decide) (hts (.classLink RX11 249 nISE) (by decide +kernel)) (va_Nw.use rfl hT.2.2.2.2.2.2.2.2.2.1) hce hcv hcl ?_
          refine lv_astore (lv' := [(4, .ref q9), (3, .ref a_1), (2, .int (iI (r_2))), (0, .ref (g.2.2 0)), (1, .int (iI (d)))]) hx hb dX11_toss_57 hl (by decide) rfl (fun ls hl => ?_)
          refine lv_aload_n hx hb dX11_toss_59 rfl (lv_at hl 1 rfl) ?_
          refine x_fig hx hb hts hinH hown hK hP ha_a_1 hw_3 (fun _ h9 => h9) dX11_toss_60 ?_
          refine vx_ret ?_
          refine W.widen (k := 1) (n := 6) (by omega) (by omega) ?_
          refine x_retQ hx hb hr (by omega) ?_ hP hD hS dX11_toss_63 hlocks
          refine ⟨rfl, rfl, ?_⟩
          rw [if_neg (by omega), eK, eF]
          unfold zTossF
          first | (rw [if_pos (by omega)]; done) | (rw [if_neg (by omega), if_pos (by omega)]; done) | (rw [if_neg (by omega), if_neg (by omega), if_pos (by omega)]; (have z6 : r_42 = zFee 6 (σ.2.2.2 a_1) := by (rw [qr_42, hk])); omega) | (rw [if_neg (by omega), if_neg (by omega), if_neg (by omega)])
      · refine x_bipush (n := -15) hx hb (by decide +kernel) dX11_toss_26 ?_
        refine vx_ret ?_
        refine W.widen (k := 1) (n := 6) (by omega) (by omega) ?_
        refine x_retQ hx hb hr (by omega) ?_ hP hD hS dX11_toss_28 hlocks
        refine ⟨rfl, rfl, ?_⟩
        rw [if_neg (by omega), eK, eF]
        unfold zTossF
        first | (rw [if_pos (by omega)]; done) | (rw [if_neg (by omega), if_pos (by omega)]; done) | (rw [if_neg (by omega), if_neg (by omega), if_pos (by omega)]; (have z6 : r_42 = zFee 6 (σ.2.2.2 a_1) := by (rw [qr_42, hk])); omega) | (rw [if_neg (by omega), if_neg (by omega), if_neg (by omega)])
  · refine lv_iload_n hx hb dX11_toss_10 rfl (lv_at hl 0 rfl) ?_
    refine vx_ret ?_
    refine W.widen (k := 1) (n := 6) (by omega) (by omega) ?_
    refine x_retQ hx hb hr (by omega) ?_ hP hD hS dX11_toss_11 hlocks
    refine ⟨rfl, rfl, ?_⟩
    rw [if_pos (by omega)]; omega
