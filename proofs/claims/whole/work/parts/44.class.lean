/-! ===== a world as a list: what is being made ===== -/
def l_Pre (g : xG) (A : Nat → Prop) (ws : va_W) (U : State) : Prop := va_P g.1 vwCl ws U.heap ∧ xK g U ∧ va_D A ws ∧ ∀ q : Nat, U.heap.size ≤ q → A q
def l_Qv (g : xG) (A : Nat → Prop) (post : va_W → Prop) : Array Value → State → Outcome → State → Prop := fun _ st o t => ∃ ws : va_W, post ws ∧ o = .returned none ∧ va_P g.1 vwCl ws t.heap ∧ va_D A ws ∧ va_F A st t
theorem l_blind {g : xG} {A : Nat → Prop} {ws : va_W} {av : List Value} : FrameBlind (va_Pc av (l_Pre g A ws)) := fun a U gg mk q => by
  obtain ⟨q0, qP, qK, qD, qA⟩ := q
  exact ⟨q0, qP, xK.same (u := U) (U := U.calling gg mk a) rfl qK, qD, qA⟩
theorem l_preS {g : xG} {A : Nat → Prop} {ws : va_W} {s : State} {H H0 : Heap} {locs : List Loc} {As : List Value} (hK : xK g s) (hP : va_P g.1 vwCl ws H) (hD : va_D A ws) (hS : va_S A H0 H locs) (hA : ∀ q : Nat, H0.size ≤ q → A q) : PreS s H (va_Pc As (l_Pre g A ws)) As :=
  ⟨l_blind, fun U hU hW => ⟨rfl, by rw [hU]; exact hP, xK.moved hW hK, hD, fun q h => hA q (Nat.le_trans hS.1 (by rw [← hU]; exact h))⟩⟩
section LROWS
variable {p : Program} {l : Launch} {e : Env} {R : Room} {s : State} {m : MethodId} {args : Array Value} {below : List Frame} {meth : Method} {c : Code} {H : Heap} {locs : List Loc} {cells slots : Nat} {Q : State → Prop} {cc : ByteArray} {pc : Nat} {ls : Array Slot} {rest : List Value} {g : xG} {σ : xS} {A : Nat → Prop} {H0 : Heap}
theorem l_clv {mc ms : Nat} {st0 : List Value} {a : Array Value} {post : va_W → Prop} (hr : va_Run p l e R s m args below meth c H locs cells slots mc ms (F0 m pc ls st0) rest (l_Qv g A post a) A) (hS : va_S A H0 H locs)
    (kk : ∀ (ws1 : va_W) (H1 : Heap) (locs1 : List Loc), post ws1 → va_P g.1 vwCl ws1 H1 → va_D A ws1 → va_S A H0 H1 locs1 → W p l e R s m args below meth c H1 locs1 (cells + mc) (slots + ms) Q (F0 m (pc + 3) ls rest)) : W p l e R s m args below meth c H locs cells slots Q (F0 m pc ls st0) := by
  intro T hT X
  obtain ⟨v, st₀, t, T', L, h0, X', hL, e1, e2, ⟨ws1, hr2, hv, hE1, hE2, hz, hk⟩, st⟩ := hr T hT X
  cases hv
  rw [h0] at hz hk
  obtain ⟨t2, a1, b1⟩ := kk ws1 T'.heap (locs ++ L) hr2 (by rw [e1]; exact hE1) hE2 ⟨Nat.le_trans hS.1 (by rw [e1]; exact hz), fun q h1 h2 => by rw [e1, hk q (Nat.lt_of_lt_of_le h1 hS.1) h2]; exact hS.2.1 q h1 h2, fun q hq => by
    rcases List.mem_append.mp hq with h | h
    · exact hS.2.2 q h
    · exact hL q h⟩ T' rfl X'
  exact ⟨t2, st t2 a1, b1⟩
theorem l_ret {ws : va_W} {post : va_W → Prop} (hx : p.tables.exec = Jvm.exec) (hb : c.code = cc) (hr : meth.sig.returnType = none) (hp : post ws) (hP : va_P g.1 vwCl ws H) (hD : va_D A ws) (hS : va_S A s.heap H locs) (hdg : decode cc pc = .ok (.return_, 1)) (hlocks : meth.locks = false) : W p l e R s m args below meth c H locs cells slots (MQ below (l_Qv g A post) args s cells slots A) (F0 m pc ls []) :=
  W.vret hx hb hr (fun t ht _ => ⟨ws, hp, rfl, by rw [ht]; exact hP, hD, hS.F ht⟩) hS.2.2 hdg hlocks
theorem x_retQr {post : Nat → xS → Prop} {rt : String} (hx : p.tables.exec = Jvm.exec) (hb : c.code = cc) (hr : meth.sig.returnType = some (.object rt)) {a : Nat} (hp : post a σ) (hP : xP g σ H) (hD : xD g A σ) (hS : va_S A s.heap H locs) (hdg : decode cc pc = .ok (.areturn, 1)) (hlocks : meth.locks = false) : W p l e R s m args below meth c H locs cells slots (MQ below (x_Qr g A post) args s cells slots A) (F0 m pc ls [.ref a]) :=
  W.aret hx hb hr (Or.inl ⟨_, rfl⟩) (Or.inr ⟨_, rfl⟩) (fun t ht _ => ⟨a, σ, hp, rfl, by rw [ht]; exact hP, hD, hS.F ht⟩) hS.2.2 hdg hlocks
end LROWS
theorem x_pushN {g : xG} {σ : xS} {A : Nat → Prop} {q : Nat} {e : va_E} (hD : va_D A (xW g σ ++ [(q, e)])) : q ∉ σ.2.1 := by
  intro h
  obtain ⟨k, hk⟩ := xW_pool (g := g) h
  have hl := (List.getElem?_eq_some_iff.mp hk).1
  have h1 : (xW g σ ++ [(q, e)])[k]? = some (q, Sum.inr (ciOf (σ.2.2.1 q), [Value.int (iI (σ.2.2.2 q))])) := by rw [List.getElem?_append_left hl]; exact hk
  have h2 : (xW g σ ++ [(q, e)])[(xW g σ).length]? = some (q, e) := by rw [List.getElem?_append_right (Nat.le_refl _)]; simp
  have := hD.1 _ _ _ _ h1 h2 rfl
  omega
theorem x_pushW {g : xG} {σ : xS} {q k : Nat} {f : Int} (h : q ∉ σ.2.1) : xW g σ ++ [(q, Sum.inr (ciOf k, [Value.int (iI f)]))] = xW g (σ.1, σ.2.1 ++ [q], va_up σ.2.2.1 q k, va_up σ.2.2.2 q f) := by
  unfold xW
  rw [List.append_assoc, va_pl_push h]
  congr 2
  funext a
  unfold xH va_up
  by_cases e : a = q
  · simp [e]
  · simp [e]
/-- House(figure), on a house of any kind -/
theorem c_X3_init (l : Launch) (g : xG) (A : Nat → Prop) (ws : va_W) (q0 a kd : Nat) (v0 : Value) (hw : ws[q0]? = some (a, .inr (ciOf kd, [v0]))) (f : Int) : Met l yX3_init wsX3_init ({ frames := 1, cells := 0, slots := 0, locals := 32 }) (va_Pc [.ref a, .int (iI f)] (l_Pre g A ws)) (l_Qv g A (fun w1 => w1 = ws.set q0 (a, .inr (ciOf kd, [.int (iI f)])))) 0 0 A := by
  refine Met.ofW (cc := cX3_init) (maxL := 2) (ret := none) (by decide) rfl ?_
  intro p e s m args below meth c s₁ B hml hv
  obtain ⟨rfl, hP, hK, hD, hA⟩ := hv
  have hx := B.exec
  have hb := B.bytes
  have hr := B.returns
  have hts := atoms_spec (ws := wsX3_init) B.pre
  have hown : s.vm.findClass RX3 = some m.cls := findClass_of_methodNamed B.named
  have hlocks := B.notSynchronized
  have hin : meth.name = "<init>" := (name_of_methodNamed B.named B.method).1
  have hS : va_S A s.heap s.heap [] := va_S.rf
  have hl := lv_entry ([.ref a, .int (iI f)]) (n := 2) (Nat.le_of_ble_eq_true rfl)
  rw [lg_entry_eq]
  generalize (lg_sl ([.ref a, .int (iI f)]) ++ List.replicate (2 - (lg_sl ([.ref a, .int (iI f)])).length) Slot.unset).toArray = ls at hl ⊢
  have hl : lv_has ls 2 [(0, .ref a), (1, .int (iI f))] := hl
  have hinH := (show ∀ q ∈ hCls, ∀ w ∈ u_ws q.1 q.2.1 q.2.2, w ∈ wsX3_init by decide +kernel)
  refine lv_aload_n hx hb dX3_init_0 rfl (lv_at hl 0 rfl) ?_
  refine W.objInit hx hb hown (hts (.methodLink RX3 1 objectInit) (by decide +kernel)) (hts (.instanceMethod objectInit) (by decide +kernel)) (hts (.code objectInit ⟨#[0xb1]⟩ 1 none) (by decide +kernel)) rfl (by rw [hml]; exact hl.1) rfl dX3_init_1 (Nat.le_of_ble_eq_true rfl) (Nat.le_of_ble_eq_true rfl) ?_
  refine W.eq (g2 := F0 m 4 ls []) rfl ?_
  refine lv_aload_n hx hb dX3_init_4 rfl (lv_at hl 0 rfl) ?_
  refine lv_iload_n hx hb dX3_init_5 rfl (lv_at hl 1 rfl) ?_
  obtain ⟨⟨C, T, N⟩, h1, h2, h3, h4⟩ := x_hcl kd
  simp only at h3 h4
  subst h3
  have hw9 := hts (.fieldLink RX3 7 "TwiceAsRich$House" "figure" "I") (by decide +kernel)
  refine va_putF (D := g.1) (ci := ciOf kd) (v := .int (iI f)) (ty := .int) (C := C) (T := T) (N := 1) (ref := "TwiceAsRich$House") hx hb hts (hinH _ h2) (fun _ => .int) (fun k hk => by rw [show k = 0 by omega, h4]; decide +kernel) (fun a ha b hb h => by omega) hown hK.1 hP hD hS q0 hw h1 0 (by decide) (by rw [h4]; exact hw9) (by rw [h4]; exact fun _ h9 => h9) (by rw [h4]) hin (by rw [h4]; rfl) (by rw [h4]; decide +kernel) rfl rfl (Nat.le_of_ble_eq_true rfl) dX3_init_6 (fun H locs hP hD hS => ?_)
  exact l_ret hx hb hr rfl hP hD hS dX3_init_9 hlocks

theorem c_X2_init (l : Launch) (g : xG) (A : Nat → Prop) (ws : va_W) (q0 a kd : Nat) (v0 : Value) (hw : ws[q0]? = some (a, .inr (ciOf kd, [v0]))) (f : Int) : Met l yX2_init wsX2_init ({ frames := 2, cells := 0, slots := 0, locals := 64 }) (va_Pc [.ref a, .int (iI f)] (l_Pre g A ws)) (l_Qv g A (fun w1 => w1 = ws.set q0 (a, .inr (ciOf kd, [.int (iI f)])))) 0 0 A := by
  refine Met.ofW (cc := cX2_init) (maxL := 2) (ret := none) (by decide) rfl ?_
  intro p e s m args below meth c s₁ B hml hv
  obtain ⟨rfl, hP, hK, hD, hA⟩ := hv
  have hx := B.exec
  have hb := B.bytes
  have hr := B.returns
  have hts := atoms_spec (ws := wsX2_init) B.pre
  have hown : s.vm.findClass RX2 = some m.cls := findClass_of_methodNamed B.named
  have hlocks := B.notSynchronized
  have hS : va_S A s.heap s.heap [] := va_S.rf
  have hl := lv_entry ([.ref a, .int (iI f)]) (n := 2) (Nat.le_of_ble_eq_true rfl)
  rw [lg_entry_eq]
  generalize (lg_sl ([.ref a, .int (iI f)]) ++ List.replicate (2 - (lg_sl ([.ref a, .int (iI f)])).length) Slot.unset).toArray = ls at hl ⊢
  have hl : lv_has ls 2 [(0, .ref a), (1, .int (iI f))] := hl
  refine lv_aload_n hx hb dX2_init_0 rfl (lv_at hl 0 rfl) ?_
  refine lv_iload_n hx hb dX2_init_1 rfl (lv_at hl 1 rfl) ?_
  refine l_clv (mc := 0) (ms := 0) (va_runI (As := [.int (iI f)]) (rest := []) ⟨hx, hb, hml, hown, hts⟩ (c_X3_init l g A ws q0 a kd v0 hw f) (cwI 1 hts gX2_init_X3_init rfl rfl rfl (hts (.initialized RX3) (by decide +kernel)) (hts (.methodLink RX2 1 yX3_init) (by decide +kernel)) (hts (.instanceMethod yX3_init) (by decide +kernel)) rfl (by decide +kernel) ⟨Nat.le_of_ble_eq_true rfl, Nat.le_of_ble_eq_true rfl⟩) (l_preS hK hP hD hS hA) rfl rfl hl.1 rfl (lv_room (Nat.le_of_ble_eq_true rfl)) dX2_init_2 ⟨Nat.le_of_ble_eq_true rfl, Nat.le_of_ble_eq_true rfl⟩) hS (fun ws1 H locs hp hP hD hS => ?_)
  exact l_ret hx hb hr hp hP hD hS dX2_init_5 hlocks

theorem c_X6_init (l : Launch) (g : xG) (A : Nat → Prop) (ws : va_W) (q0 a kd : Nat) (v0 : Value) (hw : ws[q0]? = some (a, .inr (ciOf kd, [v0]))) (f : Int) : Met l yX6_init wsX6_init ({ frames := 2, cells := 0, slots := 0, locals := 64 }) (va_Pc [.ref a, .int (iI f)] (l_Pre g A ws)) (l_Qv g A (fun w1 => w1 = ws.set q0 (a, .inr (ciOf kd, [.int (iI f)])))) 0 0 A := by
  refine Met.ofW (cc := cX6_init) (maxL := 2) (ret := none) (by decide) rfl ?_
  intro p e s m args below meth c s₁ B hml hv
  obtain ⟨rfl, hP, hK, hD, hA⟩ := hv
  have hx := B.exec
  have hb := B.bytes
  have hr := B.returns
  have hts := atoms_spec (ws := wsX6_init) B.pre
  have hown : s.vm.findClass RX6 = some m.cls := findClass_of_methodNamed B.named
  have hlocks := B.notSynchronized
  have hS : va_S A s.heap s.heap [] := va_S.rf
  have hl := lv_entry ([.ref a, .int (iI f)]) (n := 2) (Nat.le_of_ble_eq_true rfl)
  rw [lg_entry_eq]
  generalize (lg_sl ([.ref a, .int (iI f)]) ++ List.replicate (2 - (lg_sl ([.ref a, .int (iI f)])).length) Slot.unset).toArray = ls at hl ⊢
  have hl : lv_has ls 2 [(0, .ref a), (1, .int (iI f))] := hl
  refine lv_aload_n hx hb dX6_init_0 rfl (lv_at hl 0 rfl) ?_
  refine lv_iload_n hx hb dX6_init_1 rfl (lv_at hl 1 rfl) ?_
  refine l_clv (mc := 0) (ms := 0) (va_runI (As := [.int (iI f)]) (rest := []) ⟨hx, hb, hml, hown, hts⟩ (c_X3_init l g A ws q0 a kd v0 hw f) (cwI 1 hts gX6_init_X3_init rfl rfl rfl (hts (.initialized RX3) (by decide +kernel)) (hts (.methodLink RX6 1 yX3_init) (by decide +kernel)) (hts (.instanceMethod yX3_init) (by decide +kernel)) rfl (by decide +kernel) ⟨Nat.le_of_ble_eq_true rfl, Nat.le_of_ble_eq_true rfl⟩) (l_preS hK hP hD hS hA) rfl rfl hl.1 rfl (lv_room (Nat.le_of_ble_eq_true rfl)) dX6_init_2 ⟨Nat.le_of_ble_eq_true rfl, Nat.le_of_ble_eq_true rfl⟩) hS (fun ws1 H locs hp hP hD hS => ?_)
  exact l_ret hx hb hr hp hP hD hS dX6_init_5 hlocks

theorem c_X10_init (l : Launch) (g : xG) (A : Nat → Prop) (ws : va_W) (q0 a kd : Nat) (v0 : Value) (hw : ws[q0]? = some (a, .inr (ciOf kd, [v0]))) (f : Int) : Met l yX10_init wsX10_init ({ frames := 2, cells := 0, slots := 0, locals := 64 }) (va_Pc [.ref a, .int (iI f)] (l_Pre g A ws)) (l_Qv g A (fun w1 => w1 = ws.set q0 (a, .inr (ciOf kd, [.int (iI f)])))) 0 0 A := by
  refine Met.ofW (cc := cX10_init) (maxL := 2) (ret := none) (by decide) rfl ?_
  intro p e s m args below meth c s₁ B hml hv
  obtain ⟨rfl, hP, hK, hD, hA⟩ := hv
  have hx := B.exec
  have hb := B.bytes
  have hr := B.returns
  have hts := atoms_spec (ws := wsX10_init) B.pre
  have hown : s.vm.findClass RX10 = some m.cls := findClass_of_methodNamed B.named
  have hlocks := B.notSynchronized
  have hS : va_S A s.heap s.heap [] := va_S.rf
  have hl := lv_entry ([.ref a, .int (iI f)]) (n := 2) (Nat.le_of_ble_eq_true rfl)
  rw [lg_entry_eq]
  generalize (lg_sl ([.ref a, .int (iI f)]) ++ List.replicate (2 - (lg_sl ([.ref a, .int (iI f)])).length) Slot.unset).toArray = ls at hl ⊢
  have hl : lv_has ls 2 [(0, .ref a), (1, .int (iI f))] := hl
  refine lv_aload_n hx hb dX10_init_0 rfl (lv_at hl 0 rfl) ?_
  refine lv_iload_n hx hb dX10_init_1 rfl (lv_at hl 1 rfl) ?_
  refine l_clv (mc := 0) (ms := 0) (va_runI (As := [.int (iI f)]) (rest := []) ⟨hx, hb, hml, hown, hts⟩ (c_X3_init l g A ws q0 a kd v0 hw f) (cwI 1 hts gX10_init_X3_init rfl rfl rfl (hts (.initialized RX3) (by decide +kernel)) (hts (.methodLink RX10 3 yX3_init) (by decide +kernel)) (hts (.instanceMethod yX3_init) (by decide +kernel)) rfl (by decide +kernel) ⟨Nat.le_of_ble_eq_true rfl, Nat.le_of_ble_eq_true rfl⟩) (l_preS hK hP hD hS hA) rfl rfl hl.1 rfl (lv_room (Nat.le_of_ble_eq_true rfl)) dX10_init_2 ⟨Nat.le_of_ble_eq_true rfl, Nat.le_of_ble_eq_true rfl⟩) hS (fun ws1 H locs hp hP hD hS => ?_)
  exact l_ret hx hb hr hp hP hD hS dX10_init_5 hlocks

theorem c_X4_init (l : Launch) (g : xG) (A : Nat → Prop) (ws : va_W) (q0 a kd : Nat) (v0 : Value) (hw : ws[q0]? = some (a, .inr (ciOf kd, [v0]))) (f : Int) : Met l yX4_init wsX4_init ({ frames := 3, cells := 0, slots := 0, locals := 96 }) (va_Pc [.ref a, .int (iI f)] (l_Pre g A ws)) (l_Qv g A (fun w1 => w1 = ws.set q0 (a, .inr (ciOf kd, [.int (iI f)])))) 0 0 A := by
  refine Met.ofW (cc := cX4_init) (maxL := 2) (ret := none) (by decide) rfl ?_
  intro p e s m args below meth c s₁ B hml hv
  obtain ⟨rfl, hP, hK, hD, hA⟩ := hv
  have hx := B.exec
  have hb := B.bytes
  have hr := B.returns
  have hts := atoms_spec (ws := wsX4_init) B.pre
  have hown : s.vm.findClass RX4 = some m.cls := findClass_of_methodNamed B.named
  have hlocks := B.notSynchronized
  have hS : va_S A s.heap s.heap [] := va_S.rf
  have hl := lv_entry ([.ref a, .int (iI f)]) (n := 2) (Nat.le_of_ble_eq_true rfl)
  rw [lg_entry_eq]
  generalize (lg_sl ([.ref a, .int (iI f)]) ++ List.replicate (2 - (lg_sl ([.ref a, .int (iI f)])).length) Slot.unset).toArray = ls at hl ⊢
  have hl : lv_has ls 2 [(0, .ref a), (1, .int (iI f))] := hl
  refine lv_aload_n hx hb dX4_init_0 rfl (lv_at hl 0 rfl) ?_
  refine lv_iload_n hx hb dX4_init_1 rfl (lv_at hl 1 rfl) ?_
  refine l_clv (mc := 0) (ms := 0) (va_runI (As := [.int (iI f)]) (rest := []) ⟨hx, hb, hml, hown, hts⟩ (c_X2_init l g A ws q0 a kd v0 hw f) (cwI 1 hts gX4_init_X2_init rfl rfl rfl (hts (.initialized RX2) (by decide +kernel)) (hts (.methodLink RX4 1 yX2_init) (by decide +kernel)) (hts (.instanceMethod yX2_init) (by decide +kernel)) rfl (by decide +kernel) ⟨Nat.le_of_ble_eq_true rfl, Nat.le_of_ble_eq_true rfl⟩) (l_preS hK hP hD hS hA) rfl rfl hl.1 rfl (lv_room (Nat.le_of_ble_eq_true rfl)) dX4_init_2 ⟨Nat.le_of_ble_eq_true rfl, Nat.le_of_ble_eq_true rfl⟩) hS (fun ws1 H locs hp hP hD hS => ?_)
  exact l_ret hx hb hr hp hP hD hS dX4_init_5 hlocks

theorem c_X0_init (l : Launch) (g : xG) (A : Nat → Prop) (ws : va_W) (q0 a kd : Nat) (v0 : Value) (hw : ws[q0]? = some (a, .inr (ciOf kd, [v0]))) (f : Int) : Met l yX0_init wsX0_init ({ frames := 3, cells := 0, slots := 0, locals := 96 }) (va_Pc [.ref a, .int (iI f)] (l_Pre g A ws)) (l_Qv g A (fun w1 => w1 = ws.set q0 (a, .inr (ciOf kd, [.int (iI f)])))) 0 0 A := by
  refine Met.ofW (cc := cX0_init) (maxL := 2) (ret := none) (by decide) rfl ?_
  intro p e s m args below meth c s₁ B hml hv
  obtain ⟨rfl, hP, hK, hD, hA⟩ := hv
  have hx := B.exec
  have hb := B.bytes
  have hr := B.returns
  have hts := atoms_spec (ws := wsX0_init) B.pre
  have hown : s.vm.findClass RX0 = some m.cls := findClass_of_methodNamed B.named
  have hlocks := B.notSynchronized
  have hS : va_S A s.heap s.heap [] := va_S.rf
  have hl := lv_entry ([.ref a, .int (iI f)]) (n := 2) (Nat.le_of_ble_eq_true rfl)
  rw [lg_entry_eq]
  generalize (lg_sl ([.ref a, .int (iI f)]) ++ List.replicate (2 - (lg_sl ([.ref a, .int (iI f)])).length) Slot.unset).toArray = ls at hl ⊢
  have hl : lv_has ls 2 [(0, .ref a), (1, .int (iI f))] := hl
  refine lv_aload_n hx hb dX0_init_0 rfl (lv_at hl 0 rfl) ?_
  refine lv_iload_n hx hb dX0_init_1 rfl (lv_at hl 1 rfl) ?_
  refine l_clv (mc := 0) (ms := 0) (va_runI (As := [.int (iI f)]) (rest := []) ⟨hx, hb, hml, hown, hts⟩ (c_X6_init l g A ws q0 a kd v0 hw f) (cwI 1 hts gX0_init_X6_init rfl rfl rfl (hts (.initialized RX6) (by decide +kernel)) (hts (.methodLink RX0 1 yX6_init) (by decide +kernel)) (hts (.instanceMethod yX6_init) (by decide +kernel)) rfl (by decide +kernel) ⟨Nat.le_of_ble_eq_true rfl, Nat.le_of_ble_eq_true rfl⟩) (l_preS hK hP hD hS hA) rfl rfl hl.1 rfl (lv_room (Nat.le_of_ble_eq_true rfl)) dX0_init_2 ⟨Nat.le_of_ble_eq_true rfl, Nat.le_of_ble_eq_true rfl⟩) hS (fun ws1 H locs hp hP hD hS => ?_)
  exact l_ret hx hb hr hp hP hD hS dX0_init_5 hlocks

theorem c_X9_init (l : Launch) (g : xG) (A : Nat → Prop) (ws : va_W) (q0 a kd : Nat) (v0 : Value) (hw : ws[q0]? = some (a, .inr (ciOf kd, [v0]))) (f : Int) : Met l yX9_init wsX9_init ({ frames := 3, cells := 0, slots := 0, locals := 96 }) (va_Pc [.ref a, .int (iI f)] (l_Pre g A ws)) (l_Qv g A (fun w1 => w1 = ws.set q0 (a, .inr (ciOf kd, [.int (iI f)])))) 0 0 A := by
  refine Met.ofW (cc := cX9_init) (maxL := 2) (ret := none) (by decide) rfl ?_
  intro p e s m args below meth c s₁ B hml hv
  obtain ⟨rfl, hP, hK, hD, hA⟩ := hv
  have hx := B.exec
  have hb := B.bytes
  have hr := B.returns
  have hts := atoms_spec (ws := wsX9_init) B.pre
  have hown : s.vm.findClass RX9 = some m.cls := findClass_of_methodNamed B.named
  have hlocks := B.notSynchronized
  have hS : va_S A s.heap s.heap [] := va_S.rf
  have hl := lv_entry ([.ref a, .int (iI f)]) (n := 2) (Nat.le_of_ble_eq_true rfl)
  rw [lg_entry_eq]
  generalize (lg_sl ([.ref a, .int (iI f)]) ++ List.replicate (2 - (lg_sl ([.ref a, .int (iI f)])).length) Slot.unset).toArray = ls at hl ⊢
  have hl : lv_has ls 2 [(0, .ref a), (1, .int (iI f))] := hl
  refine lv_aload_n hx hb dX9_init_0 rfl (lv_at hl 0 rfl) ?_
  refine lv_iload_n hx hb dX9_init_1 rfl (lv_at hl 1 rfl) ?_
  refine l_clv (mc := 0) (ms := 0) (va_runI (As := [.int (iI f)]) (rest := []) ⟨hx, hb, hml, hown, hts⟩ (c_X2_init l g A ws q0 a kd v0 hw f) (cwI 1 hts gX9_init_X2_init rfl rfl rfl (hts (.initialized RX2) (by decide +kernel)) (hts (.methodLink RX9 1 yX2_init) (by decide +kernel)) (hts (.instanceMethod yX2_init) (by decide +kernel)) rfl (by decide +kernel) ⟨Nat.le_of_ble_eq_true rfl, Nat.le_of_ble_eq_true rfl⟩) (l_preS hK hP hD hS hA) rfl rfl hl.1 rfl (lv_room (Nat.le_of_ble_eq_true rfl)) dX9_init_2 ⟨Nat.le_of_ble_eq_true rfl, Nat.le_of_ble_eq_true rfl⟩) hS (fun ws1 H locs hp hP hD hS => ?_)
  exact l_ret hx hb hr hp hP hD hS dX9_init_5 hlocks

theorem c_X1_init (l : Launch) (g : xG) (A : Nat → Prop) (ws : va_W) (q0 a kd : Nat) (v0 : Value) (hw : ws[q0]? = some (a, .inr (ciOf kd, [v0]))) (f : Int) : Met l yX1_init wsX1_init ({ frames := 3, cells := 0, slots := 0, locals := 96 }) (va_Pc [.ref a, .int (iI f)] (l_Pre g A ws)) (l_Qv g A (fun w1 => w1 = ws.set q0 (a, .inr (ciOf kd, [.int (iI f)])))) 0 0 A := by
  refine Met.ofW (cc := cX1_init) (maxL := 2) (ret := none) (by decide) rfl ?_
  intro p e s m args below meth c s₁ B hml hv
  obtain ⟨rfl, hP, hK, hD, hA⟩ := hv
  have hx := B.exec
  have hb := B.bytes
  have hr := B.returns
  have hts := atoms_spec (ws := wsX1_init) B.pre
  have hown : s.vm.findClass RX1 = some m.cls := findClass_of_methodNamed B.named
  have hlocks := B.notSynchronized
  have hS : va_S A s.heap s.heap [] := va_S.rf
  have hl := lv_entry ([.ref a, .int (iI f)]) (n := 2) (Nat.le_of_ble_eq_true rfl)
  rw [lg_entry_eq]
  generalize (lg_sl ([.ref a, .int (iI f)]) ++ List.replicate (2 - (lg_sl ([.ref a, .int (iI f)])).length) Slot.unset).toArray = ls at hl ⊢
  have hl : lv_has ls 2 [(0, .ref a), (1, .int (iI f))] := hl
  refine lv_aload_n hx hb dX1_init_0 rfl (lv_at hl 0 rfl) ?_
  refine lv_iload_n hx hb dX1_init_1 rfl (lv_at hl 1 rfl) ?_
  refine l_clv (mc := 0) (ms := 0) (va_runI (As := [.int (iI f)]) (rest := []) ⟨hx, hb, hml, hown, hts⟩ (c_X10_init l g A ws q0 a kd v0 hw f) (cwI 1 hts gX1_init_X10_init rfl rfl rfl (hts (.initialized RX10) (by decide +kernel)) (hts (.methodLink RX1 1 yX10_init) (by decide +kernel)) (hts (.instanceMethod yX10_init) (by decide +kernel)) rfl (by decide +kernel) ⟨Nat.le_of_ble_eq_true rfl, Nat.le_of_ble_eq_true rfl⟩) (l_preS hK hP hD hS hA) rfl rfl hl.1 rfl (lv_room (Nat.le_of_ble_eq_true rfl)) dX1_init_2 ⟨Nat.le_of_ble_eq_true rfl, Nat.le_of_ble_eq_true rfl⟩) hS (fun ws1 H locs hp hP hD hS => ?_)
  exact l_ret hx hb hr hp hP hD hS dX1_init_5 hlocks
set_option maxHeartbeats 4000000 in
set_option maxRecDepth 100000 in
theorem c_X11_houseOfKind (l : Launch) (g : xG) (σ : xS) (A : Nat → Prop) (kd : Int) (hkd : 0 ≤ kd ∧ kd ≤ 7) (f : Int) : Met l yX11_houseOfKind wsX11_houseOfKind ({ frames := 4, cells := 1, slots := 1, locals := 128 }) (va_Pc [.int (iI kd), .int (iI f)] (xPreQ g A σ)) (x_Qr g A (fun a σ1 => a ∉ σ.2.1 ∧ σ1 = (σ.1, σ.2.1 ++ [a], va_up σ.2.2.1 a kd.toNat, va_up σ.2.2.2 a f))) 1 1 A := by
  refine Met.ofW (cc := cX11_houseOfKind) (maxL := 2) (ret := some (.object "TwiceAsRich$House")) (by decide) rfl ?_
  intro p e s m args below meth c s₁ B hml hv
  obtain ⟨rfl, hP, hK, hD, hA⟩ := hv
  have hx := B.exec
  have hb := B.bytes
  have hr := B.returns
  have hts := atoms_spec (ws := wsX11_houseOfKind) B.pre
  have hown : s.vm.findClass RX11 = some m.cls := findClass_of_methodNamed B.named
  have hlocks := B.notSynchronized
  have hS : va_S A s.heap s.heap [] := va_S.rf
  have hl := lv_entry ([.int (iI kd), .int (iI f)]) (n := 2) (Nat.le_of_ble_eq_true rfl)
  rw [lg_entry_eq]
  generalize (lg_sl ([.int (iI kd), .int (iI f)]) ++ List.replicate (2 - (lg_sl ([.int (iI kd), .int (iI f)])).length) Slot.unset).toArray = ls at hl ⊢
  have hl : lv_has ls 2 [(0, .int (iI kd)), (1, .int (iI f))] := hl
  refine lv_iload_n hx hb dX11_houseOfKind_0 rfl (lv_at hl 0 rfl) ?_
  have hk : kd = 1 ∨ kd = 2 ∨ kd = 3 ∨ kd = 4 ∨ kd = 5 ∨ kd = 6 ∨ kd = 7 ∨ kd = 0 := by omega
  rcases hk with hk | hk | hk | hk | hk | hk | hk | hk
  · refine x_tabIn (z := 1) (tgt := 44) hx hb hk (by decide) dX11_houseOfKind_1 (by decide) (by decide) rfl (by decide) ?_
    refine va_new (D := g.1) (ci := ciOf 1) (fs := [.int (iI 0)]) (C := RX2) (T := TX2) (N := 1) hx hb hts (by decide +kernel) tyX2 tyX2_ok hown (hts (.classLink RX11 285 RX2) (by decide +kernel)) (hts (.instantiable RX2 1) (by decide +kernel)) (hts (.initialized RX2) (by decide +kernel)) hK.1 hP hD hS hA rfl (fun j hj => by rw [show j = 0 by omega]; rfl) (Nat.le_of_ble_eq_true rfl) (Nat.le_of_ble_eq_true rfl) dX11_houseOfKind_44 (fun q H hP hD hS => ?_)
    have hq := x_pushN hD
    refine lv_dup hx hb dX11_houseOfKind_47 rfl ?_
    refine lv_iload_n hx hb dX11_houseOfKind_48 rfl (lv_at hl 1 rfl) ?_
    have hw : (xW g σ ++ [(q, Sum.inr (ciOf 1, [Value.int (iI 0)]))])[(xW g σ).length]? = some (q, Sum.inr (ciOf 1, [Value.int (iI 0)])) := by rw [List.getElem?_append_right (Nat.le_refl _)]; simp
    refine l_clv (mc := 0) (ms := 0) (va_runI (As := [.int (iI f)]) (rest := [.ref q]) ⟨hx, hb, hml, hown, hts⟩ (c_X2_init l g A _ _ q 1 _ hw f) (cwI 1 hts gX11_houseOfKind_X2_init rfl rfl rfl (hts (.initialized RX2) (by decide +kernel)) (hts (.methodLink RX11 287 yX2_init) (by decide +kernel)) (hts (.instanceMethod yX2_init) (by decide +kernel)) rfl (by decide +kernel) ⟨Nat.le_of_ble_eq_true rfl, Nat.le_of_ble_eq_true rfl⟩) (l_preS hK hP hD hS hA) rfl rfl hl.1 rfl (lv_room (Nat.le_of_ble_eq_true rfl)) dX11_houseOfKind_49 ⟨Nat.le_of_ble_eq_true rfl, Nat.le_of_ble_eq_true rfl⟩) hS (fun ws1 H locs hp hP hD hS => ?_)
    have hp2 : ws1 = xW g (σ.1, σ.2.1 ++ [q], va_up σ.2.2.1 q 1, va_up σ.2.2.2 q f) := by rw [hp, List.set_append_right _ _ (Nat.le_refl _), Nat.sub_self]; exact x_pushW hq
    rw [hp2] at hP hD
    exact x_retQr (rt := "TwiceAsRich$House") hx hb hr ⟨hq, by rw [hk]; rfl⟩ hP hD hS dX11_houseOfKind_52 hlocks
  · refine x_tabIn (z := 2) (tgt := 53) hx hb hk (by decide) dX11_houseOfKind_1 (by decide) (by decide) rfl (by decide) ?_
    refine va_new (D := g.1) (ci := ciOf 2) (fs := [.int (iI 0)]) (C := RX6) (T := TX6) (N := 1) hx hb hts (by decide +kernel) tyX6 tyX6_ok hown (hts (.classLink RX11 288 RX6) (by decide +kernel)) (hts (.instantiable RX6 1) (by decide +kernel)) (hts (.initialized RX6) (by decide +kernel)) hK.1 hP hD hS hA rfl (fun j hj => by rw [show j = 0 by omega]; rfl) (Nat.le_of_ble_eq_true rfl) (Nat.le_of_ble_eq_true rfl) dX11_houseOfKind_53 (fun q H hP hD hS => ?_)
    have hq := x_pushN hD
    refine lv_dup hx hb dX11_houseOfKind_56 rfl ?_
    refine lv_iload_n hx hb dX11_houseOfKind_57 rfl (lv_at hl 1 rfl) ?_
    have hw : (xW g σ ++ [(q, Sum.inr (ciOf 2, [Value.int (iI 0)]))])[(xW g σ).length]? = some (q, Sum.inr (ciOf 2, [Value.int (iI 0)])) := by rw [List.getElem?_append_right (Nat.le_refl _)]; simp
    refine l_clv (mc := 0) (ms := 0) (va_runI (As := [.int (iI f)]) (rest := [.ref q]) ⟨hx, hb, hml, hown, hts⟩ (c_X6_init l g A _ _ q 2 _ hw f) (cwI 1 hts gX11_houseOfKind_X6_init rfl rfl rfl (hts (.initialized RX6) (by decide +kernel)) (hts (.methodLink RX11 290 yX6_init) (by decide +kernel)) (hts (.instanceMethod yX6_init) (by decide +kernel)) rfl (by decide +kernel) ⟨Nat.le_of_ble_eq_true rfl, Nat.le_of_ble_eq_true rfl⟩) (l_preS hK hP hD hS hA) rfl rfl hl.1 rfl (lv_room (Nat.le_of_ble_eq_true rfl)) dX11_houseOfKind_58 ⟨Nat.le_of_ble_eq_true rfl, Nat.le_of_ble_eq_true rfl⟩) hS (fun ws1 H locs hp hP hD hS => ?_)
    have hp2 : ws1 = xW g (σ.1, σ.2.1 ++ [q], va_up σ.2.2.1 q 2, va_up σ.2.2.2 q f) := by rw [hp, List.set_append_right _ _ (Nat.le_refl _), Nat.sub_self]; exact x_pushW hq
    rw [hp2] at hP hD
    exact x_retQr (rt := "TwiceAsRich$House") hx hb hr ⟨hq, by rw [hk]; rfl⟩ hP hD hS dX11_houseOfKind_61 hlocks
  · refine x_tabIn (z := 3) (tgt := 62) hx hb hk (by decide) dX11_houseOfKind_1 (by decide) (by decide) rfl (by decide) ?_
    refine va_new (D := g.1) (ci := ciOf 3) (fs := [.int (iI 0)]) (C := RX10) (T := TX10) (N := 1) hx hb hts (by decide +kernel) tyX10 tyX10_ok hown (hts (.classLink RX11 291 RX10) (by decide +kernel)) (hts (.instantiable RX10 1) (by decide +kernel)) (hts (.initialized RX10) (by decide +kernel)) hK.1 hP hD hS hA rfl (fun j hj => by rw [show j = 0 by omega]; rfl) (Nat.le_of_ble_eq_true rfl) (Nat.le_of_ble_eq_true rfl) dX11_houseOfKind_62 (fun q H hP hD hS => ?_)
    have hq := x_pushN hD
    refine lv_dup hx hb dX11_houseOfKind_65 rfl ?_
    refine lv_iload_n hx hb dX11_houseOfKind_66 rfl (lv_at hl 1 rfl) ?_
    have hw : (xW g σ ++ [(q, Sum.inr (ciOf 3, [Value.int (iI 0)]))])[(xW g σ).length]? = some (q, Sum.inr (ciOf 3, [Value.int (iI 0)])) := by rw [List.getElem?_append_right (Nat.le_refl _)]; simp
    refine l_clv (mc := 0) (ms := 0) (va_runI (As := [.int (iI f)]) (rest := [.ref q]) ⟨hx, hb, hml, hown, hts⟩ (c_X10_init l g A _ _ q 3 _ hw f) (cwI 1 hts gX11_houseOfKind_X10_init rfl rfl rfl (hts (.initialized RX10) (by decide +kernel)) (hts (.methodLink RX11 293 yX10_init) (by decide +kernel)) (hts (.instanceMethod yX10_init) (by decide +kernel)) rfl (by decide +kernel) ⟨Nat.le_of_ble_eq_true rfl, Nat.le_of_ble_eq_true rfl⟩) (l_preS hK hP hD hS hA) rfl rfl hl.1 rfl (lv_room (Nat.le_of_ble_eq_true rfl)) dX11_houseOfKind_67 ⟨Nat.le_of_ble_eq_true rfl, Nat.le_of_ble_eq_true rfl⟩) hS (fun ws1 H locs hp hP hD hS => ?_)
    have hp2 : ws1 = xW g (σ.1, σ.2.1 ++ [q], va_up σ.2.2.1 q 3, va_up σ.2.2.2 q f) := by rw [hp, List.set_append_right _ _ (Nat.le_refl _), Nat.sub_self]; exact x_pushW hq
    rw [hp2] at hP hD
    exact x_retQr (rt := "TwiceAsRich$House") hx hb hr ⟨hq, by rw [hk]; rfl⟩ hP hD hS dX11_houseOfKind_70 hlocks
  · refine x_tabIn (z := 4) (tgt := 71) hx hb hk (by decide) dX11_houseOfKind_1 (by decide) (by decide) rfl (by decide) ?_
    refine va_new (D := g.1) (ci := ciOf 4) (fs := [.int (iI 0)]) (C := RX4) (T := TX4) (N := 1) hx hb hts (by decide +kernel) tyX4 tyX4_ok hown (hts (.classLink RX11 294 RX4) (by decide +kernel)) (hts (.instantiable RX4 1) (by decide +kernel)) (hts (.initialized RX4) (by decide +kernel)) hK.1 hP hD hS hA rfl (fun j hj => by rw [show j = 0 by omega]; rfl) (Nat.le_of_ble_eq_true rfl) (Nat.le_of_ble_eq_true rfl) dX11_houseOfKind_71 (fun q H hP hD hS => ?_)
    have hq := x_pushN hD
    refine lv_dup hx hb dX11_houseOfKind_74 rfl ?_
    refine lv_iload_n hx hb dX11_houseOfKind_75 rfl (lv_at hl 1 rfl) ?_
    have hw : (xW g σ ++ [(q, Sum.inr (ciOf 4, [Value.int (iI 0)]))])[(xW g σ).length]? = some (q, Sum.inr (ciOf 4, [Value.int (iI 0)])) := by rw [List.getElem?_append_right (Nat.le_refl _)]; simp
    refine l_clv (mc := 0) (ms := 0) (va_runI (As := [.int (iI f)]) (rest := [.ref q]) ⟨hx, hb, hml, hown, hts⟩ (c_X4_init l g A _ _ q 4 _ hw f) (cwI 1 hts gX11_houseOfKind_X4_init rfl rfl rfl (hts (.initialized RX4) (by decide +kernel)) (hts (.methodLink RX11 296 yX4_init) (by decide +kernel)) (hts (.instanceMethod yX4_init) (by decide +kernel)) rfl (by decide +kernel) ⟨Nat.le_of_ble_eq_true rfl, Nat.le_of_ble_eq_true rfl⟩) (l_preS hK hP hD hS hA) rfl rfl hl.1 rfl (lv_room (Nat.le_of_ble_eq_true rfl)) dX11_houseOfKind_76 ⟨Nat.le_of_ble_eq_true rfl, Nat.le_of_ble_eq_true rfl⟩) hS (fun ws1 H locs hp hP hD hS => ?_)
    have hp2 : ws1 = xW g (σ.1, σ.2.1 ++ [q], va_up σ.2.2.1 q 4, va_up σ.2.2.2 q f) := by rw [hp, List.set_append_right _ _ (Nat.le_refl _), Nat.sub_self]; exact x_pushW hq
    rw [hp2] at hP hD
    exact x_retQr (rt := "TwiceAsRich$House") hx hb hr ⟨hq, by rw [hk]; rfl⟩ hP hD hS dX11_houseOfKind_79 hlocks
  · refine x_tabIn (z := 5) (tgt := 80) hx hb hk (by decide) dX11_houseOfKind_1 (by decide) (by decide) rfl (by decide) ?_
    refine va_new (D := g.1) (ci := ciOf 5) (fs := [.int (iI 0)]) (C := RX0) (T := TX0) (N := 1) hx hb hts (by decide +kernel) tyX0 tyX0_ok hown (hts (.classLink RX11 297 RX0) (by decide +kernel)) (hts (.instantiable RX0 1) (by decide +kernel)) (hts (.initialized RX0) (by decide +kernel)) hK.1 hP hD hS hA rfl (fun j hj => by rw [show j = 0 by omega]; rfl) (Nat.le_of_ble_eq_true rfl) (Nat.le_of_ble_eq_true rfl) dX11_houseOfKind_80 (fun q H hP hD hS => ?_)
    have hq := x_pushN hD
    refine lv_dup hx hb dX11_houseOfKind_83 rfl ?_
    refine lv_iload_n hx hb dX11_houseOfKind_84 rfl (lv_at hl 1 rfl) ?_
    have hw : (xW g σ ++ [(q, Sum.inr (ciOf 5, [Value.int (iI 0)]))])[(xW g σ).length]? = some (q, Sum.inr (ciOf 5, [Value.int (iI 0)])) := by rw [List.getElem?_append_right (Nat.le_refl _)]; simp
    refine l_clv (mc := 0) (ms := 0) (va_runI (As := [.int (iI f)]) (rest := [.ref q]) ⟨hx, hb, hml, hown, hts⟩ (c_X0_init l g A _ _ q 5 _ hw f) (cwI 1 hts gX11_houseOfKind_X0_init rfl rfl rfl (hts (.initialized RX0) (by decide +kernel)) (hts (.methodLink RX11 299 yX0_init) (by decide +kernel)) (hts (.instanceMethod yX0_init) (by decide +kernel)) rfl (by decide +kernel) ⟨Nat.le_of_ble_eq_true rfl, Nat.le_of_ble_eq_true rfl⟩) (l_preS hK hP hD hS hA) rfl rfl hl.1 rfl (lv_room (Nat.le_of_ble_eq_true rfl)) dX11_houseOfKind_85 ⟨Nat.le_of_ble_eq_true rfl, Nat.le_of_ble_eq_true rfl⟩) hS (fun ws1 H locs hp hP hD hS => ?_)
    have hp2 : ws1 = xW g (σ.1, σ.2.1 ++ [q], va_up σ.2.2.1 q 5, va_up σ.2.2.2 q f) := by rw [hp, List.set_append_right _ _ (Nat.le_refl _), Nat.sub_self]; exact x_pushW hq
    rw [hp2] at hP hD
    exact x_retQr (rt := "TwiceAsRich$House") hx hb hr ⟨hq, by rw [hk]; rfl⟩ hP hD hS dX11_houseOfKind_88 hlocks
  · refine x_tabIn (z := 6) (tgt := 89) hx hb hk (by decide) dX11_houseOfKind_1 (by decide) (by decide) rfl (by decide) ?_
    refine va_new (D := g.1) (ci := ciOf 6) (fs := [.int (iI 0)]) (C := RX9) (T := TX9) (N := 1) hx hb hts (by decide +kernel) tyX9 tyX9_ok hown (hts (.classLink RX11 300 RX9) (by decide +kernel)) (hts (.instantiable RX9 1) (by decide +kernel)) (hts (.initialized RX9) (by decide +kernel)) hK.1 hP hD hS hA rfl (fun j hj => by rw [show j = 0 by omega]; rfl) (Nat.le_of_ble_eq_true rfl) (Nat.le_of_ble_eq_true rfl) dX11_houseOfKind_89 (fun q H hP hD hS => ?_)
    have hq := x_pushN hD
    refine lv_dup hx hb dX11_houseOfKind_92 rfl ?_
    refine lv_iload_n hx hb dX11_houseOfKind_93 rfl (lv_at hl 1 rfl) ?_
    have hw : (xW g σ ++ [(q, Sum.inr (ciOf 6, [Value.int (iI 0)]))])[(xW g σ).length]? = some (q, Sum.inr (ciOf 6, [Value.int (iI 0)])) := by rw [List.getElem?_append_right (Nat.le_refl _)]; simp
    refine l_clv (mc := 0) (ms := 0) (va_runI (As := [.int (iI f)]) (rest := [.ref q]) ⟨hx, hb, hml, hown, hts⟩ (c_X9_init l g A _ _ q 6 _ hw f) (cwI 1 hts gX11_houseOfKind_X9_init rfl rfl rfl (hts (.initialized RX9) (by decide +kernel)) (hts (.methodLink RX11 302 yX9_init) (by decide +kernel)) (hts (.instanceMethod yX9_init) (by decide +kernel)) rfl (by decide +kernel) ⟨Nat.le_of_ble_eq_true rfl, Nat.le_of_ble_eq_true rfl⟩) (l_preS hK hP hD hS hA) rfl rfl hl.1 rfl (lv_room (Nat.le_of_ble_eq_true rfl)) dX11_houseOfKind_94 ⟨Nat.le_of_ble_eq_true rfl, Nat.le_of_ble_eq_true rfl⟩) hS (fun ws1 H locs hp hP hD hS => ?_)
    have hp2 : ws1 = xW g (σ.1, σ.2.1 ++ [q], va_up σ.2.2.1 q 6, va_up σ.2.2.2 q f) := by rw [hp, List.set_append_right _ _ (Nat.le_refl _), Nat.sub_self]; exact x_pushW hq
    rw [hp2] at hP hD
    exact x_retQr (rt := "TwiceAsRich$House") hx hb hr ⟨hq, by rw [hk]; rfl⟩ hP hD hS dX11_houseOfKind_97 hlocks
  · refine x_tabIn (z := 7) (tgt := 98) hx hb hk (by decide) dX11_houseOfKind_1 (by decide) (by decide) rfl (by decide) ?_
    refine va_new (D := g.1) (ci := ciOf 7) (fs := [.int (iI 0)]) (C := RX1) (T := TX1) (N := 1) hx hb hts (by decide +kernel) tyX1 tyX1_ok hown (hts (.classLink RX11 303 RX1) (by decide +kernel)) (hts (.instantiable RX1 1) (by decide +kernel)) (hts (.initialized RX1) (by decide +kernel)) hK.1 hP hD hS hA rfl (fun j hj => by rw [show j = 0 by omega]; rfl) (Nat.le_of_ble_eq_true rfl) (Nat.le_of_ble_eq_true rfl) dX11_houseOfKind_98 (fun q H hP hD hS => ?_)
    have hq := x_pushN hD
    refine lv_dup hx hb dX11_houseOfKind_101 rfl ?_
    refine lv_iload_n hx hb dX11_houseOfKind_102 rfl (lv_at hl 1 rfl) ?_
    have hw : (xW g σ ++ [(q, Sum.inr (ciOf 7, [Value.int (iI 0)]))])[(xW g σ).length]? = some (q, Sum.inr (ciOf 7, [Value.int (iI 0)])) := by rw [List.getElem?_append_right (Nat.le_refl _)]; simp
    refine l_clv (mc := 0) (ms := 0) (va_runI (As := [.int (iI f)]) (rest := [.ref q]) ⟨hx, hb, hml, hown, hts⟩ (c_X1_init l g A _ _ q 7 _ hw f) (cwI 1 hts gX11_houseOfKind_X1_init rfl rfl rfl (hts (.initialized RX1) (by decide +kernel)) (hts (.methodLink RX11 305 yX1_init) (by decide +kernel)) (hts (.instanceMethod yX1_init) (by decide +kernel)) rfl (by decide +kernel) ⟨Nat.le_of_ble_eq_true rfl, Nat.le_of_ble_eq_true rfl⟩) (l_preS hK hP hD hS hA) rfl rfl hl.1 rfl (lv_room (Nat.le_of_ble_eq_true rfl)) dX11_houseOfKind_103 ⟨Nat.le_of_ble_eq_true rfl, Nat.le_of_ble_eq_true rfl⟩) hS (fun ws1 H locs hp hP hD hS => ?_)
    have hp2 : ws1 = xW g (σ.1, σ.2.1 ++ [q], va_up σ.2.2.1 q 7, va_up σ.2.2.2 q f) := by rw [hp, List.set_append_right _ _ (Nat.le_refl _), Nat.sub_self]; exact x_pushW hq
    rw [hp2] at hP hD
    exact x_retQr (rt := "TwiceAsRich$House") hx hb hr ⟨hq, by rw [hk]; rfl⟩ hP hD hS dX11_houseOfKind_106 hlocks
  · refine x_tabOut (tgt := 107) hx hb (by omega) dX11_houseOfKind_1 (by omega) (by decide) ?_
    refine va_new (D := g.1) (ci := ciOf 0) (fs := [.int (iI 0)]) (C := RX3) (T := TX3) (N := 1) hx hb hts (by decide +kernel) tyX3 tyX3_ok hown (hts (.classLink RX11 22 RX3) (by decide +kernel)) (hts (.instantiable RX3 1) (by decide +kernel)) (hts (.initialized RX3) (by decide +kernel)) hK.1 hP hD hS hA rfl (fun j hj => by rw [show j = 0 by omega]; rfl) (Nat.le_of_ble_eq_true rfl) (Nat.le_of_ble_eq_true rfl) dX11_houseOfKind_107 (fun q H hP hD hS => ?_)
    have hq := x_pushN hD
    refine lv_dup hx hb dX11_houseOfKind_110 rfl ?_
    refine lv_iload_n hx hb dX11_houseOfKind_111 rfl (lv_at hl 1 rfl) ?_
    have hw : (xW g σ ++ [(q, Sum.inr (ciOf 0, [Value.int (iI 0)]))])[(xW g σ).length]? = some (q, Sum.inr (ciOf 0, [Value.int (iI 0)])) := by rw [List.getElem?_append_right (Nat.le_refl _)]; simp
    refine l_clv (mc := 0) (ms := 0) (va_runI (As := [.int (iI f)]) (rest := [.ref q]) ⟨hx, hb, hml, hown, hts⟩ (c_X3_init l g A _ _ q 0 _ hw f) (cwI 1 hts gX11_houseOfKind_X3_init rfl rfl rfl (hts (.initialized RX3) (by decide +kernel)) (hts (.methodLink RX11 24 yX3_init) (by decide +kernel)) (hts (.instanceMethod yX3_init) (by decide +kernel)) rfl (by decide +kernel) ⟨Nat.le_of_ble_eq_true rfl, Nat.le_of_ble_eq_true rfl⟩) (l_preS hK hP hD hS hA) rfl rfl hl.1 rfl (lv_room (Nat.le_of_ble_eq_true rfl)) dX11_houseOfKind_112 ⟨Nat.le_of_ble_eq_true rfl, Nat.le_of_ble_eq_true rfl⟩) hS (fun ws1 H locs hp hP hD hS => ?_)
    have hp2 : ws1 = xW g (σ.1, σ.2.1 ++ [q], va_up σ.2.2.1 q 0, va_up σ.2.2.2 q f) := by rw [hp, List.set_append_right _ _ (Nat.le_refl _), Nat.sub_self]; exact x_pushW hq
    rw [hp2] at hP hD
    exact x_retQr (rt := "TwiceAsRich$House") hx hb hr ⟨hq, by rw [hk]; rfl⟩ hP hD hS dX11_houseOfKind_115 hlocks
