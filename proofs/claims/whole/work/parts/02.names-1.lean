/-- the printed rows speak of this word, which the kit doesn't hold: as the kit's own va_AO, over an array class -/
def va_AOA (ty : FieldType) (U : State) : Prop := (Cond.arrayOver (.array ty)).before #[] U = true
theorem va_AOA.of {ty : FieldType} {A : Array Value} {U : State} (h : (Cond.arrayOver (.array ty)).before A U = true) : va_AOA ty U := h
theorem va_AOA.use {ty : FieldType} {A : Array Value} {U : State} (h : va_AOA ty U) : (Cond.arrayOver (.array ty)).before A U = true := h
/-! ===== BEGIN words of one list among another's, by their places ===== -/
theorem goodIn_r {big : List Cond} (ws : List Cond) (ps : List Nat) (hp : ws = ps.filterMap (fun i => big[i]?)) (h : ws.all goodWord = true) : GoodIn big ws := by
  intro w hw
  have h1 := List.all_eq_true.mp h w hw
  rw [hp] at hw
  obtain ⟨i, -, hi⟩ := List.mem_filterMap.mp hw
  have hm : w ∈ big := by first | exact List.mem_of_getElem? hi | exact List.getElem?_mem hi
  exact ⟨hm, good_of_word h1⟩
theorem goodIn_app {big a b : List Cond} (ha : GoodIn big a) (hb : GoodIn big b) : GoodIn big (a ++ b) := fun w h => (List.mem_append.mp h).elim (ha w) (hb w)
theorem goodIn_ca {big a b : List Cond} {c : Cond} (ha : GoodIn big (c :: a)) (hb : GoodIn big b) : GoodIn big (c :: (a ++ b)) := fun w h => (List.mem_cons.mp h).elim (fun e => ha w (List.mem_cons.mpr (Or.inl e))) (fun h => (List.mem_append.mp h).elim (fun h => ha w (List.mem_cons.mpr (Or.inr h))) (hb w))
theorem goodIn_sub {big ws : List Cond} (hm : ∀ w ∈ ws, w ∈ big) (h : ws.all goodWord = true) : GoodIn big ws := fun w hw => ⟨hm w hw, good_of_word (List.all_eq_true.mp h w hw)⟩
/-! ===== END ===== -/

/-! ===== BEGIN new T[n][m]: the outer array a place, the inner ones among the pooled ===== -/
/-- f, but v at every address of l -/
def vr_up {α : Type} (f : Nat → α) (l : List Nat) (v : α) : Nat → α := fun a => if a ∈ l then v else f a
theorem vr_up_in {α : Type} {f : Nat → α} {l : List Nat} {v : α} {a : Nat} (h : a ∈ l) : vr_up f l v a = v := if_pos h
theorem vr_up_ne {α : Type} {f : Nat → α} {l : List Nat} {v : α} {a : Nat} (h : a ∉ l) : vr_up f l v a = f a := if_neg h
theorem vr_rows {L l : List Nat} {f : Nat → va_E} {e : va_E} (h : ∀ a, a ∈ l → a ∉ L) : va_pl L f ++ l.map (fun a => (a, e)) = va_pl (L ++ l) (vr_up f l e) := by
  unfold va_pl
  rw [List.map_append]
  congr 1
  · apply List.map_congr_left
    intro a ha
    rw [vr_up_ne (fun q => h a q ha)]
  · apply List.map_congr_left
    intro a ha
    rw [vr_up_in ha]
theorem vr_lay {X rows : va_W} {x : Nat × va_E} {pl : va_W} {D : va_G} {cl : List vw_C} {H : Heap} (hP : va_P D cl (((X ++ pl) ++ [x]) ++ rows) H) : va_P D cl ((X ++ [x]) ++ (pl ++ rows)) H := by
  rw [List.append_assoc (X ++ pl)] at hP
  have h := va_P.swap hP
  rw [← List.append_assoc X] at h
  have h2 := va_P.swap h
  rw [List.append_assoc (X ++ [x])] at h2
  exact h2
theorem vr_layD {X rows : va_W} {x : Nat × va_E} {pl : va_W} {A : Nat → Prop} (hD : va_D A (((X ++ pl) ++ [x]) ++ rows)) : va_D A ((X ++ [x]) ++ (pl ++ rows)) := by
  rw [List.append_assoc (X ++ pl)] at hD
  have h := va_D.swap hD
  rw [← List.append_assoc X] at h
  have h2 := va_D.swap h
  rw [List.append_assoc (X ++ [x])] at h2
  exact h2
theorem vr_outer (c : ClassId) (N h0 : Nat) : ∀ i : Nat, Jvm.Free.Multi.outerC c N h0 i = arrV c N (fun j => va_rf (if j < i then some (h0 + 1 + j) else none))
  | 0 => by
    show ({ cls := c, slots := Array.replicate N .null, vm := .none } : Cell) = _
    rw [arrV_new]
    refine congrArg (arrV c N) (funext fun j => ?_)
    simp [va_rf]
  | i + 1 => by
    show (Jvm.Free.Multi.outerC c N h0 i).setSlot i (.ref (h0 + 1 + i)) = _
    rw [vr_outer c N h0 i, arrV_store]
    refine congrArg (arrV c N) (funext fun j => ?_)
    by_cases e : j = i
    · subst e
      simp [updV, va_rf]
    · by_cases h : j < i
      · simp [updV, e, h, Nat.lt_succ_of_lt h]
      · simp [updV, e, h, show ¬ j < i + 1 by omega]
section VGM
variable {p : Program} {l : Launch} {e : Env} {R : Room} {s : State} {m : MethodId} {args : Array Value} {below : List Frame} {meth : Method} {c : Code} {H : Heap} {locs : List Loc} {cells slots : Nat} {Q : State → Prop}
variable {cc : ByteArray} {pc : Nat} {ls : Array Slot} {rest : List Value} {D : va_G} {cl : List vw_C} {A : Nat → Prop} {a : Nat} {tys : List (ClassId × FieldType)} {ws : va_W} {H0 : Heap}
theorem va_mna {X : va_W} {L : List Nat} {f : Nat → va_E} {cc : ByteArray} (hexec : p.tables.exec = Jvm.exec) (hb : c.code = cc) {own : String} {index : Nat} {ty : FieldType} {cy : ClassId} (hown : s.vm.findClass own = some m.cls) (hclink : (Cond.classLink own index ("[" ++ (FieldType.array ty).toString)).before args s = true) (hover : va_AOA ty s) (harr : (Cond.arrayClass ty).before args s = true) (hcy : s.vm.findClass (FieldType.array ty).toString = some cy)
    (hK : va_K D cl tys s) (hP : va_P D cl (X ++ va_pl L f) H) (hD : va_D A (X ++ va_pl L f)) (hS : va_S A H0 H locs) (hA : ∀ q, H0.size ≤ q → A q) {n k : Int32} {N' K' : Nat} {z : vp_A} (hn : ¬ n < 0) (hk : ¬ k < 0) (hN : n.toNatClampNeg = N') (hM : k.toNatClampNeg = K')
    (hb1 : N' * 4 ≤ 536870912) (hb2 : K' * componentBytes ty ≤ 536870912) (hb3 : K' ≤ 536870912) (hdf : fits ty (defaultValue ty) = true) (hdd : (defaultValue ty).isDefault = true) (hcells : cells + (1 + N') ≤ R.cells) (hslots : slots + (N' + N' * K') ≤ R.slots) (hz : ∀ c : ClassId, Jvm.Free.Multi.innerC c K' (defaultValue ty) = vp_cell c z) (hdg : decode cc pc = .ok (.multianewarray index 2, 4))
    (kk : ∀ (q : Nat) (r : Nat → Nat) (cA : ClassId) (H1 : Heap), (∀ i j : Nat, i < N' → j < N' → r i = r j → i = j) → (∀ i : Nat, i < N' → r i ∉ L) → va_K D cl (tys ++ [(cA, .array ty)]) s →
      va_P D cl ((X ++ [(q, .inl (cA, N', .inr (.inr (.inr (.inr (fun i => if i < N' then some (r i) else none))))))]) ++ va_pl (L ++ (List.range N').map r) (vr_up f ((List.range N').map r) (.inl (cy, z)))) H1 → va_D A ((X ++ [(q, .inl (cA, N', .inr (.inr (.inr (.inr (fun i => if i < N' then some (r i) else none))))))]) ++ va_pl (L ++ (List.range N').map r) (vr_up f ((List.range N').map r) (.inl (cy, z)))) → va_S A H0 H1 locs →
      W p l e R s m args below meth c H1 locs (cells + 1 + N') (slots + N' + N' * K') Q (F0 m (pc + 4) ls (.ref q :: rest))) : W p l e R s m args below meth c H locs cells slots Q (F0 m pc ls (.int k :: .int n :: rest)) := by
  subst hN
  subst hM
  intro T hT Xs
  obtain ⟨vm₁, cA, comp, -, fA, fC, hO, -, X', step⟩ := Xs.multianewarray2F hexec hown hclink (va_AOA.use hover) harr (g := F0 m pc ls (.int k :: .int n :: rest)) rfl (by rw [hb]; exact hdg) rfl hn hk hb1 hb2 hb3 hdf hdd hcells hslots
  have ec : some cy = some comp := hcy.symm.trans fC
  cases ec
  generalize hF : Jvm.Free.Multi.fill (T.setVm vm₁) cA cy n.toNatClampNeg k.toNatClampNeg (defaultValue ty) n.toNatClampNeg = F at X' step
  have hTh : (T.setVm vm₁).heap = H := hT
  obtain ⟨f1, f2, -, -⟩ := Jvm.Free.Multi.fill_facts (T.setVm vm₁) cA cy n.toNatClampNeg k.toNatClampNeg (defaultValue ty) n.toNatClampNeg
  rw [hF, hTh] at f1 f2
  have hold : ∀ x : Nat, x < H.size → F.heap[x]? = H[x]? := fun x hx => by
    have := Jvm.Free.Multi.fill_old (T.setVm vm₁) cA cy n.toNatClampNeg k.toNatClampNeg (defaultValue ty) (a := x) (by rw [hTh]; exact hx) n.toNatClampNeg
    rw [hF, hTh] at this
    exact this
  have hrow : ∀ j : Nat, j < n.toNatClampNeg → F.heap[H.size + 1 + j]? = some (vp_cell cy z) := fun j hj => by
    have := Jvm.Free.Multi.fill_inner (T.setVm vm₁) cA cy n.toNatClampNeg k.toNatClampNeg (defaultValue ty) n.toNatClampNeg j hj
    rw [hF, hTh, hz] at this
    exact this
  have hout : Jvm.Free.Multi.outerC cA n.toNatClampNeg H.size n.toNatClampNeg = vp_cell cA (n.toNatClampNeg, .inr (.inr (.inr (.inr (fun i => if i < n.toNatClampNeg then some (H.size + 1 + i) else none))))) := by
    rw [vp_cell_q]
    exact vr_outer cA n.toNatClampNeg H.size n.toNatClampNeg
  rw [hout] at f2
  have hlt : ∀ a, a ∈ L → a < H.size := fun a ha => by
    obtain ⟨k9, hk9⟩ := va_pl_get (X := X) (f := f) ha
    exact (hP k9 _ hk9).lt
  have hnl : ∀ i : Nat, i < n.toNatClampNeg → H.size + 1 + i ∉ L := fun i _ h => by
    have := hlt _ h
    omega
  have hnm : ∀ a, a ∈ (List.range n.toNatClampNeg).map (fun i => H.size + 1 + i) → a ∉ L := fun a ha h => by
    obtain ⟨i, -, rfl⟩ := List.mem_map.mp ha
    have := hlt _ h
    omega
  have hP0 : va_P D cl (X ++ va_pl L f) F.heap := hP.kept (fun k9 x hx => hold x.1 ((hP k9 x hx).lt))
  have hP1 : va_P D cl ((X ++ va_pl L f) ++ [(H.size, .inl (cA, n.toNatClampNeg, .inr (.inr (.inr (.inr (fun i => if i < n.toNatClampNeg then some (H.size + 1 + i) else none))))))]) F.heap := hP0.app (fun k9 x hx => by
    have h0 : k9 < 1 := (List.getElem?_eq_some_iff.mp hx).1
    rw [show k9 = 0 by omega] at hx
    cases hx
    exact f2)
  have hP2 : va_P D cl (((X ++ va_pl L f) ++ [(H.size, .inl (cA, n.toNatClampNeg, .inr (.inr (.inr (.inr (fun i => if i < n.toNatClampNeg then some (H.size + 1 + i) else none))))))]) ++ ((List.range n.toNatClampNeg).map (fun i => H.size + 1 + i)).map (fun a => (a, .inl (cy, z)))) F.heap := hP1.app (fun k9 x hx => by
    obtain ⟨a, ha, rfl⟩ := List.mem_map.mp (List.mem_of_getElem? hx)
    obtain ⟨i, hi, rfl⟩ := List.mem_map.mp ha
    exact hrow i (List.mem_range.mp hi))
  have hD2 : va_D A (((X ++ va_pl L f) ++ [(H.size, .inl (cA, n.toNatClampNeg, .inr (.inr (.inr (.inr (fun i => if i < n.toNatClampNeg then some (H.size + 1 + i) else none))))))]) ++ ((List.range n.toNatClampNeg).map (fun i => H.size + 1 + i)).map (fun a => (a, .inl (cy, z)))) := by
    have hD1 := hD.push (e := .inl (cA, n.toNatClampNeg, .inr (.inr (.inr (.inr (fun i => if i < n.toNatClampNeg then some (H.size + 1 + i) else none)))))) hP rfl (hA _ hS.1)
    generalize hW1 : (X ++ va_pl L f) ++ [(H.size, .inl (cA, n.toNatClampNeg, .inr (.inr (.inr (.inr (fun i => if i < n.toNatClampNeg then some (H.size + 1 + i) else none))))))] = W1 at hD1 hP1 ⊢
    have hle : ∀ (k9 : Nat) (x : Nat × va_E), W1[k9]? = some x → x.1 ≤ H.size := fun k9 x hx => by
      rw [← hW1] at hx
      by_cases hl : k9 < (X ++ va_pl L f).length
      · rw [List.getElem?_append_left hl] at hx
        exact Nat.le_of_lt ((hP k9 x hx).lt)
      · rw [List.getElem?_append_right (by omega)] at hx
        have h0 : k9 - (X ++ va_pl L f).length < 1 := (List.getElem?_eq_some_iff.mp hx).1
        rw [show k9 - (X ++ va_pl L f).length = 0 by omega] at hx
        cases hx
        exact Nat.le_refl _
    have hr : ∀ (k9 : Nat) (x : Nat × va_E), (((List.range n.toNatClampNeg).map (fun i => H.size + 1 + i)).map (fun a => ((a, .inl (cy, z)) : Nat × va_E)))[k9]? = some x → x.1 = H.size + 1 + k9 := fun k9 x hx => by
      rw [List.getElem?_map, List.getElem?_map] at hx
      by_cases h9 : k9 < n.toNatClampNeg
      · rw [List.getElem?_range h9] at hx
        cases hx
        rfl
      · have hn0 : (List.range n.toNatClampNeg)[k9]? = none := List.getElem?_eq_none (by rw [List.length_range]; omega)
        rw [hn0] at hx
        cases hx
    refine ⟨fun i j x y hi hj hxy => ?_, fun k9 x hx => ?_⟩
    · by_cases h1 : i < W1.length <;> by_cases h2 : j < W1.length
      · rw [List.getElem?_append_left h1] at hi
        rw [List.getElem?_append_left h2] at hj
        exact hD1.1 i j x y hi hj hxy
      · rw [List.getElem?_append_left h1] at hi
        rw [List.getElem?_append_right (by omega)] at hj
        have := hle _ _ hi
        have := hr _ _ hj
        omega
      · rw [List.getElem?_append_right (by omega)] at hi
        rw [List.getElem?_append_left h2] at hj
        have := hle _ _ hj
        have := hr _ _ hi
        omega
      · rw [List.getElem?_append_right (by omega)] at hi hj
        have := hr _ _ hi
        have := hr _ _ hj
        omega
    · by_cases h1 : k9 < W1.length
      · rw [List.getElem?_append_left h1] at hx
        exact hD1.2 k9 x hx
      · rw [List.getElem?_append_right (by omega)] at hx
        have := hr _ _ hx
        exact hA _ (by have := hS.1; omega)
  have hAr : ArrOfT s cA (.array ty) := fun N9 z9 => by
    obtain ⟨-, k9, hk9, cm9, hkk9⟩ := (hO 0 0 0).1
    exact ⟨(fun q hq => by cases hq), k9, hk9, cm9, hkk9⟩
  have hK2 : va_K D cl (tys ++ [(cA, .array ty)]) s := ⟨hK.1, fun k9 x hx => by
    by_cases hl : k9 < tys.length
    · rw [List.getElem?_append_left hl] at hx
      exact hK.2 k9 x hx
    · rw [List.getElem?_append_right (by omega)] at hx
      have h0 : k9 - tys.length < 1 := (List.getElem?_eq_some_iff.mp hx).1
      rw [show k9 - tys.length = 0 by omega] at hx
      cases hx
      exact ⟨hAr, fA⟩⟩
  obtain ⟨t, a1, b1⟩ := kk H.size (fun i => H.size + 1 + i) cA F.heap (fun i j _ _ h => by have h9 : H.size + 1 + i = H.size + 1 + j := h; omega) hnl hK2 (by rw [← vr_rows hnm]; exact vr_lay hP2) (by rw [← vr_rows hnm]; exact vr_layD hD2) ⟨by rw [f1]; have := hS.1; omega, fun x h1 h2 => (hold x (Nat.lt_of_lt_of_le h1 hS.1)).trans (hS.2.1 x h1 h2), hS.2.2⟩ F rfl X'
  refine ⟨t, step t ?_, b1⟩
  have e : T.heap.size = H.size := by rw [hT]
  rw [e]
  exact a1
end VGM
/-! ===== END ===== -/

/-! ===== BEGIN exceptions that leave a method, and their catching by the caller (launches without stack traces) ===== -/
section VXA
/-! The laws vx_back, vx_callV, vx_callS, vx_callSW, vx_throw0, vx_throwS follow proofs of the library, with one case more: JvmDerived/Free/Laws.lean (Back.of_free), Shelf42/LK1.lean (callV, callS), Shelf/KitTraced.lean (throwNew0V, throwNewS). -/
/-- where a method has thrown q: the class by its name, the cell, what was written, the world -/
def vx_T (XC : String → State → State → Prop) (st : State) (q : Addr) (t : State) (mc ms : Nat) (free : Addr → Prop) : Prop :=
  ∃ (E : String) (ce : Cell) (L : List Loc), XC E st t ∧ t.heap[q]? = some ce ∧ ce.vm = .none ∧ st.vm.findClass E = some ce.cls ∧ st.WarmedH t.vm ∧ st.sameButNew ({ t with vm := st.vm } : State) L mc ms ∧ ∀ z ∈ L, free z.base
def vx_Q (Qc : Array Value → State → Outcome → State → Prop) (XC : String → State → State → Prop) (mc ms : Nat) (free : Addr → Prop) : Array Value → State → Outcome → State → Prop := fun a st o t =>
  (Qc a st o t ∧ ∃ L, FrameEnd st o t L mc ms ∧ ∀ q ∈ L, free q.base) ∨ ∃ q, o = .threw q ∧ vx_T XC st q t mc ms free
/-- a callee that returns or throws -/
def vx_Met (l : Launch) (y : MethodName) (ws : List Cond) (rm : Room) (Pc : Array Value → State → Prop) (Qc : Array Value → State → Outcome → State → Prop) (XC : String → State → State → Prop) (mc ms : Nat) (free : Addr → Prop) : Prop :=
  MetFree l y (headSpec ws rm) Pc (fun _ _ _ _ _ => True) (vx_Q Qc XC mc ms free)
def vx_Post (XC : String → State → State → Prop) (mc ms : Nat) (free : Addr → Prop) : Pt → Array Value → Addr → Pt → Prop := fun A a q B =>
  ∃ (g : JFrame) (mk : MethodId) (t : State) (L : List Loc) (E : String) (ce : Cell), B.U.heap = t.heap ∧ B.U.vm = t.vm ∧ XC E (A.U.calling g mk a) t ∧ t.heap[q]? = some ce ∧ ce.vm = .none ∧ A.U.vm.findClass E = some ce.cls ∧ B.locs = A.locs ++ L ∧ (∀ z ∈ L, free z.base) ∧ B.cells = A.cells + mc ∧ B.slots = A.slots + ms
def vx_Back (l : Launch) (R : Room) (p : Program) (e : Env) (below : List Frame) (s : State) (sargs : Array Value) (y : MethodName) (len W9 : Nat)
    (Pre : Pt → Array Value → Prop) (Post : Pt → Array Value → Option Value → Pt → Prop) (PostX : Pt → Array Value → Addr → Pt → Prop) : Prop :=
  ∀ (m : MethodId) (meth : Method) (c : Code) (A : Pt) (g : JFrame) (ig : Instr) (mk : MethodId) (a : Array Value),
    Stand p l e R s m sargs below meth c A.U A.locs A.cells A.slots → g.method = m → g.locals.size = c.maxLocals → decode c.code g.pc = .ok (ig, len) →
    2 * g.monitorRoom + (g.stack.map fun v => v.category).sum ≤ W9 → A.U.methodNamed? y = some mk → Pre A a →
    (∃ (v : Option Value) (B : Pt), Stand p l e R s m sargs below meth c B.U B.locs B.cells B.slots ∧ Post A a v B ∧
      Steps p.tables e below (doInvoke e (A.U.setTop g) [] mk a).1 (B.U.setTop { g with pc := g.pc + len, stack := v.toList ++ g.stack })) ∨
    (∃ (q : Addr) (B : Pt), Stand p l e R s m sargs below meth c B.U B.locs B.cells B.slots ∧ PostX A a q B ∧
      Steps p.tables e below (doInvoke e (A.U.setTop g) [] mk a).1 ((B.U.setTop g).pushFrame (.throwing q)))
section Payer
variable {l : Launch} {R : Room} {p : Program} {e : Env} {below : List Frame} {s : State} {sargs : Array Value} {y : MethodName} {len W9 : Nat}
theorem vx_back {ws : List Cond} {rm : Room} {Pc : Array Value → State → Prop} {Qc : Array Value → State → Outcome → State → Prop} {XC : String → State → State → Prop} {mc ms : Nat} {free : Addr → Prop} {bytes : ByteArray} {maxL : Nat} {ret : Option FieldType}
    (hM : vx_Met l y ws rm Pc Qc XC mc ms free) (hblind : FrameBlind Pc) (hrc : rm.cells = mc) (hrs : rm.slots = ms)
    (hframes : rm.frames + 1 ≤ R.frames) (hlocals : W9 + (maxL + 11) + rm.locals ≤ R.locals)
    (hws : ∀ w ∈ ws, ∀ a' U, s.WarmedH U.vm → w.before a' U = true) (hcode : Cond.code y bytes maxL ret ∈ ws) (hinit : ∀ a' U, s.WarmedH U.vm → (Cond.initialized y.cls).before a' U = true) :
    vx_Back l R p e below s sargs y len W9 (PreOf R mc ms Pc) (PostOf Qc mc ms free) (vx_Post XC mc ms free) := by
  intro m meth c A g ig mk a X hg hsize hdg hW hn hp
  have h1 : (headSpec ws rm).pre.before a A.U = true := atoms_intro fun w hw => hws w hw _ _ X.warmed
  have h2 : (Cond.code y bytes maxL ret).before a A.U = true := hws _ hcode _ _ X.warmed
  have h3 : (Cond.initialized y.cls).before a A.U = true := hinit _ _ X.warmed
  have h4 : A.cells + (headSpec ws rm).room.cells ≤ R.cells := by rw [show (headSpec ws rm).room.cells = mc from hrc]; exact hp.1
  have h5 : A.slots + (headSpec ws rm).room.slots ≤ R.slots := by rw [show (headSpec ws rm).room.slots = ms from hrs]; exact hp.2.1
  have hPc : Pc a (A.U.calling g mk a) := hblind _ _ _ _ hp.2.2
  obtain ⟨U, Ls, c0, s0⟩ := A
  dsimp only [Pt.U, Pt.locs, Pt.cells, Pt.slots] at h1 h2 h3 h4 h5 X hn hPc ⊢
  obtain ⟨methY, cY, hmY, hcY, -, hlY, -, -, -, -⟩ := Cond.code_spec hn h2
  obtain ⟨kY, hkY, -⟩ := className_of_methodNamed hn
  have hinitY : kY.init = .initialized := Cond.initialized_spec (findClass_of_methodNamed hn) hkY h3
  have h : At U g.method c below := by rw [hg]; exact X.here
  have hlocals9 : W9 + (maxL + 11) + (headSpec ws rm).room.locals ≤ R.locals := hlocals
  have happ : (headSpec ws rm).appliesLoose y e.platform (U.calling g mk a) = true :=
    Spec.appliesLoose_calling (g := g) h hdg hn hkY hinitY
      (X.room_calling (g := g) (R' := (headSpec ws rm).room) hsize hmY hcY hframes (by rw [hlY]; omega) h4 h5) h1
  obtain ⟨mid, hmid⟩ := h.above
  have hfr : (U.setTop g).frames = (.java g :: mid) ++ below := by rw [State.frames_setTop' g h.top, hmid]; rfl
  obtain ⟨o, s₂, hsteps, -, hend, hq⟩ := Steps.callFree hM p X.admits X.cas X.clock (acts := []) hfr happ hPc trivial
  have hq' : vx_Q Qc XC mc ms free a (U.calling g mk a) o s₂ := hq
  rw [State.frames_setTop' g h.top] at hend
  obtain ⟨g₀, hg0⟩ := Option.isSome_iff_exists.mp h.top
  obtain ⟨r, hr⟩ := State.topJava?_eq_some.mp hg0
  have hr' : (({ U with heap := s₂.heap, slotsUsed := s₂.slotsUsed } : State).setVm s₂.vm).frames = .java g₀ :: r := hr
  rcases hq' with ⟨hqc, L, hfe, hL⟩ | ⟨q, rfl, E, ce, L, hx, hce, hcv, hcl, hW₂, hsm, hL⟩
  · obtain ⟨⟨v, rfl⟩, hW₂, e2, q2, q3, q4, q5, q6⟩ := id hfe
    have e3 : s₂ = ({ (U.calling g mk a).setFrames s₂.frames with heap := s₂.heap, slotsUsed := s₂.slotsUsed } : State).setVm s₂.vm := by
      have : s₂ = ({ s₂ with vm := (U.calling g mk a).vm } : State).setVm s₂.vm := rfl
      rw [e2] at this
      exact this
    obtain ⟨c₂, i₂, len₂, hc₂, hd₂, hf₂⟩ := hend
    have hW' : U.WarmedH s₂.vm := hW₂
    have hcc : c₂ = c := by
      have h1 : s₂.code? g.method = U.code? g.method := by
        rw [State.code?_eq, State.code?_eq, hW'.alike.method?]
      exact Option.some.inj (hc₂.symm.trans (h1.trans h.code))
    subst hcc
    have hlen : len₂ = len := by rw [hdg] at hd₂; cases hd₂; rfl
    subst hlen
    have hs₂ : s₂ = (({ U with heap := s₂.heap, slotsUsed := s₂.slotsUsed } : State).setVm s₂.vm).setTop { g with pc := g.pc + len₂, stack := v.toList ++ g.stack } := by
      refine e3.trans ?_
      rw [hf₂, State.calling_eq h.top, State.setFrames_setFrames, State.setTop_of_frames _ hr', hr]
      rfl
    have hsame : U.sameButNew ({ U with heap := s₂.heap, slotsUsed := s₂.slotsUsed } : State) L mc ms := by
      refine ⟨?_, q2, q3, q4, q5, q6⟩
      obtain ⟨t, ht, -⟩ := State.frames_cons hr
      show ({ U with heap := s₂.heap, slotsUsed := s₂.slotsUsed } : State) = { U.setFrames U.frames with heap := s₂.heap, slotsUsed := s₂.slotsUsed }
      rw [State.setFrames_self ht]
    subst hg
    refine Or.inl ⟨v, ⟨(({ U with heap := s₂.heap, slotsUsed := s₂.slotsUsed } : State).setVm s₂.vm), Ls ++ L, c0 + mc, s0 + ms⟩,
      ⟨X.admits, X.cas, X.clock, X.frames, X.room, X.hears, X.method, X.code, (X.here.setHeapUsed s₂.heap s₂.slotsUsed).setVm hW'.alike, X.tail, State.WarmedH.trans X.warmed hW', X.limits, X.bytes, X.same.trans (hsame.setVm s.vm)⟩,
      ⟨g, mk, s₂, L, rfl, rfl, hqc, rfl, hL, rfl, rfl⟩, ?_⟩
    show Steps p.tables e below _ ((({ U with heap := s₂.heap, slotsUsed := s₂.slotsUsed } : State).setVm s₂.vm).setTop { g with pc := g.pc + len₂, stack := v.toList ++ g.stack })
    rw [← hs₂]
    exact hsteps
  · obtain ⟨e2, q2, q3, q4, q5, q6⟩ := id hsm
    have e3 : s₂ = ({ (U.calling g mk a).setFrames s₂.frames with heap := s₂.heap, slotsUsed := s₂.slotsUsed } : State).setVm s₂.vm := by
      have : s₂ = ({ s₂ with vm := (U.calling g mk a).vm } : State).setVm s₂.vm := rfl
      rw [e2] at this
      exact this
    have hf₂ : s₂.frames = .throwing q :: .java g :: U.frames.tail := hend
    have hW' : U.WarmedH s₂.vm := hW₂
    have hs₂ : s₂ = ((({ U with heap := s₂.heap, slotsUsed := s₂.slotsUsed } : State).setVm s₂.vm).setTop g).pushFrame (.throwing q) := by
      refine e3.trans ?_
      rw [hf₂, State.calling_eq h.top, State.setFrames_setFrames, State.pushFrame, State.frames_setTop _ hr', State.setTop_of_frames _ hr', State.setFrames_setFrames, hr]
      rfl
    have hsame : U.sameButNew ({ U with heap := s₂.heap, slotsUsed := s₂.slotsUsed } : State) L mc ms := by
      refine ⟨?_, q2, q3, q4, q5, q6⟩
      obtain ⟨t, ht, -⟩ := State.frames_cons hr
      show ({ U with heap := s₂.heap, slotsUsed := s₂.slotsUsed } : State) = { U.setFrames U.frames with heap := s₂.heap, slotsUsed := s₂.slotsUsed }
      rw [State.setFrames_self ht]
    subst hg
    refine Or.inr ⟨q, ⟨(({ U with heap := s₂.heap, slotsUsed := s₂.slotsUsed } : State).setVm s₂.vm), Ls ++ L, c0 + mc, s0 + ms⟩,
      ⟨X.admits, X.cas, X.clock, X.frames, X.room, X.hears, X.method, X.code, (X.here.setHeapUsed s₂.heap s₂.slotsUsed).setVm hW'.alike, X.tail, State.WarmedH.trans X.warmed hW', X.limits, X.bytes, X.same.trans (hsame.setVm s.vm)⟩,
      ⟨g, mk, s₂, L, E, ce, rfl, rfl, hx, hce, hcv, hcl, rfl, hL, rfl, rfl⟩, ?_⟩
    show Steps p.tables e below _ (((({ U with heap := s₂.heap, slotsUsed := s₂.slotsUsed } : State).setVm s₂.vm).setTop g).pushFrame (.throwing q))
    rw [← hs₂]
    exact hsteps
end Payer
section Calls
variable {p : Program} {l : Launch} {e : Env} {R : Room} {s : State} {m : MethodId} {args : Array Value} {below : List Frame} {meth : Method} {c : Code} {T : State} {locs : List Loc} {cells slots : Nat}
theorem vx_callV (X : Stand p l e R s m args below meth c T locs cells slots) (hexec : p.tables.exec = Jvm.exec) {own C : String} {index : Nat} {y : MethodName} {bytes : ByteArray} {maxL : Nat} {ret : Option FieldType}
    (hown : s.vm.findClass own = some m.cls) (hlink : (Cond.methodLink own index y).before args s = true) (hinst : (Cond.instanceMethod y).before args s = true) (hsel : (Cond.selects C y y).before args s = true)
    (hcode : (Cond.code y bytes maxL ret).before args s = true) (hy : y.cls ≠ "java/lang/invoke/MethodHandle" ∧ y.cls ≠ "java/lang/invoke/VarHandle")
    {W9 : Nat} {Pre : Pt → Array Value → Prop} {Post : Pt → Array Value → Option Value → Pt → Prop} {PostX : Pt → Array Value → Addr → Pt → Prop} (hK : vx_Back l R p e below s args y 3 W9 Pre Post PostX)
    {b : Addr} {cellB : Cell} (hcell : T.heap[b]? = some cellB) (hobj : cellB.vm.isStatics = false) (hcls : s.vm.findClass C = some cellB.cls)
    {g : JFrame} (hg : g.method = m) (hsize : g.locals.size = c.maxLocals) {argsL rest : List Value} (hlen : ∀ sig, parseMethodDescriptor y.desc = some sig → argsL.length = sig.parameters.length)
    (hstack : g.stack = argsL.reverse ++ .ref b :: rest) (hW : 2 * g.monitorRoom + (rest.map fun v => v.category).sum ≤ W9) (hdg : decode c.code g.pc = .ok (.invokevirtual index, 3))
    (hpre : ∀ vm₁, s.WarmedH vm₁ → Pre ⟨T.setVm vm₁, locs, cells, slots⟩ (Value.ref b :: argsL).toArray) :
    (∃ (v : Option Value) (vm₁ : Vm) (B : Pt), s.WarmedH vm₁ ∧ Stand p l e R s m args below meth c B.U B.locs B.cells B.slots ∧ Post ⟨T.setVm vm₁, locs, cells, slots⟩ (Value.ref b :: argsL).toArray v B ∧
      ∀ target, Steps p.tables e below (B.U.setTop { g with pc := g.pc + 3, stack := v.toList ++ rest }) target → Steps p.tables e below (T.setTop g) target) ∨
    (∃ (q : Addr) (vm₁ : Vm) (B : Pt), s.WarmedH vm₁ ∧ Stand p l e R s m args below meth c B.U B.locs B.cells B.slots ∧ PostX ⟨T.setVm vm₁, locs, cells, slots⟩ (Value.ref b :: argsL).toArray q B ∧
      Steps p.tables e below (T.setTop g) ((B.U.setTop { g with stack := rest }).pushFrame (.throwing q))) := by
  obtain ⟨mk, methM, hnamed, hmethM, hstM, habM⟩ := Cond.instanceMethod_spec hinst
  obtain ⟨methM', cM, hmethM', -, -, -, -, -, -, hsigM⟩ := Cond.code_spec hnamed hcode
  cases hmethM.symm.trans hmethM'
  obtain ⟨c2, r2, m2, q1, q2, q3, q4, kP, hkP, hkPi⟩ := Cond.selects_spec hsel
  cases hcls.symm.trans q1
  cases (State.methodFound?_of_named hnamed hy).symm.trans q2
  cases hnamed.symm.trans q3
  have hselP : selectMethod e.platform s.vm cellB.cls mk = .method mk := by rw [Launch.admits_selectMethod X.admits]; exact q4
  obtain ⟨vm₁, X₁, hstep₁⟩ := X.invokevirtual hexec hown hlink hnamed hmethM hstM hkP hkPi hy (a := b) (cell := cellB) hcell
    (fun z h => by rw [h] at hobj; cases hobj) hselP hmethM habM hkP hkPi (g := g) hg (argsL := argsL) (rest := rest) (hlen _ hsigM) hstack hdg
  rcases hK m meth c ⟨T.setVm vm₁, locs, cells, slots⟩ { g with stack := rest } (.invokevirtual index) mk (Value.ref b :: argsL).toArray X₁ hg hsize hdg hW (X₁.named hnamed) (hpre vm₁ X₁.warmed) with ⟨v, B, X', hpost, hsteps⟩ | ⟨q, B, X', hpost, hsteps⟩
  · exact Or.inl ⟨v, vm₁, B, X₁.warmed, X', hpost, fun target h => hstep₁ _ fun acts => by rw [doInvoke_state]; exact hsteps.trans h⟩
  · exact Or.inr ⟨q, vm₁, B, X₁.warmed, X', hpost, hstep₁ _ fun acts => by rw [doInvoke_state]; exact hsteps⟩
theorem vx_callS (X : Stand p l e R s m args below meth c T locs cells slots) (hexec : p.tables.exec = Jvm.exec) {own : String} {index : Nat} {y : MethodName} {bytes : ByteArray} {maxL : Nat} {ret : Option FieldType}
    (hown : s.vm.findClass own = some m.cls) (hlink : (Cond.methodLink own index y).before args s = true) (hstat : (Cond.static y).before args s = true) (hinit : (Cond.initialized y.cls).before args s = true)
    (hcode : (Cond.code y bytes maxL ret).before args s = true) (hy : y.cls ≠ "java/lang/invoke/MethodHandle" ∧ y.cls ≠ "java/lang/invoke/VarHandle")
    {W9 : Nat} {Pre : Pt → Array Value → Prop} {Post : Pt → Array Value → Option Value → Pt → Prop} {PostX : Pt → Array Value → Addr → Pt → Prop} (hK : vx_Back l R p e below s args y 3 W9 Pre Post PostX)
    {g : JFrame} (hg : g.method = m) (hsize : g.locals.size = c.maxLocals) {argsL rest : List Value} (hlen : ∀ sig, parseMethodDescriptor y.desc = some sig → argsL.length = sig.parameters.length)
    (hstack : g.stack = argsL.reverse ++ rest) (hW : 2 * g.monitorRoom + (rest.map fun v => v.category).sum ≤ W9) (hdg : decode c.code g.pc = .ok (.invokestatic index, 3))
    (hpre : ∀ vm₁, s.WarmedH vm₁ → Pre ⟨T.setVm vm₁, locs, cells, slots⟩ argsL.toArray) :
    (∃ (v : Option Value) (vm₁ : Vm) (B : Pt), s.WarmedH vm₁ ∧ Stand p l e R s m args below meth c B.U B.locs B.cells B.slots ∧ Post ⟨T.setVm vm₁, locs, cells, slots⟩ argsL.toArray v B ∧
      ∀ target, Steps p.tables e below (B.U.setTop { g with pc := g.pc + 3, stack := v.toList ++ rest }) target → Steps p.tables e below (T.setTop g) target) ∨
    (∃ (q : Addr) (vm₁ : Vm) (B : Pt), s.WarmedH vm₁ ∧ Stand p l e R s m args below meth c B.U B.locs B.cells B.slots ∧ PostX ⟨T.setVm vm₁, locs, cells, slots⟩ argsL.toArray q B ∧
      Steps p.tables e below (T.setTop g) ((B.U.setTop { g with stack := rest }).pushFrame (.throwing q))) := by
  obtain ⟨mk, hnamed⟩ := Cond.code_named hcode
  obtain ⟨methM, cM, hmethM, -, -, -, -, -, -, hsigM⟩ := Cond.code_spec hnamed hcode
  have hstatic : methM.isStatic = true := Cond.static_spec hnamed hmethM hstat
  obtain ⟨kP, hkP, -⟩ := className_of_methodNamed hnamed
  have hinitP : kP.init = .initialized := Cond.initialized_spec (findClass_of_methodNamed hnamed) hkP hinit
  obtain ⟨vm₁, X₁, hstep₁⟩ := X.invokestatic hexec hown hlink hnamed hmethM hstatic hkP hinitP hy (g := g) hg (argsL := argsL) (rest := rest) (hlen _ hsigM) hstack hdg
  rcases hK m meth c ⟨T.setVm vm₁, locs, cells, slots⟩ { g with stack := rest } (.invokestatic index) mk argsL.toArray X₁ hg hsize hdg hW (X₁.named hnamed) (hpre vm₁ X₁.warmed) with ⟨v, B, X', hpost, hsteps⟩ | ⟨q, B, X', hpost, hsteps⟩
  · exact Or.inl ⟨v, vm₁, B, X₁.warmed, X', hpost, fun target h => hstep₁ _ fun acts => by rw [doInvoke_state]; exact hsteps.trans h⟩
  · exact Or.inr ⟨q, vm₁, B, X₁.warmed, X', hpost, hstep₁ _ fun acts => by rw [doInvoke_state]; exact hsteps⟩
end Calls
theorem vx_cls {s : State} {T : State} {vm₁ : Vm} {E : String} {k : ClassId} (hW : s.WarmedH vm₁) (h : (T.setVm vm₁).vm.findClass E = some k) : s.vm.findClass E = some k := by
  have h1 : vm₁.findClass E = some k := h
  rw [hW.alike.findClass] at h1
  exact h1
/-- the method's frame g, with q thrown over it -/
def vx_W (p : Program) (l : Launch) (e : Env) (R : Room) (s : State) (m : MethodId) (args : Array Value) (below : List Frame) (meth : Method) (c : Code) (H : Heap) (locs : List Loc) (cells slots : Nat) (Q : State → Prop) (g : JFrame) (q : Addr) : Prop :=
  ∀ T : State, T.heap = H → Stand p l e R s m args below meth c T locs cells slots → ∃ t, Steps p.tables e below ((T.setTop g).pushFrame (.throwing q)) t ∧ Q t
def vx_Run (p : Program) (l : Launch) (e : Env) (R : Room) (s : State) (m : MethodId) (args : Array Value) (below : List Frame) (meth : Method) (c : Code) (H : Heap) (locs : List Loc) (cells slots mc ms : Nat) (g : JFrame) (rest : List Value) (Qa : State → Outcome → State → Prop) (XC : String → State → State → Prop) (free : Addr → Prop) : Prop :=
  ∀ T : State, T.heap = H → Stand p l e R s m args below meth c T locs cells slots →
    (∃ (v : Option Value) (st₀ t T' : State) (L : List Loc), st₀.heap = H ∧ Stand p l e R s m args below meth c T' (locs ++ L) (cells + mc) (slots + ms) ∧ (∀ q ∈ L, free q.base) ∧ T'.heap = t.heap ∧ T'.vm = t.vm ∧ Qa st₀ (.returned v) t ∧
      Goes p e below T g T' { g with pc := g.pc + 3, stack := v.toList ++ rest }) ∨
    (∃ (q : Addr) (st₀ t T' : State) (L : List Loc) (E : String) (ce : Cell), st₀.heap = H ∧ Stand p l e R s m args below meth c T' (locs ++ L) (cells + mc) (slots + ms) ∧ (∀ z ∈ L, free z.base) ∧ T'.heap = t.heap ∧ T'.vm = t.vm ∧ XC E st₀ t ∧ t.heap[q]? = some ce ∧ ce.vm = .none ∧ s.vm.findClass E = some ce.cls ∧
      Steps p.tables e below (T.setTop g) ((T'.setTop { g with stack := rest }).pushFrame (.throwing q)))
def vx_X {S : Type} (px : S → Prop) (B : String → S → State → Prop) (A : Nat → Prop) : String → State → State → Prop := fun E st t => ∃ u : S, px u ∧ B E u t ∧ va_F A st t
section Runs
variable {p : Program} {l : Launch} {e : Env} {R : Room} {s : State} {m : MethodId} {args : Array Value} {below : List Frame} {meth : Method} {c : Code} {H : Heap} {locs : List Loc} {cells slots : Nat}
variable {y : MethodName} {bytes cc : ByteArray} {maxL nL mc ms n index : Nat} {ret : Option FieldType} {ws : List Cond} {rm : Room} {Pc : Array Value → State → Prop} {Qc : Array Value → State → Outcome → State → Prop} {XC : String → State → State → Prop} {free : Addr → Prop} {Ts : List Cond} {own C : String} {b : Addr} {As rest : List Value} {g : JFrame}
theorem vx_callBack (cb : CallB R s args own index y bytes maxL ret ws rm mc ms n) (hM : vx_Met l y ws rm Pc Qc XC mc ms free) (hbl : FrameBlind Pc) : vx_Back l R p e below s args y 3 8 (PreOf R mc ms Pc) (PostOf Qc mc ms free) (vx_Post XC mc ms free) := by
  obtain ⟨hrc, hrs, hfr, hlo, hws, hcw, -, hini, -⟩ := cb
  exact vx_back (bytes := bytes) (maxL := maxL) (ret := ret) hM hbl hrc hrs hfr hlo hws hcw (fun a' U hW => word_at hW (Or.inl (by first | rfl | simp [Cond.onTables, Cond.keeps, Cond.steady])) hini)
theorem vx_runV (S : CallFix p m c cc nL s args Ts own) (hM : vx_Met l y ws rm Pc Qc XC mc ms free) (cw : CallW R s args own C index y bytes maxL ret ws rm mc ms n) (hp : PreV s H C b Pc As)
    (hg : g.method = m) (hn : As.length = n) (hsize : g.locals.size = nL) (hstack : g.stack = As.reverse ++ .ref b :: rest) (hW : 2 * g.monitorRoom + (rest.map fun v => v.category).sum ≤ 8) (hdg : decode cc g.pc = .ok (.invokevirtual index, 3)) (hf : cells + mc ≤ R.cells ∧ slots + ms ≤ R.slots) :
    vx_Run p l e R s m args below meth c H locs cells slots mc ms g rest (Qc (Value.ref b :: As).toArray) XC free := by
  have hK : vx_Back l R p e below s args y 3 8 (PreOf R mc ms Pc) (PostOf Qc mc ms free) (vx_Post XC mc ms free) := vx_callBack cw.1 hM hp.1
  obtain ⟨⟨-, -, -, -, -, -, hcode, -, hy, hlen, hl⟩, hin, hse⟩ := cw
  obtain ⟨hx, hb, hml, ho, -⟩ := S
  obtain ⟨-, ⟨cellB, hcB, hoB, hclB⟩, hPc⟩ := hp
  intro T hT X
  rcases vx_callV X hx (C := C) (bytes := bytes) (maxL := maxL) (ret := ret) ho hl hin hse hcode hy hK (by rw [hT]; exact hcB) hoB hclB hg (hsize.trans hml.symm) (argsL := As) (rest := rest) (fun sig h => hn.trans (hlen sig h)) hstack hW (by rw [hb]; exact hdg)
    (fun vm₁ hW₁ => ⟨hf.1, hf.2, hPc (T.setVm vm₁) hT hW₁⟩) with ⟨v, vm₁, ⟨U', l2, c2, s2⟩, hW₁, X', ⟨g', mk, t, L, e1, e2, hq, h1, hL, h2, h3⟩, st⟩ | ⟨q, vm₁, ⟨U', l2, c2, s2⟩, hW₁, X', ⟨g', mk, t, L, E, ce, e1, e2, hq, hce, hcv, hcl, h1, hL, h2, h3⟩, st⟩
  · dsimp only [Pt.U, Pt.locs, Pt.cells, Pt.slots] at X' e1 e2 h1 h2 h3 st
    subst h1; subst h2; subst h3
    exact Or.inl ⟨v, (T.setVm vm₁).calling g' mk (Value.ref b :: As).toArray, t, U', L, hT, X', hL, e1, e2, hq, st⟩
  · dsimp only [Pt.U, Pt.locs, Pt.cells, Pt.slots] at X' e1 e2 h1 h2 h3 st hcl
    subst h1; subst h2; subst h3
    exact Or.inr ⟨q, (T.setVm vm₁).calling g' mk (Value.ref b :: As).toArray, t, U', L, E, ce, hT, X', hL, e1, e2, hq, hce, hcv, vx_cls hW₁ hcl, st⟩
theorem vx_runS (S : CallFix p m c cc nL s args Ts own) (hM : vx_Met l y ws rm Pc Qc XC mc ms free) (cw : CallB R s args own index y bytes maxL ret ws rm mc ms n ∧ (Cond.static y).before args s = true) (hp : PreS s H Pc As)
    (hg : g.method = m) (hn : As.length = n) (hsize : g.locals.size = nL) (hstack : g.stack = As.reverse ++ rest) (hW : 2 * g.monitorRoom + (rest.map fun v => v.category).sum ≤ 8) (hdg : decode cc g.pc = .ok (.invokestatic index, 3)) (hf : cells + mc ≤ R.cells ∧ slots + ms ≤ R.slots) :
    vx_Run p l e R s m args below meth c H locs cells slots mc ms g rest (Qc As.toArray) XC free := by
  have hK : vx_Back l R p e below s args y 3 8 (PreOf R mc ms Pc) (PostOf Qc mc ms free) (vx_Post XC mc ms free) := vx_callBack cw.1 hM hp.1
  obtain ⟨⟨-, -, -, -, -, -, hcode, hini, hy, hlen, hl⟩, hstt⟩ := cw
  obtain ⟨hx, hb, hml, ho, -⟩ := S
  intro T hT X
  rcases vx_callS X hx (bytes := bytes) (maxL := maxL) (ret := ret) ho hl hstt hini hcode hy hK hg (hsize.trans hml.symm) (argsL := As) (rest := rest) (fun sig h => hn.trans (hlen sig h)) hstack hW (by rw [hb]; exact hdg)
    (fun vm₁ hW₁ => ⟨hf.1, hf.2, hp.2 (T.setVm vm₁) hT hW₁⟩) with ⟨v, vm₁, ⟨U', l2, c2, s2⟩, hW₁, X', ⟨g', mk, t, L, e1, e2, hq, h1, hL, h2, h3⟩, st⟩ | ⟨q, vm₁, ⟨U', l2, c2, s2⟩, hW₁, X', ⟨g', mk, t, L, E, ce, e1, e2, hq, hce, hcv, hcl, h1, hL, h2, h3⟩, st⟩
  · dsimp only [Pt.U, Pt.locs, Pt.cells, Pt.slots] at X' e1 e2 h1 h2 h3 st
    subst h1; subst h2; subst h3
    exact Or.inl ⟨v, (T.setVm vm₁).calling g' mk As.toArray, t, U', L, hT, X', hL, e1, e2, hq, st⟩
  · dsimp only [Pt.U, Pt.locs, Pt.cells, Pt.slots] at X' e1 e2 h1 h2 h3 st hcl
    subst h1; subst h2; subst h3
    exact Or.inr ⟨q, (T.setVm vm₁).calling g' mk As.toArray, t, U', L, E, ce, hT, X', hL, e1, e2, hq, hce, hcv, vx_cls hW₁ hcl, st⟩
end Runs
section Rows
variable {p : Program} {l : Launch} {e : Env} {R : Room} {s : State} {m : MethodId} {args : Array Value} {below : List Frame} {meth : Method} {c : Code} {H : Heap} {locs : List Loc} {cells slots : Nat} {Q : State → Prop}
variable {mc ms : Nat} {free : Addr → Prop} {A0 A1 : Nat → Prop} {H0 : Heap} {a : Array Value} {pc : Nat} {ls : Array Slot} {st0 rest : List Value}
theorem vx_keep {st₀ t T' : State} {L : List Loc} (h0 : st₀.heap = H) (e1 : T'.heap = t.heap) (hS : va_S A0 H0 H locs) (hA : ∀ q, q < H.size → A1 q → A0 q) (hf : ∀ q, free q → A0 q) (hL : ∀ q ∈ L, free q.base) (hF : va_F A1 st₀ t) :
    H.size ≤ T'.heap.size ∧ (∀ q : Nat, q < H.size → ¬ A1 q → T'.heap[q]? = H[q]?) ∧ va_S A0 H0 T'.heap (locs ++ L) := by
  obtain ⟨hz, hk⟩ := hF
  rw [h0] at hz hk
  exact ⟨by rw [e1]; exact hz, fun q h1 h2 => by rw [e1]; exact hk q h1 h2,
    ⟨Nat.le_trans hS.1 (by rw [e1]; exact hz), fun q h1 h2 => by rw [e1, hk q (Nat.lt_of_lt_of_le h1 hS.1) (fun z => h2 (hA q (Nat.lt_of_lt_of_le h1 hS.1) z))]; exact hS.2.1 q h1 h2, fun q hq => by
      rcases List.mem_append.mp hq with h | h
      · exact hS.2.2 q h
      · exact hf _ (hL q h)⟩⟩
theorem vx_calli {S SX : Type} {post : Int32 → S → Prop} {px : SX → Prop} {B : S → State → Prop} {BX : String → SX → State → Prop} {AX : Nat → Prop} (hr : vx_Run p l e R s m args below meth c H locs cells slots mc ms (F0 m pc ls st0) rest (va_Qi post B A1 a) (vx_X px BX AX) free) (hS : va_S A0 H0 H locs) (hA : ∀ q, q < H.size → A1 q → A0 q) (hf : ∀ q, free q → A0 q) (hAX : ∀ q, q < H.size → AX q → A0 q)
    (kx : ∀ (E : String) (ce : Cell) (q9 : Addr) (u : SX) (t : State) (H1 : Heap) (locs1 : List Loc), t.heap = H1 → s.vm.Alike t.vm → px u → BX E u t → H.size ≤ H1.size → (∀ q : Nat, q < H.size → ¬ AX q → H1[q]? = H[q]?) → va_S A0 H0 H1 locs1 → H1[q9]? = some ce → ce.vm = .none → s.vm.findClass E = some ce.cls → vx_W p l e R s m args below meth c H1 locs1 (cells + mc) (slots + ms) Q (F0 m pc ls rest) q9)
    (kk : ∀ (r : Int32) (u : S) (t : State) (H1 : Heap) (locs1 : List Loc), t.heap = H1 → s.vm.Alike t.vm → post r u → B u t → H.size ≤ H1.size → (∀ q : Nat, q < H.size → ¬ A1 q → H1[q]? = H[q]?) → va_S A0 H0 H1 locs1 → W p l e R s m args below meth c H1 locs1 (cells + mc) (slots + ms) Q (F0 m (pc + 3) ls (.int r :: rest))) : W p l e R s m args below meth c H locs cells slots Q (F0 m pc ls st0) := by
  intro T hT X
  rcases hr T hT X with ⟨v, st₀, t, T', L, h0, X', hL, e1, e2, ⟨⟨r, u, hv, hp, hb⟩, hF⟩, st⟩ | ⟨q, st₀, t, T', L, E, ce, h0, X', hL, e1, e2, ⟨u, hp, hb, hF⟩, hce, hcv, hcl, st⟩
  · cases hv
    obtain ⟨k1, k2, k3⟩ := vx_keep h0 e1 hS hA hf hL hF
    obtain ⟨t2, a1, b1⟩ := kk r u t T'.heap (locs ++ L) e1.symm (by rw [← e2]; exact X'.warmed.alike) hp hb k1 k2 k3 T' rfl X'
    exact ⟨t2, st t2 a1, b1⟩
  · obtain ⟨k1, k2, k3⟩ := vx_keep h0 e1 hS hAX hf hL hF
    obtain ⟨t2, a1, b1⟩ := kx E ce q u t T'.heap (locs ++ L) e1.symm (by rw [← e2]; exact X'.warmed.alike) hp hb k1 k2 k3 (by rw [e1]; exact hce) hcv hcl T' rfl X'
    exact ⟨t2, st.trans a1, b1⟩
theorem vx_calll {S SX : Type} {post : Int64 → S → Prop} {px : SX → Prop} {B : S → State → Prop} {BX : String → SX → State → Prop} {AX : Nat → Prop} (hr : vx_Run p l e R s m args below meth c H locs cells slots mc ms (F0 m pc ls st0) rest (va_Ql post B A1 a) (vx_X px BX AX) free) (hS : va_S A0 H0 H locs) (hA : ∀ q, q < H.size → A1 q → A0 q) (hf : ∀ q, free q → A0 q) (hAX : ∀ q, q < H.size → AX q → A0 q)
    (kx : ∀ (E : String) (ce : Cell) (q9 : Addr) (u : SX) (t : State) (H1 : Heap) (locs1 : List Loc), t.heap = H1 → s.vm.Alike t.vm → px u → BX E u t → H.size ≤ H1.size → (∀ q : Nat, q < H.size → ¬ AX q → H1[q]? = H[q]?) → va_S A0 H0 H1 locs1 → H1[q9]? = some ce → ce.vm = .none → s.vm.findClass E = some ce.cls → vx_W p l e R s m args below meth c H1 locs1 (cells + mc) (slots + ms) Q (F0 m pc ls rest) q9)
    (kk : ∀ (r : Int64) (u : S) (t : State) (H1 : Heap) (locs1 : List Loc), t.heap = H1 → s.vm.Alike t.vm → post r u → B u t → H.size ≤ H1.size → (∀ q : Nat, q < H.size → ¬ A1 q → H1[q]? = H[q]?) → va_S A0 H0 H1 locs1 → W p l e R s m args below meth c H1 locs1 (cells + mc) (slots + ms) Q (F0 m (pc + 3) ls (.long r :: rest))) : W p l e R s m args below meth c H locs cells slots Q (F0 m pc ls st0) := by
  intro T hT X
  rcases hr T hT X with ⟨v, st₀, t, T', L, h0, X', hL, e1, e2, ⟨⟨r, u, hv, hp, hb⟩, hF⟩, st⟩ | ⟨q, st₀, t, T', L, E, ce, h0, X', hL, e1, e2, ⟨u, hp, hb, hF⟩, hce, hcv, hcl, st⟩
  · cases hv
    obtain ⟨k1, k2, k3⟩ := vx_keep h0 e1 hS hA hf hL hF
    obtain ⟨t2, a1, b1⟩ := kk r u t T'.heap (locs ++ L) e1.symm (by rw [← e2]; exact X'.warmed.alike) hp hb k1 k2 k3 T' rfl X'
    exact ⟨t2, st t2 a1, b1⟩
  · obtain ⟨k1, k2, k3⟩ := vx_keep h0 e1 hS hAX hf hL hF
    obtain ⟨t2, a1, b1⟩ := kx E ce q u t T'.heap (locs ++ L) e1.symm (by rw [← e2]; exact X'.warmed.alike) hp hb k1 k2 k3 (by rw [e1]; exact hce) hcv hcl T' rfl X'
    exact ⟨t2, st.trans a1, b1⟩
theorem vx_callf {S SX : Type} {post : UInt32 → S → Prop} {px : SX → Prop} {B : S → State → Prop} {BX : String → SX → State → Prop} {AX : Nat → Prop} (hr : vx_Run p l e R s m args below meth c H locs cells slots mc ms (F0 m pc ls st0) rest (va_Qf post B A1 a) (vx_X px BX AX) free) (hS : va_S A0 H0 H locs) (hA : ∀ q, q < H.size → A1 q → A0 q) (hf : ∀ q, free q → A0 q) (hAX : ∀ q, q < H.size → AX q → A0 q)
    (kx : ∀ (E : String) (ce : Cell) (q9 : Addr) (u : SX) (t : State) (H1 : Heap) (locs1 : List Loc), t.heap = H1 → s.vm.Alike t.vm → px u → BX E u t → H.size ≤ H1.size → (∀ q : Nat, q < H.size → ¬ AX q → H1[q]? = H[q]?) → va_S A0 H0 H1 locs1 → H1[q9]? = some ce → ce.vm = .none → s.vm.findClass E = some ce.cls → vx_W p l e R s m args below meth c H1 locs1 (cells + mc) (slots + ms) Q (F0 m pc ls rest) q9)
    (kk : ∀ (r : UInt32) (u : S) (t : State) (H1 : Heap) (locs1 : List Loc), t.heap = H1 → s.vm.Alike t.vm → post r u → B u t → H.size ≤ H1.size → (∀ q : Nat, q < H.size → ¬ A1 q → H1[q]? = H[q]?) → va_S A0 H0 H1 locs1 → W p l e R s m args below meth c H1 locs1 (cells + mc) (slots + ms) Q (F0 m (pc + 3) ls (.float r :: rest))) : W p l e R s m args below meth c H locs cells slots Q (F0 m pc ls st0) := by
  intro T hT X
  rcases hr T hT X with ⟨v, st₀, t, T', L, h0, X', hL, e1, e2, ⟨⟨r, u, hv, hp, hb⟩, hF⟩, st⟩ | ⟨q, st₀, t, T', L, E, ce, h0, X', hL, e1, e2, ⟨u, hp, hb, hF⟩, hce, hcv, hcl, st⟩
  · cases hv
    obtain ⟨k1, k2, k3⟩ := vx_keep h0 e1 hS hA hf hL hF
    obtain ⟨t2, a1, b1⟩ := kk r u t T'.heap (locs ++ L) e1.symm (by rw [← e2]; exact X'.warmed.alike) hp hb k1 k2 k3 T' rfl X'
    exact ⟨t2, st t2 a1, b1⟩
  · obtain ⟨k1, k2, k3⟩ := vx_keep h0 e1 hS hAX hf hL hF
    obtain ⟨t2, a1, b1⟩ := kx E ce q u t T'.heap (locs ++ L) e1.symm (by rw [← e2]; exact X'.warmed.alike) hp hb k1 k2 k3 (by rw [e1]; exact hce) hcv hcl T' rfl X'
    exact ⟨t2, st.trans a1, b1⟩
theorem vx_calld {S SX : Type} {post : UInt64 → S → Prop} {px : SX → Prop} {B : S → State → Prop} {BX : String → SX → State → Prop} {AX : Nat → Prop} (hr : vx_Run p l e R s m args below meth c H locs cells slots mc ms (F0 m pc ls st0) rest (va_Qd post B A1 a) (vx_X px BX AX) free) (hS : va_S A0 H0 H locs) (hA : ∀ q, q < H.size → A1 q → A0 q) (hf : ∀ q, free q → A0 q) (hAX : ∀ q, q < H.size → AX q → A0 q)
    (kx : ∀ (E : String) (ce : Cell) (q9 : Addr) (u : SX) (t : State) (H1 : Heap) (locs1 : List Loc), t.heap = H1 → s.vm.Alike t.vm → px u → BX E u t → H.size ≤ H1.size → (∀ q : Nat, q < H.size → ¬ AX q → H1[q]? = H[q]?) → va_S A0 H0 H1 locs1 → H1[q9]? = some ce → ce.vm = .none → s.vm.findClass E = some ce.cls → vx_W p l e R s m args below meth c H1 locs1 (cells + mc) (slots + ms) Q (F0 m pc ls rest) q9)
    (kk : ∀ (r : UInt64) (u : S) (t : State) (H1 : Heap) (locs1 : List Loc), t.heap = H1 → s.vm.Alike t.vm → post r u → B u t → H.size ≤ H1.size → (∀ q : Nat, q < H.size → ¬ A1 q → H1[q]? = H[q]?) → va_S A0 H0 H1 locs1 → W p l e R s m args below meth c H1 locs1 (cells + mc) (slots + ms) Q (F0 m (pc + 3) ls (.double r :: rest))) : W p l e R s m args below meth c H locs cells slots Q (F0 m pc ls st0) := by
  intro T hT X
  rcases hr T hT X with ⟨v, st₀, t, T', L, h0, X', hL, e1, e2, ⟨⟨r, u, hv, hp, hb⟩, hF⟩, st⟩ | ⟨q, st₀, t, T', L, E, ce, h0, X', hL, e1, e2, ⟨u, hp, hb, hF⟩, hce, hcv, hcl, st⟩
  · cases hv
    obtain ⟨k1, k2, k3⟩ := vx_keep h0 e1 hS hA hf hL hF
    obtain ⟨t2, a1, b1⟩ := kk r u t T'.heap (locs ++ L) e1.symm (by rw [← e2]; exact X'.warmed.alike) hp hb k1 k2 k3 T' rfl X'
    exact ⟨t2, st t2 a1, b1⟩
  · obtain ⟨k1, k2, k3⟩ := vx_keep h0 e1 hS hAX hf hL hF
    obtain ⟨t2, a1, b1⟩ := kx E ce q u t T'.heap (locs ++ L) e1.symm (by rw [← e2]; exact X'.warmed.alike) hp hb k1 k2 k3 (by rw [e1]; exact hce) hcv hcl T' rfl X'
    exact ⟨t2, st.trans a1, b1⟩
theorem vx_callv {S SX : Type} {post : S → Prop} {px : SX → Prop} {B : S → State → Prop} {BX : String → SX → State → Prop} {AX : Nat → Prop} (hr : vx_Run p l e R s m args below meth c H locs cells slots mc ms (F0 m pc ls st0) rest (va_Qv post B A1 a) (vx_X px BX AX) free) (hS : va_S A0 H0 H locs) (hA : ∀ q, q < H.size → A1 q → A0 q) (hf : ∀ q, free q → A0 q) (hAX : ∀ q, q < H.size → AX q → A0 q)
    (kx : ∀ (E : String) (ce : Cell) (q9 : Addr) (u : SX) (t : State) (H1 : Heap) (locs1 : List Loc), t.heap = H1 → s.vm.Alike t.vm → px u → BX E u t → H.size ≤ H1.size → (∀ q : Nat, q < H.size → ¬ AX q → H1[q]? = H[q]?) → va_S A0 H0 H1 locs1 → H1[q9]? = some ce → ce.vm = .none → s.vm.findClass E = some ce.cls → vx_W p l e R s m args below meth c H1 locs1 (cells + mc) (slots + ms) Q (F0 m pc ls rest) q9)
    (kk : ∀ (u : S) (t : State) (H1 : Heap) (locs1 : List Loc), t.heap = H1 → s.vm.Alike t.vm → post u → B u t → H.size ≤ H1.size → (∀ q : Nat, q < H.size → ¬ A1 q → H1[q]? = H[q]?) → va_S A0 H0 H1 locs1 → W p l e R s m args below meth c H1 locs1 (cells + mc) (slots + ms) Q (F0 m (pc + 3) ls (rest))) : W p l e R s m args below meth c H locs cells slots Q (F0 m pc ls st0) := by
  intro T hT X
  rcases hr T hT X with ⟨v, st₀, t, T', L, h0, X', hL, e1, e2, ⟨⟨u, hv, hp, hb⟩, hF⟩, st⟩ | ⟨q, st₀, t, T', L, E, ce, h0, X', hL, e1, e2, ⟨u, hp, hb, hF⟩, hce, hcv, hcl, st⟩
  · cases hv
    obtain ⟨k1, k2, k3⟩ := vx_keep h0 e1 hS hA hf hL hF
    obtain ⟨t2, a1, b1⟩ := kk u t T'.heap (locs ++ L) e1.symm (by rw [← e2]; exact X'.warmed.alike) hp hb k1 k2 k3 T' rfl X'
    exact ⟨t2, st t2 a1, b1⟩
  · obtain ⟨k1, k2, k3⟩ := vx_keep h0 e1 hS hAX hf hL hF
    obtain ⟨t2, a1, b1⟩ := kx E ce q u t T'.heap (locs ++ L) e1.symm (by rw [← e2]; exact X'.warmed.alike) hp hb k1 k2 k3 (by rw [e1]; exact hce) hcv hcl T' rfl X'
    exact ⟨t2, st.trans a1, b1⟩
/-- caught by the row x of this method's table; the rows ahead don't take it -/
theorem vx_catch {own name : String} {E : String} {ce : Cell} {q : Addr} (hown : s.vm.findClass own = some m.cls) (pre : List ExceptionTableEntry) (x : ExceptionTableEntry) (suf : List ExceptionTableEntry) (hsplit : c.exceptionTable.toList = pre ++ x :: suf)
    (hpass : ∀ z ∈ pre, covers z pc = false ∨ (z.catchType ≠ 0 ∧ ∃ nm : String, (Cond.classLink own z.catchType nm).before args s = true ∧ va_Nc E nm s)) (hx : covers x pc = true) (h0 : x.catchType ≠ 0)
    (hlink : (Cond.classLink own x.catchType name).before args s = true) (hcast : (Cond.castable E name).before args s = true) (hcell : H[q]? = some ce) (hv : ce.vm = .none) (hcl : s.vm.findClass E = some ce.cls)
    (kk : W p l e R s m args below meth c H locs cells slots Q (F0 m x.handlerPc ls [.ref q])) : vx_W p l e R s m args below meth c H locs cells slots Q (F0 m pc ls rest) q := by
  intro T hT X
  have hpl : e.platform.magicAccessors = ({} : Platform).magicAccessors := by rw [X.admits.platform]
  obtain ⟨c3, c4, hc3, hc4, hasg⟩ := Cond.castable_spec hcast
  cases Option.some.inj (hc3.symm.trans hcl)
  obtain ⟨c5, hc5, hcl5⟩ := Cond.classLink_spec hown hlink e.platform hpl
  cases Option.some.inj (hc4.symm.trans hc5)
  obtain ⟨vm', X', st⟩ := X.thenCaughtThrough q (g := F0 m pc ls rest) rfl (Steps.refl _) (by rw [hT]; exact hcell) (by rw [hv]; rfl) (by obtain ⟨k9, h9, -⟩ := Vm.findClass_spec hcl; exact ⟨k9, h9⟩) pre x suf hsplit
    (fun z hz => by
      rcases hpass z hz with h | ⟨hz0, nm, hl1, hn1⟩
      · exact Or.inl h
      · obtain ⟨c6, hc6, hcl6⟩ := Cond.classLink_spec hown hl1 e.platform hpl
        obtain ⟨a8, b8, h1, h2, h3⟩ := hn1
        cases Option.some.inj (h1.symm.trans hcl)
        cases Option.some.inj (h2.symm.trans hc6)
        exact Or.inr ⟨hz0, _, hcl6, h3⟩) hx (Or.inr ⟨h0, c4, hcl5, hasg⟩)
  obtain ⟨t, a1, b1⟩ := kk (T.setVm vm') hT X'
  exact ⟨t, st.trans a1, b1⟩
end Rows
section Ends
variable {p : Program} {l : Launch} {e : Env} {R : Room} {s : State} {m : MethodId} {args : Array Value} {below : List Frame} {meth : Method} {c : Code} {H : Heap} {locs : List Loc} {cells slots : Nat} {Q : State → Prop}
variable {mc ms : Nat} {free : Addr → Prop} {A0 A1 : Nat → Prop} {H0 : Heap} {a : Array Value} {ls : Array Slot} {st0 rest : List Value}
variable {Qc : Array Value → State → Outcome → State → Prop} {XC : String → State → State → Prop}
/-- what a body that may throw owes at its end -/
def vx_MQ (below : List Frame) (Qc : Array Value → State → Outcome → State → Prop) (XC : String → State → State → Prop) (a : Array Value) (s : State) (mc ms : Nat) (free : Addr → Prop) : State → Prop := fun t =>
  ∃ o, t.status = .running ∧ Ended t below o ∧ vx_Q Qc XC mc ms free a s o t
theorem vx_ret {g : JFrame} {mc ms : Nat} (k : W p l e R s m args below meth c H locs cells slots (MQ below Qc args s mc ms free) g) : W p l e R s m args below meth c H locs cells slots (vx_MQ below Qc XC args s mc ms free) g := by
  intro T hT X
  obtain ⟨t, a1, o, b1, b2, b3, b4⟩ := k T hT X
  exact ⟨t, a1, o, b1, b2, Or.inl ⟨b3, b4⟩⟩
/-- not caught here: it goes on to the caller -/
theorem vx_widen {g : JFrame} {q : Addr} {k n : Nat} (h1 : cells ≤ k) (h2 : slots ≤ n) (kk : vx_W p l e R s m args below meth c H locs k n Q g q) : vx_W p l e R s m args below meth c H locs cells slots Q g q := fun T hT X => kk T hT (stand_widen X h1 h2)
theorem vx_out {pc : Nat} {E : String} {ce : Cell} {q : Addr} {mc ms : Nat} (hout : ∀ x ∈ c.exceptionTable.toList, covers x pc = false) (hlocks : meth.locks = false) (hcell : H[q]? = some ce) (hv : ce.vm = .none) (hcl : s.vm.findClass E = some ce.cls)
    (hx : ∀ t : State, t.heap = H → s.vm.Alike t.vm → XC E s t) (hf : ∀ z ∈ locs, free z.base) (hc : cells ≤ mc) (hs : slots ≤ ms) :
    vx_W p l e R s m args below meth c H locs cells slots (vx_MQ below Qc XC args s mc ms free) (F0 m pc ls rest) q := by
  intro T hT X
  obtain ⟨st1, hrun, hend, hW, hsm⟩ := X.leaveThrown q (g := F0 m pc ls rest) rfl rfl rfl hout hlocks
  have hcell9 : (T.setFrames (.throwing q :: below)).heap[q]? = some ce := by
    show T.heap[q]? = some ce
    rw [hT]; exact hcell
  exact ⟨_, st1, .threw q, hrun, hend, Or.inr ⟨q, rfl, E, ce, locs, hx _ hT hW.alike, hcell9, hv, hcl, hW, hsm.mono hc hs, hf⟩⟩
theorem vx_frame {U : State} {k n : Nat} (h : s.sameButNew ({ U with vm := s.vm } : State) locs k n) : s.heap.size ≤ U.heap.size ∧ ∀ q : Nat, q < s.heap.size → (∀ z ∈ locs, z.base ≠ q) → U.heap[q]? = s.heap[q]? := by
  obtain ⟨-, h2, -, -, -, h6⟩ := h
  refine ⟨h2, fun q hq hz => ?_⟩
  obtain ⟨c9, e1, e2, e3, e4⟩ := h6 q _ (Array.getElem?_eq_getElem hq)
  have hs : c9.slots = (s.heap[q]).slots := Array.ext_getElem? fun i => e4 i fun hm => hz _ hm rfl
  have h9 : c9 = s.heap[q] := by
    rw [hs] at e2
    exact e2
  have e5 : U.heap[q]? = some c9 := e1
  rw [e5, h9, Array.getElem?_eq_getElem hq]
/-- the words of a throw but the four that speak of the heap -/
def vx_no (w : Cond) : Bool := decide (w ≠ .isRef (.static Bundle.tN "UNASSIGNED_STACK" Bundle.steD)) && decide (w ≠ .isRef (.static Bundle.tN "SUPPRESSED_SENTINEL" Bundle.listD)) && decide (w ≠ .laysStatic Bundle.tN "UNASSIGNED_STACK" Bundle.steD) && decide (w ≠ .laysStatic Bundle.tN "SUPPRESSED_SENTINEL" Bundle.listD)
def vx_at0 (own : String) (ic : Nat) (X : String) (names : List String) : List Cond := (Bundle.ownAtoms0 own ic X names).filter vx_no
def vx_atS (own : String) (ic : Nat) (X : String) (names : List String) : List Cond := (Bundle.ownAtoms own ic X names).filter vx_no
/-- a word that the tables alone decide, or a good one -/
def vx_ot (w : Cond) : Bool := w.onTables || goodWord w
theorem vx_ot_at {args a' : Array Value} {s U : State} {w : Cond} (hW : s.WarmedH U.vm) (hvm : s.vm = U.vm) (hg : vx_ot w = true) (h : w.before args s = true) : w.before a' U = true := by
  simp only [vx_ot, Bool.or_eq_true] at hg
  rcases hg with hg | hg
  · exact va_tabs hg hvm h
  · exact word_at hW (good_of_word hg) h
/-- a list's words: the good ones out of the method's own list, the others by premises of their own -/
theorem vx_hat {args : Array Value} {s : State} {L B : List Cond} (h1 : ∀ w ∈ L.filter goodWord, w.before args s = true) (h2 : ∀ w ∈ L.filter (fun w => !goodWord w), w ∈ B) (h3 : ∀ w ∈ B, w.before args s = true) : ∀ w ∈ L, w.before args s = true := by
  intro w hw
  by_cases g : goodWord w = true
  · exact h1 w (List.mem_filter.mpr ⟨hw, g⟩)
  · refine h3 w (h2 w (List.mem_filter.mpr ⟨hw, ?_⟩))
    show (!goodWord w) = true
    cases hgw : goodWord w
    · rfl
    · exact absurd hgw g
theorem vx_c {args : Array Value} {s : State} {w : Cond} {B : List Cond} (h : w.before args s = true) (t : ∀ w ∈ B, w.before args s = true) : ∀ w' ∈ w :: B, w'.before args s = true := fun w' h' => (List.mem_cons.mp h').elim (fun e => by rw [e]; exact h) (t w')
theorem vx_n {args : Array Value} {s : State} : ∀ w ∈ ([] : List Cond), w.before args s = true := fun _ h => nomatch h
theorem vx_own {args : Array Value} {s : State} {L : List Cond} (h1 : ∀ w ∈ L.filter vx_no, w.before args s = true)
    (hU : (Cond.isRef (.static Bundle.tN "UNASSIGNED_STACK" Bundle.steD)).before args s = true) (hN : (Cond.isRef (.static Bundle.tN "SUPPRESSED_SENTINEL" Bundle.listD)).before args s = true)
    (lU : (Cond.laysStatic Bundle.tN "UNASSIGNED_STACK" Bundle.steD).before args s = true) (lN : (Cond.laysStatic Bundle.tN "SUPPRESSED_SENTINEL" Bundle.listD).before args s = true) : ∀ w ∈ L, w.before args s = true := by
  intro w hw
  by_cases e1 : w = .isRef (.static Bundle.tN "UNASSIGNED_STACK" Bundle.steD)
  · rw [e1]; exact hU
  · by_cases e2 : w = .isRef (.static Bundle.tN "SUPPRESSED_SENTINEL" Bundle.listD)
    · rw [e2]; exact hN
    · by_cases e3 : w = .laysStatic Bundle.tN "UNASSIGNED_STACK" Bundle.steD
      · rw [e3]; exact lU
      · by_cases e4 : w = .laysStatic Bundle.tN "SUPPRESSED_SENTINEL" Bundle.listD
        · rw [e4]; exact lN
        · exact h1 w (List.mem_filter.mpr ⟨hw, by unfold vx_no; rw [decide_eq_true e1, decide_eq_true e2, decide_eq_true e3, decide_eq_true e4]; rfl⟩)
/-- where a static field lies, its class's statics cell in H -/
def vx_L (C n d : String) (A : Nat → Prop) (U : State) (H : Heap) : Prop := ∃ (c : ClassId) (k : Class) (i : Nat) (f : Field) (a : Nat) (cell : Cell), U.vm.findClass C = some c ∧ U.fieldFound? C n d = some (c, k, i, f) ∧ f.isStatic = true ∧ k.statics = some a ∧ H[a]? = some cell ∧ cell.vm.isStatics = true ∧ cell.cls = c ∧ f.slot < cell.slots.size ∧ k.staticTypes[f.slot]? = some f.type ∧ ¬ A a
theorem vx_L.moved {C n d : String} {A : Nat → Prop} {u U : State} {H : Heap} (hvm : u.vm.Alike U.vm) (h : vx_L C n d A u H) : vx_L C n d A U H := by
  obtain ⟨c, k, i, f, a, cell, h1, h2, h3, h4, h5, h6, h7, h8, h9, h10⟩ := h
  obtain ⟨k', hi', he⟩ := State.fieldFound?_setVm hvm h2
  exact ⟨c, k', i, f, a, cell, by rw [hvm.findClass]; exact h1, hi', h3, by rw [he]; exact h4, h5, h6, h7, h8, by rw [he]; exact h9, h10⟩
theorem vx_L.kept {C n d : String} {A : Nat → Prop} {U : State} {H H1 : Heap} (h : vx_L C n d A U H) (hq : ∀ a : Nat, a < H.size → ¬ A a → H1[a]? = H[a]?) : vx_L C n d A U H1 := by
  obtain ⟨c, k, i, f, a, cell, h1, h2, h3, h4, h5, h6, h7, h8, h9, h10⟩ := h
  exact ⟨c, k, i, f, a, cell, h1, h2, h3, h4, by rw [hq a (Array.getElem?_eq_some_iff.mp h5).1 h10]; exact h5, h6, h7, h8, h9, h10⟩
theorem vx_L.narrow {C n d : String} {A B : Nat → Prop} {U : State} {H : Heap} (h : vx_L C n d A U H) (hAB : ∀ q, B q → A q) : vx_L C n d B U H := by
  obtain ⟨c, k, i, f, a, cell, h1, h2, h3, h4, h5, h6, h7, h8, h9, h10⟩ := h
  exact ⟨c, k, i, f, a, cell, h1, h2, h3, h4, h5, h6, h7, h8, h9, fun z => h10 (hAB _ z)⟩
theorem vx_L.word {C n d : String} {A : Nat → Prop} {s : State} {args : Array Value} (h : vx_L C n d A s s.heap) : (Cond.laysStatic C n d).before args s = true := by
  obtain ⟨c, k, i, f, a, cell, h1, h2, h3, h4, h5, h6, h7, h8, h9, -⟩ := h
  show (Cond.laysStatic C n d).holds args s none s [] = true
  exact Cond.laysStatic_of h1 h2 h3 h4 h5 h6 h7 h8 h9
/-- .. and what it holds: null or some reference -/
def vx_Zq (C n d : String) (A : Nat → Prop) (U : State) (H : Heap) : Prop := va_Zq C n d A U H ∧ vx_L C n d A U H
theorem vx_Zq.moved {C n d : String} {A : Nat → Prop} {u U : State} {H : Heap} (hvm : u.vm.Alike U.vm) (h : vx_Zq C n d A u H) : vx_Zq C n d A U H := ⟨va_Zq.moved hvm h.1, vx_L.moved hvm h.2⟩
theorem vx_Zq.kept {C n d : String} {A : Nat → Prop} {U : State} {H H1 : Heap} (h : vx_Zq C n d A U H) (hq : ∀ a : Nat, a < H.size → ¬ A a → H1[a]? = H[a]?) : vx_Zq C n d A U H1 := ⟨va_Zq.kept h.1 hq, vx_L.kept h.2 hq⟩
theorem vx_Zq.narrow {C n d : String} {A B : Nat → Prop} {U : State} {H : Heap} (h : vx_Zq C n d A U H) (hAB : ∀ q, B q → A q) : vx_Zq C n d B U H := ⟨va_Zq.narrow h.1 hAB, vx_L.narrow h.2 hAB⟩
theorem vx_Zqof {args : Array Value} {s : State} {C n d : String} {A : Nat → Prop} (hl : (Cond.laysStatic C n d).before args s = true) (hini : (Cond.initialized C).before args s = true) (h : (Cond.isRef (.static C n d)).before args s = true) (hA : ∀ a : Nat, a < s.heap.size → ¬ A a) : vx_Zq C n d A s s.heap := by
  refine ⟨va_Zqof hl hini h hA, ?_⟩
  obtain ⟨c, k, i, f, a, cell, h1, h2, h3, h4, h5, h6, h7, h8, h9⟩ := Cond.laysStatic_spec hl
  exact ⟨c, k, i, f, a, cell, h1, h2, h3, h4, h5, h6, h7, h8, h9, hA a (Array.getElem?_eq_some_iff.mp h5).1⟩
theorem vx_isRef {C n d : String} {v : Value} {A : Nat → Prop} {s : State} {args : Array Value} (h : va_Z C n d v A s s.heap) (hv : v.isRef = true) : (Cond.isRef (.static C n d)).before args s = true := by
  obtain ⟨cf, kf, fi, f, a, cell, h1, h2, h3, h4, h5, h6, h7, -⟩ := h
  have he : (Term.static C n d).eval args s none [] s = some v := by
    simp [Term.eval, State.fieldNamed?, h1, h2, h4, h5, h6, h7]
  simp only [Cond.before, Cond.holds, Cond.value, he]
  cases v <;> simp_all [Value.isRef]
theorem vx_isRefq {C n d : String} {A : Nat → Prop} {s : State} {args : Array Value} (h : va_Zq C n d A s s.heap) : (Cond.isRef (.static C n d)).before args s = true := by
  rcases h with h | ⟨t, h⟩
  · exact vx_isRef h rfl
  · exact vx_isRef h rfl
/-- the same frame, seen from here: as if the method were called anew in this heap -/
theorem vx_rebase {T : State} (X : Stand p l e R s m args below meth c T locs cells slots) {R' : Room} (hf : R'.frames ≤ R.frames) (hl : R'.locals ≤ R.locals) (hc : cells + R'.cells ≤ R.cells) (hs : slots + R'.slots ≤ R.slots) :
    Stand p l e R' ((T.setVm s.vm).setFrames (.invoking m args :: below)) m args below meth c T [] 0 0 := by
  have htop : (T.setVm s.vm).topJava?.isSome := X.here.top
  have hF : ((T.setVm s.vm).setFrames (.invoking m args :: below)).frames = .invoking m args :: below := State.frames_setFrames _ (State.cur_lt_of_top htop)
  obtain ⟨g₀, hg0⟩ := Option.isSome_iff_exists.mp htop
  obtain ⟨r, hr⟩ := State.topJava?_eq_some.mp hg0
  have hl9 : e.platform.stackLimits (T.setVm s.vm).me = e.platform.stackLimits s.me := X.limits
  have hb9 : (T.setVm s.vm).me.stackBytes = s.me.stackBytes := X.bytes
  refine ⟨X.admits, X.cas, X.clock, hF, ?_, X.hears, X.method, X.code, X.here, X.tail, X.warmed, ?_, ?_, ?_⟩
  · have h := X.room
    have hU : ((T.setVm s.vm).setFrames (.invoking m args :: below)).localsInUse = s.localsInUse := by
      rw [State.localsInUse_invoking hF (meth := meth) (c := c) X.method X.code, State.localsInUse_invoking X.frames X.method X.code]
    simp only [State.hasRoom, Bool.and_eq_true, decide_eq_true_eq] at h ⊢
    obtain ⟨⟨⟨⟨h1, h2, h3, h4, h5, h6⟩, h7⟩, h8⟩, h9⟩ := h
    rw [X.frames, List.length_cons] at h2 h3
    have q1 := X.heapSize
    have q2 := X.used
    simp only [hF, hU, List.length_cons, State.stackLimits_setFrames, State.stackBytes_setFrames, hl9, hb9]
    refine ⟨⟨⟨⟨by omega, by omega, by omega, by omega, by omega, h6⟩, ?_⟩, ?_⟩, X.book⟩
    · show T.heap.size + R'.cells ≤ e.platform.maxCells
      omega
    · show T.slotsUsed + R'.slots ≤ e.platform.maxSlots
      omega
  · rw [State.stackLimits_setFrames]; rfl
  · rw [State.stackBytes_setFrames]; rfl
  · refine ⟨?_, Nat.le_refl _, Nat.le_refl _, ?_, ?_, fun a c9 h9 => ⟨c9, h9, rfl, rfl, fun _ _ => rfl⟩⟩
    · obtain ⟨t, ht, -⟩ := State.frames_cons hr
      show T.setVm s.vm = { ((T.setVm s.vm).setFrames (.invoking m args :: below)).setFrames (T.setVm s.vm).frames with heap := T.heap, slotsUsed := T.slotsUsed }
      rw [State.setFrames_setFrames, State.setFrames_self ht]
      rfl
    · show T.slotsUsed = T.slotsUsed + ((T.heap.toList.drop T.heap.size).map (·.slots.size)).sum
      rw [List.drop_eq_nil_of_le (Nat.le_of_eq Array.length_toList)]
      rfl
    · show ((T.heap.toList.drop T.heap.size).map (·.slots.size)).sum ≤ 0
      rw [List.drop_eq_nil_of_le (Nat.le_of_eq Array.length_toList)]
      exact Nat.le_refl _
/-- 'throw new E()': new; dup; invokespecial; athrow -/
theorem vx_throw0 {cc : ByteArray} {pc : Nat} (hexec : p.tables.exec = Jvm.exec) (hb : c.code = cc) (hl : l.stackTraces = false) {own cls : String} {names : List String} {ik ic mc ms : Nat} {A : Nat → Prop}
    (hown : s.vm.findClass own = some m.cls) (hcls : Bundle.fit cls = true) (hnames : ∀ n ∈ names, Bundle.fit n = true)
    (hk : (Cond.classLink own ik cls).before args s = true) (hini : (Cond.initialized cls).before args s = true) (hat : ∀ w ∈ vx_at0 own ic cls names, w.before args s = true)
    (hgood : ∀ w ∈ Cond.classLink own ik cls :: Cond.initialized cls :: vx_at0 own ic cls names, vx_ot w = true)
    (hU : vx_Zq Bundle.tN "UNASSIGNED_STACK" Bundle.steD A s s.heap) (hN : vx_Zq Bundle.tN "SUPPRESSED_SENTINEL" Bundle.listD A s s.heap) (hS : va_S A s.heap H locs) (hsize : ls.size = c.maxLocals)
    (d0 : decode cc pc = .ok (.new ik, 3)) (d3 : decode cc (pc + 3) = .ok (.dup, 1)) (d4 : decode cc (pc + 4) = .ok (.invokespecial ic, 3)) (d7 : decode cc (pc + 7) = .ok (.athrow, 1))
    (hout : ∀ x ∈ c.exceptionTable.toList, covers x (pc + 7) = false)
    (hRframes : names.length + 3 < R.frames) (hRlocals : (rest.map fun v => v.category).sum + (13 * (names.length + 1) + 42) ≤ R.locals) (hRcells : cells + 1 ≤ R.cells) (hRslots : slots + 6 ≤ R.slots) (hlocks : meth.locks = false)
    (hx : ∀ t : State, s.vm.Alike t.vm → H.size ≤ t.heap.size → (∀ q : Nat, q < H.size → t.heap[q]? = H[q]?) → XC cls s t)
    (hf : ∀ z ∈ locs, free z.base) (hc : cells + 1 ≤ mc) (hs : slots + 6 ≤ ms) :
    W p l e R s m args below meth c H locs cells slots (vx_MQ below Qc XC args s mc ms free) (F0 m pc ls rest) := by
  intro T hT X
  have htr : e.platform.stackTraces = false := (show e.platform.stackTraces = l.stackTraces by rw [X.admits.platform]).trans hl
  have Y := vx_rebase X (R' := { frames := R.frames, locals := R.locals, cells := 1, slots := 6 }) (Nat.le_refl _) (Nat.le_refl _) hRcells hRslots
  obtain ⟨s', hA⟩ : ∃ z, z = (T.setVm s.vm).setFrames (.invoking m args :: below) := ⟨_, rfl⟩
  rw [← hA] at Y
  have hvm : s'.vm = s.vm := by rw [hA]; rfl
  have hhp : s'.heap = H := by rw [hA]; exact hT
  have hW0 : s.WarmedH s'.vm := by rw [hvm]; exact State.WarmedH.refl s
  have hat' : ∀ w ∈ vx_at0 own ic cls names, w.before args s' = true := fun w hw => vx_ot_at hW0 hvm.symm (hgood w (List.mem_cons_of_mem _ (List.mem_cons_of_mem _ hw))) (hat w hw)
  have hk' : (Cond.classLink own ik cls).before args s' = true := vx_ot_at hW0 hvm.symm (hgood _ List.mem_cons_self) hk
  have hini' : (Cond.initialized cls).before args s' = true := vx_ot_at hW0 hvm.symm (hgood _ (List.mem_cons_of_mem _ List.mem_cons_self)) hini
  have hU' : vx_Zq Bundle.tN "UNASSIGNED_STACK" Bundle.steD A s' s'.heap := by rw [hhp]; exact vx_Zq.moved hW0.alike (hU.kept hS.2.1)
  have hN' : vx_Zq Bundle.tN "SUPPRESSED_SENTINEL" Bundle.listD A s' s'.heap := by rw [hhp]; exact vx_Zq.moved hW0.alike (hN.kept hS.2.1)
  have h : ∀ w ∈ Bundle.ownAtoms0 own ic cls names, w.before args s' = true := vx_own hat' (vx_isRefq hU'.1) (vx_isRefq hN'.1) hU'.2.word hN'.2.word
  have hown' : s'.vm.findClass own = some m.cls := by rw [hvm]; exact hown
  have hins : (Cond.instantiable cls 6).before args s' = true := h _ (by simp [Bundle.ownAtoms0])
  obtain ⟨vm₁, cX, kX, hfX, hkX, -, -, X₁, st1⟩ := Y.newCold hexec (own := own) (C := cls) (index := ik) (n := 6) hown' hk' hins hini'
    (g := F0 m pc ls rest) rfl (by rw [hb]; exact d0) (Nat.le_refl _) (Nat.le_refl _)
  generalize hT1 : (T.setVm vm₁).pushCell { cls := cX, slots := kX.instanceTypes.map defaultValue, vm := .none } = T1 at X₁ st1
  have hcat : (Value.ref T.heap.size).category = 1 := rfl
  have hcellA : T1.heap[T.heap.size]? = some (freshCell cX kX) := by rw [← hT1]; exact State.heap_pushCell_size _ _
  have d3' : decode c.code (pc + 3) = .ok (.dup, 1) := by rw [hb]; exact d3
  obtain ⟨U, hsteps, hrun, hend, hW, hsame, ce, hce, hO⟩ := X₁.ctorThrow0 hexec htr (own := own) (cls := cls) (names := names) (ic := ic) hown' hcls hnames h (fun x hx => nomatch hx) hfX hkX hcellA (by rw [hhp, hT]; exact Nat.le_refl _)
    (g := { method := m, pc := pc + 4, locals := ls, stack := .ref T.heap.size :: .ref T.heap.size :: rest, locked := none }) rfl hsize rfl rfl (rest := rest) rfl
    (by rw [hb]; exact d4) (by rw [hb]; exact d7) hout hRframes (by simp only [List.map_cons, List.sum_cons, hcat]; omega) hlocks
  obtain ⟨f1, f2⟩ := vx_frame hsame
  rw [hhp] at f1 f2
  have hWs : s.WarmedH U.vm := State.WarmedH.trans hW0 hW
  have hcl : s.vm.findClass cls = some ce.cls := by
    have h9 := hO.cls
    rw [hvm] at h9
    exact h9
  have hall : s.sameButNew ({ U with vm := s.vm } : State) locs mc ms := by
    subst hA
    obtain ⟨e1, e2⟩ := hsame
    rw [State.setFrames_setFrames] at e1
    have h2 : (T.setVm s.vm).sameButNew ({ U with vm := s.vm } : State) [] (0 + 1) (0 + 6) := ⟨e1, e2⟩
    have h3 := X.same.trans h2
    rw [List.append_nil] at h3
    exact h3.mono hc hs
  refine ⟨U, ?_, .threw T.heap.size, hrun, hend, Or.inr ⟨T.heap.size, rfl, cls, ce, locs, hx U hWs.alike f1 (fun q hq => f2 q hq (fun z hz => nomatch hz)), hce, hO.vm, hcl, hWs, hall, hf⟩⟩
  refine st1 _ ?_
  show Steps p.tables e below (T1.setTop { method := m, pc := pc + 3, locals := ls, stack := .ref T.heap.size :: rest, locked := none }) _
  jvm_step X₁.here [X₁.here.top, hexec, d3', Value.category]
  exact hsteps
/-- 'throw new E("text")': new; dup; ldc; invokespecial; athrow -/
theorem vx_throwS {cc : ByteArray} {pc : Nat} (hexec : p.tables.exec = Jvm.exec) (hb : c.code = cc) (hl : l.stackTraces = false) {own cls text : String} {names : List String} {ik is ic mc ms sa : Nat} {A : Nat → Prop}
    (hown : s.vm.findClass own = some m.cls) (hcls : Bundle.fit cls = true) (hnames : ∀ n ∈ names, Bundle.fit n = true)
    (hk : (Cond.classLink own ik cls).before args s = true) (hini : (Cond.initialized cls).before args s = true) (hstr : vk_R own is text sa s) (hat : ∀ w ∈ vx_atS own ic cls names, w.before args s = true)
    (hgood : ∀ w ∈ Cond.classLink own ik cls :: Cond.initialized cls :: vx_atS own ic cls names, vx_ot w = true)
    (hU : vx_Zq Bundle.tN "UNASSIGNED_STACK" Bundle.steD A s s.heap) (hN : vx_Zq Bundle.tN "SUPPRESSED_SENTINEL" Bundle.listD A s s.heap) (hS : va_S A s.heap H locs) (hsize : ls.size = c.maxLocals)
    (d0 : decode cc pc = .ok (.new ik, 3)) (d3 : decode cc (pc + 3) = .ok (.dup, 1)) (d4 : decode cc (pc + 4) = .ok (.ldc is, 2)) (d6 : decode cc (pc + 6) = .ok (.invokespecial ic, 3)) (d9 : decode cc (pc + 9) = .ok (.athrow, 1))
    (hout : ∀ x ∈ c.exceptionTable.toList, covers x (pc + 9) = false)
    (hRframes : names.length + 3 < R.frames) (hRlocals : (rest.map fun v => v.category).sum + (13 * (names.length + 1) + 43) ≤ R.locals) (hRcells : cells + 1 ≤ R.cells) (hRslots : slots + 6 ≤ R.slots) (hlocks : meth.locks = false)
    (hx : ∀ t : State, s.vm.Alike t.vm → H.size ≤ t.heap.size → (∀ q : Nat, q < H.size → t.heap[q]? = H[q]?) → XC cls s t)
    (hf : ∀ z ∈ locs, free z.base) (hc : cells + 1 ≤ mc) (hs : slots + 6 ≤ ms) :
    W p l e R s m args below meth c H locs cells slots (vx_MQ below Qc XC args s mc ms free) (F0 m pc ls rest) := by
  intro T hT X
  have htr : e.platform.stackTraces = false := (show e.platform.stackTraces = l.stackTraces by rw [X.admits.platform]).trans hl
  have Y := vx_rebase X (R' := { frames := R.frames, locals := R.locals, cells := 1, slots := 6 }) (Nat.le_refl _) (Nat.le_refl _) hRcells hRslots
  obtain ⟨s', hA⟩ : ∃ z, z = (T.setVm s.vm).setFrames (.invoking m args :: below) := ⟨_, rfl⟩
  rw [← hA] at Y
  have hvm : s'.vm = s.vm := by rw [hA]; rfl
  have hhp : s'.heap = H := by rw [hA]; exact hT
  have hW0 : s.WarmedH s'.vm := by rw [hvm]; exact State.WarmedH.refl s
  have hat' : ∀ w ∈ vx_atS own ic cls names, w.before args s' = true := fun w hw => vx_ot_at hW0 hvm.symm (hgood w (List.mem_cons_of_mem _ (List.mem_cons_of_mem _ hw))) (hat w hw)
  have hk' : (Cond.classLink own ik cls).before args s' = true := vx_ot_at hW0 hvm.symm (hgood _ List.mem_cons_self) hk
  have hini' : (Cond.initialized cls).before args s' = true := vx_ot_at hW0 hvm.symm (hgood _ (List.mem_cons_of_mem _ List.mem_cons_self)) hini
  have hU' : vx_Zq Bundle.tN "UNASSIGNED_STACK" Bundle.steD A s' s'.heap := by rw [hhp]; exact vx_Zq.moved hW0.alike (hU.kept hS.2.1)
  have hN' : vx_Zq Bundle.tN "SUPPRESSED_SENTINEL" Bundle.listD A s' s'.heap := by rw [hhp]; exact vx_Zq.moved hW0.alike (hN.kept hS.2.1)
  have h : ∀ w ∈ Bundle.ownAtoms own ic cls names, w.before args s' = true := vx_own hat' (vx_isRefq hU'.1) (vx_isRefq hN'.1) hU'.2.word hN'.2.word
  have hown' : s'.vm.findClass own = some m.cls := by rw [hvm]; exact hown
  have hins : (Cond.instantiable cls 6).before args s' = true := h _ (by simp [Bundle.ownAtoms])
  obtain ⟨vm₁, cX, kX, hfX, hkX, -, -, X₁, st1⟩ := Y.newCold hexec (own := own) (C := cls) (index := ik) (n := 6) hown' hk' hins hini'
    (g := F0 m pc ls rest) rfl (by rw [hb]; exact d0) (Nat.le_refl _) (Nat.le_refl _)
  generalize hT1 : (T.setVm vm₁).pushCell { cls := cX, slots := kX.instanceTypes.map defaultValue, vm := .none } = T1 at X₁ st1
  have hcat : (Value.ref T.heap.size).category = 1 := rfl
  have hcellA : T1.heap[T.heap.size]? = some (freshCell cX kX) := by rw [← hT1]; exact State.heap_pushCell_size _ _
  have d3' : decode c.code (pc + 3) = .ok (.dup, 1) := by rw [hb]; exact d3
  have d4' : decode c.code (pc + 4) = .ok (.ldc is, 2) := by rw [hb]; exact d4
  have hstr' : vk_R own is text sa s' := vk_R.warm hW0 hstr
  obtain ⟨U, hsteps, hrun, hend, hW, hsame, ce, hce, hO⟩ := X₁.ctorThrowS hexec htr (own := own) (cls := cls) (names := names) (ic := ic) hown' hcls hnames h (fun x hx => nomatch hx) hfX hkX hcellA (by rw [hhp, hT]; exact Nat.le_refl _) (msg := .ref sa) rfl
    (g := { method := m, pc := pc + 6, locals := ls, stack := .ref sa :: .ref T.heap.size :: .ref T.heap.size :: rest, locked := none }) rfl hsize rfl rfl (rest := rest) rfl
    (by rw [hb]; exact d6) (by rw [hb]; exact d9) hout hRframes (by simp only [List.map_cons, List.sum_cons, hcat]; omega) hlocks
  obtain ⟨f1, f2⟩ := vx_frame hsame
  rw [hhp] at f1 f2
  have hWs : s.WarmedH U.vm := State.WarmedH.trans hW0 hW
  have hcl : s.vm.findClass cls = some ce.cls := by
    have h9 := hO.cls
    rw [hvm] at h9
    exact h9
  have hall : s.sameButNew ({ U with vm := s.vm } : State) locs mc ms := by
    subst hA
    obtain ⟨e1, e2⟩ := hsame
    rw [State.setFrames_setFrames] at e1
    have h2 : (T.setVm s.vm).sameButNew ({ U with vm := s.vm } : State) [] (0 + 1) (0 + 6) := ⟨e1, e2⟩
    have h3 := X.same.trans h2
    rw [List.append_nil] at h3
    exact h3.mono hc hs
  refine ⟨U, ?_, .threw T.heap.size, hrun, hend, Or.inr ⟨T.heap.size, rfl, cls, ce, locs, hx U hWs.alike f1 (fun q hq => f2 q hq (fun z hz => nomatch hz)), hce, hO.vm, hcl, hWs, hall, hf⟩⟩
  refine st1 _ ?_
  show Steps p.tables e below (T1.setTop { method := m, pc := pc + 3, locals := ls, stack := .ref T.heap.size :: rest, locked := none }) _
  jvm_step X₁.here [X₁.here.top, hexec, d3', Value.category]
  exact X₁.ldcString hexec (own := own) (text := text) (index := is) (a := sa) hown' hstr'.1 hstr'.2
    (g := { method := m, pc := pc + 4, locals := ls, stack := .ref T.heap.size :: .ref T.heap.size :: rest, locked := none }) rfl d4' _ hsteps
/-- 'throw new E("text")', the text by a wide index -/
theorem vx_throwSW {cc : ByteArray} {pc : Nat} (hexec : p.tables.exec = Jvm.exec) (hb : c.code = cc) (hl : l.stackTraces = false) {own cls text : String} {names : List String} {ik is ic mc ms sa : Nat} {A : Nat → Prop}
    (hown : s.vm.findClass own = some m.cls) (hcls : Bundle.fit cls = true) (hnames : ∀ n ∈ names, Bundle.fit n = true)
    (hk : (Cond.classLink own ik cls).before args s = true) (hini : (Cond.initialized cls).before args s = true) (hstr : vk_R own is text sa s) (hat : ∀ w ∈ vx_atS own ic cls names, w.before args s = true)
    (hgood : ∀ w ∈ Cond.classLink own ik cls :: Cond.initialized cls :: vx_atS own ic cls names, vx_ot w = true)
    (hU : vx_Zq Bundle.tN "UNASSIGNED_STACK" Bundle.steD A s s.heap) (hN : vx_Zq Bundle.tN "SUPPRESSED_SENTINEL" Bundle.listD A s s.heap) (hS : va_S A s.heap H locs) (hsize : ls.size = c.maxLocals)
    (d0 : decode cc pc = .ok (.new ik, 3)) (d3 : decode cc (pc + 3) = .ok (.dup, 1)) (d4 : decode cc (pc + 4) = .ok (.ldc_w is, 3)) (d7 : decode cc (pc + 7) = .ok (.invokespecial ic, 3)) (d10 : decode cc (pc + 10) = .ok (.athrow, 1))
    (hout : ∀ x ∈ c.exceptionTable.toList, covers x (pc + 10) = false)
    (hRframes : names.length + 3 < R.frames) (hRlocals : (rest.map fun v => v.category).sum + (13 * (names.length + 1) + 43) ≤ R.locals) (hRcells : cells + 1 ≤ R.cells) (hRslots : slots + 6 ≤ R.slots) (hlocks : meth.locks = false)
    (hx : ∀ t : State, s.vm.Alike t.vm → H.size ≤ t.heap.size → (∀ q : Nat, q < H.size → t.heap[q]? = H[q]?) → XC cls s t)
    (hf : ∀ z ∈ locs, free z.base) (hc : cells + 1 ≤ mc) (hs : slots + 6 ≤ ms) :
    W p l e R s m args below meth c H locs cells slots (vx_MQ below Qc XC args s mc ms free) (F0 m pc ls rest) := by
  intro T hT X
  have htr : e.platform.stackTraces = false := (show e.platform.stackTraces = l.stackTraces by rw [X.admits.platform]).trans hl
  have Y := vx_rebase X (R' := { frames := R.frames, locals := R.locals, cells := 1, slots := 6 }) (Nat.le_refl _) (Nat.le_refl _) hRcells hRslots
  obtain ⟨s', hA⟩ : ∃ z, z = (T.setVm s.vm).setFrames (.invoking m args :: below) := ⟨_, rfl⟩
  rw [← hA] at Y
  have hvm : s'.vm = s.vm := by rw [hA]; rfl
  have hhp : s'.heap = H := by rw [hA]; exact hT
  have hW0 : s.WarmedH s'.vm := by rw [hvm]; exact State.WarmedH.refl s
  have hat' : ∀ w ∈ vx_atS own ic cls names, w.before args s' = true := fun w hw => vx_ot_at hW0 hvm.symm (hgood w (List.mem_cons_of_mem _ (List.mem_cons_of_mem _ hw))) (hat w hw)
  have hk' : (Cond.classLink own ik cls).before args s' = true := vx_ot_at hW0 hvm.symm (hgood _ List.mem_cons_self) hk
  have hini' : (Cond.initialized cls).before args s' = true := vx_ot_at hW0 hvm.symm (hgood _ (List.mem_cons_of_mem _ List.mem_cons_self)) hini
  have hU' : vx_Zq Bundle.tN "UNASSIGNED_STACK" Bundle.steD A s' s'.heap := by rw [hhp]; exact vx_Zq.moved hW0.alike (hU.kept hS.2.1)
  have hN' : vx_Zq Bundle.tN "SUPPRESSED_SENTINEL" Bundle.listD A s' s'.heap := by rw [hhp]; exact vx_Zq.moved hW0.alike (hN.kept hS.2.1)
  have h : ∀ w ∈ Bundle.ownAtoms own ic cls names, w.before args s' = true := vx_own hat' (vx_isRefq hU'.1) (vx_isRefq hN'.1) hU'.2.word hN'.2.word
  have hown' : s'.vm.findClass own = some m.cls := by rw [hvm]; exact hown
  have hins : (Cond.instantiable cls 6).before args s' = true := h _ (by simp [Bundle.ownAtoms])
  obtain ⟨vm₁, cX, kX, hfX, hkX, -, -, X₁, st1⟩ := Y.newCold hexec (own := own) (C := cls) (index := ik) (n := 6) hown' hk' hins hini'
    (g := F0 m pc ls rest) rfl (by rw [hb]; exact d0) (Nat.le_refl _) (Nat.le_refl _)
  generalize hT1 : (T.setVm vm₁).pushCell { cls := cX, slots := kX.instanceTypes.map defaultValue, vm := .none } = T1 at X₁ st1
  have hcat : (Value.ref T.heap.size).category = 1 := rfl
  have hcellA : T1.heap[T.heap.size]? = some (freshCell cX kX) := by rw [← hT1]; exact State.heap_pushCell_size _ _
  have d3' : decode c.code (pc + 3) = .ok (.dup, 1) := by rw [hb]; exact d3
  have d4' : decode c.code (pc + 4) = .ok (.ldc_w is, 3) := by rw [hb]; exact d4
  have hstr' : vk_R own is text sa s' := vk_R.warm hW0 hstr
  obtain ⟨U, hsteps, hrun, hend, hW, hsame, ce, hce, hO⟩ := X₁.ctorThrowS hexec htr (own := own) (cls := cls) (names := names) (ic := ic) hown' hcls hnames h (fun x hx => nomatch hx) hfX hkX hcellA (by rw [hhp, hT]; exact Nat.le_refl _) (msg := .ref sa) rfl
    (g := { method := m, pc := pc + 7, locals := ls, stack := .ref sa :: .ref T.heap.size :: .ref T.heap.size :: rest, locked := none }) rfl hsize rfl rfl (rest := rest) rfl
    (by rw [hb]; exact d7) (by rw [hb]; exact d10) hout hRframes (by simp only [List.map_cons, List.sum_cons, hcat]; omega) hlocks
  obtain ⟨f1, f2⟩ := vx_frame hsame
  rw [hhp] at f1 f2
  have hWs : s.WarmedH U.vm := State.WarmedH.trans hW0 hW
  have hcl : s.vm.findClass cls = some ce.cls := by
    have h9 := hO.cls
    rw [hvm] at h9
    exact h9
  have hall : s.sameButNew ({ U with vm := s.vm } : State) locs mc ms := by
    subst hA
    obtain ⟨e1, e2⟩ := hsame
    rw [State.setFrames_setFrames] at e1
    have h2 : (T.setVm s.vm).sameButNew ({ U with vm := s.vm } : State) [] (0 + 1) (0 + 6) := ⟨e1, e2⟩
    have h3 := X.same.trans h2
    rw [List.append_nil] at h3
    exact h3.mono hc hs
  refine ⟨U, ?_, .threw T.heap.size, hrun, hend, Or.inr ⟨T.heap.size, rfl, cls, ce, locs, hx U hWs.alike f1 (fun q hq => f2 q hq (fun z hz => nomatch hz)), hce, hO.vm, hcl, hWs, hall, hf⟩⟩
  refine st1 _ ?_
  show Steps p.tables e below (T1.setTop { method := m, pc := pc + 3, locals := ls, stack := .ref T.heap.size :: rest, locked := none }) _
  jvm_step X₁.here [X₁.here.top, hexec, d3', Value.category]
  exact X₁.ldcStringW hexec (own := own) (text := text) (index := is) (a := sa) hown' hstr'.1 hstr'.2
    (g := { method := m, pc := pc + 4, locals := ls, stack := .ref T.heap.size :: .ref T.heap.size :: rest, locked := none }) rfl d4' _ hsteps
end Ends
section Bodies
variable {l : Launch}
theorem vx_ofW {y : MethodName} {ws ws' : List Cond} {rm : Room} {Pc : Array Value → State → Prop} {Qc : Array Value → State → Outcome → State → Prop} {XC : String → State → State → Prop} {mc ms : Nat} {free : Addr → Prop} {cc : ByteArray} {maxL : Nat} {ret : Option FieldType}
    (hy : plainName y.cls = true) (hw : ws = Cond.code y cc maxL ret :: ws')
    (body : ∀ p e s m args below meth c s₁, BodyLoose p l y (headSpec ws rm) cc maxL ret e s m args below meth c s₁ → c.maxLocals = maxL → (∀ x ∈ c.exceptionTable.toList, False) → Pc args s →
      W p l e (headSpec ws rm).room s m args below meth c s.heap [] 0 0 (vx_MQ below Qc XC args s mc ms free) (entryFrame m args maxL)) : vx_Met l y ws rm Pc Qc XC mc ms free := by
  refine MetFree.of_bodyS (code := cc) (maxLocals := maxL) (ret := ret) hy ?_ ?_
  · intro args s m h hn
    obtain ⟨meth, c, h1, h2, h3, h4, h5, h6, -, -⟩ := Cond.code_spec hn (atoms_spec (ws := ws) h _ (by rw [hw]; exact List.mem_cons_self))
    exact ⟨meth, c, h1, h2, h3, h4, h5, h6⟩
  · intro p e s m args below meth c s₁ B hml hP _
    have hh0 : s₁.heap = s.heap := by rw [B.state]; rfl
    have ht : ∀ x ∈ c.exceptionTable.toList, False := by
      obtain ⟨meth9, c9, h1, h2, -, -, -, -, h7, -⟩ := Cond.code_spec B.named (atoms_spec (ws := ws) B.pre _ (by rw [hw]; exact List.mem_cons_self))
      cases Option.some.inj (h1.symm.trans B.method)
      cases Option.some.inj (h2.symm.trans (Stand.of_body B).code)
      intro x hx
      rw [Array.isEmpty_iff.mp h7] at hx
      cases hx
    obtain ⟨t, a1, o, b1, b2, b3⟩ := body p e s m args below meth c s₁ B hml ht hP s₁ hh0 (Stand.of_body B)
    exact ⟨t, o, a1, b1, b2, b3⟩
/-- the table of a body with handlers -/
theorem vx_table {p : Program} {x y : MethodName} {S : Spec} {cc bytes : ByteArray} {maxL maxL' : Nat} {ret ret' : Option FieldType} {e : Env} {s s₁ : State} {m : MethodId} {args : Array Value} {below : List Frame} {meth : Method} {c : Code} {hh : List (Nat × Nat × Nat × Nat)}
    (B : BodyLoose p l y S cc maxL ret e s m args below meth c s₁) (h : (Cond.codeWith y bytes maxL' ret' hh).before args s = true) : c.exceptionTable.toList = tableOf hh := by
  obtain ⟨m9, meth9, c9, hn9, h1, h2, -, -, h6, -⟩ := Cond.codeWith_spec h
  cases Option.some.inj (hn9.symm.trans B.named)
  cases Option.some.inj (h1.symm.trans B.method)
  cases Option.some.inj (h2.symm.trans (Stand.of_body B).code)
  rw [← h6, table_eq]
end Bodies
end VXA
/-! ===== END ===== -/
/-! ===== BEGIN a static call of a method with an exception table ===== -/
section VXS
variable {p : Program} {l : Launch} {e : Env} {R : Room} {s : State} {m : MethodId} {args : Array Value} {below : List Frame} {meth : Method} {c : Code} {T : State} {H : Heap} {locs : List Loc} {cells slots : Nat}
abbrev vx_CSW (R : Room) (s : State) (args : Array Value) (own : String) (index : Nat) (y : MethodName) (bytes : ByteArray) (maxL : Nat) (ret : Option FieldType) (hh : List (Nat × Nat × Nat × Nat)) (ws : List Cond) (rm : Room) (mc ms n : Nat) : Prop :=
  (rm.cells = mc ∧ rm.slots = ms ∧ rm.frames + 1 ≤ R.frames ∧ 8 + (maxL + 11) + rm.locals ≤ R.locals ∧ (∀ w ∈ ws, ∀ (a' : Array Value) (U : State), s.WarmedH U.vm → w.before a' U = true) ∧ Cond.codeWith y bytes maxL ret hh ∈ ws) ∧
  (Cond.codeWith y bytes maxL ret hh).before args s = true ∧ (Cond.initialized y.cls).before args s = true ∧ (y.cls ≠ "java/lang/invoke/MethodHandle" ∧ y.cls ≠ "java/lang/invoke/VarHandle") ∧
  (∀ sig, parseMethodDescriptor y.desc = some sig → n = sig.parameters.length) ∧ (Cond.methodLink own index y).before args s = true ∧ (Cond.static y).before args s = true
theorem vx_cwSW {own : String} {index maxL mc ms : Nat} {y : MethodName} {bytes : ByteArray} {ret : Option FieldType} {hh : List (Nat × Nat × Nat × Nat)} {Ts ws ws' : List Cond} {rm : Room} (n : Nat) (ht : ∀ w ∈ Ts, w.before args s = true) (hT : GoodIn Ts (va_wsS own index y ws)) (hw : ws = Cond.codeWith y bytes maxL ret hh :: ws') (hrc : rm.cells = mc) (hrs : rm.slots = ms)
    (hd : y.cls ≠ "java/lang/invoke/MethodHandle" ∧ y.cls ≠ "java/lang/invoke/VarHandle" ∧ (parseMethodDescriptor y.desc).map (fun d => d.parameters.length) = some n) (hR : rm.frames + 1 ≤ R.frames ∧ 8 + (maxL + 11) + rm.locals ≤ R.locals) :
    vx_CSW R s args own index y bytes maxL ret hh ws rm mc ms n := by
  have ok : ∀ w ∈ va_wsS own index y ws, w.before args s = true := fun w h => ht w (hT w h).1
  have hG : GoodIn Ts ws := fun w h => hT w (by unfold va_wsS; exact List.mem_append_right _ h)
  have hc : Cond.codeWith y bytes maxL ret hh ∈ ws := by rw [hw]; exact List.mem_cons_self
  refine ⟨⟨hrc, hrs, hR.1, hR.2, pay_in ht hG, hc⟩, ht _ (hG _ hc).1, ok _ (by simp [va_wsS]), ⟨hd.1, hd.2.1⟩, fun sig h => ?_, ok _ (by simp [va_wsS]), ok _ (by simp [va_wsS])⟩
  have h2 := hd.2.2
  rw [h] at h2
  exact (Option.some.inj h2).symm
theorem vx_callSW (X : Stand p l e R s m args below meth c T locs cells slots) (hexec : p.tables.exec = Jvm.exec) {own : String} {index : Nat} {y : MethodName} {bytes : ByteArray} {maxL : Nat} {ret : Option FieldType} {hh : List (Nat × Nat × Nat × Nat)}
    (hown : s.vm.findClass own = some m.cls) (hlink : (Cond.methodLink own index y).before args s = true) (hstat : (Cond.static y).before args s = true) (hinit : (Cond.initialized y.cls).before args s = true)
    (hcode : (Cond.codeWith y bytes maxL ret hh).before args s = true) (hy : y.cls ≠ "java/lang/invoke/MethodHandle" ∧ y.cls ≠ "java/lang/invoke/VarHandle")
    {W9 : Nat} {Pre : Pt → Array Value → Prop} {Post : Pt → Array Value → Option Value → Pt → Prop} (hK : Back l R p e below s args y 3 W9 Pre Post)
    {g : JFrame} (hg : g.method = m) (hsize : g.locals.size = c.maxLocals) {argsL rest : List Value} (hlen : ∀ sig, parseMethodDescriptor y.desc = some sig → argsL.length = sig.parameters.length)
    (hstack : g.stack = argsL.reverse ++ rest) (hW : 2 * g.monitorRoom + (rest.map fun v => v.category).sum ≤ W9) (hdg : decode c.code g.pc = .ok (.invokestatic index, 3))
    (hpre : ∀ vm₁, s.WarmedH vm₁ → Pre ⟨T.setVm vm₁, locs, cells, slots⟩ argsL.toArray) :
    ∃ (v : Option Value) (vm₁ : Vm) (B : Pt), s.WarmedH vm₁ ∧ Stand p l e R s m args below meth c B.U B.locs B.cells B.slots ∧ Post ⟨T.setVm vm₁, locs, cells, slots⟩ argsL.toArray v B ∧
      ∀ target, Steps p.tables e below (B.U.setTop { g with pc := g.pc + 3, stack := v.toList ++ rest }) target → Steps p.tables e below (T.setTop g) target := by
  obtain ⟨mk, methM, cM, hnamed, hmethM, -, -, -, -, -, -, hsigM⟩ := Cond.codeWith_spec hcode
  have hstatic : methM.isStatic = true := Cond.static_spec hnamed hmethM hstat
  obtain ⟨kP, hkP, -⟩ := className_of_methodNamed hnamed
  have hinitP : kP.init = .initialized := Cond.initialized_spec (findClass_of_methodNamed hnamed) hkP hinit
  obtain ⟨vm₁, X₁, hstep₁⟩ := X.invokestatic hexec hown hlink hnamed hmethM hstatic hkP hinitP hy (g := g) hg (argsL := argsL) (rest := rest) (hlen _ hsigM) hstack hdg
  obtain ⟨v, B, X', hpost, hsteps⟩ := hK m meth c ⟨T.setVm vm₁, locs, cells, slots⟩ { g with stack := rest } (.invokestatic index) mk argsL.toArray X₁ hg hsize hdg hW (X₁.named hnamed) (hpre vm₁ X₁.warmed)
  exact ⟨v, vm₁, B, X₁.warmed, X', hpost, fun target h => hstep₁ _ fun acts => by rw [doInvoke_state]; exact hsteps.trans h⟩
theorem vx_runSW {y : MethodName} {bytes cc : ByteArray} {maxL nL mc ms n index : Nat} {ret : Option FieldType} {hh : List (Nat × Nat × Nat × Nat)} {ws : List Cond} {rm : Room} {Pc : Array Value → State → Prop} {Qc : Array Value → State → Outcome → State → Prop} {free : Addr → Prop} {Ts : List Cond} {own : String} {As rest : List Value} {g : JFrame}
    (S : CallFix p m c cc nL s args Ts own) (hM : Met l y ws rm Pc Qc mc ms free) (cw : vx_CSW R s args own index y bytes maxL ret hh ws rm mc ms n) (hp : PreS s H Pc As)
    (hg : g.method = m) (hn : As.length = n) (hsize : g.locals.size = nL) (hstack : g.stack = As.reverse ++ rest) (hW : 2 * g.monitorRoom + (rest.map fun v => v.category).sum ≤ 8) (hdg : decode cc g.pc = .ok (.invokestatic index, 3)) (hf : cells + mc ≤ R.cells ∧ slots + ms ≤ R.slots) :
    va_Run p l e R s m args below meth c H locs cells slots mc ms g rest (Qc As.toArray) (free) := by
  obtain ⟨⟨hrc, hrs, hfr, hlo, hws, hcw⟩, hcode, hini, hy, hlen, hl, hstt⟩ := cw
  have hK : Back l R p e below s args y 3 8 (PreOf R mc ms Pc) (PostOf Qc mc ms free) := va_backW (hh := hh) (bytes := bytes) (maxL := maxL) (ret := ret) hM hp.1 hrc hrs hfr hlo hws hcw (fun a' U hW => word_at hW (Or.inl (by first | rfl | simp [Cond.onTables, Cond.keeps, Cond.steady])) hini)
  obtain ⟨hx, hb, hml, ho, -⟩ := S
  intro T hT X
  obtain ⟨v, vm₁, ⟨U', l2, c2, s2⟩, hW₁, X', ⟨g', mk, t, L, e1, e2, hq, h1, hL, h2, h3⟩, st⟩ := vx_callSW X hx (hh := hh) (bytes := bytes) (maxL := maxL) (ret := ret) ho hl hstt hini hcode hy hK hg (hsize.trans hml.symm) (argsL := As) (rest := rest) (fun sig h => hn.trans (hlen sig h)) hstack hW (by rw [hb]; exact hdg)
    (fun vm₁ hW₁ => ⟨hf.1, hf.2, hp.2 (T.setVm vm₁) hT hW₁⟩)
  dsimp only [Pt.U, Pt.locs, Pt.cells, Pt.slots] at X' e1 e2 h1 h2 h3 st
  subst h1; subst h2; subst h3
  exact ⟨v, (T.setVm vm₁).calling g' mk As.toArray, t, U', L, hT, X', hL, e1, e2, hq, st⟩
/-- not caught here, past rows that name other classes: it goes on to the caller -/
theorem vx_outP {p : Program} {l : Launch} {e : Env} {R : Room} {s : State} {m : MethodId} {args : Array Value} {below : List Frame} {meth : Method} {c : Code} {H : Heap} {locs : List Loc} {cells slots : Nat} {free : Addr → Prop} {ls : Array Slot} {rest : List Value} {Qc : Array Value → State → Outcome → State → Prop} {XC : String → State → State → Prop}
    {pc : Nat} {own E : String} {ce : Cell} {q : Addr} {mc ms : Nat} (hown : s.vm.findClass own = some m.cls) (hlocks : meth.locks = false)
    (hpass : ∀ z ∈ c.exceptionTable.toList, covers z pc = false ∨ (z.catchType ≠ 0 ∧ ∃ nm : String, (Cond.classLink own z.catchType nm).before args s = true ∧ va_Nc E nm s)) (hcell : H[q]? = some ce) (hv : ce.vm = .none) (hcl : s.vm.findClass E = some ce.cls)
    (hx : ∀ t : State, t.heap = H → s.vm.Alike t.vm → XC E s t) (hf : ∀ z ∈ locs, free z.base) (hc : cells ≤ mc) (hs : slots ≤ ms) :
    vx_W p l e R s m args below meth c H locs cells slots (vx_MQ below Qc XC args s mc ms free) (F0 m pc ls rest) q := by
  intro T hT X
  have hpl : e.platform.magicAccessors = ({} : Platform).magicAccessors := by rw [X.admits.platform]
  obtain ⟨vm', hW', X', st⟩ := X.outThrough hlocks q (g := F0 m pc ls rest) rfl rfl rfl (cell := ce) (by rw [hT]; exact hcell) (by rw [hv]; rfl)
    (by obtain ⟨k9, h9, -⟩ := Vm.findClass_spec hcl; exact ⟨k9, h9⟩) (fun z hz => by
      rcases hpass z hz with h | ⟨hz0, nm, hl1, hn1⟩
      · exact Or.inl h
      · obtain ⟨c6, hc6, hcl6⟩ := Cond.classLink_spec hown hl1 e.platform hpl
        obtain ⟨a8, b8, h1, h2, h3⟩ := hn1
        cases Option.some.inj (h1.symm.trans hcl)
        cases Option.some.inj (h2.symm.trans hc6)
        exact Or.inr ⟨hz0, _, hcl6, h3⟩)
  obtain ⟨g₀, hfr⟩ := X'.frames_eq
  have hcell9 : ((T.setVm vm').setFrames (.throwing q :: below)).heap[q]? = some ce := by
    show T.heap[q]? = some ce
    rw [hT]; exact hcell
  have hend : Ended ((T.setVm vm').setFrames (.throwing q :: below)) below (.threw q) := State.frames_setFrames _ (State.cur_lt_of_frames hfr)
  refine ⟨(T.setVm vm').setFrames (.throwing q :: below), ?_, .threw q, X'.here.running, hend, Or.inr ⟨q, rfl, E, ce, locs, hx _ hT (X'.ends _).1.alike, hcell9, hv, hcl, (X'.ends _).1, (X'.ends _).2.mono hc hs, hf⟩⟩
  rw [X.pushThrowing_eq]
  exact st
/-- a thing of a world lies in the heap -/
theorem vx_lt {D : va_G} {cl : List vw_C} {ws : va_W} {H1 : Heap} (h : va_P D cl ws H1) {k : Nat} {q : Nat × va_E} (hk : ws[k]? = some q) : q.1 < H1.size := (h k q hk).lt
end VXS
/-! ===== END ===== -/
/-! ===== BEGIN methods with a table of their own: called by a name, returning or throwing ===== -/
section VXH
/-! vx_backW, vx_callVX, vx_callSX, vx_callVW, vx_runVW, vx_runVX, vx_runSX, vx_ofWH follow the same proofs as their sisters above (Free/Laws.lean, Shelf42/LK1.lean); vx_outP calls Shelf42/NT130.lean (outThrough). -/
section
variable {l : Launch} {R : Room} {p : Program} {e : Env} {below : List Frame} {s : State} {sargs : Array Value} {y : MethodName} {len W9 : Nat}
theorem vx_backW {ws : List Cond} {rm : Room} {Pc : Array Value → State → Prop} {Qc : Array Value → State → Outcome → State → Prop} {XC : String → State → State → Prop} {mc ms : Nat} {free : Addr → Prop} {bytes : ByteArray} {maxL : Nat} {ret : Option FieldType} {hh : List (Nat × Nat × Nat × Nat)}
    (hM : vx_Met l y ws rm Pc Qc XC mc ms free) (hblind : FrameBlind Pc) (hrc : rm.cells = mc) (hrs : rm.slots = ms)
    (hframes : rm.frames + 1 ≤ R.frames) (hlocals : W9 + (maxL + 11) + rm.locals ≤ R.locals)
    (hws : ∀ w ∈ ws, ∀ a' U, s.WarmedH U.vm → w.before a' U = true) (hcode : Cond.codeWith y bytes maxL ret hh ∈ ws) (hinit : ∀ a' U, s.WarmedH U.vm → (Cond.initialized y.cls).before a' U = true) :
    vx_Back l R p e below s sargs y len W9 (PreOf R mc ms Pc) (PostOf Qc mc ms free) (vx_Post XC mc ms free) := by
  intro m meth c A g ig mk a X hg hsize hdg hW hn hp
  have h1 : (headSpec ws rm).pre.before a A.U = true := atoms_intro fun w hw => hws w hw _ _ X.warmed
  have h2 : (Cond.codeWith y bytes maxL ret hh).before a A.U = true := hws _ hcode _ _ X.warmed
  have h3 : (Cond.initialized y.cls).before a A.U = true := hinit _ _ X.warmed
  have h4 : A.cells + (headSpec ws rm).room.cells ≤ R.cells := by rw [show (headSpec ws rm).room.cells = mc from hrc]; exact hp.1
  have h5 : A.slots + (headSpec ws rm).room.slots ≤ R.slots := by rw [show (headSpec ws rm).room.slots = ms from hrs]; exact hp.2.1
  have hPc : Pc a (A.U.calling g mk a) := hblind _ _ _ _ hp.2.2
  obtain ⟨U, Ls, c0, s0⟩ := A
  dsimp only [Pt.U, Pt.locs, Pt.cells, Pt.slots] at h1 h2 h3 h4 h5 X hn hPc ⊢
  obtain ⟨m9, methY, cY, hn9, hmY, hcY, -, hlY, -⟩ := Cond.codeWith_spec h2
  cases Option.some.inj (hn9.symm.trans hn)
  obtain ⟨kY, hkY, -⟩ := className_of_methodNamed hn
  have hinitY : kY.init = .initialized := Cond.initialized_spec (findClass_of_methodNamed hn) hkY h3
  have h : At U g.method c below := by rw [hg]; exact X.here
  have hlocals9 : W9 + (maxL + 11) + (headSpec ws rm).room.locals ≤ R.locals := hlocals
  have happ : (headSpec ws rm).appliesLoose y e.platform (U.calling g mk a) = true :=
    Spec.appliesLoose_calling (g := g) h hdg hn hkY hinitY
      (X.room_calling (g := g) (R' := (headSpec ws rm).room) hsize hmY hcY hframes (by rw [hlY]; omega) h4 h5) h1
  obtain ⟨mid, hmid⟩ := h.above
  have hfr : (U.setTop g).frames = (.java g :: mid) ++ below := by rw [State.frames_setTop' g h.top, hmid]; rfl
  obtain ⟨o, s₂, hsteps, -, hend, hq⟩ := Steps.callFree hM p X.admits X.cas X.clock (acts := []) hfr happ hPc trivial
  have hq' : vx_Q Qc XC mc ms free a (U.calling g mk a) o s₂ := hq
  rw [State.frames_setTop' g h.top] at hend
  obtain ⟨g₀, hg0⟩ := Option.isSome_iff_exists.mp h.top
  obtain ⟨r, hr⟩ := State.topJava?_eq_some.mp hg0
  have hr' : (({ U with heap := s₂.heap, slotsUsed := s₂.slotsUsed } : State).setVm s₂.vm).frames = .java g₀ :: r := hr
  rcases hq' with ⟨hqc, L, hfe, hL⟩ | ⟨q, rfl, E, ce, L, hx, hce, hcv, hcl, hW₂, hsm, hL⟩
  · obtain ⟨⟨v, rfl⟩, hW₂, e2, q2, q3, q4, q5, q6⟩ := id hfe
    have e3 : s₂ = ({ (U.calling g mk a).setFrames s₂.frames with heap := s₂.heap, slotsUsed := s₂.slotsUsed } : State).setVm s₂.vm := by
      have : s₂ = ({ s₂ with vm := (U.calling g mk a).vm } : State).setVm s₂.vm := rfl
      rw [e2] at this
      exact this
    obtain ⟨c₂, i₂, len₂, hc₂, hd₂, hf₂⟩ := hend
    have hW' : U.WarmedH s₂.vm := hW₂
    have hcc : c₂ = c := by
      have h1 : s₂.code? g.method = U.code? g.method := by
        rw [State.code?_eq, State.code?_eq, hW'.alike.method?]
      exact Option.some.inj (hc₂.symm.trans (h1.trans h.code))
    subst hcc
    have hlen : len₂ = len := by rw [hdg] at hd₂; cases hd₂; rfl
    subst hlen
    have hs₂ : s₂ = (({ U with heap := s₂.heap, slotsUsed := s₂.slotsUsed } : State).setVm s₂.vm).setTop { g with pc := g.pc + len₂, stack := v.toList ++ g.stack } := by
      refine e3.trans ?_
      rw [hf₂, State.calling_eq h.top, State.setFrames_setFrames, State.setTop_of_frames _ hr', hr]
      rfl
    have hsame : U.sameButNew ({ U with heap := s₂.heap, slotsUsed := s₂.slotsUsed } : State) L mc ms := by
      refine ⟨?_, q2, q3, q4, q5, q6⟩
      obtain ⟨t, ht, -⟩ := State.frames_cons hr
      show ({ U with heap := s₂.heap, slotsUsed := s₂.slotsUsed } : State) = { U.setFrames U.frames with heap := s₂.heap, slotsUsed := s₂.slotsUsed }
      rw [State.setFrames_self ht]
    subst hg
    refine Or.inl ⟨v, ⟨(({ U with heap := s₂.heap, slotsUsed := s₂.slotsUsed } : State).setVm s₂.vm), Ls ++ L, c0 + mc, s0 + ms⟩,
      ⟨X.admits, X.cas, X.clock, X.frames, X.room, X.hears, X.method, X.code, (X.here.setHeapUsed s₂.heap s₂.slotsUsed).setVm hW'.alike, X.tail, State.WarmedH.trans X.warmed hW', X.limits, X.bytes, X.same.trans (hsame.setVm s.vm)⟩,
      ⟨g, mk, s₂, L, rfl, rfl, hqc, rfl, hL, rfl, rfl⟩, ?_⟩
    show Steps p.tables e below _ ((({ U with heap := s₂.heap, slotsUsed := s₂.slotsUsed } : State).setVm s₂.vm).setTop { g with pc := g.pc + len₂, stack := v.toList ++ g.stack })
    rw [← hs₂]
    exact hsteps
  · obtain ⟨e2, q2, q3, q4, q5, q6⟩ := id hsm
    have e3 : s₂ = ({ (U.calling g mk a).setFrames s₂.frames with heap := s₂.heap, slotsUsed := s₂.slotsUsed } : State).setVm s₂.vm := by
      have : s₂ = ({ s₂ with vm := (U.calling g mk a).vm } : State).setVm s₂.vm := rfl
      rw [e2] at this
      exact this
    have hf₂ : s₂.frames = .throwing q :: .java g :: U.frames.tail := hend
    have hW' : U.WarmedH s₂.vm := hW₂
    have hs₂ : s₂ = ((({ U with heap := s₂.heap, slotsUsed := s₂.slotsUsed } : State).setVm s₂.vm).setTop g).pushFrame (.throwing q) := by
      refine e3.trans ?_
      rw [hf₂, State.calling_eq h.top, State.setFrames_setFrames, State.pushFrame, State.frames_setTop _ hr', State.setTop_of_frames _ hr', State.setFrames_setFrames, hr]
      rfl
    have hsame : U.sameButNew ({ U with heap := s₂.heap, slotsUsed := s₂.slotsUsed } : State) L mc ms := by
      refine ⟨?_, q2, q3, q4, q5, q6⟩
      obtain ⟨t, ht, -⟩ := State.frames_cons hr
      show ({ U with heap := s₂.heap, slotsUsed := s₂.slotsUsed } : State) = { U.setFrames U.frames with heap := s₂.heap, slotsUsed := s₂.slotsUsed }
      rw [State.setFrames_self ht]
    subst hg
    refine Or.inr ⟨q, ⟨(({ U with heap := s₂.heap, slotsUsed := s₂.slotsUsed } : State).setVm s₂.vm), Ls ++ L, c0 + mc, s0 + ms⟩,
      ⟨X.admits, X.cas, X.clock, X.frames, X.room, X.hears, X.method, X.code, (X.here.setHeapUsed s₂.heap s₂.slotsUsed).setVm hW'.alike, X.tail, State.WarmedH.trans X.warmed hW', X.limits, X.bytes, X.same.trans (hsame.setVm s.vm)⟩,
      ⟨g, mk, s₂, L, E, ce, rfl, rfl, hx, hce, hcv, hcl, rfl, hL, rfl, rfl⟩, ?_⟩
    show Steps p.tables e below _ (((({ U with heap := s₂.heap, slotsUsed := s₂.slotsUsed } : State).setVm s₂.vm).setTop g).pushFrame (.throwing q))
    rw [← hs₂]
    exact hsteps
end
variable {p : Program} {l : Launch} {e : Env} {R : Room} {s : State} {m : MethodId} {args : Array Value} {below : List Frame} {meth : Method} {c : Code} {T : State} {H : Heap} {locs : List Loc} {cells slots : Nat}
theorem vx_callVX (X : Stand p l e R s m args below meth c T locs cells slots) (hexec : p.tables.exec = Jvm.exec) {own C : String} {index : Nat} {y : MethodName} {bytes : ByteArray} {maxL : Nat} {ret : Option FieldType} {hh : List (Nat × Nat × Nat × Nat)}
    (hown : s.vm.findClass own = some m.cls) (hlink : (Cond.methodLink own index y).before args s = true) (hinst : (Cond.instanceMethod y).before args s = true) (hsel : (Cond.selects C y y).before args s = true)
    (hcode : (Cond.codeWith y bytes maxL ret hh).before args s = true) (hy : y.cls ≠ "java/lang/invoke/MethodHandle" ∧ y.cls ≠ "java/lang/invoke/VarHandle")
    {W9 : Nat} {Pre : Pt → Array Value → Prop} {Post : Pt → Array Value → Option Value → Pt → Prop} {PostX : Pt → Array Value → Addr → Pt → Prop} (hK : vx_Back l R p e below s args y 3 W9 Pre Post PostX)
    {b : Addr} {cellB : Cell} (hcell : T.heap[b]? = some cellB) (hobj : cellB.vm.isStatics = false) (hcls : s.vm.findClass C = some cellB.cls)
    {g : JFrame} (hg : g.method = m) (hsize : g.locals.size = c.maxLocals) {argsL rest : List Value} (hlen : ∀ sig, parseMethodDescriptor y.desc = some sig → argsL.length = sig.parameters.length)
    (hstack : g.stack = argsL.reverse ++ .ref b :: rest) (hW : 2 * g.monitorRoom + (rest.map fun v => v.category).sum ≤ W9) (hdg : decode c.code g.pc = .ok (.invokevirtual index, 3))
    (hpre : ∀ vm₁, s.WarmedH vm₁ → Pre ⟨T.setVm vm₁, locs, cells, slots⟩ (Value.ref b :: argsL).toArray) :
    (∃ (v : Option Value) (vm₁ : Vm) (B : Pt), s.WarmedH vm₁ ∧ Stand p l e R s m args below meth c B.U B.locs B.cells B.slots ∧ Post ⟨T.setVm vm₁, locs, cells, slots⟩ (Value.ref b :: argsL).toArray v B ∧
      ∀ target, Steps p.tables e below (B.U.setTop { g with pc := g.pc + 3, stack := v.toList ++ rest }) target → Steps p.tables e below (T.setTop g) target) ∨
    (∃ (q : Addr) (vm₁ : Vm) (B : Pt), s.WarmedH vm₁ ∧ Stand p l e R s m args below meth c B.U B.locs B.cells B.slots ∧ PostX ⟨T.setVm vm₁, locs, cells, slots⟩ (Value.ref b :: argsL).toArray q B ∧
      Steps p.tables e below (T.setTop g) ((B.U.setTop { g with stack := rest }).pushFrame (.throwing q))) := by
  obtain ⟨mk, methM, hnamed, hmethM, hstM, habM⟩ := Cond.instanceMethod_spec hinst
  obtain ⟨m8, methM', cM, hn8, hmethM', -, -, -, -, -, -, hsigM⟩ := Cond.codeWith_spec hcode
  cases Option.some.inj (hn8.symm.trans hnamed)
  cases hmethM.symm.trans hmethM'
  obtain ⟨c2, r2, m2, q1, q2, q3, q4, kP, hkP, hkPi⟩ := Cond.selects_spec hsel
  cases hcls.symm.trans q1
  cases (State.methodFound?_of_named hnamed hy).symm.trans q2
  cases hnamed.symm.trans q3
  have hselP : selectMethod e.platform s.vm cellB.cls mk = .method mk := by rw [Launch.admits_selectMethod X.admits]; exact q4
  obtain ⟨vm₁, X₁, hstep₁⟩ := X.invokevirtual hexec hown hlink hnamed hmethM hstM hkP hkPi hy (a := b) (cell := cellB) hcell
    (fun z h => by rw [h] at hobj; cases hobj) hselP hmethM habM hkP hkPi (g := g) hg (argsL := argsL) (rest := rest) (hlen _ hsigM) hstack hdg
  rcases hK m meth c ⟨T.setVm vm₁, locs, cells, slots⟩ { g with stack := rest } (.invokevirtual index) mk (Value.ref b :: argsL).toArray X₁ hg hsize hdg hW (X₁.named hnamed) (hpre vm₁ X₁.warmed) with ⟨v, B, X', hpost, hsteps⟩ | ⟨q, B, X', hpost, hsteps⟩
  · exact Or.inl ⟨v, vm₁, B, X₁.warmed, X', hpost, fun target h => hstep₁ _ fun acts => by rw [doInvoke_state]; exact hsteps.trans h⟩
  · exact Or.inr ⟨q, vm₁, B, X₁.warmed, X', hpost, hstep₁ _ fun acts => by rw [doInvoke_state]; exact hsteps⟩
theorem vx_callSX (X : Stand p l e R s m args below meth c T locs cells slots) (hexec : p.tables.exec = Jvm.exec) {own : String} {index : Nat} {y : MethodName} {bytes : ByteArray} {maxL : Nat} {ret : Option FieldType} {hh : List (Nat × Nat × Nat × Nat)}
    (hown : s.vm.findClass own = some m.cls) (hlink : (Cond.methodLink own index y).before args s = true) (hstat : (Cond.static y).before args s = true) (hinit : (Cond.initialized y.cls).before args s = true)
    (hcode : (Cond.codeWith y bytes maxL ret hh).before args s = true) (hy : y.cls ≠ "java/lang/invoke/MethodHandle" ∧ y.cls ≠ "java/lang/invoke/VarHandle")
    {W9 : Nat} {Pre : Pt → Array Value → Prop} {Post : Pt → Array Value → Option Value → Pt → Prop} {PostX : Pt → Array Value → Addr → Pt → Prop} (hK : vx_Back l R p e below s args y 3 W9 Pre Post PostX)
    {g : JFrame} (hg : g.method = m) (hsize : g.locals.size = c.maxLocals) {argsL rest : List Value} (hlen : ∀ sig, parseMethodDescriptor y.desc = some sig → argsL.length = sig.parameters.length)
    (hstack : g.stack = argsL.reverse ++ rest) (hW : 2 * g.monitorRoom + (rest.map fun v => v.category).sum ≤ W9) (hdg : decode c.code g.pc = .ok (.invokestatic index, 3))
    (hpre : ∀ vm₁, s.WarmedH vm₁ → Pre ⟨T.setVm vm₁, locs, cells, slots⟩ argsL.toArray) :
    (∃ (v : Option Value) (vm₁ : Vm) (B : Pt), s.WarmedH vm₁ ∧ Stand p l e R s m args below meth c B.U B.locs B.cells B.slots ∧ Post ⟨T.setVm vm₁, locs, cells, slots⟩ argsL.toArray v B ∧
      ∀ target, Steps p.tables e below (B.U.setTop { g with pc := g.pc + 3, stack := v.toList ++ rest }) target → Steps p.tables e below (T.setTop g) target) ∨
    (∃ (q : Addr) (vm₁ : Vm) (B : Pt), s.WarmedH vm₁ ∧ Stand p l e R s m args below meth c B.U B.locs B.cells B.slots ∧ PostX ⟨T.setVm vm₁, locs, cells, slots⟩ argsL.toArray q B ∧
      Steps p.tables e below (T.setTop g) ((B.U.setTop { g with stack := rest }).pushFrame (.throwing q))) := by
  obtain ⟨mk, methM, cM, hnamed, hmethM, -, -, -, -, -, -, hsigM⟩ := Cond.codeWith_spec hcode
  have hstatic : methM.isStatic = true := Cond.static_spec hnamed hmethM hstat
  obtain ⟨kP, hkP, -⟩ := className_of_methodNamed hnamed
  have hinitP : kP.init = .initialized := Cond.initialized_spec (findClass_of_methodNamed hnamed) hkP hinit
  obtain ⟨vm₁, X₁, hstep₁⟩ := X.invokestatic hexec hown hlink hnamed hmethM hstatic hkP hinitP hy (g := g) hg (argsL := argsL) (rest := rest) (hlen _ hsigM) hstack hdg
  rcases hK m meth c ⟨T.setVm vm₁, locs, cells, slots⟩ { g with stack := rest } (.invokestatic index) mk argsL.toArray X₁ hg hsize hdg hW (X₁.named hnamed) (hpre vm₁ X₁.warmed) with ⟨v, B, X', hpost, hsteps⟩ | ⟨q, B, X', hpost, hsteps⟩
  · exact Or.inl ⟨v, vm₁, B, X₁.warmed, X', hpost, fun target h => hstep₁ _ fun acts => by rw [doInvoke_state]; exact hsteps.trans h⟩
  · exact Or.inr ⟨q, vm₁, B, X₁.warmed, X', hpost, hstep₁ _ fun acts => by rw [doInvoke_state]; exact hsteps⟩
theorem vx_callVW (X : Stand p l e R s m args below meth c T locs cells slots) (hexec : p.tables.exec = Jvm.exec) {own C : String} {index : Nat} {y : MethodName} {bytes : ByteArray} {maxL : Nat} {ret : Option FieldType} {hh : List (Nat × Nat × Nat × Nat)}
    (hown : s.vm.findClass own = some m.cls) (hlink : (Cond.methodLink own index y).before args s = true) (hinst : (Cond.instanceMethod y).before args s = true) (hsel : (Cond.selects C y y).before args s = true)
    (hcode : (Cond.codeWith y bytes maxL ret hh).before args s = true) (hy : y.cls ≠ "java/lang/invoke/MethodHandle" ∧ y.cls ≠ "java/lang/invoke/VarHandle")
    {W9 : Nat} {Pre : Pt → Array Value → Prop} {Post : Pt → Array Value → Option Value → Pt → Prop} (hK : Back l R p e below s args y 3 W9 Pre Post)
    {b : Addr} {cellB : Cell} (hcell : T.heap[b]? = some cellB) (hobj : cellB.vm.isStatics = false) (hcls : s.vm.findClass C = some cellB.cls)
    {g : JFrame} (hg : g.method = m) (hsize : g.locals.size = c.maxLocals) {argsL rest : List Value} (hlen : ∀ sig, parseMethodDescriptor y.desc = some sig → argsL.length = sig.parameters.length)
    (hstack : g.stack = argsL.reverse ++ .ref b :: rest) (hW : 2 * g.monitorRoom + (rest.map fun v => v.category).sum ≤ W9) (hdg : decode c.code g.pc = .ok (.invokevirtual index, 3))
    (hpre : ∀ vm₁, s.WarmedH vm₁ → Pre ⟨T.setVm vm₁, locs, cells, slots⟩ (Value.ref b :: argsL).toArray) :
    ∃ (v : Option Value) (vm₁ : Vm) (B : Pt), s.WarmedH vm₁ ∧ Stand p l e R s m args below meth c B.U B.locs B.cells B.slots ∧ Post ⟨T.setVm vm₁, locs, cells, slots⟩ (Value.ref b :: argsL).toArray v B ∧
      ∀ target, Steps p.tables e below (B.U.setTop { g with pc := g.pc + 3, stack := v.toList ++ rest }) target → Steps p.tables e below (T.setTop g) target := by
  obtain ⟨mk, methM, hnamed, hmethM, hstM, habM⟩ := Cond.instanceMethod_spec hinst
  obtain ⟨m8, methM', cM, hn8, hmethM', -, -, -, -, -, -, hsigM⟩ := Cond.codeWith_spec hcode
  cases Option.some.inj (hn8.symm.trans hnamed)
  cases hmethM.symm.trans hmethM'
  obtain ⟨c2, r2, m2, q1, q2, q3, q4, kP, hkP, hkPi⟩ := Cond.selects_spec hsel
  cases hcls.symm.trans q1
  cases (State.methodFound?_of_named hnamed hy).symm.trans q2
  cases hnamed.symm.trans q3
  have hselP : selectMethod e.platform s.vm cellB.cls mk = .method mk := by rw [Launch.admits_selectMethod X.admits]; exact q4
  obtain ⟨vm₁, X₁, hstep₁⟩ := X.invokevirtual hexec hown hlink hnamed hmethM hstM hkP hkPi hy (a := b) (cell := cellB) hcell
    (fun z h => by rw [h] at hobj; cases hobj) hselP hmethM habM hkP hkPi (g := g) hg (argsL := argsL) (rest := rest) (hlen _ hsigM) hstack hdg
  obtain ⟨v, B, X', hpost, hsteps⟩ := hK m meth c ⟨T.setVm vm₁, locs, cells, slots⟩ { g with stack := rest } (.invokevirtual index) mk (Value.ref b :: argsL).toArray X₁ hg hsize hdg hW (X₁.named hnamed) (hpre vm₁ X₁.warmed)
  exact ⟨v, vm₁, B, X₁.warmed, X', hpost, fun target h => hstep₁ _ fun acts => by rw [doInvoke_state]; exact hsteps.trans h⟩
abbrev vx_CVW (R : Room) (s : State) (args : Array Value) (own C : String) (index : Nat) (y : MethodName) (bytes : ByteArray) (maxL : Nat) (ret : Option FieldType) (hh : List (Nat × Nat × Nat × Nat)) (ws : List Cond) (rm : Room) (mc ms n : Nat) : Prop :=
  (rm.cells = mc ∧ rm.slots = ms ∧ rm.frames + 1 ≤ R.frames ∧ 8 + (maxL + 11) + rm.locals ≤ R.locals ∧ (∀ w ∈ ws, ∀ (a' : Array Value) (U : State), s.WarmedH U.vm → w.before a' U = true) ∧ Cond.codeWith y bytes maxL ret hh ∈ ws) ∧
  (Cond.codeWith y bytes maxL ret hh).before args s = true ∧ (Cond.initialized y.cls).before args s = true ∧ (y.cls ≠ "java/lang/invoke/MethodHandle" ∧ y.cls ≠ "java/lang/invoke/VarHandle") ∧
  (∀ sig, parseMethodDescriptor y.desc = some sig → n = sig.parameters.length) ∧ (Cond.methodLink own index y).before args s = true ∧ (Cond.instanceMethod y).before args s = true ∧ (Cond.selects C y y).before args s = true
theorem vx_cwVW {own C : String} {index maxL mc ms : Nat} {y : MethodName} {bytes : ByteArray} {ret : Option FieldType} {hh : List (Nat × Nat × Nat × Nat)} {Ts ws ws' : List Cond} {rm : Room} (n : Nat) (ht : ∀ w ∈ Ts, w.before args s = true) (hT : GoodIn Ts (wsV own index C y ws)) (hw : ws = Cond.codeWith y bytes maxL ret hh :: ws') (hrc : rm.cells = mc) (hrs : rm.slots = ms)
    (hd : y.cls = C ∧ y.cls ≠ "java/lang/invoke/MethodHandle" ∧ y.cls ≠ "java/lang/invoke/VarHandle" ∧ (parseMethodDescriptor y.desc).map (fun d => d.parameters.length) = some n) (hR : rm.frames + 1 ≤ R.frames ∧ 8 + (maxL + 11) + rm.locals ≤ R.locals) :
    vx_CVW R s args own C index y bytes maxL ret hh ws rm mc ms n := by
  obtain ⟨hC, hd⟩ := hd
  subst hC
  have ok : ∀ w ∈ wsV own index y.cls y ws, w.before args s = true := fun w h => ht w (hT w h).1
  have hG : GoodIn Ts ws := fun w h => hT w (by unfold wsV; exact List.mem_append_right _ h)
  have hc : Cond.codeWith y bytes maxL ret hh ∈ ws := by rw [hw]; exact List.mem_cons_self
  refine ⟨⟨hrc, hrs, hR.1, hR.2, pay_in ht hG, hc⟩, ht _ (hG _ hc).1, ok _ (by simp [wsV]), ⟨hd.1, hd.2.1⟩, fun sig h => ?_, ok _ (by simp [wsV]), ok _ (by simp [wsV]), ok _ (by simp [wsV])⟩
  have h2 := hd.2.2
  rw [h] at h2
  exact (Option.some.inj h2).symm
theorem vx_runVW {y : MethodName} {bytes cc : ByteArray} {maxL nL mc ms n index : Nat} {ret : Option FieldType} {hh : List (Nat × Nat × Nat × Nat)} {ws : List Cond} {rm : Room} {Pc : Array Value → State → Prop} {Qc : Array Value → State → Outcome → State → Prop} {free : Addr → Prop} {Ts : List Cond} {own C : String} {b : Addr} {As rest : List Value} {g : JFrame}
    (S : CallFix p m c cc nL s args Ts own) (hM : Met l y ws rm Pc Qc mc ms free) (cw : vx_CVW R s args own C index y bytes maxL ret hh ws rm mc ms n) (hp : PreV s H C b Pc As)
    (hg : g.method = m) (hn : As.length = n) (hsize : g.locals.size = nL) (hstack : g.stack = As.reverse ++ .ref b :: rest) (hW : 2 * g.monitorRoom + (rest.map fun v => v.category).sum ≤ 8) (hdg : decode cc g.pc = .ok (.invokevirtual index, 3)) (hf : cells + mc ≤ R.cells ∧ slots + ms ≤ R.slots) :
    va_Run p l e R s m args below meth c H locs cells slots mc ms g rest (Qc (Value.ref b :: As).toArray) free := by
  obtain ⟨⟨hrc, hrs, hfr, hlo, hws, hcw⟩, hcode, hini, hy, hlen, hl, hin, hse⟩ := cw
  have hK : Back l R p e below s args y 3 8 (PreOf R mc ms Pc) (PostOf Qc mc ms free) := va_backW (hh := hh) (bytes := bytes) (maxL := maxL) (ret := ret) hM hp.1 hrc hrs hfr hlo hws hcw (fun a' U hW => word_at hW (Or.inl (by first | rfl | simp [Cond.onTables, Cond.keeps, Cond.steady])) hini)
  obtain ⟨hx, hb, hml, ho, -⟩ := S
  obtain ⟨-, ⟨cellB, hcB, hoB, hclB⟩, hPc⟩ := hp
  intro T hT X
  obtain ⟨v, vm₁, ⟨U', l2, c2, s2⟩, hW₁, X', ⟨g', mk, t, L, e1, e2, hq, h1, hL, h2, h3⟩, st⟩ := vx_callVW X hx (C := C) (hh := hh) (bytes := bytes) (maxL := maxL) (ret := ret) ho hl hin hse hcode hy hK (by rw [hT]; exact hcB) hoB hclB hg (hsize.trans hml.symm) (argsL := As) (rest := rest) (fun sig h => hn.trans (hlen sig h)) hstack hW (by rw [hb]; exact hdg)
    (fun vm₁ hW₁ => ⟨hf.1, hf.2, hPc (T.setVm vm₁) hT hW₁⟩)
  dsimp only [Pt.U, Pt.locs, Pt.cells, Pt.slots] at X' e1 e2 h1 h2 h3 st
  subst h1; subst h2; subst h3
  exact ⟨v, (T.setVm vm₁).calling g' mk (Value.ref b :: As).toArray, t, U', L, hT, X', hL, e1, e2, hq, st⟩
section
variable {y : MethodName} {bytes cc : ByteArray} {maxL nL mc ms n index : Nat} {ret : Option FieldType} {ws : List Cond} {rm : Room} {Pc : Array Value → State → Prop} {Qc : Array Value → State → Outcome → State → Prop} {XC : String → State → State → Prop} {free : Addr → Prop} {Ts : List Cond} {own C : String} {b : Addr} {As rest : List Value} {g : JFrame}
theorem vx_runVX {hh : List (Nat × Nat × Nat × Nat)} (S : CallFix p m c cc nL s args Ts own) (hM : vx_Met l y ws rm Pc Qc XC mc ms free) (cw : vx_CVW R s args own C index y bytes maxL ret hh ws rm mc ms n) (hp : PreV s H C b Pc As)
    (hg : g.method = m) (hn : As.length = n) (hsize : g.locals.size = nL) (hstack : g.stack = As.reverse ++ .ref b :: rest) (hW : 2 * g.monitorRoom + (rest.map fun v => v.category).sum ≤ 8) (hdg : decode cc g.pc = .ok (.invokevirtual index, 3)) (hf : cells + mc ≤ R.cells ∧ slots + ms ≤ R.slots) :
    vx_Run p l e R s m args below meth c H locs cells slots mc ms g rest (Qc (Value.ref b :: As).toArray) XC free := by
  obtain ⟨⟨hrc, hrs, hfr, hlo, hws, hcw⟩, hcode, hini, hy, hlen, hl, hin, hse⟩ := cw
  have hK : vx_Back l R p e below s args y 3 8 (PreOf R mc ms Pc) (PostOf Qc mc ms free) (vx_Post XC mc ms free) := vx_backW (hh := hh) (bytes := bytes) (maxL := maxL) (ret := ret) hM hp.1 hrc hrs hfr hlo hws hcw (fun a' U hW => word_at hW (Or.inl (by first | rfl | simp [Cond.onTables, Cond.keeps, Cond.steady])) hini)
  obtain ⟨hx, hb, hml, ho, -⟩ := S
  obtain ⟨-, ⟨cellB, hcB, hoB, hclB⟩, hPc⟩ := hp
  intro T hT X
  rcases vx_callVX X hx (C := C) (hh := hh) (bytes := bytes) (maxL := maxL) (ret := ret) ho hl hin hse hcode hy hK (by rw [hT]; exact hcB) hoB hclB hg (hsize.trans hml.symm) (argsL := As) (rest := rest) (fun sig h => hn.trans (hlen sig h)) hstack hW (by rw [hb]; exact hdg)
    (fun vm₁ hW₁ => ⟨hf.1, hf.2, hPc (T.setVm vm₁) hT hW₁⟩) with ⟨v, vm₁, ⟨U', l2, c2, s2⟩, hW₁, X', ⟨g', mk, t, L, e1, e2, hq, h1, hL, h2, h3⟩, st⟩ | ⟨q, vm₁, ⟨U', l2, c2, s2⟩, hW₁, X', ⟨g', mk, t, L, E, ce, e1, e2, hq, hce, hcv, hcl, h1, hL, h2, h3⟩, st⟩
  · dsimp only [Pt.U, Pt.locs, Pt.cells, Pt.slots] at X' e1 e2 h1 h2 h3 st
    subst h1; subst h2; subst h3
    exact Or.inl ⟨v, (T.setVm vm₁).calling g' mk (Value.ref b :: As).toArray, t, U', L, hT, X', hL, e1, e2, hq, st⟩
  · dsimp only [Pt.U, Pt.locs, Pt.cells, Pt.slots] at X' e1 e2 h1 h2 h3 st hcl
    subst h1; subst h2; subst h3
    exact Or.inr ⟨q, (T.setVm vm₁).calling g' mk (Value.ref b :: As).toArray, t, U', L, E, ce, hT, X', hL, e1, e2, hq, hce, hcv, vx_cls hW₁ hcl, st⟩
theorem vx_runSX {hh : List (Nat × Nat × Nat × Nat)} (S : CallFix p m c cc nL s args Ts own) (hM : vx_Met l y ws rm Pc Qc XC mc ms free) (cw : vx_CSW R s args own index y bytes maxL ret hh ws rm mc ms n) (hp : PreS s H Pc As)
    (hg : g.method = m) (hn : As.length = n) (hsize : g.locals.size = nL) (hstack : g.stack = As.reverse ++ rest) (hW : 2 * g.monitorRoom + (rest.map fun v => v.category).sum ≤ 8) (hdg : decode cc g.pc = .ok (.invokestatic index, 3)) (hf : cells + mc ≤ R.cells ∧ slots + ms ≤ R.slots) :
    vx_Run p l e R s m args below meth c H locs cells slots mc ms g rest (Qc As.toArray) XC free := by
  obtain ⟨⟨hrc, hrs, hfr, hlo, hws, hcw⟩, hcode, hini, hy, hlen, hl, hstt⟩ := cw
  have hK : vx_Back l R p e below s args y 3 8 (PreOf R mc ms Pc) (PostOf Qc mc ms free) (vx_Post XC mc ms free) := vx_backW (hh := hh) (bytes := bytes) (maxL := maxL) (ret := ret) hM hp.1 hrc hrs hfr hlo hws hcw (fun a' U hW => word_at hW (Or.inl (by first | rfl | simp [Cond.onTables, Cond.keeps, Cond.steady])) hini)
  obtain ⟨hx, hb, hml, ho, -⟩ := S
  intro T hT X
  rcases vx_callSX X hx (hh := hh) (bytes := bytes) (maxL := maxL) (ret := ret) ho hl hstt hini hcode hy hK hg (hsize.trans hml.symm) (argsL := As) (rest := rest) (fun sig h => hn.trans (hlen sig h)) hstack hW (by rw [hb]; exact hdg)
    (fun vm₁ hW₁ => ⟨hf.1, hf.2, hp.2 (T.setVm vm₁) hT hW₁⟩) with ⟨v, vm₁, ⟨U', l2, c2, s2⟩, hW₁, X', ⟨g', mk, t, L, e1, e2, hq, h1, hL, h2, h3⟩, st⟩ | ⟨q, vm₁, ⟨U', l2, c2, s2⟩, hW₁, X', ⟨g', mk, t, L, E, ce, e1, e2, hq, hce, hcv, hcl, h1, hL, h2, h3⟩, st⟩
  · dsimp only [Pt.U, Pt.locs, Pt.cells, Pt.slots] at X' e1 e2 h1 h2 h3 st
    subst h1; subst h2; subst h3
    exact Or.inl ⟨v, (T.setVm vm₁).calling g' mk As.toArray, t, U', L, hT, X', hL, e1, e2, hq, st⟩
  · dsimp only [Pt.U, Pt.locs, Pt.cells, Pt.slots] at X' e1 e2 h1 h2 h3 st hcl
    subst h1; subst h2; subst h3
    exact Or.inr ⟨q, (T.setVm vm₁).calling g' mk As.toArray, t, U', L, E, ce, hT, X', hL, e1, e2, hq, hce, hcv, vx_cls hW₁ hcl, st⟩
end
end VXH
theorem vx_ofWH {l : Launch} {y : MethodName} {ws ws' : List Cond} {rm : Room} {Pc : Array Value → State → Prop} {Qc : Array Value → State → Outcome → State → Prop} {XC : String → State → State → Prop} {mc ms : Nat} {free : Addr → Prop} {cc : ByteArray} {maxL : Nat} {ret : Option FieldType} {hh : List (Nat × Nat × Nat × Nat)}
    (hy : plainName y.cls = true) (hw : ws = Cond.codeWith y cc maxL ret hh :: ws')
    (body : ∀ p e s m args below meth c s₁, BodyLoose p l y (headSpec ws rm) cc maxL ret e s m args below meth c s₁ → c.maxLocals = maxL → Pc args s →
      W p l e (headSpec ws rm).room s m args below meth c s.heap [] 0 0 (vx_MQ below Qc XC args s mc ms free) (entryFrame m args maxL)) : vx_Met l y ws rm Pc Qc XC mc ms free := by
  refine MetFree.of_bodyS (code := cc) (maxLocals := maxL) (ret := ret) hy ?_ ?_
  · intro args s m h hn
    obtain ⟨m9, meth, c, hn9, h1, h2, h3, h4, -, h5, h6, -⟩ := Cond.codeWith_spec (atoms_spec (ws := ws) h _ (by rw [hw]; exact List.mem_cons_self))
    cases hn.symm.trans hn9
    exact ⟨meth, c, h1, h2, h3, h4, h5, h6⟩
  · intro p e s m args below meth c s₁ B hml hP _
    have hh0 : s₁.heap = s.heap := by rw [B.state]; rfl
    obtain ⟨t, a1, o, b1, b2, b3⟩ := body p e s m args below meth c s₁ B hml hP s₁ hh0 (Stand.of_body B)
    exact ⟨t, o, a1, b1, b2, b3⟩
/-! ===== END ===== -/

/-! ===== BEGIN printed: names, fields, word lists, decode rows ===== -/
def RX0 : String := "TwiceAsRich$Beggar"
def TX0 : u_T := fun k => match k with
  | _ => ("TwiceAsRich$House", "figure", "I", true)
def tyX0 : Nat → FieldType := fun k => match k with
  | _ => .int
abbrev wsX00 : List Cond := u_ws RX0 TX0 1
theorem nmX0 : ∀ a, a < 1 → ∀ b, b < 1 → a ≠ b → (TX0 a).2.1 ≠ (TX0 b).2.1 := by decide +kernel
theorem tyX0_ok : ∀ k, k < 1 → parseFieldDescriptor (TX0 k).2.2.1 = some (tyX0 k) := by decide +kernel
abbrev cX0_init : ByteArray := prog_2_method_1_code
def yX0_init : MethodName := ⟨RX0, "<init>", "(I)V"⟩
abbrev cX0_kind : ByteArray := prog_2_method_2_code
def yX0_kind : MethodName := ⟨RX0, "kind", "()I"⟩
abbrev cX0_shownOf : ByteArray := prog_2_method_3_code
def yX0_shownOf : MethodName := ⟨RX0, "shownOf", "(I)I"⟩
abbrev cX0_weekly : ByteArray := prog_2_method_4_code
def yX0_weekly : MethodName := ⟨RX0, "weekly", "()I"⟩
abbrev cX0_price : ByteArray := prog_2_method_5_code
def yX0_price : MethodName := ⟨RX0, "price", "()I"⟩
abbrev cX0_fail : ByteArray := prog_2_method_6_code
def yX0_fail : MethodName := ⟨RX0, "fail", "()V"⟩
def RX1 : String := "TwiceAsRich$Blind"
def TX1 : u_T := fun k => match k with
  | _ => ("TwiceAsRich$House", "figure", "I", true)
def tyX1 : Nat → FieldType := fun k => match k with
  | _ => .int
abbrev wsX10 : List Cond := u_ws RX1 TX1 1
theorem nmX1 : ∀ a, a < 1 → ∀ b, b < 1 → a ≠ b → (TX1 a).2.1 ≠ (TX1 b).2.1 := by decide +kernel
theorem tyX1_ok : ∀ k, k < 1 → parseFieldDescriptor (TX1 k).2.2.1 = some (tyX1 k) := by decide +kernel
abbrev cX1_init : ByteArray := prog_3_method_1_code
def yX1_init : MethodName := ⟨RX1, "<init>", "(I)V"⟩
abbrev cX1_kind : ByteArray := prog_3_method_2_code
def yX1_kind : MethodName := ⟨RX1, "kind", "()I"⟩
abbrev cX1_isLookedAt : ByteArray := prog_3_method_3_code
def yX1_isLookedAt : MethodName := ⟨RX1, "isLookedAt", "()Z"⟩
abbrev cX1_weekly : ByteArray := prog_3_method_4_code
def yX1_weekly : MethodName := ⟨RX1, "weekly", "()I"⟩
abbrev cX1_price : ByteArray := prog_3_method_5_code
def yX1_price : MethodName := ⟨RX1, "price", "()I"⟩
abbrev cX1_hasFailure : ByteArray := prog_3_method_6_code
def yX1_hasFailure : MethodName := ⟨RX1, "hasFailure", "()Z"⟩
def RX2 : String := "TwiceAsRich$Heir"
def TX2 : u_T := fun k => match k with
  | _ => ("TwiceAsRich$House", "figure", "I", true)
def tyX2 : Nat → FieldType := fun k => match k with
  | _ => .int
abbrev wsX20 : List Cond := u_ws RX2 TX2 1
theorem nmX2 : ∀ a, a < 1 → ∀ b, b < 1 → a ≠ b → (TX2 a).2.1 ≠ (TX2 b).2.1 := by decide +kernel
theorem tyX2_ok : ∀ k, k < 1 → parseFieldDescriptor (TX2 k).2.2.1 = some (tyX2 k) := by decide +kernel
abbrev cX2_init : ByteArray := prog_4_method_1_code
def yX2_init : MethodName := ⟨RX2, "<init>", "(I)V"⟩
abbrev cX2_kind : ByteArray := prog_4_method_2_code
def yX2_kind : MethodName := ⟨RX2, "kind", "()I"⟩
abbrev cX2_allowedBy : ByteArray := prog_4_method_3_code
def yX2_allowedBy : MethodName := ⟨RX2, "allowedBy", "(I)I"⟩
abbrev cX2_weekly : ByteArray := prog_4_method_4_code
def yX2_weekly : MethodName := ⟨RX2, "weekly", "()I"⟩
abbrev cX2_price : ByteArray := prog_4_method_5_code
def yX2_price : MethodName := ⟨RX2, "price", "()I"⟩
def RX3 : String := "TwiceAsRich$House"
def TX3 : u_T := fun k => match k with
  | _ => ("TwiceAsRich$House", "figure", "I", true)
def tyX3 : Nat → FieldType := fun k => match k with
  | _ => .int
abbrev wsX30 : List Cond := u_ws RX3 TX3 1
theorem nmX3 : ∀ a, a < 1 → ∀ b, b < 1 → a ≠ b → (TX3 a).2.1 ≠ (TX3 b).2.1 := by decide +kernel
theorem tyX3_ok : ∀ k, k < 1 → parseFieldDescriptor (TX3 k).2.2.1 = some (tyX3 k) := by decide +kernel
abbrev cX3_init : ByteArray := prog_5_method_1_code
def yX3_init : MethodName := ⟨RX3, "<init>", "(I)V"⟩
abbrev cX3_kind : ByteArray := prog_5_method_2_code
def yX3_kind : MethodName := ⟨RX3, "kind", "()I"⟩
abbrev cX3_isLookedAt : ByteArray := prog_5_method_3_code
def yX3_isLookedAt : MethodName := ⟨RX3, "isLookedAt", "()Z"⟩
abbrev cX3_shownOf : ByteArray := prog_5_method_4_code
def yX3_shownOf : MethodName := ⟨RX3, "shownOf", "(I)I"⟩
abbrev cX3_allowedBy : ByteArray := prog_5_method_5_code
def yX3_allowedBy : MethodName := ⟨RX3, "allowedBy", "(I)I"⟩
abbrev cX3_weekly : ByteArray := prog_5_method_6_code
def yX3_weekly : MethodName := ⟨RX3, "weekly", "()I"⟩
abbrev cX3_price : ByteArray := prog_5_method_7_code
def yX3_price : MethodName := ⟨RX3, "price", "()I"⟩
abbrev cX3_hasFailure : ByteArray := prog_5_method_8_code
def yX3_hasFailure : MethodName := ⟨RX3, "hasFailure", "()Z"⟩
abbrev cX3_fail : ByteArray := prog_5_method_9_code
def yX3_fail : MethodName := ⟨RX3, "fail", "()V"⟩
def RX4 : String := "TwiceAsRich$Miser"
def TX4 : u_T := fun k => match k with
  | _ => ("TwiceAsRich$House", "figure", "I", true)
def tyX4 : Nat → FieldType := fun k => match k with
  | _ => .int
abbrev wsX40 : List Cond := u_ws RX4 TX4 1
theorem nmX4 : ∀ a, a < 1 → ∀ b, b < 1 → a ≠ b → (TX4 a).2.1 ≠ (TX4 b).2.1 := by decide +kernel
theorem tyX4_ok : ∀ k, k < 1 → parseFieldDescriptor (TX4 k).2.2.1 = some (tyX4 k) := by decide +kernel
abbrev cX4_init : ByteArray := prog_6_method_1_code
def yX4_init : MethodName := ⟨RX4, "<init>", "(I)V"⟩
abbrev cX4_kind : ByteArray := prog_6_method_2_code
def yX4_kind : MethodName := ⟨RX4, "kind", "()I"⟩
abbrev cX4_shownOf : ByteArray := prog_6_method_3_code
def yX4_shownOf : MethodName := ⟨RX4, "shownOf", "(I)I"⟩
abbrev cX4_allowedBy : ByteArray := prog_6_method_4_code
def yX4_allowedBy : MethodName := ⟨RX4, "allowedBy", "(I)I"⟩
abbrev cX4_weekly : ByteArray := prog_6_method_5_code
def yX4_weekly : MethodName := ⟨RX4, "weekly", "()I"⟩
abbrev cX4_price : ByteArray := prog_6_method_6_code
def yX4_price : MethodName := ⟨RX4, "price", "()I"⟩
def RX5 : String := "TwiceAsRich$Partings"
def TX5 : u_T := fun k => match k with
  | 0 => ("TwiceAsRich$Partings", "ways", "I", false)
  | 1 => ("TwiceAsRich$Partings", "uneven", "I", false)
  | 2 => ("TwiceAsRich$Partings", "hands", "I", false)
  | 3 => ("TwiceAsRich$Partings", "moved", "I", false)
  | 4 => ("TwiceAsRich$Partings", "richest", "[I", true)
  | 5 => ("TwiceAsRich$Partings", "parted", "LTwiceAsRich$Street;", true)
  | 6 => ("TwiceAsRich$Partings", "before", "[I", true)
  | _ => ("TwiceAsRich$Partings", "suits", "[[I", true)
def tyX5 : Nat → FieldType := fun k => match k with
  | 0 => .int
  | 1 => .int
  | 2 => .int
  | 3 => .int
  | 4 => .array .int
  | 5 => .object "TwiceAsRich$Street"
  | 6 => .array .int
  | _ => .array (.array .int)
abbrev wsX50 : List Cond := u_ws RX5 TX5 8
theorem nmX5 : ∀ a, a < 8 → ∀ b, b < 8 → a ≠ b → (TX5 a).2.1 ≠ (TX5 b).2.1 := by decide +kernel
theorem tyX5_ok : ∀ k, k < 8 → parseFieldDescriptor (TX5 k).2.2.1 = some (tyX5 k) := by decide +kernel
abbrev cX5_init : ByteArray := prog_7_method_1_code
def yX5_init : MethodName := ⟨RX5, "<init>", "()V"⟩
abbrev cX5_search : ByteArray := prog_7_method_2_code
def yX5_search : MethodName := ⟨RX5, "search", "(LTwiceAsRich$Street;I)V"⟩
abbrev cX5_noteWhatSuits : ByteArray := prog_7_method_3_code
def yX5_noteWhatSuits : MethodName := ⟨RX5, "noteWhatSuits", "(III)V"⟩
abbrev cX5_part : ByteArray := prog_7_method_4_code
def yX5_part : MethodName := ⟨RX5, "part", "(II)V"⟩
abbrev cX5_suit : ByteArray := prog_7_method_5_code
def yX5_suit : MethodName := ⟨RX5, "suit", "(II)Z"⟩
abbrev cX5_isClosedWell : ByteArray := prog_7_method_6_code
def yX5_isClosedWell : MethodName := ⟨RX5, "isClosedWell", "()Z"⟩
abbrev cX5_note : ByteArray := prog_7_method_7_code
def yX5_note : MethodName := ⟨RX5, "note", "()V"⟩
abbrev cX5_difference : ByteArray := prog_7_method_8_code
def yX5_difference : MethodName := ⟨RX5, "difference", "()I"⟩
abbrev cX5_handed : ByteArray := prog_7_method_9_code
def yX5_handed : MethodName := ⟨RX5, "handed", "()I"⟩
abbrev cX5_moving : ByteArray := prog_7_method_10_code
def yX5_moving : MethodName := ⟨RX5, "moving", "()I"⟩
def RX6 : String := "TwiceAsRich$Priest"
def TX6 : u_T := fun k => match k with
  | _ => ("TwiceAsRich$House", "figure", "I", true)
def tyX6 : Nat → FieldType := fun k => match k with
  | _ => .int
abbrev wsX60 : List Cond := u_ws RX6 TX6 1
theorem nmX6 : ∀ a, a < 1 → ∀ b, b < 1 → a ≠ b → (TX6 a).2.1 ≠ (TX6 b).2.1 := by decide +kernel
theorem tyX6_ok : ∀ k, k < 1 → parseFieldDescriptor (TX6 k).2.2.1 = some (tyX6 k) := by decide +kernel
abbrev cX6_init : ByteArray := prog_8_method_1_code
def yX6_init : MethodName := ⟨RX6, "<init>", "(I)V"⟩
abbrev cX6_kind : ByteArray := prog_8_method_2_code
def yX6_kind : MethodName := ⟨RX6, "kind", "()I"⟩
abbrev cX6_shownOf : ByteArray := prog_8_method_3_code
def yX6_shownOf : MethodName := ⟨RX6, "shownOf", "(I)I"⟩
abbrev cX6_weekly : ByteArray := prog_8_method_4_code
def yX6_weekly : MethodName := ⟨RX6, "weekly", "()I"⟩
abbrev cX6_price : ByteArray := prog_8_method_5_code
def yX6_price : MethodName := ⟨RX6, "price", "()I"⟩
def RX7 : String := "TwiceAsRich$Street"
def TX7 : u_T := fun k => match k with
  | 0 => ("TwiceAsRich$Street", "houses", "[LTwiceAsRich$House;", true)
  | 1 => ("TwiceAsRich$Street", "purses", "[I", true)
  | 2 => ("TwiceAsRich$Street", "count", "I", false)
  | _ => ("TwiceAsRich$Street", "round", "I", false)
def tyX7 : Nat → FieldType := fun k => match k with
  | 0 => .array (.object "TwiceAsRich$House")
  | 1 => .array .int
  | 2 => .int
  | _ => .int
abbrev wsX70 : List Cond := u_ws RX7 TX7 4
theorem nmX7 : ∀ a, a < 4 → ∀ b, b < 4 → a ≠ b → (TX7 a).2.1 ≠ (TX7 b).2.1 := by decide +kernel
theorem tyX7_ok : ∀ k, k < 4 → parseFieldDescriptor (TX7 k).2.2.1 = some (tyX7 k) := by decide +kernel
abbrev cX7_init : ByteArray := prog_9_method_1_code
def yX7_init : MethodName := ⟨RX7, "<init>", "()V"⟩
abbrev cX7_become : ByteArray := prog_9_method_2_code
def yX7_become : MethodName := ⟨RX7, "become", "(LTwiceAsRich$Street;)V"⟩
abbrev cX7_has : ByteArray := prog_9_method_3_code
def yX7_has : MethodName := ⟨RX7, "has", "(I)Z"⟩
abbrev cX7_hasTwo : ByteArray := prog_9_method_4_code
def yX7_hasTwo : MethodName := ⟨RX7, "hasTwo", "(II)Z"⟩
abbrev cX7_isClosed : ByteArray := prog_9_method_5_code
def yX7_isClosed : MethodName := ⟨RX7, "isClosed", "()Z"⟩
abbrev cX7_ahead : ByteArray := prog_9_method_6_code
def yX7_ahead : MethodName := ⟨RX7, "ahead", "(I)I"⟩
abbrev cX7_behind : ByteArray := prog_9_method_7_code
def yX7_behind : MethodName := ⟨RX7, "behind", "(I)I"⟩
abbrev cX7_limitBy : ByteArray := prog_9_method_8_code
def yX7_limitBy : MethodName := ⟨RX7, "limitBy", "(II)I"⟩
abbrev cX7_mostOf : ByteArray := prog_9_method_9_code
def yX7_mostOf : MethodName := ⟨RX7, "mostOf", "(I)I"⟩
abbrev cX7_breachesOf : ByteArray := prog_9_method_10_code
def yX7_breachesOf : MethodName := ⟨RX7, "breachesOf", "(I)I"⟩
abbrev cX7_allBreaches : ByteArray := prog_9_method_11_code
def yX7_allBreaches : MethodName := ⟨RX7, "allBreaches", "()I"⟩
abbrev cX7_housesWithoutBreach : ByteArray := prog_9_method_12_code
def yX7_housesWithoutBreach : MethodName := ⟨RX7, "housesWithoutBreach", "()I"⟩
abbrev cX7_holdersOf : ByteArray := prog_9_method_13_code
def yX7_holdersOf : MethodName := ⟨RX7, "holdersOf", "(I)I"⟩
abbrev cX7_allCoins : ByteArray := prog_9_method_14_code
def yX7_allCoins : MethodName := ⟨RX7, "allCoins", "()I"⟩
abbrev cX7_earn : ByteArray := prog_9_method_15_code
def yX7_earn : MethodName := ⟨RX7, "earn", "(I)V"⟩
abbrev cX7_gift : ByteArray := prog_9_method_16_code
def yX7_gift : MethodName := ⟨RX7, "gift", "(III)I"⟩
abbrev cX7_steal : ByteArray := prog_9_method_17_code
def yX7_steal : MethodName := ⟨RX7, "steal", "(II)V"⟩
abbrev cX7_exchange : ByteArray := prog_9_method_18_code
def yX7_exchange : MethodName := ⟨RX7, "exchange", "(II)V"⟩
abbrev cX7_insert : ByteArray := prog_9_method_19_code
def yX7_insert : MethodName := ⟨RX7, "insert", "(ILTwiceAsRich$House;I)V"⟩
abbrev cX7_remove : ByteArray := prog_9_method_20_code
def yX7_remove : MethodName := ⟨RX7, "remove", "(I)V"⟩
def RX8 : String := "TwiceAsRich$StreetText"
def TX8 : u_T := fun k => match k with
  | 0 => ("TwiceAsRich$StreetText", "bytes", "[I", false)
  | 1 => ("TwiceAsRich$StreetText", "size", "I", false)
  | _ => ("TwiceAsRich$StreetText", "done", "I", false)
def tyX8 : Nat → FieldType := fun k => match k with
  | 0 => .array .int
  | 1 => .int
  | _ => .int
abbrev wsX80 : List Cond := u_ws RX8 TX8 3
theorem nmX8 : ∀ a, a < 3 → ∀ b, b < 3 → a ≠ b → (TX8 a).2.1 ≠ (TX8 b).2.1 := by decide +kernel
theorem tyX8_ok : ∀ k, k < 3 → parseFieldDescriptor (TX8 k).2.2.1 = some (tyX8 k) := by decide +kernel
abbrev cX8_init : ByteArray := prog_10_method_1_code
def yX8_init : MethodName := ⟨RX8, "<init>", "()V"⟩
abbrev cX8_open : ByteArray := prog_10_method_2_code
def yX8_open : MethodName := ⟨RX8, "open", "([II)V"⟩
abbrev cX8_statements : ByteArray := prog_10_method_3_code
def yX8_statements : MethodName := ⟨RX8, "statements", "()I"⟩
abbrev cX8_brokenPlace : ByteArray := prog_10_method_4_code
def yX8_brokenPlace : MethodName := ⟨RX8, "brokenPlace", "()I"⟩
abbrev cX8_wrongPlace : ByteArray := prog_10_method_5_code
def yX8_wrongPlace : MethodName := ⟨RX8, "wrongPlace", "(LTwiceAsRich$Street;)I"⟩
abbrev cX8_endOf : ByteArray := prog_10_method_6_code
def yX8_endOf : MethodName := ⟨RX8, "endOf", "(I)I"⟩
abbrev cX8_fewestDigits : ByteArray := prog_10_method_7_code
def yX8_fewestDigits : MethodName := ⟨RX8, "fewestDigits", "(I)I"⟩
abbrev cX8_singleDigits : ByteArray := prog_10_method_8_code
def yX8_singleDigits : MethodName := ⟨RX8, "singleDigits", "(I)I"⟩
abbrev cX8_isLetter : ByteArray := prog_10_method_9_code
def yX8_isLetter : MethodName := ⟨RX8, "isLetter", "(I)Z"⟩
abbrev cX8_hasNumber : ByteArray := prog_10_method_10_code
def yX8_hasNumber : MethodName := ⟨RX8, "hasNumber", "(I)Z"⟩
abbrev cX8_isDigit : ByteArray := prog_10_method_11_code
def yX8_isDigit : MethodName := ⟨RX8, "isDigit", "(I)Z"⟩
abbrev cX8_byteAt : ByteArray := prog_10_method_12_code
def yX8_byteAt : MethodName := ⟨RX8, "byteAt", "(I)I"⟩
abbrev cX8_digitAt : ByteArray := prog_10_method_13_code
def yX8_digitAt : MethodName := ⟨RX8, "digitAt", "(I)I"⟩
abbrev cX8_numberAt : ByteArray := prog_10_method_14_code
def yX8_numberAt : MethodName := ⟨RX8, "numberAt", "(I)I"⟩
abbrev cX8_isDone : ByteArray := prog_10_method_15_code
def yX8_isDone : MethodName := ⟨RX8, "isDone", "(ILTwiceAsRich$Street;)Z"⟩
abbrev cX8_comesAsTold : ByteArray := prog_10_method_16_code
def yX8_comesAsTold : MethodName := ⟨RX8, "comesAsTold", "(LTwiceAsRich$Street;III)Z"⟩
abbrev cX8_turnsAsTold : ByteArray := prog_10_method_17_code
def yX8_turnsAsTold : MethodName := ⟨RX8, "turnsAsTold", "(LTwiceAsRich$Street;I)Z"⟩
abbrev cX8_movesAsTold : ByteArray := prog_10_method_18_code
def yX8_movesAsTold : MethodName := ⟨RX8, "movesAsTold", "(LTwiceAsRich$Street;II)Z"⟩
abbrev cX8_leavesAsTold : ByteArray := prog_10_method_19_code
def yX8_leavesAsTold : MethodName := ⟨RX8, "leavesAsTold", "(LTwiceAsRich$Street;)Z"⟩
def RX9 : String := "TwiceAsRich$Twins"
def TX9 : u_T := fun k => match k with
  | _ => ("TwiceAsRich$House", "figure", "I", true)
def tyX9 : Nat → FieldType := fun k => match k with
  | _ => .int
abbrev wsX90 : List Cond := u_ws RX9 TX9 1
theorem nmX9 : ∀ a, a < 1 → ∀ b, b < 1 → a ≠ b → (TX9 a).2.1 ≠ (TX9 b).2.1 := by decide +kernel
theorem tyX9_ok : ∀ k, k < 1 → parseFieldDescriptor (TX9 k).2.2.1 = some (tyX9 k) := by decide +kernel
abbrev cX9_init : ByteArray := prog_11_method_1_code
def yX9_init : MethodName := ⟨RX9, "<init>", "(I)V"⟩
abbrev cX9_kind : ByteArray := prog_11_method_2_code
def yX9_kind : MethodName := ⟨RX9, "kind", "()I"⟩
abbrev cX9_allowedBy : ByteArray := prog_11_method_3_code
def yX9_allowedBy : MethodName := ⟨RX9, "allowedBy", "(I)I"⟩
abbrev cX9_weekly : ByteArray := prog_11_method_4_code
def yX9_weekly : MethodName := ⟨RX9, "weekly", "()I"⟩
abbrev cX9_price : ByteArray := prog_11_method_5_code
def yX9_price : MethodName := ⟨RX9, "price", "()I"⟩
abbrev cX9_fail : ByteArray := prog_11_method_6_code
def yX9_fail : MethodName := ⟨RX9, "fail", "()V"⟩
def RX10 : String := "TwiceAsRich$Wall"
def TX10 : u_T := fun k => match k with
  | _ => ("TwiceAsRich$House", "figure", "I", true)
def tyX10 : Nat → FieldType := fun k => match k with
  | _ => .int
abbrev wsX100 : List Cond := u_ws RX10 TX10 1
theorem nmX10 : ∀ a, a < 1 → ∀ b, b < 1 → a ≠ b → (TX10 a).2.1 ≠ (TX10 b).2.1 := by decide +kernel
theorem tyX10_ok : ∀ k, k < 1 → parseFieldDescriptor (TX10 k).2.2.1 = some (tyX10 k) := by decide +kernel
abbrev cX10_init : ByteArray := prog_12_method_1_code
def yX10_init : MethodName := ⟨RX10, "<init>", "(I)V"⟩
abbrev cX10_kind : ByteArray := prog_12_method_2_code
def yX10_kind : MethodName := ⟨RX10, "kind", "()I"⟩
abbrev cX10_isLookedAt : ByteArray := prog_12_method_3_code
def yX10_isLookedAt : MethodName := ⟨RX10, "isLookedAt", "()Z"⟩
abbrev cX10_allowedBy : ByteArray := prog_12_method_4_code
def yX10_allowedBy : MethodName := ⟨RX10, "allowedBy", "(I)I"⟩
abbrev cX10_weekly : ByteArray := prog_12_method_5_code
def yX10_weekly : MethodName := ⟨RX10, "weekly", "()I"⟩
abbrev cX10_price : ByteArray := prog_12_method_6_code
def yX10_price : MethodName := ⟨RX10, "price", "()I"⟩
abbrev cX10_hasFailure : ByteArray := prog_12_method_7_code
def yX10_hasFailure : MethodName := ⟨RX10, "hasFailure", "()Z"⟩
def RX11 : String := "TwiceAsRich"
def TX11 : u_T := fun k => match k with
  | 0 => ("TwiceAsRich", "street", "LTwiceAsRich$Street;", true)
  | 1 => ("TwiceAsRich", "image", "LTwiceAsRich$Street;", true)
  | 2 => ("TwiceAsRich", "imageTaken", "Z", false)
  | 3 => ("TwiceAsRich", "mind", "LTwiceAsRich$Street;", true)
  | 4 => ("TwiceAsRich", "plainHouse", "LTwiceAsRich$House;", true)
  | 5 => ("TwiceAsRich", "partings", "LTwiceAsRich$Partings;", true)
  | 6 => ("TwiceAsRich", "text", "LTwiceAsRich$StreetText;", true)
  | 7 => ("TwiceAsRich", "kept", "[LTwiceAsRich$House;", true)
  | 8 => ("TwiceAsRich", "sorts", "[I", true)
  | 9 => ("TwiceAsRich", "sizes", "[I", true)
  | _ => ("TwiceAsRich", "rows", "[[I", true)
def tyX11 : Nat → FieldType := fun k => match k with
  | 0 => .object "TwiceAsRich$Street"
  | 1 => .object "TwiceAsRich$Street"
  | 2 => .boolean
  | 3 => .object "TwiceAsRich$Street"
  | 4 => .object "TwiceAsRich$House"
  | 5 => .object "TwiceAsRich$Partings"
  | 6 => .object "TwiceAsRich$StreetText"
  | 7 => .array (.object "TwiceAsRich$House")
  | 8 => .array .int
  | 9 => .array .int
  | _ => .array (.array .int)
abbrev wsX110 : List Cond := u_ws RX11 TX11 11
theorem nmX11 : ∀ a, a < 11 → ∀ b, b < 11 → a ≠ b → (TX11 a).2.1 ≠ (TX11 b).2.1 := by decide +kernel
theorem tyX11_ok : ∀ k, k < 11 → parseFieldDescriptor (TX11 k).2.2.1 = some (tyX11 k) := by decide +kernel
abbrev cX11_init : ByteArray := prog_1_method_1_code
def yX11_init : MethodName := ⟨RX11, "<init>", "()V"⟩
abbrev cX11_street : ByteArray := prog_1_method_2_code
def yX11_street : MethodName := ⟨RX11, "street", "(I)I"⟩
abbrev cX11_house : ByteArray := prog_1_method_3_code
def yX11_house : MethodName := ⟨RX11, "house", "(II)I"⟩
abbrev cX11_comes : ByteArray := prog_1_method_4_code
def yX11_comes : MethodName := ⟨RX11, "comes", "(II)I"⟩
abbrev cX11_round : ByteArray := prog_1_method_5_code
def yX11_round : MethodName := ⟨RX11, "round", "(I)I"⟩
abbrev cX11_give : ByteArray := prog_1_method_6_code
def yX11_give : MethodName := ⟨RX11, "give", "(III)I"⟩
abbrev cX11_weeks : ByteArray := prog_1_method_7_code
def yX11_weeks : MethodName := ⟨RX11, "weeks", "(I)I"⟩
abbrev cX11_lawful : ByteArray := prog_1_method_8_code
def yX11_lawful : MethodName := ⟨RX11, "lawful", "()I"⟩
abbrev cX11_breaches : ByteArray := prog_1_method_9_code
def yX11_breaches : MethodName := ⟨RX11, "breaches", "(I)I"⟩
abbrev cX11_held : ByteArray := prog_1_method_10_code
def yX11_held : MethodName := ⟨RX11, "held", "(I)I"⟩
abbrev cX11_free : ByteArray := prog_1_method_11_code
def yX11_free : MethodName := ⟨RX11, "free", "()I"⟩
abbrev cX11_partings : ByteArray := prog_1_method_12_code
def yX11_partings : MethodName := ⟨RX11, "partings", "(I)I"⟩
abbrev cX11_uneven : ByteArray := prog_1_method_13_code
def yX11_uneven : MethodName := ⟨RX11, "uneven", "(I)I"⟩
abbrev cX11_richest : ByteArray := prog_1_method_14_code
def yX11_richest : MethodName := ⟨RX11, "richest", "(II)I"⟩
abbrev cX11_hands : ByteArray := prog_1_method_15_code
def yX11_hands : MethodName := ⟨RX11, "hands", "()I"⟩
abbrev cX11_any : ByteArray := prog_1_method_16_code
def yX11_any : MethodName := ⟨RX11, "any", "()I"⟩
abbrev cX11_change : ByteArray := prog_1_method_17_code
def yX11_change : MethodName := ⟨RX11, "change", "(I)I"⟩
abbrev cX11_wedding : ByteArray := prog_1_method_18_code
def yX11_wedding : MethodName := ⟨RX11, "wedding", "(I)I"⟩
abbrev cX11_worth : ByteArray := prog_1_method_19_code
def yX11_worth : MethodName := ⟨RX11, "worth", "(II)I"⟩
abbrev cX11_fitting : ByteArray := prog_1_method_20_code
def yX11_fitting : MethodName := ⟨RX11, "fitting", "(II)I"⟩
abbrev cX11_given : ByteArray := prog_1_method_21_code
def yX11_given : MethodName := ⟨RX11, "given", "(II)I"⟩
abbrev cX11_tax : ByteArray := prog_1_method_22_code
def yX11_tax : MethodName := ⟨RX11, "tax", "(I)I"⟩
abbrev cX11_seeded : ByteArray := prog_1_method_23_code
def yX11_seeded : MethodName := ⟨RX11, "seeded", "(II)I"⟩
abbrev cX11_judge : ByteArray := prog_1_method_24_code
def yX11_judge : MethodName := ⟨RX11, "judge", "(I)I"⟩
abbrev cX11_image : ByteArray := prog_1_method_25_code
def yX11_image : MethodName := ⟨RX11, "image", "()I"⟩
abbrev cX11_restore : ByteArray := prog_1_method_26_code
def yX11_restore : MethodName := ⟨RX11, "restore", "()I"⟩
abbrev cX11_count : ByteArray := prog_1_method_27_code
def yX11_count : MethodName := ⟨RX11, "count", "(I)I"⟩
abbrev cX11_keep : ByteArray := prog_1_method_28_code
def yX11_keep : MethodName := ⟨RX11, "keep", "(IIII)I"⟩
abbrev cX11_row : ByteArray := prog_1_method_29_code
def yX11_row : MethodName := ⟨RX11, "row", "(III)I"⟩
abbrev cX11_put : ByteArray := prog_1_method_30_code
def yX11_put : MethodName := ⟨RX11, "put", "(III)I"⟩
abbrev cX11_element : ByteArray := prog_1_method_31_code
def yX11_element : MethodName := ⟨RX11, "element", "(II)J"⟩
abbrev cX11_copy : ByteArray := prog_1_method_32_code
def yX11_copy : MethodName := ⟨RX11, "copy", "(IIIII)I"⟩
abbrev cX11_fee : ByteArray := prog_1_method_33_code
def yX11_fee : MethodName := ⟨RX11, "fee", "(I)I"⟩
abbrev cX11_toss : ByteArray := prog_1_method_34_code
def yX11_toss : MethodName := ⟨RX11, "toss", "(I)I"⟩
abbrev cX11_isPurse : ByteArray := prog_1_method_35_code
def yX11_isPurse : MethodName := ⟨RX11, "isPurse", "(I)Z"⟩
abbrev cX11_isHouse : ByteArray := prog_1_method_36_code
def yX11_isHouse : MethodName := ⟨RX11, "isHouse", "(II)Z"⟩
abbrev cX11_isShelf : ByteArray := prog_1_method_37_code
def yX11_isShelf : MethodName := ⟨RX11, "isShelf", "(I)Z"⟩
abbrev cX11_holdsNothing : ByteArray := prog_1_method_38_code
def yX11_holdsNothing : MethodName := ⟨RX11, "holdsNothing", "(I)Z"⟩
abbrev cX11_isPlace : ByteArray := prog_1_method_39_code
def yX11_isPlace : MethodName := ⟨RX11, "isPlace", "(II)Z"⟩
abbrev cX11_isStretch : ByteArray := prog_1_method_40_code
def yX11_isStretch : MethodName := ⟨RX11, "isStretch", "(III)Z"⟩
abbrev cX11_rowRefusal : ByteArray := prog_1_method_41_code
def yX11_rowRefusal : MethodName := ⟨RX11, "rowRefusal", "(I)I"⟩
abbrev cX11_sortRefusal : ByteArray := prog_1_method_42_code
def yX11_sortRefusal : MethodName := ⟨RX11, "sortRefusal", "(II)I"⟩
abbrev cX11_houseRefusal : ByteArray := prog_1_method_43_code
def yX11_houseRefusal : MethodName := ⟨RX11, "houseRefusal", "(I)I"⟩
abbrev cX11_partingRefusal : ByteArray := prog_1_method_44_code
def yX11_partingRefusal : MethodName := ⟨RX11, "partingRefusal", "(I)I"⟩
abbrev cX11_canBeParted : ByteArray := prog_1_method_45_code
def yX11_canBeParted : MethodName := ⟨RX11, "canBeParted", "()Z"⟩
abbrev cX11_areGifts : ByteArray := prog_1_method_46_code
def yX11_areGifts : MethodName := ⟨RX11, "areGifts", "([II)Z"⟩
abbrev cX11_lowestBits : ByteArray := prog_1_method_47_code
def yX11_lowestBits : MethodName := ⟨RX11, "lowestBits", "(II)I"⟩
abbrev cX11_leastOf : ByteArray := prog_1_method_48_code
def yX11_leastOf : MethodName := ⟨RX11, "leastOf", "(I)I"⟩
abbrev cX11_nextDraw : ByteArray := prog_1_method_49_code
def yX11_nextDraw : MethodName := ⟨RX11, "nextDraw", "(I)I"⟩
abbrev cX11_drawnBelow : ByteArray := prog_1_method_50_code
def yX11_drawnBelow : MethodName := ⟨RX11, "drawnBelow", "(II)I"⟩
abbrev cX11_houseOfKind : ByteArray := prog_1_method_51_code
def yX11_houseOfKind : MethodName := ⟨RX11, "houseOfKind", "(II)LTwiceAsRich$House;"⟩
def RX12 : String := "TwiceAsRichModel"
def TX12 : u_T := fun k => match k with
  | 0 => ("TwiceAsRichModel", "s", "[I", true)
  | 1 => ("TwiceAsRichModel", "image", "[I", true)
  | 2 => ("TwiceAsRichModel", "read", "[I", true)
  | 3 => ("TwiceAsRichModel", "mind", "[I", true)
  | 4 => ("TwiceAsRichModel", "kept", "[I", true)
  | 5 => ("TwiceAsRichModel", "sort", "[I", true)
  | 6 => ("TwiceAsRichModel", "size", "[I", true)
  | 7 => ("TwiceAsRichModel", "element", "[I", true)
  | 8 => ("TwiceAsRichModel", "keptKind", "[I", true)
  | 9 => ("TwiceAsRichModel", "keptFigure", "[I", true)
  | 10 => ("TwiceAsRichModel", "hasImage", "Z", false)
  | 11 => ("TwiceAsRichModel", "thrown", "I", false)
  | 12 => ("TwiceAsRichModel", "pos", "I", false)
  | 13 => ("TwiceAsRichModel", "base", "I", false)
  | 14 => ("TwiceAsRichModel", "end", "I", false)
  | 15 => ("TwiceAsRichModel", "told", "I", false)
  | 16 => ("TwiceAsRichModel", "numbers", "[I", true)
  | 17 => ("TwiceAsRichModel", "ways", "I", false)
  | 18 => ("TwiceAsRichModel", "uneven", "I", false)
  | 19 => ("TwiceAsRichModel", "most", "I", false)
  | 20 => ("TwiceAsRichModel", "fewestHands", "I", false)
  | 21 => ("TwiceAsRichModel", "fewestAny", "I", false)
  | 22 => ("TwiceAsRichModel", "was", "[I", true)
  | _ => ("TwiceAsRichModel", "seed", "I", false)
def tyX12 : Nat → FieldType := fun k => match k with
  | 0 => .array .int
  | 1 => .array .int
  | 2 => .array .int
  | 3 => .array .int
  | 4 => .array .int
  | 5 => .array .int
  | 6 => .array .int
  | 7 => .array .int
  | 8 => .array .int
  | 9 => .array .int
  | 10 => .boolean
  | 11 => .int
  | 12 => .int
  | 13 => .int
  | 14 => .int
  | 15 => .int
  | 16 => .array .int
  | 17 => .int
  | 18 => .int
  | 19 => .int
  | 20 => .int
  | 21 => .int
  | 22 => .array .int
  | _ => .int
abbrev wsX120 : List Cond := u_ws RX12 TX12 24
theorem nmX12 : ∀ a, a < 24 → ∀ b, b < 24 → a ≠ b → (TX12 a).2.1 ≠ (TX12 b).2.1 := by decide +kernel
theorem tyX12_ok : ∀ k, k < 24 → parseFieldDescriptor (TX12 k).2.2.1 = some (tyX12 k) := by decide +kernel
abbrev cX12_init : ByteArray := prog_14_method_1_code
def yX12_init : MethodName := ⟨RX12, "<init>", "()V"⟩
abbrev cX12_thrown : ByteArray := prog_14_method_2_code
def yX12_thrown : MethodName := ⟨RX12, "thrown", "()I"⟩
abbrev cX12_isIn : ByteArray := prog_14_method_3_code
def yX12_isIn : MethodName := ⟨RX12, "isIn", "(JJJ)Z"⟩
abbrev cX12_isShelf : ByteArray := prog_14_method_4_code
def yX12_isShelf : MethodName := ⟨RX12, "isShelf", "(I)Z"⟩
abbrev cX12_isHouse : ByteArray := prog_14_method_5_code
def yX12_isHouse : MethodName := ⟨RX12, "isHouse", "(I)Z"⟩
abbrev cX12_areTwo : ByteArray := prog_14_method_6_code
def yX12_areTwo : MethodName := ⟨RX12, "areTwo", "(II)Z"⟩
abbrev cX12_lays : ByteArray := prog_14_method_7_code
def yX12_lays : MethodName := ⟨RX12, "lays", "([I[I)V"⟩
abbrev cX12_begins : ByteArray := prog_14_method_8_code
def yX12_begins : MethodName := ⟨RX12, "begins", "()V"⟩
abbrev cX12_ends : ByteArray := prog_14_method_9_code
def yX12_ends : MethodName := ⟨RX12, "ends", "()V"⟩
abbrev cX12_get : ByteArray := prog_14_method_10_code
def yX12_get : MethodName := ⟨RX12, "get", "(II)I"⟩
abbrev cX12_puts : ByteArray := prog_14_method_11_code
def yX12_puts : MethodName := ⟨RX12, "puts", "(III)V"⟩
abbrev cX12_kind : ByteArray := prog_14_method_12_code
def yX12_kind : MethodName := ⟨RX12, "kind", "(I)I"⟩
abbrev cX12_figure : ByteArray := prog_14_method_13_code
def yX12_figure : MethodName := ⟨RX12, "figure", "(I)I"⟩
abbrev cX12_purse : ByteArray := prog_14_method_14_code
def yX12_purse : MethodName := ⟨RX12, "purse", "(I)I"⟩
abbrev cX12_coins : ByteArray := prog_14_method_15_code
def yX12_coins : MethodName := ⟨RX12, "coins", "()I"⟩
abbrev cX12_isLookedAt : ByteArray := prog_14_method_16_code
def yX12_isLookedAt : MethodName := ⟨RX12, "isLookedAt", "(I)Z"⟩
abbrev cX12_shows : ByteArray := prog_14_method_17_code
def yX12_shows : MethodName := ⟨RX12, "shows", "(I)I"⟩
abbrev cX12_mayHave : ByteArray := prog_14_method_18_code
def yX12_mayHave : MethodName := ⟨RX12, "mayHave", "(II)I"⟩
abbrev cX12_earnsBy : ByteArray := prog_14_method_19_code
def yX12_earnsBy : MethodName := ⟨RX12, "earnsBy", "(II)I"⟩
abbrev cX12_beside : ByteArray := prog_14_method_20_code
def yX12_beside : MethodName := ⟨RX12, "beside", "(II)I"⟩
abbrev cX12_tooMuchBy : ByteArray := prog_14_method_21_code
def yX12_tooMuchBy : MethodName := ⟨RX12, "tooMuchBy", "(II)I"⟩
abbrev cX12_bits : ByteArray := prog_14_method_22_code
def yX12_bits : MethodName := ⟨RX12, "bits", "(I)I"⟩
abbrev cX12_breachesOf : ByteArray := prog_14_method_23_code
def yX12_breachesOf : MethodName := ⟨RX12, "breachesOf", "(I)I"⟩
abbrev cX12_breachesAll : ByteArray := prog_14_method_24_code
def yX12_breachesAll : MethodName := ⟨RX12, "breachesAll", "()I"⟩
abbrev cX12_isLawful : ByteArray := prog_14_method_25_code
def yX12_isLawful : MethodName := ⟨RX12, "isLawful", "()Z"⟩
abbrev cX12_mostOf : ByteArray := prog_14_method_26_code
def yX12_mostOf : MethodName := ⟨RX12, "mostOf", "(I)I"⟩
abbrev cX12_here : ByteArray := prog_14_method_27_code
def yX12_here : MethodName := ⟨RX12, "here", "()I"⟩
abbrev cX12_readsNumber : ByteArray := prog_14_method_28_code
def yX12_readsNumber : MethodName := ⟨RX12, "readsNumber", "(I)Z"⟩
abbrev cX12_readsStatement : ByteArray := prog_14_method_29_code
def yX12_readsStatement : MethodName := ⟨RX12, "readsStatement", "()Z"⟩
abbrev cX12_joins : ByteArray := prog_14_method_30_code
def yX12_joins : MethodName := ⟨RX12, "joins", "(III)V"⟩
abbrev cX12_adds : ByteArray := prog_14_method_31_code
def yX12_adds : MethodName := ⟨RX12, "adds", "(III)Z"⟩
abbrev cX12_wrongGift : ByteArray := prog_14_method_32_code
def yX12_wrongGift : MethodName := ⟨RX12, "wrongGift", "(III)I"⟩
abbrev cX12_gives : ByteArray := prog_14_method_33_code
def yX12_gives : MethodName := ⟨RX12, "gives", "(III)V"⟩
abbrev cX12_givesIf : ByteArray := prog_14_method_34_code
def yX12_givesIf : MethodName := ⟨RX12, "givesIf", "(III)Z"⟩
abbrev cX12_changes : ByteArray := prog_14_method_35_code
def yX12_changes : MethodName := ⟨RX12, "changes", "(II)V"⟩
abbrev cX12_comesTold : ByteArray := prog_14_method_36_code
def yX12_comesTold : MethodName := ⟨RX12, "comesTold", "(I)Z"⟩
abbrev cX12_wrongRow : ByteArray := prog_14_method_37_code
def yX12_wrongRow : MethodName := ⟨RX12, "wrongRow", "(II)I"⟩
abbrev cX12_street : ByteArray := prog_14_method_38_code
def yX12_street : MethodName := ⟨RX12, "street", "(I)I"⟩
abbrev cX12_house : ByteArray := prog_14_method_39_code
def yX12_house : MethodName := ⟨RX12, "house", "(II)I"⟩
abbrev cX12_wrongKept : ByteArray := prog_14_method_40_code
def yX12_wrongKept : MethodName := ⟨RX12, "wrongKept", "(I)I"⟩
abbrev cX12_comes : ByteArray := prog_14_method_41_code
def yX12_comes : MethodName := ⟨RX12, "comes", "(II)I"⟩
abbrev cX12_round : ByteArray := prog_14_method_42_code
def yX12_round : MethodName := ⟨RX12, "round", "(I)I"⟩
abbrev cX12_give : ByteArray := prog_14_method_43_code
def yX12_give : MethodName := ⟨RX12, "give", "(III)I"⟩
abbrev cX12_weeks : ByteArray := prog_14_method_44_code
def yX12_weeks : MethodName := ⟨RX12, "weeks", "(I)I"⟩
abbrev cX12_lawful : ByteArray := prog_14_method_45_code
def yX12_lawful : MethodName := ⟨RX12, "lawful", "()I"⟩
abbrev cX12_breaches : ByteArray := prog_14_method_46_code
def yX12_breaches : MethodName := ⟨RX12, "breaches", "(I)I"⟩
abbrev cX12_held : ByteArray := prog_14_method_47_code
def yX12_held : MethodName := ⟨RX12, "held", "(I)I"⟩
abbrev cX12_free : ByteArray := prog_14_method_48_code
def yX12_free : MethodName := ⟨RX12, "free", "()I"⟩
abbrev cX12_partsAre : ByteArray := prog_14_method_49_code
def yX12_partsAre : MethodName := ⟨RX12, "partsAre", "(I)V"⟩
abbrev cX12_parts : ByteArray := prog_14_method_50_code
def yX12_parts : MethodName := ⟨RX12, "parts", "(III)V"⟩
abbrev cX12_partsAll : ByteArray := prog_14_method_51_code
def yX12_partsAll : MethodName := ⟨RX12, "partsAll", "(II)V"⟩
abbrev cX12_wrongParting : ByteArray := prog_14_method_52_code
def yX12_wrongParting : MethodName := ⟨RX12, "wrongParting", "(I)I"⟩
abbrev cX12_partings : ByteArray := prog_14_method_53_code
def yX12_partings : MethodName := ⟨RX12, "partings", "(I)I"⟩
abbrev cX12_uneven : ByteArray := prog_14_method_54_code
def yX12_uneven : MethodName := ⟨RX12, "uneven", "(I)I"⟩
abbrev cX12_richest : ByteArray := prog_14_method_55_code
def yX12_richest : MethodName := ⟨RX12, "richest", "(II)I"⟩
abbrev cX12_tooMany : ByteArray := prog_14_method_56_code
def yX12_tooMany : MethodName := ⟨RX12, "tooMany", "()Z"⟩
abbrev cX12_hands : ByteArray := prog_14_method_57_code
def yX12_hands : MethodName := ⟨RX12, "hands", "()I"⟩
abbrev cX12_any : ByteArray := prog_14_method_58_code
def yX12_any : MethodName := ⟨RX12, "any", "()I"⟩
abbrev cX12_change : ByteArray := prog_14_method_59_code
def yX12_change : MethodName := ⟨RX12, "change", "(I)I"⟩
abbrev cX12_wedding : ByteArray := prog_14_method_60_code
def yX12_wedding : MethodName := ⟨RX12, "wedding", "(I)I"⟩
abbrev cX12_worth : ByteArray := prog_14_method_61_code
def yX12_worth : MethodName := ⟨RX12, "worth", "(II)I"⟩
abbrev cX12_fitting : ByteArray := prog_14_method_62_code
def yX12_fitting : MethodName := ⟨RX12, "fitting", "(II)I"⟩
abbrev cX12_toldAt : ByteArray := prog_14_method_63_code
def yX12_toldAt : MethodName := ⟨RX12, "toldAt", "(II)I"⟩
abbrev cX12_given : ByteArray := prog_14_method_64_code
def yX12_given : MethodName := ⟨RX12, "given", "(II)I"⟩
abbrev cX12_tax : ByteArray := prog_14_method_65_code
def yX12_tax : MethodName := ⟨RX12, "tax", "(I)I"⟩
abbrev cX12_drawn : ByteArray := prog_14_method_66_code
def yX12_drawn : MethodName := ⟨RX12, "drawn", "(I)I"⟩
abbrev cX12_seeded : ByteArray := prog_14_method_67_code
def yX12_seeded : MethodName := ⟨RX12, "seeded", "(II)I"⟩
abbrev cX12_judge : ByteArray := prog_14_method_68_code
def yX12_judge : MethodName := ⟨RX12, "judge", "(I)I"⟩
abbrev cX12_image : ByteArray := prog_14_method_69_code
def yX12_image : MethodName := ⟨RX12, "image", "()I"⟩
abbrev cX12_restore : ByteArray := prog_14_method_70_code
def yX12_restore : MethodName := ⟨RX12, "restore", "()I"⟩
abbrev cX12_count : ByteArray := prog_14_method_71_code
def yX12_count : MethodName := ⟨RX12, "count", "(I)I"⟩
abbrev cX12_feeBy : ByteArray := prog_14_method_72_code
def yX12_feeBy : MethodName := ⟨RX12, "feeBy", "(II)I"⟩
abbrev cX12_keep : ByteArray := prog_14_method_73_code
def yX12_keep : MethodName := ⟨RX12, "keep", "(IIII)I"⟩
abbrev cX12_row : ByteArray := prog_14_method_74_code
def yX12_row : MethodName := ⟨RX12, "row", "(III)I"⟩
abbrev cX12_put : ByteArray := prog_14_method_75_code
def yX12_put : MethodName := ⟨RX12, "put", "(III)I"⟩
abbrev cX12_element : ByteArray := prog_14_method_76_code
def yX12_element : MethodName := ⟨RX12, "element", "(II)J"⟩
abbrev cX12_copy : ByteArray := prog_14_method_77_code
def yX12_copy : MethodName := ⟨RX12, "copy", "(IIIII)I"⟩
abbrev cX12_fee : ByteArray := prog_14_method_78_code
def yX12_fee : MethodName := ⟨RX12, "fee", "(I)I"⟩
abbrev cX12_toss : ByteArray := prog_14_method_79_code
def yX12_toss : MethodName := ⟨RX12, "toss", "(I)I"⟩
def RJx145de : String := "java/io/Serializable"
def TJx145de : u_T := fun k => match k with
  | _ => ("", "", "", false)
def tyJx145de : Nat → FieldType := fun k => match k with
  | _ => .int
abbrev wsJx145de0 : List Cond := u_ws RJx145de TJx145de 0
theorem nmJx145de : ∀ a, a < 0 → ∀ b, b < 0 → a ≠ b → (TJx145de a).2.1 ≠ (TJx145de b).2.1 := by decide +kernel
theorem tyJx145de_ok : ∀ k, k < 0 → parseFieldDescriptor (TJx145de k).2.2.1 = some (tyJx145de k) := by decide +kernel
def RJ9 : String := "java/lang/Math"
def TJ9 : u_T := fun k => match k with
  | _ => ("", "", "", false)
def tyJ9 : Nat → FieldType := fun k => match k with
  | _ => .int
abbrev wsJ90 : List Cond := u_ws RJ9 TJ9 0
theorem nmJ9 : ∀ a, a < 0 → ∀ b, b < 0 → a ≠ b → (TJ9 a).2.1 ≠ (TJ9 b).2.1 := by decide +kernel
theorem tyJ9_ok : ∀ k, k < 0 → parseFieldDescriptor (TJ9 k).2.2.1 = some (tyJ9 k) := by decide +kernel
abbrev cJ9_abs_0f7a4 : ByteArray := prog_18_method_59_code
def yJ9_abs_0f7a4 : MethodName := ⟨RJ9, "abs", "(I)I"⟩
abbrev cJ9_max_7cf53 : ByteArray := prog_18_method_65_code
def yJ9_max_7cf53 : MethodName := ⟨RJ9, "max", "(II)I"⟩
abbrev cJ9_min_7cf53 : ByteArray := prog_18_method_69_code
def yJ9_min_7cf53 : MethodName := ⟨RJ9, "min", "(II)I"⟩
def RJ0 : String := "java/lang/String"
def TJ0 : u_T := fun k => match k with
  | _ => ("", "", "", false)
def tyJ0 : Nat → FieldType := fun k => match k with
  | _ => .int
abbrev wsJ00 : List Cond := u_ws RJ0 TJ0 0
theorem nmJ0 : ∀ a, a < 0 → ∀ b, b < 0 → a ≠ b → (TJ0 a).2.1 ≠ (TJ0 b).2.1 := by decide +kernel
theorem tyJ0_ok : ∀ k, k < 0 → parseFieldDescriptor (TJ0 k).2.2.1 = some (tyJ0 k) := by decide +kernel
def RJ10 : String := "java/lang/System"
def TJ10 : u_T := fun k => match k with
  | _ => ("", "", "", false)
def tyJ10 : Nat → FieldType := fun k => match k with
  | _ => .int
abbrev wsJ100 : List Cond := u_ws RJ10 TJ10 0
theorem nmJ10 : ∀ a, a < 0 → ∀ b, b < 0 → a ≠ b → (TJ10 a).2.1 ≠ (TJ10 b).2.1 := by decide +kernel
theorem tyJ10_ok : ∀ k, k < 0 → parseFieldDescriptor (TJ10 k).2.2.1 = some (tyJ10 k) := by decide +kernel
def RJ7 : String := "java/util/Arrays"
def TJ7 : u_T := fun k => match k with
  | _ => ("", "", "", false)
def tyJ7 : Nat → FieldType := fun k => match k with
  | _ => .int
abbrev wsJ70 : List Cond := u_ws RJ7 TJ7 0
theorem nmJ7 : ∀ a, a < 0 → ∀ b, b < 0 → a ≠ b → (TJ7 a).2.1 ≠ (TJ7 b).2.1 := by decide +kernel
theorem tyJ7_ok : ∀ k, k < 0 → parseFieldDescriptor (TJ7 k).2.2.1 = some (tyJ7 k) := by decide +kernel
abbrev cJ7_fill_53178 : ByteArray := prog_24_method_103_code
def yJ7_fill_53178 : MethodName := ⟨RJ7, "fill", "([II)V"⟩
def RL : String := "TwiceAsRichLaw"
abbrev cL_element : ByteArray := method_3_code
def yL_element : MethodName := ⟨RL, "element", "(LTwiceAsRich;II[J)I"⟩
abbrev cL_law : ByteArray := code
def yL_law : MethodName := ⟨RL, "law", "([I)Z"⟩
def wsX3_init : List Cond := .code yX3_init cX3_init 2 none :: ([.methodLink RX3 1 objectInit, .instanceMethod objectInit, .code objectInit ⟨#[0xb1]⟩ 1 none, .fieldLink RX3 7 "TwiceAsRich$House" "figure" "I"] ++ wsX00 ++ wsX10 ++ wsX20 ++ wsX30 ++ wsX40 ++ wsX60 ++ wsX90 ++ wsX100)
def wsX6_init : List Cond := .code yX6_init cX6_init 2 none :: ([.methodLink RX6 1 yX3_init, .instanceMethod yX3_init, .initialized RX3, .code yX3_init cX3_init 2 none, .methodLink RX3 1 objectInit, .instanceMethod objectInit, .code objectInit ⟨#[0xb1]⟩ 1 none, .fieldLink RX3 7 "TwiceAsRich$House" "figure" "I"] ++ wsX00 ++ wsX10 ++ wsX20 ++ wsX30 ++ wsX40 ++ wsX60 ++ wsX90 ++ wsX100)
def wsX0_init : List Cond := .code yX0_init cX0_init 2 none :: ([.methodLink RX0 1 yX6_init, .instanceMethod yX6_init, .initialized RX6, .code yX6_init cX6_init 2 none, .methodLink RX6 1 yX3_init, .instanceMethod yX3_init, .initialized RX3, .code yX3_init cX3_init 2 none, .methodLink RX3 1 objectInit, .instanceMethod objectInit, .code objectInit ⟨#[0xb1]⟩ 1 none, .fieldLink RX3 7 "TwiceAsRich$House" "figure" "I"] ++ wsX00 ++ wsX10 ++ wsX20 ++ wsX30 ++ wsX40 ++ wsX60 ++ wsX90 ++ wsX100)
def wsX0_kind : List Cond := .code yX0_kind cX0_kind 1 (some .int) :: ([])
def wsX3_shownOf : List Cond := .code yX3_shownOf cX3_shownOf 2 (some .int) :: ([])
def wsX6_shownOf : List Cond := .code yX6_shownOf cX6_shownOf 2 (some .int) :: ([.methodLink RX6 7 yX3_shownOf, .sameMethod "TwiceAsRich$House" "TwiceAsRich$House" "shownOf" "(I)I", .superclass RX6 RX3, .instanceMethod yX3_shownOf, .initialized RX3, .code yX3_shownOf cX3_shownOf 2 (some .int)])
def wsX0_shownOf : List Cond := .code yX0_shownOf cX0_shownOf 2 (some .int) :: ([.fieldLink RX0 11 "TwiceAsRich$Beggar" "figure" "I", .sameField "TwiceAsRich$Beggar" "TwiceAsRich$House" "figure" "I", .methodLink RX0 7 yX6_shownOf, .sameMethod "TwiceAsRich$Priest" "TwiceAsRich$Priest" "shownOf" "(I)I", .superclass RX0 RX6, .instanceMethod yX6_shownOf, .initialized RX6, .code yX6_shownOf cX6_shownOf 2 (some .int), .methodLink RX6 7 yX3_shownOf, .sameMethod "TwiceAsRich$House" "TwiceAsRich$House" "shownOf" "(I)I", .superclass RX6 RX3, .instanceMethod yX3_shownOf, .initialized RX3, .code yX3_shownOf cX3_shownOf 2 (some .int)] ++ wsX00 ++ wsX10 ++ wsX20 ++ wsX30 ++ wsX40 ++ wsX60 ++ wsX90 ++ wsX100)
def wsX3_weekly : List Cond := .code yX3_weekly cX3_weekly 1 (some .int) :: ([])
def wsX6_weekly : List Cond := .code yX6_weekly cX6_weekly 1 (some .int) :: ([.methodLink RX6 11 yX3_weekly, .sameMethod "TwiceAsRich$House" "TwiceAsRich$House" "weekly" "()I", .superclass RX6 RX3, .instanceMethod yX3_weekly, .initialized RX3, .code yX3_weekly cX3_weekly 1 (some .int)])
def wsX0_weekly : List Cond := .code yX0_weekly cX0_weekly 1 (some .int) :: ([.methodLink RX0 17 yX6_weekly, .sameMethod "TwiceAsRich$Priest" "TwiceAsRich$Priest" "weekly" "()I", .superclass RX0 RX6, .instanceMethod yX6_weekly, .initialized RX6, .code yX6_weekly cX6_weekly 1 (some .int), .methodLink RX6 11 yX3_weekly, .sameMethod "TwiceAsRich$House" "TwiceAsRich$House" "weekly" "()I", .superclass RX6 RX3, .instanceMethod yX3_weekly, .initialized RX3, .code yX3_weekly cX3_weekly 1 (some .int)])
def wsX3_price : List Cond := .code yX3_price cX3_price 1 (some .int) :: ([])
def wsX6_price : List Cond := .code yX6_price cX6_price 1 (some .int) :: ([.methodLink RX6 15 yX3_price, .sameMethod "TwiceAsRich$House" "TwiceAsRich$House" "price" "()I", .superclass RX6 RX3, .instanceMethod yX3_price, .initialized RX3, .code yX3_price cX3_price 1 (some .int)])
def wsX0_price : List Cond := .code yX0_price cX0_price 1 (some .int) :: ([.fieldLink RX0 11 "TwiceAsRich$Beggar" "figure" "I", .sameField "TwiceAsRich$Beggar" "TwiceAsRich$House" "figure" "I", .methodLink RX0 21 yX6_price, .sameMethod "TwiceAsRich$Priest" "TwiceAsRich$Priest" "price" "()I", .superclass RX0 RX6, .instanceMethod yX6_price, .initialized RX6, .code yX6_price cX6_price 1 (some .int), .methodLink RX6 15 yX3_price, .sameMethod "TwiceAsRich$House" "TwiceAsRich$House" "price" "()I", .superclass RX6 RX3, .instanceMethod yX3_price, .initialized RX3, .code yX3_price cX3_price 1 (some .int)] ++ wsX00 ++ wsX10 ++ wsX20 ++ wsX30 ++ wsX40 ++ wsX60 ++ wsX90 ++ wsX100)
def wsX0_fail : List Cond := .code yX0_fail cX0_fail 1 none :: ([.classLink RX0 24 "java/lang/IllegalArgumentException", .initialized "java/lang/IllegalArgumentException"] ++ (vx_at0 RX0 26 "java/lang/IllegalArgumentException" ["java/lang/RuntimeException", "java/lang/Exception"]).filter goodWord)
def wsX10_init : List Cond := .code yX10_init cX10_init 2 none :: ([.methodLink RX10 3 yX3_init, .instanceMethod yX3_init, .initialized RX3, .code yX3_init cX3_init 2 none, .methodLink RX3 1 objectInit, .instanceMethod objectInit, .code objectInit ⟨#[0xb1]⟩ 1 none, .fieldLink RX3 7 "TwiceAsRich$House" "figure" "I"] ++ wsX00 ++ wsX10 ++ wsX20 ++ wsX30 ++ wsX40 ++ wsX60 ++ wsX90 ++ wsX100)
def wsX1_init : List Cond := .code yX1_init cX1_init 2 none :: ([.methodLink RX1 1 yX10_init, .instanceMethod yX10_init, .initialized RX10, .code yX10_init cX10_init 2 none, .methodLink RX10 3 yX3_init, .instanceMethod yX3_init, .initialized RX3, .code yX3_init cX3_init 2 none, .methodLink RX3 1 objectInit, .instanceMethod objectInit, .code objectInit ⟨#[0xb1]⟩ 1 none, .fieldLink RX3 7 "TwiceAsRich$House" "figure" "I"] ++ wsX00 ++ wsX10 ++ wsX20 ++ wsX30 ++ wsX40 ++ wsX60 ++ wsX90 ++ wsX100)
def wsX1_kind : List Cond := .code yX1_kind cX1_kind 1 (some .int) :: ([])
def wsX1_isLookedAt : List Cond := .code yX1_isLookedAt cX1_isLookedAt 1 (some .boolean) :: ([])
def wsX10_weekly : List Cond := .code yX10_weekly cX10_weekly 1 (some .int) :: ([])
def wsX1_weekly : List Cond := .code yX1_weekly cX1_weekly 1 (some .int) :: ([.fieldLink RX1 11 "TwiceAsRich$Blind" "figure" "I", .sameField "TwiceAsRich$Blind" "TwiceAsRich$House" "figure" "I", .methodLink RX1 7 yX10_weekly, .sameMethod "TwiceAsRich$Wall" "TwiceAsRich$Wall" "weekly" "()I", .superclass RX1 RX10, .instanceMethod yX10_weekly, .initialized RX10, .code yX10_weekly cX10_weekly 1 (some .int)] ++ wsX00 ++ wsX10 ++ wsX20 ++ wsX30 ++ wsX40 ++ wsX60 ++ wsX90 ++ wsX100)
def wsX10_price : List Cond := .code yX10_price cX10_price 1 (some .int) :: ([.methodLink RX10 9 yX3_price, .sameMethod "TwiceAsRich$House" "TwiceAsRich$House" "price" "()I", .superclass RX10 RX3, .instanceMethod yX3_price, .initialized RX3, .code yX3_price cX3_price 1 (some .int)])
def wsX1_price : List Cond := .code yX1_price cX1_price 1 (some .int) :: ([.methodLink RX1 17 yX10_price, .sameMethod "TwiceAsRich$Wall" "TwiceAsRich$Wall" "price" "()I", .superclass RX1 RX10, .instanceMethod yX10_price, .initialized RX10, .code yX10_price cX10_price 1 (some .int), .methodLink RX10 9 yX3_price, .sameMethod "TwiceAsRich$House" "TwiceAsRich$House" "price" "()I", .superclass RX10 RX3, .instanceMethod yX3_price, .initialized RX3, .code yX3_price cX3_price 1 (some .int)])
def wsX1_hasFailure : List Cond := .code yX1_hasFailure cX1_hasFailure 1 (some .boolean) :: ([.fieldLink RX1 11 "TwiceAsRich$Blind" "figure" "I", .sameField "TwiceAsRich$Blind" "TwiceAsRich$House" "figure" "I"] ++ wsX00 ++ wsX10 ++ wsX20 ++ wsX30 ++ wsX40 ++ wsX60 ++ wsX90 ++ wsX100)
def wsX2_init : List Cond := .code yX2_init cX2_init 2 none :: ([.methodLink RX2 1 yX3_init, .instanceMethod yX3_init, .initialized RX3, .code yX3_init cX3_init 2 none, .methodLink RX3 1 objectInit, .instanceMethod objectInit, .code objectInit ⟨#[0xb1]⟩ 1 none, .fieldLink RX3 7 "TwiceAsRich$House" "figure" "I"] ++ wsX00 ++ wsX10 ++ wsX20 ++ wsX30 ++ wsX40 ++ wsX60 ++ wsX90 ++ wsX100)
def wsX2_kind : List Cond := .code yX2_kind cX2_kind 1 (some .int) :: ([])
def wsX3_allowedBy : List Cond := .code yX3_allowedBy cX3_allowedBy 2 (some .int) :: ([])
def wsX2_allowedBy : List Cond := .code yX2_allowedBy cX2_allowedBy 2 (some .int) :: ([.fieldLink RX2 11 "TwiceAsRich$Heir" "figure" "I", .sameField "TwiceAsRich$Heir" "TwiceAsRich$House" "figure" "I", .methodLink RX2 7 yX3_allowedBy, .sameMethod "TwiceAsRich$House" "TwiceAsRich$House" "allowedBy" "(I)I", .superclass RX2 RX3, .instanceMethod yX3_allowedBy, .initialized RX3, .code yX3_allowedBy cX3_allowedBy 2 (some .int)] ++ wsX00 ++ wsX10 ++ wsX20 ++ wsX30 ++ wsX40 ++ wsX60 ++ wsX90 ++ wsX100)
def wsX2_weekly : List Cond := .code yX2_weekly cX2_weekly 1 (some .int) :: ([.fieldLink RX2 11 "TwiceAsRich$Heir" "figure" "I", .sameField "TwiceAsRich$Heir" "TwiceAsRich$House" "figure" "I", .methodLink RX2 17 yX3_weekly, .sameMethod "TwiceAsRich$House" "TwiceAsRich$House" "weekly" "()I", .superclass RX2 RX3, .instanceMethod yX3_weekly, .initialized RX3, .code yX3_weekly cX3_weekly 1 (some .int)] ++ wsX00 ++ wsX10 ++ wsX20 ++ wsX30 ++ wsX40 ++ wsX60 ++ wsX90 ++ wsX100)
def wsX2_price : List Cond := .code yX2_price cX2_price 1 (some .int) :: ([.fieldLink RX2 11 "TwiceAsRich$Heir" "figure" "I", .sameField "TwiceAsRich$Heir" "TwiceAsRich$House" "figure" "I", .methodLink RX2 21 yX3_price, .sameMethod "TwiceAsRich$House" "TwiceAsRich$House" "price" "()I", .superclass RX2 RX3, .instanceMethod yX3_price, .initialized RX3, .code yX3_price cX3_price 1 (some .int)] ++ wsX00 ++ wsX10 ++ wsX20 ++ wsX30 ++ wsX40 ++ wsX60 ++ wsX90 ++ wsX100)
def wsX3_kind : List Cond := .code yX3_kind cX3_kind 1 (some .int) :: ([])
def wsX3_isLookedAt : List Cond := .code yX3_isLookedAt cX3_isLookedAt 1 (some .boolean) :: ([])
def wsX3_hasFailure : List Cond := .code yX3_hasFailure cX3_hasFailure 1 (some .boolean) :: ([.fieldLink RX3 7 "TwiceAsRich$House" "figure" "I"] ++ wsX00 ++ wsX10 ++ wsX20 ++ wsX30 ++ wsX40 ++ wsX60 ++ wsX90 ++ wsX100)
def wsX3_fail : List Cond := .code yX3_fail cX3_fail 1 none :: ([.classLink RX3 13 "java/lang/IllegalStateException", .initialized "java/lang/IllegalStateException"] ++ (vx_at0 RX3 15 "java/lang/IllegalStateException" ["java/lang/RuntimeException", "java/lang/Exception"]).filter goodWord)
def wsX4_init : List Cond := .code yX4_init cX4_init 2 none :: ([.methodLink RX4 1 yX2_init, .instanceMethod yX2_init, .initialized RX2, .code yX2_init cX2_init 2 none, .methodLink RX2 1 yX3_init, .instanceMethod yX3_init, .initialized RX3, .code yX3_init cX3_init 2 none, .methodLink RX3 1 objectInit, .instanceMethod objectInit, .code objectInit ⟨#[0xb1]⟩ 1 none, .fieldLink RX3 7 "TwiceAsRich$House" "figure" "I"] ++ wsX00 ++ wsX10 ++ wsX20 ++ wsX30 ++ wsX40 ++ wsX60 ++ wsX90 ++ wsX100)
def wsX4_kind : List Cond := .code yX4_kind cX4_kind 1 (some .int) :: ([])
def wsX4_shownOf : List Cond := .code yX4_shownOf cX4_shownOf 2 (some .int) :: ([])
def wsX4_allowedBy : List Cond := .code yX4_allowedBy cX4_allowedBy 2 (some .int) :: ([.methodLink RX4 14 Lib.Math.max.name, .static Lib.Math.max.name, .initialized "java/lang/Math", .code Lib.Math.max.name Lib.Math.max.code 2 (some .int), .methodLink RX4 11 yX2_allowedBy, .sameMethod "TwiceAsRich$Heir" "TwiceAsRich$Heir" "allowedBy" "(I)I", .superclass RX4 RX2, .instanceMethod yX2_allowedBy, .initialized RX2, .code yX2_allowedBy cX2_allowedBy 2 (some .int), .fieldLink RX2 11 "TwiceAsRich$Heir" "figure" "I", .sameField "TwiceAsRich$Heir" "TwiceAsRich$House" "figure" "I", .methodLink RX2 7 yX3_allowedBy, .sameMethod "TwiceAsRich$House" "TwiceAsRich$House" "allowedBy" "(I)I", .superclass RX2 RX3, .instanceMethod yX3_allowedBy, .initialized RX3, .code yX3_allowedBy cX3_allowedBy 2 (some .int)] ++ wsX00 ++ wsX10 ++ wsX20 ++ wsX30 ++ wsX40 ++ wsX60 ++ wsX90 ++ wsX100)
def wsX4_weekly : List Cond := .code yX4_weekly cX4_weekly 1 (some .int) :: ([.methodLink RX4 20 yX2_weekly, .sameMethod "TwiceAsRich$Heir" "TwiceAsRich$Heir" "weekly" "()I", .superclass RX4 RX2, .instanceMethod yX2_weekly, .initialized RX2, .code yX2_weekly cX2_weekly 1 (some .int), .fieldLink RX2 11 "TwiceAsRich$Heir" "figure" "I", .sameField "TwiceAsRich$Heir" "TwiceAsRich$House" "figure" "I", .methodLink RX2 17 yX3_weekly, .sameMethod "TwiceAsRich$House" "TwiceAsRich$House" "weekly" "()I", .superclass RX2 RX3, .instanceMethod yX3_weekly, .initialized RX3, .code yX3_weekly cX3_weekly 1 (some .int)] ++ wsX00 ++ wsX10 ++ wsX20 ++ wsX30 ++ wsX40 ++ wsX60 ++ wsX90 ++ wsX100)
def wsX4_price : List Cond := .code yX4_price cX4_price 1 (some .int) :: ([.methodLink RX4 24 yX2_price, .sameMethod "TwiceAsRich$Heir" "TwiceAsRich$Heir" "price" "()I", .superclass RX4 RX2, .instanceMethod yX2_price, .initialized RX2, .code yX2_price cX2_price 1 (some .int), .fieldLink RX2 11 "TwiceAsRich$Heir" "figure" "I", .sameField "TwiceAsRich$Heir" "TwiceAsRich$House" "figure" "I", .methodLink RX2 21 yX3_price, .sameMethod "TwiceAsRich$House" "TwiceAsRich$House" "price" "()I", .superclass RX2 RX3, .instanceMethod yX3_price, .initialized RX3, .code yX3_price cX3_price 1 (some .int)] ++ wsX00 ++ wsX10 ++ wsX20 ++ wsX30 ++ wsX40 ++ wsX60 ++ wsX90 ++ wsX100)
def wsX7_init : List Cond := .code yX7_init cX7_init 1 none :: ([.methodLink RX7 3 objectInit, .instanceMethod objectInit, .code objectInit ⟨#[0xb1]⟩ 1 none, .classLink RX7 9 RX3, .fieldLink RX7 11 "TwiceAsRich$Street" "houses" "[LTwiceAsRich$House;", .arrayClass .int, .fieldLink RX7 17 "TwiceAsRich$Street" "purses" "[I"] ++ wsX70)
def wsX5_init : List Cond := .code yX5_init cX5_init 1 none :: ([.methodLink RX5 3 objectInit, .instanceMethod objectInit, .code objectInit ⟨#[0xb1]⟩ 1 none, .arrayClass .int, .fieldLink RX5 9 "TwiceAsRich$Partings" "richest" "[I", .classLink RX5 15 RX7, .instantiable RX7 4, .initialized RX7, .fieldLink RX5 18 "TwiceAsRich$Partings" "parted" "LTwiceAsRich$Street;", .fieldLink RX5 22 "TwiceAsRich$Partings" "before" "[I", .classLink RX5 25 "[[I", .fieldLink RX5 27 "TwiceAsRich$Partings" "suits" "[[I", .methodLink RX5 17 yX7_init, .instanceMethod yX7_init, .code yX7_init cX7_init 1 none, .methodLink RX7 3 objectInit, .classLink RX7 9 RX3, .fieldLink RX7 11 "TwiceAsRich$Street" "houses" "[LTwiceAsRich$House;", .fieldLink RX7 17 "TwiceAsRich$Street" "purses" "[I"] ++ wsX50 ++ wsX70)
def wsJ7_fill_53178 : List Cond := .code yJ7_fill_53178 cJ7_fill_53178 4 none :: ([])
def wsX7_become : List Cond := .code yX7_become cX7_become 3 none :: ([.fieldLink RX7 11 "TwiceAsRich$Street" "houses" "[LTwiceAsRich$House;", .fieldLink RX7 17 "TwiceAsRich$Street" "purses" "[I", .fieldLink RX7 21 "TwiceAsRich$Street" "count" "I", .fieldLink RX7 25 "TwiceAsRich$Street" "round" "I"] ++ wsX70)
def wsX7_isClosed : List Cond := .code yX7_isClosed cX7_isClosed 1 (some .boolean) :: ([.fieldLink RX7 25 "TwiceAsRich$Street" "round" "I", .fieldLink RX7 21 "TwiceAsRich$Street" "count" "I"] ++ wsX70)
def wsX7_behind : List Cond := .code yX7_behind cX7_behind 2 (some .int) :: ([.fieldLink RX7 21 "TwiceAsRich$Street" "count" "I", .methodLink RX7 32 yX7_isClosed, .instanceMethod yX7_isClosed, .selects RX7 yX7_isClosed yX7_isClosed, .initialized RX7, .code yX7_isClosed cX7_isClosed 1 (some .boolean), .fieldLink RX7 25 "TwiceAsRich$Street" "round" "I"] ++ wsX70)
def wsX10_isLookedAt : List Cond := .code yX10_isLookedAt cX10_isLookedAt 1 (some .boolean) :: ([])
def wsX10_allowedBy : List Cond := .code yX10_allowedBy cX10_allowedBy 2 (some .int) :: ([])
def wsX9_allowedBy : List Cond := .code yX9_allowedBy cX9_allowedBy 2 (some .int) :: ([.methodLink RX9 7 yX2_allowedBy, .sameMethod "TwiceAsRich$Heir" "TwiceAsRich$Heir" "allowedBy" "(I)I", .superclass RX9 RX2, .instanceMethod yX2_allowedBy, .initialized RX2, .code yX2_allowedBy cX2_allowedBy 2 (some .int), .fieldLink RX2 11 "TwiceAsRich$Heir" "figure" "I", .sameField "TwiceAsRich$Heir" "TwiceAsRich$House" "figure" "I", .methodLink RX2 7 yX3_allowedBy, .sameMethod "TwiceAsRich$House" "TwiceAsRich$House" "allowedBy" "(I)I", .superclass RX2 RX3, .instanceMethod yX3_allowedBy, .initialized RX3, .code yX3_allowedBy cX3_allowedBy 2 (some .int)] ++ wsX00 ++ wsX10 ++ wsX20 ++ wsX30 ++ wsX40 ++ wsX60 ++ wsX90 ++ wsX100)
def wsX7_limitBy_r1 : List Cond := [Cond.fieldLink RX7 11 "TwiceAsRich$Street" "houses" "[LTwiceAsRich$House;", Cond.constant RX7 39 (1000000), Cond.fieldLink RX7 17 "TwiceAsRich$Street" "purses" "[I", Cond.methodLink RX7 36 ⟨"TwiceAsRich$House", "isLookedAt", "()Z"⟩, Cond.sameMethod "TwiceAsRich$House" "TwiceAsRich$House" "isLookedAt" "()Z", Cond.selects RX0 ⟨"TwiceAsRich$House", "isLookedAt", "()Z"⟩ yX3_isLookedAt, Cond.instanceMethod yX3_isLookedAt, Cond.initialized RX3, Cond.code yX3_isLookedAt cX3_isLookedAt 1 (some .boolean), Cond.instanceMethod ⟨"TwiceAsRich$House", "isLookedAt", "()Z"⟩, Cond.selects RX1 ⟨"TwiceAsRich$House", "isLookedAt", "()Z"⟩ yX1_isLookedAt, Cond.instanceMethod yX1_isLookedAt, Cond.initialized RX1, Cond.code yX1_isLookedAt cX1_isLookedAt 1 (some .boolean), Cond.selects RX2 ⟨"TwiceAsRich$House", "isLookedAt", "()Z"⟩ yX3_isLookedAt, Cond.methodLink RX7 36 yX3_isLookedAt, Cond.selects RX3 yX3_isLookedAt yX3_isLookedAt, Cond.selects RX4 ⟨"TwiceAsRich$House", "isLookedAt", "()Z"⟩ yX3_isLookedAt, Cond.selects RX6 ⟨"TwiceAsRich$House", "isLookedAt", "()Z"⟩ yX3_isLookedAt, Cond.selects RX9 ⟨"TwiceAsRich$House", "isLookedAt", "()Z"⟩ yX3_isLookedAt, Cond.selects RX10 ⟨"TwiceAsRich$House", "isLookedAt", "()Z"⟩ yX10_isLookedAt, Cond.instanceMethod yX10_isLookedAt, Cond.initialized RX10, Cond.code yX10_isLookedAt cX10_isLookedAt 1 (some .boolean)]
def wsX7_limitBy_r2 : List Cond := [Cond.methodLink RX7 40 ⟨"TwiceAsRich$House", "shownOf", "(I)I"⟩, Cond.sameMethod "TwiceAsRich$House" "TwiceAsRich$House" "shownOf" "(I)I", Cond.instanceMethod ⟨"TwiceAsRich$House", "shownOf", "(I)I"⟩, Cond.selects RX0 ⟨"TwiceAsRich$House", "shownOf", "(I)I"⟩ yX0_shownOf, Cond.instanceMethod yX0_shownOf, Cond.initialized RX0, Cond.code yX0_shownOf cX0_shownOf 2 (some .int), Cond.fieldLink RX0 11 "TwiceAsRich$Beggar" "figure" "I", Cond.sameField "TwiceAsRich$Beggar" "TwiceAsRich$House" "figure" "I", Cond.methodLink RX0 7 yX6_shownOf, Cond.sameMethod "TwiceAsRich$Priest" "TwiceAsRich$Priest" "shownOf" "(I)I", Cond.superclass RX0 RX6, Cond.instanceMethod yX6_shownOf, Cond.initialized RX6, Cond.code yX6_shownOf cX6_shownOf 2 (some .int), Cond.methodLink RX6 7 yX3_shownOf, Cond.superclass RX6 RX3, Cond.instanceMethod yX3_shownOf, Cond.code yX3_shownOf cX3_shownOf 2 (some .int), Cond.selects RX1 ⟨"TwiceAsRich$House", "shownOf", "(I)I"⟩ yX3_shownOf, Cond.selects RX2 ⟨"TwiceAsRich$House", "shownOf", "(I)I"⟩ yX3_shownOf, Cond.methodLink RX7 40 yX3_shownOf, Cond.selects RX3 yX3_shownOf yX3_shownOf, Cond.selects RX4 ⟨"TwiceAsRich$House", "shownOf", "(I)I"⟩ yX4_shownOf]
def wsX7_limitBy_r3 : List Cond := [Cond.instanceMethod yX4_shownOf, Cond.initialized RX4, Cond.code yX4_shownOf cX4_shownOf 2 (some .int), Cond.selects RX6 ⟨"TwiceAsRich$House", "shownOf", "(I)I"⟩ yX6_shownOf, Cond.selects RX9 ⟨"TwiceAsRich$House", "shownOf", "(I)I"⟩ yX3_shownOf, Cond.selects RX10 ⟨"TwiceAsRich$House", "shownOf", "(I)I"⟩ yX3_shownOf, Cond.methodLink RX7 44 ⟨"TwiceAsRich$House", "allowedBy", "(I)I"⟩, Cond.sameMethod "TwiceAsRich$House" "TwiceAsRich$House" "allowedBy" "(I)I", Cond.selects RX0 ⟨"TwiceAsRich$House", "allowedBy", "(I)I"⟩ yX3_allowedBy, Cond.instanceMethod yX3_allowedBy, Cond.code yX3_allowedBy cX3_allowedBy 2 (some .int), Cond.instanceMethod ⟨"TwiceAsRich$House", "allowedBy", "(I)I"⟩, Cond.selects RX1 ⟨"TwiceAsRich$House", "allowedBy", "(I)I"⟩ yX10_allowedBy, Cond.instanceMethod yX10_allowedBy, Cond.code yX10_allowedBy cX10_allowedBy 2 (some .int), Cond.selects RX2 ⟨"TwiceAsRich$House", "allowedBy", "(I)I"⟩ yX2_allowedBy, Cond.instanceMethod yX2_allowedBy, Cond.initialized RX2, Cond.code yX2_allowedBy cX2_allowedBy 2 (some .int), Cond.fieldLink RX2 11 "TwiceAsRich$Heir" "figure" "I", Cond.sameField "TwiceAsRich$Heir" "TwiceAsRich$House" "figure" "I", Cond.methodLink RX2 7 yX3_allowedBy, Cond.superclass RX2 RX3, Cond.methodLink RX7 44 yX3_allowedBy]
def wsX7_limitBy_r4 : List Cond := [Cond.selects RX3 yX3_allowedBy yX3_allowedBy, Cond.selects RX4 ⟨"TwiceAsRich$House", "allowedBy", "(I)I"⟩ yX4_allowedBy, Cond.instanceMethod yX4_allowedBy, Cond.code yX4_allowedBy cX4_allowedBy 2 (some .int), Cond.methodLink RX4 14 Lib.Math.max.name, Cond.static Lib.Math.max.name, Cond.initialized "java/lang/Math", Cond.code Lib.Math.max.name Lib.Math.max.code 2 (some .int), Cond.methodLink RX4 11 yX2_allowedBy, Cond.sameMethod "TwiceAsRich$Heir" "TwiceAsRich$Heir" "allowedBy" "(I)I", Cond.superclass RX4 RX2, Cond.selects RX6 ⟨"TwiceAsRich$House", "allowedBy", "(I)I"⟩ yX3_allowedBy, Cond.selects RX9 ⟨"TwiceAsRich$House", "allowedBy", "(I)I"⟩ yX9_allowedBy, Cond.instanceMethod yX9_allowedBy, Cond.initialized RX9, Cond.code yX9_allowedBy cX9_allowedBy 2 (some .int), Cond.methodLink RX9 7 yX2_allowedBy, Cond.superclass RX9 RX2, Cond.selects RX10 ⟨"TwiceAsRich$House", "allowedBy", "(I)I"⟩ yX10_allowedBy]
def wsX7_limitBy : List Cond := .code yX7_limitBy cX7_limitBy 3 (some .int) :: ((wsX7_limitBy_r1 ++ (wsX7_limitBy_r2 ++ (wsX7_limitBy_r3 ++ wsX7_limitBy_r4))) ++ wsX70 ++ wsX00 ++ wsX10 ++ wsX20 ++ wsX30 ++ wsX40 ++ wsX60 ++ wsX90 ++ wsX100)
def wsX5_noteWhatSuits_r1 : List Cond := [Cond.fieldLink RX5 27 "TwiceAsRich$Partings" "suits" "[[I", Cond.fieldLink RX5 18 "TwiceAsRich$Partings" "parted" "LTwiceAsRich$Street;", Cond.fieldLink RX5 56 "TwiceAsRich$Street" "purses" "[I", Cond.methodLink RX5 43 yJ7_fill_53178, Cond.static yJ7_fill_53178, Cond.initialized RJ7, Cond.code yJ7_fill_53178 cJ7_fill_53178 4 none, Cond.methodLink RX5 77 yX7_limitBy, Cond.instanceMethod yX7_limitBy, Cond.selects RX7 yX7_limitBy yX7_limitBy, Cond.initialized RX7, Cond.code yX7_limitBy cX7_limitBy 3 (some .int), Cond.fieldLink RX7 11 "TwiceAsRich$Street" "houses" "[LTwiceAsRich$House;", Cond.constant RX7 39 (1000000), Cond.fieldLink RX7 17 "TwiceAsRich$Street" "purses" "[I", Cond.methodLink RX7 36 ⟨"TwiceAsRich$House", "isLookedAt", "()Z"⟩, Cond.sameMethod "TwiceAsRich$House" "TwiceAsRich$House" "isLookedAt" "()Z", Cond.selects RX0 ⟨"TwiceAsRich$House", "isLookedAt", "()Z"⟩ yX3_isLookedAt, Cond.instanceMethod yX3_isLookedAt, Cond.initialized RX3, Cond.code yX3_isLookedAt cX3_isLookedAt 1 (some .boolean), Cond.instanceMethod ⟨"TwiceAsRich$House", "isLookedAt", "()Z"⟩, Cond.selects RX1 ⟨"TwiceAsRich$House", "isLookedAt", "()Z"⟩ yX1_isLookedAt, Cond.instanceMethod yX1_isLookedAt]
def wsX5_noteWhatSuits_r2 : List Cond := [Cond.initialized RX1, Cond.code yX1_isLookedAt cX1_isLookedAt 1 (some .boolean), Cond.selects RX2 ⟨"TwiceAsRich$House", "isLookedAt", "()Z"⟩ yX3_isLookedAt, Cond.methodLink RX7 36 yX3_isLookedAt, Cond.selects RX3 yX3_isLookedAt yX3_isLookedAt, Cond.selects RX4 ⟨"TwiceAsRich$House", "isLookedAt", "()Z"⟩ yX3_isLookedAt, Cond.selects RX6 ⟨"TwiceAsRich$House", "isLookedAt", "()Z"⟩ yX3_isLookedAt, Cond.selects RX9 ⟨"TwiceAsRich$House", "isLookedAt", "()Z"⟩ yX3_isLookedAt, Cond.selects RX10 ⟨"TwiceAsRich$House", "isLookedAt", "()Z"⟩ yX10_isLookedAt, Cond.instanceMethod yX10_isLookedAt, Cond.initialized RX10, Cond.code yX10_isLookedAt cX10_isLookedAt 1 (some .boolean), Cond.methodLink RX7 40 ⟨"TwiceAsRich$House", "shownOf", "(I)I"⟩, Cond.sameMethod "TwiceAsRich$House" "TwiceAsRich$House" "shownOf" "(I)I", Cond.instanceMethod ⟨"TwiceAsRich$House", "shownOf", "(I)I"⟩, Cond.selects RX0 ⟨"TwiceAsRich$House", "shownOf", "(I)I"⟩ yX0_shownOf, Cond.instanceMethod yX0_shownOf, Cond.initialized RX0, Cond.code yX0_shownOf cX0_shownOf 2 (some .int), Cond.fieldLink RX0 11 "TwiceAsRich$Beggar" "figure" "I", Cond.sameField "TwiceAsRich$Beggar" "TwiceAsRich$House" "figure" "I", Cond.methodLink RX0 7 yX6_shownOf, Cond.sameMethod "TwiceAsRich$Priest" "TwiceAsRich$Priest" "shownOf" "(I)I", Cond.superclass RX0 RX6]
def wsX5_noteWhatSuits_r3 : List Cond := [Cond.instanceMethod yX6_shownOf, Cond.initialized RX6, Cond.code yX6_shownOf cX6_shownOf 2 (some .int), Cond.methodLink RX6 7 yX3_shownOf, Cond.superclass RX6 RX3, Cond.instanceMethod yX3_shownOf, Cond.code yX3_shownOf cX3_shownOf 2 (some .int), Cond.selects RX1 ⟨"TwiceAsRich$House", "shownOf", "(I)I"⟩ yX3_shownOf, Cond.selects RX2 ⟨"TwiceAsRich$House", "shownOf", "(I)I"⟩ yX3_shownOf, Cond.methodLink RX7 40 yX3_shownOf, Cond.selects RX3 yX3_shownOf yX3_shownOf, Cond.selects RX4 ⟨"TwiceAsRich$House", "shownOf", "(I)I"⟩ yX4_shownOf, Cond.instanceMethod yX4_shownOf, Cond.initialized RX4, Cond.code yX4_shownOf cX4_shownOf 2 (some .int), Cond.selects RX6 ⟨"TwiceAsRich$House", "shownOf", "(I)I"⟩ yX6_shownOf, Cond.selects RX9 ⟨"TwiceAsRich$House", "shownOf", "(I)I"⟩ yX3_shownOf, Cond.selects RX10 ⟨"TwiceAsRich$House", "shownOf", "(I)I"⟩ yX3_shownOf, Cond.methodLink RX7 44 ⟨"TwiceAsRich$House", "allowedBy", "(I)I"⟩, Cond.sameMethod "TwiceAsRich$House" "TwiceAsRich$House" "allowedBy" "(I)I", Cond.selects RX0 ⟨"TwiceAsRich$House", "allowedBy", "(I)I"⟩ yX3_allowedBy, Cond.instanceMethod yX3_allowedBy, Cond.code yX3_allowedBy cX3_allowedBy 2 (some .int), Cond.instanceMethod ⟨"TwiceAsRich$House", "allowedBy", "(I)I"⟩]
def wsX5_noteWhatSuits_r4 : List Cond := [Cond.selects RX1 ⟨"TwiceAsRich$House", "allowedBy", "(I)I"⟩ yX10_allowedBy, Cond.instanceMethod yX10_allowedBy, Cond.code yX10_allowedBy cX10_allowedBy 2 (some .int), Cond.selects RX2 ⟨"TwiceAsRich$House", "allowedBy", "(I)I"⟩ yX2_allowedBy, Cond.instanceMethod yX2_allowedBy, Cond.initialized RX2, Cond.code yX2_allowedBy cX2_allowedBy 2 (some .int), Cond.fieldLink RX2 11 "TwiceAsRich$Heir" "figure" "I", Cond.sameField "TwiceAsRich$Heir" "TwiceAsRich$House" "figure" "I", Cond.methodLink RX2 7 yX3_allowedBy, Cond.superclass RX2 RX3, Cond.methodLink RX7 44 yX3_allowedBy, Cond.selects RX3 yX3_allowedBy yX3_allowedBy, Cond.selects RX4 ⟨"TwiceAsRich$House", "allowedBy", "(I)I"⟩ yX4_allowedBy, Cond.instanceMethod yX4_allowedBy, Cond.code yX4_allowedBy cX4_allowedBy 2 (some .int), Cond.methodLink RX4 14 Lib.Math.max.name, Cond.static Lib.Math.max.name, Cond.initialized "java/lang/Math", Cond.code Lib.Math.max.name Lib.Math.max.code 2 (some .int), Cond.methodLink RX4 11 yX2_allowedBy, Cond.sameMethod "TwiceAsRich$Heir" "TwiceAsRich$Heir" "allowedBy" "(I)I", Cond.superclass RX4 RX2, Cond.selects RX6 ⟨"TwiceAsRich$House", "allowedBy", "(I)I"⟩ yX3_allowedBy]
def wsX5_noteWhatSuits_r5 : List Cond := [Cond.selects RX9 ⟨"TwiceAsRich$House", "allowedBy", "(I)I"⟩ yX9_allowedBy, Cond.instanceMethod yX9_allowedBy, Cond.initialized RX9, Cond.code yX9_allowedBy cX9_allowedBy 2 (some .int), Cond.methodLink RX9 7 yX2_allowedBy, Cond.superclass RX9 RX2, Cond.selects RX10 ⟨"TwiceAsRich$House", "allowedBy", "(I)I"⟩ yX10_allowedBy]
def wsX5_noteWhatSuits : List Cond := .code yX5_noteWhatSuits cX5_noteWhatSuits 6 none :: ((wsX5_noteWhatSuits_r1 ++ (wsX5_noteWhatSuits_r2 ++ (wsX5_noteWhatSuits_r3 ++ (wsX5_noteWhatSuits_r4 ++ wsX5_noteWhatSuits_r5)))) ++ wsX50 ++ wsX70 ++ wsX00 ++ wsX10 ++ wsX20 ++ wsX30 ++ wsX40 ++ wsX60 ++ wsX90 ++ wsX100)
def wsX5_suit : List Cond := .code yX5_suit cX5_suit 3 (some .boolean) :: ([.fieldLink RX5 27 "TwiceAsRich$Partings" "suits" "[[I", .fieldLink RX5 18 "TwiceAsRich$Partings" "parted" "LTwiceAsRich$Street;", .fieldLink RX5 56 "TwiceAsRich$Street" "purses" "[I"] ++ wsX50 ++ wsX70)
def wsX5_isClosedWell : List Cond := .code yX5_isClosedWell cX5_isClosedWell 1 (some .boolean) :: ([.fieldLink RX5 18 "TwiceAsRich$Partings" "parted" "LTwiceAsRich$Street;", .fieldLink RX5 49 "TwiceAsRich$Street" "count" "I", .methodLink RX5 97 yX7_isClosed, .instanceMethod yX7_isClosed, .selects RX7 yX7_isClosed yX7_isClosed, .initialized RX7, .code yX7_isClosed cX7_isClosed 1 (some .boolean), .fieldLink RX7 25 "TwiceAsRich$Street" "round" "I", .fieldLink RX7 21 "TwiceAsRich$Street" "count" "I", .methodLink RX5 93 yX5_suit, .instanceMethod yX5_suit, .selects RX5 yX5_suit yX5_suit, .initialized RX5, .code yX5_suit cX5_suit 3 (some .boolean), .fieldLink RX5 27 "TwiceAsRich$Partings" "suits" "[[I", .fieldLink RX5 56 "TwiceAsRich$Street" "purses" "[I"] ++ wsX50 ++ wsX70)
def wsX5_difference : List Cond := .code yX5_difference cX5_difference 4 (some .int) :: ([.fieldLink RX5 18 "TwiceAsRich$Partings" "parted" "LTwiceAsRich$Street;", .fieldLink RX5 49 "TwiceAsRich$Street" "count" "I", .fieldLink RX5 56 "TwiceAsRich$Street" "purses" "[I", .methodLink RX5 107 Lib.Math.min.name, .static Lib.Math.min.name, .initialized "java/lang/Math", .code Lib.Math.min.name Lib.Math.min.code 2 (some .int), .methodLink RX5 88 Lib.Math.max.name, .static Lib.Math.max.name, .code Lib.Math.max.name Lib.Math.max.code 2 (some .int)] ++ wsX50 ++ wsX70)
def wsX5_handed : List Cond := .code yX5_handed cX5_handed 4 (some .int) :: ([.fieldLink RX5 18 "TwiceAsRich$Partings" "parted" "LTwiceAsRich$Street;", .fieldLink RX5 49 "TwiceAsRich$Street" "count" "I", .fieldLink RX5 22 "TwiceAsRich$Partings" "before" "[I", .fieldLink RX5 56 "TwiceAsRich$Street" "purses" "[I", .methodLink RX5 113 Lib.Math.abs.name, .static Lib.Math.abs.name, .initialized "java/lang/Math", .code Lib.Math.abs.name Lib.Math.abs.code 1 (some .int)] ++ wsX50 ++ wsX70)
def wsX5_moving : List Cond := .code yX5_moving cX5_moving 3 (some .int) :: ([.fieldLink RX5 18 "TwiceAsRich$Partings" "parted" "LTwiceAsRich$Street;", .fieldLink RX5 49 "TwiceAsRich$Street" "count" "I", .fieldLink RX5 22 "TwiceAsRich$Partings" "before" "[I", .fieldLink RX5 56 "TwiceAsRich$Street" "purses" "[I", .methodLink RX5 88 Lib.Math.max.name, .static Lib.Math.max.name, .initialized "java/lang/Math", .code Lib.Math.max.name Lib.Math.max.code 2 (some .int)] ++ wsX50 ++ wsX70)
def wsX5_note_r1 : List Cond := [Cond.fieldLink RX5 34 "TwiceAsRich$Partings" "uneven" "I", Cond.methodLink RX5 88 Lib.Math.max.name, Cond.static Lib.Math.max.name, Cond.initialized "java/lang/Math", Cond.code Lib.Math.max.name Lib.Math.max.code 2 (some .int), Cond.fieldLink RX5 30 "TwiceAsRich$Partings" "ways" "I", Cond.fieldLink RX5 37 "TwiceAsRich$Partings" "hands" "I", Cond.methodLink RX5 107 Lib.Math.min.name, Cond.static Lib.Math.min.name, Cond.code Lib.Math.min.name Lib.Math.min.code 2 (some .int), Cond.fieldLink RX5 40 "TwiceAsRich$Partings" "moved" "I", Cond.fieldLink RX5 18 "TwiceAsRich$Partings" "parted" "LTwiceAsRich$Street;", Cond.fieldLink RX5 49 "TwiceAsRich$Street" "count" "I", Cond.fieldLink RX5 9 "TwiceAsRich$Partings" "richest" "[I", Cond.fieldLink RX5 56 "TwiceAsRich$Street" "purses" "[I", Cond.methodLink RX5 100 yX5_difference, Cond.instanceMethod yX5_difference, Cond.selects RX5 yX5_difference yX5_difference, Cond.initialized RX5, Cond.code yX5_difference cX5_difference 4 (some .int), Cond.methodLink RX5 104 yX5_handed, Cond.instanceMethod yX5_handed, Cond.selects RX5 yX5_handed yX5_handed, Cond.code yX5_handed cX5_handed 4 (some .int)]
def wsX5_note_r2 : List Cond := [Cond.fieldLink RX5 22 "TwiceAsRich$Partings" "before" "[I", Cond.methodLink RX5 113 Lib.Math.abs.name, Cond.static Lib.Math.abs.name, Cond.code Lib.Math.abs.name Lib.Math.abs.code 1 (some .int), Cond.methodLink RX5 110 yX5_moving, Cond.instanceMethod yX5_moving, Cond.selects RX5 yX5_moving yX5_moving, Cond.code yX5_moving cX5_moving 3 (some .int)]
def wsX5_note : List Cond := .code yX5_note cX5_note 2 none :: ((wsX5_note_r1 ++ wsX5_note_r2) ++ wsX50 ++ wsX70)
def wsX5_part_r1 : List Cond := [Cond.fieldLink RX5 18 "TwiceAsRich$Partings" "parted" "LTwiceAsRich$Street;", Cond.fieldLink RX5 49 "TwiceAsRich$Street" "count" "I", Cond.methodLink RX5 88 Lib.Math.max.name, Cond.static Lib.Math.max.name, Cond.initialized "java/lang/Math", Cond.code Lib.Math.max.name Lib.Math.max.code 2 (some .int), Cond.fieldLink RX5 56 "TwiceAsRich$Street" "purses" "[I", Cond.methodLink RX5 81 yX5_isClosedWell, Cond.instanceMethod yX5_isClosedWell, Cond.selects RX5 yX5_isClosedWell yX5_isClosedWell, Cond.initialized RX5, Cond.code yX5_isClosedWell cX5_isClosedWell 1 (some .boolean), Cond.methodLink RX5 97 yX7_isClosed, Cond.instanceMethod yX7_isClosed, Cond.selects RX7 yX7_isClosed yX7_isClosed, Cond.initialized RX7, Cond.code yX7_isClosed cX7_isClosed 1 (some .boolean), Cond.fieldLink RX7 25 "TwiceAsRich$Street" "round" "I", Cond.fieldLink RX7 21 "TwiceAsRich$Street" "count" "I", Cond.methodLink RX5 93 yX5_suit, Cond.instanceMethod yX5_suit, Cond.selects RX5 yX5_suit yX5_suit, Cond.code yX5_suit cX5_suit 3 (some .boolean), Cond.fieldLink RX5 27 "TwiceAsRich$Partings" "suits" "[[I"]
def wsX5_part_r2 : List Cond := [Cond.methodLink RX5 85 yX5_note, Cond.instanceMethod yX5_note, Cond.selects RX5 yX5_note yX5_note, Cond.code yX5_note cX5_note 2 none, Cond.fieldLink RX5 34 "TwiceAsRich$Partings" "uneven" "I", Cond.fieldLink RX5 30 "TwiceAsRich$Partings" "ways" "I", Cond.fieldLink RX5 37 "TwiceAsRich$Partings" "hands" "I", Cond.methodLink RX5 107 Lib.Math.min.name, Cond.static Lib.Math.min.name, Cond.code Lib.Math.min.name Lib.Math.min.code 2 (some .int), Cond.fieldLink RX5 40 "TwiceAsRich$Partings" "moved" "I", Cond.fieldLink RX5 9 "TwiceAsRich$Partings" "richest" "[I", Cond.methodLink RX5 100 yX5_difference, Cond.instanceMethod yX5_difference, Cond.selects RX5 yX5_difference yX5_difference, Cond.code yX5_difference cX5_difference 4 (some .int), Cond.methodLink RX5 104 yX5_handed, Cond.instanceMethod yX5_handed, Cond.selects RX5 yX5_handed yX5_handed, Cond.code yX5_handed cX5_handed 4 (some .int), Cond.fieldLink RX5 22 "TwiceAsRich$Partings" "before" "[I", Cond.methodLink RX5 113 Lib.Math.abs.name, Cond.static Lib.Math.abs.name, Cond.code Lib.Math.abs.name Lib.Math.abs.code 1 (some .int)]
def wsX5_part_r3 : List Cond := [Cond.methodLink RX5 110 yX5_moving, Cond.instanceMethod yX5_moving, Cond.selects RX5 yX5_moving yX5_moving, Cond.code yX5_moving cX5_moving 3 (some .int), Cond.methodLink RX5 73 yX5_part, Cond.instanceMethod yX5_part, Cond.selects RX5 yX5_part yX5_part]
def wsX5_part : List Cond := .code yX5_part cX5_part 6 none :: ((wsX5_part_r1 ++ (wsX5_part_r2 ++ wsX5_part_r3)) ++ wsX50 ++ wsX70)
def wsX5_search_r1 : List Cond := [Cond.fieldLink RX5 30 "TwiceAsRich$Partings" "ways" "I", Cond.fieldLink RX5 34 "TwiceAsRich$Partings" "uneven" "I", Cond.fieldLink RX5 37 "TwiceAsRich$Partings" "hands" "I", Cond.fieldLink RX5 40 "TwiceAsRich$Partings" "moved" "I", Cond.fieldLink RX5 9 "TwiceAsRich$Partings" "richest" "[I", Cond.fieldLink RX5 49 "TwiceAsRich$Street" "count" "I", Cond.fieldLink RX5 18 "TwiceAsRich$Partings" "parted" "LTwiceAsRich$Street;", Cond.fieldLink RX5 56 "TwiceAsRich$Street" "purses" "[I", Cond.fieldLink RX5 22 "TwiceAsRich$Partings" "before" "[I", Cond.methodLink RX5 59 arraycopyName, Cond.native arraycopyName, Cond.static arraycopyName, Cond.initialized "java/lang/System", Cond.methodLink RX5 43 yJ7_fill_53178, Cond.static yJ7_fill_53178, Cond.initialized RJ7, Cond.code yJ7_fill_53178 cJ7_fill_53178 4 none, Cond.methodLink RX5 52 yX7_become, Cond.instanceMethod yX7_become, Cond.selects RX7 yX7_become yX7_become, Cond.initialized RX7, Cond.code yX7_become cX7_become 3 none, Cond.fieldLink RX7 11 "TwiceAsRich$Street" "houses" "[LTwiceAsRich$House;", Cond.fieldLink RX7 17 "TwiceAsRich$Street" "purses" "[I"]
def wsX5_search_r2 : List Cond := [Cond.fieldLink RX7 21 "TwiceAsRich$Street" "count" "I", Cond.fieldLink RX7 25 "TwiceAsRich$Street" "round" "I", Cond.methodLink RX5 65 yX7_behind, Cond.instanceMethod yX7_behind, Cond.selects RX7 yX7_behind yX7_behind, Cond.code yX7_behind cX7_behind 2 (some .int), Cond.methodLink RX7 32 yX7_isClosed, Cond.instanceMethod yX7_isClosed, Cond.selects RX7 yX7_isClosed yX7_isClosed, Cond.code yX7_isClosed cX7_isClosed 1 (some .boolean), Cond.methodLink RX5 69 yX5_noteWhatSuits, Cond.instanceMethod yX5_noteWhatSuits, Cond.selects RX5 yX5_noteWhatSuits yX5_noteWhatSuits, Cond.initialized RX5, Cond.code yX5_noteWhatSuits cX5_noteWhatSuits 6 none, Cond.fieldLink RX5 27 "TwiceAsRich$Partings" "suits" "[[I", Cond.methodLink RX5 77 yX7_limitBy, Cond.instanceMethod yX7_limitBy, Cond.selects RX7 yX7_limitBy yX7_limitBy, Cond.code yX7_limitBy cX7_limitBy 3 (some .int), Cond.constant RX7 39 (1000000), Cond.methodLink RX7 36 ⟨"TwiceAsRich$House", "isLookedAt", "()Z"⟩, Cond.sameMethod "TwiceAsRich$House" "TwiceAsRich$House" "isLookedAt" "()Z", Cond.selects RX0 ⟨"TwiceAsRich$House", "isLookedAt", "()Z"⟩ yX3_isLookedAt]
def wsX5_search_r3 : List Cond := [Cond.instanceMethod yX3_isLookedAt, Cond.initialized RX3, Cond.code yX3_isLookedAt cX3_isLookedAt 1 (some .boolean), Cond.instanceMethod ⟨"TwiceAsRich$House", "isLookedAt", "()Z"⟩, Cond.selects RX1 ⟨"TwiceAsRich$House", "isLookedAt", "()Z"⟩ yX1_isLookedAt, Cond.instanceMethod yX1_isLookedAt, Cond.initialized RX1, Cond.code yX1_isLookedAt cX1_isLookedAt 1 (some .boolean), Cond.selects RX2 ⟨"TwiceAsRich$House", "isLookedAt", "()Z"⟩ yX3_isLookedAt, Cond.methodLink RX7 36 yX3_isLookedAt, Cond.selects RX3 yX3_isLookedAt yX3_isLookedAt, Cond.selects RX4 ⟨"TwiceAsRich$House", "isLookedAt", "()Z"⟩ yX3_isLookedAt, Cond.selects RX6 ⟨"TwiceAsRich$House", "isLookedAt", "()Z"⟩ yX3_isLookedAt, Cond.selects RX9 ⟨"TwiceAsRich$House", "isLookedAt", "()Z"⟩ yX3_isLookedAt, Cond.selects RX10 ⟨"TwiceAsRich$House", "isLookedAt", "()Z"⟩ yX10_isLookedAt, Cond.instanceMethod yX10_isLookedAt, Cond.initialized RX10, Cond.code yX10_isLookedAt cX10_isLookedAt 1 (some .boolean), Cond.methodLink RX7 40 ⟨"TwiceAsRich$House", "shownOf", "(I)I"⟩, Cond.sameMethod "TwiceAsRich$House" "TwiceAsRich$House" "shownOf" "(I)I", Cond.instanceMethod ⟨"TwiceAsRich$House", "shownOf", "(I)I"⟩, Cond.selects RX0 ⟨"TwiceAsRich$House", "shownOf", "(I)I"⟩ yX0_shownOf, Cond.instanceMethod yX0_shownOf, Cond.initialized RX0]
def wsX5_search_r4 : List Cond := [Cond.code yX0_shownOf cX0_shownOf 2 (some .int), Cond.fieldLink RX0 11 "TwiceAsRich$Beggar" "figure" "I", Cond.sameField "TwiceAsRich$Beggar" "TwiceAsRich$House" "figure" "I", Cond.methodLink RX0 7 yX6_shownOf, Cond.sameMethod "TwiceAsRich$Priest" "TwiceAsRich$Priest" "shownOf" "(I)I", Cond.superclass RX0 RX6, Cond.instanceMethod yX6_shownOf, Cond.initialized RX6, Cond.code yX6_shownOf cX6_shownOf 2 (some .int), Cond.methodLink RX6 7 yX3_shownOf, Cond.superclass RX6 RX3, Cond.instanceMethod yX3_shownOf, Cond.code yX3_shownOf cX3_shownOf 2 (some .int), Cond.selects RX1 ⟨"TwiceAsRich$House", "shownOf", "(I)I"⟩ yX3_shownOf, Cond.selects RX2 ⟨"TwiceAsRich$House", "shownOf", "(I)I"⟩ yX3_shownOf, Cond.methodLink RX7 40 yX3_shownOf, Cond.selects RX3 yX3_shownOf yX3_shownOf, Cond.selects RX4 ⟨"TwiceAsRich$House", "shownOf", "(I)I"⟩ yX4_shownOf, Cond.instanceMethod yX4_shownOf, Cond.initialized RX4, Cond.code yX4_shownOf cX4_shownOf 2 (some .int), Cond.selects RX6 ⟨"TwiceAsRich$House", "shownOf", "(I)I"⟩ yX6_shownOf, Cond.selects RX9 ⟨"TwiceAsRich$House", "shownOf", "(I)I"⟩ yX3_shownOf, Cond.selects RX10 ⟨"TwiceAsRich$House", "shownOf", "(I)I"⟩ yX3_shownOf]
def wsX5_search_r5 : List Cond := [Cond.methodLink RX7 44 ⟨"TwiceAsRich$House", "allowedBy", "(I)I"⟩, Cond.sameMethod "TwiceAsRich$House" "TwiceAsRich$House" "allowedBy" "(I)I", Cond.selects RX0 ⟨"TwiceAsRich$House", "allowedBy", "(I)I"⟩ yX3_allowedBy, Cond.instanceMethod yX3_allowedBy, Cond.code yX3_allowedBy cX3_allowedBy 2 (some .int), Cond.instanceMethod ⟨"TwiceAsRich$House", "allowedBy", "(I)I"⟩, Cond.selects RX1 ⟨"TwiceAsRich$House", "allowedBy", "(I)I"⟩ yX10_allowedBy, Cond.instanceMethod yX10_allowedBy, Cond.code yX10_allowedBy cX10_allowedBy 2 (some .int), Cond.selects RX2 ⟨"TwiceAsRich$House", "allowedBy", "(I)I"⟩ yX2_allowedBy, Cond.instanceMethod yX2_allowedBy, Cond.initialized RX2, Cond.code yX2_allowedBy cX2_allowedBy 2 (some .int), Cond.fieldLink RX2 11 "TwiceAsRich$Heir" "figure" "I", Cond.sameField "TwiceAsRich$Heir" "TwiceAsRich$House" "figure" "I", Cond.methodLink RX2 7 yX3_allowedBy, Cond.superclass RX2 RX3, Cond.methodLink RX7 44 yX3_allowedBy, Cond.selects RX3 yX3_allowedBy yX3_allowedBy, Cond.selects RX4 ⟨"TwiceAsRich$House", "allowedBy", "(I)I"⟩ yX4_allowedBy, Cond.instanceMethod yX4_allowedBy, Cond.code yX4_allowedBy cX4_allowedBy 2 (some .int), Cond.methodLink RX4 14 Lib.Math.max.name, Cond.static Lib.Math.max.name]
def wsX5_search_r6 : List Cond := [Cond.initialized "java/lang/Math", Cond.code Lib.Math.max.name Lib.Math.max.code 2 (some .int), Cond.methodLink RX4 11 yX2_allowedBy, Cond.sameMethod "TwiceAsRich$Heir" "TwiceAsRich$Heir" "allowedBy" "(I)I", Cond.superclass RX4 RX2, Cond.selects RX6 ⟨"TwiceAsRich$House", "allowedBy", "(I)I"⟩ yX3_allowedBy, Cond.selects RX9 ⟨"TwiceAsRich$House", "allowedBy", "(I)I"⟩ yX9_allowedBy, Cond.instanceMethod yX9_allowedBy, Cond.initialized RX9, Cond.code yX9_allowedBy cX9_allowedBy 2 (some .int), Cond.methodLink RX9 7 yX2_allowedBy, Cond.superclass RX9 RX2, Cond.selects RX10 ⟨"TwiceAsRich$House", "allowedBy", "(I)I"⟩ yX10_allowedBy, Cond.methodLink RX5 73 yX5_part, Cond.instanceMethod yX5_part, Cond.selects RX5 yX5_part yX5_part, Cond.code yX5_part cX5_part 6 none, Cond.methodLink RX5 88 Lib.Math.max.name, Cond.methodLink RX5 81 yX5_isClosedWell, Cond.instanceMethod yX5_isClosedWell, Cond.selects RX5 yX5_isClosedWell yX5_isClosedWell, Cond.code yX5_isClosedWell cX5_isClosedWell 1 (some .boolean), Cond.methodLink RX5 97 yX7_isClosed, Cond.methodLink RX5 93 yX5_suit]
def wsX5_search_r7 : List Cond := [Cond.instanceMethod yX5_suit, Cond.selects RX5 yX5_suit yX5_suit, Cond.code yX5_suit cX5_suit 3 (some .boolean), Cond.methodLink RX5 85 yX5_note, Cond.instanceMethod yX5_note, Cond.selects RX5 yX5_note yX5_note, Cond.code yX5_note cX5_note 2 none, Cond.methodLink RX5 107 Lib.Math.min.name, Cond.static Lib.Math.min.name, Cond.code Lib.Math.min.name Lib.Math.min.code 2 (some .int), Cond.methodLink RX5 100 yX5_difference, Cond.instanceMethod yX5_difference, Cond.selects RX5 yX5_difference yX5_difference, Cond.code yX5_difference cX5_difference 4 (some .int), Cond.methodLink RX5 104 yX5_handed, Cond.instanceMethod yX5_handed, Cond.selects RX5 yX5_handed yX5_handed, Cond.code yX5_handed cX5_handed 4 (some .int), Cond.methodLink RX5 113 Lib.Math.abs.name, Cond.static Lib.Math.abs.name, Cond.code Lib.Math.abs.name Lib.Math.abs.code 1 (some .int), Cond.methodLink RX5 110 yX5_moving, Cond.instanceMethod yX5_moving, Cond.selects RX5 yX5_moving yX5_moving]
def wsX5_search_r8 : List Cond := [Cond.code yX5_moving cX5_moving 3 (some .int)]
def wsX5_search : List Cond := .code yX5_search cX5_search 4 none :: ((wsX5_search_r1 ++ (wsX5_search_r2 ++ (wsX5_search_r3 ++ (wsX5_search_r4 ++ (wsX5_search_r5 ++ (wsX5_search_r6 ++ (wsX5_search_r7 ++ wsX5_search_r8))))))) ++ wsX50 ++ wsX70 ++ wsX00 ++ wsX10 ++ wsX20 ++ wsX30 ++ wsX40 ++ wsX60 ++ wsX90 ++ wsX100)
def wsX6_kind : List Cond := .code yX6_kind cX6_kind 1 (some .int) :: ([])
def wsX7_has : List Cond := .code yX7_has cX7_has 2 (some .boolean) :: ([.fieldLink RX7 21 "TwiceAsRich$Street" "count" "I"] ++ wsX70)
def wsX7_hasTwo : List Cond := .code yX7_hasTwo cX7_hasTwo 3 (some .boolean) :: ([.methodLink RX7 28 yX7_has, .instanceMethod yX7_has, .selects RX7 yX7_has yX7_has, .initialized RX7, .code yX7_has cX7_has 2 (some .boolean), .fieldLink RX7 21 "TwiceAsRich$Street" "count" "I"] ++ wsX70)
def wsX7_ahead : List Cond := .code yX7_ahead cX7_ahead 2 (some .int) :: ([.fieldLink RX7 21 "TwiceAsRich$Street" "count" "I", .methodLink RX7 32 yX7_isClosed, .instanceMethod yX7_isClosed, .selects RX7 yX7_isClosed yX7_isClosed, .initialized RX7, .code yX7_isClosed cX7_isClosed 1 (some .boolean), .fieldLink RX7 25 "TwiceAsRich$Street" "round" "I"] ++ wsX70)
def wsX7_mostOf_r1 : List Cond := [Cond.methodLink RX7 57 Lib.Math.min.name, Cond.static Lib.Math.min.name, Cond.initialized "java/lang/Math", Cond.code Lib.Math.min.name Lib.Math.min.code 2 (some .int), Cond.methodLink RX7 47 yX7_ahead, Cond.instanceMethod yX7_ahead, Cond.selects RX7 yX7_ahead yX7_ahead, Cond.initialized RX7, Cond.code yX7_ahead cX7_ahead 2 (some .int), Cond.fieldLink RX7 21 "TwiceAsRich$Street" "count" "I", Cond.methodLink RX7 32 yX7_isClosed, Cond.instanceMethod yX7_isClosed, Cond.selects RX7 yX7_isClosed yX7_isClosed, Cond.code yX7_isClosed cX7_isClosed 1 (some .boolean), Cond.fieldLink RX7 25 "TwiceAsRich$Street" "round" "I", Cond.methodLink RX7 50 yX7_limitBy, Cond.instanceMethod yX7_limitBy, Cond.selects RX7 yX7_limitBy yX7_limitBy, Cond.code yX7_limitBy cX7_limitBy 3 (some .int), Cond.fieldLink RX7 11 "TwiceAsRich$Street" "houses" "[LTwiceAsRich$House;", Cond.constant RX7 39 (1000000), Cond.fieldLink RX7 17 "TwiceAsRich$Street" "purses" "[I", Cond.methodLink RX7 36 ⟨"TwiceAsRich$House", "isLookedAt", "()Z"⟩, Cond.sameMethod "TwiceAsRich$House" "TwiceAsRich$House" "isLookedAt" "()Z"]
def wsX7_mostOf_r2 : List Cond := [Cond.selects RX0 ⟨"TwiceAsRich$House", "isLookedAt", "()Z"⟩ yX3_isLookedAt, Cond.instanceMethod yX3_isLookedAt, Cond.initialized RX3, Cond.code yX3_isLookedAt cX3_isLookedAt 1 (some .boolean), Cond.instanceMethod ⟨"TwiceAsRich$House", "isLookedAt", "()Z"⟩, Cond.selects RX1 ⟨"TwiceAsRich$House", "isLookedAt", "()Z"⟩ yX1_isLookedAt, Cond.instanceMethod yX1_isLookedAt, Cond.initialized RX1, Cond.code yX1_isLookedAt cX1_isLookedAt 1 (some .boolean), Cond.selects RX2 ⟨"TwiceAsRich$House", "isLookedAt", "()Z"⟩ yX3_isLookedAt, Cond.methodLink RX7 36 yX3_isLookedAt, Cond.selects RX3 yX3_isLookedAt yX3_isLookedAt, Cond.selects RX4 ⟨"TwiceAsRich$House", "isLookedAt", "()Z"⟩ yX3_isLookedAt, Cond.selects RX6 ⟨"TwiceAsRich$House", "isLookedAt", "()Z"⟩ yX3_isLookedAt, Cond.selects RX9 ⟨"TwiceAsRich$House", "isLookedAt", "()Z"⟩ yX3_isLookedAt, Cond.selects RX10 ⟨"TwiceAsRich$House", "isLookedAt", "()Z"⟩ yX10_isLookedAt, Cond.instanceMethod yX10_isLookedAt, Cond.initialized RX10, Cond.code yX10_isLookedAt cX10_isLookedAt 1 (some .boolean), Cond.methodLink RX7 40 ⟨"TwiceAsRich$House", "shownOf", "(I)I"⟩, Cond.sameMethod "TwiceAsRich$House" "TwiceAsRich$House" "shownOf" "(I)I", Cond.instanceMethod ⟨"TwiceAsRich$House", "shownOf", "(I)I"⟩, Cond.selects RX0 ⟨"TwiceAsRich$House", "shownOf", "(I)I"⟩ yX0_shownOf, Cond.instanceMethod yX0_shownOf]
def wsX7_mostOf_r3 : List Cond := [Cond.initialized RX0, Cond.code yX0_shownOf cX0_shownOf 2 (some .int), Cond.fieldLink RX0 11 "TwiceAsRich$Beggar" "figure" "I", Cond.sameField "TwiceAsRich$Beggar" "TwiceAsRich$House" "figure" "I", Cond.methodLink RX0 7 yX6_shownOf, Cond.sameMethod "TwiceAsRich$Priest" "TwiceAsRich$Priest" "shownOf" "(I)I", Cond.superclass RX0 RX6, Cond.instanceMethod yX6_shownOf, Cond.initialized RX6, Cond.code yX6_shownOf cX6_shownOf 2 (some .int), Cond.methodLink RX6 7 yX3_shownOf, Cond.superclass RX6 RX3, Cond.instanceMethod yX3_shownOf, Cond.code yX3_shownOf cX3_shownOf 2 (some .int), Cond.selects RX1 ⟨"TwiceAsRich$House", "shownOf", "(I)I"⟩ yX3_shownOf, Cond.selects RX2 ⟨"TwiceAsRich$House", "shownOf", "(I)I"⟩ yX3_shownOf, Cond.methodLink RX7 40 yX3_shownOf, Cond.selects RX3 yX3_shownOf yX3_shownOf, Cond.selects RX4 ⟨"TwiceAsRich$House", "shownOf", "(I)I"⟩ yX4_shownOf, Cond.instanceMethod yX4_shownOf, Cond.initialized RX4, Cond.code yX4_shownOf cX4_shownOf 2 (some .int), Cond.selects RX6 ⟨"TwiceAsRich$House", "shownOf", "(I)I"⟩ yX6_shownOf, Cond.selects RX9 ⟨"TwiceAsRich$House", "shownOf", "(I)I"⟩ yX3_shownOf]
def wsX7_mostOf_r4 : List Cond := [Cond.selects RX10 ⟨"TwiceAsRich$House", "shownOf", "(I)I"⟩ yX3_shownOf, Cond.methodLink RX7 44 ⟨"TwiceAsRich$House", "allowedBy", "(I)I"⟩, Cond.sameMethod "TwiceAsRich$House" "TwiceAsRich$House" "allowedBy" "(I)I", Cond.selects RX0 ⟨"TwiceAsRich$House", "allowedBy", "(I)I"⟩ yX3_allowedBy, Cond.instanceMethod yX3_allowedBy, Cond.code yX3_allowedBy cX3_allowedBy 2 (some .int), Cond.instanceMethod ⟨"TwiceAsRich$House", "allowedBy", "(I)I"⟩, Cond.selects RX1 ⟨"TwiceAsRich$House", "allowedBy", "(I)I"⟩ yX10_allowedBy, Cond.instanceMethod yX10_allowedBy, Cond.code yX10_allowedBy cX10_allowedBy 2 (some .int), Cond.selects RX2 ⟨"TwiceAsRich$House", "allowedBy", "(I)I"⟩ yX2_allowedBy, Cond.instanceMethod yX2_allowedBy, Cond.initialized RX2, Cond.code yX2_allowedBy cX2_allowedBy 2 (some .int), Cond.fieldLink RX2 11 "TwiceAsRich$Heir" "figure" "I", Cond.sameField "TwiceAsRich$Heir" "TwiceAsRich$House" "figure" "I", Cond.methodLink RX2 7 yX3_allowedBy, Cond.superclass RX2 RX3, Cond.methodLink RX7 44 yX3_allowedBy, Cond.selects RX3 yX3_allowedBy yX3_allowedBy, Cond.selects RX4 ⟨"TwiceAsRich$House", "allowedBy", "(I)I"⟩ yX4_allowedBy, Cond.instanceMethod yX4_allowedBy, Cond.code yX4_allowedBy cX4_allowedBy 2 (some .int), Cond.methodLink RX4 14 Lib.Math.max.name]
def wsX7_mostOf_r5 : List Cond := [Cond.static Lib.Math.max.name, Cond.code Lib.Math.max.name Lib.Math.max.code 2 (some .int), Cond.methodLink RX4 11 yX2_allowedBy, Cond.sameMethod "TwiceAsRich$Heir" "TwiceAsRich$Heir" "allowedBy" "(I)I", Cond.superclass RX4 RX2, Cond.selects RX6 ⟨"TwiceAsRich$House", "allowedBy", "(I)I"⟩ yX3_allowedBy, Cond.selects RX9 ⟨"TwiceAsRich$House", "allowedBy", "(I)I"⟩ yX9_allowedBy, Cond.instanceMethod yX9_allowedBy, Cond.initialized RX9, Cond.code yX9_allowedBy cX9_allowedBy 2 (some .int), Cond.methodLink RX9 7 yX2_allowedBy, Cond.superclass RX9 RX2, Cond.selects RX10 ⟨"TwiceAsRich$House", "allowedBy", "(I)I"⟩ yX10_allowedBy, Cond.methodLink RX7 54 yX7_behind, Cond.instanceMethod yX7_behind, Cond.selects RX7 yX7_behind yX7_behind, Cond.code yX7_behind cX7_behind 2 (some .int)]
def wsX7_mostOf : List Cond := .code yX7_mostOf cX7_mostOf 2 (some .int) :: ((wsX7_mostOf_r1 ++ (wsX7_mostOf_r2 ++ (wsX7_mostOf_r3 ++ (wsX7_mostOf_r4 ++ wsX7_mostOf_r5)))) ++ wsX70 ++ wsX00 ++ wsX10 ++ wsX20 ++ wsX30 ++ wsX40 ++ wsX60 ++ wsX90 ++ wsX100)
def wsX7_breachesOf_r1 : List Cond := [Cond.fieldLink RX7 17 "TwiceAsRich$Street" "purses" "[I", Cond.methodLink RX7 47 yX7_ahead, Cond.instanceMethod yX7_ahead, Cond.selects RX7 yX7_ahead yX7_ahead, Cond.initialized RX7, Cond.code yX7_ahead cX7_ahead 2 (some .int), Cond.fieldLink RX7 21 "TwiceAsRich$Street" "count" "I", Cond.methodLink RX7 32 yX7_isClosed, Cond.instanceMethod yX7_isClosed, Cond.selects RX7 yX7_isClosed yX7_isClosed, Cond.code yX7_isClosed cX7_isClosed 1 (some .boolean), Cond.fieldLink RX7 25 "TwiceAsRich$Street" "round" "I", Cond.methodLink RX7 50 yX7_limitBy, Cond.instanceMethod yX7_limitBy, Cond.selects RX7 yX7_limitBy yX7_limitBy, Cond.code yX7_limitBy cX7_limitBy 3 (some .int), Cond.fieldLink RX7 11 "TwiceAsRich$Street" "houses" "[LTwiceAsRich$House;", Cond.constant RX7 39 (1000000), Cond.methodLink RX7 36 ⟨"TwiceAsRich$House", "isLookedAt", "()Z"⟩, Cond.sameMethod "TwiceAsRich$House" "TwiceAsRich$House" "isLookedAt" "()Z", Cond.selects RX0 ⟨"TwiceAsRich$House", "isLookedAt", "()Z"⟩ yX3_isLookedAt, Cond.instanceMethod yX3_isLookedAt, Cond.initialized RX3, Cond.code yX3_isLookedAt cX3_isLookedAt 1 (some .boolean)]
def wsX7_breachesOf_r2 : List Cond := [Cond.instanceMethod ⟨"TwiceAsRich$House", "isLookedAt", "()Z"⟩, Cond.selects RX1 ⟨"TwiceAsRich$House", "isLookedAt", "()Z"⟩ yX1_isLookedAt, Cond.instanceMethod yX1_isLookedAt, Cond.initialized RX1, Cond.code yX1_isLookedAt cX1_isLookedAt 1 (some .boolean), Cond.selects RX2 ⟨"TwiceAsRich$House", "isLookedAt", "()Z"⟩ yX3_isLookedAt, Cond.methodLink RX7 36 yX3_isLookedAt, Cond.selects RX3 yX3_isLookedAt yX3_isLookedAt, Cond.selects RX4 ⟨"TwiceAsRich$House", "isLookedAt", "()Z"⟩ yX3_isLookedAt, Cond.selects RX6 ⟨"TwiceAsRich$House", "isLookedAt", "()Z"⟩ yX3_isLookedAt, Cond.selects RX9 ⟨"TwiceAsRich$House", "isLookedAt", "()Z"⟩ yX3_isLookedAt, Cond.selects RX10 ⟨"TwiceAsRich$House", "isLookedAt", "()Z"⟩ yX10_isLookedAt, Cond.instanceMethod yX10_isLookedAt, Cond.initialized RX10, Cond.code yX10_isLookedAt cX10_isLookedAt 1 (some .boolean), Cond.methodLink RX7 40 ⟨"TwiceAsRich$House", "shownOf", "(I)I"⟩, Cond.sameMethod "TwiceAsRich$House" "TwiceAsRich$House" "shownOf" "(I)I", Cond.instanceMethod ⟨"TwiceAsRich$House", "shownOf", "(I)I"⟩, Cond.selects RX0 ⟨"TwiceAsRich$House", "shownOf", "(I)I"⟩ yX0_shownOf, Cond.instanceMethod yX0_shownOf, Cond.initialized RX0, Cond.code yX0_shownOf cX0_shownOf 2 (some .int), Cond.fieldLink RX0 11 "TwiceAsRich$Beggar" "figure" "I", Cond.sameField "TwiceAsRich$Beggar" "TwiceAsRich$House" "figure" "I"]
def wsX7_breachesOf_r3 : List Cond := [Cond.methodLink RX0 7 yX6_shownOf, Cond.sameMethod "TwiceAsRich$Priest" "TwiceAsRich$Priest" "shownOf" "(I)I", Cond.superclass RX0 RX6, Cond.instanceMethod yX6_shownOf, Cond.initialized RX6, Cond.code yX6_shownOf cX6_shownOf 2 (some .int), Cond.methodLink RX6 7 yX3_shownOf, Cond.superclass RX6 RX3, Cond.instanceMethod yX3_shownOf, Cond.code yX3_shownOf cX3_shownOf 2 (some .int), Cond.selects RX1 ⟨"TwiceAsRich$House", "shownOf", "(I)I"⟩ yX3_shownOf, Cond.selects RX2 ⟨"TwiceAsRich$House", "shownOf", "(I)I"⟩ yX3_shownOf, Cond.methodLink RX7 40 yX3_shownOf, Cond.selects RX3 yX3_shownOf yX3_shownOf, Cond.selects RX4 ⟨"TwiceAsRich$House", "shownOf", "(I)I"⟩ yX4_shownOf, Cond.instanceMethod yX4_shownOf, Cond.initialized RX4, Cond.code yX4_shownOf cX4_shownOf 2 (some .int), Cond.selects RX6 ⟨"TwiceAsRich$House", "shownOf", "(I)I"⟩ yX6_shownOf, Cond.selects RX9 ⟨"TwiceAsRich$House", "shownOf", "(I)I"⟩ yX3_shownOf, Cond.selects RX10 ⟨"TwiceAsRich$House", "shownOf", "(I)I"⟩ yX3_shownOf, Cond.methodLink RX7 44 ⟨"TwiceAsRich$House", "allowedBy", "(I)I"⟩, Cond.sameMethod "TwiceAsRich$House" "TwiceAsRich$House" "allowedBy" "(I)I", Cond.selects RX0 ⟨"TwiceAsRich$House", "allowedBy", "(I)I"⟩ yX3_allowedBy]
def wsX7_breachesOf_r4 : List Cond := [Cond.instanceMethod yX3_allowedBy, Cond.code yX3_allowedBy cX3_allowedBy 2 (some .int), Cond.instanceMethod ⟨"TwiceAsRich$House", "allowedBy", "(I)I"⟩, Cond.selects RX1 ⟨"TwiceAsRich$House", "allowedBy", "(I)I"⟩ yX10_allowedBy, Cond.instanceMethod yX10_allowedBy, Cond.code yX10_allowedBy cX10_allowedBy 2 (some .int), Cond.selects RX2 ⟨"TwiceAsRich$House", "allowedBy", "(I)I"⟩ yX2_allowedBy, Cond.instanceMethod yX2_allowedBy, Cond.initialized RX2, Cond.code yX2_allowedBy cX2_allowedBy 2 (some .int), Cond.fieldLink RX2 11 "TwiceAsRich$Heir" "figure" "I", Cond.sameField "TwiceAsRich$Heir" "TwiceAsRich$House" "figure" "I", Cond.methodLink RX2 7 yX3_allowedBy, Cond.superclass RX2 RX3, Cond.methodLink RX7 44 yX3_allowedBy, Cond.selects RX3 yX3_allowedBy yX3_allowedBy, Cond.selects RX4 ⟨"TwiceAsRich$House", "allowedBy", "(I)I"⟩ yX4_allowedBy, Cond.instanceMethod yX4_allowedBy, Cond.code yX4_allowedBy cX4_allowedBy 2 (some .int), Cond.methodLink RX4 14 Lib.Math.max.name, Cond.static Lib.Math.max.name, Cond.initialized "java/lang/Math", Cond.code Lib.Math.max.name Lib.Math.max.code 2 (some .int), Cond.methodLink RX4 11 yX2_allowedBy]
def wsX7_breachesOf_r5 : List Cond := [Cond.sameMethod "TwiceAsRich$Heir" "TwiceAsRich$Heir" "allowedBy" "(I)I", Cond.superclass RX4 RX2, Cond.selects RX6 ⟨"TwiceAsRich$House", "allowedBy", "(I)I"⟩ yX3_allowedBy, Cond.selects RX9 ⟨"TwiceAsRich$House", "allowedBy", "(I)I"⟩ yX9_allowedBy, Cond.instanceMethod yX9_allowedBy, Cond.initialized RX9, Cond.code yX9_allowedBy cX9_allowedBy 2 (some .int), Cond.methodLink RX9 7 yX2_allowedBy, Cond.superclass RX9 RX2, Cond.selects RX10 ⟨"TwiceAsRich$House", "allowedBy", "(I)I"⟩ yX10_allowedBy, Cond.methodLink RX7 54 yX7_behind, Cond.instanceMethod yX7_behind, Cond.selects RX7 yX7_behind yX7_behind, Cond.code yX7_behind cX7_behind 2 (some .int)]
def wsX7_breachesOf : List Cond := .code yX7_breachesOf cX7_breachesOf 3 (some .int) :: ((wsX7_breachesOf_r1 ++ (wsX7_breachesOf_r2 ++ (wsX7_breachesOf_r3 ++ (wsX7_breachesOf_r4 ++ wsX7_breachesOf_r5)))) ++ wsX70 ++ wsX00 ++ wsX10 ++ wsX20 ++ wsX30 ++ wsX40 ++ wsX60 ++ wsX90 ++ wsX100)
def wsX7_allBreaches_r1 : List Cond := [Cond.fieldLink RX7 21 "TwiceAsRich$Street" "count" "I", Cond.methodLink RX7 62 yX7_breachesOf, Cond.instanceMethod yX7_breachesOf, Cond.selects RX7 yX7_breachesOf yX7_breachesOf, Cond.initialized RX7, Cond.code yX7_breachesOf cX7_breachesOf 3 (some .int), Cond.fieldLink RX7 17 "TwiceAsRich$Street" "purses" "[I", Cond.methodLink RX7 47 yX7_ahead, Cond.instanceMethod yX7_ahead, Cond.selects RX7 yX7_ahead yX7_ahead, Cond.code yX7_ahead cX7_ahead 2 (some .int), Cond.methodLink RX7 32 yX7_isClosed, Cond.instanceMethod yX7_isClosed, Cond.selects RX7 yX7_isClosed yX7_isClosed, Cond.code yX7_isClosed cX7_isClosed 1 (some .boolean), Cond.fieldLink RX7 25 "TwiceAsRich$Street" "round" "I", Cond.methodLink RX7 50 yX7_limitBy, Cond.instanceMethod yX7_limitBy, Cond.selects RX7 yX7_limitBy yX7_limitBy, Cond.code yX7_limitBy cX7_limitBy 3 (some .int), Cond.fieldLink RX7 11 "TwiceAsRich$Street" "houses" "[LTwiceAsRich$House;", Cond.constant RX7 39 (1000000), Cond.methodLink RX7 36 ⟨"TwiceAsRich$House", "isLookedAt", "()Z"⟩, Cond.sameMethod "TwiceAsRich$House" "TwiceAsRich$House" "isLookedAt" "()Z"]
def wsX7_allBreaches_r2 : List Cond := [Cond.selects RX0 ⟨"TwiceAsRich$House", "isLookedAt", "()Z"⟩ yX3_isLookedAt, Cond.instanceMethod yX3_isLookedAt, Cond.initialized RX3, Cond.code yX3_isLookedAt cX3_isLookedAt 1 (some .boolean), Cond.instanceMethod ⟨"TwiceAsRich$House", "isLookedAt", "()Z"⟩, Cond.selects RX1 ⟨"TwiceAsRich$House", "isLookedAt", "()Z"⟩ yX1_isLookedAt, Cond.instanceMethod yX1_isLookedAt, Cond.initialized RX1, Cond.code yX1_isLookedAt cX1_isLookedAt 1 (some .boolean), Cond.selects RX2 ⟨"TwiceAsRich$House", "isLookedAt", "()Z"⟩ yX3_isLookedAt, Cond.methodLink RX7 36 yX3_isLookedAt, Cond.selects RX3 yX3_isLookedAt yX3_isLookedAt, Cond.selects RX4 ⟨"TwiceAsRich$House", "isLookedAt", "()Z"⟩ yX3_isLookedAt, Cond.selects RX6 ⟨"TwiceAsRich$House", "isLookedAt", "()Z"⟩ yX3_isLookedAt, Cond.selects RX9 ⟨"TwiceAsRich$House", "isLookedAt", "()Z"⟩ yX3_isLookedAt, Cond.selects RX10 ⟨"TwiceAsRich$House", "isLookedAt", "()Z"⟩ yX10_isLookedAt, Cond.instanceMethod yX10_isLookedAt, Cond.initialized RX10, Cond.code yX10_isLookedAt cX10_isLookedAt 1 (some .boolean), Cond.methodLink RX7 40 ⟨"TwiceAsRich$House", "shownOf", "(I)I"⟩, Cond.sameMethod "TwiceAsRich$House" "TwiceAsRich$House" "shownOf" "(I)I", Cond.instanceMethod ⟨"TwiceAsRich$House", "shownOf", "(I)I"⟩, Cond.selects RX0 ⟨"TwiceAsRich$House", "shownOf", "(I)I"⟩ yX0_shownOf, Cond.instanceMethod yX0_shownOf]
def wsX7_allBreaches_r3 : List Cond := [Cond.initialized RX0, Cond.code yX0_shownOf cX0_shownOf 2 (some .int), Cond.fieldLink RX0 11 "TwiceAsRich$Beggar" "figure" "I", Cond.sameField "TwiceAsRich$Beggar" "TwiceAsRich$House" "figure" "I", Cond.methodLink RX0 7 yX6_shownOf, Cond.sameMethod "TwiceAsRich$Priest" "TwiceAsRich$Priest" "shownOf" "(I)I", Cond.superclass RX0 RX6, Cond.instanceMethod yX6_shownOf, Cond.initialized RX6, Cond.code yX6_shownOf cX6_shownOf 2 (some .int), Cond.methodLink RX6 7 yX3_shownOf, Cond.superclass RX6 RX3, Cond.instanceMethod yX3_shownOf, Cond.code yX3_shownOf cX3_shownOf 2 (some .int), Cond.selects RX1 ⟨"TwiceAsRich$House", "shownOf", "(I)I"⟩ yX3_shownOf, Cond.selects RX2 ⟨"TwiceAsRich$House", "shownOf", "(I)I"⟩ yX3_shownOf, Cond.methodLink RX7 40 yX3_shownOf, Cond.selects RX3 yX3_shownOf yX3_shownOf, Cond.selects RX4 ⟨"TwiceAsRich$House", "shownOf", "(I)I"⟩ yX4_shownOf, Cond.instanceMethod yX4_shownOf, Cond.initialized RX4, Cond.code yX4_shownOf cX4_shownOf 2 (some .int), Cond.selects RX6 ⟨"TwiceAsRich$House", "shownOf", "(I)I"⟩ yX6_shownOf, Cond.selects RX9 ⟨"TwiceAsRich$House", "shownOf", "(I)I"⟩ yX3_shownOf]
def wsX7_allBreaches_r4 : List Cond := [Cond.selects RX10 ⟨"TwiceAsRich$House", "shownOf", "(I)I"⟩ yX3_shownOf, Cond.methodLink RX7 44 ⟨"TwiceAsRich$House", "allowedBy", "(I)I"⟩, Cond.sameMethod "TwiceAsRich$House" "TwiceAsRich$House" "allowedBy" "(I)I", Cond.selects RX0 ⟨"TwiceAsRich$House", "allowedBy", "(I)I"⟩ yX3_allowedBy, Cond.instanceMethod yX3_allowedBy, Cond.code yX3_allowedBy cX3_allowedBy 2 (some .int), Cond.instanceMethod ⟨"TwiceAsRich$House", "allowedBy", "(I)I"⟩, Cond.selects RX1 ⟨"TwiceAsRich$House", "allowedBy", "(I)I"⟩ yX10_allowedBy, Cond.instanceMethod yX10_allowedBy, Cond.code yX10_allowedBy cX10_allowedBy 2 (some .int), Cond.selects RX2 ⟨"TwiceAsRich$House", "allowedBy", "(I)I"⟩ yX2_allowedBy, Cond.instanceMethod yX2_allowedBy, Cond.initialized RX2, Cond.code yX2_allowedBy cX2_allowedBy 2 (some .int), Cond.fieldLink RX2 11 "TwiceAsRich$Heir" "figure" "I", Cond.sameField "TwiceAsRich$Heir" "TwiceAsRich$House" "figure" "I", Cond.methodLink RX2 7 yX3_allowedBy, Cond.superclass RX2 RX3, Cond.methodLink RX7 44 yX3_allowedBy, Cond.selects RX3 yX3_allowedBy yX3_allowedBy, Cond.selects RX4 ⟨"TwiceAsRich$House", "allowedBy", "(I)I"⟩ yX4_allowedBy, Cond.instanceMethod yX4_allowedBy, Cond.code yX4_allowedBy cX4_allowedBy 2 (some .int), Cond.methodLink RX4 14 Lib.Math.max.name]
def wsX7_allBreaches_r5 : List Cond := [Cond.static Lib.Math.max.name, Cond.initialized "java/lang/Math", Cond.code Lib.Math.max.name Lib.Math.max.code 2 (some .int), Cond.methodLink RX4 11 yX2_allowedBy, Cond.sameMethod "TwiceAsRich$Heir" "TwiceAsRich$Heir" "allowedBy" "(I)I", Cond.superclass RX4 RX2, Cond.selects RX6 ⟨"TwiceAsRich$House", "allowedBy", "(I)I"⟩ yX3_allowedBy, Cond.selects RX9 ⟨"TwiceAsRich$House", "allowedBy", "(I)I"⟩ yX9_allowedBy, Cond.instanceMethod yX9_allowedBy, Cond.initialized RX9, Cond.code yX9_allowedBy cX9_allowedBy 2 (some .int), Cond.methodLink RX9 7 yX2_allowedBy, Cond.superclass RX9 RX2, Cond.selects RX10 ⟨"TwiceAsRich$House", "allowedBy", "(I)I"⟩ yX10_allowedBy, Cond.methodLink RX7 54 yX7_behind, Cond.instanceMethod yX7_behind, Cond.selects RX7 yX7_behind yX7_behind, Cond.code yX7_behind cX7_behind 2 (some .int)]
def wsX7_allBreaches : List Cond := .code yX7_allBreaches cX7_allBreaches 3 (some .int) :: ((wsX7_allBreaches_r1 ++ (wsX7_allBreaches_r2 ++ (wsX7_allBreaches_r3 ++ (wsX7_allBreaches_r4 ++ wsX7_allBreaches_r5)))) ++ wsX70 ++ wsX00 ++ wsX10 ++ wsX20 ++ wsX30 ++ wsX40 ++ wsX60 ++ wsX90 ++ wsX100)
def wsX7_housesWithoutBreach_r1 : List Cond := [Cond.fieldLink RX7 21 "TwiceAsRich$Street" "count" "I", Cond.methodLink RX7 62 yX7_breachesOf, Cond.instanceMethod yX7_breachesOf, Cond.selects RX7 yX7_breachesOf yX7_breachesOf, Cond.initialized RX7, Cond.code yX7_breachesOf cX7_breachesOf 3 (some .int), Cond.fieldLink RX7 17 "TwiceAsRich$Street" "purses" "[I", Cond.methodLink RX7 47 yX7_ahead, Cond.instanceMethod yX7_ahead, Cond.selects RX7 yX7_ahead yX7_ahead, Cond.code yX7_ahead cX7_ahead 2 (some .int), Cond.methodLink RX7 32 yX7_isClosed, Cond.instanceMethod yX7_isClosed, Cond.selects RX7 yX7_isClosed yX7_isClosed, Cond.code yX7_isClosed cX7_isClosed 1 (some .boolean), Cond.fieldLink RX7 25 "TwiceAsRich$Street" "round" "I", Cond.methodLink RX7 50 yX7_limitBy, Cond.instanceMethod yX7_limitBy, Cond.selects RX7 yX7_limitBy yX7_limitBy, Cond.code yX7_limitBy cX7_limitBy 3 (some .int), Cond.fieldLink RX7 11 "TwiceAsRich$Street" "houses" "[LTwiceAsRich$House;", Cond.constant RX7 39 (1000000), Cond.methodLink RX7 36 ⟨"TwiceAsRich$House", "isLookedAt", "()Z"⟩, Cond.sameMethod "TwiceAsRich$House" "TwiceAsRich$House" "isLookedAt" "()Z"]
def wsX7_housesWithoutBreach_r2 : List Cond := [Cond.selects RX0 ⟨"TwiceAsRich$House", "isLookedAt", "()Z"⟩ yX3_isLookedAt, Cond.instanceMethod yX3_isLookedAt, Cond.initialized RX3, Cond.code yX3_isLookedAt cX3_isLookedAt 1 (some .boolean), Cond.instanceMethod ⟨"TwiceAsRich$House", "isLookedAt", "()Z"⟩, Cond.selects RX1 ⟨"TwiceAsRich$House", "isLookedAt", "()Z"⟩ yX1_isLookedAt, Cond.instanceMethod yX1_isLookedAt, Cond.initialized RX1, Cond.code yX1_isLookedAt cX1_isLookedAt 1 (some .boolean), Cond.selects RX2 ⟨"TwiceAsRich$House", "isLookedAt", "()Z"⟩ yX3_isLookedAt, Cond.methodLink RX7 36 yX3_isLookedAt, Cond.selects RX3 yX3_isLookedAt yX3_isLookedAt, Cond.selects RX4 ⟨"TwiceAsRich$House", "isLookedAt", "()Z"⟩ yX3_isLookedAt, Cond.selects RX6 ⟨"TwiceAsRich$House", "isLookedAt", "()Z"⟩ yX3_isLookedAt, Cond.selects RX9 ⟨"TwiceAsRich$House", "isLookedAt", "()Z"⟩ yX3_isLookedAt, Cond.selects RX10 ⟨"TwiceAsRich$House", "isLookedAt", "()Z"⟩ yX10_isLookedAt, Cond.instanceMethod yX10_isLookedAt, Cond.initialized RX10, Cond.code yX10_isLookedAt cX10_isLookedAt 1 (some .boolean), Cond.methodLink RX7 40 ⟨"TwiceAsRich$House", "shownOf", "(I)I"⟩, Cond.sameMethod "TwiceAsRich$House" "TwiceAsRich$House" "shownOf" "(I)I", Cond.instanceMethod ⟨"TwiceAsRich$House", "shownOf", "(I)I"⟩, Cond.selects RX0 ⟨"TwiceAsRich$House", "shownOf", "(I)I"⟩ yX0_shownOf, Cond.instanceMethod yX0_shownOf]
def wsX7_housesWithoutBreach_r3 : List Cond := [Cond.initialized RX0, Cond.code yX0_shownOf cX0_shownOf 2 (some .int), Cond.fieldLink RX0 11 "TwiceAsRich$Beggar" "figure" "I", Cond.sameField "TwiceAsRich$Beggar" "TwiceAsRich$House" "figure" "I", Cond.methodLink RX0 7 yX6_shownOf, Cond.sameMethod "TwiceAsRich$Priest" "TwiceAsRich$Priest" "shownOf" "(I)I", Cond.superclass RX0 RX6, Cond.instanceMethod yX6_shownOf, Cond.initialized RX6, Cond.code yX6_shownOf cX6_shownOf 2 (some .int), Cond.methodLink RX6 7 yX3_shownOf, Cond.superclass RX6 RX3, Cond.instanceMethod yX3_shownOf, Cond.code yX3_shownOf cX3_shownOf 2 (some .int), Cond.selects RX1 ⟨"TwiceAsRich$House", "shownOf", "(I)I"⟩ yX3_shownOf, Cond.selects RX2 ⟨"TwiceAsRich$House", "shownOf", "(I)I"⟩ yX3_shownOf, Cond.methodLink RX7 40 yX3_shownOf, Cond.selects RX3 yX3_shownOf yX3_shownOf, Cond.selects RX4 ⟨"TwiceAsRich$House", "shownOf", "(I)I"⟩ yX4_shownOf, Cond.instanceMethod yX4_shownOf, Cond.initialized RX4, Cond.code yX4_shownOf cX4_shownOf 2 (some .int), Cond.selects RX6 ⟨"TwiceAsRich$House", "shownOf", "(I)I"⟩ yX6_shownOf, Cond.selects RX9 ⟨"TwiceAsRich$House", "shownOf", "(I)I"⟩ yX3_shownOf]
def wsX7_housesWithoutBreach_r4 : List Cond := [Cond.selects RX10 ⟨"TwiceAsRich$House", "shownOf", "(I)I"⟩ yX3_shownOf, Cond.methodLink RX7 44 ⟨"TwiceAsRich$House", "allowedBy", "(I)I"⟩, Cond.sameMethod "TwiceAsRich$House" "TwiceAsRich$House" "allowedBy" "(I)I", Cond.selects RX0 ⟨"TwiceAsRich$House", "allowedBy", "(I)I"⟩ yX3_allowedBy, Cond.instanceMethod yX3_allowedBy, Cond.code yX3_allowedBy cX3_allowedBy 2 (some .int), Cond.instanceMethod ⟨"TwiceAsRich$House", "allowedBy", "(I)I"⟩, Cond.selects RX1 ⟨"TwiceAsRich$House", "allowedBy", "(I)I"⟩ yX10_allowedBy, Cond.instanceMethod yX10_allowedBy, Cond.code yX10_allowedBy cX10_allowedBy 2 (some .int), Cond.selects RX2 ⟨"TwiceAsRich$House", "allowedBy", "(I)I"⟩ yX2_allowedBy, Cond.instanceMethod yX2_allowedBy, Cond.initialized RX2, Cond.code yX2_allowedBy cX2_allowedBy 2 (some .int), Cond.fieldLink RX2 11 "TwiceAsRich$Heir" "figure" "I", Cond.sameField "TwiceAsRich$Heir" "TwiceAsRich$House" "figure" "I", Cond.methodLink RX2 7 yX3_allowedBy, Cond.superclass RX2 RX3, Cond.methodLink RX7 44 yX3_allowedBy, Cond.selects RX3 yX3_allowedBy yX3_allowedBy, Cond.selects RX4 ⟨"TwiceAsRich$House", "allowedBy", "(I)I"⟩ yX4_allowedBy, Cond.instanceMethod yX4_allowedBy, Cond.code yX4_allowedBy cX4_allowedBy 2 (some .int), Cond.methodLink RX4 14 Lib.Math.max.name]
def wsX7_housesWithoutBreach_r5 : List Cond := [Cond.static Lib.Math.max.name, Cond.initialized "java/lang/Math", Cond.code Lib.Math.max.name Lib.Math.max.code 2 (some .int), Cond.methodLink RX4 11 yX2_allowedBy, Cond.sameMethod "TwiceAsRich$Heir" "TwiceAsRich$Heir" "allowedBy" "(I)I", Cond.superclass RX4 RX2, Cond.selects RX6 ⟨"TwiceAsRich$House", "allowedBy", "(I)I"⟩ yX3_allowedBy, Cond.selects RX9 ⟨"TwiceAsRich$House", "allowedBy", "(I)I"⟩ yX9_allowedBy, Cond.instanceMethod yX9_allowedBy, Cond.initialized RX9, Cond.code yX9_allowedBy cX9_allowedBy 2 (some .int), Cond.methodLink RX9 7 yX2_allowedBy, Cond.superclass RX9 RX2, Cond.selects RX10 ⟨"TwiceAsRich$House", "allowedBy", "(I)I"⟩ yX10_allowedBy, Cond.methodLink RX7 54 yX7_behind, Cond.instanceMethod yX7_behind, Cond.selects RX7 yX7_behind yX7_behind, Cond.code yX7_behind cX7_behind 2 (some .int)]
def wsX7_housesWithoutBreach : List Cond := .code yX7_housesWithoutBreach cX7_housesWithoutBreach 3 (some .int) :: ((wsX7_housesWithoutBreach_r1 ++ (wsX7_housesWithoutBreach_r2 ++ (wsX7_housesWithoutBreach_r3 ++ (wsX7_housesWithoutBreach_r4 ++ wsX7_housesWithoutBreach_r5)))) ++ wsX70 ++ wsX00 ++ wsX10 ++ wsX20 ++ wsX30 ++ wsX40 ++ wsX60 ++ wsX90 ++ wsX100)
def wsX7_holdersOf_r1 : List Cond := [Cond.fieldLink RX7 17 "TwiceAsRich$Street" "purses" "[I", Cond.methodLink RX7 47 yX7_ahead, Cond.instanceMethod yX7_ahead, Cond.selects RX7 yX7_ahead yX7_ahead, Cond.initialized RX7, Cond.code yX7_ahead cX7_ahead 2 (some .int), Cond.fieldLink RX7 21 "TwiceAsRich$Street" "count" "I", Cond.methodLink RX7 32 yX7_isClosed, Cond.instanceMethod yX7_isClosed, Cond.selects RX7 yX7_isClosed yX7_isClosed, Cond.code yX7_isClosed cX7_isClosed 1 (some .boolean), Cond.fieldLink RX7 25 "TwiceAsRich$Street" "round" "I", Cond.methodLink RX7 54 yX7_behind, Cond.instanceMethod yX7_behind, Cond.selects RX7 yX7_behind yX7_behind, Cond.code yX7_behind cX7_behind 2 (some .int), Cond.methodLink RX7 50 yX7_limitBy, Cond.instanceMethod yX7_limitBy, Cond.selects RX7 yX7_limitBy yX7_limitBy, Cond.code yX7_limitBy cX7_limitBy 3 (some .int), Cond.fieldLink RX7 11 "TwiceAsRich$Street" "houses" "[LTwiceAsRich$House;", Cond.constant RX7 39 (1000000), Cond.methodLink RX7 36 ⟨"TwiceAsRich$House", "isLookedAt", "()Z"⟩, Cond.sameMethod "TwiceAsRich$House" "TwiceAsRich$House" "isLookedAt" "()Z"]
def wsX7_holdersOf_r2 : List Cond := [Cond.selects RX0 ⟨"TwiceAsRich$House", "isLookedAt", "()Z"⟩ yX3_isLookedAt, Cond.instanceMethod yX3_isLookedAt, Cond.initialized RX3, Cond.code yX3_isLookedAt cX3_isLookedAt 1 (some .boolean), Cond.instanceMethod ⟨"TwiceAsRich$House", "isLookedAt", "()Z"⟩, Cond.selects RX1 ⟨"TwiceAsRich$House", "isLookedAt", "()Z"⟩ yX1_isLookedAt, Cond.instanceMethod yX1_isLookedAt, Cond.initialized RX1, Cond.code yX1_isLookedAt cX1_isLookedAt 1 (some .boolean), Cond.selects RX2 ⟨"TwiceAsRich$House", "isLookedAt", "()Z"⟩ yX3_isLookedAt, Cond.methodLink RX7 36 yX3_isLookedAt, Cond.selects RX3 yX3_isLookedAt yX3_isLookedAt, Cond.selects RX4 ⟨"TwiceAsRich$House", "isLookedAt", "()Z"⟩ yX3_isLookedAt, Cond.selects RX6 ⟨"TwiceAsRich$House", "isLookedAt", "()Z"⟩ yX3_isLookedAt, Cond.selects RX9 ⟨"TwiceAsRich$House", "isLookedAt", "()Z"⟩ yX3_isLookedAt, Cond.selects RX10 ⟨"TwiceAsRich$House", "isLookedAt", "()Z"⟩ yX10_isLookedAt, Cond.instanceMethod yX10_isLookedAt, Cond.initialized RX10, Cond.code yX10_isLookedAt cX10_isLookedAt 1 (some .boolean), Cond.methodLink RX7 40 ⟨"TwiceAsRich$House", "shownOf", "(I)I"⟩, Cond.sameMethod "TwiceAsRich$House" "TwiceAsRich$House" "shownOf" "(I)I", Cond.instanceMethod ⟨"TwiceAsRich$House", "shownOf", "(I)I"⟩, Cond.selects RX0 ⟨"TwiceAsRich$House", "shownOf", "(I)I"⟩ yX0_shownOf, Cond.instanceMethod yX0_shownOf]
def wsX7_holdersOf_r3 : List Cond := [Cond.initialized RX0, Cond.code yX0_shownOf cX0_shownOf 2 (some .int), Cond.fieldLink RX0 11 "TwiceAsRich$Beggar" "figure" "I", Cond.sameField "TwiceAsRich$Beggar" "TwiceAsRich$House" "figure" "I", Cond.methodLink RX0 7 yX6_shownOf, Cond.sameMethod "TwiceAsRich$Priest" "TwiceAsRich$Priest" "shownOf" "(I)I", Cond.superclass RX0 RX6, Cond.instanceMethod yX6_shownOf, Cond.initialized RX6, Cond.code yX6_shownOf cX6_shownOf 2 (some .int), Cond.methodLink RX6 7 yX3_shownOf, Cond.superclass RX6 RX3, Cond.instanceMethod yX3_shownOf, Cond.code yX3_shownOf cX3_shownOf 2 (some .int), Cond.selects RX1 ⟨"TwiceAsRich$House", "shownOf", "(I)I"⟩ yX3_shownOf, Cond.selects RX2 ⟨"TwiceAsRich$House", "shownOf", "(I)I"⟩ yX3_shownOf, Cond.methodLink RX7 40 yX3_shownOf, Cond.selects RX3 yX3_shownOf yX3_shownOf, Cond.selects RX4 ⟨"TwiceAsRich$House", "shownOf", "(I)I"⟩ yX4_shownOf, Cond.instanceMethod yX4_shownOf, Cond.initialized RX4, Cond.code yX4_shownOf cX4_shownOf 2 (some .int), Cond.selects RX6 ⟨"TwiceAsRich$House", "shownOf", "(I)I"⟩ yX6_shownOf, Cond.selects RX9 ⟨"TwiceAsRich$House", "shownOf", "(I)I"⟩ yX3_shownOf]
def wsX7_holdersOf_r4 : List Cond := [Cond.selects RX10 ⟨"TwiceAsRich$House", "shownOf", "(I)I"⟩ yX3_shownOf, Cond.methodLink RX7 44 ⟨"TwiceAsRich$House", "allowedBy", "(I)I"⟩, Cond.sameMethod "TwiceAsRich$House" "TwiceAsRich$House" "allowedBy" "(I)I", Cond.selects RX0 ⟨"TwiceAsRich$House", "allowedBy", "(I)I"⟩ yX3_allowedBy, Cond.instanceMethod yX3_allowedBy, Cond.code yX3_allowedBy cX3_allowedBy 2 (some .int), Cond.instanceMethod ⟨"TwiceAsRich$House", "allowedBy", "(I)I"⟩, Cond.selects RX1 ⟨"TwiceAsRich$House", "allowedBy", "(I)I"⟩ yX10_allowedBy, Cond.instanceMethod yX10_allowedBy, Cond.code yX10_allowedBy cX10_allowedBy 2 (some .int), Cond.selects RX2 ⟨"TwiceAsRich$House", "allowedBy", "(I)I"⟩ yX2_allowedBy, Cond.instanceMethod yX2_allowedBy, Cond.initialized RX2, Cond.code yX2_allowedBy cX2_allowedBy 2 (some .int), Cond.fieldLink RX2 11 "TwiceAsRich$Heir" "figure" "I", Cond.sameField "TwiceAsRich$Heir" "TwiceAsRich$House" "figure" "I", Cond.methodLink RX2 7 yX3_allowedBy, Cond.superclass RX2 RX3, Cond.methodLink RX7 44 yX3_allowedBy, Cond.selects RX3 yX3_allowedBy yX3_allowedBy, Cond.selects RX4 ⟨"TwiceAsRich$House", "allowedBy", "(I)I"⟩ yX4_allowedBy, Cond.instanceMethod yX4_allowedBy, Cond.code yX4_allowedBy cX4_allowedBy 2 (some .int), Cond.methodLink RX4 14 Lib.Math.max.name]
def wsX7_holdersOf_r5 : List Cond := [Cond.static Lib.Math.max.name, Cond.initialized "java/lang/Math", Cond.code Lib.Math.max.name Lib.Math.max.code 2 (some .int), Cond.methodLink RX4 11 yX2_allowedBy, Cond.sameMethod "TwiceAsRich$Heir" "TwiceAsRich$Heir" "allowedBy" "(I)I", Cond.superclass RX4 RX2, Cond.selects RX6 ⟨"TwiceAsRich$House", "allowedBy", "(I)I"⟩ yX3_allowedBy, Cond.selects RX9 ⟨"TwiceAsRich$House", "allowedBy", "(I)I"⟩ yX9_allowedBy, Cond.instanceMethod yX9_allowedBy, Cond.initialized RX9, Cond.code yX9_allowedBy cX9_allowedBy 2 (some .int), Cond.methodLink RX9 7 yX2_allowedBy, Cond.superclass RX9 RX2, Cond.selects RX10 ⟨"TwiceAsRich$House", "allowedBy", "(I)I"⟩ yX10_allowedBy]
def wsX7_holdersOf : List Cond := .code yX7_holdersOf cX7_holdersOf 5 (some .int) :: ((wsX7_holdersOf_r1 ++ (wsX7_holdersOf_r2 ++ (wsX7_holdersOf_r3 ++ (wsX7_holdersOf_r4 ++ wsX7_holdersOf_r5)))) ++ wsX70 ++ wsX00 ++ wsX10 ++ wsX20 ++ wsX30 ++ wsX40 ++ wsX60 ++ wsX90 ++ wsX100)
def wsX7_allCoins : List Cond := .code yX7_allCoins cX7_allCoins 3 (some .int) :: ([.fieldLink RX7 21 "TwiceAsRich$Street" "count" "I", .fieldLink RX7 17 "TwiceAsRich$Street" "purses" "[I"] ++ wsX70)
def wsX9_weekly : List Cond := .code yX9_weekly cX9_weekly 1 (some .int) :: ([.methodLink RX9 11 yX2_weekly, .sameMethod "TwiceAsRich$Heir" "TwiceAsRich$Heir" "weekly" "()I", .superclass RX9 RX2, .instanceMethod yX2_weekly, .initialized RX2, .code yX2_weekly cX2_weekly 1 (some .int), .fieldLink RX2 11 "TwiceAsRich$Heir" "figure" "I", .sameField "TwiceAsRich$Heir" "TwiceAsRich$House" "figure" "I", .methodLink RX2 17 yX3_weekly, .sameMethod "TwiceAsRich$House" "TwiceAsRich$House" "weekly" "()I", .superclass RX2 RX3, .instanceMethod yX3_weekly, .initialized RX3, .code yX3_weekly cX3_weekly 1 (some .int)] ++ wsX00 ++ wsX10 ++ wsX20 ++ wsX30 ++ wsX40 ++ wsX60 ++ wsX90 ++ wsX100)
def wsX7_earn_r1 : List Cond := [Cond.fieldLink RX7 21 "TwiceAsRich$Street" "count" "I", Cond.fieldLink RX7 17 "TwiceAsRich$Street" "purses" "[I", Cond.fieldLink RX7 11 "TwiceAsRich$Street" "houses" "[LTwiceAsRich$House;", Cond.methodLink RX7 57 Lib.Math.min.name, Cond.static Lib.Math.min.name, Cond.initialized "java/lang/Math", Cond.code Lib.Math.min.name Lib.Math.min.code 2 (some .int), Cond.methodLink RX7 65 ⟨"TwiceAsRich$House", "weekly", "()I"⟩, Cond.sameMethod "TwiceAsRich$House" "TwiceAsRich$House" "weekly" "()I", Cond.instanceMethod ⟨"TwiceAsRich$House", "weekly", "()I"⟩, Cond.selects RX0 ⟨"TwiceAsRich$House", "weekly", "()I"⟩ yX0_weekly, Cond.instanceMethod yX0_weekly, Cond.initialized RX0, Cond.code yX0_weekly cX0_weekly 1 (some .int), Cond.methodLink RX0 17 yX6_weekly, Cond.sameMethod "TwiceAsRich$Priest" "TwiceAsRich$Priest" "weekly" "()I", Cond.superclass RX0 RX6, Cond.instanceMethod yX6_weekly, Cond.initialized RX6, Cond.code yX6_weekly cX6_weekly 1 (some .int), Cond.methodLink RX6 11 yX3_weekly, Cond.superclass RX6 RX3, Cond.instanceMethod yX3_weekly, Cond.initialized RX3]
def wsX7_earn_r2 : List Cond := [Cond.code yX3_weekly cX3_weekly 1 (some .int), Cond.selects RX1 ⟨"TwiceAsRich$House", "weekly", "()I"⟩ yX1_weekly, Cond.instanceMethod yX1_weekly, Cond.initialized RX1, Cond.code yX1_weekly cX1_weekly 1 (some .int), Cond.fieldLink RX1 11 "TwiceAsRich$Blind" "figure" "I", Cond.sameField "TwiceAsRich$Blind" "TwiceAsRich$House" "figure" "I", Cond.methodLink RX1 7 yX10_weekly, Cond.sameMethod "TwiceAsRich$Wall" "TwiceAsRich$Wall" "weekly" "()I", Cond.superclass RX1 RX10, Cond.instanceMethod yX10_weekly, Cond.initialized RX10, Cond.code yX10_weekly cX10_weekly 1 (some .int), Cond.selects RX2 ⟨"TwiceAsRich$House", "weekly", "()I"⟩ yX2_weekly, Cond.instanceMethod yX2_weekly, Cond.initialized RX2, Cond.code yX2_weekly cX2_weekly 1 (some .int), Cond.fieldLink RX2 11 "TwiceAsRich$Heir" "figure" "I", Cond.sameField "TwiceAsRich$Heir" "TwiceAsRich$House" "figure" "I", Cond.methodLink RX2 17 yX3_weekly, Cond.superclass RX2 RX3, Cond.methodLink RX7 65 yX3_weekly, Cond.selects RX3 yX3_weekly yX3_weekly, Cond.selects RX4 ⟨"TwiceAsRich$House", "weekly", "()I"⟩ yX4_weekly]
def wsX7_earn_r3 : List Cond := [Cond.instanceMethod yX4_weekly, Cond.initialized RX4, Cond.code yX4_weekly cX4_weekly 1 (some .int), Cond.methodLink RX4 20 yX2_weekly, Cond.sameMethod "TwiceAsRich$Heir" "TwiceAsRich$Heir" "weekly" "()I", Cond.superclass RX4 RX2, Cond.selects RX6 ⟨"TwiceAsRich$House", "weekly", "()I"⟩ yX6_weekly, Cond.selects RX9 ⟨"TwiceAsRich$House", "weekly", "()I"⟩ yX9_weekly, Cond.instanceMethod yX9_weekly, Cond.initialized RX9, Cond.code yX9_weekly cX9_weekly 1 (some .int), Cond.methodLink RX9 11 yX2_weekly, Cond.superclass RX9 RX2, Cond.selects RX10 ⟨"TwiceAsRich$House", "weekly", "()I"⟩ yX10_weekly]
def wsX7_earn : List Cond := .code yX7_earn cX7_earn 3 none :: ((wsX7_earn_r1 ++ (wsX7_earn_r2 ++ wsX7_earn_r3)) ++ wsX70 ++ wsX00 ++ wsX10 ++ wsX20 ++ wsX30 ++ wsX40 ++ wsX60 ++ wsX90 ++ wsX100)
def wsX7_gift : List Cond := .code yX7_gift cX7_gift 4 (some .int) :: ([.fieldLink RX7 17 "TwiceAsRich$Street" "purses" "[I", .methodLink RX7 69 yX7_hasTwo, .instanceMethod yX7_hasTwo, .selects RX7 yX7_hasTwo yX7_hasTwo, .initialized RX7, .code yX7_hasTwo cX7_hasTwo 3 (some .boolean), .methodLink RX7 28 yX7_has, .instanceMethod yX7_has, .selects RX7 yX7_has yX7_has, .code yX7_has cX7_has 2 (some .boolean), .fieldLink RX7 21 "TwiceAsRich$Street" "count" "I"] ++ wsX70)
def wsX7_steal : List Cond := .code yX7_steal cX7_steal 3 none :: ([.fieldLink RX7 17 "TwiceAsRich$Street" "purses" "[I"] ++ wsX70)
def wsX7_exchange : List Cond := .code yX7_exchange cX7_exchange 5 none :: ([.fieldLink RX7 11 "TwiceAsRich$Street" "houses" "[LTwiceAsRich$House;", .fieldLink RX7 17 "TwiceAsRich$Street" "purses" "[I"] ++ wsX70)
def wsX7_insert : List Cond := .code yX7_insert cX7_insert 5 none :: ([.fieldLink RX7 21 "TwiceAsRich$Street" "count" "I", .fieldLink RX7 11 "TwiceAsRich$Street" "houses" "[LTwiceAsRich$House;", .fieldLink RX7 17 "TwiceAsRich$Street" "purses" "[I"] ++ wsX70)
def wsX7_remove : List Cond := .code yX7_remove cX7_remove 3 none :: ([.fieldLink RX7 21 "TwiceAsRich$Street" "count" "I", .fieldLink RX7 11 "TwiceAsRich$Street" "houses" "[LTwiceAsRich$House;", .fieldLink RX7 17 "TwiceAsRich$Street" "purses" "[I", .methodLink RX7 28 yX7_has, .instanceMethod yX7_has, .selects RX7 yX7_has yX7_has, .initialized RX7, .code yX7_has cX7_has 2 (some .boolean)] ++ wsX70)
def wsX8_init : List Cond := .code yX8_init cX8_init 1 none :: ([.methodLink RX8 3 objectInit, .instanceMethod objectInit, .code objectInit ⟨#[0xb1]⟩ 1 none, .arrayClass .int, .fieldLink RX8 9 "TwiceAsRich$StreetText" "bytes" "[I"] ++ wsX80)
def wsX8_open : List Cond := .code yX8_open cX8_open 3 none :: ([.fieldLink RX8 9 "TwiceAsRich$StreetText" "bytes" "[I", .methodLink RX8 15 Lib.Math.min.name, .static Lib.Math.min.name, .initialized "java/lang/Math", .code Lib.Math.min.name Lib.Math.min.code 2 (some .int), .fieldLink RX8 21 "TwiceAsRich$StreetText" "size" "I", .fieldLink RX8 25 "TwiceAsRich$StreetText" "done" "I"] ++ wsX80)
def wsX8_statements : List Cond := .code yX8_statements cX8_statements 1 (some .int) :: ([.fieldLink RX8 25 "TwiceAsRich$StreetText" "done" "I"] ++ wsX80)
def wsX8_byteAt : List Cond := .code yX8_byteAt cX8_byteAt 2 (some .int) :: ([.fieldLink RX8 21 "TwiceAsRich$StreetText" "size" "I", .fieldLink RX8 9 "TwiceAsRich$StreetText" "bytes" "[I"] ++ wsX80)
def wsX8_isLetter : List Cond := .code yX8_isLetter cX8_isLetter 1 (some .boolean) :: ([])
def wsX8_hasNumber : List Cond := .code yX8_hasNumber cX8_hasNumber 1 (some .boolean) :: ([])
def wsX8_singleDigits : List Cond := .code yX8_singleDigits cX8_singleDigits 1 (some .int) :: ([])
def wsX8_isDigit : List Cond := .code yX8_isDigit cX8_isDigit 1 (some .boolean) :: ([])
def wsX8_endOf : List Cond := .code yX8_endOf cX8_endOf 5 (some .int) :: ([.methodLink RX8 32 yX8_byteAt, .instanceMethod yX8_byteAt, .selects RX8 yX8_byteAt yX8_byteAt, .initialized RX8, .code yX8_byteAt cX8_byteAt 2 (some .int), .fieldLink RX8 21 "TwiceAsRich$StreetText" "size" "I", .fieldLink RX8 9 "TwiceAsRich$StreetText" "bytes" "[I", .methodLink RX8 42 yX8_isLetter, .static yX8_isLetter, .code yX8_isLetter cX8_isLetter 1 (some .boolean), .methodLink RX8 46 yX8_hasNumber, .static yX8_hasNumber, .code yX8_hasNumber cX8_hasNumber 1 (some .boolean), .methodLink RX8 49 yX8_singleDigits, .static yX8_singleDigits, .code yX8_singleDigits cX8_singleDigits 1 (some .int), .methodLink RX8 52 yX8_isDigit, .static yX8_isDigit, .code yX8_isDigit cX8_isDigit 1 (some .boolean)] ++ wsX80)
def wsX8_fewestDigits : List Cond := .code yX8_fewestDigits cX8_fewestDigits 1 (some .int) :: ([.methodLink RX8 46 yX8_hasNumber, .static yX8_hasNumber, .initialized RX8, .code yX8_hasNumber cX8_hasNumber 1 (some .boolean), .methodLink RX8 49 yX8_singleDigits, .static yX8_singleDigits, .code yX8_singleDigits cX8_singleDigits 1 (some .int)])
def wsX8_brokenPlace_r1 : List Cond := [Cond.fieldLink RX8 21 "TwiceAsRich$StreetText" "size" "I", Cond.methodLink RX8 28 yX8_endOf, Cond.instanceMethod yX8_endOf, Cond.selects RX8 yX8_endOf yX8_endOf, Cond.initialized RX8, Cond.code yX8_endOf cX8_endOf 5 (some .int), Cond.methodLink RX8 32 yX8_byteAt, Cond.instanceMethod yX8_byteAt, Cond.selects RX8 yX8_byteAt yX8_byteAt, Cond.code yX8_byteAt cX8_byteAt 2 (some .int), Cond.fieldLink RX8 9 "TwiceAsRich$StreetText" "bytes" "[I", Cond.methodLink RX8 42 yX8_isLetter, Cond.static yX8_isLetter, Cond.code yX8_isLetter cX8_isLetter 1 (some .boolean), Cond.methodLink RX8 46 yX8_hasNumber, Cond.static yX8_hasNumber, Cond.code yX8_hasNumber cX8_hasNumber 1 (some .boolean), Cond.methodLink RX8 49 yX8_singleDigits, Cond.static yX8_singleDigits, Cond.code yX8_singleDigits cX8_singleDigits 1 (some .int), Cond.methodLink RX8 52 yX8_isDigit, Cond.static yX8_isDigit, Cond.code yX8_isDigit cX8_isDigit 1 (some .boolean), Cond.methodLink RX8 35 yX8_fewestDigits]
def wsX8_brokenPlace_r2 : List Cond := [Cond.static yX8_fewestDigits, Cond.code yX8_fewestDigits cX8_fewestDigits 1 (some .int)]
def wsX8_brokenPlace : List Cond := .code yX8_brokenPlace cX8_brokenPlace 4 (some .int) :: ((wsX8_brokenPlace_r1 ++ wsX8_brokenPlace_r2) ++ wsX80)
def wsX8_digitAt : List Cond := .code yX8_digitAt cX8_digitAt 2 (some .int) :: ([.methodLink RX8 32 yX8_byteAt, .instanceMethod yX8_byteAt, .selects RX8 yX8_byteAt yX8_byteAt, .initialized RX8, .code yX8_byteAt cX8_byteAt 2 (some .int), .fieldLink RX8 21 "TwiceAsRich$StreetText" "size" "I", .fieldLink RX8 9 "TwiceAsRich$StreetText" "bytes" "[I"] ++ wsX80)
def wsX8_numberAt : List Cond := .code yX8_numberAt cX8_numberAt 4 (some .int) :: ([.methodLink RX8 32 yX8_byteAt, .instanceMethod yX8_byteAt, .selects RX8 yX8_byteAt yX8_byteAt, .initialized RX8, .code yX8_byteAt cX8_byteAt 2 (some .int), .fieldLink RX8 21 "TwiceAsRich$StreetText" "size" "I", .fieldLink RX8 9 "TwiceAsRich$StreetText" "bytes" "[I", .methodLink RX8 52 yX8_isDigit, .static yX8_isDigit, .code yX8_isDigit cX8_isDigit 1 (some .boolean), .methodLink RX8 55 yX8_digitAt, .instanceMethod yX8_digitAt, .selects RX8 yX8_digitAt yX8_digitAt, .code yX8_digitAt cX8_digitAt 2 (some .int)] ++ wsX80)
def wsX11_isHouse : List Cond := .code yX11_isHouse cX11_isHouse 2 (some .boolean) :: ([])
def wsX9_init : List Cond := .code yX9_init cX9_init 2 none :: ([.methodLink RX9 1 yX2_init, .instanceMethod yX2_init, .initialized RX2, .code yX2_init cX2_init 2 none, .methodLink RX2 1 yX3_init, .instanceMethod yX3_init, .initialized RX3, .code yX3_init cX3_init 2 none, .methodLink RX3 1 objectInit, .instanceMethod objectInit, .code objectInit ⟨#[0xb1]⟩ 1 none, .fieldLink RX3 7 "TwiceAsRich$House" "figure" "I"] ++ wsX00 ++ wsX10 ++ wsX20 ++ wsX30 ++ wsX40 ++ wsX60 ++ wsX90 ++ wsX100)
def wsX11_houseOfKind_r1 : List Cond := [Cond.classLink RX11 285 RX2, Cond.instantiable RX2 1, Cond.initialized RX2, Cond.classLink RX11 288 RX6, Cond.instantiable RX6 1, Cond.initialized RX6, Cond.classLink RX11 291 RX10, Cond.instantiable RX10 1, Cond.initialized RX10, Cond.classLink RX11 294 RX4, Cond.instantiable RX4 1, Cond.initialized RX4, Cond.classLink RX11 297 RX0, Cond.instantiable RX0 1, Cond.initialized RX0, Cond.classLink RX11 300 RX9, Cond.instantiable RX9 1, Cond.initialized RX9, Cond.classLink RX11 303 RX1, Cond.instantiable RX1 1, Cond.initialized RX1, Cond.classLink RX11 22 RX3, Cond.instantiable RX3 1, Cond.initialized RX3]
def wsX11_houseOfKind_r2 : List Cond := [Cond.methodLink RX11 287 yX2_init, Cond.instanceMethod yX2_init, Cond.code yX2_init cX2_init 2 none, Cond.methodLink RX2 1 yX3_init, Cond.instanceMethod yX3_init, Cond.code yX3_init cX3_init 2 none, Cond.methodLink RX3 1 objectInit, Cond.instanceMethod objectInit, Cond.code objectInit ⟨#[0xb1]⟩ 1 none, Cond.fieldLink RX3 7 "TwiceAsRich$House" "figure" "I", Cond.methodLink RX11 290 yX6_init, Cond.instanceMethod yX6_init, Cond.code yX6_init cX6_init 2 none, Cond.methodLink RX6 1 yX3_init, Cond.methodLink RX11 293 yX10_init, Cond.instanceMethod yX10_init, Cond.code yX10_init cX10_init 2 none, Cond.methodLink RX10 3 yX3_init, Cond.methodLink RX11 296 yX4_init, Cond.instanceMethod yX4_init, Cond.code yX4_init cX4_init 2 none, Cond.methodLink RX4 1 yX2_init, Cond.methodLink RX11 299 yX0_init, Cond.instanceMethod yX0_init]
def wsX11_houseOfKind_r3 : List Cond := [Cond.code yX0_init cX0_init 2 none, Cond.methodLink RX0 1 yX6_init, Cond.methodLink RX11 302 yX9_init, Cond.instanceMethod yX9_init, Cond.code yX9_init cX9_init 2 none, Cond.methodLink RX9 1 yX2_init, Cond.methodLink RX11 305 yX1_init, Cond.instanceMethod yX1_init, Cond.code yX1_init cX1_init 2 none, Cond.methodLink RX1 1 yX10_init, Cond.methodLink RX11 24 yX3_init]
def wsX11_houseOfKind : List Cond := .code yX11_houseOfKind cX11_houseOfKind 2 (some (.object "TwiceAsRich$House")) :: ((wsX11_houseOfKind_r1 ++ (wsX11_houseOfKind_r2 ++ wsX11_houseOfKind_r3)) ++ wsX20 ++ wsX60 ++ wsX100 ++ wsX40 ++ wsX00 ++ wsX90 ++ wsX10 ++ wsX30)
def wsX8_comesAsTold_r1 : List Cond := [Cond.fieldLink RX8 87 "TwiceAsRich$Street" "count" "I", Cond.static yX11_isHouse, Cond.initialized RX11, Cond.code yX11_isHouse cX11_isHouse 2 (some .boolean), Cond.static yX11_houseOfKind, Cond.code yX11_houseOfKind cX11_houseOfKind 2 (some (.object "TwiceAsRich$House")), Cond.classLink RX11 285 RX2, Cond.instantiable RX2 1, Cond.initialized RX2, Cond.classLink RX11 288 RX6, Cond.instantiable RX6 1, Cond.initialized RX6, Cond.classLink RX11 291 RX10, Cond.instantiable RX10 1, Cond.initialized RX10, Cond.classLink RX11 294 RX4, Cond.instantiable RX4 1, Cond.initialized RX4, Cond.classLink RX11 297 RX0, Cond.instantiable RX0 1, Cond.initialized RX0, Cond.classLink RX11 300 RX9, Cond.instantiable RX9 1, Cond.initialized RX9]
def wsX8_comesAsTold_r2 : List Cond := [Cond.classLink RX11 303 RX1, Cond.instantiable RX1 1, Cond.initialized RX1, Cond.classLink RX11 22 RX3, Cond.instantiable RX3 1, Cond.initialized RX3, Cond.methodLink RX11 287 yX2_init, Cond.instanceMethod yX2_init, Cond.code yX2_init cX2_init 2 none, Cond.methodLink RX2 1 yX3_init, Cond.instanceMethod yX3_init, Cond.code yX3_init cX3_init 2 none, Cond.methodLink RX3 1 objectInit, Cond.instanceMethod objectInit, Cond.code objectInit ⟨#[0xb1]⟩ 1 none, Cond.fieldLink RX3 7 "TwiceAsRich$House" "figure" "I", Cond.methodLink RX11 290 yX6_init, Cond.instanceMethod yX6_init, Cond.code yX6_init cX6_init 2 none, Cond.methodLink RX6 1 yX3_init, Cond.methodLink RX11 293 yX10_init, Cond.instanceMethod yX10_init, Cond.code yX10_init cX10_init 2 none, Cond.methodLink RX10 3 yX3_init]
