/-- the printed rows speak of this word, which the kit doesn't hold: as the kit's own va_AO, over an array class -/
def va_AOA (ty : FieldType) (U : State) : Prop := (Cond.arrayOver (.array ty)).before #[] U = true
theorem va_AOA.of {ty : FieldType} {A : Array Value} {U : State} (h : (Cond.arrayOver (.array ty)).before A U = true) : va_AOA ty U := h
theorem va_AOA.use {ty : FieldType} {A : Array Value} {U : State} (h : va_AOA ty U) : (Cond.arrayOver (.array ty)).before A U = true := h
/-! ===== BEGIN words of one list among another's, by their places ===== -/
theorem goodIn_r {big : List Cond} (ws : List Cond) (ps : List Nat) (hp : ws = ps.filterMap (fun i => big[i]?)) (h : ws.all goodWord = true) : GoodIn big ws := by
  intro w hw
  have h1 := List.all_eq_true.mp h w hw
  rw [hp] at hw
  obtain ⟨i, -, hi⟩ := List.mem_filterMap.mp hw
  have hm : w ∈ big := by first | exact List.mem_of_getElem? hi | exact List.getElem?_mem hi
  exact ⟨hm, good_of_word h1⟩
theorem goodIn_app {big a b : List Cond} (ha : GoodIn big a) (hb : GoodIn big b) : GoodIn big (a ++ b) := fun w h => (List.mem_append.mp h).elim (ha w) (hb w)
theorem goodIn_ca {big a b : List Cond} {c : Cond} (ha : GoodIn big (c :: a)) (hb : GoodIn big b) : GoodIn big (c :: (a ++ b)) := fun w h => (List.mem_cons.mp h).elim (fun e => ha w (List.mem_cons.mpr (Or.inl e))) (fun h => (List.mem_append.mp h).elim (fun h => ha w (List.mem_cons.mpr (Or.inr h))) (hb w))
theorem goodIn_sub {big ws : List Cond} (hm : ∀ w ∈ ws, w ∈ big) (h : ws.all goodWord = true) : GoodIn big ws := fun w hw => ⟨hm w hw, good_of_word (List.all_eq_true.mp h w hw)⟩
/-! ===== END ===== -/

/-! ===== BEGIN new T[n][m]: the outer array a place, the inner ones among the pooled ===== -/
/-- f, but v at every address of l -/
def vr_up {α : Type} (f : Nat → α) (l : List Nat) (v : α) : Nat → α := fun a => if a ∈ l then v else f a
theorem vr_up_in {α : Type} {f : Nat → α} {l : List Nat} {v : α} {a : Nat} (h : a ∈ l) : vr_up f l v a = v := if_pos h
theorem vr_up_ne {α : Type} {f : Nat → α} {l : List Nat} {v : α} {a : Nat} (h : a ∉ l) : vr_up f l v a = f a := if_neg h
theorem vr_rows {L l : List Nat} {f : Nat → va_E} {e : va_E} (h : ∀ a, a ∈ l → a ∉ L) : va_pl L f ++ l.map (fun a => (a, e)) = va_pl (L ++ l) (vr_up f l e) := by
  unfold va_pl
  rw [List.map_append]
  congr 1
  · apply List.map_congr_left
    intro a ha
    rw [vr_up_ne (fun q => h a q ha)]
  · apply List.map_congr_left
    intro a ha
    rw [vr_up_in ha]
theorem vr_lay {X rows : va_W} {x : Nat × va_E} {pl : va_W} {D : va_G} {cl : List vw_C} {H : Heap} (hP : va_P D cl (((X ++ pl) ++ [x]) ++ rows) H) : va_P D cl ((X ++ [x]) ++ (pl ++ rows)) H := by
  rw [List.append_assoc (X ++ pl)] at hP
  have h := va_P.swap hP
  rw [← List.append_assoc X] at h
  have h2 := va_P.swap h
  rw [List.append_assoc (X ++ [x])] at h2
  exact h2
theorem vr_layD {X rows : va_W} {x : Nat × va_E} {pl : va_W} {A : Nat → Prop} (hD : va_D A (((X ++ pl) ++ [x]) ++ rows)) : va_D A ((X ++ [x]) ++ (pl ++ rows)) := by
  rw [List.append_assoc (X ++ pl)] at hD
  have h := va_D.swap hD
  rw [← List.append_assoc X] at h
  have h2 := va_D.swap h
  rw [List.append_assoc (X ++ [x])] at h2
  exact h2
theorem vr_outer (c : ClassId) (N h0 : Nat) : ∀ i : Nat, Jvm.Free.Multi.outerC c N h0 i = arrV c N (fun j => va_rf (if j < i then some (h0 + 1 + j) else none))
  | 0 => by
    show ({ cls := c, slots := Array.replicate N .null, vm := .none } : Cell) = _
    rw [arrV_new]
    refine congrArg (arrV c N) (funext fun j => ?_)
    simp [va_rf]
  | i + 1 => by
    show (Jvm.Free.Multi.outerC c N h0 i).setSlot i (.ref (h0 + 1 + i)) = _
    rw [vr_outer c N h0 i, arrV_store]
    refine congrArg (arrV c N) (funext fun j => ?_)
    by_cases e : j = i
    · subst e
      simp [updV, va_rf]
    · by_cases h : j < i
      · simp [updV, e, h, Nat.lt_succ_of_lt h]
      · simp [updV, e, h, show ¬ j < i + 1 by omega]
section VGM
variable {p : Program} {l : Launch} {e : Env} {R : Room} {s : State} {m : MethodId} {args : Array Value} {below : List Frame} {meth : Method} {c : Code} {H : Heap} {locs : List Loc} {cells slots : Nat} {Q : State → Prop}
variable {cc : ByteArray} {pc : Nat} {ls : Array Slot} {rest : List Value} {D : va_G} {cl : List vw_C} {A : Nat → Prop} {a : Nat} {tys : List (ClassId × FieldType)} {ws : va_W} {H0 : Heap}
theorem va_mna {X : va_W} {L : List Nat} {f : Nat → va_E} {cc : ByteArray} (hexec : p.tables.exec = Jvm.exec) (hb : c.code = cc) {own : String} {index : Nat} {ty : FieldType} {cy : ClassId} (hown : s.vm.findClass own = some m.cls) (hclink : (Cond.classLink own index ("[" ++ (FieldType.array ty).toString)).before args s = true) (hover : va_AOA ty s) (harr : (Cond.arrayClass ty).before args s = true) (hcy : s.vm.findClass (FieldType.array ty).toString = some cy)
    (hK : va_K D cl tys s) (hP : va_P D cl (X ++ va_pl L f) H) (hD : va_D A (X ++ va_pl L f)) (hS : va_S A H0 H locs) (hA : ∀ q, H0.size ≤ q → A q) {n k : Int32} {N' K' : Nat} {z : vp_A} (hn : ¬ n < 0) (hk : ¬ k < 0) (hN : n.toNatClampNeg = N') (hM : k.toNatClampNeg = K')
    (hb1 : N' * 4 ≤ 536870912) (hb2 : K' * componentBytes ty ≤ 536870912) (hb3 : K' ≤ 536870912) (hdf : fits ty (defaultValue ty) = true) (hdd : (defaultValue ty).isDefault = true) (hcells : cells + (1 + N') ≤ R.cells) (hslots : slots + (N' + N' * K') ≤ R.slots) (hz : ∀ c : ClassId, Jvm.Free.Multi.innerC c K' (defaultValue ty) = vp_cell c z) (hdg : decode cc pc = .ok (.multianewarray index 2, 4))
    (kk : ∀ (q : Nat) (r : Nat → Nat) (cA : ClassId) (H1 : Heap), (∀ i j : Nat, i < N' → j < N' → r i = r j → i = j) → (∀ i : Nat, i < N' → r i ∉ L) → va_K D cl (tys ++ [(cA, .array ty)]) s →
      va_P D cl ((X ++ [(q, .inl (cA, N', .inr (.inr (.inr (.inr (fun i => if i < N' then some (r i) else none))))))]) ++ va_pl (L ++ (List.range N').map r) (vr_up f ((List.range N').map r) (.inl (cy, z)))) H1 → va_D A ((X ++ [(q, .inl (cA, N', .inr (.inr (.inr (.inr (fun i => if i < N' then some (r i) else none))))))]) ++ va_pl (L ++ (List.range N').map r) (vr_up f ((List.range N').map r) (.inl (cy, z)))) → va_S A H0 H1 locs →
      W p l e R s m args below meth c H1 locs (cells + 1 + N') (slots + N' + N' * K') Q (F0 m (pc + 4) ls (.ref q :: rest))) : W p l e R s m args below meth c H locs cells slots Q (F0 m pc ls (.int k :: .int n :: rest)) := by
  subst hN
  subst hM
  intro T hT Xs
  obtain ⟨vm₁, cA, comp, -, fA, fC, hO, -, X', step⟩ := Xs.multianewarray2F hexec hown hclink (va_AOA.use hover) harr (g := F0 m pc ls (.int k :: .int n :: rest)) rfl (by rw [hb]; exact hdg) rfl hn hk hb1 hb2 hb3 hdf hdd hcells hslots
  have ec : some cy = some comp := hcy.symm.trans fC
  cases ec
  generalize hF : Jvm.Free.Multi.fill (T.setVm vm₁) cA cy n.toNatClampNeg k.toNatClampNeg (defaultValue ty) n.toNatClampNeg = F at X' step
  have hTh : (T.setVm vm₁).heap = H := hT
  obtain ⟨f1, f2, -, -⟩ := Jvm.Free.Multi.fill_facts (T.setVm vm₁) cA cy n.toNatClampNeg k.toNatClampNeg (defaultValue ty) n.toNatClampNeg
  rw [hF, hTh] at f1 f2
  have hold : ∀ x : Nat, x < H.size → F.heap[x]? = H[x]? := fun x hx => by
    have := Jvm.Free.Multi.fill_old (T.setVm vm₁) cA cy n.toNatClampNeg k.toNatClampNeg (defaultValue ty) (a := x) (by rw [hTh]; exact hx) n.toNatClampNeg
    rw [hF, hTh] at this
    exact this
  have hrow : ∀ j : Nat, j < n.toNatClampNeg → F.heap[H.size + 1 + j]? = some (vp_cell cy z) := fun j hj => by
    have := Jvm.Free.Multi.fill_inner (T.setVm vm₁) cA cy n.toNatClampNeg k.toNatClampNeg (defaultValue ty) n.toNatClampNeg j hj
    rw [hF, hTh, hz] at this
    exact this
  have hout : Jvm.Free.Multi.outerC cA n.toNatClampNeg H.size n.toNatClampNeg = vp_cell cA (n.toNatClampNeg, .inr (.inr (.inr (.inr (fun i => if i < n.toNatClampNeg then some (H.size + 1 + i) else none))))) := by
    rw [vp_cell_q]
    exact vr_outer cA n.toNatClampNeg H.size n.toNatClampNeg
  rw [hout] at f2
  have hlt : ∀ a, a ∈ L → a < H.size := fun a ha => by
    obtain ⟨k9, hk9⟩ := va_pl_get (X := X) (f := f) ha
    exact (hP k9 _ hk9).lt
  have hnl : ∀ i : Nat, i < n.toNatClampNeg → H.size + 1 + i ∉ L := fun i _ h => by
    have := hlt _ h
    omega
  have hnm : ∀ a, a ∈ (List.range n.toNatClampNeg).map (fun i => H.size + 1 + i) → a ∉ L := fun a ha h => by
    obtain ⟨i, -, rfl⟩ := List.mem_map.mp ha
    have := hlt _ h
    omega
  have hP0 : va_P D cl (X ++ va_pl L f) F.heap := hP.kept (fun k9 x hx => hold x.1 ((hP k9 x hx).lt))
  have hP1 : va_P D cl ((X ++ va_pl L f) ++ [(H.size, .inl (cA, n.toNatClampNeg, .inr (.inr (.inr (.inr (fun i => if i < n.toNatClampNeg then some (H.size + 1 + i) else none))))))]) F.heap := hP0.app (fun k9 x hx => by
    have h0 : k9 < 1 := (List.getElem?_eq_some_iff.mp hx).1
    rw [show k9 = 0 by omega] at hx
    cases hx
    exact f2)
  have hP2 : va_P D cl (((X ++ va_pl L f) ++ [(H.size, .inl (cA, n.toNatClampNeg, .inr (.inr (.inr (.inr (fun i => if i < n.toNatClampNeg then some (H.size + 1 + i) else none))))))]) ++ ((List.range n.toNatClampNeg).map (fun i => H.size + 1 + i)).map (fun a => (a, .inl (cy, z)))) F.heap := hP1.app (fun k9 x hx => by
    obtain ⟨a, ha, rfl⟩ := List.mem_map.mp (List.mem_of_getElem? hx)
    obtain ⟨i, hi, rfl⟩ := List.mem_map.mp ha
    exact hrow i (List.mem_range.mp hi))
  have hD2 : va_D A (((X ++ va_pl L f) ++ [(H.size, .inl (cA, n.toNatClampNeg, .inr (.inr (.inr (.inr (fun i => if i < n.toNatClampNeg then some (H.size + 1 + i) else none))))))]) ++ ((List.range n.toNatClampNeg).map (fun i => H.size + 1 + i)).map (fun a => (a, .inl (cy, z)))) := by
    have hD1 := hD.push (e := .inl (cA, n.toNatClampNeg, .inr (.inr (.inr (.inr (fun i => if i < n.toNatClampNeg then some (H.size + 1 + i) else none)))))) hP rfl (hA _ hS.1)
    generalize hW1 : (X ++ va_pl L f) ++ [(H.size, .inl (cA, n.toNatClampNeg, .inr (.inr (.inr (.inr (fun i => if i < n.toNatClampNeg then some (H.size + 1 + i) else none))))))] = W1 at hD1 hP1 ⊢
    have hle : ∀ (k9 : Nat) (x : Nat × va_E), W1[k9]? = some x → x.1 ≤ H.size := fun k9 x hx => by
      rw [← hW1] at hx
      by_cases hl : k9 < (X ++ va_pl L f).length
      · rw [List.getElem?_append_left hl] at hx
        exact Nat.le_of_lt ((hP k9 x hx).lt)
      · rw [List.getElem?_append_right (by omega)] at hx
        have h0 : k9 - (X ++ va_pl L f).length < 1 := (List.getElem?_eq_some_iff.mp hx).1
        rw [show k9 - (X ++ va_pl L f).length = 0 by omega] at hx
        cases hx
        exact Nat.le_refl _
    have hr : ∀ (k9 : Nat) (x : Nat × va_E), (((List.range n.toNatClampNeg).map (fun i => H.size + 1 + i)).map (fun a => ((a, .inl (cy, z)) : Nat × va_E)))[k9]? = some x → x.1 = H.size + 1 + k9 := fun k9 x hx => by
      rw [List.getElem?_map, List.getElem?_map] at hx
      by_cases h9 : k9 < n.toNatClampNeg
      · rw [List.getElem?_range h9] at hx
        cases hx
        rfl
      · have hn0 : (List.range n.toNatClampNeg)[k9]? = none := List.getElem?_eq_none (by rw [List.length_range]; omega)
        rw [hn0] at hx
        cases hx
    refine ⟨fun i j x y hi hj hxy => ?_, fun k9 x hx => ?_⟩
    · by_cases h1 : i < W1.length <;> by_cases h2 : j < W1.length
      · rw [List.getElem?_append_left h1] at hi
        rw [List.getElem?_append_left h2] at hj
        exact hD1.1 i j x y hi hj hxy
      · rw [List.getElem?_append_left h1] at hi
        rw [List.getElem?_append_right (by omega)] at hj
        have := hle _ _ hi
        have := hr _ _ hj
        omega
      · rw [List.getElem?_append_right (by omega)] at hi
        rw [List.getElem?_append_left h2] at hj
        have := hle _ _ hj
        have := hr _ _ hi
        omega
      · rw [List.getElem?_append_right (by omega)] at hi hj
        have := hr _ _ hi
        have := hr _ _ hj
        omega
    · by_cases h1 : k9 < W1.length
      · rw [List.getElem?_append_left h1] at hx
        exact hD1.2 k9 x hx
      · rw [List.getElem?_append_right (by omega)] at hx
        have := hr _ _ hx
        exact hA _ (by have := hS.1; omega)
  have hAr : ArrOfT s cA (.array ty) := fun N9 z9 => by
    obtain ⟨-, k9, hk9, cm9, hkk9⟩ := (hO 0 0 0).1
    exact ⟨(fun q hq => by cases hq), k9, hk9, cm9, hkk9⟩
  have hK2 : va_K D cl (tys ++ [(cA, .array ty)]) s := ⟨hK.1, fun k9 x hx => by
    by_cases hl : k9 < tys.length
    · rw [List.getElem?_append_left hl] at hx
      exact hK.2 k9 x hx
    · rw [List.getElem?_append_right (by omega)] at hx
      have h0 : k9 - tys.length < 1 := (List.getElem?_eq_some_iff.mp hx).1
      rw [show k9 - tys.length = 0 by omega] at hx
      cases hx
      exact ⟨hAr, fA⟩⟩
  obtain ⟨t, a1, b1⟩ := kk H.size (fun i => H.size + 1 + i) cA F.heap (fun i j _ _ h => by have h9 : H.size + 1 + i = H.size + 1 + j := h; omega) hnl hK2 (by rw [← vr_rows hnm]; exact vr_lay hP2) (by rw [← vr_rows hnm]; exact vr_layD hD2) ⟨by rw [f1]; have := hS.1; omega, fun x h1 h2 => (hold x (Nat.lt_of_lt_of_le h1 hS.1)).trans (hS.2.1 x h1 h2), hS.2.2⟩ F rfl X'
  refine ⟨t, step t ?_, b1⟩
  have e : T.heap.size = H.size := by rw [hT]
  rw [e]
  exact a1
end VGM
/-! ===== END ===== -/

/-! ===== BEGIN exceptions that leave a method, and their catching by the caller (launches without stack traces) ===== -/
section VXA
/-! The laws vx_back, vx_callV, vx_callS, vx_callSW, vx_throw0, vx_throwS follow proofs of the library, with one case more: JvmDerived/Free/Laws.lean (Back.of_free), Shelf42/LK1.lean (callV, callS), Shelf/KitTraced.lean (throwNew0V, throwNewS). -/
/-- where a method has thrown q: the class by its name, the cell, what was written, the world -/
def vx_T (XC : String → State → State → Prop) (st : State) (q : Addr) (t : State) (mc ms : Nat) (free : Addr → Prop) : Prop :=
  ∃ (E : String) (ce : Cell) (L : List Loc), XC E st t ∧ t.heap[q]? = some ce ∧ ce.vm = .none ∧ st.vm.findClass E = some ce.cls ∧ st.WarmedH t.vm ∧ st.sameButNew ({ t with vm := st.vm } : State) L mc ms ∧ ∀ z ∈ L, free z.base
def vx_Q (Qc : Array Value → State → Outcome → State → Prop) (XC : String → State → State → Prop) (mc ms : Nat) (free : Addr → Prop) : Array Value → State → Outcome → State → Prop := fun a st o t =>
  (Qc a st o t ∧ ∃ L, FrameEnd st o t L mc ms ∧ ∀ q ∈ L, free q.base) ∨ ∃ q, o = .threw q ∧ vx_T XC st q t mc ms free
/-- a callee that returns or throws -/
def vx_Met (l : Launch) (y : MethodName) (ws : List Cond) (rm : Room) (Pc : Array Value → State → Prop) (Qc : Array Value → State → Outcome → State → Prop) (XC : String → State → State → Prop) (mc ms : Nat) (free : Addr → Prop) : Prop :=
  MetFree l y (headSpec ws rm) Pc (fun _ _ _ _ _ => True) (vx_Q Qc XC mc ms free)
def vx_Post (XC : String → State → State → Prop) (mc ms : Nat) (free : Addr → Prop) : Pt → Array Value → Addr → Pt → Prop := fun A a q B =>
  ∃ (g : JFrame) (mk : MethodId) (t : State) (L : List Loc) (E : String) (ce : Cell), B.U.heap = t.heap ∧ B.U.vm = t.vm ∧ XC E (A.U.calling g mk a) t ∧ t.heap[q]? = some ce ∧ ce.vm = .none ∧ A.U.vm.findClass E = some ce.cls ∧ B.locs = A.locs ++ L ∧ (∀ z ∈ L, free z.base) ∧ B.cells = A.cells + mc ∧ B.slots = A.slots + ms
def vx_Back (l : Launch) (R : Room) (p : Program) (e : Env) (below : List Frame) (s : State) (sargs : Array Value) (y : MethodName) (len W9 : Nat)
    (Pre : Pt → Array Value → Prop) (Post : Pt → Array Value → Option Value → Pt → Prop) (PostX : Pt → Array Value → Addr → Pt → Prop) : Prop :=
  ∀ (m : MethodId) (meth : Method) (c : Code) (A : Pt) (g : JFrame) (ig : Instr) (mk : MethodId) (a : Array Value),
    Stand p l e R s m sargs below meth c A.U A.locs A.cells A.slots → g.method = m → g.locals.size = c.maxLocals → decode c.code g.pc = .ok (ig, len) →
    2 * g.monitorRoom + (g.stack.map fun v => v.category).sum ≤ W9 → A.U.methodNamed? y = some mk → Pre A a →
    (∃ (v : Option Value) (B : Pt), Stand p l e R s m sargs below meth c B.U B.locs B.cells B.slots ∧ Post A a v B ∧
      Steps p.tables e below (doInvoke e (A.U.setTop g) [] mk a).1 (B.U.setTop { g with pc := g.pc + len, stack := v.toList ++ g.stack })) ∨
    (∃ (q : Addr) (B : Pt), Stand p l e R s m sargs below meth c B.U B.locs B.cells B.slots ∧ PostX A a q B ∧
      Steps p.tables e below (doInvoke e (A.U.setTop g) [] mk a).1 ((B.U.setTop g).pushFrame (.throwing q)))
section Payer
variable {l : Launch} {R : Room} {p : Program} {e : Env} {below : List Frame} {s : State} {sargs : Array Value} {y : MethodName} {len W9 : Nat}
theorem vx_back {ws : List Cond} {rm : Room} {Pc : Array Value → State → Prop} {Qc : Array Value → State → Outcome → State → Prop} {XC : String → State → State → Prop} {mc ms : Nat} {free : Addr → Prop} {bytes : ByteArray} {maxL : Nat} {ret : Option FieldType}
    (hM : vx_Met l y ws rm Pc Qc XC mc ms free) (hblind : FrameBlind Pc) (hrc : rm.cells = mc) (hrs : rm.slots = ms)
    (hframes : rm.frames + 1 ≤ R.frames) (hlocals : W9 + (maxL + 11) + rm.locals ≤ R.locals)
    (hws : ∀ w ∈ ws, ∀ a' U, s.WarmedH U.vm → w.before a' U = true) (hcode : Cond.code y bytes maxL ret ∈ ws) (hinit : ∀ a' U, s.WarmedH U.vm → (Cond.initialized y.cls).before a' U = true) :
    vx_Back l R p e below s sargs y len W9 (PreOf R mc ms Pc) (PostOf Qc mc ms free) (vx_Post XC mc ms free) := by
  intro m meth c A g ig mk a X hg hsize hdg hW hn hp
  have h1 : (headSpec ws rm).pre.before a A.U = true := atoms_intro fun w hw => hws w hw _ _ X.warmed
  have h2 : (Cond.code y bytes maxL ret).before a A.U = true := hws _ hcode _ _ X.warmed
  have h3 : (Cond.initialized y.cls).before a A.U = true := hinit _ _ X.warmed
  have h4 : A.cells + (headSpec ws rm).room.cells ≤ R.cells := by rw [show (headSpec ws rm).room.cells = mc from hrc]; exact hp.1
  have h5 : A.slots + (headSpec ws rm).room.slots ≤ R.slots := by rw [show (headSpec ws rm).room.slots = ms from hrs]; exact hp.2.1
  have hPc : Pc a (A.U.calling g mk a) := hblind _ _ _ _ hp.2.2
  obtain ⟨U, Ls, c0, s0⟩ := A
  dsimp only [Pt.U, Pt.locs, Pt.cells, Pt.slots] at h1 h2 h3 h4 h5 X hn hPc ⊢
  obtain ⟨methY, cY, hmY, hcY, -, hlY, -, -, -, -⟩ := Cond.code_spec hn h2
  obtain ⟨kY, hkY, -⟩ := className_of_methodNamed hn
  have hinitY : kY.init = .initialized := Cond.initialized_spec (findClass_of_methodNamed hn) hkY h3
  have h : At U g.method c below := by rw [hg]; exact X.here
  have hlocals9 : W9 + (maxL + 11) + (headSpec ws rm).room.locals ≤ R.locals := hlocals
  have happ : (headSpec ws rm).appliesLoose y e.platform (U.calling g mk a) = true :=
    Spec.appliesLoose_calling (g := g) h hdg hn hkY hinitY
      (X.room_calling (g := g) (R' := (headSpec ws rm).room) hsize hmY hcY hframes (by rw [hlY]; omega) h4 h5) h1
  obtain ⟨mid, hmid⟩ := h.above
  have hfr : (U.setTop g).frames = (.java g :: mid) ++ below := by rw [State.frames_setTop' g h.top, hmid]; rfl
  obtain ⟨o, s₂, hsteps, -, hend, hq⟩ := Steps.callFree hM p X.admits X.cas X.clock (acts := []) hfr happ hPc trivial
  have hq' : vx_Q Qc XC mc ms free a (U.calling g mk a) o s₂ := hq
  rw [State.frames_setTop' g h.top] at hend
  obtain ⟨g₀, hg0⟩ := Option.isSome_iff_exists.mp h.top
  obtain ⟨r, hr⟩ := State.topJava?_eq_some.mp hg0
  have hr' : (({ U with heap := s₂.heap, slotsUsed := s₂.slotsUsed } : State).setVm s₂.vm).frames = .java g₀ :: r := hr
  rcases hq' with ⟨hqc, L, hfe, hL⟩ | ⟨q, rfl, E, ce, L, hx, hce, hcv, hcl, hW₂, hsm, hL⟩
  · obtain ⟨⟨v, rfl⟩, hW₂, e2, q2, q3, q4, q5, q6⟩ := id hfe
    have e3 : s₂ = ({ (U.calling g mk a).setFrames s₂.frames with heap := s₂.heap, slotsUsed := s₂.slotsUsed } : State).setVm s₂.vm := by
      have : s₂ = ({ s₂ with vm := (U.calling g mk a).vm } : State).setVm s₂.vm := rfl
      rw [e2] at this
      exact this
    obtain ⟨c₂, i₂, len₂, hc₂, hd₂, hf₂⟩ := hend
    have hW' : U.WarmedH s₂.vm := hW₂
    have hcc : c₂ = c := by
      have h1 : s₂.code? g.method = U.code? g.method := by
        rw [State.code?_eq, State.code?_eq, hW'.alike.method?]
      exact Option.some.inj (hc₂.symm.trans (h1.trans h.code))
    subst hcc
    have hlen : len₂ = len := by rw [hdg] at hd₂; cases hd₂; rfl
    subst hlen
    have hs₂ : s₂ = (({ U with heap := s₂.heap, slotsUsed := s₂.slotsUsed } : State).setVm s₂.vm).setTop { g with pc := g.pc + len₂, stack := v.toList ++ g.stack } := by
      refine e3.trans ?_
      rw [hf₂, State.calling_eq h.top, State.setFrames_setFrames, State.setTop_of_frames _ hr', hr]
      rfl
    have hsame : U.sameButNew ({ U with heap := s₂.heap, slotsUsed := s₂.slotsUsed } : State) L mc ms := by
      refine ⟨?_, q2, q3, q4, q5, q6⟩
      obtain ⟨t, ht, -⟩ := State.frames_cons hr
      show ({ U with heap := s₂.heap, slotsUsed := s₂.slotsUsed } : State) = { U.setFrames U.frames with heap := s₂.heap, slotsUsed := s₂.slotsUsed }
      rw [State.setFrames_self ht]
    subst hg
    refine Or.inl ⟨v, ⟨(({ U with heap := s₂.heap, slotsUsed := s₂.slotsUsed } : State).setVm s₂.vm), Ls ++ L, c0 + mc, s0 + ms⟩,
      ⟨X.admits, X.cas, X.clock, X.frames, X.room, X.hears, X.method, X.code, (X.here.setHeapUsed s₂.heap s₂.slotsUsed).setVm hW'.alike, X.tail, State.WarmedH.trans X.warmed hW', X.limits, X.bytes, X.same.trans (hsame.setVm s.vm)⟩,
      ⟨g, mk, s₂, L, rfl, rfl, hqc, rfl, hL, rfl, rfl⟩, ?_⟩
    show Steps p.tables e below _ ((({ U with heap := s₂.heap, slotsUsed := s₂.slotsUsed } : State).setVm s₂.vm).setTop { g with pc := g.pc + len₂, stack := v.toList ++ g.stack })
    rw [← hs₂]
    exact hsteps
  · obtain ⟨e2, q2, q3, q4, q5, q6⟩ := id hsm
    have e3 : s₂ = ({ (U.calling g mk a).setFrames s₂.frames with heap := s₂.heap, slotsUsed := s₂.slotsUsed } : State).setVm s₂.vm := by
      have : s₂ = ({ s₂ with vm := (U.calling g mk a).vm } : State).setVm s₂.vm := rfl
      rw [e2] at this
      exact this
    have hf₂ : s₂.frames = .throwing q :: .java g :: U.frames.tail := hend
    have hW' : U.WarmedH s₂.vm := hW₂
    have hs₂ : s₂ = ((({ U with heap := s₂.heap, slotsUsed := s₂.slotsUsed } : State).setVm s₂.vm).setTop g).pushFrame (.throwing q) := by
      refine e3.trans ?_
      rw [hf₂, State.calling_eq h.top, State.setFrames_setFrames, State.pushFrame, State.frames_setTop _ hr', State.setTop_of_frames _ hr', State.setFrames_setFrames, hr]
      rfl
    have hsame : U.sameButNew ({ U with heap := s₂.heap, slotsUsed := s₂.slotsUsed } : State) L mc ms := by
      refine ⟨?_, q2, q3, q4, q5, q6⟩
      obtain ⟨t, ht, -⟩ := State.frames_cons hr
      show ({ U with heap := s₂.heap, slotsUsed := s₂.slotsUsed } : State) = { U.setFrames U.frames with heap := s₂.heap, slotsUsed := s₂.slotsUsed }
      rw [State.setFrames_self ht]
    subst hg
    refine Or.inr ⟨q, ⟨(({ U with heap := s₂.heap, slotsUsed := s₂.slotsUsed } : State).setVm s₂.vm), Ls ++ L, c0 + mc, s0 + ms⟩,
      ⟨X.admits, X.cas, X.clock, X.frames, X.room, X.hears, X.method, X.code, (X.here.setHeapUsed s₂.heap s₂.slotsUsed).setVm hW'.alike, X.tail, State.WarmedH.trans X.warmed hW', X.limits, X.bytes, X.same.trans (hsame.setVm s.vm)⟩,
      ⟨g, mk, s₂, L, E, ce, rfl, rfl, hx, hce, hcv, hcl, rfl, hL, rfl, rfl⟩, ?_⟩
    show Steps p.tables e below _ (((({ U with heap := s₂.heap, slotsUsed := s₂.slotsUsed } : State).setVm s₂.vm).setTop g).pushFrame (.throwing q))
    rw [← hs₂]
    exact hsteps
end Payer
section Calls
variable {p : Program} {l : Launch} {e : Env} {R : Room} {s : State} {m : MethodId} {args : Array Value} {below : List Frame} {meth : Method} {c : Code} {T : State} {locs : List Loc} {cells slots : Nat}
theorem vx_callV (X : Stand p l e R s m args below meth c T locs cells slots) (hexec : p.tables.exec = Jvm.exec) {own C : String} {index : Nat} {y : MethodName} {bytes : ByteArray} {maxL : Nat} {ret : Option FieldType}
    (hown : s.vm.findClass own = some m.cls) (hlink : (Cond.methodLink own index y).before args s = true) (hinst : (Cond.instanceMethod y).before args s = true) (hsel : (Cond.selects C y y).before args s = true)
    (hcode : (Cond.code y bytes maxL ret).before args s = true) (hy : y.cls ≠ "java/lang/invoke/MethodHandle" ∧ y.cls ≠ "java/lang/invoke/VarHandle")
    {W9 : Nat} {Pre : Pt → Array Value → Prop} {Post : Pt → Array Value → Option Value → Pt → Prop} {PostX : Pt → Array Value → Addr → Pt → Prop} (hK : vx_Back l R p e below s args y 3 W9 Pre Post PostX)
    {b : Addr} {cellB : Cell} (hcell : T.heap[b]? = some cellB) (hobj : cellB.vm.isStatics = false) (hcls : s.vm.findClass C = some cellB.cls)
    {g : JFrame} (hg : g.method = m) (hsize : g.locals.size = c.maxLocals) {argsL rest : List Value} (hlen : ∀ sig, parseMethodDescriptor y.desc = some sig → argsL.length = sig.parameters.length)
    (hstack : g.stack = argsL.reverse ++ .ref b :: rest) (hW : 2 * g.monitorRoom + (rest.map fun v => v.category).sum ≤ W9) (hdg : decode c.code g.pc = .ok (.invokevirtual index, 3))
    (hpre : ∀ vm₁, s.WarmedH vm₁ → Pre ⟨T.setVm vm₁, locs, cells, slots⟩ (Value.ref b :: argsL).toArray) :
    (∃ (v : Option Value) (vm₁ : Vm) (B : Pt), s.WarmedH vm₁ ∧ Stand p l e R s m args below meth c B.U B.locs B.cells B.slots ∧ Post ⟨T.setVm vm₁, locs, cells, slots⟩ (Value.ref b :: argsL).toArray v B ∧
      ∀ target, Steps p.tables e below (B.U.setTop { g with pc := g.pc + 3, stack := v.toList ++ rest }) target → Steps p.tables e below (T.setTop g) target) ∨
    (∃ (q : Addr) (vm₁ : Vm) (B : Pt), s.WarmedH vm₁ ∧ Stand p l e R s m args below meth c B.U B.locs B.cells B.slots ∧ PostX ⟨T.setVm vm₁, locs, cells, slots⟩ (Value.ref b :: argsL).toArray q B ∧
      Steps p.tables e below (T.setTop g) ((B.U.setTop { g with stack := rest }).pushFrame (.throwing q))) := by
  obtain ⟨mk, methM, hnamed, hmethM, hstM, habM⟩ := Cond.instanceMethod_spec hinst
  obtain ⟨methM', cM, hmethM', -, -, -, -, -, -, hsigM⟩ := Cond.code_spec hnamed hcode
  cases hmethM.symm.trans hmethM'
  obtain ⟨c2, r2, m2, q1, q2, q3, q4, kP, hkP, hkPi⟩ := Cond.selects_spec hsel
  cases hcls.symm.trans q1
  cases (State.methodFound?_of_named hnamed hy).symm.trans q2
  cases hnamed.symm.trans q3
  have hselP : selectMethod e.platform s.vm cellB.cls mk = .method mk := by rw [Launch.admits_selectMethod X.admits]; exact q4
  obtain ⟨vm₁, X₁, hstep₁⟩ := X.invokevirtual hexec hown hlink hnamed hmethM hstM hkP hkPi hy (a := b) (cell := cellB) hcell
    (fun z h => by rw [h] at hobj; cases hobj) hselP hmethM habM hkP hkPi (g := g) hg (argsL := argsL) (rest := rest) (hlen _ hsigM) hstack hdg
  rcases hK m meth c ⟨T.setVm vm₁, locs, cells, slots⟩ { g with stack := rest } (.invokevirtual index) mk (Value.ref b :: argsL).toArray X₁ hg hsize hdg hW (X₁.named hnamed) (hpre vm₁ X₁.warmed) with ⟨v, B, X', hpost, hsteps⟩ | ⟨q, B, X', hpost, hsteps⟩
  · exact Or.inl ⟨v, vm₁, B, X₁.warmed, X', hpost, fun target h => hstep₁ _ fun acts => by rw [doInvoke_state]; exact hsteps.trans h⟩
  · exact Or.inr ⟨q, vm₁, B, X₁.warmed, X', hpost, hstep₁ _ fun acts => by rw [doInvoke_state]; exact hsteps⟩
theorem vx_callS (X : Stand p l e R s m args below meth c T locs cells slots) (hexec : p.tables.exec = Jvm.exec) {own : String} {index : Nat} {y : MethodName} {bytes : ByteArray} {maxL : Nat} {ret : Option FieldType}
    (hown : s.vm.findClass own = some m.cls) (hlink : (Cond.methodLink own index y).before args s = true) (hstat : (Cond.static y).before args s = true) (hinit : (Cond.initialized y.cls).before args s = true)
    (hcode : (Cond.code y bytes maxL ret).before args s = true) (hy : y.cls ≠ "java/lang/invoke/MethodHandle" ∧ y.cls ≠ "java/lang/invoke/VarHandle")
    {W9 : Nat} {Pre : Pt → Array Value → Prop} {Post : Pt → Array Value → Option Value → Pt → Prop} {PostX : Pt → Array Value → Addr → Pt → Prop} (hK : vx_Back l R p e below s args y 3 W9 Pre Post PostX)
    {g : JFrame} (hg : g.method = m) (hsize : g.locals.size = c.maxLocals) {argsL rest : List Value} (hlen : ∀ sig, parseMethodDescriptor y.desc = some sig → argsL.length = sig.parameters.length)
    (hstack : g.stack = argsL.reverse ++ rest) (hW : 2 * g.monitorRoom + (rest.map fun v => v.category).sum ≤ W9) (hdg : decode c.code g.pc = .ok (.invokestatic index, 3))
    (hpre : ∀ vm₁, s.WarmedH vm₁ → Pre ⟨T.setVm vm₁, locs, cells, slots⟩ argsL.toArray) :
    (∃ (v : Option Value) (vm₁ : Vm) (B : Pt), s.WarmedH vm₁ ∧ Stand p l e R s m args below meth c B.U B.locs B.cells B.slots ∧ Post ⟨T.setVm vm₁, locs, cells, slots⟩ argsL.toArray v B ∧
      ∀ target, Steps p.tables e below (B.U.setTop { g with pc := g.pc + 3, stack := v.toList ++ rest }) target → Steps p.tables e below (T.setTop g) target) ∨
    (∃ (q : Addr) (vm₁ : Vm) (B : Pt), s.WarmedH vm₁ ∧ Stand p l e R s m args below meth c B.U B.locs B.cells B.slots ∧ PostX ⟨T.setVm vm₁, locs, cells, slots⟩ argsL.toArray q B ∧
      Steps p.tables e below (T.setTop g) ((B.U.setTop { g with stack := rest }).pushFrame (.throwing q))) := by
  obtain ⟨mk, hnamed⟩ := Cond.code_named hcode
  obtain ⟨methM, cM, hmethM, -, -, -, -, -, -, hsigM⟩ := Cond.code_spec hnamed hcode
  have hstatic : methM.isStatic = true := Cond.static_spec hnamed hmethM hstat
  obtain ⟨kP, hkP, -⟩ := className_of_methodNamed hnamed
  have hinitP : kP.init = .initialized := Cond.initialized_spec (findClass_of_methodNamed hnamed) hkP hinit
  obtain ⟨vm₁, X₁, hstep₁⟩ := X.invokestatic hexec hown hlink hnamed hmethM hstatic hkP hinitP hy (g := g) hg (argsL := argsL) (rest := rest) (hlen _ hsigM) hstack hdg
  rcases hK m meth c ⟨T.setVm vm₁, locs, cells, slots⟩ { g with stack := rest } (.invokestatic index) mk argsL.toArray X₁ hg hsize hdg hW (X₁.named hnamed) (hpre vm₁ X₁.warmed) with ⟨v, B, X', hpost, hsteps⟩ | ⟨q, B, X', hpost, hsteps⟩
  · exact Or.inl ⟨v, vm₁, B, X₁.warmed, X', hpost, fun target h => hstep₁ _ fun acts => by rw [doInvoke_state]; exact hsteps.trans h⟩
  · exact Or.inr ⟨q, vm₁, B, X₁.warmed, X', hpost, hstep₁ _ fun acts => by rw [doInvoke_state]; exact hsteps⟩
end Calls
theorem vx_cls {s : State} {T : State} {vm₁ : Vm} {E : String} {k : ClassId} (hW : s.WarmedH vm₁) (h : (T.setVm vm₁).vm.findClass E = some k) : s.vm.findClass E = some k := by
  have h1 : vm₁.findClass E = some k := h
  rw [hW.alike.findClass] at h1
  exact h1
/-- the method's frame g, with q thrown over it -/
def vx_W (p : Program) (l : Launch) (e : Env) (R : Room) (s : State) (m : MethodId) (args : Array Value) (below : List Frame) (meth : Method) (c : Code) (H : Heap) (locs : List Loc) (cells slots : Nat) (Q : State → Prop) (g : JFrame) (q : Addr) : Prop :=
  ∀ T : State, T.heap = H → Stand p l e R s m args below meth c T locs cells slots → ∃ t, Steps p.tables e below ((T.setTop g).pushFrame (.throwing q)) t ∧ Q t
def vx_Run (p : Program) (l : Launch) (e : Env) (R : Room) (s : State) (m : MethodId) (args : Array Value) (below : List Frame) (meth : Method) (c : Code) (H : Heap) (locs : List Loc) (cells slots mc ms : Nat) (g : JFrame) (rest : List Value) (Qa : State → Outcome → State → Prop) (XC : String → State → State → Prop) (free : Addr → Prop) : Prop :=
  ∀ T : State, T.heap = H → Stand p l e R s m args below meth c T locs cells slots →
    (∃ (v : Option Value) (st₀ t T' : State) (L : List Loc), st₀.heap = H ∧ Stand p l e R s m args below meth c T' (locs ++ L) (cells + mc) (slots + ms) ∧ (∀ q ∈ L, free q.base) ∧ T'.heap = t.heap ∧ T'.vm = t.vm ∧ Qa st₀ (.returned v) t ∧
      Goes p e below T g T' { g with pc := g.pc + 3, stack := v.toList ++ rest }) ∨
    (∃ (q : Addr) (st₀ t T' : State) (L : List Loc) (E : String) (ce : Cell), st₀.heap = H ∧ Stand p l e R s m args below meth c T' (locs ++ L) (cells + mc) (slots + ms) ∧ (∀ z ∈ L, free z.base) ∧ T'.heap = t.heap ∧ T'.vm = t.vm ∧ XC E st₀ t ∧ t.heap[q]? = some ce ∧ ce.vm = .none ∧ s.vm.findClass E = some ce.cls ∧
      Steps p.tables e below (T.setTop g) ((T'.setTop { g with stack := rest }).pushFrame (.throwing q)))
def vx_X {S : Type} (px : S → Prop) (B : String → S → State → Prop) (A : Nat → Prop) : String → State → State → Prop := fun E st t => ∃ u : S, px u ∧ B E u t ∧ va_F A st t
section Runs
variable {p : Program} {l : Launch} {e : Env} {R : Room} {s : State} {m : MethodId} {args : Array Value} {below : List Frame} {meth : Method} {c : Code} {H : Heap} {locs : List Loc} {cells slots : Nat}
variable {y : MethodName} {bytes cc : ByteArray} {maxL nL mc ms n index : Nat} {ret : Option FieldType} {ws : List Cond} {rm : Room} {Pc : Array Value → State → Prop} {Qc : Array Value → State → Outcome → State → Prop} {XC : String → State → State → Prop} {free : Addr → Prop} {Ts : List Cond} {own C : String} {b : Addr} {As rest : List Value} {g : JFrame}
theorem vx_callBack (cb : CallB R s args own index y bytes maxL ret ws rm mc ms n) (hM : vx_Met l y ws rm Pc Qc XC mc ms free) (hbl : FrameBlind Pc) : vx_Back l R p e below s args y 3 8 (PreOf R mc ms Pc) (PostOf Qc mc ms free) (vx_Post XC mc ms free) := by
  obtain ⟨hrc, hrs, hfr, hlo, hws, hcw, -, hini, -⟩ := cb
  exact vx_back (bytes := bytes) (maxL := maxL) (ret := ret) hM hbl hrc hrs hfr hlo hws hcw (fun a' U hW => word_at hW (Or.inl (by first | rfl | simp [Cond.onTables, Cond.keeps, Cond.steady])) hini)
theorem vx_runV (S : CallFix p m c cc nL s args Ts own) (hM : vx_Met l y ws rm Pc Qc XC mc ms free) (cw : CallW R s args own C index y bytes maxL ret ws rm mc ms n) (hp : PreV s H C b Pc As)
    (hg : g.method = m) (hn : As.length = n) (hsize : g.locals.size = nL) (hstack : g.stack = As.reverse ++ .ref b :: rest) (hW : 2 * g.monitorRoom + (rest.map fun v => v.category).sum ≤ 8) (hdg : decode cc g.pc = .ok (.invokevirtual index, 3)) (hf : cells + mc ≤ R.cells ∧ slots + ms ≤ R.slots) :
    vx_Run p l e R s m args below meth c H locs cells slots mc ms g rest (Qc (Value.ref b :: As).toArray) XC free := by
  have hK : vx_Back l R p e below s args y 3 8 (PreOf R mc ms Pc) (PostOf Qc mc ms free) (vx_Post XC mc ms free) := vx_callBack cw.1 hM hp.1
  obtain ⟨⟨-, -, -, -, -, -, hcode, -, hy, hlen, hl⟩, hin, hse⟩ := cw
  obtain ⟨hx, hb, hml, ho, -⟩ := S
  obtain ⟨-, ⟨cellB, hcB, hoB, hclB⟩, hPc⟩ := hp
  intro T hT X
  rcases vx_callV X hx (C := C) (bytes := bytes) (maxL := maxL) (ret := ret) ho hl hin hse hcode hy hK (by rw [hT]; exact hcB) hoB hclB hg (hsize.trans hml.symm) (argsL := As) (rest := rest) (fun sig h => hn.trans (hlen sig h)) hstack hW (by rw [hb]; exact hdg)
    (fun vm₁ hW₁ => ⟨hf.1, hf.2, hPc (T.setVm vm₁) hT hW₁⟩) with ⟨v, vm₁, ⟨U', l2, c2, s2⟩, hW₁, X', ⟨g', mk, t, L, e1, e2, hq, h1, hL, h2, h3⟩, st⟩ | ⟨q, vm₁, ⟨U', l2, c2, s2⟩, hW₁, X', ⟨g', mk, t, L, E, ce, e1, e2, hq, hce, hcv, hcl, h1, hL, h2, h3⟩, st⟩
  · dsimp only [Pt.U, Pt.locs, Pt.cells, Pt.slots] at X' e1 e2 h1 h2 h3 st
    subst h1; subst h2; subst h3
    exact Or.inl ⟨v, (T.setVm vm₁).calling g' mk (Value.ref b :: As).toArray, t, U', L, hT, X', hL, e1, e2, hq, st⟩
  · dsimp only [Pt.U, Pt.locs, Pt.cells, Pt.slots] at X' e1 e2 h1 h2 h3 st hcl
    subst h1; subst h2; subst h3
    exact Or.inr ⟨q, (T.setVm vm₁).calling g' mk (Value.ref b :: As).toArray, t, U', L, E, ce, hT, X', hL, e1, e2, hq, hce, hcv, vx_cls hW₁ hcl, st⟩
theorem vx_runS (S : CallFix p m c cc nL s args Ts own) (hM : vx_Met l y ws rm Pc Qc XC mc ms free) (cw : CallB R s args own index y bytes maxL ret ws rm mc ms n ∧ (Cond.static y).before args s = true) (hp : PreS s H Pc As)
    (hg : g.method = m) (hn : As.length = n) (hsize : g.locals.size = nL) (hstack : g.stack = As.reverse ++ rest) (hW : 2 * g.monitorRoom + (rest.map fun v => v.category).sum ≤ 8) (hdg : decode cc g.pc = .ok (.invokestatic index, 3)) (hf : cells + mc ≤ R.cells ∧ slots + ms ≤ R.slots) :
    vx_Run p l e R s m args below meth c H locs cells slots mc ms g rest (Qc As.toArray) XC free := by
  have hK : vx_Back l R p e below s args y 3 8 (PreOf R mc ms Pc) (PostOf Qc mc ms free) (vx_Post XC mc ms free) := vx_callBack cw.1 hM hp.1
  obtain ⟨⟨-, -, -, -, -, -, hcode, hini, hy, hlen, hl⟩, hstt⟩ := cw
  obtain ⟨hx, hb, hml, ho, -⟩ := S
  intro T hT X
  rcases vx_callS X hx (bytes := bytes) (maxL := maxL) (ret := ret) ho hl hstt hini hcode hy hK hg (hsize.trans hml.symm) (argsL := As) (rest := rest) (fun sig h => hn.trans (hlen sig h)) hstack hW (by rw [hb]; exact hdg)
    (fun vm₁ hW₁ => ⟨hf.1, hf.2, hp.2 (T.setVm vm₁) hT hW₁⟩) with ⟨v, vm₁, ⟨U', l2, c2, s2⟩, hW₁, X', ⟨g', mk, t, L, e1, e2, hq, h1, hL, h2, h3⟩, st⟩ | ⟨q, vm₁, ⟨U', l2, c2, s2⟩, hW₁, X', ⟨g', mk, t, L, E, ce, e1, e2, hq, hce, hcv, hcl, h1, hL, h2, h3⟩, st⟩
  · dsimp only [Pt.U, Pt.locs, Pt.cells, Pt.slots] at X' e1 e2 h1 h2 h3 st
    subst h1; subst h2; subst h3
    exact Or.inl ⟨v, (T.setVm vm₁).calling g' mk As.toArray, t, U', L, hT, X', hL, e1, e2, hq, st⟩
  · dsimp only [Pt.U, Pt.locs, Pt.cells, Pt.slots] at X' e1 e2 h1 h2 h3 st hcl
    subst h1; subst h2; subst h3
    exact Or.inr ⟨q, (T.setVm vm₁).calling g' mk As.toArray, t, U', L, E, ce, hT, X', hL, e1, e2, hq, hce, hcv, vx_cls hW₁ hcl, st⟩
end Runs
section Rows
variable {p : Program} {l : Launch} {e : Env} {R : Room} {s : State} {m : MethodId} {args : Array Value} {below : List Frame} {meth : Method} {c : Code} {H : Heap} {locs : List Loc} {cells slots : Nat} {Q : State → Prop}
variable {mc ms : Nat} {free : Addr → Prop} {A0 A1 : Nat → Prop} {H0 : Heap} {a : Array Value} {pc : Nat} {ls : Array Slot} {st0 rest : List Value}
theorem vx_keep {st₀ t T' : State} {L : List Loc} (h0 : st₀.heap = H) (e1 : T'.heap = t.heap) (hS : va_S A0 H0 H locs) (hA : ∀ q, q < H.size → A1 q → A0 q) (hf : ∀ q, free q → A0 q) (hL : ∀ q ∈ L, free q.base) (hF : va_F A1 st₀ t) :
    H.size ≤ T'.heap.size ∧ (∀ q : Nat, q < H.size → ¬ A1 q → T'.heap[q]? = H[q]?) ∧ va_S A0 H0 T'.heap (locs ++ L) := by
  obtain ⟨hz, hk⟩ := hF
  rw [h0] at hz hk
  exact ⟨by rw [e1]; exact hz, fun q h1 h2 => by rw [e1]; exact hk q h1 h2,
    ⟨Nat.le_trans hS.1 (by rw [e1]; exact hz), fun q h1 h2 => by rw [e1, hk q (Nat.lt_of_lt_of_le h1 hS.1) (fun z => h2 (hA q (Nat.lt_of_lt_of_le h1 hS.1) z))]; exact hS.2.1 q h1 h2, fun q hq => by
      rcases List.mem_append.mp hq with h | h
      · exact hS.2.2 q h
      · exact hf _ (hL q h)⟩⟩
theorem vx_calli {S SX : Type} {post : Int32 → S → Prop} {px : SX → Prop} {B : S → State → Prop} {BX : String → SX → State → Prop} {AX : Nat → Prop} (hr : vx_Run p l e R s m args below meth c H locs cells slots mc ms (F0 m pc ls st0) rest (va_Qi post B A1 a) (vx_X px BX AX) free) (hS : va_S A0 H0 H locs) (hA : ∀ q, q < H.size → A1 q → A0 q) (hf : ∀ q, free q → A0 q) (hAX : ∀ q, q < H.size → AX q → A0 q)
    (kx : ∀ (E : String) (ce : Cell) (q9 : Addr) (u : SX) (t : State) (H1 : Heap) (locs1 : List Loc), t.heap = H1 → s.vm.Alike t.vm → px u → BX E u t → H.size ≤ H1.size → (∀ q : Nat, q < H.size → ¬ AX q → H1[q]? = H[q]?) → va_S A0 H0 H1 locs1 → H1[q9]? = some ce → ce.vm = .none → s.vm.findClass E = some ce.cls → vx_W p l e R s m args below meth c H1 locs1 (cells + mc) (slots + ms) Q (F0 m pc ls rest) q9)
    (kk : ∀ (r : Int32) (u : S) (t : State) (H1 : Heap) (locs1 : List Loc), t.heap = H1 → s.vm.Alike t.vm → post r u → B u t → H.size ≤ H1.size → (∀ q : Nat, q < H.size → ¬ A1 q → H1[q]? = H[q]?) → va_S A0 H0 H1 locs1 → W p l e R s m args below meth c H1 locs1 (cells + mc) (slots + ms) Q (F0 m (pc + 3) ls (.int r :: rest))) : W p l e R s m args below meth c H locs cells slots Q (F0 m pc ls st0) := by
  intro T hT X
  rcases hr T hT X with ⟨v, st₀, t, T', L, h0, X', hL, e1, e2, ⟨⟨r, u, hv, hp, hb⟩, hF⟩, st⟩ | ⟨q, st₀, t, T', L, E, ce, h0, X', hL, e1, e2, ⟨u, hp, hb, hF⟩, hce, hcv, hcl, st⟩
  · cases hv
    obtain ⟨k1, k2, k3⟩ := vx_keep h0 e1 hS hA hf hL hF
    obtain ⟨t2, a1, b1⟩ := kk r u t T'.heap (locs ++ L) e1.symm (by rw [← e2]; exact X'.warmed.alike) hp hb k1 k2 k3 T' rfl X'
    exact ⟨t2, st t2 a1, b1⟩
  · obtain ⟨k1, k2, k3⟩ := vx_keep h0 e1 hS hAX hf hL hF
    obtain ⟨t2, a1, b1⟩ := kx E ce q u t T'.heap (locs ++ L) e1.symm (by rw [← e2]; exact X'.warmed.alike) hp hb k1 k2 k3 (by rw [e1]; exact hce) hcv hcl T' rfl X'
    exact ⟨t2, st.trans a1, b1⟩
theorem vx_calll {S SX : Type} {post : Int64 → S → Prop} {px : SX → Prop} {B : S → State → Prop} {BX : String → SX → State → Prop} {AX : Nat → Prop} (hr : vx_Run p l e R s m args below meth c H locs cells slots mc ms (F0 m pc ls st0) rest (va_Ql post B A1 a) (vx_X px BX AX) free) (hS : va_S A0 H0 H locs) (hA : ∀ q, q < H.size → A1 q → A0 q) (hf : ∀ q, free q → A0 q) (hAX : ∀ q, q < H.size → AX q → A0 q)
    (kx : ∀ (E : String) (ce : Cell) (q9 : Addr) (u : SX) (t : State) (H1 : Heap) (locs1 : List Loc), t.heap = H1 → s.vm.Alike t.vm → px u → BX E u t → H.size ≤ H1.size → (∀ q : Nat, q < H.size → ¬ AX q → H1[q]? = H[q]?) → va_S A0 H0 H1 locs1 → H1[q9]? = some ce → ce.vm = .none → s.vm.findClass E = some ce.cls → vx_W p l e R s m args below meth c H1 locs1 (cells + mc) (slots + ms) Q (F0 m pc ls rest) q9)
    (kk : ∀ (r : Int64) (u : S) (t : State) (H1 : Heap) (locs1 : List Loc), t.heap = H1 → s.vm.Alike t.vm → post r u → B u t → H.size ≤ H1.size → (∀ q : Nat, q < H.size → ¬ A1 q → H1[q]? = H[q]?) → va_S A0 H0 H1 locs1 → W p l e R s m args below meth c H1 locs1 (cells + mc) (slots + ms) Q (F0 m (pc + 3) ls (.long r :: rest))) : W p l e R s m args below meth c H locs cells slots Q (F0 m pc ls st0) := by
  intro T hT X
  rcases hr T hT X with ⟨v, st₀, t, T', L, h0, X', hL, e1, e2, ⟨⟨r, u, hv, hp, hb⟩, hF⟩, st⟩ | ⟨q, st₀, t, T', L, E, ce, h0, X', hL, e1, e2, ⟨u, hp, hb, hF⟩, hce, hcv, hcl, st⟩
  · cases hv
    obtain ⟨k1, k2, k3⟩ := vx_keep h0 e1 hS hA hf hL hF
    obtain ⟨t2, a1, b1⟩ := kk r u t T'.heap (locs ++ L) e1.symm (by rw [← e2]; exact X'.warmed.alike) hp hb k1 k2 k3 T' rfl X'
    exact ⟨t2, st t2 a1, b1⟩
  · obtain ⟨k1, k2, k3⟩ := vx_keep h0 e1 hS hAX hf hL hF
    obtain ⟨t2, a1, b1⟩ := kx E ce q u t T'.heap (locs ++ L) e1.symm (by rw [← e2]; exact X'.warmed.alike) hp hb k1 k2 k3 (by rw [e1]; exact hce) hcv hcl T' rfl X'
    exact ⟨t2, st.trans a1, b1⟩
theorem vx_callf {S SX : Type} {post : UInt32 → S → Prop} {px : SX → Prop} {B : S → State → Prop} {BX : String → SX → State → Prop} {AX : Nat → Prop} (hr : vx_Run p l e R s m args below meth c H locs cells slots mc ms (F0 m pc ls st0) rest (va_Qf post B A1 a) (vx_X px BX AX) free) (hS : va_S A0 H0 H locs) (hA : ∀ q, q < H.size → A1 q → A0 q) (hf : ∀ q, free q → A0 q) (hAX : ∀ q, q < H.size → AX q → A0 q)
    (kx : ∀ (E : String) (ce : Cell) (q9 : Addr) (u : SX) (t : State) (H1 : Heap) (locs1 : List Loc), t.heap = H1 → s.vm.Alike t.vm → px u → BX E u t → H.size ≤ H1.size → (∀ q : Nat, q < H.size → ¬ AX q → H1[q]? = H[q]?) → va_S A0 H0 H1 locs1 → H1[q9]? = some ce → ce.vm = .none → s.vm.findClass E = some ce.cls → vx_W p l e R s m args below meth c H1 locs1 (cells + mc) (slots + ms) Q (F0 m pc ls rest) q9)
    (kk : ∀ (r : UInt32) (u : S) (t : State) (H1 : Heap) (locs1 : List Loc), t.heap = H1 → s.vm.Alike t.vm → post r u → B u t → H.size ≤ H1.size → (∀ q : Nat, q < H.size → ¬ A1 q → H1[q]? = H[q]?) → va_S A0 H0 H1 locs1 → W p l e R s m args below meth c H1 locs1 (cells + mc) (slots + ms) Q (F0 m (pc + 3) ls (.float r :: rest))) : W p l e R s m args below meth c H locs cells slots Q (F0 m pc ls st0) := by
  intro T hT X
  rcases hr T hT X with ⟨v, st₀, t, T', L, h0, X', hL, e1, e2, ⟨⟨r, u, hv, hp, hb⟩, hF⟩, st⟩ | ⟨q, st₀, t, T', L, E, ce, h0, X', hL, e1, e2, ⟨u, hp, hb, hF⟩, hce, hcv, hcl, st⟩
  · cases hv
    obtain ⟨k1, k2, k3⟩ := vx_keep h0 e1 hS hA hf hL hF
    obtain ⟨t2, a1, b1⟩ := kk r u t T'.heap (locs ++ L) e1.symm (by rw [← e2]; exact X'.warmed.alike) hp hb k1 k2 k3 T' rfl X'
    exact ⟨t2, st t2 a1, b1⟩
  · obtain ⟨k1, k2, k3⟩ := vx_keep h0 e1 hS hAX hf hL hF
    obtain ⟨t2, a1, b1⟩ := kx E ce q u t T'.heap (locs ++ L) e1.symm (by rw [← e2]; exact X'.warmed.alike) hp hb k1 k2 k3 (by rw [e1]; exact hce) hcv hcl T' rfl X'
    exact ⟨t2, st.trans a1, b1⟩
theorem vx_calld {S SX : Type} {post : UInt64 → S → Prop} {px : SX → Prop} {B : S → State → Prop} {BX : String → SX → State → Prop} {AX : Nat → Prop} (hr : vx_Run p l e R s m args below meth c H locs cells slots mc ms (F0 m pc ls st0) rest (va_Qd post B A1 a) (vx_X px BX AX) free) (hS : va_S A0 H0 H locs) (hA : ∀ q, q < H.size → A1 q → A0 q) (hf : ∀ q, free q → A0 q) (hAX : ∀ q, q < H.size → AX q → A0 q)
    (kx : ∀ (E : String) (ce : Cell) (q9 : Addr) (u : SX) (t : State) (H1 : Heap) (locs1 : List Loc), t.heap = H1 → s.vm.Alike t.vm → px u → BX E u t → H.size ≤ H1.size → (∀ q : Nat, q < H.size → ¬ AX q → H1[q]? = H[q]?) → va_S A0 H0 H1 locs1 → H1[q9]? = some ce → ce.vm = .none → s.vm.findClass E = some ce.cls → vx_W p l e R s m args below meth c H1 locs1 (cells + mc) (slots + ms) Q (F0 m pc ls rest) q9)
    (kk : ∀ (r : UInt64) (u : S) (t : State) (H1 : Heap) (locs1 : List Loc), t.heap = H1 → s.vm.Alike t.vm → post r u → B u t → H.size ≤ H1.size → (∀ q : Nat, q < H.size → ¬ A1 q → H1[q]? = H[q]?) → va_S A0 H0 H1 locs1 → W p l e R s m args below meth c H1 locs1 (cells + mc) (slots + ms) Q (F0 m (pc + 3) ls (.double r :: rest))) : W p l e R s m args below meth c H locs cells slots Q (F0 m pc ls st0) := by
  intro T hT X
  rcases hr T hT X with ⟨v, st₀, t, T', L, h0, X', hL, e1, e2, ⟨⟨r, u, hv, hp, hb⟩, hF⟩, st⟩ | ⟨q, st₀, t, T', L, E, ce, h0, X', hL, e1, e2, ⟨u, hp, hb, hF⟩, hce, hcv, hcl, st⟩
  · cases hv
    obtain ⟨k1, k2, k3⟩ := vx_keep h0 e1 hS hA hf hL hF
    obtain ⟨t2, a1, b1⟩ := kk r u t T'.heap (locs ++ L) e1.symm (by rw [← e2]; exact X'.warmed.alike) hp hb k1 k2 k3 T' rfl X'
    exact ⟨t2, st t2 a1, b1⟩
  · obtain ⟨k1, k2, k3⟩ := vx_keep h0 e1 hS hAX hf hL hF
    obtain ⟨t2, a1, b1⟩ := kx E ce q u t T'.heap (locs ++ L) e1.symm (by rw [← e2]; exact X'.warmed.alike) hp hb k1 k2 k3 (by rw [e1]; exact hce) hcv hcl T' rfl X'
    exact ⟨t2, st.trans a1, b1⟩
theorem vx_callv {S SX : Type} {post : S → Prop} {px : SX → Prop} {B : S → State → Prop} {BX : String → SX → State → Prop} {AX : Nat → Prop} (hr : vx_Run p l e R s m args below meth c H locs cells slots mc ms (F0 m pc ls st0) rest (va_Qv post B A1 a) (vx_X px BX AX) free) (hS : va_S A0 H0 H locs) (hA : ∀ q, q < H.size → A1 q → A0 q) (hf : ∀ q, free q → A0 q) (hAX : ∀ q, q < H.size → AX q → A0 q)
    (kx : ∀ (E : String) (ce : Cell) (q9 : Addr) (u : SX) (t : State) (H1 : Heap) (locs1 : List Loc), t.heap = H1 → s.vm.Alike t.vm → px u → BX E u t → H.size ≤ H1.size → (∀ q : Nat, q < H.size → ¬ AX q → H1[q]? = H[q]?) → va_S A0 H0 H1 locs1 → H1[q9]? = some ce → ce.vm = .none → s.vm.findClass E = some ce.cls → vx_W p l e R s m args below meth c H1 locs1 (cells + mc) (slots + ms) Q (F0 m pc ls rest) q9)
    (kk : ∀ (u : S) (t : State) (H1 : Heap) (locs1 : List Loc), t.heap = H1 → s.vm.Alike t.vm → post u → B u t → H.size ≤ H1.size → (∀ q : Nat, q < H.size → ¬ A1 q → H1[q]? = H[q]?) → va_S A0 H0 H1 locs1 → W p l e R s m args below meth c H1 locs1 (cells + mc) (slots + ms) Q (F0 m (pc + 3) ls (rest))) : W p l e R s m args below meth c H locs cells slots Q (F0 m pc ls st0) := by
  intro T hT X
  rcases hr T hT X with ⟨v, st₀, t, T', L, h0, X', hL, e1, e2, ⟨⟨u, hv, hp, hb⟩, hF⟩, st⟩ | ⟨q, st₀, t, T', L, E, ce, h0, X', hL, e1, e2, ⟨u, hp, hb, hF⟩, hce, hcv, hcl, st⟩
  · cases hv
    obtain ⟨k1, k2, k3⟩ := vx_keep h0 e1 hS hA hf hL hF
    obtain ⟨t2, a1, b1⟩ := kk u t T'.heap (locs ++ L) e1.symm (by rw [← e2]; exact X'.warmed.alike) hp hb k1 k2 k3 T' rfl X'
    exact ⟨t2, st t2 a1, b1⟩
  · obtain ⟨k1, k2, k3⟩ := vx_keep h0 e1 hS hAX hf hL hF
    obtain ⟨t2, a1, b1⟩ := kx E ce q u t T'.heap (locs ++ L) e1.symm (by rw [← e2]; exact X'.warmed.alike) hp hb k1 k2 k3 (by rw [e1]; exact hce) hcv hcl T' rfl X'
    exact ⟨t2, st.trans a1, b1⟩
/-- caught by the row x of this method's table; the rows ahead don't take it -/
theorem vx_catch {own name : String} {E : String} {ce : Cell} {q : Addr} (hown : s.vm.findClass own = some m.cls) (pre : List ExceptionTableEntry) (x : ExceptionTableEntry) (suf : List ExceptionTableEntry) (hsplit : c.exceptionTable.toList = pre ++ x :: suf)
    (hpass : ∀ z ∈ pre, covers z pc = false ∨ (z.catchType ≠ 0 ∧ ∃ nm : String, (Cond.classLink own z.catchType nm).before args s = true ∧ va_Nc E nm s)) (hx : covers x pc = true) (h0 : x.catchType ≠ 0)
    (hlink : (Cond.classLink own x.catchType name).before args s = true) (hcast : (Cond.castable E name).before args s = true) (hcell : H[q]? = some ce) (hv : ce.vm = .none) (hcl : s.vm.findClass E = some ce.cls)
    (kk : W p l e R s m args below meth c H locs cells slots Q (F0 m x.handlerPc ls [.ref q])) : vx_W p l e R s m args below meth c H locs cells slots Q (F0 m pc ls rest) q := by
  intro T hT X
  have hpl : e.platform.magicAccessors = ({} : Platform).magicAccessors := by rw [X.admits.platform]
  obtain ⟨c3, c4, hc3, hc4, hasg⟩ := Cond.castable_spec hcast
  cases Option.some.inj (hc3.symm.trans hcl)
  obtain ⟨c5, hc5, hcl5⟩ := Cond.classLink_spec hown hlink e.platform hpl
  cases Option.some.inj (hc4.symm.trans hc5)
  obtain ⟨vm', X', st⟩ := X.thenCaughtThrough q (g := F0 m pc ls rest) rfl (Steps.refl _) (by rw [hT]; exact hcell) (by rw [hv]; rfl) (by obtain ⟨k9, h9, -⟩ := Vm.findClass_spec hcl; exact ⟨k9, h9⟩) pre x suf hsplit
    (fun z hz => by
      rcases hpass z hz with h | ⟨hz0, nm, hl1, hn1⟩
      · exact Or.inl h
      · obtain ⟨c6, hc6, hcl6⟩ := Cond.classLink_spec hown hl1 e.platform hpl
        obtain ⟨a8, b8, h1, h2, h3⟩ := hn1
        cases Option.some.inj (h1.symm.trans hcl)
        cases Option.some.inj (h2.symm.trans hc6)
        exact Or.inr ⟨hz0, _, hcl6, h3⟩) hx (Or.inr ⟨h0, c4, hcl5, hasg⟩)
  obtain ⟨t, a1, b1⟩ := kk (T.setVm vm') hT X'
  exact ⟨t, st.trans a1, b1⟩
end Rows
section Ends
variable {p : Program} {l : Launch} {e : Env} {R : Room} {s : State} {m : MethodId} {args : Array Value} {below : List Frame} {meth : Method} {c : Code} {H : Heap} {locs : List Loc} {cells slots : Nat} {Q : State → Prop}
variable {mc ms : Nat} {free : Addr → Prop} {A0 A1 : Nat → Prop} {H0 : Heap} {a : Array Value} {ls : Array Slot} {st0 rest : List Value}
variable {Qc : Array Value → State → Outcome → State → Prop} {XC : String → State → State → Prop}
/-- what a body that may throw owes at its end -/
def vx_MQ (below : List Frame) (Qc : Array Value → State → Outcome → State → Prop) (XC : String → State → State → Prop) (a : Array Value) (s : State) (mc ms : Nat) (free : Addr → Prop) : State → Prop := fun t =>
  ∃ o, t.status = .running ∧ Ended t below o ∧ vx_Q Qc XC mc ms free a s o t
theorem vx_ret {g : JFrame} {mc ms : Nat} (k : W p l e R s m args below meth c H locs cells slots (MQ below Qc args s mc ms free) g) : W p l e R s m args below meth c H locs cells slots (vx_MQ below Qc XC args s mc ms free) g := by
  intro T hT X
  obtain ⟨t, a1, o, b1, b2, b3, b4⟩ := k T hT X
  exact ⟨t, a1, o, b1, b2, Or.inl ⟨b3, b4⟩⟩
/-- not caught here: it goes on to the caller -/
theorem vx_widen {g : JFrame} {q : Addr} {k n : Nat} (h1 : cells ≤ k) (h2 : slots ≤ n) (kk : vx_W p l e R s m args below meth c H locs k n Q g q) : vx_W p l e R s m args below meth c H locs cells slots Q g q := fun T hT X => kk T hT (stand_widen X h1 h2)
theorem vx_out {pc : Nat} {E : String} {ce : Cell} {q : Addr} {mc ms : Nat} (hout : ∀ x ∈ c.exceptionTable.toList, covers x pc = false) (hlocks : meth.locks = false) (hcell : H[q]? = some ce) (hv : ce.vm = .none) (hcl : s.vm.findClass E = some ce.cls)
    (hx : ∀ t : State, t.heap = H → s.vm.Alike t.vm → XC E s t) (hf : ∀ z ∈ locs, free z.base) (hc : cells ≤ mc) (hs : slots ≤ ms) :
    vx_W p l e R s m args below meth c H locs cells slots (vx_MQ below Qc XC args s mc ms free) (F0 m pc ls rest) q := by
  intro T hT X
  obtain ⟨st1, hrun, hend, hW, hsm⟩ := X.leaveThrown q (g := F0 m pc ls rest) rfl rfl rfl hout hlocks
  have hcell9 : (T.setFrames (.throwing q :: below)).heap[q]? = some ce := by
    show T.heap[q]? = some ce
    rw [hT]; exact hcell
  exact ⟨_, st1, .threw q, hrun, hend, Or.inr ⟨q, rfl, E, ce, locs, hx _ hT hW.alike, hcell9, hv, hcl, hW, hsm.mono hc hs, hf⟩⟩
theorem vx_frame {U : State} {k n : Nat} (h : s.sameButNew ({ U with vm := s.vm } : State) locs k n) : s.heap.size ≤ U.heap.size ∧ ∀ q : Nat, q < s.heap.size → (∀ z ∈ locs, z.base ≠ q) → U.heap[q]? = s.heap[q]? := by
  obtain ⟨-, h2, -, -, -, h6⟩ := h
  refine ⟨h2, fun q hq hz => ?_⟩
  obtain ⟨c9, e1, e2, e3, e4⟩ := h6 q _ (Array.getElem?_eq_getElem hq)
  have hs : c9.slots = (s.heap[q]).slots := Array.ext_getElem? fun i => e4 i fun hm => hz _ hm rfl
  have h9 : c9 = s.heap[q] := by
    rw [hs] at e2
    exact e2
  have e5 : U.heap[q]? = some c9 := e1
  rw [e5, h9, Array.getElem?_eq_getElem hq]
/-- the words of a throw but the four that speak of the heap -/
def vx_no (w : Cond) : Bool := decide (w ≠ .isRef (.static Bundle.tN "UNASSIGNED_STACK" Bundle.steD)) && decide (w ≠ .isRef (.static Bundle.tN "SUPPRESSED_SENTINEL" Bundle.listD)) && decide (w ≠ .laysStatic Bundle.tN "UNASSIGNED_STACK" Bundle.steD) && decide (w ≠ .laysStatic Bundle.tN "SUPPRESSED_SENTINEL" Bundle.listD)
def vx_at0 (own : String) (ic : Nat) (X : String) (names : List String) : List Cond := (Bundle.ownAtoms0 own ic X names).filter vx_no
def vx_atS (own : String) (ic : Nat) (X : String) (names : List String) : List Cond := (Bundle.ownAtoms own ic X names).filter vx_no
/-- a word that the tables alone decide, or a good one -/
def vx_ot (w : Cond) : Bool := w.onTables || goodWord w
theorem vx_ot_at {args a' : Array Value} {s U : State} {w : Cond} (hW : s.WarmedH U.vm) (hvm : s.vm = U.vm) (hg : vx_ot w = true) (h : w.before args s = true) : w.before a' U = true := by
  simp only [vx_ot, Bool.or_eq_true] at hg
  rcases hg with hg | hg
  · exact va_tabs hg hvm h
  · exact word_at hW (good_of_word hg) h
/-- a list's words: the good ones out of the method's own list, the others by premises of their own -/
theorem vx_hat {args : Array Value} {s : State} {L B : List Cond} (h1 : ∀ w ∈ L.filter goodWord, w.before args s = true) (h2 : ∀ w ∈ L.filter (fun w => !goodWord w), w ∈ B) (h3 : ∀ w ∈ B, w.before args s = true) : ∀ w ∈ L, w.before args s = true := by
  intro w hw
  by_cases g : goodWord w = true
  · exact h1 w (List.mem_filter.mpr ⟨hw, g⟩)
  · refine h3 w (h2 w (List.mem_filter.mpr ⟨hw, ?_⟩))
    show (!goodWord w) = true
    cases hgw : goodWord w
    · rfl
    · exact absurd hgw g
theorem vx_c {args : Array Value} {s : State} {w : Cond} {B : List Cond} (h : w.before args s = true) (t : ∀ w ∈ B, w.before args s = true) : ∀ w' ∈ w :: B, w'.before args s = true := fun w' h' => (List.mem_cons.mp h').elim (fun e => by rw [e]; exact h) (t w')
theorem vx_n {args : Array Value} {s : State} : ∀ w ∈ ([] : List Cond), w.before args s = true := fun _ h => nomatch h
theorem vx_own {args : Array Value} {s : State} {L : List Cond} (h1 : ∀ w ∈ L.filter vx_no, w.before args s = true)
    (hU : (Cond.isRef (.static Bundle.tN "UNASSIGNED_STACK" Bundle.steD)).before args s = true) (hN : (Cond.isRef (.static Bundle.tN "SUPPRESSED_SENTINEL" Bundle.listD)).before args s = true)
    (lU : (Cond.laysStatic Bundle.tN "UNASSIGNED_STACK" Bundle.steD).before args s = true) (lN : (Cond.laysStatic Bundle.tN "SUPPRESSED_SENTINEL" Bundle.listD).before args s = true) : ∀ w ∈ L, w.before args s = true := by
  intro w hw
  by_cases e1 : w = .isRef (.static Bundle.tN "UNASSIGNED_STACK" Bundle.steD)
  · rw [e1]; exact hU
  · by_cases e2 : w = .isRef (.static Bundle.tN "SUPPRESSED_SENTINEL" Bundle.listD)
    · rw [e2]; exact hN
    · by_cases e3 : w = .laysStatic Bundle.tN "UNASSIGNED_STACK" Bundle.steD
      · rw [e3]; exact lU
      · by_cases e4 : w = .laysStatic Bundle.tN "SUPPRESSED_SENTINEL" Bundle.listD
        · rw [e4]; exact lN
        · exact h1 w (List.mem_filter.mpr ⟨hw, by unfold vx_no; rw [decide_eq_true e1, decide_eq_true e2, decide_eq_true e3, decide_eq_true e4]; rfl⟩)
/-- where a static field lies, its class's statics cell in H -/
def vx_L (C n d : String) (A : Nat → Prop) (U : State) (H : Heap) : Prop := ∃ (c : ClassId) (k : Class) (i : Nat) (f : Field) (a : Nat) (cell : Cell), U.vm.findClass C = some c ∧ U.fieldFound? C n d = some (c, k, i, f) ∧ f.isStatic = true ∧ k.statics = some a ∧ H[a]? = some cell ∧ cell.vm.isStatics = true ∧ cell.cls = c ∧ f.slot < cell.slots.size ∧ k.staticTypes[f.slot]? = some f.type ∧ ¬ A a
theorem vx_L.moved {C n d : String} {A : Nat → Prop} {u U : State} {H : Heap} (hvm : u.vm.Alike U.vm) (h : vx_L C n d A u H) : vx_L C n d A U H := by
  obtain ⟨c, k, i, f, a, cell, h1, h2, h3, h4, h5, h6, h7, h8, h9, h10⟩ := h
  obtain ⟨k', hi', he⟩ := State.fieldFound?_setVm hvm h2
  exact ⟨c, k', i, f, a, cell, by rw [hvm.findClass]; exact h1, hi', h3, by rw [he]; exact h4, h5, h6, h7, h8, by rw [he]; exact h9, h10⟩
theorem vx_L.kept {C n d : String} {A : Nat → Prop} {U : State} {H H1 : Heap} (h : vx_L C n d A U H) (hq : ∀ a : Nat, a < H.size → ¬ A a → H1[a]? = H[a]?) : vx_L C n d A U H1 := by
  obtain ⟨c, k, i, f, a, cell, h1, h2, h3, h4, h5, h6, h7, h8, h9, h10⟩ := h
  exact ⟨c, k, i, f, a, cell, h1, h2, h3, h4, by rw [hq a (Array.getElem?_eq_some_iff.mp h5).1 h10]; exact h5, h6, h7, h8, h9, h10⟩
theorem vx_L.narrow {C n d : String} {A B : Nat → Prop} {U : State} {H : Heap} (h : vx_L C n d A U H) (hAB : ∀ q, B q → A q) : vx_L C n d B U H := by
  obtain ⟨c, k, i, f, a, cell, h1, h2, h3, h4, h5, h6, h7, h8, h9, h10⟩ := h
  exact ⟨c, k, i, f, a, cell, h1, h2, h3, h4, h5, h6, h7, h8, h9, fun z => h10 (hAB _ z)⟩
theorem vx_L.word {C n d : String} {A : Nat → Prop} {s : State} {args : Array Value} (h : vx_L C n d A s s.heap) : (Cond.laysStatic C n d).before args s = true := by
  obtain ⟨c, k, i, f, a, cell, h1, h2, h3, h4, h5, h6, h7, h8, h9, -⟩ := h
  show (Cond.laysStatic C n d).holds args s none s [] = true
  exact Cond.laysStatic_of h1 h2 h3 h4 h5 h6 h7 h8 h9
/-- .. and what it holds: null or some reference -/
def vx_Zq (C n d : String) (A : Nat → Prop) (U : State) (H : Heap) : Prop := va_Zq C n d A U H ∧ vx_L C n d A U H
theorem vx_Zq.moved {C n d : String} {A : Nat → Prop} {u U : State} {H : Heap} (hvm : u.vm.Alike U.vm) (h : vx_Zq C n d A u H) : vx_Zq C n d A U H := ⟨va_Zq.moved hvm h.1, vx_L.moved hvm h.2⟩
theorem vx_Zq.kept {C n d : String} {A : Nat → Prop} {U : State} {H H1 : Heap} (h : vx_Zq C n d A U H) (hq : ∀ a : Nat, a < H.size → ¬ A a → H1[a]? = H[a]?) : vx_Zq C n d A U H1 := ⟨va_Zq.kept h.1 hq, vx_L.kept h.2 hq⟩
theorem vx_Zq.narrow {C n d : String} {A B : Nat → Prop} {U : State} {H : Heap} (h : vx_Zq C n d A U H) (hAB : ∀ q, B q → A q) : vx_Zq C n d B U H := ⟨va_Zq.narrow h.1 hAB, vx_L.narrow h.2 hAB⟩
theorem vx_Zqof {args : Array Value} {s : State} {C n d : String} {A : Nat → Prop} (hl : (Cond.laysStatic C n d).before args s = true) (hini : (Cond.initialized C).before args s = true) (h : (Cond.isRef (.static C n d)).before args s = true) (hA : ∀ a : Nat, a < s.heap.size → ¬ A a) : vx_Zq C n d A s s.heap := by
  refine ⟨va_Zqof hl hini h hA, ?_⟩
  obtain ⟨c, k, i, f, a, cell, h1, h2, h3, h4, h5, h6, h7, h8, h9⟩ := Cond.laysStatic_spec hl
  exact ⟨c, k, i, f, a, cell, h1, h2, h3, h4, h5, h6, h7, h8, h9, hA a (Array.getElem?_eq_some_iff.mp h5).1⟩
theorem vx_isRef {C n d : String} {v : Value} {A : Nat → Prop} {s : State} {args : Array Value} (h : va_Z C n d v A s s.heap) (hv : v.isRef = true) : (Cond.isRef (.static C n d)).before args s = true := by
  obtain ⟨cf, kf, fi, f, a, cell, h1, h2, h3, h4, h5, h6, h7, -⟩ := h
  have he : (Term.static C n d).eval args s none [] s = some v := by
    simp [Term.eval, State.fieldNamed?, h1, h2, h4, h5, h6, h7]
  simp only [Cond.before, Cond.holds, Cond.value, he]
  cases v <;> simp_all [Value.isRef]
theorem vx_isRefq {C n d : String} {A : Nat → Prop} {s : State} {args : Array Value} (h : va_Zq C n d A s s.heap) : (Cond.isRef (.static C n d)).before args s = true := by
  rcases h with h | ⟨t, h⟩
  · exact vx_isRef h rfl
  · exact vx_isRef h rfl
/-- the same frame, seen from here: as if the method were called anew in this heap -/
theorem vx_rebase {T : State} (X : Stand p l e R s m args below meth c T locs cells slots) {R' : Room} (hf : R'.frames ≤ R.frames) (hl : R'.locals ≤ R.locals) (hc : cells + R'.cells ≤ R.cells) (hs : slots + R'.slots ≤ R.slots) :
    Stand p l e R' ((T.setVm s.vm).setFrames (.invoking m args :: below)) m args below meth c T [] 0 0 := by
  have htop : (T.setVm s.vm).topJava?.isSome := X.here.top
  have hF : ((T.setVm s.vm).setFrames (.invoking m args :: below)).frames = .invoking m args :: below := State.frames_setFrames _ (State.cur_lt_of_top htop)
  obtain ⟨g₀, hg0⟩ := Option.isSome_iff_exists.mp htop
  obtain ⟨r, hr⟩ := State.topJava?_eq_some.mp hg0
  have hl9 : e.platform.stackLimits (T.setVm s.vm).me = e.platform.stackLimits s.me := X.limits
  have hb9 : (T.setVm s.vm).me.stackBytes = s.me.stackBytes := X.bytes
  refine ⟨X.admits, X.cas, X.clock, hF, ?_, X.hears, X.method, X.code, X.here, X.tail, X.warmed, ?_, ?_, ?_⟩
  · have h := X.room
    have hU : ((T.setVm s.vm).setFrames (.invoking m args :: below)).localsInUse = s.localsInUse := by
      rw [State.localsInUse_invoking hF (meth := meth) (c := c) X.method X.code, State.localsInUse_invoking X.frames X.method X.code]
    simp only [State.hasRoom, Bool.and_eq_true, decide_eq_true_eq] at h ⊢
    obtain ⟨⟨⟨⟨h1, h2, h3, h4, h5, h6⟩, h7⟩, h8⟩, h9⟩ := h
    rw [X.frames, List.length_cons] at h2 h3
    have q1 := X.heapSize
    have q2 := X.used
    simp only [hF, hU, List.length_cons, State.stackLimits_setFrames, State.stackBytes_setFrames, hl9, hb9]
    refine ⟨⟨⟨⟨by omega, by omega, by omega, by omega, by omega, h6⟩, ?_⟩, ?_⟩, X.book⟩
    · show T.heap.size + R'.cells ≤ e.platform.maxCells
      omega
    · show T.slotsUsed + R'.slots ≤ e.platform.maxSlots
      omega
  · rw [State.stackLimits_setFrames]; rfl
  · rw [State.stackBytes_setFrames]; rfl
  · refine ⟨?_, Nat.le_refl _, Nat.le_refl _, ?_, ?_, fun a c9 h9 => ⟨c9, h9, rfl, rfl, fun _ _ => rfl⟩⟩
    · obtain ⟨t, ht, -⟩ := State.frames_cons hr
      show T.setVm s.vm = { ((T.setVm s.vm).setFrames (.invoking m args :: below)).setFrames (T.setVm s.vm).frames with heap := T.heap, slotsUsed := T.slotsUsed }
      rw [State.setFrames_setFrames, State.setFrames_self ht]
      rfl
    · show T.slotsUsed = T.slotsUsed + ((T.heap.toList.drop T.heap.size).map (·.slots.size)).sum
      rw [List.drop_eq_nil_of_le (Nat.le_of_eq Array.length_toList)]
      rfl
    · show ((T.heap.toList.drop T.heap.size).map (·.slots.size)).sum ≤ 0
      rw [List.drop_eq_nil_of_le (Nat.le_of_eq Array.length_toList)]
      exact Nat.le_refl _
/-- 'throw new E()': new; dup; invokespecial; athrow -/
theorem vx_throw0 {cc : ByteArray} {pc : Nat} (hexec : p.tables.exec = Jvm.exec) (hb : c.code = cc) (hl : l.stackTraces = false) {own cls : String} {names : List String} {ik ic mc ms : Nat} {A : Nat → Prop}
    (hown : s.vm.findClass own = some m.cls) (hcls : Bundle.fit cls = true) (hnames : ∀ n ∈ names, Bundle.fit n = true)
    (hk : (Cond.classLink own ik cls).before args s = true) (hini : (Cond.initialized cls).before args s = true) (hat : ∀ w ∈ vx_at0 own ic cls names, w.before args s = true)
    (hgood : ∀ w ∈ Cond.classLink own ik cls :: Cond.initialized cls :: vx_at0 own ic cls names, vx_ot w = true)
    (hU : vx_Zq Bundle.tN "UNASSIGNED_STACK" Bundle.steD A s s.heap) (hN : vx_Zq Bundle.tN "SUPPRESSED_SENTINEL" Bundle.listD A s s.heap) (hS : va_S A s.heap H locs) (hsize : ls.size = c.maxLocals)
    (d0 : decode cc pc = .ok (.new ik, 3)) (d3 : decode cc (pc + 3) = .ok (.dup, 1)) (d4 : decode cc (pc + 4) = .ok (.invokespecial ic, 3)) (d7 : decode cc (pc + 7) = .ok (.athrow, 1))
    (hout : ∀ x ∈ c.exceptionTable.toList, covers x (pc + 7) = false)
    (hRframes : names.length + 3 < R.frames) (hRlocals : (rest.map fun v => v.category).sum + (13 * (names.length + 1) + 42) ≤ R.locals) (hRcells : cells + 1 ≤ R.cells) (hRslots : slots + 6 ≤ R.slots) (hlocks : meth.locks = false)
    (hx : ∀ t : State, s.vm.Alike t.vm → H.size ≤ t.heap.size → (∀ q : Nat, q < H.size → t.heap[q]? = H[q]?) → XC cls s t)
    (hf : ∀ z ∈ locs, free z.base) (hc : cells + 1 ≤ mc) (hs : slots + 6 ≤ ms) :
    W p l e R s m args below meth c H locs cells slots (vx_MQ below Qc XC args s mc ms free) (F0 m pc ls rest) := by
  intro T hT X
  have htr : e.platform.stackTraces = false := (show e.platform.stackTraces = l.stackTraces by rw [X.admits.platform]).trans hl
  have Y := vx_rebase X (R' := { frames := R.frames, locals := R.locals, cells := 1, slots := 6 }) (Nat.le_refl _) (Nat.le_refl _) hRcells hRslots
  obtain ⟨s', hA⟩ : ∃ z, z = (T.setVm s.vm).setFrames (.invoking m args :: below) := ⟨_, rfl⟩
  rw [← hA] at Y
  have hvm : s'.vm = s.vm := by rw [hA]; rfl
  have hhp : s'.heap = H := by rw [hA]; exact hT
  have hW0 : s.WarmedH s'.vm := by rw [hvm]; exact State.WarmedH.refl s
  have hat' : ∀ w ∈ vx_at0 own ic cls names, w.before args s' = true := fun w hw => vx_ot_at hW0 hvm.symm (hgood w (List.mem_cons_of_mem _ (List.mem_cons_of_mem _ hw))) (hat w hw)
  have hk' : (Cond.classLink own ik cls).before args s' = true := vx_ot_at hW0 hvm.symm (hgood _ List.mem_cons_self) hk
  have hini' : (Cond.initialized cls).before args s' = true := vx_ot_at hW0 hvm.symm (hgood _ (List.mem_cons_of_mem _ List.mem_cons_self)) hini
  have hU' : vx_Zq Bundle.tN "UNASSIGNED_STACK" Bundle.steD A s' s'.heap := by rw [hhp]; exact vx_Zq.moved hW0.alike (hU.kept hS.2.1)
  have hN' : vx_Zq Bundle.tN "SUPPRESSED_SENTINEL" Bundle.listD A s' s'.heap := by rw [hhp]; exact vx_Zq.moved hW0.alike (hN.kept hS.2.1)
  have h : ∀ w ∈ Bundle.ownAtoms0 own ic cls names, w.before args s' = true := vx_own hat' (vx_isRefq hU'.1) (vx_isRefq hN'.1) hU'.2.word hN'.2.word
  have hown' : s'.vm.findClass own = some m.cls := by rw [hvm]; exact hown
  have hins : (Cond.instantiable cls 6).before args s' = true := h _ (by simp [Bundle.ownAtoms0])
  obtain ⟨vm₁, cX, kX, hfX, hkX, -, -, X₁, st1⟩ := Y.newCold hexec (own := own) (C := cls) (index := ik) (n := 6) hown' hk' hins hini'
    (g := F0 m pc ls rest) rfl (by rw [hb]; exact d0) (Nat.le_refl _) (Nat.le_refl _)
  generalize hT1 : (T.setVm vm₁).pushCell { cls := cX, slots := kX.instanceTypes.map defaultValue, vm := .none } = T1 at X₁ st1
  have hcat : (Value.ref T.heap.size).category = 1 := rfl
  have hcellA : T1.heap[T.heap.size]? = some (freshCell cX kX) := by rw [← hT1]; exact State.heap_pushCell_size _ _
  have d3' : decode c.code (pc + 3) = .ok (.dup, 1) := by rw [hb]; exact d3
  obtain ⟨U, hsteps, hrun, hend, hW, hsame, ce, hce, hO⟩ := X₁.ctorThrow0 hexec htr (own := own) (cls := cls) (names := names) (ic := ic) hown' hcls hnames h (fun x hx => nomatch hx) hfX hkX hcellA (by rw [hhp, hT]; exact Nat.le_refl _)
    (g := { method := m, pc := pc + 4, locals := ls, stack := .ref T.heap.size :: .ref T.heap.size :: rest, locked := none }) rfl hsize rfl rfl (rest := rest) rfl
    (by rw [hb]; exact d4) (by rw [hb]; exact d7) hout hRframes (by simp only [List.map_cons, List.sum_cons, hcat]; omega) hlocks
  obtain ⟨f1, f2⟩ := vx_frame hsame
  rw [hhp] at f1 f2
  have hWs : s.WarmedH U.vm := State.WarmedH.trans hW0 hW
  have hcl : s.vm.findClass cls = some ce.cls := by
    have h9 := hO.cls
    rw [hvm] at h9
    exact h9
  have hall : s.sameButNew ({ U with vm := s.vm } : State) locs mc ms := by
    subst hA
    obtain ⟨e1, e2⟩ := hsame
    rw [State.setFrames_setFrames] at e1
    have h2 : (T.setVm s.vm).sameButNew ({ U with vm := s.vm } : State) [] (0 + 1) (0 + 6) := ⟨e1, e2⟩
    have h3 := X.same.trans h2
    rw [List.append_nil] at h3
    exact h3.mono hc hs
  refine ⟨U, ?_, .threw T.heap.size, hrun, hend, Or.inr ⟨T.heap.size, rfl, cls, ce, locs, hx U hWs.alike f1 (fun q hq => f2 q hq (fun z hz => nomatch hz)), hce, hO.vm, hcl, hWs, hall, hf⟩⟩
  refine st1 _ ?_
  show Steps p.tables e below (T1.setTop { method := m, pc := pc + 3, locals := ls, stack := .ref T.heap.size :: rest, locked := none }) _
  jvm_step X₁.here [X₁.here.top, hexec, d3', Value.category]
  exact hsteps
/-- 'throw new E("text")': new; dup; ldc; invokespecial; athrow -/
theorem vx_throwS {cc : ByteArray} {pc : Nat} (hexec : p.tables.exec = Jvm.exec) (hb : c.code = cc) (hl : l.stackTraces = false) {own cls text : String} {names : List String} {ik is ic mc ms sa : Nat} {A : Nat → Prop}
    (hown : s.vm.findClass own = some m.cls) (hcls : Bundle.fit cls = true) (hnames : ∀ n ∈ names, Bundle.fit n = true)
    (hk : (Cond.classLink own ik cls).before args s = true) (hini : (Cond.initialized cls).before args s = true) (hstr : vk_R own is text sa s) (hat : ∀ w ∈ vx_atS own ic cls names, w.before args s = true)
    (hgood : ∀ w ∈ Cond.classLink own ik cls :: Cond.initialized cls :: vx_atS own ic cls names, vx_ot w = true)
    (hU : vx_Zq Bundle.tN "UNASSIGNED_STACK" Bundle.steD A s s.heap) (hN : vx_Zq Bundle.tN "SUPPRESSED_SENTINEL" Bundle.listD A s s.heap) (hS : va_S A s.heap H locs) (hsize : ls.size = c.maxLocals)
    (d0 : decode cc pc = .ok (.new ik, 3)) (d3 : decode cc (pc + 3) = .ok (.dup, 1)) (d4 : decode cc (pc + 4) = .ok (.ldc is, 2)) (d6 : decode cc (pc + 6) = .ok (.invokespecial ic, 3)) (d9 : decode cc (pc + 9) = .ok (.athrow, 1))
    (hout : ∀ x ∈ c.exceptionTable.toList, covers x (pc + 9) = false)
    (hRframes : names.length + 3 < R.frames) (hRlocals : (rest.map fun v => v.category).sum + (13 * (names.length + 1) + 43) ≤ R.locals) (hRcells : cells + 1 ≤ R.cells) (hRslots : slots + 6 ≤ R.slots) (hlocks : meth.locks = false)
    (hx : ∀ t : State, s.vm.Alike t.vm → H.size ≤ t.heap.size → (∀ q : Nat, q < H.size → t.heap[q]? = H[q]?) → XC cls s t)
    (hf : ∀ z ∈ locs, free z.base) (hc : cells + 1 ≤ mc) (hs : slots + 6 ≤ ms) :
    W p l e R s m args below meth c H locs cells slots (vx_MQ below Qc XC args s mc ms free) (F0 m pc ls rest) := by
  intro T hT X
  have htr : e.platform.stackTraces = false := (show e.platform.stackTraces = l.stackTraces by rw [X.admits.platform]).trans hl
  have Y := vx_rebase X (R' := { frames := R.frames, locals := R.locals, cells := 1, slots := 6 }) (Nat.le_refl _) (Nat.le_refl _) hRcells hRslots
  obtain ⟨s', hA⟩ : ∃ z, z = (T.setVm s.vm).setFrames (.invoking m args :: below) := ⟨_, rfl⟩
  rw [← hA] at Y
  have hvm : s'.vm = s.vm := by rw [hA]; rfl
  have hhp : s'.heap = H := by rw [hA]; exact hT
  have hW0 : s.WarmedH s'.vm := by rw [hvm]; exact State.WarmedH.refl s
  have hat' : ∀ w ∈ vx_atS own ic cls names, w.before args s' = true := fun w hw => vx_ot_at hW0 hvm.symm (hgood w (List.mem_cons_of_mem _ (List.mem_cons_of_mem _ hw))) (hat w hw)
  have hk' : (Cond.classLink own ik cls).before args s' = true := vx_ot_at hW0 hvm.symm (hgood _ List.mem_cons_self) hk
  have hini' : (Cond.initialized cls).before args s' = true := vx_ot_at hW0 hvm.symm (hgood _ (List.mem_cons_of_mem _ List.mem_cons_self)) hini
  have hU' : vx_Zq Bundle.tN "UNASSIGNED_STACK" Bundle.steD A s' s'.heap := by rw [hhp]; exact vx_Zq.moved hW0.alike (hU.kept hS.2.1)
  have hN' : vx_Zq Bundle.tN "SUPPRESSED_SENTINEL" Bundle.listD A s' s'.heap := by rw [hhp]; exact vx_Zq.moved hW0.alike (hN.kept hS.2.1)
  have h : ∀ w ∈ Bundle.ownAtoms own ic cls names, w.before args s' = true := vx_own hat' (vx_isRefq hU'.1) (vx_isRefq hN'.1) hU'.2.word hN'.2.word
  have hown' : s'.vm.findClass own = some m.cls := by rw [hvm]; exact hown
  have hins : (Cond.instantiable cls 6).before args s' = true := h _ (by simp [Bundle.ownAtoms])
  obtain ⟨vm₁, cX, kX, hfX, hkX, -, -, X₁, st1⟩ := Y.newCold hexec (own := own) (C := cls) (index := ik) (n := 6) hown' hk' hins hini'
    (g := F0 m pc ls rest) rfl (by rw [hb]; exact d0) (Nat.le_refl _) (Nat.le_refl _)
  generalize hT1 : (T.setVm vm₁).pushCell { cls := cX, slots := kX.instanceTypes.map defaultValue, vm := .none } = T1 at X₁ st1
  have hcat : (Value.ref T.heap.size).category = 1 := rfl
  have hcellA : T1.heap[T.heap.size]? = some (freshCell cX kX) := by rw [← hT1]; exact State.heap_pushCell_size _ _
  have d3' : decode c.code (pc + 3) = .ok (.dup, 1) := by rw [hb]; exact d3
  have d4' : decode c.code (pc + 4) = .ok (.ldc is, 2) := by rw [hb]; exact d4
  have hstr' : vk_R own is text sa s' := vk_R.warm hW0 hstr
  obtain ⟨U, hsteps, hrun, hend, hW, hsame, ce, hce, hO⟩ := X₁.ctorThrowS hexec htr (own := own) (cls := cls) (names := names) (ic := ic) hown' hcls hnames h (fun x hx => nomatch hx) hfX hkX hcellA (by rw [hhp, hT]; exact Nat.le_refl _) (msg := .ref sa) rfl
    (g := { method := m, pc := pc + 6, locals := ls, stack := .ref sa :: .ref T.heap.size :: .ref T.heap.size :: rest, locked := none }) rfl hsize rfl rfl (rest := rest) rfl
    (by rw [hb]; exact d6) (by rw [hb]; exact d9) hout hRframes (by simp only [List.map_cons, List.sum_cons, hcat]; omega) hlocks
  obtain ⟨f1, f2⟩ := vx_frame hsame
  rw [hhp] at f1 f2
  have hWs : s.WarmedH U.vm := State.WarmedH.trans hW0 hW
  have hcl : s.vm.findClass cls = some ce.cls := by
    have h9 := hO.cls
    rw [hvm] at h9
    exact h9
  have hall : s.sameButNew ({ U with vm := s.vm } : State) locs mc ms := by
    subst hA
    obtain ⟨e1, e2⟩ := hsame
    rw [State.setFrames_setFrames] at e1
    have h2 : (T.setVm s.vm).sameButNew ({ U with vm := s.vm } : State) [] (0 + 1) (0 + 6) := ⟨e1, e2⟩
    have h3 := X.same.trans h2
    rw [List.append_nil] at h3
    exact h3.mono hc hs
  refine ⟨U, ?_, .threw T.heap.size, hrun, hend, Or.inr ⟨T.heap.size, rfl, cls, ce, locs, hx U hWs.alike f1 (fun q hq => f2 q hq (fun z hz => nomatch hz)), hce, hO.vm, hcl, hWs, hall, hf⟩⟩
  refine st1 _ ?_
  show Steps p.tables e below (T1.setTop { method := m, pc := pc + 3, locals := ls, stack := .ref T.heap.size :: rest, locked := none }) _
  jvm_step X₁.here [X₁.here.top, hexec, d3', Value.category]
  exact X₁.ldcString hexec (own := own) (text := text) (index := is) (a := sa) hown' hstr'.1 hstr'.2
    (g := { method := m, pc := pc + 4, locals := ls, stack := .ref T.heap.size :: .ref T.heap.size :: rest, locked := none }) rfl d4' _ hsteps
/-- 'throw new E("text")', the text by a wide index -/
theorem vx_throwSW {cc : ByteArray} {pc : Nat} (hexec : p.tables.exec = Jvm.exec) (hb : c.code = cc) (hl : l.stackTraces = false) {own cls text : String} {names : List String} {ik is ic mc ms sa : Nat} {A : Nat → Prop}
    (hown : s.vm.findClass own = some m.cls) (hcls : Bundle.fit cls = true) (hnames : ∀ n ∈ names, Bundle.fit n = true)
    (hk : (Cond.classLink own ik cls).before args s = true) (hini : (Cond.initialized cls).before args s = true) (hstr : vk_R own is text sa s) (hat : ∀ w ∈ vx_atS own ic cls names, w.before args s = true)
    (hgood : ∀ w ∈ Cond.classLink own ik cls :: Cond.initialized cls :: vx_atS own ic cls names, vx_ot w = true)
    (hU : vx_Zq Bundle.tN "UNASSIGNED_STACK" Bundle.steD A s s.heap) (hN : vx_Zq Bundle.tN "SUPPRESSED_SENTINEL" Bundle.listD A s s.heap) (hS : va_S A s.heap H locs) (hsize : ls.size = c.maxLocals)
    (d0 : decode cc pc = .ok (.new ik, 3)) (d3 : decode cc (pc + 3) = .ok (.dup, 1)) (d4 : decode cc (pc + 4) = .ok (.ldc_w is, 3)) (d7 : decode cc (pc + 7) = .ok (.invokespecial ic, 3)) (d10 : decode cc (pc + 10) = .ok (.athrow, 1))
    (hout : ∀ x ∈ c.exceptionTable.toList, covers x (pc + 10) = false)
    (hRframes : names.length + 3 < R.frames) (hRlocals : (rest.map fun v => v.category).sum + (13 * (names.length + 1) + 43) ≤ R.locals) (hRcells : cells + 1 ≤ R.cells) (hRslots : slots + 6 ≤ R.slots) (hlocks : meth.locks = false)
    (hx : ∀ t : State, s.vm.Alike t.vm → H.size ≤ t.heap.size → (∀ q : Nat, q < H.size → t.heap[q]? = H[q]?) → XC cls s t)
    (hf : ∀ z ∈ locs, free z.base) (hc : cells + 1 ≤ mc) (hs : slots + 6 ≤ ms) :
    W p l e R s m args below meth c H locs cells slots (vx_MQ below Qc XC args s mc ms free) (F0 m pc ls rest) := by
  intro T hT X
  have htr : e.platform.stackTraces = false := (show e.platform.stackTraces = l.stackTraces by rw [X.admits.platform]).trans hl
  have Y := vx_rebase X (R' := { frames := R.frames, locals := R.locals, cells := 1, slots := 6 }) (Nat.le_refl _) (Nat.le_refl _) hRcells hRslots
  obtain ⟨s', hA⟩ : ∃ z, z = (T.setVm s.vm).setFrames (.invoking m args :: below) := ⟨_, rfl⟩
  rw [← hA] at Y
  have hvm : s'.vm = s.vm := by rw [hA]; rfl
  have hhp : s'.heap = H := by rw [hA]; exact hT
  have hW0 : s.WarmedH s'.vm := by rw [hvm]; exact State.WarmedH.refl s
  have hat' : ∀ w ∈ vx_atS own ic cls names, w.before args s' = true := fun w hw => vx_ot_at hW0 hvm.symm (hgood w (List.mem_cons_of_mem _ (List.mem_cons_of_mem _ hw))) (hat w hw)
  have hk' : (Cond.classLink own ik cls).before args s' = true := vx_ot_at hW0 hvm.symm (hgood _ List.mem_cons_self) hk
  have hini' : (Cond.initialized cls).before args s' = true := vx_ot_at hW0 hvm.symm (hgood _ (List.mem_cons_of_mem _ List.mem_cons_self)) hini
  have hU' : vx_Zq Bundle.tN "UNASSIGNED_STACK" Bundle.steD A s' s'.heap := by rw [hhp]; exact vx_Zq.moved hW0.alike (hU.kept hS.2.1)
  have hN' : vx_Zq Bundle.tN "SUPPRESSED_SENTINEL" Bundle.listD A s' s'.heap := by rw [hhp]; exact vx_Zq.moved hW0.alike (hN.kept hS.2.1)
  have h : ∀ w ∈ Bundle.ownAtoms own ic cls names, w.before args s' = true := vx_own hat' (vx_isRefq hU'.1) (vx_isRefq hN'.1) hU'.2.word hN'.2.word
  have hown' : s'.vm.findClass own = some m.cls := by rw [hvm]; exact hown
  have hins : (Cond.instantiable cls 6).before args s' = true := h _ (by simp [Bundle.ownAtoms])
  obtain ⟨vm₁, cX, kX, hfX, hkX, -, -, X₁, st1⟩ := Y.newCold hexec (own := own) (C := cls) (index := ik) (n := 6) hown' hk' hins hini'
    (g := F0 m pc ls rest) rfl (by rw [hb]; exact d0) (Nat.le_refl _) (Nat.le_refl _)
  generalize hT1 : (T.setVm vm₁).pushCell { cls := cX, slots := kX.instanceTypes.map defaultValue, vm := .none } = T1 at X₁ st1
  have hcat : (Value.ref T.heap.size).category = 1 := rfl
  have hcellA : T1.heap[T.heap.size]? = some (freshCell cX kX) := by rw [← hT1]; exact State.heap_pushCell_size _ _
  have d3' : decode c.code (pc + 3) = .ok (.dup, 1) := by rw [hb]; exact d3
  have d4' : decode c.code (pc + 4) = .ok (.ldc_w is, 3) := by rw [hb]; exact d4
  have hstr' : vk_R own is text sa s' := vk_R.warm hW0 hstr
  obtain ⟨U, hsteps, hrun, hend, hW, hsame, ce, hce, hO⟩ := X₁.ctorThrowS hexec htr (own := own) (cls := cls) (names := names) (ic := ic) hown' hcls hnames h (fun x hx => nomatch hx) hfX hkX hcellA (by rw [hhp, hT]; exact Nat.le_refl _) (msg := .ref sa) rfl
    (g := { method := m, pc := pc + 7, locals := ls, stack := .ref sa :: .ref T.heap.size :: .ref T.heap.size :: rest, locked := none }) rfl hsize rfl rfl (rest := rest) rfl
    (by rw [hb]; exact d7) (by rw [hb]; exact d10) hout hRframes (by simp only [List.map_cons, List.sum_cons, hcat]; omega) hlocks
  obtain ⟨f1, f2⟩ := vx_frame hsame
  rw [hhp] at f1 f2
  have hWs : s.WarmedH U.vm := State.WarmedH.trans hW0 hW
  have hcl : s.vm.findClass cls = some ce.cls := by
    have h9 := hO.cls
    rw [hvm] at h9
    exact h9
  have hall : s.sameButNew ({ U with vm := s.vm } : State) locs mc ms := by
    subst hA
    obtain ⟨e1, e2⟩ := hsame
    rw [State.setFrames_setFrames] at e1
    have h2 : (T.setVm s.vm).sameButNew ({ U with vm := s.vm } : State) [] (0 + 1) (0 + 6) := ⟨e1, e2⟩
    have h3 := X.same.trans h2
    rw [List.append_nil] at h3
    exact h3.mono hc hs
  refine ⟨U, ?_, .threw T.heap.size, hrun, hend, Or.inr ⟨T.heap.size, rfl, cls, ce, locs, hx U hWs.alike f1 (fun q hq => f2 q hq (fun z hz => nomatch hz)), hce, hO.vm, hcl, hWs, hall, hf⟩⟩
  refine st1 _ ?_
  show Steps p.tables e below (T1.setTop { method := m, pc := pc + 3, locals := ls, stack := .ref T.heap.size :: rest, locked := none }) _
  jvm_step X₁.here [X₁.here.top, hexec, d3', Value.category]
  exact X₁.ldcStringW hexec (own := own) (text := text) (index := is) (a := sa) hown' hstr'.1 hstr'.2
    (g := { method := m, pc := pc + 4, locals := ls, stack := .ref T.heap.size :: .ref T.heap.size :: rest, locked := none }) rfl d4' _ hsteps
end Ends
section Bodies
variable {l : Launch}
theorem vx_ofW {y : MethodName} {ws ws' : List Cond} {rm : Room} {Pc : Array Value → State → Prop} {Qc : Array Value → State → Outcome → State → Prop} {XC : String → State → State → Prop} {mc ms : Nat} {free : Addr → Prop} {cc : ByteArray} {maxL : Nat} {ret : Option FieldType}
    (hy : plainName y.cls = true) (hw : ws = Cond.code y cc maxL ret :: ws')
    (body : ∀ p e s m args below meth c s₁, BodyLoose p l y (headSpec ws rm) cc maxL ret e s m args below meth c s₁ → c.maxLocals = maxL → (∀ x ∈ c.exceptionTable.toList, False) → Pc args s →
      W p l e (headSpec ws rm).room s m args below meth c s.heap [] 0 0 (vx_MQ below Qc XC args s mc ms free) (entryFrame m args maxL)) : vx_Met l y ws rm Pc Qc XC mc ms free := by
  refine MetFree.of_bodyS (code := cc) (maxLocals := maxL) (ret := ret) hy ?_ ?_
  · intro args s m h hn
    obtain ⟨meth, c, h1, h2, h3, h4, h5, h6, -, -⟩ := Cond.code_spec hn (atoms_spec (ws := ws) h _ (by rw [hw]; exact List.mem_cons_self))
    exact ⟨meth, c, h1, h2, h3, h4, h5, h6⟩
  · intro p e s m args below meth c s₁ B hml hP _
    have hh0 : s₁.heap = s.heap := by rw [B.state]; rfl
    have ht : ∀ x ∈ c.exceptionTable.toList, False := by
      obtain ⟨meth9, c9, h1, h2, -, -, -, -, h7, -⟩ := Cond.code_spec B.named (atoms_spec (ws := ws) B.pre _ (by rw [hw]; exact List.mem_cons_self))
      cases Option.some.inj (h1.symm.trans B.method)
      cases Option.some.inj (h2.symm.trans (Stand.of_body B).code)
      intro x hx
      rw [Array.isEmpty_iff.mp h7] at hx
      cases hx
    obtain ⟨t, a1, o, b1, b2, b3⟩ := body p e s m args below meth c s₁ B hml ht hP s₁ hh0 (Stand.of_body B)
    exact ⟨t, o, a1, b1, b2, b3⟩
/-- the table of a body with handlers -/
theorem vx_table {p : Program} {x y : MethodName} {S : Spec} {cc bytes : ByteArray} {maxL maxL' : Nat} {ret ret' : Option FieldType} {e : Env} {s s₁ : State} {m : MethodId} {args : Array Value} {below : List Frame} {meth : Method} {c : Code} {hh : List (Nat × Nat × Nat × Nat)}
    (B : BodyLoose p l y S cc maxL ret e s m args below meth c s₁) (h : (Cond.codeWith y bytes maxL' ret' hh).before args s = true) : c.exceptionTable.toList = tableOf hh := by
  obtain ⟨m9, meth9, c9, hn9, h1, h2, -, -, h6, -⟩ := Cond.codeWith_spec h
  cases Option.some.inj (hn9.symm.trans B.named)
  cases Option.some.inj (h1.symm.trans B.method)
  cases Option.some.inj (h2.symm.trans (Stand.of_body B).code)
  rw [← h6, table_eq]
end Bodies
end VXA
/-! ===== END ===== -/
/-! ===== BEGIN a static call of a method with an exception table ===== -/
section VXS
variable {p : Program} {l : Launch} {e : Env} {R : Room} {s : State} {m : MethodId} {args : Array Value} {below : List Frame} {meth : Method} {c : Code} {T : State} {H : Heap} {locs : List Loc} {cells slots : Nat}
abbrev vx_CSW (R : Room) (s : State) (args : Array Value) (own : String) (index : Nat) (y : MethodName) (bytes : ByteArray) (maxL : Nat) (ret : Option FieldType) (hh : List (Nat × Nat × Nat × Nat)) (ws : List Cond) (rm : Room) (mc ms n : Nat) : Prop :=
  (rm.cells = mc ∧ rm.slots = ms ∧ rm.frames + 1 ≤ R.frames ∧ 8 + (maxL + 11) + rm.locals ≤ R.locals ∧ (∀ w ∈ ws, ∀ (a' : Array Value) (U : State), s.WarmedH U.vm → w.before a' U = true) ∧ Cond.codeWith y bytes maxL ret hh ∈ ws) ∧
  (Cond.codeWith y bytes maxL ret hh).before args s = true ∧ (Cond.initialized y.cls).before args s = true ∧ (y.cls ≠ "java/lang/invoke/MethodHandle" ∧ y.cls ≠ "java/lang/invoke/VarHandle") ∧
  (∀ sig, parseMethodDescriptor y.desc = some sig → n = sig.parameters.length) ∧ (Cond.methodLink own index y).before args s = true ∧ (Cond.static y).before args s = true
theorem vx_cwSW {own : String} {index maxL mc ms : Nat} {y : MethodName} {bytes : ByteArray} {ret : Option FieldType} {hh : List (Nat × Nat × Nat × Nat)} {Ts ws ws' : List Cond} {rm : Room} (n : Nat) (ht : ∀ w ∈ Ts, w.before args s = true) (hT : GoodIn Ts (va_wsS own index y ws)) (hw : ws = Cond.codeWith y bytes maxL ret hh :: ws') (hrc : rm.cells = mc) (hrs : rm.slots = ms)
    (hd : y.cls ≠ "java/lang/invoke/MethodHandle" ∧ y.cls ≠ "java/lang/invoke/VarHandle" ∧ (parseMethodDescriptor y.desc).map (fun d => d.parameters.length) = some n) (hR : rm.frames + 1 ≤ R.frames ∧ 8 + (maxL + 11) + rm.locals ≤ R.locals) :
    vx_CSW R s args own index y bytes maxL ret hh ws rm mc ms n := by
  have ok : ∀ w ∈ va_wsS own index y ws, w.before args s = true := fun w h => ht w (hT w h).1
  have hG : GoodIn Ts ws := fun w h => hT w (by unfold va_wsS; exact List.mem_append_right _ h)
  have hc : Cond.codeWith y bytes maxL ret hh ∈ ws := by rw [hw]; exact List.mem_cons_self
  refine ⟨⟨hrc, hrs, hR.1, hR.2, pay_in ht hG, hc⟩, ht _ (hG _ hc).1, ok _ (by simp [va_wsS]), ⟨hd.1, hd.2.1⟩, fun sig h => ?_, ok _ (by simp [va_wsS]), ok _ (by simp [va_wsS])⟩
  have h2 := hd.2.2
  rw [h] at h2
  exact (Option.some.inj h2).symm
theorem vx_callSW (X : Stand p l e R s m args below meth c T locs cells slots) (hexec : p.tables.exec = Jvm.exec) {own : String} {index : Nat} {y : MethodName} {bytes : ByteArray} {maxL : Nat} {ret : Option FieldType} {hh : List (Nat × Nat × Nat × Nat)}
    (hown : s.vm.findClass own = some m.cls) (hlink : (Cond.methodLink own index y).before args s = true) (hstat : (Cond.static y).before args s = true) (hinit : (Cond.initialized y.cls).before args s = true)
    (hcode : (Cond.codeWith y bytes maxL ret hh).before args s = true) (hy : y.cls ≠ "java/lang/invoke/MethodHandle" ∧ y.cls ≠ "java/lang/invoke/VarHandle")
    {W9 : Nat} {Pre : Pt → Array Value → Prop} {Post : Pt → Array Value → Option Value → Pt → Prop} (hK : Back l R p e below s args y 3 W9 Pre Post)
    {g : JFrame} (hg : g.method = m) (hsize : g.locals.size = c.maxLocals) {argsL rest : List Value} (hlen : ∀ sig, parseMethodDescriptor y.desc = some sig → argsL.length = sig.parameters.length)
    (hstack : g.stack = argsL.reverse ++ rest) (hW : 2 * g.monitorRoom + (rest.map fun v => v.category).sum ≤ W9) (hdg : decode c.code g.pc = .ok (.invokestatic index, 3))
    (hpre : ∀ vm₁, s.WarmedH vm₁ → Pre ⟨T.setVm vm₁, locs, cells, slots⟩ argsL.toArray) :
    ∃ (v : Option Value) (vm₁ : Vm) (B : Pt), s.WarmedH vm₁ ∧ Stand p l e R s m args below meth c B.U B.locs B.cells B.slots ∧ Post ⟨T.setVm vm₁, locs, cells, slots⟩ argsL.toArray v B ∧
      ∀ target, Steps p.tables e below (B.U.setTop { g with pc := g.pc + 3, stack := v.toList ++ rest }) target → Steps p.tables e below (T.setTop g) target := by
  obtain ⟨mk, methM, cM, hnamed, hmethM, -, -, -, -, -, -, hsigM⟩ := Cond.codeWith_spec hcode
  have hstatic : methM.isStatic = true := Cond.static_spec hnamed hmethM hstat
  obtain ⟨kP, hkP, -⟩ := className_of_methodNamed hnamed
  have hinitP : kP.init = .initialized := Cond.initialized_spec (findClass_of_methodNamed hnamed) hkP hinit
  obtain ⟨vm₁, X₁, hstep₁⟩ := X.invokestatic hexec hown hlink hnamed hmethM hstatic hkP hinitP hy (g := g) hg (argsL := argsL) (rest := rest) (hlen _ hsigM) hstack hdg
  obtain ⟨v, B, X', hpost, hsteps⟩ := hK m meth c ⟨T.setVm vm₁, locs, cells, slots⟩ { g with stack := rest } (.invokestatic index) mk argsL.toArray X₁ hg hsize hdg hW (X₁.named hnamed) (hpre vm₁ X₁.warmed)
  exact ⟨v, vm₁, B, X₁.warmed, X', hpost, fun target h => hstep₁ _ fun acts => by rw [doInvoke_state]; exact hsteps.trans h⟩
theorem vx_runSW {y : MethodName} {bytes cc : ByteArray} {maxL nL mc ms n index : Nat} {ret : Option FieldType} {hh : List (Nat × Nat × Nat × Nat)} {ws : List Cond} {rm : Room} {Pc : Array Value → State → Prop} {Qc : Array Value → State → Outcome → State → Prop} {free : Addr → Prop} {Ts : List Cond} {own : String} {As rest : List Value} {g : JFrame}
    (S : CallFix p m c cc nL s args Ts own) (hM : Met l y ws rm Pc Qc mc ms free) (cw : vx_CSW R s args own index y bytes maxL ret hh ws rm mc ms n) (hp : PreS s H Pc As)
    (hg : g.method = m) (hn : As.length = n) (hsize : g.locals.size = nL) (hstack : g.stack = As.reverse ++ rest) (hW : 2 * g.monitorRoom + (rest.map fun v => v.category).sum ≤ 8) (hdg : decode cc g.pc = .ok (.invokestatic index, 3)) (hf : cells + mc ≤ R.cells ∧ slots + ms ≤ R.slots) :
    va_Run p l e R s m args below meth c H locs cells slots mc ms g rest (Qc As.toArray) (free) := by
  obtain ⟨⟨hrc, hrs, hfr, hlo, hws, hcw⟩, hcode, hini, hy, hlen, hl, hstt⟩ := cw
  have hK : Back l R p e below s args y 3 8 (PreOf R mc ms Pc) (PostOf Qc mc ms free) := va_backW (hh := hh) (bytes := bytes) (maxL := maxL) (ret := ret) hM hp.1 hrc hrs hfr hlo hws hcw (fun a' U hW => word_at hW (Or.inl (by first | rfl | simp [Cond.onTables, Cond.keeps, Cond.steady])) hini)
  obtain ⟨hx, hb, hml, ho, -⟩ := S
  intro T hT X
  obtain ⟨v, vm₁, ⟨U', l2, c2, s2⟩, hW₁, X', ⟨g', mk, t, L, e1, e2, hq, h1, hL, h2, h3⟩, st⟩ := vx_callSW X hx (hh := hh) (bytes := bytes) (maxL := maxL) (ret := ret) ho hl hstt hini hcode hy hK hg (hsize.trans hml.symm) (argsL := As) (rest := rest) (fun sig h => hn.trans (hlen sig h)) hstack hW (by rw [hb]; exact hdg)
    (fun vm₁ hW₁ => ⟨hf.1, hf.2, hp.2 (T.setVm vm₁) hT hW₁⟩)
  dsimp only [Pt.U, Pt.locs, Pt.cells, Pt.slots] at X' e1 e2 h1 h2 h3 st
  subst h1; subst h2; subst h3
  exact ⟨v, (T.setVm vm₁).calling g' mk As.toArray, t, U', L, hT, X', hL, e1, e2, hq, st⟩
/-- not caught here, past rows that name other classes: it goes on to the caller -/
theorem vx_outP {p : Program} {l : Launch} {e : Env} {R : Room} {s : State} {m : MethodId} {args : Array Value} {below : List Frame} {meth : Method} {c : Code} {H : Heap} {locs : List Loc} {cells slots : Nat} {free : Addr → Prop} {ls : Array Slot} {rest : List Value} {Qc : Array Value → State → Outcome → State → Prop} {XC : String → State → State → Prop}
    {pc : Nat} {own E : String} {ce : Cell} {q : Addr} {mc ms : Nat} (hown : s.vm.findClass own = some m.cls) (hlocks : meth.locks = false)
    (hpass : ∀ z ∈ c.exceptionTable.toList, covers z pc = false ∨ (z.catchType ≠ 0 ∧ ∃ nm : String, (Cond.classLink own z.catchType nm).before args s = true ∧ va_Nc E nm s)) (hcell : H[q]? = some ce) (hv : ce.vm = .none) (hcl : s.vm.findClass E = some ce.cls)
    (hx : ∀ t : State, t.heap = H → s.vm.Alike t.vm → XC E s t) (hf : ∀ z ∈ locs, free z.base) (hc : cells ≤ mc) (hs : slots ≤ ms) :
    vx_W p l e R s m args below meth c H locs cells slots (vx_MQ below Qc XC args s mc ms free) (F0 m pc ls rest) q := by
  intro T hT X
  have hpl : e.platform.magicAccessors = ({} : Platform).magicAccessors := by rw [X.admits.platform]
  obtain ⟨vm', hW', X', st⟩ := X.outThrough hlocks q (g := F0 m pc ls rest) rfl rfl rfl (cell := ce) (by rw [hT]; exact hcell) (by rw [hv]; rfl)
    (by obtain ⟨k9, h9, -⟩ := Vm.findClass_spec hcl; exact ⟨k9, h9⟩) (fun z hz => by
      rcases hpass z hz with h | ⟨hz0, nm, hl1, hn1⟩
      · exact Or.inl h
      · obtain ⟨c6, hc6, hcl6⟩ := Cond.classLink_spec hown hl1 e.platform hpl
        obtain ⟨a8, b8, h1, h2, h3⟩ := hn1
        cases Option.some.inj (h1.symm.trans hcl)
        cases Option.some.inj (h2.symm.trans hc6)
        exact Or.inr ⟨hz0, _, hcl6, h3⟩)
  obtain ⟨g₀, hfr⟩ := X'.frames_eq
  have hcell9 : ((T.setVm vm').setFrames (.throwing q :: below)).heap[q]? = some ce := by
    show T.heap[q]? = some ce
    rw [hT]; exact hcell
  have hend : Ended ((T.setVm vm').setFrames (.throwing q :: below)) below (.threw q) := State.frames_setFrames _ (State.cur_lt_of_frames hfr)
  refine ⟨(T.setVm vm').setFrames (.throwing q :: below), ?_, .threw q, X'.here.running, hend, Or.inr ⟨q, rfl, E, ce, locs, hx _ hT (X'.ends _).1.alike, hcell9, hv, hcl, (X'.ends _).1, (X'.ends _).2.mono hc hs, hf⟩⟩
  rw [X.pushThrowing_eq]
  exact st
/-- a thing of a world lies in the heap -/
theorem vx_lt {D : va_G} {cl : List vw_C} {ws : va_W} {H1 : Heap} (h : va_P D cl ws H1) {k : Nat} {q : Nat × va_E} (hk : ws[k]? = some q) : q.1 < H1.size := (h k q hk).lt
end VXS
/-! ===== END ===== -/
/-! ===== BEGIN methods with a table of their own: called by a name, returning or throwing ===== -/
section VXH
/-! vx_backW, vx_callVX, vx_callSX, vx_callVW, vx_runVW, vx_runVX, vx_runSX, vx_ofWH follow the same proofs as their sisters above (Free/Laws.lean, Shelf42/LK1.lean); vx_outP calls Shelf42/NT130.lean (outThrough). -/
section
variable {l : Launch} {R : Room} {p : Program} {e : Env} {below : List Frame} {s : State} {sargs : Array Value} {y : MethodName} {len W9 : Nat}
theorem vx_backW {ws : List Cond} {rm : Room} {Pc : Array Value → State → Prop} {Qc : Array Value → State → Outcome → State → Prop} {XC : String → State → State → Prop} {mc ms : Nat} {free : Addr → Prop} {bytes : ByteArray} {maxL : Nat} {ret : Option FieldType} {hh : List (Nat × Nat × Nat × Nat)}
    (hM : vx_Met l y ws rm Pc Qc XC mc ms free) (hblind : FrameBlind Pc) (hrc : rm.cells = mc) (hrs : rm.slots = ms)
    (hframes : rm.frames + 1 ≤ R.frames) (hlocals : W9 + (maxL + 11) + rm.locals ≤ R.locals)
    (hws : ∀ w ∈ ws, ∀ a' U, s.WarmedH U.vm → w.before a' U = true) (hcode : Cond.codeWith y bytes maxL ret hh ∈ ws) (hinit : ∀ a' U, s.WarmedH U.vm → (Cond.initialized y.cls).before a' U = true) :
    vx_Back l R p e below s sargs y len W9 (PreOf R mc ms Pc) (PostOf Qc mc ms free) (vx_Post XC mc ms free) := by
  intro m meth c A g ig mk a X hg hsize hdg hW hn hp
  have h1 : (headSpec ws rm).pre.before a A.U = true := atoms_intro fun w hw => hws w hw _ _ X.warmed
  have h2 : (Cond.codeWith y bytes maxL ret hh).before a A.U = true := hws _ hcode _ _ X.warmed
  have h3 : (Cond.initialized y.cls).before a A.U = true := hinit _ _ X.warmed
  have h4 : A.cells + (headSpec ws rm).room.cells ≤ R.cells := by rw [show (headSpec ws rm).room.cells = mc from hrc]; exact hp.1
  have h5 : A.slots + (headSpec ws rm).room.slots ≤ R.slots := by rw [show (headSpec ws rm).room.slots = ms from hrs]; exact hp.2.1
  have hPc : Pc a (A.U.calling g mk a) := hblind _ _ _ _ hp.2.2
  obtain ⟨U, Ls, c0, s0⟩ := A
  dsimp only [Pt.U, Pt.locs, Pt.cells, Pt.slots] at h1 h2 h3 h4 h5 X hn hPc ⊢
  obtain ⟨m9, methY, cY, hn9, hmY, hcY, -, hlY, -⟩ := Cond.codeWith_spec h2
  cases Option.some.inj (hn9.symm.trans hn)
  obtain ⟨kY, hkY, -⟩ := className_of_methodNamed hn
  have hinitY : kY.init = .initialized := Cond.initialized_spec (findClass_of_methodNamed hn) hkY h3
  have h : At U g.method c below := by rw [hg]; exact X.here
  have hlocals9 : W9 + (maxL + 11) + (headSpec ws rm).room.locals ≤ R.locals := hlocals
  have happ : (headSpec ws rm).appliesLoose y e.platform (U.calling g mk a) = true :=
    Spec.appliesLoose_calling (g := g) h hdg hn hkY hinitY
      (X.room_calling (g := g) (R' := (headSpec ws rm).room) hsize hmY hcY hframes (by rw [hlY]; omega) h4 h5) h1
  obtain ⟨mid, hmid⟩ := h.above
  have hfr : (U.setTop g).frames = (.java g :: mid) ++ below := by rw [State.frames_setTop' g h.top, hmid]; rfl
  obtain ⟨o, s₂, hsteps, -, hend, hq⟩ := Steps.callFree hM p X.admits X.cas X.clock (acts := []) hfr happ hPc trivial
  have hq' : vx_Q Qc XC mc ms free a (U.calling g mk a) o s₂ := hq
  rw [State.frames_setTop' g h.top] at hend
  obtain ⟨g₀, hg0⟩ := Option.isSome_iff_exists.mp h.top
  obtain ⟨r, hr⟩ := State.topJava?_eq_some.mp hg0
  have hr' : (({ U with heap := s₂.heap, slotsUsed := s₂.slotsUsed } : State).setVm s₂.vm).frames = .java g₀ :: r := hr
  rcases hq' with ⟨hqc, L, hfe, hL⟩ | ⟨q, rfl, E, ce, L, hx, hce, hcv, hcl, hW₂, hsm, hL⟩
  · obtain ⟨⟨v, rfl⟩, hW₂, e2, q2, q3, q4, q5, q6⟩ := id hfe
    have e3 : s₂ = ({ (U.calling g mk a).setFrames s₂.frames with heap := s₂.heap, slotsUsed := s₂.slotsUsed } : State).setVm s₂.vm := by
      have : s₂ = ({ s₂ with vm := (U.calling g mk a).vm } : State).setVm s₂.vm := rfl
      rw [e2] at this
      exact this
    obtain ⟨c₂, i₂, len₂, hc₂, hd₂, hf₂⟩ := hend
    have hW' : U.WarmedH s₂.vm := hW₂
    have hcc : c₂ = c := by
      have h1 : s₂.code? g.method = U.code? g.method := by
        rw [State.code?_eq, State.code?_eq, hW'.alike.method?]
      exact Option.some.inj (hc₂.symm.trans (h1.trans h.code))
    subst hcc
    have hlen : len₂ = len := by rw [hdg] at hd₂; cases hd₂; rfl
    subst hlen
    have hs₂ : s₂ = (({ U with heap := s₂.heap, slotsUsed := s₂.slotsUsed } : State).setVm s₂.vm).setTop { g with pc := g.pc + len₂, stack := v.toList ++ g.stack } := by
      refine e3.trans ?_
      rw [hf₂, State.calling_eq h.top, State.setFrames_setFrames, State.setTop_of_frames _ hr', hr]
      rfl
    have hsame : U.sameButNew ({ U with heap := s₂.heap, slotsUsed := s₂.slotsUsed } : State) L mc ms := by
      refine ⟨?_, q2, q3, q4, q5, q6⟩
      obtain ⟨t, ht, -⟩ := State.frames_cons hr
      show ({ U with heap := s₂.heap, slotsUsed := s₂.slotsUsed } : State) = { U.setFrames U.frames with heap := s₂.heap, slotsUsed := s₂.slotsUsed }
      rw [State.setFrames_self ht]
    subst hg
    refine Or.inl ⟨v, ⟨(({ U with heap := s₂.heap, slotsUsed := s₂.slotsUsed } : State).setVm s₂.vm), Ls ++ L, c0 + mc, s0 + ms⟩,
      ⟨X.admits, X.cas, X.clock, X.frames, X.room, X.hears, X.method, X.code, (X.here.setHeapUsed s₂.heap s₂.slotsUsed).setVm hW'.alike, X.tail, State.WarmedH.trans X.warmed hW', X.limits, X.bytes, X.same.trans (hsame.setVm s.vm)⟩,
      ⟨g, mk, s₂, L, rfl, rfl, hqc, rfl, hL, rfl, rfl⟩, ?_⟩
    show Steps p.tables e below _ ((({ U with heap := s₂.heap, slotsUsed := s₂.slotsUsed } : State).setVm s₂.vm).setTop { g with pc := g.pc + len₂, stack := v.toList ++ g.stack })
    rw [← hs₂]
    exact hsteps
  · obtain ⟨e2, q2, q3, q4, q5, q6⟩ := id hsm
    have e3 : s₂ = ({ (U.calling g mk a).setFrames s₂.frames with heap := s₂.heap, slotsUsed := s₂.slotsUsed } : State).setVm s₂.vm := by
      have : s₂ = ({ s₂ with vm := (U.calling g mk a).vm } : State).setVm s₂.vm := rfl
      rw [e2] at this
      exact this
    have hf₂ : s₂.frames = .throwing q :: .java g :: U.frames.tail := hend
    have hW' : U.WarmedH s₂.vm := hW₂
    have hs₂ : s₂ = ((({ U with heap := s₂.heap, slotsUsed := s₂.slotsUsed } : State).setVm s₂.vm).setTop g).pushFrame (.throwing q) := by
      refine e3.trans ?_
      rw [hf₂, State.calling_eq h.top, State.setFrames_setFrames, State.pushFrame, State.frames_setTop _ hr', State.setTop_of_frames _ hr', State.setFrames_setFrames, hr]
      rfl
    have hsame : U.sameButNew ({ U with heap := s₂.heap, slotsUsed := s₂.slotsUsed } : State) L mc ms := by
      refine ⟨?_, q2, q3, q4, q5, q6⟩
      obtain ⟨t, ht, -⟩ := State.frames_cons hr
      show ({ U with heap := s₂.heap, slotsUsed := s₂.slotsUsed } : State) = { U.setFrames U.frames with heap := s₂.heap, slotsUsed := s₂.slotsUsed }
      rw [State.setFrames_self ht]
    subst hg
    refine Or.inr ⟨q, ⟨(({ U with heap := s₂.heap, slotsUsed := s₂.slotsUsed } : State).setVm s₂.vm), Ls ++ L, c0 + mc, s0 + ms⟩,
      ⟨X.admits, X.cas, X.clock, X.frames, X.room, X.hears, X.method, X.code, (X.here.setHeapUsed s₂.heap s₂.slotsUsed).setVm hW'.alike, X.tail, State.WarmedH.trans X.warmed hW', X.limits, X.bytes, X.same.trans (hsame.setVm s.vm)⟩,
      ⟨g, mk, s₂, L, E, ce, rfl, rfl, hx, hce, hcv, hcl, rfl, hL, rfl, rfl⟩, ?_⟩
    show Steps p.tables e below _ (((({ U with heap := s₂.heap, slotsUsed := s₂.slotsUsed } : State).setVm s₂.vm).setTop g).pushFrame (.throwing q))
    rw [← hs₂]
    exact hsteps
end
variable {p : Program} {l : Launch} {e : Env} {R : Room} {s : State} {m : MethodId} {args : Array Value} {below : List Frame} {meth : Method} {c : Code} {T : State} {H : Heap} {locs : List Loc} {cells slots : Nat}
theorem vx_callVX (X : Stand p l e R s m args below meth c T locs cells slots) (hexec : p.tables.exec = Jvm.exec) {own C : String} {index : Nat} {y : MethodName} {bytes : ByteArray} {maxL : Nat} {ret : Option FieldType} {hh : List (Nat × Nat × Nat × Nat)}
    (hown : s.vm.findClass own = some m.cls) (hlink : (Cond.methodLink own index y).before args s = true) (hinst : (Cond.instanceMethod y).before args s = true) (hsel : (Cond.selects C y y).before args s = true)
    (hcode : (Cond.codeWith y bytes maxL ret hh).before args s = true) (hy : y.cls ≠ "java/lang/invoke/MethodHandle" ∧ y.cls ≠ "java/lang/invoke/VarHandle")
    {W9 : Nat} {Pre : Pt → Array Value → Prop} {Post : Pt → Array Value → Option Value → Pt → Prop} {PostX : Pt → Array Value → Addr → Pt → Prop} (hK : vx_Back l R p e below s args y 3 W9 Pre Post PostX)
    {b : Addr} {cellB : Cell} (hcell : T.heap[b]? = some cellB) (hobj : cellB.vm.isStatics = false) (hcls : s.vm.findClass C = some cellB.cls)
    {g : JFrame} (hg : g.method = m) (hsize : g.locals.size = c.maxLocals) {argsL rest : List Value} (hlen : ∀ sig, parseMethodDescriptor y.desc = some sig → argsL.length = sig.parameters.length)
    (hstack : g.stack = argsL.reverse ++ .ref b :: rest) (hW : 2 * g.monitorRoom + (rest.map fun v => v.category).sum ≤ W9) (hdg : decode c.code g.pc = .ok (.invokevirtual index, 3))
    (hpre : ∀ vm₁, s.WarmedH vm₁ → Pre ⟨T.setVm vm₁, locs, cells, slots⟩ (Value.ref b :: argsL).toArray) :
    (∃ (v : Option Value) (vm₁ : Vm) (B : Pt), s.WarmedH vm₁ ∧ Stand p l e R s m args below meth c B.U B.locs B.cells B.slots ∧ Post ⟨T.setVm vm₁, locs, cells, slots⟩ (Value.ref b :: argsL).toArray v B ∧
      ∀ target, Steps p.tables e below (B.U.setTop { g with pc := g.pc + 3, stack := v.toList ++ rest }) target → Steps p.tables e below (T.setTop g) target) ∨
    (∃ (q : Addr) (vm₁ : Vm) (B : Pt), s.WarmedH vm₁ ∧ Stand p l e R s m args below meth c B.U B.locs B.cells B.slots ∧ PostX ⟨T.setVm vm₁, locs, cells, slots⟩ (Value.ref b :: argsL).toArray q B ∧
      Steps p.tables e below (T.setTop g) ((B.U.setTop { g with stack := rest }).pushFrame (.throwing q))) := by
  obtain ⟨mk, methM, hnamed, hmethM, hstM, habM⟩ := Cond.instanceMethod_spec hinst
  obtain ⟨m8, methM', cM, hn8, hmethM', -, -, -, -, -, -, hsigM⟩ := Cond.codeWith_spec hcode
  cases Option.some.inj (hn8.symm.trans hnamed)
  cases hmethM.symm.trans hmethM'
  obtain ⟨c2, r2, m2, q1, q2, q3, q4, kP, hkP, hkPi⟩ := Cond.selects_spec hsel
  cases hcls.symm.trans q1
  cases (State.methodFound?_of_named hnamed hy).symm.trans q2
  cases hnamed.symm.trans q3
  have hselP : selectMethod e.platform s.vm cellB.cls mk = .method mk := by rw [Launch.admits_selectMethod X.admits]; exact q4
  obtain ⟨vm₁, X₁, hstep₁⟩ := X.invokevirtual hexec hown hlink hnamed hmethM hstM hkP hkPi hy (a := b) (cell := cellB) hcell
    (fun z h => by rw [h] at hobj; cases hobj) hselP hmethM habM hkP hkPi (g := g) hg (argsL := argsL) (rest := rest) (hlen _ hsigM) hstack hdg
  rcases hK m meth c ⟨T.setVm vm₁, locs, cells, slots⟩ { g with stack := rest } (.invokevirtual index) mk (Value.ref b :: argsL).toArray X₁ hg hsize hdg hW (X₁.named hnamed) (hpre vm₁ X₁.warmed) with ⟨v, B, X', hpost, hsteps⟩ | ⟨q, B, X', hpost, hsteps⟩
  · exact Or.inl ⟨v, vm₁, B, X₁.warmed, X', hpost, fun target h => hstep₁ _ fun acts => by rw [doInvoke_state]; exact hsteps.trans h⟩
  · exact Or.inr ⟨q, vm₁, B, X₁.warmed, X', hpost, hstep₁ _ fun acts => by rw [doInvoke_state]; exact hsteps⟩
theorem vx_callSX (X : Stand p l e R s m args below meth c T locs cells slots) (hexec : p.tables.exec = Jvm.exec) {own : String} {index : Nat} {y : MethodName} {bytes : ByteArray} {maxL : Nat} {ret : Option FieldType} {hh : List (Nat × Nat × Nat × Nat)}
    (hown : s.vm.findClass own = some m.cls) (hlink : (Cond.methodLink own index y).before args s = true) (hstat : (Cond.static y).before args s = true) (hinit : (Cond.initialized y.cls).before args s = true)
    (hcode : (Cond.codeWith y bytes maxL ret hh).before args s = true) (hy : y.cls ≠ "java/lang/invoke/MethodHandle" ∧ y.cls ≠ "java/lang/invoke/VarHandle")
    {W9 : Nat} {Pre : Pt → Array Value → Prop} {Post : Pt → Array Value → Option Value → Pt → Prop} {PostX : Pt → Array Value → Addr → Pt → Prop} (hK : vx_Back l R p e below s args y 3 W9 Pre Post PostX)
    {g : JFrame} (hg : g.method = m) (hsize : g.locals.size = c.maxLocals) {argsL rest : List Value} (hlen : ∀ sig, parseMethodDescriptor y.desc = some sig → argsL.length = sig.parameters.length)
    (hstack : g.stack = argsL.reverse ++ rest) (hW : 2 * g.monitorRoom + (rest.map fun v => v.category).sum ≤ W9) (hdg : decode c.code g.pc = .ok (.invokestatic index, 3))
    (hpre : ∀ vm₁, s.WarmedH vm₁ → Pre ⟨T.setVm vm₁, locs, cells, slots⟩ argsL.toArray) :
    (∃ (v : Option Value) (vm₁ : Vm) (B : Pt), s.WarmedH vm₁ ∧ Stand p l e R s m args below meth c B.U B.locs B.cells B.slots ∧ Post ⟨T.setVm vm₁, locs, cells, slots⟩ argsL.toArray v B ∧
      ∀ target, Steps p.tables e below (B.U.setTop { g with pc := g.pc + 3, stack := v.toList ++ rest }) target → Steps p.tables e below (T.setTop g) target) ∨
    (∃ (q : Addr) (vm₁ : Vm) (B : Pt), s.WarmedH vm₁ ∧ Stand p l e R s m args below meth c B.U B.locs B.cells B.slots ∧ PostX ⟨T.setVm vm₁, locs, cells, slots⟩ argsL.toArray q B ∧
      Steps p.tables e below (T.setTop g) ((B.U.setTop { g with stack := rest }).pushFrame (.throwing q))) := by
  obtain ⟨mk, methM, cM, hnamed, hmethM, -, -, -, -, -, -, hsigM⟩ := Cond.codeWith_spec hcode
  have hstatic : methM.isStatic = true := Cond.static_spec hnamed hmethM hstat
  obtain ⟨kP, hkP, -⟩ := className_of_methodNamed hnamed
  have hinitP : kP.init = .initialized := Cond.initialized_spec (findClass_of_methodNamed hnamed) hkP hinit
  obtain ⟨vm₁, X₁, hstep₁⟩ := X.invokestatic hexec hown hlink hnamed hmethM hstatic hkP hinitP hy (g := g) hg (argsL := argsL) (rest := rest) (hlen _ hsigM) hstack hdg
  rcases hK m meth c ⟨T.setVm vm₁, locs, cells, slots⟩ { g with stack := rest } (.invokestatic index) mk argsL.toArray X₁ hg hsize hdg hW (X₁.named hnamed) (hpre vm₁ X₁.warmed) with ⟨v, B, X', hpost, hsteps⟩ | ⟨q, B, X', hpost, hsteps⟩
  · exact Or.inl ⟨v, vm₁, B, X₁.warmed, X', hpost, fun target h => hstep₁ _ fun acts => by rw [doInvoke_state]; exact hsteps.trans h⟩
  · exact Or.inr ⟨q, vm₁, B, X₁.warmed, X', hpost, hstep₁ _ fun acts => by rw [doInvoke_state]; exact hsteps⟩
theorem vx_callVW (X : Stand p l e R s m args below meth c T locs cells slots) (hexec : p.tables.exec = Jvm.exec) {own C : String} {index : Nat} {y : MethodName} {bytes : ByteArray} {maxL : Nat} {ret : Option FieldType} {hh : List (Nat × Nat × Nat × Nat)}
    (hown : s.vm.findClass own = some m.cls) (hlink : (Cond.methodLink own index y).before args s = true) (hinst : (Cond.instanceMethod y).before args s = true) (hsel : (Cond.selects C y y).before args s = true)
    (hcode : (Cond.codeWith y bytes maxL ret hh).before args s = true) (hy : y.cls ≠ "java/lang/invoke/MethodHandle" ∧ y.cls ≠ "java/lang/invoke/VarHandle")
    {W9 : Nat} {Pre : Pt → Array Value → Prop} {Post : Pt → Array Value → Option Value → Pt → Prop} (hK : Back l R p e below s args y 3 W9 Pre Post)
    {b : Addr} {cellB : Cell} (hcell : T.heap[b]? = some cellB) (hobj : cellB.vm.isStatics = false) (hcls : s.vm.findClass C = some cellB.cls)
    {g : JFrame} (hg : g.method = m) (hsize : g.locals.size = c.maxLocals) {argsL rest : List Value} (hlen : ∀ sig, parseMethodDescriptor y.desc = some sig → argsL.length = sig.parameters.length)
    (hstack : g.stack = argsL.reverse ++ .ref b :: rest) (hW : 2 * g.monitorRoom + (rest.map fun v => v.category).sum ≤ W9) (hdg : decode c.code g.pc = .ok (.invokevirtual index, 3))
    (hpre : ∀ vm₁, s.WarmedH vm₁ → Pre ⟨T.setVm vm₁, locs, cells, slots⟩ (Value.ref b :: argsL).toArray) :
    ∃ (v : Option Value) (vm₁ : Vm) (B : Pt), s.WarmedH vm₁ ∧ Stand p l e R s m args below meth c B.U B.locs B.cells B.slots ∧ Post ⟨T.setVm vm₁, locs, cells, slots⟩ (Value.ref b :: argsL).toArray v B ∧
      ∀ target, Steps p.tables e below (B.U.setTop { g with pc := g.pc + 3, stack := v.toList ++ rest }) target → Steps p.tables e below (T.setTop g) target := by
  obtain ⟨mk, methM, hnamed, hmethM, hstM, habM⟩ := Cond.instanceMethod_spec hinst
  obtain ⟨m8, methM', cM, hn8, hmethM', -, -, -, -, -, -, hsigM⟩ := Cond.codeWith_spec hcode
  cases Option.some.inj (hn8.symm.trans hnamed)
  cases hmethM.symm.trans hmethM'
  obtain ⟨c2, r2, m2, q1, q2, q3, q4, kP, hkP, hkPi⟩ := Cond.selects_spec hsel
  cases hcls.symm.trans q1
  cases (State.methodFound?_of_named hnamed hy).symm.trans q2
  cases hnamed.symm.trans q3
  have hselP : selectMethod e.platform s.vm cellB.cls mk = .method mk := by rw [Launch.admits_selectMethod X.admits]; exact q4
  obtain ⟨vm₁, X₁, hstep₁⟩ := X.invokevirtual hexec hown hlink hnamed hmethM hstM hkP hkPi hy (a := b) (cell := cellB) hcell
    (fun z h => by rw [h] at hobj; cases hobj) hselP hmethM habM hkP hkPi (g := g) hg (argsL := argsL) (rest := rest) (hlen _ hsigM) hstack hdg
  obtain ⟨v, B, X', hpost, hsteps⟩ := hK m meth c ⟨T.setVm vm₁, locs, cells, slots⟩ { g with stack := rest } (.invokevirtual index) mk (Value.ref b :: argsL).toArray X₁ hg hsize hdg hW (X₁.named hnamed) (hpre vm₁ X₁.warmed)
  exact ⟨v, vm₁, B, X₁.warmed, X', hpost, fun target h => hstep₁ _ fun acts => by rw [doInvoke_state]; exact hsteps.trans h⟩
abbrev vx_CVW (R : Room) (s : State) (args : Array Value) (own C : String) (index : Nat) (y : MethodName) (bytes : ByteArray) (maxL : Nat) (ret : Option FieldType) (hh : List (Nat × Nat × Nat × Nat)) (ws : List Cond) (rm : Room) (mc ms n : Nat) : Prop :=
  (rm.cells = mc ∧ rm.slots = ms ∧ rm.frames + 1 ≤ R.frames ∧ 8 + (maxL + 11) + rm.locals ≤ R.locals ∧ (∀ w ∈ ws, ∀ (a' : Array Value) (U : State), s.WarmedH U.vm → w.before a' U = true) ∧ Cond.codeWith y bytes maxL ret hh ∈ ws) ∧
  (Cond.codeWith y bytes maxL ret hh).before args s = true ∧ (Cond.initialized y.cls).before args s = true ∧ (y.cls ≠ "java/lang/invoke/MethodHandle" ∧ y.cls ≠ "java/lang/invoke/VarHandle") ∧
  (∀ sig, parseMethodDescriptor y.desc = some sig → n = sig.parameters.length) ∧ (Cond.methodLink own index y).before args s = true ∧ (Cond.instanceMethod y).before args s = true ∧ (Cond.selects C y y).before args s = true
theorem vx_cwVW {own C : String} {index maxL mc ms : Nat} {y : MethodName} {bytes : ByteArray} {ret : Option FieldType} {hh : List (Nat × Nat × Nat × Nat)} {Ts ws ws' : List Cond} {rm : Room} (n : Nat) (ht : ∀ w ∈ Ts, w.before args s = true) (hT : GoodIn Ts (wsV own index C y ws)) (hw : ws = Cond.codeWith y bytes maxL ret hh :: ws') (hrc : rm.cells = mc) (hrs : rm.slots = ms)
    (hd : y.cls = C ∧ y.cls ≠ "java/lang/invoke/MethodHandle" ∧ y.cls ≠ "java/lang/invoke/VarHandle" ∧ (parseMethodDescriptor y.desc).map (fun d => d.parameters.length) = some n) (hR : rm.frames + 1 ≤ R.frames ∧ 8 + (maxL + 11) + rm.locals ≤ R.locals) :
    vx_CVW R s args own C index y bytes maxL ret hh ws rm mc ms n := by
  obtain ⟨hC, hd⟩ := hd
  subst hC
  have ok : ∀ w ∈ wsV own index y.cls y ws, w.before args s = true := fun w h => ht w (hT w h).1
  have hG : GoodIn Ts ws := fun w h => hT w (by unfold wsV; exact List.mem_append_right _ h)
  have hc : Cond.codeWith y bytes maxL ret hh ∈ ws := by rw [hw]; exact List.mem_cons_self
  refine ⟨⟨hrc, hrs, hR.1, hR.2, pay_in ht hG, hc⟩, ht _ (hG _ hc).1, ok _ (by simp [wsV]), ⟨hd.1, hd.2.1⟩, fun sig h => ?_, ok _ (by simp [wsV]), ok _ (by simp [wsV]), ok _ (by simp [wsV])⟩
  have h2 := hd.2.2
  rw [h] at h2
  exact (Option.some.inj h2).symm
theorem vx_runVW {y : MethodName} {bytes cc : ByteArray} {maxL nL mc ms n index : Nat} {ret : Option FieldType} {hh : List (Nat × Nat × Nat × Nat)} {ws : List Cond} {rm : Room} {Pc : Array Value → State → Prop} {Qc : Array Value → State → Outcome → State → Prop} {free : Addr → Prop} {Ts : List Cond} {own C : String} {b : Addr} {As rest : List Value} {g : JFrame}
    (S : CallFix p m c cc nL s args Ts own) (hM : Met l y ws rm Pc Qc mc ms free) (cw : vx_CVW R s args own C index y bytes maxL ret hh ws rm mc ms n) (hp : PreV s H C b Pc As)
    (hg : g.method = m) (hn : As.length = n) (hsize : g.locals.size = nL) (hstack : g.stack = As.reverse ++ .ref b :: rest) (hW : 2 * g.monitorRoom + (rest.map fun v => v.category).sum ≤ 8) (hdg : decode cc g.pc = .ok (.invokevirtual index, 3)) (hf : cells + mc ≤ R.cells ∧ slots + ms ≤ R.slots) :
    va_Run p l e R s m args below meth c H locs cells slots mc ms g rest (Qc (Value.ref b :: As).toArray) free := by
  obtain ⟨⟨hrc, hrs, hfr, hlo, hws, hcw⟩, hcode, hini, hy, hlen, hl, hin, hse⟩ := cw
  have hK : Back l R p e below s args y 3 8 (PreOf R mc ms Pc) (PostOf Qc mc ms free) := va_backW (hh := hh) (bytes := bytes) (maxL := maxL) (ret := ret) hM hp.1 hrc hrs hfr hlo hws hcw (fun a' U hW => word_at hW (Or.inl (by first | rfl | simp [Cond.onTables, Cond.keeps, Cond.steady])) hini)
  obtain ⟨hx, hb, hml, ho, -⟩ := S
  obtain ⟨-, ⟨cellB, hcB, hoB, hclB⟩, hPc⟩ := hp
  intro T hT X
  obtain ⟨v, vm₁, ⟨U', l2, c2, s2⟩, hW₁, X', ⟨g', mk, t, L, e1, e2, hq, h1, hL, h2, h3⟩, st⟩ := vx_callVW X hx (C := C) (hh := hh) (bytes := bytes) (maxL := maxL) (ret := ret) ho hl hin hse hcode hy hK (by rw [hT]; exact hcB) hoB hclB hg (hsize.trans hml.symm) (argsL := As) (rest := rest) (fun sig h => hn.trans (hlen sig h)) hstack hW (by rw [hb]; exact hdg)
    (fun vm₁ hW₁ => ⟨hf.1, hf.2, hPc (T.setVm vm₁) hT hW₁⟩)
  dsimp only [Pt.U, Pt.locs, Pt.cells, Pt.slots] at X' e1 e2 h1 h2 h3 st
  subst h1; subst h2; subst h3
  exact ⟨v, (T.setVm vm₁).calling g' mk (Value.ref b :: As).toArray, t, U', L, hT, X', hL, e1, e2, hq, st⟩
section
variable {y : MethodName} {bytes cc : ByteArray} {maxL nL mc ms n index : Nat} {ret : Option FieldType} {ws : List Cond} {rm : Room} {Pc : Array Value → State → Prop} {Qc : Array Value → State → Outcome → State → Prop} {XC : String → State → State → Prop} {free : Addr → Prop} {Ts : List Cond} {own C : String} {b : Addr} {As rest : List Value} {g : JFrame}
theorem vx_runVX {hh : List (Nat × Nat × Nat × Nat)} (S : CallFix p m c cc nL s args Ts own) (hM : vx_Met l y ws rm Pc Qc XC mc ms free) (cw : vx_CVW R s args own C index y bytes maxL ret hh ws rm mc ms n) (hp : PreV s H C b Pc As)
    (hg : g.method = m) (hn : As.length = n) (hsize : g.locals.size = nL) (hstack : g.stack = As.reverse ++ .ref b :: rest) (hW : 2 * g.monitorRoom + (rest.map fun v => v.category).sum ≤ 8) (hdg : decode cc g.pc = .ok (.invokevirtual index, 3)) (hf : cells + mc ≤ R.cells ∧ slots + ms ≤ R.slots) :
    vx_Run p l e R s m args below meth c H locs cells slots mc ms g rest (Qc (Value.ref b :: As).toArray) XC free := by
  obtain ⟨⟨hrc, hrs, hfr, hlo, hws, hcw⟩, hcode, hini, hy, hlen, hl, hin, hse⟩ := cw
  have hK : vx_Back l R p e below s args y 3 8 (PreOf R mc ms Pc) (PostOf Qc mc ms free) (vx_Post XC mc ms free) := vx_backW (hh := hh) (bytes := bytes) (maxL := maxL) (ret := ret) hM hp.1 hrc hrs hfr hlo hws hcw (fun a' U hW => word_at hW (Or.inl (by first | rfl | simp [Cond.onTables, Cond.keeps, Cond.steady])) hini)
  obtain ⟨hx, hb, hml, ho, -⟩ := S
  obtain ⟨-, ⟨cellB, hcB, hoB, hclB⟩, hPc⟩ := hp
  intro T hT X
  rcases vx_callVX X hx (C := C) (hh := hh) (bytes := bytes) (maxL := maxL) (ret := ret) ho hl hin hse hcode hy hK (by rw [hT]; exact hcB) hoB hclB hg (hsize.trans hml.symm) (argsL := As) (rest := rest) (fun sig h => hn.trans (hlen sig h)) hstack hW (by rw [hb]; exact hdg)
    (fun vm₁ hW₁ => ⟨hf.1, hf.2, hPc (T.setVm vm₁) hT hW₁⟩) with ⟨v, vm₁, ⟨U', l2, c2, s2⟩, hW₁, X', ⟨g', mk, t, L, e1, e2, hq, h1, hL, h2, h3⟩, st⟩ | ⟨q, vm₁, ⟨U', l2, c2, s2⟩, hW₁, X', ⟨g', mk, t, L, E, ce, e1, e2, hq, hce, hcv, hcl, h1, hL, h2, h3⟩, st⟩
  · dsimp only [Pt.U, Pt.locs, Pt.cells, Pt.slots] at X' e1 e2 h1 h2 h3 st
    subst h1; subst h2; subst h3
    exact Or.inl ⟨v, (T.setVm vm₁).calling g' mk (Value.ref b :: As).toArray, t, U', L, hT, X', hL, e1, e2, hq, st⟩
  · dsimp only [Pt.U, Pt.locs, Pt.cells, Pt.slots] at X' e1 e2 h1 h2 h3 st hcl
    subst h1; subst h2; subst h3
    exact Or.inr ⟨q, (T.setVm vm₁).calling g' mk (Value.ref b :: As).toArray, t, U', L, E, ce, hT, X', hL, e1, e2, hq, hce, hcv, vx_cls hW₁ hcl, st⟩
theorem vx_runSX {hh : List (Nat × Nat × Nat × Nat)} (S : CallFix p m c cc nL s args Ts own) (hM : vx_Met l y ws rm Pc Qc XC mc ms free) (cw : vx_CSW R s args own index y bytes maxL ret hh ws rm mc ms n) (hp : PreS s H Pc As)
    (hg : g.method = m) (hn : As.length = n) (hsize : g.locals.size = nL) (hstack : g.stack = As.reverse ++ rest) (hW : 2 * g.monitorRoom + (rest.map fun v => v.category).sum ≤ 8) (hdg : decode cc g.pc = .ok (.invokestatic index, 3)) (hf : cells + mc ≤ R.cells ∧ slots + ms ≤ R.slots) :
    vx_Run p l e R s m args below meth c H locs cells slots mc ms g rest (Qc As.toArray) XC free := by
  obtain ⟨⟨hrc, hrs, hfr, hlo, hws, hcw⟩, hcode, hini, hy, hlen, hl, hstt⟩ := cw
  have hK : vx_Back l R p e below s args y 3 8 (PreOf R mc ms Pc) (PostOf Qc mc ms free) (vx_Post XC mc ms free) := vx_backW (hh := hh) (bytes := bytes) (maxL := maxL) (ret := ret) hM hp.1 hrc hrs hfr hlo hws hcw (fun a' U hW => word_at hW (Or.inl (by first | rfl | simp [Cond.onTables, Cond.keeps, Cond.steady])) hini)
  obtain ⟨hx, hb, hml, ho, -⟩ := S
  intro T hT X
  rcases vx_callSX X hx (hh := hh) (bytes := bytes) (maxL := maxL) (ret := ret) ho hl hstt hini hcode hy hK hg (hsize.trans hml.symm) (argsL := As) (rest := rest) (fun sig h => hn.trans (hlen sig h)) hstack hW (by rw [hb]; exact hdg)
    (fun vm₁ hW₁ => ⟨hf.1, hf.2, hp.2 (T.setVm vm₁) hT hW₁⟩) with ⟨v, vm₁, ⟨U', l2, c2, s2⟩, hW₁, X', ⟨g', mk, t, L, e1, e2, hq, h1, hL, h2, h3⟩, st⟩ | ⟨q, vm₁, ⟨U', l2, c2, s2⟩, hW₁, X', ⟨g', mk, t, L, E, ce, e1, e2, hq, hce, hcv, hcl, h1, hL, h2, h3⟩, st⟩
  · dsimp only [Pt.U, Pt.locs, Pt.cells, Pt.slots] at X' e1 e2 h1 h2 h3 st
    subst h1; subst h2; subst h3
    exact Or.inl ⟨v, (T.setVm vm₁).calling g' mk As.toArray, t, U', L, hT, X', hL, e1, e2, hq, st⟩
  · dsimp only [Pt.U, Pt.locs, Pt.cells, Pt.slots] at X' e1 e2 h1 h2 h3 st hcl
    subst h1; subst h2; subst h3
    exact Or.inr ⟨q, (T.setVm vm₁).calling g' mk As.toArray, t, U', L, E, ce, hT, X', hL, e1, e2, hq, hce, hcv, vx_cls hW₁ hcl, st⟩
end
end VXH
theorem vx_ofWH {l : Launch} {y : MethodName} {ws ws' : List Cond} {rm : Room} {Pc : Array Value → State → Prop} {Qc : Array Value → State → Outcome → State → Prop} {XC : String → State → State → Prop} {mc ms : Nat} {free : Addr → Prop} {cc : ByteArray} {maxL : Nat} {ret : Option FieldType} {hh : List (Nat × Nat × Nat × Nat)}
    (hy : plainName y.cls = true) (hw : ws = Cond.codeWith y cc maxL ret hh :: ws')
    (body : ∀ p e s m args below meth c s₁, BodyLoose p l y (headSpec ws rm) cc maxL ret e s m args below meth c s₁ → c.maxLocals = maxL → Pc args s →
      W p l e (headSpec ws rm).room s m args below meth c s.heap [] 0 0 (vx_MQ below Qc XC args s mc ms free) (entryFrame m args maxL)) : vx_Met l y ws rm Pc Qc XC mc ms free := by
  refine MetFree.of_bodyS (code := cc) (maxLocals := maxL) (ret := ret) hy ?_ ?_
  · intro args s m h hn
    obtain ⟨m9, meth, c, hn9, h1, h2, h3, h4, -, h5, h6, -⟩ := Cond.codeWith_spec (atoms_spec (ws := ws) h _ (by rw [hw]; exact List.mem_cons_self))
    cases hn.symm.trans hn9
    exact ⟨meth, c, h1, h2, h3, h4, h5, h6⟩
  · intro p e s m args below meth c s₁ B hml hP _
    have hh0 : s₁.heap = s.heap := by rw [B.state]; rfl
    obtain ⟨t, a1, o, b1, b2, b3⟩ := body p e s m args below meth c s₁ B hml hP s₁ hh0 (Stand.of_body B)
    exact ⟨t, o, a1, b1, b2, b3⟩
/-! ===== END ===== -/

/-! ===== BEGIN printed: names, fields, word lists, decode rows ===== -/
def RX0 : String := "TwiceAsRich$Beggar"
def TX0 : u_T := fun k => match k with
  | _ => ("TwiceAsRich$House", "figure", "I", true)
def tyX0 : Nat → FieldType := fun k => match k with
  | _ => .int
abbrev wsX00 : List Cond := u_ws RX0 TX0 1
theorem nmX0 : ∀ a, a < 1 → ∀ b, b < 1 → a ≠ b → (TX0 a).2.1 ≠ (TX0 b).2.1 := by decide +kernel
theorem tyX0_ok : ∀ k, k < 1 → parseFieldDescriptor (TX0 k).2.2.1 = some (tyX0 k) := by decide +kernel
abbrev cX0_init : ByteArray := prog_2_method_1_code
def yX0_init : MethodName := ⟨RX0, "<init>", "(I)V"⟩
abbrev cX0_kind : ByteArray := prog_2_method_2_code
def yX0_kind : MethodName := ⟨RX0, "kind", "()I"⟩
abbrev cX0_shownOf : ByteArray := prog_2_method_3_code
def yX0_shownOf : MethodName := ⟨RX0, "shownOf", "(I)I"⟩
abbrev cX0_weekly : ByteArray := prog_2_method_4_code
def yX0_weekly : MethodName := ⟨RX0, "weekly", "()I"⟩
abbrev cX0_price : ByteArray := prog_2_method_5_code
def yX0_price : MethodName := ⟨RX0, "price", "()I"⟩
abbrev cX0_fail : ByteArray := prog_2_method_6_code
def yX0_fail : MethodName := ⟨RX0, "fail", "()V"⟩
def RX1 : String := "TwiceAsRich$Blind"
def TX1 : u_T := fun k => match k with
  | _ => ("TwiceAsRich$House", "figure", "I", true)
def tyX1 : Nat → FieldType := fun k => match k with
  | _ => .int
abbrev wsX10 : List Cond := u_ws RX1 TX1 1
theorem nmX1 : ∀ a, a < 1 → ∀ b, b < 1 → a ≠ b → (TX1 a).2.1 ≠ (TX1 b).2.1 := by decide +kernel
theorem tyX1_ok : ∀ k, k < 1 → parseFieldDescriptor (TX1 k).2.2.1 = some (tyX1 k) := by decide +kernel
abbrev cX1_init : ByteArray := prog_3_method_1_code
def yX1_init : MethodName := ⟨RX1, "<init>", "(I)V"⟩
abbrev cX1_kind : ByteArray := prog_3_method_2_code
def yX1_kind : MethodName := ⟨RX1, "kind", "()I"⟩
abbrev cX1_isLookedAt : ByteArray := prog_3_method_3_code
def yX1_isLookedAt : MethodName := ⟨RX1, "isLookedAt", "()Z"⟩
abbrev cX1_weekly : ByteArray := prog_3_method_4_code
def yX1_weekly : MethodName := ⟨RX1, "weekly", "()I"⟩
abbrev cX1_price : ByteArray := prog_3_method_5_code
def yX1_price : MethodName := ⟨RX1, "price", "()I"⟩
abbrev cX1_hasFailure : ByteArray := prog_3_method_6_code
def yX1_hasFailure : MethodName := ⟨RX1, "hasFailure", "()Z"⟩
def RX2 : String := "TwiceAsRich$Heir"
def TX2 : u_T := fun k => match k with
  | _ => ("TwiceAsRich$House", "figure", "I", true)
def tyX2 : Nat → FieldType := fun k => match k with
  | _ => .int
abbrev wsX20 : List Cond := u_ws RX2 TX2 1
theorem nmX2 : ∀ a, a < 1 → ∀ b, b < 1 → a ≠ b → (TX2 a).2.1 ≠ (TX2 b).2.1 := by decide +kernel
theorem tyX2_ok : ∀ k, k < 1 → parseFieldDescriptor (TX2 k).2.2.1 = some (tyX2 k) := by decide +kernel
abbrev cX2_init : ByteArray := prog_4_method_1_code
def yX2_init : MethodName := ⟨RX2, "<init>", "(I)V"⟩
abbrev cX2_kind : ByteArray := prog_4_method_2_code
def yX2_kind : MethodName := ⟨RX2, "kind", "()I"⟩
abbrev cX2_allowedBy : ByteArray := prog_4_method_3_code
def yX2_allowedBy : MethodName := ⟨RX2, "allowedBy", "(I)I"⟩
abbrev cX2_weekly : ByteArray := prog_4_method_4_code
def yX2_weekly : MethodName := ⟨RX2, "weekly", "()I"⟩
abbrev cX2_price : ByteArray := prog_4_method_5_code
def yX2_price : MethodName := ⟨RX2, "price", "()I"⟩
def RX3 : String := "TwiceAsRich$House"
def TX3 : u_T := fun k => match k with
  | _ => ("TwiceAsRich$House", "figure", "I", true)
def tyX3 : Nat → FieldType := fun k => match k with
  | _ => .int
abbrev wsX30 : List Cond := u_ws RX3 TX3 1
theorem nmX3 : ∀ a, a < 1 → ∀ b, b < 1 → a ≠ b → (TX3 a).2.1 ≠ (TX3 b).2.1 := by decide +kernel
theorem tyX3_ok : ∀ k, k < 1 → parseFieldDescriptor (TX3 k).2.2.1 = some (tyX3 k) := by decide +kernel
abbrev cX3_init : ByteArray := prog_5_method_1_code
def yX3_init : MethodName := ⟨RX3, "<init>", "(I)V"⟩
abbrev cX3_kind : ByteArray := prog_5_method_2_code
def yX3_kind : MethodName := ⟨RX3, "kind", "()I"⟩
abbrev cX3_isLookedAt : ByteArray := prog_5_method_3_code
def yX3_isLookedAt : MethodName := ⟨RX3, "isLookedAt", "()Z"⟩
abbrev cX3_shownOf : ByteArray := prog_5_method_4_code
def yX3_shownOf : MethodName := ⟨RX3, "shownOf", "(I)I"⟩
abbrev cX3_allowedBy : ByteArray := prog_5_method_5_code
def yX3_allowedBy : MethodName := ⟨RX3, "allowedBy", "(I)I"⟩
abbrev cX3_weekly : ByteArray := prog_5_method_6_code
def yX3_weekly : MethodName := ⟨RX3, "weekly", "()I"⟩
abbrev cX3_price : ByteArray := prog_5_method_7_code
def yX3_price : MethodName := ⟨RX3, "price", "()I"⟩
abbrev cX3_hasFailure : ByteArray := prog_5_method_8_code
def yX3_hasFailure : MethodName := ⟨RX3, "hasFailure", "()Z"⟩
abbrev cX3_fail : ByteArray := prog_5_method_9_code
def yX3_fail : MethodName := ⟨RX3, "fail", "()V"⟩
def RX4 : String := "TwiceAsRich$Miser"
def TX4 : u_T := fun k => match k with
  | _ => ("TwiceAsRich$House", "figure", "I", true)
def tyX4 : Nat → FieldType := fun k => match k with
  | _ => .int
abbrev wsX40 : List Cond := u_ws RX4 TX4 1
theorem nmX4 : ∀ a, a < 1 → ∀ b, b < 1 → a ≠ b → (TX4 a).2.1 ≠ (TX4 b).2.1 := by decide +kernel
theorem tyX4_ok : ∀ k, k < 1 → parseFieldDescriptor (TX4 k).2.2.1 = some (tyX4 k) := by decide +kernel
abbrev cX4_init : ByteArray := prog_6_method_1_code
def yX4_init : MethodName := ⟨RX4, "<init>", "(I)V"⟩
abbrev cX4_kind : ByteArray := prog_6_method_2_code
def yX4_kind : MethodName := ⟨RX4, "kind", "()I"⟩
abbrev cX4_shownOf : ByteArray := prog_6_method_3_code
def yX4_shownOf : MethodName := ⟨RX4, "shownOf", "(I)I"⟩
abbrev cX4_allowedBy : ByteArray := prog_6_method_4_code
def yX4_allowedBy : MethodName := ⟨RX4, "allowedBy", "(I)I"⟩
abbrev cX4_weekly : ByteArray := prog_6_method_5_code
def yX4_weekly : MethodName := ⟨RX4, "weekly", "()I"⟩
abbrev cX4_price : ByteArray := prog_6_method_6_code
def yX4_price : MethodName := ⟨RX4, "price", "()I"⟩
def RX5 : String := "TwiceAsRich$Partings"
def TX5 : u_T := fun k => match k with
  | 0 => ("TwiceAsRich$Partings", "ways", "I", false)
  | 1 => ("TwiceAsRich$Partings", "uneven", "I", false)
  | 2 => ("TwiceAsRich$Partings", "hands", "I", false)
  | 3 => ("TwiceAsRich$Partings", "moved", "I", false)
  | 4 => ("TwiceAsRich$Partings", "richest", "[I", true)
  | 5 => ("TwiceAsRich$Partings", "parted", "LTwiceAsRich$Street;", true)
  | 6 => ("TwiceAsRich$Partings", "before", "[I", true)
  | _ => ("TwiceAsRich$Partings", "suits", "[[I", true)
def tyX5 : Nat → FieldType := fun k => match k with
  | 0 => .int
  | 1 => .int
  | 2 => .int
  | 3 => .int
  | 4 => .array .int
  | 5 => .object "TwiceAsRich$Street"
  | 6 => .array .int
  | _ => .array (.array .int)
abbrev wsX50 : List Cond := u_ws RX5 TX5 8
theorem nmX5 : ∀ a, a < 8 → ∀ b, b < 8 → a ≠ b → (TX5 a).2.1 ≠ (TX5 b).2.1 := by decide +kernel
theorem tyX5_ok : ∀ k, k < 8 → parseFieldDescriptor (TX5 k).2.2.1 = some (tyX5 k) := by decide +kernel
abbrev cX5_init : ByteArray := prog_7_method_1_code
def yX5_init : MethodName := ⟨RX5, "<init>", "()V"⟩
abbrev cX5_search : ByteArray := prog_7_method_2_code
def yX5_search : MethodName := ⟨RX5, "search", "(LTwiceAsRich$Street;I)V"⟩
abbrev cX5_noteWhatSuits : ByteArray := prog_7_method_3_code
def yX5_noteWhatSuits : MethodName := ⟨RX5, "noteWhatSuits", "(III)V"⟩
abbrev cX5_part : ByteArray := prog_7_method_4_code
def yX5_part : MethodName := ⟨RX5, "part", "(II)V"⟩
abbrev cX5_suit : ByteArray := prog_7_method_5_code
def yX5_suit : MethodName := ⟨RX5, "suit", "(II)Z"⟩
abbrev cX5_isClosedWell : ByteArray := prog_7_method_6_code
def yX5_isClosedWell : MethodName := ⟨RX5, "isClosedWell", "()Z"⟩
abbrev cX5_note : ByteArray := prog_7_method_7_code
def yX5_note : MethodName := ⟨RX5, "note", "()V"⟩
abbrev cX5_difference : ByteArray := prog_7_method_8_code
def yX5_difference : MethodName := ⟨RX5, "difference", "()I"⟩
abbrev cX5_handed : ByteArray := prog_7_method_9_code
def yX5_handed : MethodName := ⟨RX5, "handed", "()I"⟩
abbrev cX5_moving : ByteArray := prog_7_method_10_code
def yX5_moving : MethodName := ⟨RX5, "moving", "()I"⟩
def RX6 : String := "TwiceAsRich$Priest"
def TX6 : u_T := fun k => match k with
  | _ => ("TwiceAsRich$House", "figure", "I", true)
def tyX6 : Nat → FieldType := fun k => match k with
  | _ => .int
abbrev wsX60 : List Cond := u_ws RX6 TX6 1
theorem nmX6 : ∀ a, a < 1 → ∀ b, b < 1 → a ≠ b → (TX6 a).2.1 ≠ (TX6 b).2.1 := by decide +kernel
theorem tyX6_ok : ∀ k, k < 1 → parseFieldDescriptor (TX6 k).2.2.1 = some (tyX6 k) := by decide +kernel
abbrev cX6_init : ByteArray := prog_8_method_1_code
def yX6_init : MethodName := ⟨RX6, "<init>", "(I)V"⟩
abbrev cX6_kind : ByteArray := prog_8_method_2_code
def yX6_kind : MethodName := ⟨RX6, "kind", "()I"⟩
abbrev cX6_shownOf : ByteArray := prog_8_method_3_code
def yX6_shownOf : MethodName := ⟨RX6, "shownOf", "(I)I"⟩
abbrev cX6_weekly : ByteArray := prog_8_method_4_code
def yX6_weekly : MethodName := ⟨RX6, "weekly", "()I"⟩
abbrev cX6_price : ByteArray := prog_8_method_5_code
def yX6_price : MethodName := ⟨RX6, "price", "()I"⟩
def RX7 : String := "TwiceAsRich$Street"
def TX7 : u_T := fun k => match k with
  | 0 => ("TwiceAsRich$Street", "houses", "[LTwiceAsRich$House;", true)
  | 1 => ("TwiceAsRich$Street", "purses", "[I", true)
  | 2 => ("TwiceAsRich$Street", "count", "I", false)
  | _ => ("TwiceAsRich$Street", "round", "I", false)
def tyX7 : Nat → FieldType := fun k => match k with
  | 0 => .array (.object "TwiceAsRich$House")
  | 1 => .array .int
  | 2 => .int
  | _ => .int
abbrev wsX70 : List Cond := u_ws RX7 TX7 4
theorem nmX7 : ∀ a, a < 4 → ∀ b, b < 4 → a ≠ b → (TX7 a).2.1 ≠ (TX7 b).2.1 := by decide +kernel
theorem tyX7_ok : ∀ k, k < 4 → parseFieldDescriptor (TX7 k).2.2.1 = some (tyX7 k) := by decide +kernel
abbrev cX7_init : ByteArray := prog_9_method_1_code
def yX7_init : MethodName := ⟨RX7, "<init>", "()V"⟩
abbrev cX7_become : ByteArray := prog_9_method_2_code
def yX7_become : MethodName := ⟨RX7, "become", "(LTwiceAsRich$Street;)V"⟩
abbrev cX7_has : ByteArray := prog_9_method_3_code
def yX7_has : MethodName := ⟨RX7, "has", "(I)Z"⟩
abbrev cX7_hasTwo : ByteArray := prog_9_method_4_code
def yX7_hasTwo : MethodName := ⟨RX7, "hasTwo", "(II)Z"⟩
abbrev cX7_isClosed : ByteArray := prog_9_method_5_code
def yX7_isClosed : MethodName := ⟨RX7, "isClosed", "()Z"⟩
abbrev cX7_ahead : ByteArray := prog_9_method_6_code
def yX7_ahead : MethodName := ⟨RX7, "ahead", "(I)I"⟩
abbrev cX7_behind : ByteArray := prog_9_method_7_code
def yX7_behind : MethodName := ⟨RX7, "behind", "(I)I"⟩
abbrev cX7_limitBy : ByteArray := prog_9_method_8_code
def yX7_limitBy : MethodName := ⟨RX7, "limitBy", "(II)I"⟩
abbrev cX7_mostOf : ByteArray := prog_9_method_9_code
def yX7_mostOf : MethodName := ⟨RX7, "mostOf", "(I)I"⟩
abbrev cX7_breachesOf : ByteArray := prog_9_method_10_code
def yX7_breachesOf : MethodName := ⟨RX7, "breachesOf", "(I)I"⟩
abbrev cX7_allBreaches : ByteArray := prog_9_method_11_code
def yX7_allBreaches : MethodName := ⟨RX7, "allBreaches", "()I"⟩
abbrev cX7_housesWithoutBreach : ByteArray := prog_9_method_12_code
def yX7_housesWithoutBreach : MethodName := ⟨RX7, "housesWithoutBreach", "()I"⟩
abbrev cX7_holdersOf : ByteArray := prog_9_method_13_code
def yX7_holdersOf : MethodName := ⟨RX7, "holdersOf", "(I)I"⟩
abbrev cX7_allCoins : ByteArray := prog_9_method_14_code
def yX7_allCoins : MethodName := ⟨RX7, "allCoins", "()I"⟩
abbrev cX7_earn : ByteArray := prog_9_method_15_code
def yX7_earn : MethodName := ⟨RX7, "earn", "(I)V"⟩
abbrev cX7_gift : ByteArray := prog_9_method_16_code
def yX7_gift : MethodName := ⟨RX7, "gift", "(III)I"⟩
abbrev cX7_steal : ByteArray := prog_9_method_17_code
def yX7_steal : MethodName := ⟨RX7, "steal", "(II)V"⟩
abbrev cX7_exchange : ByteArray := prog_9_method_18_code
def yX7_exchange : MethodName := ⟨RX7, "exchange", "(II)V"⟩
abbrev cX7_insert : ByteArray := prog_9_method_19_code
def yX7_insert : MethodName := ⟨RX7, "insert", "(ILTwiceAsRich$House;I)V"⟩
abbrev cX7_remove : ByteArray := prog_9_method_20_code
def yX7_remove : MethodName := ⟨RX7, "remove", "(I)V"⟩
def RX8 : String := "TwiceAsRich$StreetText"
def TX8 : u_T := fun k => match k with
  | 0 => ("TwiceAsRich$StreetText", "bytes", "[I", false)
  | 1 => ("TwiceAsRich$StreetText", "size", "I", false)
  | _ => ("TwiceAsRich$StreetText", "done", "I", false)
def tyX8 : Nat → FieldType := fun k => match k with
  | 0 => .array .int
  | 1 => .int
  | _ => .int
abbrev wsX80 : List Cond := u_ws RX8 TX8 3
theorem nmX8 : ∀ a, a < 3 → ∀ b, b < 3 → a ≠ b → (TX8 a).2.1 ≠ (TX8 b).2.1 := by decide +kernel
theorem tyX8_ok : ∀ k, k < 3 → parseFieldDescriptor (TX8 k).2.2.1 = some (tyX8 k) := by decide +kernel
abbrev cX8_init : ByteArray := prog_10_method_1_code
def yX8_init : MethodName := ⟨RX8, "<init>", "()V"⟩
abbrev cX8_open : ByteArray := prog_10_method_2_code
def yX8_open : MethodName := ⟨RX8, "open", "([II)V"⟩
abbrev cX8_statements : ByteArray := prog_10_method_3_code
def yX8_statements : MethodName := ⟨RX8, "statements", "()I"⟩
abbrev cX8_brokenPlace : ByteArray := prog_10_method_4_code
def yX8_brokenPlace : MethodName := ⟨RX8, "brokenPlace", "()I"⟩
abbrev cX8_wrongPlace : ByteArray := prog_10_method_5_code
def yX8_wrongPlace : MethodName := ⟨RX8, "wrongPlace", "(LTwiceAsRich$Street;)I"⟩
abbrev cX8_endOf : ByteArray := prog_10_method_6_code
def yX8_endOf : MethodName := ⟨RX8, "endOf", "(I)I"⟩
abbrev cX8_fewestDigits : ByteArray := prog_10_method_7_code
def yX8_fewestDigits : MethodName := ⟨RX8, "fewestDigits", "(I)I"⟩
abbrev cX8_singleDigits : ByteArray := prog_10_method_8_code
def yX8_singleDigits : MethodName := ⟨RX8, "singleDigits", "(I)I"⟩
abbrev cX8_isLetter : ByteArray := prog_10_method_9_code
def yX8_isLetter : MethodName := ⟨RX8, "isLetter", "(I)Z"⟩
abbrev cX8_hasNumber : ByteArray := prog_10_method_10_code
def yX8_hasNumber : MethodName := ⟨RX8, "hasNumber", "(I)Z"⟩
abbrev cX8_isDigit : ByteArray := prog_10_method_11_code
def yX8_isDigit : MethodName := ⟨RX8, "isDigit", "(I)Z"⟩
abbrev cX8_byteAt : ByteArray := prog_10_method_12_code
def yX8_byteAt : MethodName := ⟨RX8, "byteAt", "(I)I"⟩
abbrev cX8_digitAt : ByteArray := prog_10_method_13_code
def yX8_digitAt : MethodName := ⟨RX8, "digitAt", "(I)I"⟩
abbrev cX8_numberAt : ByteArray := prog_10_method_14_code
def yX8_numberAt : MethodName := ⟨RX8, "numberAt", "(I)I"⟩
abbrev cX8_isDone : ByteArray := prog_10_method_15_code
def yX8_isDone : MethodName := ⟨RX8, "isDone", "(ILTwiceAsRich$Street;)Z"⟩
abbrev cX8_comesAsTold : ByteArray := prog_10_method_16_code
def yX8_comesAsTold : MethodName := ⟨RX8, "comesAsTold", "(LTwiceAsRich$Street;III)Z"⟩
abbrev cX8_turnsAsTold : ByteArray := prog_10_method_17_code
def yX8_turnsAsTold : MethodName := ⟨RX8, "turnsAsTold", "(LTwiceAsRich$Street;I)Z"⟩
abbrev cX8_movesAsTold : ByteArray := prog_10_method_18_code
def yX8_movesAsTold : MethodName := ⟨RX8, "movesAsTold", "(LTwiceAsRich$Street;II)Z"⟩
abbrev cX8_leavesAsTold : ByteArray := prog_10_method_19_code
def yX8_leavesAsTold : MethodName := ⟨RX8, "leavesAsTold", "(LTwiceAsRich$Street;)Z"⟩
def RX9 : String := "TwiceAsRich$Twins"
def TX9 : u_T := fun k => match k with
  | _ => ("TwiceAsRich$House", "figure", "I", true)
def tyX9 : Nat → FieldType := fun k => match k with
  | _ => .int
abbrev wsX90 : List Cond := u_ws RX9 TX9 1
theorem nmX9 : ∀ a, a < 1 → ∀ b, b < 1 → a ≠ b → (TX9 a).2.1 ≠ (TX9 b).2.1 := by decide +kernel
theorem tyX9_ok : ∀ k, k < 1 → parseFieldDescriptor (TX9 k).2.2.1 = some (tyX9 k) := by decide +kernel
abbrev cX9_init : ByteArray := prog_11_method_1_code
def yX9_init : MethodName := ⟨RX9, "<init>", "(I)V"⟩
abbrev cX9_kind : ByteArray := prog_11_method_2_code
def yX9_kind : MethodName := ⟨RX9, "kind", "()I"⟩
abbrev cX9_allowedBy : ByteArray := prog_11_method_3_code
def yX9_allowedBy : MethodName := ⟨RX9, "allowedBy", "(I)I"⟩
abbrev cX9_weekly : ByteArray := prog_11_method_4_code
def yX9_weekly : MethodName := ⟨RX9, "weekly", "()I"⟩
abbrev cX9_price : ByteArray := prog_11_method_5_code
def yX9_price : MethodName := ⟨RX9, "price", "()I"⟩
abbrev cX9_fail : ByteArray := prog_11_method_6_code
def yX9_fail : MethodName := ⟨RX9, "fail", "()V"⟩
def RX10 : String := "TwiceAsRich$Wall"
def TX10 : u_T := fun k => match k with
  | _ => ("TwiceAsRich$House", "figure", "I", true)
def tyX10 : Nat → FieldType := fun k => match k with
  | _ => .int
abbrev wsX100 : List Cond := u_ws RX10 TX10 1
theorem nmX10 : ∀ a, a < 1 → ∀ b, b < 1 → a ≠ b → (TX10 a).2.1 ≠ (TX10 b).2.1 := by decide +kernel
theorem tyX10_ok : ∀ k, k < 1 → parseFieldDescriptor (TX10 k).2.2.1 = some (tyX10 k) := by decide +kernel
abbrev cX10_init : ByteArray := prog_12_method_1_code
def yX10_init : MethodName := ⟨RX10, "<init>", "(I)V"⟩
abbrev cX10_kind : ByteArray := prog_12_method_2_code
def yX10_kind : MethodName := ⟨RX10, "kind", "()I"⟩
abbrev cX10_isLookedAt : ByteArray := prog_12_method_3_code
def yX10_isLookedAt : MethodName := ⟨RX10, "isLookedAt", "()Z"⟩
abbrev cX10_allowedBy : ByteArray := prog_12_method_4_code
def yX10_allowedBy : MethodName := ⟨RX10, "allowedBy", "(I)I"⟩
abbrev cX10_weekly : ByteArray := prog_12_method_5_code
def yX10_weekly : MethodName := ⟨RX10, "weekly", "()I"⟩
abbrev cX10_price : ByteArray := prog_12_method_6_code
def yX10_price : MethodName := ⟨RX10, "price", "()I"⟩
abbrev cX10_hasFailure : ByteArray := prog_12_method_7_code
def yX10_hasFailure : MethodName := ⟨RX10, "hasFailure", "()Z"⟩
def RX11 : String := "TwiceAsRich"
def TX11 : u_T := fun k => match k with
  | 0 => ("TwiceAsRich", "street", "LTwiceAsRich$Street;", true)
  | 1 => ("TwiceAsRich", "image", "LTwiceAsRich$Street;", true)
  | 2 => ("TwiceAsRich", "imageTaken", "Z", false)
  | 3 => ("TwiceAsRich", "mind", "LTwiceAsRich$Street;", true)
  | 4 => ("TwiceAsRich", "plainHouse", "LTwiceAsRich$House;", true)
  | 5 => ("TwiceAsRich", "partings", "LTwiceAsRich$Partings;", true)
  | 6 => ("TwiceAsRich", "text", "LTwiceAsRich$StreetText;", true)
  | 7 => ("TwiceAsRich", "kept", "[LTwiceAsRich$House;", true)
  | 8 => ("TwiceAsRich", "sorts", "[I", true)
  | 9 => ("TwiceAsRich", "sizes", "[I", true)
  | _ => ("TwiceAsRich", "rows", "[[I", true)
def tyX11 : Nat → FieldType := fun k => match k with
  | 0 => .object "TwiceAsRich$Street"
  | 1 => .object "TwiceAsRich$Street"
  | 2 => .boolean
  | 3 => .object "TwiceAsRich$Street"
  | 4 => .object "TwiceAsRich$House"
  | 5 => .object "TwiceAsRich$Partings"
  | 6 => .object "TwiceAsRich$StreetText"
  | 7 => .array (.object "TwiceAsRich$House")
  | 8 => .array .int
  | 9 => .array .int
  | _ => .array (.array .int)
abbrev wsX110 : List Cond := u_ws RX11 TX11 11
theorem nmX11 : ∀ a, a < 11 → ∀ b, b < 11 → a ≠ b → (TX11 a).2.1 ≠ (TX11 b).2.1 := by decide +kernel
theorem tyX11_ok : ∀ k, k < 11 → parseFieldDescriptor (TX11 k).2.2.1 = some (tyX11 k) := by decide +kernel
abbrev cX11_init : ByteArray := prog_1_method_1_code
def yX11_init : MethodName := ⟨RX11, "<init>", "()V"⟩
abbrev cX11_street : ByteArray := prog_1_method_2_code
def yX11_street : MethodName := ⟨RX11, "street", "(I)I"⟩
abbrev cX11_house : ByteArray := prog_1_method_3_code
def yX11_house : MethodName := ⟨RX11, "house", "(II)I"⟩
abbrev cX11_comes : ByteArray := prog_1_method_4_code
def yX11_comes : MethodName := ⟨RX11, "comes", "(II)I"⟩
abbrev cX11_round : ByteArray := prog_1_method_5_code
def yX11_round : MethodName := ⟨RX11, "round", "(I)I"⟩
abbrev cX11_give : ByteArray := prog_1_method_6_code
def yX11_give : MethodName := ⟨RX11, "give", "(III)I"⟩
abbrev cX11_weeks : ByteArray := prog_1_method_7_code
def yX11_weeks : MethodName := ⟨RX11, "weeks", "(I)I"⟩
abbrev cX11_lawful : ByteArray := prog_1_method_8_code
def yX11_lawful : MethodName := ⟨RX11, "lawful", "()I"⟩
abbrev cX11_breaches : ByteArray := prog_1_method_9_code
def yX11_breaches : MethodName := ⟨RX11, "breaches", "(I)I"⟩
abbrev cX11_held : ByteArray := prog_1_method_10_code
def yX11_held : MethodName := ⟨RX11, "held", "(I)I"⟩
abbrev cX11_free : ByteArray := prog_1_method_11_code
def yX11_free : MethodName := ⟨RX11, "free", "()I"⟩
abbrev cX11_partings : ByteArray := prog_1_method_12_code
def yX11_partings : MethodName := ⟨RX11, "partings", "(I)I"⟩
abbrev cX11_uneven : ByteArray := prog_1_method_13_code
def yX11_uneven : MethodName := ⟨RX11, "uneven", "(I)I"⟩
abbrev cX11_richest : ByteArray := prog_1_method_14_code
def yX11_richest : MethodName := ⟨RX11, "richest", "(II)I"⟩
abbrev cX11_hands : ByteArray := prog_1_method_15_code
def yX11_hands : MethodName := ⟨RX11, "hands", "()I"⟩
abbrev cX11_any : ByteArray := prog_1_method_16_code
def yX11_any : MethodName := ⟨RX11, "any", "()I"⟩
abbrev cX11_change : ByteArray := prog_1_method_17_code
def yX11_change : MethodName := ⟨RX11, "change", "(I)I"⟩
abbrev cX11_wedding : ByteArray := prog_1_method_18_code
def yX11_wedding : MethodName := ⟨RX11, "wedding", "(I)I"⟩
abbrev cX11_worth : ByteArray := prog_1_method_19_code
def yX11_worth : MethodName := ⟨RX11, "worth", "(II)I"⟩
abbrev cX11_fitting : ByteArray := prog_1_method_20_code
def yX11_fitting : MethodName := ⟨RX11, "fitting", "(II)I"⟩
abbrev cX11_given : ByteArray := prog_1_method_21_code
def yX11_given : MethodName := ⟨RX11, "given", "(II)I"⟩
abbrev cX11_tax : ByteArray := prog_1_method_22_code
def yX11_tax : MethodName := ⟨RX11, "tax", "(I)I"⟩
abbrev cX11_seeded : ByteArray := prog_1_method_23_code
def yX11_seeded : MethodName := ⟨RX11, "seeded", "(II)I"⟩
abbrev cX11_judge : ByteArray := prog_1_method_24_code
def yX11_judge : MethodName := ⟨RX11, "judge", "(I)I"⟩
abbrev cX11_image : ByteArray := prog_1_method_25_code
def yX11_image : MethodName := ⟨RX11, "image", "()I"⟩
abbrev cX11_restore : ByteArray := prog_1_method_26_code
def yX11_restore : MethodName := ⟨RX11, "restore", "()I"⟩
abbrev cX11_count : ByteArray := prog_1_method_27_code
def yX11_count : MethodName := ⟨RX11, "count", "(I)I"⟩
abbrev cX11_keep : ByteArray := prog_1_method_28_code
def yX11_keep : MethodName := ⟨RX11, "keep", "(IIII)I"⟩
abbrev cX11_row : ByteArray := prog_1_method_29_code
def yX11_row : MethodName := ⟨RX11, "row", "(III)I"⟩
abbrev cX11_put : ByteArray := prog_1_method_30_code
def yX11_put : MethodName := ⟨RX11, "put", "(III)I"⟩
abbrev cX11_element : ByteArray := prog_1_method_31_code
def yX11_element : MethodName := ⟨RX11, "element", "(II)J"⟩
abbrev cX11_copy : ByteArray := prog_1_method_32_code
def yX11_copy : MethodName := ⟨RX11, "copy", "(IIIII)I"⟩
abbrev cX11_fee : ByteArray := prog_1_method_33_code
def yX11_fee : MethodName := ⟨RX11, "fee", "(I)I"⟩
abbrev cX11_toss : ByteArray := prog_1_method_34_code
def yX11_toss : MethodName := ⟨RX11, "toss", "(I)I"⟩
abbrev cX11_isPurse : ByteArray := prog_1_method_35_code
def yX11_isPurse : MethodName := ⟨RX11, "isPurse", "(I)Z"⟩
abbrev cX11_isHouse : ByteArray := prog_1_method_36_code
def yX11_isHouse : MethodName := ⟨RX11, "isHouse", "(II)Z"⟩
abbrev cX11_isShelf : ByteArray := prog_1_method_37_code
def yX11_isShelf : MethodName := ⟨RX11, "isShelf", "(I)Z"⟩
abbrev cX11_holdsNothing : ByteArray := prog_1_method_38_code
def yX11_holdsNothing : MethodName := ⟨RX11, "holdsNothing", "(I)Z"⟩
abbrev cX11_isPlace : ByteArray := prog_1_method_39_code
def yX11_isPlace : MethodName := ⟨RX11, "isPlace", "(II)Z"⟩
abbrev cX11_isStretch : ByteArray := prog_1_method_40_code
def yX11_isStretch : MethodName := ⟨RX11, "isStretch", "(III)Z"⟩
abbrev cX11_rowRefusal : ByteArray := prog_1_method_41_code
def yX11_rowRefusal : MethodName := ⟨RX11, "rowRefusal", "(I)I"⟩
abbrev cX11_sortRefusal : ByteArray := prog_1_method_42_code
def yX11_sortRefusal : MethodName := ⟨RX11, "sortRefusal", "(II)I"⟩
abbrev cX11_houseRefusal : ByteArray := prog_1_method_43_code
def yX11_houseRefusal : MethodName := ⟨RX11, "houseRefusal", "(I)I"⟩
abbrev cX11_partingRefusal : ByteArray := prog_1_method_44_code
def yX11_partingRefusal : MethodName := ⟨RX11, "partingRefusal", "(I)I"⟩
abbrev cX11_canBeParted : ByteArray := prog_1_method_45_code
def yX11_canBeParted : MethodName := ⟨RX11, "canBeParted", "()Z"⟩
abbrev cX11_areGifts : ByteArray := prog_1_method_46_code
def yX11_areGifts : MethodName := ⟨RX11, "areGifts", "([II)Z"⟩
abbrev cX11_lowestBits : ByteArray := prog_1_method_47_code
def yX11_lowestBits : MethodName := ⟨RX11, "lowestBits", "(II)I"⟩
abbrev cX11_leastOf : ByteArray := prog_1_method_48_code
def yX11_leastOf : MethodName := ⟨RX11, "leastOf", "(I)I"⟩
abbrev cX11_nextDraw : ByteArray := prog_1_method_49_code
def yX11_nextDraw : MethodName := ⟨RX11, "nextDraw", "(I)I"⟩
abbrev cX11_drawnBelow : ByteArray := prog_1_method_50_code
def yX11_drawnBelow : MethodName := ⟨RX11, "drawnBelow", "(II)I"⟩
abbrev cX11_houseOfKind : ByteArray := prog_1_method_51_code
def yX11_houseOfKind : MethodName := ⟨RX11, "houseOfKind", "(II)LTwiceAsRich$House;"⟩
def RX12 : String := "TwiceAsRichModel"
def TX12 : u_T := fun k => match k with
  | 0 => ("TwiceAsRichModel", "s", "[I", true)
  | 1 => ("TwiceAsRichModel", "image", "[I", true)
  | 2 => ("TwiceAsRichModel", "read", "[I", true)
  | 3 => ("TwiceAsRichModel", "mind", "[I", true)
  | 4 => ("TwiceAsRichModel", "kept", "[I", true)
  | 5 => ("TwiceAsRichModel", "sort", "[I", true)
  | 6 => ("TwiceAsRichModel", "size", "[I", true)
  | 7 => ("TwiceAsRichModel", "element", "[I", true)
  | 8 => ("TwiceAsRichModel", "keptKind", "[I", true)
  | 9 => ("TwiceAsRichModel", "keptFigure", "[I", true)
  | 10 => ("TwiceAsRichModel", "hasImage", "Z", false)
  | 11 => ("TwiceAsRichModel", "thrown", "I", false)
  | 12 => ("TwiceAsRichModel", "pos", "I", false)
  | 13 => ("TwiceAsRichModel", "base", "I", false)
  | 14 => ("TwiceAsRichModel", "end", "I", false)
  | 15 => ("TwiceAsRichModel", "told", "I", false)
  | 16 => ("TwiceAsRichModel", "numbers", "[I", true)
  | 17 => ("TwiceAsRichModel", "ways", "I", false)
  | 18 => ("TwiceAsRichModel", "uneven", "I", false)
  | 19 => ("TwiceAsRichModel", "most", "I", false)
  | 20 => ("TwiceAsRichModel", "fewestHands", "I", false)
  | 21 => ("TwiceAsRichModel", "fewestAny", "I", false)
  | 22 => ("TwiceAsRichModel", "was", "[I", true)
  | _ => ("TwiceAsRichModel", "seed", "I", false)
def tyX12 : Nat → FieldType := fun k => match k with
  | 0 => .array .int
  | 1 => .array .int
  | 2 => .array .int
  | 3 => .array .int
  | 4 => .array .int
  | 5 => .array .int
  | 6 => .array .int
  | 7 => .array .int
  | 8 => .array .int
  | 9 => .array .int
  | 10 => .boolean
  | 11 => .int
  | 12 => .int
  | 13 => .int
  | 14 => .int
  | 15 => .int
  | 16 => .array .int
  | 17 => .int
  | 18 => .int
  | 19 => .int
  | 20 => .int
  | 21 => .int
  | 22 => .array .int
  | _ => .int
abbrev wsX120 : List Cond := u_ws RX12 TX12 24
theorem nmX12 : ∀ a, a < 24 → ∀ b, b < 24 → a ≠ b → (TX12 a).2.1 ≠ (TX12 b).2.1 := by decide +kernel
theorem tyX12_ok : ∀ k, k < 24 → parseFieldDescriptor (TX12 k).2.2.1 = some (tyX12 k) := by decide +kernel
abbrev cX12_init : ByteArray := prog_14_method_1_code
def yX12_init : MethodName := ⟨RX12, "<init>", "()V"⟩
abbrev cX12_thrown : ByteArray := prog_14_method_2_code
def yX12_thrown : MethodName := ⟨RX12, "thrown", "()I"⟩
abbrev cX12_isIn : ByteArray := prog_14_method_3_code
def yX12_isIn : MethodName := ⟨RX12, "isIn", "(JJJ)Z"⟩
abbrev cX12_isShelf : ByteArray := prog_14_method_4_code
def yX12_isShelf : MethodName := ⟨RX12, "isShelf", "(I)Z"⟩
abbrev cX12_isHouse : ByteArray := prog_14_method_5_code
def yX12_isHouse : MethodName := ⟨RX12, "isHouse", "(I)Z"⟩
abbrev cX12_areTwo : ByteArray := prog_14_method_6_code
def yX12_areTwo : MethodName := ⟨RX12, "areTwo", "(II)Z"⟩
abbrev cX12_lays : ByteArray := prog_14_method_7_code
def yX12_lays : MethodName := ⟨RX12, "lays", "([I[I)V"⟩
abbrev cX12_begins : ByteArray := prog_14_method_8_code
def yX12_begins : MethodName := ⟨RX12, "begins", "()V"⟩
abbrev cX12_ends : ByteArray := prog_14_method_9_code
def yX12_ends : MethodName := ⟨RX12, "ends", "()V"⟩
abbrev cX12_get : ByteArray := prog_14_method_10_code
def yX12_get : MethodName := ⟨RX12, "get", "(II)I"⟩
abbrev cX12_puts : ByteArray := prog_14_method_11_code
def yX12_puts : MethodName := ⟨RX12, "puts", "(III)V"⟩
abbrev cX12_kind : ByteArray := prog_14_method_12_code
def yX12_kind : MethodName := ⟨RX12, "kind", "(I)I"⟩
abbrev cX12_figure : ByteArray := prog_14_method_13_code
def yX12_figure : MethodName := ⟨RX12, "figure", "(I)I"⟩
abbrev cX12_purse : ByteArray := prog_14_method_14_code
def yX12_purse : MethodName := ⟨RX12, "purse", "(I)I"⟩
abbrev cX12_coins : ByteArray := prog_14_method_15_code
def yX12_coins : MethodName := ⟨RX12, "coins", "()I"⟩
abbrev cX12_isLookedAt : ByteArray := prog_14_method_16_code
def yX12_isLookedAt : MethodName := ⟨RX12, "isLookedAt", "(I)Z"⟩
abbrev cX12_shows : ByteArray := prog_14_method_17_code
def yX12_shows : MethodName := ⟨RX12, "shows", "(I)I"⟩
abbrev cX12_mayHave : ByteArray := prog_14_method_18_code
def yX12_mayHave : MethodName := ⟨RX12, "mayHave", "(II)I"⟩
abbrev cX12_earnsBy : ByteArray := prog_14_method_19_code
def yX12_earnsBy : MethodName := ⟨RX12, "earnsBy", "(II)I"⟩
abbrev cX12_beside : ByteArray := prog_14_method_20_code
def yX12_beside : MethodName := ⟨RX12, "beside", "(II)I"⟩
abbrev cX12_tooMuchBy : ByteArray := prog_14_method_21_code
def yX12_tooMuchBy : MethodName := ⟨RX12, "tooMuchBy", "(II)I"⟩
abbrev cX12_bits : ByteArray := prog_14_method_22_code
def yX12_bits : MethodName := ⟨RX12, "bits", "(I)I"⟩
abbrev cX12_breachesOf : ByteArray := prog_14_method_23_code
def yX12_breachesOf : MethodName := ⟨RX12, "breachesOf", "(I)I"⟩
abbrev cX12_breachesAll : ByteArray := prog_14_method_24_code
def yX12_breachesAll : MethodName := ⟨RX12, "breachesAll", "()I"⟩
abbrev cX12_isLawful : ByteArray := prog_14_method_25_code
def yX12_isLawful : MethodName := ⟨RX12, "isLawful", "()Z"⟩
abbrev cX12_mostOf : ByteArray := prog_14_method_26_code
def yX12_mostOf : MethodName := ⟨RX12, "mostOf", "(I)I"⟩
abbrev cX12_here : ByteArray := prog_14_method_27_code
def yX12_here : MethodName := ⟨RX12, "here", "()I"⟩
abbrev cX12_readsNumber : ByteArray := prog_14_method_28_code
def yX12_readsNumber : MethodName := ⟨RX12, "readsNumber", "(I)Z"⟩
abbrev cX12_readsStatement : ByteArray := prog_14_method_29_code
def yX12_readsStatement : MethodName := ⟨RX12, "readsStatement", "()Z"⟩
abbrev cX12_joins : ByteArray := prog_14_method_30_code
def yX12_joins : MethodName := ⟨RX12, "joins", "(III)V"⟩
abbrev cX12_adds : ByteArray := prog_14_method_31_code
def yX12_adds : MethodName := ⟨RX12, "adds", "(III)Z"⟩
abbrev cX12_wrongGift : ByteArray := prog_14_method_32_code
def yX12_wrongGift : MethodName := ⟨RX12, "wrongGift", "(III)I"⟩
abbrev cX12_gives : ByteArray := prog_14_method_33_code
def yX12_gives : MethodName := ⟨RX12, "gives", "(III)V"⟩
abbrev cX12_givesIf : ByteArray := prog_14_method_34_code
def yX12_givesIf : MethodName := ⟨RX12, "givesIf", "(III)Z"⟩
abbrev cX12_changes : ByteArray := prog_14_method_35_code
def yX12_changes : MethodName := ⟨RX12, "changes", "(II)V"⟩
abbrev cX12_comesTold : ByteArray := prog_14_method_36_code
def yX12_comesTold : MethodName := ⟨RX12, "comesTold", "(I)Z"⟩
abbrev cX12_wrongRow : ByteArray := prog_14_method_37_code
def yX12_wrongRow : MethodName := ⟨RX12, "wrongRow", "(II)I"⟩
abbrev cX12_street : ByteArray := prog_14_method_38_code
def yX12_street : MethodName := ⟨RX12, "street", "(I)I"⟩
abbrev cX12_house : ByteArray := prog_14_method_39_code
def yX12_house : MethodName := ⟨RX12, "house", "(II)I"⟩
abbrev cX12_wrongKept : ByteArray := prog_14_method_40_code
def yX12_wrongKept : MethodName := ⟨RX12, "wrongKept", "(I)I"⟩
abbrev cX12_comes : ByteArray := prog_14_method_41_code
def yX12_comes : MethodName := ⟨RX12, "comes", "(II)I"⟩
abbrev cX12_round : ByteArray := prog_14_method_42_code
def yX12_round : MethodName := ⟨RX12, "round", "(I)I"⟩
abbrev cX12_give : ByteArray := prog_14_method_43_code
def yX12_give : MethodName := ⟨RX12, "give", "(III)I"⟩
abbrev cX12_weeks : ByteArray := prog_14_method_44_code
def yX12_weeks : MethodName := ⟨RX12, "weeks", "(I)I"⟩
abbrev cX12_lawful : ByteArray := prog_14_method_45_code
def yX12_lawful : MethodName := ⟨RX12, "lawful", "()I"⟩
abbrev cX12_breaches : ByteArray := prog_14_method_46_code
def yX12_breaches : MethodName := ⟨RX12, "breaches", "(I)I"⟩
abbrev cX12_held : ByteArray := prog_14_method_47_code
def yX12_held : MethodName := ⟨RX12, "held", "(I)I"⟩
abbrev cX12_free : ByteArray := prog_14_method_48_code
def yX12_free : MethodName := ⟨RX12, "free", "()I"⟩
abbrev cX12_partsAre : ByteArray := prog_14_method_49_code
def yX12_partsAre : MethodName := ⟨RX12, "partsAre", "(I)V"⟩
abbrev cX12_parts : ByteArray := prog_14_method_50_code
def yX12_parts : MethodName := ⟨RX12, "parts", "(III)V"⟩
abbrev cX12_partsAll : ByteArray := prog_14_method_51_code
def yX12_partsAll : MethodName := ⟨RX12, "partsAll", "(II)V"⟩
abbrev cX12_wrongParting : ByteArray := prog_14_method_52_code
def yX12_wrongParting : MethodName := ⟨RX12, "wrongParting", "(I)I"⟩
abbrev cX12_partings : ByteArray := prog_14_method_53_code
def yX12_partings : MethodName := ⟨RX12, "partings", "(I)I"⟩
abbrev cX12_uneven : ByteArray := prog_14_method_54_code
def yX12_uneven : MethodName := ⟨RX12, "uneven", "(I)I"⟩
abbrev cX12_richest : ByteArray := prog_14_method_55_code
def yX12_richest : MethodName := ⟨RX12, "richest", "(II)I"⟩
abbrev cX12_tooMany : ByteArray := prog_14_method_56_code
def yX12_tooMany : MethodName := ⟨RX12, "tooMany", "()Z"⟩
abbrev cX12_hands : ByteArray := prog_14_method_57_code
def yX12_hands : MethodName := ⟨RX12, "hands", "()I"⟩
abbrev cX12_any : ByteArray := prog_14_method_58_code
def yX12_any : MethodName := ⟨RX12, "any", "()I"⟩
abbrev cX12_change : ByteArray := prog_14_method_59_code
def yX12_change : MethodName := ⟨RX12, "change", "(I)I"⟩
abbrev cX12_wedding : ByteArray := prog_14_method_60_code
def yX12_wedding : MethodName := ⟨RX12, "wedding", "(I)I"⟩
abbrev cX12_worth : ByteArray := prog_14_method_61_code
def yX12_worth : MethodName := ⟨RX12, "worth", "(II)I"⟩
abbrev cX12_fitting : ByteArray := prog_14_method_62_code
def yX12_fitting : MethodName := ⟨RX12, "fitting", "(II)I"⟩
abbrev cX12_toldAt : ByteArray := prog_14_method_63_code
def yX12_toldAt : MethodName := ⟨RX12, "toldAt", "(II)I"⟩
abbrev cX12_given : ByteArray := prog_14_method_64_code
def yX12_given : MethodName := ⟨RX12, "given", "(II)I"⟩
abbrev cX12_tax : ByteArray := prog_14_method_65_code
def yX12_tax : MethodName := ⟨RX12, "tax", "(I)I"⟩
abbrev cX12_drawn : ByteArray := prog_14_method_66_code
def yX12_drawn : MethodName := ⟨RX12, "drawn", "(I)I"⟩
abbrev cX12_seeded : ByteArray := prog_14_method_67_code
def yX12_seeded : MethodName := ⟨RX12, "seeded", "(II)I"⟩
abbrev cX12_judge : ByteArray := prog_14_method_68_code
def yX12_judge : MethodName := ⟨RX12, "judge", "(I)I"⟩
abbrev cX12_image : ByteArray := prog_14_method_69_code
def yX12_image : MethodName := ⟨RX12, "image", "()I"⟩
abbrev cX12_restore : ByteArray := prog_14_method_70_code
def yX12_restore : MethodName := ⟨RX12, "restore", "()I"⟩
abbrev cX12_count : ByteArray := prog_14_method_71_code
def yX12_count : MethodName := ⟨RX12, "count", "(I)I"⟩
abbrev cX12_feeBy : ByteArray := prog_14_method_72_code
def yX12_feeBy : MethodName := ⟨RX12, "feeBy", "(II)I"⟩
abbrev cX12_keep : ByteArray := prog_14_method_73_code
def yX12_keep : MethodName := ⟨RX12, "keep", "(IIII)I"⟩
abbrev cX12_row : ByteArray := prog_14_method_74_code
def yX12_row : MethodName := ⟨RX12, "row", "(III)I"⟩
abbrev cX12_put : ByteArray := prog_14_method_75_code
def yX12_put : MethodName := ⟨RX12, "put", "(III)I"⟩
abbrev cX12_element : ByteArray := prog_14_method_76_code
def yX12_element : MethodName := ⟨RX12, "element", "(II)J"⟩
abbrev cX12_copy : ByteArray := prog_14_method_77_code
def yX12_copy : MethodName := ⟨RX12, "copy", "(IIIII)I"⟩
abbrev cX12_fee : ByteArray := prog_14_method_78_code
def yX12_fee : MethodName := ⟨RX12, "fee", "(I)I"⟩
abbrev cX12_toss : ByteArray := prog_14_method_79_code
def yX12_toss : MethodName := ⟨RX12, "toss", "(I)I"⟩
def RJx145de : String := "java/io/Serializable"
def TJx145de : u_T := fun k => match k with
  | _ => ("", "", "", false)
def tyJx145de : Nat → FieldType := fun k => match k with
  | _ => .int
abbrev wsJx145de0 : List Cond := u_ws RJx145de TJx145de 0
theorem nmJx145de : ∀ a, a < 0 → ∀ b, b < 0 → a ≠ b → (TJx145de a).2.1 ≠ (TJx145de b).2.1 := by decide +kernel
theorem tyJx145de_ok : ∀ k, k < 0 → parseFieldDescriptor (TJx145de k).2.2.1 = some (tyJx145de k) := by decide +kernel
def RJ9 : String := "java/lang/Math"
def TJ9 : u_T := fun k => match k with
  | _ => ("", "", "", false)
def tyJ9 : Nat → FieldType := fun k => match k with
  | _ => .int
abbrev wsJ90 : List Cond := u_ws RJ9 TJ9 0
theorem nmJ9 : ∀ a, a < 0 → ∀ b, b < 0 → a ≠ b → (TJ9 a).2.1 ≠ (TJ9 b).2.1 := by decide +kernel
theorem tyJ9_ok : ∀ k, k < 0 → parseFieldDescriptor (TJ9 k).2.2.1 = some (tyJ9 k) := by decide +kernel
abbrev cJ9_abs_0f7a4 : ByteArray := prog_18_method_59_code
def yJ9_abs_0f7a4 : MethodName := ⟨RJ9, "abs", "(I)I"⟩
abbrev cJ9_max_7cf53 : ByteArray := prog_18_method_65_code
def yJ9_max_7cf53 : MethodName := ⟨RJ9, "max", "(II)I"⟩
abbrev cJ9_min_7cf53 : ByteArray := prog_18_method_69_code
def yJ9_min_7cf53 : MethodName := ⟨RJ9, "min", "(II)I"⟩
def RJ0 : String := "java/lang/String"
def TJ0 : u_T := fun k => match k with
  | _ => ("", "", "", false)
def tyJ0 : Nat → FieldType := fun k => match k with
  | _ => .int
abbrev wsJ00 : List Cond := u_ws RJ0 TJ0 0
theorem nmJ0 : ∀ a, a < 0 → ∀ b, b < 0 → a ≠ b → (TJ0 a).2.1 ≠ (TJ0 b).2.1 := by decide +kernel
theorem tyJ0_ok : ∀ k, k < 0 → parseFieldDescriptor (TJ0 k).2.2.1 = some (tyJ0 k) := by decide +kernel
def RJ10 : String := "java/lang/System"
def TJ10 : u_T := fun k => match k with
  | _ => ("", "", "", false)
def tyJ10 : Nat → FieldType := fun k => match k with
  | _ => .int
abbrev wsJ100 : List Cond := u_ws RJ10 TJ10 0
theorem nmJ10 : ∀ a, a < 0 → ∀ b, b < 0 → a ≠ b → (TJ10 a).2.1 ≠ (TJ10 b).2.1 := by decide +kernel
theorem tyJ10_ok : ∀ k, k < 0 → parseFieldDescriptor (TJ10 k).2.2.1 = some (tyJ10 k) := by decide +kernel
def RJ7 : String := "java/util/Arrays"
def TJ7 : u_T := fun k => match k with
  | _ => ("", "", "", false)
def tyJ7 : Nat → FieldType := fun k => match k with
  | _ => .int
abbrev wsJ70 : List Cond := u_ws RJ7 TJ7 0
theorem nmJ7 : ∀ a, a < 0 → ∀ b, b < 0 → a ≠ b → (TJ7 a).2.1 ≠ (TJ7 b).2.1 := by decide +kernel
theorem tyJ7_ok : ∀ k, k < 0 → parseFieldDescriptor (TJ7 k).2.2.1 = some (tyJ7 k) := by decide +kernel
abbrev cJ7_fill_53178 : ByteArray := prog_24_method_103_code
def yJ7_fill_53178 : MethodName := ⟨RJ7, "fill", "([II)V"⟩
def RL : String := "TwiceAsRichLaw"
abbrev cL_element : ByteArray := method_3_code
def yL_element : MethodName := ⟨RL, "element", "(LTwiceAsRich;II[J)I"⟩
abbrev cL_law : ByteArray := code
def yL_law : MethodName := ⟨RL, "law", "([I)Z"⟩
def wsX3_init : List Cond := .code yX3_init cX3_init 2 none :: ([.methodLink RX3 1 objectInit, .instanceMethod objectInit, .code objectInit ⟨#[0xb1]⟩ 1 none, .fieldLink RX3 7 "TwiceAsRich$House" "figure" "I"] ++ wsX00 ++ wsX10 ++ wsX20 ++ wsX30 ++ wsX40 ++ wsX60 ++ wsX90 ++ wsX100)
def wsX6_init : List Cond := .code yX6_init cX6_init 2 none :: ([.methodLink RX6 1 yX3_init, .instanceMethod yX3_init, .initialized RX3, .code yX3_init cX3_init 2 none, .methodLink RX3 1 objectInit, .instanceMethod objectInit, .code objectInit ⟨#[0xb1]⟩ 1 none, .fieldLink RX3 7 "TwiceAsRich$House" "figure" "I"] ++ wsX00 ++ wsX10 ++ wsX20 ++ wsX30 ++ wsX40 ++ wsX60 ++ wsX90 ++ wsX100)
def wsX0_init : List Cond := .code yX0_init cX0_init 2 none :: ([.methodLink RX0 1 yX6_init, .instanceMethod yX6_init, .initialized RX6, .code yX6_init cX6_init 2 none, .methodLink RX6 1 yX3_init, .instanceMethod yX3_init, .initialized RX3, .code yX3_init cX3_init 2 none, .methodLink RX3 1 objectInit, .instanceMethod objectInit, .code objectInit ⟨#[0xb1]⟩ 1 none, .fieldLink RX3 7 "TwiceAsRich$House" "figure" "I"] ++ wsX00 ++ wsX10 ++ wsX20 ++ wsX30 ++ wsX40 ++ wsX60 ++ wsX90 ++ wsX100)
def wsX0_kind : List Cond := .code yX0_kind cX0_kind 1 (some .int) :: ([])
def wsX3_shownOf : List Cond := .code yX3_shownOf cX3_shownOf 2 (some .int) :: ([])
def wsX6_shownOf : List Cond := .code yX6_shownOf cX6_shownOf 2 (some .int) :: ([.methodLink RX6 7 yX3_shownOf, .sameMethod "TwiceAsRich$House" "TwiceAsRich$House" "shownOf" "(I)I", .superclass RX6 RX3, .instanceMethod yX3_shownOf, .initialized RX3, .code yX3_shownOf cX3_shownOf 2 (some .int)])
def wsX0_shownOf : List Cond := .code yX0_shownOf cX0_shownOf 2 (some .int) :: ([.fieldLink RX0 11 "TwiceAsRich$Beggar" "figure" "I", .sameField "TwiceAsRich$Beggar" "TwiceAsRich$House" "figure" "I", .methodLink RX0 7 yX6_shownOf, .sameMethod "TwiceAsRich$Priest" "TwiceAsRich$Priest" "shownOf" "(I)I", .superclass RX0 RX6, .instanceMethod yX6_shownOf, .initialized RX6, .code yX6_shownOf cX6_shownOf 2 (some .int), .methodLink RX6 7 yX3_shownOf, .sameMethod "TwiceAsRich$House" "TwiceAsRich$House" "shownOf" "(I)I", .superclass RX6 RX3, .instanceMethod yX3_shownOf, .initialized RX3, .code yX3_shownOf cX3_shownOf 2 (some .int)] ++ wsX00 ++ wsX10 ++ wsX20 ++ wsX30 ++ wsX40 ++ wsX60 ++ wsX90 ++ wsX100)
def wsX3_weekly : List Cond := .code yX3_weekly cX3_weekly 1 (some .int) :: ([])
def wsX6_weekly : List Cond := .code yX6_weekly cX6_weekly 1 (some .int) :: ([.methodLink RX6 11 yX3_weekly, .sameMethod "TwiceAsRich$House" "TwiceAsRich$House" "weekly" "()I", .superclass RX6 RX3, .instanceMethod yX3_weekly, .initialized RX3, .code yX3_weekly cX3_weekly 1 (some .int)])
def wsX0_weekly : List Cond := .code yX0_weekly cX0_weekly 1 (some .int) :: ([.methodLink RX0 17 yX6_weekly, .sameMethod "TwiceAsRich$Priest" "TwiceAsRich$Priest" "weekly" "()I", .superclass RX0 RX6, .instanceMethod yX6_weekly, .initialized RX6, .code yX6_weekly cX6_weekly 1 (some .int), .methodLink RX6 11 yX3_weekly, .sameMethod "TwiceAsRich$House" "TwiceAsRich$House" "weekly" "()I", .superclass RX6 RX3, .instanceMethod yX3_weekly, .initialized RX3, .code yX3_weekly cX3_weekly 1 (some .int)])
def wsX3_price : List Cond := .code yX3_price cX3_price 1 (some .int) :: ([])
def wsX6_price : List Cond := .code yX6_price cX6_price 1 (some .int) :: ([.methodLink RX6 15 yX3_price, .sameMethod "TwiceAsRich$House" "TwiceAsRich$House" "price" "()I", .superclass RX6 RX3, .instanceMethod yX3_price, .initialized RX3, .code yX3_price cX3_price 1 (some .int)])
def wsX0_price : List Cond := .code yX0_price cX0_price 1 (some .int) :: ([.fieldLink RX0 11 "TwiceAsRich$Beggar" "figure" "I", .sameField "TwiceAsRich$Beggar" "TwiceAsRich$House" "figure" "I", .methodLink RX0 21 yX6_price, .sameMethod "TwiceAsRich$Priest" "TwiceAsRich$Priest" "price" "()I", .superclass RX0 RX6, .instanceMethod yX6_price, .initialized RX6, .code yX6_price cX6_price 1 (some .int), .methodLink RX6 15 yX3_price, .sameMethod "TwiceAsRich$House" "TwiceAsRich$House" "price" "()I", .superclass RX6 RX3, .instanceMethod yX3_price, .initialized RX3, .code yX3_price cX3_price 1 (some .int)] ++ wsX00 ++ wsX10 ++ wsX20 ++ wsX30 ++ wsX40 ++ wsX60 ++ wsX90 ++ wsX100)
def wsX0_fail : List Cond := .code yX0_fail cX0_fail 1 none :: ([.classLink RX0 24 "java/lang/IllegalArgumentException", .initialized "java/lang/IllegalArgumentException"] ++ (vx_at0 RX0 26 "java/lang/IllegalArgumentException" ["java/lang/RuntimeException", "java/lang/Exception"]).filter goodWord)
def wsX10_init : List Cond := .code yX10_init cX10_init 2 none :: ([.methodLink RX10 3 yX3_init, .instanceMethod yX3_init, .initialized RX3, .code yX3_init cX3_init 2 none, .methodLink RX3 1 objectInit, .instanceMethod objectInit, .code objectInit ⟨#[0xb1]⟩ 1 none, .fieldLink RX3 7 "TwiceAsRich$House" "figure" "I"] ++ wsX00 ++ wsX10 ++ wsX20 ++ wsX30 ++ wsX40 ++ wsX60 ++ wsX90 ++ wsX100)
def wsX1_init : List Cond := .code yX1_init cX1_init 2 none :: ([.methodLink RX1 1 yX10_init, .instanceMethod yX10_init, .initialized RX10, .code yX10_init cX10_init 2 none, .methodLink RX10 3 yX3_init, .instanceMethod yX3_init, .initialized RX3, .code yX3_init cX3_init 2 none, .methodLink RX3 1 objectInit, .instanceMethod objectInit, .code objectInit ⟨#[0xb1]⟩ 1 none, .fieldLink RX3 7 "TwiceAsRich$House" "figure" "I"] ++ wsX00 ++ wsX10 ++ wsX20 ++ wsX30 ++ wsX40 ++ wsX60 ++ wsX90 ++ wsX100)
def wsX1_kind : List Cond := .code yX1_kind cX1_kind 1 (some .int) :: ([])
def wsX1_isLookedAt : List Cond := .code yX1_isLookedAt cX1_isLookedAt 1 (some .boolean) :: ([])
def wsX10_weekly : List Cond := .code yX10_weekly cX10_weekly 1 (some .int) :: ([])
def wsX1_weekly : List Cond := .code yX1_weekly cX1_weekly 1 (some .int) :: ([.fieldLink RX1 11 "TwiceAsRich$Blind" "figure" "I", .sameField "TwiceAsRich$Blind" "TwiceAsRich$House" "figure" "I", .methodLink RX1 7 yX10_weekly, .sameMethod "TwiceAsRich$Wall" "TwiceAsRich$Wall" "weekly" "()I", .superclass RX1 RX10, .instanceMethod yX10_weekly, .initialized RX10, .code yX10_weekly cX10_weekly 1 (some .int)] ++ wsX00 ++ wsX10 ++ wsX20 ++ wsX30 ++ wsX40 ++ wsX60 ++ wsX90 ++ wsX100)
def wsX10_price : List Cond := .code yX10_price cX10_price 1 (some .int) :: ([.methodLink RX10 9 yX3_price, .sameMethod "TwiceAsRich$House" "TwiceAsRich$House" "price" "()I", .superclass RX10 RX3, .instanceMethod yX3_price, .initialized RX3, .code yX3_price cX3_price 1 (some .int)])
def wsX1_price : List Cond := .code yX1_price cX1_price 1 (some .int) :: ([.methodLink RX1 17 yX10_price, .sameMethod "TwiceAsRich$Wall" "TwiceAsRich$Wall" "price" "()I", .superclass RX1 RX10, .instanceMethod yX10_price, .initialized RX10, .code yX10_price cX10_price 1 (some .int), .methodLink RX10 9 yX3_price, .sameMethod "TwiceAsRich$House" "TwiceAsRich$House" "price" "()I", .superclass RX10 RX3, .instanceMethod yX3_price, .initialized RX3, .code yX3_price cX3_price 1 (some .int)])
def wsX1_hasFailure : List Cond := .code yX1_hasFailure cX1_hasFailure 1 (some .boolean) :: ([.fieldLink RX1 11 "TwiceAsRich$Blind" "figure" "I", .sameField "TwiceAsRich$Blind" "TwiceAsRich$House" "figure" "I"] ++ wsX00 ++ wsX10 ++ wsX20 ++ wsX30 ++ wsX40 ++ wsX60 ++ wsX90 ++ wsX100)
def wsX2_init : List Cond := .code yX2_init cX2_init 2 none :: ([.methodLink RX2 1 yX3_init, .instanceMethod yX3_init, .initialized RX3, .code yX3_init cX3_init 2 none, .methodLink RX3 1 objectInit, .instanceMethod objectInit, .code objectInit ⟨#[0xb1]⟩ 1 none, .fieldLink RX3 7 "TwiceAsRich$House" "figure" "I"] ++ wsX00 ++ wsX10 ++ wsX20 ++ wsX30 ++ wsX40 ++ wsX60 ++ wsX90 ++ wsX100)
def wsX2_kind : List Cond := .code yX2_kind cX2_kind 1 (some .int) :: ([])
def wsX3_allowedBy : List Cond := .code yX3_allowedBy cX3_allowedBy 2 (some .int) :: ([])
def wsX2_allowedBy : List Cond := .code yX2_allowedBy cX2_allowedBy 2 (some .int) :: ([.fieldLink RX2 11 "TwiceAsRich$Heir" "figure" "I", .sameField "TwiceAsRich$Heir" "TwiceAsRich$House" "figure" "I", .methodLink RX2 7 yX3_allowedBy, .sameMethod "TwiceAsRich$House" "TwiceAsRich$House" "allowedBy" "(I)I", .superclass RX2 RX3, .instanceMethod yX3_allowedBy, .initialized RX3, .code yX3_allowedBy cX3_allowedBy 2 (some .int)] ++ wsX00 ++ wsX10 ++ wsX20 ++ wsX30 ++ wsX40 ++ wsX60 ++ wsX90 ++ wsX100)
def wsX2_weekly : List Cond := .code yX2_weekly cX2_weekly 1 (some .int) :: ([.fieldLink RX2 11 "TwiceAsRich$Heir" "figure" "I", .sameField "TwiceAsRich$Heir" "TwiceAsRich$House" "figure" "I", .methodLink RX2 17 yX3_weekly, .sameMethod "TwiceAsRich$House" "TwiceAsRich$House" "weekly" "()I", .superclass RX2 RX3, .instanceMethod yX3_weekly, .initialized RX3, .code yX3_weekly cX3_weekly 1 (some .int)] ++ wsX00 ++ wsX10 ++ wsX20 ++ wsX30 ++ wsX40 ++ wsX60 ++ wsX90 ++ wsX100)
def wsX2_price : List Cond := .code yX2_price cX2_price 1 (some .int) :: ([.fieldLink RX2 11 "TwiceAsRich$Heir" "figure" "I", .sameField "TwiceAsRich$Heir" "TwiceAsRich$House" "figure" "I", .methodLink RX2 21 yX3_price, .sameMethod "TwiceAsRich$House" "TwiceAsRich$House" "price" "()I", .superclass RX2 RX3, .instanceMethod yX3_price, .initialized RX3, .code yX3_price cX3_price 1 (some .int)] ++ wsX00 ++ wsX10 ++ wsX20 ++ wsX30 ++ wsX40 ++ wsX60 ++ wsX90 ++ wsX100)
def wsX3_kind : List Cond := .code yX3_kind cX3_kind 1 (some .int) :: ([])
def wsX3_isLookedAt : List Cond := .code yX3_isLookedAt cX3_isLookedAt 1 (some .boolean) :: ([])
def wsX3_hasFailure : List Cond := .code yX3_hasFailure cX3_hasFailure 1 (some .boolean) :: ([.fieldLink RX3 7 "TwiceAsRich$House" "figure" "I"] ++ wsX00 ++ wsX10 ++ wsX20 ++ wsX30 ++ wsX40 ++ wsX60 ++ wsX90 ++ wsX100)
def wsX3_fail : List Cond := .code yX3_fail cX3_fail 1 none :: ([.classLink RX3 13 "java/lang/IllegalStateException", .initialized "java/lang/IllegalStateException"] ++ (vx_at0 RX3 15 "java/lang/IllegalStateException" ["java/lang/RuntimeException", "java/lang/Exception"]).filter goodWord)
def wsX4_init : List Cond := .code yX4_init cX4_init 2 none :: ([.methodLink RX4 1 yX2_init, .instanceMethod yX2_init, .initialized RX2, .code yX2_init cX2_init 2 none, .methodLink RX2 1 yX3_init, .instanceMethod yX3_init, .initialized RX3, .code yX3_init cX3_init 2 none, .methodLink RX3 1 objectInit, .instanceMethod objectInit, .code objectInit ⟨#[0xb1]⟩ 1 none, .fieldLink RX3 7 "TwiceAsRich$House" "figure" "I"] ++ wsX00 ++ wsX10 ++ wsX20 ++ wsX30 ++ wsX40 ++ wsX60 ++ wsX90 ++ wsX100)
def wsX4_kind : List Cond := .code yX4_kind cX4_kind 1 (some .int) :: ([])
def wsX4_shownOf : List Cond := .code yX4_shownOf cX4_shownOf 2 (some .int) :: ([])
def wsX4_allowedBy : List Cond := .code yX4_allowedBy cX4_allowedBy 2 (some .int) :: ([.methodLink RX4 14 Lib.Math.max.name, .static Lib.Math.max.name, .initialized "java/lang/Math", .code Lib.Math.max.name Lib.Math.max.code 2 (some .int), .methodLink RX4 11 yX2_allowedBy, .sameMethod "TwiceAsRich$Heir" "TwiceAsRich$Heir" "allowedBy" "(I)I", .superclass RX4 RX2, .instanceMethod yX2_allowedBy, .initialized RX2, .code yX2_allowedBy cX2_allowedBy 2 (some .int), .fieldLink RX2 11 "TwiceAsRich$Heir" "figure" "I", .sameField "TwiceAsRich$Heir" "TwiceAsRich$House" "figure" "I", .methodLink RX2 7 yX3_allowedBy, .sameMethod "TwiceAsRich$House" "TwiceAsRich$House" "allowedBy" "(I)I", .superclass RX2 RX3, .instanceMethod yX3_allowedBy, .initialized RX3, .code yX3_allowedBy cX3_allowedBy 2 (some .int)] ++ wsX00 ++ wsX10 ++ wsX20 ++ wsX30 ++ wsX40 ++ wsX60 ++ wsX90 ++ wsX100)
def wsX4_weekly : List Cond := .code yX4_weekly cX4_weekly 1 (some .int) :: ([.methodLink RX4 20 yX2_weekly, .sameMethod "TwiceAsRich$Heir" "TwiceAsRich$Heir" "weekly" "()I", .superclass RX4 RX2, .instanceMethod yX2_weekly, .initialized RX2, .code yX2_weekly cX2_weekly 1 (some .int), .fieldLink RX2 11 "TwiceAsRich$Heir" "figure" "I", .sameField "TwiceAsRich$Heir" "TwiceAsRich$House" "figure" "I", .methodLink RX2 17 yX3_weekly, .sameMethod "TwiceAsRich$House" "TwiceAsRich$House" "weekly" "()I", .superclass RX2 RX3, .instanceMethod yX3_weekly, .initialized RX3, .code yX3_weekly cX3_weekly 1 (some .int)] ++ wsX00 ++ wsX10 ++ wsX20 ++ wsX30 ++ wsX40 ++ wsX60 ++ wsX90 ++ wsX100)
def wsX4_price : List Cond := .code yX4_price cX4_price 1 (some .int) :: ([.methodLink RX4 24 yX2_price, .sameMethod "TwiceAsRich$Heir" "TwiceAsRich$Heir" "price" "()I", .superclass RX4 RX2, .instanceMethod yX2_price, .initialized RX2, .code yX2_price cX2_price 1 (some .int), .fieldLink RX2 11 "TwiceAsRich$Heir" "figure" "I", .sameField "TwiceAsRich$Heir" "TwiceAsRich$House" "figure" "I", .methodLink RX2 21 yX3_price, .sameMethod "TwiceAsRich$House" "TwiceAsRich$House" "price" "()I", .superclass RX2 RX3, .instanceMethod yX3_price, .initialized RX3, .code yX3_price cX3_price 1 (some .int)] ++ wsX00 ++ wsX10 ++ wsX20 ++ wsX30 ++ wsX40 ++ wsX60 ++ wsX90 ++ wsX100)
def wsX7_init : List Cond := .code yX7_init cX7_init 1 none :: ([.methodLink RX7 3 objectInit, .instanceMethod objectInit, .code objectInit ⟨#[0xb1]⟩ 1 none, .classLink RX7 9 RX3, .fieldLink RX7 11 "TwiceAsRich$Street" "houses" "[LTwiceAsRich$House;", .arrayClass .int, .fieldLink RX7 17 "TwiceAsRich$Street" "purses" "[I"] ++ wsX70)
def wsX5_init : List Cond := .code yX5_init cX5_init 1 none :: ([.methodLink RX5 3 objectInit, .instanceMethod objectInit, .code objectInit ⟨#[0xb1]⟩ 1 none, .arrayClass .int, .fieldLink RX5 9 "TwiceAsRich$Partings" "richest" "[I", .classLink RX5 15 RX7, .instantiable RX7 4, .initialized RX7, .fieldLink RX5 18 "TwiceAsRich$Partings" "parted" "LTwiceAsRich$Street;", .fieldLink RX5 22 "TwiceAsRich$Partings" "before" "[I", .classLink RX5 25 "[[I", .fieldLink RX5 27 "TwiceAsRich$Partings" "suits" "[[I", .methodLink RX5 17 yX7_init, .instanceMethod yX7_init, .code yX7_init cX7_init 1 none, .methodLink RX7 3 objectInit, .classLink RX7 9 RX3, .fieldLink RX7 11 "TwiceAsRich$Street" "houses" "[LTwiceAsRich$House;", .fieldLink RX7 17 "TwiceAsRich$Street" "purses" "[I"] ++ wsX50 ++ wsX70)
def wsJ7_fill_53178 : List Cond := .code yJ7_fill_53178 cJ7_fill_53178 4 none :: ([])
def wsX7_become : List Cond := .code yX7_become cX7_become 3 none :: ([.fieldLink RX7 11 "TwiceAsRich$Street" "houses" "[LTwiceAsRich$House;", .fieldLink RX7 17 "TwiceAsRich$Street" "purses" "[I", .fieldLink RX7 21 "TwiceAsRich$Street" "count" "I", .fieldLink RX7 25 "TwiceAsRich$Street" "round" "I"] ++ wsX70)
def wsX7_isClosed : List Cond := .code yX7_isClosed cX7_isClosed 1 (some .boolean) :: ([.fieldLink RX7 25 "TwiceAsRich$Street" "round" "I", .fieldLink RX7 21 "TwiceAsRich$Street" "count" "I"] ++ wsX70)
def wsX7_behind : List Cond := .code yX7_behind cX7_behind 2 (some .int) :: ([.fieldLink RX7 21 "TwiceAsRich$Street" "count" "I", .methodLink RX7 32 yX7_isClosed, .instanceMethod yX7_isClosed, .selects RX7 yX7_isClosed yX7_isClosed, .initialized RX7, .code yX7_isClosed cX7_isClosed 1 (some .boolean), .fieldLink RX7 25 "TwiceAsRich$Street" "round" "I"] ++ wsX70)
def wsX10_isLookedAt : List Cond := .code yX10_isLookedAt cX10_isLookedAt 1 (some .boolean) :: ([])
def wsX10_allowedBy : List Cond := .code yX10_allowedBy cX10_allowedBy 2 (some .int) :: ([])
def wsX9_allowedBy : List Cond := .code yX9_allowedBy cX9_allowedBy 2 (some .int) :: ([.methodLink RX9 7 yX2_allowedBy, .sameMethod "TwiceAsRich$Heir" "TwiceAsRich$Heir" "allowedBy" "(I)I", .superclass RX9 RX2, .instanceMethod yX2_allowedBy, .initialized RX2, .code yX2_allowedBy cX2_allowedBy 2 (some .int), .fieldLink RX2 11 "TwiceAsRich$Heir" "figure" "I", .sameField "TwiceAsRich$Heir" "TwiceAsRich$House" "figure" "I", .methodLink RX2 7 yX3_allowedBy, .sameMethod "TwiceAsRich$House" "TwiceAsRich$House" "allowedBy" "(I)I", .superclass RX2 RX3, .instanceMethod yX3_allowedBy, .initialized RX3, .code yX3_allowedBy cX3_allowedBy 2 (some .int)] ++ wsX00 ++ wsX10 ++ wsX20 ++ wsX30 ++ wsX40 ++ wsX60 ++ wsX90 ++ wsX100)
def wsX7_limitBy_r1 : List Cond := [Cond.fieldLink RX7 11 "TwiceAsRich$Street" "houses" "[LTwiceAsRich$House;", Cond.constant RX7 39 (1000000), Cond.fieldLink RX7 17 "TwiceAsRich$Street" "purses" "[I", Cond.methodLink RX7 36 ⟨"TwiceAsRich$House", "isLookedAt", "()Z"⟩, Cond.sameMethod "TwiceAsRich$House" "TwiceAsRich$House" "isLookedAt" "()Z", Cond.selects RX0 ⟨"TwiceAsRich$House", "isLookedAt", "()Z"⟩ yX3_isLookedAt, Cond.instanceMethod yX3_isLookedAt, Cond.initialized RX3, Cond.code yX3_isLookedAt cX3_isLookedAt 1 (some .boolean), Cond.instanceMethod ⟨"TwiceAsRich$House", "isLookedAt", "()Z"⟩, Cond.selects RX1 ⟨"TwiceAsRich$House", "isLookedAt", "()Z"⟩ yX1_isLookedAt, Cond.instanceMethod yX1_isLookedAt, Cond.initialized RX1, Cond.code yX1_isLookedAt cX1_isLookedAt 1 (some .boolean), Cond.selects RX2 ⟨"TwiceAsRich$House", "isLookedAt", "()Z"⟩ yX3_isLookedAt, Cond.methodLink RX7 36 yX3_isLookedAt, Cond.selects RX3 yX3_isLookedAt yX3_isLookedAt, Cond.selects RX4 ⟨"TwiceAsRich$House", "isLookedAt", "()Z"⟩ yX3_isLookedAt, Cond.selects RX6 ⟨"TwiceAsRich$House", "isLookedAt", "()Z"⟩ yX3_isLookedAt, Cond.selects RX9 ⟨"TwiceAsRich$House", "isLookedAt", "()Z"⟩ yX3_isLookedAt, Cond.selects RX10 ⟨"TwiceAsRich$House", "isLookedAt", "()Z"⟩ yX10_isLookedAt, Cond.instanceMethod yX10_isLookedAt, Cond.initialized RX10, Cond.code yX10_isLookedAt cX10_isLookedAt 1 (some .boolean)]
def wsX7_limitBy_r2 : List Cond := [Cond.methodLink RX7 40 ⟨"TwiceAsRich$House", "shownOf", "(I)I"⟩, Cond.sameMethod "TwiceAsRich$House" "TwiceAsRich$House" "shownOf" "(I)I", Cond.instanceMethod ⟨"TwiceAsRich$House", "shownOf", "(I)I"⟩, Cond.selects RX0 ⟨"TwiceAsRich$House", "shownOf", "(I)I"⟩ yX0_shownOf, Cond.instanceMethod yX0_shownOf, Cond.initialized RX0, Cond.code yX0_shownOf cX0_shownOf 2 (some .int), Cond.fieldLink RX0 11 "TwiceAsRich$Beggar" "figure" "I", Cond.sameField "TwiceAsRich$Beggar" "TwiceAsRich$House" "figure" "I", Cond.methodLink RX0 7 yX6_shownOf, Cond.sameMethod "TwiceAsRich$Priest" "TwiceAsRich$Priest" "shownOf" "(I)I", Cond.superclass RX0 RX6, Cond.instanceMethod yX6_shownOf, Cond.initialized RX6, Cond.code yX6_shownOf cX6_shownOf 2 (some .int), Cond.methodLink RX6 7 yX3_shownOf, Cond.superclass RX6 RX3, Cond.instanceMethod yX3_shownOf, Cond.code yX3_shownOf cX3_shownOf 2 (some .int), Cond.selects RX1 ⟨"TwiceAsRich$House", "shownOf", "(I)I"⟩ yX3_shownOf, Cond.selects RX2 ⟨"TwiceAsRich$House", "shownOf", "(I)I"⟩ yX3_shownOf, Cond.methodLink RX7 40 yX3_shownOf, Cond.selects RX3 yX3_shownOf yX3_shownOf, Cond.selects RX4 ⟨"TwiceAsRich$House", "shownOf", "(I)I"⟩ yX4_shownOf]
def wsX7_limitBy_r3 : List Cond := [Cond.instanceMethod yX4_shownOf, Cond.initialized RX4, Cond.code yX4_shownOf cX4_shownOf 2 (some .int), Cond.selects RX6 ⟨"TwiceAsRich$House", "shownOf", "(I)I"⟩ yX6_shownOf, Cond.selects RX9 ⟨"TwiceAsRich$House", "shownOf", "(I)I"⟩ yX3_shownOf, Cond.selects RX10 ⟨"TwiceAsRich$House", "shownOf", "(I)I"⟩ yX3_shownOf, Cond.methodLink RX7 44 ⟨"TwiceAsRich$House", "allowedBy", "(I)I"⟩, Cond.sameMethod "TwiceAsRich$House" "TwiceAsRich$House" "allowedBy" "(I)I", Cond.selects RX0 ⟨"TwiceAsRich$House", "allowedBy", "(I)I"⟩ yX3_allowedBy, Cond.instanceMethod yX3_allowedBy, Cond.code yX3_allowedBy cX3_allowedBy 2 (some .int), Cond.instanceMethod ⟨"TwiceAsRich$House", "allowedBy", "(I)I"⟩, Cond.selects RX1 ⟨"TwiceAsRich$House", "allowedBy", "(I)I"⟩ yX10_allowedBy, Cond.instanceMethod yX10_allowedBy, Cond.code yX10_allowedBy cX10_allowedBy 2 (some .int), Cond.selects RX2 ⟨"TwiceAsRich$House", "allowedBy", "(I)I"⟩ yX2_allowedBy, Cond.instanceMethod yX2_allowedBy, Cond.initialized RX2, Cond.code yX2_allowedBy cX2_allowedBy 2 (some .int), Cond.fieldLink RX2 11 "TwiceAsRich$Heir" "figure" "I", Cond.sameField "TwiceAsRich$Heir" "TwiceAsRich$House" "figure" "I", Cond.methodLink RX2 7 yX3_allowedBy, Cond.superclass RX2 RX3, Cond.methodLink RX7 44 yX3_allowedBy]
def wsX7_limitBy_r4 : List Cond := [Cond.selects RX3 yX3_allowedBy yX3_allowedBy, Cond.selects RX4 ⟨"TwiceAsRich$House", "allowedBy", "(I)I"⟩ yX4_allowedBy, Cond.instanceMethod yX4_allowedBy, Cond.code yX4_allowedBy cX4_allowedBy 2 (some .int), Cond.methodLink RX4 14 Lib.Math.max.name, Cond.static Lib.Math.max.name, Cond.initialized "java/lang/Math", Cond.code Lib.Math.max.name Lib.Math.max.code 2 (some .int), Cond.methodLink RX4 11 yX2_allowedBy, Cond.sameMethod "TwiceAsRich$Heir" "TwiceAsRich$Heir" "allowedBy" "(I)I", Cond.superclass RX4 RX2, Cond.selects RX6 ⟨"TwiceAsRich$House", "allowedBy", "(I)I"⟩ yX3_allowedBy, Cond.selects RX9 ⟨"TwiceAsRich$House", "allowedBy", "(I)I"⟩ yX9_allowedBy, Cond.instanceMethod yX9_allowedBy, Cond.initialized RX9, Cond.code yX9_allowedBy cX9_allowedBy 2 (some .int), Cond.methodLink RX9 7 yX2_allowedBy, Cond.superclass RX9 RX2, Cond.selects RX10 ⟨"TwiceAsRich$House", "allowedBy", "(I)I"⟩ yX10_allowedBy]
def wsX7_limitBy : List Cond := .code yX7_limitBy cX7_limitBy 3 (some .int) :: ((wsX7_limitBy_r1 ++ (wsX7_limitBy_r2 ++ (wsX7_limitBy_r3 ++ wsX7_limitBy_r4))) ++ wsX70 ++ wsX00 ++ wsX10 ++ wsX20 ++ wsX30 ++ wsX40 ++ wsX60 ++ wsX90 ++ wsX100)
def wsX5_noteWhatSuits_r1 : List Cond := [Cond.fieldLink RX5 27 "TwiceAsRich$Partings" "suits" "[[I", Cond.fieldLink RX5 18 "TwiceAsRich$Partings" "parted" "LTwiceAsRich$Street;", Cond.fieldLink RX5 56 "TwiceAsRich$Street" "purses" "[I", Cond.methodLink RX5 43 yJ7_fill_53178, Cond.static yJ7_fill_53178, Cond.initialized RJ7, Cond.code yJ7_fill_53178 cJ7_fill_53178 4 none, Cond.methodLink RX5 77 yX7_limitBy, Cond.instanceMethod yX7_limitBy, Cond.selects RX7 yX7_limitBy yX7_limitBy, Cond.initialized RX7, Cond.code yX7_limitBy cX7_limitBy 3 (some .int), Cond.fieldLink RX7 11 "TwiceAsRich$Street" "houses" "[LTwiceAsRich$House;", Cond.constant RX7 39 (1000000), Cond.fieldLink RX7 17 "TwiceAsRich$Street" "purses" "[I", Cond.methodLink RX7 36 ⟨"TwiceAsRich$House", "isLookedAt", "()Z"⟩, Cond.sameMethod "TwiceAsRich$House" "TwiceAsRich$House" "isLookedAt" "()Z", Cond.selects RX0 ⟨"TwiceAsRich$House", "isLookedAt", "()Z"⟩ yX3_isLookedAt, Cond.instanceMethod yX3_isLookedAt, Cond.initialized RX3, Cond.code yX3_isLookedAt cX3_isLookedAt 1 (some .boolean), Cond.instanceMethod ⟨"TwiceAsRich$House", "isLookedAt", "()Z"⟩, Cond.selects RX1 ⟨"TwiceAsRich$House", "isLookedAt", "()Z"⟩ yX1_isLookedAt, Cond.instanceMethod yX1_isLookedAt]
def wsX5_noteWhatSuits_r2 : List Cond := [Cond.initialized RX1, Cond.code yX1_isLookedAt cX1_isLookedAt 1 (some .boolean), Cond.selects RX2 ⟨"TwiceAsRich$House", "isLookedAt", "()Z"⟩ yX3_isLookedAt, Cond.methodLink RX7 36 yX3_isLookedAt, Cond.selects RX3 yX3_isLookedAt yX3_isLookedAt, Cond.selects RX4 ⟨"TwiceAsRich$House", "isLookedAt", "()Z"⟩ yX3_isLookedAt, Cond.selects RX6 ⟨"TwiceAsRich$House", "isLookedAt", "()Z"⟩ yX3_isLookedAt, Cond.selects RX9 ⟨"TwiceAsRich$House", "isLookedAt", "()Z"⟩ yX3_isLookedAt, Cond.selects RX10 ⟨"TwiceAsRich$House", "isLookedAt", "()Z"⟩ yX10_isLookedAt, Cond.instanceMethod yX10_isLookedAt, Cond.initialized RX10, Cond.code yX10_isLookedAt cX10_isLookedAt 1 (some .boolean), Cond.methodLink RX7 40 ⟨"TwiceAsRich$House", "shownOf", "(I)I"⟩, Cond.sameMethod "TwiceAsRich$House" "TwiceAsRich$House" "shownOf" "(I)I", Cond.instanceMethod ⟨"TwiceAsRich$House", "shownOf", "(I)I"⟩, Cond.selects RX0 ⟨"TwiceAsRich$House", "shownOf", "(I)I"⟩ yX0_shownOf, Cond.instanceMethod yX0_shownOf, Cond.initialized RX0, Cond.code yX0_shownOf cX0_shownOf 2 (some .int), Cond.fieldLink RX0 11 "TwiceAsRich$Beggar" "figure" "I", Cond.sameField "TwiceAsRich$Beggar" "TwiceAsRich$House" "figure" "I", Cond.methodLink RX0 7 yX6_shownOf, Cond.sameMethod "TwiceAsRich$Priest" "TwiceAsRich$Priest" "shownOf" "(I)I", Cond.superclass RX0 RX6]
def wsX5_noteWhatSuits_r3 : List Cond := [Cond.instanceMethod yX6_shownOf, Cond.initialized RX6, Cond.code yX6_shownOf cX6_shownOf 2 (some .int), Cond.methodLink RX6 7 yX3_shownOf, Cond.superclass RX6 RX3, Cond.instanceMethod yX3_shownOf, Cond.code yX3_shownOf cX3_shownOf 2 (some .int), Cond.selects RX1 ⟨"TwiceAsRich$House", "shownOf", "(I)I"⟩ yX3_shownOf, Cond.selects RX2 ⟨"TwiceAsRich$House", "shownOf", "(I)I"⟩ yX3_shownOf, Cond.methodLink RX7 40 yX3_shownOf, Cond.selects RX3 yX3_shownOf yX3_shownOf, Cond.selects RX4 ⟨"TwiceAsRich$House", "shownOf", "(I)I"⟩ yX4_shownOf, Cond.instanceMethod yX4_shownOf, Cond.initialized RX4, Cond.code yX4_shownOf cX4_shownOf 2 (some .int), Cond.selects RX6 ⟨"TwiceAsRich$House", "shownOf", "(I)I"⟩ yX6_shownOf, Cond.selects RX9 ⟨"TwiceAsRich$House", "shownOf", "(I)I"⟩ yX3_shownOf, Cond.selects RX10 ⟨"TwiceAsRich$House", "shownOf", "(I)I"⟩ yX3_shownOf, Cond.methodLink RX7 44 ⟨"TwiceAsRich$House", "allowedBy", "(I)I"⟩, Cond.sameMethod "TwiceAsRich$House" "TwiceAsRich$House" "allowedBy" "(I)I", Cond.selects RX0 ⟨"TwiceAsRich$House", "allowedBy", "(I)I"⟩ yX3_allowedBy, Cond.instanceMethod yX3_allowedBy, Cond.code yX3_allowedBy cX3_allowedBy 2 (some .int), Cond.instanceMethod ⟨"TwiceAsRich$House", "allowedBy", "(I)I"⟩]
def wsX5_noteWhatSuits_r4 : List Cond := [Cond.selects RX1 ⟨"TwiceAsRich$House", "allowedBy", "(I)I"⟩ yX10_allowedBy, Cond.instanceMethod yX10_allowedBy, Cond.code yX10_allowedBy cX10_allowedBy 2 (some .int), Cond.selects RX2 ⟨"TwiceAsRich$House", "allowedBy", "(I)I"⟩ yX2_allowedBy, Cond.instanceMethod yX2_allowedBy, Cond.initialized RX2, Cond.code yX2_allowedBy cX2_allowedBy 2 (some .int), Cond.fieldLink RX2 11 "TwiceAsRich$Heir" "figure" "I", Cond.sameField "TwiceAsRich$Heir" "TwiceAsRich$House" "figure" "I", Cond.methodLink RX2 7 yX3_allowedBy, Cond.superclass RX2 RX3, Cond.methodLink RX7 44 yX3_allowedBy, Cond.selects RX3 yX3_allowedBy yX3_allowedBy, Cond.selects RX4 ⟨"TwiceAsRich$House", "allowedBy", "(I)I"⟩ yX4_allowedBy, Cond.instanceMethod yX4_allowedBy, Cond.code yX4_allowedBy cX4_allowedBy 2 (some .int), Cond.methodLink RX4 14 Lib.Math.max.name, Cond.static Lib.Math.max.name, Cond.initialized "java/lang/Math", Cond.code Lib.Math.max.name Lib.Math.max.code 2 (some .int), Cond.methodLink RX4 11 yX2_allowedBy, Cond.sameMethod "TwiceAsRich$Heir" "TwiceAsRich$Heir" "allowedBy" "(I)I", Cond.superclass RX4 RX2, Cond.selects RX6 ⟨"TwiceAsRich$House", "allowedBy", "(I)I"⟩ yX3_allowedBy]
def wsX5_noteWhatSuits_r5 : List Cond := [Cond.selects RX9 ⟨"TwiceAsRich$House", "allowedBy", "(I)I"⟩ yX9_allowedBy, Cond.instanceMethod yX9_allowedBy, Cond.initialized RX9, Cond.code yX9_allowedBy cX9_allowedBy 2 (some .int), Cond.methodLink RX9 7 yX2_allowedBy, Cond.superclass RX9 RX2, Cond.selects RX10 ⟨"TwiceAsRich$House", "allowedBy", "(I)I"⟩ yX10_allowedBy]
def wsX5_noteWhatSuits : List Cond := .code yX5_noteWhatSuits cX5_noteWhatSuits 6 none :: ((wsX5_noteWhatSuits_r1 ++ (wsX5_noteWhatSuits_r2 ++ (wsX5_noteWhatSuits_r3 ++ (wsX5_noteWhatSuits_r4 ++ wsX5_noteWhatSuits_r5)))) ++ wsX50 ++ wsX70 ++ wsX00 ++ wsX10 ++ wsX20 ++ wsX30 ++ wsX40 ++ wsX60 ++ wsX90 ++ wsX100)
def wsX5_suit : List Cond := .code yX5_suit cX5_suit 3 (some .boolean) :: ([.fieldLink RX5 27 "TwiceAsRich$Partings" "suits" "[[I", .fieldLink RX5 18 "TwiceAsRich$Partings" "parted" "LTwiceAsRich$Street;", .fieldLink RX5 56 "TwiceAsRich$Street" "purses" "[I"] ++ wsX50 ++ wsX70)
def wsX5_isClosedWell : List Cond := .code yX5_isClosedWell cX5_isClosedWell 1 (some .boolean) :: ([.fieldLink RX5 18 "TwiceAsRich$Partings" "parted" "LTwiceAsRich$Street;", .fieldLink RX5 49 "TwiceAsRich$Street" "count" "I", .methodLink RX5 97 yX7_isClosed, .instanceMethod yX7_isClosed, .selects RX7 yX7_isClosed yX7_isClosed, .initialized RX7, .code yX7_isClosed cX7_isClosed 1 (some .boolean), .fieldLink RX7 25 "TwiceAsRich$Street" "round" "I", .fieldLink RX7 21 "TwiceAsRich$Street" "count" "I", .methodLink RX5 93 yX5_suit, .instanceMethod yX5_suit, .selects RX5 yX5_suit yX5_suit, .initialized RX5, .code yX5_suit cX5_suit 3 (some .boolean), .fieldLink RX5 27 "TwiceAsRich$Partings" "suits" "[[I", .fieldLink RX5 56 "TwiceAsRich$Street" "purses" "[I"] ++ wsX50 ++ wsX70)
def wsX5_difference : List Cond := .code yX5_difference cX5_difference 4 (some .int) :: ([.fieldLink RX5 18 "TwiceAsRich$Partings" "parted" "LTwiceAsRich$Street;", .fieldLink RX5 49 "TwiceAsRich$Street" "count" "I", .fieldLink RX5 56 "TwiceAsRich$Street" "purses" "[I", .methodLink RX5 107 Lib.Math.min.name, .static Lib.Math.min.name, .initialized "java/lang/Math", .code Lib.Math.min.name Lib.Math.min.code 2 (some .int), .methodLink RX5 88 Lib.Math.max.name, .static Lib.Math.max.name, .code Lib.Math.max.name Lib.Math.max.code 2 (some .int)] ++ wsX50 ++ wsX70)
def wsX5_handed : List Cond := .code yX5_handed cX5_handed 4 (some .int) :: ([.fieldLink RX5 18 "TwiceAsRich$Partings" "parted" "LTwiceAsRich$Street;", .fieldLink RX5 49 "TwiceAsRich$Street" "count" "I", .fieldLink RX5 22 "TwiceAsRich$Partings" "before" "[I", .fieldLink RX5 56 "TwiceAsRich$Street" "purses" "[I", .methodLink RX5 113 Lib.Math.abs.name, .static Lib.Math.abs.name, .initialized "java/lang/Math", .code Lib.Math.abs.name Lib.Math.abs.code 1 (some .int)] ++ wsX50 ++ wsX70)
def wsX5_moving : List Cond := .code yX5_moving cX5_moving 3 (some .int) :: ([.fieldLink RX5 18 "TwiceAsRich$Partings" "parted" "LTwiceAsRich$Street;", .fieldLink RX5 49 "TwiceAsRich$Street" "count" "I", .fieldLink RX5 22 "TwiceAsRich$Partings" "before" "[I", .fieldLink RX5 56 "TwiceAsRich$Street" "purses" "[I", .methodLink RX5 88 Lib.Math.max.name, .static Lib.Math.max.name, .initialized "java/lang/Math", .code Lib.Math.max.name Lib.Math.max.code 2 (some .int)] ++ wsX50 ++ wsX70)
def wsX5_note_r1 : List Cond := [Cond.fieldLink RX5 34 "TwiceAsRich$Partings" "uneven" "I", Cond.methodLink RX5 88 Lib.Math.max.name, Cond.static Lib.Math.max.name, Cond.initialized "java/lang/Math", Cond.code Lib.Math.max.name Lib.Math.max.code 2 (some .int), Cond.fieldLink RX5 30 "TwiceAsRich$Partings" "ways" "I", Cond.fieldLink RX5 37 "TwiceAsRich$Partings" "hands" "I", Cond.methodLink RX5 107 Lib.Math.min.name, Cond.static Lib.Math.min.name, Cond.code Lib.Math.min.name Lib.Math.min.code 2 (some .int), Cond.fieldLink RX5 40 "TwiceAsRich$Partings" "moved" "I", Cond.fieldLink RX5 18 "TwiceAsRich$Partings" "parted" "LTwiceAsRich$Street;", Cond.fieldLink RX5 49 "TwiceAsRich$Street" "count" "I", Cond.fieldLink RX5 9 "TwiceAsRich$Partings" "richest" "[I", Cond.fieldLink RX5 56 "TwiceAsRich$Street" "purses" "[I", Cond.methodLink RX5 100 yX5_difference, Cond.instanceMethod yX5_difference, Cond.selects RX5 yX5_difference yX5_difference, Cond.initialized RX5, Cond.code yX5_difference cX5_difference 4 (some .int), Cond.methodLink RX5 104 yX5_handed, Cond.instanceMethod yX5_handed, Cond.selects RX5 yX5_handed yX5_handed, Cond.code yX5_handed cX5_handed 4 (some .int)]
def wsX5_note_r2 : List Cond := [Cond.fieldLink RX5 22 "TwiceAsRich$Partings" "before" "[I", Cond.methodLink RX5 113 Lib.Math.abs.name, Cond.static Lib.Math.abs.name, Cond.code Lib.Math.abs.name Lib.Math.abs.code 1 (some .int), Cond.methodLink RX5 110 yX5_moving, Cond.instanceMethod yX5_moving, Cond.selects RX5 yX5_moving yX5_moving, Cond.code yX5_moving cX5_moving 3 (some .int)]
def wsX5_note : List Cond := .code yX5_note cX5_note 2 none :: ((wsX5_note_r1 ++ wsX5_note_r2) ++ wsX50 ++ wsX70)
def wsX5_part_r1 : List Cond := [Cond.fieldLink RX5 18 "TwiceAsRich$Partings" "parted" "LTwiceAsRich$Street;", Cond.fieldLink RX5 49 "TwiceAsRich$Street" "count" "I", Cond.methodLink RX5 88 Lib.Math.max.name, Cond.static Lib.Math.max.name, Cond.initialized "java/lang/Math", Cond.code Lib.Math.max.name Lib.Math.max.code 2 (some .int), Cond.fieldLink RX5 56 "TwiceAsRich$Street" "purses" "[I", Cond.methodLink RX5 81 yX5_isClosedWell, Cond.instanceMethod yX5_isClosedWell, Cond.selects RX5 yX5_isClosedWell yX5_isClosedWell, Cond.initialized RX5, Cond.code yX5_isClosedWell cX5_isClosedWell 1 (some .boolean), Cond.methodLink RX5 97 yX7_isClosed, Cond.instanceMethod yX7_isClosed, Cond.selects RX7 yX7_isClosed yX7_isClosed, Cond.initialized RX7, Cond.code yX7_isClosed cX7_isClosed 1 (some .boolean), Cond.fieldLink RX7 25 "TwiceAsRich$Street" "round" "I", Cond.fieldLink RX7 21 "TwiceAsRich$Street" "count" "I", Cond.methodLink RX5 93 yX5_suit, Cond.instanceMethod yX5_suit, Cond.selects RX5 yX5_suit yX5_suit, Cond.code yX5_suit cX5_suit 3 (some .boolean), Cond.fieldLink RX5 27 "TwiceAsRich$Partings" "suits" "[[I"]
def wsX5_part_r2 : List Cond := [Cond.methodLink RX5 85 yX5_note, Cond.instanceMethod yX5_note, Cond.selects RX5 yX5_note yX5_note, Cond.code yX5_note cX5_note 2 none, Cond.fieldLink RX5 34 "TwiceAsRich$Partings" "uneven" "I", Cond.fieldLink RX5 30 "TwiceAsRich$Partings" "ways" "I", Cond.fieldLink RX5 37 "TwiceAsRich$Partings" "hands" "I", Cond.methodLink RX5 107 Lib.Math.min.name, Cond.static Lib.Math.min.name, Cond.code Lib.Math.min.name Lib.Math.min.code 2 (some .int), Cond.fieldLink RX5 40 "TwiceAsRich$Partings" "moved" "I", Cond.fieldLink RX5 9 "TwiceAsRich$Partings" "richest" "[I", Cond.methodLink RX5 100 yX5_difference, Cond.instanceMethod yX5_difference, Cond.selects RX5 yX5_difference yX5_difference, Cond.code yX5_difference cX5_difference 4 (some .int), Cond.methodLink RX5 104 yX5_handed, Cond.instanceMethod yX5_handed, Cond.selects RX5 yX5_handed yX5_handed, Cond.code yX5_handed cX5_handed 4 (some .int), Cond.fieldLink RX5 22 "TwiceAsRich$Partings" "before" "[I", Cond.methodLink RX5 113 Lib.Math.abs.name, Cond.static Lib.Math.abs.name, Cond.code Lib.Math.abs.name Lib.Math.abs.code 1 (some .int)]
def wsX5_part_r3 : List Cond := [Cond.methodLink RX5 110 yX5_moving, Cond.instanceMethod yX5_moving, Cond.selects RX5 yX5_moving yX5_moving, Cond.code yX5_moving cX5_moving 3 (some .int), Cond.methodLink RX5 73 yX5_part, Cond.instanceMethod yX5_part, Cond.selects RX5 yX5_part yX5_part]
def wsX5_part : List Cond := .code yX5_part cX5_part 6 none :: ((wsX5_part_r1 ++ (wsX5_part_r2 ++ wsX5_part_r3)) ++ wsX50 ++ wsX70)
def wsX5_search_r1 : List Cond := [Cond.fieldLink RX5 30 "TwiceAsRich$Partings" "ways" "I", Cond.fieldLink RX5 34 "TwiceAsRich$Partings" "uneven" "I", Cond.fieldLink RX5 37 "TwiceAsRich$Partings" "hands" "I", Cond.fieldLink RX5 40 "TwiceAsRich$Partings" "moved" "I", Cond.fieldLink RX5 9 "TwiceAsRich$Partings" "richest" "[I", Cond.fieldLink RX5 49 "TwiceAsRich$Street" "count" "I", Cond.fieldLink RX5 18 "TwiceAsRich$Partings" "parted" "LTwiceAsRich$Street;", Cond.fieldLink RX5 56 "TwiceAsRich$Street" "purses" "[I", Cond.fieldLink RX5 22 "TwiceAsRich$Partings" "before" "[I", Cond.methodLink RX5 59 arraycopyName, Cond.native arraycopyName, Cond.static arraycopyName, Cond.initialized "java/lang/System", Cond.methodLink RX5 43 yJ7_fill_53178, Cond.static yJ7_fill_53178, Cond.initialized RJ7, Cond.code yJ7_fill_53178 cJ7_fill_53178 4 none, Cond.methodLink RX5 52 yX7_become, Cond.instanceMethod yX7_become, Cond.selects RX7 yX7_become yX7_become, Cond.initialized RX7, Cond.code yX7_become cX7_become 3 none, Cond.fieldLink RX7 11 "TwiceAsRich$Street" "houses" "[LTwiceAsRich$House;", Cond.fieldLink RX7 17 "TwiceAsRich$Street" "purses" "[I"]
def wsX5_search_r2 : List Cond := [Cond.fieldLink RX7 21 "TwiceAsRich$Street" "count" "I", Cond.fieldLink RX7 25 "TwiceAsRich$Street" "round" "I", Cond.methodLink RX5 65 yX7_behind, Cond.instanceMethod yX7_behind, Cond.selects RX7 yX7_behind yX7_behind, Cond.code yX7_behind cX7_behind 2 (some .int), Cond.methodLink RX7 32 yX7_isClosed, Cond.instanceMethod yX7_isClosed, Cond.selects RX7 yX7_isClosed yX7_isClosed, Cond.code yX7_isClosed cX7_isClosed 1 (some .boolean), Cond.methodLink RX5 69 yX5_noteWhatSuits, Cond.instanceMethod yX5_noteWhatSuits, Cond.selects RX5 yX5_noteWhatSuits yX5_noteWhatSuits, Cond.initialized RX5, Cond.code yX5_noteWhatSuits cX5_noteWhatSuits 6 none, Cond.fieldLink RX5 27 "TwiceAsRich$Partings" "suits" "[[I", Cond.methodLink RX5 77 yX7_limitBy, Cond.instanceMethod yX7_limitBy, Cond.selects RX7 yX7_limitBy yX7_limitBy, Cond.code yX7_limitBy cX7_limitBy 3 (some .int), Cond.constant RX7 39 (1000000), Cond.methodLink RX7 36 ⟨"TwiceAsRich$House", "isLookedAt", "()Z"⟩, Cond.sameMethod "TwiceAsRich$House" "TwiceAsRich$House" "isLookedAt" "()Z", Cond.selects RX0 ⟨"TwiceAsRich$House", "isLookedAt", "()Z"⟩ yX3_isLookedAt]
def wsX5_search_r3 : List Cond := [Cond.instanceMethod yX3_isLookedAt, Cond.initialized RX3, Cond.code yX3_isLookedAt cX3_isLookedAt 1 (some .boolean), Cond.instanceMethod ⟨"TwiceAsRich$House", "isLookedAt", "()Z"⟩, Cond.selects RX1 ⟨"TwiceAsRich$House", "isLookedAt", "()Z"⟩ yX1_isLookedAt, Cond.instanceMethod yX1_isLookedAt, Cond.initialized RX1, Cond.code yX1_isLookedAt cX1_isLookedAt 1 (some .boolean), Cond.selects RX2 ⟨"TwiceAsRich$House", "isLookedAt", "()Z"⟩ yX3_isLookedAt, Cond.methodLink RX7 36 yX3_isLookedAt, Cond.selects RX3 yX3_isLookedAt yX3_isLookedAt, Cond.selects RX4 ⟨"TwiceAsRich$House", "isLookedAt", "()Z"⟩ yX3_isLookedAt, Cond.selects RX6 ⟨"TwiceAsRich$House", "isLookedAt", "()Z"⟩ yX3_isLookedAt, Cond.selects RX9 ⟨"TwiceAsRich$House", "isLookedAt", "()Z"⟩ yX3_isLookedAt, Cond.selects RX10 ⟨"TwiceAsRich$House", "isLookedAt", "()Z"⟩ yX10_isLookedAt, Cond.instanceMethod yX10_isLookedAt, Cond.initialized RX10, Cond.code yX10_isLookedAt cX10_isLookedAt 1 (some .boolean), Cond.methodLink RX7 40 ⟨"TwiceAsRich$House", "shownOf", "(I)I"⟩, Cond.sameMethod "TwiceAsRich$House" "TwiceAsRich$House" "shownOf" "(I)I", Cond.instanceMethod ⟨"TwiceAsRich$House", "shownOf", "(I)I"⟩, Cond.selects RX0 ⟨"TwiceAsRich$House", "shownOf", "(I)I"⟩ yX0_shownOf, Cond.instanceMethod yX0_shownOf, Cond.initialized RX0]
def wsX5_search_r4 : List Cond := [Cond.code yX0_shownOf cX0_shownOf 2 (some .int), Cond.fieldLink RX0 11 "TwiceAsRich$Beggar" "figure" "I", Cond.sameField "TwiceAsRich$Beggar" "TwiceAsRich$House" "figure" "I", Cond.methodLink RX0 7 yX6_shownOf, Cond.sameMethod "TwiceAsRich$Priest" "TwiceAsRich$Priest" "shownOf" "(I)I", Cond.superclass RX0 RX6, Cond.instanceMethod yX6_shownOf, Cond.initialized RX6, Cond.code yX6_shownOf cX6_shownOf 2 (some .int), Cond.methodLink RX6 7 yX3_shownOf, Cond.superclass RX6 RX3, Cond.instanceMethod yX3_shownOf, Cond.code yX3_shownOf cX3_shownOf 2 (some .int), Cond.selects RX1 ⟨"TwiceAsRich$House", "shownOf", "(I)I"⟩ yX3_shownOf, Cond.selects RX2 ⟨"TwiceAsRich$House", "shownOf", "(I)I"⟩ yX3_shownOf, Cond.methodLink RX7 40 yX3_shownOf, Cond.selects RX3 yX3_shownOf yX3_shownOf, Cond.selects RX4 ⟨"TwiceAsRich$House", "shownOf", "(I)I"⟩ yX4_shownOf, Cond.instanceMethod yX4_shownOf, Cond.initialized RX4, Cond.code yX4_shownOf cX4_shownOf 2 (some .int), Cond.selects RX6 ⟨"TwiceAsRich$House", "shownOf", "(I)I"⟩ yX6_shownOf, Cond.selects RX9 ⟨"TwiceAsRich$House", "shownOf", "(I)I"⟩ yX3_shownOf, Cond.selects RX10 ⟨"TwiceAsRich$House", "shownOf", "(I)I"⟩ yX3_shownOf]
def wsX5_search_r5 : List Cond := [Cond.methodLink RX7 44 ⟨"TwiceAsRich$House", "allowedBy", "(I)I"⟩, Cond.sameMethod "TwiceAsRich$House" "TwiceAsRich$House" "allowedBy" "(I)I", Cond.selects RX0 ⟨"TwiceAsRich$House", "allowedBy", "(I)I"⟩ yX3_allowedBy, Cond.instanceMethod yX3_allowedBy, Cond.code yX3_allowedBy cX3_allowedBy 2 (some .int), Cond.instanceMethod ⟨"TwiceAsRich$House", "allowedBy", "(I)I"⟩, Cond.selects RX1 ⟨"TwiceAsRich$House", "allowedBy", "(I)I"⟩ yX10_allowedBy, Cond.instanceMethod yX10_allowedBy, Cond.code yX10_allowedBy cX10_allowedBy 2 (some .int), Cond.selects RX2 ⟨"TwiceAsRich$House", "allowedBy", "(I)I"⟩ yX2_allowedBy, Cond.instanceMethod yX2_allowedBy, Cond.initialized RX2, Cond.code yX2_allowedBy cX2_allowedBy 2 (some .int), Cond.fieldLink RX2 11 "TwiceAsRich$Heir" "figure" "I", Cond.sameField "TwiceAsRich$Heir" "TwiceAsRich$House" "figure" "I", Cond.methodLink RX2 7 yX3_allowedBy, Cond.superclass RX2 RX3, Cond.methodLink RX7 44 yX3_allowedBy, Cond.selects RX3 yX3_allowedBy yX3_allowedBy, Cond.selects RX4 ⟨"TwiceAsRich$House", "allowedBy", "(I)I"⟩ yX4_allowedBy, Cond.instanceMethod yX4_allowedBy, Cond.code yX4_allowedBy cX4_allowedBy 2 (some .int), Cond.methodLink RX4 14 Lib.Math.max.name, Cond.static Lib.Math.max.name]
def wsX5_search_r6 : List Cond := [Cond.initialized "java/lang/Math", Cond.code Lib.Math.max.name Lib.Math.max.code 2 (some .int), Cond.methodLink RX4 11 yX2_allowedBy, Cond.sameMethod "TwiceAsRich$Heir" "TwiceAsRich$Heir" "allowedBy" "(I)I", Cond.superclass RX4 RX2, Cond.selects RX6 ⟨"TwiceAsRich$House", "allowedBy", "(I)I"⟩ yX3_allowedBy, Cond.selects RX9 ⟨"TwiceAsRich$House", "allowedBy", "(I)I"⟩ yX9_allowedBy, Cond.instanceMethod yX9_allowedBy, Cond.initialized RX9, Cond.code yX9_allowedBy cX9_allowedBy 2 (some .int), Cond.methodLink RX9 7 yX2_allowedBy, Cond.superclass RX9 RX2, Cond.selects RX10 ⟨"TwiceAsRich$House", "allowedBy", "(I)I"⟩ yX10_allowedBy, Cond.methodLink RX5 73 yX5_part, Cond.instanceMethod yX5_part, Cond.selects RX5 yX5_part yX5_part, Cond.code yX5_part cX5_part 6 none, Cond.methodLink RX5 88 Lib.Math.max.name, Cond.methodLink RX5 81 yX5_isClosedWell, Cond.instanceMethod yX5_isClosedWell, Cond.selects RX5 yX5_isClosedWell yX5_isClosedWell, Cond.code yX5_isClosedWell cX5_isClosedWell 1 (some .boolean), Cond.methodLink RX5 97 yX7_isClosed, Cond.methodLink RX5 93 yX5_suit]
def wsX5_search_r7 : List Cond := [Cond.instanceMethod yX5_suit, Cond.selects RX5 yX5_suit yX5_suit, Cond.code yX5_suit cX5_suit 3 (some .boolean), Cond.methodLink RX5 85 yX5_note, Cond.instanceMethod yX5_note, Cond.selects RX5 yX5_note yX5_note, Cond.code yX5_note cX5_note 2 none, Cond.methodLink RX5 107 Lib.Math.min.name, Cond.static Lib.Math.min.name, Cond.code Lib.Math.min.name Lib.Math.min.code 2 (some .int), Cond.methodLink RX5 100 yX5_difference, Cond.instanceMethod yX5_difference, Cond.selects RX5 yX5_difference yX5_difference, Cond.code yX5_difference cX5_difference 4 (some .int), Cond.methodLink RX5 104 yX5_handed, Cond.instanceMethod yX5_handed, Cond.selects RX5 yX5_handed yX5_handed, Cond.code yX5_handed cX5_handed 4 (some .int), Cond.methodLink RX5 113 Lib.Math.abs.name, Cond.static Lib.Math.abs.name, Cond.code Lib.Math.abs.name Lib.Math.abs.code 1 (some .int), Cond.methodLink RX5 110 yX5_moving, Cond.instanceMethod yX5_moving, Cond.selects RX5 yX5_moving yX5_moving]
def wsX5_search_r8 : List Cond := [Cond.code yX5_moving cX5_moving 3 (some .int)]
def wsX5_search : List Cond := .code yX5_search cX5_search 4 none :: ((wsX5_search_r1 ++ (wsX5_search_r2 ++ (wsX5_search_r3 ++ (wsX5_search_r4 ++ (wsX5_search_r5 ++ (wsX5_search_r6 ++ (wsX5_search_r7 ++ wsX5_search_r8))))))) ++ wsX50 ++ wsX70 ++ wsX00 ++ wsX10 ++ wsX20 ++ wsX30 ++ wsX40 ++ wsX60 ++ wsX90 ++ wsX100)
def wsX6_kind : List Cond := .code yX6_kind cX6_kind 1 (some .int) :: ([])
def wsX7_has : List Cond := .code yX7_has cX7_has 2 (some .boolean) :: ([.fieldLink RX7 21 "TwiceAsRich$Street" "count" "I"] ++ wsX70)
def wsX7_hasTwo : List Cond := .code yX7_hasTwo cX7_hasTwo 3 (some .boolean) :: ([.methodLink RX7 28 yX7_has, .instanceMethod yX7_has, .selects RX7 yX7_has yX7_has, .initialized RX7, .code yX7_has cX7_has 2 (some .boolean), .fieldLink RX7 21 "TwiceAsRich$Street" "count" "I"] ++ wsX70)
def wsX7_ahead : List Cond := .code yX7_ahead cX7_ahead 2 (some .int) :: ([.fieldLink RX7 21 "TwiceAsRich$Street" "count" "I", .methodLink RX7 32 yX7_isClosed, .instanceMethod yX7_isClosed, .selects RX7 yX7_isClosed yX7_isClosed, .initialized RX7, .code yX7_isClosed cX7_isClosed 1 (some .boolean), .fieldLink RX7 25 "TwiceAsRich$Street" "round" "I"] ++ wsX70)
def wsX7_mostOf_r1 : List Cond := [Cond.methodLink RX7 57 Lib.Math.min.name, Cond.static Lib.Math.min.name, Cond.initialized "java/lang/Math", Cond.code Lib.Math.min.name Lib.Math.min.code 2 (some .int), Cond.methodLink RX7 47 yX7_ahead, Cond.instanceMethod yX7_ahead, Cond.selects RX7 yX7_ahead yX7_ahead, Cond.initialized RX7, Cond.code yX7_ahead cX7_ahead 2 (some .int), Cond.fieldLink RX7 21 "TwiceAsRich$Street" "count" "I", Cond.methodLink RX7 32 yX7_isClosed, Cond.instanceMethod yX7_isClosed, Cond.selects RX7 yX7_isClosed yX7_isClosed, Cond.code yX7_isClosed cX7_isClosed 1 (some .boolean), Cond.fieldLink RX7 25 "TwiceAsRich$Street" "round" "I", Cond.methodLink RX7 50 yX7_limitBy, Cond.instanceMethod yX7_limitBy, Cond.selects RX7 yX7_limitBy yX7_limitBy, Cond.code yX7_limitBy cX7_limitBy 3 (some .int), Cond.fieldLink RX7 11 "TwiceAsRich$Street" "houses" "[LTwiceAsRich$House;", Cond.constant RX7 39 (1000000), Cond.fieldLink RX7 17 "TwiceAsRich$Street" "purses" "[I", Cond.methodLink RX7 36 ⟨"TwiceAsRich$House", "isLookedAt", "()Z"⟩, Cond.sameMethod "TwiceAsRich$House" "TwiceAsRich$House" "isLookedAt" "()Z"]
def wsX7_mostOf_r2 : List Cond := [Cond.selects RX0 ⟨"TwiceAsRich$House", "isLookedAt", "()Z"⟩ yX3_isLookedAt, Cond.instanceMethod yX3_isLookedAt, Cond.initialized RX3, Cond.code yX3_isLookedAt cX3_isLookedAt 1 (some .boolean), Cond.instanceMethod ⟨"TwiceAsRich$House", "isLookedAt", "()Z"⟩, Cond.selects RX1 ⟨"TwiceAsRich$House", "isLookedAt", "()Z"⟩ yX1_isLookedAt, Cond.instanceMethod yX1_isLookedAt, Cond.initialized RX1, Cond.code yX1_isLookedAt cX1_isLookedAt 1 (some .boolean), Cond.selects RX2 ⟨"TwiceAsRich$House", "isLookedAt", "()Z"⟩ yX3_isLookedAt, Cond.methodLink RX7 36 yX3_isLookedAt, Cond.selects RX3 yX3_isLookedAt yX3_isLookedAt, Cond.selects RX4 ⟨"TwiceAsRich$House", "isLookedAt", "()Z"⟩ yX3_isLookedAt, Cond.selects RX6 ⟨"TwiceAsRich$House", "isLookedAt", "()Z"⟩ yX3_isLookedAt, Cond.selects RX9 ⟨"TwiceAsRich$House", "isLookedAt", "()Z"⟩ yX3_isLookedAt, Cond.selects RX10 ⟨"TwiceAsRich$House", "isLookedAt", "()Z"⟩ yX10_isLookedAt, Cond.instanceMethod yX10_isLookedAt, Cond.initialized RX10, Cond.code yX10_isLookedAt cX10_isLookedAt 1 (some .boolean), Cond.methodLink RX7 40 ⟨"TwiceAsRich$House", "shownOf", "(I)I"⟩, Cond.sameMethod "TwiceAsRich$House" "TwiceAsRich$House" "shownOf" "(I)I", Cond.instanceMethod ⟨"TwiceAsRich$House", "shownOf", "(I)I"⟩, Cond.selects RX0 ⟨"TwiceAsRich$House", "shownOf", "(I)I"⟩ yX0_shownOf, Cond.instanceMethod yX0_shownOf]
def wsX7_mostOf_r3 : List Cond := [Cond.initialized RX0, Cond.code yX0_shownOf cX0_shownOf 2 (some .int), Cond.fieldLink RX0 11 "TwiceAsRich$Beggar" "figure" "I", Cond.sameField "TwiceAsRich$Beggar" "TwiceAsRich$House" "figure" "I", Cond.methodLink RX0 7 yX6_shownOf, Cond.sameMethod "TwiceAsRich$Priest" "TwiceAsRich$Priest" "shownOf" "(I)I", Cond.superclass RX0 RX6, Cond.instanceMethod yX6_shownOf, Cond.initialized RX6, Cond.code yX6_shownOf cX6_shownOf 2 (some .int), Cond.methodLink RX6 7 yX3_shownOf, Cond.superclass RX6 RX3, Cond.instanceMethod yX3_shownOf, Cond.code yX3_shownOf cX3_shownOf 2 (some .int), Cond.selects RX1 ⟨"TwiceAsRich$House", "shownOf", "(I)I"⟩ yX3_shownOf, Cond.selects RX2 ⟨"TwiceAsRich$House", "shownOf", "(I)I"⟩ yX3_shownOf, Cond.methodLink RX7 40 yX3_shownOf, Cond.selects RX3 yX3_shownOf yX3_shownOf, Cond.selects RX4 ⟨"TwiceAsRich$House", "shownOf", "(I)I"⟩ yX4_shownOf, Cond.instanceMethod yX4_shownOf, Cond.initialized RX4, Cond.code yX4_shownOf cX4_shownOf 2 (some .int), Cond.selects RX6 ⟨"TwiceAsRich$House", "shownOf", "(I)I"⟩ yX6_shownOf, Cond.selects RX9 ⟨"TwiceAsRich$House", "shownOf", "(I)I"⟩ yX3_shownOf]
def wsX7_mostOf_r4 : List Cond := [Cond.selects RX10 ⟨"TwiceAsRich$House", "shownOf", "(I)I"⟩ yX3_shownOf, Cond.methodLink RX7 44 ⟨"TwiceAsRich$House", "allowedBy", "(I)I"⟩, Cond.sameMethod "TwiceAsRich$House" "TwiceAsRich$House" "allowedBy" "(I)I", Cond.selects RX0 ⟨"TwiceAsRich$House", "allowedBy", "(I)I"⟩ yX3_allowedBy, Cond.instanceMethod yX3_allowedBy, Cond.code yX3_allowedBy cX3_allowedBy 2 (some .int), Cond.instanceMethod ⟨"TwiceAsRich$House", "allowedBy", "(I)I"⟩, Cond.selects RX1 ⟨"TwiceAsRich$House", "allowedBy", "(I)I"⟩ yX10_allowedBy, Cond.instanceMethod yX10_allowedBy, Cond.code yX10_allowedBy cX10_allowedBy 2 (some .int), Cond.selects RX2 ⟨"TwiceAsRich$House", "allowedBy", "(I)I"⟩ yX2_allowedBy, Cond.instanceMethod yX2_allowedBy, Cond.initialized RX2, Cond.code yX2_allowedBy cX2_allowedBy 2 (some .int), Cond.fieldLink RX2 11 "TwiceAsRich$Heir" "figure" "I", Cond.sameField "TwiceAsRich$Heir" "TwiceAsRich$House" "figure" "I", Cond.methodLink RX2 7 yX3_allowedBy, Cond.superclass RX2 RX3, Cond.methodLink RX7 44 yX3_allowedBy, Cond.selects RX3 yX3_allowedBy yX3_allowedBy, Cond.selects RX4 ⟨"TwiceAsRich$House", "allowedBy", "(I)I"⟩ yX4_allowedBy, Cond.instanceMethod yX4_allowedBy, Cond.code yX4_allowedBy cX4_allowedBy 2 (some .int), Cond.methodLink RX4 14 Lib.Math.max.name]
def wsX7_mostOf_r5 : List Cond := [Cond.static Lib.Math.max.name, Cond.code Lib.Math.max.name Lib.Math.max.code 2 (some .int), Cond.methodLink RX4 11 yX2_allowedBy, Cond.sameMethod "TwiceAsRich$Heir" "TwiceAsRich$Heir" "allowedBy" "(I)I", Cond.superclass RX4 RX2, Cond.selects RX6 ⟨"TwiceAsRich$House", "allowedBy", "(I)I"⟩ yX3_allowedBy, Cond.selects RX9 ⟨"TwiceAsRich$House", "allowedBy", "(I)I"⟩ yX9_allowedBy, Cond.instanceMethod yX9_allowedBy, Cond.initialized RX9, Cond.code yX9_allowedBy cX9_allowedBy 2 (some .int), Cond.methodLink RX9 7 yX2_allowedBy, Cond.superclass RX9 RX2, Cond.selects RX10 ⟨"TwiceAsRich$House", "allowedBy", "(I)I"⟩ yX10_allowedBy, Cond.methodLink RX7 54 yX7_behind, Cond.instanceMethod yX7_behind, Cond.selects RX7 yX7_behind yX7_behind, Cond.code yX7_behind cX7_behind 2 (some .int)]
def wsX7_mostOf : List Cond := .code yX7_mostOf cX7_mostOf 2 (some .int) :: ((wsX7_mostOf_r1 ++ (wsX7_mostOf_r2 ++ (wsX7_mostOf_r3 ++ (wsX7_mostOf_r4 ++ wsX7_mostOf_r5)))) ++ wsX70 ++ wsX00 ++ wsX10 ++ wsX20 ++ wsX30 ++ wsX40 ++ wsX60 ++ wsX90 ++ wsX100)
def wsX7_breachesOf_r1 : List Cond := [Cond.fieldLink RX7 17 "TwiceAsRich$Street" "purses" "[I", Cond.methodLink RX7 47 yX7_ahead, Cond.instanceMethod yX7_ahead, Cond.selects RX7 yX7_ahead yX7_ahead, Cond.initialized RX7, Cond.code yX7_ahead cX7_ahead 2 (some .int), Cond.fieldLink RX7 21 "TwiceAsRich$Street" "count" "I", Cond.methodLink RX7 32 yX7_isClosed, Cond.instanceMethod yX7_isClosed, Cond.selects RX7 yX7_isClosed yX7_isClosed, Cond.code yX7_isClosed cX7_isClosed 1 (some .boolean), Cond.fieldLink RX7 25 "TwiceAsRich$Street" "round" "I", Cond.methodLink RX7 50 yX7_limitBy, Cond.instanceMethod yX7_limitBy, Cond.selects RX7 yX7_limitBy yX7_limitBy, Cond.code yX7_limitBy cX7_limitBy 3 (some .int), Cond.fieldLink RX7 11 "TwiceAsRich$Street" "houses" "[LTwiceAsRich$House;", Cond.constant RX7 39 (1000000), Cond.methodLink RX7 36 ⟨"TwiceAsRich$House", "isLookedAt", "()Z"⟩, Cond.sameMethod "TwiceAsRich$House" "TwiceAsRich$House" "isLookedAt" "()Z", Cond.selects RX0 ⟨"TwiceAsRich$House", "isLookedAt", "()Z"⟩ yX3_isLookedAt, Cond.instanceMethod yX3_isLookedAt, Cond.initialized RX3, Cond.code yX3_isLookedAt cX3_isLookedAt 1 (some .boolean)]
def wsX7_breachesOf_r2 : List Cond := [Cond.instanceMethod ⟨"TwiceAsRich$House", "isLookedAt", "()Z"⟩, Cond.selects RX1 ⟨"TwiceAsRich$House", "isLookedAt", "()Z"⟩ yX1_isLookedAt, Cond.instanceMethod yX1_isLookedAt, Cond.initialized RX1, Cond.code yX1_isLookedAt cX1_isLookedAt 1 (some .boolean), Cond.selects RX2 ⟨"TwiceAsRich$House", "isLookedAt", "()Z"⟩ yX3_isLookedAt, Cond.methodLink RX7 36 yX3_isLookedAt, Cond.selects RX3 yX3_isLookedAt yX3_isLookedAt, Cond.selects RX4 ⟨"TwiceAsRich$House", "isLookedAt", "()Z"⟩ yX3_isLookedAt, Cond.selects RX6 ⟨"TwiceAsRich$House", "isLookedAt", "()Z"⟩ yX3_isLookedAt, Cond.selects RX9 ⟨"TwiceAsRich$House", "isLookedAt", "()Z"⟩ yX3_isLookedAt, Cond.selects RX10 ⟨"TwiceAsRich$House", "isLookedAt", "()Z"⟩ yX10_isLookedAt, Cond.instanceMethod yX10_isLookedAt, Cond.initialized RX10, Cond.code yX10_isLookedAt cX10_isLookedAt 1 (some .boolean), Cond.methodLink RX7 40 ⟨"TwiceAsRich$House", "shownOf", "(I)I"⟩, Cond.sameMethod "TwiceAsRich$House" "TwiceAsRich$House" "shownOf" "(I)I", Cond.instanceMethod ⟨"TwiceAsRich$House", "shownOf", "(I)I"⟩, Cond.selects RX0 ⟨"TwiceAsRich$House", "shownOf", "(I)I"⟩ yX0_shownOf, Cond.instanceMethod yX0_shownOf, Cond.initialized RX0, Cond.code yX0_shownOf cX0_shownOf 2 (some .int), Cond.fieldLink RX0 11 "TwiceAsRich$Beggar" "figure" "I", Cond.sameField "TwiceAsRich$Beggar" "TwiceAsRich$House" "figure" "I"]
def wsX7_breachesOf_r3 : List Cond := [Cond.methodLink RX0 7 yX6_shownOf, Cond.sameMethod "TwiceAsRich$Priest" "TwiceAsRich$Priest" "shownOf" "(I)I", Cond.superclass RX0 RX6, Cond.instanceMethod yX6_shownOf, Cond.initialized RX6, Cond.code yX6_shownOf cX6_shownOf 2 (some .int), Cond.methodLink RX6 7 yX3_shownOf, Cond.superclass RX6 RX3, Cond.instanceMethod yX3_shownOf, Cond.code yX3_shownOf cX3_shownOf 2 (some .int), Cond.selects RX1 ⟨"TwiceAsRich$House", "shownOf", "(I)I"⟩ yX3_shownOf, Cond.selects RX2 ⟨"TwiceAsRich$House", "shownOf", "(I)I"⟩ yX3_shownOf, Cond.methodLink RX7 40 yX3_shownOf, Cond.selects RX3 yX3_shownOf yX3_shownOf, Cond.selects RX4 ⟨"TwiceAsRich$House", "shownOf", "(I)I"⟩ yX4_shownOf, Cond.instanceMethod yX4_shownOf, Cond.initialized RX4, Cond.code yX4_shownOf cX4_shownOf 2 (some .int), Cond.selects RX6 ⟨"TwiceAsRich$House", "shownOf", "(I)I"⟩ yX6_shownOf, Cond.selects RX9 ⟨"TwiceAsRich$House", "shownOf", "(I)I"⟩ yX3_shownOf, Cond.selects RX10 ⟨"TwiceAsRich$House", "shownOf", "(I)I"⟩ yX3_shownOf, Cond.methodLink RX7 44 ⟨"TwiceAsRich$House", "allowedBy", "(I)I"⟩, Cond.sameMethod "TwiceAsRich$House" "TwiceAsRich$House" "allowedBy" "(I)I", Cond.selects RX0 ⟨"TwiceAsRich$House", "allowedBy", "(I)I"⟩ yX3_allowedBy]
def wsX7_breachesOf_r4 : List Cond := [Cond.instanceMethod yX3_allowedBy, Cond.code yX3_allowedBy cX3_allowedBy 2 (some .int), Cond.instanceMethod ⟨"TwiceAsRich$House", "allowedBy", "(I)I"⟩, Cond.selects RX1 ⟨"TwiceAsRich$House", "allowedBy", "(I)I"⟩ yX10_allowedBy, Cond.instanceMethod yX10_allowedBy, Cond.code yX10_allowedBy cX10_allowedBy 2 (some .int), Cond.selects RX2 ⟨"TwiceAsRich$House", "allowedBy", "(I)I"⟩ yX2_allowedBy, Cond.instanceMethod yX2_allowedBy, Cond.initialized RX2, Cond.code yX2_allowedBy cX2_allowedBy 2 (some .int), Cond.fieldLink RX2 11 "TwiceAsRich$Heir" "figure" "I", Cond.sameField "TwiceAsRich$Heir" "TwiceAsRich$House" "figure" "I", Cond.methodLink RX2 7 yX3_allowedBy, Cond.superclass RX2 RX3, Cond.methodLink RX7 44 yX3_allowedBy, Cond.selects RX3 yX3_allowedBy yX3_allowedBy, Cond.selects RX4 ⟨"TwiceAsRich$House", "allowedBy", "(I)I"⟩ yX4_allowedBy, Cond.instanceMethod yX4_allowedBy, Cond.code yX4_allowedBy cX4_allowedBy 2 (some .int), Cond.methodLink RX4 14 Lib.Math.max.name, Cond.static Lib.Math.max.name, Cond.initialized "java/lang/Math", Cond.code Lib.Math.max.name Lib.Math.max.code 2 (some .int), Cond.methodLink RX4 11 yX2_allowedBy]
def wsX7_breachesOf_r5 : List Cond := [Cond.sameMethod "TwiceAsRich$Heir" "TwiceAsRich$Heir" "allowedBy" "(I)I", Cond.superclass RX4 RX2, Cond.selects RX6 ⟨"TwiceAsRich$House", "allowedBy", "(I)I"⟩ yX3_allowedBy, Cond.selects RX9 ⟨"TwiceAsRich$House", "allowedBy", "(I)I"⟩ yX9_allowedBy, Cond.instanceMethod yX9_allowedBy, Cond.initialized RX9, Cond.code yX9_allowedBy cX9_allowedBy 2 (some .int), Cond.methodLink RX9 7 yX2_allowedBy, Cond.superclass RX9 RX2, Cond.selects RX10 ⟨"TwiceAsRich$House", "allowedBy", "(I)I"⟩ yX10_allowedBy, Cond.methodLink RX7 54 yX7_behind, Cond.instanceMethod yX7_behind, Cond.selects RX7 yX7_behind yX7_behind, Cond.code yX7_behind cX7_behind 2 (some .int)]
def wsX7_breachesOf : List Cond := .code yX7_breachesOf cX7_breachesOf 3 (some .int) :: ((wsX7_breachesOf_r1 ++ (wsX7_breachesOf_r2 ++ (wsX7_breachesOf_r3 ++ (wsX7_breachesOf_r4 ++ wsX7_breachesOf_r5)))) ++ wsX70 ++ wsX00 ++ wsX10 ++ wsX20 ++ wsX30 ++ wsX40 ++ wsX60 ++ wsX90 ++ wsX100)
def wsX7_allBreaches_r1 : List Cond := [Cond.fieldLink RX7 21 "TwiceAsRich$Street" "count" "I", Cond.methodLink RX7 62 yX7_breachesOf, Cond.instanceMethod yX7_breachesOf, Cond.selects RX7 yX7_breachesOf yX7_breachesOf, Cond.initialized RX7, Cond.code yX7_breachesOf cX7_breachesOf 3 (some .int), Cond.fieldLink RX7 17 "TwiceAsRich$Street" "purses" "[I", Cond.methodLink RX7 47 yX7_ahead, Cond.instanceMethod yX7_ahead, Cond.selects RX7 yX7_ahead yX7_ahead, Cond.code yX7_ahead cX7_ahead 2 (some .int), Cond.methodLink RX7 32 yX7_isClosed, Cond.instanceMethod yX7_isClosed, Cond.selects RX7 yX7_isClosed yX7_isClosed, Cond.code yX7_isClosed cX7_isClosed 1 (some .boolean), Cond.fieldLink RX7 25 "TwiceAsRich$Street" "round" "I", Cond.methodLink RX7 50 yX7_limitBy, Cond.instanceMethod yX7_limitBy, Cond.selects RX7 yX7_limitBy yX7_limitBy, Cond.code yX7_limitBy cX7_limitBy 3 (some .int), Cond.fieldLink RX7 11 "TwiceAsRich$Street" "houses" "[LTwiceAsRich$House;", Cond.constant RX7 39 (1000000), Cond.methodLink RX7 36 ⟨"TwiceAsRich$House", "isLookedAt", "()Z"⟩, Cond.sameMethod "TwiceAsRich$House" "TwiceAsRich$House" "isLookedAt" "()Z"]
def wsX7_allBreaches_r2 : List Cond := [Cond.selects RX0 ⟨"TwiceAsRich$House", "isLookedAt", "()Z"⟩ yX3_isLookedAt, Cond.instanceMethod yX3_isLookedAt, Cond.initialized RX3, Cond.code yX3_isLookedAt cX3_isLookedAt 1 (some .boolean), Cond.instanceMethod ⟨"TwiceAsRich$House", "isLookedAt", "()Z"⟩, Cond.selects RX1 ⟨"TwiceAsRich$House", "isLookedAt", "()Z"⟩ yX1_isLookedAt, Cond.instanceMethod yX1_isLookedAt, Cond.initialized RX1, Cond.code yX1_isLookedAt cX1_isLookedAt 1 (some .boolean), Cond.selects RX2 ⟨"TwiceAsRich$House", "isLookedAt", "()Z"⟩ yX3_isLookedAt, Cond.methodLink RX7 36 yX3_isLookedAt, Cond.selects RX3 yX3_isLookedAt yX3_isLookedAt, Cond.selects RX4 ⟨"TwiceAsRich$House", "isLookedAt", "()Z"⟩ yX3_isLookedAt, Cond.selects RX6 ⟨"TwiceAsRich$House", "isLookedAt", "()Z"⟩ yX3_isLookedAt, Cond.selects RX9 ⟨"TwiceAsRich$House", "isLookedAt", "()Z"⟩ yX3_isLookedAt, Cond.selects RX10 ⟨"TwiceAsRich$House", "isLookedAt", "()Z"⟩ yX10_isLookedAt, Cond.instanceMethod yX10_isLookedAt, Cond.initialized RX10, Cond.code yX10_isLookedAt cX10_isLookedAt 1 (some .boolean), Cond.methodLink RX7 40 ⟨"TwiceAsRich$House", "shownOf", "(I)I"⟩, Cond.sameMethod "TwiceAsRich$House" "TwiceAsRich$House" "shownOf" "(I)I", Cond.instanceMethod ⟨"TwiceAsRich$House", "shownOf", "(I)I"⟩, Cond.selects RX0 ⟨"TwiceAsRich$House", "shownOf", "(I)I"⟩ yX0_shownOf, Cond.instanceMethod yX0_shownOf]
def wsX7_allBreaches_r3 : List Cond := [Cond.initialized RX0, Cond.code yX0_shownOf cX0_shownOf 2 (some .int), Cond.fieldLink RX0 11 "TwiceAsRich$Beggar" "figure" "I", Cond.sameField "TwiceAsRich$Beggar" "TwiceAsRich$House" "figure" "I", Cond.methodLink RX0 7 yX6_shownOf, Cond.sameMethod "TwiceAsRich$Priest" "TwiceAsRich$Priest" "shownOf" "(I)I", Cond.superclass RX0 RX6, Cond.instanceMethod yX6_shownOf, Cond.initialized RX6, Cond.code yX6_shownOf cX6_shownOf 2 (some .int), Cond.methodLink RX6 7 yX3_shownOf, Cond.superclass RX6 RX3, Cond.instanceMethod yX3_shownOf, Cond.code yX3_shownOf cX3_shownOf 2 (some .int), Cond.selects RX1 ⟨"TwiceAsRich$House", "shownOf", "(I)I"⟩ yX3_shownOf, Cond.selects RX2 ⟨"TwiceAsRich$House", "shownOf", "(I)I"⟩ yX3_shownOf, Cond.methodLink RX7 40 yX3_shownOf, Cond.selects RX3 yX3_shownOf yX3_shownOf, Cond.selects RX4 ⟨"TwiceAsRich$House", "shownOf", "(I)I"⟩ yX4_shownOf, Cond.instanceMethod yX4_shownOf, Cond.initialized RX4, Cond.code yX4_shownOf cX4_shownOf 2 (some .int), Cond.selects RX6 ⟨"TwiceAsRich$House", "shownOf", "(I)I"⟩ yX6_shownOf, Cond.selects RX9 ⟨"TwiceAsRich$House", "shownOf", "(I)I"⟩ yX3_shownOf]
def wsX7_allBreaches_r4 : List Cond := [Cond.selects RX10 ⟨"TwiceAsRich$House", "shownOf", "(I)I"⟩ yX3_shownOf, Cond.methodLink RX7 44 ⟨"TwiceAsRich$House", "allowedBy", "(I)I"⟩, Cond.sameMethod "TwiceAsRich$House" "TwiceAsRich$House" "allowedBy" "(I)I", Cond.selects RX0 ⟨"TwiceAsRich$House", "allowedBy", "(I)I"⟩ yX3_allowedBy, Cond.instanceMethod yX3_allowedBy, Cond.code yX3_allowedBy cX3_allowedBy 2 (some .int), Cond.instanceMethod ⟨"TwiceAsRich$House", "allowedBy", "(I)I"⟩, Cond.selects RX1 ⟨"TwiceAsRich$House", "allowedBy", "(I)I"⟩ yX10_allowedBy, Cond.instanceMethod yX10_allowedBy, Cond.code yX10_allowedBy cX10_allowedBy 2 (some .int), Cond.selects RX2 ⟨"TwiceAsRich$House", "allowedBy", "(I)I"⟩ yX2_allowedBy, Cond.instanceMethod yX2_allowedBy, Cond.initialized RX2, Cond.code yX2_allowedBy cX2_allowedBy 2 (some .int), Cond.fieldLink RX2 11 "TwiceAsRich$Heir" "figure" "I", Cond.sameField "TwiceAsRich$Heir" "TwiceAsRich$House" "figure" "I", Cond.methodLink RX2 7 yX3_allowedBy, Cond.superclass RX2 RX3, Cond.methodLink RX7 44 yX3_allowedBy, Cond.selects RX3 yX3_allowedBy yX3_allowedBy, Cond.selects RX4 ⟨"TwiceAsRich$House", "allowedBy", "(I)I"⟩ yX4_allowedBy, Cond.instanceMethod yX4_allowedBy, Cond.code yX4_allowedBy cX4_allowedBy 2 (some .int), Cond.methodLink RX4 14 Lib.Math.max.name]
def wsX7_allBreaches_r5 : List Cond := [Cond.static Lib.Math.max.name, Cond.initialized "java/lang/Math", Cond.code Lib.Math.max.name Lib.Math.max.code 2 (some .int), Cond.methodLink RX4 11 yX2_allowedBy, Cond.sameMethod "TwiceAsRich$Heir" "TwiceAsRich$Heir" "allowedBy" "(I)I", Cond.superclass RX4 RX2, Cond.selects RX6 ⟨"TwiceAsRich$House", "allowedBy", "(I)I"⟩ yX3_allowedBy, Cond.selects RX9 ⟨"TwiceAsRich$House", "allowedBy", "(I)I"⟩ yX9_allowedBy, Cond.instanceMethod yX9_allowedBy, Cond.initialized RX9, Cond.code yX9_allowedBy cX9_allowedBy 2 (some .int), Cond.methodLink RX9 7 yX2_allowedBy, Cond.superclass RX9 RX2, Cond.selects RX10 ⟨"TwiceAsRich$House", "allowedBy", "(I)I"⟩ yX10_allowedBy, Cond.methodLink RX7 54 yX7_behind, Cond.instanceMethod yX7_behind, Cond.selects RX7 yX7_behind yX7_behind, Cond.code yX7_behind cX7_behind 2 (some .int)]
def wsX7_allBreaches : List Cond := .code yX7_allBreaches cX7_allBreaches 3 (some .int) :: ((wsX7_allBreaches_r1 ++ (wsX7_allBreaches_r2 ++ (wsX7_allBreaches_r3 ++ (wsX7_allBreaches_r4 ++ wsX7_allBreaches_r5)))) ++ wsX70 ++ wsX00 ++ wsX10 ++ wsX20 ++ wsX30 ++ wsX40 ++ wsX60 ++ wsX90 ++ wsX100)
def wsX7_housesWithoutBreach_r1 : List Cond := [Cond.fieldLink RX7 21 "TwiceAsRich$Street" "count" "I", Cond.methodLink RX7 62 yX7_breachesOf, Cond.instanceMethod yX7_breachesOf, Cond.selects RX7 yX7_breachesOf yX7_breachesOf, Cond.initialized RX7, Cond.code yX7_breachesOf cX7_breachesOf 3 (some .int), Cond.fieldLink RX7 17 "TwiceAsRich$Street" "purses" "[I", Cond.methodLink RX7 47 yX7_ahead, Cond.instanceMethod yX7_ahead, Cond.selects RX7 yX7_ahead yX7_ahead, Cond.code yX7_ahead cX7_ahead 2 (some .int), Cond.methodLink RX7 32 yX7_isClosed, Cond.instanceMethod yX7_isClosed, Cond.selects RX7 yX7_isClosed yX7_isClosed, Cond.code yX7_isClosed cX7_isClosed 1 (some .boolean), Cond.fieldLink RX7 25 "TwiceAsRich$Street" "round" "I", Cond.methodLink RX7 50 yX7_limitBy, Cond.instanceMethod yX7_limitBy, Cond.selects RX7 yX7_limitBy yX7_limitBy, Cond.code yX7_limitBy cX7_limitBy 3 (some .int), Cond.fieldLink RX7 11 "TwiceAsRich$Street" "houses" "[LTwiceAsRich$House;", Cond.constant RX7 39 (1000000), Cond.methodLink RX7 36 ⟨"TwiceAsRich$House", "isLookedAt", "()Z"⟩, Cond.sameMethod "TwiceAsRich$House" "TwiceAsRich$House" "isLookedAt" "()Z"]
def wsX7_housesWithoutBreach_r2 : List Cond := [Cond.selects RX0 ⟨"TwiceAsRich$House", "isLookedAt", "()Z"⟩ yX3_isLookedAt, Cond.instanceMethod yX3_isLookedAt, Cond.initialized RX3, Cond.code yX3_isLookedAt cX3_isLookedAt 1 (some .boolean), Cond.instanceMethod ⟨"TwiceAsRich$House", "isLookedAt", "()Z"⟩, Cond.selects RX1 ⟨"TwiceAsRich$House", "isLookedAt", "()Z"⟩ yX1_isLookedAt, Cond.instanceMethod yX1_isLookedAt, Cond.initialized RX1, Cond.code yX1_isLookedAt cX1_isLookedAt 1 (some .boolean), Cond.selects RX2 ⟨"TwiceAsRich$House", "isLookedAt", "()Z"⟩ yX3_isLookedAt, Cond.methodLink RX7 36 yX3_isLookedAt, Cond.selects RX3 yX3_isLookedAt yX3_isLookedAt, Cond.selects RX4 ⟨"TwiceAsRich$House", "isLookedAt", "()Z"⟩ yX3_isLookedAt, Cond.selects RX6 ⟨"TwiceAsRich$House", "isLookedAt", "()Z"⟩ yX3_isLookedAt, Cond.selects RX9 ⟨"TwiceAsRich$House", "isLookedAt", "()Z"⟩ yX3_isLookedAt, Cond.selects RX10 ⟨"TwiceAsRich$House", "isLookedAt", "()Z"⟩ yX10_isLookedAt, Cond.instanceMethod yX10_isLookedAt, Cond.initialized RX10, Cond.code yX10_isLookedAt cX10_isLookedAt 1 (some .boolean), Cond.methodLink RX7 40 ⟨"TwiceAsRich$House", "shownOf", "(I)I"⟩, Cond.sameMethod "TwiceAsRich$House" "TwiceAsRich$House" "shownOf" "(I)I", Cond.instanceMethod ⟨"TwiceAsRich$House", "shownOf", "(I)I"⟩, Cond.selects RX0 ⟨"TwiceAsRich$House", "shownOf", "(I)I"⟩ yX0_shownOf, Cond.instanceMethod yX0_shownOf]
def wsX7_housesWithoutBreach_r3 : List Cond := [Cond.initialized RX0, Cond.code yX0_shownOf cX0_shownOf 2 (some .int), Cond.fieldLink RX0 11 "TwiceAsRich$Beggar" "figure" "I", Cond.sameField "TwiceAsRich$Beggar" "TwiceAsRich$House" "figure" "I", Cond.methodLink RX0 7 yX6_shownOf, Cond.sameMethod "TwiceAsRich$Priest" "TwiceAsRich$Priest" "shownOf" "(I)I", Cond.superclass RX0 RX6, Cond.instanceMethod yX6_shownOf, Cond.initialized RX6, Cond.code yX6_shownOf cX6_shownOf 2 (some .int), Cond.methodLink RX6 7 yX3_shownOf, Cond.superclass RX6 RX3, Cond.instanceMethod yX3_shownOf, Cond.code yX3_shownOf cX3_shownOf 2 (some .int), Cond.selects RX1 ⟨"TwiceAsRich$House", "shownOf", "(I)I"⟩ yX3_shownOf, Cond.selects RX2 ⟨"TwiceAsRich$House", "shownOf", "(I)I"⟩ yX3_shownOf, Cond.methodLink RX7 40 yX3_shownOf, Cond.selects RX3 yX3_shownOf yX3_shownOf, Cond.selects RX4 ⟨"TwiceAsRich$House", "shownOf", "(I)I"⟩ yX4_shownOf, Cond.instanceMethod yX4_shownOf, Cond.initialized RX4, Cond.code yX4_shownOf cX4_shownOf 2 (some .int), Cond.selects RX6 ⟨"TwiceAsRich$House", "shownOf", "(I)I"⟩ yX6_shownOf, Cond.selects RX9 ⟨"TwiceAsRich$House", "shownOf", "(I)I"⟩ yX3_shownOf]
def wsX7_housesWithoutBreach_r4 : List Cond := [Cond.selects RX10 ⟨"TwiceAsRich$House", "shownOf", "(I)I"⟩ yX3_shownOf, Cond.methodLink RX7 44 ⟨"TwiceAsRich$House", "allowedBy", "(I)I"⟩, Cond.sameMethod "TwiceAsRich$House" "TwiceAsRich$House" "allowedBy" "(I)I", Cond.selects RX0 ⟨"TwiceAsRich$House", "allowedBy", "(I)I"⟩ yX3_allowedBy, Cond.instanceMethod yX3_allowedBy, Cond.code yX3_allowedBy cX3_allowedBy 2 (some .int), Cond.instanceMethod ⟨"TwiceAsRich$House", "allowedBy", "(I)I"⟩, Cond.selects RX1 ⟨"TwiceAsRich$House", "allowedBy", "(I)I"⟩ yX10_allowedBy, Cond.instanceMethod yX10_allowedBy, Cond.code yX10_allowedBy cX10_allowedBy 2 (some .int), Cond.selects RX2 ⟨"TwiceAsRich$House", "allowedBy", "(I)I"⟩ yX2_allowedBy, Cond.instanceMethod yX2_allowedBy, Cond.initialized RX2, Cond.code yX2_allowedBy cX2_allowedBy 2 (some .int), Cond.fieldLink RX2 11 "TwiceAsRich$Heir" "figure" "I", Cond.sameField "TwiceAsRich$Heir" "TwiceAsRich$House" "figure" "I", Cond.methodLink RX2 7 yX3_allowedBy, Cond.superclass RX2 RX3, Cond.methodLink RX7 44 yX3_allowedBy, Cond.selects RX3 yX3_allowedBy yX3_allowedBy, Cond.selects RX4 ⟨"TwiceAsRich$House", "allowedBy", "(I)I"⟩ yX4_allowedBy, Cond.instanceMethod yX4_allowedBy, Cond.code yX4_allowedBy cX4_allowedBy 2 (some .int), Cond.methodLink RX4 14 Lib.Math.max.name]
def wsX7_housesWithoutBreach_r5 : List Cond := [Cond.static Lib.Math.max.name, Cond.initialized "java/lang/Math", Cond.code Lib.Math.max.name Lib.Math.max.code 2 (some .int), Cond.methodLink RX4 11 yX2_allowedBy, Cond.sameMethod "TwiceAsRich$Heir" "TwiceAsRich$Heir" "allowedBy" "(I)I", Cond.superclass RX4 RX2, Cond.selects RX6 ⟨"TwiceAsRich$House", "allowedBy", "(I)I"⟩ yX3_allowedBy, Cond.selects RX9 ⟨"TwiceAsRich$House", "allowedBy", "(I)I"⟩ yX9_allowedBy, Cond.instanceMethod yX9_allowedBy, Cond.initialized RX9, Cond.code yX9_allowedBy cX9_allowedBy 2 (some .int), Cond.methodLink RX9 7 yX2_allowedBy, Cond.superclass RX9 RX2, Cond.selects RX10 ⟨"TwiceAsRich$House", "allowedBy", "(I)I"⟩ yX10_allowedBy, Cond.methodLink RX7 54 yX7_behind, Cond.instanceMethod yX7_behind, Cond.selects RX7 yX7_behind yX7_behind, Cond.code yX7_behind cX7_behind 2 (some .int)]
def wsX7_housesWithoutBreach : List Cond := .code yX7_housesWithoutBreach cX7_housesWithoutBreach 3 (some .int) :: ((wsX7_housesWithoutBreach_r1 ++ (wsX7_housesWithoutBreach_r2 ++ (wsX7_housesWithoutBreach_r3 ++ (wsX7_housesWithoutBreach_r4 ++ wsX7_housesWithoutBreach_r5)))) ++ wsX70 ++ wsX00 ++ wsX10 ++ wsX20 ++ wsX30 ++ wsX40 ++ wsX60 ++ wsX90 ++ wsX100)
def wsX7_holdersOf_r1 : List Cond := [Cond.fieldLink RX7 17 "TwiceAsRich$Street" "purses" "[I", Cond.methodLink RX7 47 yX7_ahead, Cond.instanceMethod yX7_ahead, Cond.selects RX7 yX7_ahead yX7_ahead, Cond.initialized RX7, Cond.code yX7_ahead cX7_ahead 2 (some .int), Cond.fieldLink RX7 21 "TwiceAsRich$Street" "count" "I", Cond.methodLink RX7 32 yX7_isClosed, Cond.instanceMethod yX7_isClosed, Cond.selects RX7 yX7_isClosed yX7_isClosed, Cond.code yX7_isClosed cX7_isClosed 1 (some .boolean), Cond.fieldLink RX7 25 "TwiceAsRich$Street" "round" "I", Cond.methodLink RX7 54 yX7_behind, Cond.instanceMethod yX7_behind, Cond.selects RX7 yX7_behind yX7_behind, Cond.code yX7_behind cX7_behind 2 (some .int), Cond.methodLink RX7 50 yX7_limitBy, Cond.instanceMethod yX7_limitBy, Cond.selects RX7 yX7_limitBy yX7_limitBy, Cond.code yX7_limitBy cX7_limitBy 3 (some .int), Cond.fieldLink RX7 11 "TwiceAsRich$Street" "houses" "[LTwiceAsRich$House;", Cond.constant RX7 39 (1000000), Cond.methodLink RX7 36 ⟨"TwiceAsRich$House", "isLookedAt", "()Z"⟩, Cond.sameMethod "TwiceAsRich$House" "TwiceAsRich$House" "isLookedAt" "()Z"]
def wsX7_holdersOf_r2 : List Cond := [Cond.selects RX0 ⟨"TwiceAsRich$House", "isLookedAt", "()Z"⟩ yX3_isLookedAt, Cond.instanceMethod yX3_isLookedAt, Cond.initialized RX3, Cond.code yX3_isLookedAt cX3_isLookedAt 1 (some .boolean), Cond.instanceMethod ⟨"TwiceAsRich$House", "isLookedAt", "()Z"⟩, Cond.selects RX1 ⟨"TwiceAsRich$House", "isLookedAt", "()Z"⟩ yX1_isLookedAt, Cond.instanceMethod yX1_isLookedAt, Cond.initialized RX1, Cond.code yX1_isLookedAt cX1_isLookedAt 1 (some .boolean), Cond.selects RX2 ⟨"TwiceAsRich$House", "isLookedAt", "()Z"⟩ yX3_isLookedAt, Cond.methodLink RX7 36 yX3_isLookedAt, Cond.selects RX3 yX3_isLookedAt yX3_isLookedAt, Cond.selects RX4 ⟨"TwiceAsRich$House", "isLookedAt", "()Z"⟩ yX3_isLookedAt, Cond.selects RX6 ⟨"TwiceAsRich$House", "isLookedAt", "()Z"⟩ yX3_isLookedAt, Cond.selects RX9 ⟨"TwiceAsRich$House", "isLookedAt", "()Z"⟩ yX3_isLookedAt, Cond.selects RX10 ⟨"TwiceAsRich$House", "isLookedAt", "()Z"⟩ yX10_isLookedAt, Cond.instanceMethod yX10_isLookedAt, Cond.initialized RX10, Cond.code yX10_isLookedAt cX10_isLookedAt 1 (some .boolean), Cond.methodLink RX7 40 ⟨"TwiceAsRich$House", "shownOf", "(I)I"⟩, Cond.sameMethod "TwiceAsRich$House" "TwiceAsRich$House" "shownOf" "(I)I", Cond.instanceMethod ⟨"TwiceAsRich$House", "shownOf", "(I)I"⟩, Cond.selects RX0 ⟨"TwiceAsRich$House", "shownOf", "(I)I"⟩ yX0_shownOf, Cond.instanceMethod yX0_shownOf]
def wsX7_holdersOf_r3 : List Cond := [Cond.initialized RX0, Cond.code yX0_shownOf cX0_shownOf 2 (some .int), Cond.fieldLink RX0 11 "TwiceAsRich$Beggar" "figure" "I", Cond.sameField "TwiceAsRich$Beggar" "TwiceAsRich$House" "figure" "I", Cond.methodLink RX0 7 yX6_shownOf, Cond.sameMethod "TwiceAsRich$Priest" "TwiceAsRich$Priest" "shownOf" "(I)I", Cond.superclass RX0 RX6, Cond.instanceMethod yX6_shownOf, Cond.initialized RX6, Cond.code yX6_shownOf cX6_shownOf 2 (some .int), Cond.methodLink RX6 7 yX3_shownOf, Cond.superclass RX6 RX3, Cond.instanceMethod yX3_shownOf, Cond.code yX3_shownOf cX3_shownOf 2 (some .int), Cond.selects RX1 ⟨"TwiceAsRich$House", "shownOf", "(I)I"⟩ yX3_shownOf, Cond.selects RX2 ⟨"TwiceAsRich$House", "shownOf", "(I)I"⟩ yX3_shownOf, Cond.methodLink RX7 40 yX3_shownOf, Cond.selects RX3 yX3_shownOf yX3_shownOf, Cond.selects RX4 ⟨"TwiceAsRich$House", "shownOf", "(I)I"⟩ yX4_shownOf, Cond.instanceMethod yX4_shownOf, Cond.initialized RX4, Cond.code yX4_shownOf cX4_shownOf 2 (some .int), Cond.selects RX6 ⟨"TwiceAsRich$House", "shownOf", "(I)I"⟩ yX6_shownOf, Cond.selects RX9 ⟨"TwiceAsRich$House", "shownOf", "(I)I"⟩ yX3_shownOf]
def wsX7_holdersOf_r4 : List Cond := [Cond.selects RX10 ⟨"TwiceAsRich$House", "shownOf", "(I)I"⟩ yX3_shownOf, Cond.methodLink RX7 44 ⟨"TwiceAsRich$House", "allowedBy", "(I)I"⟩, Cond.sameMethod "TwiceAsRich$House" "TwiceAsRich$House" "allowedBy" "(I)I", Cond.selects RX0 ⟨"TwiceAsRich$House", "allowedBy", "(I)I"⟩ yX3_allowedBy, Cond.instanceMethod yX3_allowedBy, Cond.code yX3_allowedBy cX3_allowedBy 2 (some .int), Cond.instanceMethod ⟨"TwiceAsRich$House", "allowedBy", "(I)I"⟩, Cond.selects RX1 ⟨"TwiceAsRich$House", "allowedBy", "(I)I"⟩ yX10_allowedBy, Cond.instanceMethod yX10_allowedBy, Cond.code yX10_allowedBy cX10_allowedBy 2 (some .int), Cond.selects RX2 ⟨"TwiceAsRich$House", "allowedBy", "(I)I"⟩ yX2_allowedBy, Cond.instanceMethod yX2_allowedBy, Cond.initialized RX2, Cond.code yX2_allowedBy cX2_allowedBy 2 (some .int), Cond.fieldLink RX2 11 "TwiceAsRich$Heir" "figure" "I", Cond.sameField "TwiceAsRich$Heir" "TwiceAsRich$House" "figure" "I", Cond.methodLink RX2 7 yX3_allowedBy, Cond.superclass RX2 RX3, Cond.methodLink RX7 44 yX3_allowedBy, Cond.selects RX3 yX3_allowedBy yX3_allowedBy, Cond.selects RX4 ⟨"TwiceAsRich$House", "allowedBy", "(I)I"⟩ yX4_allowedBy, Cond.instanceMethod yX4_allowedBy, Cond.code yX4_allowedBy cX4_allowedBy 2 (some .int), Cond.methodLink RX4 14 Lib.Math.max.name]
def wsX7_holdersOf_r5 : List Cond := [Cond.static Lib.Math.max.name, Cond.initialized "java/lang/Math", Cond.code Lib.Math.max.name Lib.Math.max.code 2 (some .int), Cond.methodLink RX4 11 yX2_allowedBy, Cond.sameMethod "TwiceAsRich$Heir" "TwiceAsRich$Heir" "allowedBy" "(I)I", Cond.superclass RX4 RX2, Cond.selects RX6 ⟨"TwiceAsRich$House", "allowedBy", "(I)I"⟩ yX3_allowedBy, Cond.selects RX9 ⟨"TwiceAsRich$House", "allowedBy", "(I)I"⟩ yX9_allowedBy, Cond.instanceMethod yX9_allowedBy, Cond.initialized RX9, Cond.code yX9_allowedBy cX9_allowedBy 2 (some .int), Cond.methodLink RX9 7 yX2_allowedBy, Cond.superclass RX9 RX2, Cond.selects RX10 ⟨"TwiceAsRich$House", "allowedBy", "(I)I"⟩ yX10_allowedBy]
def wsX7_holdersOf : List Cond := .code yX7_holdersOf cX7_holdersOf 5 (some .int) :: ((wsX7_holdersOf_r1 ++ (wsX7_holdersOf_r2 ++ (wsX7_holdersOf_r3 ++ (wsX7_holdersOf_r4 ++ wsX7_holdersOf_r5)))) ++ wsX70 ++ wsX00 ++ wsX10 ++ wsX20 ++ wsX30 ++ wsX40 ++ wsX60 ++ wsX90 ++ wsX100)
def wsX7_allCoins : List Cond := .code yX7_allCoins cX7_allCoins 3 (some .int) :: ([.fieldLink RX7 21 "TwiceAsRich$Street" "count" "I", .fieldLink RX7 17 "TwiceAsRich$Street" "purses" "[I"] ++ wsX70)
def wsX9_weekly : List Cond := .code yX9_weekly cX9_weekly 1 (some .int) :: ([.methodLink RX9 11 yX2_weekly, .sameMethod "TwiceAsRich$Heir" "TwiceAsRich$Heir" "weekly" "()I", .superclass RX9 RX2, .instanceMethod yX2_weekly, .initialized RX2, .code yX2_weekly cX2_weekly 1 (some .int), .fieldLink RX2 11 "TwiceAsRich$Heir" "figure" "I", .sameField "TwiceAsRich$Heir" "TwiceAsRich$House" "figure" "I", .methodLink RX2 17 yX3_weekly, .sameMethod "TwiceAsRich$House" "TwiceAsRich$House" "weekly" "()I", .superclass RX2 RX3, .instanceMethod yX3_weekly, .initialized RX3, .code yX3_weekly cX3_weekly 1 (some .int)] ++ wsX00 ++ wsX10 ++ wsX20 ++ wsX30 ++ wsX40 ++ wsX60 ++ wsX90 ++ wsX100)
def wsX7_earn_r1 : List Cond := [Cond.fieldLink RX7 21 "TwiceAsRich$Street" "count" "I", Cond.fieldLink RX7 17 "TwiceAsRich$Street" "purses" "[I", Cond.fieldLink RX7 11 "TwiceAsRich$Street" "houses" "[LTwiceAsRich$House;", Cond.methodLink RX7 57 Lib.Math.min.name, Cond.static Lib.Math.min.name, Cond.initialized "java/lang/Math", Cond.code Lib.Math.min.name Lib.Math.min.code 2 (some .int), Cond.methodLink RX7 65 ⟨"TwiceAsRich$House", "weekly", "()I"⟩, Cond.sameMethod "TwiceAsRich$House" "TwiceAsRich$House" "weekly" "()I", Cond.instanceMethod ⟨"TwiceAsRich$House", "weekly", "()I"⟩, Cond.selects RX0 ⟨"TwiceAsRich$House", "weekly", "()I"⟩ yX0_weekly, Cond.instanceMethod yX0_weekly, Cond.initialized RX0, Cond.code yX0_weekly cX0_weekly 1 (some .int), Cond.methodLink RX0 17 yX6_weekly, Cond.sameMethod "TwiceAsRich$Priest" "TwiceAsRich$Priest" "weekly" "()I", Cond.superclass RX0 RX6, Cond.instanceMethod yX6_weekly, Cond.initialized RX6, Cond.code yX6_weekly cX6_weekly 1 (some .int), Cond.methodLink RX6 11 yX3_weekly, Cond.superclass RX6 RX3, Cond.instanceMethod yX3_weekly, Cond.initialized RX3]
def wsX7_earn_r2 : List Cond := [Cond.code yX3_weekly cX3_weekly 1 (some .int), Cond.selects RX1 ⟨"TwiceAsRich$House", "weekly", "()I"⟩ yX1_weekly, Cond.instanceMethod yX1_weekly, Cond.initialized RX1, Cond.code yX1_weekly cX1_weekly 1 (some .int), Cond.fieldLink RX1 11 "TwiceAsRich$Blind" "figure" "I", Cond.sameField "TwiceAsRich$Blind" "TwiceAsRich$House" "figure" "I", Cond.methodLink RX1 7 yX10_weekly, Cond.sameMethod "TwiceAsRich$Wall" "TwiceAsRich$Wall" "weekly" "()I", Cond.superclass RX1 RX10, Cond.instanceMethod yX10_weekly, Cond.initialized RX10, Cond.code yX10_weekly cX10_weekly 1 (some .int), Cond.selects RX2 ⟨"TwiceAsRich$House", "weekly", "()I"⟩ yX2_weekly, Cond.instanceMethod yX2_weekly, Cond.initialized RX2, Cond.code yX2_weekly cX2_weekly 1 (some .int), Cond.fieldLink RX2 11 "TwiceAsRich$Heir" "figure" "I", Cond.sameField "TwiceAsRich$Heir" "TwiceAsRich$House" "figure" "I", Cond.methodLink RX2 17 yX3_weekly, Cond.superclass RX2 RX3, Cond.methodLink RX7 65 yX3_weekly, Cond.selects RX3 yX3_weekly yX3_weekly, Cond.selects RX4 ⟨"TwiceAsRich$House", "weekly", "()I"⟩ yX4_weekly]
def wsX7_earn_r3 : List Cond := [Cond.instanceMethod yX4_weekly, Cond.initialized RX4, Cond.code yX4_weekly cX4_weekly 1 (some .int), Cond.methodLink RX4 20 yX2_weekly, Cond.sameMethod "TwiceAsRich$Heir" "TwiceAsRich$Heir" "weekly" "()I", Cond.superclass RX4 RX2, Cond.selects RX6 ⟨"TwiceAsRich$House", "weekly", "()I"⟩ yX6_weekly, Cond.selects RX9 ⟨"TwiceAsRich$House", "weekly", "()I"⟩ yX9_weekly, Cond.instanceMethod yX9_weekly, Cond.initialized RX9, Cond.code yX9_weekly cX9_weekly 1 (some .int), Cond.methodLink RX9 11 yX2_weekly, Cond.superclass RX9 RX2, Cond.selects RX10 ⟨"TwiceAsRich$House", "weekly", "()I"⟩ yX10_weekly]
def wsX7_earn : List Cond := .code yX7_earn cX7_earn 3 none :: ((wsX7_earn_r1 ++ (wsX7_earn_r2 ++ wsX7_earn_r3)) ++ wsX70 ++ wsX00 ++ wsX10 ++ wsX20 ++ wsX30 ++ wsX40 ++ wsX60 ++ wsX90 ++ wsX100)
def wsX7_gift : List Cond := .code yX7_gift cX7_gift 4 (some .int) :: ([.fieldLink RX7 17 "TwiceAsRich$Street" "purses" "[I", .methodLink RX7 69 yX7_hasTwo, .instanceMethod yX7_hasTwo, .selects RX7 yX7_hasTwo yX7_hasTwo, .initialized RX7, .code yX7_hasTwo cX7_hasTwo 3 (some .boolean), .methodLink RX7 28 yX7_has, .instanceMethod yX7_has, .selects RX7 yX7_has yX7_has, .code yX7_has cX7_has 2 (some .boolean), .fieldLink RX7 21 "TwiceAsRich$Street" "count" "I"] ++ wsX70)
def wsX7_steal : List Cond := .code yX7_steal cX7_steal 3 none :: ([.fieldLink RX7 17 "TwiceAsRich$Street" "purses" "[I"] ++ wsX70)
def wsX7_exchange : List Cond := .code yX7_exchange cX7_exchange 5 none :: ([.fieldLink RX7 11 "TwiceAsRich$Street" "houses" "[LTwiceAsRich$House;", .fieldLink RX7 17 "TwiceAsRich$Street" "purses" "[I"] ++ wsX70)
def wsX7_insert : List Cond := .code yX7_insert cX7_insert 5 none :: ([.fieldLink RX7 21 "TwiceAsRich$Street" "count" "I", .fieldLink RX7 11 "TwiceAsRich$Street" "houses" "[LTwiceAsRich$House;", .fieldLink RX7 17 "TwiceAsRich$Street" "purses" "[I"] ++ wsX70)
def wsX7_remove : List Cond := .code yX7_remove cX7_remove 3 none :: ([.fieldLink RX7 21 "TwiceAsRich$Street" "count" "I", .fieldLink RX7 11 "TwiceAsRich$Street" "houses" "[LTwiceAsRich$House;", .fieldLink RX7 17 "TwiceAsRich$Street" "purses" "[I", .methodLink RX7 28 yX7_has, .instanceMethod yX7_has, .selects RX7 yX7_has yX7_has, .initialized RX7, .code yX7_has cX7_has 2 (some .boolean)] ++ wsX70)
def wsX8_init : List Cond := .code yX8_init cX8_init 1 none :: ([.methodLink RX8 3 objectInit, .instanceMethod objectInit, .code objectInit ⟨#[0xb1]⟩ 1 none, .arrayClass .int, .fieldLink RX8 9 "TwiceAsRich$StreetText" "bytes" "[I"] ++ wsX80)
def wsX8_open : List Cond := .code yX8_open cX8_open 3 none :: ([.fieldLink RX8 9 "TwiceAsRich$StreetText" "bytes" "[I", .methodLink RX8 15 Lib.Math.min.name, .static Lib.Math.min.name, .initialized "java/lang/Math", .code Lib.Math.min.name Lib.Math.min.code 2 (some .int), .fieldLink RX8 21 "TwiceAsRich$StreetText" "size" "I", .fieldLink RX8 25 "TwiceAsRich$StreetText" "done" "I"] ++ wsX80)
def wsX8_statements : List Cond := .code yX8_statements cX8_statements 1 (some .int) :: ([.fieldLink RX8 25 "TwiceAsRich$StreetText" "done" "I"] ++ wsX80)
def wsX8_byteAt : List Cond := .code yX8_byteAt cX8_byteAt 2 (some .int) :: ([.fieldLink RX8 21 "TwiceAsRich$StreetText" "size" "I", .fieldLink RX8 9 "TwiceAsRich$StreetText" "bytes" "[I"] ++ wsX80)
def wsX8_isLetter : List Cond := .code yX8_isLetter cX8_isLetter 1 (some .boolean) :: ([])
def wsX8_hasNumber : List Cond := .code yX8_hasNumber cX8_hasNumber 1 (some .boolean) :: ([])
def wsX8_singleDigits : List Cond := .code yX8_singleDigits cX8_singleDigits 1 (some .int) :: ([])
def wsX8_isDigit : List Cond := .code yX8_isDigit cX8_isDigit 1 (some .boolean) :: ([])
def wsX8_endOf : List Cond := .code yX8_endOf cX8_endOf 5 (some .int) :: ([.methodLink RX8 32 yX8_byteAt, .instanceMethod yX8_byteAt, .selects RX8 yX8_byteAt yX8_byteAt, .initialized RX8, .code yX8_byteAt cX8_byteAt 2 (some .int), .fieldLink RX8 21 "TwiceAsRich$StreetText" "size" "I", .fieldLink RX8 9 "TwiceAsRich$StreetText" "bytes" "[I", .methodLink RX8 42 yX8_isLetter, .static yX8_isLetter, .code yX8_isLetter cX8_isLetter 1 (some .boolean), .methodLink RX8 46 yX8_hasNumber, .static yX8_hasNumber, .code yX8_hasNumber cX8_hasNumber 1 (some .boolean), .methodLink RX8 49 yX8_singleDigits, .static yX8_singleDigits, .code yX8_singleDigits cX8_singleDigits 1 (some .int), .methodLink RX8 52 yX8_isDigit, .static yX8_isDigit, .code yX8_isDigit cX8_isDigit 1 (some .boolean)] ++ wsX80)
def wsX8_fewestDigits : List Cond := .code yX8_fewestDigits cX8_fewestDigits 1 (some .int) :: ([.methodLink RX8 46 yX8_hasNumber, .static yX8_hasNumber, .initialized RX8, .code yX8_hasNumber cX8_hasNumber 1 (some .boolean), .methodLink RX8 49 yX8_singleDigits, .static yX8_singleDigits, .code yX8_singleDigits cX8_singleDigits 1 (some .int)])
def wsX8_brokenPlace_r1 : List Cond := [Cond.fieldLink RX8 21 "TwiceAsRich$StreetText" "size" "I", Cond.methodLink RX8 28 yX8_endOf, Cond.instanceMethod yX8_endOf, Cond.selects RX8 yX8_endOf yX8_endOf, Cond.initialized RX8, Cond.code yX8_endOf cX8_endOf 5 (some .int), Cond.methodLink RX8 32 yX8_byteAt, Cond.instanceMethod yX8_byteAt, Cond.selects RX8 yX8_byteAt yX8_byteAt, Cond.code yX8_byteAt cX8_byteAt 2 (some .int), Cond.fieldLink RX8 9 "TwiceAsRich$StreetText" "bytes" "[I", Cond.methodLink RX8 42 yX8_isLetter, Cond.static yX8_isLetter, Cond.code yX8_isLetter cX8_isLetter 1 (some .boolean), Cond.methodLink RX8 46 yX8_hasNumber, Cond.static yX8_hasNumber, Cond.code yX8_hasNumber cX8_hasNumber 1 (some .boolean), Cond.methodLink RX8 49 yX8_singleDigits, Cond.static yX8_singleDigits, Cond.code yX8_singleDigits cX8_singleDigits 1 (some .int), Cond.methodLink RX8 52 yX8_isDigit, Cond.static yX8_isDigit, Cond.code yX8_isDigit cX8_isDigit 1 (some .boolean), Cond.methodLink RX8 35 yX8_fewestDigits]
def wsX8_brokenPlace_r2 : List Cond := [Cond.static yX8_fewestDigits, Cond.code yX8_fewestDigits cX8_fewestDigits 1 (some .int)]
def wsX8_brokenPlace : List Cond := .code yX8_brokenPlace cX8_brokenPlace 3 (some .int) :: ((wsX8_brokenPlace_r1 ++ wsX8_brokenPlace_r2) ++ wsX80)
def wsX8_digitAt : List Cond := .code yX8_digitAt cX8_digitAt 2 (some .int) :: ([.methodLink RX8 32 yX8_byteAt, .instanceMethod yX8_byteAt, .selects RX8 yX8_byteAt yX8_byteAt, .initialized RX8, .code yX8_byteAt cX8_byteAt 2 (some .int), .fieldLink RX8 21 "TwiceAsRich$StreetText" "size" "I", .fieldLink RX8 9 "TwiceAsRich$StreetText" "bytes" "[I"] ++ wsX80)
def wsX8_numberAt : List Cond := .code yX8_numberAt cX8_numberAt 4 (some .int) :: ([.methodLink RX8 32 yX8_byteAt, .instanceMethod yX8_byteAt, .selects RX8 yX8_byteAt yX8_byteAt, .initialized RX8, .code yX8_byteAt cX8_byteAt 2 (some .int), .fieldLink RX8 21 "TwiceAsRich$StreetText" "size" "I", .fieldLink RX8 9 "TwiceAsRich$StreetText" "bytes" "[I", .methodLink RX8 52 yX8_isDigit, .static yX8_isDigit, .code yX8_isDigit cX8_isDigit 1 (some .boolean), .methodLink RX8 55 yX8_digitAt, .instanceMethod yX8_digitAt, .selects RX8 yX8_digitAt yX8_digitAt, .code yX8_digitAt cX8_digitAt 2 (some .int)] ++ wsX80)
def wsX11_isHouse : List Cond := .code yX11_isHouse cX11_isHouse 2 (some .boolean) :: ([])
def wsX9_init : List Cond := .code yX9_init cX9_init 2 none :: ([.methodLink RX9 1 yX2_init, .instanceMethod yX2_init, .initialized RX2, .code yX2_init cX2_init 2 none, .methodLink RX2 1 yX3_init, .instanceMethod yX3_init, .initialized RX3, .code yX3_init cX3_init 2 none, .methodLink RX3 1 objectInit, .instanceMethod objectInit, .code objectInit ⟨#[0xb1]⟩ 1 none, .fieldLink RX3 7 "TwiceAsRich$House" "figure" "I"] ++ wsX00 ++ wsX10 ++ wsX20 ++ wsX30 ++ wsX40 ++ wsX60 ++ wsX90 ++ wsX100)
def wsX11_houseOfKind_r1 : List Cond := [Cond.classLink RX11 285 RX2, Cond.instantiable RX2 1, Cond.initialized RX2, Cond.classLink RX11 288 RX6, Cond.instantiable RX6 1, Cond.initialized RX6, Cond.classLink RX11 291 RX10, Cond.instantiable RX10 1, Cond.initialized RX10, Cond.classLink RX11 294 RX4, Cond.instantiable RX4 1, Cond.initialized RX4, Cond.classLink RX11 297 RX0, Cond.instantiable RX0 1, Cond.initialized RX0, Cond.classLink RX11 300 RX9, Cond.instantiable RX9 1, Cond.initialized RX9, Cond.classLink RX11 303 RX1, Cond.instantiable RX1 1, Cond.initialized RX1, Cond.classLink RX11 22 RX3, Cond.instantiable RX3 1, Cond.initialized RX3]
def wsX11_houseOfKind_r2 : List Cond := [Cond.methodLink RX11 287 yX2_init, Cond.instanceMethod yX2_init, Cond.code yX2_init cX2_init 2 none, Cond.methodLink RX2 1 yX3_init, Cond.instanceMethod yX3_init, Cond.code yX3_init cX3_init 2 none, Cond.methodLink RX3 1 objectInit, Cond.instanceMethod objectInit, Cond.code objectInit ⟨#[0xb1]⟩ 1 none, Cond.fieldLink RX3 7 "TwiceAsRich$House" "figure" "I", Cond.methodLink RX11 290 yX6_init, Cond.instanceMethod yX6_init, Cond.code yX6_init cX6_init 2 none, Cond.methodLink RX6 1 yX3_init, Cond.methodLink RX11 293 yX10_init, Cond.instanceMethod yX10_init, Cond.code yX10_init cX10_init 2 none, Cond.methodLink RX10 3 yX3_init, Cond.methodLink RX11 296 yX4_init, Cond.instanceMethod yX4_init, Cond.code yX4_init cX4_init 2 none, Cond.methodLink RX4 1 yX2_init, Cond.methodLink RX11 299 yX0_init, Cond.instanceMethod yX0_init]
def wsX11_houseOfKind_r3 : List Cond := [Cond.code yX0_init cX0_init 2 none, Cond.methodLink RX0 1 yX6_init, Cond.methodLink RX11 302 yX9_init, Cond.instanceMethod yX9_init, Cond.code yX9_init cX9_init 2 none, Cond.methodLink RX9 1 yX2_init, Cond.methodLink RX11 305 yX1_init, Cond.instanceMethod yX1_init, Cond.code yX1_init cX1_init 2 none, Cond.methodLink RX1 1 yX10_init, Cond.methodLink RX11 24 yX3_init]
def wsX11_houseOfKind : List Cond := .code yX11_houseOfKind cX11_houseOfKind 2 (some (.object "TwiceAsRich$House")) :: ((wsX11_houseOfKind_r1 ++ (wsX11_houseOfKind_r2 ++ wsX11_houseOfKind_r3)) ++ wsX20 ++ wsX60 ++ wsX100 ++ wsX40 ++ wsX00 ++ wsX90 ++ wsX10 ++ wsX30)
def wsX8_comesAsTold_r1 : List Cond := [Cond.fieldLink RX8 87 "TwiceAsRich$Street" "count" "I", Cond.static yX11_isHouse, Cond.initialized RX11, Cond.code yX11_isHouse cX11_isHouse 2 (some .boolean), Cond.static yX11_houseOfKind, Cond.code yX11_houseOfKind cX11_houseOfKind 2 (some (.object "TwiceAsRich$House")), Cond.classLink RX11 285 RX2, Cond.instantiable RX2 1, Cond.initialized RX2, Cond.classLink RX11 288 RX6, Cond.instantiable RX6 1, Cond.initialized RX6, Cond.classLink RX11 291 RX10, Cond.instantiable RX10 1, Cond.initialized RX10, Cond.classLink RX11 294 RX4, Cond.instantiable RX4 1, Cond.initialized RX4, Cond.classLink RX11 297 RX0, Cond.instantiable RX0 1, Cond.initialized RX0, Cond.classLink RX11 300 RX9, Cond.instantiable RX9 1, Cond.initialized RX9]
def wsX8_comesAsTold_r2 : List Cond := [Cond.classLink RX11 303 RX1, Cond.instantiable RX1 1, Cond.initialized RX1, Cond.classLink RX11 22 RX3, Cond.instantiable RX3 1, Cond.initialized RX3, Cond.methodLink RX11 287 yX2_init, Cond.instanceMethod yX2_init, Cond.code yX2_init cX2_init 2 none, Cond.methodLink RX2 1 yX3_init, Cond.instanceMethod yX3_init, Cond.code yX3_init cX3_init 2 none, Cond.methodLink RX3 1 objectInit, Cond.instanceMethod objectInit, Cond.code objectInit ⟨#[0xb1]⟩ 1 none, Cond.fieldLink RX3 7 "TwiceAsRich$House" "figure" "I", Cond.methodLink RX11 290 yX6_init, Cond.instanceMethod yX6_init, Cond.code yX6_init cX6_init 2 none, Cond.methodLink RX6 1 yX3_init, Cond.methodLink RX11 293 yX10_init, Cond.instanceMethod yX10_init, Cond.code yX10_init cX10_init 2 none, Cond.methodLink RX10 3 yX3_init]
def wsX8_comesAsTold_r3 : List Cond := [Cond.methodLink RX11 296 yX4_init, Cond.instanceMethod yX4_init, Cond.code yX4_init cX4_init 2 none, Cond.methodLink RX4 1 yX2_init, Cond.methodLink RX11 299 yX0_init, Cond.instanceMethod yX0_init, Cond.code yX0_init cX0_init 2 none, Cond.methodLink RX0 1 yX6_init, Cond.methodLink RX11 302 yX9_init, Cond.instanceMethod yX9_init, Cond.code yX9_init cX9_init 2 none, Cond.methodLink RX9 1 yX2_init, Cond.methodLink RX11 305 yX1_init, Cond.instanceMethod yX1_init, Cond.code yX1_init cX1_init 2 none, Cond.methodLink RX1 1 yX10_init, Cond.methodLink RX11 24 yX3_init, Cond.methodLink RX8 94 yX7_insert, Cond.instanceMethod yX7_insert, Cond.selects RX7 yX7_insert yX7_insert, Cond.initialized RX7, Cond.code yX7_insert cX7_insert 5 none, Cond.fieldLink RX7 21 "TwiceAsRich$Street" "count" "I", Cond.fieldLink RX7 11 "TwiceAsRich$Street" "houses" "[LTwiceAsRich$House;"]
def wsX8_comesAsTold_r4 : List Cond := [Cond.fieldLink RX7 17 "TwiceAsRich$Street" "purses" "[I"]
def wsX8_comesAsTold : List Cond := .code yX8_comesAsTold cX8_comesAsTold 4 (some .boolean) :: ((wsX8_comesAsTold_r1 ++ (wsX8_comesAsTold_r2 ++ (wsX8_comesAsTold_r3 ++ wsX8_comesAsTold_r4))) ++ wsX70 ++ wsX20 ++ wsX60 ++ wsX100 ++ wsX40 ++ wsX00 ++ wsX90 ++ wsX10 ++ wsX30)
def wsX8_turnsAsTold : List Cond := .code yX8_turnsAsTold cX8_turnsAsTold 2 (some .boolean) :: ([.fieldLink RX8 98 "TwiceAsRich$Street" "round" "I"] ++ wsX70)
def wsX8_movesAsTold : List Cond := .code yX8_movesAsTold cX8_movesAsTold 3 (some .boolean) :: ([.methodLink RX8 101 yX7_hasTwo, .instanceMethod yX7_hasTwo, .selects RX7 yX7_hasTwo yX7_hasTwo, .initialized RX7, .code yX7_hasTwo cX7_hasTwo 3 (some .boolean), .methodLink RX7 28 yX7_has, .instanceMethod yX7_has, .selects RX7 yX7_has yX7_has, .code yX7_has cX7_has 2 (some .boolean), .fieldLink RX7 21 "TwiceAsRich$Street" "count" "I", .methodLink RX8 104 yX7_exchange, .instanceMethod yX7_exchange, .selects RX7 yX7_exchange yX7_exchange, .code yX7_exchange cX7_exchange 5 none, .fieldLink RX7 11 "TwiceAsRich$Street" "houses" "[LTwiceAsRich$House;", .fieldLink RX7 17 "TwiceAsRich$Street" "purses" "[I"] ++ wsX70)
def wsX8_leavesAsTold : List Cond := .code yX8_leavesAsTold cX8_leavesAsTold 1 (some .boolean) :: ([.fieldLink RX8 87 "TwiceAsRich$Street" "count" "I", .methodLink RX8 108 yX7_remove, .instanceMethod yX7_remove, .selects RX7 yX7_remove yX7_remove, .initialized RX7, .code yX7_remove cX7_remove 3 none, .fieldLink RX7 21 "TwiceAsRich$Street" "count" "I", .fieldLink RX7 11 "TwiceAsRich$Street" "houses" "[LTwiceAsRich$House;", .fieldLink RX7 17 "TwiceAsRich$Street" "purses" "[I", .methodLink RX7 28 yX7_has, .instanceMethod yX7_has, .selects RX7 yX7_has yX7_has, .code yX7_has cX7_has 2 (some .boolean)] ++ wsX70)
def wsX8_isDone_r1 : List Cond := [Cond.methodLink RX8 55 yX8_digitAt, Cond.instanceMethod yX8_digitAt, Cond.selects RX8 yX8_digitAt yX8_digitAt, Cond.initialized RX8, Cond.code yX8_digitAt cX8_digitAt 2 (some .int), Cond.methodLink RX8 32 yX8_byteAt, Cond.instanceMethod yX8_byteAt, Cond.selects RX8 yX8_byteAt yX8_byteAt, Cond.code yX8_byteAt cX8_byteAt 2 (some .int), Cond.fieldLink RX8 21 "TwiceAsRich$StreetText" "size" "I", Cond.fieldLink RX8 9 "TwiceAsRich$StreetText" "bytes" "[I", Cond.methodLink RX8 58 yX8_numberAt, Cond.instanceMethod yX8_numberAt, Cond.selects RX8 yX8_numberAt yX8_numberAt, Cond.code yX8_numberAt cX8_numberAt 4 (some .int), Cond.methodLink RX8 52 yX8_isDigit, Cond.static yX8_isDigit, Cond.code yX8_isDigit cX8_isDigit 1 (some .boolean), Cond.methodLink RX8 61 yX8_comesAsTold, Cond.static yX8_comesAsTold, Cond.code yX8_comesAsTold cX8_comesAsTold 4 (some .boolean), Cond.fieldLink RX8 87 "TwiceAsRich$Street" "count" "I", Cond.static yX11_isHouse, Cond.initialized RX11]
def wsX8_isDone_r2 : List Cond := [Cond.code yX11_isHouse cX11_isHouse 2 (some .boolean), Cond.static yX11_houseOfKind, Cond.code yX11_houseOfKind cX11_houseOfKind 2 (some (.object "TwiceAsRich$House")), Cond.classLink RX11 285 RX2, Cond.instantiable RX2 1, Cond.initialized RX2, Cond.classLink RX11 288 RX6, Cond.instantiable RX6 1, Cond.initialized RX6, Cond.classLink RX11 291 RX10, Cond.instantiable RX10 1, Cond.initialized RX10, Cond.classLink RX11 294 RX4, Cond.instantiable RX4 1, Cond.initialized RX4, Cond.classLink RX11 297 RX0, Cond.instantiable RX0 1, Cond.initialized RX0, Cond.classLink RX11 300 RX9, Cond.instantiable RX9 1, Cond.initialized RX9, Cond.classLink RX11 303 RX1, Cond.instantiable RX1 1, Cond.initialized RX1]
def wsX8_isDone_r3 : List Cond := [Cond.classLink RX11 22 RX3, Cond.instantiable RX3 1, Cond.initialized RX3, Cond.methodLink RX11 287 yX2_init, Cond.instanceMethod yX2_init, Cond.code yX2_init cX2_init 2 none, Cond.methodLink RX2 1 yX3_init, Cond.instanceMethod yX3_init, Cond.code yX3_init cX3_init 2 none, Cond.methodLink RX3 1 objectInit, Cond.instanceMethod objectInit, Cond.code objectInit ⟨#[0xb1]⟩ 1 none, Cond.fieldLink RX3 7 "TwiceAsRich$House" "figure" "I", Cond.methodLink RX11 290 yX6_init, Cond.instanceMethod yX6_init, Cond.code yX6_init cX6_init 2 none, Cond.methodLink RX6 1 yX3_init, Cond.methodLink RX11 293 yX10_init, Cond.instanceMethod yX10_init, Cond.code yX10_init cX10_init 2 none, Cond.methodLink RX10 3 yX3_init, Cond.methodLink RX11 296 yX4_init, Cond.instanceMethod yX4_init, Cond.code yX4_init cX4_init 2 none]
def wsX8_isDone_r4 : List Cond := [Cond.methodLink RX4 1 yX2_init, Cond.methodLink RX11 299 yX0_init, Cond.instanceMethod yX0_init, Cond.code yX0_init cX0_init 2 none, Cond.methodLink RX0 1 yX6_init, Cond.methodLink RX11 302 yX9_init, Cond.instanceMethod yX9_init, Cond.code yX9_init cX9_init 2 none, Cond.methodLink RX9 1 yX2_init, Cond.methodLink RX11 305 yX1_init, Cond.instanceMethod yX1_init, Cond.code yX1_init cX1_init 2 none, Cond.methodLink RX1 1 yX10_init, Cond.methodLink RX11 24 yX3_init, Cond.methodLink RX8 94 yX7_insert, Cond.instanceMethod yX7_insert, Cond.selects RX7 yX7_insert yX7_insert, Cond.initialized RX7, Cond.code yX7_insert cX7_insert 5 none, Cond.fieldLink RX7 21 "TwiceAsRich$Street" "count" "I", Cond.fieldLink RX7 11 "TwiceAsRich$Street" "houses" "[LTwiceAsRich$House;", Cond.fieldLink RX7 17 "TwiceAsRich$Street" "purses" "[I", Cond.methodLink RX8 65 yX8_turnsAsTold, Cond.static yX8_turnsAsTold]
def wsX8_isDone_r5 : List Cond := [Cond.code yX8_turnsAsTold cX8_turnsAsTold 2 (some .boolean), Cond.fieldLink RX8 98 "TwiceAsRich$Street" "round" "I", Cond.methodLink RX8 69 yX7_gift, Cond.instanceMethod yX7_gift, Cond.selects RX7 yX7_gift yX7_gift, Cond.code yX7_gift cX7_gift 4 (some .int), Cond.methodLink RX7 69 yX7_hasTwo, Cond.instanceMethod yX7_hasTwo, Cond.selects RX7 yX7_hasTwo yX7_hasTwo, Cond.code yX7_hasTwo cX7_hasTwo 3 (some .boolean), Cond.methodLink RX7 28 yX7_has, Cond.instanceMethod yX7_has, Cond.selects RX7 yX7_has yX7_has, Cond.code yX7_has cX7_has 2 (some .boolean), Cond.methodLink RX8 75 yX8_movesAsTold, Cond.static yX8_movesAsTold, Cond.code yX8_movesAsTold cX8_movesAsTold 3 (some .boolean), Cond.methodLink RX8 101 yX7_hasTwo, Cond.methodLink RX8 104 yX7_exchange, Cond.instanceMethod yX7_exchange, Cond.selects RX7 yX7_exchange yX7_exchange, Cond.code yX7_exchange cX7_exchange 5 none, Cond.methodLink RX8 79 yX8_leavesAsTold, Cond.static yX8_leavesAsTold]
def wsX8_isDone_r6 : List Cond := [Cond.code yX8_leavesAsTold cX8_leavesAsTold 1 (some .boolean), Cond.methodLink RX8 108 yX7_remove, Cond.instanceMethod yX7_remove, Cond.selects RX7 yX7_remove yX7_remove, Cond.code yX7_remove cX7_remove 3 none]
def wsX8_isDone : List Cond := .code yX8_isDone cX8_isDone 5 (some .boolean) :: ((wsX8_isDone_r1 ++ (wsX8_isDone_r2 ++ (wsX8_isDone_r3 ++ (wsX8_isDone_r4 ++ (wsX8_isDone_r5 ++ wsX8_isDone_r6))))) ++ wsX80 ++ wsX70 ++ wsX20 ++ wsX60 ++ wsX100 ++ wsX40 ++ wsX00 ++ wsX90 ++ wsX10 ++ wsX30)
def wsX8_wrongPlace_r1 : List Cond := [Cond.fieldLink RX8 21 "TwiceAsRich$StreetText" "size" "I", Cond.fieldLink RX8 25 "TwiceAsRich$StreetText" "done" "I", Cond.methodLink RX8 38 yX8_isDone, Cond.instanceMethod yX8_isDone, Cond.selects RX8 yX8_isDone yX8_isDone, Cond.initialized RX8, Cond.code yX8_isDone cX8_isDone 5 (some .boolean), Cond.methodLink RX8 55 yX8_digitAt, Cond.instanceMethod yX8_digitAt, Cond.selects RX8 yX8_digitAt yX8_digitAt, Cond.code yX8_digitAt cX8_digitAt 2 (some .int), Cond.methodLink RX8 32 yX8_byteAt, Cond.instanceMethod yX8_byteAt, Cond.selects RX8 yX8_byteAt yX8_byteAt, Cond.code yX8_byteAt cX8_byteAt 2 (some .int), Cond.fieldLink RX8 9 "TwiceAsRich$StreetText" "bytes" "[I", Cond.methodLink RX8 58 yX8_numberAt, Cond.instanceMethod yX8_numberAt, Cond.selects RX8 yX8_numberAt yX8_numberAt, Cond.code yX8_numberAt cX8_numberAt 4 (some .int), Cond.methodLink RX8 52 yX8_isDigit, Cond.static yX8_isDigit, Cond.code yX8_isDigit cX8_isDigit 1 (some .boolean), Cond.methodLink RX8 61 yX8_comesAsTold]
def wsX8_wrongPlace_r2 : List Cond := [Cond.static yX8_comesAsTold, Cond.code yX8_comesAsTold cX8_comesAsTold 4 (some .boolean), Cond.fieldLink RX8 87 "TwiceAsRich$Street" "count" "I", Cond.static yX11_isHouse, Cond.initialized RX11, Cond.code yX11_isHouse cX11_isHouse 2 (some .boolean), Cond.static yX11_houseOfKind, Cond.code yX11_houseOfKind cX11_houseOfKind 2 (some (.object "TwiceAsRich$House")), Cond.classLink RX11 285 RX2, Cond.instantiable RX2 1, Cond.initialized RX2, Cond.classLink RX11 288 RX6, Cond.instantiable RX6 1, Cond.initialized RX6, Cond.classLink RX11 291 RX10, Cond.instantiable RX10 1, Cond.initialized RX10, Cond.classLink RX11 294 RX4, Cond.instantiable RX4 1, Cond.initialized RX4, Cond.classLink RX11 297 RX0, Cond.instantiable RX0 1, Cond.initialized RX0, Cond.classLink RX11 300 RX9]
def wsX8_wrongPlace_r3 : List Cond := [Cond.instantiable RX9 1, Cond.initialized RX9, Cond.classLink RX11 303 RX1, Cond.instantiable RX1 1, Cond.initialized RX1, Cond.classLink RX11 22 RX3, Cond.instantiable RX3 1, Cond.initialized RX3, Cond.methodLink RX11 287 yX2_init, Cond.instanceMethod yX2_init, Cond.code yX2_init cX2_init 2 none, Cond.methodLink RX2 1 yX3_init, Cond.instanceMethod yX3_init, Cond.code yX3_init cX3_init 2 none, Cond.methodLink RX3 1 objectInit, Cond.instanceMethod objectInit, Cond.code objectInit ⟨#[0xb1]⟩ 1 none, Cond.fieldLink RX3 7 "TwiceAsRich$House" "figure" "I", Cond.methodLink RX11 290 yX6_init, Cond.instanceMethod yX6_init, Cond.code yX6_init cX6_init 2 none, Cond.methodLink RX6 1 yX3_init, Cond.methodLink RX11 293 yX10_init, Cond.instanceMethod yX10_init]
def wsX8_wrongPlace_r4 : List Cond := [Cond.code yX10_init cX10_init 2 none, Cond.methodLink RX10 3 yX3_init, Cond.methodLink RX11 296 yX4_init, Cond.instanceMethod yX4_init, Cond.code yX4_init cX4_init 2 none, Cond.methodLink RX4 1 yX2_init, Cond.methodLink RX11 299 yX0_init, Cond.instanceMethod yX0_init, Cond.code yX0_init cX0_init 2 none, Cond.methodLink RX0 1 yX6_init, Cond.methodLink RX11 302 yX9_init, Cond.instanceMethod yX9_init, Cond.code yX9_init cX9_init 2 none, Cond.methodLink RX9 1 yX2_init, Cond.methodLink RX11 305 yX1_init, Cond.instanceMethod yX1_init, Cond.code yX1_init cX1_init 2 none, Cond.methodLink RX1 1 yX10_init, Cond.methodLink RX11 24 yX3_init, Cond.methodLink RX8 94 yX7_insert, Cond.instanceMethod yX7_insert, Cond.selects RX7 yX7_insert yX7_insert, Cond.initialized RX7, Cond.code yX7_insert cX7_insert 5 none]
def wsX8_wrongPlace_r5 : List Cond := [Cond.fieldLink RX7 21 "TwiceAsRich$Street" "count" "I", Cond.fieldLink RX7 11 "TwiceAsRich$Street" "houses" "[LTwiceAsRich$House;", Cond.fieldLink RX7 17 "TwiceAsRich$Street" "purses" "[I", Cond.methodLink RX8 65 yX8_turnsAsTold, Cond.static yX8_turnsAsTold, Cond.code yX8_turnsAsTold cX8_turnsAsTold 2 (some .boolean), Cond.fieldLink RX8 98 "TwiceAsRich$Street" "round" "I", Cond.methodLink RX8 69 yX7_gift, Cond.instanceMethod yX7_gift, Cond.selects RX7 yX7_gift yX7_gift, Cond.code yX7_gift cX7_gift 4 (some .int), Cond.methodLink RX7 69 yX7_hasTwo, Cond.instanceMethod yX7_hasTwo, Cond.selects RX7 yX7_hasTwo yX7_hasTwo, Cond.code yX7_hasTwo cX7_hasTwo 3 (some .boolean), Cond.methodLink RX7 28 yX7_has, Cond.instanceMethod yX7_has, Cond.selects RX7 yX7_has yX7_has, Cond.code yX7_has cX7_has 2 (some .boolean), Cond.methodLink RX8 75 yX8_movesAsTold, Cond.static yX8_movesAsTold, Cond.code yX8_movesAsTold cX8_movesAsTold 3 (some .boolean), Cond.methodLink RX8 101 yX7_hasTwo, Cond.methodLink RX8 104 yX7_exchange]
def wsX8_wrongPlace_r6 : List Cond := [Cond.instanceMethod yX7_exchange, Cond.selects RX7 yX7_exchange yX7_exchange, Cond.code yX7_exchange cX7_exchange 5 none, Cond.methodLink RX8 79 yX8_leavesAsTold, Cond.static yX8_leavesAsTold, Cond.code yX8_leavesAsTold cX8_leavesAsTold 1 (some .boolean), Cond.methodLink RX8 108 yX7_remove, Cond.instanceMethod yX7_remove, Cond.selects RX7 yX7_remove yX7_remove, Cond.code yX7_remove cX7_remove 3 none, Cond.methodLink RX8 28 yX8_endOf, Cond.instanceMethod yX8_endOf, Cond.selects RX8 yX8_endOf yX8_endOf, Cond.code yX8_endOf cX8_endOf 5 (some .int), Cond.methodLink RX8 42 yX8_isLetter, Cond.static yX8_isLetter, Cond.code yX8_isLetter cX8_isLetter 1 (some .boolean), Cond.methodLink RX8 46 yX8_hasNumber, Cond.static yX8_hasNumber, Cond.code yX8_hasNumber cX8_hasNumber 1 (some .boolean), Cond.methodLink RX8 49 yX8_singleDigits, Cond.static yX8_singleDigits, Cond.code yX8_singleDigits cX8_singleDigits 1 (some .int)]
def wsX8_wrongPlace : List Cond := .code yX8_wrongPlace cX8_wrongPlace 3 (some .int) :: ((wsX8_wrongPlace_r1 ++ (wsX8_wrongPlace_r2 ++ (wsX8_wrongPlace_r3 ++ (wsX8_wrongPlace_r4 ++ (wsX8_wrongPlace_r5 ++ wsX8_wrongPlace_r6))))) ++ wsX80 ++ wsX70 ++ wsX20 ++ wsX60 ++ wsX100 ++ wsX40 ++ wsX00 ++ wsX90 ++ wsX10 ++ wsX30)
def wsX9_kind : List Cond := .code yX9_kind cX9_kind 1 (some .int) :: ([])
def wsX9_price : List Cond := .code yX9_price cX9_price 1 (some .int) :: ([.fieldLink RX9 18 "TwiceAsRich$Twins" "figure" "I", .sameField "TwiceAsRich$Twins" "TwiceAsRich$House" "figure" "I", .methodLink RX9 15 yX2_price, .sameMethod "TwiceAsRich$Heir" "TwiceAsRich$Heir" "price" "()I", .superclass RX9 RX2, .instanceMethod yX2_price, .initialized RX2, .code yX2_price cX2_price 1 (some .int), .fieldLink RX2 11 "TwiceAsRich$Heir" "figure" "I", .sameField "TwiceAsRich$Heir" "TwiceAsRich$House" "figure" "I", .methodLink RX2 21 yX3_price, .sameMethod "TwiceAsRich$House" "TwiceAsRich$House" "price" "()I", .superclass RX2 RX3, .instanceMethod yX3_price, .initialized RX3, .code yX3_price cX3_price 1 (some .int)] ++ wsX00 ++ wsX10 ++ wsX20 ++ wsX30 ++ wsX40 ++ wsX60 ++ wsX90 ++ wsX100)
def wsX9_fail : List Cond := .code yX9_fail cX9_fail 1 none :: ([.classLink RX9 24 "java/lang/UnsupportedOperationException", .initialized "java/lang/UnsupportedOperationException"] ++ (vx_at0 RX9 26 "java/lang/UnsupportedOperationException" ["java/lang/RuntimeException", "java/lang/Exception"]).filter goodWord)
def wsX10_kind : List Cond := .code yX10_kind cX10_kind 1 (some .int) :: ([])
def wsX10_hasFailure : List Cond := .code yX10_hasFailure cX10_hasFailure 1 (some .boolean) :: ([])
def wsX11_init_r1 : List Cond := [Cond.methodLink RX11 1 objectInit, Cond.instanceMethod objectInit, Cond.code objectInit ⟨#[0xb1]⟩ 1 none, Cond.classLink RX11 7 RX7, Cond.instantiable RX7 4, Cond.initialized RX7, Cond.fieldLink RX11 10 "TwiceAsRich" "street" "LTwiceAsRich$Street;", Cond.fieldLink RX11 16 "TwiceAsRich" "image" "LTwiceAsRich$Street;", Cond.fieldLink RX11 19 "TwiceAsRich" "mind" "LTwiceAsRich$Street;", Cond.classLink RX11 22 RX3, Cond.instantiable RX3 1, Cond.initialized RX3, Cond.fieldLink RX11 27 "TwiceAsRich" "plainHouse" "LTwiceAsRich$House;", Cond.classLink RX11 31 RX5, Cond.instantiable RX5 8, Cond.initialized RX5, Cond.fieldLink RX11 34 "TwiceAsRich" "partings" "LTwiceAsRich$Partings;", Cond.classLink RX11 38 RX8, Cond.instantiable RX8 3, Cond.initialized RX8, Cond.fieldLink RX11 41 "TwiceAsRich" "text" "LTwiceAsRich$StreetText;", Cond.fieldLink RX11 45 "TwiceAsRich" "kept" "[LTwiceAsRich$House;", Cond.arrayClass .int, Cond.fieldLink RX11 49 "TwiceAsRich" "sorts" "[I"]
def wsX11_init_r2 : List Cond := [Cond.fieldLink RX11 53 "TwiceAsRich" "sizes" "[I", Cond.classLink RX11 56 "[[I", Cond.fieldLink RX11 58 "TwiceAsRich" "rows" "[[I", Cond.methodLink RX11 9 yX7_init, Cond.instanceMethod yX7_init, Cond.code yX7_init cX7_init 1 none, Cond.methodLink RX7 3 objectInit, Cond.classLink RX7 9 RX3, Cond.fieldLink RX7 11 "TwiceAsRich$Street" "houses" "[LTwiceAsRich$House;", Cond.fieldLink RX7 17 "TwiceAsRich$Street" "purses" "[I", Cond.methodLink RX11 24 yX3_init, Cond.instanceMethod yX3_init, Cond.code yX3_init cX3_init 2 none, Cond.methodLink RX3 1 objectInit, Cond.fieldLink RX3 7 "TwiceAsRich$House" "figure" "I", Cond.methodLink RX11 33 yX5_init, Cond.instanceMethod yX5_init, Cond.code yX5_init cX5_init 1 none, Cond.methodLink RX5 3 objectInit, Cond.fieldLink RX5 9 "TwiceAsRich$Partings" "richest" "[I", Cond.classLink RX5 15 RX7, Cond.fieldLink RX5 18 "TwiceAsRich$Partings" "parted" "LTwiceAsRich$Street;", Cond.fieldLink RX5 22 "TwiceAsRich$Partings" "before" "[I", Cond.classLink RX5 25 "[[I"]
def wsX11_init_r3 : List Cond := [Cond.fieldLink RX5 27 "TwiceAsRich$Partings" "suits" "[[I", Cond.methodLink RX5 17 yX7_init, Cond.methodLink RX11 40 yX8_init, Cond.instanceMethod yX8_init, Cond.code yX8_init cX8_init 1 none, Cond.methodLink RX8 3 objectInit, Cond.fieldLink RX8 9 "TwiceAsRich$StreetText" "bytes" "[I", Cond.methodLink RX11 61 yJ7_fill_53178, Cond.static yJ7_fill_53178, Cond.initialized RJ7, Cond.code yJ7_fill_53178 cJ7_fill_53178 4 none]
def wsX11_init : List Cond := .code yX11_init cX11_init 1 none :: ((wsX11_init_r1 ++ (wsX11_init_r2 ++ wsX11_init_r3)) ++ wsX70 ++ wsX110 ++ wsX30 ++ wsX50 ++ wsX80 ++ wsX00 ++ wsX10 ++ wsX20 ++ wsX40 ++ wsX60 ++ wsX90 ++ wsX100)
def wsX11_isShelf : List Cond := .code yX11_isShelf cX11_isShelf 1 (some .boolean) :: ([])
def wsX11_holdsNothing : List Cond := .code yX11_holdsNothing cX11_holdsNothing 2 (some .boolean) :: ([.fieldLink RX11 45 "TwiceAsRich" "kept" "[LTwiceAsRich$House;", .fieldLink RX11 49 "TwiceAsRich" "sorts" "[I"] ++ wsX110)
def wsX11_rowRefusal : List Cond := .code yX11_rowRefusal cX11_rowRefusal 2 (some .int) :: ([.fieldLink RX11 49 "TwiceAsRich" "sorts" "[I", .methodLink RX11 225 yX11_isShelf, .static yX11_isShelf, .initialized RX11, .code yX11_isShelf cX11_isShelf 1 (some .boolean), .methodLink RX11 254 yX11_holdsNothing, .instanceMethod yX11_holdsNothing, .selects RX11 yX11_holdsNothing yX11_holdsNothing, .code yX11_holdsNothing cX11_holdsNothing 2 (some .boolean), .fieldLink RX11 45 "TwiceAsRich" "kept" "[LTwiceAsRich$House;"] ++ wsX110)
def wsX11_sortRefusal : List Cond := .code yX11_sortRefusal cX11_sortRefusal 4 (some .int) :: ([.fieldLink RX11 49 "TwiceAsRich" "sorts" "[I", .methodLink RX11 212 yX11_rowRefusal, .instanceMethod yX11_rowRefusal, .selects RX11 yX11_rowRefusal yX11_rowRefusal, .initialized RX11, .code yX11_rowRefusal cX11_rowRefusal 2 (some .int), .methodLink RX11 225 yX11_isShelf, .static yX11_isShelf, .code yX11_isShelf cX11_isShelf 1 (some .boolean), .methodLink RX11 254 yX11_holdsNothing, .instanceMethod yX11_holdsNothing, .selects RX11 yX11_holdsNothing yX11_holdsNothing, .code yX11_holdsNothing cX11_holdsNothing 2 (some .boolean), .fieldLink RX11 45 "TwiceAsRich" "kept" "[LTwiceAsRich$House;"] ++ wsX110)
def wsX11_street_r1 : List Cond := [Cond.fieldLink RX11 41 "TwiceAsRich" "text" "LTwiceAsRich$StreetText;", Cond.fieldLink RX11 58 "TwiceAsRich" "rows" "[[I", Cond.fieldLink RX11 53 "TwiceAsRich" "sizes" "[I", Cond.fieldLink RX11 19 "TwiceAsRich" "mind" "LTwiceAsRich$Street;", Cond.fieldLink RX11 10 "TwiceAsRich" "street" "LTwiceAsRich$Street;", Cond.methodLink RX11 67 yX11_sortRefusal, Cond.instanceMethod yX11_sortRefusal, Cond.selects RX11 yX11_sortRefusal yX11_sortRefusal, Cond.initialized RX11, Cond.code yX11_sortRefusal cX11_sortRefusal 4 (some .int), Cond.fieldLink RX11 49 "TwiceAsRich" "sorts" "[I", Cond.methodLink RX11 212 yX11_rowRefusal, Cond.instanceMethod yX11_rowRefusal, Cond.selects RX11 yX11_rowRefusal yX11_rowRefusal, Cond.code yX11_rowRefusal cX11_rowRefusal 2 (some .int), Cond.methodLink RX11 225 yX11_isShelf, Cond.static yX11_isShelf, Cond.code yX11_isShelf cX11_isShelf 1 (some .boolean), Cond.methodLink RX11 254 yX11_holdsNothing, Cond.instanceMethod yX11_holdsNothing, Cond.selects RX11 yX11_holdsNothing yX11_holdsNothing, Cond.code yX11_holdsNothing cX11_holdsNothing 2 (some .boolean), Cond.fieldLink RX11 45 "TwiceAsRich" "kept" "[LTwiceAsRich$House;", Cond.methodLink RX11 71 yX8_open]
def wsX11_street_r2 : List Cond := [Cond.instanceMethod yX8_open, Cond.selects RX8 yX8_open yX8_open, Cond.initialized RX8, Cond.code yX8_open cX8_open 3 none, Cond.fieldLink RX8 9 "TwiceAsRich$StreetText" "bytes" "[I", Cond.methodLink RX8 15 Lib.Math.min.name, Cond.static Lib.Math.min.name, Cond.initialized "java/lang/Math", Cond.code Lib.Math.min.name Lib.Math.min.code 2 (some .int), Cond.fieldLink RX8 21 "TwiceAsRich$StreetText" "size" "I", Cond.fieldLink RX8 25 "TwiceAsRich$StreetText" "done" "I", Cond.methodLink RX11 74 yX8_brokenPlace, Cond.instanceMethod yX8_brokenPlace, Cond.selects RX8 yX8_brokenPlace yX8_brokenPlace, Cond.code yX8_brokenPlace cX8_brokenPlace 3 (some .int), Cond.methodLink RX8 28 yX8_endOf, Cond.instanceMethod yX8_endOf, Cond.selects RX8 yX8_endOf yX8_endOf, Cond.code yX8_endOf cX8_endOf 5 (some .int), Cond.methodLink RX8 32 yX8_byteAt, Cond.instanceMethod yX8_byteAt, Cond.selects RX8 yX8_byteAt yX8_byteAt, Cond.code yX8_byteAt cX8_byteAt 2 (some .int), Cond.methodLink RX8 42 yX8_isLetter]
def wsX11_street_r3 : List Cond := [Cond.static yX8_isLetter, Cond.code yX8_isLetter cX8_isLetter 1 (some .boolean), Cond.methodLink RX8 46 yX8_hasNumber, Cond.static yX8_hasNumber, Cond.code yX8_hasNumber cX8_hasNumber 1 (some .boolean), Cond.methodLink RX8 49 yX8_singleDigits, Cond.static yX8_singleDigits, Cond.code yX8_singleDigits cX8_singleDigits 1 (some .int), Cond.methodLink RX8 52 yX8_isDigit, Cond.static yX8_isDigit, Cond.code yX8_isDigit cX8_isDigit 1 (some .boolean), Cond.methodLink RX8 35 yX8_fewestDigits, Cond.static yX8_fewestDigits, Cond.code yX8_fewestDigits cX8_fewestDigits 1 (some .int), Cond.methodLink RX11 78 yX7_become, Cond.instanceMethod yX7_become, Cond.selects RX7 yX7_become yX7_become, Cond.initialized RX7, Cond.code yX7_become cX7_become 3 none, Cond.fieldLink RX7 11 "TwiceAsRich$Street" "houses" "[LTwiceAsRich$House;", Cond.fieldLink RX7 17 "TwiceAsRich$Street" "purses" "[I", Cond.fieldLink RX7 21 "TwiceAsRich$Street" "count" "I", Cond.fieldLink RX7 25 "TwiceAsRich$Street" "round" "I", Cond.methodLink RX11 82 yX8_wrongPlace]
def wsX11_street_r4 : List Cond := [Cond.instanceMethod yX8_wrongPlace, Cond.selects RX8 yX8_wrongPlace yX8_wrongPlace, Cond.code yX8_wrongPlace cX8_wrongPlace 3 (some .int), Cond.methodLink RX8 38 yX8_isDone, Cond.instanceMethod yX8_isDone, Cond.selects RX8 yX8_isDone yX8_isDone, Cond.code yX8_isDone cX8_isDone 5 (some .boolean), Cond.methodLink RX8 55 yX8_digitAt, Cond.instanceMethod yX8_digitAt, Cond.selects RX8 yX8_digitAt yX8_digitAt, Cond.code yX8_digitAt cX8_digitAt 2 (some .int), Cond.methodLink RX8 58 yX8_numberAt, Cond.instanceMethod yX8_numberAt, Cond.selects RX8 yX8_numberAt yX8_numberAt, Cond.code yX8_numberAt cX8_numberAt 4 (some .int), Cond.methodLink RX8 61 yX8_comesAsTold, Cond.static yX8_comesAsTold, Cond.code yX8_comesAsTold cX8_comesAsTold 4 (some .boolean), Cond.fieldLink RX8 87 "TwiceAsRich$Street" "count" "I", Cond.static yX11_isHouse, Cond.code yX11_isHouse cX11_isHouse 2 (some .boolean), Cond.static yX11_houseOfKind, Cond.code yX11_houseOfKind cX11_houseOfKind 2 (some (.object "TwiceAsRich$House")), Cond.classLink RX11 285 RX2]
def wsX11_street_r5 : List Cond := [Cond.instantiable RX2 1, Cond.initialized RX2, Cond.classLink RX11 288 RX6, Cond.instantiable RX6 1, Cond.initialized RX6, Cond.classLink RX11 291 RX10, Cond.instantiable RX10 1, Cond.initialized RX10, Cond.classLink RX11 294 RX4, Cond.instantiable RX4 1, Cond.initialized RX4, Cond.classLink RX11 297 RX0, Cond.instantiable RX0 1, Cond.initialized RX0, Cond.classLink RX11 300 RX9, Cond.instantiable RX9 1, Cond.initialized RX9, Cond.classLink RX11 303 RX1, Cond.instantiable RX1 1, Cond.initialized RX1, Cond.classLink RX11 22 RX3, Cond.instantiable RX3 1, Cond.initialized RX3, Cond.methodLink RX11 287 yX2_init]
def wsX11_street_r6 : List Cond := [Cond.instanceMethod yX2_init, Cond.code yX2_init cX2_init 2 none, Cond.methodLink RX2 1 yX3_init, Cond.instanceMethod yX3_init, Cond.code yX3_init cX3_init 2 none, Cond.methodLink RX3 1 objectInit, Cond.instanceMethod objectInit, Cond.code objectInit ⟨#[0xb1]⟩ 1 none, Cond.fieldLink RX3 7 "TwiceAsRich$House" "figure" "I", Cond.methodLink RX11 290 yX6_init, Cond.instanceMethod yX6_init, Cond.code yX6_init cX6_init 2 none, Cond.methodLink RX6 1 yX3_init, Cond.methodLink RX11 293 yX10_init, Cond.instanceMethod yX10_init, Cond.code yX10_init cX10_init 2 none, Cond.methodLink RX10 3 yX3_init, Cond.methodLink RX11 296 yX4_init, Cond.instanceMethod yX4_init, Cond.code yX4_init cX4_init 2 none, Cond.methodLink RX4 1 yX2_init, Cond.methodLink RX11 299 yX0_init, Cond.instanceMethod yX0_init, Cond.code yX0_init cX0_init 2 none]
def wsX11_street_r7 : List Cond := [Cond.methodLink RX0 1 yX6_init, Cond.methodLink RX11 302 yX9_init, Cond.instanceMethod yX9_init, Cond.code yX9_init cX9_init 2 none, Cond.methodLink RX9 1 yX2_init, Cond.methodLink RX11 305 yX1_init, Cond.instanceMethod yX1_init, Cond.code yX1_init cX1_init 2 none, Cond.methodLink RX1 1 yX10_init, Cond.methodLink RX11 24 yX3_init, Cond.methodLink RX8 94 yX7_insert, Cond.instanceMethod yX7_insert, Cond.selects RX7 yX7_insert yX7_insert, Cond.code yX7_insert cX7_insert 5 none, Cond.methodLink RX8 65 yX8_turnsAsTold, Cond.static yX8_turnsAsTold, Cond.code yX8_turnsAsTold cX8_turnsAsTold 2 (some .boolean), Cond.fieldLink RX8 98 "TwiceAsRich$Street" "round" "I", Cond.methodLink RX8 69 yX7_gift, Cond.instanceMethod yX7_gift, Cond.selects RX7 yX7_gift yX7_gift, Cond.code yX7_gift cX7_gift 4 (some .int), Cond.methodLink RX7 69 yX7_hasTwo, Cond.instanceMethod yX7_hasTwo]
def wsX11_street_r8 : List Cond := [Cond.selects RX7 yX7_hasTwo yX7_hasTwo, Cond.code yX7_hasTwo cX7_hasTwo 3 (some .boolean), Cond.methodLink RX7 28 yX7_has, Cond.instanceMethod yX7_has, Cond.selects RX7 yX7_has yX7_has, Cond.code yX7_has cX7_has 2 (some .boolean), Cond.methodLink RX8 75 yX8_movesAsTold, Cond.static yX8_movesAsTold, Cond.code yX8_movesAsTold cX8_movesAsTold 3 (some .boolean), Cond.methodLink RX8 101 yX7_hasTwo, Cond.methodLink RX8 104 yX7_exchange, Cond.instanceMethod yX7_exchange, Cond.selects RX7 yX7_exchange yX7_exchange, Cond.code yX7_exchange cX7_exchange 5 none, Cond.methodLink RX8 79 yX8_leavesAsTold, Cond.static yX8_leavesAsTold, Cond.code yX8_leavesAsTold cX8_leavesAsTold 1 (some .boolean), Cond.methodLink RX8 108 yX7_remove, Cond.instanceMethod yX7_remove, Cond.selects RX7 yX7_remove yX7_remove, Cond.code yX7_remove cX7_remove 3 none, Cond.methodLink RX11 86 yX8_statements, Cond.instanceMethod yX8_statements, Cond.selects RX8 yX8_statements yX8_statements]
def wsX11_street_r9 : List Cond := [Cond.code yX8_statements cX8_statements 1 (some .int)]
def wsX11_street : List Cond := .code yX11_street cX11_street 5 (some .int) :: ((wsX11_street_r1 ++ (wsX11_street_r2 ++ (wsX11_street_r3 ++ (wsX11_street_r4 ++ (wsX11_street_r5 ++ (wsX11_street_r6 ++ (wsX11_street_r7 ++ (wsX11_street_r8 ++ wsX11_street_r9)))))))) ++ wsX110 ++ wsX80 ++ wsX70 ++ wsX20 ++ wsX60 ++ wsX100 ++ wsX40 ++ wsX00 ++ wsX90 ++ wsX10 ++ wsX30)
def wsX11_house_r1 : List Cond := [Cond.fieldLink RX11 10 "TwiceAsRich" "street" "LTwiceAsRich$Street;", Cond.fieldLink RX11 93 "TwiceAsRich$Street" "houses" "[LTwiceAsRich$House;", Cond.fieldLink RX11 99 "TwiceAsRich$House" "figure" "I", Cond.fieldLink RX11 103 "TwiceAsRich$Street" "purses" "[I", Cond.methodLink RX11 89 yX7_has, Cond.instanceMethod yX7_has, Cond.selects RX7 yX7_has yX7_has, Cond.initialized RX7, Cond.code yX7_has cX7_has 2 (some .boolean), Cond.fieldLink RX7 21 "TwiceAsRich$Street" "count" "I", Cond.methodLink RX11 96 ⟨"TwiceAsRich$House", "kind", "()I"⟩, Cond.sameMethod "TwiceAsRich$House" "TwiceAsRich$House" "kind" "()I", Cond.instanceMethod ⟨"TwiceAsRich$House", "kind", "()I"⟩, Cond.selects RX0 ⟨"TwiceAsRich$House", "kind", "()I"⟩ yX0_kind, Cond.instanceMethod yX0_kind, Cond.initialized RX0, Cond.code yX0_kind cX0_kind 1 (some .int), Cond.code yX3_kind cX3_kind 1 (some .int), Cond.selects RX1 ⟨"TwiceAsRich$House", "kind", "()I"⟩ yX1_kind, Cond.instanceMethod yX1_kind, Cond.initialized RX1, Cond.code yX1_kind cX1_kind 1 (some .int), Cond.selects RX2 ⟨"TwiceAsRich$House", "kind", "()I"⟩ yX2_kind, Cond.instanceMethod yX2_kind]
def wsX11_house_r2 : List Cond := [Cond.initialized RX2, Cond.code yX2_kind cX2_kind 1 (some .int), Cond.methodLink RX11 96 yX3_kind, Cond.instanceMethod yX3_kind, Cond.selects RX3 yX3_kind yX3_kind, Cond.initialized RX3, Cond.selects RX4 ⟨"TwiceAsRich$House", "kind", "()I"⟩ yX4_kind, Cond.instanceMethod yX4_kind, Cond.initialized RX4, Cond.code yX4_kind cX4_kind 1 (some .int), Cond.selects RX6 ⟨"TwiceAsRich$House", "kind", "()I"⟩ yX6_kind, Cond.instanceMethod yX6_kind, Cond.initialized RX6, Cond.code yX6_kind cX6_kind 1 (some .int), Cond.selects RX9 ⟨"TwiceAsRich$House", "kind", "()I"⟩ yX9_kind, Cond.instanceMethod yX9_kind, Cond.initialized RX9, Cond.code yX9_kind cX9_kind 1 (some .int), Cond.selects RX10 ⟨"TwiceAsRich$House", "kind", "()I"⟩ yX10_kind, Cond.instanceMethod yX10_kind, Cond.initialized RX10, Cond.code yX10_kind cX10_kind 1 (some .int), Cond.methodLink RX11 106 ⟨"TwiceAsRich$House", "isLookedAt", "()Z"⟩, Cond.sameMethod "TwiceAsRich$House" "TwiceAsRich$House" "isLookedAt" "()Z"]
def wsX11_house_r3 : List Cond := [Cond.selects RX0 ⟨"TwiceAsRich$House", "isLookedAt", "()Z"⟩ yX3_isLookedAt, Cond.instanceMethod yX3_isLookedAt, Cond.code yX3_isLookedAt cX3_isLookedAt 1 (some .boolean), Cond.instanceMethod ⟨"TwiceAsRich$House", "isLookedAt", "()Z"⟩, Cond.selects RX1 ⟨"TwiceAsRich$House", "isLookedAt", "()Z"⟩ yX1_isLookedAt, Cond.instanceMethod yX1_isLookedAt, Cond.code yX1_isLookedAt cX1_isLookedAt 1 (some .boolean), Cond.selects RX2 ⟨"TwiceAsRich$House", "isLookedAt", "()Z"⟩ yX3_isLookedAt, Cond.methodLink RX11 106 yX3_isLookedAt, Cond.selects RX3 yX3_isLookedAt yX3_isLookedAt, Cond.selects RX4 ⟨"TwiceAsRich$House", "isLookedAt", "()Z"⟩ yX3_isLookedAt, Cond.selects RX6 ⟨"TwiceAsRich$House", "isLookedAt", "()Z"⟩ yX3_isLookedAt, Cond.selects RX9 ⟨"TwiceAsRich$House", "isLookedAt", "()Z"⟩ yX3_isLookedAt, Cond.selects RX10 ⟨"TwiceAsRich$House", "isLookedAt", "()Z"⟩ yX10_isLookedAt, Cond.instanceMethod yX10_isLookedAt, Cond.code yX10_isLookedAt cX10_isLookedAt 1 (some .boolean), Cond.methodLink RX11 110 ⟨"TwiceAsRich$House", "shownOf", "(I)I"⟩, Cond.sameMethod "TwiceAsRich$House" "TwiceAsRich$House" "shownOf" "(I)I", Cond.instanceMethod ⟨"TwiceAsRich$House", "shownOf", "(I)I"⟩, Cond.selects RX0 ⟨"TwiceAsRich$House", "shownOf", "(I)I"⟩ yX0_shownOf, Cond.instanceMethod yX0_shownOf, Cond.code yX0_shownOf cX0_shownOf 2 (some .int), Cond.fieldLink RX0 11 "TwiceAsRich$Beggar" "figure" "I", Cond.sameField "TwiceAsRich$Beggar" "TwiceAsRich$House" "figure" "I"]
def wsX11_house_r4 : List Cond := [Cond.methodLink RX0 7 yX6_shownOf, Cond.sameMethod "TwiceAsRich$Priest" "TwiceAsRich$Priest" "shownOf" "(I)I", Cond.superclass RX0 RX6, Cond.instanceMethod yX6_shownOf, Cond.code yX6_shownOf cX6_shownOf 2 (some .int), Cond.methodLink RX6 7 yX3_shownOf, Cond.superclass RX6 RX3, Cond.instanceMethod yX3_shownOf, Cond.code yX3_shownOf cX3_shownOf 2 (some .int), Cond.selects RX1 ⟨"TwiceAsRich$House", "shownOf", "(I)I"⟩ yX3_shownOf, Cond.selects RX2 ⟨"TwiceAsRich$House", "shownOf", "(I)I"⟩ yX3_shownOf, Cond.methodLink RX11 110 yX3_shownOf, Cond.selects RX3 yX3_shownOf yX3_shownOf, Cond.selects RX4 ⟨"TwiceAsRich$House", "shownOf", "(I)I"⟩ yX4_shownOf, Cond.instanceMethod yX4_shownOf, Cond.code yX4_shownOf cX4_shownOf 2 (some .int), Cond.selects RX6 ⟨"TwiceAsRich$House", "shownOf", "(I)I"⟩ yX6_shownOf, Cond.selects RX9 ⟨"TwiceAsRich$House", "shownOf", "(I)I"⟩ yX3_shownOf, Cond.selects RX10 ⟨"TwiceAsRich$House", "shownOf", "(I)I"⟩ yX3_shownOf, Cond.methodLink RX11 114 yX7_mostOf, Cond.instanceMethod yX7_mostOf, Cond.selects RX7 yX7_mostOf yX7_mostOf, Cond.code yX7_mostOf cX7_mostOf 2 (some .int), Cond.methodLink RX7 57 Lib.Math.min.name]
def wsX11_house_r5 : List Cond := [Cond.static Lib.Math.min.name, Cond.initialized "java/lang/Math", Cond.code Lib.Math.min.name Lib.Math.min.code 2 (some .int), Cond.methodLink RX7 47 yX7_ahead, Cond.instanceMethod yX7_ahead, Cond.selects RX7 yX7_ahead yX7_ahead, Cond.code yX7_ahead cX7_ahead 2 (some .int), Cond.methodLink RX7 32 yX7_isClosed, Cond.instanceMethod yX7_isClosed, Cond.selects RX7 yX7_isClosed yX7_isClosed, Cond.code yX7_isClosed cX7_isClosed 1 (some .boolean), Cond.fieldLink RX7 25 "TwiceAsRich$Street" "round" "I", Cond.methodLink RX7 50 yX7_limitBy, Cond.instanceMethod yX7_limitBy, Cond.selects RX7 yX7_limitBy yX7_limitBy, Cond.code yX7_limitBy cX7_limitBy 3 (some .int), Cond.fieldLink RX7 11 "TwiceAsRich$Street" "houses" "[LTwiceAsRich$House;", Cond.constant RX7 39 (1000000), Cond.fieldLink RX7 17 "TwiceAsRich$Street" "purses" "[I", Cond.methodLink RX7 36 ⟨"TwiceAsRich$House", "isLookedAt", "()Z"⟩, Cond.methodLink RX7 36 yX3_isLookedAt, Cond.methodLink RX7 40 ⟨"TwiceAsRich$House", "shownOf", "(I)I"⟩, Cond.methodLink RX7 40 yX3_shownOf, Cond.methodLink RX7 44 ⟨"TwiceAsRich$House", "allowedBy", "(I)I"⟩]
def wsX11_house_r6 : List Cond := [Cond.sameMethod "TwiceAsRich$House" "TwiceAsRich$House" "allowedBy" "(I)I", Cond.selects RX0 ⟨"TwiceAsRich$House", "allowedBy", "(I)I"⟩ yX3_allowedBy, Cond.instanceMethod yX3_allowedBy, Cond.code yX3_allowedBy cX3_allowedBy 2 (some .int), Cond.instanceMethod ⟨"TwiceAsRich$House", "allowedBy", "(I)I"⟩, Cond.selects RX1 ⟨"TwiceAsRich$House", "allowedBy", "(I)I"⟩ yX10_allowedBy, Cond.instanceMethod yX10_allowedBy, Cond.code yX10_allowedBy cX10_allowedBy 2 (some .int), Cond.selects RX2 ⟨"TwiceAsRich$House", "allowedBy", "(I)I"⟩ yX2_allowedBy, Cond.instanceMethod yX2_allowedBy, Cond.code yX2_allowedBy cX2_allowedBy 2 (some .int), Cond.fieldLink RX2 11 "TwiceAsRich$Heir" "figure" "I", Cond.sameField "TwiceAsRich$Heir" "TwiceAsRich$House" "figure" "I", Cond.methodLink RX2 7 yX3_allowedBy, Cond.superclass RX2 RX3, Cond.methodLink RX7 44 yX3_allowedBy, Cond.selects RX3 yX3_allowedBy yX3_allowedBy, Cond.selects RX4 ⟨"TwiceAsRich$House", "allowedBy", "(I)I"⟩ yX4_allowedBy, Cond.instanceMethod yX4_allowedBy, Cond.code yX4_allowedBy cX4_allowedBy 2 (some .int), Cond.methodLink RX4 14 Lib.Math.max.name, Cond.static Lib.Math.max.name, Cond.code Lib.Math.max.name Lib.Math.max.code 2 (some .int), Cond.methodLink RX4 11 yX2_allowedBy]
def wsX11_house_r7 : List Cond := [Cond.sameMethod "TwiceAsRich$Heir" "TwiceAsRich$Heir" "allowedBy" "(I)I", Cond.superclass RX4 RX2, Cond.selects RX6 ⟨"TwiceAsRich$House", "allowedBy", "(I)I"⟩ yX3_allowedBy, Cond.selects RX9 ⟨"TwiceAsRich$House", "allowedBy", "(I)I"⟩ yX9_allowedBy, Cond.instanceMethod yX9_allowedBy, Cond.code yX9_allowedBy cX9_allowedBy 2 (some .int), Cond.methodLink RX9 7 yX2_allowedBy, Cond.superclass RX9 RX2, Cond.selects RX10 ⟨"TwiceAsRich$House", "allowedBy", "(I)I"⟩ yX10_allowedBy, Cond.methodLink RX7 54 yX7_behind, Cond.instanceMethod yX7_behind, Cond.selects RX7 yX7_behind yX7_behind, Cond.code yX7_behind cX7_behind 2 (some .int), Cond.methodLink RX11 117 ⟨"TwiceAsRich$House", "weekly", "()I"⟩, Cond.sameMethod "TwiceAsRich$House" "TwiceAsRich$House" "weekly" "()I", Cond.instanceMethod ⟨"TwiceAsRich$House", "weekly", "()I"⟩, Cond.selects RX0 ⟨"TwiceAsRich$House", "weekly", "()I"⟩ yX0_weekly, Cond.instanceMethod yX0_weekly, Cond.code yX0_weekly cX0_weekly 1 (some .int), Cond.methodLink RX0 17 yX6_weekly, Cond.sameMethod "TwiceAsRich$Priest" "TwiceAsRich$Priest" "weekly" "()I", Cond.instanceMethod yX6_weekly, Cond.code yX6_weekly cX6_weekly 1 (some .int), Cond.methodLink RX6 11 yX3_weekly]
def wsX11_house_r8 : List Cond := [Cond.instanceMethod yX3_weekly, Cond.code yX3_weekly cX3_weekly 1 (some .int), Cond.selects RX1 ⟨"TwiceAsRich$House", "weekly", "()I"⟩ yX1_weekly, Cond.instanceMethod yX1_weekly, Cond.code yX1_weekly cX1_weekly 1 (some .int), Cond.fieldLink RX1 11 "TwiceAsRich$Blind" "figure" "I", Cond.sameField "TwiceAsRich$Blind" "TwiceAsRich$House" "figure" "I", Cond.methodLink RX1 7 yX10_weekly, Cond.sameMethod "TwiceAsRich$Wall" "TwiceAsRich$Wall" "weekly" "()I", Cond.superclass RX1 RX10, Cond.instanceMethod yX10_weekly, Cond.code yX10_weekly cX10_weekly 1 (some .int), Cond.selects RX2 ⟨"TwiceAsRich$House", "weekly", "()I"⟩ yX2_weekly, Cond.instanceMethod yX2_weekly, Cond.code yX2_weekly cX2_weekly 1 (some .int), Cond.methodLink RX2 17 yX3_weekly, Cond.methodLink RX11 117 yX3_weekly, Cond.selects RX3 yX3_weekly yX3_weekly, Cond.selects RX4 ⟨"TwiceAsRich$House", "weekly", "()I"⟩ yX4_weekly, Cond.instanceMethod yX4_weekly, Cond.code yX4_weekly cX4_weekly 1 (some .int), Cond.methodLink RX4 20 yX2_weekly, Cond.sameMethod "TwiceAsRich$Heir" "TwiceAsRich$Heir" "weekly" "()I", Cond.selects RX6 ⟨"TwiceAsRich$House", "weekly", "()I"⟩ yX6_weekly]
def wsX11_house_r9 : List Cond := [Cond.selects RX9 ⟨"TwiceAsRich$House", "weekly", "()I"⟩ yX9_weekly, Cond.instanceMethod yX9_weekly, Cond.code yX9_weekly cX9_weekly 1 (some .int), Cond.methodLink RX9 11 yX2_weekly, Cond.selects RX10 ⟨"TwiceAsRich$House", "weekly", "()I"⟩ yX10_weekly]
def wsX11_house : List Cond := .code yX11_house cX11_house 4 (some .int) :: ((wsX11_house_r1 ++ (wsX11_house_r2 ++ (wsX11_house_r3 ++ (wsX11_house_r4 ++ (wsX11_house_r5 ++ (wsX11_house_r6 ++ (wsX11_house_r7 ++ (wsX11_house_r8 ++ wsX11_house_r9)))))))) ++ wsX110 ++ wsX70 ++ wsX00 ++ wsX10 ++ wsX20 ++ wsX30 ++ wsX40 ++ wsX60 ++ wsX90 ++ wsX100)
def wsX11_isPurse : List Cond := .code yX11_isPurse cX11_isPurse 1 (some .boolean) :: ([])
def wsX11_houseRefusal : List Cond := .code yX11_houseRefusal cX11_houseRefusal 2 (some .int) :: ([.fieldLink RX11 45 "TwiceAsRich" "kept" "[LTwiceAsRich$House;", .methodLink RX11 225 yX11_isShelf, .static yX11_isShelf, .initialized RX11, .code yX11_isShelf cX11_isShelf 1 (some .boolean), .methodLink RX11 254 yX11_holdsNothing, .instanceMethod yX11_holdsNothing, .selects RX11 yX11_holdsNothing yX11_holdsNothing, .code yX11_holdsNothing cX11_holdsNothing 2 (some .boolean), .fieldLink RX11 49 "TwiceAsRich" "sorts" "[I"] ++ wsX110)
def wsX11_comes_r1 : List Cond := [Cond.fieldLink RX11 10 "TwiceAsRich" "street" "LTwiceAsRich$Street;", Cond.fieldLink RX11 126 "TwiceAsRich$Street" "count" "I", Cond.fieldLink RX11 45 "TwiceAsRich" "kept" "[LTwiceAsRich$House;", Cond.methodLink RX11 120 yX11_isPurse, Cond.static yX11_isPurse, Cond.initialized RX11, Cond.code yX11_isPurse cX11_isPurse 1 (some .boolean), Cond.methodLink RX11 123 yX11_houseRefusal, Cond.instanceMethod yX11_houseRefusal, Cond.selects RX11 yX11_houseRefusal yX11_houseRefusal, Cond.code yX11_houseRefusal cX11_houseRefusal 2 (some .int), Cond.methodLink RX11 225 yX11_isShelf, Cond.static yX11_isShelf, Cond.code yX11_isShelf cX11_isShelf 1 (some .boolean), Cond.methodLink RX11 254 yX11_holdsNothing, Cond.instanceMethod yX11_holdsNothing, Cond.selects RX11 yX11_holdsNothing yX11_holdsNothing, Cond.code yX11_holdsNothing cX11_holdsNothing 2 (some .boolean), Cond.fieldLink RX11 49 "TwiceAsRich" "sorts" "[I", Cond.methodLink RX11 129 yX7_insert, Cond.instanceMethod yX7_insert, Cond.selects RX7 yX7_insert yX7_insert, Cond.initialized RX7, Cond.code yX7_insert cX7_insert 5 none]
def wsX11_comes_r2 : List Cond := [Cond.fieldLink RX7 21 "TwiceAsRich$Street" "count" "I", Cond.fieldLink RX7 11 "TwiceAsRich$Street" "houses" "[LTwiceAsRich$House;", Cond.fieldLink RX7 17 "TwiceAsRich$Street" "purses" "[I"]
def wsX11_comes : List Cond := .code yX11_comes cX11_comes 4 (some .int) :: ((wsX11_comes_r1 ++ wsX11_comes_r2) ++ wsX110 ++ wsX70)
def wsX11_round : List Cond := .code yX11_round cX11_round 3 (some .int) :: ([.fieldLink RX11 10 "TwiceAsRich" "street" "LTwiceAsRich$Street;", .fieldLink RX11 133 "TwiceAsRich$Street" "round" "I"] ++ wsX110 ++ wsX70)
def wsX11_give : List Cond := .code yX11_give cX11_give 5 (some .int) :: ([.fieldLink RX11 10 "TwiceAsRich" "street" "LTwiceAsRich$Street;", .fieldLink RX11 103 "TwiceAsRich$Street" "purses" "[I", .methodLink RX11 136 yX7_gift, .instanceMethod yX7_gift, .selects RX7 yX7_gift yX7_gift, .initialized RX7, .code yX7_gift cX7_gift 4 (some .int), .fieldLink RX7 17 "TwiceAsRich$Street" "purses" "[I", .methodLink RX7 69 yX7_hasTwo, .instanceMethod yX7_hasTwo, .selects RX7 yX7_hasTwo yX7_hasTwo, .code yX7_hasTwo cX7_hasTwo 3 (some .boolean), .methodLink RX7 28 yX7_has, .instanceMethod yX7_has, .selects RX7 yX7_has yX7_has, .code yX7_has cX7_has 2 (some .boolean), .fieldLink RX7 21 "TwiceAsRich$Street" "count" "I"] ++ wsX110 ++ wsX70)
def wsX11_weeks_r1 : List Cond := [Cond.fieldLink RX11 10 "TwiceAsRich" "street" "LTwiceAsRich$Street;", Cond.methodLink RX11 140 yX7_earn, Cond.instanceMethod yX7_earn, Cond.selects RX7 yX7_earn yX7_earn, Cond.initialized RX7, Cond.code yX7_earn cX7_earn 3 none, Cond.fieldLink RX7 21 "TwiceAsRich$Street" "count" "I", Cond.fieldLink RX7 17 "TwiceAsRich$Street" "purses" "[I", Cond.fieldLink RX7 11 "TwiceAsRich$Street" "houses" "[LTwiceAsRich$House;", Cond.methodLink RX7 57 Lib.Math.min.name, Cond.static Lib.Math.min.name, Cond.initialized "java/lang/Math", Cond.code Lib.Math.min.name Lib.Math.min.code 2 (some .int), Cond.methodLink RX7 65 ⟨"TwiceAsRich$House", "weekly", "()I"⟩, Cond.sameMethod "TwiceAsRich$House" "TwiceAsRich$House" "weekly" "()I", Cond.instanceMethod ⟨"TwiceAsRich$House", "weekly", "()I"⟩, Cond.selects RX0 ⟨"TwiceAsRich$House", "weekly", "()I"⟩ yX0_weekly, Cond.instanceMethod yX0_weekly, Cond.initialized RX0, Cond.code yX0_weekly cX0_weekly 1 (some .int), Cond.methodLink RX0 17 yX6_weekly, Cond.sameMethod "TwiceAsRich$Priest" "TwiceAsRich$Priest" "weekly" "()I", Cond.superclass RX0 RX6, Cond.instanceMethod yX6_weekly]
def wsX11_weeks_r2 : List Cond := [Cond.initialized RX6, Cond.code yX6_weekly cX6_weekly 1 (some .int), Cond.methodLink RX6 11 yX3_weekly, Cond.superclass RX6 RX3, Cond.instanceMethod yX3_weekly, Cond.initialized RX3, Cond.code yX3_weekly cX3_weekly 1 (some .int), Cond.selects RX1 ⟨"TwiceAsRich$House", "weekly", "()I"⟩ yX1_weekly, Cond.instanceMethod yX1_weekly, Cond.initialized RX1, Cond.code yX1_weekly cX1_weekly 1 (some .int), Cond.fieldLink RX1 11 "TwiceAsRich$Blind" "figure" "I", Cond.sameField "TwiceAsRich$Blind" "TwiceAsRich$House" "figure" "I", Cond.methodLink RX1 7 yX10_weekly, Cond.sameMethod "TwiceAsRich$Wall" "TwiceAsRich$Wall" "weekly" "()I", Cond.superclass RX1 RX10, Cond.instanceMethod yX10_weekly, Cond.initialized RX10, Cond.code yX10_weekly cX10_weekly 1 (some .int), Cond.selects RX2 ⟨"TwiceAsRich$House", "weekly", "()I"⟩ yX2_weekly, Cond.instanceMethod yX2_weekly, Cond.initialized RX2, Cond.code yX2_weekly cX2_weekly 1 (some .int), Cond.fieldLink RX2 11 "TwiceAsRich$Heir" "figure" "I"]
def wsX11_weeks_r3 : List Cond := [Cond.sameField "TwiceAsRich$Heir" "TwiceAsRich$House" "figure" "I", Cond.methodLink RX2 17 yX3_weekly, Cond.superclass RX2 RX3, Cond.methodLink RX7 65 yX3_weekly, Cond.selects RX3 yX3_weekly yX3_weekly, Cond.selects RX4 ⟨"TwiceAsRich$House", "weekly", "()I"⟩ yX4_weekly, Cond.instanceMethod yX4_weekly, Cond.initialized RX4, Cond.code yX4_weekly cX4_weekly 1 (some .int), Cond.methodLink RX4 20 yX2_weekly, Cond.sameMethod "TwiceAsRich$Heir" "TwiceAsRich$Heir" "weekly" "()I", Cond.superclass RX4 RX2, Cond.selects RX6 ⟨"TwiceAsRich$House", "weekly", "()I"⟩ yX6_weekly, Cond.selects RX9 ⟨"TwiceAsRich$House", "weekly", "()I"⟩ yX9_weekly, Cond.instanceMethod yX9_weekly, Cond.initialized RX9, Cond.code yX9_weekly cX9_weekly 1 (some .int), Cond.methodLink RX9 11 yX2_weekly, Cond.superclass RX9 RX2, Cond.selects RX10 ⟨"TwiceAsRich$House", "weekly", "()I"⟩ yX10_weekly, Cond.methodLink RX11 143 yX7_allCoins, Cond.instanceMethod yX7_allCoins, Cond.selects RX7 yX7_allCoins yX7_allCoins, Cond.code yX7_allCoins cX7_allCoins 3 (some .int)]
def wsX11_weeks : List Cond := .code yX11_weeks cX11_weeks 2 (some .int) :: ((wsX11_weeks_r1 ++ (wsX11_weeks_r2 ++ wsX11_weeks_r3)) ++ wsX110 ++ wsX70 ++ wsX00 ++ wsX10 ++ wsX20 ++ wsX30 ++ wsX40 ++ wsX60 ++ wsX90 ++ wsX100)
def wsX11_lawful_r1 : List Cond := [Cond.fieldLink RX11 10 "TwiceAsRich" "street" "LTwiceAsRich$Street;", Cond.methodLink RX11 146 yX7_allBreaches, Cond.instanceMethod yX7_allBreaches, Cond.selects RX7 yX7_allBreaches yX7_allBreaches, Cond.initialized RX7, Cond.code yX7_allBreaches cX7_allBreaches 3 (some .int), Cond.fieldLink RX7 21 "TwiceAsRich$Street" "count" "I", Cond.methodLink RX7 62 yX7_breachesOf, Cond.instanceMethod yX7_breachesOf, Cond.selects RX7 yX7_breachesOf yX7_breachesOf, Cond.code yX7_breachesOf cX7_breachesOf 3 (some .int), Cond.fieldLink RX7 17 "TwiceAsRich$Street" "purses" "[I", Cond.methodLink RX7 47 yX7_ahead, Cond.instanceMethod yX7_ahead, Cond.selects RX7 yX7_ahead yX7_ahead, Cond.code yX7_ahead cX7_ahead 2 (some .int), Cond.methodLink RX7 32 yX7_isClosed, Cond.instanceMethod yX7_isClosed, Cond.selects RX7 yX7_isClosed yX7_isClosed, Cond.code yX7_isClosed cX7_isClosed 1 (some .boolean), Cond.fieldLink RX7 25 "TwiceAsRich$Street" "round" "I", Cond.methodLink RX7 50 yX7_limitBy, Cond.instanceMethod yX7_limitBy, Cond.selects RX7 yX7_limitBy yX7_limitBy]
def wsX11_lawful_r2 : List Cond := [Cond.code yX7_limitBy cX7_limitBy 3 (some .int), Cond.fieldLink RX7 11 "TwiceAsRich$Street" "houses" "[LTwiceAsRich$House;", Cond.constant RX7 39 (1000000), Cond.methodLink RX7 36 ⟨"TwiceAsRich$House", "isLookedAt", "()Z"⟩, Cond.sameMethod "TwiceAsRich$House" "TwiceAsRich$House" "isLookedAt" "()Z", Cond.selects RX0 ⟨"TwiceAsRich$House", "isLookedAt", "()Z"⟩ yX3_isLookedAt, Cond.instanceMethod yX3_isLookedAt, Cond.initialized RX3, Cond.code yX3_isLookedAt cX3_isLookedAt 1 (some .boolean), Cond.instanceMethod ⟨"TwiceAsRich$House", "isLookedAt", "()Z"⟩, Cond.selects RX1 ⟨"TwiceAsRich$House", "isLookedAt", "()Z"⟩ yX1_isLookedAt, Cond.instanceMethod yX1_isLookedAt, Cond.initialized RX1, Cond.code yX1_isLookedAt cX1_isLookedAt 1 (some .boolean), Cond.selects RX2 ⟨"TwiceAsRich$House", "isLookedAt", "()Z"⟩ yX3_isLookedAt, Cond.methodLink RX7 36 yX3_isLookedAt, Cond.selects RX3 yX3_isLookedAt yX3_isLookedAt, Cond.selects RX4 ⟨"TwiceAsRich$House", "isLookedAt", "()Z"⟩ yX3_isLookedAt, Cond.selects RX6 ⟨"TwiceAsRich$House", "isLookedAt", "()Z"⟩ yX3_isLookedAt, Cond.selects RX9 ⟨"TwiceAsRich$House", "isLookedAt", "()Z"⟩ yX3_isLookedAt, Cond.selects RX10 ⟨"TwiceAsRich$House", "isLookedAt", "()Z"⟩ yX10_isLookedAt, Cond.instanceMethod yX10_isLookedAt, Cond.initialized RX10, Cond.code yX10_isLookedAt cX10_isLookedAt 1 (some .boolean)]
def wsX11_lawful_r3 : List Cond := [Cond.methodLink RX7 40 ⟨"TwiceAsRich$House", "shownOf", "(I)I"⟩, Cond.sameMethod "TwiceAsRich$House" "TwiceAsRich$House" "shownOf" "(I)I", Cond.instanceMethod ⟨"TwiceAsRich$House", "shownOf", "(I)I"⟩, Cond.selects RX0 ⟨"TwiceAsRich$House", "shownOf", "(I)I"⟩ yX0_shownOf, Cond.instanceMethod yX0_shownOf, Cond.initialized RX0, Cond.code yX0_shownOf cX0_shownOf 2 (some .int), Cond.fieldLink RX0 11 "TwiceAsRich$Beggar" "figure" "I", Cond.sameField "TwiceAsRich$Beggar" "TwiceAsRich$House" "figure" "I", Cond.methodLink RX0 7 yX6_shownOf, Cond.sameMethod "TwiceAsRich$Priest" "TwiceAsRich$Priest" "shownOf" "(I)I", Cond.superclass RX0 RX6, Cond.instanceMethod yX6_shownOf, Cond.initialized RX6, Cond.code yX6_shownOf cX6_shownOf 2 (some .int), Cond.methodLink RX6 7 yX3_shownOf, Cond.superclass RX6 RX3, Cond.instanceMethod yX3_shownOf, Cond.code yX3_shownOf cX3_shownOf 2 (some .int), Cond.selects RX1 ⟨"TwiceAsRich$House", "shownOf", "(I)I"⟩ yX3_shownOf, Cond.selects RX2 ⟨"TwiceAsRich$House", "shownOf", "(I)I"⟩ yX3_shownOf, Cond.methodLink RX7 40 yX3_shownOf, Cond.selects RX3 yX3_shownOf yX3_shownOf, Cond.selects RX4 ⟨"TwiceAsRich$House", "shownOf", "(I)I"⟩ yX4_shownOf]
def wsX11_lawful_r4 : List Cond := [Cond.instanceMethod yX4_shownOf, Cond.initialized RX4, Cond.code yX4_shownOf cX4_shownOf 2 (some .int), Cond.selects RX6 ⟨"TwiceAsRich$House", "shownOf", "(I)I"⟩ yX6_shownOf, Cond.selects RX9 ⟨"TwiceAsRich$House", "shownOf", "(I)I"⟩ yX3_shownOf, Cond.selects RX10 ⟨"TwiceAsRich$House", "shownOf", "(I)I"⟩ yX3_shownOf, Cond.methodLink RX7 44 ⟨"TwiceAsRich$House", "allowedBy", "(I)I"⟩, Cond.sameMethod "TwiceAsRich$House" "TwiceAsRich$House" "allowedBy" "(I)I", Cond.selects RX0 ⟨"TwiceAsRich$House", "allowedBy", "(I)I"⟩ yX3_allowedBy, Cond.instanceMethod yX3_allowedBy, Cond.code yX3_allowedBy cX3_allowedBy 2 (some .int), Cond.instanceMethod ⟨"TwiceAsRich$House", "allowedBy", "(I)I"⟩, Cond.selects RX1 ⟨"TwiceAsRich$House", "allowedBy", "(I)I"⟩ yX10_allowedBy, Cond.instanceMethod yX10_allowedBy, Cond.code yX10_allowedBy cX10_allowedBy 2 (some .int), Cond.selects RX2 ⟨"TwiceAsRich$House", "allowedBy", "(I)I"⟩ yX2_allowedBy, Cond.instanceMethod yX2_allowedBy, Cond.initialized RX2, Cond.code yX2_allowedBy cX2_allowedBy 2 (some .int), Cond.fieldLink RX2 11 "TwiceAsRich$Heir" "figure" "I", Cond.sameField "TwiceAsRich$Heir" "TwiceAsRich$House" "figure" "I", Cond.methodLink RX2 7 yX3_allowedBy, Cond.superclass RX2 RX3, Cond.methodLink RX7 44 yX3_allowedBy]
def wsX11_lawful_r5 : List Cond := [Cond.selects RX3 yX3_allowedBy yX3_allowedBy, Cond.selects RX4 ⟨"TwiceAsRich$House", "allowedBy", "(I)I"⟩ yX4_allowedBy, Cond.instanceMethod yX4_allowedBy, Cond.code yX4_allowedBy cX4_allowedBy 2 (some .int), Cond.methodLink RX4 14 Lib.Math.max.name, Cond.static Lib.Math.max.name, Cond.initialized "java/lang/Math", Cond.code Lib.Math.max.name Lib.Math.max.code 2 (some .int), Cond.methodLink RX4 11 yX2_allowedBy, Cond.sameMethod "TwiceAsRich$Heir" "TwiceAsRich$Heir" "allowedBy" "(I)I", Cond.superclass RX4 RX2, Cond.selects RX6 ⟨"TwiceAsRich$House", "allowedBy", "(I)I"⟩ yX3_allowedBy, Cond.selects RX9 ⟨"TwiceAsRich$House", "allowedBy", "(I)I"⟩ yX9_allowedBy, Cond.instanceMethod yX9_allowedBy, Cond.initialized RX9, Cond.code yX9_allowedBy cX9_allowedBy 2 (some .int), Cond.methodLink RX9 7 yX2_allowedBy, Cond.superclass RX9 RX2, Cond.selects RX10 ⟨"TwiceAsRich$House", "allowedBy", "(I)I"⟩ yX10_allowedBy, Cond.methodLink RX7 54 yX7_behind, Cond.instanceMethod yX7_behind, Cond.selects RX7 yX7_behind yX7_behind, Cond.code yX7_behind cX7_behind 2 (some .int)]
def wsX11_lawful : List Cond := .code yX11_lawful cX11_lawful 1 (some .int) :: ((wsX11_lawful_r1 ++ (wsX11_lawful_r2 ++ (wsX11_lawful_r3 ++ (wsX11_lawful_r4 ++ wsX11_lawful_r5)))) ++ wsX110 ++ wsX70 ++ wsX00 ++ wsX10 ++ wsX20 ++ wsX30 ++ wsX40 ++ wsX60 ++ wsX90 ++ wsX100)
def wsX11_breaches_r1 : List Cond := [Cond.fieldLink RX11 10 "TwiceAsRich" "street" "LTwiceAsRich$Street;", Cond.methodLink RX11 146 yX7_allBreaches, Cond.instanceMethod yX7_allBreaches, Cond.selects RX7 yX7_allBreaches yX7_allBreaches, Cond.initialized RX7, Cond.code yX7_allBreaches cX7_allBreaches 3 (some .int), Cond.fieldLink RX7 21 "TwiceAsRich$Street" "count" "I", Cond.methodLink RX7 62 yX7_breachesOf, Cond.instanceMethod yX7_breachesOf, Cond.selects RX7 yX7_breachesOf yX7_breachesOf, Cond.code yX7_breachesOf cX7_breachesOf 3 (some .int), Cond.fieldLink RX7 17 "TwiceAsRich$Street" "purses" "[I", Cond.methodLink RX7 47 yX7_ahead, Cond.instanceMethod yX7_ahead, Cond.selects RX7 yX7_ahead yX7_ahead, Cond.code yX7_ahead cX7_ahead 2 (some .int), Cond.methodLink RX7 32 yX7_isClosed, Cond.instanceMethod yX7_isClosed, Cond.selects RX7 yX7_isClosed yX7_isClosed, Cond.code yX7_isClosed cX7_isClosed 1 (some .boolean), Cond.fieldLink RX7 25 "TwiceAsRich$Street" "round" "I", Cond.methodLink RX7 50 yX7_limitBy, Cond.instanceMethod yX7_limitBy, Cond.selects RX7 yX7_limitBy yX7_limitBy]
def wsX11_breaches_r2 : List Cond := [Cond.code yX7_limitBy cX7_limitBy 3 (some .int), Cond.fieldLink RX7 11 "TwiceAsRich$Street" "houses" "[LTwiceAsRich$House;", Cond.constant RX7 39 (1000000), Cond.methodLink RX7 36 ⟨"TwiceAsRich$House", "isLookedAt", "()Z"⟩, Cond.sameMethod "TwiceAsRich$House" "TwiceAsRich$House" "isLookedAt" "()Z", Cond.selects RX0 ⟨"TwiceAsRich$House", "isLookedAt", "()Z"⟩ yX3_isLookedAt, Cond.instanceMethod yX3_isLookedAt, Cond.initialized RX3, Cond.code yX3_isLookedAt cX3_isLookedAt 1 (some .boolean), Cond.instanceMethod ⟨"TwiceAsRich$House", "isLookedAt", "()Z"⟩, Cond.selects RX1 ⟨"TwiceAsRich$House", "isLookedAt", "()Z"⟩ yX1_isLookedAt, Cond.instanceMethod yX1_isLookedAt, Cond.initialized RX1, Cond.code yX1_isLookedAt cX1_isLookedAt 1 (some .boolean), Cond.selects RX2 ⟨"TwiceAsRich$House", "isLookedAt", "()Z"⟩ yX3_isLookedAt, Cond.methodLink RX7 36 yX3_isLookedAt, Cond.selects RX3 yX3_isLookedAt yX3_isLookedAt, Cond.selects RX4 ⟨"TwiceAsRich$House", "isLookedAt", "()Z"⟩ yX3_isLookedAt, Cond.selects RX6 ⟨"TwiceAsRich$House", "isLookedAt", "()Z"⟩ yX3_isLookedAt, Cond.selects RX9 ⟨"TwiceAsRich$House", "isLookedAt", "()Z"⟩ yX3_isLookedAt, Cond.selects RX10 ⟨"TwiceAsRich$House", "isLookedAt", "()Z"⟩ yX10_isLookedAt, Cond.instanceMethod yX10_isLookedAt, Cond.initialized RX10, Cond.code yX10_isLookedAt cX10_isLookedAt 1 (some .boolean)]
def wsX11_breaches_r3 : List Cond := [Cond.methodLink RX7 40 ⟨"TwiceAsRich$House", "shownOf", "(I)I"⟩, Cond.sameMethod "TwiceAsRich$House" "TwiceAsRich$House" "shownOf" "(I)I", Cond.instanceMethod ⟨"TwiceAsRich$House", "shownOf", "(I)I"⟩, Cond.selects RX0 ⟨"TwiceAsRich$House", "shownOf", "(I)I"⟩ yX0_shownOf, Cond.instanceMethod yX0_shownOf, Cond.initialized RX0, Cond.code yX0_shownOf cX0_shownOf 2 (some .int), Cond.fieldLink RX0 11 "TwiceAsRich$Beggar" "figure" "I", Cond.sameField "TwiceAsRich$Beggar" "TwiceAsRich$House" "figure" "I", Cond.methodLink RX0 7 yX6_shownOf, Cond.sameMethod "TwiceAsRich$Priest" "TwiceAsRich$Priest" "shownOf" "(I)I", Cond.superclass RX0 RX6, Cond.instanceMethod yX6_shownOf, Cond.initialized RX6, Cond.code yX6_shownOf cX6_shownOf 2 (some .int), Cond.methodLink RX6 7 yX3_shownOf, Cond.superclass RX6 RX3, Cond.instanceMethod yX3_shownOf, Cond.code yX3_shownOf cX3_shownOf 2 (some .int), Cond.selects RX1 ⟨"TwiceAsRich$House", "shownOf", "(I)I"⟩ yX3_shownOf, Cond.selects RX2 ⟨"TwiceAsRich$House", "shownOf", "(I)I"⟩ yX3_shownOf, Cond.methodLink RX7 40 yX3_shownOf, Cond.selects RX3 yX3_shownOf yX3_shownOf, Cond.selects RX4 ⟨"TwiceAsRich$House", "shownOf", "(I)I"⟩ yX4_shownOf]
def wsX11_breaches_r4 : List Cond := [Cond.instanceMethod yX4_shownOf, Cond.initialized RX4, Cond.code yX4_shownOf cX4_shownOf 2 (some .int), Cond.selects RX6 ⟨"TwiceAsRich$House", "shownOf", "(I)I"⟩ yX6_shownOf, Cond.selects RX9 ⟨"TwiceAsRich$House", "shownOf", "(I)I"⟩ yX3_shownOf, Cond.selects RX10 ⟨"TwiceAsRich$House", "shownOf", "(I)I"⟩ yX3_shownOf, Cond.methodLink RX7 44 ⟨"TwiceAsRich$House", "allowedBy", "(I)I"⟩, Cond.sameMethod "TwiceAsRich$House" "TwiceAsRich$House" "allowedBy" "(I)I", Cond.selects RX0 ⟨"TwiceAsRich$House", "allowedBy", "(I)I"⟩ yX3_allowedBy, Cond.instanceMethod yX3_allowedBy, Cond.code yX3_allowedBy cX3_allowedBy 2 (some .int), Cond.instanceMethod ⟨"TwiceAsRich$House", "allowedBy", "(I)I"⟩, Cond.selects RX1 ⟨"TwiceAsRich$House", "allowedBy", "(I)I"⟩ yX10_allowedBy, Cond.instanceMethod yX10_allowedBy, Cond.code yX10_allowedBy cX10_allowedBy 2 (some .int), Cond.selects RX2 ⟨"TwiceAsRich$House", "allowedBy", "(I)I"⟩ yX2_allowedBy, Cond.instanceMethod yX2_allowedBy, Cond.initialized RX2, Cond.code yX2_allowedBy cX2_allowedBy 2 (some .int), Cond.fieldLink RX2 11 "TwiceAsRich$Heir" "figure" "I", Cond.sameField "TwiceAsRich$Heir" "TwiceAsRich$House" "figure" "I", Cond.methodLink RX2 7 yX3_allowedBy, Cond.superclass RX2 RX3, Cond.methodLink RX7 44 yX3_allowedBy]
def wsX11_breaches_r5 : List Cond := [Cond.selects RX3 yX3_allowedBy yX3_allowedBy, Cond.selects RX4 ⟨"TwiceAsRich$House", "allowedBy", "(I)I"⟩ yX4_allowedBy, Cond.instanceMethod yX4_allowedBy, Cond.code yX4_allowedBy cX4_allowedBy 2 (some .int), Cond.methodLink RX4 14 Lib.Math.max.name, Cond.static Lib.Math.max.name, Cond.initialized "java/lang/Math", Cond.code Lib.Math.max.name Lib.Math.max.code 2 (some .int), Cond.methodLink RX4 11 yX2_allowedBy, Cond.sameMethod "TwiceAsRich$Heir" "TwiceAsRich$Heir" "allowedBy" "(I)I", Cond.superclass RX4 RX2, Cond.selects RX6 ⟨"TwiceAsRich$House", "allowedBy", "(I)I"⟩ yX3_allowedBy, Cond.selects RX9 ⟨"TwiceAsRich$House", "allowedBy", "(I)I"⟩ yX9_allowedBy, Cond.instanceMethod yX9_allowedBy, Cond.initialized RX9, Cond.code yX9_allowedBy cX9_allowedBy 2 (some .int), Cond.methodLink RX9 7 yX2_allowedBy, Cond.superclass RX9 RX2, Cond.selects RX10 ⟨"TwiceAsRich$House", "allowedBy", "(I)I"⟩ yX10_allowedBy, Cond.methodLink RX7 54 yX7_behind, Cond.instanceMethod yX7_behind, Cond.selects RX7 yX7_behind yX7_behind, Cond.code yX7_behind cX7_behind 2 (some .int), Cond.methodLink RX11 89 yX7_has]
def wsX11_breaches_r6 : List Cond := [Cond.instanceMethod yX7_has, Cond.selects RX7 yX7_has yX7_has, Cond.code yX7_has cX7_has 2 (some .boolean), Cond.methodLink RX11 149 yX7_breachesOf]
def wsX11_breaches : List Cond := .code yX11_breaches cX11_breaches 2 (some .int) :: ((wsX11_breaches_r1 ++ (wsX11_breaches_r2 ++ (wsX11_breaches_r3 ++ (wsX11_breaches_r4 ++ (wsX11_breaches_r5 ++ wsX11_breaches_r6))))) ++ wsX110 ++ wsX70 ++ wsX00 ++ wsX10 ++ wsX20 ++ wsX30 ++ wsX40 ++ wsX60 ++ wsX90 ++ wsX100)
def wsX11_held_r1 : List Cond := [Cond.fieldLink RX11 10 "TwiceAsRich" "street" "LTwiceAsRich$Street;", Cond.methodLink RX11 89 yX7_has, Cond.instanceMethod yX7_has, Cond.selects RX7 yX7_has yX7_has, Cond.initialized RX7, Cond.code yX7_has cX7_has 2 (some .boolean), Cond.fieldLink RX7 21 "TwiceAsRich$Street" "count" "I", Cond.methodLink RX11 152 yX7_holdersOf, Cond.instanceMethod yX7_holdersOf, Cond.selects RX7 yX7_holdersOf yX7_holdersOf, Cond.code yX7_holdersOf cX7_holdersOf 5 (some .int), Cond.fieldLink RX7 17 "TwiceAsRich$Street" "purses" "[I", Cond.methodLink RX7 47 yX7_ahead, Cond.instanceMethod yX7_ahead, Cond.selects RX7 yX7_ahead yX7_ahead, Cond.code yX7_ahead cX7_ahead 2 (some .int), Cond.methodLink RX7 32 yX7_isClosed, Cond.instanceMethod yX7_isClosed, Cond.selects RX7 yX7_isClosed yX7_isClosed, Cond.code yX7_isClosed cX7_isClosed 1 (some .boolean), Cond.fieldLink RX7 25 "TwiceAsRich$Street" "round" "I", Cond.methodLink RX7 54 yX7_behind, Cond.instanceMethod yX7_behind, Cond.selects RX7 yX7_behind yX7_behind]
def wsX11_held_r2 : List Cond := [Cond.code yX7_behind cX7_behind 2 (some .int), Cond.methodLink RX7 50 yX7_limitBy, Cond.instanceMethod yX7_limitBy, Cond.selects RX7 yX7_limitBy yX7_limitBy, Cond.code yX7_limitBy cX7_limitBy 3 (some .int), Cond.fieldLink RX7 11 "TwiceAsRich$Street" "houses" "[LTwiceAsRich$House;", Cond.constant RX7 39 (1000000), Cond.methodLink RX7 36 ⟨"TwiceAsRich$House", "isLookedAt", "()Z"⟩, Cond.sameMethod "TwiceAsRich$House" "TwiceAsRich$House" "isLookedAt" "()Z", Cond.selects RX0 ⟨"TwiceAsRich$House", "isLookedAt", "()Z"⟩ yX3_isLookedAt, Cond.instanceMethod yX3_isLookedAt, Cond.initialized RX3, Cond.code yX3_isLookedAt cX3_isLookedAt 1 (some .boolean), Cond.instanceMethod ⟨"TwiceAsRich$House", "isLookedAt", "()Z"⟩, Cond.selects RX1 ⟨"TwiceAsRich$House", "isLookedAt", "()Z"⟩ yX1_isLookedAt, Cond.instanceMethod yX1_isLookedAt, Cond.initialized RX1, Cond.code yX1_isLookedAt cX1_isLookedAt 1 (some .boolean), Cond.selects RX2 ⟨"TwiceAsRich$House", "isLookedAt", "()Z"⟩ yX3_isLookedAt, Cond.methodLink RX7 36 yX3_isLookedAt, Cond.selects RX3 yX3_isLookedAt yX3_isLookedAt, Cond.selects RX4 ⟨"TwiceAsRich$House", "isLookedAt", "()Z"⟩ yX3_isLookedAt, Cond.selects RX6 ⟨"TwiceAsRich$House", "isLookedAt", "()Z"⟩ yX3_isLookedAt, Cond.selects RX9 ⟨"TwiceAsRich$House", "isLookedAt", "()Z"⟩ yX3_isLookedAt]
def wsX11_held_r3 : List Cond := [Cond.selects RX10 ⟨"TwiceAsRich$House", "isLookedAt", "()Z"⟩ yX10_isLookedAt, Cond.instanceMethod yX10_isLookedAt, Cond.initialized RX10, Cond.code yX10_isLookedAt cX10_isLookedAt 1 (some .boolean), Cond.methodLink RX7 40 ⟨"TwiceAsRich$House", "shownOf", "(I)I"⟩, Cond.sameMethod "TwiceAsRich$House" "TwiceAsRich$House" "shownOf" "(I)I", Cond.instanceMethod ⟨"TwiceAsRich$House", "shownOf", "(I)I"⟩, Cond.selects RX0 ⟨"TwiceAsRich$House", "shownOf", "(I)I"⟩ yX0_shownOf, Cond.instanceMethod yX0_shownOf, Cond.initialized RX0, Cond.code yX0_shownOf cX0_shownOf 2 (some .int), Cond.fieldLink RX0 11 "TwiceAsRich$Beggar" "figure" "I", Cond.sameField "TwiceAsRich$Beggar" "TwiceAsRich$House" "figure" "I", Cond.methodLink RX0 7 yX6_shownOf, Cond.sameMethod "TwiceAsRich$Priest" "TwiceAsRich$Priest" "shownOf" "(I)I", Cond.superclass RX0 RX6, Cond.instanceMethod yX6_shownOf, Cond.initialized RX6, Cond.code yX6_shownOf cX6_shownOf 2 (some .int), Cond.methodLink RX6 7 yX3_shownOf, Cond.superclass RX6 RX3, Cond.instanceMethod yX3_shownOf, Cond.code yX3_shownOf cX3_shownOf 2 (some .int), Cond.selects RX1 ⟨"TwiceAsRich$House", "shownOf", "(I)I"⟩ yX3_shownOf]
def wsX11_held_r4 : List Cond := [Cond.selects RX2 ⟨"TwiceAsRich$House", "shownOf", "(I)I"⟩ yX3_shownOf, Cond.methodLink RX7 40 yX3_shownOf, Cond.selects RX3 yX3_shownOf yX3_shownOf, Cond.selects RX4 ⟨"TwiceAsRich$House", "shownOf", "(I)I"⟩ yX4_shownOf, Cond.instanceMethod yX4_shownOf, Cond.initialized RX4, Cond.code yX4_shownOf cX4_shownOf 2 (some .int), Cond.selects RX6 ⟨"TwiceAsRich$House", "shownOf", "(I)I"⟩ yX6_shownOf, Cond.selects RX9 ⟨"TwiceAsRich$House", "shownOf", "(I)I"⟩ yX3_shownOf, Cond.selects RX10 ⟨"TwiceAsRich$House", "shownOf", "(I)I"⟩ yX3_shownOf, Cond.methodLink RX7 44 ⟨"TwiceAsRich$House", "allowedBy", "(I)I"⟩, Cond.sameMethod "TwiceAsRich$House" "TwiceAsRich$House" "allowedBy" "(I)I", Cond.selects RX0 ⟨"TwiceAsRich$House", "allowedBy", "(I)I"⟩ yX3_allowedBy, Cond.instanceMethod yX3_allowedBy, Cond.code yX3_allowedBy cX3_allowedBy 2 (some .int), Cond.instanceMethod ⟨"TwiceAsRich$House", "allowedBy", "(I)I"⟩, Cond.selects RX1 ⟨"TwiceAsRich$House", "allowedBy", "(I)I"⟩ yX10_allowedBy, Cond.instanceMethod yX10_allowedBy, Cond.code yX10_allowedBy cX10_allowedBy 2 (some .int), Cond.selects RX2 ⟨"TwiceAsRich$House", "allowedBy", "(I)I"⟩ yX2_allowedBy, Cond.instanceMethod yX2_allowedBy, Cond.initialized RX2, Cond.code yX2_allowedBy cX2_allowedBy 2 (some .int), Cond.fieldLink RX2 11 "TwiceAsRich$Heir" "figure" "I"]
def wsX11_held_r5 : List Cond := [Cond.sameField "TwiceAsRich$Heir" "TwiceAsRich$House" "figure" "I", Cond.methodLink RX2 7 yX3_allowedBy, Cond.superclass RX2 RX3, Cond.methodLink RX7 44 yX3_allowedBy, Cond.selects RX3 yX3_allowedBy yX3_allowedBy, Cond.selects RX4 ⟨"TwiceAsRich$House", "allowedBy", "(I)I"⟩ yX4_allowedBy, Cond.instanceMethod yX4_allowedBy, Cond.code yX4_allowedBy cX4_allowedBy 2 (some .int), Cond.methodLink RX4 14 Lib.Math.max.name, Cond.static Lib.Math.max.name, Cond.initialized "java/lang/Math", Cond.code Lib.Math.max.name Lib.Math.max.code 2 (some .int), Cond.methodLink RX4 11 yX2_allowedBy, Cond.sameMethod "TwiceAsRich$Heir" "TwiceAsRich$Heir" "allowedBy" "(I)I", Cond.superclass RX4 RX2, Cond.selects RX6 ⟨"TwiceAsRich$House", "allowedBy", "(I)I"⟩ yX3_allowedBy, Cond.selects RX9 ⟨"TwiceAsRich$House", "allowedBy", "(I)I"⟩ yX9_allowedBy, Cond.instanceMethod yX9_allowedBy, Cond.initialized RX9, Cond.code yX9_allowedBy cX9_allowedBy 2 (some .int), Cond.methodLink RX9 7 yX2_allowedBy, Cond.superclass RX9 RX2, Cond.selects RX10 ⟨"TwiceAsRich$House", "allowedBy", "(I)I"⟩ yX10_allowedBy]
def wsX11_held : List Cond := .code yX11_held cX11_held 2 (some .int) :: ((wsX11_held_r1 ++ (wsX11_held_r2 ++ (wsX11_held_r3 ++ (wsX11_held_r4 ++ wsX11_held_r5)))) ++ wsX110 ++ wsX70 ++ wsX00 ++ wsX10 ++ wsX20 ++ wsX30 ++ wsX40 ++ wsX60 ++ wsX90 ++ wsX100)
def wsX11_free_r1 : List Cond := [Cond.fieldLink RX11 10 "TwiceAsRich" "street" "LTwiceAsRich$Street;", Cond.fieldLink RX11 126 "TwiceAsRich$Street" "count" "I", Cond.fieldLink RX11 103 "TwiceAsRich$Street" "purses" "[I", Cond.methodLink RX11 152 yX7_holdersOf, Cond.instanceMethod yX7_holdersOf, Cond.selects RX7 yX7_holdersOf yX7_holdersOf, Cond.initialized RX7, Cond.code yX7_holdersOf cX7_holdersOf 5 (some .int), Cond.fieldLink RX7 17 "TwiceAsRich$Street" "purses" "[I", Cond.methodLink RX7 47 yX7_ahead, Cond.instanceMethod yX7_ahead, Cond.selects RX7 yX7_ahead yX7_ahead, Cond.code yX7_ahead cX7_ahead 2 (some .int), Cond.fieldLink RX7 21 "TwiceAsRich$Street" "count" "I", Cond.methodLink RX7 32 yX7_isClosed, Cond.instanceMethod yX7_isClosed, Cond.selects RX7 yX7_isClosed yX7_isClosed, Cond.code yX7_isClosed cX7_isClosed 1 (some .boolean), Cond.fieldLink RX7 25 "TwiceAsRich$Street" "round" "I", Cond.methodLink RX7 54 yX7_behind, Cond.instanceMethod yX7_behind, Cond.selects RX7 yX7_behind yX7_behind, Cond.code yX7_behind cX7_behind 2 (some .int), Cond.methodLink RX7 50 yX7_limitBy]
def wsX11_free_r2 : List Cond := [Cond.instanceMethod yX7_limitBy, Cond.selects RX7 yX7_limitBy yX7_limitBy, Cond.code yX7_limitBy cX7_limitBy 3 (some .int), Cond.fieldLink RX7 11 "TwiceAsRich$Street" "houses" "[LTwiceAsRich$House;", Cond.constant RX7 39 (1000000), Cond.methodLink RX7 36 ⟨"TwiceAsRich$House", "isLookedAt", "()Z"⟩, Cond.sameMethod "TwiceAsRich$House" "TwiceAsRich$House" "isLookedAt" "()Z", Cond.selects RX0 ⟨"TwiceAsRich$House", "isLookedAt", "()Z"⟩ yX3_isLookedAt, Cond.instanceMethod yX3_isLookedAt, Cond.initialized RX3, Cond.code yX3_isLookedAt cX3_isLookedAt 1 (some .boolean), Cond.instanceMethod ⟨"TwiceAsRich$House", "isLookedAt", "()Z"⟩, Cond.selects RX1 ⟨"TwiceAsRich$House", "isLookedAt", "()Z"⟩ yX1_isLookedAt, Cond.instanceMethod yX1_isLookedAt, Cond.initialized RX1, Cond.code yX1_isLookedAt cX1_isLookedAt 1 (some .boolean), Cond.selects RX2 ⟨"TwiceAsRich$House", "isLookedAt", "()Z"⟩ yX3_isLookedAt, Cond.methodLink RX7 36 yX3_isLookedAt, Cond.selects RX3 yX3_isLookedAt yX3_isLookedAt, Cond.selects RX4 ⟨"TwiceAsRich$House", "isLookedAt", "()Z"⟩ yX3_isLookedAt, Cond.selects RX6 ⟨"TwiceAsRich$House", "isLookedAt", "()Z"⟩ yX3_isLookedAt, Cond.selects RX9 ⟨"TwiceAsRich$House", "isLookedAt", "()Z"⟩ yX3_isLookedAt, Cond.selects RX10 ⟨"TwiceAsRich$House", "isLookedAt", "()Z"⟩ yX10_isLookedAt, Cond.instanceMethod yX10_isLookedAt]
def wsX11_free_r3 : List Cond := [Cond.initialized RX10, Cond.code yX10_isLookedAt cX10_isLookedAt 1 (some .boolean), Cond.methodLink RX7 40 ⟨"TwiceAsRich$House", "shownOf", "(I)I"⟩, Cond.sameMethod "TwiceAsRich$House" "TwiceAsRich$House" "shownOf" "(I)I", Cond.instanceMethod ⟨"TwiceAsRich$House", "shownOf", "(I)I"⟩, Cond.selects RX0 ⟨"TwiceAsRich$House", "shownOf", "(I)I"⟩ yX0_shownOf, Cond.instanceMethod yX0_shownOf, Cond.initialized RX0, Cond.code yX0_shownOf cX0_shownOf 2 (some .int), Cond.fieldLink RX0 11 "TwiceAsRich$Beggar" "figure" "I", Cond.sameField "TwiceAsRich$Beggar" "TwiceAsRich$House" "figure" "I", Cond.methodLink RX0 7 yX6_shownOf, Cond.sameMethod "TwiceAsRich$Priest" "TwiceAsRich$Priest" "shownOf" "(I)I", Cond.superclass RX0 RX6, Cond.instanceMethod yX6_shownOf, Cond.initialized RX6, Cond.code yX6_shownOf cX6_shownOf 2 (some .int), Cond.methodLink RX6 7 yX3_shownOf, Cond.superclass RX6 RX3, Cond.instanceMethod yX3_shownOf, Cond.code yX3_shownOf cX3_shownOf 2 (some .int), Cond.selects RX1 ⟨"TwiceAsRich$House", "shownOf", "(I)I"⟩ yX3_shownOf, Cond.selects RX2 ⟨"TwiceAsRich$House", "shownOf", "(I)I"⟩ yX3_shownOf, Cond.methodLink RX7 40 yX3_shownOf]
def wsX11_free_r4 : List Cond := [Cond.selects RX3 yX3_shownOf yX3_shownOf, Cond.selects RX4 ⟨"TwiceAsRich$House", "shownOf", "(I)I"⟩ yX4_shownOf, Cond.instanceMethod yX4_shownOf, Cond.initialized RX4, Cond.code yX4_shownOf cX4_shownOf 2 (some .int), Cond.selects RX6 ⟨"TwiceAsRich$House", "shownOf", "(I)I"⟩ yX6_shownOf, Cond.selects RX9 ⟨"TwiceAsRich$House", "shownOf", "(I)I"⟩ yX3_shownOf, Cond.selects RX10 ⟨"TwiceAsRich$House", "shownOf", "(I)I"⟩ yX3_shownOf, Cond.methodLink RX7 44 ⟨"TwiceAsRich$House", "allowedBy", "(I)I"⟩, Cond.sameMethod "TwiceAsRich$House" "TwiceAsRich$House" "allowedBy" "(I)I", Cond.selects RX0 ⟨"TwiceAsRich$House", "allowedBy", "(I)I"⟩ yX3_allowedBy, Cond.instanceMethod yX3_allowedBy, Cond.code yX3_allowedBy cX3_allowedBy 2 (some .int), Cond.instanceMethod ⟨"TwiceAsRich$House", "allowedBy", "(I)I"⟩, Cond.selects RX1 ⟨"TwiceAsRich$House", "allowedBy", "(I)I"⟩ yX10_allowedBy, Cond.instanceMethod yX10_allowedBy, Cond.code yX10_allowedBy cX10_allowedBy 2 (some .int), Cond.selects RX2 ⟨"TwiceAsRich$House", "allowedBy", "(I)I"⟩ yX2_allowedBy, Cond.instanceMethod yX2_allowedBy, Cond.initialized RX2, Cond.code yX2_allowedBy cX2_allowedBy 2 (some .int), Cond.fieldLink RX2 11 "TwiceAsRich$Heir" "figure" "I", Cond.sameField "TwiceAsRich$Heir" "TwiceAsRich$House" "figure" "I", Cond.methodLink RX2 7 yX3_allowedBy]
def wsX11_free_r5 : List Cond := [Cond.superclass RX2 RX3, Cond.methodLink RX7 44 yX3_allowedBy, Cond.selects RX3 yX3_allowedBy yX3_allowedBy, Cond.selects RX4 ⟨"TwiceAsRich$House", "allowedBy", "(I)I"⟩ yX4_allowedBy, Cond.instanceMethod yX4_allowedBy, Cond.code yX4_allowedBy cX4_allowedBy 2 (some .int), Cond.methodLink RX4 14 Lib.Math.max.name, Cond.static Lib.Math.max.name, Cond.initialized "java/lang/Math", Cond.code Lib.Math.max.name Lib.Math.max.code 2 (some .int), Cond.methodLink RX4 11 yX2_allowedBy, Cond.sameMethod "TwiceAsRich$Heir" "TwiceAsRich$Heir" "allowedBy" "(I)I", Cond.superclass RX4 RX2, Cond.selects RX6 ⟨"TwiceAsRich$House", "allowedBy", "(I)I"⟩ yX3_allowedBy, Cond.selects RX9 ⟨"TwiceAsRich$House", "allowedBy", "(I)I"⟩ yX9_allowedBy, Cond.instanceMethod yX9_allowedBy, Cond.initialized RX9, Cond.code yX9_allowedBy cX9_allowedBy 2 (some .int), Cond.methodLink RX9 7 yX2_allowedBy, Cond.superclass RX9 RX2, Cond.selects RX10 ⟨"TwiceAsRich$House", "allowedBy", "(I)I"⟩ yX10_allowedBy]
def wsX11_free : List Cond := .code yX11_free cX11_free 3 (some .int) :: ((wsX11_free_r1 ++ (wsX11_free_r2 ++ (wsX11_free_r3 ++ (wsX11_free_r4 ++ wsX11_free_r5)))) ++ wsX110 ++ wsX70 ++ wsX00 ++ wsX10 ++ wsX20 ++ wsX30 ++ wsX40 ++ wsX60 ++ wsX90 ++ wsX100)
def wsX11_partingRefusal : List Cond := .code yX11_partingRefusal cX11_partingRefusal 2 (some .int) :: ([.fieldLink RX11 10 "TwiceAsRich" "street" "LTwiceAsRich$Street;", .fieldLink RX11 126 "TwiceAsRich$Street" "count" "I"] ++ wsX110 ++ wsX70)
def wsX11_partings_r1 : List Cond := [Cond.fieldLink RX11 34 "TwiceAsRich" "partings" "LTwiceAsRich$Partings;", Cond.fieldLink RX11 10 "TwiceAsRich" "street" "LTwiceAsRich$Street;", Cond.fieldLink RX11 162 "TwiceAsRich$Partings" "ways" "I", Cond.methodLink RX11 155 yX11_partingRefusal, Cond.instanceMethod yX11_partingRefusal, Cond.selects RX11 yX11_partingRefusal yX11_partingRefusal, Cond.initialized RX11, Cond.code yX11_partingRefusal cX11_partingRefusal 2 (some .int), Cond.fieldLink RX11 126 "TwiceAsRich$Street" "count" "I", Cond.methodLink RX11 158 yX5_search, Cond.instanceMethod yX5_search, Cond.selects RX5 yX5_search yX5_search, Cond.initialized RX5, Cond.code yX5_search cX5_search 4 none, Cond.fieldLink RX5 30 "TwiceAsRich$Partings" "ways" "I", Cond.fieldLink RX5 34 "TwiceAsRich$Partings" "uneven" "I", Cond.fieldLink RX5 37 "TwiceAsRich$Partings" "hands" "I", Cond.fieldLink RX5 40 "TwiceAsRich$Partings" "moved" "I", Cond.fieldLink RX5 9 "TwiceAsRich$Partings" "richest" "[I", Cond.fieldLink RX5 49 "TwiceAsRich$Street" "count" "I", Cond.fieldLink RX5 18 "TwiceAsRich$Partings" "parted" "LTwiceAsRich$Street;", Cond.fieldLink RX5 56 "TwiceAsRich$Street" "purses" "[I", Cond.fieldLink RX5 22 "TwiceAsRich$Partings" "before" "[I", Cond.methodLink RX5 59 arraycopyName]
def wsX11_partings_r2 : List Cond := [Cond.native arraycopyName, Cond.static arraycopyName, Cond.initialized "java/lang/System", Cond.methodLink RX5 43 yJ7_fill_53178, Cond.static yJ7_fill_53178, Cond.initialized RJ7, Cond.code yJ7_fill_53178 cJ7_fill_53178 4 none, Cond.methodLink RX5 52 yX7_become, Cond.instanceMethod yX7_become, Cond.selects RX7 yX7_become yX7_become, Cond.initialized RX7, Cond.code yX7_become cX7_become 3 none, Cond.fieldLink RX7 11 "TwiceAsRich$Street" "houses" "[LTwiceAsRich$House;", Cond.fieldLink RX7 17 "TwiceAsRich$Street" "purses" "[I", Cond.fieldLink RX7 21 "TwiceAsRich$Street" "count" "I", Cond.fieldLink RX7 25 "TwiceAsRich$Street" "round" "I", Cond.methodLink RX5 65 yX7_behind, Cond.instanceMethod yX7_behind, Cond.selects RX7 yX7_behind yX7_behind, Cond.code yX7_behind cX7_behind 2 (some .int), Cond.methodLink RX7 32 yX7_isClosed, Cond.instanceMethod yX7_isClosed, Cond.selects RX7 yX7_isClosed yX7_isClosed, Cond.code yX7_isClosed cX7_isClosed 1 (some .boolean)]
def wsX11_partings_r3 : List Cond := [Cond.methodLink RX5 69 yX5_noteWhatSuits, Cond.instanceMethod yX5_noteWhatSuits, Cond.selects RX5 yX5_noteWhatSuits yX5_noteWhatSuits, Cond.code yX5_noteWhatSuits cX5_noteWhatSuits 6 none, Cond.fieldLink RX5 27 "TwiceAsRich$Partings" "suits" "[[I", Cond.methodLink RX5 77 yX7_limitBy, Cond.instanceMethod yX7_limitBy, Cond.selects RX7 yX7_limitBy yX7_limitBy, Cond.code yX7_limitBy cX7_limitBy 3 (some .int), Cond.constant RX7 39 (1000000), Cond.methodLink RX7 36 ⟨"TwiceAsRich$House", "isLookedAt", "()Z"⟩, Cond.sameMethod "TwiceAsRich$House" "TwiceAsRich$House" "isLookedAt" "()Z", Cond.selects RX0 ⟨"TwiceAsRich$House", "isLookedAt", "()Z"⟩ yX3_isLookedAt, Cond.instanceMethod yX3_isLookedAt, Cond.initialized RX3, Cond.code yX3_isLookedAt cX3_isLookedAt 1 (some .boolean), Cond.instanceMethod ⟨"TwiceAsRich$House", "isLookedAt", "()Z"⟩, Cond.selects RX1 ⟨"TwiceAsRich$House", "isLookedAt", "()Z"⟩ yX1_isLookedAt, Cond.instanceMethod yX1_isLookedAt, Cond.initialized RX1, Cond.code yX1_isLookedAt cX1_isLookedAt 1 (some .boolean), Cond.selects RX2 ⟨"TwiceAsRich$House", "isLookedAt", "()Z"⟩ yX3_isLookedAt, Cond.methodLink RX7 36 yX3_isLookedAt, Cond.selects RX3 yX3_isLookedAt yX3_isLookedAt]
def wsX11_partings_r4 : List Cond := [Cond.selects RX4 ⟨"TwiceAsRich$House", "isLookedAt", "()Z"⟩ yX3_isLookedAt, Cond.selects RX6 ⟨"TwiceAsRich$House", "isLookedAt", "()Z"⟩ yX3_isLookedAt, Cond.selects RX9 ⟨"TwiceAsRich$House", "isLookedAt", "()Z"⟩ yX3_isLookedAt, Cond.selects RX10 ⟨"TwiceAsRich$House", "isLookedAt", "()Z"⟩ yX10_isLookedAt, Cond.instanceMethod yX10_isLookedAt, Cond.initialized RX10, Cond.code yX10_isLookedAt cX10_isLookedAt 1 (some .boolean), Cond.methodLink RX7 40 ⟨"TwiceAsRich$House", "shownOf", "(I)I"⟩, Cond.sameMethod "TwiceAsRich$House" "TwiceAsRich$House" "shownOf" "(I)I", Cond.instanceMethod ⟨"TwiceAsRich$House", "shownOf", "(I)I"⟩, Cond.selects RX0 ⟨"TwiceAsRich$House", "shownOf", "(I)I"⟩ yX0_shownOf, Cond.instanceMethod yX0_shownOf, Cond.initialized RX0, Cond.code yX0_shownOf cX0_shownOf 2 (some .int), Cond.fieldLink RX0 11 "TwiceAsRich$Beggar" "figure" "I", Cond.sameField "TwiceAsRich$Beggar" "TwiceAsRich$House" "figure" "I", Cond.methodLink RX0 7 yX6_shownOf, Cond.sameMethod "TwiceAsRich$Priest" "TwiceAsRich$Priest" "shownOf" "(I)I", Cond.superclass RX0 RX6, Cond.instanceMethod yX6_shownOf, Cond.initialized RX6, Cond.code yX6_shownOf cX6_shownOf 2 (some .int), Cond.methodLink RX6 7 yX3_shownOf, Cond.superclass RX6 RX3]
def wsX11_partings_r5 : List Cond := [Cond.instanceMethod yX3_shownOf, Cond.code yX3_shownOf cX3_shownOf 2 (some .int), Cond.selects RX1 ⟨"TwiceAsRich$House", "shownOf", "(I)I"⟩ yX3_shownOf, Cond.selects RX2 ⟨"TwiceAsRich$House", "shownOf", "(I)I"⟩ yX3_shownOf, Cond.methodLink RX7 40 yX3_shownOf, Cond.selects RX3 yX3_shownOf yX3_shownOf, Cond.selects RX4 ⟨"TwiceAsRich$House", "shownOf", "(I)I"⟩ yX4_shownOf, Cond.instanceMethod yX4_shownOf, Cond.initialized RX4, Cond.code yX4_shownOf cX4_shownOf 2 (some .int), Cond.selects RX6 ⟨"TwiceAsRich$House", "shownOf", "(I)I"⟩ yX6_shownOf, Cond.selects RX9 ⟨"TwiceAsRich$House", "shownOf", "(I)I"⟩ yX3_shownOf, Cond.selects RX10 ⟨"TwiceAsRich$House", "shownOf", "(I)I"⟩ yX3_shownOf, Cond.methodLink RX7 44 ⟨"TwiceAsRich$House", "allowedBy", "(I)I"⟩, Cond.sameMethod "TwiceAsRich$House" "TwiceAsRich$House" "allowedBy" "(I)I", Cond.selects RX0 ⟨"TwiceAsRich$House", "allowedBy", "(I)I"⟩ yX3_allowedBy, Cond.instanceMethod yX3_allowedBy, Cond.code yX3_allowedBy cX3_allowedBy 2 (some .int), Cond.instanceMethod ⟨"TwiceAsRich$House", "allowedBy", "(I)I"⟩, Cond.selects RX1 ⟨"TwiceAsRich$House", "allowedBy", "(I)I"⟩ yX10_allowedBy, Cond.instanceMethod yX10_allowedBy, Cond.code yX10_allowedBy cX10_allowedBy 2 (some .int), Cond.selects RX2 ⟨"TwiceAsRich$House", "allowedBy", "(I)I"⟩ yX2_allowedBy, Cond.instanceMethod yX2_allowedBy]
def wsX11_partings_r6 : List Cond := [Cond.initialized RX2, Cond.code yX2_allowedBy cX2_allowedBy 2 (some .int), Cond.fieldLink RX2 11 "TwiceAsRich$Heir" "figure" "I", Cond.sameField "TwiceAsRich$Heir" "TwiceAsRich$House" "figure" "I", Cond.methodLink RX2 7 yX3_allowedBy, Cond.superclass RX2 RX3, Cond.methodLink RX7 44 yX3_allowedBy, Cond.selects RX3 yX3_allowedBy yX3_allowedBy, Cond.selects RX4 ⟨"TwiceAsRich$House", "allowedBy", "(I)I"⟩ yX4_allowedBy, Cond.instanceMethod yX4_allowedBy, Cond.code yX4_allowedBy cX4_allowedBy 2 (some .int), Cond.methodLink RX4 14 Lib.Math.max.name, Cond.static Lib.Math.max.name, Cond.initialized "java/lang/Math", Cond.code Lib.Math.max.name Lib.Math.max.code 2 (some .int), Cond.methodLink RX4 11 yX2_allowedBy, Cond.sameMethod "TwiceAsRich$Heir" "TwiceAsRich$Heir" "allowedBy" "(I)I", Cond.superclass RX4 RX2, Cond.selects RX6 ⟨"TwiceAsRich$House", "allowedBy", "(I)I"⟩ yX3_allowedBy, Cond.selects RX9 ⟨"TwiceAsRich$House", "allowedBy", "(I)I"⟩ yX9_allowedBy, Cond.instanceMethod yX9_allowedBy, Cond.initialized RX9, Cond.code yX9_allowedBy cX9_allowedBy 2 (some .int), Cond.methodLink RX9 7 yX2_allowedBy]
def wsX11_partings_r7 : List Cond := [Cond.superclass RX9 RX2, Cond.selects RX10 ⟨"TwiceAsRich$House", "allowedBy", "(I)I"⟩ yX10_allowedBy, Cond.methodLink RX5 73 yX5_part, Cond.instanceMethod yX5_part, Cond.selects RX5 yX5_part yX5_part, Cond.code yX5_part cX5_part 6 none, Cond.methodLink RX5 88 Lib.Math.max.name, Cond.methodLink RX5 81 yX5_isClosedWell, Cond.instanceMethod yX5_isClosedWell, Cond.selects RX5 yX5_isClosedWell yX5_isClosedWell, Cond.code yX5_isClosedWell cX5_isClosedWell 1 (some .boolean), Cond.methodLink RX5 97 yX7_isClosed, Cond.methodLink RX5 93 yX5_suit, Cond.instanceMethod yX5_suit, Cond.selects RX5 yX5_suit yX5_suit, Cond.code yX5_suit cX5_suit 3 (some .boolean), Cond.methodLink RX5 85 yX5_note, Cond.instanceMethod yX5_note, Cond.selects RX5 yX5_note yX5_note, Cond.code yX5_note cX5_note 2 none, Cond.methodLink RX5 107 Lib.Math.min.name, Cond.static Lib.Math.min.name, Cond.code Lib.Math.min.name Lib.Math.min.code 2 (some .int), Cond.methodLink RX5 100 yX5_difference]
def wsX11_partings_r8 : List Cond := [Cond.instanceMethod yX5_difference, Cond.selects RX5 yX5_difference yX5_difference, Cond.code yX5_difference cX5_difference 4 (some .int), Cond.methodLink RX5 104 yX5_handed, Cond.instanceMethod yX5_handed, Cond.selects RX5 yX5_handed yX5_handed, Cond.code yX5_handed cX5_handed 4 (some .int), Cond.methodLink RX5 113 Lib.Math.abs.name, Cond.static Lib.Math.abs.name, Cond.code Lib.Math.abs.name Lib.Math.abs.code 1 (some .int), Cond.methodLink RX5 110 yX5_moving, Cond.instanceMethod yX5_moving, Cond.selects RX5 yX5_moving yX5_moving, Cond.code yX5_moving cX5_moving 3 (some .int)]
def wsX11_partings : List Cond := .code yX11_partings cX11_partings 3 (some .int) :: ((wsX11_partings_r1 ++ (wsX11_partings_r2 ++ (wsX11_partings_r3 ++ (wsX11_partings_r4 ++ (wsX11_partings_r5 ++ (wsX11_partings_r6 ++ (wsX11_partings_r7 ++ wsX11_partings_r8))))))) ++ wsX110 ++ wsX50 ++ wsX70 ++ wsX00 ++ wsX10 ++ wsX20 ++ wsX30 ++ wsX40 ++ wsX60 ++ wsX90 ++ wsX100)
def wsX11_uneven_r1 : List Cond := [Cond.fieldLink RX11 34 "TwiceAsRich" "partings" "LTwiceAsRich$Partings;", Cond.fieldLink RX11 10 "TwiceAsRich" "street" "LTwiceAsRich$Street;", Cond.fieldLink RX11 162 "TwiceAsRich$Partings" "ways" "I", Cond.fieldLink RX11 165 "TwiceAsRich$Partings" "uneven" "I", Cond.methodLink RX11 155 yX11_partingRefusal, Cond.instanceMethod yX11_partingRefusal, Cond.selects RX11 yX11_partingRefusal yX11_partingRefusal, Cond.initialized RX11, Cond.code yX11_partingRefusal cX11_partingRefusal 2 (some .int), Cond.fieldLink RX11 126 "TwiceAsRich$Street" "count" "I", Cond.methodLink RX11 158 yX5_search, Cond.instanceMethod yX5_search, Cond.selects RX5 yX5_search yX5_search, Cond.initialized RX5, Cond.code yX5_search cX5_search 4 none, Cond.fieldLink RX5 30 "TwiceAsRich$Partings" "ways" "I", Cond.fieldLink RX5 34 "TwiceAsRich$Partings" "uneven" "I", Cond.fieldLink RX5 37 "TwiceAsRich$Partings" "hands" "I", Cond.fieldLink RX5 40 "TwiceAsRich$Partings" "moved" "I", Cond.fieldLink RX5 9 "TwiceAsRich$Partings" "richest" "[I", Cond.fieldLink RX5 49 "TwiceAsRich$Street" "count" "I", Cond.fieldLink RX5 18 "TwiceAsRich$Partings" "parted" "LTwiceAsRich$Street;", Cond.fieldLink RX5 56 "TwiceAsRich$Street" "purses" "[I", Cond.fieldLink RX5 22 "TwiceAsRich$Partings" "before" "[I"]
def wsX11_uneven_r2 : List Cond := [Cond.methodLink RX5 59 arraycopyName, Cond.native arraycopyName, Cond.static arraycopyName, Cond.initialized "java/lang/System", Cond.methodLink RX5 43 yJ7_fill_53178, Cond.static yJ7_fill_53178, Cond.initialized RJ7, Cond.code yJ7_fill_53178 cJ7_fill_53178 4 none, Cond.methodLink RX5 52 yX7_become, Cond.instanceMethod yX7_become, Cond.selects RX7 yX7_become yX7_become, Cond.initialized RX7, Cond.code yX7_become cX7_become 3 none, Cond.fieldLink RX7 11 "TwiceAsRich$Street" "houses" "[LTwiceAsRich$House;", Cond.fieldLink RX7 17 "TwiceAsRich$Street" "purses" "[I", Cond.fieldLink RX7 21 "TwiceAsRich$Street" "count" "I", Cond.fieldLink RX7 25 "TwiceAsRich$Street" "round" "I", Cond.methodLink RX5 65 yX7_behind, Cond.instanceMethod yX7_behind, Cond.selects RX7 yX7_behind yX7_behind, Cond.code yX7_behind cX7_behind 2 (some .int), Cond.methodLink RX7 32 yX7_isClosed, Cond.instanceMethod yX7_isClosed, Cond.selects RX7 yX7_isClosed yX7_isClosed]
def wsX11_uneven_r3 : List Cond := [Cond.code yX7_isClosed cX7_isClosed 1 (some .boolean), Cond.methodLink RX5 69 yX5_noteWhatSuits, Cond.instanceMethod yX5_noteWhatSuits, Cond.selects RX5 yX5_noteWhatSuits yX5_noteWhatSuits, Cond.code yX5_noteWhatSuits cX5_noteWhatSuits 6 none, Cond.fieldLink RX5 27 "TwiceAsRich$Partings" "suits" "[[I", Cond.methodLink RX5 77 yX7_limitBy, Cond.instanceMethod yX7_limitBy, Cond.selects RX7 yX7_limitBy yX7_limitBy, Cond.code yX7_limitBy cX7_limitBy 3 (some .int), Cond.constant RX7 39 (1000000), Cond.methodLink RX7 36 ⟨"TwiceAsRich$House", "isLookedAt", "()Z"⟩, Cond.sameMethod "TwiceAsRich$House" "TwiceAsRich$House" "isLookedAt" "()Z", Cond.selects RX0 ⟨"TwiceAsRich$House", "isLookedAt", "()Z"⟩ yX3_isLookedAt, Cond.instanceMethod yX3_isLookedAt, Cond.initialized RX3, Cond.code yX3_isLookedAt cX3_isLookedAt 1 (some .boolean), Cond.instanceMethod ⟨"TwiceAsRich$House", "isLookedAt", "()Z"⟩, Cond.selects RX1 ⟨"TwiceAsRich$House", "isLookedAt", "()Z"⟩ yX1_isLookedAt, Cond.instanceMethod yX1_isLookedAt, Cond.initialized RX1, Cond.code yX1_isLookedAt cX1_isLookedAt 1 (some .boolean), Cond.selects RX2 ⟨"TwiceAsRich$House", "isLookedAt", "()Z"⟩ yX3_isLookedAt, Cond.methodLink RX7 36 yX3_isLookedAt]
def wsX11_uneven_r4 : List Cond := [Cond.selects RX3 yX3_isLookedAt yX3_isLookedAt, Cond.selects RX4 ⟨"TwiceAsRich$House", "isLookedAt", "()Z"⟩ yX3_isLookedAt, Cond.selects RX6 ⟨"TwiceAsRich$House", "isLookedAt", "()Z"⟩ yX3_isLookedAt, Cond.selects RX9 ⟨"TwiceAsRich$House", "isLookedAt", "()Z"⟩ yX3_isLookedAt, Cond.selects RX10 ⟨"TwiceAsRich$House", "isLookedAt", "()Z"⟩ yX10_isLookedAt, Cond.instanceMethod yX10_isLookedAt, Cond.initialized RX10, Cond.code yX10_isLookedAt cX10_isLookedAt 1 (some .boolean), Cond.methodLink RX7 40 ⟨"TwiceAsRich$House", "shownOf", "(I)I"⟩, Cond.sameMethod "TwiceAsRich$House" "TwiceAsRich$House" "shownOf" "(I)I", Cond.instanceMethod ⟨"TwiceAsRich$House", "shownOf", "(I)I"⟩, Cond.selects RX0 ⟨"TwiceAsRich$House", "shownOf", "(I)I"⟩ yX0_shownOf, Cond.instanceMethod yX0_shownOf, Cond.initialized RX0, Cond.code yX0_shownOf cX0_shownOf 2 (some .int), Cond.fieldLink RX0 11 "TwiceAsRich$Beggar" "figure" "I", Cond.sameField "TwiceAsRich$Beggar" "TwiceAsRich$House" "figure" "I", Cond.methodLink RX0 7 yX6_shownOf, Cond.sameMethod "TwiceAsRich$Priest" "TwiceAsRich$Priest" "shownOf" "(I)I", Cond.superclass RX0 RX6, Cond.instanceMethod yX6_shownOf, Cond.initialized RX6, Cond.code yX6_shownOf cX6_shownOf 2 (some .int), Cond.methodLink RX6 7 yX3_shownOf]
def wsX11_uneven_r5 : List Cond := [Cond.superclass RX6 RX3, Cond.instanceMethod yX3_shownOf, Cond.code yX3_shownOf cX3_shownOf 2 (some .int), Cond.selects RX1 ⟨"TwiceAsRich$House", "shownOf", "(I)I"⟩ yX3_shownOf, Cond.selects RX2 ⟨"TwiceAsRich$House", "shownOf", "(I)I"⟩ yX3_shownOf, Cond.methodLink RX7 40 yX3_shownOf, Cond.selects RX3 yX3_shownOf yX3_shownOf, Cond.selects RX4 ⟨"TwiceAsRich$House", "shownOf", "(I)I"⟩ yX4_shownOf, Cond.instanceMethod yX4_shownOf, Cond.initialized RX4, Cond.code yX4_shownOf cX4_shownOf 2 (some .int), Cond.selects RX6 ⟨"TwiceAsRich$House", "shownOf", "(I)I"⟩ yX6_shownOf, Cond.selects RX9 ⟨"TwiceAsRich$House", "shownOf", "(I)I"⟩ yX3_shownOf, Cond.selects RX10 ⟨"TwiceAsRich$House", "shownOf", "(I)I"⟩ yX3_shownOf, Cond.methodLink RX7 44 ⟨"TwiceAsRich$House", "allowedBy", "(I)I"⟩, Cond.sameMethod "TwiceAsRich$House" "TwiceAsRich$House" "allowedBy" "(I)I", Cond.selects RX0 ⟨"TwiceAsRich$House", "allowedBy", "(I)I"⟩ yX3_allowedBy, Cond.instanceMethod yX3_allowedBy, Cond.code yX3_allowedBy cX3_allowedBy 2 (some .int), Cond.instanceMethod ⟨"TwiceAsRich$House", "allowedBy", "(I)I"⟩, Cond.selects RX1 ⟨"TwiceAsRich$House", "allowedBy", "(I)I"⟩ yX10_allowedBy, Cond.instanceMethod yX10_allowedBy, Cond.code yX10_allowedBy cX10_allowedBy 2 (some .int), Cond.selects RX2 ⟨"TwiceAsRich$House", "allowedBy", "(I)I"⟩ yX2_allowedBy]
def wsX11_uneven_r6 : List Cond := [Cond.instanceMethod yX2_allowedBy, Cond.initialized RX2, Cond.code yX2_allowedBy cX2_allowedBy 2 (some .int), Cond.fieldLink RX2 11 "TwiceAsRich$Heir" "figure" "I", Cond.sameField "TwiceAsRich$Heir" "TwiceAsRich$House" "figure" "I", Cond.methodLink RX2 7 yX3_allowedBy, Cond.superclass RX2 RX3, Cond.methodLink RX7 44 yX3_allowedBy, Cond.selects RX3 yX3_allowedBy yX3_allowedBy, Cond.selects RX4 ⟨"TwiceAsRich$House", "allowedBy", "(I)I"⟩ yX4_allowedBy, Cond.instanceMethod yX4_allowedBy, Cond.code yX4_allowedBy cX4_allowedBy 2 (some .int), Cond.methodLink RX4 14 Lib.Math.max.name, Cond.static Lib.Math.max.name, Cond.initialized "java/lang/Math", Cond.code Lib.Math.max.name Lib.Math.max.code 2 (some .int), Cond.methodLink RX4 11 yX2_allowedBy, Cond.sameMethod "TwiceAsRich$Heir" "TwiceAsRich$Heir" "allowedBy" "(I)I", Cond.superclass RX4 RX2, Cond.selects RX6 ⟨"TwiceAsRich$House", "allowedBy", "(I)I"⟩ yX3_allowedBy, Cond.selects RX9 ⟨"TwiceAsRich$House", "allowedBy", "(I)I"⟩ yX9_allowedBy, Cond.instanceMethod yX9_allowedBy, Cond.initialized RX9, Cond.code yX9_allowedBy cX9_allowedBy 2 (some .int)]
def wsX11_uneven_r7 : List Cond := [Cond.methodLink RX9 7 yX2_allowedBy, Cond.superclass RX9 RX2, Cond.selects RX10 ⟨"TwiceAsRich$House", "allowedBy", "(I)I"⟩ yX10_allowedBy, Cond.methodLink RX5 73 yX5_part, Cond.instanceMethod yX5_part, Cond.selects RX5 yX5_part yX5_part, Cond.code yX5_part cX5_part 6 none, Cond.methodLink RX5 88 Lib.Math.max.name, Cond.methodLink RX5 81 yX5_isClosedWell, Cond.instanceMethod yX5_isClosedWell, Cond.selects RX5 yX5_isClosedWell yX5_isClosedWell, Cond.code yX5_isClosedWell cX5_isClosedWell 1 (some .boolean), Cond.methodLink RX5 97 yX7_isClosed, Cond.methodLink RX5 93 yX5_suit, Cond.instanceMethod yX5_suit, Cond.selects RX5 yX5_suit yX5_suit, Cond.code yX5_suit cX5_suit 3 (some .boolean), Cond.methodLink RX5 85 yX5_note, Cond.instanceMethod yX5_note, Cond.selects RX5 yX5_note yX5_note, Cond.code yX5_note cX5_note 2 none, Cond.methodLink RX5 107 Lib.Math.min.name, Cond.static Lib.Math.min.name, Cond.code Lib.Math.min.name Lib.Math.min.code 2 (some .int)]
def wsX11_uneven_r8 : List Cond := [Cond.methodLink RX5 100 yX5_difference, Cond.instanceMethod yX5_difference, Cond.selects RX5 yX5_difference yX5_difference, Cond.code yX5_difference cX5_difference 4 (some .int), Cond.methodLink RX5 104 yX5_handed, Cond.instanceMethod yX5_handed, Cond.selects RX5 yX5_handed yX5_handed, Cond.code yX5_handed cX5_handed 4 (some .int), Cond.methodLink RX5 113 Lib.Math.abs.name, Cond.static Lib.Math.abs.name, Cond.code Lib.Math.abs.name Lib.Math.abs.code 1 (some .int), Cond.methodLink RX5 110 yX5_moving, Cond.instanceMethod yX5_moving, Cond.selects RX5 yX5_moving yX5_moving, Cond.code yX5_moving cX5_moving 3 (some .int)]
def wsX11_uneven : List Cond := .code yX11_uneven cX11_uneven 3 (some .int) :: ((wsX11_uneven_r1 ++ (wsX11_uneven_r2 ++ (wsX11_uneven_r3 ++ (wsX11_uneven_r4 ++ (wsX11_uneven_r5 ++ (wsX11_uneven_r6 ++ (wsX11_uneven_r7 ++ wsX11_uneven_r8))))))) ++ wsX110 ++ wsX50 ++ wsX70 ++ wsX00 ++ wsX10 ++ wsX20 ++ wsX30 ++ wsX40 ++ wsX60 ++ wsX90 ++ wsX100)
def wsX11_richest_r1 : List Cond := [Cond.fieldLink RX11 10 "TwiceAsRich" "street" "LTwiceAsRich$Street;", Cond.fieldLink RX11 34 "TwiceAsRich" "partings" "LTwiceAsRich$Partings;", Cond.fieldLink RX11 162 "TwiceAsRich$Partings" "ways" "I", Cond.fieldLink RX11 168 "TwiceAsRich$Partings" "richest" "[I", Cond.methodLink RX11 89 yX7_has, Cond.instanceMethod yX7_has, Cond.selects RX7 yX7_has yX7_has, Cond.initialized RX7, Cond.code yX7_has cX7_has 2 (some .boolean), Cond.fieldLink RX7 21 "TwiceAsRich$Street" "count" "I", Cond.methodLink RX11 155 yX11_partingRefusal, Cond.instanceMethod yX11_partingRefusal, Cond.selects RX11 yX11_partingRefusal yX11_partingRefusal, Cond.initialized RX11, Cond.code yX11_partingRefusal cX11_partingRefusal 2 (some .int), Cond.fieldLink RX11 126 "TwiceAsRich$Street" "count" "I", Cond.methodLink RX11 158 yX5_search, Cond.instanceMethod yX5_search, Cond.selects RX5 yX5_search yX5_search, Cond.initialized RX5, Cond.code yX5_search cX5_search 4 none, Cond.fieldLink RX5 30 "TwiceAsRich$Partings" "ways" "I", Cond.fieldLink RX5 34 "TwiceAsRich$Partings" "uneven" "I", Cond.fieldLink RX5 37 "TwiceAsRich$Partings" "hands" "I"]
def wsX11_richest_r2 : List Cond := [Cond.fieldLink RX5 40 "TwiceAsRich$Partings" "moved" "I", Cond.fieldLink RX5 9 "TwiceAsRich$Partings" "richest" "[I", Cond.fieldLink RX5 49 "TwiceAsRich$Street" "count" "I", Cond.fieldLink RX5 18 "TwiceAsRich$Partings" "parted" "LTwiceAsRich$Street;", Cond.fieldLink RX5 56 "TwiceAsRich$Street" "purses" "[I", Cond.fieldLink RX5 22 "TwiceAsRich$Partings" "before" "[I", Cond.methodLink RX5 59 arraycopyName, Cond.native arraycopyName, Cond.static arraycopyName, Cond.initialized "java/lang/System", Cond.methodLink RX5 43 yJ7_fill_53178, Cond.static yJ7_fill_53178, Cond.initialized RJ7, Cond.code yJ7_fill_53178 cJ7_fill_53178 4 none, Cond.methodLink RX5 52 yX7_become, Cond.instanceMethod yX7_become, Cond.selects RX7 yX7_become yX7_become, Cond.code yX7_become cX7_become 3 none, Cond.fieldLink RX7 11 "TwiceAsRich$Street" "houses" "[LTwiceAsRich$House;", Cond.fieldLink RX7 17 "TwiceAsRich$Street" "purses" "[I", Cond.fieldLink RX7 25 "TwiceAsRich$Street" "round" "I", Cond.methodLink RX5 65 yX7_behind, Cond.instanceMethod yX7_behind, Cond.selects RX7 yX7_behind yX7_behind]
def wsX11_richest_r3 : List Cond := [Cond.code yX7_behind cX7_behind 2 (some .int), Cond.methodLink RX7 32 yX7_isClosed, Cond.instanceMethod yX7_isClosed, Cond.selects RX7 yX7_isClosed yX7_isClosed, Cond.code yX7_isClosed cX7_isClosed 1 (some .boolean), Cond.methodLink RX5 69 yX5_noteWhatSuits, Cond.instanceMethod yX5_noteWhatSuits, Cond.selects RX5 yX5_noteWhatSuits yX5_noteWhatSuits, Cond.code yX5_noteWhatSuits cX5_noteWhatSuits 6 none, Cond.fieldLink RX5 27 "TwiceAsRich$Partings" "suits" "[[I", Cond.methodLink RX5 77 yX7_limitBy, Cond.instanceMethod yX7_limitBy, Cond.selects RX7 yX7_limitBy yX7_limitBy, Cond.code yX7_limitBy cX7_limitBy 3 (some .int), Cond.constant RX7 39 (1000000), Cond.methodLink RX7 36 ⟨"TwiceAsRich$House", "isLookedAt", "()Z"⟩, Cond.sameMethod "TwiceAsRich$House" "TwiceAsRich$House" "isLookedAt" "()Z", Cond.selects RX0 ⟨"TwiceAsRich$House", "isLookedAt", "()Z"⟩ yX3_isLookedAt, Cond.instanceMethod yX3_isLookedAt, Cond.initialized RX3, Cond.code yX3_isLookedAt cX3_isLookedAt 1 (some .boolean), Cond.instanceMethod ⟨"TwiceAsRich$House", "isLookedAt", "()Z"⟩, Cond.selects RX1 ⟨"TwiceAsRich$House", "isLookedAt", "()Z"⟩ yX1_isLookedAt, Cond.instanceMethod yX1_isLookedAt]
def wsX11_richest_r4 : List Cond := [Cond.initialized RX1, Cond.code yX1_isLookedAt cX1_isLookedAt 1 (some .boolean), Cond.selects RX2 ⟨"TwiceAsRich$House", "isLookedAt", "()Z"⟩ yX3_isLookedAt, Cond.methodLink RX7 36 yX3_isLookedAt, Cond.selects RX3 yX3_isLookedAt yX3_isLookedAt, Cond.selects RX4 ⟨"TwiceAsRich$House", "isLookedAt", "()Z"⟩ yX3_isLookedAt, Cond.selects RX6 ⟨"TwiceAsRich$House", "isLookedAt", "()Z"⟩ yX3_isLookedAt, Cond.selects RX9 ⟨"TwiceAsRich$House", "isLookedAt", "()Z"⟩ yX3_isLookedAt, Cond.selects RX10 ⟨"TwiceAsRich$House", "isLookedAt", "()Z"⟩ yX10_isLookedAt, Cond.instanceMethod yX10_isLookedAt, Cond.initialized RX10, Cond.code yX10_isLookedAt cX10_isLookedAt 1 (some .boolean), Cond.methodLink RX7 40 ⟨"TwiceAsRich$House", "shownOf", "(I)I"⟩, Cond.sameMethod "TwiceAsRich$House" "TwiceAsRich$House" "shownOf" "(I)I", Cond.instanceMethod ⟨"TwiceAsRich$House", "shownOf", "(I)I"⟩, Cond.selects RX0 ⟨"TwiceAsRich$House", "shownOf", "(I)I"⟩ yX0_shownOf, Cond.instanceMethod yX0_shownOf, Cond.initialized RX0, Cond.code yX0_shownOf cX0_shownOf 2 (some .int), Cond.fieldLink RX0 11 "TwiceAsRich$Beggar" "figure" "I", Cond.sameField "TwiceAsRich$Beggar" "TwiceAsRich$House" "figure" "I", Cond.methodLink RX0 7 yX6_shownOf, Cond.sameMethod "TwiceAsRich$Priest" "TwiceAsRich$Priest" "shownOf" "(I)I", Cond.superclass RX0 RX6]
def wsX11_richest_r5 : List Cond := [Cond.instanceMethod yX6_shownOf, Cond.initialized RX6, Cond.code yX6_shownOf cX6_shownOf 2 (some .int), Cond.methodLink RX6 7 yX3_shownOf, Cond.superclass RX6 RX3, Cond.instanceMethod yX3_shownOf, Cond.code yX3_shownOf cX3_shownOf 2 (some .int), Cond.selects RX1 ⟨"TwiceAsRich$House", "shownOf", "(I)I"⟩ yX3_shownOf, Cond.selects RX2 ⟨"TwiceAsRich$House", "shownOf", "(I)I"⟩ yX3_shownOf, Cond.methodLink RX7 40 yX3_shownOf, Cond.selects RX3 yX3_shownOf yX3_shownOf, Cond.selects RX4 ⟨"TwiceAsRich$House", "shownOf", "(I)I"⟩ yX4_shownOf, Cond.instanceMethod yX4_shownOf, Cond.initialized RX4, Cond.code yX4_shownOf cX4_shownOf 2 (some .int), Cond.selects RX6 ⟨"TwiceAsRich$House", "shownOf", "(I)I"⟩ yX6_shownOf, Cond.selects RX9 ⟨"TwiceAsRich$House", "shownOf", "(I)I"⟩ yX3_shownOf, Cond.selects RX10 ⟨"TwiceAsRich$House", "shownOf", "(I)I"⟩ yX3_shownOf, Cond.methodLink RX7 44 ⟨"TwiceAsRich$House", "allowedBy", "(I)I"⟩, Cond.sameMethod "TwiceAsRich$House" "TwiceAsRich$House" "allowedBy" "(I)I", Cond.selects RX0 ⟨"TwiceAsRich$House", "allowedBy", "(I)I"⟩ yX3_allowedBy, Cond.instanceMethod yX3_allowedBy, Cond.code yX3_allowedBy cX3_allowedBy 2 (some .int), Cond.instanceMethod ⟨"TwiceAsRich$House", "allowedBy", "(I)I"⟩]
def wsX11_richest_r6 : List Cond := [Cond.selects RX1 ⟨"TwiceAsRich$House", "allowedBy", "(I)I"⟩ yX10_allowedBy, Cond.instanceMethod yX10_allowedBy, Cond.code yX10_allowedBy cX10_allowedBy 2 (some .int), Cond.selects RX2 ⟨"TwiceAsRich$House", "allowedBy", "(I)I"⟩ yX2_allowedBy, Cond.instanceMethod yX2_allowedBy, Cond.initialized RX2, Cond.code yX2_allowedBy cX2_allowedBy 2 (some .int), Cond.fieldLink RX2 11 "TwiceAsRich$Heir" "figure" "I", Cond.sameField "TwiceAsRich$Heir" "TwiceAsRich$House" "figure" "I", Cond.methodLink RX2 7 yX3_allowedBy, Cond.superclass RX2 RX3, Cond.methodLink RX7 44 yX3_allowedBy, Cond.selects RX3 yX3_allowedBy yX3_allowedBy, Cond.selects RX4 ⟨"TwiceAsRich$House", "allowedBy", "(I)I"⟩ yX4_allowedBy, Cond.instanceMethod yX4_allowedBy, Cond.code yX4_allowedBy cX4_allowedBy 2 (some .int), Cond.methodLink RX4 14 Lib.Math.max.name, Cond.static Lib.Math.max.name, Cond.initialized "java/lang/Math", Cond.code Lib.Math.max.name Lib.Math.max.code 2 (some .int), Cond.methodLink RX4 11 yX2_allowedBy, Cond.sameMethod "TwiceAsRich$Heir" "TwiceAsRich$Heir" "allowedBy" "(I)I", Cond.superclass RX4 RX2, Cond.selects RX6 ⟨"TwiceAsRich$House", "allowedBy", "(I)I"⟩ yX3_allowedBy]
def wsX11_richest_r7 : List Cond := [Cond.selects RX9 ⟨"TwiceAsRich$House", "allowedBy", "(I)I"⟩ yX9_allowedBy, Cond.instanceMethod yX9_allowedBy, Cond.initialized RX9, Cond.code yX9_allowedBy cX9_allowedBy 2 (some .int), Cond.methodLink RX9 7 yX2_allowedBy, Cond.superclass RX9 RX2, Cond.selects RX10 ⟨"TwiceAsRich$House", "allowedBy", "(I)I"⟩ yX10_allowedBy, Cond.methodLink RX5 73 yX5_part, Cond.instanceMethod yX5_part, Cond.selects RX5 yX5_part yX5_part, Cond.code yX5_part cX5_part 6 none, Cond.methodLink RX5 88 Lib.Math.max.name, Cond.methodLink RX5 81 yX5_isClosedWell, Cond.instanceMethod yX5_isClosedWell, Cond.selects RX5 yX5_isClosedWell yX5_isClosedWell, Cond.code yX5_isClosedWell cX5_isClosedWell 1 (some .boolean), Cond.methodLink RX5 97 yX7_isClosed, Cond.methodLink RX5 93 yX5_suit, Cond.instanceMethod yX5_suit, Cond.selects RX5 yX5_suit yX5_suit, Cond.code yX5_suit cX5_suit 3 (some .boolean), Cond.methodLink RX5 85 yX5_note, Cond.instanceMethod yX5_note, Cond.selects RX5 yX5_note yX5_note]
def wsX11_richest_r8 : List Cond := [Cond.code yX5_note cX5_note 2 none, Cond.methodLink RX5 107 Lib.Math.min.name, Cond.static Lib.Math.min.name, Cond.code Lib.Math.min.name Lib.Math.min.code 2 (some .int), Cond.methodLink RX5 100 yX5_difference, Cond.instanceMethod yX5_difference, Cond.selects RX5 yX5_difference yX5_difference, Cond.code yX5_difference cX5_difference 4 (some .int), Cond.methodLink RX5 104 yX5_handed, Cond.instanceMethod yX5_handed, Cond.selects RX5 yX5_handed yX5_handed, Cond.code yX5_handed cX5_handed 4 (some .int), Cond.methodLink RX5 113 Lib.Math.abs.name, Cond.static Lib.Math.abs.name, Cond.code Lib.Math.abs.name Lib.Math.abs.code 1 (some .int), Cond.methodLink RX5 110 yX5_moving, Cond.instanceMethod yX5_moving, Cond.selects RX5 yX5_moving yX5_moving, Cond.code yX5_moving cX5_moving 3 (some .int)]
def wsX11_richest : List Cond := .code yX11_richest cX11_richest 4 (some .int) :: ((wsX11_richest_r1 ++ (wsX11_richest_r2 ++ (wsX11_richest_r3 ++ (wsX11_richest_r4 ++ (wsX11_richest_r5 ++ (wsX11_richest_r6 ++ (wsX11_richest_r7 ++ wsX11_richest_r8))))))) ++ wsX110 ++ wsX50 ++ wsX70 ++ wsX00 ++ wsX10 ++ wsX20 ++ wsX30 ++ wsX40 ++ wsX60 ++ wsX90 ++ wsX100)
def wsX11_canBeParted : List Cond := .code yX11_canBeParted cX11_canBeParted 1 (some .boolean) :: ([.fieldLink RX11 10 "TwiceAsRich" "street" "LTwiceAsRich$Street;", .fieldLink RX11 126 "TwiceAsRich$Street" "count" "I", .methodLink RX11 143 yX7_allCoins, .instanceMethod yX7_allCoins, .selects RX7 yX7_allCoins yX7_allCoins, .initialized RX7, .code yX7_allCoins cX7_allCoins 3 (some .int), .fieldLink RX7 21 "TwiceAsRich$Street" "count" "I", .fieldLink RX7 17 "TwiceAsRich$Street" "purses" "[I"] ++ wsX110 ++ wsX70)
def wsX11_hands_r1 : List Cond := [Cond.fieldLink RX11 34 "TwiceAsRich" "partings" "LTwiceAsRich$Partings;", Cond.fieldLink RX11 10 "TwiceAsRich" "street" "LTwiceAsRich$Street;", Cond.fieldLink RX11 162 "TwiceAsRich$Partings" "ways" "I", Cond.fieldLink RX11 174 "TwiceAsRich$Partings" "hands" "I", Cond.methodLink RX11 171 yX11_canBeParted, Cond.instanceMethod yX11_canBeParted, Cond.selects RX11 yX11_canBeParted yX11_canBeParted, Cond.initialized RX11, Cond.code yX11_canBeParted cX11_canBeParted 1 (some .boolean), Cond.fieldLink RX11 126 "TwiceAsRich$Street" "count" "I", Cond.methodLink RX11 143 yX7_allCoins, Cond.instanceMethod yX7_allCoins, Cond.selects RX7 yX7_allCoins yX7_allCoins, Cond.initialized RX7, Cond.code yX7_allCoins cX7_allCoins 3 (some .int), Cond.fieldLink RX7 21 "TwiceAsRich$Street" "count" "I", Cond.fieldLink RX7 17 "TwiceAsRich$Street" "purses" "[I", Cond.methodLink RX11 158 yX5_search, Cond.instanceMethod yX5_search, Cond.selects RX5 yX5_search yX5_search, Cond.initialized RX5, Cond.code yX5_search cX5_search 4 none, Cond.fieldLink RX5 30 "TwiceAsRich$Partings" "ways" "I", Cond.fieldLink RX5 34 "TwiceAsRich$Partings" "uneven" "I"]
def wsX11_hands_r2 : List Cond := [Cond.fieldLink RX5 37 "TwiceAsRich$Partings" "hands" "I", Cond.fieldLink RX5 40 "TwiceAsRich$Partings" "moved" "I", Cond.fieldLink RX5 9 "TwiceAsRich$Partings" "richest" "[I", Cond.fieldLink RX5 49 "TwiceAsRich$Street" "count" "I", Cond.fieldLink RX5 18 "TwiceAsRich$Partings" "parted" "LTwiceAsRich$Street;", Cond.fieldLink RX5 56 "TwiceAsRich$Street" "purses" "[I", Cond.fieldLink RX5 22 "TwiceAsRich$Partings" "before" "[I", Cond.methodLink RX5 59 arraycopyName, Cond.native arraycopyName, Cond.static arraycopyName, Cond.initialized "java/lang/System", Cond.methodLink RX5 43 yJ7_fill_53178, Cond.static yJ7_fill_53178, Cond.initialized RJ7, Cond.code yJ7_fill_53178 cJ7_fill_53178 4 none, Cond.methodLink RX5 52 yX7_become, Cond.instanceMethod yX7_become, Cond.selects RX7 yX7_become yX7_become, Cond.code yX7_become cX7_become 3 none, Cond.fieldLink RX7 11 "TwiceAsRich$Street" "houses" "[LTwiceAsRich$House;", Cond.fieldLink RX7 25 "TwiceAsRich$Street" "round" "I", Cond.methodLink RX5 65 yX7_behind, Cond.instanceMethod yX7_behind, Cond.selects RX7 yX7_behind yX7_behind]
def wsX11_hands_r3 : List Cond := [Cond.code yX7_behind cX7_behind 2 (some .int), Cond.methodLink RX7 32 yX7_isClosed, Cond.instanceMethod yX7_isClosed, Cond.selects RX7 yX7_isClosed yX7_isClosed, Cond.code yX7_isClosed cX7_isClosed 1 (some .boolean), Cond.methodLink RX5 69 yX5_noteWhatSuits, Cond.instanceMethod yX5_noteWhatSuits, Cond.selects RX5 yX5_noteWhatSuits yX5_noteWhatSuits, Cond.code yX5_noteWhatSuits cX5_noteWhatSuits 6 none, Cond.fieldLink RX5 27 "TwiceAsRich$Partings" "suits" "[[I", Cond.methodLink RX5 77 yX7_limitBy, Cond.instanceMethod yX7_limitBy, Cond.selects RX7 yX7_limitBy yX7_limitBy, Cond.code yX7_limitBy cX7_limitBy 3 (some .int), Cond.constant RX7 39 (1000000), Cond.methodLink RX7 36 ⟨"TwiceAsRich$House", "isLookedAt", "()Z"⟩, Cond.sameMethod "TwiceAsRich$House" "TwiceAsRich$House" "isLookedAt" "()Z", Cond.selects RX0 ⟨"TwiceAsRich$House", "isLookedAt", "()Z"⟩ yX3_isLookedAt, Cond.instanceMethod yX3_isLookedAt, Cond.initialized RX3, Cond.code yX3_isLookedAt cX3_isLookedAt 1 (some .boolean), Cond.instanceMethod ⟨"TwiceAsRich$House", "isLookedAt", "()Z"⟩, Cond.selects RX1 ⟨"TwiceAsRich$House", "isLookedAt", "()Z"⟩ yX1_isLookedAt, Cond.instanceMethod yX1_isLookedAt]
def wsX11_hands_r4 : List Cond := [Cond.initialized RX1, Cond.code yX1_isLookedAt cX1_isLookedAt 1 (some .boolean), Cond.selects RX2 ⟨"TwiceAsRich$House", "isLookedAt", "()Z"⟩ yX3_isLookedAt, Cond.methodLink RX7 36 yX3_isLookedAt, Cond.selects RX3 yX3_isLookedAt yX3_isLookedAt, Cond.selects RX4 ⟨"TwiceAsRich$House", "isLookedAt", "()Z"⟩ yX3_isLookedAt, Cond.selects RX6 ⟨"TwiceAsRich$House", "isLookedAt", "()Z"⟩ yX3_isLookedAt, Cond.selects RX9 ⟨"TwiceAsRich$House", "isLookedAt", "()Z"⟩ yX3_isLookedAt, Cond.selects RX10 ⟨"TwiceAsRich$House", "isLookedAt", "()Z"⟩ yX10_isLookedAt, Cond.instanceMethod yX10_isLookedAt, Cond.initialized RX10, Cond.code yX10_isLookedAt cX10_isLookedAt 1 (some .boolean), Cond.methodLink RX7 40 ⟨"TwiceAsRich$House", "shownOf", "(I)I"⟩, Cond.sameMethod "TwiceAsRich$House" "TwiceAsRich$House" "shownOf" "(I)I", Cond.instanceMethod ⟨"TwiceAsRich$House", "shownOf", "(I)I"⟩, Cond.selects RX0 ⟨"TwiceAsRich$House", "shownOf", "(I)I"⟩ yX0_shownOf, Cond.instanceMethod yX0_shownOf, Cond.initialized RX0, Cond.code yX0_shownOf cX0_shownOf 2 (some .int), Cond.fieldLink RX0 11 "TwiceAsRich$Beggar" "figure" "I", Cond.sameField "TwiceAsRich$Beggar" "TwiceAsRich$House" "figure" "I", Cond.methodLink RX0 7 yX6_shownOf, Cond.sameMethod "TwiceAsRich$Priest" "TwiceAsRich$Priest" "shownOf" "(I)I", Cond.superclass RX0 RX6]
def wsX11_hands_r5 : List Cond := [Cond.instanceMethod yX6_shownOf, Cond.initialized RX6, Cond.code yX6_shownOf cX6_shownOf 2 (some .int), Cond.methodLink RX6 7 yX3_shownOf, Cond.superclass RX6 RX3, Cond.instanceMethod yX3_shownOf, Cond.code yX3_shownOf cX3_shownOf 2 (some .int), Cond.selects RX1 ⟨"TwiceAsRich$House", "shownOf", "(I)I"⟩ yX3_shownOf, Cond.selects RX2 ⟨"TwiceAsRich$House", "shownOf", "(I)I"⟩ yX3_shownOf, Cond.methodLink RX7 40 yX3_shownOf, Cond.selects RX3 yX3_shownOf yX3_shownOf, Cond.selects RX4 ⟨"TwiceAsRich$House", "shownOf", "(I)I"⟩ yX4_shownOf, Cond.instanceMethod yX4_shownOf, Cond.initialized RX4, Cond.code yX4_shownOf cX4_shownOf 2 (some .int), Cond.selects RX6 ⟨"TwiceAsRich$House", "shownOf", "(I)I"⟩ yX6_shownOf, Cond.selects RX9 ⟨"TwiceAsRich$House", "shownOf", "(I)I"⟩ yX3_shownOf, Cond.selects RX10 ⟨"TwiceAsRich$House", "shownOf", "(I)I"⟩ yX3_shownOf, Cond.methodLink RX7 44 ⟨"TwiceAsRich$House", "allowedBy", "(I)I"⟩, Cond.sameMethod "TwiceAsRich$House" "TwiceAsRich$House" "allowedBy" "(I)I", Cond.selects RX0 ⟨"TwiceAsRich$House", "allowedBy", "(I)I"⟩ yX3_allowedBy, Cond.instanceMethod yX3_allowedBy, Cond.code yX3_allowedBy cX3_allowedBy 2 (some .int), Cond.instanceMethod ⟨"TwiceAsRich$House", "allowedBy", "(I)I"⟩]
def wsX11_hands_r6 : List Cond := [Cond.selects RX1 ⟨"TwiceAsRich$House", "allowedBy", "(I)I"⟩ yX10_allowedBy, Cond.instanceMethod yX10_allowedBy, Cond.code yX10_allowedBy cX10_allowedBy 2 (some .int), Cond.selects RX2 ⟨"TwiceAsRich$House", "allowedBy", "(I)I"⟩ yX2_allowedBy, Cond.instanceMethod yX2_allowedBy, Cond.initialized RX2, Cond.code yX2_allowedBy cX2_allowedBy 2 (some .int), Cond.fieldLink RX2 11 "TwiceAsRich$Heir" "figure" "I", Cond.sameField "TwiceAsRich$Heir" "TwiceAsRich$House" "figure" "I", Cond.methodLink RX2 7 yX3_allowedBy, Cond.superclass RX2 RX3, Cond.methodLink RX7 44 yX3_allowedBy, Cond.selects RX3 yX3_allowedBy yX3_allowedBy, Cond.selects RX4 ⟨"TwiceAsRich$House", "allowedBy", "(I)I"⟩ yX4_allowedBy, Cond.instanceMethod yX4_allowedBy, Cond.code yX4_allowedBy cX4_allowedBy 2 (some .int), Cond.methodLink RX4 14 Lib.Math.max.name, Cond.static Lib.Math.max.name, Cond.initialized "java/lang/Math", Cond.code Lib.Math.max.name Lib.Math.max.code 2 (some .int), Cond.methodLink RX4 11 yX2_allowedBy, Cond.sameMethod "TwiceAsRich$Heir" "TwiceAsRich$Heir" "allowedBy" "(I)I", Cond.superclass RX4 RX2, Cond.selects RX6 ⟨"TwiceAsRich$House", "allowedBy", "(I)I"⟩ yX3_allowedBy]
def wsX11_hands_r7 : List Cond := [Cond.selects RX9 ⟨"TwiceAsRich$House", "allowedBy", "(I)I"⟩ yX9_allowedBy, Cond.instanceMethod yX9_allowedBy, Cond.initialized RX9, Cond.code yX9_allowedBy cX9_allowedBy 2 (some .int), Cond.methodLink RX9 7 yX2_allowedBy, Cond.superclass RX9 RX2, Cond.selects RX10 ⟨"TwiceAsRich$House", "allowedBy", "(I)I"⟩ yX10_allowedBy, Cond.methodLink RX5 73 yX5_part, Cond.instanceMethod yX5_part, Cond.selects RX5 yX5_part yX5_part, Cond.code yX5_part cX5_part 6 none, Cond.methodLink RX5 88 Lib.Math.max.name, Cond.methodLink RX5 81 yX5_isClosedWell, Cond.instanceMethod yX5_isClosedWell, Cond.selects RX5 yX5_isClosedWell yX5_isClosedWell, Cond.code yX5_isClosedWell cX5_isClosedWell 1 (some .boolean), Cond.methodLink RX5 97 yX7_isClosed, Cond.methodLink RX5 93 yX5_suit, Cond.instanceMethod yX5_suit, Cond.selects RX5 yX5_suit yX5_suit, Cond.code yX5_suit cX5_suit 3 (some .boolean), Cond.methodLink RX5 85 yX5_note, Cond.instanceMethod yX5_note, Cond.selects RX5 yX5_note yX5_note]
def wsX11_hands_r8 : List Cond := [Cond.code yX5_note cX5_note 2 none, Cond.methodLink RX5 107 Lib.Math.min.name, Cond.static Lib.Math.min.name, Cond.code Lib.Math.min.name Lib.Math.min.code 2 (some .int), Cond.methodLink RX5 100 yX5_difference, Cond.instanceMethod yX5_difference, Cond.selects RX5 yX5_difference yX5_difference, Cond.code yX5_difference cX5_difference 4 (some .int), Cond.methodLink RX5 104 yX5_handed, Cond.instanceMethod yX5_handed, Cond.selects RX5 yX5_handed yX5_handed, Cond.code yX5_handed cX5_handed 4 (some .int), Cond.methodLink RX5 113 Lib.Math.abs.name, Cond.static Lib.Math.abs.name, Cond.code Lib.Math.abs.name Lib.Math.abs.code 1 (some .int), Cond.methodLink RX5 110 yX5_moving, Cond.instanceMethod yX5_moving, Cond.selects RX5 yX5_moving yX5_moving, Cond.code yX5_moving cX5_moving 3 (some .int)]
def wsX11_hands : List Cond := .code yX11_hands cX11_hands 1 (some .int) :: ((wsX11_hands_r1 ++ (wsX11_hands_r2 ++ (wsX11_hands_r3 ++ (wsX11_hands_r4 ++ (wsX11_hands_r5 ++ (wsX11_hands_r6 ++ (wsX11_hands_r7 ++ wsX11_hands_r8))))))) ++ wsX110 ++ wsX50 ++ wsX70 ++ wsX00 ++ wsX10 ++ wsX20 ++ wsX30 ++ wsX40 ++ wsX60 ++ wsX90 ++ wsX100)
def wsX11_any_r1 : List Cond := [Cond.fieldLink RX11 34 "TwiceAsRich" "partings" "LTwiceAsRich$Partings;", Cond.fieldLink RX11 10 "TwiceAsRich" "street" "LTwiceAsRich$Street;", Cond.fieldLink RX11 162 "TwiceAsRich$Partings" "ways" "I", Cond.fieldLink RX11 177 "TwiceAsRich$Partings" "moved" "I", Cond.methodLink RX11 171 yX11_canBeParted, Cond.instanceMethod yX11_canBeParted, Cond.selects RX11 yX11_canBeParted yX11_canBeParted, Cond.initialized RX11, Cond.code yX11_canBeParted cX11_canBeParted 1 (some .boolean), Cond.fieldLink RX11 126 "TwiceAsRich$Street" "count" "I", Cond.methodLink RX11 143 yX7_allCoins, Cond.instanceMethod yX7_allCoins, Cond.selects RX7 yX7_allCoins yX7_allCoins, Cond.initialized RX7, Cond.code yX7_allCoins cX7_allCoins 3 (some .int), Cond.fieldLink RX7 21 "TwiceAsRich$Street" "count" "I", Cond.fieldLink RX7 17 "TwiceAsRich$Street" "purses" "[I", Cond.methodLink RX11 158 yX5_search, Cond.instanceMethod yX5_search, Cond.selects RX5 yX5_search yX5_search, Cond.initialized RX5, Cond.code yX5_search cX5_search 4 none, Cond.fieldLink RX5 30 "TwiceAsRich$Partings" "ways" "I", Cond.fieldLink RX5 34 "TwiceAsRich$Partings" "uneven" "I"]
def wsX11_any_r2 : List Cond := [Cond.fieldLink RX5 37 "TwiceAsRich$Partings" "hands" "I", Cond.fieldLink RX5 40 "TwiceAsRich$Partings" "moved" "I", Cond.fieldLink RX5 9 "TwiceAsRich$Partings" "richest" "[I", Cond.fieldLink RX5 49 "TwiceAsRich$Street" "count" "I", Cond.fieldLink RX5 18 "TwiceAsRich$Partings" "parted" "LTwiceAsRich$Street;", Cond.fieldLink RX5 56 "TwiceAsRich$Street" "purses" "[I", Cond.fieldLink RX5 22 "TwiceAsRich$Partings" "before" "[I", Cond.methodLink RX5 59 arraycopyName, Cond.native arraycopyName, Cond.static arraycopyName, Cond.initialized "java/lang/System", Cond.methodLink RX5 43 yJ7_fill_53178, Cond.static yJ7_fill_53178, Cond.initialized RJ7, Cond.code yJ7_fill_53178 cJ7_fill_53178 4 none, Cond.methodLink RX5 52 yX7_become, Cond.instanceMethod yX7_become, Cond.selects RX7 yX7_become yX7_become, Cond.code yX7_become cX7_become 3 none, Cond.fieldLink RX7 11 "TwiceAsRich$Street" "houses" "[LTwiceAsRich$House;", Cond.fieldLink RX7 25 "TwiceAsRich$Street" "round" "I", Cond.methodLink RX5 65 yX7_behind, Cond.instanceMethod yX7_behind, Cond.selects RX7 yX7_behind yX7_behind]
def wsX11_any_r3 : List Cond := [Cond.code yX7_behind cX7_behind 2 (some .int), Cond.methodLink RX7 32 yX7_isClosed, Cond.instanceMethod yX7_isClosed, Cond.selects RX7 yX7_isClosed yX7_isClosed, Cond.code yX7_isClosed cX7_isClosed 1 (some .boolean), Cond.methodLink RX5 69 yX5_noteWhatSuits, Cond.instanceMethod yX5_noteWhatSuits, Cond.selects RX5 yX5_noteWhatSuits yX5_noteWhatSuits, Cond.code yX5_noteWhatSuits cX5_noteWhatSuits 6 none, Cond.fieldLink RX5 27 "TwiceAsRich$Partings" "suits" "[[I", Cond.methodLink RX5 77 yX7_limitBy, Cond.instanceMethod yX7_limitBy, Cond.selects RX7 yX7_limitBy yX7_limitBy, Cond.code yX7_limitBy cX7_limitBy 3 (some .int), Cond.constant RX7 39 (1000000), Cond.methodLink RX7 36 ⟨"TwiceAsRich$House", "isLookedAt", "()Z"⟩, Cond.sameMethod "TwiceAsRich$House" "TwiceAsRich$House" "isLookedAt" "()Z", Cond.selects RX0 ⟨"TwiceAsRich$House", "isLookedAt", "()Z"⟩ yX3_isLookedAt, Cond.instanceMethod yX3_isLookedAt, Cond.initialized RX3, Cond.code yX3_isLookedAt cX3_isLookedAt 1 (some .boolean), Cond.instanceMethod ⟨"TwiceAsRich$House", "isLookedAt", "()Z"⟩, Cond.selects RX1 ⟨"TwiceAsRich$House", "isLookedAt", "()Z"⟩ yX1_isLookedAt, Cond.instanceMethod yX1_isLookedAt]
def wsX11_any_r4 : List Cond := [Cond.initialized RX1, Cond.code yX1_isLookedAt cX1_isLookedAt 1 (some .boolean), Cond.selects RX2 ⟨"TwiceAsRich$House", "isLookedAt", "()Z"⟩ yX3_isLookedAt, Cond.methodLink RX7 36 yX3_isLookedAt, Cond.selects RX3 yX3_isLookedAt yX3_isLookedAt, Cond.selects RX4 ⟨"TwiceAsRich$House", "isLookedAt", "()Z"⟩ yX3_isLookedAt, Cond.selects RX6 ⟨"TwiceAsRich$House", "isLookedAt", "()Z"⟩ yX3_isLookedAt, Cond.selects RX9 ⟨"TwiceAsRich$House", "isLookedAt", "()Z"⟩ yX3_isLookedAt, Cond.selects RX10 ⟨"TwiceAsRich$House", "isLookedAt", "()Z"⟩ yX10_isLookedAt, Cond.instanceMethod yX10_isLookedAt, Cond.initialized RX10, Cond.code yX10_isLookedAt cX10_isLookedAt 1 (some .boolean), Cond.methodLink RX7 40 ⟨"TwiceAsRich$House", "shownOf", "(I)I"⟩, Cond.sameMethod "TwiceAsRich$House" "TwiceAsRich$House" "shownOf" "(I)I", Cond.instanceMethod ⟨"TwiceAsRich$House", "shownOf", "(I)I"⟩, Cond.selects RX0 ⟨"TwiceAsRich$House", "shownOf", "(I)I"⟩ yX0_shownOf, Cond.instanceMethod yX0_shownOf, Cond.initialized RX0, Cond.code yX0_shownOf cX0_shownOf 2 (some .int), Cond.fieldLink RX0 11 "TwiceAsRich$Beggar" "figure" "I", Cond.sameField "TwiceAsRich$Beggar" "TwiceAsRich$House" "figure" "I", Cond.methodLink RX0 7 yX6_shownOf, Cond.sameMethod "TwiceAsRich$Priest" "TwiceAsRich$Priest" "shownOf" "(I)I", Cond.superclass RX0 RX6]
def wsX11_any_r5 : List Cond := [Cond.instanceMethod yX6_shownOf, Cond.initialized RX6, Cond.code yX6_shownOf cX6_shownOf 2 (some .int), Cond.methodLink RX6 7 yX3_shownOf, Cond.superclass RX6 RX3, Cond.instanceMethod yX3_shownOf, Cond.code yX3_shownOf cX3_shownOf 2 (some .int), Cond.selects RX1 ⟨"TwiceAsRich$House", "shownOf", "(I)I"⟩ yX3_shownOf, Cond.selects RX2 ⟨"TwiceAsRich$House", "shownOf", "(I)I"⟩ yX3_shownOf, Cond.methodLink RX7 40 yX3_shownOf, Cond.selects RX3 yX3_shownOf yX3_shownOf, Cond.selects RX4 ⟨"TwiceAsRich$House", "shownOf", "(I)I"⟩ yX4_shownOf, Cond.instanceMethod yX4_shownOf, Cond.initialized RX4, Cond.code yX4_shownOf cX4_shownOf 2 (some .int), Cond.selects RX6 ⟨"TwiceAsRich$House", "shownOf", "(I)I"⟩ yX6_shownOf, Cond.selects RX9 ⟨"TwiceAsRich$House", "shownOf", "(I)I"⟩ yX3_shownOf, Cond.selects RX10 ⟨"TwiceAsRich$House", "shownOf", "(I)I"⟩ yX3_shownOf, Cond.methodLink RX7 44 ⟨"TwiceAsRich$House", "allowedBy", "(I)I"⟩, Cond.sameMethod "TwiceAsRich$House" "TwiceAsRich$House" "allowedBy" "(I)I", Cond.selects RX0 ⟨"TwiceAsRich$House", "allowedBy", "(I)I"⟩ yX3_allowedBy, Cond.instanceMethod yX3_allowedBy, Cond.code yX3_allowedBy cX3_allowedBy 2 (some .int), Cond.instanceMethod ⟨"TwiceAsRich$House", "allowedBy", "(I)I"⟩]
def wsX11_any_r6 : List Cond := [Cond.selects RX1 ⟨"TwiceAsRich$House", "allowedBy", "(I)I"⟩ yX10_allowedBy, Cond.instanceMethod yX10_allowedBy, Cond.code yX10_allowedBy cX10_allowedBy 2 (some .int), Cond.selects RX2 ⟨"TwiceAsRich$House", "allowedBy", "(I)I"⟩ yX2_allowedBy, Cond.instanceMethod yX2_allowedBy, Cond.initialized RX2, Cond.code yX2_allowedBy cX2_allowedBy 2 (some .int), Cond.fieldLink RX2 11 "TwiceAsRich$Heir" "figure" "I", Cond.sameField "TwiceAsRich$Heir" "TwiceAsRich$House" "figure" "I", Cond.methodLink RX2 7 yX3_allowedBy, Cond.superclass RX2 RX3, Cond.methodLink RX7 44 yX3_allowedBy, Cond.selects RX3 yX3_allowedBy yX3_allowedBy, Cond.selects RX4 ⟨"TwiceAsRich$House", "allowedBy", "(I)I"⟩ yX4_allowedBy, Cond.instanceMethod yX4_allowedBy, Cond.code yX4_allowedBy cX4_allowedBy 2 (some .int), Cond.methodLink RX4 14 Lib.Math.max.name, Cond.static Lib.Math.max.name, Cond.initialized "java/lang/Math", Cond.code Lib.Math.max.name Lib.Math.max.code 2 (some .int), Cond.methodLink RX4 11 yX2_allowedBy, Cond.sameMethod "TwiceAsRich$Heir" "TwiceAsRich$Heir" "allowedBy" "(I)I", Cond.superclass RX4 RX2, Cond.selects RX6 ⟨"TwiceAsRich$House", "allowedBy", "(I)I"⟩ yX3_allowedBy]
def wsX11_any_r7 : List Cond := [Cond.selects RX9 ⟨"TwiceAsRich$House", "allowedBy", "(I)I"⟩ yX9_allowedBy, Cond.instanceMethod yX9_allowedBy, Cond.initialized RX9, Cond.code yX9_allowedBy cX9_allowedBy 2 (some .int), Cond.methodLink RX9 7 yX2_allowedBy, Cond.superclass RX9 RX2, Cond.selects RX10 ⟨"TwiceAsRich$House", "allowedBy", "(I)I"⟩ yX10_allowedBy, Cond.methodLink RX5 73 yX5_part, Cond.instanceMethod yX5_part, Cond.selects RX5 yX5_part yX5_part, Cond.code yX5_part cX5_part 6 none, Cond.methodLink RX5 88 Lib.Math.max.name, Cond.methodLink RX5 81 yX5_isClosedWell, Cond.instanceMethod yX5_isClosedWell, Cond.selects RX5 yX5_isClosedWell yX5_isClosedWell, Cond.code yX5_isClosedWell cX5_isClosedWell 1 (some .boolean), Cond.methodLink RX5 97 yX7_isClosed, Cond.methodLink RX5 93 yX5_suit, Cond.instanceMethod yX5_suit, Cond.selects RX5 yX5_suit yX5_suit, Cond.code yX5_suit cX5_suit 3 (some .boolean), Cond.methodLink RX5 85 yX5_note, Cond.instanceMethod yX5_note, Cond.selects RX5 yX5_note yX5_note]
def wsX11_any_r8 : List Cond := [Cond.code yX5_note cX5_note 2 none, Cond.methodLink RX5 107 Lib.Math.min.name, Cond.static Lib.Math.min.name, Cond.code Lib.Math.min.name Lib.Math.min.code 2 (some .int), Cond.methodLink RX5 100 yX5_difference, Cond.instanceMethod yX5_difference, Cond.selects RX5 yX5_difference yX5_difference, Cond.code yX5_difference cX5_difference 4 (some .int), Cond.methodLink RX5 104 yX5_handed, Cond.instanceMethod yX5_handed, Cond.selects RX5 yX5_handed yX5_handed, Cond.code yX5_handed cX5_handed 4 (some .int), Cond.methodLink RX5 113 Lib.Math.abs.name, Cond.static Lib.Math.abs.name, Cond.code Lib.Math.abs.name Lib.Math.abs.code 1 (some .int), Cond.methodLink RX5 110 yX5_moving, Cond.instanceMethod yX5_moving, Cond.selects RX5 yX5_moving yX5_moving, Cond.code yX5_moving cX5_moving 3 (some .int)]
def wsX11_any : List Cond := .code yX11_any cX11_any 1 (some .int) :: ((wsX11_any_r1 ++ (wsX11_any_r2 ++ (wsX11_any_r3 ++ (wsX11_any_r4 ++ (wsX11_any_r5 ++ (wsX11_any_r6 ++ (wsX11_any_r7 ++ wsX11_any_r8))))))) ++ wsX110 ++ wsX50 ++ wsX70 ++ wsX00 ++ wsX10 ++ wsX20 ++ wsX30 ++ wsX40 ++ wsX60 ++ wsX90 ++ wsX100)
def wsX11_change_r1 : List Cond := [Cond.fieldLink RX11 19 "TwiceAsRich" "mind" "LTwiceAsRich$Street;", Cond.fieldLink RX11 10 "TwiceAsRich" "street" "LTwiceAsRich$Street;", Cond.fieldLink RX11 126 "TwiceAsRich$Street" "count" "I", Cond.methodLink RX11 78 yX7_become, Cond.instanceMethod yX7_become, Cond.selects RX7 yX7_become yX7_become, Cond.initialized RX7, Cond.code yX7_become cX7_become 3 none, Cond.fieldLink RX7 11 "TwiceAsRich$Street" "houses" "[LTwiceAsRich$House;", Cond.fieldLink RX7 17 "TwiceAsRich$Street" "purses" "[I", Cond.fieldLink RX7 21 "TwiceAsRich$Street" "count" "I", Cond.fieldLink RX7 25 "TwiceAsRich$Street" "round" "I", Cond.methodLink RX11 146 yX7_allBreaches, Cond.instanceMethod yX7_allBreaches, Cond.selects RX7 yX7_allBreaches yX7_allBreaches, Cond.code yX7_allBreaches cX7_allBreaches 3 (some .int), Cond.methodLink RX7 62 yX7_breachesOf, Cond.instanceMethod yX7_breachesOf, Cond.selects RX7 yX7_breachesOf yX7_breachesOf, Cond.code yX7_breachesOf cX7_breachesOf 3 (some .int), Cond.methodLink RX7 47 yX7_ahead, Cond.instanceMethod yX7_ahead, Cond.selects RX7 yX7_ahead yX7_ahead, Cond.code yX7_ahead cX7_ahead 2 (some .int)]
def wsX11_change_r2 : List Cond := [Cond.methodLink RX7 32 yX7_isClosed, Cond.instanceMethod yX7_isClosed, Cond.selects RX7 yX7_isClosed yX7_isClosed, Cond.code yX7_isClosed cX7_isClosed 1 (some .boolean), Cond.methodLink RX7 50 yX7_limitBy, Cond.instanceMethod yX7_limitBy, Cond.selects RX7 yX7_limitBy yX7_limitBy, Cond.code yX7_limitBy cX7_limitBy 3 (some .int), Cond.constant RX7 39 (1000000), Cond.methodLink RX7 36 ⟨"TwiceAsRich$House", "isLookedAt", "()Z"⟩, Cond.sameMethod "TwiceAsRich$House" "TwiceAsRich$House" "isLookedAt" "()Z", Cond.selects RX0 ⟨"TwiceAsRich$House", "isLookedAt", "()Z"⟩ yX3_isLookedAt, Cond.instanceMethod yX3_isLookedAt, Cond.initialized RX3, Cond.code yX3_isLookedAt cX3_isLookedAt 1 (some .boolean), Cond.instanceMethod ⟨"TwiceAsRich$House", "isLookedAt", "()Z"⟩, Cond.selects RX1 ⟨"TwiceAsRich$House", "isLookedAt", "()Z"⟩ yX1_isLookedAt, Cond.instanceMethod yX1_isLookedAt, Cond.initialized RX1, Cond.code yX1_isLookedAt cX1_isLookedAt 1 (some .boolean), Cond.selects RX2 ⟨"TwiceAsRich$House", "isLookedAt", "()Z"⟩ yX3_isLookedAt, Cond.methodLink RX7 36 yX3_isLookedAt, Cond.selects RX3 yX3_isLookedAt yX3_isLookedAt, Cond.selects RX4 ⟨"TwiceAsRich$House", "isLookedAt", "()Z"⟩ yX3_isLookedAt]
def wsX11_change_r3 : List Cond := [Cond.selects RX6 ⟨"TwiceAsRich$House", "isLookedAt", "()Z"⟩ yX3_isLookedAt, Cond.selects RX9 ⟨"TwiceAsRich$House", "isLookedAt", "()Z"⟩ yX3_isLookedAt, Cond.selects RX10 ⟨"TwiceAsRich$House", "isLookedAt", "()Z"⟩ yX10_isLookedAt, Cond.instanceMethod yX10_isLookedAt, Cond.initialized RX10, Cond.code yX10_isLookedAt cX10_isLookedAt 1 (some .boolean), Cond.methodLink RX7 40 ⟨"TwiceAsRich$House", "shownOf", "(I)I"⟩, Cond.sameMethod "TwiceAsRich$House" "TwiceAsRich$House" "shownOf" "(I)I", Cond.instanceMethod ⟨"TwiceAsRich$House", "shownOf", "(I)I"⟩, Cond.selects RX0 ⟨"TwiceAsRich$House", "shownOf", "(I)I"⟩ yX0_shownOf, Cond.instanceMethod yX0_shownOf, Cond.initialized RX0, Cond.code yX0_shownOf cX0_shownOf 2 (some .int), Cond.fieldLink RX0 11 "TwiceAsRich$Beggar" "figure" "I", Cond.sameField "TwiceAsRich$Beggar" "TwiceAsRich$House" "figure" "I", Cond.methodLink RX0 7 yX6_shownOf, Cond.sameMethod "TwiceAsRich$Priest" "TwiceAsRich$Priest" "shownOf" "(I)I", Cond.superclass RX0 RX6, Cond.instanceMethod yX6_shownOf, Cond.initialized RX6, Cond.code yX6_shownOf cX6_shownOf 2 (some .int), Cond.methodLink RX6 7 yX3_shownOf, Cond.superclass RX6 RX3, Cond.instanceMethod yX3_shownOf]
def wsX11_change_r4 : List Cond := [Cond.code yX3_shownOf cX3_shownOf 2 (some .int), Cond.selects RX1 ⟨"TwiceAsRich$House", "shownOf", "(I)I"⟩ yX3_shownOf, Cond.selects RX2 ⟨"TwiceAsRich$House", "shownOf", "(I)I"⟩ yX3_shownOf, Cond.methodLink RX7 40 yX3_shownOf, Cond.selects RX3 yX3_shownOf yX3_shownOf, Cond.selects RX4 ⟨"TwiceAsRich$House", "shownOf", "(I)I"⟩ yX4_shownOf, Cond.instanceMethod yX4_shownOf, Cond.initialized RX4, Cond.code yX4_shownOf cX4_shownOf 2 (some .int), Cond.selects RX6 ⟨"TwiceAsRich$House", "shownOf", "(I)I"⟩ yX6_shownOf, Cond.selects RX9 ⟨"TwiceAsRich$House", "shownOf", "(I)I"⟩ yX3_shownOf, Cond.selects RX10 ⟨"TwiceAsRich$House", "shownOf", "(I)I"⟩ yX3_shownOf, Cond.methodLink RX7 44 ⟨"TwiceAsRich$House", "allowedBy", "(I)I"⟩, Cond.sameMethod "TwiceAsRich$House" "TwiceAsRich$House" "allowedBy" "(I)I", Cond.selects RX0 ⟨"TwiceAsRich$House", "allowedBy", "(I)I"⟩ yX3_allowedBy, Cond.instanceMethod yX3_allowedBy, Cond.code yX3_allowedBy cX3_allowedBy 2 (some .int), Cond.instanceMethod ⟨"TwiceAsRich$House", "allowedBy", "(I)I"⟩, Cond.selects RX1 ⟨"TwiceAsRich$House", "allowedBy", "(I)I"⟩ yX10_allowedBy, Cond.instanceMethod yX10_allowedBy, Cond.code yX10_allowedBy cX10_allowedBy 2 (some .int), Cond.selects RX2 ⟨"TwiceAsRich$House", "allowedBy", "(I)I"⟩ yX2_allowedBy, Cond.instanceMethod yX2_allowedBy, Cond.initialized RX2]
def wsX11_change_r5 : List Cond := [Cond.code yX2_allowedBy cX2_allowedBy 2 (some .int), Cond.fieldLink RX2 11 "TwiceAsRich$Heir" "figure" "I", Cond.sameField "TwiceAsRich$Heir" "TwiceAsRich$House" "figure" "I", Cond.methodLink RX2 7 yX3_allowedBy, Cond.superclass RX2 RX3, Cond.methodLink RX7 44 yX3_allowedBy, Cond.selects RX3 yX3_allowedBy yX3_allowedBy, Cond.selects RX4 ⟨"TwiceAsRich$House", "allowedBy", "(I)I"⟩ yX4_allowedBy, Cond.instanceMethod yX4_allowedBy, Cond.code yX4_allowedBy cX4_allowedBy 2 (some .int), Cond.methodLink RX4 14 Lib.Math.max.name, Cond.static Lib.Math.max.name, Cond.initialized "java/lang/Math", Cond.code Lib.Math.max.name Lib.Math.max.code 2 (some .int), Cond.methodLink RX4 11 yX2_allowedBy, Cond.sameMethod "TwiceAsRich$Heir" "TwiceAsRich$Heir" "allowedBy" "(I)I", Cond.superclass RX4 RX2, Cond.selects RX6 ⟨"TwiceAsRich$House", "allowedBy", "(I)I"⟩ yX3_allowedBy, Cond.selects RX9 ⟨"TwiceAsRich$House", "allowedBy", "(I)I"⟩ yX9_allowedBy, Cond.instanceMethod yX9_allowedBy, Cond.initialized RX9, Cond.code yX9_allowedBy cX9_allowedBy 2 (some .int), Cond.methodLink RX9 7 yX2_allowedBy, Cond.superclass RX9 RX2]
def wsX11_change_r6 : List Cond := [Cond.selects RX10 ⟨"TwiceAsRich$House", "allowedBy", "(I)I"⟩ yX10_allowedBy, Cond.methodLink RX7 54 yX7_behind, Cond.instanceMethod yX7_behind, Cond.selects RX7 yX7_behind yX7_behind, Cond.code yX7_behind cX7_behind 2 (some .int), Cond.methodLink RX11 180 yX7_exchange, Cond.instanceMethod yX7_exchange, Cond.selects RX7 yX7_exchange yX7_exchange, Cond.code yX7_exchange cX7_exchange 5 none]
def wsX11_change : List Cond := .code yX11_change cX11_change 7 (some .int) :: ((wsX11_change_r1 ++ (wsX11_change_r2 ++ (wsX11_change_r3 ++ (wsX11_change_r4 ++ (wsX11_change_r5 ++ wsX11_change_r6))))) ++ wsX110 ++ wsX70 ++ wsX00 ++ wsX10 ++ wsX20 ++ wsX30 ++ wsX40 ++ wsX60 ++ wsX90 ++ wsX100)
def wsX11_wedding_r1 : List Cond := [Cond.fieldLink RX11 10 "TwiceAsRich" "street" "LTwiceAsRich$Street;", Cond.fieldLink RX11 19 "TwiceAsRich" "mind" "LTwiceAsRich$Street;", Cond.fieldLink RX11 103 "TwiceAsRich$Street" "purses" "[I", Cond.methodLink RX11 184 Lib.Math.min.name, Cond.static Lib.Math.min.name, Cond.initialized "java/lang/Math", Cond.code Lib.Math.min.name Lib.Math.min.code 2 (some .int), Cond.methodLink RX11 89 yX7_has, Cond.instanceMethod yX7_has, Cond.selects RX7 yX7_has yX7_has, Cond.initialized RX7, Cond.code yX7_has cX7_has 2 (some .boolean), Cond.fieldLink RX7 21 "TwiceAsRich$Street" "count" "I", Cond.methodLink RX11 78 yX7_become, Cond.instanceMethod yX7_become, Cond.selects RX7 yX7_become yX7_become, Cond.code yX7_become cX7_become 3 none, Cond.fieldLink RX7 11 "TwiceAsRich$Street" "houses" "[LTwiceAsRich$House;", Cond.fieldLink RX7 17 "TwiceAsRich$Street" "purses" "[I", Cond.fieldLink RX7 25 "TwiceAsRich$Street" "round" "I", Cond.methodLink RX11 189 yX7_remove, Cond.instanceMethod yX7_remove, Cond.selects RX7 yX7_remove yX7_remove, Cond.code yX7_remove cX7_remove 3 none]
def wsX11_wedding_r2 : List Cond := [Cond.methodLink RX7 28 yX7_has, Cond.methodLink RX11 146 yX7_allBreaches, Cond.instanceMethod yX7_allBreaches, Cond.selects RX7 yX7_allBreaches yX7_allBreaches, Cond.code yX7_allBreaches cX7_allBreaches 3 (some .int), Cond.methodLink RX7 62 yX7_breachesOf, Cond.instanceMethod yX7_breachesOf, Cond.selects RX7 yX7_breachesOf yX7_breachesOf, Cond.code yX7_breachesOf cX7_breachesOf 3 (some .int), Cond.methodLink RX7 47 yX7_ahead, Cond.instanceMethod yX7_ahead, Cond.selects RX7 yX7_ahead yX7_ahead, Cond.code yX7_ahead cX7_ahead 2 (some .int), Cond.methodLink RX7 32 yX7_isClosed, Cond.instanceMethod yX7_isClosed, Cond.selects RX7 yX7_isClosed yX7_isClosed, Cond.code yX7_isClosed cX7_isClosed 1 (some .boolean), Cond.methodLink RX7 50 yX7_limitBy, Cond.instanceMethod yX7_limitBy, Cond.selects RX7 yX7_limitBy yX7_limitBy, Cond.code yX7_limitBy cX7_limitBy 3 (some .int), Cond.constant RX7 39 (1000000), Cond.methodLink RX7 36 ⟨"TwiceAsRich$House", "isLookedAt", "()Z"⟩, Cond.sameMethod "TwiceAsRich$House" "TwiceAsRich$House" "isLookedAt" "()Z"]
def wsX11_wedding_r3 : List Cond := [Cond.selects RX0 ⟨"TwiceAsRich$House", "isLookedAt", "()Z"⟩ yX3_isLookedAt, Cond.instanceMethod yX3_isLookedAt, Cond.initialized RX3, Cond.code yX3_isLookedAt cX3_isLookedAt 1 (some .boolean), Cond.instanceMethod ⟨"TwiceAsRich$House", "isLookedAt", "()Z"⟩, Cond.selects RX1 ⟨"TwiceAsRich$House", "isLookedAt", "()Z"⟩ yX1_isLookedAt, Cond.instanceMethod yX1_isLookedAt, Cond.initialized RX1, Cond.code yX1_isLookedAt cX1_isLookedAt 1 (some .boolean), Cond.selects RX2 ⟨"TwiceAsRich$House", "isLookedAt", "()Z"⟩ yX3_isLookedAt, Cond.methodLink RX7 36 yX3_isLookedAt, Cond.selects RX3 yX3_isLookedAt yX3_isLookedAt, Cond.selects RX4 ⟨"TwiceAsRich$House", "isLookedAt", "()Z"⟩ yX3_isLookedAt, Cond.selects RX6 ⟨"TwiceAsRich$House", "isLookedAt", "()Z"⟩ yX3_isLookedAt, Cond.selects RX9 ⟨"TwiceAsRich$House", "isLookedAt", "()Z"⟩ yX3_isLookedAt, Cond.selects RX10 ⟨"TwiceAsRich$House", "isLookedAt", "()Z"⟩ yX10_isLookedAt, Cond.instanceMethod yX10_isLookedAt, Cond.initialized RX10, Cond.code yX10_isLookedAt cX10_isLookedAt 1 (some .boolean), Cond.methodLink RX7 40 ⟨"TwiceAsRich$House", "shownOf", "(I)I"⟩, Cond.sameMethod "TwiceAsRich$House" "TwiceAsRich$House" "shownOf" "(I)I", Cond.instanceMethod ⟨"TwiceAsRich$House", "shownOf", "(I)I"⟩, Cond.selects RX0 ⟨"TwiceAsRich$House", "shownOf", "(I)I"⟩ yX0_shownOf, Cond.instanceMethod yX0_shownOf]
def wsX11_wedding_r4 : List Cond := [Cond.initialized RX0, Cond.code yX0_shownOf cX0_shownOf 2 (some .int), Cond.fieldLink RX0 11 "TwiceAsRich$Beggar" "figure" "I", Cond.sameField "TwiceAsRich$Beggar" "TwiceAsRich$House" "figure" "I", Cond.methodLink RX0 7 yX6_shownOf, Cond.sameMethod "TwiceAsRich$Priest" "TwiceAsRich$Priest" "shownOf" "(I)I", Cond.superclass RX0 RX6, Cond.instanceMethod yX6_shownOf, Cond.initialized RX6, Cond.code yX6_shownOf cX6_shownOf 2 (some .int), Cond.methodLink RX6 7 yX3_shownOf, Cond.superclass RX6 RX3, Cond.instanceMethod yX3_shownOf, Cond.code yX3_shownOf cX3_shownOf 2 (some .int), Cond.selects RX1 ⟨"TwiceAsRich$House", "shownOf", "(I)I"⟩ yX3_shownOf, Cond.selects RX2 ⟨"TwiceAsRich$House", "shownOf", "(I)I"⟩ yX3_shownOf, Cond.methodLink RX7 40 yX3_shownOf, Cond.selects RX3 yX3_shownOf yX3_shownOf, Cond.selects RX4 ⟨"TwiceAsRich$House", "shownOf", "(I)I"⟩ yX4_shownOf, Cond.instanceMethod yX4_shownOf, Cond.initialized RX4, Cond.code yX4_shownOf cX4_shownOf 2 (some .int), Cond.selects RX6 ⟨"TwiceAsRich$House", "shownOf", "(I)I"⟩ yX6_shownOf, Cond.selects RX9 ⟨"TwiceAsRich$House", "shownOf", "(I)I"⟩ yX3_shownOf]
def wsX11_wedding_r5 : List Cond := [Cond.selects RX10 ⟨"TwiceAsRich$House", "shownOf", "(I)I"⟩ yX3_shownOf, Cond.methodLink RX7 44 ⟨"TwiceAsRich$House", "allowedBy", "(I)I"⟩, Cond.sameMethod "TwiceAsRich$House" "TwiceAsRich$House" "allowedBy" "(I)I", Cond.selects RX0 ⟨"TwiceAsRich$House", "allowedBy", "(I)I"⟩ yX3_allowedBy, Cond.instanceMethod yX3_allowedBy, Cond.code yX3_allowedBy cX3_allowedBy 2 (some .int), Cond.instanceMethod ⟨"TwiceAsRich$House", "allowedBy", "(I)I"⟩, Cond.selects RX1 ⟨"TwiceAsRich$House", "allowedBy", "(I)I"⟩ yX10_allowedBy, Cond.instanceMethod yX10_allowedBy, Cond.code yX10_allowedBy cX10_allowedBy 2 (some .int), Cond.selects RX2 ⟨"TwiceAsRich$House", "allowedBy", "(I)I"⟩ yX2_allowedBy, Cond.instanceMethod yX2_allowedBy, Cond.initialized RX2, Cond.code yX2_allowedBy cX2_allowedBy 2 (some .int), Cond.fieldLink RX2 11 "TwiceAsRich$Heir" "figure" "I", Cond.sameField "TwiceAsRich$Heir" "TwiceAsRich$House" "figure" "I", Cond.methodLink RX2 7 yX3_allowedBy, Cond.superclass RX2 RX3, Cond.methodLink RX7 44 yX3_allowedBy, Cond.selects RX3 yX3_allowedBy yX3_allowedBy, Cond.selects RX4 ⟨"TwiceAsRich$House", "allowedBy", "(I)I"⟩ yX4_allowedBy, Cond.instanceMethod yX4_allowedBy, Cond.code yX4_allowedBy cX4_allowedBy 2 (some .int), Cond.methodLink RX4 14 Lib.Math.max.name]
def wsX11_wedding_r6 : List Cond := [Cond.static Lib.Math.max.name, Cond.code Lib.Math.max.name Lib.Math.max.code 2 (some .int), Cond.methodLink RX4 11 yX2_allowedBy, Cond.sameMethod "TwiceAsRich$Heir" "TwiceAsRich$Heir" "allowedBy" "(I)I", Cond.superclass RX4 RX2, Cond.selects RX6 ⟨"TwiceAsRich$House", "allowedBy", "(I)I"⟩ yX3_allowedBy, Cond.selects RX9 ⟨"TwiceAsRich$House", "allowedBy", "(I)I"⟩ yX9_allowedBy, Cond.instanceMethod yX9_allowedBy, Cond.initialized RX9, Cond.code yX9_allowedBy cX9_allowedBy 2 (some .int), Cond.methodLink RX9 7 yX2_allowedBy, Cond.superclass RX9 RX2, Cond.selects RX10 ⟨"TwiceAsRich$House", "allowedBy", "(I)I"⟩ yX10_allowedBy, Cond.methodLink RX7 54 yX7_behind, Cond.instanceMethod yX7_behind, Cond.selects RX7 yX7_behind yX7_behind, Cond.code yX7_behind cX7_behind 2 (some .int)]
def wsX11_wedding : List Cond := .code yX11_wedding cX11_wedding 2 (some .int) :: ((wsX11_wedding_r1 ++ (wsX11_wedding_r2 ++ (wsX11_wedding_r3 ++ (wsX11_wedding_r4 ++ (wsX11_wedding_r5 ++ wsX11_wedding_r6))))) ++ wsX110 ++ wsX70 ++ wsX00 ++ wsX10 ++ wsX20 ++ wsX30 ++ wsX40 ++ wsX60 ++ wsX90 ++ wsX100)
def wsX11_worth_r1 : List Cond := [Cond.fieldLink RX11 10 "TwiceAsRich" "street" "LTwiceAsRich$Street;", Cond.constant RX11 192 (-1000000001), Cond.fieldLink RX11 19 "TwiceAsRich" "mind" "LTwiceAsRich$Street;", Cond.fieldLink RX11 27 "TwiceAsRich" "plainHouse" "LTwiceAsRich$House;", Cond.methodLink RX11 89 yX7_has, Cond.instanceMethod yX7_has, Cond.selects RX7 yX7_has yX7_has, Cond.initialized RX7, Cond.code yX7_has cX7_has 2 (some .boolean), Cond.fieldLink RX7 21 "TwiceAsRich$Street" "count" "I", Cond.methodLink RX11 120 yX11_isPurse, Cond.static yX11_isPurse, Cond.initialized RX11, Cond.code yX11_isPurse cX11_isPurse 1 (some .boolean), Cond.methodLink RX11 78 yX7_become, Cond.instanceMethod yX7_become, Cond.selects RX7 yX7_become yX7_become, Cond.code yX7_become cX7_become 3 none, Cond.fieldLink RX7 11 "TwiceAsRich$Street" "houses" "[LTwiceAsRich$House;", Cond.fieldLink RX7 17 "TwiceAsRich$Street" "purses" "[I", Cond.fieldLink RX7 25 "TwiceAsRich$Street" "round" "I", Cond.methodLink RX11 129 yX7_insert, Cond.instanceMethod yX7_insert, Cond.selects RX7 yX7_insert yX7_insert]
def wsX11_worth_r2 : List Cond := [Cond.code yX7_insert cX7_insert 5 none, Cond.methodLink RX11 114 yX7_mostOf, Cond.instanceMethod yX7_mostOf, Cond.selects RX7 yX7_mostOf yX7_mostOf, Cond.code yX7_mostOf cX7_mostOf 2 (some .int), Cond.methodLink RX7 57 Lib.Math.min.name, Cond.static Lib.Math.min.name, Cond.initialized "java/lang/Math", Cond.code Lib.Math.min.name Lib.Math.min.code 2 (some .int), Cond.methodLink RX7 47 yX7_ahead, Cond.instanceMethod yX7_ahead, Cond.selects RX7 yX7_ahead yX7_ahead, Cond.code yX7_ahead cX7_ahead 2 (some .int), Cond.methodLink RX7 32 yX7_isClosed, Cond.instanceMethod yX7_isClosed, Cond.selects RX7 yX7_isClosed yX7_isClosed, Cond.code yX7_isClosed cX7_isClosed 1 (some .boolean), Cond.methodLink RX7 50 yX7_limitBy, Cond.instanceMethod yX7_limitBy, Cond.selects RX7 yX7_limitBy yX7_limitBy, Cond.code yX7_limitBy cX7_limitBy 3 (some .int), Cond.constant RX7 39 (1000000), Cond.methodLink RX7 36 ⟨"TwiceAsRich$House", "isLookedAt", "()Z"⟩, Cond.sameMethod "TwiceAsRich$House" "TwiceAsRich$House" "isLookedAt" "()Z"]
def wsX11_worth_r3 : List Cond := [Cond.selects RX0 ⟨"TwiceAsRich$House", "isLookedAt", "()Z"⟩ yX3_isLookedAt, Cond.instanceMethod yX3_isLookedAt, Cond.initialized RX3, Cond.code yX3_isLookedAt cX3_isLookedAt 1 (some .boolean), Cond.instanceMethod ⟨"TwiceAsRich$House", "isLookedAt", "()Z"⟩, Cond.selects RX1 ⟨"TwiceAsRich$House", "isLookedAt", "()Z"⟩ yX1_isLookedAt, Cond.instanceMethod yX1_isLookedAt, Cond.initialized RX1, Cond.code yX1_isLookedAt cX1_isLookedAt 1 (some .boolean), Cond.selects RX2 ⟨"TwiceAsRich$House", "isLookedAt", "()Z"⟩ yX3_isLookedAt, Cond.methodLink RX7 36 yX3_isLookedAt, Cond.selects RX3 yX3_isLookedAt yX3_isLookedAt, Cond.selects RX4 ⟨"TwiceAsRich$House", "isLookedAt", "()Z"⟩ yX3_isLookedAt, Cond.selects RX6 ⟨"TwiceAsRich$House", "isLookedAt", "()Z"⟩ yX3_isLookedAt, Cond.selects RX9 ⟨"TwiceAsRich$House", "isLookedAt", "()Z"⟩ yX3_isLookedAt, Cond.selects RX10 ⟨"TwiceAsRich$House", "isLookedAt", "()Z"⟩ yX10_isLookedAt, Cond.instanceMethod yX10_isLookedAt, Cond.initialized RX10, Cond.code yX10_isLookedAt cX10_isLookedAt 1 (some .boolean), Cond.methodLink RX7 40 ⟨"TwiceAsRich$House", "shownOf", "(I)I"⟩, Cond.sameMethod "TwiceAsRich$House" "TwiceAsRich$House" "shownOf" "(I)I", Cond.instanceMethod ⟨"TwiceAsRich$House", "shownOf", "(I)I"⟩, Cond.selects RX0 ⟨"TwiceAsRich$House", "shownOf", "(I)I"⟩ yX0_shownOf, Cond.instanceMethod yX0_shownOf]
def wsX11_worth_r4 : List Cond := [Cond.initialized RX0, Cond.code yX0_shownOf cX0_shownOf 2 (some .int), Cond.fieldLink RX0 11 "TwiceAsRich$Beggar" "figure" "I", Cond.sameField "TwiceAsRich$Beggar" "TwiceAsRich$House" "figure" "I", Cond.methodLink RX0 7 yX6_shownOf, Cond.sameMethod "TwiceAsRich$Priest" "TwiceAsRich$Priest" "shownOf" "(I)I", Cond.superclass RX0 RX6, Cond.instanceMethod yX6_shownOf, Cond.initialized RX6, Cond.code yX6_shownOf cX6_shownOf 2 (some .int), Cond.methodLink RX6 7 yX3_shownOf, Cond.superclass RX6 RX3, Cond.instanceMethod yX3_shownOf, Cond.code yX3_shownOf cX3_shownOf 2 (some .int), Cond.selects RX1 ⟨"TwiceAsRich$House", "shownOf", "(I)I"⟩ yX3_shownOf, Cond.selects RX2 ⟨"TwiceAsRich$House", "shownOf", "(I)I"⟩ yX3_shownOf, Cond.methodLink RX7 40 yX3_shownOf, Cond.selects RX3 yX3_shownOf yX3_shownOf, Cond.selects RX4 ⟨"TwiceAsRich$House", "shownOf", "(I)I"⟩ yX4_shownOf, Cond.instanceMethod yX4_shownOf, Cond.initialized RX4, Cond.code yX4_shownOf cX4_shownOf 2 (some .int), Cond.selects RX6 ⟨"TwiceAsRich$House", "shownOf", "(I)I"⟩ yX6_shownOf, Cond.selects RX9 ⟨"TwiceAsRich$House", "shownOf", "(I)I"⟩ yX3_shownOf]
def wsX11_worth_r5 : List Cond := [Cond.selects RX10 ⟨"TwiceAsRich$House", "shownOf", "(I)I"⟩ yX3_shownOf, Cond.methodLink RX7 44 ⟨"TwiceAsRich$House", "allowedBy", "(I)I"⟩, Cond.sameMethod "TwiceAsRich$House" "TwiceAsRich$House" "allowedBy" "(I)I", Cond.selects RX0 ⟨"TwiceAsRich$House", "allowedBy", "(I)I"⟩ yX3_allowedBy, Cond.instanceMethod yX3_allowedBy, Cond.code yX3_allowedBy cX3_allowedBy 2 (some .int), Cond.instanceMethod ⟨"TwiceAsRich$House", "allowedBy", "(I)I"⟩, Cond.selects RX1 ⟨"TwiceAsRich$House", "allowedBy", "(I)I"⟩ yX10_allowedBy, Cond.instanceMethod yX10_allowedBy, Cond.code yX10_allowedBy cX10_allowedBy 2 (some .int), Cond.selects RX2 ⟨"TwiceAsRich$House", "allowedBy", "(I)I"⟩ yX2_allowedBy, Cond.instanceMethod yX2_allowedBy, Cond.initialized RX2, Cond.code yX2_allowedBy cX2_allowedBy 2 (some .int), Cond.fieldLink RX2 11 "TwiceAsRich$Heir" "figure" "I", Cond.sameField "TwiceAsRich$Heir" "TwiceAsRich$House" "figure" "I", Cond.methodLink RX2 7 yX3_allowedBy, Cond.superclass RX2 RX3, Cond.methodLink RX7 44 yX3_allowedBy, Cond.selects RX3 yX3_allowedBy yX3_allowedBy, Cond.selects RX4 ⟨"TwiceAsRich$House", "allowedBy", "(I)I"⟩ yX4_allowedBy, Cond.instanceMethod yX4_allowedBy, Cond.code yX4_allowedBy cX4_allowedBy 2 (some .int), Cond.methodLink RX4 14 Lib.Math.max.name]
def wsX11_worth_r6 : List Cond := [Cond.static Lib.Math.max.name, Cond.code Lib.Math.max.name Lib.Math.max.code 2 (some .int), Cond.methodLink RX4 11 yX2_allowedBy, Cond.sameMethod "TwiceAsRich$Heir" "TwiceAsRich$Heir" "allowedBy" "(I)I", Cond.superclass RX4 RX2, Cond.selects RX6 ⟨"TwiceAsRich$House", "allowedBy", "(I)I"⟩ yX3_allowedBy, Cond.selects RX9 ⟨"TwiceAsRich$House", "allowedBy", "(I)I"⟩ yX9_allowedBy, Cond.instanceMethod yX9_allowedBy, Cond.initialized RX9, Cond.code yX9_allowedBy cX9_allowedBy 2 (some .int), Cond.methodLink RX9 7 yX2_allowedBy, Cond.superclass RX9 RX2, Cond.selects RX10 ⟨"TwiceAsRich$House", "allowedBy", "(I)I"⟩ yX10_allowedBy, Cond.methodLink RX7 54 yX7_behind, Cond.instanceMethod yX7_behind, Cond.selects RX7 yX7_behind yX7_behind, Cond.code yX7_behind cX7_behind 2 (some .int)]
def wsX11_worth : List Cond := .code yX11_worth cX11_worth 3 (some .int) :: ((wsX11_worth_r1 ++ (wsX11_worth_r2 ++ (wsX11_worth_r3 ++ (wsX11_worth_r4 ++ (wsX11_worth_r5 ++ wsX11_worth_r6))))) ++ wsX110 ++ wsX70 ++ wsX00 ++ wsX10 ++ wsX20 ++ wsX30 ++ wsX40 ++ wsX60 ++ wsX90 ++ wsX100)
def wsX11_fitting_r1 : List Cond := [Cond.fieldLink RX11 10 "TwiceAsRich" "street" "LTwiceAsRich$Street;", Cond.fieldLink RX11 19 "TwiceAsRich" "mind" "LTwiceAsRich$Street;", Cond.fieldLink RX11 103 "TwiceAsRich$Street" "purses" "[I", Cond.methodLink RX11 89 yX7_has, Cond.instanceMethod yX7_has, Cond.selects RX7 yX7_has yX7_has, Cond.initialized RX7, Cond.code yX7_has cX7_has 2 (some .boolean), Cond.fieldLink RX7 21 "TwiceAsRich$Street" "count" "I", Cond.methodLink RX11 78 yX7_become, Cond.instanceMethod yX7_become, Cond.selects RX7 yX7_become yX7_become, Cond.code yX7_become cX7_become 3 none, Cond.fieldLink RX7 11 "TwiceAsRich$Street" "houses" "[LTwiceAsRich$House;", Cond.fieldLink RX7 17 "TwiceAsRich$Street" "purses" "[I", Cond.fieldLink RX7 25 "TwiceAsRich$Street" "round" "I", Cond.methodLink RX11 146 yX7_allBreaches, Cond.instanceMethod yX7_allBreaches, Cond.selects RX7 yX7_allBreaches yX7_allBreaches, Cond.code yX7_allBreaches cX7_allBreaches 3 (some .int), Cond.methodLink RX7 62 yX7_breachesOf, Cond.instanceMethod yX7_breachesOf, Cond.selects RX7 yX7_breachesOf yX7_breachesOf, Cond.code yX7_breachesOf cX7_breachesOf 3 (some .int)]
def wsX11_fitting_r2 : List Cond := [Cond.methodLink RX7 47 yX7_ahead, Cond.instanceMethod yX7_ahead, Cond.selects RX7 yX7_ahead yX7_ahead, Cond.code yX7_ahead cX7_ahead 2 (some .int), Cond.methodLink RX7 32 yX7_isClosed, Cond.instanceMethod yX7_isClosed, Cond.selects RX7 yX7_isClosed yX7_isClosed, Cond.code yX7_isClosed cX7_isClosed 1 (some .boolean), Cond.methodLink RX7 50 yX7_limitBy, Cond.instanceMethod yX7_limitBy, Cond.selects RX7 yX7_limitBy yX7_limitBy, Cond.code yX7_limitBy cX7_limitBy 3 (some .int), Cond.constant RX7 39 (1000000), Cond.methodLink RX7 36 ⟨"TwiceAsRich$House", "isLookedAt", "()Z"⟩, Cond.sameMethod "TwiceAsRich$House" "TwiceAsRich$House" "isLookedAt" "()Z", Cond.selects RX0 ⟨"TwiceAsRich$House", "isLookedAt", "()Z"⟩ yX3_isLookedAt, Cond.instanceMethod yX3_isLookedAt, Cond.initialized RX3, Cond.code yX3_isLookedAt cX3_isLookedAt 1 (some .boolean), Cond.instanceMethod ⟨"TwiceAsRich$House", "isLookedAt", "()Z"⟩, Cond.selects RX1 ⟨"TwiceAsRich$House", "isLookedAt", "()Z"⟩ yX1_isLookedAt, Cond.instanceMethod yX1_isLookedAt, Cond.initialized RX1, Cond.code yX1_isLookedAt cX1_isLookedAt 1 (some .boolean)]
def wsX11_fitting_r3 : List Cond := [Cond.selects RX2 ⟨"TwiceAsRich$House", "isLookedAt", "()Z"⟩ yX3_isLookedAt, Cond.methodLink RX7 36 yX3_isLookedAt, Cond.selects RX3 yX3_isLookedAt yX3_isLookedAt, Cond.selects RX4 ⟨"TwiceAsRich$House", "isLookedAt", "()Z"⟩ yX3_isLookedAt, Cond.selects RX6 ⟨"TwiceAsRich$House", "isLookedAt", "()Z"⟩ yX3_isLookedAt, Cond.selects RX9 ⟨"TwiceAsRich$House", "isLookedAt", "()Z"⟩ yX3_isLookedAt, Cond.selects RX10 ⟨"TwiceAsRich$House", "isLookedAt", "()Z"⟩ yX10_isLookedAt, Cond.instanceMethod yX10_isLookedAt, Cond.initialized RX10, Cond.code yX10_isLookedAt cX10_isLookedAt 1 (some .boolean), Cond.methodLink RX7 40 ⟨"TwiceAsRich$House", "shownOf", "(I)I"⟩, Cond.sameMethod "TwiceAsRich$House" "TwiceAsRich$House" "shownOf" "(I)I", Cond.instanceMethod ⟨"TwiceAsRich$House", "shownOf", "(I)I"⟩, Cond.selects RX0 ⟨"TwiceAsRich$House", "shownOf", "(I)I"⟩ yX0_shownOf, Cond.instanceMethod yX0_shownOf, Cond.initialized RX0, Cond.code yX0_shownOf cX0_shownOf 2 (some .int), Cond.fieldLink RX0 11 "TwiceAsRich$Beggar" "figure" "I", Cond.sameField "TwiceAsRich$Beggar" "TwiceAsRich$House" "figure" "I", Cond.methodLink RX0 7 yX6_shownOf, Cond.sameMethod "TwiceAsRich$Priest" "TwiceAsRich$Priest" "shownOf" "(I)I", Cond.superclass RX0 RX6, Cond.instanceMethod yX6_shownOf, Cond.initialized RX6]
def wsX11_fitting_r4 : List Cond := [Cond.code yX6_shownOf cX6_shownOf 2 (some .int), Cond.methodLink RX6 7 yX3_shownOf, Cond.superclass RX6 RX3, Cond.instanceMethod yX3_shownOf, Cond.code yX3_shownOf cX3_shownOf 2 (some .int), Cond.selects RX1 ⟨"TwiceAsRich$House", "shownOf", "(I)I"⟩ yX3_shownOf, Cond.selects RX2 ⟨"TwiceAsRich$House", "shownOf", "(I)I"⟩ yX3_shownOf, Cond.methodLink RX7 40 yX3_shownOf, Cond.selects RX3 yX3_shownOf yX3_shownOf, Cond.selects RX4 ⟨"TwiceAsRich$House", "shownOf", "(I)I"⟩ yX4_shownOf, Cond.instanceMethod yX4_shownOf, Cond.initialized RX4, Cond.code yX4_shownOf cX4_shownOf 2 (some .int), Cond.selects RX6 ⟨"TwiceAsRich$House", "shownOf", "(I)I"⟩ yX6_shownOf, Cond.selects RX9 ⟨"TwiceAsRich$House", "shownOf", "(I)I"⟩ yX3_shownOf, Cond.selects RX10 ⟨"TwiceAsRich$House", "shownOf", "(I)I"⟩ yX3_shownOf, Cond.methodLink RX7 44 ⟨"TwiceAsRich$House", "allowedBy", "(I)I"⟩, Cond.sameMethod "TwiceAsRich$House" "TwiceAsRich$House" "allowedBy" "(I)I", Cond.selects RX0 ⟨"TwiceAsRich$House", "allowedBy", "(I)I"⟩ yX3_allowedBy, Cond.instanceMethod yX3_allowedBy, Cond.code yX3_allowedBy cX3_allowedBy 2 (some .int), Cond.instanceMethod ⟨"TwiceAsRich$House", "allowedBy", "(I)I"⟩, Cond.selects RX1 ⟨"TwiceAsRich$House", "allowedBy", "(I)I"⟩ yX10_allowedBy, Cond.instanceMethod yX10_allowedBy]
def wsX11_fitting_r5 : List Cond := [Cond.code yX10_allowedBy cX10_allowedBy 2 (some .int), Cond.selects RX2 ⟨"TwiceAsRich$House", "allowedBy", "(I)I"⟩ yX2_allowedBy, Cond.instanceMethod yX2_allowedBy, Cond.initialized RX2, Cond.code yX2_allowedBy cX2_allowedBy 2 (some .int), Cond.fieldLink RX2 11 "TwiceAsRich$Heir" "figure" "I", Cond.sameField "TwiceAsRich$Heir" "TwiceAsRich$House" "figure" "I", Cond.methodLink RX2 7 yX3_allowedBy, Cond.superclass RX2 RX3, Cond.methodLink RX7 44 yX3_allowedBy, Cond.selects RX3 yX3_allowedBy yX3_allowedBy, Cond.selects RX4 ⟨"TwiceAsRich$House", "allowedBy", "(I)I"⟩ yX4_allowedBy, Cond.instanceMethod yX4_allowedBy, Cond.code yX4_allowedBy cX4_allowedBy 2 (some .int), Cond.methodLink RX4 14 Lib.Math.max.name, Cond.static Lib.Math.max.name, Cond.initialized "java/lang/Math", Cond.code Lib.Math.max.name Lib.Math.max.code 2 (some .int), Cond.methodLink RX4 11 yX2_allowedBy, Cond.sameMethod "TwiceAsRich$Heir" "TwiceAsRich$Heir" "allowedBy" "(I)I", Cond.superclass RX4 RX2, Cond.selects RX6 ⟨"TwiceAsRich$House", "allowedBy", "(I)I"⟩ yX3_allowedBy, Cond.selects RX9 ⟨"TwiceAsRich$House", "allowedBy", "(I)I"⟩ yX9_allowedBy, Cond.instanceMethod yX9_allowedBy]
def wsX11_fitting_r6 : List Cond := [Cond.initialized RX9, Cond.code yX9_allowedBy cX9_allowedBy 2 (some .int), Cond.methodLink RX9 7 yX2_allowedBy, Cond.superclass RX9 RX2, Cond.selects RX10 ⟨"TwiceAsRich$House", "allowedBy", "(I)I"⟩ yX10_allowedBy, Cond.methodLink RX7 54 yX7_behind, Cond.instanceMethod yX7_behind, Cond.selects RX7 yX7_behind yX7_behind, Cond.code yX7_behind cX7_behind 2 (some .int)]
def wsX11_fitting : List Cond := .code yX11_fitting cX11_fitting 7 (some .int) :: ((wsX11_fitting_r1 ++ (wsX11_fitting_r2 ++ (wsX11_fitting_r3 ++ (wsX11_fitting_r4 ++ (wsX11_fitting_r5 ++ wsX11_fitting_r6))))) ++ wsX110 ++ wsX70 ++ wsX00 ++ wsX10 ++ wsX20 ++ wsX30 ++ wsX40 ++ wsX60 ++ wsX90 ++ wsX100)
def wsX11_areGifts : List Cond := .code yX11_areGifts cX11_areGifts 4 (some .boolean) :: ([.fieldLink RX11 10 "TwiceAsRich" "street" "LTwiceAsRich$Street;", .methodLink RX11 278 yX7_hasTwo, .instanceMethod yX7_hasTwo, .selects RX7 yX7_hasTwo yX7_hasTwo, .initialized RX7, .code yX7_hasTwo cX7_hasTwo 3 (some .boolean), .methodLink RX7 28 yX7_has, .instanceMethod yX7_has, .selects RX7 yX7_has yX7_has, .code yX7_has cX7_has 2 (some .boolean), .fieldLink RX7 21 "TwiceAsRich$Street" "count" "I"] ++ wsX110 ++ wsX70)
def wsX11_given_r1 : List Cond := [Cond.fieldLink RX11 58 "TwiceAsRich" "rows" "[[I", Cond.fieldLink RX11 53 "TwiceAsRich" "sizes" "[I", Cond.fieldLink RX11 19 "TwiceAsRich" "mind" "LTwiceAsRich$Street;", Cond.fieldLink RX11 10 "TwiceAsRich" "street" "LTwiceAsRich$Street;", Cond.methodLink RX11 67 yX11_sortRefusal, Cond.instanceMethod yX11_sortRefusal, Cond.selects RX11 yX11_sortRefusal yX11_sortRefusal, Cond.initialized RX11, Cond.code yX11_sortRefusal cX11_sortRefusal 4 (some .int), Cond.fieldLink RX11 49 "TwiceAsRich" "sorts" "[I", Cond.methodLink RX11 212 yX11_rowRefusal, Cond.instanceMethod yX11_rowRefusal, Cond.selects RX11 yX11_rowRefusal yX11_rowRefusal, Cond.code yX11_rowRefusal cX11_rowRefusal 2 (some .int), Cond.methodLink RX11 225 yX11_isShelf, Cond.static yX11_isShelf, Cond.code yX11_isShelf cX11_isShelf 1 (some .boolean), Cond.methodLink RX11 254 yX11_holdsNothing, Cond.instanceMethod yX11_holdsNothing, Cond.selects RX11 yX11_holdsNothing yX11_holdsNothing, Cond.code yX11_holdsNothing cX11_holdsNothing 2 (some .boolean), Cond.fieldLink RX11 45 "TwiceAsRich" "kept" "[LTwiceAsRich$House;", Cond.methodLink RX11 193 yX11_areGifts, Cond.instanceMethod yX11_areGifts]
def wsX11_given_r2 : List Cond := [Cond.selects RX11 yX11_areGifts yX11_areGifts, Cond.code yX11_areGifts cX11_areGifts 4 (some .boolean), Cond.methodLink RX11 278 yX7_hasTwo, Cond.instanceMethod yX7_hasTwo, Cond.selects RX7 yX7_hasTwo yX7_hasTwo, Cond.initialized RX7, Cond.code yX7_hasTwo cX7_hasTwo 3 (some .boolean), Cond.methodLink RX7 28 yX7_has, Cond.instanceMethod yX7_has, Cond.selects RX7 yX7_has yX7_has, Cond.code yX7_has cX7_has 2 (some .boolean), Cond.fieldLink RX7 21 "TwiceAsRich$Street" "count" "I", Cond.methodLink RX11 78 yX7_become, Cond.instanceMethod yX7_become, Cond.selects RX7 yX7_become yX7_become, Cond.code yX7_become cX7_become 3 none, Cond.fieldLink RX7 11 "TwiceAsRich$Street" "houses" "[LTwiceAsRich$House;", Cond.fieldLink RX7 17 "TwiceAsRich$Street" "purses" "[I", Cond.fieldLink RX7 25 "TwiceAsRich$Street" "round" "I", Cond.methodLink RX11 136 yX7_gift, Cond.instanceMethod yX7_gift, Cond.selects RX7 yX7_gift yX7_gift, Cond.code yX7_gift cX7_gift 4 (some .int), Cond.methodLink RX7 69 yX7_hasTwo]
def wsX11_given_r3 : List Cond := [Cond.methodLink RX11 146 yX7_allBreaches, Cond.instanceMethod yX7_allBreaches, Cond.selects RX7 yX7_allBreaches yX7_allBreaches, Cond.code yX7_allBreaches cX7_allBreaches 3 (some .int), Cond.methodLink RX7 62 yX7_breachesOf, Cond.instanceMethod yX7_breachesOf, Cond.selects RX7 yX7_breachesOf yX7_breachesOf, Cond.code yX7_breachesOf cX7_breachesOf 3 (some .int), Cond.methodLink RX7 47 yX7_ahead, Cond.instanceMethod yX7_ahead, Cond.selects RX7 yX7_ahead yX7_ahead, Cond.code yX7_ahead cX7_ahead 2 (some .int), Cond.methodLink RX7 32 yX7_isClosed, Cond.instanceMethod yX7_isClosed, Cond.selects RX7 yX7_isClosed yX7_isClosed, Cond.code yX7_isClosed cX7_isClosed 1 (some .boolean), Cond.methodLink RX7 50 yX7_limitBy, Cond.instanceMethod yX7_limitBy, Cond.selects RX7 yX7_limitBy yX7_limitBy, Cond.code yX7_limitBy cX7_limitBy 3 (some .int), Cond.constant RX7 39 (1000000), Cond.methodLink RX7 36 ⟨"TwiceAsRich$House", "isLookedAt", "()Z"⟩, Cond.sameMethod "TwiceAsRich$House" "TwiceAsRich$House" "isLookedAt" "()Z", Cond.selects RX0 ⟨"TwiceAsRich$House", "isLookedAt", "()Z"⟩ yX3_isLookedAt]
def wsX11_given_r4 : List Cond := [Cond.instanceMethod yX3_isLookedAt, Cond.initialized RX3, Cond.code yX3_isLookedAt cX3_isLookedAt 1 (some .boolean), Cond.instanceMethod ⟨"TwiceAsRich$House", "isLookedAt", "()Z"⟩, Cond.selects RX1 ⟨"TwiceAsRich$House", "isLookedAt", "()Z"⟩ yX1_isLookedAt, Cond.instanceMethod yX1_isLookedAt, Cond.initialized RX1, Cond.code yX1_isLookedAt cX1_isLookedAt 1 (some .boolean), Cond.selects RX2 ⟨"TwiceAsRich$House", "isLookedAt", "()Z"⟩ yX3_isLookedAt, Cond.methodLink RX7 36 yX3_isLookedAt, Cond.selects RX3 yX3_isLookedAt yX3_isLookedAt, Cond.selects RX4 ⟨"TwiceAsRich$House", "isLookedAt", "()Z"⟩ yX3_isLookedAt, Cond.selects RX6 ⟨"TwiceAsRich$House", "isLookedAt", "()Z"⟩ yX3_isLookedAt, Cond.selects RX9 ⟨"TwiceAsRich$House", "isLookedAt", "()Z"⟩ yX3_isLookedAt, Cond.selects RX10 ⟨"TwiceAsRich$House", "isLookedAt", "()Z"⟩ yX10_isLookedAt, Cond.instanceMethod yX10_isLookedAt, Cond.initialized RX10, Cond.code yX10_isLookedAt cX10_isLookedAt 1 (some .boolean), Cond.methodLink RX7 40 ⟨"TwiceAsRich$House", "shownOf", "(I)I"⟩, Cond.sameMethod "TwiceAsRich$House" "TwiceAsRich$House" "shownOf" "(I)I", Cond.instanceMethod ⟨"TwiceAsRich$House", "shownOf", "(I)I"⟩, Cond.selects RX0 ⟨"TwiceAsRich$House", "shownOf", "(I)I"⟩ yX0_shownOf, Cond.instanceMethod yX0_shownOf, Cond.initialized RX0]
def wsX11_given_r5 : List Cond := [Cond.code yX0_shownOf cX0_shownOf 2 (some .int), Cond.fieldLink RX0 11 "TwiceAsRich$Beggar" "figure" "I", Cond.sameField "TwiceAsRich$Beggar" "TwiceAsRich$House" "figure" "I", Cond.methodLink RX0 7 yX6_shownOf, Cond.sameMethod "TwiceAsRich$Priest" "TwiceAsRich$Priest" "shownOf" "(I)I", Cond.superclass RX0 RX6, Cond.instanceMethod yX6_shownOf, Cond.initialized RX6, Cond.code yX6_shownOf cX6_shownOf 2 (some .int), Cond.methodLink RX6 7 yX3_shownOf, Cond.superclass RX6 RX3, Cond.instanceMethod yX3_shownOf, Cond.code yX3_shownOf cX3_shownOf 2 (some .int), Cond.selects RX1 ⟨"TwiceAsRich$House", "shownOf", "(I)I"⟩ yX3_shownOf, Cond.selects RX2 ⟨"TwiceAsRich$House", "shownOf", "(I)I"⟩ yX3_shownOf, Cond.methodLink RX7 40 yX3_shownOf, Cond.selects RX3 yX3_shownOf yX3_shownOf, Cond.selects RX4 ⟨"TwiceAsRich$House", "shownOf", "(I)I"⟩ yX4_shownOf, Cond.instanceMethod yX4_shownOf, Cond.initialized RX4, Cond.code yX4_shownOf cX4_shownOf 2 (some .int), Cond.selects RX6 ⟨"TwiceAsRich$House", "shownOf", "(I)I"⟩ yX6_shownOf, Cond.selects RX9 ⟨"TwiceAsRich$House", "shownOf", "(I)I"⟩ yX3_shownOf, Cond.selects RX10 ⟨"TwiceAsRich$House", "shownOf", "(I)I"⟩ yX3_shownOf]
def wsX11_given_r6 : List Cond := [Cond.methodLink RX7 44 ⟨"TwiceAsRich$House", "allowedBy", "(I)I"⟩, Cond.sameMethod "TwiceAsRich$House" "TwiceAsRich$House" "allowedBy" "(I)I", Cond.selects RX0 ⟨"TwiceAsRich$House", "allowedBy", "(I)I"⟩ yX3_allowedBy, Cond.instanceMethod yX3_allowedBy, Cond.code yX3_allowedBy cX3_allowedBy 2 (some .int), Cond.instanceMethod ⟨"TwiceAsRich$House", "allowedBy", "(I)I"⟩, Cond.selects RX1 ⟨"TwiceAsRich$House", "allowedBy", "(I)I"⟩ yX10_allowedBy, Cond.instanceMethod yX10_allowedBy, Cond.code yX10_allowedBy cX10_allowedBy 2 (some .int), Cond.selects RX2 ⟨"TwiceAsRich$House", "allowedBy", "(I)I"⟩ yX2_allowedBy, Cond.instanceMethod yX2_allowedBy, Cond.initialized RX2, Cond.code yX2_allowedBy cX2_allowedBy 2 (some .int), Cond.fieldLink RX2 11 "TwiceAsRich$Heir" "figure" "I", Cond.sameField "TwiceAsRich$Heir" "TwiceAsRich$House" "figure" "I", Cond.methodLink RX2 7 yX3_allowedBy, Cond.superclass RX2 RX3, Cond.methodLink RX7 44 yX3_allowedBy, Cond.selects RX3 yX3_allowedBy yX3_allowedBy, Cond.selects RX4 ⟨"TwiceAsRich$House", "allowedBy", "(I)I"⟩ yX4_allowedBy, Cond.instanceMethod yX4_allowedBy, Cond.code yX4_allowedBy cX4_allowedBy 2 (some .int), Cond.methodLink RX4 14 Lib.Math.max.name, Cond.static Lib.Math.max.name]
def wsX11_given_r7 : List Cond := [Cond.initialized "java/lang/Math", Cond.code Lib.Math.max.name Lib.Math.max.code 2 (some .int), Cond.methodLink RX4 11 yX2_allowedBy, Cond.sameMethod "TwiceAsRich$Heir" "TwiceAsRich$Heir" "allowedBy" "(I)I", Cond.superclass RX4 RX2, Cond.selects RX6 ⟨"TwiceAsRich$House", "allowedBy", "(I)I"⟩ yX3_allowedBy, Cond.selects RX9 ⟨"TwiceAsRich$House", "allowedBy", "(I)I"⟩ yX9_allowedBy, Cond.instanceMethod yX9_allowedBy, Cond.initialized RX9, Cond.code yX9_allowedBy cX9_allowedBy 2 (some .int), Cond.methodLink RX9 7 yX2_allowedBy, Cond.superclass RX9 RX2, Cond.selects RX10 ⟨"TwiceAsRich$House", "allowedBy", "(I)I"⟩ yX10_allowedBy, Cond.methodLink RX7 54 yX7_behind, Cond.instanceMethod yX7_behind, Cond.selects RX7 yX7_behind yX7_behind, Cond.code yX7_behind cX7_behind 2 (some .int)]
def wsX11_given : List Cond := .code yX11_given cX11_given 6 (some .int) :: ((wsX11_given_r1 ++ (wsX11_given_r2 ++ (wsX11_given_r3 ++ (wsX11_given_r4 ++ (wsX11_given_r5 ++ (wsX11_given_r6 ++ wsX11_given_r7)))))) ++ wsX110 ++ wsX70 ++ wsX00 ++ wsX10 ++ wsX20 ++ wsX30 ++ wsX40 ++ wsX60 ++ wsX90 ++ wsX100)
def wsX11_tax : List Cond := .code yX11_tax cX11_tax 4 (some .int) :: ([.fieldLink RX11 10 "TwiceAsRich" "street" "LTwiceAsRich$Street;", .fieldLink RX11 126 "TwiceAsRich$Street" "count" "I", .fieldLink RX11 103 "TwiceAsRich$Street" "purses" "[I", .methodLink RX11 184 Lib.Math.min.name, .static Lib.Math.min.name, .initialized "java/lang/Math", .code Lib.Math.min.name Lib.Math.min.code 2 (some .int), .methodLink RX11 120 yX11_isPurse, .static yX11_isPurse, .initialized RX11, .code yX11_isPurse cX11_isPurse 1 (some .boolean)] ++ wsX110 ++ wsX70)
def wsX11_nextDraw : List Cond := .code yX11_nextDraw cX11_nextDraw 1 (some .int) :: ([.constant RX11 282 (1103515245)])
def wsX11_drawnBelow : List Cond := .code yX11_drawnBelow cX11_drawnBelow 2 (some .int) :: ([.constant RX11 283 (2147483647), .constant RX11 284 (65536)])
def wsX11_seeded_r1 : List Cond := [Cond.fieldLink RX11 10 "TwiceAsRich" "street" "LTwiceAsRich$Street;", Cond.fieldLink RX11 126 "TwiceAsRich$Street" "count" "I", Cond.fieldLink RX11 19 "TwiceAsRich" "mind" "LTwiceAsRich$Street;", Cond.methodLink RX11 78 yX7_become, Cond.instanceMethod yX7_become, Cond.selects RX7 yX7_become yX7_become, Cond.initialized RX7, Cond.code yX7_become cX7_become 3 none, Cond.fieldLink RX7 11 "TwiceAsRich$Street" "houses" "[LTwiceAsRich$House;", Cond.fieldLink RX7 17 "TwiceAsRich$Street" "purses" "[I", Cond.fieldLink RX7 21 "TwiceAsRich$Street" "count" "I", Cond.fieldLink RX7 25 "TwiceAsRich$Street" "round" "I", Cond.methodLink RX11 197 yX11_nextDraw, Cond.static yX11_nextDraw, Cond.initialized RX11, Cond.code yX11_nextDraw cX11_nextDraw 1 (some .int), Cond.constant RX11 282 (1103515245), Cond.methodLink RX11 200 yX11_drawnBelow, Cond.static yX11_drawnBelow, Cond.code yX11_drawnBelow cX11_drawnBelow 2 (some .int), Cond.constant RX11 283 (2147483647), Cond.constant RX11 284 (65536), Cond.methodLink RX11 203 yX7_ahead, Cond.instanceMethod yX7_ahead]
def wsX11_seeded_r2 : List Cond := [Cond.selects RX7 yX7_ahead yX7_ahead, Cond.code yX7_ahead cX7_ahead 2 (some .int), Cond.methodLink RX7 32 yX7_isClosed, Cond.instanceMethod yX7_isClosed, Cond.selects RX7 yX7_isClosed yX7_isClosed, Cond.code yX7_isClosed cX7_isClosed 1 (some .boolean), Cond.methodLink RX11 206 yX7_behind, Cond.instanceMethod yX7_behind, Cond.selects RX7 yX7_behind yX7_behind, Cond.code yX7_behind cX7_behind 2 (some .int), Cond.methodLink RX11 209 yX7_steal, Cond.instanceMethod yX7_steal, Cond.selects RX7 yX7_steal yX7_steal, Cond.code yX7_steal cX7_steal 3 none, Cond.methodLink RX11 146 yX7_allBreaches, Cond.instanceMethod yX7_allBreaches, Cond.selects RX7 yX7_allBreaches yX7_allBreaches, Cond.code yX7_allBreaches cX7_allBreaches 3 (some .int), Cond.methodLink RX7 62 yX7_breachesOf, Cond.instanceMethod yX7_breachesOf, Cond.selects RX7 yX7_breachesOf yX7_breachesOf, Cond.code yX7_breachesOf cX7_breachesOf 3 (some .int), Cond.methodLink RX7 47 yX7_ahead, Cond.methodLink RX7 50 yX7_limitBy]
def wsX11_seeded_r3 : List Cond := [Cond.instanceMethod yX7_limitBy, Cond.selects RX7 yX7_limitBy yX7_limitBy, Cond.code yX7_limitBy cX7_limitBy 3 (some .int), Cond.constant RX7 39 (1000000), Cond.methodLink RX7 36 ⟨"TwiceAsRich$House", "isLookedAt", "()Z"⟩, Cond.sameMethod "TwiceAsRich$House" "TwiceAsRich$House" "isLookedAt" "()Z", Cond.selects RX0 ⟨"TwiceAsRich$House", "isLookedAt", "()Z"⟩ yX3_isLookedAt, Cond.instanceMethod yX3_isLookedAt, Cond.initialized RX3, Cond.code yX3_isLookedAt cX3_isLookedAt 1 (some .boolean), Cond.instanceMethod ⟨"TwiceAsRich$House", "isLookedAt", "()Z"⟩, Cond.selects RX1 ⟨"TwiceAsRich$House", "isLookedAt", "()Z"⟩ yX1_isLookedAt, Cond.instanceMethod yX1_isLookedAt, Cond.initialized RX1, Cond.code yX1_isLookedAt cX1_isLookedAt 1 (some .boolean), Cond.selects RX2 ⟨"TwiceAsRich$House", "isLookedAt", "()Z"⟩ yX3_isLookedAt, Cond.methodLink RX7 36 yX3_isLookedAt, Cond.selects RX3 yX3_isLookedAt yX3_isLookedAt, Cond.selects RX4 ⟨"TwiceAsRich$House", "isLookedAt", "()Z"⟩ yX3_isLookedAt, Cond.selects RX6 ⟨"TwiceAsRich$House", "isLookedAt", "()Z"⟩ yX3_isLookedAt, Cond.selects RX9 ⟨"TwiceAsRich$House", "isLookedAt", "()Z"⟩ yX3_isLookedAt, Cond.selects RX10 ⟨"TwiceAsRich$House", "isLookedAt", "()Z"⟩ yX10_isLookedAt, Cond.instanceMethod yX10_isLookedAt, Cond.initialized RX10]
def wsX11_seeded_r4 : List Cond := [Cond.code yX10_isLookedAt cX10_isLookedAt 1 (some .boolean), Cond.methodLink RX7 40 ⟨"TwiceAsRich$House", "shownOf", "(I)I"⟩, Cond.sameMethod "TwiceAsRich$House" "TwiceAsRich$House" "shownOf" "(I)I", Cond.instanceMethod ⟨"TwiceAsRich$House", "shownOf", "(I)I"⟩, Cond.selects RX0 ⟨"TwiceAsRich$House", "shownOf", "(I)I"⟩ yX0_shownOf, Cond.instanceMethod yX0_shownOf, Cond.initialized RX0, Cond.code yX0_shownOf cX0_shownOf 2 (some .int), Cond.fieldLink RX0 11 "TwiceAsRich$Beggar" "figure" "I", Cond.sameField "TwiceAsRich$Beggar" "TwiceAsRich$House" "figure" "I", Cond.methodLink RX0 7 yX6_shownOf, Cond.sameMethod "TwiceAsRich$Priest" "TwiceAsRich$Priest" "shownOf" "(I)I", Cond.superclass RX0 RX6, Cond.instanceMethod yX6_shownOf, Cond.initialized RX6, Cond.code yX6_shownOf cX6_shownOf 2 (some .int), Cond.methodLink RX6 7 yX3_shownOf, Cond.superclass RX6 RX3, Cond.instanceMethod yX3_shownOf, Cond.code yX3_shownOf cX3_shownOf 2 (some .int), Cond.selects RX1 ⟨"TwiceAsRich$House", "shownOf", "(I)I"⟩ yX3_shownOf, Cond.selects RX2 ⟨"TwiceAsRich$House", "shownOf", "(I)I"⟩ yX3_shownOf, Cond.methodLink RX7 40 yX3_shownOf, Cond.selects RX3 yX3_shownOf yX3_shownOf]
def wsX11_seeded_r5 : List Cond := [Cond.selects RX4 ⟨"TwiceAsRich$House", "shownOf", "(I)I"⟩ yX4_shownOf, Cond.instanceMethod yX4_shownOf, Cond.initialized RX4, Cond.code yX4_shownOf cX4_shownOf 2 (some .int), Cond.selects RX6 ⟨"TwiceAsRich$House", "shownOf", "(I)I"⟩ yX6_shownOf, Cond.selects RX9 ⟨"TwiceAsRich$House", "shownOf", "(I)I"⟩ yX3_shownOf, Cond.selects RX10 ⟨"TwiceAsRich$House", "shownOf", "(I)I"⟩ yX3_shownOf, Cond.methodLink RX7 44 ⟨"TwiceAsRich$House", "allowedBy", "(I)I"⟩, Cond.sameMethod "TwiceAsRich$House" "TwiceAsRich$House" "allowedBy" "(I)I", Cond.selects RX0 ⟨"TwiceAsRich$House", "allowedBy", "(I)I"⟩ yX3_allowedBy, Cond.instanceMethod yX3_allowedBy, Cond.code yX3_allowedBy cX3_allowedBy 2 (some .int), Cond.instanceMethod ⟨"TwiceAsRich$House", "allowedBy", "(I)I"⟩, Cond.selects RX1 ⟨"TwiceAsRich$House", "allowedBy", "(I)I"⟩ yX10_allowedBy, Cond.instanceMethod yX10_allowedBy, Cond.code yX10_allowedBy cX10_allowedBy 2 (some .int), Cond.selects RX2 ⟨"TwiceAsRich$House", "allowedBy", "(I)I"⟩ yX2_allowedBy, Cond.instanceMethod yX2_allowedBy, Cond.initialized RX2, Cond.code yX2_allowedBy cX2_allowedBy 2 (some .int), Cond.fieldLink RX2 11 "TwiceAsRich$Heir" "figure" "I", Cond.sameField "TwiceAsRich$Heir" "TwiceAsRich$House" "figure" "I", Cond.methodLink RX2 7 yX3_allowedBy, Cond.superclass RX2 RX3]
def wsX11_seeded_r6 : List Cond := [Cond.methodLink RX7 44 yX3_allowedBy, Cond.selects RX3 yX3_allowedBy yX3_allowedBy, Cond.selects RX4 ⟨"TwiceAsRich$House", "allowedBy", "(I)I"⟩ yX4_allowedBy, Cond.instanceMethod yX4_allowedBy, Cond.code yX4_allowedBy cX4_allowedBy 2 (some .int), Cond.methodLink RX4 14 Lib.Math.max.name, Cond.static Lib.Math.max.name, Cond.initialized "java/lang/Math", Cond.code Lib.Math.max.name Lib.Math.max.code 2 (some .int), Cond.methodLink RX4 11 yX2_allowedBy, Cond.sameMethod "TwiceAsRich$Heir" "TwiceAsRich$Heir" "allowedBy" "(I)I", Cond.superclass RX4 RX2, Cond.selects RX6 ⟨"TwiceAsRich$House", "allowedBy", "(I)I"⟩ yX3_allowedBy, Cond.selects RX9 ⟨"TwiceAsRich$House", "allowedBy", "(I)I"⟩ yX9_allowedBy, Cond.instanceMethod yX9_allowedBy, Cond.initialized RX9, Cond.code yX9_allowedBy cX9_allowedBy 2 (some .int), Cond.methodLink RX9 7 yX2_allowedBy, Cond.superclass RX9 RX2, Cond.selects RX10 ⟨"TwiceAsRich$House", "allowedBy", "(I)I"⟩ yX10_allowedBy, Cond.methodLink RX7 54 yX7_behind]
def wsX11_seeded : List Cond := .code yX11_seeded cX11_seeded 8 (some .int) :: ((wsX11_seeded_r1 ++ (wsX11_seeded_r2 ++ (wsX11_seeded_r3 ++ (wsX11_seeded_r4 ++ (wsX11_seeded_r5 ++ wsX11_seeded_r6))))) ++ wsX110 ++ wsX70 ++ wsX00 ++ wsX10 ++ wsX20 ++ wsX30 ++ wsX40 ++ wsX60 ++ wsX90 ++ wsX100)
def wsX11_leastOf : List Cond := .code yX11_leastOf cX11_leastOf 1 (some .int) :: ([.constant RX11 281 (-2147483648)])
def wsX11_judge_r1 : List Cond := [Cond.fieldLink RX11 49 "TwiceAsRich" "sorts" "[I", Cond.fieldLink RX11 53 "TwiceAsRich" "sizes" "[I", Cond.fieldLink RX11 10 "TwiceAsRich" "street" "LTwiceAsRich$Street;", Cond.fieldLink RX11 126 "TwiceAsRich$Street" "count" "I", Cond.methodLink RX11 184 Lib.Math.min.name, Cond.static Lib.Math.min.name, Cond.initialized "java/lang/Math", Cond.code Lib.Math.min.name Lib.Math.min.code 2 (some .int), Cond.fieldLink RX11 58 "TwiceAsRich" "rows" "[[I", Cond.fieldLink RX11 103 "TwiceAsRich$Street" "purses" "[I", Cond.methodLink RX11 212 yX11_rowRefusal, Cond.instanceMethod yX11_rowRefusal, Cond.selects RX11 yX11_rowRefusal yX11_rowRefusal, Cond.initialized RX11, Cond.code yX11_rowRefusal cX11_rowRefusal 2 (some .int), Cond.methodLink RX11 225 yX11_isShelf, Cond.static yX11_isShelf, Cond.code yX11_isShelf cX11_isShelf 1 (some .boolean), Cond.methodLink RX11 254 yX11_holdsNothing, Cond.instanceMethod yX11_holdsNothing, Cond.selects RX11 yX11_holdsNothing yX11_holdsNothing, Cond.code yX11_holdsNothing cX11_holdsNothing 2 (some .boolean), Cond.fieldLink RX11 45 "TwiceAsRich" "kept" "[LTwiceAsRich$House;", Cond.methodLink RX11 215 yX11_leastOf]
def wsX11_judge_r2 : List Cond := [Cond.static yX11_leastOf, Cond.code yX11_leastOf cX11_leastOf 1 (some .int), Cond.constant RX11 281 (-2147483648)]
def wsX11_judge : List Cond := .code yX11_judge cX11_judge 6 (some .int) :: ((wsX11_judge_r1 ++ wsX11_judge_r2) ++ wsX110 ++ wsX70)
def wsX11_image : List Cond := .code yX11_image cX11_image 1 (some .int) :: ([.fieldLink RX11 16 "TwiceAsRich" "image" "LTwiceAsRich$Street;", .fieldLink RX11 10 "TwiceAsRich" "street" "LTwiceAsRich$Street;", .fieldLink RX11 218 "TwiceAsRich" "imageTaken" "Z", .methodLink RX11 78 yX7_become, .instanceMethod yX7_become, .selects RX7 yX7_become yX7_become, .initialized RX7, .code yX7_become cX7_become 3 none, .fieldLink RX7 11 "TwiceAsRich$Street" "houses" "[LTwiceAsRich$House;", .fieldLink RX7 17 "TwiceAsRich$Street" "purses" "[I", .fieldLink RX7 21 "TwiceAsRich$Street" "count" "I", .fieldLink RX7 25 "TwiceAsRich$Street" "round" "I", .methodLink RX11 143 yX7_allCoins, .instanceMethod yX7_allCoins, .selects RX7 yX7_allCoins yX7_allCoins, .code yX7_allCoins cX7_allCoins 3 (some .int)] ++ wsX110 ++ wsX70)
def wsX11_restore : List Cond := .code yX11_restore cX11_restore 1 (some .int) :: ([.fieldLink RX11 218 "TwiceAsRich" "imageTaken" "Z", .fieldLink RX11 10 "TwiceAsRich" "street" "LTwiceAsRich$Street;", .fieldLink RX11 16 "TwiceAsRich" "image" "LTwiceAsRich$Street;", .methodLink RX11 78 yX7_become, .instanceMethod yX7_become, .selects RX7 yX7_become yX7_become, .initialized RX7, .code yX7_become cX7_become 3 none, .fieldLink RX7 11 "TwiceAsRich$Street" "houses" "[LTwiceAsRich$House;", .fieldLink RX7 17 "TwiceAsRich$Street" "purses" "[I", .fieldLink RX7 21 "TwiceAsRich$Street" "count" "I", .fieldLink RX7 25 "TwiceAsRich$Street" "round" "I", .methodLink RX11 143 yX7_allCoins, .instanceMethod yX7_allCoins, .selects RX7 yX7_allCoins yX7_allCoins, .code yX7_allCoins cX7_allCoins 3 (some .int)] ++ wsX110 ++ wsX70)
def wsX11_count_r1 : List Cond := [Cond.fieldLink RX11 10 "TwiceAsRich" "street" "LTwiceAsRich$Street;", Cond.fieldLink RX11 126 "TwiceAsRich$Street" "count" "I", Cond.fieldLink RX11 133 "TwiceAsRich$Street" "round" "I", Cond.methodLink RX11 143 yX7_allCoins, Cond.instanceMethod yX7_allCoins, Cond.selects RX7 yX7_allCoins yX7_allCoins, Cond.initialized RX7, Cond.code yX7_allCoins cX7_allCoins 3 (some .int), Cond.fieldLink RX7 21 "TwiceAsRich$Street" "count" "I", Cond.fieldLink RX7 17 "TwiceAsRich$Street" "purses" "[I", Cond.methodLink RX11 222 yX7_housesWithoutBreach, Cond.instanceMethod yX7_housesWithoutBreach, Cond.selects RX7 yX7_housesWithoutBreach yX7_housesWithoutBreach, Cond.code yX7_housesWithoutBreach cX7_housesWithoutBreach 3 (some .int), Cond.methodLink RX7 62 yX7_breachesOf, Cond.instanceMethod yX7_breachesOf, Cond.selects RX7 yX7_breachesOf yX7_breachesOf, Cond.code yX7_breachesOf cX7_breachesOf 3 (some .int), Cond.methodLink RX7 47 yX7_ahead, Cond.instanceMethod yX7_ahead, Cond.selects RX7 yX7_ahead yX7_ahead, Cond.code yX7_ahead cX7_ahead 2 (some .int), Cond.methodLink RX7 32 yX7_isClosed, Cond.instanceMethod yX7_isClosed]
def wsX11_count_r2 : List Cond := [Cond.selects RX7 yX7_isClosed yX7_isClosed, Cond.code yX7_isClosed cX7_isClosed 1 (some .boolean), Cond.fieldLink RX7 25 "TwiceAsRich$Street" "round" "I", Cond.methodLink RX7 50 yX7_limitBy, Cond.instanceMethod yX7_limitBy, Cond.selects RX7 yX7_limitBy yX7_limitBy, Cond.code yX7_limitBy cX7_limitBy 3 (some .int), Cond.fieldLink RX7 11 "TwiceAsRich$Street" "houses" "[LTwiceAsRich$House;", Cond.constant RX7 39 (1000000), Cond.methodLink RX7 36 ⟨"TwiceAsRich$House", "isLookedAt", "()Z"⟩, Cond.sameMethod "TwiceAsRich$House" "TwiceAsRich$House" "isLookedAt" "()Z", Cond.selects RX0 ⟨"TwiceAsRich$House", "isLookedAt", "()Z"⟩ yX3_isLookedAt, Cond.instanceMethod yX3_isLookedAt, Cond.initialized RX3, Cond.code yX3_isLookedAt cX3_isLookedAt 1 (some .boolean), Cond.instanceMethod ⟨"TwiceAsRich$House", "isLookedAt", "()Z"⟩, Cond.selects RX1 ⟨"TwiceAsRich$House", "isLookedAt", "()Z"⟩ yX1_isLookedAt, Cond.instanceMethod yX1_isLookedAt, Cond.initialized RX1, Cond.code yX1_isLookedAt cX1_isLookedAt 1 (some .boolean), Cond.selects RX2 ⟨"TwiceAsRich$House", "isLookedAt", "()Z"⟩ yX3_isLookedAt, Cond.methodLink RX7 36 yX3_isLookedAt, Cond.selects RX3 yX3_isLookedAt yX3_isLookedAt, Cond.selects RX4 ⟨"TwiceAsRich$House", "isLookedAt", "()Z"⟩ yX3_isLookedAt]
def wsX11_count_r3 : List Cond := [Cond.selects RX6 ⟨"TwiceAsRich$House", "isLookedAt", "()Z"⟩ yX3_isLookedAt, Cond.selects RX9 ⟨"TwiceAsRich$House", "isLookedAt", "()Z"⟩ yX3_isLookedAt, Cond.selects RX10 ⟨"TwiceAsRich$House", "isLookedAt", "()Z"⟩ yX10_isLookedAt, Cond.instanceMethod yX10_isLookedAt, Cond.initialized RX10, Cond.code yX10_isLookedAt cX10_isLookedAt 1 (some .boolean), Cond.methodLink RX7 40 ⟨"TwiceAsRich$House", "shownOf", "(I)I"⟩, Cond.sameMethod "TwiceAsRich$House" "TwiceAsRich$House" "shownOf" "(I)I", Cond.instanceMethod ⟨"TwiceAsRich$House", "shownOf", "(I)I"⟩, Cond.selects RX0 ⟨"TwiceAsRich$House", "shownOf", "(I)I"⟩ yX0_shownOf, Cond.instanceMethod yX0_shownOf, Cond.initialized RX0, Cond.code yX0_shownOf cX0_shownOf 2 (some .int), Cond.fieldLink RX0 11 "TwiceAsRich$Beggar" "figure" "I", Cond.sameField "TwiceAsRich$Beggar" "TwiceAsRich$House" "figure" "I", Cond.methodLink RX0 7 yX6_shownOf, Cond.sameMethod "TwiceAsRich$Priest" "TwiceAsRich$Priest" "shownOf" "(I)I", Cond.superclass RX0 RX6, Cond.instanceMethod yX6_shownOf, Cond.initialized RX6, Cond.code yX6_shownOf cX6_shownOf 2 (some .int), Cond.methodLink RX6 7 yX3_shownOf, Cond.superclass RX6 RX3, Cond.instanceMethod yX3_shownOf]
def wsX11_count_r4 : List Cond := [Cond.code yX3_shownOf cX3_shownOf 2 (some .int), Cond.selects RX1 ⟨"TwiceAsRich$House", "shownOf", "(I)I"⟩ yX3_shownOf, Cond.selects RX2 ⟨"TwiceAsRich$House", "shownOf", "(I)I"⟩ yX3_shownOf, Cond.methodLink RX7 40 yX3_shownOf, Cond.selects RX3 yX3_shownOf yX3_shownOf, Cond.selects RX4 ⟨"TwiceAsRich$House", "shownOf", "(I)I"⟩ yX4_shownOf, Cond.instanceMethod yX4_shownOf, Cond.initialized RX4, Cond.code yX4_shownOf cX4_shownOf 2 (some .int), Cond.selects RX6 ⟨"TwiceAsRich$House", "shownOf", "(I)I"⟩ yX6_shownOf, Cond.selects RX9 ⟨"TwiceAsRich$House", "shownOf", "(I)I"⟩ yX3_shownOf, Cond.selects RX10 ⟨"TwiceAsRich$House", "shownOf", "(I)I"⟩ yX3_shownOf, Cond.methodLink RX7 44 ⟨"TwiceAsRich$House", "allowedBy", "(I)I"⟩, Cond.sameMethod "TwiceAsRich$House" "TwiceAsRich$House" "allowedBy" "(I)I", Cond.selects RX0 ⟨"TwiceAsRich$House", "allowedBy", "(I)I"⟩ yX3_allowedBy, Cond.instanceMethod yX3_allowedBy, Cond.code yX3_allowedBy cX3_allowedBy 2 (some .int), Cond.instanceMethod ⟨"TwiceAsRich$House", "allowedBy", "(I)I"⟩, Cond.selects RX1 ⟨"TwiceAsRich$House", "allowedBy", "(I)I"⟩ yX10_allowedBy, Cond.instanceMethod yX10_allowedBy, Cond.code yX10_allowedBy cX10_allowedBy 2 (some .int), Cond.selects RX2 ⟨"TwiceAsRich$House", "allowedBy", "(I)I"⟩ yX2_allowedBy, Cond.instanceMethod yX2_allowedBy, Cond.initialized RX2]
def wsX11_count_r5 : List Cond := [Cond.code yX2_allowedBy cX2_allowedBy 2 (some .int), Cond.fieldLink RX2 11 "TwiceAsRich$Heir" "figure" "I", Cond.sameField "TwiceAsRich$Heir" "TwiceAsRich$House" "figure" "I", Cond.methodLink RX2 7 yX3_allowedBy, Cond.superclass RX2 RX3, Cond.methodLink RX7 44 yX3_allowedBy, Cond.selects RX3 yX3_allowedBy yX3_allowedBy, Cond.selects RX4 ⟨"TwiceAsRich$House", "allowedBy", "(I)I"⟩ yX4_allowedBy, Cond.instanceMethod yX4_allowedBy, Cond.code yX4_allowedBy cX4_allowedBy 2 (some .int), Cond.methodLink RX4 14 Lib.Math.max.name, Cond.static Lib.Math.max.name, Cond.initialized "java/lang/Math", Cond.code Lib.Math.max.name Lib.Math.max.code 2 (some .int), Cond.methodLink RX4 11 yX2_allowedBy, Cond.sameMethod "TwiceAsRich$Heir" "TwiceAsRich$Heir" "allowedBy" "(I)I", Cond.superclass RX4 RX2, Cond.selects RX6 ⟨"TwiceAsRich$House", "allowedBy", "(I)I"⟩ yX3_allowedBy, Cond.selects RX9 ⟨"TwiceAsRich$House", "allowedBy", "(I)I"⟩ yX9_allowedBy, Cond.instanceMethod yX9_allowedBy, Cond.initialized RX9, Cond.code yX9_allowedBy cX9_allowedBy 2 (some .int), Cond.methodLink RX9 7 yX2_allowedBy, Cond.superclass RX9 RX2]
def wsX11_count_r6 : List Cond := [Cond.selects RX10 ⟨"TwiceAsRich$House", "allowedBy", "(I)I"⟩ yX10_allowedBy, Cond.methodLink RX7 54 yX7_behind, Cond.instanceMethod yX7_behind, Cond.selects RX7 yX7_behind yX7_behind, Cond.code yX7_behind cX7_behind 2 (some .int)]
def wsX11_count : List Cond := .code yX11_count cX11_count 2 (some .int) :: ((wsX11_count_r1 ++ (wsX11_count_r2 ++ (wsX11_count_r3 ++ (wsX11_count_r4 ++ (wsX11_count_r5 ++ wsX11_count_r6))))) ++ wsX110 ++ wsX70 ++ wsX00 ++ wsX10 ++ wsX20 ++ wsX30 ++ wsX40 ++ wsX60 ++ wsX90 ++ wsX100)
def wsX11_keep_r1 : List Cond := [Cond.fieldLink RX11 45 "TwiceAsRich" "kept" "[LTwiceAsRich$House;", Cond.fieldLink RX11 49 "TwiceAsRich" "sorts" "[I", Cond.methodLink RX11 225 yX11_isShelf, Cond.static yX11_isShelf, Cond.initialized RX11, Cond.code yX11_isShelf cX11_isShelf 1 (some .boolean), Cond.methodLink RX11 228 yX11_isHouse, Cond.static yX11_isHouse, Cond.code yX11_isHouse cX11_isHouse 2 (some .boolean), Cond.methodLink RX11 232 yX11_houseOfKind, Cond.static yX11_houseOfKind, Cond.code yX11_houseOfKind cX11_houseOfKind 2 (some (.object "TwiceAsRich$House")), Cond.classLink RX11 285 RX2, Cond.instantiable RX2 1, Cond.initialized RX2, Cond.classLink RX11 288 RX6, Cond.instantiable RX6 1, Cond.initialized RX6, Cond.classLink RX11 291 RX10, Cond.instantiable RX10 1, Cond.initialized RX10, Cond.classLink RX11 294 RX4, Cond.instantiable RX4 1, Cond.initialized RX4]
def wsX11_keep_r2 : List Cond := [Cond.classLink RX11 297 RX0, Cond.instantiable RX0 1, Cond.initialized RX0, Cond.classLink RX11 300 RX9, Cond.instantiable RX9 1, Cond.initialized RX9, Cond.classLink RX11 303 RX1, Cond.instantiable RX1 1, Cond.initialized RX1, Cond.classLink RX11 22 RX3, Cond.instantiable RX3 1, Cond.initialized RX3, Cond.methodLink RX11 287 yX2_init, Cond.instanceMethod yX2_init, Cond.code yX2_init cX2_init 2 none, Cond.methodLink RX2 1 yX3_init, Cond.instanceMethod yX3_init, Cond.code yX3_init cX3_init 2 none, Cond.methodLink RX3 1 objectInit, Cond.instanceMethod objectInit, Cond.code objectInit ⟨#[0xb1]⟩ 1 none, Cond.fieldLink RX3 7 "TwiceAsRich$House" "figure" "I", Cond.methodLink RX11 290 yX6_init, Cond.instanceMethod yX6_init]
def wsX11_keep_r3 : List Cond := [Cond.code yX6_init cX6_init 2 none, Cond.methodLink RX6 1 yX3_init, Cond.methodLink RX11 293 yX10_init, Cond.instanceMethod yX10_init, Cond.code yX10_init cX10_init 2 none, Cond.methodLink RX10 3 yX3_init, Cond.methodLink RX11 296 yX4_init, Cond.instanceMethod yX4_init, Cond.code yX4_init cX4_init 2 none, Cond.methodLink RX4 1 yX2_init, Cond.methodLink RX11 299 yX0_init, Cond.instanceMethod yX0_init, Cond.code yX0_init cX0_init 2 none, Cond.methodLink RX0 1 yX6_init, Cond.methodLink RX11 302 yX9_init, Cond.instanceMethod yX9_init, Cond.code yX9_init cX9_init 2 none, Cond.methodLink RX9 1 yX2_init, Cond.methodLink RX11 305 yX1_init, Cond.instanceMethod yX1_init, Cond.code yX1_init cX1_init 2 none, Cond.methodLink RX1 1 yX10_init, Cond.methodLink RX11 24 yX3_init]
def wsX11_keep : List Cond := .code yX11_keep cX11_keep 5 (some .int) :: ((wsX11_keep_r1 ++ (wsX11_keep_r2 ++ wsX11_keep_r3)) ++ wsX110 ++ wsX20 ++ wsX60 ++ wsX100 ++ wsX40 ++ wsX00 ++ wsX90 ++ wsX10 ++ wsX30)
def wsX11_row : List Cond := .code yX11_row cX11_row 4 (some .int) :: ([.fieldLink RX11 45 "TwiceAsRich" "kept" "[LTwiceAsRich$House;", .fieldLink RX11 49 "TwiceAsRich" "sorts" "[I", .fieldLink RX11 53 "TwiceAsRich" "sizes" "[I", .fieldLink RX11 58 "TwiceAsRich" "rows" "[[I", .methodLink RX11 225 yX11_isShelf, .static yX11_isShelf, .initialized RX11, .code yX11_isShelf cX11_isShelf 1 (some .boolean), .methodLink RX11 61 yJ7_fill_53178, .static yJ7_fill_53178, .initialized RJ7, .code yJ7_fill_53178 cJ7_fill_53178 4 none] ++ wsX110)
def wsX11_isPlace : List Cond := .code yX11_isPlace cX11_isPlace 3 (some .boolean) :: ([.fieldLink RX11 53 "TwiceAsRich" "sizes" "[I"] ++ wsX110)
def wsX11_lowestBits : List Cond := .code yX11_lowestBits cX11_lowestBits 2 (some .int) :: ([])
def wsX11_put : List Cond := .code yX11_put cX11_put 5 (some .int) :: ([.fieldLink RX11 58 "TwiceAsRich" "rows" "[[I", .fieldLink RX11 49 "TwiceAsRich" "sorts" "[I", .methodLink RX11 212 yX11_rowRefusal, .instanceMethod yX11_rowRefusal, .selects RX11 yX11_rowRefusal yX11_rowRefusal, .initialized RX11, .code yX11_rowRefusal cX11_rowRefusal 2 (some .int), .methodLink RX11 225 yX11_isShelf, .static yX11_isShelf, .code yX11_isShelf cX11_isShelf 1 (some .boolean), .methodLink RX11 254 yX11_holdsNothing, .instanceMethod yX11_holdsNothing, .selects RX11 yX11_holdsNothing yX11_holdsNothing, .code yX11_holdsNothing cX11_holdsNothing 2 (some .boolean), .fieldLink RX11 45 "TwiceAsRich" "kept" "[LTwiceAsRich$House;", .methodLink RX11 236 yX11_isPlace, .instanceMethod yX11_isPlace, .selects RX11 yX11_isPlace yX11_isPlace, .code yX11_isPlace cX11_isPlace 3 (some .boolean), .fieldLink RX11 53 "TwiceAsRich" "sizes" "[I", .methodLink RX11 239 yX11_lowestBits, .static yX11_lowestBits, .code yX11_lowestBits cX11_lowestBits 2 (some .int)] ++ wsX110)
def wsX11_element : List Cond := .code yX11_element cX11_element 3 (some .long) :: ([.classLink RX11 242 "java/lang/IllegalArgumentException", .initialized "java/lang/IllegalArgumentException", .classLink RX11 249 "java/lang/IllegalStateException", .initialized "java/lang/IllegalStateException", .fieldLink RX11 49 "TwiceAsRich" "sorts" "[I", .fieldLink RX11 58 "TwiceAsRich" "rows" "[[I", .methodLink RX11 225 yX11_isShelf, .static yX11_isShelf, .initialized RX11, .code yX11_isShelf cX11_isShelf 1 (some .boolean), .methodLink RX11 236 yX11_isPlace, .instanceMethod yX11_isPlace, .selects RX11 yX11_isPlace yX11_isPlace, .code yX11_isPlace cX11_isPlace 3 (some .boolean), .fieldLink RX11 53 "TwiceAsRich" "sizes" "[I"] ++ wsX110 ++ (vx_atS RX11 246 "java/lang/IllegalArgumentException" ["java/lang/RuntimeException", "java/lang/Exception"]).filter goodWord ++ (vx_atS RX11 253 "java/lang/IllegalStateException" ["java/lang/RuntimeException", "java/lang/Exception"]).filter goodWord)
def wsX11_isStretch : List Cond := .code yX11_isStretch cX11_isStretch 4 (some .boolean) :: ([.fieldLink RX11 53 "TwiceAsRich" "sizes" "[I"] ++ wsX110)
def wsX11_copy : List Cond := .code yX11_copy cX11_copy 6 (some .int) :: ([.fieldLink RX11 49 "TwiceAsRich" "sorts" "[I", .fieldLink RX11 58 "TwiceAsRich" "rows" "[[I", .methodLink RX11 261 arraycopyName, .native arraycopyName, .static arraycopyName, .initialized "java/lang/System", .methodLink RX11 225 yX11_isShelf, .static yX11_isShelf, .initialized RX11, .code yX11_isShelf cX11_isShelf 1 (some .boolean), .methodLink RX11 254 yX11_holdsNothing, .instanceMethod yX11_holdsNothing, .selects RX11 yX11_holdsNothing yX11_holdsNothing, .code yX11_holdsNothing cX11_holdsNothing 2 (some .boolean), .fieldLink RX11 45 "TwiceAsRich" "kept" "[LTwiceAsRich$House;", .methodLink RX11 257 yX11_isStretch, .instanceMethod yX11_isStretch, .selects RX11 yX11_isStretch yX11_isStretch, .code yX11_isStretch cX11_isStretch 4 (some .boolean), .fieldLink RX11 53 "TwiceAsRich" "sizes" "[I"] ++ wsX110)
def wsX11_fee_r1 : List Cond := [Cond.fieldLink RX11 45 "TwiceAsRich" "kept" "[LTwiceAsRich$House;", Cond.methodLink RX11 123 yX11_houseRefusal, Cond.instanceMethod yX11_houseRefusal, Cond.selects RX11 yX11_houseRefusal yX11_houseRefusal, Cond.initialized RX11, Cond.code yX11_houseRefusal cX11_houseRefusal 2 (some .int), Cond.methodLink RX11 225 yX11_isShelf, Cond.static yX11_isShelf, Cond.code yX11_isShelf cX11_isShelf 1 (some .boolean), Cond.methodLink RX11 254 yX11_holdsNothing, Cond.instanceMethod yX11_holdsNothing, Cond.selects RX11 yX11_holdsNothing yX11_holdsNothing, Cond.code yX11_holdsNothing cX11_holdsNothing 2 (some .boolean), Cond.fieldLink RX11 49 "TwiceAsRich" "sorts" "[I", Cond.methodLink RX11 267 ⟨"TwiceAsRich$House", "price", "()I"⟩, Cond.sameMethod "TwiceAsRich$House" "TwiceAsRich$House" "price" "()I", Cond.instanceMethod ⟨"TwiceAsRich$House", "price", "()I"⟩, Cond.selects RX0 ⟨"TwiceAsRich$House", "price", "()I"⟩ yX0_price, Cond.instanceMethod yX0_price, Cond.initialized RX0, Cond.code yX0_price cX0_price 1 (some .int), Cond.fieldLink RX0 11 "TwiceAsRich$Beggar" "figure" "I", Cond.sameField "TwiceAsRich$Beggar" "TwiceAsRich$House" "figure" "I", Cond.methodLink RX0 21 yX6_price]
def wsX11_fee_r2 : List Cond := [Cond.sameMethod "TwiceAsRich$Priest" "TwiceAsRich$Priest" "price" "()I", Cond.superclass RX0 RX6, Cond.instanceMethod yX6_price, Cond.initialized RX6, Cond.code yX6_price cX6_price 1 (some .int), Cond.methodLink RX6 15 yX3_price, Cond.superclass RX6 RX3, Cond.instanceMethod yX3_price, Cond.initialized RX3, Cond.code yX3_price cX3_price 1 (some .int), Cond.selects RX1 ⟨"TwiceAsRich$House", "price", "()I"⟩ yX1_price, Cond.instanceMethod yX1_price, Cond.initialized RX1, Cond.code yX1_price cX1_price 1 (some .int), Cond.methodLink RX1 17 yX10_price, Cond.sameMethod "TwiceAsRich$Wall" "TwiceAsRich$Wall" "price" "()I", Cond.superclass RX1 RX10, Cond.instanceMethod yX10_price, Cond.initialized RX10, Cond.code yX10_price cX10_price 1 (some .int), Cond.methodLink RX10 9 yX3_price, Cond.superclass RX10 RX3, Cond.selects RX2 ⟨"TwiceAsRich$House", "price", "()I"⟩ yX2_price, Cond.instanceMethod yX2_price]
def wsX11_fee_r3 : List Cond := [Cond.initialized RX2, Cond.code yX2_price cX2_price 1 (some .int), Cond.fieldLink RX2 11 "TwiceAsRich$Heir" "figure" "I", Cond.sameField "TwiceAsRich$Heir" "TwiceAsRich$House" "figure" "I", Cond.methodLink RX2 21 yX3_price, Cond.superclass RX2 RX3, Cond.methodLink RX11 267 yX3_price, Cond.selects RX3 yX3_price yX3_price, Cond.selects RX4 ⟨"TwiceAsRich$House", "price", "()I"⟩ yX4_price, Cond.instanceMethod yX4_price, Cond.initialized RX4, Cond.code yX4_price cX4_price 1 (some .int), Cond.methodLink RX4 24 yX2_price, Cond.sameMethod "TwiceAsRich$Heir" "TwiceAsRich$Heir" "price" "()I", Cond.superclass RX4 RX2, Cond.selects RX6 ⟨"TwiceAsRich$House", "price", "()I"⟩ yX6_price, Cond.selects RX9 ⟨"TwiceAsRich$House", "price", "()I"⟩ yX9_price, Cond.instanceMethod yX9_price, Cond.initialized RX9, Cond.code yX9_price cX9_price 1 (some .int), Cond.fieldLink RX9 18 "TwiceAsRich$Twins" "figure" "I", Cond.sameField "TwiceAsRich$Twins" "TwiceAsRich$House" "figure" "I", Cond.methodLink RX9 15 yX2_price, Cond.superclass RX9 RX2]
def wsX11_fee_r4 : List Cond := [Cond.selects RX10 ⟨"TwiceAsRich$House", "price", "()I"⟩ yX10_price]
def wsX11_fee : List Cond := .code yX11_fee cX11_fee 3 (some .int) :: ((wsX11_fee_r1 ++ (wsX11_fee_r2 ++ (wsX11_fee_r3 ++ wsX11_fee_r4))) ++ wsX110 ++ wsX00 ++ wsX10 ++ wsX20 ++ wsX30 ++ wsX40 ++ wsX60 ++ wsX90 ++ wsX100)
def wsX11_toss_r1 : List Cond := [Cond.classLink RX11 276 "java/lang/UnsupportedOperationException", Cond.classLink RX11 242 "java/lang/IllegalArgumentException", Cond.classLink RX11 249 "java/lang/IllegalStateException", Cond.fieldLink RX11 45 "TwiceAsRich" "kept" "[LTwiceAsRich$House;", Cond.fieldLink RX11 99 "TwiceAsRich$House" "figure" "I", Cond.methodLink RX11 123 yX11_houseRefusal, Cond.instanceMethod yX11_houseRefusal, Cond.selects RX11 yX11_houseRefusal yX11_houseRefusal, Cond.initialized RX11, Cond.code yX11_houseRefusal cX11_houseRefusal 2 (some .int), Cond.methodLink RX11 225 yX11_isShelf, Cond.static yX11_isShelf, Cond.code yX11_isShelf cX11_isShelf 1 (some .boolean), Cond.methodLink RX11 254 yX11_holdsNothing, Cond.instanceMethod yX11_holdsNothing, Cond.selects RX11 yX11_holdsNothing yX11_holdsNothing, Cond.code yX11_holdsNothing cX11_holdsNothing 2 (some .boolean), Cond.fieldLink RX11 49 "TwiceAsRich" "sorts" "[I", Cond.methodLink RX11 270 ⟨"TwiceAsRich$House", "hasFailure", "()Z"⟩, Cond.sameMethod "TwiceAsRich$House" "TwiceAsRich$House" "hasFailure" "()Z", Cond.selects RX0 ⟨"TwiceAsRich$House", "hasFailure", "()Z"⟩ yX3_hasFailure, Cond.instanceMethod yX3_hasFailure, Cond.initialized RX3, Cond.code yX3_hasFailure cX3_hasFailure 1 (some .boolean)]
def wsX11_toss_r2 : List Cond := [Cond.fieldLink RX3 7 "TwiceAsRich$House" "figure" "I", Cond.instanceMethod ⟨"TwiceAsRich$House", "hasFailure", "()Z"⟩, Cond.selects RX1 ⟨"TwiceAsRich$House", "hasFailure", "()Z"⟩ yX1_hasFailure, Cond.instanceMethod yX1_hasFailure, Cond.initialized RX1, Cond.code yX1_hasFailure cX1_hasFailure 1 (some .boolean), Cond.fieldLink RX1 11 "TwiceAsRich$Blind" "figure" "I", Cond.sameField "TwiceAsRich$Blind" "TwiceAsRich$House" "figure" "I", Cond.selects RX2 ⟨"TwiceAsRich$House", "hasFailure", "()Z"⟩ yX3_hasFailure, Cond.methodLink RX11 270 yX3_hasFailure, Cond.selects RX3 yX3_hasFailure yX3_hasFailure, Cond.selects RX4 ⟨"TwiceAsRich$House", "hasFailure", "()Z"⟩ yX3_hasFailure, Cond.selects RX6 ⟨"TwiceAsRich$House", "hasFailure", "()Z"⟩ yX3_hasFailure, Cond.selects RX9 ⟨"TwiceAsRich$House", "hasFailure", "()Z"⟩ yX3_hasFailure, Cond.selects RX10 ⟨"TwiceAsRich$House", "hasFailure", "()Z"⟩ yX10_hasFailure, Cond.instanceMethod yX10_hasFailure, Cond.initialized RX10, Cond.code yX10_hasFailure cX10_hasFailure 1 (some .boolean), Cond.methodLink RX11 273 ⟨"TwiceAsRich$House", "fail", "()V"⟩, Cond.sameMethod "TwiceAsRich$House" "TwiceAsRich$House" "fail" "()V", Cond.instanceMethod ⟨"TwiceAsRich$House", "fail", "()V"⟩, Cond.selects RX0 ⟨"TwiceAsRich$House", "fail", "()V"⟩ yX0_fail, Cond.instanceMethod yX0_fail, Cond.initialized RX0]
def wsX11_toss_r3 : List Cond := [Cond.code yX0_fail cX0_fail 1 none, Cond.classLink RX0 24 "java/lang/IllegalArgumentException", Cond.initialized "java/lang/IllegalArgumentException", Cond.code yX3_fail cX3_fail 1 none, Cond.selects RX1 ⟨"TwiceAsRich$House", "fail", "()V"⟩ yX3_fail, Cond.instanceMethod yX3_fail, Cond.classLink RX3 13 "java/lang/IllegalStateException", Cond.initialized "java/lang/IllegalStateException", Cond.selects RX2 ⟨"TwiceAsRich$House", "fail", "()V"⟩ yX3_fail, Cond.methodLink RX11 273 yX3_fail, Cond.selects RX3 yX3_fail yX3_fail, Cond.selects RX4 ⟨"TwiceAsRich$House", "fail", "()V"⟩ yX3_fail, Cond.selects RX6 ⟨"TwiceAsRich$House", "fail", "()V"⟩ yX3_fail, Cond.selects RX9 ⟨"TwiceAsRich$House", "fail", "()V"⟩ yX9_fail, Cond.instanceMethod yX9_fail, Cond.initialized RX9, Cond.code yX9_fail cX9_fail 1 none, Cond.classLink RX9 24 "java/lang/UnsupportedOperationException", Cond.initialized "java/lang/UnsupportedOperationException", Cond.selects RX10 ⟨"TwiceAsRich$House", "fail", "()V"⟩ yX3_fail, Cond.methodLink RX11 267 ⟨"TwiceAsRich$House", "price", "()I"⟩, Cond.sameMethod "TwiceAsRich$House" "TwiceAsRich$House" "price" "()I", Cond.instanceMethod ⟨"TwiceAsRich$House", "price", "()I"⟩, Cond.selects RX0 ⟨"TwiceAsRich$House", "price", "()I"⟩ yX0_price]
def wsX11_toss_r4 : List Cond := [Cond.instanceMethod yX0_price, Cond.code yX0_price cX0_price 1 (some .int), Cond.fieldLink RX0 11 "TwiceAsRich$Beggar" "figure" "I", Cond.sameField "TwiceAsRich$Beggar" "TwiceAsRich$House" "figure" "I", Cond.methodLink RX0 21 yX6_price, Cond.sameMethod "TwiceAsRich$Priest" "TwiceAsRich$Priest" "price" "()I", Cond.superclass RX0 RX6, Cond.instanceMethod yX6_price, Cond.initialized RX6, Cond.code yX6_price cX6_price 1 (some .int), Cond.methodLink RX6 15 yX3_price, Cond.superclass RX6 RX3, Cond.instanceMethod yX3_price, Cond.code yX3_price cX3_price 1 (some .int), Cond.selects RX1 ⟨"TwiceAsRich$House", "price", "()I"⟩ yX1_price, Cond.instanceMethod yX1_price, Cond.code yX1_price cX1_price 1 (some .int), Cond.methodLink RX1 17 yX10_price, Cond.sameMethod "TwiceAsRich$Wall" "TwiceAsRich$Wall" "price" "()I", Cond.superclass RX1 RX10, Cond.instanceMethod yX10_price, Cond.code yX10_price cX10_price 1 (some .int), Cond.methodLink RX10 9 yX3_price, Cond.superclass RX10 RX3]
def wsX11_toss_r5 : List Cond := [Cond.selects RX2 ⟨"TwiceAsRich$House", "price", "()I"⟩ yX2_price, Cond.instanceMethod yX2_price, Cond.initialized RX2, Cond.code yX2_price cX2_price 1 (some .int), Cond.fieldLink RX2 11 "TwiceAsRich$Heir" "figure" "I", Cond.sameField "TwiceAsRich$Heir" "TwiceAsRich$House" "figure" "I", Cond.methodLink RX2 21 yX3_price, Cond.superclass RX2 RX3, Cond.methodLink RX11 267 yX3_price, Cond.selects RX3 yX3_price yX3_price, Cond.selects RX4 ⟨"TwiceAsRich$House", "price", "()I"⟩ yX4_price, Cond.instanceMethod yX4_price, Cond.initialized RX4, Cond.code yX4_price cX4_price 1 (some .int), Cond.methodLink RX4 24 yX2_price, Cond.sameMethod "TwiceAsRich$Heir" "TwiceAsRich$Heir" "price" "()I", Cond.superclass RX4 RX2, Cond.selects RX6 ⟨"TwiceAsRich$House", "price", "()I"⟩ yX6_price, Cond.selects RX9 ⟨"TwiceAsRich$House", "price", "()I"⟩ yX9_price, Cond.instanceMethod yX9_price, Cond.code yX9_price cX9_price 1 (some .int), Cond.fieldLink RX9 18 "TwiceAsRich$Twins" "figure" "I", Cond.sameField "TwiceAsRich$Twins" "TwiceAsRich$House" "figure" "I", Cond.methodLink RX9 15 yX2_price]
def wsX11_toss_r6 : List Cond := [Cond.superclass RX9 RX2, Cond.selects RX10 ⟨"TwiceAsRich$House", "price", "()I"⟩ yX10_price]
def wsX11_toss : List Cond := .codeWith yX11_toss cX11_toss 5 (some .int) [(29, 33, 36, 276), (29, 33, 47, 242), (29, 33, 57, 249)] :: ((wsX11_toss_r1 ++ (wsX11_toss_r2 ++ (wsX11_toss_r3 ++ (wsX11_toss_r4 ++ (wsX11_toss_r5 ++ wsX11_toss_r6))))) ++ wsX110 ++ wsX00 ++ wsX10 ++ wsX20 ++ wsX30 ++ wsX40 ++ wsX60 ++ wsX90 ++ wsX100 ++ (vx_at0 RX0 26 "java/lang/IllegalArgumentException" ["java/lang/RuntimeException", "java/lang/Exception"]).filter goodWord ++ (vx_at0 RX3 15 "java/lang/IllegalStateException" ["java/lang/RuntimeException", "java/lang/Exception"]).filter goodWord ++ (vx_at0 RX9 26 "java/lang/UnsupportedOperationException" ["java/lang/RuntimeException", "java/lang/Exception"]).filter goodWord)
def wsX12_init : List Cond := .code yX12_init cX12_init 1 none :: ([.methodLink RX12 1 objectInit, .instanceMethod objectInit, .code objectInit ⟨#[0xb1]⟩ 1 none, .arrayClass .int, .fieldLink RX12 9 "TwiceAsRichModel" "s" "[I", .fieldLink RX12 13 "TwiceAsRichModel" "image" "[I", .fieldLink RX12 16 "TwiceAsRichModel" "read" "[I", .fieldLink RX12 19 "TwiceAsRichModel" "mind" "[I", .fieldLink RX12 22 "TwiceAsRichModel" "kept" "[I", .fieldLink RX12 25 "TwiceAsRichModel" "sort" "[I", .fieldLink RX12 28 "TwiceAsRichModel" "size" "[I", .fieldLink RX12 31 "TwiceAsRichModel" "element" "[I", .fieldLink RX12 34 "TwiceAsRichModel" "keptKind" "[I", .fieldLink RX12 37 "TwiceAsRichModel" "keptFigure" "[I", .fieldLink RX12 40 "TwiceAsRichModel" "numbers" "[I", .fieldLink RX12 43 "TwiceAsRichModel" "was" "[I"] ++ wsX120)
def wsX12_thrown : List Cond := .code yX12_thrown cX12_thrown 1 (some .int) :: ([.fieldLink RX12 46 "TwiceAsRichModel" "thrown" "I"] ++ wsX120)
def wsX12_isIn : List Cond := .code yX12_isIn cX12_isIn 6 (some .boolean) :: ([])
def wsX12_isShelf : List Cond := .code yX12_isShelf cX12_isShelf 1 (some .boolean) :: ([.constantLong RX12 50 (7), .methodLink RX12 52 yX12_isIn, .static yX12_isIn, .initialized RX12, .code yX12_isIn cX12_isIn 6 (some .boolean)])
def wsX12_isHouse : List Cond := .code yX12_isHouse cX12_isHouse 2 (some .boolean) :: ([.fieldLink RX12 9 "TwiceAsRichModel" "s" "[I", .methodLink RX12 52 yX12_isIn, .static yX12_isIn, .initialized RX12, .code yX12_isIn cX12_isIn 6 (some .boolean)] ++ wsX120)
def wsX12_areTwo : List Cond := .code yX12_areTwo cX12_areTwo 3 (some .boolean) :: ([.methodLink RX12 56 yX12_isHouse, .instanceMethod yX12_isHouse, .selects RX12 yX12_isHouse yX12_isHouse, .initialized RX12, .code yX12_isHouse cX12_isHouse 2 (some .boolean), .fieldLink RX12 9 "TwiceAsRichModel" "s" "[I", .methodLink RX12 52 yX12_isIn, .static yX12_isIn, .code yX12_isIn cX12_isIn 6 (some .boolean)] ++ wsX120)
def wsX12_lays : List Cond := .code yX12_lays cX12_lays 3 none :: ([])
def wsX12_begins : List Cond := .code yX12_begins cX12_begins 1 none :: ([.fieldLink RX12 9 "TwiceAsRichModel" "s" "[I", .fieldLink RX12 19 "TwiceAsRichModel" "mind" "[I", .methodLink RX12 60 yX12_lays, .static yX12_lays, .initialized RX12, .code yX12_lays cX12_lays 3 none] ++ wsX120)
def wsX12_ends : List Cond := .code yX12_ends cX12_ends 1 none :: ([.fieldLink RX12 19 "TwiceAsRichModel" "mind" "[I", .fieldLink RX12 9 "TwiceAsRichModel" "s" "[I", .methodLink RX12 60 yX12_lays, .static yX12_lays, .initialized RX12, .code yX12_lays cX12_lays 3 none] ++ wsX120)
def wsX12_get : List Cond := .code yX12_get cX12_get 3 (some .int) :: ([.fieldLink RX12 9 "TwiceAsRichModel" "s" "[I"] ++ wsX120)
def wsX12_puts : List Cond := .code yX12_puts cX12_puts 4 none :: ([.fieldLink RX12 9 "TwiceAsRichModel" "s" "[I"] ++ wsX120)
def wsX12_kind : List Cond := .code yX12_kind cX12_kind 2 (some .int) :: ([.methodLink RX12 64 yX12_get, .instanceMethod yX12_get, .selects RX12 yX12_get yX12_get, .initialized RX12, .code yX12_get cX12_get 3 (some .int), .fieldLink RX12 9 "TwiceAsRichModel" "s" "[I"] ++ wsX120)
def wsX12_figure : List Cond := .code yX12_figure cX12_figure 2 (some .int) :: ([.methodLink RX12 64 yX12_get, .instanceMethod yX12_get, .selects RX12 yX12_get yX12_get, .initialized RX12, .code yX12_get cX12_get 3 (some .int), .fieldLink RX12 9 "TwiceAsRichModel" "s" "[I"] ++ wsX120)
def wsX12_purse : List Cond := .code yX12_purse cX12_purse 2 (some .int) :: ([.methodLink RX12 64 yX12_get, .instanceMethod yX12_get, .selects RX12 yX12_get yX12_get, .initialized RX12, .code yX12_get cX12_get 3 (some .int), .fieldLink RX12 9 "TwiceAsRichModel" "s" "[I"] ++ wsX120)
def wsX12_coins : List Cond := .code yX12_coins cX12_coins 3 (some .int) :: ([.fieldLink RX12 9 "TwiceAsRichModel" "s" "[I", .methodLink RX12 68 yX12_purse, .instanceMethod yX12_purse, .selects RX12 yX12_purse yX12_purse, .initialized RX12, .code yX12_purse cX12_purse 2 (some .int), .methodLink RX12 64 yX12_get, .instanceMethod yX12_get, .selects RX12 yX12_get yX12_get, .code yX12_get cX12_get 3 (some .int)] ++ wsX120)
def wsX12_isLookedAt : List Cond := .code yX12_isLookedAt cX12_isLookedAt 2 (some .boolean) :: ([.methodLink RX12 72 yX12_kind, .instanceMethod yX12_kind, .selects RX12 yX12_kind yX12_kind, .initialized RX12, .code yX12_kind cX12_kind 2 (some .int), .methodLink RX12 64 yX12_get, .instanceMethod yX12_get, .selects RX12 yX12_get yX12_get, .code yX12_get cX12_get 3 (some .int), .fieldLink RX12 9 "TwiceAsRichModel" "s" "[I"] ++ wsX120)
def wsX12_shows : List Cond := .code yX12_shows cX12_shows 3 (some .int) :: ([.methodLink RX12 68 yX12_purse, .instanceMethod yX12_purse, .selects RX12 yX12_purse yX12_purse, .initialized RX12, .code yX12_purse cX12_purse 2 (some .int), .methodLink RX12 64 yX12_get, .instanceMethod yX12_get, .selects RX12 yX12_get yX12_get, .code yX12_get cX12_get 3 (some .int), .fieldLink RX12 9 "TwiceAsRichModel" "s" "[I", .methodLink RX12 72 yX12_kind, .instanceMethod yX12_kind, .selects RX12 yX12_kind yX12_kind, .code yX12_kind cX12_kind 2 (some .int), .methodLink RX12 75 yX12_figure, .instanceMethod yX12_figure, .selects RX12 yX12_figure yX12_figure, .code yX12_figure cX12_figure 2 (some .int)] ++ wsX120)
def wsX12_mayHave : List Cond := .code yX12_mayHave cX12_mayHave 4 (some .int) :: ([.methodLink RX12 75 yX12_figure, .instanceMethod yX12_figure, .selects RX12 yX12_figure yX12_figure, .initialized RX12, .code yX12_figure cX12_figure 2 (some .int), .methodLink RX12 64 yX12_get, .instanceMethod yX12_get, .selects RX12 yX12_get yX12_get, .code yX12_get cX12_get 3 (some .int), .fieldLink RX12 9 "TwiceAsRichModel" "s" "[I", .methodLink RX12 72 yX12_kind, .instanceMethod yX12_kind, .selects RX12 yX12_kind yX12_kind, .code yX12_kind cX12_kind 2 (some .int)] ++ wsX120)
def wsX12_earnsBy : List Cond := .code yX12_earnsBy cX12_earnsBy 2 (some .int) :: ([])
def wsX12_beside : List Cond := .code yX12_beside cX12_beside 5 (some .int) :: ([.fieldLink RX12 9 "TwiceAsRichModel" "s" "[I", .methodLink RX12 56 yX12_isHouse, .instanceMethod yX12_isHouse, .selects RX12 yX12_isHouse yX12_isHouse, .initialized RX12, .code yX12_isHouse cX12_isHouse 2 (some .boolean), .methodLink RX12 52 yX12_isIn, .static yX12_isIn, .code yX12_isIn cX12_isIn 6 (some .boolean)] ++ wsX120)
def wsX12_tooMuchBy_r1 : List Cond := [Cond.methodLink RX12 78 yX12_beside, Cond.instanceMethod yX12_beside, Cond.selects RX12 yX12_beside yX12_beside, Cond.initialized RX12, Cond.code yX12_beside cX12_beside 5 (some .int), Cond.fieldLink RX12 9 "TwiceAsRichModel" "s" "[I", Cond.methodLink RX12 56 yX12_isHouse, Cond.instanceMethod yX12_isHouse, Cond.selects RX12 yX12_isHouse yX12_isHouse, Cond.code yX12_isHouse cX12_isHouse 2 (some .boolean), Cond.methodLink RX12 52 yX12_isIn, Cond.static yX12_isIn, Cond.code yX12_isIn cX12_isIn 6 (some .boolean), Cond.methodLink RX12 81 yX12_isLookedAt, Cond.instanceMethod yX12_isLookedAt, Cond.selects RX12 yX12_isLookedAt yX12_isLookedAt, Cond.code yX12_isLookedAt cX12_isLookedAt 2 (some .boolean), Cond.methodLink RX12 72 yX12_kind, Cond.instanceMethod yX12_kind, Cond.selects RX12 yX12_kind yX12_kind, Cond.code yX12_kind cX12_kind 2 (some .int), Cond.methodLink RX12 64 yX12_get, Cond.instanceMethod yX12_get, Cond.selects RX12 yX12_get yX12_get]
def wsX12_tooMuchBy_r2 : List Cond := [Cond.code yX12_get cX12_get 3 (some .int), Cond.methodLink RX12 84 yX12_shows, Cond.instanceMethod yX12_shows, Cond.selects RX12 yX12_shows yX12_shows, Cond.code yX12_shows cX12_shows 3 (some .int), Cond.methodLink RX12 68 yX12_purse, Cond.instanceMethod yX12_purse, Cond.selects RX12 yX12_purse yX12_purse, Cond.code yX12_purse cX12_purse 2 (some .int), Cond.methodLink RX12 75 yX12_figure, Cond.instanceMethod yX12_figure, Cond.selects RX12 yX12_figure yX12_figure, Cond.code yX12_figure cX12_figure 2 (some .int), Cond.methodLink RX12 87 yX12_mayHave, Cond.instanceMethod yX12_mayHave, Cond.selects RX12 yX12_mayHave yX12_mayHave, Cond.code yX12_mayHave cX12_mayHave 4 (some .int)]
def wsX12_tooMuchBy : List Cond := .code yX12_tooMuchBy cX12_tooMuchBy 6 (some .int) :: ((wsX12_tooMuchBy_r1 ++ wsX12_tooMuchBy_r2) ++ wsX120)
def wsX12_bits : List Cond := .code yX12_bits cX12_bits 3 (some .int) :: ([])
def wsX12_breachesOf_r1 : List Cond := [Cond.methodLink RX12 68 yX12_purse, Cond.instanceMethod yX12_purse, Cond.selects RX12 yX12_purse yX12_purse, Cond.initialized RX12, Cond.code yX12_purse cX12_purse 2 (some .int), Cond.methodLink RX12 64 yX12_get, Cond.instanceMethod yX12_get, Cond.selects RX12 yX12_get yX12_get, Cond.code yX12_get cX12_get 3 (some .int), Cond.fieldLink RX12 9 "TwiceAsRichModel" "s" "[I", Cond.methodLink RX12 90 yX12_tooMuchBy, Cond.instanceMethod yX12_tooMuchBy, Cond.selects RX12 yX12_tooMuchBy yX12_tooMuchBy, Cond.code yX12_tooMuchBy cX12_tooMuchBy 6 (some .int), Cond.methodLink RX12 78 yX12_beside, Cond.instanceMethod yX12_beside, Cond.selects RX12 yX12_beside yX12_beside, Cond.code yX12_beside cX12_beside 5 (some .int), Cond.methodLink RX12 56 yX12_isHouse, Cond.instanceMethod yX12_isHouse, Cond.selects RX12 yX12_isHouse yX12_isHouse, Cond.code yX12_isHouse cX12_isHouse 2 (some .boolean), Cond.methodLink RX12 52 yX12_isIn, Cond.static yX12_isIn]
def wsX12_breachesOf_r2 : List Cond := [Cond.code yX12_isIn cX12_isIn 6 (some .boolean), Cond.methodLink RX12 81 yX12_isLookedAt, Cond.instanceMethod yX12_isLookedAt, Cond.selects RX12 yX12_isLookedAt yX12_isLookedAt, Cond.code yX12_isLookedAt cX12_isLookedAt 2 (some .boolean), Cond.methodLink RX12 72 yX12_kind, Cond.instanceMethod yX12_kind, Cond.selects RX12 yX12_kind yX12_kind, Cond.code yX12_kind cX12_kind 2 (some .int), Cond.methodLink RX12 84 yX12_shows, Cond.instanceMethod yX12_shows, Cond.selects RX12 yX12_shows yX12_shows, Cond.code yX12_shows cX12_shows 3 (some .int), Cond.methodLink RX12 75 yX12_figure, Cond.instanceMethod yX12_figure, Cond.selects RX12 yX12_figure yX12_figure, Cond.code yX12_figure cX12_figure 2 (some .int), Cond.methodLink RX12 87 yX12_mayHave, Cond.instanceMethod yX12_mayHave, Cond.selects RX12 yX12_mayHave yX12_mayHave, Cond.code yX12_mayHave cX12_mayHave 4 (some .int), Cond.methodLink RX12 93 yX12_bits, Cond.static yX12_bits, Cond.code yX12_bits cX12_bits 3 (some .int)]
def wsX12_breachesOf : List Cond := .code yX12_breachesOf cX12_breachesOf 2 (some .int) :: ((wsX12_breachesOf_r1 ++ wsX12_breachesOf_r2) ++ wsX120)
def wsX12_breachesAll_r1 : List Cond := [Cond.fieldLink RX12 9 "TwiceAsRichModel" "s" "[I", Cond.methodLink RX12 96 yX12_breachesOf, Cond.instanceMethod yX12_breachesOf, Cond.selects RX12 yX12_breachesOf yX12_breachesOf, Cond.initialized RX12, Cond.code yX12_breachesOf cX12_breachesOf 2 (some .int), Cond.methodLink RX12 68 yX12_purse, Cond.instanceMethod yX12_purse, Cond.selects RX12 yX12_purse yX12_purse, Cond.code yX12_purse cX12_purse 2 (some .int), Cond.methodLink RX12 64 yX12_get, Cond.instanceMethod yX12_get, Cond.selects RX12 yX12_get yX12_get, Cond.code yX12_get cX12_get 3 (some .int), Cond.methodLink RX12 90 yX12_tooMuchBy, Cond.instanceMethod yX12_tooMuchBy, Cond.selects RX12 yX12_tooMuchBy yX12_tooMuchBy, Cond.code yX12_tooMuchBy cX12_tooMuchBy 6 (some .int), Cond.methodLink RX12 78 yX12_beside, Cond.instanceMethod yX12_beside, Cond.selects RX12 yX12_beside yX12_beside, Cond.code yX12_beside cX12_beside 5 (some .int), Cond.methodLink RX12 56 yX12_isHouse, Cond.instanceMethod yX12_isHouse]
def wsX12_breachesAll_r2 : List Cond := [Cond.selects RX12 yX12_isHouse yX12_isHouse, Cond.code yX12_isHouse cX12_isHouse 2 (some .boolean), Cond.methodLink RX12 52 yX12_isIn, Cond.static yX12_isIn, Cond.code yX12_isIn cX12_isIn 6 (some .boolean), Cond.methodLink RX12 81 yX12_isLookedAt, Cond.instanceMethod yX12_isLookedAt, Cond.selects RX12 yX12_isLookedAt yX12_isLookedAt, Cond.code yX12_isLookedAt cX12_isLookedAt 2 (some .boolean), Cond.methodLink RX12 72 yX12_kind, Cond.instanceMethod yX12_kind, Cond.selects RX12 yX12_kind yX12_kind, Cond.code yX12_kind cX12_kind 2 (some .int), Cond.methodLink RX12 84 yX12_shows, Cond.instanceMethod yX12_shows, Cond.selects RX12 yX12_shows yX12_shows, Cond.code yX12_shows cX12_shows 3 (some .int), Cond.methodLink RX12 75 yX12_figure, Cond.instanceMethod yX12_figure, Cond.selects RX12 yX12_figure yX12_figure, Cond.code yX12_figure cX12_figure 2 (some .int), Cond.methodLink RX12 87 yX12_mayHave, Cond.instanceMethod yX12_mayHave, Cond.selects RX12 yX12_mayHave yX12_mayHave]
def wsX12_breachesAll_r3 : List Cond := [Cond.code yX12_mayHave cX12_mayHave 4 (some .int), Cond.methodLink RX12 93 yX12_bits, Cond.static yX12_bits, Cond.code yX12_bits cX12_bits 3 (some .int)]
def wsX12_breachesAll : List Cond := .code yX12_breachesAll cX12_breachesAll 3 (some .int) :: ((wsX12_breachesAll_r1 ++ (wsX12_breachesAll_r2 ++ wsX12_breachesAll_r3)) ++ wsX120)
def wsX12_isLawful_r1 : List Cond := [Cond.methodLink RX12 99 yX12_breachesAll, Cond.instanceMethod yX12_breachesAll, Cond.selects RX12 yX12_breachesAll yX12_breachesAll, Cond.initialized RX12, Cond.code yX12_breachesAll cX12_breachesAll 3 (some .int), Cond.fieldLink RX12 9 "TwiceAsRichModel" "s" "[I", Cond.methodLink RX12 96 yX12_breachesOf, Cond.instanceMethod yX12_breachesOf, Cond.selects RX12 yX12_breachesOf yX12_breachesOf, Cond.code yX12_breachesOf cX12_breachesOf 2 (some .int), Cond.methodLink RX12 68 yX12_purse, Cond.instanceMethod yX12_purse, Cond.selects RX12 yX12_purse yX12_purse, Cond.code yX12_purse cX12_purse 2 (some .int), Cond.methodLink RX12 64 yX12_get, Cond.instanceMethod yX12_get, Cond.selects RX12 yX12_get yX12_get, Cond.code yX12_get cX12_get 3 (some .int), Cond.methodLink RX12 90 yX12_tooMuchBy, Cond.instanceMethod yX12_tooMuchBy, Cond.selects RX12 yX12_tooMuchBy yX12_tooMuchBy, Cond.code yX12_tooMuchBy cX12_tooMuchBy 6 (some .int), Cond.methodLink RX12 78 yX12_beside, Cond.instanceMethod yX12_beside]
def wsX12_isLawful_r2 : List Cond := [Cond.selects RX12 yX12_beside yX12_beside, Cond.code yX12_beside cX12_beside 5 (some .int), Cond.methodLink RX12 56 yX12_isHouse, Cond.instanceMethod yX12_isHouse, Cond.selects RX12 yX12_isHouse yX12_isHouse, Cond.code yX12_isHouse cX12_isHouse 2 (some .boolean), Cond.methodLink RX12 52 yX12_isIn, Cond.static yX12_isIn, Cond.code yX12_isIn cX12_isIn 6 (some .boolean), Cond.methodLink RX12 81 yX12_isLookedAt, Cond.instanceMethod yX12_isLookedAt, Cond.selects RX12 yX12_isLookedAt yX12_isLookedAt, Cond.code yX12_isLookedAt cX12_isLookedAt 2 (some .boolean), Cond.methodLink RX12 72 yX12_kind, Cond.instanceMethod yX12_kind, Cond.selects RX12 yX12_kind yX12_kind, Cond.code yX12_kind cX12_kind 2 (some .int), Cond.methodLink RX12 84 yX12_shows, Cond.instanceMethod yX12_shows, Cond.selects RX12 yX12_shows yX12_shows, Cond.code yX12_shows cX12_shows 3 (some .int), Cond.methodLink RX12 75 yX12_figure, Cond.instanceMethod yX12_figure, Cond.selects RX12 yX12_figure yX12_figure]
def wsX12_isLawful_r3 : List Cond := [Cond.code yX12_figure cX12_figure 2 (some .int), Cond.methodLink RX12 87 yX12_mayHave, Cond.instanceMethod yX12_mayHave, Cond.selects RX12 yX12_mayHave yX12_mayHave, Cond.code yX12_mayHave cX12_mayHave 4 (some .int), Cond.methodLink RX12 93 yX12_bits, Cond.static yX12_bits, Cond.code yX12_bits cX12_bits 3 (some .int)]
def wsX12_isLawful : List Cond := .code yX12_isLawful cX12_isLawful 1 (some .boolean) :: ((wsX12_isLawful_r1 ++ (wsX12_isLawful_r2 ++ wsX12_isLawful_r3)) ++ wsX120)
def wsX12_mostOf_r1 : List Cond := [Cond.methodLink RX12 78 yX12_beside, Cond.instanceMethod yX12_beside, Cond.selects RX12 yX12_beside yX12_beside, Cond.initialized RX12, Cond.code yX12_beside cX12_beside 5 (some .int), Cond.fieldLink RX12 9 "TwiceAsRichModel" "s" "[I", Cond.methodLink RX12 56 yX12_isHouse, Cond.instanceMethod yX12_isHouse, Cond.selects RX12 yX12_isHouse yX12_isHouse, Cond.code yX12_isHouse cX12_isHouse 2 (some .boolean), Cond.methodLink RX12 52 yX12_isIn, Cond.static yX12_isIn, Cond.code yX12_isIn cX12_isIn 6 (some .boolean), Cond.methodLink RX12 81 yX12_isLookedAt, Cond.instanceMethod yX12_isLookedAt, Cond.selects RX12 yX12_isLookedAt yX12_isLookedAt, Cond.code yX12_isLookedAt cX12_isLookedAt 2 (some .boolean), Cond.methodLink RX12 72 yX12_kind, Cond.instanceMethod yX12_kind, Cond.selects RX12 yX12_kind yX12_kind, Cond.code yX12_kind cX12_kind 2 (some .int), Cond.methodLink RX12 64 yX12_get, Cond.instanceMethod yX12_get, Cond.selects RX12 yX12_get yX12_get]
def wsX12_mostOf_r2 : List Cond := [Cond.code yX12_get cX12_get 3 (some .int), Cond.methodLink RX12 84 yX12_shows, Cond.instanceMethod yX12_shows, Cond.selects RX12 yX12_shows yX12_shows, Cond.code yX12_shows cX12_shows 3 (some .int), Cond.methodLink RX12 68 yX12_purse, Cond.instanceMethod yX12_purse, Cond.selects RX12 yX12_purse yX12_purse, Cond.code yX12_purse cX12_purse 2 (some .int), Cond.methodLink RX12 75 yX12_figure, Cond.instanceMethod yX12_figure, Cond.selects RX12 yX12_figure yX12_figure, Cond.code yX12_figure cX12_figure 2 (some .int), Cond.methodLink RX12 87 yX12_mayHave, Cond.instanceMethod yX12_mayHave, Cond.selects RX12 yX12_mayHave yX12_mayHave, Cond.code yX12_mayHave cX12_mayHave 4 (some .int)]
def wsX12_mostOf : List Cond := .code yX12_mostOf cX12_mostOf 6 (some .int) :: ((wsX12_mostOf_r1 ++ wsX12_mostOf_r2) ++ wsX120)
def wsX12_here : List Cond := .code yX12_here cX12_here 1 (some .int) :: ([.fieldLink RX12 103 "TwiceAsRichModel" "pos" "I", .fieldLink RX12 106 "TwiceAsRichModel" "end" "I", .fieldLink RX12 31 "TwiceAsRichModel" "element" "[I", .fieldLink RX12 109 "TwiceAsRichModel" "base" "I"] ++ wsX120)
def wsX12_readsNumber : List Cond := .code yX12_readsNumber cX12_readsNumber 4 (some .boolean) :: ([.constantLong RX12 115 (48), .constantLong RX12 117 (57), .fieldLink RX12 103 "TwiceAsRichModel" "pos" "I", .fieldLink RX12 40 "TwiceAsRichModel" "numbers" "[I", .fieldLink RX12 119 "TwiceAsRichModel" "told" "I", .methodLink RX12 112 yX12_here, .instanceMethod yX12_here, .selects RX12 yX12_here yX12_here, .initialized RX12, .code yX12_here cX12_here 1 (some .int), .fieldLink RX12 106 "TwiceAsRichModel" "end" "I", .fieldLink RX12 31 "TwiceAsRichModel" "element" "[I", .fieldLink RX12 109 "TwiceAsRichModel" "base" "I", .methodLink RX12 52 yX12_isIn, .static yX12_isIn, .code yX12_isIn cX12_isIn 6 (some .boolean)] ++ wsX120)
def wsX12_readsStatement : List Cond := .code yX12_readsStatement cX12_readsStatement 3 (some .boolean) :: ([.fieldLink RX12 119 "TwiceAsRichModel" "told" "I", .fieldLink RX12 103 "TwiceAsRichModel" "pos" "I", .methodLink RX12 112 yX12_here, .instanceMethod yX12_here, .selects RX12 yX12_here yX12_here, .initialized RX12, .code yX12_here cX12_here 1 (some .int), .fieldLink RX12 106 "TwiceAsRichModel" "end" "I", .fieldLink RX12 31 "TwiceAsRichModel" "element" "[I", .fieldLink RX12 109 "TwiceAsRichModel" "base" "I", .methodLink RX12 122 yX12_readsNumber, .instanceMethod yX12_readsNumber, .selects RX12 yX12_readsNumber yX12_readsNumber, .code yX12_readsNumber cX12_readsNumber 4 (some .boolean), .constantLong RX12 115 (48), .constantLong RX12 117 (57), .fieldLink RX12 40 "TwiceAsRichModel" "numbers" "[I", .methodLink RX12 52 yX12_isIn, .static yX12_isIn, .code yX12_isIn cX12_isIn 6 (some .boolean)] ++ wsX120)
def wsX12_joins : List Cond := .code yX12_joins cX12_joins 4 none :: ([.fieldLink RX12 9 "TwiceAsRichModel" "s" "[I", .methodLink RX12 125 yX12_puts, .instanceMethod yX12_puts, .selects RX12 yX12_puts yX12_puts, .initialized RX12, .code yX12_puts cX12_puts 4 none] ++ wsX120)
def wsX12_adds : List Cond := .code yX12_adds cX12_adds 4 (some .boolean) :: ([.fieldLink RX12 9 "TwiceAsRichModel" "s" "[I", .methodLink RX12 129 yX12_joins, .instanceMethod yX12_joins, .selects RX12 yX12_joins yX12_joins, .initialized RX12, .code yX12_joins cX12_joins 4 none, .methodLink RX12 125 yX12_puts, .instanceMethod yX12_puts, .selects RX12 yX12_puts yX12_puts, .code yX12_puts cX12_puts 4 none] ++ wsX120)
def wsX12_wrongGift : List Cond := .code yX12_wrongGift cX12_wrongGift 4 (some .int) :: ([.methodLink RX12 132 yX12_areTwo, .instanceMethod yX12_areTwo, .selects RX12 yX12_areTwo yX12_areTwo, .initialized RX12, .code yX12_areTwo cX12_areTwo 3 (some .boolean), .methodLink RX12 56 yX12_isHouse, .instanceMethod yX12_isHouse, .selects RX12 yX12_isHouse yX12_isHouse, .code yX12_isHouse cX12_isHouse 2 (some .boolean), .fieldLink RX12 9 "TwiceAsRichModel" "s" "[I", .methodLink RX12 52 yX12_isIn, .static yX12_isIn, .code yX12_isIn cX12_isIn 6 (some .boolean), .methodLink RX12 68 yX12_purse, .instanceMethod yX12_purse, .selects RX12 yX12_purse yX12_purse, .code yX12_purse cX12_purse 2 (some .int), .methodLink RX12 64 yX12_get, .instanceMethod yX12_get, .selects RX12 yX12_get yX12_get, .code yX12_get cX12_get 3 (some .int)] ++ wsX120)
def wsX12_gives : List Cond := .code yX12_gives cX12_gives 4 none :: ([.methodLink RX12 68 yX12_purse, .instanceMethod yX12_purse, .selects RX12 yX12_purse yX12_purse, .initialized RX12, .code yX12_purse cX12_purse 2 (some .int), .methodLink RX12 64 yX12_get, .instanceMethod yX12_get, .selects RX12 yX12_get yX12_get, .code yX12_get cX12_get 3 (some .int), .fieldLink RX12 9 "TwiceAsRichModel" "s" "[I", .methodLink RX12 125 yX12_puts, .instanceMethod yX12_puts, .selects RX12 yX12_puts yX12_puts, .code yX12_puts cX12_puts 4 none] ++ wsX120)
def wsX12_givesIf_r1 : List Cond := [Cond.methodLink RX12 136 yX12_wrongGift, Cond.instanceMethod yX12_wrongGift, Cond.selects RX12 yX12_wrongGift yX12_wrongGift, Cond.initialized RX12, Cond.code yX12_wrongGift cX12_wrongGift 4 (some .int), Cond.methodLink RX12 132 yX12_areTwo, Cond.instanceMethod yX12_areTwo, Cond.selects RX12 yX12_areTwo yX12_areTwo, Cond.code yX12_areTwo cX12_areTwo 3 (some .boolean), Cond.methodLink RX12 56 yX12_isHouse, Cond.instanceMethod yX12_isHouse, Cond.selects RX12 yX12_isHouse yX12_isHouse, Cond.code yX12_isHouse cX12_isHouse 2 (some .boolean), Cond.fieldLink RX12 9 "TwiceAsRichModel" "s" "[I", Cond.methodLink RX12 52 yX12_isIn, Cond.static yX12_isIn, Cond.code yX12_isIn cX12_isIn 6 (some .boolean), Cond.methodLink RX12 68 yX12_purse, Cond.instanceMethod yX12_purse, Cond.selects RX12 yX12_purse yX12_purse, Cond.code yX12_purse cX12_purse 2 (some .int), Cond.methodLink RX12 64 yX12_get, Cond.instanceMethod yX12_get, Cond.selects RX12 yX12_get yX12_get]
def wsX12_givesIf_r2 : List Cond := [Cond.code yX12_get cX12_get 3 (some .int), Cond.methodLink RX12 140 yX12_gives, Cond.instanceMethod yX12_gives, Cond.selects RX12 yX12_gives yX12_gives, Cond.code yX12_gives cX12_gives 4 none, Cond.methodLink RX12 125 yX12_puts, Cond.instanceMethod yX12_puts, Cond.selects RX12 yX12_puts yX12_puts, Cond.code yX12_puts cX12_puts 4 none]
def wsX12_givesIf : List Cond := .code yX12_givesIf cX12_givesIf 4 (some .boolean) :: ((wsX12_givesIf_r1 ++ wsX12_givesIf_r2) ++ wsX120)
def wsX12_changes : List Cond := .code yX12_changes cX12_changes 5 none :: ([.methodLink RX12 64 yX12_get, .instanceMethod yX12_get, .selects RX12 yX12_get yX12_get, .initialized RX12, .code yX12_get cX12_get 3 (some .int), .fieldLink RX12 9 "TwiceAsRichModel" "s" "[I", .methodLink RX12 125 yX12_puts, .instanceMethod yX12_puts, .selects RX12 yX12_puts yX12_puts, .code yX12_puts cX12_puts 4 none] ++ wsX120)
def wsX12_comesTold_r1 : List Cond := [Cond.fieldLink RX12 40 "TwiceAsRichModel" "numbers" "[I", Cond.fieldLink RX12 9 "TwiceAsRichModel" "s" "[I", Cond.methodLink RX12 143 yX12_adds, Cond.instanceMethod yX12_adds, Cond.selects RX12 yX12_adds yX12_adds, Cond.initialized RX12, Cond.code yX12_adds cX12_adds 4 (some .boolean), Cond.methodLink RX12 129 yX12_joins, Cond.instanceMethod yX12_joins, Cond.selects RX12 yX12_joins yX12_joins, Cond.code yX12_joins cX12_joins 4 none, Cond.methodLink RX12 125 yX12_puts, Cond.instanceMethod yX12_puts, Cond.selects RX12 yX12_puts yX12_puts, Cond.code yX12_puts cX12_puts 4 none, Cond.methodLink RX12 147 yX12_givesIf, Cond.instanceMethod yX12_givesIf, Cond.selects RX12 yX12_givesIf yX12_givesIf, Cond.code yX12_givesIf cX12_givesIf 4 (some .boolean), Cond.methodLink RX12 136 yX12_wrongGift, Cond.instanceMethod yX12_wrongGift, Cond.selects RX12 yX12_wrongGift yX12_wrongGift, Cond.code yX12_wrongGift cX12_wrongGift 4 (some .int), Cond.methodLink RX12 132 yX12_areTwo]
def wsX12_comesTold_r2 : List Cond := [Cond.instanceMethod yX12_areTwo, Cond.selects RX12 yX12_areTwo yX12_areTwo, Cond.code yX12_areTwo cX12_areTwo 3 (some .boolean), Cond.methodLink RX12 56 yX12_isHouse, Cond.instanceMethod yX12_isHouse, Cond.selects RX12 yX12_isHouse yX12_isHouse, Cond.code yX12_isHouse cX12_isHouse 2 (some .boolean), Cond.methodLink RX12 52 yX12_isIn, Cond.static yX12_isIn, Cond.code yX12_isIn cX12_isIn 6 (some .boolean), Cond.methodLink RX12 68 yX12_purse, Cond.instanceMethod yX12_purse, Cond.selects RX12 yX12_purse yX12_purse, Cond.code yX12_purse cX12_purse 2 (some .int), Cond.methodLink RX12 64 yX12_get, Cond.instanceMethod yX12_get, Cond.selects RX12 yX12_get yX12_get, Cond.code yX12_get cX12_get 3 (some .int), Cond.methodLink RX12 140 yX12_gives, Cond.instanceMethod yX12_gives, Cond.selects RX12 yX12_gives yX12_gives, Cond.code yX12_gives cX12_gives 4 none, Cond.methodLink RX12 150 yX12_changes, Cond.instanceMethod yX12_changes]
def wsX12_comesTold_r3 : List Cond := [Cond.selects RX12 yX12_changes yX12_changes, Cond.code yX12_changes cX12_changes 5 none]
def wsX12_comesTold : List Cond := .code yX12_comesTold cX12_comesTold 4 (some .boolean) :: ((wsX12_comesTold_r1 ++ (wsX12_comesTold_r2 ++ wsX12_comesTold_r3)) ++ wsX120)
def wsX12_wrongRow : List Cond := .code yX12_wrongRow cX12_wrongRow 3 (some .int) :: ([.fieldLink RX12 22 "TwiceAsRichModel" "kept" "[I", .fieldLink RX12 25 "TwiceAsRichModel" "sort" "[I", .methodLink RX12 154 yX12_isShelf, .static yX12_isShelf, .initialized RX12, .code yX12_isShelf cX12_isShelf 1 (some .boolean), .constantLong RX12 50 (7), .methodLink RX12 52 yX12_isIn, .static yX12_isIn, .code yX12_isIn cX12_isIn 6 (some .boolean)] ++ wsX120)
def wsX12_street_r1 : List Cond := [Cond.fieldLink RX12 109 "TwiceAsRichModel" "base" "I", Cond.fieldLink RX12 28 "TwiceAsRichModel" "size" "[I", Cond.fieldLink RX12 106 "TwiceAsRichModel" "end" "I", Cond.fieldLink RX12 103 "TwiceAsRichModel" "pos" "I", Cond.fieldLink RX12 9 "TwiceAsRichModel" "s" "[I", Cond.fieldLink RX12 16 "TwiceAsRichModel" "read" "[I", Cond.methodLink RX12 157 yX12_wrongRow, Cond.instanceMethod yX12_wrongRow, Cond.selects RX12 yX12_wrongRow yX12_wrongRow, Cond.initialized RX12, Cond.code yX12_wrongRow cX12_wrongRow 3 (some .int), Cond.fieldLink RX12 22 "TwiceAsRichModel" "kept" "[I", Cond.fieldLink RX12 25 "TwiceAsRichModel" "sort" "[I", Cond.methodLink RX12 154 yX12_isShelf, Cond.static yX12_isShelf, Cond.code yX12_isShelf cX12_isShelf 1 (some .boolean), Cond.constantLong RX12 50 (7), Cond.methodLink RX12 52 yX12_isIn, Cond.static yX12_isIn, Cond.code yX12_isIn cX12_isIn 6 (some .boolean), Cond.methodLink RX12 160 yX12_readsStatement, Cond.instanceMethod yX12_readsStatement, Cond.selects RX12 yX12_readsStatement yX12_readsStatement, Cond.code yX12_readsStatement cX12_readsStatement 3 (some .boolean)]
def wsX12_street_r2 : List Cond := [Cond.fieldLink RX12 119 "TwiceAsRichModel" "told" "I", Cond.methodLink RX12 112 yX12_here, Cond.instanceMethod yX12_here, Cond.selects RX12 yX12_here yX12_here, Cond.code yX12_here cX12_here 1 (some .int), Cond.fieldLink RX12 31 "TwiceAsRichModel" "element" "[I", Cond.methodLink RX12 122 yX12_readsNumber, Cond.instanceMethod yX12_readsNumber, Cond.selects RX12 yX12_readsNumber yX12_readsNumber, Cond.code yX12_readsNumber cX12_readsNumber 4 (some .boolean), Cond.constantLong RX12 115 (48), Cond.constantLong RX12 117 (57), Cond.fieldLink RX12 40 "TwiceAsRichModel" "numbers" "[I", Cond.methodLink RX12 60 yX12_lays, Cond.static yX12_lays, Cond.code yX12_lays cX12_lays 3 none, Cond.methodLink RX12 164 yX12_comesTold, Cond.instanceMethod yX12_comesTold, Cond.selects RX12 yX12_comesTold yX12_comesTold, Cond.code yX12_comesTold cX12_comesTold 4 (some .boolean), Cond.methodLink RX12 143 yX12_adds, Cond.instanceMethod yX12_adds, Cond.selects RX12 yX12_adds yX12_adds, Cond.code yX12_adds cX12_adds 4 (some .boolean)]
def wsX12_street_r3 : List Cond := [Cond.methodLink RX12 129 yX12_joins, Cond.instanceMethod yX12_joins, Cond.selects RX12 yX12_joins yX12_joins, Cond.code yX12_joins cX12_joins 4 none, Cond.methodLink RX12 125 yX12_puts, Cond.instanceMethod yX12_puts, Cond.selects RX12 yX12_puts yX12_puts, Cond.code yX12_puts cX12_puts 4 none, Cond.methodLink RX12 147 yX12_givesIf, Cond.instanceMethod yX12_givesIf, Cond.selects RX12 yX12_givesIf yX12_givesIf, Cond.code yX12_givesIf cX12_givesIf 4 (some .boolean), Cond.methodLink RX12 136 yX12_wrongGift, Cond.instanceMethod yX12_wrongGift, Cond.selects RX12 yX12_wrongGift yX12_wrongGift, Cond.code yX12_wrongGift cX12_wrongGift 4 (some .int), Cond.methodLink RX12 132 yX12_areTwo, Cond.instanceMethod yX12_areTwo, Cond.selects RX12 yX12_areTwo yX12_areTwo, Cond.code yX12_areTwo cX12_areTwo 3 (some .boolean), Cond.methodLink RX12 56 yX12_isHouse, Cond.instanceMethod yX12_isHouse, Cond.selects RX12 yX12_isHouse yX12_isHouse, Cond.code yX12_isHouse cX12_isHouse 2 (some .boolean)]
def wsX12_street_r4 : List Cond := [Cond.methodLink RX12 68 yX12_purse, Cond.instanceMethod yX12_purse, Cond.selects RX12 yX12_purse yX12_purse, Cond.code yX12_purse cX12_purse 2 (some .int), Cond.methodLink RX12 64 yX12_get, Cond.instanceMethod yX12_get, Cond.selects RX12 yX12_get yX12_get, Cond.code yX12_get cX12_get 3 (some .int), Cond.methodLink RX12 140 yX12_gives, Cond.instanceMethod yX12_gives, Cond.selects RX12 yX12_gives yX12_gives, Cond.code yX12_gives cX12_gives 4 none, Cond.methodLink RX12 150 yX12_changes, Cond.instanceMethod yX12_changes, Cond.selects RX12 yX12_changes yX12_changes, Cond.code yX12_changes cX12_changes 5 none]
def wsX12_street : List Cond := .code yX12_street cX12_street 7 (some .int) :: ((wsX12_street_r1 ++ (wsX12_street_r2 ++ (wsX12_street_r3 ++ wsX12_street_r4))) ++ wsX120)
def wsX12_house_r1 : List Cond := [Cond.methodLink RX12 56 yX12_isHouse, Cond.instanceMethod yX12_isHouse, Cond.selects RX12 yX12_isHouse yX12_isHouse, Cond.initialized RX12, Cond.code yX12_isHouse cX12_isHouse 2 (some .boolean), Cond.fieldLink RX12 9 "TwiceAsRichModel" "s" "[I", Cond.methodLink RX12 52 yX12_isIn, Cond.static yX12_isIn, Cond.code yX12_isIn cX12_isIn 6 (some .boolean), Cond.methodLink RX12 64 yX12_get, Cond.instanceMethod yX12_get, Cond.selects RX12 yX12_get yX12_get, Cond.code yX12_get cX12_get 3 (some .int), Cond.methodLink RX12 81 yX12_isLookedAt, Cond.instanceMethod yX12_isLookedAt, Cond.selects RX12 yX12_isLookedAt yX12_isLookedAt, Cond.code yX12_isLookedAt cX12_isLookedAt 2 (some .boolean), Cond.methodLink RX12 72 yX12_kind, Cond.instanceMethod yX12_kind, Cond.selects RX12 yX12_kind yX12_kind, Cond.code yX12_kind cX12_kind 2 (some .int), Cond.methodLink RX12 84 yX12_shows, Cond.instanceMethod yX12_shows, Cond.selects RX12 yX12_shows yX12_shows]
def wsX12_house_r2 : List Cond := [Cond.code yX12_shows cX12_shows 3 (some .int), Cond.methodLink RX12 68 yX12_purse, Cond.instanceMethod yX12_purse, Cond.selects RX12 yX12_purse yX12_purse, Cond.code yX12_purse cX12_purse 2 (some .int), Cond.methodLink RX12 75 yX12_figure, Cond.instanceMethod yX12_figure, Cond.selects RX12 yX12_figure yX12_figure, Cond.code yX12_figure cX12_figure 2 (some .int), Cond.methodLink RX12 167 yX12_mostOf, Cond.instanceMethod yX12_mostOf, Cond.selects RX12 yX12_mostOf yX12_mostOf, Cond.code yX12_mostOf cX12_mostOf 6 (some .int), Cond.methodLink RX12 78 yX12_beside, Cond.instanceMethod yX12_beside, Cond.selects RX12 yX12_beside yX12_beside, Cond.code yX12_beside cX12_beside 5 (some .int), Cond.methodLink RX12 87 yX12_mayHave, Cond.instanceMethod yX12_mayHave, Cond.selects RX12 yX12_mayHave yX12_mayHave, Cond.code yX12_mayHave cX12_mayHave 4 (some .int), Cond.methodLink RX12 170 yX12_earnsBy, Cond.static yX12_earnsBy, Cond.code yX12_earnsBy cX12_earnsBy 2 (some .int)]
def wsX12_house : List Cond := .code yX12_house cX12_house 3 (some .int) :: ((wsX12_house_r1 ++ wsX12_house_r2) ++ wsX120)
def wsX12_wrongKept : List Cond := .code yX12_wrongKept cX12_wrongKept 2 (some .int) :: ([.fieldLink RX12 22 "TwiceAsRichModel" "kept" "[I", .methodLink RX12 154 yX12_isShelf, .static yX12_isShelf, .initialized RX12, .code yX12_isShelf cX12_isShelf 1 (some .boolean), .constantLong RX12 50 (7), .methodLink RX12 52 yX12_isIn, .static yX12_isIn, .code yX12_isIn cX12_isIn 6 (some .boolean)] ++ wsX120)
def wsX12_comes_r1 : List Cond := [Cond.constantLong RX12 173 (9999), Cond.fieldLink RX12 34 "TwiceAsRichModel" "keptKind" "[I", Cond.fieldLink RX12 37 "TwiceAsRichModel" "keptFigure" "[I", Cond.fieldLink RX12 9 "TwiceAsRichModel" "s" "[I", Cond.methodLink RX12 52 yX12_isIn, Cond.static yX12_isIn, Cond.initialized RX12, Cond.code yX12_isIn cX12_isIn 6 (some .boolean), Cond.methodLink RX12 175 yX12_wrongKept, Cond.instanceMethod yX12_wrongKept, Cond.selects RX12 yX12_wrongKept yX12_wrongKept, Cond.code yX12_wrongKept cX12_wrongKept 2 (some .int), Cond.fieldLink RX12 22 "TwiceAsRichModel" "kept" "[I", Cond.methodLink RX12 154 yX12_isShelf, Cond.static yX12_isShelf, Cond.code yX12_isShelf cX12_isShelf 1 (some .boolean), Cond.constantLong RX12 50 (7), Cond.methodLink RX12 143 yX12_adds, Cond.instanceMethod yX12_adds, Cond.selects RX12 yX12_adds yX12_adds, Cond.code yX12_adds cX12_adds 4 (some .boolean), Cond.methodLink RX12 129 yX12_joins, Cond.instanceMethod yX12_joins, Cond.selects RX12 yX12_joins yX12_joins]
def wsX12_comes_r2 : List Cond := [Cond.code yX12_joins cX12_joins 4 none, Cond.methodLink RX12 125 yX12_puts, Cond.instanceMethod yX12_puts, Cond.selects RX12 yX12_puts yX12_puts, Cond.code yX12_puts cX12_puts 4 none]
def wsX12_comes : List Cond := .code yX12_comes cX12_comes 4 (some .int) :: ((wsX12_comes_r1 ++ wsX12_comes_r2) ++ wsX120)
def wsX12_round : List Cond := .code yX12_round cX12_round 3 (some .int) :: ([.fieldLink RX12 9 "TwiceAsRichModel" "s" "[I", .methodLink RX12 52 yX12_isIn, .static yX12_isIn, .initialized RX12, .code yX12_isIn cX12_isIn 6 (some .boolean)] ++ wsX120)
def wsX12_give_r1 : List Cond := [Cond.methodLink RX12 136 yX12_wrongGift, Cond.instanceMethod yX12_wrongGift, Cond.selects RX12 yX12_wrongGift yX12_wrongGift, Cond.initialized RX12, Cond.code yX12_wrongGift cX12_wrongGift 4 (some .int), Cond.methodLink RX12 132 yX12_areTwo, Cond.instanceMethod yX12_areTwo, Cond.selects RX12 yX12_areTwo yX12_areTwo, Cond.code yX12_areTwo cX12_areTwo 3 (some .boolean), Cond.methodLink RX12 56 yX12_isHouse, Cond.instanceMethod yX12_isHouse, Cond.selects RX12 yX12_isHouse yX12_isHouse, Cond.code yX12_isHouse cX12_isHouse 2 (some .boolean), Cond.fieldLink RX12 9 "TwiceAsRichModel" "s" "[I", Cond.methodLink RX12 52 yX12_isIn, Cond.static yX12_isIn, Cond.code yX12_isIn cX12_isIn 6 (some .boolean), Cond.methodLink RX12 68 yX12_purse, Cond.instanceMethod yX12_purse, Cond.selects RX12 yX12_purse yX12_purse, Cond.code yX12_purse cX12_purse 2 (some .int), Cond.methodLink RX12 64 yX12_get, Cond.instanceMethod yX12_get, Cond.selects RX12 yX12_get yX12_get]
def wsX12_give_r2 : List Cond := [Cond.code yX12_get cX12_get 3 (some .int), Cond.methodLink RX12 140 yX12_gives, Cond.instanceMethod yX12_gives, Cond.selects RX12 yX12_gives yX12_gives, Cond.code yX12_gives cX12_gives 4 none, Cond.methodLink RX12 125 yX12_puts, Cond.instanceMethod yX12_puts, Cond.selects RX12 yX12_puts yX12_puts, Cond.code yX12_puts cX12_puts 4 none]
def wsX12_give : List Cond := .code yX12_give cX12_give 5 (some .int) :: ((wsX12_give_r1 ++ wsX12_give_r2) ++ wsX120)
def wsX12_weeks_r1 : List Cond := [Cond.constantLong RX12 178 (99), Cond.fieldLink RX12 9 "TwiceAsRichModel" "s" "[I", Cond.methodLink RX12 52 yX12_isIn, Cond.static yX12_isIn, Cond.initialized RX12, Cond.code yX12_isIn cX12_isIn 6 (some .boolean), Cond.methodLink RX12 68 yX12_purse, Cond.instanceMethod yX12_purse, Cond.selects RX12 yX12_purse yX12_purse, Cond.code yX12_purse cX12_purse 2 (some .int), Cond.methodLink RX12 64 yX12_get, Cond.instanceMethod yX12_get, Cond.selects RX12 yX12_get yX12_get, Cond.code yX12_get cX12_get 3 (some .int), Cond.methodLink RX12 72 yX12_kind, Cond.instanceMethod yX12_kind, Cond.selects RX12 yX12_kind yX12_kind, Cond.code yX12_kind cX12_kind 2 (some .int), Cond.methodLink RX12 75 yX12_figure, Cond.instanceMethod yX12_figure, Cond.selects RX12 yX12_figure yX12_figure, Cond.code yX12_figure cX12_figure 2 (some .int), Cond.methodLink RX12 170 yX12_earnsBy, Cond.static yX12_earnsBy]
def wsX12_weeks_r2 : List Cond := [Cond.code yX12_earnsBy cX12_earnsBy 2 (some .int), Cond.methodLink RX12 125 yX12_puts, Cond.instanceMethod yX12_puts, Cond.selects RX12 yX12_puts yX12_puts, Cond.code yX12_puts cX12_puts 4 none, Cond.methodLink RX12 180 yX12_coins, Cond.instanceMethod yX12_coins, Cond.selects RX12 yX12_coins yX12_coins, Cond.code yX12_coins cX12_coins 3 (some .int)]
def wsX12_weeks : List Cond := .code yX12_weeks cX12_weeks 4 (some .int) :: ((wsX12_weeks_r1 ++ wsX12_weeks_r2) ++ wsX120)
def wsX12_lawful_r1 : List Cond := [Cond.methodLink RX12 183 yX12_isLawful, Cond.instanceMethod yX12_isLawful, Cond.selects RX12 yX12_isLawful yX12_isLawful, Cond.initialized RX12, Cond.code yX12_isLawful cX12_isLawful 1 (some .boolean), Cond.methodLink RX12 99 yX12_breachesAll, Cond.instanceMethod yX12_breachesAll, Cond.selects RX12 yX12_breachesAll yX12_breachesAll, Cond.code yX12_breachesAll cX12_breachesAll 3 (some .int), Cond.fieldLink RX12 9 "TwiceAsRichModel" "s" "[I", Cond.methodLink RX12 96 yX12_breachesOf, Cond.instanceMethod yX12_breachesOf, Cond.selects RX12 yX12_breachesOf yX12_breachesOf, Cond.code yX12_breachesOf cX12_breachesOf 2 (some .int), Cond.methodLink RX12 68 yX12_purse, Cond.instanceMethod yX12_purse, Cond.selects RX12 yX12_purse yX12_purse, Cond.code yX12_purse cX12_purse 2 (some .int), Cond.methodLink RX12 64 yX12_get, Cond.instanceMethod yX12_get, Cond.selects RX12 yX12_get yX12_get, Cond.code yX12_get cX12_get 3 (some .int), Cond.methodLink RX12 90 yX12_tooMuchBy, Cond.instanceMethod yX12_tooMuchBy]
def wsX12_lawful_r2 : List Cond := [Cond.selects RX12 yX12_tooMuchBy yX12_tooMuchBy, Cond.code yX12_tooMuchBy cX12_tooMuchBy 6 (some .int), Cond.methodLink RX12 78 yX12_beside, Cond.instanceMethod yX12_beside, Cond.selects RX12 yX12_beside yX12_beside, Cond.code yX12_beside cX12_beside 5 (some .int), Cond.methodLink RX12 56 yX12_isHouse, Cond.instanceMethod yX12_isHouse, Cond.selects RX12 yX12_isHouse yX12_isHouse, Cond.code yX12_isHouse cX12_isHouse 2 (some .boolean), Cond.methodLink RX12 52 yX12_isIn, Cond.static yX12_isIn, Cond.code yX12_isIn cX12_isIn 6 (some .boolean), Cond.methodLink RX12 81 yX12_isLookedAt, Cond.instanceMethod yX12_isLookedAt, Cond.selects RX12 yX12_isLookedAt yX12_isLookedAt, Cond.code yX12_isLookedAt cX12_isLookedAt 2 (some .boolean), Cond.methodLink RX12 72 yX12_kind, Cond.instanceMethod yX12_kind, Cond.selects RX12 yX12_kind yX12_kind, Cond.code yX12_kind cX12_kind 2 (some .int), Cond.methodLink RX12 84 yX12_shows, Cond.instanceMethod yX12_shows, Cond.selects RX12 yX12_shows yX12_shows]
def wsX12_lawful_r3 : List Cond := [Cond.code yX12_shows cX12_shows 3 (some .int), Cond.methodLink RX12 75 yX12_figure, Cond.instanceMethod yX12_figure, Cond.selects RX12 yX12_figure yX12_figure, Cond.code yX12_figure cX12_figure 2 (some .int), Cond.methodLink RX12 87 yX12_mayHave, Cond.instanceMethod yX12_mayHave, Cond.selects RX12 yX12_mayHave yX12_mayHave, Cond.code yX12_mayHave cX12_mayHave 4 (some .int), Cond.methodLink RX12 93 yX12_bits, Cond.static yX12_bits, Cond.code yX12_bits cX12_bits 3 (some .int)]
def wsX12_lawful : List Cond := .code yX12_lawful cX12_lawful 1 (some .int) :: ((wsX12_lawful_r1 ++ (wsX12_lawful_r2 ++ wsX12_lawful_r3)) ++ wsX120)
def wsX12_breaches_r1 : List Cond := [Cond.methodLink RX12 99 yX12_breachesAll, Cond.instanceMethod yX12_breachesAll, Cond.selects RX12 yX12_breachesAll yX12_breachesAll, Cond.initialized RX12, Cond.code yX12_breachesAll cX12_breachesAll 3 (some .int), Cond.fieldLink RX12 9 "TwiceAsRichModel" "s" "[I", Cond.methodLink RX12 96 yX12_breachesOf, Cond.instanceMethod yX12_breachesOf, Cond.selects RX12 yX12_breachesOf yX12_breachesOf, Cond.code yX12_breachesOf cX12_breachesOf 2 (some .int), Cond.methodLink RX12 68 yX12_purse, Cond.instanceMethod yX12_purse, Cond.selects RX12 yX12_purse yX12_purse, Cond.code yX12_purse cX12_purse 2 (some .int), Cond.methodLink RX12 64 yX12_get, Cond.instanceMethod yX12_get, Cond.selects RX12 yX12_get yX12_get, Cond.code yX12_get cX12_get 3 (some .int), Cond.methodLink RX12 90 yX12_tooMuchBy, Cond.instanceMethod yX12_tooMuchBy, Cond.selects RX12 yX12_tooMuchBy yX12_tooMuchBy, Cond.code yX12_tooMuchBy cX12_tooMuchBy 6 (some .int), Cond.methodLink RX12 78 yX12_beside, Cond.instanceMethod yX12_beside]
def wsX12_breaches_r2 : List Cond := [Cond.selects RX12 yX12_beside yX12_beside, Cond.code yX12_beside cX12_beside 5 (some .int), Cond.methodLink RX12 56 yX12_isHouse, Cond.instanceMethod yX12_isHouse, Cond.selects RX12 yX12_isHouse yX12_isHouse, Cond.code yX12_isHouse cX12_isHouse 2 (some .boolean), Cond.methodLink RX12 52 yX12_isIn, Cond.static yX12_isIn, Cond.code yX12_isIn cX12_isIn 6 (some .boolean), Cond.methodLink RX12 81 yX12_isLookedAt, Cond.instanceMethod yX12_isLookedAt, Cond.selects RX12 yX12_isLookedAt yX12_isLookedAt, Cond.code yX12_isLookedAt cX12_isLookedAt 2 (some .boolean), Cond.methodLink RX12 72 yX12_kind, Cond.instanceMethod yX12_kind, Cond.selects RX12 yX12_kind yX12_kind, Cond.code yX12_kind cX12_kind 2 (some .int), Cond.methodLink RX12 84 yX12_shows, Cond.instanceMethod yX12_shows, Cond.selects RX12 yX12_shows yX12_shows, Cond.code yX12_shows cX12_shows 3 (some .int), Cond.methodLink RX12 75 yX12_figure, Cond.instanceMethod yX12_figure, Cond.selects RX12 yX12_figure yX12_figure]
def wsX12_breaches_r3 : List Cond := [Cond.code yX12_figure cX12_figure 2 (some .int), Cond.methodLink RX12 87 yX12_mayHave, Cond.instanceMethod yX12_mayHave, Cond.selects RX12 yX12_mayHave yX12_mayHave, Cond.code yX12_mayHave cX12_mayHave 4 (some .int), Cond.methodLink RX12 93 yX12_bits, Cond.static yX12_bits, Cond.code yX12_bits cX12_bits 3 (some .int)]
def wsX12_breaches : List Cond := .code yX12_breaches cX12_breaches 2 (some .int) :: ((wsX12_breaches_r1 ++ (wsX12_breaches_r2 ++ wsX12_breaches_r3)) ++ wsX120)
def wsX12_held_r1 : List Cond := [Cond.methodLink RX12 56 yX12_isHouse, Cond.instanceMethod yX12_isHouse, Cond.selects RX12 yX12_isHouse yX12_isHouse, Cond.initialized RX12, Cond.code yX12_isHouse cX12_isHouse 2 (some .boolean), Cond.fieldLink RX12 9 "TwiceAsRichModel" "s" "[I", Cond.methodLink RX12 52 yX12_isIn, Cond.static yX12_isIn, Cond.code yX12_isIn cX12_isIn 6 (some .boolean), Cond.methodLink RX12 68 yX12_purse, Cond.instanceMethod yX12_purse, Cond.selects RX12 yX12_purse yX12_purse, Cond.code yX12_purse cX12_purse 2 (some .int), Cond.methodLink RX12 64 yX12_get, Cond.instanceMethod yX12_get, Cond.selects RX12 yX12_get yX12_get, Cond.code yX12_get cX12_get 3 (some .int), Cond.methodLink RX12 90 yX12_tooMuchBy, Cond.instanceMethod yX12_tooMuchBy, Cond.selects RX12 yX12_tooMuchBy yX12_tooMuchBy, Cond.code yX12_tooMuchBy cX12_tooMuchBy 6 (some .int), Cond.methodLink RX12 78 yX12_beside, Cond.instanceMethod yX12_beside, Cond.selects RX12 yX12_beside yX12_beside]
def wsX12_held_r2 : List Cond := [Cond.code yX12_beside cX12_beside 5 (some .int), Cond.methodLink RX12 81 yX12_isLookedAt, Cond.instanceMethod yX12_isLookedAt, Cond.selects RX12 yX12_isLookedAt yX12_isLookedAt, Cond.code yX12_isLookedAt cX12_isLookedAt 2 (some .boolean), Cond.methodLink RX12 72 yX12_kind, Cond.instanceMethod yX12_kind, Cond.selects RX12 yX12_kind yX12_kind, Cond.code yX12_kind cX12_kind 2 (some .int), Cond.methodLink RX12 84 yX12_shows, Cond.instanceMethod yX12_shows, Cond.selects RX12 yX12_shows yX12_shows, Cond.code yX12_shows cX12_shows 3 (some .int), Cond.methodLink RX12 75 yX12_figure, Cond.instanceMethod yX12_figure, Cond.selects RX12 yX12_figure yX12_figure, Cond.code yX12_figure cX12_figure 2 (some .int), Cond.methodLink RX12 87 yX12_mayHave, Cond.instanceMethod yX12_mayHave, Cond.selects RX12 yX12_mayHave yX12_mayHave, Cond.code yX12_mayHave cX12_mayHave 4 (some .int)]
def wsX12_held : List Cond := .code yX12_held cX12_held 2 (some .int) :: ((wsX12_held_r1 ++ wsX12_held_r2) ++ wsX120)
def wsX12_free_r1 : List Cond := [Cond.fieldLink RX12 9 "TwiceAsRichModel" "s" "[I", Cond.methodLink RX12 68 yX12_purse, Cond.instanceMethod yX12_purse, Cond.selects RX12 yX12_purse yX12_purse, Cond.initialized RX12, Cond.code yX12_purse cX12_purse 2 (some .int), Cond.methodLink RX12 64 yX12_get, Cond.instanceMethod yX12_get, Cond.selects RX12 yX12_get yX12_get, Cond.code yX12_get cX12_get 3 (some .int), Cond.methodLink RX12 90 yX12_tooMuchBy, Cond.instanceMethod yX12_tooMuchBy, Cond.selects RX12 yX12_tooMuchBy yX12_tooMuchBy, Cond.code yX12_tooMuchBy cX12_tooMuchBy 6 (some .int), Cond.methodLink RX12 78 yX12_beside, Cond.instanceMethod yX12_beside, Cond.selects RX12 yX12_beside yX12_beside, Cond.code yX12_beside cX12_beside 5 (some .int), Cond.methodLink RX12 56 yX12_isHouse, Cond.instanceMethod yX12_isHouse, Cond.selects RX12 yX12_isHouse yX12_isHouse, Cond.code yX12_isHouse cX12_isHouse 2 (some .boolean), Cond.methodLink RX12 52 yX12_isIn, Cond.static yX12_isIn]
def wsX12_free_r2 : List Cond := [Cond.code yX12_isIn cX12_isIn 6 (some .boolean), Cond.methodLink RX12 81 yX12_isLookedAt, Cond.instanceMethod yX12_isLookedAt, Cond.selects RX12 yX12_isLookedAt yX12_isLookedAt, Cond.code yX12_isLookedAt cX12_isLookedAt 2 (some .boolean), Cond.methodLink RX12 72 yX12_kind, Cond.instanceMethod yX12_kind, Cond.selects RX12 yX12_kind yX12_kind, Cond.code yX12_kind cX12_kind 2 (some .int), Cond.methodLink RX12 84 yX12_shows, Cond.instanceMethod yX12_shows, Cond.selects RX12 yX12_shows yX12_shows, Cond.code yX12_shows cX12_shows 3 (some .int), Cond.methodLink RX12 75 yX12_figure, Cond.instanceMethod yX12_figure, Cond.selects RX12 yX12_figure yX12_figure, Cond.code yX12_figure cX12_figure 2 (some .int), Cond.methodLink RX12 87 yX12_mayHave, Cond.instanceMethod yX12_mayHave, Cond.selects RX12 yX12_mayHave yX12_mayHave, Cond.code yX12_mayHave cX12_mayHave 4 (some .int)]
def wsX12_free : List Cond := .code yX12_free cX12_free 3 (some .int) :: ((wsX12_free_r1 ++ wsX12_free_r2) ++ wsX120)
def wsX12_partsAre_r1 : List Cond := [Cond.fieldLink RX12 186 "TwiceAsRichModel" "ways" "I", Cond.fieldLink RX12 9 "TwiceAsRichModel" "s" "[I", Cond.fieldLink RX12 43 "TwiceAsRichModel" "was" "[I", Cond.fieldLink RX12 189 "TwiceAsRichModel" "uneven" "I", Cond.fieldLink RX12 192 "TwiceAsRichModel" "most" "I", Cond.fieldLink RX12 195 "TwiceAsRichModel" "fewestHands" "I", Cond.fieldLink RX12 198 "TwiceAsRichModel" "fewestAny" "I", Cond.methodLink RX12 183 yX12_isLawful, Cond.instanceMethod yX12_isLawful, Cond.selects RX12 yX12_isLawful yX12_isLawful, Cond.initialized RX12, Cond.code yX12_isLawful cX12_isLawful 1 (some .boolean), Cond.methodLink RX12 99 yX12_breachesAll, Cond.instanceMethod yX12_breachesAll, Cond.selects RX12 yX12_breachesAll yX12_breachesAll, Cond.code yX12_breachesAll cX12_breachesAll 3 (some .int), Cond.methodLink RX12 96 yX12_breachesOf, Cond.instanceMethod yX12_breachesOf, Cond.selects RX12 yX12_breachesOf yX12_breachesOf, Cond.code yX12_breachesOf cX12_breachesOf 2 (some .int), Cond.methodLink RX12 68 yX12_purse, Cond.instanceMethod yX12_purse, Cond.selects RX12 yX12_purse yX12_purse, Cond.code yX12_purse cX12_purse 2 (some .int)]
def wsX12_partsAre_r2 : List Cond := [Cond.methodLink RX12 64 yX12_get, Cond.instanceMethod yX12_get, Cond.selects RX12 yX12_get yX12_get, Cond.code yX12_get cX12_get 3 (some .int), Cond.methodLink RX12 90 yX12_tooMuchBy, Cond.instanceMethod yX12_tooMuchBy, Cond.selects RX12 yX12_tooMuchBy yX12_tooMuchBy, Cond.code yX12_tooMuchBy cX12_tooMuchBy 6 (some .int), Cond.methodLink RX12 78 yX12_beside, Cond.instanceMethod yX12_beside, Cond.selects RX12 yX12_beside yX12_beside, Cond.code yX12_beside cX12_beside 5 (some .int), Cond.methodLink RX12 56 yX12_isHouse, Cond.instanceMethod yX12_isHouse, Cond.selects RX12 yX12_isHouse yX12_isHouse, Cond.code yX12_isHouse cX12_isHouse 2 (some .boolean), Cond.methodLink RX12 52 yX12_isIn, Cond.static yX12_isIn, Cond.code yX12_isIn cX12_isIn 6 (some .boolean), Cond.methodLink RX12 81 yX12_isLookedAt, Cond.instanceMethod yX12_isLookedAt, Cond.selects RX12 yX12_isLookedAt yX12_isLookedAt, Cond.code yX12_isLookedAt cX12_isLookedAt 2 (some .boolean), Cond.methodLink RX12 72 yX12_kind]
def wsX12_partsAre_r3 : List Cond := [Cond.instanceMethod yX12_kind, Cond.selects RX12 yX12_kind yX12_kind, Cond.code yX12_kind cX12_kind 2 (some .int), Cond.methodLink RX12 84 yX12_shows, Cond.instanceMethod yX12_shows, Cond.selects RX12 yX12_shows yX12_shows, Cond.code yX12_shows cX12_shows 3 (some .int), Cond.methodLink RX12 75 yX12_figure, Cond.instanceMethod yX12_figure, Cond.selects RX12 yX12_figure yX12_figure, Cond.code yX12_figure cX12_figure 2 (some .int), Cond.methodLink RX12 87 yX12_mayHave, Cond.instanceMethod yX12_mayHave, Cond.selects RX12 yX12_mayHave yX12_mayHave, Cond.code yX12_mayHave cX12_mayHave 4 (some .int), Cond.methodLink RX12 93 yX12_bits, Cond.static yX12_bits, Cond.code yX12_bits cX12_bits 3 (some .int)]
def wsX12_partsAre : List Cond := .code yX12_partsAre cX12_partsAre 9 none :: ((wsX12_partsAre_r1 ++ (wsX12_partsAre_r2 ++ wsX12_partsAre_r3)) ++ wsX120)
def wsX12_parts_r1 : List Cond := [Cond.fieldLink RX12 9 "TwiceAsRichModel" "s" "[I", Cond.methodLink RX12 201 yX12_partsAre, Cond.instanceMethod yX12_partsAre, Cond.selects RX12 yX12_partsAre yX12_partsAre, Cond.initialized RX12, Cond.code yX12_partsAre cX12_partsAre 9 none, Cond.fieldLink RX12 186 "TwiceAsRichModel" "ways" "I", Cond.fieldLink RX12 43 "TwiceAsRichModel" "was" "[I", Cond.fieldLink RX12 189 "TwiceAsRichModel" "uneven" "I", Cond.fieldLink RX12 192 "TwiceAsRichModel" "most" "I", Cond.fieldLink RX12 195 "TwiceAsRichModel" "fewestHands" "I", Cond.fieldLink RX12 198 "TwiceAsRichModel" "fewestAny" "I", Cond.methodLink RX12 183 yX12_isLawful, Cond.instanceMethod yX12_isLawful, Cond.selects RX12 yX12_isLawful yX12_isLawful, Cond.code yX12_isLawful cX12_isLawful 1 (some .boolean), Cond.methodLink RX12 99 yX12_breachesAll, Cond.instanceMethod yX12_breachesAll, Cond.selects RX12 yX12_breachesAll yX12_breachesAll, Cond.code yX12_breachesAll cX12_breachesAll 3 (some .int), Cond.methodLink RX12 96 yX12_breachesOf, Cond.instanceMethod yX12_breachesOf, Cond.selects RX12 yX12_breachesOf yX12_breachesOf, Cond.code yX12_breachesOf cX12_breachesOf 2 (some .int)]
def wsX12_parts_r2 : List Cond := [Cond.methodLink RX12 68 yX12_purse, Cond.instanceMethod yX12_purse, Cond.selects RX12 yX12_purse yX12_purse, Cond.code yX12_purse cX12_purse 2 (some .int), Cond.methodLink RX12 64 yX12_get, Cond.instanceMethod yX12_get, Cond.selects RX12 yX12_get yX12_get, Cond.code yX12_get cX12_get 3 (some .int), Cond.methodLink RX12 90 yX12_tooMuchBy, Cond.instanceMethod yX12_tooMuchBy, Cond.selects RX12 yX12_tooMuchBy yX12_tooMuchBy, Cond.code yX12_tooMuchBy cX12_tooMuchBy 6 (some .int), Cond.methodLink RX12 78 yX12_beside, Cond.instanceMethod yX12_beside, Cond.selects RX12 yX12_beside yX12_beside, Cond.code yX12_beside cX12_beside 5 (some .int), Cond.methodLink RX12 56 yX12_isHouse, Cond.instanceMethod yX12_isHouse, Cond.selects RX12 yX12_isHouse yX12_isHouse, Cond.code yX12_isHouse cX12_isHouse 2 (some .boolean), Cond.methodLink RX12 52 yX12_isIn, Cond.static yX12_isIn, Cond.code yX12_isIn cX12_isIn 6 (some .boolean), Cond.methodLink RX12 81 yX12_isLookedAt]
def wsX12_parts_r3 : List Cond := [Cond.instanceMethod yX12_isLookedAt, Cond.selects RX12 yX12_isLookedAt yX12_isLookedAt, Cond.code yX12_isLookedAt cX12_isLookedAt 2 (some .boolean), Cond.methodLink RX12 72 yX12_kind, Cond.instanceMethod yX12_kind, Cond.selects RX12 yX12_kind yX12_kind, Cond.code yX12_kind cX12_kind 2 (some .int), Cond.methodLink RX12 84 yX12_shows, Cond.instanceMethod yX12_shows, Cond.selects RX12 yX12_shows yX12_shows, Cond.code yX12_shows cX12_shows 3 (some .int), Cond.methodLink RX12 75 yX12_figure, Cond.instanceMethod yX12_figure, Cond.selects RX12 yX12_figure yX12_figure, Cond.code yX12_figure cX12_figure 2 (some .int), Cond.methodLink RX12 87 yX12_mayHave, Cond.instanceMethod yX12_mayHave, Cond.selects RX12 yX12_mayHave yX12_mayHave, Cond.code yX12_mayHave cX12_mayHave 4 (some .int), Cond.methodLink RX12 93 yX12_bits, Cond.static yX12_bits, Cond.code yX12_bits cX12_bits 3 (some .int), Cond.methodLink RX12 125 yX12_puts, Cond.instanceMethod yX12_puts]
def wsX12_parts_r4 : List Cond := [Cond.selects RX12 yX12_puts yX12_puts, Cond.code yX12_puts cX12_puts 4 none, Cond.methodLink RX12 205 yX12_parts, Cond.instanceMethod yX12_parts, Cond.selects RX12 yX12_parts yX12_parts]
def wsX12_parts : List Cond := .code yX12_parts cX12_parts 7 none :: ((wsX12_parts_r1 ++ (wsX12_parts_r2 ++ (wsX12_parts_r3 ++ wsX12_parts_r4))) ++ wsX120)
def wsX12_partsAll_r1 : List Cond := [Cond.fieldLink RX12 186 "TwiceAsRichModel" "ways" "I", Cond.fieldLink RX12 189 "TwiceAsRichModel" "uneven" "I", Cond.fieldLink RX12 192 "TwiceAsRichModel" "most" "I", Cond.fieldLink RX12 195 "TwiceAsRichModel" "fewestHands" "I", Cond.fieldLink RX12 198 "TwiceAsRichModel" "fewestAny" "I", Cond.fieldLink RX12 9 "TwiceAsRichModel" "s" "[I", Cond.fieldLink RX12 43 "TwiceAsRichModel" "was" "[I", Cond.methodLink RX12 68 yX12_purse, Cond.instanceMethod yX12_purse, Cond.selects RX12 yX12_purse yX12_purse, Cond.initialized RX12, Cond.code yX12_purse cX12_purse 2 (some .int), Cond.methodLink RX12 64 yX12_get, Cond.instanceMethod yX12_get, Cond.selects RX12 yX12_get yX12_get, Cond.code yX12_get cX12_get 3 (some .int), Cond.methodLink RX12 208 yX12_begins, Cond.instanceMethod yX12_begins, Cond.selects RX12 yX12_begins yX12_begins, Cond.code yX12_begins cX12_begins 1 none, Cond.fieldLink RX12 19 "TwiceAsRichModel" "mind" "[I", Cond.methodLink RX12 60 yX12_lays, Cond.static yX12_lays, Cond.code yX12_lays cX12_lays 3 none]
def wsX12_partsAll_r2 : List Cond := [Cond.methodLink RX12 205 yX12_parts, Cond.instanceMethod yX12_parts, Cond.selects RX12 yX12_parts yX12_parts, Cond.code yX12_parts cX12_parts 7 none, Cond.methodLink RX12 201 yX12_partsAre, Cond.instanceMethod yX12_partsAre, Cond.selects RX12 yX12_partsAre yX12_partsAre, Cond.code yX12_partsAre cX12_partsAre 9 none, Cond.methodLink RX12 183 yX12_isLawful, Cond.instanceMethod yX12_isLawful, Cond.selects RX12 yX12_isLawful yX12_isLawful, Cond.code yX12_isLawful cX12_isLawful 1 (some .boolean), Cond.methodLink RX12 99 yX12_breachesAll, Cond.instanceMethod yX12_breachesAll, Cond.selects RX12 yX12_breachesAll yX12_breachesAll, Cond.code yX12_breachesAll cX12_breachesAll 3 (some .int), Cond.methodLink RX12 96 yX12_breachesOf, Cond.instanceMethod yX12_breachesOf, Cond.selects RX12 yX12_breachesOf yX12_breachesOf, Cond.code yX12_breachesOf cX12_breachesOf 2 (some .int), Cond.methodLink RX12 90 yX12_tooMuchBy, Cond.instanceMethod yX12_tooMuchBy, Cond.selects RX12 yX12_tooMuchBy yX12_tooMuchBy, Cond.code yX12_tooMuchBy cX12_tooMuchBy 6 (some .int)]
def wsX12_partsAll_r3 : List Cond := [Cond.methodLink RX12 78 yX12_beside, Cond.instanceMethod yX12_beside, Cond.selects RX12 yX12_beside yX12_beside, Cond.code yX12_beside cX12_beside 5 (some .int), Cond.methodLink RX12 56 yX12_isHouse, Cond.instanceMethod yX12_isHouse, Cond.selects RX12 yX12_isHouse yX12_isHouse, Cond.code yX12_isHouse cX12_isHouse 2 (some .boolean), Cond.methodLink RX12 52 yX12_isIn, Cond.static yX12_isIn, Cond.code yX12_isIn cX12_isIn 6 (some .boolean), Cond.methodLink RX12 81 yX12_isLookedAt, Cond.instanceMethod yX12_isLookedAt, Cond.selects RX12 yX12_isLookedAt yX12_isLookedAt, Cond.code yX12_isLookedAt cX12_isLookedAt 2 (some .boolean), Cond.methodLink RX12 72 yX12_kind, Cond.instanceMethod yX12_kind, Cond.selects RX12 yX12_kind yX12_kind, Cond.code yX12_kind cX12_kind 2 (some .int), Cond.methodLink RX12 84 yX12_shows, Cond.instanceMethod yX12_shows, Cond.selects RX12 yX12_shows yX12_shows, Cond.code yX12_shows cX12_shows 3 (some .int), Cond.methodLink RX12 75 yX12_figure]
def wsX12_partsAll_r4 : List Cond := [Cond.instanceMethod yX12_figure, Cond.selects RX12 yX12_figure yX12_figure, Cond.code yX12_figure cX12_figure 2 (some .int), Cond.methodLink RX12 87 yX12_mayHave, Cond.instanceMethod yX12_mayHave, Cond.selects RX12 yX12_mayHave yX12_mayHave, Cond.code yX12_mayHave cX12_mayHave 4 (some .int), Cond.methodLink RX12 93 yX12_bits, Cond.static yX12_bits, Cond.code yX12_bits cX12_bits 3 (some .int), Cond.methodLink RX12 125 yX12_puts, Cond.instanceMethod yX12_puts, Cond.selects RX12 yX12_puts yX12_puts, Cond.code yX12_puts cX12_puts 4 none, Cond.methodLink RX12 211 yX12_ends, Cond.instanceMethod yX12_ends, Cond.selects RX12 yX12_ends yX12_ends, Cond.code yX12_ends cX12_ends 1 none]
def wsX12_partsAll : List Cond := .code yX12_partsAll cX12_partsAll 4 none :: ((wsX12_partsAll_r1 ++ (wsX12_partsAll_r2 ++ (wsX12_partsAll_r3 ++ wsX12_partsAll_r4))) ++ wsX120)
def wsX12_wrongParting : List Cond := .code yX12_wrongParting cX12_wrongParting 2 (some .int) :: ([.constantLong RX12 214 (20), .fieldLink RX12 9 "TwiceAsRichModel" "s" "[I", .methodLink RX12 52 yX12_isIn, .static yX12_isIn, .initialized RX12, .code yX12_isIn cX12_isIn 6 (some .boolean)] ++ wsX120)
def wsX12_partings_r1 : List Cond := [Cond.fieldLink RX12 186 "TwiceAsRichModel" "ways" "I", Cond.methodLink RX12 216 yX12_wrongParting, Cond.instanceMethod yX12_wrongParting, Cond.selects RX12 yX12_wrongParting yX12_wrongParting, Cond.initialized RX12, Cond.code yX12_wrongParting cX12_wrongParting 2 (some .int), Cond.constantLong RX12 214 (20), Cond.fieldLink RX12 9 "TwiceAsRichModel" "s" "[I", Cond.methodLink RX12 52 yX12_isIn, Cond.static yX12_isIn, Cond.code yX12_isIn cX12_isIn 6 (some .boolean), Cond.methodLink RX12 219 yX12_partsAll, Cond.instanceMethod yX12_partsAll, Cond.selects RX12 yX12_partsAll yX12_partsAll, Cond.code yX12_partsAll cX12_partsAll 4 none, Cond.fieldLink RX12 189 "TwiceAsRichModel" "uneven" "I", Cond.fieldLink RX12 192 "TwiceAsRichModel" "most" "I", Cond.fieldLink RX12 195 "TwiceAsRichModel" "fewestHands" "I", Cond.fieldLink RX12 198 "TwiceAsRichModel" "fewestAny" "I", Cond.fieldLink RX12 43 "TwiceAsRichModel" "was" "[I", Cond.methodLink RX12 68 yX12_purse, Cond.instanceMethod yX12_purse, Cond.selects RX12 yX12_purse yX12_purse, Cond.code yX12_purse cX12_purse 2 (some .int)]
def wsX12_partings_r2 : List Cond := [Cond.methodLink RX12 64 yX12_get, Cond.instanceMethod yX12_get, Cond.selects RX12 yX12_get yX12_get, Cond.code yX12_get cX12_get 3 (some .int), Cond.methodLink RX12 208 yX12_begins, Cond.instanceMethod yX12_begins, Cond.selects RX12 yX12_begins yX12_begins, Cond.code yX12_begins cX12_begins 1 none, Cond.fieldLink RX12 19 "TwiceAsRichModel" "mind" "[I", Cond.methodLink RX12 60 yX12_lays, Cond.static yX12_lays, Cond.code yX12_lays cX12_lays 3 none, Cond.methodLink RX12 205 yX12_parts, Cond.instanceMethod yX12_parts, Cond.selects RX12 yX12_parts yX12_parts, Cond.code yX12_parts cX12_parts 7 none, Cond.methodLink RX12 201 yX12_partsAre, Cond.instanceMethod yX12_partsAre, Cond.selects RX12 yX12_partsAre yX12_partsAre, Cond.code yX12_partsAre cX12_partsAre 9 none, Cond.methodLink RX12 183 yX12_isLawful, Cond.instanceMethod yX12_isLawful, Cond.selects RX12 yX12_isLawful yX12_isLawful, Cond.code yX12_isLawful cX12_isLawful 1 (some .boolean)]
def wsX12_partings_r3 : List Cond := [Cond.methodLink RX12 99 yX12_breachesAll, Cond.instanceMethod yX12_breachesAll, Cond.selects RX12 yX12_breachesAll yX12_breachesAll, Cond.code yX12_breachesAll cX12_breachesAll 3 (some .int), Cond.methodLink RX12 96 yX12_breachesOf, Cond.instanceMethod yX12_breachesOf, Cond.selects RX12 yX12_breachesOf yX12_breachesOf, Cond.code yX12_breachesOf cX12_breachesOf 2 (some .int), Cond.methodLink RX12 90 yX12_tooMuchBy, Cond.instanceMethod yX12_tooMuchBy, Cond.selects RX12 yX12_tooMuchBy yX12_tooMuchBy, Cond.code yX12_tooMuchBy cX12_tooMuchBy 6 (some .int), Cond.methodLink RX12 78 yX12_beside, Cond.instanceMethod yX12_beside, Cond.selects RX12 yX12_beside yX12_beside, Cond.code yX12_beside cX12_beside 5 (some .int), Cond.methodLink RX12 56 yX12_isHouse, Cond.instanceMethod yX12_isHouse, Cond.selects RX12 yX12_isHouse yX12_isHouse, Cond.code yX12_isHouse cX12_isHouse 2 (some .boolean), Cond.methodLink RX12 81 yX12_isLookedAt, Cond.instanceMethod yX12_isLookedAt, Cond.selects RX12 yX12_isLookedAt yX12_isLookedAt, Cond.code yX12_isLookedAt cX12_isLookedAt 2 (some .boolean)]
def wsX12_partings_r4 : List Cond := [Cond.methodLink RX12 72 yX12_kind, Cond.instanceMethod yX12_kind, Cond.selects RX12 yX12_kind yX12_kind, Cond.code yX12_kind cX12_kind 2 (some .int), Cond.methodLink RX12 84 yX12_shows, Cond.instanceMethod yX12_shows, Cond.selects RX12 yX12_shows yX12_shows, Cond.code yX12_shows cX12_shows 3 (some .int), Cond.methodLink RX12 75 yX12_figure, Cond.instanceMethod yX12_figure, Cond.selects RX12 yX12_figure yX12_figure, Cond.code yX12_figure cX12_figure 2 (some .int), Cond.methodLink RX12 87 yX12_mayHave, Cond.instanceMethod yX12_mayHave, Cond.selects RX12 yX12_mayHave yX12_mayHave, Cond.code yX12_mayHave cX12_mayHave 4 (some .int), Cond.methodLink RX12 93 yX12_bits, Cond.static yX12_bits, Cond.code yX12_bits cX12_bits 3 (some .int), Cond.methodLink RX12 125 yX12_puts, Cond.instanceMethod yX12_puts, Cond.selects RX12 yX12_puts yX12_puts, Cond.code yX12_puts cX12_puts 4 none, Cond.methodLink RX12 211 yX12_ends]
def wsX12_partings_r5 : List Cond := [Cond.instanceMethod yX12_ends, Cond.selects RX12 yX12_ends yX12_ends, Cond.code yX12_ends cX12_ends 1 none]
def wsX12_partings : List Cond := .code yX12_partings cX12_partings 3 (some .int) :: ((wsX12_partings_r1 ++ (wsX12_partings_r2 ++ (wsX12_partings_r3 ++ (wsX12_partings_r4 ++ wsX12_partings_r5)))) ++ wsX120)
def wsX12_uneven_r1 : List Cond := [Cond.fieldLink RX12 189 "TwiceAsRichModel" "uneven" "I", Cond.methodLink RX12 216 yX12_wrongParting, Cond.instanceMethod yX12_wrongParting, Cond.selects RX12 yX12_wrongParting yX12_wrongParting, Cond.initialized RX12, Cond.code yX12_wrongParting cX12_wrongParting 2 (some .int), Cond.constantLong RX12 214 (20), Cond.fieldLink RX12 9 "TwiceAsRichModel" "s" "[I", Cond.methodLink RX12 52 yX12_isIn, Cond.static yX12_isIn, Cond.code yX12_isIn cX12_isIn 6 (some .boolean), Cond.methodLink RX12 219 yX12_partsAll, Cond.instanceMethod yX12_partsAll, Cond.selects RX12 yX12_partsAll yX12_partsAll, Cond.code yX12_partsAll cX12_partsAll 4 none, Cond.fieldLink RX12 186 "TwiceAsRichModel" "ways" "I", Cond.fieldLink RX12 192 "TwiceAsRichModel" "most" "I", Cond.fieldLink RX12 195 "TwiceAsRichModel" "fewestHands" "I", Cond.fieldLink RX12 198 "TwiceAsRichModel" "fewestAny" "I", Cond.fieldLink RX12 43 "TwiceAsRichModel" "was" "[I", Cond.methodLink RX12 68 yX12_purse, Cond.instanceMethod yX12_purse, Cond.selects RX12 yX12_purse yX12_purse, Cond.code yX12_purse cX12_purse 2 (some .int)]
def wsX12_uneven_r2 : List Cond := [Cond.methodLink RX12 64 yX12_get, Cond.instanceMethod yX12_get, Cond.selects RX12 yX12_get yX12_get, Cond.code yX12_get cX12_get 3 (some .int), Cond.methodLink RX12 208 yX12_begins, Cond.instanceMethod yX12_begins, Cond.selects RX12 yX12_begins yX12_begins, Cond.code yX12_begins cX12_begins 1 none, Cond.fieldLink RX12 19 "TwiceAsRichModel" "mind" "[I", Cond.methodLink RX12 60 yX12_lays, Cond.static yX12_lays, Cond.code yX12_lays cX12_lays 3 none, Cond.methodLink RX12 205 yX12_parts, Cond.instanceMethod yX12_parts, Cond.selects RX12 yX12_parts yX12_parts, Cond.code yX12_parts cX12_parts 7 none, Cond.methodLink RX12 201 yX12_partsAre, Cond.instanceMethod yX12_partsAre, Cond.selects RX12 yX12_partsAre yX12_partsAre, Cond.code yX12_partsAre cX12_partsAre 9 none, Cond.methodLink RX12 183 yX12_isLawful, Cond.instanceMethod yX12_isLawful, Cond.selects RX12 yX12_isLawful yX12_isLawful, Cond.code yX12_isLawful cX12_isLawful 1 (some .boolean)]
def wsX12_uneven_r3 : List Cond := [Cond.methodLink RX12 99 yX12_breachesAll, Cond.instanceMethod yX12_breachesAll, Cond.selects RX12 yX12_breachesAll yX12_breachesAll, Cond.code yX12_breachesAll cX12_breachesAll 3 (some .int), Cond.methodLink RX12 96 yX12_breachesOf, Cond.instanceMethod yX12_breachesOf, Cond.selects RX12 yX12_breachesOf yX12_breachesOf, Cond.code yX12_breachesOf cX12_breachesOf 2 (some .int), Cond.methodLink RX12 90 yX12_tooMuchBy, Cond.instanceMethod yX12_tooMuchBy, Cond.selects RX12 yX12_tooMuchBy yX12_tooMuchBy, Cond.code yX12_tooMuchBy cX12_tooMuchBy 6 (some .int), Cond.methodLink RX12 78 yX12_beside, Cond.instanceMethod yX12_beside, Cond.selects RX12 yX12_beside yX12_beside, Cond.code yX12_beside cX12_beside 5 (some .int), Cond.methodLink RX12 56 yX12_isHouse, Cond.instanceMethod yX12_isHouse, Cond.selects RX12 yX12_isHouse yX12_isHouse, Cond.code yX12_isHouse cX12_isHouse 2 (some .boolean), Cond.methodLink RX12 81 yX12_isLookedAt, Cond.instanceMethod yX12_isLookedAt, Cond.selects RX12 yX12_isLookedAt yX12_isLookedAt, Cond.code yX12_isLookedAt cX12_isLookedAt 2 (some .boolean)]
def wsX12_uneven_r4 : List Cond := [Cond.methodLink RX12 72 yX12_kind, Cond.instanceMethod yX12_kind, Cond.selects RX12 yX12_kind yX12_kind, Cond.code yX12_kind cX12_kind 2 (some .int), Cond.methodLink RX12 84 yX12_shows, Cond.instanceMethod yX12_shows, Cond.selects RX12 yX12_shows yX12_shows, Cond.code yX12_shows cX12_shows 3 (some .int), Cond.methodLink RX12 75 yX12_figure, Cond.instanceMethod yX12_figure, Cond.selects RX12 yX12_figure yX12_figure, Cond.code yX12_figure cX12_figure 2 (some .int), Cond.methodLink RX12 87 yX12_mayHave, Cond.instanceMethod yX12_mayHave, Cond.selects RX12 yX12_mayHave yX12_mayHave, Cond.code yX12_mayHave cX12_mayHave 4 (some .int), Cond.methodLink RX12 93 yX12_bits, Cond.static yX12_bits, Cond.code yX12_bits cX12_bits 3 (some .int), Cond.methodLink RX12 125 yX12_puts, Cond.instanceMethod yX12_puts, Cond.selects RX12 yX12_puts yX12_puts, Cond.code yX12_puts cX12_puts 4 none, Cond.methodLink RX12 211 yX12_ends]
def wsX12_uneven_r5 : List Cond := [Cond.instanceMethod yX12_ends, Cond.selects RX12 yX12_ends yX12_ends, Cond.code yX12_ends cX12_ends 1 none]
def wsX12_uneven : List Cond := .code yX12_uneven cX12_uneven 3 (some .int) :: ((wsX12_uneven_r1 ++ (wsX12_uneven_r2 ++ (wsX12_uneven_r3 ++ (wsX12_uneven_r4 ++ wsX12_uneven_r5)))) ++ wsX120)
def wsX12_richest_r1 : List Cond := [Cond.fieldLink RX12 192 "TwiceAsRichModel" "most" "I", Cond.methodLink RX12 56 yX12_isHouse, Cond.instanceMethod yX12_isHouse, Cond.selects RX12 yX12_isHouse yX12_isHouse, Cond.initialized RX12, Cond.code yX12_isHouse cX12_isHouse 2 (some .boolean), Cond.fieldLink RX12 9 "TwiceAsRichModel" "s" "[I", Cond.methodLink RX12 52 yX12_isIn, Cond.static yX12_isIn, Cond.code yX12_isIn cX12_isIn 6 (some .boolean), Cond.methodLink RX12 216 yX12_wrongParting, Cond.instanceMethod yX12_wrongParting, Cond.selects RX12 yX12_wrongParting yX12_wrongParting, Cond.code yX12_wrongParting cX12_wrongParting 2 (some .int), Cond.constantLong RX12 214 (20), Cond.methodLink RX12 219 yX12_partsAll, Cond.instanceMethod yX12_partsAll, Cond.selects RX12 yX12_partsAll yX12_partsAll, Cond.code yX12_partsAll cX12_partsAll 4 none, Cond.fieldLink RX12 186 "TwiceAsRichModel" "ways" "I", Cond.fieldLink RX12 189 "TwiceAsRichModel" "uneven" "I", Cond.fieldLink RX12 195 "TwiceAsRichModel" "fewestHands" "I", Cond.fieldLink RX12 198 "TwiceAsRichModel" "fewestAny" "I", Cond.fieldLink RX12 43 "TwiceAsRichModel" "was" "[I"]
def wsX12_richest_r2 : List Cond := [Cond.methodLink RX12 68 yX12_purse, Cond.instanceMethod yX12_purse, Cond.selects RX12 yX12_purse yX12_purse, Cond.code yX12_purse cX12_purse 2 (some .int), Cond.methodLink RX12 64 yX12_get, Cond.instanceMethod yX12_get, Cond.selects RX12 yX12_get yX12_get, Cond.code yX12_get cX12_get 3 (some .int), Cond.methodLink RX12 208 yX12_begins, Cond.instanceMethod yX12_begins, Cond.selects RX12 yX12_begins yX12_begins, Cond.code yX12_begins cX12_begins 1 none, Cond.fieldLink RX12 19 "TwiceAsRichModel" "mind" "[I", Cond.methodLink RX12 60 yX12_lays, Cond.static yX12_lays, Cond.code yX12_lays cX12_lays 3 none, Cond.methodLink RX12 205 yX12_parts, Cond.instanceMethod yX12_parts, Cond.selects RX12 yX12_parts yX12_parts, Cond.code yX12_parts cX12_parts 7 none, Cond.methodLink RX12 201 yX12_partsAre, Cond.instanceMethod yX12_partsAre, Cond.selects RX12 yX12_partsAre yX12_partsAre, Cond.code yX12_partsAre cX12_partsAre 9 none]
def wsX12_richest_r3 : List Cond := [Cond.methodLink RX12 183 yX12_isLawful, Cond.instanceMethod yX12_isLawful, Cond.selects RX12 yX12_isLawful yX12_isLawful, Cond.code yX12_isLawful cX12_isLawful 1 (some .boolean), Cond.methodLink RX12 99 yX12_breachesAll, Cond.instanceMethod yX12_breachesAll, Cond.selects RX12 yX12_breachesAll yX12_breachesAll, Cond.code yX12_breachesAll cX12_breachesAll 3 (some .int), Cond.methodLink RX12 96 yX12_breachesOf, Cond.instanceMethod yX12_breachesOf, Cond.selects RX12 yX12_breachesOf yX12_breachesOf, Cond.code yX12_breachesOf cX12_breachesOf 2 (some .int), Cond.methodLink RX12 90 yX12_tooMuchBy, Cond.instanceMethod yX12_tooMuchBy, Cond.selects RX12 yX12_tooMuchBy yX12_tooMuchBy, Cond.code yX12_tooMuchBy cX12_tooMuchBy 6 (some .int), Cond.methodLink RX12 78 yX12_beside, Cond.instanceMethod yX12_beside, Cond.selects RX12 yX12_beside yX12_beside, Cond.code yX12_beside cX12_beside 5 (some .int), Cond.methodLink RX12 81 yX12_isLookedAt, Cond.instanceMethod yX12_isLookedAt, Cond.selects RX12 yX12_isLookedAt yX12_isLookedAt, Cond.code yX12_isLookedAt cX12_isLookedAt 2 (some .boolean)]
def wsX12_richest_r4 : List Cond := [Cond.methodLink RX12 72 yX12_kind, Cond.instanceMethod yX12_kind, Cond.selects RX12 yX12_kind yX12_kind, Cond.code yX12_kind cX12_kind 2 (some .int), Cond.methodLink RX12 84 yX12_shows, Cond.instanceMethod yX12_shows, Cond.selects RX12 yX12_shows yX12_shows, Cond.code yX12_shows cX12_shows 3 (some .int), Cond.methodLink RX12 75 yX12_figure, Cond.instanceMethod yX12_figure, Cond.selects RX12 yX12_figure yX12_figure, Cond.code yX12_figure cX12_figure 2 (some .int), Cond.methodLink RX12 87 yX12_mayHave, Cond.instanceMethod yX12_mayHave, Cond.selects RX12 yX12_mayHave yX12_mayHave, Cond.code yX12_mayHave cX12_mayHave 4 (some .int), Cond.methodLink RX12 93 yX12_bits, Cond.static yX12_bits, Cond.code yX12_bits cX12_bits 3 (some .int), Cond.methodLink RX12 125 yX12_puts, Cond.instanceMethod yX12_puts, Cond.selects RX12 yX12_puts yX12_puts, Cond.code yX12_puts cX12_puts 4 none, Cond.methodLink RX12 211 yX12_ends]
def wsX12_richest_r5 : List Cond := [Cond.instanceMethod yX12_ends, Cond.selects RX12 yX12_ends yX12_ends, Cond.code yX12_ends cX12_ends 1 none]
def wsX12_richest : List Cond := .code yX12_richest cX12_richest 4 (some .int) :: ((wsX12_richest_r1 ++ (wsX12_richest_r2 ++ (wsX12_richest_r3 ++ (wsX12_richest_r4 ++ wsX12_richest_r5)))) ++ wsX120)
def wsX12_tooMany : List Cond := .code yX12_tooMany cX12_tooMany 1 (some .boolean) :: ([.fieldLink RX12 9 "TwiceAsRichModel" "s" "[I", .methodLink RX12 180 yX12_coins, .instanceMethod yX12_coins, .selects RX12 yX12_coins yX12_coins, .initialized RX12, .code yX12_coins cX12_coins 3 (some .int), .methodLink RX12 68 yX12_purse, .instanceMethod yX12_purse, .selects RX12 yX12_purse yX12_purse, .code yX12_purse cX12_purse 2 (some .int), .methodLink RX12 64 yX12_get, .instanceMethod yX12_get, .selects RX12 yX12_get yX12_get, .code yX12_get cX12_get 3 (some .int)] ++ wsX120)
def wsX12_hands_r1 : List Cond := [Cond.fieldLink RX12 195 "TwiceAsRichModel" "fewestHands" "I", Cond.methodLink RX12 222 yX12_tooMany, Cond.instanceMethod yX12_tooMany, Cond.selects RX12 yX12_tooMany yX12_tooMany, Cond.initialized RX12, Cond.code yX12_tooMany cX12_tooMany 1 (some .boolean), Cond.fieldLink RX12 9 "TwiceAsRichModel" "s" "[I", Cond.methodLink RX12 180 yX12_coins, Cond.instanceMethod yX12_coins, Cond.selects RX12 yX12_coins yX12_coins, Cond.code yX12_coins cX12_coins 3 (some .int), Cond.methodLink RX12 68 yX12_purse, Cond.instanceMethod yX12_purse, Cond.selects RX12 yX12_purse yX12_purse, Cond.code yX12_purse cX12_purse 2 (some .int), Cond.methodLink RX12 64 yX12_get, Cond.instanceMethod yX12_get, Cond.selects RX12 yX12_get yX12_get, Cond.code yX12_get cX12_get 3 (some .int), Cond.methodLink RX12 219 yX12_partsAll, Cond.instanceMethod yX12_partsAll, Cond.selects RX12 yX12_partsAll yX12_partsAll, Cond.code yX12_partsAll cX12_partsAll 4 none, Cond.fieldLink RX12 186 "TwiceAsRichModel" "ways" "I"]
def wsX12_hands_r2 : List Cond := [Cond.fieldLink RX12 189 "TwiceAsRichModel" "uneven" "I", Cond.fieldLink RX12 192 "TwiceAsRichModel" "most" "I", Cond.fieldLink RX12 198 "TwiceAsRichModel" "fewestAny" "I", Cond.fieldLink RX12 43 "TwiceAsRichModel" "was" "[I", Cond.methodLink RX12 208 yX12_begins, Cond.instanceMethod yX12_begins, Cond.selects RX12 yX12_begins yX12_begins, Cond.code yX12_begins cX12_begins 1 none, Cond.fieldLink RX12 19 "TwiceAsRichModel" "mind" "[I", Cond.methodLink RX12 60 yX12_lays, Cond.static yX12_lays, Cond.code yX12_lays cX12_lays 3 none, Cond.methodLink RX12 205 yX12_parts, Cond.instanceMethod yX12_parts, Cond.selects RX12 yX12_parts yX12_parts, Cond.code yX12_parts cX12_parts 7 none, Cond.methodLink RX12 201 yX12_partsAre, Cond.instanceMethod yX12_partsAre, Cond.selects RX12 yX12_partsAre yX12_partsAre, Cond.code yX12_partsAre cX12_partsAre 9 none, Cond.methodLink RX12 183 yX12_isLawful, Cond.instanceMethod yX12_isLawful, Cond.selects RX12 yX12_isLawful yX12_isLawful, Cond.code yX12_isLawful cX12_isLawful 1 (some .boolean)]
def wsX12_hands_r3 : List Cond := [Cond.methodLink RX12 99 yX12_breachesAll, Cond.instanceMethod yX12_breachesAll, Cond.selects RX12 yX12_breachesAll yX12_breachesAll, Cond.code yX12_breachesAll cX12_breachesAll 3 (some .int), Cond.methodLink RX12 96 yX12_breachesOf, Cond.instanceMethod yX12_breachesOf, Cond.selects RX12 yX12_breachesOf yX12_breachesOf, Cond.code yX12_breachesOf cX12_breachesOf 2 (some .int), Cond.methodLink RX12 90 yX12_tooMuchBy, Cond.instanceMethod yX12_tooMuchBy, Cond.selects RX12 yX12_tooMuchBy yX12_tooMuchBy, Cond.code yX12_tooMuchBy cX12_tooMuchBy 6 (some .int), Cond.methodLink RX12 78 yX12_beside, Cond.instanceMethod yX12_beside, Cond.selects RX12 yX12_beside yX12_beside, Cond.code yX12_beside cX12_beside 5 (some .int), Cond.methodLink RX12 56 yX12_isHouse, Cond.instanceMethod yX12_isHouse, Cond.selects RX12 yX12_isHouse yX12_isHouse, Cond.code yX12_isHouse cX12_isHouse 2 (some .boolean), Cond.methodLink RX12 52 yX12_isIn, Cond.static yX12_isIn, Cond.code yX12_isIn cX12_isIn 6 (some .boolean), Cond.methodLink RX12 81 yX12_isLookedAt]
def wsX12_hands_r4 : List Cond := [Cond.instanceMethod yX12_isLookedAt, Cond.selects RX12 yX12_isLookedAt yX12_isLookedAt, Cond.code yX12_isLookedAt cX12_isLookedAt 2 (some .boolean), Cond.methodLink RX12 72 yX12_kind, Cond.instanceMethod yX12_kind, Cond.selects RX12 yX12_kind yX12_kind, Cond.code yX12_kind cX12_kind 2 (some .int), Cond.methodLink RX12 84 yX12_shows, Cond.instanceMethod yX12_shows, Cond.selects RX12 yX12_shows yX12_shows, Cond.code yX12_shows cX12_shows 3 (some .int), Cond.methodLink RX12 75 yX12_figure, Cond.instanceMethod yX12_figure, Cond.selects RX12 yX12_figure yX12_figure, Cond.code yX12_figure cX12_figure 2 (some .int), Cond.methodLink RX12 87 yX12_mayHave, Cond.instanceMethod yX12_mayHave, Cond.selects RX12 yX12_mayHave yX12_mayHave, Cond.code yX12_mayHave cX12_mayHave 4 (some .int), Cond.methodLink RX12 93 yX12_bits, Cond.static yX12_bits, Cond.code yX12_bits cX12_bits 3 (some .int), Cond.methodLink RX12 125 yX12_puts, Cond.instanceMethod yX12_puts]
def wsX12_hands_r5 : List Cond := [Cond.selects RX12 yX12_puts yX12_puts, Cond.code yX12_puts cX12_puts 4 none, Cond.methodLink RX12 211 yX12_ends, Cond.instanceMethod yX12_ends, Cond.selects RX12 yX12_ends yX12_ends, Cond.code yX12_ends cX12_ends 1 none]
def wsX12_hands : List Cond := .code yX12_hands cX12_hands 1 (some .int) :: ((wsX12_hands_r1 ++ (wsX12_hands_r2 ++ (wsX12_hands_r3 ++ (wsX12_hands_r4 ++ wsX12_hands_r5)))) ++ wsX120)
def wsX12_any_r1 : List Cond := [Cond.fieldLink RX12 198 "TwiceAsRichModel" "fewestAny" "I", Cond.methodLink RX12 222 yX12_tooMany, Cond.instanceMethod yX12_tooMany, Cond.selects RX12 yX12_tooMany yX12_tooMany, Cond.initialized RX12, Cond.code yX12_tooMany cX12_tooMany 1 (some .boolean), Cond.fieldLink RX12 9 "TwiceAsRichModel" "s" "[I", Cond.methodLink RX12 180 yX12_coins, Cond.instanceMethod yX12_coins, Cond.selects RX12 yX12_coins yX12_coins, Cond.code yX12_coins cX12_coins 3 (some .int), Cond.methodLink RX12 68 yX12_purse, Cond.instanceMethod yX12_purse, Cond.selects RX12 yX12_purse yX12_purse, Cond.code yX12_purse cX12_purse 2 (some .int), Cond.methodLink RX12 64 yX12_get, Cond.instanceMethod yX12_get, Cond.selects RX12 yX12_get yX12_get, Cond.code yX12_get cX12_get 3 (some .int), Cond.methodLink RX12 219 yX12_partsAll, Cond.instanceMethod yX12_partsAll, Cond.selects RX12 yX12_partsAll yX12_partsAll, Cond.code yX12_partsAll cX12_partsAll 4 none, Cond.fieldLink RX12 186 "TwiceAsRichModel" "ways" "I"]
def wsX12_any_r2 : List Cond := [Cond.fieldLink RX12 189 "TwiceAsRichModel" "uneven" "I", Cond.fieldLink RX12 192 "TwiceAsRichModel" "most" "I", Cond.fieldLink RX12 195 "TwiceAsRichModel" "fewestHands" "I", Cond.fieldLink RX12 43 "TwiceAsRichModel" "was" "[I", Cond.methodLink RX12 208 yX12_begins, Cond.instanceMethod yX12_begins, Cond.selects RX12 yX12_begins yX12_begins, Cond.code yX12_begins cX12_begins 1 none, Cond.fieldLink RX12 19 "TwiceAsRichModel" "mind" "[I", Cond.methodLink RX12 60 yX12_lays, Cond.static yX12_lays, Cond.code yX12_lays cX12_lays 3 none, Cond.methodLink RX12 205 yX12_parts, Cond.instanceMethod yX12_parts, Cond.selects RX12 yX12_parts yX12_parts, Cond.code yX12_parts cX12_parts 7 none, Cond.methodLink RX12 201 yX12_partsAre, Cond.instanceMethod yX12_partsAre, Cond.selects RX12 yX12_partsAre yX12_partsAre, Cond.code yX12_partsAre cX12_partsAre 9 none, Cond.methodLink RX12 183 yX12_isLawful, Cond.instanceMethod yX12_isLawful, Cond.selects RX12 yX12_isLawful yX12_isLawful, Cond.code yX12_isLawful cX12_isLawful 1 (some .boolean)]
def wsX12_any_r3 : List Cond := [Cond.methodLink RX12 99 yX12_breachesAll, Cond.instanceMethod yX12_breachesAll, Cond.selects RX12 yX12_breachesAll yX12_breachesAll, Cond.code yX12_breachesAll cX12_breachesAll 3 (some .int), Cond.methodLink RX12 96 yX12_breachesOf, Cond.instanceMethod yX12_breachesOf, Cond.selects RX12 yX12_breachesOf yX12_breachesOf, Cond.code yX12_breachesOf cX12_breachesOf 2 (some .int), Cond.methodLink RX12 90 yX12_tooMuchBy, Cond.instanceMethod yX12_tooMuchBy, Cond.selects RX12 yX12_tooMuchBy yX12_tooMuchBy, Cond.code yX12_tooMuchBy cX12_tooMuchBy 6 (some .int), Cond.methodLink RX12 78 yX12_beside, Cond.instanceMethod yX12_beside, Cond.selects RX12 yX12_beside yX12_beside, Cond.code yX12_beside cX12_beside 5 (some .int), Cond.methodLink RX12 56 yX12_isHouse, Cond.instanceMethod yX12_isHouse, Cond.selects RX12 yX12_isHouse yX12_isHouse, Cond.code yX12_isHouse cX12_isHouse 2 (some .boolean), Cond.methodLink RX12 52 yX12_isIn, Cond.static yX12_isIn, Cond.code yX12_isIn cX12_isIn 6 (some .boolean), Cond.methodLink RX12 81 yX12_isLookedAt]
def wsX12_any_r4 : List Cond := [Cond.instanceMethod yX12_isLookedAt, Cond.selects RX12 yX12_isLookedAt yX12_isLookedAt, Cond.code yX12_isLookedAt cX12_isLookedAt 2 (some .boolean), Cond.methodLink RX12 72 yX12_kind, Cond.instanceMethod yX12_kind, Cond.selects RX12 yX12_kind yX12_kind, Cond.code yX12_kind cX12_kind 2 (some .int), Cond.methodLink RX12 84 yX12_shows, Cond.instanceMethod yX12_shows, Cond.selects RX12 yX12_shows yX12_shows, Cond.code yX12_shows cX12_shows 3 (some .int), Cond.methodLink RX12 75 yX12_figure, Cond.instanceMethod yX12_figure, Cond.selects RX12 yX12_figure yX12_figure, Cond.code yX12_figure cX12_figure 2 (some .int), Cond.methodLink RX12 87 yX12_mayHave, Cond.instanceMethod yX12_mayHave, Cond.selects RX12 yX12_mayHave yX12_mayHave, Cond.code yX12_mayHave cX12_mayHave 4 (some .int), Cond.methodLink RX12 93 yX12_bits, Cond.static yX12_bits, Cond.code yX12_bits cX12_bits 3 (some .int), Cond.methodLink RX12 125 yX12_puts, Cond.instanceMethod yX12_puts]
def wsX12_any_r5 : List Cond := [Cond.selects RX12 yX12_puts yX12_puts, Cond.code yX12_puts cX12_puts 4 none, Cond.methodLink RX12 211 yX12_ends, Cond.instanceMethod yX12_ends, Cond.selects RX12 yX12_ends yX12_ends, Cond.code yX12_ends cX12_ends 1 none]
def wsX12_any : List Cond := .code yX12_any cX12_any 1 (some .int) :: ((wsX12_any_r1 ++ (wsX12_any_r2 ++ (wsX12_any_r3 ++ (wsX12_any_r4 ++ wsX12_any_r5)))) ++ wsX120)
def wsX12_change_r1 : List Cond := [Cond.fieldLink RX12 9 "TwiceAsRichModel" "s" "[I", Cond.methodLink RX12 52 yX12_isIn, Cond.static yX12_isIn, Cond.initialized RX12, Cond.code yX12_isIn cX12_isIn 6 (some .boolean), Cond.methodLink RX12 99 yX12_breachesAll, Cond.instanceMethod yX12_breachesAll, Cond.selects RX12 yX12_breachesAll yX12_breachesAll, Cond.code yX12_breachesAll cX12_breachesAll 3 (some .int), Cond.methodLink RX12 96 yX12_breachesOf, Cond.instanceMethod yX12_breachesOf, Cond.selects RX12 yX12_breachesOf yX12_breachesOf, Cond.code yX12_breachesOf cX12_breachesOf 2 (some .int), Cond.methodLink RX12 68 yX12_purse, Cond.instanceMethod yX12_purse, Cond.selects RX12 yX12_purse yX12_purse, Cond.code yX12_purse cX12_purse 2 (some .int), Cond.methodLink RX12 64 yX12_get, Cond.instanceMethod yX12_get, Cond.selects RX12 yX12_get yX12_get, Cond.code yX12_get cX12_get 3 (some .int), Cond.methodLink RX12 90 yX12_tooMuchBy, Cond.instanceMethod yX12_tooMuchBy, Cond.selects RX12 yX12_tooMuchBy yX12_tooMuchBy]
def wsX12_change_r2 : List Cond := [Cond.code yX12_tooMuchBy cX12_tooMuchBy 6 (some .int), Cond.methodLink RX12 78 yX12_beside, Cond.instanceMethod yX12_beside, Cond.selects RX12 yX12_beside yX12_beside, Cond.code yX12_beside cX12_beside 5 (some .int), Cond.methodLink RX12 56 yX12_isHouse, Cond.instanceMethod yX12_isHouse, Cond.selects RX12 yX12_isHouse yX12_isHouse, Cond.code yX12_isHouse cX12_isHouse 2 (some .boolean), Cond.methodLink RX12 81 yX12_isLookedAt, Cond.instanceMethod yX12_isLookedAt, Cond.selects RX12 yX12_isLookedAt yX12_isLookedAt, Cond.code yX12_isLookedAt cX12_isLookedAt 2 (some .boolean), Cond.methodLink RX12 72 yX12_kind, Cond.instanceMethod yX12_kind, Cond.selects RX12 yX12_kind yX12_kind, Cond.code yX12_kind cX12_kind 2 (some .int), Cond.methodLink RX12 84 yX12_shows, Cond.instanceMethod yX12_shows, Cond.selects RX12 yX12_shows yX12_shows, Cond.code yX12_shows cX12_shows 3 (some .int), Cond.methodLink RX12 75 yX12_figure, Cond.instanceMethod yX12_figure, Cond.selects RX12 yX12_figure yX12_figure]
def wsX12_change_r3 : List Cond := [Cond.code yX12_figure cX12_figure 2 (some .int), Cond.methodLink RX12 87 yX12_mayHave, Cond.instanceMethod yX12_mayHave, Cond.selects RX12 yX12_mayHave yX12_mayHave, Cond.code yX12_mayHave cX12_mayHave 4 (some .int), Cond.methodLink RX12 93 yX12_bits, Cond.static yX12_bits, Cond.code yX12_bits cX12_bits 3 (some .int), Cond.methodLink RX12 150 yX12_changes, Cond.instanceMethod yX12_changes, Cond.selects RX12 yX12_changes yX12_changes, Cond.code yX12_changes cX12_changes 5 none, Cond.methodLink RX12 125 yX12_puts, Cond.instanceMethod yX12_puts, Cond.selects RX12 yX12_puts yX12_puts, Cond.code yX12_puts cX12_puts 4 none]
def wsX12_change : List Cond := .code yX12_change cX12_change 7 (some .int) :: ((wsX12_change_r1 ++ (wsX12_change_r2 ++ wsX12_change_r3)) ++ wsX120)
def wsX12_wedding_r1 : List Cond := [Cond.fieldLink RX12 9 "TwiceAsRichModel" "s" "[I", Cond.methodLink RX12 56 yX12_isHouse, Cond.instanceMethod yX12_isHouse, Cond.selects RX12 yX12_isHouse yX12_isHouse, Cond.initialized RX12, Cond.code yX12_isHouse cX12_isHouse 2 (some .boolean), Cond.methodLink RX12 52 yX12_isIn, Cond.static yX12_isIn, Cond.code yX12_isIn cX12_isIn 6 (some .boolean), Cond.methodLink RX12 208 yX12_begins, Cond.instanceMethod yX12_begins, Cond.selects RX12 yX12_begins yX12_begins, Cond.code yX12_begins cX12_begins 1 none, Cond.fieldLink RX12 19 "TwiceAsRichModel" "mind" "[I", Cond.methodLink RX12 60 yX12_lays, Cond.static yX12_lays, Cond.code yX12_lays cX12_lays 3 none, Cond.methodLink RX12 68 yX12_purse, Cond.instanceMethod yX12_purse, Cond.selects RX12 yX12_purse yX12_purse, Cond.code yX12_purse cX12_purse 2 (some .int), Cond.methodLink RX12 64 yX12_get, Cond.instanceMethod yX12_get, Cond.selects RX12 yX12_get yX12_get]
def wsX12_wedding_r2 : List Cond := [Cond.code yX12_get cX12_get 3 (some .int), Cond.methodLink RX12 125 yX12_puts, Cond.instanceMethod yX12_puts, Cond.selects RX12 yX12_puts yX12_puts, Cond.code yX12_puts cX12_puts 4 none, Cond.methodLink RX12 99 yX12_breachesAll, Cond.instanceMethod yX12_breachesAll, Cond.selects RX12 yX12_breachesAll yX12_breachesAll, Cond.code yX12_breachesAll cX12_breachesAll 3 (some .int), Cond.methodLink RX12 96 yX12_breachesOf, Cond.instanceMethod yX12_breachesOf, Cond.selects RX12 yX12_breachesOf yX12_breachesOf, Cond.code yX12_breachesOf cX12_breachesOf 2 (some .int), Cond.methodLink RX12 90 yX12_tooMuchBy, Cond.instanceMethod yX12_tooMuchBy, Cond.selects RX12 yX12_tooMuchBy yX12_tooMuchBy, Cond.code yX12_tooMuchBy cX12_tooMuchBy 6 (some .int), Cond.methodLink RX12 78 yX12_beside, Cond.instanceMethod yX12_beside, Cond.selects RX12 yX12_beside yX12_beside, Cond.code yX12_beside cX12_beside 5 (some .int), Cond.methodLink RX12 81 yX12_isLookedAt, Cond.instanceMethod yX12_isLookedAt, Cond.selects RX12 yX12_isLookedAt yX12_isLookedAt]
def wsX12_wedding_r3 : List Cond := [Cond.code yX12_isLookedAt cX12_isLookedAt 2 (some .boolean), Cond.methodLink RX12 72 yX12_kind, Cond.instanceMethod yX12_kind, Cond.selects RX12 yX12_kind yX12_kind, Cond.code yX12_kind cX12_kind 2 (some .int), Cond.methodLink RX12 84 yX12_shows, Cond.instanceMethod yX12_shows, Cond.selects RX12 yX12_shows yX12_shows, Cond.code yX12_shows cX12_shows 3 (some .int), Cond.methodLink RX12 75 yX12_figure, Cond.instanceMethod yX12_figure, Cond.selects RX12 yX12_figure yX12_figure, Cond.code yX12_figure cX12_figure 2 (some .int), Cond.methodLink RX12 87 yX12_mayHave, Cond.instanceMethod yX12_mayHave, Cond.selects RX12 yX12_mayHave yX12_mayHave, Cond.code yX12_mayHave cX12_mayHave 4 (some .int), Cond.methodLink RX12 93 yX12_bits, Cond.static yX12_bits, Cond.code yX12_bits cX12_bits 3 (some .int), Cond.methodLink RX12 211 yX12_ends, Cond.instanceMethod yX12_ends, Cond.selects RX12 yX12_ends yX12_ends, Cond.code yX12_ends cX12_ends 1 none]
def wsX12_wedding : List Cond := .code yX12_wedding cX12_wedding 4 (some .int) :: ((wsX12_wedding_r1 ++ (wsX12_wedding_r2 ++ wsX12_wedding_r3)) ++ wsX120)
def wsX12_worth_r1 : List Cond := [Cond.constantLong RX12 173 (9999), Cond.constant RX12 225 (-1000000001), Cond.fieldLink RX12 9 "TwiceAsRichModel" "s" "[I", Cond.methodLink RX12 56 yX12_isHouse, Cond.instanceMethod yX12_isHouse, Cond.selects RX12 yX12_isHouse yX12_isHouse, Cond.initialized RX12, Cond.code yX12_isHouse cX12_isHouse 2 (some .boolean), Cond.methodLink RX12 52 yX12_isIn, Cond.static yX12_isIn, Cond.code yX12_isIn cX12_isIn 6 (some .boolean), Cond.methodLink RX12 167 yX12_mostOf, Cond.instanceMethod yX12_mostOf, Cond.selects RX12 yX12_mostOf yX12_mostOf, Cond.code yX12_mostOf cX12_mostOf 6 (some .int), Cond.methodLink RX12 78 yX12_beside, Cond.instanceMethod yX12_beside, Cond.selects RX12 yX12_beside yX12_beside, Cond.code yX12_beside cX12_beside 5 (some .int), Cond.methodLink RX12 81 yX12_isLookedAt, Cond.instanceMethod yX12_isLookedAt, Cond.selects RX12 yX12_isLookedAt yX12_isLookedAt, Cond.code yX12_isLookedAt cX12_isLookedAt 2 (some .boolean), Cond.methodLink RX12 72 yX12_kind]
def wsX12_worth_r2 : List Cond := [Cond.instanceMethod yX12_kind, Cond.selects RX12 yX12_kind yX12_kind, Cond.code yX12_kind cX12_kind 2 (some .int), Cond.methodLink RX12 64 yX12_get, Cond.instanceMethod yX12_get, Cond.selects RX12 yX12_get yX12_get, Cond.code yX12_get cX12_get 3 (some .int), Cond.methodLink RX12 84 yX12_shows, Cond.instanceMethod yX12_shows, Cond.selects RX12 yX12_shows yX12_shows, Cond.code yX12_shows cX12_shows 3 (some .int), Cond.methodLink RX12 68 yX12_purse, Cond.instanceMethod yX12_purse, Cond.selects RX12 yX12_purse yX12_purse, Cond.code yX12_purse cX12_purse 2 (some .int), Cond.methodLink RX12 75 yX12_figure, Cond.instanceMethod yX12_figure, Cond.selects RX12 yX12_figure yX12_figure, Cond.code yX12_figure cX12_figure 2 (some .int), Cond.methodLink RX12 87 yX12_mayHave, Cond.instanceMethod yX12_mayHave, Cond.selects RX12 yX12_mayHave yX12_mayHave, Cond.code yX12_mayHave cX12_mayHave 4 (some .int), Cond.methodLink RX12 208 yX12_begins]
def wsX12_worth_r3 : List Cond := [Cond.instanceMethod yX12_begins, Cond.selects RX12 yX12_begins yX12_begins, Cond.code yX12_begins cX12_begins 1 none, Cond.fieldLink RX12 19 "TwiceAsRichModel" "mind" "[I", Cond.methodLink RX12 60 yX12_lays, Cond.static yX12_lays, Cond.code yX12_lays cX12_lays 3 none, Cond.methodLink RX12 125 yX12_puts, Cond.instanceMethod yX12_puts, Cond.selects RX12 yX12_puts yX12_puts, Cond.code yX12_puts cX12_puts 4 none, Cond.methodLink RX12 211 yX12_ends, Cond.instanceMethod yX12_ends, Cond.selects RX12 yX12_ends yX12_ends, Cond.code yX12_ends cX12_ends 1 none]
def wsX12_worth : List Cond := .code yX12_worth cX12_worth 5 (some .int) :: ((wsX12_worth_r1 ++ (wsX12_worth_r2 ++ wsX12_worth_r3)) ++ wsX120)
def wsX12_fitting_r1 : List Cond := [Cond.constantLong RX12 226 (2), Cond.methodLink RX12 56 yX12_isHouse, Cond.instanceMethod yX12_isHouse, Cond.selects RX12 yX12_isHouse yX12_isHouse, Cond.initialized RX12, Cond.code yX12_isHouse cX12_isHouse 2 (some .boolean), Cond.fieldLink RX12 9 "TwiceAsRichModel" "s" "[I", Cond.methodLink RX12 52 yX12_isIn, Cond.static yX12_isIn, Cond.code yX12_isIn cX12_isIn 6 (some .boolean), Cond.methodLink RX12 208 yX12_begins, Cond.instanceMethod yX12_begins, Cond.selects RX12 yX12_begins yX12_begins, Cond.code yX12_begins cX12_begins 1 none, Cond.fieldLink RX12 19 "TwiceAsRichModel" "mind" "[I", Cond.methodLink RX12 60 yX12_lays, Cond.static yX12_lays, Cond.code yX12_lays cX12_lays 3 none, Cond.methodLink RX12 125 yX12_puts, Cond.instanceMethod yX12_puts, Cond.selects RX12 yX12_puts yX12_puts, Cond.code yX12_puts cX12_puts 4 none, Cond.methodLink RX12 183 yX12_isLawful, Cond.instanceMethod yX12_isLawful]
def wsX12_fitting_r2 : List Cond := [Cond.selects RX12 yX12_isLawful yX12_isLawful, Cond.code yX12_isLawful cX12_isLawful 1 (some .boolean), Cond.methodLink RX12 99 yX12_breachesAll, Cond.instanceMethod yX12_breachesAll, Cond.selects RX12 yX12_breachesAll yX12_breachesAll, Cond.code yX12_breachesAll cX12_breachesAll 3 (some .int), Cond.methodLink RX12 96 yX12_breachesOf, Cond.instanceMethod yX12_breachesOf, Cond.selects RX12 yX12_breachesOf yX12_breachesOf, Cond.code yX12_breachesOf cX12_breachesOf 2 (some .int), Cond.methodLink RX12 68 yX12_purse, Cond.instanceMethod yX12_purse, Cond.selects RX12 yX12_purse yX12_purse, Cond.code yX12_purse cX12_purse 2 (some .int), Cond.methodLink RX12 64 yX12_get, Cond.instanceMethod yX12_get, Cond.selects RX12 yX12_get yX12_get, Cond.code yX12_get cX12_get 3 (some .int), Cond.methodLink RX12 90 yX12_tooMuchBy, Cond.instanceMethod yX12_tooMuchBy, Cond.selects RX12 yX12_tooMuchBy yX12_tooMuchBy, Cond.code yX12_tooMuchBy cX12_tooMuchBy 6 (some .int), Cond.methodLink RX12 78 yX12_beside, Cond.instanceMethod yX12_beside]
def wsX12_fitting_r3 : List Cond := [Cond.selects RX12 yX12_beside yX12_beside, Cond.code yX12_beside cX12_beside 5 (some .int), Cond.methodLink RX12 81 yX12_isLookedAt, Cond.instanceMethod yX12_isLookedAt, Cond.selects RX12 yX12_isLookedAt yX12_isLookedAt, Cond.code yX12_isLookedAt cX12_isLookedAt 2 (some .boolean), Cond.methodLink RX12 72 yX12_kind, Cond.instanceMethod yX12_kind, Cond.selects RX12 yX12_kind yX12_kind, Cond.code yX12_kind cX12_kind 2 (some .int), Cond.methodLink RX12 84 yX12_shows, Cond.instanceMethod yX12_shows, Cond.selects RX12 yX12_shows yX12_shows, Cond.code yX12_shows cX12_shows 3 (some .int), Cond.methodLink RX12 75 yX12_figure, Cond.instanceMethod yX12_figure, Cond.selects RX12 yX12_figure yX12_figure, Cond.code yX12_figure cX12_figure 2 (some .int), Cond.methodLink RX12 87 yX12_mayHave, Cond.instanceMethod yX12_mayHave, Cond.selects RX12 yX12_mayHave yX12_mayHave, Cond.code yX12_mayHave cX12_mayHave 4 (some .int), Cond.methodLink RX12 93 yX12_bits, Cond.static yX12_bits]
def wsX12_fitting_r4 : List Cond := [Cond.code yX12_bits cX12_bits 3 (some .int), Cond.methodLink RX12 211 yX12_ends, Cond.instanceMethod yX12_ends, Cond.selects RX12 yX12_ends yX12_ends, Cond.code yX12_ends cX12_ends 1 none]
def wsX12_fitting : List Cond := .code yX12_fitting cX12_fitting 7 (some .int) :: ((wsX12_fitting_r1 ++ (wsX12_fitting_r2 ++ (wsX12_fitting_r3 ++ wsX12_fitting_r4))) ++ wsX120)
def wsX12_toldAt : List Cond := .code yX12_toldAt cX12_toldAt 3 (some .int) :: ([.fieldLink RX12 31 "TwiceAsRichModel" "element" "[I"] ++ wsX120)
def wsX12_given_r1 : List Cond := [Cond.fieldLink RX12 28 "TwiceAsRichModel" "size" "[I", Cond.constantLong RX12 173 (9999), Cond.methodLink RX12 154 yX12_isShelf, Cond.static yX12_isShelf, Cond.initialized RX12, Cond.code yX12_isShelf cX12_isShelf 1 (some .boolean), Cond.constantLong RX12 50 (7), Cond.methodLink RX12 52 yX12_isIn, Cond.static yX12_isIn, Cond.code yX12_isIn cX12_isIn 6 (some .boolean), Cond.methodLink RX12 157 yX12_wrongRow, Cond.instanceMethod yX12_wrongRow, Cond.selects RX12 yX12_wrongRow yX12_wrongRow, Cond.code yX12_wrongRow cX12_wrongRow 3 (some .int), Cond.fieldLink RX12 22 "TwiceAsRichModel" "kept" "[I", Cond.fieldLink RX12 25 "TwiceAsRichModel" "sort" "[I", Cond.methodLink RX12 228 yX12_toldAt, Cond.instanceMethod yX12_toldAt, Cond.selects RX12 yX12_toldAt yX12_toldAt, Cond.code yX12_toldAt cX12_toldAt 3 (some .int), Cond.fieldLink RX12 31 "TwiceAsRichModel" "element" "[I", Cond.methodLink RX12 132 yX12_areTwo, Cond.instanceMethod yX12_areTwo, Cond.selects RX12 yX12_areTwo yX12_areTwo]
def wsX12_given_r2 : List Cond := [Cond.code yX12_areTwo cX12_areTwo 3 (some .boolean), Cond.methodLink RX12 56 yX12_isHouse, Cond.instanceMethod yX12_isHouse, Cond.selects RX12 yX12_isHouse yX12_isHouse, Cond.code yX12_isHouse cX12_isHouse 2 (some .boolean), Cond.fieldLink RX12 9 "TwiceAsRichModel" "s" "[I", Cond.methodLink RX12 208 yX12_begins, Cond.instanceMethod yX12_begins, Cond.selects RX12 yX12_begins yX12_begins, Cond.code yX12_begins cX12_begins 1 none, Cond.fieldLink RX12 19 "TwiceAsRichModel" "mind" "[I", Cond.methodLink RX12 60 yX12_lays, Cond.static yX12_lays, Cond.code yX12_lays cX12_lays 3 none, Cond.methodLink RX12 147 yX12_givesIf, Cond.instanceMethod yX12_givesIf, Cond.selects RX12 yX12_givesIf yX12_givesIf, Cond.code yX12_givesIf cX12_givesIf 4 (some .boolean), Cond.methodLink RX12 136 yX12_wrongGift, Cond.instanceMethod yX12_wrongGift, Cond.selects RX12 yX12_wrongGift yX12_wrongGift, Cond.code yX12_wrongGift cX12_wrongGift 4 (some .int), Cond.methodLink RX12 68 yX12_purse, Cond.instanceMethod yX12_purse]
def wsX12_given_r3 : List Cond := [Cond.selects RX12 yX12_purse yX12_purse, Cond.code yX12_purse cX12_purse 2 (some .int), Cond.methodLink RX12 64 yX12_get, Cond.instanceMethod yX12_get, Cond.selects RX12 yX12_get yX12_get, Cond.code yX12_get cX12_get 3 (some .int), Cond.methodLink RX12 140 yX12_gives, Cond.instanceMethod yX12_gives, Cond.selects RX12 yX12_gives yX12_gives, Cond.code yX12_gives cX12_gives 4 none, Cond.methodLink RX12 125 yX12_puts, Cond.instanceMethod yX12_puts, Cond.selects RX12 yX12_puts yX12_puts, Cond.code yX12_puts cX12_puts 4 none, Cond.methodLink RX12 99 yX12_breachesAll, Cond.instanceMethod yX12_breachesAll, Cond.selects RX12 yX12_breachesAll yX12_breachesAll, Cond.code yX12_breachesAll cX12_breachesAll 3 (some .int), Cond.methodLink RX12 96 yX12_breachesOf, Cond.instanceMethod yX12_breachesOf, Cond.selects RX12 yX12_breachesOf yX12_breachesOf, Cond.code yX12_breachesOf cX12_breachesOf 2 (some .int), Cond.methodLink RX12 90 yX12_tooMuchBy, Cond.instanceMethod yX12_tooMuchBy]
def wsX12_given_r4 : List Cond := [Cond.selects RX12 yX12_tooMuchBy yX12_tooMuchBy, Cond.code yX12_tooMuchBy cX12_tooMuchBy 6 (some .int), Cond.methodLink RX12 78 yX12_beside, Cond.instanceMethod yX12_beside, Cond.selects RX12 yX12_beside yX12_beside, Cond.code yX12_beside cX12_beside 5 (some .int), Cond.methodLink RX12 81 yX12_isLookedAt, Cond.instanceMethod yX12_isLookedAt, Cond.selects RX12 yX12_isLookedAt yX12_isLookedAt, Cond.code yX12_isLookedAt cX12_isLookedAt 2 (some .boolean), Cond.methodLink RX12 72 yX12_kind, Cond.instanceMethod yX12_kind, Cond.selects RX12 yX12_kind yX12_kind, Cond.code yX12_kind cX12_kind 2 (some .int), Cond.methodLink RX12 84 yX12_shows, Cond.instanceMethod yX12_shows, Cond.selects RX12 yX12_shows yX12_shows, Cond.code yX12_shows cX12_shows 3 (some .int), Cond.methodLink RX12 75 yX12_figure, Cond.instanceMethod yX12_figure, Cond.selects RX12 yX12_figure yX12_figure, Cond.code yX12_figure cX12_figure 2 (some .int), Cond.methodLink RX12 87 yX12_mayHave, Cond.instanceMethod yX12_mayHave]
def wsX12_given_r5 : List Cond := [Cond.selects RX12 yX12_mayHave yX12_mayHave, Cond.code yX12_mayHave cX12_mayHave 4 (some .int), Cond.methodLink RX12 93 yX12_bits, Cond.static yX12_bits, Cond.code yX12_bits cX12_bits 3 (some .int), Cond.methodLink RX12 211 yX12_ends, Cond.instanceMethod yX12_ends, Cond.selects RX12 yX12_ends yX12_ends, Cond.code yX12_ends cX12_ends 1 none]
def wsX12_given : List Cond := .code yX12_given cX12_given 6 (some .int) :: ((wsX12_given_r1 ++ (wsX12_given_r2 ++ (wsX12_given_r3 ++ (wsX12_given_r4 ++ wsX12_given_r5)))) ++ wsX120)
def wsX12_tax : List Cond := .code yX12_tax cX12_tax 4 (some .int) :: ([.constantLong RX12 173 (9999), .fieldLink RX12 9 "TwiceAsRichModel" "s" "[I", .methodLink RX12 52 yX12_isIn, .static yX12_isIn, .initialized RX12, .code yX12_isIn cX12_isIn 6 (some .boolean), .methodLink RX12 68 yX12_purse, .instanceMethod yX12_purse, .selects RX12 yX12_purse yX12_purse, .code yX12_purse cX12_purse 2 (some .int), .methodLink RX12 64 yX12_get, .instanceMethod yX12_get, .selects RX12 yX12_get yX12_get, .code yX12_get cX12_get 3 (some .int)] ++ wsX120)
def wsX12_drawn : List Cond := .code yX12_drawn cX12_drawn 2 (some .int) :: ([.fieldLink RX12 231 "TwiceAsRichModel" "seed" "I", .constant RX12 234 (1103515245), .constant RX12 235 (2147483647), .constant RX12 236 (65536)] ++ wsX120)
def wsX12_seeded_r1 : List Cond := [Cond.constantLong RX12 237 (40), Cond.fieldLink RX12 9 "TwiceAsRichModel" "s" "[I", Cond.fieldLink RX12 231 "TwiceAsRichModel" "seed" "I", Cond.methodLink RX12 52 yX12_isIn, Cond.static yX12_isIn, Cond.initialized RX12, Cond.code yX12_isIn cX12_isIn 6 (some .boolean), Cond.methodLink RX12 208 yX12_begins, Cond.instanceMethod yX12_begins, Cond.selects RX12 yX12_begins yX12_begins, Cond.code yX12_begins cX12_begins 1 none, Cond.fieldLink RX12 19 "TwiceAsRichModel" "mind" "[I", Cond.methodLink RX12 60 yX12_lays, Cond.static yX12_lays, Cond.code yX12_lays cX12_lays 3 none, Cond.methodLink RX12 239 yX12_drawn, Cond.instanceMethod yX12_drawn, Cond.selects RX12 yX12_drawn yX12_drawn, Cond.code yX12_drawn cX12_drawn 2 (some .int), Cond.constant RX12 234 (1103515245), Cond.constant RX12 235 (2147483647), Cond.constant RX12 236 (65536), Cond.methodLink RX12 78 yX12_beside, Cond.instanceMethod yX12_beside]
def wsX12_seeded_r2 : List Cond := [Cond.selects RX12 yX12_beside yX12_beside, Cond.code yX12_beside cX12_beside 5 (some .int), Cond.methodLink RX12 56 yX12_isHouse, Cond.instanceMethod yX12_isHouse, Cond.selects RX12 yX12_isHouse yX12_isHouse, Cond.code yX12_isHouse cX12_isHouse 2 (some .boolean), Cond.methodLink RX12 147 yX12_givesIf, Cond.instanceMethod yX12_givesIf, Cond.selects RX12 yX12_givesIf yX12_givesIf, Cond.code yX12_givesIf cX12_givesIf 4 (some .boolean), Cond.methodLink RX12 136 yX12_wrongGift, Cond.instanceMethod yX12_wrongGift, Cond.selects RX12 yX12_wrongGift yX12_wrongGift, Cond.code yX12_wrongGift cX12_wrongGift 4 (some .int), Cond.methodLink RX12 132 yX12_areTwo, Cond.instanceMethod yX12_areTwo, Cond.selects RX12 yX12_areTwo yX12_areTwo, Cond.code yX12_areTwo cX12_areTwo 3 (some .boolean), Cond.methodLink RX12 68 yX12_purse, Cond.instanceMethod yX12_purse, Cond.selects RX12 yX12_purse yX12_purse, Cond.code yX12_purse cX12_purse 2 (some .int), Cond.methodLink RX12 64 yX12_get, Cond.instanceMethod yX12_get]
def wsX12_seeded_r3 : List Cond := [Cond.selects RX12 yX12_get yX12_get, Cond.code yX12_get cX12_get 3 (some .int), Cond.methodLink RX12 140 yX12_gives, Cond.instanceMethod yX12_gives, Cond.selects RX12 yX12_gives yX12_gives, Cond.code yX12_gives cX12_gives 4 none, Cond.methodLink RX12 125 yX12_puts, Cond.instanceMethod yX12_puts, Cond.selects RX12 yX12_puts yX12_puts, Cond.code yX12_puts cX12_puts 4 none, Cond.methodLink RX12 183 yX12_isLawful, Cond.instanceMethod yX12_isLawful, Cond.selects RX12 yX12_isLawful yX12_isLawful, Cond.code yX12_isLawful cX12_isLawful 1 (some .boolean), Cond.methodLink RX12 99 yX12_breachesAll, Cond.instanceMethod yX12_breachesAll, Cond.selects RX12 yX12_breachesAll yX12_breachesAll, Cond.code yX12_breachesAll cX12_breachesAll 3 (some .int), Cond.methodLink RX12 96 yX12_breachesOf, Cond.instanceMethod yX12_breachesOf, Cond.selects RX12 yX12_breachesOf yX12_breachesOf, Cond.code yX12_breachesOf cX12_breachesOf 2 (some .int), Cond.methodLink RX12 90 yX12_tooMuchBy, Cond.instanceMethod yX12_tooMuchBy]
def wsX12_seeded_r4 : List Cond := [Cond.selects RX12 yX12_tooMuchBy yX12_tooMuchBy, Cond.code yX12_tooMuchBy cX12_tooMuchBy 6 (some .int), Cond.methodLink RX12 81 yX12_isLookedAt, Cond.instanceMethod yX12_isLookedAt, Cond.selects RX12 yX12_isLookedAt yX12_isLookedAt, Cond.code yX12_isLookedAt cX12_isLookedAt 2 (some .boolean), Cond.methodLink RX12 72 yX12_kind, Cond.instanceMethod yX12_kind, Cond.selects RX12 yX12_kind yX12_kind, Cond.code yX12_kind cX12_kind 2 (some .int), Cond.methodLink RX12 84 yX12_shows, Cond.instanceMethod yX12_shows, Cond.selects RX12 yX12_shows yX12_shows, Cond.code yX12_shows cX12_shows 3 (some .int), Cond.methodLink RX12 75 yX12_figure, Cond.instanceMethod yX12_figure, Cond.selects RX12 yX12_figure yX12_figure, Cond.code yX12_figure cX12_figure 2 (some .int), Cond.methodLink RX12 87 yX12_mayHave, Cond.instanceMethod yX12_mayHave, Cond.selects RX12 yX12_mayHave yX12_mayHave, Cond.code yX12_mayHave cX12_mayHave 4 (some .int), Cond.methodLink RX12 93 yX12_bits, Cond.static yX12_bits]
def wsX12_seeded_r5 : List Cond := [Cond.code yX12_bits cX12_bits 3 (some .int), Cond.methodLink RX12 211 yX12_ends, Cond.instanceMethod yX12_ends, Cond.selects RX12 yX12_ends yX12_ends, Cond.code yX12_ends cX12_ends 1 none]
def wsX12_seeded : List Cond := .code yX12_seeded cX12_seeded 8 (some .int) :: ((wsX12_seeded_r1 ++ (wsX12_seeded_r2 ++ (wsX12_seeded_r3 ++ (wsX12_seeded_r4 ++ wsX12_seeded_r5)))) ++ wsX120)
def wsX12_judge_r1 : List Cond := [Cond.fieldLink RX12 25 "TwiceAsRichModel" "sort" "[I", Cond.constant RX12 242 (-2147483648), Cond.fieldLink RX12 28 "TwiceAsRichModel" "size" "[I", Cond.fieldLink RX12 9 "TwiceAsRichModel" "s" "[I", Cond.methodLink RX12 157 yX12_wrongRow, Cond.instanceMethod yX12_wrongRow, Cond.selects RX12 yX12_wrongRow yX12_wrongRow, Cond.initialized RX12, Cond.code yX12_wrongRow cX12_wrongRow 3 (some .int), Cond.fieldLink RX12 22 "TwiceAsRichModel" "kept" "[I", Cond.methodLink RX12 154 yX12_isShelf, Cond.static yX12_isShelf, Cond.code yX12_isShelf cX12_isShelf 1 (some .boolean), Cond.constantLong RX12 50 (7), Cond.methodLink RX12 52 yX12_isIn, Cond.static yX12_isIn, Cond.code yX12_isIn cX12_isIn 6 (some .boolean), Cond.methodLink RX12 228 yX12_toldAt, Cond.instanceMethod yX12_toldAt, Cond.selects RX12 yX12_toldAt yX12_toldAt, Cond.code yX12_toldAt cX12_toldAt 3 (some .int), Cond.fieldLink RX12 31 "TwiceAsRichModel" "element" "[I", Cond.methodLink RX12 68 yX12_purse, Cond.instanceMethod yX12_purse]
def wsX12_judge_r2 : List Cond := [Cond.selects RX12 yX12_purse yX12_purse, Cond.code yX12_purse cX12_purse 2 (some .int), Cond.methodLink RX12 64 yX12_get, Cond.instanceMethod yX12_get, Cond.selects RX12 yX12_get yX12_get, Cond.code yX12_get cX12_get 3 (some .int)]
def wsX12_judge : List Cond := .code yX12_judge cX12_judge 5 (some .int) :: ((wsX12_judge_r1 ++ wsX12_judge_r2) ++ wsX120)
def wsX12_image : List Cond := .code yX12_image cX12_image 1 (some .int) :: ([.fieldLink RX12 9 "TwiceAsRichModel" "s" "[I", .fieldLink RX12 13 "TwiceAsRichModel" "image" "[I", .fieldLink RX12 243 "TwiceAsRichModel" "hasImage" "Z", .methodLink RX12 60 yX12_lays, .static yX12_lays, .initialized RX12, .code yX12_lays cX12_lays 3 none, .methodLink RX12 180 yX12_coins, .instanceMethod yX12_coins, .selects RX12 yX12_coins yX12_coins, .code yX12_coins cX12_coins 3 (some .int), .methodLink RX12 68 yX12_purse, .instanceMethod yX12_purse, .selects RX12 yX12_purse yX12_purse, .code yX12_purse cX12_purse 2 (some .int), .methodLink RX12 64 yX12_get, .instanceMethod yX12_get, .selects RX12 yX12_get yX12_get, .code yX12_get cX12_get 3 (some .int)] ++ wsX120)
def wsX12_restore : List Cond := .code yX12_restore cX12_restore 1 (some .int) :: ([.fieldLink RX12 243 "TwiceAsRichModel" "hasImage" "Z", .fieldLink RX12 13 "TwiceAsRichModel" "image" "[I", .fieldLink RX12 9 "TwiceAsRichModel" "s" "[I", .methodLink RX12 60 yX12_lays, .static yX12_lays, .initialized RX12, .code yX12_lays cX12_lays 3 none, .methodLink RX12 180 yX12_coins, .instanceMethod yX12_coins, .selects RX12 yX12_coins yX12_coins, .code yX12_coins cX12_coins 3 (some .int), .methodLink RX12 68 yX12_purse, .instanceMethod yX12_purse, .selects RX12 yX12_purse yX12_purse, .code yX12_purse cX12_purse 2 (some .int), .methodLink RX12 64 yX12_get, .instanceMethod yX12_get, .selects RX12 yX12_get yX12_get, .code yX12_get cX12_get 3 (some .int)] ++ wsX120)
def wsX12_count_r1 : List Cond := [Cond.fieldLink RX12 9 "TwiceAsRichModel" "s" "[I", Cond.methodLink RX12 180 yX12_coins, Cond.instanceMethod yX12_coins, Cond.selects RX12 yX12_coins yX12_coins, Cond.initialized RX12, Cond.code yX12_coins cX12_coins 3 (some .int), Cond.methodLink RX12 68 yX12_purse, Cond.instanceMethod yX12_purse, Cond.selects RX12 yX12_purse yX12_purse, Cond.code yX12_purse cX12_purse 2 (some .int), Cond.methodLink RX12 64 yX12_get, Cond.instanceMethod yX12_get, Cond.selects RX12 yX12_get yX12_get, Cond.code yX12_get cX12_get 3 (some .int), Cond.methodLink RX12 96 yX12_breachesOf, Cond.instanceMethod yX12_breachesOf, Cond.selects RX12 yX12_breachesOf yX12_breachesOf, Cond.code yX12_breachesOf cX12_breachesOf 2 (some .int), Cond.methodLink RX12 90 yX12_tooMuchBy, Cond.instanceMethod yX12_tooMuchBy, Cond.selects RX12 yX12_tooMuchBy yX12_tooMuchBy, Cond.code yX12_tooMuchBy cX12_tooMuchBy 6 (some .int), Cond.methodLink RX12 78 yX12_beside, Cond.instanceMethod yX12_beside]
def wsX12_count_r2 : List Cond := [Cond.selects RX12 yX12_beside yX12_beside, Cond.code yX12_beside cX12_beside 5 (some .int), Cond.methodLink RX12 56 yX12_isHouse, Cond.instanceMethod yX12_isHouse, Cond.selects RX12 yX12_isHouse yX12_isHouse, Cond.code yX12_isHouse cX12_isHouse 2 (some .boolean), Cond.methodLink RX12 52 yX12_isIn, Cond.static yX12_isIn, Cond.code yX12_isIn cX12_isIn 6 (some .boolean), Cond.methodLink RX12 81 yX12_isLookedAt, Cond.instanceMethod yX12_isLookedAt, Cond.selects RX12 yX12_isLookedAt yX12_isLookedAt, Cond.code yX12_isLookedAt cX12_isLookedAt 2 (some .boolean), Cond.methodLink RX12 72 yX12_kind, Cond.instanceMethod yX12_kind, Cond.selects RX12 yX12_kind yX12_kind, Cond.code yX12_kind cX12_kind 2 (some .int), Cond.methodLink RX12 84 yX12_shows, Cond.instanceMethod yX12_shows, Cond.selects RX12 yX12_shows yX12_shows, Cond.code yX12_shows cX12_shows 3 (some .int), Cond.methodLink RX12 75 yX12_figure, Cond.instanceMethod yX12_figure, Cond.selects RX12 yX12_figure yX12_figure]
def wsX12_count_r3 : List Cond := [Cond.code yX12_figure cX12_figure 2 (some .int), Cond.methodLink RX12 87 yX12_mayHave, Cond.instanceMethod yX12_mayHave, Cond.selects RX12 yX12_mayHave yX12_mayHave, Cond.code yX12_mayHave cX12_mayHave 4 (some .int), Cond.methodLink RX12 93 yX12_bits, Cond.static yX12_bits, Cond.code yX12_bits cX12_bits 3 (some .int)]
def wsX12_count : List Cond := .code yX12_count cX12_count 4 (some .int) :: ((wsX12_count_r1 ++ (wsX12_count_r2 ++ wsX12_count_r3)) ++ wsX120)
def wsX12_feeBy : List Cond := .code yX12_feeBy cX12_feeBy 2 (some .int) :: ([])
def wsX12_keep : List Cond := .code yX12_keep cX12_keep 5 (some .int) :: ([.constantLong RX12 50 (7), .constantLong RX12 247 (9), .fieldLink RX12 22 "TwiceAsRichModel" "kept" "[I", .fieldLink RX12 34 "TwiceAsRichModel" "keptKind" "[I", .fieldLink RX12 37 "TwiceAsRichModel" "keptFigure" "[I", .methodLink RX12 154 yX12_isShelf, .static yX12_isShelf, .initialized RX12, .code yX12_isShelf cX12_isShelf 1 (some .boolean), .methodLink RX12 52 yX12_isIn, .static yX12_isIn, .code yX12_isIn cX12_isIn 6 (some .boolean)] ++ wsX120)
def wsX12_row : List Cond := .code yX12_row cX12_row 5 (some .int) :: ([.constantLong RX12 226 (2), .fieldLink RX12 22 "TwiceAsRichModel" "kept" "[I", .fieldLink RX12 25 "TwiceAsRichModel" "sort" "[I", .fieldLink RX12 28 "TwiceAsRichModel" "size" "[I", .fieldLink RX12 31 "TwiceAsRichModel" "element" "[I", .methodLink RX12 154 yX12_isShelf, .static yX12_isShelf, .initialized RX12, .code yX12_isShelf cX12_isShelf 1 (some .boolean), .constantLong RX12 50 (7), .methodLink RX12 52 yX12_isIn, .static yX12_isIn, .code yX12_isIn cX12_isIn 6 (some .boolean)] ++ wsX120)
def wsX12_put : List Cond := .code yX12_put cX12_put 5 (some .int) :: ([.fieldLink RX12 28 "TwiceAsRichModel" "size" "[I", .fieldLink RX12 31 "TwiceAsRichModel" "element" "[I", .fieldLink RX12 25 "TwiceAsRichModel" "sort" "[I", .methodLink RX12 157 yX12_wrongRow, .instanceMethod yX12_wrongRow, .selects RX12 yX12_wrongRow yX12_wrongRow, .initialized RX12, .code yX12_wrongRow cX12_wrongRow 3 (some .int), .fieldLink RX12 22 "TwiceAsRichModel" "kept" "[I", .methodLink RX12 154 yX12_isShelf, .static yX12_isShelf, .code yX12_isShelf cX12_isShelf 1 (some .boolean), .constantLong RX12 50 (7), .methodLink RX12 52 yX12_isIn, .static yX12_isIn, .code yX12_isIn cX12_isIn 6 (some .boolean)] ++ wsX120)
def wsX12_element : List Cond := .code yX12_element cX12_element 3 (some .long) :: ([.fieldLink RX12 22 "TwiceAsRichModel" "kept" "[I", .fieldLink RX12 28 "TwiceAsRichModel" "size" "[I", .fieldLink RX12 46 "TwiceAsRichModel" "thrown" "I", .fieldLink RX12 31 "TwiceAsRichModel" "element" "[I", .methodLink RX12 154 yX12_isShelf, .static yX12_isShelf, .initialized RX12, .code yX12_isShelf cX12_isShelf 1 (some .boolean), .constantLong RX12 50 (7), .methodLink RX12 52 yX12_isIn, .static yX12_isIn, .code yX12_isIn cX12_isIn 6 (some .boolean)] ++ wsX120)
def wsX12_copy : List Cond := .code yX12_copy cX12_copy 8 (some .int) :: ([.fieldLink RX12 22 "TwiceAsRichModel" "kept" "[I", .fieldLink RX12 25 "TwiceAsRichModel" "sort" "[I", .fieldLink RX12 28 "TwiceAsRichModel" "size" "[I", .fieldLink RX12 31 "TwiceAsRichModel" "element" "[I", .methodLink RX12 154 yX12_isShelf, .static yX12_isShelf, .initialized RX12, .code yX12_isShelf cX12_isShelf 1 (some .boolean), .constantLong RX12 50 (7), .methodLink RX12 52 yX12_isIn, .static yX12_isIn, .code yX12_isIn cX12_isIn 6 (some .boolean)] ++ wsX120)
def wsX12_fee : List Cond := .code yX12_fee cX12_fee 3 (some .int) :: ([.fieldLink RX12 34 "TwiceAsRichModel" "keptKind" "[I", .fieldLink RX12 37 "TwiceAsRichModel" "keptFigure" "[I", .methodLink RX12 175 yX12_wrongKept, .instanceMethod yX12_wrongKept, .selects RX12 yX12_wrongKept yX12_wrongKept, .initialized RX12, .code yX12_wrongKept cX12_wrongKept 2 (some .int), .fieldLink RX12 22 "TwiceAsRichModel" "kept" "[I", .methodLink RX12 154 yX12_isShelf, .static yX12_isShelf, .code yX12_isShelf cX12_isShelf 1 (some .boolean), .constantLong RX12 50 (7), .methodLink RX12 52 yX12_isIn, .static yX12_isIn, .code yX12_isIn cX12_isIn 6 (some .boolean), .methodLink RX12 249 yX12_feeBy, .static yX12_feeBy, .code yX12_feeBy cX12_feeBy 2 (some .int)] ++ wsX120)
def wsX12_toss : List Cond := .code yX12_toss cX12_toss 5 (some .int) :: ([.fieldLink RX12 34 "TwiceAsRichModel" "keptKind" "[I", .fieldLink RX12 37 "TwiceAsRichModel" "keptFigure" "[I", .methodLink RX12 175 yX12_wrongKept, .instanceMethod yX12_wrongKept, .selects RX12 yX12_wrongKept yX12_wrongKept, .initialized RX12, .code yX12_wrongKept cX12_wrongKept 2 (some .int), .fieldLink RX12 22 "TwiceAsRichModel" "kept" "[I", .methodLink RX12 154 yX12_isShelf, .static yX12_isShelf, .code yX12_isShelf cX12_isShelf 1 (some .boolean), .constantLong RX12 50 (7), .methodLink RX12 52 yX12_isIn, .static yX12_isIn, .code yX12_isIn cX12_isIn 6 (some .boolean), .methodLink RX12 249 yX12_feeBy, .static yX12_feeBy, .code yX12_feeBy cX12_feeBy 2 (some .int)] ++ wsX120)
def wsJ9_abs_0f7a4 : List Cond := .code yJ9_abs_0f7a4 cJ9_abs_0f7a4 1 (some .int) :: ([])
def wsJ9_max_7cf53 : List Cond := .code yJ9_max_7cf53 cJ9_max_7cf53 2 (some .int) :: ([])
def wsJ9_min_7cf53 : List Cond := .code yJ9_min_7cf53 cJ9_min_7cf53 2 (some .int) :: ([])
set_option maxRecDepth 20000 in
theorem ggX0_init_X6_init : GoodIn wsX0_init wsX6_init := goodIn_r _ [4, 5, 6, 7, 8, 9, 10, 11, 12, 13, 14, 15, 16, 17, 18, 19, 20] (by decide +kernel) (by decide +kernel)
set_option maxRecDepth 20000 in
theorem gX0_init_X6_init : GoodIn wsX0_init (wsX6_init) := ggX0_init_X6_init
theorem dX0_init_0 : decode cX0_init 0 = .ok (.aload_n 0, 1) := by decide +kernel
theorem dX0_init_1 : decode cX0_init 1 = .ok (.iload_n 1, 1) := by decide +kernel
theorem dX0_init_2 : decode cX0_init 2 = .ok (.invokespecial 1, 3) := by decide +kernel
theorem dX0_init_5 : decode cX0_init 5 = .ok (.return_, 1) := by decide +kernel
theorem dX0_kind_0 : decode cX0_kind 0 = .ok (.iconst 5, 1) := by decide +kernel
theorem dX0_kind_1 : decode cX0_kind 1 = .ok (.ireturn, 1) := by decide +kernel
set_option maxRecDepth 20000 in
theorem ggX0_shownOf_X6_shownOf : GoodIn wsX0_shownOf wsX6_shownOf := goodIn_r _ [8, 9, 10, 11, 12, 13, 14] (by decide +kernel) (by decide +kernel)
set_option maxRecDepth 20000 in
theorem gX0_shownOf_X6_shownOf_s7 : GoodIn wsX0_shownOf (va_wsSU RX0 7 yX6_shownOf wsX6_shownOf) := goodIn_app (goodIn_of _ (by decide +kernel)) ggX0_shownOf_X6_shownOf
theorem dX0_shownOf_0 : decode cX0_shownOf 0 = .ok (.aload_n 0, 1) := by decide +kernel
theorem dX0_shownOf_1 : decode cX0_shownOf 1 = .ok (.iload_n 1, 1) := by decide +kernel
theorem dX0_shownOf_2 : decode cX0_shownOf 2 = .ok (.invokespecial 7, 3) := by decide +kernel
theorem dX0_shownOf_5 : decode cX0_shownOf 5 = .ok (.aload_n 0, 1) := by decide +kernel
theorem dX0_shownOf_6 : decode cX0_shownOf 6 = .ok (.getfield 11, 3) := by decide +kernel
theorem dX0_shownOf_9 : decode cX0_shownOf 9 = .ok (.iadd, 1) := by decide +kernel
theorem dX0_shownOf_10 : decode cX0_shownOf 10 = .ok (.ireturn, 1) := by decide +kernel
set_option maxRecDepth 20000 in
theorem ggX0_weekly_X6_weekly : GoodIn wsX0_weekly wsX6_weekly := goodIn_r _ [6, 7, 8, 9, 10, 11, 12] (by decide +kernel) (by decide +kernel)
set_option maxRecDepth 20000 in
theorem gX0_weekly_X6_weekly_s17 : GoodIn wsX0_weekly (va_wsSU RX0 17 yX6_weekly wsX6_weekly) := goodIn_app (goodIn_of _ (by decide +kernel)) ggX0_weekly_X6_weekly
theorem dX0_weekly_0 : decode cX0_weekly 0 = .ok (.aload_n 0, 1) := by decide +kernel
theorem dX0_weekly_1 : decode cX0_weekly 1 = .ok (.invokespecial 17, 3) := by decide +kernel
theorem dX0_weekly_4 : decode cX0_weekly 4 = .ok (.iconst 1, 1) := by decide +kernel
theorem dX0_weekly_5 : decode cX0_weekly 5 = .ok (.isub, 1) := by decide +kernel
theorem dX0_weekly_6 : decode cX0_weekly 6 = .ok (.ireturn, 1) := by decide +kernel
set_option maxRecDepth 20000 in
theorem ggX0_price_X6_price : GoodIn wsX0_price wsX6_price := goodIn_r _ [8, 9, 10, 11, 12, 13, 14] (by decide +kernel) (by decide +kernel)
set_option maxRecDepth 20000 in
theorem gX0_price_X6_price_s21 : GoodIn wsX0_price (va_wsSU RX0 21 yX6_price wsX6_price) := goodIn_app (goodIn_of _ (by decide +kernel)) ggX0_price_X6_price
theorem dX0_price_0 : decode cX0_price 0 = .ok (.aload_n 0, 1) := by decide +kernel
theorem dX0_price_1 : decode cX0_price 1 = .ok (.invokespecial 21, 3) := by decide +kernel
theorem dX0_price_4 : decode cX0_price 4 = .ok (.aload_n 0, 1) := by decide +kernel
theorem dX0_price_5 : decode cX0_price 5 = .ok (.getfield 11, 3) := by decide +kernel
theorem dX0_price_8 : decode cX0_price 8 = .ok (.iadd, 1) := by decide +kernel
theorem dX0_price_9 : decode cX0_price 9 = .ok (.ireturn, 1) := by decide +kernel
theorem dX0_fail_0 : decode cX0_fail 0 = .ok (.new 24, 3) := by decide +kernel
theorem dX0_fail_3 : decode cX0_fail 3 = .ok (.dup, 1) := by decide +kernel
theorem dX0_fail_4 : decode cX0_fail 4 = .ok (.invokespecial 26, 3) := by decide +kernel
theorem dX0_fail_7 : decode cX0_fail 7 = .ok (.athrow, 1) := by decide +kernel
set_option maxRecDepth 20000 in
theorem ggX1_init_X10_init : GoodIn wsX1_init wsX10_init := goodIn_r _ [4, 5, 6, 7, 8, 9, 10, 11, 12, 13, 14, 15, 16, 17, 18, 19, 20] (by decide +kernel) (by decide +kernel)
set_option maxRecDepth 20000 in
theorem gX1_init_X10_init : GoodIn wsX1_init (wsX10_init) := ggX1_init_X10_init
theorem dX1_init_0 : decode cX1_init 0 = .ok (.aload_n 0, 1) := by decide +kernel
theorem dX1_init_1 : decode cX1_init 1 = .ok (.iload_n 1, 1) := by decide +kernel
theorem dX1_init_2 : decode cX1_init 2 = .ok (.invokespecial 1, 3) := by decide +kernel
theorem dX1_init_5 : decode cX1_init 5 = .ok (.return_, 1) := by decide +kernel
theorem dX1_kind_0 : decode cX1_kind 0 = .ok (.bipush 7, 2) := by decide +kernel
theorem dX1_kind_2 : decode cX1_kind 2 = .ok (.ireturn, 1) := by decide +kernel
theorem dX1_isLookedAt_0 : decode cX1_isLookedAt 0 = .ok (.iconst 1, 1) := by decide +kernel
theorem dX1_isLookedAt_1 : decode cX1_isLookedAt 1 = .ok (.ireturn, 1) := by decide +kernel
set_option maxRecDepth 20000 in
theorem ggX1_weekly_X10_weekly : GoodIn wsX1_weekly wsX10_weekly := goodIn_r _ [8] (by decide +kernel) (by decide +kernel)
set_option maxRecDepth 20000 in
theorem gX1_weekly_X10_weekly_s7 : GoodIn wsX1_weekly (va_wsSU RX1 7 yX10_weekly wsX10_weekly) := goodIn_app (goodIn_of _ (by decide +kernel)) ggX1_weekly_X10_weekly
theorem dX1_weekly_0 : decode cX1_weekly 0 = .ok (.aload_n 0, 1) := by decide +kernel
theorem dX1_weekly_1 : decode cX1_weekly 1 = .ok (.invokespecial 7, 3) := by decide +kernel
theorem dX1_weekly_4 : decode cX1_weekly 4 = .ok (.aload_n 0, 1) := by decide +kernel
theorem dX1_weekly_5 : decode cX1_weekly 5 = .ok (.getfield 11, 3) := by decide +kernel
theorem dX1_weekly_8 : decode cX1_weekly 8 = .ok (.iadd, 1) := by decide +kernel
theorem dX1_weekly_9 : decode cX1_weekly 9 = .ok (.ireturn, 1) := by decide +kernel
set_option maxRecDepth 20000 in
theorem ggX1_price_X10_price : GoodIn wsX1_price wsX10_price := goodIn_r _ [6, 7, 8, 9, 10, 11, 12] (by decide +kernel) (by decide +kernel)
set_option maxRecDepth 20000 in
theorem gX1_price_X10_price_s17 : GoodIn wsX1_price (va_wsSU RX1 17 yX10_price wsX10_price) := goodIn_app (goodIn_of _ (by decide +kernel)) ggX1_price_X10_price
theorem dX1_price_0 : decode cX1_price 0 = .ok (.iconst 2, 1) := by decide +kernel
theorem dX1_price_1 : decode cX1_price 1 = .ok (.aload_n 0, 1) := by decide +kernel
theorem dX1_price_2 : decode cX1_price 2 = .ok (.invokespecial 17, 3) := by decide +kernel
theorem dX1_price_5 : decode cX1_price 5 = .ok (.imul, 1) := by decide +kernel
theorem dX1_price_6 : decode cX1_price 6 = .ok (.ireturn, 1) := by decide +kernel
theorem dX1_hasFailure_0 : decode cX1_hasFailure 0 = .ok (.aload_n 0, 1) := by decide +kernel
theorem dX1_hasFailure_1 : decode cX1_hasFailure 1 = .ok (.getfield 11, 3) := by decide +kernel
theorem dX1_hasFailure_4 : decode cX1_hasFailure 4 = .ok (.ifCond .eq 7, 3) := by decide +kernel
theorem dX1_hasFailure_7 : decode cX1_hasFailure 7 = .ok (.iconst 1, 1) := by decide +kernel
theorem dX1_hasFailure_8 : decode cX1_hasFailure 8 = .ok (.goto 4, 3) := by decide +kernel
theorem dX1_hasFailure_11 : decode cX1_hasFailure 11 = .ok (.iconst 0, 1) := by decide +kernel
theorem dX1_hasFailure_12 : decode cX1_hasFailure 12 = .ok (.ireturn, 1) := by decide +kernel
set_option maxRecDepth 20000 in
theorem ggX2_init_X3_init : GoodIn wsX2_init wsX3_init := goodIn_r _ [4, 5, 6, 7, 8, 9, 10, 11, 12, 13, 14, 15, 16] (by decide +kernel) (by decide +kernel)
set_option maxRecDepth 20000 in
theorem gX2_init_X3_init : GoodIn wsX2_init (wsX3_init) := ggX2_init_X3_init
theorem dX2_init_0 : decode cX2_init 0 = .ok (.aload_n 0, 1) := by decide +kernel
theorem dX2_init_1 : decode cX2_init 1 = .ok (.iload_n 1, 1) := by decide +kernel
theorem dX2_init_2 : decode cX2_init 2 = .ok (.invokespecial 1, 3) := by decide +kernel
theorem dX2_init_5 : decode cX2_init 5 = .ok (.return_, 1) := by decide +kernel
theorem dX2_kind_0 : decode cX2_kind 0 = .ok (.iconst 1, 1) := by decide +kernel
theorem dX2_kind_1 : decode cX2_kind 1 = .ok (.ireturn, 1) := by decide +kernel
set_option maxRecDepth 20000 in
theorem ggX2_allowedBy_X3_allowedBy : GoodIn wsX2_allowedBy wsX3_allowedBy := goodIn_r _ [8] (by decide +kernel) (by decide +kernel)
set_option maxRecDepth 20000 in
theorem gX2_allowedBy_X3_allowedBy_s7 : GoodIn wsX2_allowedBy (va_wsSU RX2 7 yX3_allowedBy wsX3_allowedBy) := goodIn_app (goodIn_of _ (by decide +kernel)) ggX2_allowedBy_X3_allowedBy
theorem dX2_allowedBy_0 : decode cX2_allowedBy 0 = .ok (.aload_n 0, 1) := by decide +kernel
theorem dX2_allowedBy_1 : decode cX2_allowedBy 1 = .ok (.iload_n 1, 1) := by decide +kernel
theorem dX2_allowedBy_2 : decode cX2_allowedBy 2 = .ok (.invokespecial 7, 3) := by decide +kernel
theorem dX2_allowedBy_5 : decode cX2_allowedBy 5 = .ok (.aload_n 0, 1) := by decide +kernel
theorem dX2_allowedBy_6 : decode cX2_allowedBy 6 = .ok (.getfield 11, 3) := by decide +kernel
theorem dX2_allowedBy_9 : decode cX2_allowedBy 9 = .ok (.iadd, 1) := by decide +kernel
theorem dX2_allowedBy_10 : decode cX2_allowedBy 10 = .ok (.ireturn, 1) := by decide +kernel
set_option maxRecDepth 20000 in
theorem ggX2_weekly_X3_weekly : GoodIn wsX2_weekly wsX3_weekly := goodIn_r _ [8] (by decide +kernel) (by decide +kernel)
set_option maxRecDepth 20000 in
theorem gX2_weekly_X3_weekly_s17 : GoodIn wsX2_weekly (va_wsSU RX2 17 yX3_weekly wsX3_weekly) := goodIn_app (goodIn_of _ (by decide +kernel)) ggX2_weekly_X3_weekly
theorem dX2_weekly_0 : decode cX2_weekly 0 = .ok (.aload_n 0, 1) := by decide +kernel
theorem dX2_weekly_1 : decode cX2_weekly 1 = .ok (.invokespecial 17, 3) := by decide +kernel
theorem dX2_weekly_4 : decode cX2_weekly 4 = .ok (.aload_n 0, 1) := by decide +kernel
theorem dX2_weekly_5 : decode cX2_weekly 5 = .ok (.getfield 11, 3) := by decide +kernel
theorem dX2_weekly_8 : decode cX2_weekly 8 = .ok (.iadd, 1) := by decide +kernel
theorem dX2_weekly_9 : decode cX2_weekly 9 = .ok (.ireturn, 1) := by decide +kernel
set_option maxRecDepth 20000 in
theorem ggX2_price_X3_price : GoodIn wsX2_price wsX3_price := goodIn_r _ [8] (by decide +kernel) (by decide +kernel)
set_option maxRecDepth 20000 in
theorem gX2_price_X3_price_s21 : GoodIn wsX2_price (va_wsSU RX2 21 yX3_price wsX3_price) := goodIn_app (goodIn_of _ (by decide +kernel)) ggX2_price_X3_price
theorem dX2_price_0 : decode cX2_price 0 = .ok (.aload_n 0, 1) := by decide +kernel
theorem dX2_price_1 : decode cX2_price 1 = .ok (.invokespecial 21, 3) := by decide +kernel
theorem dX2_price_4 : decode cX2_price 4 = .ok (.aload_n 0, 1) := by decide +kernel
theorem dX2_price_5 : decode cX2_price 5 = .ok (.getfield 11, 3) := by decide +kernel
theorem dX2_price_8 : decode cX2_price 8 = .ok (.iconst 1, 1) := by decide +kernel
theorem dX2_price_9 : decode cX2_price 9 = .ok (.iadd, 1) := by decide +kernel
theorem dX2_price_10 : decode cX2_price 10 = .ok (.imul, 1) := by decide +kernel
theorem dX2_price_11 : decode cX2_price 11 = .ok (.ireturn, 1) := by decide +kernel
theorem dX3_init_0 : decode cX3_init 0 = .ok (.aload_n 0, 1) := by decide +kernel
theorem dX3_init_1 : decode cX3_init 1 = .ok (.invokespecial 1, 3) := by decide +kernel
theorem dX3_init_4 : decode cX3_init 4 = .ok (.aload_n 0, 1) := by decide +kernel
theorem dX3_init_5 : decode cX3_init 5 = .ok (.iload_n 1, 1) := by decide +kernel
theorem dX3_init_6 : decode cX3_init 6 = .ok (.putfield 7, 3) := by decide +kernel
theorem dX3_init_9 : decode cX3_init 9 = .ok (.return_, 1) := by decide +kernel
theorem dX3_kind_0 : decode cX3_kind 0 = .ok (.iconst 0, 1) := by decide +kernel
theorem dX3_kind_1 : decode cX3_kind 1 = .ok (.ireturn, 1) := by decide +kernel
theorem dX3_isLookedAt_0 : decode cX3_isLookedAt 0 = .ok (.iconst 1, 1) := by decide +kernel
theorem dX3_isLookedAt_1 : decode cX3_isLookedAt 1 = .ok (.ireturn, 1) := by decide +kernel
theorem dX3_shownOf_0 : decode cX3_shownOf 0 = .ok (.iload_n 1, 1) := by decide +kernel
theorem dX3_shownOf_1 : decode cX3_shownOf 1 = .ok (.ireturn, 1) := by decide +kernel
theorem dX3_allowedBy_0 : decode cX3_allowedBy 0 = .ok (.iconst 2, 1) := by decide +kernel
theorem dX3_allowedBy_1 : decode cX3_allowedBy 1 = .ok (.iload_n 1, 1) := by decide +kernel
theorem dX3_allowedBy_2 : decode cX3_allowedBy 2 = .ok (.imul, 1) := by decide +kernel
theorem dX3_allowedBy_3 : decode cX3_allowedBy 3 = .ok (.ireturn, 1) := by decide +kernel
theorem dX3_weekly_0 : decode cX3_weekly 0 = .ok (.iconst 2, 1) := by decide +kernel
theorem dX3_weekly_1 : decode cX3_weekly 1 = .ok (.ireturn, 1) := by decide +kernel
theorem dX3_price_0 : decode cX3_price 0 = .ok (.iconst 5, 1) := by decide +kernel
theorem dX3_price_1 : decode cX3_price 1 = .ok (.ireturn, 1) := by decide +kernel
theorem dX3_hasFailure_0 : decode cX3_hasFailure 0 = .ok (.aload_n 0, 1) := by decide +kernel
theorem dX3_hasFailure_1 : decode cX3_hasFailure 1 = .ok (.getfield 7, 3) := by decide +kernel
theorem dX3_hasFailure_4 : decode cX3_hasFailure 4 = .ok (.ifCond .eq 7, 3) := by decide +kernel
theorem dX3_hasFailure_7 : decode cX3_hasFailure 7 = .ok (.iconst 1, 1) := by decide +kernel
theorem dX3_hasFailure_8 : decode cX3_hasFailure 8 = .ok (.goto 4, 3) := by decide +kernel
theorem dX3_hasFailure_11 : decode cX3_hasFailure 11 = .ok (.iconst 0, 1) := by decide +kernel
theorem dX3_hasFailure_12 : decode cX3_hasFailure 12 = .ok (.ireturn, 1) := by decide +kernel
theorem dX3_fail_0 : decode cX3_fail 0 = .ok (.new 13, 3) := by decide +kernel
theorem dX3_fail_3 : decode cX3_fail 3 = .ok (.dup, 1) := by decide +kernel
theorem dX3_fail_4 : decode cX3_fail 4 = .ok (.invokespecial 15, 3) := by decide +kernel
theorem dX3_fail_7 : decode cX3_fail 7 = .ok (.athrow, 1) := by decide +kernel
set_option maxRecDepth 20000 in
theorem ggX4_init_X2_init : GoodIn wsX4_init wsX2_init := goodIn_r _ [4, 5, 6, 7, 8, 9, 10, 11, 12, 13, 14, 15, 16, 17, 18, 19, 20] (by decide +kernel) (by decide +kernel)
set_option maxRecDepth 20000 in
theorem gX4_init_X2_init : GoodIn wsX4_init (wsX2_init) := ggX4_init_X2_init
theorem dX4_init_0 : decode cX4_init 0 = .ok (.aload_n 0, 1) := by decide +kernel
theorem dX4_init_1 : decode cX4_init 1 = .ok (.iload_n 1, 1) := by decide +kernel
theorem dX4_init_2 : decode cX4_init 2 = .ok (.invokespecial 1, 3) := by decide +kernel
theorem dX4_init_5 : decode cX4_init 5 = .ok (.return_, 1) := by decide +kernel
theorem dX4_kind_0 : decode cX4_kind 0 = .ok (.iconst 4, 1) := by decide +kernel
theorem dX4_kind_1 : decode cX4_kind 1 = .ok (.ireturn, 1) := by decide +kernel
theorem dX4_shownOf_0 : decode cX4_shownOf 0 = .ok (.aload_n 0, 1) := by decide +kernel
theorem dX4_shownOf_1 : decode cX4_shownOf 1 = .ok (.iload_n 1, 1) := by decide +kernel
theorem dX4_shownOf_2 : decode cX4_shownOf 2 = .ok (.invokespecial 7, 3) := by decide +kernel
theorem dX4_shownOf_5 : decode cX4_shownOf 5 = .ok (.iconst 2, 1) := by decide +kernel
theorem dX4_shownOf_6 : decode cX4_shownOf 6 = .ok (.idiv, 1) := by decide +kernel
theorem dX4_shownOf_7 : decode cX4_shownOf 7 = .ok (.ireturn, 1) := by decide +kernel
set_option maxRecDepth 20000 in
theorem ggX4_allowedBy_X2_allowedBy : GoodIn wsX4_allowedBy wsX2_allowedBy := goodIn_r _ [10, 11, 12, 13, 14, 15, 16, 17, 18, 19, 20, 21, 22, 23, 24, 25, 26] (by decide +kernel) (by decide +kernel)
set_option maxRecDepth 20000 in
theorem gX4_allowedBy_X2_allowedBy_s11 : GoodIn wsX4_allowedBy (va_wsSU RX4 11 yX2_allowedBy wsX2_allowedBy) := goodIn_app (goodIn_of _ (by decide +kernel)) ggX4_allowedBy_X2_allowedBy
theorem dX4_allowedBy_0 : decode cX4_allowedBy 0 = .ok (.iconst 0, 1) := by decide +kernel
theorem dX4_allowedBy_1 : decode cX4_allowedBy 1 = .ok (.aload_n 0, 1) := by decide +kernel
theorem dX4_allowedBy_2 : decode cX4_allowedBy 2 = .ok (.iload_n 1, 1) := by decide +kernel
theorem dX4_allowedBy_3 : decode cX4_allowedBy 3 = .ok (.invokespecial 11, 3) := by decide +kernel
theorem dX4_allowedBy_6 : decode cX4_allowedBy 6 = .ok (.iconst 1, 1) := by decide +kernel
theorem dX4_allowedBy_7 : decode cX4_allowedBy 7 = .ok (.isub, 1) := by decide +kernel
theorem dX4_allowedBy_8 : decode cX4_allowedBy 8 = .ok (.invokestatic 14, 3) := by decide +kernel
theorem dX4_allowedBy_11 : decode cX4_allowedBy 11 = .ok (.ireturn, 1) := by decide +kernel
set_option maxRecDepth 20000 in
theorem ggX4_weekly_X2_weekly : GoodIn wsX4_weekly wsX2_weekly := goodIn_r _ [6, 7, 8, 9, 10, 11, 12, 13, 14, 15, 16, 17, 18, 19, 20, 21, 22] (by decide +kernel) (by decide +kernel)
set_option maxRecDepth 20000 in
theorem gX4_weekly_X2_weekly_s20 : GoodIn wsX4_weekly (va_wsSU RX4 20 yX2_weekly wsX2_weekly) := goodIn_app (goodIn_of _ (by decide +kernel)) ggX4_weekly_X2_weekly
theorem dX4_weekly_0 : decode cX4_weekly 0 = .ok (.aload_n 0, 1) := by decide +kernel
theorem dX4_weekly_1 : decode cX4_weekly 1 = .ok (.invokespecial 20, 3) := by decide +kernel
theorem dX4_weekly_4 : decode cX4_weekly 4 = .ok (.iconst 1, 1) := by decide +kernel
theorem dX4_weekly_5 : decode cX4_weekly 5 = .ok (.isub, 1) := by decide +kernel
theorem dX4_weekly_6 : decode cX4_weekly 6 = .ok (.ireturn, 1) := by decide +kernel
set_option maxRecDepth 20000 in
theorem ggX4_price_X2_price : GoodIn wsX4_price wsX2_price := goodIn_r _ [6, 7, 8, 9, 10, 11, 12, 13, 14, 15, 16, 17, 18, 19, 20, 21, 22] (by decide +kernel) (by decide +kernel)
set_option maxRecDepth 20000 in
theorem gX4_price_X2_price_s24 : GoodIn wsX4_price (va_wsSU RX4 24 yX2_price wsX2_price) := goodIn_app (goodIn_of _ (by decide +kernel)) ggX4_price_X2_price
theorem dX4_price_0 : decode cX4_price 0 = .ok (.aload_n 0, 1) := by decide +kernel
theorem dX4_price_1 : decode cX4_price 1 = .ok (.invokespecial 24, 3) := by decide +kernel
theorem dX4_price_4 : decode cX4_price 4 = .ok (.iconst 1, 1) := by decide +kernel
theorem dX4_price_5 : decode cX4_price 5 = .ok (.iadd, 1) := by decide +kernel
theorem dX4_price_6 : decode cX4_price 6 = .ok (.ireturn, 1) := by decide +kernel
set_option maxRecDepth 20000 in
theorem ggX5_init_X7_init : GoodIn wsX5_init wsX7_init := goodIn_r _ [15, 16, 2, 3, 17, 18, 4, 19, 28, 29, 30, 31] (by decide +kernel) (by decide +kernel)
set_option maxRecDepth 20000 in
theorem gX5_init_X7_init : GoodIn wsX5_init (wsX7_init) := ggX5_init_X7_init
theorem dX5_init_0 : decode cX5_init 0 = .ok (.aload_n 0, 1) := by decide +kernel
theorem dX5_init_1 : decode cX5_init 1 = .ok (.invokespecial 3, 3) := by decide +kernel
theorem dX5_init_4 : decode cX5_init 4 = .ok (.aload_n 0, 1) := by decide +kernel
theorem dX5_init_5 : decode cX5_init 5 = .ok (.bipush 6, 2) := by decide +kernel
theorem dX5_init_7 : decode cX5_init 7 = .ok (.newarray .int, 2) := by decide +kernel
theorem dX5_init_9 : decode cX5_init 9 = .ok (.putfield 9, 3) := by decide +kernel
theorem dX5_init_12 : decode cX5_init 12 = .ok (.aload_n 0, 1) := by decide +kernel
theorem dX5_init_13 : decode cX5_init 13 = .ok (.new 15, 3) := by decide +kernel
theorem dX5_init_16 : decode cX5_init 16 = .ok (.dup, 1) := by decide +kernel
theorem dX5_init_17 : decode cX5_init 17 = .ok (.invokespecial 17, 3) := by decide +kernel
theorem dX5_init_20 : decode cX5_init 20 = .ok (.putfield 18, 3) := by decide +kernel
theorem dX5_init_23 : decode cX5_init 23 = .ok (.aload_n 0, 1) := by decide +kernel
theorem dX5_init_24 : decode cX5_init 24 = .ok (.bipush 6, 2) := by decide +kernel
theorem dX5_init_26 : decode cX5_init 26 = .ok (.newarray .int, 2) := by decide +kernel
theorem dX5_init_28 : decode cX5_init 28 = .ok (.putfield 22, 3) := by decide +kernel
theorem dX5_init_31 : decode cX5_init 31 = .ok (.aload_n 0, 1) := by decide +kernel
theorem dX5_init_32 : decode cX5_init 32 = .ok (.bipush 6, 2) := by decide +kernel
theorem dX5_init_34 : decode cX5_init 34 = .ok (.bipush 21, 2) := by decide +kernel
theorem dX5_init_36 : decode cX5_init 36 = .ok (.multianewarray 25 2, 4) := by decide +kernel
theorem dX5_init_40 : decode cX5_init 40 = .ok (.putfield 27, 3) := by decide +kernel
theorem dX5_init_43 : decode cX5_init 43 = .ok (.return_, 1) := by decide +kernel
set_option maxRecDepth 20000 in
theorem ggX5_search_J7_fill_53178 : GoodIn wsX5_search wsJ7_fill_53178 := goodIn_r _ [17] (by decide +kernel) (by decide +kernel)
set_option maxRecDepth 20000 in
theorem gX5_search_J7_fill_53178 : GoodIn wsX5_search (va_wsS RX5 43 yJ7_fill_53178 wsJ7_fill_53178) := goodIn_app (goodIn_of _ (by decide +kernel)) ggX5_search_J7_fill_53178
set_option maxRecDepth 20000 in
theorem ggX5_search_X7_become : GoodIn wsX5_search wsX7_become := goodIn_r _ [22, 23, 24, 25, 26, 178, 179, 180, 181] (by decide +kernel) (by decide +kernel)
set_option maxRecDepth 20000 in
theorem gX5_search_X7_become : GoodIn wsX5_search (wsV RX5 52 RX7 yX7_become wsX7_become) := goodIn_app (goodIn_of _ (by decide +kernel)) ggX5_search_X7_become
set_option maxRecDepth 20000 in
theorem ggX5_search_X7_behind : GoodIn wsX5_search wsX7_behind := goodIn_r _ [30, 25, 31, 32, 33, 21, 34, 26, 178, 179, 180, 181] (by decide +kernel) (by decide +kernel)
set_option maxRecDepth 20000 in
theorem gX5_search_X7_behind : GoodIn wsX5_search (wsV RX5 65 RX7 yX7_behind wsX7_behind) := goodIn_app (goodIn_of _ (by decide +kernel)) ggX5_search_X7_behind
set_option maxRecDepth 20000 in
theorem ggX5_search_X5_noteWhatSuits : GoodIn wsX5_search wsX5_noteWhatSuits := goodIn_r _ [39, 40, 7, 8, 14, 15, 16, 17, 41, 42, 43, 21, 44, 23, 45, 24, 46, 47, 48, 49, 50, 51, 52, 53, 54, 55, 56, 57, 58, 59, 60, 61, 62, 63, 64, 65, 66, 67, 68, 69, 70, 71, 72, 73, 74, 75, 76, 77, 78, 79, 80, 81, 82, 83, 84, 85, 86, 87, 88, 89, 90, 91, 92, 93, 94, 95, 96, 97, 98, 99, 100, 101, 102, 103, 104, 105, 106, 107, 108, 109, 110, 111, 112, 113, 114, 115, 116, 117, 118, 119, 120, 121, 122, 123, 124, 125, 126, 127, 128, 129, 130, 131, 132, 133, 170, 171, 172, 173, 174, 175, 176, 177, 178, 179, 180, 181, 182, 183, 184, 185, 186, 187, 188, 189] (by decide +kernel) (by decide +kernel)
set_option maxRecDepth 20000 in
theorem gX5_search_X5_noteWhatSuits : GoodIn wsX5_search (wsV RX5 69 RX5 yX5_noteWhatSuits wsX5_noteWhatSuits) := goodIn_app (goodIn_of _ (by decide +kernel)) ggX5_search_X5_noteWhatSuits
set_option maxRecDepth 20000 in
theorem ggX5_search_X5_part : GoodIn wsX5_search wsX5_part := goodIn_r _ [137, 7, 6, 138, 120, 121, 122, 8, 139, 140, 141, 38, 142, 143, 32, 33, 21, 34, 26, 25, 144, 145, 146, 147, 40, 148, 149, 150, 151, 2, 1, 3, 152, 153, 154, 4, 5, 155, 156, 157, 158, 159, 160, 161, 162, 9, 163, 164, 165, 166, 167, 168, 169, 134, 135, 136, 170, 171, 172, 173, 174, 175, 176, 177, 178, 179, 180, 181] (by decide +kernel) (by decide +kernel)
set_option maxRecDepth 20000 in
theorem gX5_search_X5_part : GoodIn wsX5_search (wsV RX5 73 RX5 yX5_part wsX5_part) := goodIn_app (goodIn_of _ (by decide +kernel)) ggX5_search_X5_part
theorem dX5_search_0 : decode cX5_search 0 = .ok (.aload_n 0, 1) := by decide +kernel
theorem dX5_search_1 : decode cX5_search 1 = .ok (.iconst 0, 1) := by decide +kernel
theorem dX5_search_2 : decode cX5_search 2 = .ok (.putfield 30, 3) := by decide +kernel
theorem dX5_search_5 : decode cX5_search 5 = .ok (.aload_n 0, 1) := by decide +kernel
theorem dX5_search_6 : decode cX5_search 6 = .ok (.iconst 0, 1) := by decide +kernel
theorem dX5_search_7 : decode cX5_search 7 = .ok (.putfield 34, 3) := by decide +kernel
theorem dX5_search_10 : decode cX5_search 10 = .ok (.aload_n 0, 1) := by decide +kernel
theorem dX5_search_11 : decode cX5_search 11 = .ok (.iconst 0, 1) := by decide +kernel
theorem dX5_search_12 : decode cX5_search 12 = .ok (.putfield 37, 3) := by decide +kernel
theorem dX5_search_15 : decode cX5_search 15 = .ok (.aload_n 0, 1) := by decide +kernel
theorem dX5_search_16 : decode cX5_search 16 = .ok (.iconst 0, 1) := by decide +kernel
theorem dX5_search_17 : decode cX5_search 17 = .ok (.putfield 40, 3) := by decide +kernel
theorem dX5_search_20 : decode cX5_search 20 = .ok (.aload_n 0, 1) := by decide +kernel
theorem dX5_search_21 : decode cX5_search 21 = .ok (.getfield 9, 3) := by decide +kernel
theorem dX5_search_24 : decode cX5_search 24 = .ok (.iconst 0, 1) := by decide +kernel
theorem dX5_search_25 : decode cX5_search 25 = .ok (.invokestatic 43, 3) := by decide +kernel
theorem dX5_search_28 : decode cX5_search 28 = .ok (.aload_n 1, 1) := by decide +kernel
theorem dX5_search_29 : decode cX5_search 29 = .ok (.getfield 49, 3) := by decide +kernel
theorem dX5_search_32 : decode cX5_search 32 = .ok (.bipush 6, 2) := by decide +kernel
theorem dX5_search_34 : decode cX5_search 34 = .ok (.if_icmp .gt 13, 3) := by decide +kernel
theorem dX5_search_37 : decode cX5_search 37 = .ok (.iload_n 2, 1) := by decide +kernel
theorem dX5_search_38 : decode cX5_search 38 = .ok (.ifCond .lt 9, 3) := by decide +kernel
theorem dX5_search_41 : decode cX5_search 41 = .ok (.iload_n 2, 1) := by decide +kernel
theorem dX5_search_42 : decode cX5_search 42 = .ok (.bipush 20, 2) := by decide +kernel
theorem dX5_search_44 : decode cX5_search 44 = .ok (.if_icmp .le 4, 3) := by decide +kernel
theorem dX5_search_47 : decode cX5_search 47 = .ok (.return_, 1) := by decide +kernel
theorem dX5_search_48 : decode cX5_search 48 = .ok (.aload_n 0, 1) := by decide +kernel
theorem dX5_search_49 : decode cX5_search 49 = .ok (.getfield 18, 3) := by decide +kernel
theorem dX5_search_52 : decode cX5_search 52 = .ok (.aload_n 1, 1) := by decide +kernel
theorem dX5_search_53 : decode cX5_search 53 = .ok (.invokevirtual 52, 3) := by decide +kernel
theorem dX5_search_56 : decode cX5_search 56 = .ok (.aload_n 1, 1) := by decide +kernel
theorem dX5_search_57 : decode cX5_search 57 = .ok (.getfield 56, 3) := by decide +kernel
theorem dX5_search_60 : decode cX5_search 60 = .ok (.iconst 0, 1) := by decide +kernel
theorem dX5_search_61 : decode cX5_search 61 = .ok (.aload_n 0, 1) := by decide +kernel
theorem dX5_search_62 : decode cX5_search 62 = .ok (.getfield 22, 3) := by decide +kernel
theorem dX5_search_65 : decode cX5_search 65 = .ok (.iconst 0, 1) := by decide +kernel
theorem dX5_search_66 : decode cX5_search 66 = .ok (.aload_n 1, 1) := by decide +kernel
theorem dX5_search_67 : decode cX5_search 67 = .ok (.getfield 49, 3) := by decide +kernel
theorem dX5_search_70 : decode cX5_search 70 = .ok (.invokestatic 59, 3) := by decide +kernel
theorem dX5_search_73 : decode cX5_search 73 = .ok (.iconst 0, 1) := by decide +kernel
theorem dX5_search_74 : decode cX5_search 74 = .ok (.istore_n 3, 1) := by decide +kernel
theorem dX5_search_75 : decode cX5_search 75 = .ok (.iload_n 3, 1) := by decide +kernel
theorem dX5_search_76 : decode cX5_search 76 = .ok (.aload_n 1, 1) := by decide +kernel
theorem dX5_search_77 : decode cX5_search 77 = .ok (.getfield 49, 3) := by decide +kernel
theorem dX5_search_80 : decode cX5_search 80 = .ok (.if_icmp .ge 35, 3) := by decide +kernel
theorem dX5_search_83 : decode cX5_search 83 = .ok (.aload_n 0, 1) := by decide +kernel
theorem dX5_search_84 : decode cX5_search 84 = .ok (.getfield 18, 3) := by decide +kernel
theorem dX5_search_87 : decode cX5_search 87 = .ok (.iload_n 3, 1) := by decide +kernel
theorem dX5_search_88 : decode cX5_search 88 = .ok (.invokevirtual 65, 3) := by decide +kernel
theorem dX5_search_91 : decode cX5_search 91 = .ok (.iconst (-1), 1) := by decide +kernel
theorem dX5_search_92 : decode cX5_search 92 = .ok (.if_icmp .eq 17, 3) := by decide +kernel
theorem dX5_search_95 : decode cX5_search 95 = .ok (.aload_n 0, 1) := by decide +kernel
theorem dX5_search_96 : decode cX5_search 96 = .ok (.iload_n 3, 1) := by decide +kernel
theorem dX5_search_97 : decode cX5_search 97 = .ok (.aload_n 0, 1) := by decide +kernel
theorem dX5_search_98 : decode cX5_search 98 = .ok (.getfield 18, 3) := by decide +kernel
theorem dX5_search_101 : decode cX5_search 101 = .ok (.iload_n 3, 1) := by decide +kernel
theorem dX5_search_102 : decode cX5_search 102 = .ok (.invokevirtual 65, 3) := by decide +kernel
theorem dX5_search_105 : decode cX5_search 105 = .ok (.iload_n 2, 1) := by decide +kernel
theorem dX5_search_106 : decode cX5_search 106 = .ok (.invokevirtual 69, 3) := by decide +kernel
theorem dX5_search_109 : decode cX5_search 109 = .ok (.iinc 3 1, 3) := by decide +kernel
theorem dX5_search_112 : decode cX5_search 112 = .ok (.goto (-37), 3) := by decide +kernel
theorem dX5_search_115 : decode cX5_search 115 = .ok (.aload_n 0, 1) := by decide +kernel
theorem dX5_search_116 : decode cX5_search 116 = .ok (.iconst 0, 1) := by decide +kernel
theorem dX5_search_117 : decode cX5_search 117 = .ok (.iload_n 2, 1) := by decide +kernel
theorem dX5_search_118 : decode cX5_search 118 = .ok (.invokevirtual 73, 3) := by decide +kernel
theorem dX5_search_121 : decode cX5_search 121 = .ok (.return_, 1) := by decide +kernel
set_option maxRecDepth 20000 in
theorem ggX5_noteWhatSuits_J7_fill_53178 : GoodIn wsX5_noteWhatSuits wsJ7_fill_53178 := goodIn_r _ [7] (by decide +kernel) (by decide +kernel)
set_option maxRecDepth 20000 in
theorem gX5_noteWhatSuits_J7_fill_53178 : GoodIn wsX5_noteWhatSuits (va_wsS RX5 43 yJ7_fill_53178 wsJ7_fill_53178) := goodIn_app (goodIn_of _ (by decide +kernel)) ggX5_noteWhatSuits_J7_fill_53178
set_option maxRecDepth 20000 in
theorem ggX5_noteWhatSuits_X7_limitBy : GoodIn wsX5_noteWhatSuits wsX7_limitBy := goodIn_r _ [12, 13, 14, 15, 16, 17, 18, 19, 20, 21, 22, 23, 24, 25, 26, 27, 28, 29, 30, 31, 32, 33, 34, 35, 36, 37, 38, 39, 40, 41, 42, 43, 44, 45, 46, 47, 48, 49, 50, 51, 52, 53, 54, 55, 56, 57, 58, 59, 60, 61, 62, 63, 64, 65, 66, 67, 68, 69, 70, 71, 72, 73, 74, 75, 76, 77, 78, 79, 80, 81, 82, 83, 84, 85, 86, 87, 88, 89, 90, 91, 92, 93, 94, 95, 96, 97, 98, 99, 100, 101, 102, 103, 112, 113, 114, 115, 116, 117, 118, 119, 120, 121, 122, 123] (by decide +kernel) (by decide +kernel)
set_option maxRecDepth 20000 in
theorem gX5_noteWhatSuits_X7_limitBy : GoodIn wsX5_noteWhatSuits (wsV RX5 77 RX7 yX7_limitBy wsX7_limitBy) := goodIn_app (goodIn_of _ (by decide +kernel)) ggX5_noteWhatSuits_X7_limitBy
theorem dX5_noteWhatSuits_0 : decode cX5_noteWhatSuits 0 = .ok (.aload_n 0, 1) := by decide +kernel
theorem dX5_noteWhatSuits_1 : decode cX5_noteWhatSuits 1 = .ok (.getfield 27, 3) := by decide +kernel
theorem dX5_noteWhatSuits_4 : decode cX5_noteWhatSuits 4 = .ok (.iload_n 1, 1) := by decide +kernel
theorem dX5_noteWhatSuits_5 : decode cX5_noteWhatSuits 5 = .ok (.aaload, 1) := by decide +kernel
theorem dX5_noteWhatSuits_6 : decode cX5_noteWhatSuits 6 = .ok (.iconst 0, 1) := by decide +kernel
theorem dX5_noteWhatSuits_7 : decode cX5_noteWhatSuits 7 = .ok (.invokestatic 43, 3) := by decide +kernel
theorem dX5_noteWhatSuits_10 : decode cX5_noteWhatSuits 10 = .ok (.iconst 1, 1) := by decide +kernel
theorem dX5_noteWhatSuits_11 : decode cX5_noteWhatSuits 11 = .ok (.istore 4, 2) := by decide +kernel
theorem dX5_noteWhatSuits_13 : decode cX5_noteWhatSuits 13 = .ok (.iload 4, 2) := by decide +kernel
theorem dX5_noteWhatSuits_15 : decode cX5_noteWhatSuits 15 = .ok (.iload_n 3, 1) := by decide +kernel
theorem dX5_noteWhatSuits_16 : decode cX5_noteWhatSuits 16 = .ok (.if_icmp .ge 93, 3) := by decide +kernel
theorem dX5_noteWhatSuits_19 : decode cX5_noteWhatSuits 19 = .ok (.aload_n 0, 1) := by decide +kernel
theorem dX5_noteWhatSuits_20 : decode cX5_noteWhatSuits 20 = .ok (.getfield 18, 3) := by decide +kernel
theorem dX5_noteWhatSuits_23 : decode cX5_noteWhatSuits 23 = .ok (.getfield 56, 3) := by decide +kernel
theorem dX5_noteWhatSuits_26 : decode cX5_noteWhatSuits 26 = .ok (.iload_n 1, 1) := by decide +kernel
theorem dX5_noteWhatSuits_27 : decode cX5_noteWhatSuits 27 = .ok (.iload 4, 2) := by decide +kernel
theorem dX5_noteWhatSuits_29 : decode cX5_noteWhatSuits 29 = .ok (.iastore, 1) := by decide +kernel
theorem dX5_noteWhatSuits_30 : decode cX5_noteWhatSuits 30 = .ok (.iconst 1, 1) := by decide +kernel
theorem dX5_noteWhatSuits_31 : decode cX5_noteWhatSuits 31 = .ok (.istore 5, 2) := by decide +kernel
theorem dX5_noteWhatSuits_33 : decode cX5_noteWhatSuits 33 = .ok (.iload 4, 2) := by decide +kernel
theorem dX5_noteWhatSuits_35 : decode cX5_noteWhatSuits 35 = .ok (.iload 5, 2) := by decide +kernel
theorem dX5_noteWhatSuits_37 : decode cX5_noteWhatSuits 37 = .ok (.iadd, 1) := by decide +kernel
theorem dX5_noteWhatSuits_38 : decode cX5_noteWhatSuits 38 = .ok (.iload_n 3, 1) := by decide +kernel
theorem dX5_noteWhatSuits_39 : decode cX5_noteWhatSuits 39 = .ok (.if_icmp .gt 64, 3) := by decide +kernel
theorem dX5_noteWhatSuits_42 : decode cX5_noteWhatSuits 42 = .ok (.aload_n 0, 1) := by decide +kernel
theorem dX5_noteWhatSuits_43 : decode cX5_noteWhatSuits 43 = .ok (.getfield 18, 3) := by decide +kernel
theorem dX5_noteWhatSuits_46 : decode cX5_noteWhatSuits 46 = .ok (.getfield 56, 3) := by decide +kernel
theorem dX5_noteWhatSuits_49 : decode cX5_noteWhatSuits 49 = .ok (.iload_n 2, 1) := by decide +kernel
theorem dX5_noteWhatSuits_50 : decode cX5_noteWhatSuits 50 = .ok (.iload 5, 2) := by decide +kernel
theorem dX5_noteWhatSuits_52 : decode cX5_noteWhatSuits 52 = .ok (.iastore, 1) := by decide +kernel
theorem dX5_noteWhatSuits_53 : decode cX5_noteWhatSuits 53 = .ok (.iload 4, 2) := by decide +kernel
theorem dX5_noteWhatSuits_55 : decode cX5_noteWhatSuits 55 = .ok (.aload_n 0, 1) := by decide +kernel
theorem dX5_noteWhatSuits_56 : decode cX5_noteWhatSuits 56 = .ok (.getfield 18, 3) := by decide +kernel
theorem dX5_noteWhatSuits_59 : decode cX5_noteWhatSuits 59 = .ok (.iload_n 1, 1) := by decide +kernel
theorem dX5_noteWhatSuits_60 : decode cX5_noteWhatSuits 60 = .ok (.iload_n 2, 1) := by decide +kernel
theorem dX5_noteWhatSuits_61 : decode cX5_noteWhatSuits 61 = .ok (.invokevirtual 77, 3) := by decide +kernel
theorem dX5_noteWhatSuits_64 : decode cX5_noteWhatSuits 64 = .ok (.if_icmp .gt 33, 3) := by decide +kernel
theorem dX5_noteWhatSuits_67 : decode cX5_noteWhatSuits 67 = .ok (.iload 5, 2) := by decide +kernel
theorem dX5_noteWhatSuits_69 : decode cX5_noteWhatSuits 69 = .ok (.aload_n 0, 1) := by decide +kernel
theorem dX5_noteWhatSuits_70 : decode cX5_noteWhatSuits 70 = .ok (.getfield 18, 3) := by decide +kernel
theorem dX5_noteWhatSuits_73 : decode cX5_noteWhatSuits 73 = .ok (.iload_n 2, 1) := by decide +kernel
theorem dX5_noteWhatSuits_74 : decode cX5_noteWhatSuits 74 = .ok (.iload_n 1, 1) := by decide +kernel
theorem dX5_noteWhatSuits_75 : decode cX5_noteWhatSuits 75 = .ok (.invokevirtual 77, 3) := by decide +kernel
theorem dX5_noteWhatSuits_78 : decode cX5_noteWhatSuits 78 = .ok (.if_icmp .gt 19, 3) := by decide +kernel
theorem dX5_noteWhatSuits_81 : decode cX5_noteWhatSuits 81 = .ok (.aload_n 0, 1) := by decide +kernel
theorem dX5_noteWhatSuits_82 : decode cX5_noteWhatSuits 82 = .ok (.getfield 27, 3) := by decide +kernel
theorem dX5_noteWhatSuits_85 : decode cX5_noteWhatSuits 85 = .ok (.iload_n 1, 1) := by decide +kernel
theorem dX5_noteWhatSuits_86 : decode cX5_noteWhatSuits 86 = .ok (.aaload, 1) := by decide +kernel
theorem dX5_noteWhatSuits_87 : decode cX5_noteWhatSuits 87 = .ok (.iload 4, 2) := by decide +kernel
theorem dX5_noteWhatSuits_89 : decode cX5_noteWhatSuits 89 = .ok (.dup2, 1) := by decide +kernel
theorem dX5_noteWhatSuits_90 : decode cX5_noteWhatSuits 90 = .ok (.iaload, 1) := by decide +kernel
theorem dX5_noteWhatSuits_91 : decode cX5_noteWhatSuits 91 = .ok (.iconst 1, 1) := by decide +kernel
theorem dX5_noteWhatSuits_92 : decode cX5_noteWhatSuits 92 = .ok (.iload 5, 2) := by decide +kernel
theorem dX5_noteWhatSuits_94 : decode cX5_noteWhatSuits 94 = .ok (.ishl, 1) := by decide +kernel
theorem dX5_noteWhatSuits_95 : decode cX5_noteWhatSuits 95 = .ok (.ior, 1) := by decide +kernel
theorem dX5_noteWhatSuits_96 : decode cX5_noteWhatSuits 96 = .ok (.iastore, 1) := by decide +kernel
theorem dX5_noteWhatSuits_97 : decode cX5_noteWhatSuits 97 = .ok (.iinc 5 1, 3) := by decide +kernel
theorem dX5_noteWhatSuits_100 : decode cX5_noteWhatSuits 100 = .ok (.goto (-67), 3) := by decide +kernel
theorem dX5_noteWhatSuits_103 : decode cX5_noteWhatSuits 103 = .ok (.iinc 4 1, 3) := by decide +kernel
theorem dX5_noteWhatSuits_106 : decode cX5_noteWhatSuits 106 = .ok (.goto (-93), 3) := by decide +kernel
theorem dX5_noteWhatSuits_109 : decode cX5_noteWhatSuits 109 = .ok (.return_, 1) := by decide +kernel
set_option maxRecDepth 20000 in
theorem ggX5_part_X5_isClosedWell : GoodIn wsX5_part wsX5_isClosedWell := goodIn_r _ [12, 1, 2, 13, 14, 15, 16, 17, 18, 19, 20, 21, 22, 11, 23, 24, 7, 56, 57, 58, 59, 60, 61, 62, 63, 64, 65, 66, 67] (by decide +kernel) (by decide +kernel)
set_option maxRecDepth 20000 in
theorem gX5_part_X5_isClosedWell : GoodIn wsX5_part (wsV RX5 81 RX5 yX5_isClosedWell wsX5_isClosedWell) := goodIn_app (goodIn_of _ (by decide +kernel)) ggX5_part_X5_isClosedWell
set_option maxRecDepth 20000 in
theorem ggX5_part_X5_note : GoodIn wsX5_part wsX5_note := goodIn_r _ [28, 29, 3, 4, 5, 6, 30, 31, 32, 33, 34, 35, 1, 2, 36, 7, 37, 38, 39, 11, 40, 41, 42, 43, 44, 45, 46, 47, 48, 49, 50, 51, 52, 56, 57, 58, 59, 60, 61, 62, 63, 64, 65, 66, 67] (by decide +kernel) (by decide +kernel)
set_option maxRecDepth 20000 in
theorem gX5_part_X5_note : GoodIn wsX5_part (wsV RX5 85 RX5 yX5_note wsX5_note) := goodIn_app (goodIn_of _ (by decide +kernel)) ggX5_part_X5_note
set_option maxRecDepth 20000 in
theorem ggX5_part_X5_suit : GoodIn wsX5_part wsX5_suit := goodIn_r _ [23, 24, 1, 7, 56, 57, 58, 59, 60, 61, 62, 63, 64, 65, 66, 67] (by decide +kernel) (by decide +kernel)
set_option maxRecDepth 20000 in
theorem gX5_part_X5_suit : GoodIn wsX5_part (wsV RX5 93 RX5 yX5_suit wsX5_suit) := goodIn_app (goodIn_of _ (by decide +kernel)) ggX5_part_X5_suit
set_option maxRecDepth 20000 in
theorem ggX5_part_X5_part : GoodIn wsX5_part wsX5_part := goodIn_r _ [0, 1, 2, 3, 4, 5, 6, 7, 8, 9, 10, 11, 12, 13, 14, 15, 16, 17, 18, 19, 20, 21, 22, 23, 24, 25, 26, 27, 28, 29, 30, 31, 32, 33, 34, 35, 36, 37, 38, 39, 40, 41, 42, 43, 44, 45, 46, 47, 48, 49, 50, 51, 52, 53, 54, 55, 56, 57, 58, 59, 60, 61, 62, 63, 64, 65, 66, 67] (by decide +kernel) (by decide +kernel)
set_option maxRecDepth 20000 in
theorem gX5_part_X5_part : GoodIn wsX5_part (wsV RX5 73 RX5 yX5_part wsX5_part) := goodIn_app (goodIn_of _ (by decide +kernel)) ggX5_part_X5_part
theorem dX5_part_0 : decode cX5_part 0 = .ok (.iload_n 1, 1) := by decide +kernel
theorem dX5_part_1 : decode cX5_part 1 = .ok (.aload_n 0, 1) := by decide +kernel
theorem dX5_part_2 : decode cX5_part 2 = .ok (.getfield 18, 3) := by decide +kernel
theorem dX5_part_5 : decode cX5_part 5 = .ok (.getfield 49, 3) := by decide +kernel
theorem dX5_part_8 : decode cX5_part 8 = .ok (.if_icmp .lt 19, 3) := by decide +kernel
theorem dX5_part_11 : decode cX5_part 11 = .ok (.iload_n 2, 1) := by decide +kernel
theorem dX5_part_12 : decode cX5_part 12 = .ok (.ifCond .ne 14, 3) := by decide +kernel
theorem dX5_part_15 : decode cX5_part 15 = .ok (.aload_n 0, 1) := by decide +kernel
theorem dX5_part_16 : decode cX5_part 16 = .ok (.invokevirtual 81, 3) := by decide +kernel
theorem dX5_part_19 : decode cX5_part 19 = .ok (.ifCond .eq 7, 3) := by decide +kernel
theorem dX5_part_22 : decode cX5_part 22 = .ok (.aload_n 0, 1) := by decide +kernel
theorem dX5_part_23 : decode cX5_part 23 = .ok (.invokevirtual 85, 3) := by decide +kernel
theorem dX5_part_26 : decode cX5_part 26 = .ok (.return_, 1) := by decide +kernel
theorem dX5_part_27 : decode cX5_part 27 = .ok (.iload_n 2, 1) := by decide +kernel
theorem dX5_part_28 : decode cX5_part 28 = .ok (.aload_n 0, 1) := by decide +kernel
theorem dX5_part_29 : decode cX5_part 29 = .ok (.getfield 18, 3) := by decide +kernel
theorem dX5_part_32 : decode cX5_part 32 = .ok (.getfield 49, 3) := by decide +kernel
theorem dX5_part_35 : decode cX5_part 35 = .ok (.iconst 1, 1) := by decide +kernel
theorem dX5_part_36 : decode cX5_part 36 = .ok (.isub, 1) := by decide +kernel
theorem dX5_part_37 : decode cX5_part 37 = .ok (.iload_n 1, 1) := by decide +kernel
theorem dX5_part_38 : decode cX5_part 38 = .ok (.isub, 1) := by decide +kernel
theorem dX5_part_39 : decode cX5_part 39 = .ok (.isub, 1) := by decide +kernel
theorem dX5_part_40 : decode cX5_part 40 = .ok (.istore_n 3, 1) := by decide +kernel
theorem dX5_part_41 : decode cX5_part 41 = .ok (.iload_n 1, 1) := by decide +kernel
theorem dX5_part_42 : decode cX5_part 42 = .ok (.aload_n 0, 1) := by decide +kernel
theorem dX5_part_43 : decode cX5_part 43 = .ok (.getfield 18, 3) := by decide +kernel
theorem dX5_part_46 : decode cX5_part 46 = .ok (.getfield 49, 3) := by decide +kernel
theorem dX5_part_49 : decode cX5_part 49 = .ok (.iconst 1, 1) := by decide +kernel
theorem dX5_part_50 : decode cX5_part 50 = .ok (.isub, 1) := by decide +kernel
theorem dX5_part_51 : decode cX5_part 51 = .ok (.if_icmp .ne 7, 3) := by decide +kernel
theorem dX5_part_54 : decode cX5_part 54 = .ok (.iload_n 2, 1) := by decide +kernel
theorem dX5_part_55 : decode cX5_part 55 = .ok (.goto 4, 3) := by decide +kernel
theorem dX5_part_58 : decode cX5_part 58 = .ok (.iconst 1, 1) := by decide +kernel
theorem dX5_part_59 : decode cX5_part 59 = .ok (.istore 4, 2) := by decide +kernel
theorem dX5_part_61 : decode cX5_part 61 = .ok (.iconst 1, 1) := by decide +kernel
theorem dX5_part_62 : decode cX5_part 62 = .ok (.iload 4, 2) := by decide +kernel
theorem dX5_part_64 : decode cX5_part 64 = .ok (.invokestatic 88, 3) := by decide +kernel
theorem dX5_part_67 : decode cX5_part 67 = .ok (.istore 5, 2) := by decide +kernel
theorem dX5_part_69 : decode cX5_part 69 = .ok (.iload 5, 2) := by decide +kernel
theorem dX5_part_71 : decode cX5_part 71 = .ok (.iload_n 3, 1) := by decide +kernel
theorem dX5_part_72 : decode cX5_part 72 = .ok (.if_icmp .gt 46, 3) := by decide +kernel
theorem dX5_part_75 : decode cX5_part 75 = .ok (.aload_n 0, 1) := by decide +kernel
theorem dX5_part_76 : decode cX5_part 76 = .ok (.getfield 18, 3) := by decide +kernel
theorem dX5_part_79 : decode cX5_part 79 = .ok (.getfield 56, 3) := by decide +kernel
theorem dX5_part_82 : decode cX5_part 82 = .ok (.iload_n 1, 1) := by decide +kernel
theorem dX5_part_83 : decode cX5_part 83 = .ok (.iload 5, 2) := by decide +kernel
theorem dX5_part_85 : decode cX5_part 85 = .ok (.iastore, 1) := by decide +kernel
theorem dX5_part_86 : decode cX5_part 86 = .ok (.iload_n 1, 1) := by decide +kernel
theorem dX5_part_87 : decode cX5_part 87 = .ok (.ifCond .eq 14, 3) := by decide +kernel
theorem dX5_part_90 : decode cX5_part 90 = .ok (.aload_n 0, 1) := by decide +kernel
theorem dX5_part_91 : decode cX5_part 91 = .ok (.iload_n 1, 1) := by decide +kernel
theorem dX5_part_92 : decode cX5_part 92 = .ok (.iconst 1, 1) := by decide +kernel
theorem dX5_part_93 : decode cX5_part 93 = .ok (.isub, 1) := by decide +kernel
theorem dX5_part_94 : decode cX5_part 94 = .ok (.iload_n 1, 1) := by decide +kernel
theorem dX5_part_95 : decode cX5_part 95 = .ok (.invokevirtual 93, 3) := by decide +kernel
theorem dX5_part_98 : decode cX5_part 98 = .ok (.ifCond .eq 14, 3) := by decide +kernel
theorem dX5_part_101 : decode cX5_part 101 = .ok (.aload_n 0, 1) := by decide +kernel
theorem dX5_part_102 : decode cX5_part 102 = .ok (.iload_n 1, 1) := by decide +kernel
theorem dX5_part_103 : decode cX5_part 103 = .ok (.iconst 1, 1) := by decide +kernel
theorem dX5_part_104 : decode cX5_part 104 = .ok (.iadd, 1) := by decide +kernel
theorem dX5_part_105 : decode cX5_part 105 = .ok (.iload_n 2, 1) := by decide +kernel
theorem dX5_part_106 : decode cX5_part 106 = .ok (.iload 5, 2) := by decide +kernel
theorem dX5_part_108 : decode cX5_part 108 = .ok (.isub, 1) := by decide +kernel
theorem dX5_part_109 : decode cX5_part 109 = .ok (.invokevirtual 73, 3) := by decide +kernel
theorem dX5_part_112 : decode cX5_part 112 = .ok (.iinc 5 1, 3) := by decide +kernel
theorem dX5_part_115 : decode cX5_part 115 = .ok (.goto (-46), 3) := by decide +kernel
theorem dX5_part_118 : decode cX5_part 118 = .ok (.return_, 1) := by decide +kernel
theorem dX5_suit_0 : decode cX5_suit 0 = .ok (.aload_n 0, 1) := by decide +kernel
theorem dX5_suit_1 : decode cX5_suit 1 = .ok (.getfield 27, 3) := by decide +kernel
theorem dX5_suit_4 : decode cX5_suit 4 = .ok (.iload_n 1, 1) := by decide +kernel
theorem dX5_suit_5 : decode cX5_suit 5 = .ok (.aaload, 1) := by decide +kernel
theorem dX5_suit_6 : decode cX5_suit 6 = .ok (.aload_n 0, 1) := by decide +kernel
theorem dX5_suit_7 : decode cX5_suit 7 = .ok (.getfield 18, 3) := by decide +kernel
theorem dX5_suit_10 : decode cX5_suit 10 = .ok (.getfield 56, 3) := by decide +kernel
theorem dX5_suit_13 : decode cX5_suit 13 = .ok (.iload_n 1, 1) := by decide +kernel
theorem dX5_suit_14 : decode cX5_suit 14 = .ok (.iaload, 1) := by decide +kernel
theorem dX5_suit_15 : decode cX5_suit 15 = .ok (.iaload, 1) := by decide +kernel
theorem dX5_suit_16 : decode cX5_suit 16 = .ok (.aload_n 0, 1) := by decide +kernel
theorem dX5_suit_17 : decode cX5_suit 17 = .ok (.getfield 18, 3) := by decide +kernel
theorem dX5_suit_20 : decode cX5_suit 20 = .ok (.getfield 56, 3) := by decide +kernel
theorem dX5_suit_23 : decode cX5_suit 23 = .ok (.iload_n 2, 1) := by decide +kernel
theorem dX5_suit_24 : decode cX5_suit 24 = .ok (.iaload, 1) := by decide +kernel
theorem dX5_suit_25 : decode cX5_suit 25 = .ok (.ishr, 1) := by decide +kernel
theorem dX5_suit_26 : decode cX5_suit 26 = .ok (.iconst 1, 1) := by decide +kernel
theorem dX5_suit_27 : decode cX5_suit 27 = .ok (.iand, 1) := by decide +kernel
theorem dX5_suit_28 : decode cX5_suit 28 = .ok (.iconst 1, 1) := by decide +kernel
theorem dX5_suit_29 : decode cX5_suit 29 = .ok (.if_icmp .ne 7, 3) := by decide +kernel
theorem dX5_suit_32 : decode cX5_suit 32 = .ok (.iconst 1, 1) := by decide +kernel
theorem dX5_suit_33 : decode cX5_suit 33 = .ok (.goto 4, 3) := by decide +kernel
theorem dX5_suit_36 : decode cX5_suit 36 = .ok (.iconst 0, 1) := by decide +kernel
theorem dX5_suit_37 : decode cX5_suit 37 = .ok (.ireturn, 1) := by decide +kernel
set_option maxRecDepth 20000 in
theorem ggX5_isClosedWell_X7_isClosed : GoodIn wsX5_isClosedWell wsX7_isClosed := goodIn_r _ [7, 8, 9, 25, 26, 27, 28] (by decide +kernel) (by decide +kernel)
set_option maxRecDepth 20000 in
theorem gX5_isClosedWell_X7_isClosed : GoodIn wsX5_isClosedWell (wsV RX5 97 RX7 yX7_isClosed wsX7_isClosed) := goodIn_app (goodIn_of _ (by decide +kernel)) ggX5_isClosedWell_X7_isClosed
set_option maxRecDepth 20000 in
theorem ggX5_isClosedWell_X5_suit : GoodIn wsX5_isClosedWell wsX5_suit := goodIn_r _ [14, 15, 1, 16, 17, 18, 19, 20, 21, 22, 23, 24, 25, 26, 27, 28] (by decide +kernel) (by decide +kernel)
set_option maxRecDepth 20000 in
theorem gX5_isClosedWell_X5_suit : GoodIn wsX5_isClosedWell (wsV RX5 93 RX5 yX5_suit wsX5_suit) := goodIn_app (goodIn_of _ (by decide +kernel)) ggX5_isClosedWell_X5_suit
theorem dX5_isClosedWell_0 : decode cX5_isClosedWell 0 = .ok (.aload_n 0, 1) := by decide +kernel
theorem dX5_isClosedWell_1 : decode cX5_isClosedWell 1 = .ok (.getfield 18, 3) := by decide +kernel
theorem dX5_isClosedWell_4 : decode cX5_isClosedWell 4 = .ok (.invokevirtual 97, 3) := by decide +kernel
theorem dX5_isClosedWell_7 : decode cX5_isClosedWell 7 = .ok (.ifCond .eq 20, 3) := by decide +kernel
theorem dX5_isClosedWell_10 : decode cX5_isClosedWell 10 = .ok (.aload_n 0, 1) := by decide +kernel
theorem dX5_isClosedWell_11 : decode cX5_isClosedWell 11 = .ok (.aload_n 0, 1) := by decide +kernel
theorem dX5_isClosedWell_12 : decode cX5_isClosedWell 12 = .ok (.getfield 18, 3) := by decide +kernel
theorem dX5_isClosedWell_15 : decode cX5_isClosedWell 15 = .ok (.getfield 49, 3) := by decide +kernel
theorem dX5_isClosedWell_18 : decode cX5_isClosedWell 18 = .ok (.iconst 1, 1) := by decide +kernel
theorem dX5_isClosedWell_19 : decode cX5_isClosedWell 19 = .ok (.isub, 1) := by decide +kernel
theorem dX5_isClosedWell_20 : decode cX5_isClosedWell 20 = .ok (.iconst 0, 1) := by decide +kernel
theorem dX5_isClosedWell_21 : decode cX5_isClosedWell 21 = .ok (.invokevirtual 93, 3) := by decide +kernel
theorem dX5_isClosedWell_24 : decode cX5_isClosedWell 24 = .ok (.ifCond .eq 7, 3) := by decide +kernel
theorem dX5_isClosedWell_27 : decode cX5_isClosedWell 27 = .ok (.iconst 1, 1) := by decide +kernel
theorem dX5_isClosedWell_28 : decode cX5_isClosedWell 28 = .ok (.goto 4, 3) := by decide +kernel
theorem dX5_isClosedWell_31 : decode cX5_isClosedWell 31 = .ok (.iconst 0, 1) := by decide +kernel
theorem dX5_isClosedWell_32 : decode cX5_isClosedWell 32 = .ok (.ireturn, 1) := by decide +kernel
set_option maxRecDepth 20000 in
theorem ggX5_note_X5_difference : GoodIn wsX5_note wsX5_difference := goodIn_r _ [20, 12, 13, 15, 8, 9, 4, 10, 2, 3, 5, 33, 34, 35, 36, 37, 38, 39, 40, 41, 42, 43, 44] (by decide +kernel) (by decide +kernel)
set_option maxRecDepth 20000 in
theorem gX5_note_X5_difference : GoodIn wsX5_note (wsV RX5 100 RX5 yX5_difference wsX5_difference) := goodIn_app (goodIn_of _ (by decide +kernel)) ggX5_note_X5_difference
set_option maxRecDepth 20000 in
theorem ggX5_note_X5_handed : GoodIn wsX5_note wsX5_handed := goodIn_r _ [24, 12, 13, 25, 15, 26, 27, 4, 28, 33, 34, 35, 36, 37, 38, 39, 40, 41, 42, 43, 44] (by decide +kernel) (by decide +kernel)
set_option maxRecDepth 20000 in
theorem gX5_note_X5_handed : GoodIn wsX5_note (wsV RX5 104 RX5 yX5_handed wsX5_handed) := goodIn_app (goodIn_of _ (by decide +kernel)) ggX5_note_X5_handed
set_option maxRecDepth 20000 in
theorem ggX5_note_X5_moving : GoodIn wsX5_note wsX5_moving := goodIn_r _ [32, 12, 13, 25, 15, 2, 3, 4, 5, 33, 34, 35, 36, 37, 38, 39, 40, 41, 42, 43, 44] (by decide +kernel) (by decide +kernel)
set_option maxRecDepth 20000 in
theorem gX5_note_X5_moving : GoodIn wsX5_note (wsV RX5 110 RX5 yX5_moving wsX5_moving) := goodIn_app (goodIn_of _ (by decide +kernel)) ggX5_note_X5_moving
theorem dX5_note_0 : decode cX5_note 0 = .ok (.aload_n 0, 1) := by decide +kernel
theorem dX5_note_1 : decode cX5_note 1 = .ok (.aload_n 0, 1) := by decide +kernel
theorem dX5_note_2 : decode cX5_note 2 = .ok (.getfield 34, 3) := by decide +kernel
theorem dX5_note_5 : decode cX5_note 5 = .ok (.aload_n 0, 1) := by decide +kernel
theorem dX5_note_6 : decode cX5_note 6 = .ok (.invokevirtual 100, 3) := by decide +kernel
theorem dX5_note_9 : decode cX5_note 9 = .ok (.invokestatic 88, 3) := by decide +kernel
theorem dX5_note_12 : decode cX5_note 12 = .ok (.putfield 34, 3) := by decide +kernel
theorem dX5_note_15 : decode cX5_note 15 = .ok (.aload_n 0, 1) := by decide +kernel
theorem dX5_note_16 : decode cX5_note 16 = .ok (.aload_n 0, 1) := by decide +kernel
theorem dX5_note_17 : decode cX5_note 17 = .ok (.getfield 30, 3) := by decide +kernel
theorem dX5_note_20 : decode cX5_note 20 = .ok (.ifCond .ne 10, 3) := by decide +kernel
theorem dX5_note_23 : decode cX5_note 23 = .ok (.aload_n 0, 1) := by decide +kernel
theorem dX5_note_24 : decode cX5_note 24 = .ok (.invokevirtual 104, 3) := by decide +kernel
theorem dX5_note_27 : decode cX5_note 27 = .ok (.goto 14, 3) := by decide +kernel
theorem dX5_note_30 : decode cX5_note 30 = .ok (.aload_n 0, 1) := by decide +kernel
theorem dX5_note_31 : decode cX5_note 31 = .ok (.getfield 37, 3) := by decide +kernel
theorem dX5_note_34 : decode cX5_note 34 = .ok (.aload_n 0, 1) := by decide +kernel
theorem dX5_note_35 : decode cX5_note 35 = .ok (.invokevirtual 104, 3) := by decide +kernel
theorem dX5_note_38 : decode cX5_note 38 = .ok (.invokestatic 107, 3) := by decide +kernel
theorem dX5_note_41 : decode cX5_note 41 = .ok (.putfield 37, 3) := by decide +kernel
theorem dX5_note_44 : decode cX5_note 44 = .ok (.aload_n 0, 1) := by decide +kernel
theorem dX5_note_45 : decode cX5_note 45 = .ok (.aload_n 0, 1) := by decide +kernel
theorem dX5_note_46 : decode cX5_note 46 = .ok (.getfield 30, 3) := by decide +kernel
theorem dX5_note_49 : decode cX5_note 49 = .ok (.ifCond .ne 10, 3) := by decide +kernel
theorem dX5_note_52 : decode cX5_note 52 = .ok (.aload_n 0, 1) := by decide +kernel
theorem dX5_note_53 : decode cX5_note 53 = .ok (.invokevirtual 110, 3) := by decide +kernel
theorem dX5_note_56 : decode cX5_note 56 = .ok (.goto 14, 3) := by decide +kernel
theorem dX5_note_59 : decode cX5_note 59 = .ok (.aload_n 0, 1) := by decide +kernel
theorem dX5_note_60 : decode cX5_note 60 = .ok (.getfield 40, 3) := by decide +kernel
theorem dX5_note_63 : decode cX5_note 63 = .ok (.aload_n 0, 1) := by decide +kernel
theorem dX5_note_64 : decode cX5_note 64 = .ok (.invokevirtual 110, 3) := by decide +kernel
theorem dX5_note_67 : decode cX5_note 67 = .ok (.invokestatic 107, 3) := by decide +kernel
theorem dX5_note_70 : decode cX5_note 70 = .ok (.putfield 40, 3) := by decide +kernel
theorem dX5_note_73 : decode cX5_note 73 = .ok (.iconst 0, 1) := by decide +kernel
theorem dX5_note_74 : decode cX5_note 74 = .ok (.istore_n 1, 1) := by decide +kernel
theorem dX5_note_75 : decode cX5_note 75 = .ok (.iload_n 1, 1) := by decide +kernel
theorem dX5_note_76 : decode cX5_note 76 = .ok (.aload_n 0, 1) := by decide +kernel
theorem dX5_note_77 : decode cX5_note 77 = .ok (.getfield 18, 3) := by decide +kernel
theorem dX5_note_80 : decode cX5_note 80 = .ok (.getfield 49, 3) := by decide +kernel
theorem dX5_note_83 : decode cX5_note 83 = .ok (.if_icmp .ge 33, 3) := by decide +kernel
theorem dX5_note_86 : decode cX5_note 86 = .ok (.aload_n 0, 1) := by decide +kernel
theorem dX5_note_87 : decode cX5_note 87 = .ok (.getfield 9, 3) := by decide +kernel
theorem dX5_note_90 : decode cX5_note 90 = .ok (.iload_n 1, 1) := by decide +kernel
theorem dX5_note_91 : decode cX5_note 91 = .ok (.aload_n 0, 1) := by decide +kernel
theorem dX5_note_92 : decode cX5_note 92 = .ok (.getfield 9, 3) := by decide +kernel
theorem dX5_note_95 : decode cX5_note 95 = .ok (.iload_n 1, 1) := by decide +kernel
theorem dX5_note_96 : decode cX5_note 96 = .ok (.iaload, 1) := by decide +kernel
theorem dX5_note_97 : decode cX5_note 97 = .ok (.aload_n 0, 1) := by decide +kernel
theorem dX5_note_98 : decode cX5_note 98 = .ok (.getfield 18, 3) := by decide +kernel
theorem dX5_note_101 : decode cX5_note 101 = .ok (.getfield 56, 3) := by decide +kernel
theorem dX5_note_104 : decode cX5_note 104 = .ok (.iload_n 1, 1) := by decide +kernel
theorem dX5_note_105 : decode cX5_note 105 = .ok (.iaload, 1) := by decide +kernel
theorem dX5_note_106 : decode cX5_note 106 = .ok (.invokestatic 88, 3) := by decide +kernel
theorem dX5_note_109 : decode cX5_note 109 = .ok (.iastore, 1) := by decide +kernel
theorem dX5_note_110 : decode cX5_note 110 = .ok (.iinc 1 1, 3) := by decide +kernel
theorem dX5_note_113 : decode cX5_note 113 = .ok (.goto (-38), 3) := by decide +kernel
theorem dX5_note_116 : decode cX5_note 116 = .ok (.aload_n 0, 1) := by decide +kernel
theorem dX5_note_117 : decode cX5_note 117 = .ok (.dup, 1) := by decide +kernel
theorem dX5_note_118 : decode cX5_note 118 = .ok (.getfield 30, 3) := by decide +kernel
theorem dX5_note_121 : decode cX5_note 121 = .ok (.iconst 1, 1) := by decide +kernel
theorem dX5_note_122 : decode cX5_note 122 = .ok (.iadd, 1) := by decide +kernel
theorem dX5_note_123 : decode cX5_note 123 = .ok (.putfield 30, 3) := by decide +kernel
theorem dX5_note_126 : decode cX5_note 126 = .ok (.return_, 1) := by decide +kernel
theorem dX5_difference_0 : decode cX5_difference 0 = .ok (.sipush 9999, 3) := by decide +kernel
theorem dX5_difference_3 : decode cX5_difference 3 = .ok (.istore_n 1, 1) := by decide +kernel
theorem dX5_difference_4 : decode cX5_difference 4 = .ok (.iconst 0, 1) := by decide +kernel
theorem dX5_difference_5 : decode cX5_difference 5 = .ok (.istore_n 2, 1) := by decide +kernel
theorem dX5_difference_6 : decode cX5_difference 6 = .ok (.iconst 0, 1) := by decide +kernel
theorem dX5_difference_7 : decode cX5_difference 7 = .ok (.istore_n 3, 1) := by decide +kernel
theorem dX5_difference_8 : decode cX5_difference 8 = .ok (.iload_n 3, 1) := by decide +kernel
theorem dX5_difference_9 : decode cX5_difference 9 = .ok (.aload_n 0, 1) := by decide +kernel
theorem dX5_difference_10 : decode cX5_difference 10 = .ok (.getfield 18, 3) := by decide +kernel
theorem dX5_difference_13 : decode cX5_difference 13 = .ok (.getfield 49, 3) := by decide +kernel
theorem dX5_difference_16 : decode cX5_difference 16 = .ok (.if_icmp .ge 37, 3) := by decide +kernel
theorem dX5_difference_19 : decode cX5_difference 19 = .ok (.iload_n 1, 1) := by decide +kernel
theorem dX5_difference_20 : decode cX5_difference 20 = .ok (.aload_n 0, 1) := by decide +kernel
theorem dX5_difference_21 : decode cX5_difference 21 = .ok (.getfield 18, 3) := by decide +kernel
theorem dX5_difference_24 : decode cX5_difference 24 = .ok (.getfield 56, 3) := by decide +kernel
theorem dX5_difference_27 : decode cX5_difference 27 = .ok (.iload_n 3, 1) := by decide +kernel
theorem dX5_difference_28 : decode cX5_difference 28 = .ok (.iaload, 1) := by decide +kernel
theorem dX5_difference_29 : decode cX5_difference 29 = .ok (.invokestatic 107, 3) := by decide +kernel
theorem dX5_difference_32 : decode cX5_difference 32 = .ok (.istore_n 1, 1) := by decide +kernel
theorem dX5_difference_33 : decode cX5_difference 33 = .ok (.iload_n 2, 1) := by decide +kernel
theorem dX5_difference_34 : decode cX5_difference 34 = .ok (.aload_n 0, 1) := by decide +kernel
theorem dX5_difference_35 : decode cX5_difference 35 = .ok (.getfield 18, 3) := by decide +kernel
theorem dX5_difference_38 : decode cX5_difference 38 = .ok (.getfield 56, 3) := by decide +kernel
theorem dX5_difference_41 : decode cX5_difference 41 = .ok (.iload_n 3, 1) := by decide +kernel
theorem dX5_difference_42 : decode cX5_difference 42 = .ok (.iaload, 1) := by decide +kernel
theorem dX5_difference_43 : decode cX5_difference 43 = .ok (.invokestatic 88, 3) := by decide +kernel
theorem dX5_difference_46 : decode cX5_difference 46 = .ok (.istore_n 2, 1) := by decide +kernel
theorem dX5_difference_47 : decode cX5_difference 47 = .ok (.iinc 3 1, 3) := by decide +kernel
theorem dX5_difference_50 : decode cX5_difference 50 = .ok (.goto (-42), 3) := by decide +kernel
theorem dX5_difference_53 : decode cX5_difference 53 = .ok (.iconst 0, 1) := by decide +kernel
theorem dX5_difference_54 : decode cX5_difference 54 = .ok (.iload_n 2, 1) := by decide +kernel
theorem dX5_difference_55 : decode cX5_difference 55 = .ok (.iload_n 1, 1) := by decide +kernel
theorem dX5_difference_56 : decode cX5_difference 56 = .ok (.isub, 1) := by decide +kernel
theorem dX5_difference_57 : decode cX5_difference 57 = .ok (.invokestatic 88, 3) := by decide +kernel
theorem dX5_difference_60 : decode cX5_difference 60 = .ok (.ireturn, 1) := by decide +kernel
theorem dX5_handed_0 : decode cX5_handed 0 = .ok (.iconst 0, 1) := by decide +kernel
theorem dX5_handed_1 : decode cX5_handed 1 = .ok (.istore_n 1, 1) := by decide +kernel
theorem dX5_handed_2 : decode cX5_handed 2 = .ok (.iconst 0, 1) := by decide +kernel
theorem dX5_handed_3 : decode cX5_handed 3 = .ok (.istore_n 2, 1) := by decide +kernel
theorem dX5_handed_4 : decode cX5_handed 4 = .ok (.iconst 0, 1) := by decide +kernel
theorem dX5_handed_5 : decode cX5_handed 5 = .ok (.istore_n 3, 1) := by decide +kernel
theorem dX5_handed_6 : decode cX5_handed 6 = .ok (.iload_n 3, 1) := by decide +kernel
theorem dX5_handed_7 : decode cX5_handed 7 = .ok (.aload_n 0, 1) := by decide +kernel
theorem dX5_handed_8 : decode cX5_handed 8 = .ok (.getfield 18, 3) := by decide +kernel
theorem dX5_handed_11 : decode cX5_handed 11 = .ok (.getfield 49, 3) := by decide +kernel
theorem dX5_handed_14 : decode cX5_handed 14 = .ok (.if_icmp .ge 35, 3) := by decide +kernel
theorem dX5_handed_17 : decode cX5_handed 17 = .ok (.iload_n 1, 1) := by decide +kernel
theorem dX5_handed_18 : decode cX5_handed 18 = .ok (.aload_n 0, 1) := by decide +kernel
theorem dX5_handed_19 : decode cX5_handed 19 = .ok (.getfield 22, 3) := by decide +kernel
theorem dX5_handed_22 : decode cX5_handed 22 = .ok (.iload_n 3, 1) := by decide +kernel
theorem dX5_handed_23 : decode cX5_handed 23 = .ok (.iaload, 1) := by decide +kernel
theorem dX5_handed_24 : decode cX5_handed 24 = .ok (.aload_n 0, 1) := by decide +kernel
theorem dX5_handed_25 : decode cX5_handed 25 = .ok (.getfield 18, 3) := by decide +kernel
theorem dX5_handed_28 : decode cX5_handed 28 = .ok (.getfield 56, 3) := by decide +kernel
theorem dX5_handed_31 : decode cX5_handed 31 = .ok (.iload_n 3, 1) := by decide +kernel
theorem dX5_handed_32 : decode cX5_handed 32 = .ok (.iaload, 1) := by decide +kernel
theorem dX5_handed_33 : decode cX5_handed 33 = .ok (.isub, 1) := by decide +kernel
theorem dX5_handed_34 : decode cX5_handed 34 = .ok (.iadd, 1) := by decide +kernel
theorem dX5_handed_35 : decode cX5_handed 35 = .ok (.istore_n 1, 1) := by decide +kernel
theorem dX5_handed_36 : decode cX5_handed 36 = .ok (.iload_n 2, 1) := by decide +kernel
theorem dX5_handed_37 : decode cX5_handed 37 = .ok (.iload_n 1, 1) := by decide +kernel
theorem dX5_handed_38 : decode cX5_handed 38 = .ok (.invokestatic 113, 3) := by decide +kernel
theorem dX5_handed_41 : decode cX5_handed 41 = .ok (.iadd, 1) := by decide +kernel
theorem dX5_handed_42 : decode cX5_handed 42 = .ok (.istore_n 2, 1) := by decide +kernel
theorem dX5_handed_43 : decode cX5_handed 43 = .ok (.iinc 3 1, 3) := by decide +kernel
theorem dX5_handed_46 : decode cX5_handed 46 = .ok (.goto (-40), 3) := by decide +kernel
theorem dX5_handed_49 : decode cX5_handed 49 = .ok (.iload_n 2, 1) := by decide +kernel
theorem dX5_handed_50 : decode cX5_handed 50 = .ok (.ireturn, 1) := by decide +kernel
theorem dX5_moving_0 : decode cX5_moving 0 = .ok (.iconst 0, 1) := by decide +kernel
theorem dX5_moving_1 : decode cX5_moving 1 = .ok (.istore_n 1, 1) := by decide +kernel
theorem dX5_moving_2 : decode cX5_moving 2 = .ok (.iconst 0, 1) := by decide +kernel
theorem dX5_moving_3 : decode cX5_moving 3 = .ok (.istore_n 2, 1) := by decide +kernel
theorem dX5_moving_4 : decode cX5_moving 4 = .ok (.iload_n 2, 1) := by decide +kernel
theorem dX5_moving_5 : decode cX5_moving 5 = .ok (.aload_n 0, 1) := by decide +kernel
theorem dX5_moving_6 : decode cX5_moving 6 = .ok (.getfield 18, 3) := by decide +kernel
theorem dX5_moving_9 : decode cX5_moving 9 = .ok (.getfield 49, 3) := by decide +kernel
theorem dX5_moving_12 : decode cX5_moving 12 = .ok (.if_icmp .ge 32, 3) := by decide +kernel
theorem dX5_moving_15 : decode cX5_moving 15 = .ok (.iload_n 1, 1) := by decide +kernel
theorem dX5_moving_16 : decode cX5_moving 16 = .ok (.iconst 0, 1) := by decide +kernel
theorem dX5_moving_17 : decode cX5_moving 17 = .ok (.aload_n 0, 1) := by decide +kernel
theorem dX5_moving_18 : decode cX5_moving 18 = .ok (.getfield 22, 3) := by decide +kernel
theorem dX5_moving_21 : decode cX5_moving 21 = .ok (.iload_n 2, 1) := by decide +kernel
theorem dX5_moving_22 : decode cX5_moving 22 = .ok (.iaload, 1) := by decide +kernel
theorem dX5_moving_23 : decode cX5_moving 23 = .ok (.aload_n 0, 1) := by decide +kernel
theorem dX5_moving_24 : decode cX5_moving 24 = .ok (.getfield 18, 3) := by decide +kernel
theorem dX5_moving_27 : decode cX5_moving 27 = .ok (.getfield 56, 3) := by decide +kernel
theorem dX5_moving_30 : decode cX5_moving 30 = .ok (.iload_n 2, 1) := by decide +kernel
theorem dX5_moving_31 : decode cX5_moving 31 = .ok (.iaload, 1) := by decide +kernel
theorem dX5_moving_32 : decode cX5_moving 32 = .ok (.isub, 1) := by decide +kernel
theorem dX5_moving_33 : decode cX5_moving 33 = .ok (.invokestatic 88, 3) := by decide +kernel
theorem dX5_moving_36 : decode cX5_moving 36 = .ok (.iadd, 1) := by decide +kernel
theorem dX5_moving_37 : decode cX5_moving 37 = .ok (.istore_n 1, 1) := by decide +kernel
theorem dX5_moving_38 : decode cX5_moving 38 = .ok (.iinc 2 1, 3) := by decide +kernel
theorem dX5_moving_41 : decode cX5_moving 41 = .ok (.goto (-37), 3) := by decide +kernel
theorem dX5_moving_44 : decode cX5_moving 44 = .ok (.iload_n 1, 1) := by decide +kernel
theorem dX5_moving_45 : decode cX5_moving 45 = .ok (.ireturn, 1) := by decide +kernel
set_option maxRecDepth 20000 in
theorem ggX6_init_X3_init : GoodIn wsX6_init wsX3_init := goodIn_r _ [4, 5, 6, 7, 8, 9, 10, 11, 12, 13, 14, 15, 16] (by decide +kernel) (by decide +kernel)
set_option maxRecDepth 20000 in
theorem gX6_init_X3_init : GoodIn wsX6_init (wsX3_init) := ggX6_init_X3_init
theorem dX6_init_0 : decode cX6_init 0 = .ok (.aload_n 0, 1) := by decide +kernel
theorem dX6_init_1 : decode cX6_init 1 = .ok (.iload_n 1, 1) := by decide +kernel
theorem dX6_init_2 : decode cX6_init 2 = .ok (.invokespecial 1, 3) := by decide +kernel
theorem dX6_init_5 : decode cX6_init 5 = .ok (.return_, 1) := by decide +kernel
theorem dX6_kind_0 : decode cX6_kind 0 = .ok (.iconst 2, 1) := by decide +kernel
theorem dX6_kind_1 : decode cX6_kind 1 = .ok (.ireturn, 1) := by decide +kernel
set_option maxRecDepth 20000 in
theorem ggX6_shownOf_X3_shownOf : GoodIn wsX6_shownOf wsX3_shownOf := goodIn_r _ [6] (by decide +kernel) (by decide +kernel)
set_option maxRecDepth 20000 in
theorem gX6_shownOf_X3_shownOf_s7 : GoodIn wsX6_shownOf (va_wsSU RX6 7 yX3_shownOf wsX3_shownOf) := goodIn_app (goodIn_of _ (by decide +kernel)) ggX6_shownOf_X3_shownOf
theorem dX6_shownOf_0 : decode cX6_shownOf 0 = .ok (.aload_n 0, 1) := by decide +kernel
theorem dX6_shownOf_1 : decode cX6_shownOf 1 = .ok (.iload_n 1, 1) := by decide +kernel
theorem dX6_shownOf_2 : decode cX6_shownOf 2 = .ok (.invokespecial 7, 3) := by decide +kernel
theorem dX6_shownOf_5 : decode cX6_shownOf 5 = .ok (.bipush 9, 2) := by decide +kernel
theorem dX6_shownOf_7 : decode cX6_shownOf 7 = .ok (.imul, 1) := by decide +kernel
theorem dX6_shownOf_8 : decode cX6_shownOf 8 = .ok (.bipush 10, 2) := by decide +kernel
theorem dX6_shownOf_10 : decode cX6_shownOf 10 = .ok (.idiv, 1) := by decide +kernel
theorem dX6_shownOf_11 : decode cX6_shownOf 11 = .ok (.ireturn, 1) := by decide +kernel
set_option maxRecDepth 20000 in
theorem ggX6_weekly_X3_weekly : GoodIn wsX6_weekly wsX3_weekly := goodIn_r _ [6] (by decide +kernel) (by decide +kernel)
set_option maxRecDepth 20000 in
theorem gX6_weekly_X3_weekly_s11 : GoodIn wsX6_weekly (va_wsSU RX6 11 yX3_weekly wsX3_weekly) := goodIn_app (goodIn_of _ (by decide +kernel)) ggX6_weekly_X3_weekly
theorem dX6_weekly_0 : decode cX6_weekly 0 = .ok (.aload_n 0, 1) := by decide +kernel
theorem dX6_weekly_1 : decode cX6_weekly 1 = .ok (.invokespecial 11, 3) := by decide +kernel
theorem dX6_weekly_4 : decode cX6_weekly 4 = .ok (.iconst 1, 1) := by decide +kernel
theorem dX6_weekly_5 : decode cX6_weekly 5 = .ok (.isub, 1) := by decide +kernel
theorem dX6_weekly_6 : decode cX6_weekly 6 = .ok (.ireturn, 1) := by decide +kernel
set_option maxRecDepth 20000 in
theorem ggX6_price_X3_price : GoodIn wsX6_price wsX3_price := goodIn_r _ [6] (by decide +kernel) (by decide +kernel)
set_option maxRecDepth 20000 in
theorem gX6_price_X3_price_s15 : GoodIn wsX6_price (va_wsSU RX6 15 yX3_price wsX3_price) := goodIn_app (goodIn_of _ (by decide +kernel)) ggX6_price_X3_price
theorem dX6_price_0 : decode cX6_price 0 = .ok (.aload_n 0, 1) := by decide +kernel
theorem dX6_price_1 : decode cX6_price 1 = .ok (.invokespecial 15, 3) := by decide +kernel
theorem dX6_price_4 : decode cX6_price 4 = .ok (.iconst 2, 1) := by decide +kernel
theorem dX6_price_5 : decode cX6_price 5 = .ok (.isub, 1) := by decide +kernel
theorem dX6_price_6 : decode cX6_price 6 = .ok (.ireturn, 1) := by decide +kernel
theorem dX7_init_0 : decode cX7_init 0 = .ok (.aload_n 0, 1) := by decide +kernel
theorem dX7_init_1 : decode cX7_init 1 = .ok (.invokespecial 3, 3) := by decide +kernel
theorem dX7_init_4 : decode cX7_init 4 = .ok (.aload_n 0, 1) := by decide +kernel
theorem dX7_init_5 : decode cX7_init 5 = .ok (.bipush 9, 2) := by decide +kernel
theorem dX7_init_7 : decode cX7_init 7 = .ok (.anewarray 9, 3) := by decide +kernel
theorem dX7_init_10 : decode cX7_init 10 = .ok (.putfield 11, 3) := by decide +kernel
theorem dX7_init_13 : decode cX7_init 13 = .ok (.aload_n 0, 1) := by decide +kernel
theorem dX7_init_14 : decode cX7_init 14 = .ok (.bipush 9, 2) := by decide +kernel
theorem dX7_init_16 : decode cX7_init 16 = .ok (.newarray .int, 2) := by decide +kernel
theorem dX7_init_18 : decode cX7_init 18 = .ok (.putfield 17, 3) := by decide +kernel
theorem dX7_init_21 : decode cX7_init 21 = .ok (.return_, 1) := by decide +kernel
theorem dX7_become_0 : decode cX7_become 0 = .ok (.iconst 0, 1) := by decide +kernel
theorem dX7_become_1 : decode cX7_become 1 = .ok (.istore_n 2, 1) := by decide +kernel
theorem dX7_become_2 : decode cX7_become 2 = .ok (.iload_n 2, 1) := by decide +kernel
theorem dX7_become_3 : decode cX7_become 3 = .ok (.aload_n 0, 1) := by decide +kernel
theorem dX7_become_4 : decode cX7_become 4 = .ok (.getfield 11, 3) := by decide +kernel
theorem dX7_become_7 : decode cX7_become 7 = .ok (.arraylength, 1) := by decide +kernel
theorem dX7_become_8 : decode cX7_become 8 = .ok (.if_icmp .ge 33, 3) := by decide +kernel
theorem dX7_become_11 : decode cX7_become 11 = .ok (.aload_n 0, 1) := by decide +kernel
theorem dX7_become_12 : decode cX7_become 12 = .ok (.getfield 11, 3) := by decide +kernel
theorem dX7_become_15 : decode cX7_become 15 = .ok (.iload_n 2, 1) := by decide +kernel
theorem dX7_become_16 : decode cX7_become 16 = .ok (.aload_n 1, 1) := by decide +kernel
theorem dX7_become_17 : decode cX7_become 17 = .ok (.getfield 11, 3) := by decide +kernel
theorem dX7_become_20 : decode cX7_become 20 = .ok (.iload_n 2, 1) := by decide +kernel
theorem dX7_become_21 : decode cX7_become 21 = .ok (.aaload, 1) := by decide +kernel
theorem dX7_become_22 : decode cX7_become 22 = .ok (.aastore, 1) := by decide +kernel
theorem dX7_become_23 : decode cX7_become 23 = .ok (.aload_n 0, 1) := by decide +kernel
theorem dX7_become_24 : decode cX7_become 24 = .ok (.getfield 17, 3) := by decide +kernel
theorem dX7_become_27 : decode cX7_become 27 = .ok (.iload_n 2, 1) := by decide +kernel
theorem dX7_become_28 : decode cX7_become 28 = .ok (.aload_n 1, 1) := by decide +kernel
theorem dX7_become_29 : decode cX7_become 29 = .ok (.getfield 17, 3) := by decide +kernel
theorem dX7_become_32 : decode cX7_become 32 = .ok (.iload_n 2, 1) := by decide +kernel
theorem dX7_become_33 : decode cX7_become 33 = .ok (.iaload, 1) := by decide +kernel
theorem dX7_become_34 : decode cX7_become 34 = .ok (.iastore, 1) := by decide +kernel
theorem dX7_become_35 : decode cX7_become 35 = .ok (.iinc 2 1, 3) := by decide +kernel
theorem dX7_become_38 : decode cX7_become 38 = .ok (.goto (-36), 3) := by decide +kernel
theorem dX7_become_41 : decode cX7_become 41 = .ok (.aload_n 0, 1) := by decide +kernel
theorem dX7_become_42 : decode cX7_become 42 = .ok (.aload_n 1, 1) := by decide +kernel
theorem dX7_become_43 : decode cX7_become 43 = .ok (.getfield 21, 3) := by decide +kernel
theorem dX7_become_46 : decode cX7_become 46 = .ok (.putfield 21, 3) := by decide +kernel
theorem dX7_become_49 : decode cX7_become 49 = .ok (.aload_n 0, 1) := by decide +kernel
theorem dX7_become_50 : decode cX7_become 50 = .ok (.aload_n 1, 1) := by decide +kernel
theorem dX7_become_51 : decode cX7_become 51 = .ok (.getfield 25, 3) := by decide +kernel
theorem dX7_become_54 : decode cX7_become 54 = .ok (.putfield 25, 3) := by decide +kernel
theorem dX7_become_57 : decode cX7_become 57 = .ok (.return_, 1) := by decide +kernel
theorem dX7_has_0 : decode cX7_has 0 = .ok (.iload_n 1, 1) := by decide +kernel
theorem dX7_has_1 : decode cX7_has 1 = .ok (.ifCond .lt 15, 3) := by decide +kernel
theorem dX7_has_4 : decode cX7_has 4 = .ok (.iload_n 1, 1) := by decide +kernel
theorem dX7_has_5 : decode cX7_has 5 = .ok (.aload_n 0, 1) := by decide +kernel
theorem dX7_has_6 : decode cX7_has 6 = .ok (.getfield 21, 3) := by decide +kernel
theorem dX7_has_9 : decode cX7_has 9 = .ok (.if_icmp .ge 7, 3) := by decide +kernel
theorem dX7_has_12 : decode cX7_has 12 = .ok (.iconst 1, 1) := by decide +kernel
theorem dX7_has_13 : decode cX7_has 13 = .ok (.goto 4, 3) := by decide +kernel
theorem dX7_has_16 : decode cX7_has 16 = .ok (.iconst 0, 1) := by decide +kernel
theorem dX7_has_17 : decode cX7_has 17 = .ok (.ireturn, 1) := by decide +kernel
set_option maxRecDepth 20000 in
theorem ggX7_hasTwo_X7_has : GoodIn wsX7_hasTwo wsX7_has := goodIn_r _ [5, 6, 7, 8, 9, 10] (by decide +kernel) (by decide +kernel)
set_option maxRecDepth 20000 in
theorem gX7_hasTwo_X7_has : GoodIn wsX7_hasTwo (wsV RX7 28 RX7 yX7_has wsX7_has) := goodIn_app (goodIn_of _ (by decide +kernel)) ggX7_hasTwo_X7_has
theorem dX7_hasTwo_0 : decode cX7_hasTwo 0 = .ok (.aload_n 0, 1) := by decide +kernel
theorem dX7_hasTwo_1 : decode cX7_hasTwo 1 = .ok (.iload_n 1, 1) := by decide +kernel
theorem dX7_hasTwo_2 : decode cX7_hasTwo 2 = .ok (.invokevirtual 28, 3) := by decide +kernel
theorem dX7_hasTwo_5 : decode cX7_hasTwo 5 = .ok (.ifCond .eq 20, 3) := by decide +kernel
theorem dX7_hasTwo_8 : decode cX7_hasTwo 8 = .ok (.aload_n 0, 1) := by decide +kernel
theorem dX7_hasTwo_9 : decode cX7_hasTwo 9 = .ok (.iload_n 2, 1) := by decide +kernel
theorem dX7_hasTwo_10 : decode cX7_hasTwo 10 = .ok (.invokevirtual 28, 3) := by decide +kernel
theorem dX7_hasTwo_13 : decode cX7_hasTwo 13 = .ok (.ifCond .eq 12, 3) := by decide +kernel
theorem dX7_hasTwo_16 : decode cX7_hasTwo 16 = .ok (.iload_n 1, 1) := by decide +kernel
theorem dX7_hasTwo_17 : decode cX7_hasTwo 17 = .ok (.iload_n 2, 1) := by decide +kernel
theorem dX7_hasTwo_18 : decode cX7_hasTwo 18 = .ok (.if_icmp .eq 7, 3) := by decide +kernel
theorem dX7_hasTwo_21 : decode cX7_hasTwo 21 = .ok (.iconst 1, 1) := by decide +kernel
theorem dX7_hasTwo_22 : decode cX7_hasTwo 22 = .ok (.goto 4, 3) := by decide +kernel
theorem dX7_hasTwo_25 : decode cX7_hasTwo 25 = .ok (.iconst 0, 1) := by decide +kernel
theorem dX7_hasTwo_26 : decode cX7_hasTwo 26 = .ok (.ireturn, 1) := by decide +kernel
theorem dX7_isClosed_0 : decode cX7_isClosed 0 = .ok (.aload_n 0, 1) := by decide +kernel
theorem dX7_isClosed_1 : decode cX7_isClosed 1 = .ok (.getfield 25, 3) := by decide +kernel
theorem dX7_isClosed_4 : decode cX7_isClosed 4 = .ok (.iconst 1, 1) := by decide +kernel
theorem dX7_isClosed_5 : decode cX7_isClosed 5 = .ok (.if_icmp .ne 15, 3) := by decide +kernel
theorem dX7_isClosed_8 : decode cX7_isClosed 8 = .ok (.aload_n 0, 1) := by decide +kernel
theorem dX7_isClosed_9 : decode cX7_isClosed 9 = .ok (.getfield 21, 3) := by decide +kernel
theorem dX7_isClosed_12 : decode cX7_isClosed 12 = .ok (.iconst 3, 1) := by decide +kernel
theorem dX7_isClosed_13 : decode cX7_isClosed 13 = .ok (.if_icmp .lt 7, 3) := by decide +kernel
theorem dX7_isClosed_16 : decode cX7_isClosed 16 = .ok (.iconst 1, 1) := by decide +kernel
theorem dX7_isClosed_17 : decode cX7_isClosed 17 = .ok (.goto 4, 3) := by decide +kernel
theorem dX7_isClosed_20 : decode cX7_isClosed 20 = .ok (.iconst 0, 1) := by decide +kernel
theorem dX7_isClosed_21 : decode cX7_isClosed 21 = .ok (.ireturn, 1) := by decide +kernel
set_option maxRecDepth 20000 in
theorem ggX7_ahead_X7_isClosed : GoodIn wsX7_ahead wsX7_isClosed := goodIn_r _ [6, 7, 1, 8, 9, 10, 11] (by decide +kernel) (by decide +kernel)
set_option maxRecDepth 20000 in
theorem gX7_ahead_X7_isClosed : GoodIn wsX7_ahead (wsV RX7 32 RX7 yX7_isClosed wsX7_isClosed) := goodIn_app (goodIn_of _ (by decide +kernel)) ggX7_ahead_X7_isClosed
theorem dX7_ahead_0 : decode cX7_ahead 0 = .ok (.iload_n 1, 1) := by decide +kernel
theorem dX7_ahead_1 : decode cX7_ahead 1 = .ok (.ifCond .le 7, 3) := by decide +kernel
theorem dX7_ahead_4 : decode cX7_ahead 4 = .ok (.iload_n 1, 1) := by decide +kernel
theorem dX7_ahead_5 : decode cX7_ahead 5 = .ok (.iconst 1, 1) := by decide +kernel
theorem dX7_ahead_6 : decode cX7_ahead 6 = .ok (.isub, 1) := by decide +kernel
theorem dX7_ahead_7 : decode cX7_ahead 7 = .ok (.ireturn, 1) := by decide +kernel
theorem dX7_ahead_8 : decode cX7_ahead 8 = .ok (.aload_n 0, 1) := by decide +kernel
theorem dX7_ahead_9 : decode cX7_ahead 9 = .ok (.invokevirtual 32, 3) := by decide +kernel
theorem dX7_ahead_12 : decode cX7_ahead 12 = .ok (.ifCond .eq 12, 3) := by decide +kernel
theorem dX7_ahead_15 : decode cX7_ahead 15 = .ok (.aload_n 0, 1) := by decide +kernel
theorem dX7_ahead_16 : decode cX7_ahead 16 = .ok (.getfield 21, 3) := by decide +kernel
theorem dX7_ahead_19 : decode cX7_ahead 19 = .ok (.iconst 1, 1) := by decide +kernel
theorem dX7_ahead_20 : decode cX7_ahead 20 = .ok (.isub, 1) := by decide +kernel
theorem dX7_ahead_21 : decode cX7_ahead 21 = .ok (.goto 4, 3) := by decide +kernel
theorem dX7_ahead_24 : decode cX7_ahead 24 = .ok (.iconst (-1), 1) := by decide +kernel
theorem dX7_ahead_25 : decode cX7_ahead 25 = .ok (.ireturn, 1) := by decide +kernel
set_option maxRecDepth 20000 in
theorem ggX7_behind_X7_isClosed : GoodIn wsX7_behind wsX7_isClosed := goodIn_r _ [6, 7, 1, 8, 9, 10, 11] (by decide +kernel) (by decide +kernel)
set_option maxRecDepth 20000 in
theorem gX7_behind_X7_isClosed : GoodIn wsX7_behind (wsV RX7 32 RX7 yX7_isClosed wsX7_isClosed) := goodIn_app (goodIn_of _ (by decide +kernel)) ggX7_behind_X7_isClosed
theorem dX7_behind_0 : decode cX7_behind 0 = .ok (.iload_n 1, 1) := by decide +kernel
theorem dX7_behind_1 : decode cX7_behind 1 = .ok (.aload_n 0, 1) := by decide +kernel
theorem dX7_behind_2 : decode cX7_behind 2 = .ok (.getfield 21, 3) := by decide +kernel
theorem dX7_behind_5 : decode cX7_behind 5 = .ok (.iconst 1, 1) := by decide +kernel
theorem dX7_behind_6 : decode cX7_behind 6 = .ok (.isub, 1) := by decide +kernel
theorem dX7_behind_7 : decode cX7_behind 7 = .ok (.if_icmp .ge 7, 3) := by decide +kernel
theorem dX7_behind_10 : decode cX7_behind 10 = .ok (.iload_n 1, 1) := by decide +kernel
theorem dX7_behind_11 : decode cX7_behind 11 = .ok (.iconst 1, 1) := by decide +kernel
theorem dX7_behind_12 : decode cX7_behind 12 = .ok (.iadd, 1) := by decide +kernel
theorem dX7_behind_13 : decode cX7_behind 13 = .ok (.ireturn, 1) := by decide +kernel
theorem dX7_behind_14 : decode cX7_behind 14 = .ok (.aload_n 0, 1) := by decide +kernel
theorem dX7_behind_15 : decode cX7_behind 15 = .ok (.invokevirtual 32, 3) := by decide +kernel
theorem dX7_behind_18 : decode cX7_behind 18 = .ok (.ifCond .eq 7, 3) := by decide +kernel
theorem dX7_behind_21 : decode cX7_behind 21 = .ok (.iconst 0, 1) := by decide +kernel
theorem dX7_behind_22 : decode cX7_behind 22 = .ok (.goto 4, 3) := by decide +kernel
theorem dX7_behind_25 : decode cX7_behind 25 = .ok (.iconst (-1), 1) := by decide +kernel
theorem dX7_behind_26 : decode cX7_behind 26 = .ok (.ireturn, 1) := by decide +kernel
set_option maxRecDepth 20000 in
theorem ggX7_limitBy_X3_isLookedAt : GoodIn wsX7_limitBy wsX3_isLookedAt := goodIn_r _ [9] (by decide +kernel) (by decide +kernel)
set_option maxRecDepth 20000 in
theorem gX7_limitBy_X3_isLookedAt_u36X0 : GoodIn wsX7_limitBy (va_wsU RX7 36 RX0 "TwiceAsRich$House" ⟨"TwiceAsRich$House", "isLookedAt", "()Z"⟩ yX3_isLookedAt wsX3_isLookedAt) := goodIn_app (goodIn_of _ (by decide +kernel)) ggX7_limitBy_X3_isLookedAt
set_option maxRecDepth 20000 in
theorem ggX7_limitBy_X1_isLookedAt : GoodIn wsX7_limitBy wsX1_isLookedAt := goodIn_r _ [14] (by decide +kernel) (by decide +kernel)
set_option maxRecDepth 20000 in
theorem gX7_limitBy_X1_isLookedAt_u36X1 : GoodIn wsX7_limitBy (va_wsO RX7 36 RX1 "TwiceAsRich$House" ⟨"TwiceAsRich$House", "isLookedAt", "()Z"⟩ yX1_isLookedAt wsX1_isLookedAt) := goodIn_app (goodIn_of _ (by decide +kernel)) ggX7_limitBy_X1_isLookedAt
set_option maxRecDepth 20000 in
theorem gX7_limitBy_X3_isLookedAt_u36X2 : GoodIn wsX7_limitBy (va_wsU RX7 36 RX2 "TwiceAsRich$House" ⟨"TwiceAsRich$House", "isLookedAt", "()Z"⟩ yX3_isLookedAt wsX3_isLookedAt) := goodIn_app (goodIn_of _ (by decide +kernel)) ggX7_limitBy_X3_isLookedAt
set_option maxRecDepth 20000 in
theorem gX7_limitBy_X3_isLookedAt : GoodIn wsX7_limitBy (wsV RX7 36 RX3 yX3_isLookedAt wsX3_isLookedAt) := goodIn_app (goodIn_of _ (by decide +kernel)) ggX7_limitBy_X3_isLookedAt
set_option maxRecDepth 20000 in
theorem gX7_limitBy_X3_isLookedAt_u36X4 : GoodIn wsX7_limitBy (va_wsU RX7 36 RX4 "TwiceAsRich$House" ⟨"TwiceAsRich$House", "isLookedAt", "()Z"⟩ yX3_isLookedAt wsX3_isLookedAt) := goodIn_app (goodIn_of _ (by decide +kernel)) ggX7_limitBy_X3_isLookedAt
set_option maxRecDepth 20000 in
theorem gX7_limitBy_X3_isLookedAt_u36X6 : GoodIn wsX7_limitBy (va_wsU RX7 36 RX6 "TwiceAsRich$House" ⟨"TwiceAsRich$House", "isLookedAt", "()Z"⟩ yX3_isLookedAt wsX3_isLookedAt) := goodIn_app (goodIn_of _ (by decide +kernel)) ggX7_limitBy_X3_isLookedAt
set_option maxRecDepth 20000 in
theorem gX7_limitBy_X3_isLookedAt_u36X9 : GoodIn wsX7_limitBy (va_wsU RX7 36 RX9 "TwiceAsRich$House" ⟨"TwiceAsRich$House", "isLookedAt", "()Z"⟩ yX3_isLookedAt wsX3_isLookedAt) := goodIn_app (goodIn_of _ (by decide +kernel)) ggX7_limitBy_X3_isLookedAt
set_option maxRecDepth 20000 in
theorem ggX7_limitBy_X10_isLookedAt : GoodIn wsX7_limitBy wsX10_isLookedAt := goodIn_r _ [24] (by decide +kernel) (by decide +kernel)
set_option maxRecDepth 20000 in
theorem gX7_limitBy_X10_isLookedAt_u36X10 : GoodIn wsX7_limitBy (va_wsO RX7 36 RX10 "TwiceAsRich$House" ⟨"TwiceAsRich$House", "isLookedAt", "()Z"⟩ yX10_isLookedAt wsX10_isLookedAt) := goodIn_app (goodIn_of _ (by decide +kernel)) ggX7_limitBy_X10_isLookedAt
set_option maxRecDepth 20000 in
theorem ggX7_limitBy_X0_shownOf : GoodIn wsX7_limitBy wsX0_shownOf := goodIn_r _ [31, 32, 33, 34, 35, 36, 37, 38, 39, 40, 26, 41, 42, 8, 43, 96, 97, 98, 99, 100, 101, 102, 103] (by decide +kernel) (by decide +kernel)
set_option maxRecDepth 20000 in
theorem gX7_limitBy_X0_shownOf_u40X0 : GoodIn wsX7_limitBy (va_wsO RX7 40 RX0 "TwiceAsRich$House" ⟨"TwiceAsRich$House", "shownOf", "(I)I"⟩ yX0_shownOf wsX0_shownOf) := goodIn_app (goodIn_of _ (by decide +kernel)) ggX7_limitBy_X0_shownOf
set_option maxRecDepth 20000 in
theorem ggX7_limitBy_X3_shownOf : GoodIn wsX7_limitBy wsX3_shownOf := goodIn_r _ [43] (by decide +kernel) (by decide +kernel)
set_option maxRecDepth 20000 in
theorem gX7_limitBy_X3_shownOf_u40X1 : GoodIn wsX7_limitBy (va_wsU RX7 40 RX1 "TwiceAsRich$House" ⟨"TwiceAsRich$House", "shownOf", "(I)I"⟩ yX3_shownOf wsX3_shownOf) := goodIn_app (goodIn_of _ (by decide +kernel)) ggX7_limitBy_X3_shownOf
set_option maxRecDepth 20000 in
theorem gX7_limitBy_X3_shownOf_u40X2 : GoodIn wsX7_limitBy (va_wsU RX7 40 RX2 "TwiceAsRich$House" ⟨"TwiceAsRich$House", "shownOf", "(I)I"⟩ yX3_shownOf wsX3_shownOf) := goodIn_app (goodIn_of _ (by decide +kernel)) ggX7_limitBy_X3_shownOf
set_option maxRecDepth 20000 in
theorem gX7_limitBy_X3_shownOf : GoodIn wsX7_limitBy (wsV RX7 40 RX3 yX3_shownOf wsX3_shownOf) := goodIn_app (goodIn_of _ (by decide +kernel)) ggX7_limitBy_X3_shownOf
set_option maxRecDepth 20000 in
theorem ggX7_limitBy_X4_shownOf : GoodIn wsX7_limitBy wsX4_shownOf := goodIn_r _ [51] (by decide +kernel) (by decide +kernel)
set_option maxRecDepth 20000 in
theorem gX7_limitBy_X4_shownOf_u40X4 : GoodIn wsX7_limitBy (va_wsO RX7 40 RX4 "TwiceAsRich$House" ⟨"TwiceAsRich$House", "shownOf", "(I)I"⟩ yX4_shownOf wsX4_shownOf) := goodIn_app (goodIn_of _ (by decide +kernel)) ggX7_limitBy_X4_shownOf
set_option maxRecDepth 20000 in
theorem ggX7_limitBy_X6_shownOf : GoodIn wsX7_limitBy wsX6_shownOf := goodIn_r _ [39, 40, 26, 41, 42, 8, 43] (by decide +kernel) (by decide +kernel)
set_option maxRecDepth 20000 in
theorem gX7_limitBy_X6_shownOf_u40X6 : GoodIn wsX7_limitBy (va_wsO RX7 40 RX6 "TwiceAsRich$House" ⟨"TwiceAsRich$House", "shownOf", "(I)I"⟩ yX6_shownOf wsX6_shownOf) := goodIn_app (goodIn_of _ (by decide +kernel)) ggX7_limitBy_X6_shownOf
set_option maxRecDepth 20000 in
theorem gX7_limitBy_X3_shownOf_u40X9 : GoodIn wsX7_limitBy (va_wsU RX7 40 RX9 "TwiceAsRich$House" ⟨"TwiceAsRich$House", "shownOf", "(I)I"⟩ yX3_shownOf wsX3_shownOf) := goodIn_app (goodIn_of _ (by decide +kernel)) ggX7_limitBy_X3_shownOf
set_option maxRecDepth 20000 in
theorem gX7_limitBy_X3_shownOf_u40X10 : GoodIn wsX7_limitBy (va_wsU RX7 40 RX10 "TwiceAsRich$House" ⟨"TwiceAsRich$House", "shownOf", "(I)I"⟩ yX3_shownOf wsX3_shownOf) := goodIn_app (goodIn_of _ (by decide +kernel)) ggX7_limitBy_X3_shownOf
set_option maxRecDepth 20000 in
theorem ggX7_limitBy_X3_allowedBy : GoodIn wsX7_limitBy wsX3_allowedBy := goodIn_r _ [59] (by decide +kernel) (by decide +kernel)
set_option maxRecDepth 20000 in
theorem gX7_limitBy_X3_allowedBy_u44X0 : GoodIn wsX7_limitBy (va_wsU RX7 44 RX0 "TwiceAsRich$House" ⟨"TwiceAsRich$House", "allowedBy", "(I)I"⟩ yX3_allowedBy wsX3_allowedBy) := goodIn_app (goodIn_of _ (by decide +kernel)) ggX7_limitBy_X3_allowedBy
set_option maxRecDepth 20000 in
theorem ggX7_limitBy_X10_allowedBy : GoodIn wsX7_limitBy wsX10_allowedBy := goodIn_r _ [63] (by decide +kernel) (by decide +kernel)
set_option maxRecDepth 20000 in
theorem gX7_limitBy_X10_allowedBy_u44X1 : GoodIn wsX7_limitBy (va_wsO RX7 44 RX1 "TwiceAsRich$House" ⟨"TwiceAsRich$House", "allowedBy", "(I)I"⟩ yX10_allowedBy wsX10_allowedBy) := goodIn_app (goodIn_of _ (by decide +kernel)) ggX7_limitBy_X10_allowedBy
set_option maxRecDepth 20000 in
theorem ggX7_limitBy_X2_allowedBy : GoodIn wsX7_limitBy wsX2_allowedBy := goodIn_r _ [67, 68, 69, 70, 56, 71, 58, 8, 59, 96, 97, 98, 99, 100, 101, 102, 103] (by decide +kernel) (by decide +kernel)
set_option maxRecDepth 20000 in
theorem gX7_limitBy_X2_allowedBy_u44X2 : GoodIn wsX7_limitBy (va_wsO RX7 44 RX2 "TwiceAsRich$House" ⟨"TwiceAsRich$House", "allowedBy", "(I)I"⟩ yX2_allowedBy wsX2_allowedBy) := goodIn_app (goodIn_of _ (by decide +kernel)) ggX7_limitBy_X2_allowedBy
set_option maxRecDepth 20000 in
theorem gX7_limitBy_X3_allowedBy : GoodIn wsX7_limitBy (wsV RX7 44 RX3 yX3_allowedBy wsX3_allowedBy) := goodIn_app (goodIn_of _ (by decide +kernel)) ggX7_limitBy_X3_allowedBy
set_option maxRecDepth 20000 in
theorem ggX7_limitBy_X4_allowedBy : GoodIn wsX7_limitBy wsX4_allowedBy := goodIn_r _ [76, 77, 78, 79, 80, 81, 82, 83, 65, 66, 67, 68, 69, 70, 56, 71, 58, 8, 59, 96, 97, 98, 99, 100, 101, 102, 103] (by decide +kernel) (by decide +kernel)
set_option maxRecDepth 20000 in
theorem gX7_limitBy_X4_allowedBy_u44X4 : GoodIn wsX7_limitBy (va_wsO RX7 44 RX4 "TwiceAsRich$House" ⟨"TwiceAsRich$House", "allowedBy", "(I)I"⟩ yX4_allowedBy wsX4_allowedBy) := goodIn_app (goodIn_of _ (by decide +kernel)) ggX7_limitBy_X4_allowedBy
set_option maxRecDepth 20000 in
theorem gX7_limitBy_X3_allowedBy_u44X6 : GoodIn wsX7_limitBy (va_wsU RX7 44 RX6 "TwiceAsRich$House" ⟨"TwiceAsRich$House", "allowedBy", "(I)I"⟩ yX3_allowedBy wsX3_allowedBy) := goodIn_app (goodIn_of _ (by decide +kernel)) ggX7_limitBy_X3_allowedBy
set_option maxRecDepth 20000 in
theorem ggX7_limitBy_X9_allowedBy : GoodIn wsX7_limitBy wsX9_allowedBy := goodIn_r _ [88, 89, 82, 90, 65, 66, 67, 68, 69, 70, 56, 71, 58, 8, 59, 96, 97, 98, 99, 100, 101, 102, 103] (by decide +kernel) (by decide +kernel)
set_option maxRecDepth 20000 in
theorem gX7_limitBy_X9_allowedBy_u44X9 : GoodIn wsX7_limitBy (va_wsO RX7 44 RX9 "TwiceAsRich$House" ⟨"TwiceAsRich$House", "allowedBy", "(I)I"⟩ yX9_allowedBy wsX9_allowedBy) := goodIn_app (goodIn_of _ (by decide +kernel)) ggX7_limitBy_X9_allowedBy
set_option maxRecDepth 20000 in
theorem gX7_limitBy_X10_allowedBy_u44X10 : GoodIn wsX7_limitBy (va_wsO RX7 44 RX10 "TwiceAsRich$House" ⟨"TwiceAsRich$House", "allowedBy", "(I)I"⟩ yX10_allowedBy wsX10_allowedBy) := goodIn_app (goodIn_of _ (by decide +kernel)) ggX7_limitBy_X10_allowedBy
theorem dX7_limitBy_0 : decode cX7_limitBy 0 = .ok (.iload_n 2, 1) := by decide +kernel
theorem dX7_limitBy_1 : decode cX7_limitBy 1 = .ok (.iconst (-1), 1) := by decide +kernel
theorem dX7_limitBy_2 : decode cX7_limitBy 2 = .ok (.if_icmp .eq 15, 3) := by decide +kernel
theorem dX7_limitBy_5 : decode cX7_limitBy 5 = .ok (.aload_n 0, 1) := by decide +kernel
theorem dX7_limitBy_6 : decode cX7_limitBy 6 = .ok (.getfield 11, 3) := by decide +kernel
theorem dX7_limitBy_9 : decode cX7_limitBy 9 = .ok (.iload_n 2, 1) := by decide +kernel
theorem dX7_limitBy_10 : decode cX7_limitBy 10 = .ok (.aaload, 1) := by decide +kernel
theorem dX7_limitBy_11 : decode cX7_limitBy 11 = .ok (.invokevirtual 36, 3) := by decide +kernel
theorem dX7_limitBy_14 : decode cX7_limitBy 14 = .ok (.ifCond .ne 6, 3) := by decide +kernel
theorem dX7_limitBy_17 : decode cX7_limitBy 17 = .ok (.ldc 39, 2) := by decide +kernel
theorem dX7_limitBy_19 : decode cX7_limitBy 19 = .ok (.ireturn, 1) := by decide +kernel
theorem dX7_limitBy_20 : decode cX7_limitBy 20 = .ok (.aload_n 0, 1) := by decide +kernel
theorem dX7_limitBy_21 : decode cX7_limitBy 21 = .ok (.getfield 11, 3) := by decide +kernel
theorem dX7_limitBy_24 : decode cX7_limitBy 24 = .ok (.iload_n 1, 1) := by decide +kernel
theorem dX7_limitBy_25 : decode cX7_limitBy 25 = .ok (.aaload, 1) := by decide +kernel
theorem dX7_limitBy_26 : decode cX7_limitBy 26 = .ok (.aload_n 0, 1) := by decide +kernel
theorem dX7_limitBy_27 : decode cX7_limitBy 27 = .ok (.getfield 11, 3) := by decide +kernel
theorem dX7_limitBy_30 : decode cX7_limitBy 30 = .ok (.iload_n 2, 1) := by decide +kernel
theorem dX7_limitBy_31 : decode cX7_limitBy 31 = .ok (.aaload, 1) := by decide +kernel
theorem dX7_limitBy_32 : decode cX7_limitBy 32 = .ok (.aload_n 0, 1) := by decide +kernel
theorem dX7_limitBy_33 : decode cX7_limitBy 33 = .ok (.getfield 17, 3) := by decide +kernel
theorem dX7_limitBy_36 : decode cX7_limitBy 36 = .ok (.iload_n 2, 1) := by decide +kernel
theorem dX7_limitBy_37 : decode cX7_limitBy 37 = .ok (.iaload, 1) := by decide +kernel
theorem dX7_limitBy_38 : decode cX7_limitBy 38 = .ok (.invokevirtual 40, 3) := by decide +kernel
theorem dX7_limitBy_41 : decode cX7_limitBy 41 = .ok (.invokevirtual 44, 3) := by decide +kernel
theorem dX7_limitBy_44 : decode cX7_limitBy 44 = .ok (.ireturn, 1) := by decide +kernel
set_option maxRecDepth 20000 in
theorem ggX7_mostOf_X7_ahead : GoodIn wsX7_mostOf wsX7_ahead := goodIn_r _ [9, 10, 11, 12, 13, 8, 14, 15, 114, 115, 116, 117] (by decide +kernel) (by decide +kernel)
set_option maxRecDepth 20000 in
theorem gX7_mostOf_X7_ahead : GoodIn wsX7_mostOf (wsV RX7 47 RX7 yX7_ahead wsX7_ahead) := goodIn_app (goodIn_of _ (by decide +kernel)) ggX7_mostOf_X7_ahead
set_option maxRecDepth 20000 in
theorem ggX7_mostOf_X7_limitBy : GoodIn wsX7_mostOf wsX7_limitBy := goodIn_r _ [19, 20, 21, 22, 23, 24, 25, 26, 27, 28, 29, 30, 31, 32, 33, 34, 35, 36, 37, 38, 39, 40, 41, 42, 43, 44, 45, 46, 47, 48, 49, 50, 51, 52, 53, 54, 55, 56, 57, 58, 59, 60, 61, 62, 63, 64, 65, 66, 67, 68, 69, 70, 71, 72, 73, 74, 75, 76, 77, 78, 79, 80, 81, 82, 83, 84, 85, 86, 87, 88, 89, 90, 91, 92, 93, 94, 95, 96, 97, 3, 98, 99, 100, 101, 102, 103, 104, 105, 106, 107, 108, 109, 114, 115, 116, 117, 118, 119, 120, 121, 122, 123, 124, 125] (by decide +kernel) (by decide +kernel)
set_option maxRecDepth 20000 in
theorem gX7_mostOf_X7_limitBy : GoodIn wsX7_mostOf (wsV RX7 50 RX7 yX7_limitBy wsX7_limitBy) := goodIn_app (goodIn_of _ (by decide +kernel)) ggX7_mostOf_X7_limitBy
set_option maxRecDepth 20000 in
theorem ggX7_mostOf_X7_behind : GoodIn wsX7_mostOf wsX7_behind := goodIn_r _ [113, 10, 11, 12, 13, 8, 14, 15, 114, 115, 116, 117] (by decide +kernel) (by decide +kernel)
set_option maxRecDepth 20000 in
theorem gX7_mostOf_X7_behind : GoodIn wsX7_mostOf (wsV RX7 54 RX7 yX7_behind wsX7_behind) := goodIn_app (goodIn_of _ (by decide +kernel)) ggX7_mostOf_X7_behind
theorem dX7_mostOf_0 : decode cX7_mostOf 0 = .ok (.sipush 9999, 3) := by decide +kernel
theorem dX7_mostOf_3 : decode cX7_mostOf 3 = .ok (.aload_n 0, 1) := by decide +kernel
theorem dX7_mostOf_4 : decode cX7_mostOf 4 = .ok (.iload_n 1, 1) := by decide +kernel
theorem dX7_mostOf_5 : decode cX7_mostOf 5 = .ok (.aload_n 0, 1) := by decide +kernel
theorem dX7_mostOf_6 : decode cX7_mostOf 6 = .ok (.iload_n 1, 1) := by decide +kernel
theorem dX7_mostOf_7 : decode cX7_mostOf 7 = .ok (.invokevirtual 47, 3) := by decide +kernel
theorem dX7_mostOf_10 : decode cX7_mostOf 10 = .ok (.invokevirtual 50, 3) := by decide +kernel
theorem dX7_mostOf_13 : decode cX7_mostOf 13 = .ok (.aload_n 0, 1) := by decide +kernel
theorem dX7_mostOf_14 : decode cX7_mostOf 14 = .ok (.iload_n 1, 1) := by decide +kernel
theorem dX7_mostOf_15 : decode cX7_mostOf 15 = .ok (.aload_n 0, 1) := by decide +kernel
theorem dX7_mostOf_16 : decode cX7_mostOf 16 = .ok (.iload_n 1, 1) := by decide +kernel
theorem dX7_mostOf_17 : decode cX7_mostOf 17 = .ok (.invokevirtual 54, 3) := by decide +kernel
theorem dX7_mostOf_20 : decode cX7_mostOf 20 = .ok (.invokevirtual 50, 3) := by decide +kernel
theorem dX7_mostOf_23 : decode cX7_mostOf 23 = .ok (.invokestatic 57, 3) := by decide +kernel
theorem dX7_mostOf_26 : decode cX7_mostOf 26 = .ok (.invokestatic 57, 3) := by decide +kernel
theorem dX7_mostOf_29 : decode cX7_mostOf 29 = .ok (.ireturn, 1) := by decide +kernel
set_option maxRecDepth 20000 in
theorem ggX7_breachesOf_X7_ahead : GoodIn wsX7_breachesOf wsX7_ahead := goodIn_r _ [6, 7, 8, 9, 10, 5, 11, 12, 111, 112, 113, 114] (by decide +kernel) (by decide +kernel)
set_option maxRecDepth 20000 in
theorem gX7_breachesOf_X7_ahead : GoodIn wsX7_breachesOf (wsV RX7 47 RX7 yX7_ahead wsX7_ahead) := goodIn_app (goodIn_of _ (by decide +kernel)) ggX7_breachesOf_X7_ahead
set_option maxRecDepth 20000 in
theorem ggX7_breachesOf_X7_limitBy : GoodIn wsX7_breachesOf wsX7_limitBy := goodIn_r _ [16, 17, 18, 1, 19, 20, 21, 22, 23, 24, 25, 26, 27, 28, 29, 30, 31, 32, 33, 34, 35, 36, 37, 38, 39, 40, 41, 42, 43, 44, 45, 46, 47, 48, 49, 50, 51, 52, 53, 54, 55, 56, 57, 58, 59, 60, 61, 62, 63, 64, 65, 66, 67, 68, 69, 70, 71, 72, 73, 74, 75, 76, 77, 78, 79, 80, 81, 82, 83, 84, 85, 86, 87, 88, 89, 90, 91, 92, 93, 94, 95, 96, 97, 98, 99, 100, 101, 102, 103, 104, 105, 106, 111, 112, 113, 114, 115, 116, 117, 118, 119, 120, 121, 122] (by decide +kernel) (by decide +kernel)
set_option maxRecDepth 20000 in
theorem gX7_breachesOf_X7_limitBy : GoodIn wsX7_breachesOf (wsV RX7 50 RX7 yX7_limitBy wsX7_limitBy) := goodIn_app (goodIn_of _ (by decide +kernel)) ggX7_breachesOf_X7_limitBy
set_option maxRecDepth 20000 in
theorem ggX7_breachesOf_X7_behind : GoodIn wsX7_breachesOf wsX7_behind := goodIn_r _ [110, 7, 8, 9, 10, 5, 11, 12, 111, 112, 113, 114] (by decide +kernel) (by decide +kernel)
set_option maxRecDepth 20000 in
theorem gX7_breachesOf_X7_behind : GoodIn wsX7_breachesOf (wsV RX7 54 RX7 yX7_behind wsX7_behind) := goodIn_app (goodIn_of _ (by decide +kernel)) ggX7_breachesOf_X7_behind
theorem dX7_breachesOf_0 : decode cX7_breachesOf 0 = .ok (.aload_n 0, 1) := by decide +kernel
theorem dX7_breachesOf_1 : decode cX7_breachesOf 1 = .ok (.getfield 17, 3) := by decide +kernel
theorem dX7_breachesOf_4 : decode cX7_breachesOf 4 = .ok (.iload_n 1, 1) := by decide +kernel
theorem dX7_breachesOf_5 : decode cX7_breachesOf 5 = .ok (.iaload, 1) := by decide +kernel
theorem dX7_breachesOf_6 : decode cX7_breachesOf 6 = .ok (.aload_n 0, 1) := by decide +kernel
theorem dX7_breachesOf_7 : decode cX7_breachesOf 7 = .ok (.iload_n 1, 1) := by decide +kernel
theorem dX7_breachesOf_8 : decode cX7_breachesOf 8 = .ok (.aload_n 0, 1) := by decide +kernel
theorem dX7_breachesOf_9 : decode cX7_breachesOf 9 = .ok (.iload_n 1, 1) := by decide +kernel
theorem dX7_breachesOf_10 : decode cX7_breachesOf 10 = .ok (.invokevirtual 47, 3) := by decide +kernel
theorem dX7_breachesOf_13 : decode cX7_breachesOf 13 = .ok (.invokevirtual 50, 3) := by decide +kernel
theorem dX7_breachesOf_16 : decode cX7_breachesOf 16 = .ok (.if_icmp .le 7, 3) := by decide +kernel
theorem dX7_breachesOf_19 : decode cX7_breachesOf 19 = .ok (.iconst 1, 1) := by decide +kernel
theorem dX7_breachesOf_20 : decode cX7_breachesOf 20 = .ok (.goto 4, 3) := by decide +kernel
theorem dX7_breachesOf_23 : decode cX7_breachesOf 23 = .ok (.iconst 0, 1) := by decide +kernel
theorem dX7_breachesOf_24 : decode cX7_breachesOf 24 = .ok (.istore_n 2, 1) := by decide +kernel
theorem dX7_breachesOf_25 : decode cX7_breachesOf 25 = .ok (.aload_n 0, 1) := by decide +kernel
theorem dX7_breachesOf_26 : decode cX7_breachesOf 26 = .ok (.getfield 17, 3) := by decide +kernel
theorem dX7_breachesOf_29 : decode cX7_breachesOf 29 = .ok (.iload_n 1, 1) := by decide +kernel
theorem dX7_breachesOf_30 : decode cX7_breachesOf 30 = .ok (.iaload, 1) := by decide +kernel
theorem dX7_breachesOf_31 : decode cX7_breachesOf 31 = .ok (.aload_n 0, 1) := by decide +kernel
theorem dX7_breachesOf_32 : decode cX7_breachesOf 32 = .ok (.iload_n 1, 1) := by decide +kernel
theorem dX7_breachesOf_33 : decode cX7_breachesOf 33 = .ok (.aload_n 0, 1) := by decide +kernel
theorem dX7_breachesOf_34 : decode cX7_breachesOf 34 = .ok (.iload_n 1, 1) := by decide +kernel
theorem dX7_breachesOf_35 : decode cX7_breachesOf 35 = .ok (.invokevirtual 54, 3) := by decide +kernel
theorem dX7_breachesOf_38 : decode cX7_breachesOf 38 = .ok (.invokevirtual 50, 3) := by decide +kernel
theorem dX7_breachesOf_41 : decode cX7_breachesOf 41 = .ok (.if_icmp .le 9, 3) := by decide +kernel
theorem dX7_breachesOf_44 : decode cX7_breachesOf 44 = .ok (.iload_n 2, 1) := by decide +kernel
theorem dX7_breachesOf_45 : decode cX7_breachesOf 45 = .ok (.iconst 1, 1) := by decide +kernel
theorem dX7_breachesOf_46 : decode cX7_breachesOf 46 = .ok (.iadd, 1) := by decide +kernel
theorem dX7_breachesOf_47 : decode cX7_breachesOf 47 = .ok (.goto 4, 3) := by decide +kernel
theorem dX7_breachesOf_50 : decode cX7_breachesOf 50 = .ok (.iload_n 2, 1) := by decide +kernel
theorem dX7_breachesOf_51 : decode cX7_breachesOf 51 = .ok (.ireturn, 1) := by decide +kernel
set_option maxRecDepth 20000 in
theorem ggX7_allBreaches_X7_breachesOf : GoodIn wsX7_allBreaches wsX7_breachesOf := goodIn_r _ [6, 7, 8, 9, 10, 5, 11, 1, 12, 13, 14, 15, 16, 17, 18, 19, 20, 21, 22, 23, 24, 25, 26, 27, 28, 29, 30, 31, 32, 33, 34, 35, 36, 37, 38, 39, 40, 41, 42, 43, 44, 45, 46, 47, 48, 49, 50, 51, 52, 53, 54, 55, 56, 57, 58, 59, 60, 61, 62, 63, 64, 65, 66, 67, 68, 69, 70, 71, 72, 73, 74, 75, 76, 77, 78, 79, 80, 81, 82, 83, 84, 85, 86, 87, 88, 89, 90, 91, 92, 93, 94, 95, 96, 97, 98, 99, 100, 101, 102, 103, 104, 105, 106, 107, 108, 109, 110, 111, 112, 113, 114, 115, 116, 117, 118, 119, 120, 121, 122, 123, 124, 125, 126] (by decide +kernel) (by decide +kernel)
set_option maxRecDepth 20000 in
theorem gX7_allBreaches_X7_breachesOf : GoodIn wsX7_allBreaches (wsV RX7 62 RX7 yX7_breachesOf wsX7_breachesOf) := goodIn_app (goodIn_of _ (by decide +kernel)) ggX7_allBreaches_X7_breachesOf
theorem dX7_allBreaches_0 : decode cX7_allBreaches 0 = .ok (.iconst 0, 1) := by decide +kernel
theorem dX7_allBreaches_1 : decode cX7_allBreaches 1 = .ok (.istore_n 1, 1) := by decide +kernel
theorem dX7_allBreaches_2 : decode cX7_allBreaches 2 = .ok (.iconst 0, 1) := by decide +kernel
theorem dX7_allBreaches_3 : decode cX7_allBreaches 3 = .ok (.istore_n 2, 1) := by decide +kernel
theorem dX7_allBreaches_4 : decode cX7_allBreaches 4 = .ok (.iload_n 2, 1) := by decide +kernel
theorem dX7_allBreaches_5 : decode cX7_allBreaches 5 = .ok (.aload_n 0, 1) := by decide +kernel
theorem dX7_allBreaches_6 : decode cX7_allBreaches 6 = .ok (.getfield 21, 3) := by decide +kernel
theorem dX7_allBreaches_9 : decode cX7_allBreaches 9 = .ok (.if_icmp .ge 17, 3) := by decide +kernel
theorem dX7_allBreaches_12 : decode cX7_allBreaches 12 = .ok (.iload_n 1, 1) := by decide +kernel
theorem dX7_allBreaches_13 : decode cX7_allBreaches 13 = .ok (.aload_n 0, 1) := by decide +kernel
theorem dX7_allBreaches_14 : decode cX7_allBreaches 14 = .ok (.iload_n 2, 1) := by decide +kernel
theorem dX7_allBreaches_15 : decode cX7_allBreaches 15 = .ok (.invokevirtual 62, 3) := by decide +kernel
theorem dX7_allBreaches_18 : decode cX7_allBreaches 18 = .ok (.iadd, 1) := by decide +kernel
theorem dX7_allBreaches_19 : decode cX7_allBreaches 19 = .ok (.istore_n 1, 1) := by decide +kernel
theorem dX7_allBreaches_20 : decode cX7_allBreaches 20 = .ok (.iinc 2 1, 3) := by decide +kernel
theorem dX7_allBreaches_23 : decode cX7_allBreaches 23 = .ok (.goto (-19), 3) := by decide +kernel
theorem dX7_allBreaches_26 : decode cX7_allBreaches 26 = .ok (.iload_n 1, 1) := by decide +kernel
theorem dX7_allBreaches_27 : decode cX7_allBreaches 27 = .ok (.ireturn, 1) := by decide +kernel
set_option maxRecDepth 20000 in
theorem ggX7_housesWithoutBreach_X7_breachesOf : GoodIn wsX7_housesWithoutBreach wsX7_breachesOf := goodIn_r _ [6, 7, 8, 9, 10, 5, 11, 1, 12, 13, 14, 15, 16, 17, 18, 19, 20, 21, 22, 23, 24, 25, 26, 27, 28, 29, 30, 31, 32, 33, 34, 35, 36, 37, 38, 39, 40, 41, 42, 43, 44, 45, 46, 47, 48, 49, 50, 51, 52, 53, 54, 55, 56, 57, 58, 59, 60, 61, 62, 63, 64, 65, 66, 67, 68, 69, 70, 71, 72, 73, 74, 75, 76, 77, 78, 79, 80, 81, 82, 83, 84, 85, 86, 87, 88, 89, 90, 91, 92, 93, 94, 95, 96, 97, 98, 99, 100, 101, 102, 103, 104, 105, 106, 107, 108, 109, 110, 111, 112, 113, 114, 115, 116, 117, 118, 119, 120, 121, 122, 123, 124, 125, 126] (by decide +kernel) (by decide +kernel)
set_option maxRecDepth 20000 in
theorem gX7_housesWithoutBreach_X7_breachesOf : GoodIn wsX7_housesWithoutBreach (wsV RX7 62 RX7 yX7_breachesOf wsX7_breachesOf) := goodIn_app (goodIn_of _ (by decide +kernel)) ggX7_housesWithoutBreach_X7_breachesOf
theorem dX7_housesWithoutBreach_0 : decode cX7_housesWithoutBreach 0 = .ok (.iconst 0, 1) := by decide +kernel
theorem dX7_housesWithoutBreach_1 : decode cX7_housesWithoutBreach 1 = .ok (.istore_n 1, 1) := by decide +kernel
theorem dX7_housesWithoutBreach_2 : decode cX7_housesWithoutBreach 2 = .ok (.iconst 0, 1) := by decide +kernel
theorem dX7_housesWithoutBreach_3 : decode cX7_housesWithoutBreach 3 = .ok (.istore_n 2, 1) := by decide +kernel
theorem dX7_housesWithoutBreach_4 : decode cX7_housesWithoutBreach 4 = .ok (.iload_n 2, 1) := by decide +kernel
theorem dX7_housesWithoutBreach_5 : decode cX7_housesWithoutBreach 5 = .ok (.aload_n 0, 1) := by decide +kernel
theorem dX7_housesWithoutBreach_6 : decode cX7_housesWithoutBreach 6 = .ok (.getfield 21, 3) := by decide +kernel
theorem dX7_housesWithoutBreach_9 : decode cX7_housesWithoutBreach 9 = .ok (.if_icmp .ge 20, 3) := by decide +kernel
theorem dX7_housesWithoutBreach_12 : decode cX7_housesWithoutBreach 12 = .ok (.aload_n 0, 1) := by decide +kernel
theorem dX7_housesWithoutBreach_13 : decode cX7_housesWithoutBreach 13 = .ok (.iload_n 2, 1) := by decide +kernel
theorem dX7_housesWithoutBreach_14 : decode cX7_housesWithoutBreach 14 = .ok (.invokevirtual 62, 3) := by decide +kernel
theorem dX7_housesWithoutBreach_17 : decode cX7_housesWithoutBreach 17 = .ok (.ifCond .ne 6, 3) := by decide +kernel
theorem dX7_housesWithoutBreach_20 : decode cX7_housesWithoutBreach 20 = .ok (.iinc 1 1, 3) := by decide +kernel
theorem dX7_housesWithoutBreach_23 : decode cX7_housesWithoutBreach 23 = .ok (.iinc 2 1, 3) := by decide +kernel
theorem dX7_housesWithoutBreach_26 : decode cX7_housesWithoutBreach 26 = .ok (.goto (-22), 3) := by decide +kernel
theorem dX7_housesWithoutBreach_29 : decode cX7_housesWithoutBreach 29 = .ok (.iload_n 1, 1) := by decide +kernel
theorem dX7_housesWithoutBreach_30 : decode cX7_housesWithoutBreach 30 = .ok (.ireturn, 1) := by decide +kernel
set_option maxRecDepth 20000 in
theorem ggX7_holdersOf_X7_ahead : GoodIn wsX7_holdersOf wsX7_ahead := goodIn_r _ [6, 7, 8, 9, 10, 5, 11, 12, 111, 112, 113, 114] (by decide +kernel) (by decide +kernel)
set_option maxRecDepth 20000 in
theorem gX7_holdersOf_X7_ahead : GoodIn wsX7_holdersOf (wsV RX7 47 RX7 yX7_ahead wsX7_ahead) := goodIn_app (goodIn_of _ (by decide +kernel)) ggX7_holdersOf_X7_ahead
set_option maxRecDepth 20000 in
theorem ggX7_holdersOf_X7_behind : GoodIn wsX7_holdersOf wsX7_behind := goodIn_r _ [16, 7, 8, 9, 10, 5, 11, 12, 111, 112, 113, 114] (by decide +kernel) (by decide +kernel)
set_option maxRecDepth 20000 in
theorem gX7_holdersOf_X7_behind : GoodIn wsX7_holdersOf (wsV RX7 54 RX7 yX7_behind wsX7_behind) := goodIn_app (goodIn_of _ (by decide +kernel)) ggX7_holdersOf_X7_behind
set_option maxRecDepth 20000 in
theorem ggX7_holdersOf_X7_limitBy : GoodIn wsX7_holdersOf wsX7_limitBy := goodIn_r _ [20, 21, 22, 1, 23, 24, 25, 26, 27, 28, 29, 30, 31, 32, 33, 34, 35, 36, 37, 38, 39, 40, 41, 42, 43, 44, 45, 46, 47, 48, 49, 50, 51, 52, 53, 54, 55, 56, 57, 58, 59, 60, 61, 62, 63, 64, 65, 66, 67, 68, 69, 70, 71, 72, 73, 74, 75, 76, 77, 78, 79, 80, 81, 82, 83, 84, 85, 86, 87, 88, 89, 90, 91, 92, 93, 94, 95, 96, 97, 98, 99, 100, 101, 102, 103, 104, 105, 106, 107, 108, 109, 110, 111, 112, 113, 114, 115, 116, 117, 118, 119, 120, 121, 122] (by decide +kernel) (by decide +kernel)
set_option maxRecDepth 20000 in
theorem gX7_holdersOf_X7_limitBy : GoodIn wsX7_holdersOf (wsV RX7 50 RX7 yX7_limitBy wsX7_limitBy) := goodIn_app (goodIn_of _ (by decide +kernel)) ggX7_holdersOf_X7_limitBy
theorem dX7_holdersOf_0 : decode cX7_holdersOf 0 = .ok (.aload_n 0, 1) := by decide +kernel
theorem dX7_holdersOf_1 : decode cX7_holdersOf 1 = .ok (.iload_n 1, 1) := by decide +kernel
theorem dX7_holdersOf_2 : decode cX7_holdersOf 2 = .ok (.invokevirtual 47, 3) := by decide +kernel
theorem dX7_holdersOf_5 : decode cX7_holdersOf 5 = .ok (.istore_n 2, 1) := by decide +kernel
theorem dX7_holdersOf_6 : decode cX7_holdersOf 6 = .ok (.aload_n 0, 1) := by decide +kernel
theorem dX7_holdersOf_7 : decode cX7_holdersOf 7 = .ok (.iload_n 1, 1) := by decide +kernel
theorem dX7_holdersOf_8 : decode cX7_holdersOf 8 = .ok (.invokevirtual 54, 3) := by decide +kernel
theorem dX7_holdersOf_11 : decode cX7_holdersOf 11 = .ok (.istore_n 3, 1) := by decide +kernel
theorem dX7_holdersOf_12 : decode cX7_holdersOf 12 = .ok (.aload_n 0, 1) := by decide +kernel
theorem dX7_holdersOf_13 : decode cX7_holdersOf 13 = .ok (.getfield 17, 3) := by decide +kernel
theorem dX7_holdersOf_16 : decode cX7_holdersOf 16 = .ok (.iload_n 1, 1) := by decide +kernel
theorem dX7_holdersOf_17 : decode cX7_holdersOf 17 = .ok (.iaload, 1) := by decide +kernel
theorem dX7_holdersOf_18 : decode cX7_holdersOf 18 = .ok (.iconst 1, 1) := by decide +kernel
theorem dX7_holdersOf_19 : decode cX7_holdersOf 19 = .ok (.iadd, 1) := by decide +kernel
theorem dX7_holdersOf_20 : decode cX7_holdersOf 20 = .ok (.aload_n 0, 1) := by decide +kernel
theorem dX7_holdersOf_21 : decode cX7_holdersOf 21 = .ok (.iload_n 1, 1) := by decide +kernel
theorem dX7_holdersOf_22 : decode cX7_holdersOf 22 = .ok (.iload_n 2, 1) := by decide +kernel
theorem dX7_holdersOf_23 : decode cX7_holdersOf 23 = .ok (.invokevirtual 50, 3) := by decide +kernel
theorem dX7_holdersOf_26 : decode cX7_holdersOf 26 = .ok (.if_icmp .le 9, 3) := by decide +kernel
theorem dX7_holdersOf_29 : decode cX7_holdersOf 29 = .ok (.iconst 1, 1) := by decide +kernel
theorem dX7_holdersOf_30 : decode cX7_holdersOf 30 = .ok (.iload_n 2, 1) := by decide +kernel
theorem dX7_holdersOf_31 : decode cX7_holdersOf 31 = .ok (.ishl, 1) := by decide +kernel
theorem dX7_holdersOf_32 : decode cX7_holdersOf 32 = .ok (.goto 4, 3) := by decide +kernel
theorem dX7_holdersOf_35 : decode cX7_holdersOf 35 = .ok (.iconst 0, 1) := by decide +kernel
theorem dX7_holdersOf_36 : decode cX7_holdersOf 36 = .ok (.istore 4, 2) := by decide +kernel
theorem dX7_holdersOf_38 : decode cX7_holdersOf 38 = .ok (.aload_n 0, 1) := by decide +kernel
theorem dX7_holdersOf_39 : decode cX7_holdersOf 39 = .ok (.getfield 17, 3) := by decide +kernel
theorem dX7_holdersOf_42 : decode cX7_holdersOf 42 = .ok (.iload_n 1, 1) := by decide +kernel
theorem dX7_holdersOf_43 : decode cX7_holdersOf 43 = .ok (.iaload, 1) := by decide +kernel
theorem dX7_holdersOf_44 : decode cX7_holdersOf 44 = .ok (.iconst 1, 1) := by decide +kernel
theorem dX7_holdersOf_45 : decode cX7_holdersOf 45 = .ok (.iadd, 1) := by decide +kernel
theorem dX7_holdersOf_46 : decode cX7_holdersOf 46 = .ok (.aload_n 0, 1) := by decide +kernel
theorem dX7_holdersOf_47 : decode cX7_holdersOf 47 = .ok (.iload_n 1, 1) := by decide +kernel
theorem dX7_holdersOf_48 : decode cX7_holdersOf 48 = .ok (.iload_n 3, 1) := by decide +kernel
theorem dX7_holdersOf_49 : decode cX7_holdersOf 49 = .ok (.invokevirtual 50, 3) := by decide +kernel
theorem dX7_holdersOf_52 : decode cX7_holdersOf 52 = .ok (.if_icmp .le 12, 3) := by decide +kernel
theorem dX7_holdersOf_55 : decode cX7_holdersOf 55 = .ok (.iload 4, 2) := by decide +kernel
theorem dX7_holdersOf_57 : decode cX7_holdersOf 57 = .ok (.iconst 1, 1) := by decide +kernel
theorem dX7_holdersOf_58 : decode cX7_holdersOf 58 = .ok (.iload_n 3, 1) := by decide +kernel
theorem dX7_holdersOf_59 : decode cX7_holdersOf 59 = .ok (.ishl, 1) := by decide +kernel
theorem dX7_holdersOf_60 : decode cX7_holdersOf 60 = .ok (.ior, 1) := by decide +kernel
theorem dX7_holdersOf_61 : decode cX7_holdersOf 61 = .ok (.goto 5, 3) := by decide +kernel
theorem dX7_holdersOf_64 : decode cX7_holdersOf 64 = .ok (.iload 4, 2) := by decide +kernel
theorem dX7_holdersOf_66 : decode cX7_holdersOf 66 = .ok (.ireturn, 1) := by decide +kernel
theorem dX7_allCoins_0 : decode cX7_allCoins 0 = .ok (.iconst 0, 1) := by decide +kernel
theorem dX7_allCoins_1 : decode cX7_allCoins 1 = .ok (.istore_n 1, 1) := by decide +kernel
theorem dX7_allCoins_2 : decode cX7_allCoins 2 = .ok (.iconst 0, 1) := by decide +kernel
theorem dX7_allCoins_3 : decode cX7_allCoins 3 = .ok (.istore_n 2, 1) := by decide +kernel
theorem dX7_allCoins_4 : decode cX7_allCoins 4 = .ok (.iload_n 2, 1) := by decide +kernel
theorem dX7_allCoins_5 : decode cX7_allCoins 5 = .ok (.aload_n 0, 1) := by decide +kernel
theorem dX7_allCoins_6 : decode cX7_allCoins 6 = .ok (.getfield 21, 3) := by decide +kernel
theorem dX7_allCoins_9 : decode cX7_allCoins 9 = .ok (.if_icmp .ge 18, 3) := by decide +kernel
theorem dX7_allCoins_12 : decode cX7_allCoins 12 = .ok (.iload_n 1, 1) := by decide +kernel
theorem dX7_allCoins_13 : decode cX7_allCoins 13 = .ok (.aload_n 0, 1) := by decide +kernel
theorem dX7_allCoins_14 : decode cX7_allCoins 14 = .ok (.getfield 17, 3) := by decide +kernel
theorem dX7_allCoins_17 : decode cX7_allCoins 17 = .ok (.iload_n 2, 1) := by decide +kernel
theorem dX7_allCoins_18 : decode cX7_allCoins 18 = .ok (.iaload, 1) := by decide +kernel
theorem dX7_allCoins_19 : decode cX7_allCoins 19 = .ok (.iadd, 1) := by decide +kernel
theorem dX7_allCoins_20 : decode cX7_allCoins 20 = .ok (.istore_n 1, 1) := by decide +kernel
theorem dX7_allCoins_21 : decode cX7_allCoins 21 = .ok (.iinc 2 1, 3) := by decide +kernel
theorem dX7_allCoins_24 : decode cX7_allCoins 24 = .ok (.goto (-20), 3) := by decide +kernel
theorem dX7_allCoins_27 : decode cX7_allCoins 27 = .ok (.iload_n 1, 1) := by decide +kernel
theorem dX7_allCoins_28 : decode cX7_allCoins 28 = .ok (.ireturn, 1) := by decide +kernel
set_option maxRecDepth 20000 in
theorem ggX7_earn_X0_weekly : GoodIn wsX7_earn wsX0_weekly := goodIn_r _ [14, 15, 16, 17, 18, 19, 20, 21, 9, 22, 23, 24, 25] (by decide +kernel) (by decide +kernel)
set_option maxRecDepth 20000 in
theorem gX7_earn_X0_weekly_u65X0 : GoodIn wsX7_earn (va_wsO RX7 65 RX0 "TwiceAsRich$House" ⟨"TwiceAsRich$House", "weekly", "()I"⟩ yX0_weekly wsX0_weekly) := goodIn_app (goodIn_of _ (by decide +kernel)) ggX7_earn_X0_weekly
set_option maxRecDepth 20000 in
theorem ggX7_earn_X1_weekly : GoodIn wsX7_earn wsX1_weekly := goodIn_r _ [29, 30, 31, 32, 33, 34, 35, 36, 37, 67, 68, 69, 70, 71, 72, 73, 74] (by decide +kernel) (by decide +kernel)
set_option maxRecDepth 20000 in
theorem gX7_earn_X1_weekly_u65X1 : GoodIn wsX7_earn (va_wsO RX7 65 RX1 "TwiceAsRich$House" ⟨"TwiceAsRich$House", "weekly", "()I"⟩ yX1_weekly wsX1_weekly) := goodIn_app (goodIn_of _ (by decide +kernel)) ggX7_earn_X1_weekly
set_option maxRecDepth 20000 in
theorem ggX7_earn_X2_weekly : GoodIn wsX7_earn wsX2_weekly := goodIn_r _ [41, 42, 43, 44, 9, 45, 23, 24, 25, 67, 68, 69, 70, 71, 72, 73, 74] (by decide +kernel) (by decide +kernel)
set_option maxRecDepth 20000 in
theorem gX7_earn_X2_weekly_u65X2 : GoodIn wsX7_earn (va_wsO RX7 65 RX2 "TwiceAsRich$House" ⟨"TwiceAsRich$House", "weekly", "()I"⟩ yX2_weekly wsX2_weekly) := goodIn_app (goodIn_of _ (by decide +kernel)) ggX7_earn_X2_weekly
set_option maxRecDepth 20000 in
theorem ggX7_earn_X3_weekly : GoodIn wsX7_earn wsX3_weekly := goodIn_r _ [25] (by decide +kernel) (by decide +kernel)
set_option maxRecDepth 20000 in
theorem gX7_earn_X3_weekly : GoodIn wsX7_earn (wsV RX7 65 RX3 yX3_weekly wsX3_weekly) := goodIn_app (goodIn_of _ (by decide +kernel)) ggX7_earn_X3_weekly
set_option maxRecDepth 20000 in
theorem ggX7_earn_X4_weekly : GoodIn wsX7_earn wsX4_weekly := goodIn_r _ [51, 52, 53, 54, 39, 40, 41, 42, 43, 44, 9, 45, 23, 24, 25, 67, 68, 69, 70, 71, 72, 73, 74] (by decide +kernel) (by decide +kernel)
set_option maxRecDepth 20000 in
theorem gX7_earn_X4_weekly_u65X4 : GoodIn wsX7_earn (va_wsO RX7 65 RX4 "TwiceAsRich$House" ⟨"TwiceAsRich$House", "weekly", "()I"⟩ yX4_weekly wsX4_weekly) := goodIn_app (goodIn_of _ (by decide +kernel)) ggX7_earn_X4_weekly
set_option maxRecDepth 20000 in
theorem ggX7_earn_X6_weekly : GoodIn wsX7_earn wsX6_weekly := goodIn_r _ [20, 21, 9, 22, 23, 24, 25] (by decide +kernel) (by decide +kernel)
set_option maxRecDepth 20000 in
theorem gX7_earn_X6_weekly_u65X6 : GoodIn wsX7_earn (va_wsO RX7 65 RX6 "TwiceAsRich$House" ⟨"TwiceAsRich$House", "weekly", "()I"⟩ yX6_weekly wsX6_weekly) := goodIn_app (goodIn_of _ (by decide +kernel)) ggX7_earn_X6_weekly
set_option maxRecDepth 20000 in
theorem ggX7_earn_X9_weekly : GoodIn wsX7_earn wsX9_weekly := goodIn_r _ [59, 60, 53, 61, 39, 40, 41, 42, 43, 44, 9, 45, 23, 24, 25, 67, 68, 69, 70, 71, 72, 73, 74] (by decide +kernel) (by decide +kernel)
set_option maxRecDepth 20000 in
theorem gX7_earn_X9_weekly_u65X9 : GoodIn wsX7_earn (va_wsO RX7 65 RX9 "TwiceAsRich$House" ⟨"TwiceAsRich$House", "weekly", "()I"⟩ yX9_weekly wsX9_weekly) := goodIn_app (goodIn_of _ (by decide +kernel)) ggX7_earn_X9_weekly
set_option maxRecDepth 20000 in
theorem ggX7_earn_X10_weekly : GoodIn wsX7_earn wsX10_weekly := goodIn_r _ [37] (by decide +kernel) (by decide +kernel)
set_option maxRecDepth 20000 in
theorem gX7_earn_X10_weekly_u65X10 : GoodIn wsX7_earn (va_wsO RX7 65 RX10 "TwiceAsRich$House" ⟨"TwiceAsRich$House", "weekly", "()I"⟩ yX10_weekly wsX10_weekly) := goodIn_app (goodIn_of _ (by decide +kernel)) ggX7_earn_X10_weekly
theorem dX7_earn_0 : decode cX7_earn 0 = .ok (.iconst 0, 1) := by decide +kernel
theorem dX7_earn_1 : decode cX7_earn 1 = .ok (.istore_n 2, 1) := by decide +kernel
theorem dX7_earn_2 : decode cX7_earn 2 = .ok (.iload_n 2, 1) := by decide +kernel
theorem dX7_earn_3 : decode cX7_earn 3 = .ok (.aload_n 0, 1) := by decide +kernel
theorem dX7_earn_4 : decode cX7_earn 4 = .ok (.getfield 21, 3) := by decide +kernel
theorem dX7_earn_7 : decode cX7_earn 7 = .ok (.if_icmp .ge 39, 3) := by decide +kernel
theorem dX7_earn_10 : decode cX7_earn 10 = .ok (.aload_n 0, 1) := by decide +kernel
theorem dX7_earn_11 : decode cX7_earn 11 = .ok (.getfield 17, 3) := by decide +kernel
theorem dX7_earn_14 : decode cX7_earn 14 = .ok (.iload_n 2, 1) := by decide +kernel
theorem dX7_earn_15 : decode cX7_earn 15 = .ok (.sipush 9999, 3) := by decide +kernel
theorem dX7_earn_18 : decode cX7_earn 18 = .ok (.aload_n 0, 1) := by decide +kernel
theorem dX7_earn_19 : decode cX7_earn 19 = .ok (.getfield 17, 3) := by decide +kernel
theorem dX7_earn_22 : decode cX7_earn 22 = .ok (.iload_n 2, 1) := by decide +kernel
theorem dX7_earn_23 : decode cX7_earn 23 = .ok (.iaload, 1) := by decide +kernel
theorem dX7_earn_24 : decode cX7_earn 24 = .ok (.iload_n 1, 1) := by decide +kernel
theorem dX7_earn_25 : decode cX7_earn 25 = .ok (.aload_n 0, 1) := by decide +kernel
theorem dX7_earn_26 : decode cX7_earn 26 = .ok (.getfield 11, 3) := by decide +kernel
theorem dX7_earn_29 : decode cX7_earn 29 = .ok (.iload_n 2, 1) := by decide +kernel
theorem dX7_earn_30 : decode cX7_earn 30 = .ok (.aaload, 1) := by decide +kernel
theorem dX7_earn_31 : decode cX7_earn 31 = .ok (.invokevirtual 65, 3) := by decide +kernel
theorem dX7_earn_34 : decode cX7_earn 34 = .ok (.imul, 1) := by decide +kernel
theorem dX7_earn_35 : decode cX7_earn 35 = .ok (.iadd, 1) := by decide +kernel
theorem dX7_earn_36 : decode cX7_earn 36 = .ok (.invokestatic 57, 3) := by decide +kernel
theorem dX7_earn_39 : decode cX7_earn 39 = .ok (.iastore, 1) := by decide +kernel
theorem dX7_earn_40 : decode cX7_earn 40 = .ok (.iinc 2 1, 3) := by decide +kernel
theorem dX7_earn_43 : decode cX7_earn 43 = .ok (.goto (-41), 3) := by decide +kernel
theorem dX7_earn_46 : decode cX7_earn 46 = .ok (.return_, 1) := by decide +kernel
set_option maxRecDepth 20000 in
theorem ggX7_gift_X7_hasTwo : GoodIn wsX7_gift wsX7_hasTwo := goodIn_r _ [6, 7, 8, 9, 5, 10, 11, 12, 13, 14, 15] (by decide +kernel) (by decide +kernel)
set_option maxRecDepth 20000 in
theorem gX7_gift_X7_hasTwo : GoodIn wsX7_gift (wsV RX7 69 RX7 yX7_hasTwo wsX7_hasTwo) := goodIn_app (goodIn_of _ (by decide +kernel)) ggX7_gift_X7_hasTwo
theorem dX7_gift_0 : decode cX7_gift 0 = .ok (.aload_n 0, 1) := by decide +kernel
theorem dX7_gift_1 : decode cX7_gift 1 = .ok (.iload_n 1, 1) := by decide +kernel
theorem dX7_gift_2 : decode cX7_gift 2 = .ok (.iload_n 2, 1) := by decide +kernel
theorem dX7_gift_3 : decode cX7_gift 3 = .ok (.invokevirtual 69, 3) := by decide +kernel
theorem dX7_gift_6 : decode cX7_gift 6 = .ok (.ifCond .eq 8, 3) := by decide +kernel
theorem dX7_gift_9 : decode cX7_gift 9 = .ok (.iload_n 3, 1) := by decide +kernel
theorem dX7_gift_10 : decode cX7_gift 10 = .ok (.iconst 1, 1) := by decide +kernel
theorem dX7_gift_11 : decode cX7_gift 11 = .ok (.if_icmp .ge 5, 3) := by decide +kernel
theorem dX7_gift_14 : decode cX7_gift 14 = .ok (.iconst (-1), 1) := by decide +kernel
theorem dX7_gift_15 : decode cX7_gift 15 = .ok (.ireturn, 1) := by decide +kernel
theorem dX7_gift_16 : decode cX7_gift 16 = .ok (.aload_n 0, 1) := by decide +kernel
theorem dX7_gift_17 : decode cX7_gift 17 = .ok (.getfield 17, 3) := by decide +kernel
theorem dX7_gift_20 : decode cX7_gift 20 = .ok (.iload_n 1, 1) := by decide +kernel
theorem dX7_gift_21 : decode cX7_gift 21 = .ok (.iaload, 1) := by decide +kernel
theorem dX7_gift_22 : decode cX7_gift 22 = .ok (.iload_n 3, 1) := by decide +kernel
theorem dX7_gift_23 : decode cX7_gift 23 = .ok (.if_icmp .ge 6, 3) := by decide +kernel
theorem dX7_gift_26 : decode cX7_gift 26 = .ok (.bipush (-3), 2) := by decide +kernel
theorem dX7_gift_28 : decode cX7_gift 28 = .ok (.ireturn, 1) := by decide +kernel
theorem dX7_gift_29 : decode cX7_gift 29 = .ok (.aload_n 0, 1) := by decide +kernel
theorem dX7_gift_30 : decode cX7_gift 30 = .ok (.getfield 17, 3) := by decide +kernel
theorem dX7_gift_33 : decode cX7_gift 33 = .ok (.iload_n 2, 1) := by decide +kernel
theorem dX7_gift_34 : decode cX7_gift 34 = .ok (.iaload, 1) := by decide +kernel
theorem dX7_gift_35 : decode cX7_gift 35 = .ok (.iload_n 3, 1) := by decide +kernel
theorem dX7_gift_36 : decode cX7_gift 36 = .ok (.iadd, 1) := by decide +kernel
theorem dX7_gift_37 : decode cX7_gift 37 = .ok (.sipush 9999, 3) := by decide +kernel
theorem dX7_gift_40 : decode cX7_gift 40 = .ok (.if_icmp .le 6, 3) := by decide +kernel
theorem dX7_gift_43 : decode cX7_gift 43 = .ok (.bipush (-2), 2) := by decide +kernel
theorem dX7_gift_45 : decode cX7_gift 45 = .ok (.ireturn, 1) := by decide +kernel
theorem dX7_gift_46 : decode cX7_gift 46 = .ok (.aload_n 0, 1) := by decide +kernel
theorem dX7_gift_47 : decode cX7_gift 47 = .ok (.getfield 17, 3) := by decide +kernel
theorem dX7_gift_50 : decode cX7_gift 50 = .ok (.iload_n 1, 1) := by decide +kernel
theorem dX7_gift_51 : decode cX7_gift 51 = .ok (.dup2, 1) := by decide +kernel
theorem dX7_gift_52 : decode cX7_gift 52 = .ok (.iaload, 1) := by decide +kernel
theorem dX7_gift_53 : decode cX7_gift 53 = .ok (.iload_n 3, 1) := by decide +kernel
theorem dX7_gift_54 : decode cX7_gift 54 = .ok (.isub, 1) := by decide +kernel
theorem dX7_gift_55 : decode cX7_gift 55 = .ok (.iastore, 1) := by decide +kernel
theorem dX7_gift_56 : decode cX7_gift 56 = .ok (.aload_n 0, 1) := by decide +kernel
theorem dX7_gift_57 : decode cX7_gift 57 = .ok (.getfield 17, 3) := by decide +kernel
theorem dX7_gift_60 : decode cX7_gift 60 = .ok (.iload_n 2, 1) := by decide +kernel
theorem dX7_gift_61 : decode cX7_gift 61 = .ok (.dup2, 1) := by decide +kernel
theorem dX7_gift_62 : decode cX7_gift 62 = .ok (.iaload, 1) := by decide +kernel
theorem dX7_gift_63 : decode cX7_gift 63 = .ok (.iload_n 3, 1) := by decide +kernel
theorem dX7_gift_64 : decode cX7_gift 64 = .ok (.iadd, 1) := by decide +kernel
theorem dX7_gift_65 : decode cX7_gift 65 = .ok (.iastore, 1) := by decide +kernel
theorem dX7_gift_66 : decode cX7_gift 66 = .ok (.iconst 0, 1) := by decide +kernel
theorem dX7_gift_67 : decode cX7_gift 67 = .ok (.ireturn, 1) := by decide +kernel
theorem dX7_steal_0 : decode cX7_steal 0 = .ok (.iload_n 2, 1) := by decide +kernel
theorem dX7_steal_1 : decode cX7_steal 1 = .ok (.iconst (-1), 1) := by decide +kernel
theorem dX7_steal_2 : decode cX7_steal 2 = .ok (.if_icmp .eq 44, 3) := by decide +kernel
theorem dX7_steal_5 : decode cX7_steal 5 = .ok (.aload_n 0, 1) := by decide +kernel
theorem dX7_steal_6 : decode cX7_steal 6 = .ok (.getfield 17, 3) := by decide +kernel
theorem dX7_steal_9 : decode cX7_steal 9 = .ok (.iload_n 2, 1) := by decide +kernel
theorem dX7_steal_10 : decode cX7_steal 10 = .ok (.iaload, 1) := by decide +kernel
theorem dX7_steal_11 : decode cX7_steal 11 = .ok (.ifCond .le 35, 3) := by decide +kernel
theorem dX7_steal_14 : decode cX7_steal 14 = .ok (.aload_n 0, 1) := by decide +kernel
theorem dX7_steal_15 : decode cX7_steal 15 = .ok (.getfield 17, 3) := by decide +kernel
theorem dX7_steal_18 : decode cX7_steal 18 = .ok (.iload_n 1, 1) := by decide +kernel
theorem dX7_steal_19 : decode cX7_steal 19 = .ok (.iaload, 1) := by decide +kernel
theorem dX7_steal_20 : decode cX7_steal 20 = .ok (.sipush 9999, 3) := by decide +kernel
theorem dX7_steal_23 : decode cX7_steal 23 = .ok (.if_icmp .ge 23, 3) := by decide +kernel
theorem dX7_steal_26 : decode cX7_steal 26 = .ok (.aload_n 0, 1) := by decide +kernel
theorem dX7_steal_27 : decode cX7_steal 27 = .ok (.getfield 17, 3) := by decide +kernel
theorem dX7_steal_30 : decode cX7_steal 30 = .ok (.iload_n 2, 1) := by decide +kernel
theorem dX7_steal_31 : decode cX7_steal 31 = .ok (.dup2, 1) := by decide +kernel
theorem dX7_steal_32 : decode cX7_steal 32 = .ok (.iaload, 1) := by decide +kernel
theorem dX7_steal_33 : decode cX7_steal 33 = .ok (.iconst 1, 1) := by decide +kernel
theorem dX7_steal_34 : decode cX7_steal 34 = .ok (.isub, 1) := by decide +kernel
theorem dX7_steal_35 : decode cX7_steal 35 = .ok (.iastore, 1) := by decide +kernel
theorem dX7_steal_36 : decode cX7_steal 36 = .ok (.aload_n 0, 1) := by decide +kernel
theorem dX7_steal_37 : decode cX7_steal 37 = .ok (.getfield 17, 3) := by decide +kernel
theorem dX7_steal_40 : decode cX7_steal 40 = .ok (.iload_n 1, 1) := by decide +kernel
theorem dX7_steal_41 : decode cX7_steal 41 = .ok (.dup2, 1) := by decide +kernel
theorem dX7_steal_42 : decode cX7_steal 42 = .ok (.iaload, 1) := by decide +kernel
theorem dX7_steal_43 : decode cX7_steal 43 = .ok (.iconst 1, 1) := by decide +kernel
theorem dX7_steal_44 : decode cX7_steal 44 = .ok (.iadd, 1) := by decide +kernel
theorem dX7_steal_45 : decode cX7_steal 45 = .ok (.iastore, 1) := by decide +kernel
theorem dX7_steal_46 : decode cX7_steal 46 = .ok (.return_, 1) := by decide +kernel
theorem dX7_exchange_0 : decode cX7_exchange 0 = .ok (.aload_n 0, 1) := by decide +kernel
theorem dX7_exchange_1 : decode cX7_exchange 1 = .ok (.getfield 11, 3) := by decide +kernel
theorem dX7_exchange_4 : decode cX7_exchange 4 = .ok (.iload_n 1, 1) := by decide +kernel
theorem dX7_exchange_5 : decode cX7_exchange 5 = .ok (.aaload, 1) := by decide +kernel
theorem dX7_exchange_6 : decode cX7_exchange 6 = .ok (.astore_n 3, 1) := by decide +kernel
theorem dX7_exchange_7 : decode cX7_exchange 7 = .ok (.aload_n 0, 1) := by decide +kernel
theorem dX7_exchange_8 : decode cX7_exchange 8 = .ok (.getfield 17, 3) := by decide +kernel
theorem dX7_exchange_11 : decode cX7_exchange 11 = .ok (.iload_n 1, 1) := by decide +kernel
theorem dX7_exchange_12 : decode cX7_exchange 12 = .ok (.iaload, 1) := by decide +kernel
theorem dX7_exchange_13 : decode cX7_exchange 13 = .ok (.istore 4, 2) := by decide +kernel
theorem dX7_exchange_15 : decode cX7_exchange 15 = .ok (.aload_n 0, 1) := by decide +kernel
theorem dX7_exchange_16 : decode cX7_exchange 16 = .ok (.getfield 11, 3) := by decide +kernel
theorem dX7_exchange_19 : decode cX7_exchange 19 = .ok (.iload_n 1, 1) := by decide +kernel
theorem dX7_exchange_20 : decode cX7_exchange 20 = .ok (.aload_n 0, 1) := by decide +kernel
theorem dX7_exchange_21 : decode cX7_exchange 21 = .ok (.getfield 11, 3) := by decide +kernel
theorem dX7_exchange_24 : decode cX7_exchange 24 = .ok (.iload_n 2, 1) := by decide +kernel
theorem dX7_exchange_25 : decode cX7_exchange 25 = .ok (.aaload, 1) := by decide +kernel
theorem dX7_exchange_26 : decode cX7_exchange 26 = .ok (.aastore, 1) := by decide +kernel
theorem dX7_exchange_27 : decode cX7_exchange 27 = .ok (.aload_n 0, 1) := by decide +kernel
theorem dX7_exchange_28 : decode cX7_exchange 28 = .ok (.getfield 17, 3) := by decide +kernel
theorem dX7_exchange_31 : decode cX7_exchange 31 = .ok (.iload_n 1, 1) := by decide +kernel
theorem dX7_exchange_32 : decode cX7_exchange 32 = .ok (.aload_n 0, 1) := by decide +kernel
theorem dX7_exchange_33 : decode cX7_exchange 33 = .ok (.getfield 17, 3) := by decide +kernel
theorem dX7_exchange_36 : decode cX7_exchange 36 = .ok (.iload_n 2, 1) := by decide +kernel
theorem dX7_exchange_37 : decode cX7_exchange 37 = .ok (.iaload, 1) := by decide +kernel
theorem dX7_exchange_38 : decode cX7_exchange 38 = .ok (.iastore, 1) := by decide +kernel
theorem dX7_exchange_39 : decode cX7_exchange 39 = .ok (.aload_n 0, 1) := by decide +kernel
theorem dX7_exchange_40 : decode cX7_exchange 40 = .ok (.getfield 11, 3) := by decide +kernel
theorem dX7_exchange_43 : decode cX7_exchange 43 = .ok (.iload_n 2, 1) := by decide +kernel
theorem dX7_exchange_44 : decode cX7_exchange 44 = .ok (.aload_n 3, 1) := by decide +kernel
theorem dX7_exchange_45 : decode cX7_exchange 45 = .ok (.aastore, 1) := by decide +kernel
theorem dX7_exchange_46 : decode cX7_exchange 46 = .ok (.aload_n 0, 1) := by decide +kernel
theorem dX7_exchange_47 : decode cX7_exchange 47 = .ok (.getfield 17, 3) := by decide +kernel
theorem dX7_exchange_50 : decode cX7_exchange 50 = .ok (.iload_n 2, 1) := by decide +kernel
theorem dX7_exchange_51 : decode cX7_exchange 51 = .ok (.iload 4, 2) := by decide +kernel
theorem dX7_exchange_53 : decode cX7_exchange 53 = .ok (.iastore, 1) := by decide +kernel
theorem dX7_exchange_54 : decode cX7_exchange 54 = .ok (.return_, 1) := by decide +kernel
theorem dX7_insert_0 : decode cX7_insert 0 = .ok (.iload_n 1, 1) := by decide +kernel
theorem dX7_insert_1 : decode cX7_insert 1 = .ok (.ifCond .lt 23, 3) := by decide +kernel
theorem dX7_insert_4 : decode cX7_insert 4 = .ok (.iload_n 1, 1) := by decide +kernel
theorem dX7_insert_5 : decode cX7_insert 5 = .ok (.aload_n 0, 1) := by decide +kernel
theorem dX7_insert_6 : decode cX7_insert 6 = .ok (.getfield 21, 3) := by decide +kernel
theorem dX7_insert_9 : decode cX7_insert 9 = .ok (.if_icmp .gt 15, 3) := by decide +kernel
theorem dX7_insert_12 : decode cX7_insert 12 = .ok (.aload_n 0, 1) := by decide +kernel
theorem dX7_insert_13 : decode cX7_insert 13 = .ok (.getfield 21, 3) := by decide +kernel
theorem dX7_insert_16 : decode cX7_insert 16 = .ok (.aload_n 0, 1) := by decide +kernel
theorem dX7_insert_17 : decode cX7_insert 17 = .ok (.getfield 11, 3) := by decide +kernel
theorem dX7_insert_20 : decode cX7_insert 20 = .ok (.arraylength, 1) := by decide +kernel
theorem dX7_insert_21 : decode cX7_insert 21 = .ok (.if_icmp .lt 4, 3) := by decide +kernel
theorem dX7_insert_24 : decode cX7_insert 24 = .ok (.return_, 1) := by decide +kernel
theorem dX7_insert_25 : decode cX7_insert 25 = .ok (.aload_n 0, 1) := by decide +kernel
theorem dX7_insert_26 : decode cX7_insert 26 = .ok (.getfield 21, 3) := by decide +kernel
theorem dX7_insert_29 : decode cX7_insert 29 = .ok (.istore 4, 2) := by decide +kernel
theorem dX7_insert_31 : decode cX7_insert 31 = .ok (.iload 4, 2) := by decide +kernel
theorem dX7_insert_33 : decode cX7_insert 33 = .ok (.iload_n 1, 1) := by decide +kernel
theorem dX7_insert_34 : decode cX7_insert 34 = .ok (.if_icmp .le 41, 3) := by decide +kernel
theorem dX7_insert_37 : decode cX7_insert 37 = .ok (.aload_n 0, 1) := by decide +kernel
theorem dX7_insert_38 : decode cX7_insert 38 = .ok (.getfield 11, 3) := by decide +kernel
theorem dX7_insert_41 : decode cX7_insert 41 = .ok (.iload 4, 2) := by decide +kernel
theorem dX7_insert_43 : decode cX7_insert 43 = .ok (.aload_n 0, 1) := by decide +kernel
theorem dX7_insert_44 : decode cX7_insert 44 = .ok (.getfield 11, 3) := by decide +kernel
theorem dX7_insert_47 : decode cX7_insert 47 = .ok (.iload 4, 2) := by decide +kernel
theorem dX7_insert_49 : decode cX7_insert 49 = .ok (.iconst 1, 1) := by decide +kernel
theorem dX7_insert_50 : decode cX7_insert 50 = .ok (.isub, 1) := by decide +kernel
theorem dX7_insert_51 : decode cX7_insert 51 = .ok (.aaload, 1) := by decide +kernel
theorem dX7_insert_52 : decode cX7_insert 52 = .ok (.aastore, 1) := by decide +kernel
theorem dX7_insert_53 : decode cX7_insert 53 = .ok (.aload_n 0, 1) := by decide +kernel
theorem dX7_insert_54 : decode cX7_insert 54 = .ok (.getfield 17, 3) := by decide +kernel
theorem dX7_insert_57 : decode cX7_insert 57 = .ok (.iload 4, 2) := by decide +kernel
theorem dX7_insert_59 : decode cX7_insert 59 = .ok (.aload_n 0, 1) := by decide +kernel
theorem dX7_insert_60 : decode cX7_insert 60 = .ok (.getfield 17, 3) := by decide +kernel
theorem dX7_insert_63 : decode cX7_insert 63 = .ok (.iload 4, 2) := by decide +kernel
theorem dX7_insert_65 : decode cX7_insert 65 = .ok (.iconst 1, 1) := by decide +kernel
theorem dX7_insert_66 : decode cX7_insert 66 = .ok (.isub, 1) := by decide +kernel
theorem dX7_insert_67 : decode cX7_insert 67 = .ok (.iaload, 1) := by decide +kernel
theorem dX7_insert_68 : decode cX7_insert 68 = .ok (.iastore, 1) := by decide +kernel
theorem dX7_insert_69 : decode cX7_insert 69 = .ok (.iinc 4 (-1), 3) := by decide +kernel
theorem dX7_insert_72 : decode cX7_insert 72 = .ok (.goto (-41), 3) := by decide +kernel
theorem dX7_insert_75 : decode cX7_insert 75 = .ok (.aload_n 0, 1) := by decide +kernel
theorem dX7_insert_76 : decode cX7_insert 76 = .ok (.getfield 11, 3) := by decide +kernel
theorem dX7_insert_79 : decode cX7_insert 79 = .ok (.iload_n 1, 1) := by decide +kernel
theorem dX7_insert_80 : decode cX7_insert 80 = .ok (.aload_n 2, 1) := by decide +kernel
theorem dX7_insert_81 : decode cX7_insert 81 = .ok (.aastore, 1) := by decide +kernel
theorem dX7_insert_82 : decode cX7_insert 82 = .ok (.aload_n 0, 1) := by decide +kernel
theorem dX7_insert_83 : decode cX7_insert 83 = .ok (.getfield 17, 3) := by decide +kernel
theorem dX7_insert_86 : decode cX7_insert 86 = .ok (.iload_n 1, 1) := by decide +kernel
theorem dX7_insert_87 : decode cX7_insert 87 = .ok (.iload_n 3, 1) := by decide +kernel
theorem dX7_insert_88 : decode cX7_insert 88 = .ok (.iastore, 1) := by decide +kernel
theorem dX7_insert_89 : decode cX7_insert 89 = .ok (.aload_n 0, 1) := by decide +kernel
theorem dX7_insert_90 : decode cX7_insert 90 = .ok (.dup, 1) := by decide +kernel
theorem dX7_insert_91 : decode cX7_insert 91 = .ok (.getfield 21, 3) := by decide +kernel
theorem dX7_insert_94 : decode cX7_insert 94 = .ok (.iconst 1, 1) := by decide +kernel
theorem dX7_insert_95 : decode cX7_insert 95 = .ok (.iadd, 1) := by decide +kernel
theorem dX7_insert_96 : decode cX7_insert 96 = .ok (.putfield 21, 3) := by decide +kernel
theorem dX7_insert_99 : decode cX7_insert 99 = .ok (.return_, 1) := by decide +kernel
set_option maxRecDepth 20000 in
theorem ggX7_remove_X7_has : GoodIn wsX7_remove wsX7_has := goodIn_r _ [8, 1, 9, 10, 11, 12] (by decide +kernel) (by decide +kernel)
set_option maxRecDepth 20000 in
theorem gX7_remove_X7_has : GoodIn wsX7_remove (wsV RX7 28 RX7 yX7_has wsX7_has) := goodIn_app (goodIn_of _ (by decide +kernel)) ggX7_remove_X7_has
theorem dX7_remove_0 : decode cX7_remove 0 = .ok (.aload_n 0, 1) := by decide +kernel
theorem dX7_remove_1 : decode cX7_remove 1 = .ok (.iload_n 1, 1) := by decide +kernel
theorem dX7_remove_2 : decode cX7_remove 2 = .ok (.invokevirtual 28, 3) := by decide +kernel
theorem dX7_remove_5 : decode cX7_remove 5 = .ok (.ifCond .ne 4, 3) := by decide +kernel
theorem dX7_remove_8 : decode cX7_remove 8 = .ok (.return_, 1) := by decide +kernel
theorem dX7_remove_9 : decode cX7_remove 9 = .ok (.iload_n 1, 1) := by decide +kernel
theorem dX7_remove_10 : decode cX7_remove 10 = .ok (.istore_n 2, 1) := by decide +kernel
theorem dX7_remove_11 : decode cX7_remove 11 = .ok (.iload_n 2, 1) := by decide +kernel
theorem dX7_remove_12 : decode cX7_remove 12 = .ok (.aload_n 0, 1) := by decide +kernel
theorem dX7_remove_13 : decode cX7_remove 13 = .ok (.getfield 21, 3) := by decide +kernel
theorem dX7_remove_16 : decode cX7_remove 16 = .ok (.iconst 1, 1) := by decide +kernel
theorem dX7_remove_17 : decode cX7_remove 17 = .ok (.isub, 1) := by decide +kernel
theorem dX7_remove_18 : decode cX7_remove 18 = .ok (.if_icmp .ge 37, 3) := by decide +kernel
theorem dX7_remove_21 : decode cX7_remove 21 = .ok (.aload_n 0, 1) := by decide +kernel
theorem dX7_remove_22 : decode cX7_remove 22 = .ok (.getfield 11, 3) := by decide +kernel
theorem dX7_remove_25 : decode cX7_remove 25 = .ok (.iload_n 2, 1) := by decide +kernel
theorem dX7_remove_26 : decode cX7_remove 26 = .ok (.aload_n 0, 1) := by decide +kernel
theorem dX7_remove_27 : decode cX7_remove 27 = .ok (.getfield 11, 3) := by decide +kernel
theorem dX7_remove_30 : decode cX7_remove 30 = .ok (.iload_n 2, 1) := by decide +kernel
theorem dX7_remove_31 : decode cX7_remove 31 = .ok (.iconst 1, 1) := by decide +kernel
theorem dX7_remove_32 : decode cX7_remove 32 = .ok (.iadd, 1) := by decide +kernel
theorem dX7_remove_33 : decode cX7_remove 33 = .ok (.aaload, 1) := by decide +kernel
theorem dX7_remove_34 : decode cX7_remove 34 = .ok (.aastore, 1) := by decide +kernel
theorem dX7_remove_35 : decode cX7_remove 35 = .ok (.aload_n 0, 1) := by decide +kernel
theorem dX7_remove_36 : decode cX7_remove 36 = .ok (.getfield 17, 3) := by decide +kernel
theorem dX7_remove_39 : decode cX7_remove 39 = .ok (.iload_n 2, 1) := by decide +kernel
theorem dX7_remove_40 : decode cX7_remove 40 = .ok (.aload_n 0, 1) := by decide +kernel
theorem dX7_remove_41 : decode cX7_remove 41 = .ok (.getfield 17, 3) := by decide +kernel
theorem dX7_remove_44 : decode cX7_remove 44 = .ok (.iload_n 2, 1) := by decide +kernel
theorem dX7_remove_45 : decode cX7_remove 45 = .ok (.iconst 1, 1) := by decide +kernel
theorem dX7_remove_46 : decode cX7_remove 46 = .ok (.iadd, 1) := by decide +kernel
theorem dX7_remove_47 : decode cX7_remove 47 = .ok (.iaload, 1) := by decide +kernel
theorem dX7_remove_48 : decode cX7_remove 48 = .ok (.iastore, 1) := by decide +kernel
theorem dX7_remove_49 : decode cX7_remove 49 = .ok (.iinc 2 1, 3) := by decide +kernel
theorem dX7_remove_52 : decode cX7_remove 52 = .ok (.goto (-41), 3) := by decide +kernel
theorem dX7_remove_55 : decode cX7_remove 55 = .ok (.aload_n 0, 1) := by decide +kernel
theorem dX7_remove_56 : decode cX7_remove 56 = .ok (.dup, 1) := by decide +kernel
theorem dX7_remove_57 : decode cX7_remove 57 = .ok (.getfield 21, 3) := by decide +kernel
theorem dX7_remove_60 : decode cX7_remove 60 = .ok (.iconst 1, 1) := by decide +kernel
theorem dX7_remove_61 : decode cX7_remove 61 = .ok (.isub, 1) := by decide +kernel
theorem dX7_remove_62 : decode cX7_remove 62 = .ok (.putfield 21, 3) := by decide +kernel
theorem dX7_remove_65 : decode cX7_remove 65 = .ok (.return_, 1) := by decide +kernel
theorem dX8_init_0 : decode cX8_init 0 = .ok (.aload_n 0, 1) := by decide +kernel
theorem dX8_init_1 : decode cX8_init 1 = .ok (.invokespecial 3, 3) := by decide +kernel
theorem dX8_init_4 : decode cX8_init 4 = .ok (.aload_n 0, 1) := by decide +kernel
theorem dX8_init_5 : decode cX8_init 5 = .ok (.iconst 0, 1) := by decide +kernel
theorem dX8_init_6 : decode cX8_init 6 = .ok (.newarray .int, 2) := by decide +kernel
theorem dX8_init_8 : decode cX8_init 8 = .ok (.putfield 9, 3) := by decide +kernel
theorem dX8_init_11 : decode cX8_init 11 = .ok (.return_, 1) := by decide +kernel
theorem dX8_open_0 : decode cX8_open 0 = .ok (.aload_n 0, 1) := by decide +kernel
theorem dX8_open_1 : decode cX8_open 1 = .ok (.aload_n 1, 1) := by decide +kernel
theorem dX8_open_2 : decode cX8_open 2 = .ok (.putfield 9, 3) := by decide +kernel
theorem dX8_open_5 : decode cX8_open 5 = .ok (.aload_n 0, 1) := by decide +kernel
theorem dX8_open_6 : decode cX8_open 6 = .ok (.iload_n 2, 1) := by decide +kernel
theorem dX8_open_7 : decode cX8_open 7 = .ok (.aload_n 1, 1) := by decide +kernel
theorem dX8_open_8 : decode cX8_open 8 = .ok (.arraylength, 1) := by decide +kernel
theorem dX8_open_9 : decode cX8_open 9 = .ok (.invokestatic 15, 3) := by decide +kernel
theorem dX8_open_12 : decode cX8_open 12 = .ok (.putfield 21, 3) := by decide +kernel
theorem dX8_open_15 : decode cX8_open 15 = .ok (.aload_n 0, 1) := by decide +kernel
theorem dX8_open_16 : decode cX8_open 16 = .ok (.iconst 0, 1) := by decide +kernel
theorem dX8_open_17 : decode cX8_open 17 = .ok (.putfield 25, 3) := by decide +kernel
theorem dX8_open_20 : decode cX8_open 20 = .ok (.return_, 1) := by decide +kernel
theorem dX8_statements_0 : decode cX8_statements 0 = .ok (.aload_n 0, 1) := by decide +kernel
theorem dX8_statements_1 : decode cX8_statements 1 = .ok (.getfield 25, 3) := by decide +kernel
theorem dX8_statements_4 : decode cX8_statements 4 = .ok (.ireturn, 1) := by decide +kernel
set_option maxRecDepth 20000 in
theorem ggX8_brokenPlace_X8_endOf : GoodIn wsX8_brokenPlace wsX8_endOf := goodIn_r _ [6, 7, 8, 9, 5, 10, 1, 11, 12, 13, 14, 15, 16, 17, 18, 19, 20, 21, 22, 23, 27, 28, 29] (by decide +kernel) (by decide +kernel)
set_option maxRecDepth 20000 in
theorem gX8_brokenPlace_X8_endOf : GoodIn wsX8_brokenPlace (wsV RX8 28 RX8 yX8_endOf wsX8_endOf) := goodIn_app (goodIn_of _ (by decide +kernel)) ggX8_brokenPlace_X8_endOf
set_option maxRecDepth 20000 in
theorem ggX8_brokenPlace_X8_byteAt : GoodIn wsX8_brokenPlace wsX8_byteAt := goodIn_r _ [10, 1, 11, 27, 28, 29] (by decide +kernel) (by decide +kernel)
set_option maxRecDepth 20000 in
theorem gX8_brokenPlace_X8_byteAt : GoodIn wsX8_brokenPlace (wsV RX8 32 RX8 yX8_byteAt wsX8_byteAt) := goodIn_app (goodIn_of _ (by decide +kernel)) ggX8_brokenPlace_X8_byteAt
set_option maxRecDepth 20000 in
theorem ggX8_brokenPlace_X8_fewestDigits : GoodIn wsX8_brokenPlace wsX8_fewestDigits := goodIn_r _ [26, 15, 16, 5, 17, 18, 19, 20] (by decide +kernel) (by decide +kernel)
set_option maxRecDepth 20000 in
theorem gX8_brokenPlace_X8_fewestDigits : GoodIn wsX8_brokenPlace (va_wsS RX8 35 yX8_fewestDigits wsX8_fewestDigits) := goodIn_app (goodIn_of _ (by decide +kernel)) ggX8_brokenPlace_X8_fewestDigits
theorem dX8_brokenPlace_0 : decode cX8_brokenPlace 0 = .ok (.iconst 0, 1) := by decide +kernel
theorem dX8_brokenPlace_1 : decode cX8_brokenPlace 1 = .ok (.istore_n 1, 1) := by decide +kernel
theorem dX8_brokenPlace_2 : decode cX8_brokenPlace 2 = .ok (.aload_n 0, 1) := by decide +kernel
theorem dX8_brokenPlace_3 : decode cX8_brokenPlace 3 = .ok (.iload_n 1, 1) := by decide +kernel
theorem dX8_brokenPlace_4 : decode cX8_brokenPlace 4 = .ok (.invokevirtual 28, 3) := by decide +kernel
theorem dX8_brokenPlace_7 : decode cX8_brokenPlace 7 = .ok (.istore_n 2, 1) := by decide +kernel
theorem dX8_brokenPlace_8 : decode cX8_brokenPlace 8 = .ok (.aload_n 0, 1) := by decide +kernel
theorem dX8_brokenPlace_9 : decode cX8_brokenPlace 9 = .ok (.iload_n 2, 1) := by decide +kernel
theorem dX8_brokenPlace_10 : decode cX8_brokenPlace 10 = .ok (.invokevirtual 32, 3) := by decide +kernel
theorem dX8_brokenPlace_13 : decode cX8_brokenPlace 13 = .ok (.bipush 59, 2) := by decide +kernel
theorem dX8_brokenPlace_15 : decode cX8_brokenPlace 15 = .ok (.if_icmp .ne 19, 3) := by decide +kernel
theorem dX8_brokenPlace_18 : decode cX8_brokenPlace 18 = .ok (.iload_n 2, 1) := by decide +kernel
theorem dX8_brokenPlace_19 : decode cX8_brokenPlace 19 = .ok (.iload_n 1, 1) := by decide +kernel
theorem dX8_brokenPlace_20 : decode cX8_brokenPlace 20 = .ok (.iconst 1, 1) := by decide +kernel
theorem dX8_brokenPlace_21 : decode cX8_brokenPlace 21 = .ok (.iadd, 1) := by decide +kernel
theorem dX8_brokenPlace_22 : decode cX8_brokenPlace 22 = .ok (.aload_n 0, 1) := by decide +kernel
theorem dX8_brokenPlace_23 : decode cX8_brokenPlace 23 = .ok (.iload_n 1, 1) := by decide +kernel
theorem dX8_brokenPlace_24 : decode cX8_brokenPlace 24 = .ok (.invokevirtual 32, 3) := by decide +kernel
theorem dX8_brokenPlace_27 : decode cX8_brokenPlace 27 = .ok (.invokestatic 35, 3) := by decide +kernel
theorem dX8_brokenPlace_30 : decode cX8_brokenPlace 30 = .ok (.iadd, 1) := by decide +kernel
theorem dX8_brokenPlace_31 : decode cX8_brokenPlace 31 = .ok (.if_icmp .ge 5, 3) := by decide +kernel
theorem dX8_brokenPlace_34 : decode cX8_brokenPlace 34 = .ok (.iload_n 2, 1) := by decide +kernel
theorem dX8_brokenPlace_35 : decode cX8_brokenPlace 35 = .ok (.ireturn, 1) := by decide +kernel
theorem dX8_brokenPlace_36 : decode cX8_brokenPlace 36 = .ok (.iload_n 2, 1) := by decide +kernel
theorem dX8_brokenPlace_37 : decode cX8_brokenPlace 37 = .ok (.iconst 1, 1) := by decide +kernel
theorem dX8_brokenPlace_38 : decode cX8_brokenPlace 38 = .ok (.iadd, 1) := by decide +kernel
theorem dX8_brokenPlace_39 : decode cX8_brokenPlace 39 = .ok (.istore_n 1, 1) := by decide +kernel
theorem dX8_brokenPlace_40 : decode cX8_brokenPlace 40 = .ok (.iload_n 1, 1) := by decide +kernel
theorem dX8_brokenPlace_41 : decode cX8_brokenPlace 41 = .ok (.aload_n 0, 1) := by decide +kernel
theorem dX8_brokenPlace_42 : decode cX8_brokenPlace 42 = .ok (.getfield 21, 3) := by decide +kernel
theorem dX8_brokenPlace_45 : decode cX8_brokenPlace 45 = .ok (.if_icmp .lt (-43), 3) := by decide +kernel
theorem dX8_brokenPlace_48 : decode cX8_brokenPlace 48 = .ok (.iconst (-1), 1) := by decide +kernel
theorem dX8_brokenPlace_49 : decode cX8_brokenPlace 49 = .ok (.ireturn, 1) := by decide +kernel
set_option maxRecDepth 20000 in
theorem ggX8_wrongPlace_X8_isDone : GoodIn wsX8_wrongPlace wsX8_isDone := goodIn_r _ [7, 8, 9, 10, 6, 11, 12, 13, 14, 15, 1, 16, 17, 18, 19, 20, 21, 22, 23, 24, 25, 26, 27, 28, 29, 30, 31, 32, 33, 34, 35, 36, 37, 38, 39, 40, 41, 42, 43, 44, 45, 46, 47, 48, 49, 50, 51, 52, 53, 54, 55, 56, 57, 58, 59, 60, 61, 62, 63, 64, 65, 66, 67, 68, 69, 70, 71, 72, 73, 74, 75, 76, 77, 78, 79, 80, 81, 82, 83, 84, 85, 86, 87, 88, 89, 90, 91, 92, 93, 94, 95, 96, 97, 98, 99, 100, 101, 102, 103, 104, 105, 106, 107, 108, 109, 110, 111, 112, 113, 114, 115, 116, 117, 118, 119, 120, 121, 122, 123, 124, 125, 126, 127, 128, 129, 130, 144, 145, 146, 147, 148, 149, 150, 151, 152, 153, 154, 155, 156, 157, 158] (by decide +kernel) (by decide +kernel)
set_option maxRecDepth 20000 in
theorem gX8_wrongPlace_X8_isDone : GoodIn wsX8_wrongPlace (wsV RX8 38 RX8 yX8_isDone wsX8_isDone) := goodIn_app (goodIn_of _ (by decide +kernel)) ggX8_wrongPlace_X8_isDone
set_option maxRecDepth 20000 in
theorem ggX8_wrongPlace_X8_endOf : GoodIn wsX8_wrongPlace wsX8_endOf := goodIn_r _ [134, 12, 13, 14, 6, 15, 1, 16, 135, 136, 137, 138, 139, 140, 141, 142, 143, 21, 22, 23, 144, 145, 146] (by decide +kernel) (by decide +kernel)
set_option maxRecDepth 20000 in
theorem gX8_wrongPlace_X8_endOf : GoodIn wsX8_wrongPlace (wsV RX8 28 RX8 yX8_endOf wsX8_endOf) := goodIn_app (goodIn_of _ (by decide +kernel)) ggX8_wrongPlace_X8_endOf
theorem dX8_wrongPlace_0 : decode cX8_wrongPlace 0 = .ok (.iconst 0, 1) := by decide +kernel
theorem dX8_wrongPlace_1 : decode cX8_wrongPlace 1 = .ok (.istore_n 2, 1) := by decide +kernel
theorem dX8_wrongPlace_2 : decode cX8_wrongPlace 2 = .ok (.iload_n 2, 1) := by decide +kernel
theorem dX8_wrongPlace_3 : decode cX8_wrongPlace 3 = .ok (.aload_n 0, 1) := by decide +kernel
theorem dX8_wrongPlace_4 : decode cX8_wrongPlace 4 = .ok (.getfield 21, 3) := by decide +kernel
theorem dX8_wrongPlace_7 : decode cX8_wrongPlace 7 = .ok (.if_icmp .ge 35, 3) := by decide +kernel
theorem dX8_wrongPlace_10 : decode cX8_wrongPlace 10 = .ok (.aload_n 0, 1) := by decide +kernel
theorem dX8_wrongPlace_11 : decode cX8_wrongPlace 11 = .ok (.iload_n 2, 1) := by decide +kernel
theorem dX8_wrongPlace_12 : decode cX8_wrongPlace 12 = .ok (.aload_n 1, 1) := by decide +kernel
theorem dX8_wrongPlace_13 : decode cX8_wrongPlace 13 = .ok (.invokevirtual 38, 3) := by decide +kernel
theorem dX8_wrongPlace_16 : decode cX8_wrongPlace 16 = .ok (.ifCond .ne 5, 3) := by decide +kernel
theorem dX8_wrongPlace_19 : decode cX8_wrongPlace 19 = .ok (.iload_n 2, 1) := by decide +kernel
theorem dX8_wrongPlace_20 : decode cX8_wrongPlace 20 = .ok (.ireturn, 1) := by decide +kernel
theorem dX8_wrongPlace_21 : decode cX8_wrongPlace 21 = .ok (.aload_n 0, 1) := by decide +kernel
theorem dX8_wrongPlace_22 : decode cX8_wrongPlace 22 = .ok (.dup, 1) := by decide +kernel
theorem dX8_wrongPlace_23 : decode cX8_wrongPlace 23 = .ok (.getfield 25, 3) := by decide +kernel
theorem dX8_wrongPlace_26 : decode cX8_wrongPlace 26 = .ok (.iconst 1, 1) := by decide +kernel
theorem dX8_wrongPlace_27 : decode cX8_wrongPlace 27 = .ok (.iadd, 1) := by decide +kernel
theorem dX8_wrongPlace_28 : decode cX8_wrongPlace 28 = .ok (.putfield 25, 3) := by decide +kernel
theorem dX8_wrongPlace_31 : decode cX8_wrongPlace 31 = .ok (.aload_n 0, 1) := by decide +kernel
theorem dX8_wrongPlace_32 : decode cX8_wrongPlace 32 = .ok (.iload_n 2, 1) := by decide +kernel
theorem dX8_wrongPlace_33 : decode cX8_wrongPlace 33 = .ok (.invokevirtual 28, 3) := by decide +kernel
theorem dX8_wrongPlace_36 : decode cX8_wrongPlace 36 = .ok (.iconst 1, 1) := by decide +kernel
theorem dX8_wrongPlace_37 : decode cX8_wrongPlace 37 = .ok (.iadd, 1) := by decide +kernel
theorem dX8_wrongPlace_38 : decode cX8_wrongPlace 38 = .ok (.istore_n 2, 1) := by decide +kernel
theorem dX8_wrongPlace_39 : decode cX8_wrongPlace 39 = .ok (.goto (-37), 3) := by decide +kernel
theorem dX8_wrongPlace_42 : decode cX8_wrongPlace 42 = .ok (.iconst (-1), 1) := by decide +kernel
theorem dX8_wrongPlace_43 : decode cX8_wrongPlace 43 = .ok (.ireturn, 1) := by decide +kernel
set_option maxRecDepth 20000 in
theorem ggX8_endOf_X8_byteAt : GoodIn wsX8_endOf wsX8_byteAt := goodIn_r _ [5, 6, 7, 20, 21, 22] (by decide +kernel) (by decide +kernel)
set_option maxRecDepth 20000 in
theorem gX8_endOf_X8_byteAt : GoodIn wsX8_endOf (wsV RX8 32 RX8 yX8_byteAt wsX8_byteAt) := goodIn_app (goodIn_of _ (by decide +kernel)) ggX8_endOf_X8_byteAt
set_option maxRecDepth 20000 in
theorem ggX8_endOf_X8_isLetter : GoodIn wsX8_endOf wsX8_isLetter := goodIn_r _ [10] (by decide +kernel) (by decide +kernel)
set_option maxRecDepth 20000 in
theorem gX8_endOf_X8_isLetter : GoodIn wsX8_endOf (va_wsS RX8 42 yX8_isLetter wsX8_isLetter) := goodIn_app (goodIn_of _ (by decide +kernel)) ggX8_endOf_X8_isLetter
set_option maxRecDepth 20000 in
theorem ggX8_endOf_X8_hasNumber : GoodIn wsX8_endOf wsX8_hasNumber := goodIn_r _ [13] (by decide +kernel) (by decide +kernel)
set_option maxRecDepth 20000 in
theorem gX8_endOf_X8_hasNumber : GoodIn wsX8_endOf (va_wsS RX8 46 yX8_hasNumber wsX8_hasNumber) := goodIn_app (goodIn_of _ (by decide +kernel)) ggX8_endOf_X8_hasNumber
set_option maxRecDepth 20000 in
theorem ggX8_endOf_X8_singleDigits : GoodIn wsX8_endOf wsX8_singleDigits := goodIn_r _ [16] (by decide +kernel) (by decide +kernel)
set_option maxRecDepth 20000 in
theorem gX8_endOf_X8_singleDigits : GoodIn wsX8_endOf (va_wsS RX8 49 yX8_singleDigits wsX8_singleDigits) := goodIn_app (goodIn_of _ (by decide +kernel)) ggX8_endOf_X8_singleDigits
set_option maxRecDepth 20000 in
theorem ggX8_endOf_X8_isDigit : GoodIn wsX8_endOf wsX8_isDigit := goodIn_r _ [19] (by decide +kernel) (by decide +kernel)
set_option maxRecDepth 20000 in
theorem gX8_endOf_X8_isDigit : GoodIn wsX8_endOf (va_wsS RX8 52 yX8_isDigit wsX8_isDigit) := goodIn_app (goodIn_of _ (by decide +kernel)) ggX8_endOf_X8_isDigit
theorem dX8_endOf_0 : decode cX8_endOf 0 = .ok (.aload_n 0, 1) := by decide +kernel
theorem dX8_endOf_1 : decode cX8_endOf 1 = .ok (.iload_n 1, 1) := by decide +kernel
theorem dX8_endOf_2 : decode cX8_endOf 2 = .ok (.invokevirtual 32, 3) := by decide +kernel
theorem dX8_endOf_5 : decode cX8_endOf 5 = .ok (.istore_n 2, 1) := by decide +kernel
theorem dX8_endOf_6 : decode cX8_endOf 6 = .ok (.iload_n 2, 1) := by decide +kernel
theorem dX8_endOf_7 : decode cX8_endOf 7 = .ok (.invokestatic 42, 3) := by decide +kernel
theorem dX8_endOf_10 : decode cX8_endOf 10 = .ok (.ifCond .ne 5, 3) := by decide +kernel
theorem dX8_endOf_13 : decode cX8_endOf 13 = .ok (.iload_n 1, 1) := by decide +kernel
theorem dX8_endOf_14 : decode cX8_endOf 14 = .ok (.ireturn, 1) := by decide +kernel
theorem dX8_endOf_15 : decode cX8_endOf 15 = .ok (.iload_n 2, 1) := by decide +kernel
theorem dX8_endOf_16 : decode cX8_endOf 16 = .ok (.invokestatic 46, 3) := by decide +kernel
theorem dX8_endOf_19 : decode cX8_endOf 19 = .ok (.ifCond .eq 12, 3) := by decide +kernel
theorem dX8_endOf_22 : decode cX8_endOf 22 = .ok (.iload_n 2, 1) := by decide +kernel
theorem dX8_endOf_23 : decode cX8_endOf 23 = .ok (.invokestatic 49, 3) := by decide +kernel
theorem dX8_endOf_26 : decode cX8_endOf 26 = .ok (.iconst 4, 1) := by decide +kernel
theorem dX8_endOf_27 : decode cX8_endOf 27 = .ok (.iadd, 1) := by decide +kernel
theorem dX8_endOf_28 : decode cX8_endOf 28 = .ok (.goto 7, 3) := by decide +kernel
theorem dX8_endOf_31 : decode cX8_endOf 31 = .ok (.iload_n 2, 1) := by decide +kernel
theorem dX8_endOf_32 : decode cX8_endOf 32 = .ok (.invokestatic 49, 3) := by decide +kernel
theorem dX8_endOf_35 : decode cX8_endOf 35 = .ok (.istore_n 3, 1) := by decide +kernel
theorem dX8_endOf_36 : decode cX8_endOf 36 = .ok (.iconst 0, 1) := by decide +kernel
theorem dX8_endOf_37 : decode cX8_endOf 37 = .ok (.istore 4, 2) := by decide +kernel
theorem dX8_endOf_39 : decode cX8_endOf 39 = .ok (.iload 4, 2) := by decide +kernel
theorem dX8_endOf_41 : decode cX8_endOf 41 = .ok (.iload_n 3, 1) := by decide +kernel
theorem dX8_endOf_42 : decode cX8_endOf 42 = .ok (.if_icmp .ge 25, 3) := by decide +kernel
theorem dX8_endOf_45 : decode cX8_endOf 45 = .ok (.aload_n 0, 1) := by decide +kernel
theorem dX8_endOf_46 : decode cX8_endOf 46 = .ok (.iload_n 1, 1) := by decide +kernel
theorem dX8_endOf_47 : decode cX8_endOf 47 = .ok (.iconst 1, 1) := by decide +kernel
theorem dX8_endOf_48 : decode cX8_endOf 48 = .ok (.iadd, 1) := by decide +kernel
theorem dX8_endOf_49 : decode cX8_endOf 49 = .ok (.iload 4, 2) := by decide +kernel
theorem dX8_endOf_51 : decode cX8_endOf 51 = .ok (.iadd, 1) := by decide +kernel
theorem dX8_endOf_52 : decode cX8_endOf 52 = .ok (.invokevirtual 32, 3) := by decide +kernel
theorem dX8_endOf_55 : decode cX8_endOf 55 = .ok (.invokestatic 52, 3) := by decide +kernel
theorem dX8_endOf_58 : decode cX8_endOf 58 = .ok (.ifCond .eq 9, 3) := by decide +kernel
theorem dX8_endOf_61 : decode cX8_endOf 61 = .ok (.iinc 4 1, 3) := by decide +kernel
theorem dX8_endOf_64 : decode cX8_endOf 64 = .ok (.goto (-25), 3) := by decide +kernel
theorem dX8_endOf_67 : decode cX8_endOf 67 = .ok (.iload_n 1, 1) := by decide +kernel
theorem dX8_endOf_68 : decode cX8_endOf 68 = .ok (.iconst 1, 1) := by decide +kernel
theorem dX8_endOf_69 : decode cX8_endOf 69 = .ok (.iadd, 1) := by decide +kernel
theorem dX8_endOf_70 : decode cX8_endOf 70 = .ok (.iload 4, 2) := by decide +kernel
theorem dX8_endOf_72 : decode cX8_endOf 72 = .ok (.iadd, 1) := by decide +kernel
theorem dX8_endOf_73 : decode cX8_endOf 73 = .ok (.ireturn, 1) := by decide +kernel
set_option maxRecDepth 20000 in
theorem ggX8_fewestDigits_X8_hasNumber : GoodIn wsX8_fewestDigits wsX8_hasNumber := goodIn_r _ [4] (by decide +kernel) (by decide +kernel)
set_option maxRecDepth 20000 in
theorem gX8_fewestDigits_X8_hasNumber : GoodIn wsX8_fewestDigits (va_wsS RX8 46 yX8_hasNumber wsX8_hasNumber) := goodIn_app (goodIn_of _ (by decide +kernel)) ggX8_fewestDigits_X8_hasNumber
set_option maxRecDepth 20000 in
theorem ggX8_fewestDigits_X8_singleDigits : GoodIn wsX8_fewestDigits wsX8_singleDigits := goodIn_r _ [7] (by decide +kernel) (by decide +kernel)
set_option maxRecDepth 20000 in
theorem gX8_fewestDigits_X8_singleDigits : GoodIn wsX8_fewestDigits (va_wsS RX8 49 yX8_singleDigits wsX8_singleDigits) := goodIn_app (goodIn_of _ (by decide +kernel)) ggX8_fewestDigits_X8_singleDigits
theorem dX8_fewestDigits_0 : decode cX8_fewestDigits 0 = .ok (.iload_n 0, 1) := by decide +kernel
theorem dX8_fewestDigits_1 : decode cX8_fewestDigits 1 = .ok (.invokestatic 46, 3) := by decide +kernel
theorem dX8_fewestDigits_4 : decode cX8_fewestDigits 4 = .ok (.ifCond .eq 12, 3) := by decide +kernel
theorem dX8_fewestDigits_7 : decode cX8_fewestDigits 7 = .ok (.iload_n 0, 1) := by decide +kernel
theorem dX8_fewestDigits_8 : decode cX8_fewestDigits 8 = .ok (.invokestatic 49, 3) := by decide +kernel
theorem dX8_fewestDigits_11 : decode cX8_fewestDigits 11 = .ok (.iconst 1, 1) := by decide +kernel
theorem dX8_fewestDigits_12 : decode cX8_fewestDigits 12 = .ok (.iadd, 1) := by decide +kernel
theorem dX8_fewestDigits_13 : decode cX8_fewestDigits 13 = .ok (.goto 7, 3) := by decide +kernel
theorem dX8_fewestDigits_16 : decode cX8_fewestDigits 16 = .ok (.iload_n 0, 1) := by decide +kernel
theorem dX8_fewestDigits_17 : decode cX8_fewestDigits 17 = .ok (.invokestatic 49, 3) := by decide +kernel
theorem dX8_fewestDigits_20 : decode cX8_fewestDigits 20 = .ok (.ireturn, 1) := by decide +kernel
theorem dX8_singleDigits_0 : decode cX8_singleDigits 0 = .ok (.iload_n 0, 1) := by decide +kernel
theorem dX8_singleDigits_1 : decode cX8_singleDigits 1 = .ok (.lookupswitch 47 #[(103, 43), (104, 43), (109, 43), (114, 45)], 43) := by decide +kernel
theorem dX8_singleDigits_44 : decode cX8_singleDigits 44 = .ok (.iconst 2, 1) := by decide +kernel
theorem dX8_singleDigits_45 : decode cX8_singleDigits 45 = .ok (.ireturn, 1) := by decide +kernel
theorem dX8_singleDigits_46 : decode cX8_singleDigits 46 = .ok (.iconst 1, 1) := by decide +kernel
theorem dX8_singleDigits_47 : decode cX8_singleDigits 47 = .ok (.ireturn, 1) := by decide +kernel
theorem dX8_singleDigits_48 : decode cX8_singleDigits 48 = .ok (.iconst 0, 1) := by decide +kernel
theorem dX8_singleDigits_49 : decode cX8_singleDigits 49 = .ok (.ireturn, 1) := by decide +kernel
theorem dX8_isLetter_0 : decode cX8_isLetter 0 = .ok (.iload_n 0, 1) := by decide +kernel
theorem dX8_isLetter_1 : decode cX8_isLetter 1 = .ok (.bipush 104, 2) := by decide +kernel
theorem dX8_isLetter_3 : decode cX8_isLetter 3 = .ok (.if_icmp .eq 27, 3) := by decide +kernel
theorem dX8_isLetter_6 : decode cX8_isLetter 6 = .ok (.iload_n 0, 1) := by decide +kernel
theorem dX8_isLetter_7 : decode cX8_isLetter 7 = .ok (.bipush 114, 2) := by decide +kernel
theorem dX8_isLetter_9 : decode cX8_isLetter 9 = .ok (.if_icmp .eq 21, 3) := by decide +kernel
theorem dX8_isLetter_12 : decode cX8_isLetter 12 = .ok (.iload_n 0, 1) := by decide +kernel
theorem dX8_isLetter_13 : decode cX8_isLetter 13 = .ok (.bipush 103, 2) := by decide +kernel
theorem dX8_isLetter_15 : decode cX8_isLetter 15 = .ok (.if_icmp .eq 15, 3) := by decide +kernel
theorem dX8_isLetter_18 : decode cX8_isLetter 18 = .ok (.iload_n 0, 1) := by decide +kernel
theorem dX8_isLetter_19 : decode cX8_isLetter 19 = .ok (.bipush 109, 2) := by decide +kernel
theorem dX8_isLetter_21 : decode cX8_isLetter 21 = .ok (.if_icmp .eq 9, 3) := by decide +kernel
theorem dX8_isLetter_24 : decode cX8_isLetter 24 = .ok (.iload_n 0, 1) := by decide +kernel
theorem dX8_isLetter_25 : decode cX8_isLetter 25 = .ok (.bipush 117, 2) := by decide +kernel
theorem dX8_isLetter_27 : decode cX8_isLetter 27 = .ok (.if_icmp .ne 7, 3) := by decide +kernel
theorem dX8_isLetter_30 : decode cX8_isLetter 30 = .ok (.iconst 1, 1) := by decide +kernel
theorem dX8_isLetter_31 : decode cX8_isLetter 31 = .ok (.goto 4, 3) := by decide +kernel
theorem dX8_isLetter_34 : decode cX8_isLetter 34 = .ok (.iconst 0, 1) := by decide +kernel
theorem dX8_isLetter_35 : decode cX8_isLetter 35 = .ok (.ireturn, 1) := by decide +kernel
theorem dX8_hasNumber_0 : decode cX8_hasNumber 0 = .ok (.iload_n 0, 1) := by decide +kernel
theorem dX8_hasNumber_1 : decode cX8_hasNumber 1 = .ok (.bipush 104, 2) := by decide +kernel
theorem dX8_hasNumber_3 : decode cX8_hasNumber 3 = .ok (.if_icmp .eq 9, 3) := by decide +kernel
theorem dX8_hasNumber_6 : decode cX8_hasNumber 6 = .ok (.iload_n 0, 1) := by decide +kernel
theorem dX8_hasNumber_7 : decode cX8_hasNumber 7 = .ok (.bipush 103, 2) := by decide +kernel
theorem dX8_hasNumber_9 : decode cX8_hasNumber 9 = .ok (.if_icmp .ne 7, 3) := by decide +kernel
theorem dX8_hasNumber_12 : decode cX8_hasNumber 12 = .ok (.iconst 1, 1) := by decide +kernel
theorem dX8_hasNumber_13 : decode cX8_hasNumber 13 = .ok (.goto 4, 3) := by decide +kernel
theorem dX8_hasNumber_16 : decode cX8_hasNumber 16 = .ok (.iconst 0, 1) := by decide +kernel
theorem dX8_hasNumber_17 : decode cX8_hasNumber 17 = .ok (.ireturn, 1) := by decide +kernel
theorem dX8_isDigit_0 : decode cX8_isDigit 0 = .ok (.iload_n 0, 1) := by decide +kernel
theorem dX8_isDigit_1 : decode cX8_isDigit 1 = .ok (.bipush 48, 2) := by decide +kernel
theorem dX8_isDigit_3 : decode cX8_isDigit 3 = .ok (.if_icmp .lt 13, 3) := by decide +kernel
theorem dX8_isDigit_6 : decode cX8_isDigit 6 = .ok (.iload_n 0, 1) := by decide +kernel
theorem dX8_isDigit_7 : decode cX8_isDigit 7 = .ok (.bipush 57, 2) := by decide +kernel
theorem dX8_isDigit_9 : decode cX8_isDigit 9 = .ok (.if_icmp .gt 7, 3) := by decide +kernel
theorem dX8_isDigit_12 : decode cX8_isDigit 12 = .ok (.iconst 1, 1) := by decide +kernel
theorem dX8_isDigit_13 : decode cX8_isDigit 13 = .ok (.goto 4, 3) := by decide +kernel
theorem dX8_isDigit_16 : decode cX8_isDigit 16 = .ok (.iconst 0, 1) := by decide +kernel
theorem dX8_isDigit_17 : decode cX8_isDigit 17 = .ok (.ireturn, 1) := by decide +kernel
theorem dX8_byteAt_0 : decode cX8_byteAt 0 = .ok (.iload_n 1, 1) := by decide +kernel
theorem dX8_byteAt_1 : decode cX8_byteAt 1 = .ok (.ifCond .lt 20, 3) := by decide +kernel
theorem dX8_byteAt_4 : decode cX8_byteAt 4 = .ok (.iload_n 1, 1) := by decide +kernel
theorem dX8_byteAt_5 : decode cX8_byteAt 5 = .ok (.aload_n 0, 1) := by decide +kernel
theorem dX8_byteAt_6 : decode cX8_byteAt 6 = .ok (.getfield 21, 3) := by decide +kernel
theorem dX8_byteAt_9 : decode cX8_byteAt 9 = .ok (.if_icmp .ge 12, 3) := by decide +kernel
theorem dX8_byteAt_12 : decode cX8_byteAt 12 = .ok (.aload_n 0, 1) := by decide +kernel
theorem dX8_byteAt_13 : decode cX8_byteAt 13 = .ok (.getfield 9, 3) := by decide +kernel
theorem dX8_byteAt_16 : decode cX8_byteAt 16 = .ok (.iload_n 1, 1) := by decide +kernel
theorem dX8_byteAt_17 : decode cX8_byteAt 17 = .ok (.iaload, 1) := by decide +kernel
theorem dX8_byteAt_18 : decode cX8_byteAt 18 = .ok (.goto 4, 3) := by decide +kernel
theorem dX8_byteAt_21 : decode cX8_byteAt 21 = .ok (.iconst 0, 1) := by decide +kernel
theorem dX8_byteAt_22 : decode cX8_byteAt 22 = .ok (.ireturn, 1) := by decide +kernel
set_option maxRecDepth 20000 in
theorem ggX8_digitAt_X8_byteAt : GoodIn wsX8_digitAt wsX8_byteAt := goodIn_r _ [5, 6, 7, 8, 9, 10] (by decide +kernel) (by decide +kernel)
set_option maxRecDepth 20000 in
theorem gX8_digitAt_X8_byteAt : GoodIn wsX8_digitAt (wsV RX8 32 RX8 yX8_byteAt wsX8_byteAt) := goodIn_app (goodIn_of _ (by decide +kernel)) ggX8_digitAt_X8_byteAt
theorem dX8_digitAt_0 : decode cX8_digitAt 0 = .ok (.aload_n 0, 1) := by decide +kernel
theorem dX8_digitAt_1 : decode cX8_digitAt 1 = .ok (.iload_n 1, 1) := by decide +kernel
theorem dX8_digitAt_2 : decode cX8_digitAt 2 = .ok (.invokevirtual 32, 3) := by decide +kernel
theorem dX8_digitAt_5 : decode cX8_digitAt 5 = .ok (.bipush 48, 2) := by decide +kernel
theorem dX8_digitAt_7 : decode cX8_digitAt 7 = .ok (.isub, 1) := by decide +kernel
theorem dX8_digitAt_8 : decode cX8_digitAt 8 = .ok (.ireturn, 1) := by decide +kernel
set_option maxRecDepth 20000 in
theorem ggX8_numberAt_X8_byteAt : GoodIn wsX8_numberAt wsX8_byteAt := goodIn_r _ [5, 6, 7, 15, 16, 17] (by decide +kernel) (by decide +kernel)
set_option maxRecDepth 20000 in
theorem gX8_numberAt_X8_byteAt : GoodIn wsX8_numberAt (wsV RX8 32 RX8 yX8_byteAt wsX8_byteAt) := goodIn_app (goodIn_of _ (by decide +kernel)) ggX8_numberAt_X8_byteAt
set_option maxRecDepth 20000 in
theorem ggX8_numberAt_X8_isDigit : GoodIn wsX8_numberAt wsX8_isDigit := goodIn_r _ [10] (by decide +kernel) (by decide +kernel)
set_option maxRecDepth 20000 in
theorem gX8_numberAt_X8_isDigit : GoodIn wsX8_numberAt (va_wsS RX8 52 yX8_isDigit wsX8_isDigit) := goodIn_app (goodIn_of _ (by decide +kernel)) ggX8_numberAt_X8_isDigit
set_option maxRecDepth 20000 in
theorem ggX8_numberAt_X8_digitAt : GoodIn wsX8_numberAt wsX8_digitAt := goodIn_r _ [14, 1, 2, 3, 4, 5, 6, 7, 15, 16, 17] (by decide +kernel) (by decide +kernel)
set_option maxRecDepth 20000 in
theorem gX8_numberAt_X8_digitAt : GoodIn wsX8_numberAt (wsV RX8 55 RX8 yX8_digitAt wsX8_digitAt) := goodIn_app (goodIn_of _ (by decide +kernel)) ggX8_numberAt_X8_digitAt
theorem dX8_numberAt_0 : decode cX8_numberAt 0 = .ok (.iconst 0, 1) := by decide +kernel
theorem dX8_numberAt_1 : decode cX8_numberAt 1 = .ok (.istore_n 2, 1) := by decide +kernel
theorem dX8_numberAt_2 : decode cX8_numberAt 2 = .ok (.iload_n 1, 1) := by decide +kernel
theorem dX8_numberAt_3 : decode cX8_numberAt 3 = .ok (.istore_n 3, 1) := by decide +kernel
theorem dX8_numberAt_4 : decode cX8_numberAt 4 = .ok (.iload_n 3, 1) := by decide +kernel
theorem dX8_numberAt_5 : decode cX8_numberAt 5 = .ok (.iload_n 1, 1) := by decide +kernel
theorem dX8_numberAt_6 : decode cX8_numberAt 6 = .ok (.iconst 4, 1) := by decide +kernel
theorem dX8_numberAt_7 : decode cX8_numberAt 7 = .ok (.iadd, 1) := by decide +kernel
theorem dX8_numberAt_8 : decode cX8_numberAt 8 = .ok (.if_icmp .ge 31, 3) := by decide +kernel
theorem dX8_numberAt_11 : decode cX8_numberAt 11 = .ok (.aload_n 0, 1) := by decide +kernel
theorem dX8_numberAt_12 : decode cX8_numberAt 12 = .ok (.iload_n 3, 1) := by decide +kernel
theorem dX8_numberAt_13 : decode cX8_numberAt 13 = .ok (.invokevirtual 32, 3) := by decide +kernel
theorem dX8_numberAt_16 : decode cX8_numberAt 16 = .ok (.invokestatic 52, 3) := by decide +kernel
theorem dX8_numberAt_19 : decode cX8_numberAt 19 = .ok (.ifCond .eq 20, 3) := by decide +kernel
theorem dX8_numberAt_22 : decode cX8_numberAt 22 = .ok (.bipush 10, 2) := by decide +kernel
theorem dX8_numberAt_24 : decode cX8_numberAt 24 = .ok (.iload_n 2, 1) := by decide +kernel
theorem dX8_numberAt_25 : decode cX8_numberAt 25 = .ok (.imul, 1) := by decide +kernel
theorem dX8_numberAt_26 : decode cX8_numberAt 26 = .ok (.aload_n 0, 1) := by decide +kernel
theorem dX8_numberAt_27 : decode cX8_numberAt 27 = .ok (.iload_n 3, 1) := by decide +kernel
theorem dX8_numberAt_28 : decode cX8_numberAt 28 = .ok (.invokevirtual 55, 3) := by decide +kernel
theorem dX8_numberAt_31 : decode cX8_numberAt 31 = .ok (.iadd, 1) := by decide +kernel
theorem dX8_numberAt_32 : decode cX8_numberAt 32 = .ok (.istore_n 2, 1) := by decide +kernel
theorem dX8_numberAt_33 : decode cX8_numberAt 33 = .ok (.iinc 3 1, 3) := by decide +kernel
theorem dX8_numberAt_36 : decode cX8_numberAt 36 = .ok (.goto (-32), 3) := by decide +kernel
theorem dX8_numberAt_39 : decode cX8_numberAt 39 = .ok (.iload_n 2, 1) := by decide +kernel
theorem dX8_numberAt_40 : decode cX8_numberAt 40 = .ok (.ireturn, 1) := by decide +kernel
set_option maxRecDepth 20000 in
theorem ggX8_isDone_X8_digitAt : GoodIn wsX8_isDone wsX8_digitAt := goodIn_r _ [5, 6, 7, 8, 4, 9, 10, 11, 126, 127, 128] (by decide +kernel) (by decide +kernel)
set_option maxRecDepth 20000 in
theorem gX8_isDone_X8_digitAt : GoodIn wsX8_isDone (wsV RX8 55 RX8 yX8_digitAt wsX8_digitAt) := goodIn_app (goodIn_of _ (by decide +kernel)) ggX8_isDone_X8_digitAt
set_option maxRecDepth 20000 in
theorem ggX8_isDone_X8_byteAt : GoodIn wsX8_isDone wsX8_byteAt := goodIn_r _ [9, 10, 11, 126, 127, 128] (by decide +kernel) (by decide +kernel)
set_option maxRecDepth 20000 in
theorem gX8_isDone_X8_byteAt : GoodIn wsX8_isDone (wsV RX8 32 RX8 yX8_byteAt wsX8_byteAt) := goodIn_app (goodIn_of _ (by decide +kernel)) ggX8_isDone_X8_byteAt
set_option maxRecDepth 20000 in
theorem ggX8_isDone_X8_numberAt : GoodIn wsX8_isDone wsX8_numberAt := goodIn_r _ [15, 6, 7, 8, 4, 9, 10, 11, 16, 17, 18, 1, 2, 3, 5, 126, 127, 128] (by decide +kernel) (by decide +kernel)
set_option maxRecDepth 20000 in
theorem gX8_isDone_X8_numberAt : GoodIn wsX8_isDone (wsV RX8 58 RX8 yX8_numberAt wsX8_numberAt) := goodIn_app (goodIn_of _ (by decide +kernel)) ggX8_isDone_X8_numberAt
set_option maxRecDepth 20000 in
theorem ggX8_isDone_X8_comesAsTold : GoodIn wsX8_isDone wsX8_comesAsTold := goodIn_r _ [21, 22, 23, 24, 25, 26, 27, 28, 29, 30, 31, 32, 33, 34, 35, 36, 37, 38, 39, 40, 41, 42, 43, 44, 45, 46, 47, 48, 49, 50, 51, 52, 53, 54, 55, 56, 57, 58, 59, 60, 61, 62, 63, 64, 65, 66, 67, 68, 69, 70, 71, 72, 73, 74, 75, 76, 77, 78, 79, 80, 81, 82, 83, 84, 85, 86, 87, 88, 89, 90, 91, 92, 93, 94, 129, 130, 131, 132, 133, 134, 135, 136, 137, 138, 139, 140] (by decide +kernel) (by decide +kernel)
set_option maxRecDepth 20000 in
theorem gX8_isDone_X8_comesAsTold : GoodIn wsX8_isDone (va_wsS RX8 61 yX8_comesAsTold wsX8_comesAsTold) := goodIn_app (goodIn_of _ (by decide +kernel)) ggX8_isDone_X8_comesAsTold
set_option maxRecDepth 20000 in
theorem ggX8_isDone_X8_turnsAsTold : GoodIn wsX8_isDone wsX8_turnsAsTold := goodIn_r _ [97, 98, 129, 130, 131, 132] (by decide +kernel) (by decide +kernel)
set_option maxRecDepth 20000 in
theorem gX8_isDone_X8_turnsAsTold : GoodIn wsX8_isDone (va_wsS RX8 65 yX8_turnsAsTold wsX8_turnsAsTold) := goodIn_app (goodIn_of _ (by decide +kernel)) ggX8_isDone_X8_turnsAsTold
set_option maxRecDepth 20000 in
theorem ggX8_isDone_X7_gift : GoodIn wsX8_isDone wsX7_gift := goodIn_r _ [102, 94, 103, 104, 105, 90, 106, 107, 108, 109, 110, 92, 129, 130, 131, 132] (by decide +kernel) (by decide +kernel)
set_option maxRecDepth 20000 in
theorem gX8_isDone_X7_gift : GoodIn wsX8_isDone (wsV RX8 69 RX7 yX7_gift wsX7_gift) := goodIn_app (goodIn_of _ (by decide +kernel)) ggX8_isDone_X7_gift
set_option maxRecDepth 20000 in
theorem ggX8_isDone_X8_movesAsTold : GoodIn wsX8_isDone wsX8_movesAsTold := goodIn_r _ [113, 114, 104, 105, 90, 106, 107, 108, 109, 110, 92, 115, 116, 117, 118, 93, 94, 129, 130, 131, 132] (by decide +kernel) (by decide +kernel)
set_option maxRecDepth 20000 in
theorem gX8_isDone_X8_movesAsTold : GoodIn wsX8_isDone (va_wsS RX8 75 yX8_movesAsTold wsX8_movesAsTold) := goodIn_app (goodIn_of _ (by decide +kernel)) ggX8_isDone_X8_movesAsTold
set_option maxRecDepth 20000 in
theorem ggX8_isDone_X8_leavesAsTold : GoodIn wsX8_isDone wsX8_leavesAsTold := goodIn_r _ [121, 22, 122, 123, 124, 90, 125, 92, 93, 94, 107, 108, 109, 110, 129, 130, 131, 132] (by decide +kernel) (by decide +kernel)
set_option maxRecDepth 20000 in
theorem gX8_isDone_X8_leavesAsTold : GoodIn wsX8_isDone (va_wsS RX8 79 yX8_leavesAsTold wsX8_leavesAsTold) := goodIn_app (goodIn_of _ (by decide +kernel)) ggX8_isDone_X8_leavesAsTold
theorem dX8_isDone_0 : decode cX8_isDone 0 = .ok (.aload_n 0, 1) := by decide +kernel
theorem dX8_isDone_1 : decode cX8_isDone 1 = .ok (.iload_n 1, 1) := by decide +kernel
theorem dX8_isDone_2 : decode cX8_isDone 2 = .ok (.iconst 1, 1) := by decide +kernel
theorem dX8_isDone_3 : decode cX8_isDone 3 = .ok (.iadd, 1) := by decide +kernel
theorem dX8_isDone_4 : decode cX8_isDone 4 = .ok (.invokevirtual 55, 3) := by decide +kernel
theorem dX8_isDone_7 : decode cX8_isDone 7 = .ok (.istore_n 3, 1) := by decide +kernel
theorem dX8_isDone_8 : decode cX8_isDone 8 = .ok (.aload_n 0, 1) := by decide +kernel
theorem dX8_isDone_9 : decode cX8_isDone 9 = .ok (.iload_n 1, 1) := by decide +kernel
theorem dX8_isDone_10 : decode cX8_isDone 10 = .ok (.iconst 2, 1) := by decide +kernel
theorem dX8_isDone_11 : decode cX8_isDone 11 = .ok (.iadd, 1) := by decide +kernel
theorem dX8_isDone_12 : decode cX8_isDone 12 = .ok (.invokevirtual 55, 3) := by decide +kernel
theorem dX8_isDone_15 : decode cX8_isDone 15 = .ok (.istore 4, 2) := by decide +kernel
theorem dX8_isDone_17 : decode cX8_isDone 17 = .ok (.aload_n 0, 1) := by decide +kernel
theorem dX8_isDone_18 : decode cX8_isDone 18 = .ok (.iload_n 1, 1) := by decide +kernel
theorem dX8_isDone_19 : decode cX8_isDone 19 = .ok (.invokevirtual 32, 3) := by decide +kernel
theorem dX8_isDone_22 : decode cX8_isDone 22 = .ok (.tableswitch 131 103 117 #[95, 74, 131, 131, 131, 131, 118, 131, 131, 131, 131, 89, 131, 131, 126], 74) := by decide +kernel
theorem dX8_isDone_96 : decode cX8_isDone 96 = .ok (.aload_n 2, 1) := by decide +kernel
theorem dX8_isDone_97 : decode cX8_isDone 97 = .ok (.iload_n 3, 1) := by decide +kernel
theorem dX8_isDone_98 : decode cX8_isDone 98 = .ok (.iload 4, 2) := by decide +kernel
theorem dX8_isDone_100 : decode cX8_isDone 100 = .ok (.aload_n 0, 1) := by decide +kernel
theorem dX8_isDone_101 : decode cX8_isDone 101 = .ok (.iload_n 1, 1) := by decide +kernel
theorem dX8_isDone_102 : decode cX8_isDone 102 = .ok (.iconst 3, 1) := by decide +kernel
theorem dX8_isDone_103 : decode cX8_isDone 103 = .ok (.iadd, 1) := by decide +kernel
theorem dX8_isDone_104 : decode cX8_isDone 104 = .ok (.invokevirtual 58, 3) := by decide +kernel
theorem dX8_isDone_107 : decode cX8_isDone 107 = .ok (.invokestatic 61, 3) := by decide +kernel
theorem dX8_isDone_110 : decode cX8_isDone 110 = .ok (.ireturn, 1) := by decide +kernel
theorem dX8_isDone_111 : decode cX8_isDone 111 = .ok (.aload_n 2, 1) := by decide +kernel
theorem dX8_isDone_112 : decode cX8_isDone 112 = .ok (.iload_n 3, 1) := by decide +kernel
theorem dX8_isDone_113 : decode cX8_isDone 113 = .ok (.invokestatic 65, 3) := by decide +kernel
theorem dX8_isDone_116 : decode cX8_isDone 116 = .ok (.ireturn, 1) := by decide +kernel
theorem dX8_isDone_117 : decode cX8_isDone 117 = .ok (.aload_n 2, 1) := by decide +kernel
theorem dX8_isDone_118 : decode cX8_isDone 118 = .ok (.iload_n 3, 1) := by decide +kernel
theorem dX8_isDone_119 : decode cX8_isDone 119 = .ok (.iload 4, 2) := by decide +kernel
theorem dX8_isDone_121 : decode cX8_isDone 121 = .ok (.aload_n 0, 1) := by decide +kernel
theorem dX8_isDone_122 : decode cX8_isDone 122 = .ok (.iload_n 1, 1) := by decide +kernel
theorem dX8_isDone_123 : decode cX8_isDone 123 = .ok (.iconst 3, 1) := by decide +kernel
theorem dX8_isDone_124 : decode cX8_isDone 124 = .ok (.iadd, 1) := by decide +kernel
theorem dX8_isDone_125 : decode cX8_isDone 125 = .ok (.invokevirtual 58, 3) := by decide +kernel
theorem dX8_isDone_128 : decode cX8_isDone 128 = .ok (.invokevirtual 69, 3) := by decide +kernel
theorem dX8_isDone_131 : decode cX8_isDone 131 = .ok (.ifCond .ne 7, 3) := by decide +kernel
theorem dX8_isDone_134 : decode cX8_isDone 134 = .ok (.iconst 1, 1) := by decide +kernel
theorem dX8_isDone_135 : decode cX8_isDone 135 = .ok (.goto 4, 3) := by decide +kernel
theorem dX8_isDone_138 : decode cX8_isDone 138 = .ok (.iconst 0, 1) := by decide +kernel
theorem dX8_isDone_139 : decode cX8_isDone 139 = .ok (.ireturn, 1) := by decide +kernel
theorem dX8_isDone_140 : decode cX8_isDone 140 = .ok (.aload_n 2, 1) := by decide +kernel
theorem dX8_isDone_141 : decode cX8_isDone 141 = .ok (.iload_n 3, 1) := by decide +kernel
theorem dX8_isDone_142 : decode cX8_isDone 142 = .ok (.iload 4, 2) := by decide +kernel
theorem dX8_isDone_144 : decode cX8_isDone 144 = .ok (.invokestatic 75, 3) := by decide +kernel
theorem dX8_isDone_147 : decode cX8_isDone 147 = .ok (.ireturn, 1) := by decide +kernel
theorem dX8_isDone_148 : decode cX8_isDone 148 = .ok (.aload_n 2, 1) := by decide +kernel
theorem dX8_isDone_149 : decode cX8_isDone 149 = .ok (.invokestatic 79, 3) := by decide +kernel
theorem dX8_isDone_152 : decode cX8_isDone 152 = .ok (.ireturn, 1) := by decide +kernel
theorem dX8_isDone_153 : decode cX8_isDone 153 = .ok (.iconst 0, 1) := by decide +kernel
theorem dX8_isDone_154 : decode cX8_isDone 154 = .ok (.ireturn, 1) := by decide +kernel
set_option maxRecDepth 20000 in
theorem ggX8_comesAsTold_X11_isHouse : GoodIn wsX8_comesAsTold wsX11_isHouse := goodIn_r _ [4] (by decide +kernel) (by decide +kernel)
set_option maxRecDepth 20000 in
theorem gX8_comesAsTold_X11_isHouse_n83 : GoodIn wsX8_comesAsTold (wsX11_isHouse) := ggX8_comesAsTold_X11_isHouse
set_option maxRecDepth 20000 in
theorem ggX8_comesAsTold_X11_houseOfKind : GoodIn wsX8_comesAsTold wsX11_houseOfKind := goodIn_r _ [6, 7, 8, 9, 10, 11, 12, 13, 14, 15, 16, 17, 18, 19, 20, 21, 22, 23, 24, 25, 26, 27, 28, 29, 30, 31, 32, 33, 34, 35, 36, 37, 38, 39, 40, 41, 42, 43, 44, 45, 46, 47, 48, 49, 50, 51, 52, 53, 54, 55, 56, 57, 58, 59, 60, 61, 62, 63, 64, 65, 78, 79, 80, 81, 82, 83, 84, 85] (by decide +kernel) (by decide +kernel)
set_option maxRecDepth 20000 in
theorem gX8_comesAsTold_X11_houseOfKind_n90 : GoodIn wsX8_comesAsTold (wsX11_houseOfKind) := ggX8_comesAsTold_X11_houseOfKind
set_option maxRecDepth 20000 in
theorem ggX8_comesAsTold_X7_insert : GoodIn wsX8_comesAsTold wsX7_insert := goodIn_r _ [70, 71, 72, 73, 74, 75, 76, 77] (by decide +kernel) (by decide +kernel)
set_option maxRecDepth 20000 in
theorem gX8_comesAsTold_X7_insert : GoodIn wsX8_comesAsTold (wsV RX8 94 RX7 yX7_insert wsX7_insert) := goodIn_app (goodIn_of _ (by decide +kernel)) ggX8_comesAsTold_X7_insert
theorem dX8_comesAsTold_0 : decode cX8_comesAsTold 0 = .ok (.iload_n 1, 1) := by decide +kernel
theorem dX8_comesAsTold_1 : decode cX8_comesAsTold 1 = .ok (.iload_n 2, 1) := by decide +kernel
theorem dX8_comesAsTold_2 : decode cX8_comesAsTold 2 = .ok (.invokestatic 83, 3) := by decide +kernel
theorem dX8_comesAsTold_5 : decode cX8_comesAsTold 5 = .ok (.ifCond .eq 12, 3) := by decide +kernel
theorem dX8_comesAsTold_8 : decode cX8_comesAsTold 8 = .ok (.aload_n 0, 1) := by decide +kernel
theorem dX8_comesAsTold_9 : decode cX8_comesAsTold 9 = .ok (.getfield 87, 3) := by decide +kernel
theorem dX8_comesAsTold_12 : decode cX8_comesAsTold 12 = .ok (.bipush 8, 2) := by decide +kernel
theorem dX8_comesAsTold_14 : decode cX8_comesAsTold 14 = .ok (.if_icmp .lt 5, 3) := by decide +kernel
theorem dX8_comesAsTold_17 : decode cX8_comesAsTold 17 = .ok (.iconst 0, 1) := by decide +kernel
theorem dX8_comesAsTold_18 : decode cX8_comesAsTold 18 = .ok (.ireturn, 1) := by decide +kernel
theorem dX8_comesAsTold_19 : decode cX8_comesAsTold 19 = .ok (.aload_n 0, 1) := by decide +kernel
theorem dX8_comesAsTold_20 : decode cX8_comesAsTold 20 = .ok (.aload_n 0, 1) := by decide +kernel
theorem dX8_comesAsTold_21 : decode cX8_comesAsTold 21 = .ok (.getfield 87, 3) := by decide +kernel
theorem dX8_comesAsTold_24 : decode cX8_comesAsTold 24 = .ok (.iload_n 1, 1) := by decide +kernel
theorem dX8_comesAsTold_25 : decode cX8_comesAsTold 25 = .ok (.iload_n 2, 1) := by decide +kernel
theorem dX8_comesAsTold_26 : decode cX8_comesAsTold 26 = .ok (.invokestatic 90, 3) := by decide +kernel
theorem dX8_comesAsTold_29 : decode cX8_comesAsTold 29 = .ok (.iload_n 3, 1) := by decide +kernel
theorem dX8_comesAsTold_30 : decode cX8_comesAsTold 30 = .ok (.invokevirtual 94, 3) := by decide +kernel
theorem dX8_comesAsTold_33 : decode cX8_comesAsTold 33 = .ok (.iconst 1, 1) := by decide +kernel
theorem dX8_comesAsTold_34 : decode cX8_comesAsTold 34 = .ok (.ireturn, 1) := by decide +kernel
theorem dX8_turnsAsTold_0 : decode cX8_turnsAsTold 0 = .ok (.iload_n 1, 1) := by decide +kernel
theorem dX8_turnsAsTold_1 : decode cX8_turnsAsTold 1 = .ok (.ifCond .eq 10, 3) := by decide +kernel
theorem dX8_turnsAsTold_4 : decode cX8_turnsAsTold 4 = .ok (.iload_n 1, 1) := by decide +kernel
theorem dX8_turnsAsTold_5 : decode cX8_turnsAsTold 5 = .ok (.iconst 1, 1) := by decide +kernel
theorem dX8_turnsAsTold_6 : decode cX8_turnsAsTold 6 = .ok (.if_icmp .eq 5, 3) := by decide +kernel
theorem dX8_turnsAsTold_9 : decode cX8_turnsAsTold 9 = .ok (.iconst 0, 1) := by decide +kernel
theorem dX8_turnsAsTold_10 : decode cX8_turnsAsTold 10 = .ok (.ireturn, 1) := by decide +kernel
theorem dX8_turnsAsTold_11 : decode cX8_turnsAsTold 11 = .ok (.aload_n 0, 1) := by decide +kernel
theorem dX8_turnsAsTold_12 : decode cX8_turnsAsTold 12 = .ok (.iload_n 1, 1) := by decide +kernel
theorem dX8_turnsAsTold_13 : decode cX8_turnsAsTold 13 = .ok (.putfield 98, 3) := by decide +kernel
theorem dX8_turnsAsTold_16 : decode cX8_turnsAsTold 16 = .ok (.iconst 1, 1) := by decide +kernel
theorem dX8_turnsAsTold_17 : decode cX8_turnsAsTold 17 = .ok (.ireturn, 1) := by decide +kernel
set_option maxRecDepth 20000 in
theorem ggX8_movesAsTold_X7_hasTwo : GoodIn wsX8_movesAsTold wsX7_hasTwo := goodIn_r _ [5, 6, 7, 8, 4, 9, 10, 17, 18, 19, 20] (by decide +kernel) (by decide +kernel)
set_option maxRecDepth 20000 in
theorem gX8_movesAsTold_X7_hasTwo : GoodIn wsX8_movesAsTold (wsV RX8 101 RX7 yX7_hasTwo wsX7_hasTwo) := goodIn_app (goodIn_of _ (by decide +kernel)) ggX8_movesAsTold_X7_hasTwo
set_option maxRecDepth 20000 in
theorem ggX8_movesAsTold_X7_exchange : GoodIn wsX8_movesAsTold wsX7_exchange := goodIn_r _ [14, 15, 16, 17, 18, 19, 20] (by decide +kernel) (by decide +kernel)
set_option maxRecDepth 20000 in
theorem gX8_movesAsTold_X7_exchange : GoodIn wsX8_movesAsTold (wsV RX8 104 RX7 yX7_exchange wsX7_exchange) := goodIn_app (goodIn_of _ (by decide +kernel)) ggX8_movesAsTold_X7_exchange
theorem dX8_movesAsTold_0 : decode cX8_movesAsTold 0 = .ok (.aload_n 0, 1) := by decide +kernel
theorem dX8_movesAsTold_1 : decode cX8_movesAsTold 1 = .ok (.iload_n 1, 1) := by decide +kernel
theorem dX8_movesAsTold_2 : decode cX8_movesAsTold 2 = .ok (.iload_n 2, 1) := by decide +kernel
theorem dX8_movesAsTold_3 : decode cX8_movesAsTold 3 = .ok (.invokevirtual 101, 3) := by decide +kernel
theorem dX8_movesAsTold_6 : decode cX8_movesAsTold 6 = .ok (.ifCond .ne 5, 3) := by decide +kernel
theorem dX8_movesAsTold_9 : decode cX8_movesAsTold 9 = .ok (.iconst 0, 1) := by decide +kernel
theorem dX8_movesAsTold_10 : decode cX8_movesAsTold 10 = .ok (.ireturn, 1) := by decide +kernel
theorem dX8_movesAsTold_11 : decode cX8_movesAsTold 11 = .ok (.aload_n 0, 1) := by decide +kernel
theorem dX8_movesAsTold_12 : decode cX8_movesAsTold 12 = .ok (.iload_n 1, 1) := by decide +kernel
theorem dX8_movesAsTold_13 : decode cX8_movesAsTold 13 = .ok (.iload_n 2, 1) := by decide +kernel
theorem dX8_movesAsTold_14 : decode cX8_movesAsTold 14 = .ok (.invokevirtual 104, 3) := by decide +kernel
theorem dX8_movesAsTold_17 : decode cX8_movesAsTold 17 = .ok (.iconst 1, 1) := by decide +kernel
theorem dX8_movesAsTold_18 : decode cX8_movesAsTold 18 = .ok (.ireturn, 1) := by decide +kernel
set_option maxRecDepth 20000 in
theorem ggX8_leavesAsTold_X7_remove : GoodIn wsX8_leavesAsTold wsX7_remove := goodIn_r _ [6, 7, 8, 9, 10, 11, 12, 5, 13, 14, 15, 16, 17] (by decide +kernel) (by decide +kernel)
set_option maxRecDepth 20000 in
theorem gX8_leavesAsTold_X7_remove : GoodIn wsX8_leavesAsTold (wsV RX8 108 RX7 yX7_remove wsX7_remove) := goodIn_app (goodIn_of _ (by decide +kernel)) ggX8_leavesAsTold_X7_remove
theorem dX8_leavesAsTold_0 : decode cX8_leavesAsTold 0 = .ok (.aload_n 0, 1) := by decide +kernel
theorem dX8_leavesAsTold_1 : decode cX8_leavesAsTold 1 = .ok (.getfield 87, 3) := by decide +kernel
theorem dX8_leavesAsTold_4 : decode cX8_leavesAsTold 4 = .ok (.ifCond .ne 5, 3) := by decide +kernel
theorem dX8_leavesAsTold_7 : decode cX8_leavesAsTold 7 = .ok (.iconst 0, 1) := by decide +kernel
theorem dX8_leavesAsTold_8 : decode cX8_leavesAsTold 8 = .ok (.ireturn, 1) := by decide +kernel
theorem dX8_leavesAsTold_9 : decode cX8_leavesAsTold 9 = .ok (.aload_n 0, 1) := by decide +kernel
theorem dX8_leavesAsTold_10 : decode cX8_leavesAsTold 10 = .ok (.aload_n 0, 1) := by decide +kernel
theorem dX8_leavesAsTold_11 : decode cX8_leavesAsTold 11 = .ok (.getfield 87, 3) := by decide +kernel
theorem dX8_leavesAsTold_14 : decode cX8_leavesAsTold 14 = .ok (.iconst 1, 1) := by decide +kernel
theorem dX8_leavesAsTold_15 : decode cX8_leavesAsTold 15 = .ok (.isub, 1) := by decide +kernel
theorem dX8_leavesAsTold_16 : decode cX8_leavesAsTold 16 = .ok (.invokevirtual 108, 3) := by decide +kernel
theorem dX8_leavesAsTold_19 : decode cX8_leavesAsTold 19 = .ok (.iconst 1, 1) := by decide +kernel
theorem dX8_leavesAsTold_20 : decode cX8_leavesAsTold 20 = .ok (.ireturn, 1) := by decide +kernel
set_option maxRecDepth 20000 in
theorem ggX9_init_X2_init : GoodIn wsX9_init wsX2_init := goodIn_r _ [4, 5, 6, 7, 8, 9, 10, 11, 12, 13, 14, 15, 16, 17, 18, 19, 20] (by decide +kernel) (by decide +kernel)
set_option maxRecDepth 20000 in
theorem gX9_init_X2_init : GoodIn wsX9_init (wsX2_init) := ggX9_init_X2_init
theorem dX9_init_0 : decode cX9_init 0 = .ok (.aload_n 0, 1) := by decide +kernel
theorem dX9_init_1 : decode cX9_init 1 = .ok (.iload_n 1, 1) := by decide +kernel
theorem dX9_init_2 : decode cX9_init 2 = .ok (.invokespecial 1, 3) := by decide +kernel
theorem dX9_init_5 : decode cX9_init 5 = .ok (.return_, 1) := by decide +kernel
theorem dX9_kind_0 : decode cX9_kind 0 = .ok (.bipush 6, 2) := by decide +kernel
theorem dX9_kind_2 : decode cX9_kind 2 = .ok (.ireturn, 1) := by decide +kernel
set_option maxRecDepth 20000 in
theorem ggX9_allowedBy_X2_allowedBy : GoodIn wsX9_allowedBy wsX2_allowedBy := goodIn_r _ [6, 7, 8, 9, 10, 11, 12, 13, 14, 15, 16, 17, 18, 19, 20, 21, 22] (by decide +kernel) (by decide +kernel)
set_option maxRecDepth 20000 in
theorem gX9_allowedBy_X2_allowedBy_s7 : GoodIn wsX9_allowedBy (va_wsSU RX9 7 yX2_allowedBy wsX2_allowedBy) := goodIn_app (goodIn_of _ (by decide +kernel)) ggX9_allowedBy_X2_allowedBy
theorem dX9_allowedBy_0 : decode cX9_allowedBy 0 = .ok (.iconst 2, 1) := by decide +kernel
theorem dX9_allowedBy_1 : decode cX9_allowedBy 1 = .ok (.aload_n 0, 1) := by decide +kernel
theorem dX9_allowedBy_2 : decode cX9_allowedBy 2 = .ok (.iload_n 1, 1) := by decide +kernel
theorem dX9_allowedBy_3 : decode cX9_allowedBy 3 = .ok (.invokespecial 7, 3) := by decide +kernel
theorem dX9_allowedBy_6 : decode cX9_allowedBy 6 = .ok (.imul, 1) := by decide +kernel
theorem dX9_allowedBy_7 : decode cX9_allowedBy 7 = .ok (.ireturn, 1) := by decide +kernel
set_option maxRecDepth 20000 in
theorem ggX9_weekly_X2_weekly : GoodIn wsX9_weekly wsX2_weekly := goodIn_r _ [6, 7, 8, 9, 10, 11, 12, 13, 14, 15, 16, 17, 18, 19, 20, 21, 22] (by decide +kernel) (by decide +kernel)
set_option maxRecDepth 20000 in
theorem gX9_weekly_X2_weekly_s11 : GoodIn wsX9_weekly (va_wsSU RX9 11 yX2_weekly wsX2_weekly) := goodIn_app (goodIn_of _ (by decide +kernel)) ggX9_weekly_X2_weekly
theorem dX9_weekly_0 : decode cX9_weekly 0 = .ok (.iconst 2, 1) := by decide +kernel
theorem dX9_weekly_1 : decode cX9_weekly 1 = .ok (.aload_n 0, 1) := by decide +kernel
theorem dX9_weekly_2 : decode cX9_weekly 2 = .ok (.invokespecial 11, 3) := by decide +kernel
theorem dX9_weekly_5 : decode cX9_weekly 5 = .ok (.imul, 1) := by decide +kernel
theorem dX9_weekly_6 : decode cX9_weekly 6 = .ok (.ireturn, 1) := by decide +kernel
set_option maxRecDepth 20000 in
theorem ggX9_price_X2_price : GoodIn wsX9_price wsX2_price := goodIn_r _ [8, 9, 10, 11, 12, 13, 14, 15, 16, 17, 18, 19, 20, 21, 22, 23, 24] (by decide +kernel) (by decide +kernel)
set_option maxRecDepth 20000 in
theorem gX9_price_X2_price_s15 : GoodIn wsX9_price (va_wsSU RX9 15 yX2_price wsX2_price) := goodIn_app (goodIn_of _ (by decide +kernel)) ggX9_price_X2_price
theorem dX9_price_0 : decode cX9_price 0 = .ok (.aload_n 0, 1) := by decide +kernel
theorem dX9_price_1 : decode cX9_price 1 = .ok (.invokespecial 15, 3) := by decide +kernel
theorem dX9_price_4 : decode cX9_price 4 = .ok (.aload_n 0, 1) := by decide +kernel
theorem dX9_price_5 : decode cX9_price 5 = .ok (.getfield 18, 3) := by decide +kernel
theorem dX9_price_8 : decode cX9_price 8 = .ok (.isub, 1) := by decide +kernel
theorem dX9_price_9 : decode cX9_price 9 = .ok (.ireturn, 1) := by decide +kernel
theorem dX9_fail_0 : decode cX9_fail 0 = .ok (.new 24, 3) := by decide +kernel
theorem dX9_fail_3 : decode cX9_fail 3 = .ok (.dup, 1) := by decide +kernel
theorem dX9_fail_4 : decode cX9_fail 4 = .ok (.invokespecial 26, 3) := by decide +kernel
theorem dX9_fail_7 : decode cX9_fail 7 = .ok (.athrow, 1) := by decide +kernel
set_option maxRecDepth 20000 in
theorem ggX10_init_X3_init : GoodIn wsX10_init wsX3_init := goodIn_r _ [4, 5, 6, 7, 8, 9, 10, 11, 12, 13, 14, 15, 16] (by decide +kernel) (by decide +kernel)
set_option maxRecDepth 20000 in
theorem gX10_init_X3_init : GoodIn wsX10_init (wsX3_init) := ggX10_init_X3_init
theorem dX10_init_0 : decode cX10_init 0 = .ok (.aload_n 0, 1) := by decide +kernel
theorem dX10_init_1 : decode cX10_init 1 = .ok (.iload_n 1, 1) := by decide +kernel
theorem dX10_init_2 : decode cX10_init 2 = .ok (.invokespecial 3, 3) := by decide +kernel
theorem dX10_init_5 : decode cX10_init 5 = .ok (.return_, 1) := by decide +kernel
theorem dX10_kind_0 : decode cX10_kind 0 = .ok (.iconst 3, 1) := by decide +kernel
theorem dX10_kind_1 : decode cX10_kind 1 = .ok (.ireturn, 1) := by decide +kernel
theorem dX10_isLookedAt_0 : decode cX10_isLookedAt 0 = .ok (.iconst 0, 1) := by decide +kernel
theorem dX10_isLookedAt_1 : decode cX10_isLookedAt 1 = .ok (.ireturn, 1) := by decide +kernel
theorem dX10_allowedBy_0 : decode cX10_allowedBy 0 = .ok (.sipush 9999, 3) := by decide +kernel
theorem dX10_allowedBy_3 : decode cX10_allowedBy 3 = .ok (.ireturn, 1) := by decide +kernel
theorem dX10_weekly_0 : decode cX10_weekly 0 = .ok (.iconst 0, 1) := by decide +kernel
theorem dX10_weekly_1 : decode cX10_weekly 1 = .ok (.ireturn, 1) := by decide +kernel
set_option maxRecDepth 20000 in
theorem ggX10_price_X3_price : GoodIn wsX10_price wsX3_price := goodIn_r _ [6] (by decide +kernel) (by decide +kernel)
set_option maxRecDepth 20000 in
theorem gX10_price_X3_price_s9 : GoodIn wsX10_price (va_wsSU RX10 9 yX3_price wsX3_price) := goodIn_app (goodIn_of _ (by decide +kernel)) ggX10_price_X3_price
theorem dX10_price_0 : decode cX10_price 0 = .ok (.aload_n 0, 1) := by decide +kernel
theorem dX10_price_1 : decode cX10_price 1 = .ok (.invokespecial 9, 3) := by decide +kernel
theorem dX10_price_4 : decode cX10_price 4 = .ok (.iconst 3, 1) := by decide +kernel
theorem dX10_price_5 : decode cX10_price 5 = .ok (.iadd, 1) := by decide +kernel
theorem dX10_price_6 : decode cX10_price 6 = .ok (.ireturn, 1) := by decide +kernel
theorem dX10_hasFailure_0 : decode cX10_hasFailure 0 = .ok (.iconst 0, 1) := by decide +kernel
theorem dX10_hasFailure_1 : decode cX10_hasFailure 1 = .ok (.ireturn, 1) := by decide +kernel
abbrev vwCl : List vw_C := [(RX0, TX0, 1), (RX1, TX1, 1), (RX2, TX2, 1), (RX3, TX3, 1), (RX4, TX4, 1), (RX5, TX5, 8), (RX6, TX6, 1), (RX7, TX7, 4), (RX8, TX8, 3), (RX9, TX9, 1), (RX10, TX10, 1), (RX11, TX11, 11), (RX12, TX12, 24)]
