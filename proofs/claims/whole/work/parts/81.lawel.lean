section ELROW
variable {p : Program} {l : Launch} {e : Env} {R : Room} {s : State} {m : MethodId} {args : Array Value} {below : List Frame} {meth : Method} {c : Code} {H : Heap} {locs : List Loc} {cells slots : Nat} {Q : State → Prop} {cc : ByteArray} {pc : Nat} {ls : Array Slot} {rest : List Value} {g : xG} {σ : xS} {A : Nat → Prop} {H0 : Heap}
/-- element, returned or thrown -/
theorem xc_el {mc ms : Nat} {st0 : List Value} {a : Array Value} {post : Int → xS → Prop} {k : Int} (hr : vx_Run p l e R s m args below meth c H locs cells slots mc ms (F0 m pc ls st0) rest (x_Ql g A post a) (xeX g A σ k) A) (hS : va_S A H0 H locs)
    (kk : ∀ (r : Int) (σ1 : xS) (H1 : Heap) (locs1 : List Loc), inR r → post r σ1 → xP g σ1 H1 → xD g A σ1 → va_S A H0 H1 locs1 → W p l e R s m args below meth c H1 locs1 (cells + mc) (slots + ms) Q (F0 m (pc + 3) ls (.long (jL r) :: rest)))
    (k1 : k = 1 → ∀ (q9 : Nat) (ce : Cell) (H1 : Heap) (locs1 : List Loc), H1[q9]? = some ce → ce.vm = .none → s.vm.findClass nIAE = some ce.cls → xP g σ H1 → xD g A σ → va_S A H0 H1 locs1 → vx_W p l e R s m args below meth c H1 locs1 (cells + mc) (slots + ms) Q (F0 m pc ls rest) q9)
    (k2 : k = 2 → ∀ (q9 : Nat) (ce : Cell) (H1 : Heap) (locs1 : List Loc), H1[q9]? = some ce → ce.vm = .none → s.vm.findClass nISE = some ce.cls → xP g σ H1 → xD g A σ → va_S A H0 H1 locs1 → vx_W p l e R s m args below meth c H1 locs1 (cells + mc) (slots + ms) Q (F0 m pc ls rest) q9) : W p l e R s m args below meth c H locs cells slots Q (F0 m pc ls st0) := by
  intro T hT X
  rcases hr T hT X with ⟨v, st₀, t, T', L, h0, X', hL, e1, e2, ⟨r, σ1, hr1, hr2, hv, hE⟩, st⟩ | ⟨q, st₀, t, T', L, E, ce, h0, X', hL, e1, e2, ⟨hE, hP1, hD1, hF⟩, hce, hcv, hcl, st⟩
  · cases hv
    obtain ⟨t2, a1, b1⟩ := kk r σ1 T'.heap (locs ++ L) hr1 hr2 (by rw [e1]; exact hE.1) hE.2.1 (x_end_S (A0 := A) h0 e1 hE hS hL) T' rfl X'
    exact ⟨t2, st t2 a1, b1⟩
  · rcases hE with ⟨rfl, hk⟩ | ⟨rfl, hk⟩
    · obtain ⟨t2, a1, b1⟩ := k1 hk q ce T'.heap (locs ++ L) (by rw [e1]; exact hce) hcv hcl (by rw [e1]; exact hP1) hD1 (xc_S h0 e1 hF hS hL) T' rfl X'
      exact ⟨t2, st.trans a1, b1⟩
    · obtain ⟨t2, a1, b1⟩ := k2 hk q ce T'.heap (locs ++ L) (by rw [e1]; exact hce) hcv hcl (by rw [e1]; exact hP1) hD1 (xc_S h0 e1 hF hS hL) T' rfl X'
      exact ⟨t2, st.trans a1, b1⟩
end ELROW
set_option maxHeartbeats 4000000 in
set_option maxRecDepth 100000 in
theorem c_L_element (l : Launch) (g : xG) (σ : xS) (A : Nat → Prop) (hlst : l.stackTraces = false) (ph : Nat) (tk : Int) (hx0 : XObj g σ.1 ph tk) (Kf : Int → Option Nat) (So Sz : Int → Int) (h25 : MRef g σ.1 25 8 Kf) (h26 : MArr g σ.1 26 8 So) (h27 : MArr g σ.1 27 8 Sz) (hxs : XsOk σ Kf So Sz) (El : Int → Int → Int) (h28 : MGrid g σ.1) (hrow : ∀ d : Int, 0 ≤ d → d ≤ 7 → MArr g σ.1 (29 + d.toNat) 100 (El d)) (hEl : ∀ d k : Int, inR (El d k)) (f0 : Nat → Int64) (hO : σ.1 50 = .inl (g.2.1 3, 1, .inr (.inl f0))) (d : Int) (hd : inR d) (i0 : Int) (hi0 : inR i0) : vx_Met l yL_element wsL_element ({ frames := 10, cells := 1, slots := 6, locals := 320 }) (va_Pc [.ref (g.2.2 0), .int (iI d), .int (iI i0), .ref (g.2.2 50)] (xcQ g A σ)) (x_Qi g A (fun r σ1 => σ1.2 = σ.2 ∧ (∀ j, j ≠ 50 → σ1.1 j = σ.1 j) ∧ r = zElT (xKp Kf So) Sz d i0 ∧ ∃ f : Nat → Int64, σ1.1 50 = .inl (g.2.1 3, 1, .inr (.inl f)) ∧ (r = 0 → f 0 = jL (El d i0)))) (fun _ _ _ => False) (1) (6) A := by
  refine vx_ofWH (cc := cL_element) (maxL := 5) (ret := (some .int)) (by decide) rfl ?_
  intro p e s m args below meth c s₁ B hml hv
  obtain ⟨rfl, ⟨hP, hK, hD, hA⟩, hT⟩ := hv
  have hx := B.exec
  have hb := B.bytes
  have hr := B.returns
  have hts := atoms_spec (ws := wsL_element) B.pre
  have hown : s.vm.findClass RL = some m.cls := findClass_of_methodNamed B.named
  have hlocks := B.notSynchronized
  have hS : va_S A s.heap s.heap [] := va_S.rf
  have hl := lv_entry ([.ref (g.2.2 0), .int (iI d), .int (iI i0), .ref (g.2.2 50)]) (n := 5) (Nat.le_of_ble_eq_true rfl)
  rw [lg_entry_eq]
  generalize (lg_sl ([.ref (g.2.2 0), .int (iI d), .int (iI i0), .ref (g.2.2 50)]) ++ List.replicate (5 - (lg_sl ([.ref (g.2.2 0), .int (iI d), .int (iI i0), .ref (g.2.2 50)])).length) Slot.unset).toArray = ls at hl ⊢
  have hl : lv_has ls 5 [(0, .ref (g.2.2 0)), (1, .int (iI d)), (2, .int (iI i0)), (3, .ref (g.2.2 50))] := hl
  have htab : c.exceptionTable.toList = [⟨0, 9, 12, 13⟩, ⟨0, 9, 16, 15⟩] := vx_table (x := yL_element) B (hts (.codeWith yL_element cL_element 5 (some .int) [(0, 9, 12, 13), (0, 9, 16, 15)]) (by decide +kernel))
  refine lv_aload_n hx hb dL_element_0 rfl (lv_at hl 3 rfl) ?_
  refine x_iconst hx hb dL_element_1 ?_
  refine lv_aload_n hx hb dL_element_2 rfl (lv_at hl 0 rfl) ?_
  refine lv_iload_n hx hb dL_element_3 rfl (lv_at hl 1 rfl) ?_
  refine lv_iload_n hx hb dL_element_4 rfl (lv_at hl 2 rfl) ?_
  refine xc_el (vx_runV (As := [.int (iI d), .int (iI i0)]) (rest := [.int (iI 0), .ref (g.2.2 50)]) ⟨hx, hb, hml, hown, hts⟩ (c_X11_element l g σ A hlst ph tk hx0 Kf So Sz h25 h26 h27 hxs El h28 hrow hEl d hd i0 hi0) (cwV 2 hts gL_element_X11_element rfl rfl rfl (by decide +kernel) ⟨Nat.le_of_ble_eq_true rfl, Nat.le_of_ble_eq_true rfl⟩) (xc_preV hK hP hD hS hA hT (x_recv hK hP (i := 0) (by decide) hx0 rfl)) rfl rfl hl.1 rfl (lv_room (Nat.le_of_ble_eq_true rfl)) dL_element_5 ⟨Nat.le_of_ble_eq_true rfl, Nat.le_of_ble_eq_true rfl⟩) hS (fun r σ1 H locs hr1 hpost hP hD hS => ?_) (fun hk q9 ce H locs hce hcv hcl hP hD hS => ?_) (fun hk q9 ce H locs hce hcv hcl hP hD hS => ?_)
  · obtain ⟨e1, hz, hv⟩ := hpost
    rw [e1] at hP hD
    refine va_last (D := g.1) (n := 1) (f := f0) (cA := g.2.1 3) hx hb hK.1 hP hD hS 50 3 (by rw [xW_get (by decide), hO]) rfl (iI_in (by omega) (by omega) (by omega)) dL_element_8 (fun H locs hP hD hS => ?_)
    rw [xW_set (by decide)] at hP hD
    refine lv_goto (tgt := 20) hx hb dL_element_9 (by decide) ?_
    refine x_iconst hx hb dL_element_20 ?_
    refine vx_ret ?_
    refine x_retQ (σ := (va_up σ.1 50 (.inl (g.2.1 3, 1, .inr (.inl (vp_updL f0 (iI 0).toNatClampNeg (jL r))))), σ.2)) hx hb hr (by omega) ⟨rfl, fun j hj => xM_ne (M := σ.1) j hj, hz.symm, vp_updL f0 (iI 0).toNatClampNeg (jL r), (show va_up σ.1 50 (.inl (g.2.1 3, 1, .inr (.inl (vp_updL f0 (iI 0).toNatClampNeg (jL r))))) 50 = .inl (g.2.1 3, 1, .inr (.inl (vp_updL f0 (iI 0).toNatClampNeg (jL r)))) from xM_same), fun _ => ?_⟩ hP hD hS dL_element_21 hlocks
    rw [← hv]
    rfl
  · refine vx_catch (name := nIAE) (E := nIAE) hown [] ⟨0, 9, 12, 13⟩ [⟨0, 9, 16, 15⟩] htab (fun z hz => absurd hz List.not_mem_nil) (by decide) (by decide) (hts (.classLink RL 13 nIAE) (by decide +kernel)) (va_Nw.use rfl hT.2.2.2.2.2.2.2.2.1) hce hcv hcl ?_
    refine lv_astore (lv' := [(4, .ref q9), (0, .ref (g.2.2 0)), (1, .int (iI d)), (2, .int (iI i0)), (3, .ref (g.2.2 50))]) hx hb dL_element_12 hl (by decide) rfl (fun ls hl => ?_)
    refine x_iconst hx hb dL_element_14 ?_
    refine vx_ret ?_
    exact x_retQ (σ := σ) hx hb hr (by omega) ⟨rfl, fun _ _ => rfl, hk.symm, _, hO, fun q => by omega⟩ hP hD hS dL_element_15 hlocks
  · refine vx_catch (name := nISE) (E := nISE) hown [⟨0, 9, 12, 13⟩] ⟨0, 9, 16, 15⟩ [] htab (fun z hz => by (rw [List.mem_singleton] at hz; subst hz; exact Or.inr ⟨by decide, nIAE, hts (.classLink RL 13 nIAE) (by decide +kernel), hT.2.2.2.2.2.2.1⟩)) (by decide) (by decide) (hts (.classLink RL 15 nISE) (by decide +kernel)) (va_Nw.use rfl hT.2.2.2.2.2.2.2.2.2.1) hce hcv hcl ?_
    refine lv_astore (lv' := [(4, .ref q9), (0, .ref (g.2.2 0)), (1, .int (iI d)), (2, .int (iI i0)), (3, .ref (g.2.2 50))]) hx hb dL_element_16 hl (by decide) rfl (fun ls hl => ?_)
    refine x_iconst hx hb dL_element_18 ?_
    refine vx_ret ?_
    exact x_retQ (σ := σ) hx hb hr (by omega) ⟨rfl, fun _ _ => rfl, hk.symm, _, hO, fun q => by omega⟩ hP hD hS dL_element_19 hlocks
