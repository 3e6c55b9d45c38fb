set_option maxHeartbeats 4000000 in
set_option maxRecDepth 100000 in
/-- what the tables say at the law's entry -/
theorem l_known {s : State} {b : Nat} (hts : ∀ w ∈ lw_tbl, w.before #[Value.ref b] s = true) (hgv : (Jvm.Cond.and given_1 narrow_1).before #[Value.ref b] s = true) : ∃ g : xG, xK g s ∧ xNst s ∧ lAO s ∧ xcT (fun q : Nat => s.heap.size ≤ q) s s.heap := by
  have hfl := flat_of_before _ hgv
  obtain ⟨c0, i0, k0⟩ := u_known (C := RX0) (T := TX0) (N := 1) (n := 1) hts inX0 (hts (.instantiable RX0 1) (by decide +kernel))
  obtain ⟨c1, i1, k1⟩ := u_known (C := RX1) (T := TX1) (N := 1) (n := 1) hts inX1 (hts (.instantiable RX1 1) (by decide +kernel))
  obtain ⟨c2, i2, k2⟩ := u_known (C := RX2) (T := TX2) (N := 1) (n := 1) hts inX2 (hts (.instantiable RX2 1) (by decide +kernel))
  obtain ⟨c3, i3, k3⟩ := u_known (C := RX3) (T := TX3) (N := 1) (n := 1) hts inX3 (hts (.instantiable RX3 1) (by decide +kernel))
  obtain ⟨c4, i4, k4⟩ := u_known (C := RX4) (T := TX4) (N := 1) (n := 1) hts inX4 (hts (.instantiable RX4 1) (by decide +kernel))
  obtain ⟨c5, i5, k5⟩ := u_known (C := RX5) (T := TX5) (N := 8) (n := 8) hts inX5 (hts (.instantiable RX5 8) (by decide +kernel))
  obtain ⟨c6, i6, k6⟩ := u_known (C := RX6) (T := TX6) (N := 1) (n := 1) hts inX6 (hts (.instantiable RX6 1) (by decide +kernel))
  obtain ⟨c7, i7, k7⟩ := u_known (C := RX7) (T := TX7) (N := 4) (n := 4) hts inX7 (hts (.instantiable RX7 4) (by decide +kernel))
  obtain ⟨c8, i8, k8⟩ := u_known (C := RX8) (T := TX8) (N := 3) (n := 3) hts inX8 (hts (.instantiable RX8 3) (by decide +kernel))
  obtain ⟨c9, i9, k9⟩ := u_known (C := RX9) (T := TX9) (N := 1) (n := 1) hts inX9 (hts (.instantiable RX9 1) (by decide +kernel))
  obtain ⟨c10, i10, k10⟩ := u_known (C := RX10) (T := TX10) (N := 1) (n := 1) hts inX10 (hts (.instantiable RX10 1) (by decide +kernel))
  obtain ⟨c11, i11, k11⟩ := u_known (C := RX11) (T := TX11) (N := 11) (n := 11) hts inX11 (hts (.instantiable RX11 11) (by decide +kernel))
  obtain ⟨c12, i12, k12⟩ := u_known (C := RX12) (T := TX12) (N := 24) (n := 24) hts inX12 (hts (.instantiable RX12 24) (by decide +kernel))
  obtain ⟨dC, dI, hKc⟩ : ∃ (dC : Nat → ClassId) (dI : Nat → Nat → Nat), ∀ (k : Nat) (q : vw_C), vwCl[k]? = some q → u_Kn s q.1 q.2.1 q.2.2 (dC k) (dI k) := by
    refine ⟨fun k => [c0, c1, c2, c3, c4, c5, c6, c7, c8, c9, c10, c11, c12].getD k c0, fun k => [i0, i1, i2, i3, i4, i5, i6, i7, i8, i9, i10, i11, i12].getD k i0, ?_⟩
    intro k q hq
    match k, hq with
    | 0, hq => cases hq; exact k0
    | 1, hq => cases hq; exact k1
    | 2, hq => cases hq; exact k2
    | 3, hq => cases hq; exact k3
    | 4, hq => cases hq; exact k4
    | 5, hq => cases hq; exact k5
    | 6, hq => cases hq; exact k6
    | 7, hq => cases hq; exact k7
    | 8, hq => cases hq; exact k8
    | 9, hq => cases hq; exact k9
    | 10, hq => cases hq; exact k10
    | 11, hq => cases hq; exact k11
    | 12, hq => cases hq; exact k12
    | k + 13, hq => simp [vwCl] at hq
  obtain ⟨a0, ka0, co0, f0, g0, e0⟩ := Cond.arrayClass_spec (hts (.arrayClass .int) (by decide +kernel))
  obtain ⟨a3, ka3, co3, f3, g3, e3⟩ := Cond.arrayClass_spec (hts (.arrayClass .long) (by decide +kernel))
  obtain ⟨co1, a1, ka1, p1, p2, p3, p4, p5⟩ := Cond.arrayOver_spec (hts (.arrayOver (.object RX3)) (by decide +kernel))
  obtain ⟨co2, a2, ka2, t1, t2, t3, t4, t5⟩ := arrayOverA_spec (hts (.arrayOver (.array .int)) (by decide +kernel))
  have A0 : ArrOfT s a0 .int := fun n z => ⟨fun k h => (by cases h), ka0, g0, co0, e0⟩
  have A3 : ArrOfT s a3 .long := fun n z => ⟨fun k h => (by cases h), ka3, g3, co3, e3⟩
  have A1 : ArrOfT s a1 (.object RX3) := fun n z => ⟨fun k h => (by cases h), ka1, p3, co1, p4⟩
  have A2 : ArrOfT s a2 (.array .int) := fun n z => ⟨fun k h => (by cases h), ka2, t3, co2, t4⟩
  have hK : xK ((dC, dI), (fun k => [a0, a1, a2, a3].getD k a0), (fun _ => 0)) s := by
    refine ⟨⟨hKc, fun k q hq => ?_⟩, fun q hq => ?_, fun w hw => ?_⟩
    · match k, hq with
      | 0, hq => have e := Option.some.inj hq; subst e; exact ⟨A0, f0⟩
      | 1, hq => have e := Option.some.inj hq; subst e; exact ⟨A1, ka1, co1, p3, p4, p1, p5⟩
      | 2, hq => have e := Option.some.inj hq; subst e; exact ⟨A2, t5⟩
      | 3, hq => have e := Option.some.inj hq; subst e; exact ⟨A3, f3⟩
      | k + 4, hq => simp [xtys] at hq
    · exact va_Nw.of rfl (hts _ ((show ∀ q ∈ hSubs, Cond.castable q RX3 ∈ lw_tbl by decide +kernel) q hq))
    · have ho := xWords_ok w hw
      simp only [Bool.and_eq_true] at ho
      exact va_Nw.of ho.1 (hts _ ((show ∀ w ∈ xWords, w ∈ lw_tbl by decide +kernel) w hw))
  have hA : ∀ a : Nat, a < s.heap.size → ¬ (fun q : Nat => s.heap.size ≤ q) a := fun a h => Nat.not_le.mpr h
  have s1 := hts (.stringRef RX11 244 "no such shelf") (by decide +kernel)
  have s2 := hts (.stringRef RX11 251 "no row, or no such place") (by decide +kernel)
  obtain ⟨_, _, _, sa, _, _, _, _, _, ha⟩ := Cond.stringRef_spec k11.2.1 s1
  obtain ⟨_, _, _, sb, _, _, _, _, _, hb⟩ := Cond.stringRef_spec k11.2.1 s2
  exact ⟨_, hK, ⟨va_Nw.of rfl (hts (.methodLinkNest RX8 83 yX11_isHouse "TwiceAsRich") (by decide +kernel)), va_Nw.of rfl (hts (.methodLinkNest RX8 90 yX11_houseOfKind "TwiceAsRich") (by decide +kernel))⟩, ⟨va_AO.of (hts (.arrayOver (.object RX3)) (by decide +kernel)), va_AOA.of (hts (.arrayOver (.array .int)) (by decide +kernel))⟩, vx_Zqof (hts (.laysStatic Bundle.tN "UNASSIGNED_STACK" Bundle.steD) (by decide +kernel)) (hts (.initialized Bundle.tN) (by decide +kernel)) (hfl (.isRef (.static Bundle.tN "UNASSIGNED_STACK" Bundle.steD)) (by decide +kernel)) hA, vx_Zqof (hts (.laysStatic Bundle.tN "SUPPRESSED_SENTINEL" Bundle.listD) (by decide +kernel)) (hts (.initialized Bundle.tN) (by decide +kernel)) (hfl (.isRef (.static Bundle.tN "SUPPRESSED_SENTINEL" Bundle.listD)) (by decide +kernel)) hA, ⟨sa, vk_R.of s1 ha⟩, ⟨sb, vk_R.of s2 hb⟩, va_Nc.of (hfl (.not (.castable nISE nUOE)) (by decide +kernel)), va_Nc.of (hfl (.not (.castable nIAE nUOE)) (by decide +kernel)), va_Nc.of (hfl (.not (.castable nISE nIAE)) (by decide +kernel)), va_Nw.of rfl (hts (.castable nUOE nUOE) (by decide +kernel)), va_Nw.of rfl (hts (.castable nIAE nIAE) (by decide +kernel)), va_Nw.of rfl (hts (.castable nISE nISE) (by decide +kernel)), fun y hy => va_Nw.of rfl (hts _ ((show ∀ y ∈ xcDecl, Cond.declares y ∈ lw_tbl by decide +kernel) y hy))⟩
