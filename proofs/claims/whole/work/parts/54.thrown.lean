set_option maxHeartbeats 4000000 in
set_option maxRecDepth 100000 in
theorem c_X12_thrown (l : Launch) (g : xG) (σ : xS) (ov : Nat → Int) (hob : MObj g σ.1 ov) (ho : inR (ov 11)) : Met l yX12_thrown wsX12_thrown ({ frames := 1, cells := 0, slots := 0, locals := 32 }) (va_Pc [.ref (g.2.2 37)] (xPre g σ)) (x_Si (fun r => r = ov 11)) (0) (0) (fun _ => False) := by
  refine Met.ofW (cc := cX12_thrown) (maxL := 1) (ret := (some .int)) (by decide) rfl ?_
  intro p e s m args below meth c s₁ B hml hv
  obtain ⟨rfl, hP, hK⟩ := hv
  have hx := B.exec
  have hb := B.bytes
  have hr := B.returns
  have hts := atoms_spec (ws := wsX12_thrown) B.pre
  have hown : s.vm.findClass RX12 = some m.cls := findClass_of_methodNamed B.named
  have hlocks := B.notSynchronized
  have hl := lv_entry ([.ref (g.2.2 37)]) (n := 1) (Nat.le_of_ble_eq_true rfl)
  rw [lg_entry_eq]
  generalize (lg_sl ([.ref (g.2.2 37)]) ++ List.replicate (1 - (lg_sl ([.ref (g.2.2 37)])).length) Slot.unset).toArray = ls at hl ⊢
  have hl : lv_has ls 1 [(0, .ref (g.2.2 37))] := hl
  have hin_X12 : ∀ w ∈ wsX120, w ∈ wsX12_thrown := by decide +kernel
  have hw_0 := hts (.fieldLink RX12 46 "TwiceAsRichModel" "thrown" "I") (by decide +kernel)
  refine lv_aload_n hx hb dX12_thrown_0 rfl (lv_at hl 0 rfl) ?_
  refine x_get (C := RX12) (T := TX12) (N := 24) hx hb hts hin_X12 hown hK hP (37) (by decide) hob rfl 11 (by decide) hw_0 (fun _ h9 => h9) rfl dX12_thrown_1 ?_
  exact x_retP hx hb hr ho rfl dX12_thrown_4 hlocks
theorem st_element {g : xG} {σ σ1 σ2 : xS} {ph : Nat} {tk n rd : Int} {P : Int → Int} {G : Int → Option Nat} {ni ri : Int} {Pi : Int → Int} {Gi Kf : Int → Option Nat} {So Sz : Int → Int} {El : Int → Int → Int} {ov : Nat → Int} {S Im Kp So2 Sz2 El2 KK KF : Int → Int} {d i0 r1 r2 : Int} {f : Nat → Int64} {ov2 : Nat → Int} (hX : LX g σ ph tk n rd P G ni ri Pi Gi Kf So Sz El) (hM : LM g σ.1 ov S Im Kp So2 Sz2 El2 KK KF) (hR : LR σ ph tk n rd P G ni ri Pi Gi Kf So Sz El ov S Im Kp So2 Sz2 El2 KK KF) (a1 : σ1.2 = σ.2) (a2 : ∀ j, j ≠ 50 → σ1.1 j = σ.1 j) (a3 : r1 = zElT (xKp Kf So) Sz d i0) (hf : σ1.1 50 = .inl (g.2.1 3, 1, .inr (.inl f))) (a4 : r1 = 0 → f 0 = jL (El d i0)) (b1 : σ2.2 = σ1.2) (b2 : ∀ j, j ≠ 37 → σ2.1 j = σ1.1 j) (b3 : MObj g σ2.1 ov2) (b4 : ov2 10 = ov 10) (b5 : ov2 11 = zElT Kp Sz2 d i0) (b6 : zElT Kp Sz2 d i0 = 0 → r2 = El2 (100 * d + i0)) : r1 = ov2 11 ∧ (r1 = 0 → f 0 = jL r2) ∧ LI g σ2 := by
  have hs := hR.2.2.2
  have shk := hM.2.2.2.2.2.2.1
  rw [zShs_el hs] at a3
  refine ⟨a3.trans b5.symm, fun q => ?_, ?_⟩
  · rw [a4 q, b6 (a3.symm.trans q)]
    have q2 : zElT Kp Sz2 d i0 = 0 := a3.symm.trans q
    have z : (0 ≤ d ∧ d ≤ 7) ∧ Kp d = 2 ∧ 0 ≤ i0 ∧ i0 < Sz2 d := by
      unfold zElT at q2
      by_cases x1 : ¬ (0 ≤ d ∧ d ≤ 7)
      · rw [if_pos x1] at q2; omega
      · rw [if_neg x1] at q2
        by_cases x2 : Kp d ≠ 2 ∨ ¬ (0 ≤ i0 ∧ i0 < Sz2 d)
        · rw [if_pos x2] at q2; omega
        · omega
    obtain ⟨z1, z2, z3, z4⟩ := z
    have sz : Sz2 d ≤ 100 := by
      rcases shk.2.2.2.2.2.2 d z1.1 z1.2 with y | ⟨y, _⟩ | ⟨_, _, y⟩
      · omega
      · omega
      · exact y.2
    rw [((hs d z1.1 z1.2).2.2 z2).2.2 i0 z3 (by omega)]
  · have hX1 := (hX.fr a1 (fun j hj => a2 j (by omega)))
    have hM1 := hM.fr (M1 := σ1.1) (fun j hj => a2 j (by omega))
    have hR1 := hR.grow hX (xGrow.rf (b1.trans a1))
    obtain ⟨m1, m2, m4, ⟨Rd, m6⟩, ⟨Mi, m7⟩, ⟨c1, c2, c3, c4, c5, c6⟩, m8, ⟨Nm, m9, m10⟩, Wz, m11⟩ := hM1
    exact ⟨ph, tk, n, rd, P, G, ni, ri, Pi, Gi, Kf, So, Sz, El, ov2, S, Im, Kp, So2, Sz2, El2, KK, KF, hX1.fr b1 (fun j hj => b2 j (by omega)), ⟨b3, ⟨(b2 38 (by omega)).trans m2.1, m2.2⟩, ⟨(b2 39 (by omega)).trans m4.1, m4.2⟩, ⟨Rd, (b2 40 (by omega)).trans m6⟩, ⟨Mi, (b2 41 (by omega)).trans m7⟩, ⟨(b2 42 (by omega)).trans c1, (b2 43 (by omega)).trans c2, (b2 44 (by omega)).trans c3, (b2 45 (by omega)).trans c4, (b2 46 (by omega)).trans c5, (b2 47 (by omega)).trans c6⟩, m8, ⟨Nm, (b2 48 (by omega)).trans m9, m10⟩, Wz, (b2 49 (by omega)).trans m11⟩, ⟨f, (b2 50 (by omega)).trans hf⟩, ⟨hR1.1, b4.trans hR1.2.1, hR1.2.2⟩⟩
