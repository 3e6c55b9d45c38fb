theorem zSum_cong (f h : Int → Int) (k : Nat) (e : ∀ i : Int, 0 ≤ i → i < k → f i = h i) : zSum f k = zSum h k := by
  induction k with
  | zero => rfl
  | succ k ih =>
    show zSum f k + f (k : Int) = zSum h k + h (k : Int)
    rw [ih (fun i h1 h2 => e i h1 (by omega)), e k (by omega) (by omega)]
theorem SmOk_adds {S : Int → Int} (h : SmOk S) {k f p : Int} (hn : S 0 ≤ 8) (hk : 0 ≤ k ∧ k < 8) (hf : 0 ≤ f ∧ f ≤ 9) (hp : 0 ≤ p ∧ p ≤ 9999) : SmOk (if S 0 = 8 then S else zJoin S k f p) := by
  split
  · exact h
  · have hn2 := h.2.1
    have e0 : zJoin S k f p 0 = S 0 + 1 := by unfold zJoin; rw [upI_s]
    have eo : ∀ j, j ≠ 0 → j ≠ 2 + 3 * S 0 + 0 → j ≠ 2 + 3 * S 0 + 1 → j ≠ 2 + 3 * S 0 + 2 → zJoin S k f p j = S j := fun j h0 h1 h2 h3 => by unfold zJoin; rw [upI_n h0, upI_n h3, upI_n h2, upI_n h1]
    refine ⟨zJoin_rng h.1 ⟨by omega, by omega⟩ ⟨by omega, by omega⟩ ⟨by omega, by omega⟩ (by omega), by rw [e0]; omega, by rw [eo 1 (by omega) (by omega) (by omega) (by omega)]; exact h.2.2.1, fun i hi hi2 => ?_⟩
    rw [e0] at hi2
    by_cases hs : i < S 0
    · rw [eo _ (by omega) (by omega) (by omega) (by omega), eo _ (by omega) (by omega) (by omega) (by omega), eo _ (by omega) (by omega) (by omega) (by omega)]
      exact h.2.2.2 i hi hs
    · have e : i = S 0 := by omega
      subst e
      unfold zJoin
      rw [upI_n (by omega), upI_n (by omega), upI_n (by omega), upI_s, upI_n (by omega), upI_n (by omega), upI_s, upI_n (by omega), upI_s]
      exact ⟨hk, hf, hp⟩
theorem SmOk_givesIf {S : Int → Int} (h : SmOk S) {a b c : Int} : SmOk (if zGiftR (mP S) (S 0) a b c = 0 then zGives S a b c else S) := by
  split
  · rename_i h0
    have hz := zGiftR_0 rfl h0
    have hg1 : mP S a = S (2 + 3 * a + 2) := rfl
    have hg2 : mP S b = S (2 + 3 * b + 2) := rfl
    have hga := (h.2.2.2 a (by omega) (by omega)).2.2
    exact SmOk_gives h (by omega) (by omega) (by omega) (by omega) (by omega) (by omega) (by omega)
  · exact h
theorem SmOk_agr {S T : Int → Int} (h : SmOk S) (hr : ∀ k, inR (T k)) (ha : ∀ j, 0 ≤ j → j < 29 → T j = S j) : SmOk T := by
  have e0 := ha 0 (by omega) (by omega)
  have hn := h.2.1
  refine ⟨hr, by rw [e0]; exact h.2.1, by rw [ha 1 (by omega) (by omega)]; exact h.2.2.1, fun i hi hi2 => ?_⟩
  rw [e0] at hi2
  rw [ha _ (by omega) (by omega), ha _ (by omega) (by omega), ha _ (by omega) (by omega)]
  exact h.2.2.2 i hi hi2
theorem zCopy_back {S Mi T : Int → Int} : zCopy (zCopy S Mi 29) T 29 = zCopy S T 29 := by
  funext j; unfold zCopy
  by_cases h : 0 ≤ j ∧ j < 29
  · rw [if_pos h, if_pos h, if_pos h]
  · rw [if_neg h, if_neg h]
def zWeeksS (S : Int → Int) (w k : Int) : Int → Int := fun q => if 2 ≤ q ∧ q < 2 + 3 * k ∧ (q - 2) % 3 = 2 then min 9999 (S q + w * zWeek (mK S ((q - 2) / 3)) (mF S ((q - 2) / 3))) else S q
theorem zWeeksS_0 (S : Int → Int) (w : Int) : zWeeksS S w 0 = S := by
  funext q; unfold zWeeksS; rw [if_neg (by omega)]
theorem zWeeksS_hi {S : Int → Int} {w k q : Int} (h : 2 + 3 * k ≤ q ∨ q < 2) : zWeeksS S w k q = S q := by unfold zWeeksS; rw [if_neg (by omega)]
theorem zWeeksS_step {S : Int → Int} {w k : Int} (h : 0 ≤ k) : upI (zWeeksS S w k) (2 + 3 * k + 2) (min 9999 (S (2 + 3 * k + 2) + w * zWeek (mK S k) (mF S k))) = zWeeksS S w (k + 1) := by
  funext q; unfold upI
  by_cases e : q = 2 + 3 * k + 2
  · subst e; rw [if_pos rfl]
    unfold zWeeksS
    rw [if_pos (by omega)]
    have e2 : (2 + 3 * k + 2 - 2) / 3 = k := by omega
    rw [e2]
  · rw [if_neg e]
    unfold zWeeksS
    by_cases h2 : 2 ≤ q ∧ q < 2 + 3 * k ∧ (q - 2) % 3 = 2
    · rw [if_pos h2, if_pos (by omega)]
    · rw [if_neg h2, if_neg (by omega)]
theorem SmOk_weeks {S : Int → Int} (h : SmOk S) {w k : Int} (hw : 1 ≤ w ∧ w ≤ 99) (hk : 0 ≤ k ∧ k ≤ S 0) : SmOk (zWeeksS S w k) := by
  have hn := h.2.1
  have hv : ∀ q, 2 ≤ q ∧ q < 2 + 3 * k ∧ (q - 2) % 3 = 2 → 0 ≤ min 9999 (S q + w * zWeek (mK S ((q - 2) / 3)) (mF S ((q - 2) / 3))) ∧ min 9999 (S q + w * zWeek (mK S ((q - 2) / 3)) (mF S ((q - 2) / 3))) ≤ 9999 := by
    intro q hq
    have hh := h.2.2.2 ((q - 2) / 3) (by omega) (by omega)
    have e : 2 + 3 * ((q - 2) / 3) + 2 = q := by omega
    rw [e] at hh
    have hz := zWeek_rng (mK S ((q - 2) / 3)) (f := mF S ((q - 2) / 3)) hh.2.1
    have hm := zMulB w _ ⟨by omega, by omega⟩ hz
    omega
  have e0 : zWeeksS S w k 0 = S 0 := zWeeksS_hi (by omega)
  refine ⟨fun q => ?_, by rw [e0]; exact h.2.1, by rw [zWeeksS_hi (by omega)]; exact h.2.2.1, fun i hi hi2 => ?_⟩
  · unfold zWeeksS; split
    · rename_i hq
      have := hv q hq
      exact ⟨by omega, by omega⟩
    · exact h.1 q
  · rw [e0] at hi2
    have hh := h.2.2.2 i hi hi2
    have a0 : zWeeksS S w k (2 + 3 * i + 0) = S (2 + 3 * i + 0) := by unfold zWeeksS; rw [if_neg (by omega)]
    have a1 : zWeeksS S w k (2 + 3 * i + 1) = S (2 + 3 * i + 1) := by unfold zWeeksS; rw [if_neg (by omega)]
    rw [a0, a1]
    refine ⟨hh.1, hh.2.1, ?_⟩
    unfold zWeeksS; split
    · rename_i hq; exact hv _ hq
    · exact hh.2.2

set_option maxHeartbeats 4000000 in
set_option maxRecDepth 100000 in
theorem c_X12_lays (l : Launch) (g : xG) (σ : xS) (A : Nat → Prop) (i1 : Nat) (hi1 : i1 < xN) (i2 : Nat) (hi2 : i2 < xN) (hne12 : i1 ≠ i2) (f1 f2 : Int → Int) (ha1 : MArr g σ.1 i1 29 f1) (ha2 : MArr g σ.1 i2 29 f2) : Met l yX12_lays wsX12_lays ({ frames := 1, cells := 0, slots := 0, locals := 32 }) (va_Pc [.ref (g.2.2 (i1)), .ref (g.2.2 (i2))] (xPreQ g A σ)) (x_Qv g A (fun σ1 => σ1.2 = σ.2 ∧ (∀ j, j ≠ i2 → σ1.1 j = σ.1 j) ∧ MArr g σ1.1 i2 29 (zCopy f1 f2 29))) (0) (0) A := by
  refine Met.ofW (cc := cX12_lays) (maxL := 3) (ret := none) (by decide) rfl ?_
  intro p e s m args below meth c s₁ B hml hv
  obtain ⟨rfl, hP, hK, hD, hA⟩ := hv
  have hx := B.exec
  have hb := B.bytes
  have hr := B.returns
  have hts := atoms_spec (ws := wsX12_lays) B.pre
  have hown : s.vm.findClass RX12 = some m.cls := findClass_of_methodNamed B.named
  have hlocks := B.notSynchronized
  have hS : va_S A s.heap s.heap [] := va_S.rf
  have hfr : ∀ j, (j ≠ i2) → σ.1 j = σ.1 j := fun _ _ => rfl
  have hl := lv_entry ([.ref (g.2.2 (i1)), .ref (g.2.2 (i2))]) (n := 3) (Nat.le_of_ble_eq_true rfl)
  rw [lg_entry_eq]
  generalize (lg_sl ([.ref (g.2.2 (i1)), .ref (g.2.2 (i2))]) ++ List.replicate (3 - (lg_sl ([.ref (g.2.2 (i1)), .ref (g.2.2 (i2))])).length) Slot.unset).toArray = ls at hl ⊢
  have hl : lv_has ls 3 [(0, .ref (g.2.2 (i1))), (1, .ref (g.2.2 (i2)))] := hl
  refine x_iconst hx hb dX12_lays_0 ?_
  refine lv_istore_n (lv' := [(2, .int (iI (0))), (0, .ref (g.2.2 (i1))), (1, .ref (g.2.2 (i2)))]) hx hb dX12_lays_1 rfl hl (by decide) rfl (fun ls hl => ?_)
  have hloop_2 : ∀ (k : Nat) (i : Int), ((29 : Int) - i).toNat < k → (hi0 : 0 ≤ i) → (hin : i ≤ 29) → ∀ (M : xM) (H : Heap) (locs : List Loc), (ha1 : M (i1) = .inl (g.2.1 0, 29, .inl (fun k => iI (f1 (k : Int))))) → (ha2 : M (i2) = .inl (g.2.1 0, 29, .inl (fun k => iI (zCopy f1 f2 i (k : Int))))) → (hfr : ∀ j, (j ≠ i2) → M j = σ.1 j) → xP g (M, σ.2) H → xD g A (M, σ.2) → va_S A s.heap H locs → ∀ (ls : Array Slot), lv_has ls 3 [(2, .int (iI (i))), (0, .ref (g.2.2 (i1))), (1, .ref (g.2.2 (i2)))] → W p l e (headSpec wsX12_lays ({ frames := 1, cells := 0, slots := 0, locals := 32 })).room s m ([.ref (g.2.2 (i1)), .ref (g.2.2 (i2))] : List Value).toArray below meth c H locs 0 0 (MQ below (x_Qv g A (fun σ1 => σ1.2 = σ.2 ∧ (∀ j, j ≠ i2 → σ1.1 j = σ.1 j) ∧ MArr g σ1.1 i2 29 (zCopy f1 f2 29))) ([.ref (g.2.2 (i1)), .ref (g.2.2 (i2))] : List Value).toArray s (0) (0) A) (F0 m 2 ls []) := by
    intro k
    induction k with
    | zero =>
      intros; exact absurd (by assumption) (Nat.not_lt_zero _)
    | succ k ih =>
      intro i hmeas hi0 hin M H locs ha1 ha2 hfr hP hD hS ls hl
      have ih_1 := ih
      refine lv_iload_n hx hb dX12_lays_2 rfl (lv_at hl 0 rfl) ?_
      refine x_bipush (n := 29) hx hb (by decide +kernel) dX12_lays_3 ?_
      refine x_icmp_ge (tgt := 20) hx hb (by omega) (by omega) dX12_lays_5 (by decide) (fun c_5 => ?_) (fun c_5 => ?_)
      · refine x_retQv hx hb hr ?_ hP hD hS dX12_lays_20 hlocks
        refine ⟨rfl, hfr, ?_⟩
        have e : i = 29 := by omega
        rw [e] at ha2
        exact ha2
      · refine lv_aload_n hx hb dX12_lays_8 rfl (lv_at hl 2 rfl) ?_
        refine lv_iload_n hx hb dX12_lays_9 rfl (lv_at hl 0 rfl) ?_
        refine lv_aload_n hx hb dX12_lays_10 rfl (lv_at hl 1 rfl) ?_
        refine lv_iload_n hx hb dX12_lays_11 rfl (lv_at hl 0 rfl) ?_
        refine x_iald (f := f1) hx hb hK hP (i1) (by omega) ha1 (by omega) (by omega) (by decide) dX12_lays_12 ?_
        refine x_iast (f := zCopy f1 f2 i) hx hb hK hP hD hS (i2) (by omega) ha2 (by omega) (by omega) (by decide) dX12_lays_13 (fun M_2 H locs hnew hne hP hD hS => ?_)
        obtain ⟨f_3, hf_3⟩ : ∃ q : Int → Int, q = (upI (zCopy f1 f2 i) (i) (f1 (i))) := ⟨_, rfl⟩
        rw [← hf_3] at hnew
        have hP : xP g (M_2, σ.2) H := hP
        have hD : xD g A (M_2, σ.2) := hD
        have ha2 : M_2 (i2) = .inl (g.2.1 0, 29, .inl (fun k => iI (f_3 (k : Int)))) := hnew
        have ha1 := (hne (i1) (by omega)).trans ha1
        have hfr := x_fr (F := fun j => j ≠ i2) hfr hne (fun j h => by have h : j ≠ i2 := h; omega)
        refine x_iinc (k0 := 0) (lv' := [(2, .int (iI (i + 1))), (0, .ref (g.2.2 (i1))), (1, .ref (g.2.2 (i2)))]) hx hb dX12_lays_14 hl rfl (by decide) rfl (fun ls hl => ?_)
        refine lv_goto (tgt := 2) hx hb dX12_lays_17 (by decide) ?_
        have hs : f_3 = zCopy f1 f2 (i + 1) := by rw [hf_3]; exact zCopy_step hi0
        rw [hs] at ha2
        exact ih_1 (i + 1) (by omega) (by omega) (by omega) (M_2) _ _ ha1 ha2 hfr hP hD hS ls (lv_sub hl [0, 1, 2] rfl)
  rw [← zCopy_0 f1 f2] at ha2
  exact hloop_2 ((((29 : Int) - (0)).toNat) + 1) (0) (by omega) (by omega) (by omega) (σ.1) _ _ ha1 ha2 hfr hP hD hS ls (lv_sub hl [0, 1, 2] rfl)

set_option maxHeartbeats 4000000 in
set_option maxRecDepth 100000 in
theorem c_X12_begins (l : Launch) (g : xG) (σ : xS) (A : Nat → Prop) (ov : Nat → Int) (S Mi : Int → Int) (hob : MObj g σ.1 ov) (hs0 : MArr g σ.1 38 29 S) (h41 : MArr g σ.1 41 29 Mi) : Met l yX12_begins wsX12_begins ({ frames := 2, cells := 0, slots := 0, locals := 64 }) (va_Pc [.ref (g.2.2 37)] (xPreQ g A σ)) (x_Qv g A (fun σ1 => σ1.2 = σ.2 ∧ (∀ j, j ≠ 41 → σ1.1 j = σ.1 j) ∧ MArr g σ1.1 41 29 (zCopy S Mi 29))) (0) (0) A := by
  refine Met.ofW (cc := cX12_begins) (maxL := 1) (ret := none) (by decide) rfl ?_
  intro p e s m args below meth c s₁ B hml hv
  obtain ⟨rfl, hP, hK, hD, hA⟩ := hv
  have hx := B.exec
  have hb := B.bytes
  have hr := B.returns
  have hts := atoms_spec (ws := wsX12_begins) B.pre
  have hown : s.vm.findClass RX12 = some m.cls := findClass_of_methodNamed B.named
  have hlocks := B.notSynchronized
  have hS : va_S A s.heap s.heap [] := va_S.rf
  have hfr : ∀ j, (j ≠ 41) → σ.1 j = σ.1 j := fun _ _ => rfl
  have hl := lv_entry ([.ref (g.2.2 37)]) (n := 1) (Nat.le_of_ble_eq_true rfl)
  rw [lg_entry_eq]
  generalize (lg_sl ([.ref (g.2.2 37)]) ++ List.replicate (1 - (lg_sl ([.ref (g.2.2 37)])).length) Slot.unset).toArray = ls at hl ⊢
  have hl : lv_has ls 1 [(0, .ref (g.2.2 37))] := hl
  have hw_0 := hts (.fieldLink RX12 9 "TwiceAsRichModel" "s" "[I") (by decide +kernel)
  have hin_X12 : ∀ w ∈ wsX120, w ∈ wsX12_begins := by decide +kernel
  have hw_2 := hts (.fieldLink RX12 19 "TwiceAsRichModel" "mind" "[I") (by decide +kernel)
  refine lv_aload_n hx hb dX12_begins_0 rfl (lv_at hl 0 rfl) ?_
  refine x_get (C := RX12) (T := TX12) (N := 24) hx hb hts hin_X12 hown hK hP (37) (by decide) hob rfl 0 (by decide) hw_0 (fun _ h9 => h9) rfl dX12_begins_1 ?_
  refine lv_aload_n hx hb dX12_begins_4 rfl (lv_at hl 0 rfl) ?_
  refine x_get (C := RX12) (T := TX12) (N := 24) hx hb hts hin_X12 hown hK hP (37) (by decide) hob rfl 3 (by decide) hw_2 (fun _ h9 => h9) rfl dX12_begins_5 ?_
  refine x_cqv0 (va_runS (As := [.ref (g.2.2 38), .ref (g.2.2 41)]) (rest := []) ⟨hx, hb, hml, hown, hts⟩ (c_X12_lays l g σ A 38 (by decide) 41 (by decide) (by decide) S Mi hs0 h41) (va_cwS 2 hts gX12_begins_X12_lays rfl rfl rfl (by decide +kernel) ⟨Nat.le_of_ble_eq_true rfl, Nat.le_of_ble_eq_true rfl⟩) (x_preSQ hK hP hD hS hA) rfl rfl hl.1 rfl (lv_room (Nat.le_of_ble_eq_true rfl)) dX12_begins_8 ⟨by decide, by decide⟩) hS (fun σ1 H locs hpost hP hD hS => ?_)
  obtain ⟨M_1, p1⟩ := σ1
  obtain ⟨hp0, hfrc, hnew⟩ := hpost
  obtain rfl : p1 = σ.2 := hp0
  have hP : xP g (M_1, σ.2) H := hP
  have hD : xD g A (M_1, σ.2) := hD
  have hob : MObj g M_1 ov := (hfrc (37) (by omega)).trans hob
  have hs0 := (hfrc (38) (by omega)).trans hs0
  have hfr := x_frc (F := fun j => j ≠ 41) hfr hfrc (fun j h => by have h : j ≠ 41 := h; omega)
  obtain ⟨S_2, hS_2⟩ : ∃ q : Int → Int, q = zCopy S Mi 29 := ⟨_, rfl⟩
  have h41 : MArr g M_1 41 29 S_2 := by rw [hS_2]; exact hnew
  refine x_retQv hx hb hr ?_ hP hD hS dX12_begins_11 hlocks
  refine ⟨rfl, hfr, ?_⟩
  subst_vars
  exact h41

set_option maxHeartbeats 4000000 in
set_option maxRecDepth 100000 in
theorem c_X12_ends (l : Launch) (g : xG) (σ : xS) (A : Nat → Prop) (ov : Nat → Int) (S Mi : Int → Int) (hob : MObj g σ.1 ov) (hs0 : MArr g σ.1 38 29 S) (h41 : MArr g σ.1 41 29 Mi) : Met l yX12_ends wsX12_ends ({ frames := 2, cells := 0, slots := 0, locals := 64 }) (va_Pc [.ref (g.2.2 37)] (xPreQ g A σ)) (x_Qv g A (fun σ1 => σ1.2 = σ.2 ∧ (∀ j, j ≠ 38 → σ1.1 j = σ.1 j) ∧ MArr g σ1.1 38 29 (zCopy Mi S 29))) (0) (0) A := by
  refine Met.ofW (cc := cX12_ends) (maxL := 1) (ret := none) (by decide) rfl ?_
  intro p e s m args below meth c s₁ B hml hv
  obtain ⟨rfl, hP, hK, hD, hA⟩ := hv
  have hx := B.exec
  have hb := B.bytes
  have hr := B.returns
  have hts := atoms_spec (ws := wsX12_ends) B.pre
  have hown : s.vm.findClass RX12 = some m.cls := findClass_of_methodNamed B.named
  have hlocks := B.notSynchronized
  have hS : va_S A s.heap s.heap [] := va_S.rf
  have hfr : ∀ j, (j ≠ 38) → σ.1 j = σ.1 j := fun _ _ => rfl
  have hl := lv_entry ([.ref (g.2.2 37)]) (n := 1) (Nat.le_of_ble_eq_true rfl)
  rw [lg_entry_eq]
  generalize (lg_sl ([.ref (g.2.2 37)]) ++ List.replicate (1 - (lg_sl ([.ref (g.2.2 37)])).length) Slot.unset).toArray = ls at hl ⊢
  have hl : lv_has ls 1 [(0, .ref (g.2.2 37))] := hl
  have hw_0 := hts (.fieldLink RX12 19 "TwiceAsRichModel" "mind" "[I") (by decide +kernel)
  have hin_X12 : ∀ w ∈ wsX120, w ∈ wsX12_ends := by decide +kernel
  have hw_2 := hts (.fieldLink RX12 9 "TwiceAsRichModel" "s" "[I") (by decide +kernel)
  refine lv_aload_n hx hb dX12_ends_0 rfl (lv_at hl 0 rfl) ?_
  refine x_get (C := RX12) (T := TX12) (N := 24) hx hb hts hin_X12 hown hK hP (37) (by decide) hob rfl 3 (by decide) hw_0 (fun _ h9 => h9) rfl dX12_ends_1 ?_
  refine lv_aload_n hx hb dX12_ends_4 rfl (lv_at hl 0 rfl) ?_
  refine x_get (C := RX12) (T := TX12) (N := 24) hx hb hts hin_X12 hown hK hP (37) (by decide) hob rfl 0 (by decide) hw_2 (fun _ h9 => h9) rfl dX12_ends_5 ?_
  refine x_cqv0 (va_runS (As := [.ref (g.2.2 41), .ref (g.2.2 38)]) (rest := []) ⟨hx, hb, hml, hown, hts⟩ (c_X12_lays l g σ A 41 (by decide) 38 (by decide) (by decide) Mi S h41 hs0) (va_cwS 2 hts gX12_ends_X12_lays rfl rfl rfl (by decide +kernel) ⟨Nat.le_of_ble_eq_true rfl, Nat.le_of_ble_eq_true rfl⟩) (x_preSQ hK hP hD hS hA) rfl rfl hl.1 rfl (lv_room (Nat.le_of_ble_eq_true rfl)) dX12_ends_8 ⟨by decide, by decide⟩) hS (fun σ1 H locs hpost hP hD hS => ?_)
  obtain ⟨M_1, p1⟩ := σ1
  obtain ⟨hp0, hfrc, hnew⟩ := hpost
  obtain rfl : p1 = σ.2 := hp0
  have hP : xP g (M_1, σ.2) H := hP
  have hD : xD g A (M_1, σ.2) := hD
  have hob : MObj g M_1 ov := (hfrc (37) (by omega)).trans hob
  have h41 := (hfrc (41) (by omega)).trans h41
  have hfr := x_frc (F := fun j => j ≠ 38) hfr hfrc (fun j h => by have h : j ≠ 38 := h; omega)
  obtain ⟨S_2, hS_2⟩ : ∃ q : Int → Int, q = zCopy Mi S 29 := ⟨_, rfl⟩
  have hs0 : MArr g M_1 38 29 S_2 := by rw [hS_2]; exact hnew
  refine x_retQv hx hb hr ?_ hP hD hS dX12_ends_11 hlocks
  refine ⟨rfl, hfr, ?_⟩
  subst_vars
  exact hs0

set_option maxHeartbeats 4000000 in
set_option maxRecDepth 100000 in
theorem c_X12_image (l : Launch) (g : xG) (σ : xS) (A : Nat → Prop) (ov : Nat → Int) (S : Int → Int) (hob : MObj g σ.1 ov) (hs0 : MArr g σ.1 38 29 S) (hok : SmOk S) (Im : Int → Int) (h39 : MArr g σ.1 39 29 Im) : Met l yX12_image wsX12_image ({ frames := 4, cells := 0, slots := 0, locals := 128 }) (va_Pc [.ref (g.2.2 37)] (xPreQ g A σ)) (x_Qi g A (fun r σ1 => σ1.2 = σ.2 ∧ (∀ j, j ≠ 37 ∧ j ≠ 39 → σ1.1 j = σ.1 j) ∧ r = zSum (mP S) (S 0).toNat ∧ (∃ ov2, MObj g σ1.1 ov2 ∧ ov2 10 = 1) ∧ MArr g σ1.1 39 29 (zCopy S Im 29))) (0) (0) A := by
  refine Met.ofW (cc := cX12_image) (maxL := 1) (ret := (some .int)) (by decide) rfl ?_
  intro p e s m args below meth c s₁ B hml hv
  obtain ⟨rfl, hP, hK, hD, hA⟩ := hv
  have hx := B.exec
  have hb := B.bytes
  have hr := B.returns
  have hts := atoms_spec (ws := wsX12_image) B.pre
  have hown : s.vm.findClass RX12 = some m.cls := findClass_of_methodNamed B.named
  have hlocks := B.notSynchronized
  have hS : va_S A s.heap s.heap [] := va_S.rf
  have hfr : ∀ j, (j ≠ 37 ∧ j ≠ 39) → σ.1 j = σ.1 j := fun _ _ => rfl
  have hl := lv_entry ([.ref (g.2.2 37)]) (n := 1) (Nat.le_of_ble_eq_true rfl)
  rw [lg_entry_eq]
  generalize (lg_sl ([.ref (g.2.2 37)]) ++ List.replicate (1 - (lg_sl ([.ref (g.2.2 37)])).length) Slot.unset).toArray = ls at hl ⊢
  have hl : lv_has ls 1 [(0, .ref (g.2.2 37))] := hl
  have hn0 := hok.2.1
  have hrd0 := hok.2.2.1
  have hw_0 := hts (.fieldLink RX12 9 "TwiceAsRichModel" "s" "[I") (by decide +kernel)
  have hin_X12 : ∀ w ∈ wsX120, w ∈ wsX12_image := by decide +kernel
  have hw_2 := hts (.fieldLink RX12 13 "TwiceAsRichModel" "image" "[I") (by decide +kernel)
  have hw_3 := hts (.fieldLink RX12 243 "TwiceAsRichModel" "hasImage" "Z") (by decide +kernel)
  refine lv_aload_n hx hb dX12_image_0 rfl (lv_at hl 0 rfl) ?_
  refine x_get (C := RX12) (T := TX12) (N := 24) hx hb hts hin_X12 hown hK hP (37) (by decide) hob rfl 0 (by decide) hw_0 (fun _ h9 => h9) rfl dX12_image_1 ?_
  refine lv_aload_n hx hb dX12_image_4 rfl (lv_at hl 0 rfl) ?_
  refine x_get (C := RX12) (T := TX12) (N := 24) hx hb hts hin_X12 hown hK hP (37) (by decide) hob rfl 1 (by decide) hw_2 (fun _ h9 => h9) rfl dX12_image_5 ?_
  refine x_cqv0 (va_runS (As := [.ref (g.2.2 38), .ref (g.2.2 39)]) (rest := []) ⟨hx, hb, hml, hown, hts⟩ (c_X12_lays l g σ A 38 (by decide) 39 (by decide) (by decide) S Im hs0 h39) (va_cwS 2 hts gX12_image_X12_lays rfl rfl rfl (by decide +kernel) ⟨Nat.le_of_ble_eq_true rfl, Nat.le_of_ble_eq_true rfl⟩) (x_preSQ hK hP hD hS hA) rfl rfl hl.1 rfl (lv_room (Nat.le_of_ble_eq_true rfl)) dX12_image_8 ⟨by decide, by decide⟩) hS (fun σ1 H locs hpost hP hD hS => ?_)
  obtain ⟨M_1, p1⟩ := σ1
  obtain ⟨hp0, hfrc, hnew⟩ := hpost
  obtain rfl : p1 = σ.2 := hp0
  have hP : xP g (M_1, σ.2) H := hP
  have hD : xD g A (M_1, σ.2) := hD
  have hob : MObj g M_1 ov := (hfrc (37) (by omega)).trans hob
  have hs0 := (hfrc (38) (by omega)).trans hs0
  have hfr := x_frc (F := fun j => j ≠ 37 ∧ j ≠ 39) hfr hfrc (fun j h => by have h : j ≠ 37 ∧ j ≠ 39 := h; omega)
  obtain ⟨S_2, hS_2⟩ : ∃ q : Int → Int, q = zCopy S Im 29 := ⟨_, rfl⟩
  have h39 : MArr g M_1 39 29 S_2 := by rw [hS_2]; exact hnew
  refine lv_aload_n hx hb dX12_image_11 rfl (lv_at hl 0 rfl) ?_
  refine x_iconst hx hb dX12_image_12 ?_
  refine x_put (C := RX12) (T := TX12) (N := 24) (ty := .boolean) hx hb hts hin_X12 hown hK hP hD hS (37) (by decide) hob rfl tyX12 tyX12_ok nmX12 10 (by decide) hw_3 (fun _ h9 => h9) rfl (by decide +kernel) (x_nz (by omega)) rfl (Nat.le_of_ble_eq_true rfl) dX12_image_13 (fun M_3 H locs hnew hne hP hD hS => ?_)
  obtain ⟨ov_4, hov_4⟩ : ∃ q : Nat → Int, q = va_up (ov) 10 (1) := ⟨_, rfl⟩
  have vov_4 : ov_4 10 = 1 := by rw [hov_4]; rfl
  have nov_4 : ∀ j, j ≠ 10 → ov_4 j = ov j := fun j hj => by rw [hov_4]; exact va_up_ne _ _ hj
  have hnew : MObj g M_3 ov_4 := by rw [hov_4]; exact hnew
  have hP : xP g (M_3, σ.2) H := hP
  have hD : xD g A (M_3, σ.2) := hD
  have hob : MObj g M_3 ov_4 := hnew
  have hs0 := (hne (38) (by decide)).trans hs0
  have h39 := (hne (39) (by decide)).trans h39
  have hfr := x_fr (F := fun j => j ≠ 37 ∧ j ≠ 39) hfr hne (fun j h => by have h : j ≠ 37 ∧ j ≠ 39 := h; omega)
  refine lv_aload_n hx hb dX12_image_16 rfl (lv_at hl 0 rfl) ?_
  refine x_ci (va_runV (As := []) (rest := []) ⟨hx, hb, hml, hown, hts⟩ (c_X12_coins l g (M_3, σ.2) (ov_4) S hob hs0 hok ) (cwV 0 hts gX12_image_X12_coins rfl rfl rfl (by decide +kernel) ⟨Nat.le_of_ble_eq_true rfl, Nat.le_of_ble_eq_true rfl⟩) (x_preV hK hP (x_recv hK hP (i := 37) (by decide) hob rfl)) rfl rfl hl.1 rfl (lv_room (Nat.le_of_ble_eq_true rfl)) dX12_image_17 ⟨Nat.le_of_ble_eq_true rfl, Nat.le_of_ble_eq_true rfl⟩) (fun r_17 hr_17 qr_17 => ?_)
  replace qr_17 : r_17 = zSum (mP S) (S 0).toNat ∧ 0 ≤ r_17 ∧ r_17 ≤ 99999 := qr_17
  refine x_retQ hx hb hr (by omega) ?_ hP hD hS dX12_image_20 hlocks
  refine ⟨rfl, hfr, qr_17.1, ⟨_, hob, by assumption⟩, ?_⟩
  subst_vars
  exact h39

set_option maxHeartbeats 4000000 in
set_option maxRecDepth 100000 in
theorem c_X12_restore (l : Launch) (g : xG) (σ : xS) (A : Nat → Prop) (ov : Nat → Int) (S : Int → Int) (hob : MObj g σ.1 ov) (hs0 : MArr g σ.1 38 29 S) (hok : SmOk S) (Im : Int → Int) (h39 : MArr g σ.1 39 29 Im) (hov : ov 10 = 0 ∨ (ov 10 = 1 ∧ SmOk Im)) : Met l yX12_restore wsX12_restore ({ frames := 4, cells := 0, slots := 0, locals := 128 }) (va_Pc [.ref (g.2.2 37)] (xPreQ g A σ)) (x_Qi g A (fun r σ1 => σ1.2 = σ.2 ∧ (∀ j, j ≠ 38 → σ1.1 j = σ.1 j) ∧ ((ov 10 = 0 ∧ r = -3 ∧ MArr g σ1.1 38 29 S) ∨ (ov 10 = 1 ∧ r = zSum (mP Im) (Im 0).toNat ∧ MArr g σ1.1 38 29 (zCopy Im S 29))))) (0) (0) A := by
  refine Met.ofW (cc := cX12_restore) (maxL := 1) (ret := (some .int)) (by decide) rfl ?_
  intro p e s m args below meth c s₁ B hml hv
  obtain ⟨rfl, hP, hK, hD, hA⟩ := hv
  have hx := B.exec
  have hb := B.bytes
  have hr := B.returns
  have hts := atoms_spec (ws := wsX12_restore) B.pre
  have hown : s.vm.findClass RX12 = some m.cls := findClass_of_methodNamed B.named
  have hlocks := B.notSynchronized
  have hS : va_S A s.heap s.heap [] := va_S.rf
  have hfr : ∀ j, (j ≠ 38) → σ.1 j = σ.1 j := fun _ _ => rfl
  have hl := lv_entry ([.ref (g.2.2 37)]) (n := 1) (Nat.le_of_ble_eq_true rfl)
  rw [lg_entry_eq]
  generalize (lg_sl ([.ref (g.2.2 37)]) ++ List.replicate (1 - (lg_sl ([.ref (g.2.2 37)])).length) Slot.unset).toArray = ls at hl ⊢
  have hl : lv_has ls 1 [(0, .ref (g.2.2 37))] := hl
  have hn0 := hok.2.1
  have hrd0 := hok.2.2.1
  have hw_0 := hts (.fieldLink RX12 243 "TwiceAsRichModel" "hasImage" "Z") (by decide +kernel)
  have hin_X12 : ∀ w ∈ wsX120, w ∈ wsX12_restore := by decide +kernel
  have hw_2 := hts (.fieldLink RX12 13 "TwiceAsRichModel" "image" "[I") (by decide +kernel)
  have hw_3 := hts (.fieldLink RX12 9 "TwiceAsRichModel" "s" "[I") (by decide +kernel)
  refine lv_aload_n hx hb dX12_restore_0 rfl (lv_at hl 0 rfl) ?_
  refine x_get (C := RX12) (T := TX12) (N := 24) hx hb hts hin_X12 hown hK hP (37) (by decide) hob rfl 10 (by decide) hw_0 (fun _ h9 => h9) rfl dX12_restore_1 ?_
  refine x_if_ne (tgt := 10) hx hb (by omega) dX12_restore_4 (by decide) (fun c_4 => ?_) (fun c_4 => ?_)
  · refine lv_aload_n hx hb dX12_restore_10 rfl (lv_at hl 0 rfl) ?_
    refine x_get (C := RX12) (T := TX12) (N := 24) hx hb hts hin_X12 hown hK hP (37) (by decide) hob rfl 1 (by decide) hw_2 (fun _ h9 => h9) rfl dX12_restore_11 ?_
    refine lv_aload_n hx hb dX12_restore_14 rfl (lv_at hl 0 rfl) ?_
    refine x_get (C := RX12) (T := TX12) (N := 24) hx hb hts hin_X12 hown hK hP (37) (by decide) hob rfl 0 (by decide) hw_3 (fun _ h9 => h9) rfl dX12_restore_15 ?_
    refine x_cqv0 (va_runS (As := [.ref (g.2.2 39), .ref (g.2.2 38)]) (rest := []) ⟨hx, hb, hml, hown, hts⟩ (c_X12_lays l g σ A 39 (by decide) 38 (by decide) (by decide) Im S h39 hs0) (va_cwS 2 hts gX12_restore_X12_lays rfl rfl rfl (by decide +kernel) ⟨Nat.le_of_ble_eq_true rfl, Nat.le_of_ble_eq_true rfl⟩) (x_preSQ hK hP hD hS hA) rfl rfl hl.1 rfl (lv_room (Nat.le_of_ble_eq_true rfl)) dX12_restore_18 ⟨by decide, by decide⟩) hS (fun σ1 H locs hpost hP hD hS => ?_)
    obtain ⟨M_1, p1⟩ := σ1
    obtain ⟨hp0, hfrc, hnew⟩ := hpost
    obtain rfl : p1 = σ.2 := hp0
    have hP : xP g (M_1, σ.2) H := hP
    have hD : xD g A (M_1, σ.2) := hD
    have hob : MObj g M_1 ov := (hfrc (37) (by omega)).trans hob
    have h39 := (hfrc (39) (by omega)).trans h39
    have hfr := x_frc (F := fun j => j ≠ 38) hfr hfrc (fun j h => by have h : j ≠ 38 := h; omega)
    obtain ⟨S_2, hS_2⟩ : ∃ q : Int → Int, q = zCopy Im S 29 := ⟨_, rfl⟩
    have hs0 : MArr g M_1 38 29 S_2 := by rw [hS_2]; exact hnew
    refine lv_aload_n hx hb dX12_restore_21 rfl (lv_at hl 0 rfl) ?_
    have hoI : SmOk Im := by rcases hov with h | h; exact absurd h (by omega); exact h.2
    have hoS : SmOk S_2 := by rw [hS_2]; exact SmOk_agr hoI (zCopy_rng hoI.1 hok.1) (fun j h1 h2 => zCopy_in h1 h2)
    refine x_ci (va_runV (As := []) (rest := []) ⟨hx, hb, hml, hown, hts⟩ (c_X12_coins l g (M_1, σ.2) (ov) S_2 hob hs0 hoS ) (cwV 0 hts gX12_restore_X12_coins rfl rfl rfl (by decide +kernel) ⟨Nat.le_of_ble_eq_true rfl, Nat.le_of_ble_eq_true rfl⟩) (x_preV hK hP (x_recv hK hP (i := 37) (by decide) hob rfl)) rfl rfl hl.1 rfl (lv_room (Nat.le_of_ble_eq_true rfl)) dX12_restore_22 ⟨Nat.le_of_ble_eq_true rfl, Nat.le_of_ble_eq_true rfl⟩) (fun r_22 hr_22 qr_22 => ?_)
    replace qr_22 : r_22 = zSum (mP S_2) (S_2 0).toNat ∧ 0 ≤ r_22 ∧ r_22 ≤ 99999 := qr_22
    refine x_retQ hx hb hr (by omega) ?_ hP hD hS dX12_restore_25 hlocks
    refine ⟨rfl, hfr, ?_⟩
    right; refine ⟨by omega, ?_, by subst_vars; exact hs0⟩
    rw [qr_22.1]
    have e0 : S_2 0 = Im 0 := by rw [hS_2]; exact zCopy_in (by omega) (by omega)
    rw [e0]; exact zSum_cong _ _ _ (fun i h1 h2 => by unfold mP; rw [hS_2]; have hIm := (show SmOk Im by rcases hov with h | h; exact absurd h (by omega); exact h.2).2.1; exact zCopy_in (by omega) (by omega))
  · refine x_bipush (n := -3) hx hb (by decide +kernel) dX12_restore_7 ?_
    refine x_retQ hx hb hr (by omega) ?_ hP hD hS dX12_restore_9 hlocks
    refine ⟨rfl, hfr, ?_⟩
    left; exact ⟨by omega, rfl, hs0⟩
