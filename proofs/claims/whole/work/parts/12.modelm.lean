theorem zSum_cong (f h : Int → Int) (k : Nat) (e : ∀ i : Int, 0 ≤ i → i < k → f i = h i) : zSum f k = zSum h k := by
  induction k with
  | zero => rfl
  | succ k ih =>
    show zSum f k + f (k : Int) = zSum h k + h (k : Int)
    rw [ih (fun i h1 h2 => e i h1 (by omega)), e k (by omega) (by omega)]
theorem SmOk_adds {S : Int → Int} (h : SmOk S) {k f p : Int} (hn : S 0 ≤ 8) (hk : 0 ≤ k ∧ k < 8) (hf : 0 ≤ f ∧ f ≤ 9) (hp : 0 ≤ p ∧ p ≤ 9999) : SmOk (if S 0 = 8 then S else zJoin S k f p) := by
  split
  · exact h
  · have hn2 := h.2.1
    have e0 : zJoin S k f p 0 = S 0 + 1 := by unfold zJoin; rw [upI_s]
    have eo : ∀ j, j ≠ 0 → j ≠ 2 + 3 * S 0 + 0 → j ≠ 2 + 3 * S 0 + 1 → j ≠ 2 + 3 * S 0 + 2 → zJoin S k f p j = S j := fun j h0 h1 h2 h3 => by unfold zJoin; rw [upI_n h0, upI_n h3, upI_n h2, upI_n h1]
    refine ⟨zJoin_rng h.1 ⟨by omega, by omega⟩ ⟨by omega, by omega⟩ ⟨by omega, by omega⟩ (by omega), by rw [e0]; omega, by rw [eo 1 (by omega) (by omega) (by omega) (by omega)]; exact h.2.2.1, fun i hi hi2 => ?_⟩
    rw [e0] at hi2
    by_cases hs : i < S 0
    · rw [eo _ (by omega) (by omega) (by omega) (by omega), eo _ (by omega) (by omega) (by omega) (by omega), eo _ (by omega) (by omega) (by omega) (by omega)]
      exact h.2.2.2 i hi hs
    · have e : i = S 0 := by omega
      subst e
      unfold zJoin
      rw [upI_n (by omega), upI_n (by omega), upI_n (by omega), upI_s, upI_n (by omega), upI_n (by omega), upI_s, upI_n (by omega), upI_s]
      exact ⟨hk, hf, hp⟩
theorem SmOk_givesIf {S : Int → Int} (h : SmOk S) {a b c : Int} : SmOk (if zGiftR (mP S) (S 0) a b c = 0 then zGives S a b c else S) := by
  split
  · rename_i h0
    have hz := zGiftR_0 rfl h0
    have hg1 : mP S a = S (2 + 3 * a + 2) := rfl
    have hg2 : mP S b = S (2 + 3 * b + 2) := rfl
    have hga := (h.2.2.2 a (by omega) (by omega)).2.2
    exact SmOk_gives h (by omega) (by omega) (by omega) (by omega) (by omega) (by omega) (by omega)
  · exact h
theorem SmOk_agr {S T : Int → Int} (h : SmOk S) (hr : ∀ k, inR (T k)) (ha : ∀ j, 0 ≤ j → j < 29 → T j = S j) : SmOk T := by
  have e0 := ha 0 (by omega) (by omega)
  have hn := h.2.1
  refine ⟨hr, by rw [e0]; exact h.2.1, by rw [ha 1 (by omega) (by omega)]; exact h.2.2.1, fun i hi hi2 => ?_⟩
  rw [e0] at hi2
  rw [ha _ (by omega) (by omega), ha _ (by omega) (by omega), ha _ (by omega) (by omega)]
  exact h.2.2.2 i hi hi2
theorem zCopy_back {S Mi T : Int → Int} : zCopy (zCopy S Mi 29) T 29 = zCopy S T 29 := by
  funext j; unfold zCopy
  by_cases h : 0 ≤ j ∧ j < 29
  · rw [if_pos h, if_pos h, if_pos h]
  · rw [if_neg h, if_neg h]
def zComesR (Kp : Int → Int) (n d pu : Int) : Int := if ¬ (0 ≤ pu ∧ pu ≤ 9999) then -1 else if zKeptR Kp d ≠ 0 then zKeptR Kp d else if n = 8 then -2 else n
theorem zKeptR_rng (Kp : Int → Int) (d : Int) : -12 ≤ zKeptR Kp d ∧ zKeptR Kp d ≤ 0 := by
  unfold zKeptR; repeat' split
  all_goals omega
def zKeepOk (d wh k f : Int) : Prop := (0 ≤ d ∧ d ≤ 7) ∧ (wh = 0 ∨ (wh = 1 ∧ (0 ≤ k ∧ k ≤ 7) ∧ (0 ≤ f ∧ f ≤ 9)))
def zRowMk (d o n : Int) : Int := if ¬ (0 ≤ d ∧ d ≤ 7) ∨ ¬ (0 ≤ o ∧ o ≤ 2) ∨ 100 < n then -1 else if n < 0 then -14 else 0
def zPutR (Kp So Sz : Int → Int) (d i : Int) : Int := if zRowR Kp So d (-1) ≠ 0 then zRowR Kp So d (-1) else if ¬ (0 ≤ i ∧ i < Sz d) then -13 else 0
def zWeeksS (S : Int → Int) (w k : Int) : Int → Int := fun q => if 2 ≤ q ∧ q < 2 + 3 * k ∧ (q - 2) % 3 = 2 then min 9999 (S q + w * zWeek (mK S ((q - 2) / 3)) (mF S ((q - 2) / 3))) else S q
theorem zWeeksS_0 (S : Int → Int) (w : Int) : zWeeksS S w 0 = S := by
  funext q; unfold zWeeksS; rw [if_neg (by omega)]
theorem zWeeksS_hi {S : Int → Int} {w k q : Int} (h : 2 + 3 * k ≤ q ∨ q < 2) : zWeeksS S w k q = S q := by unfold zWeeksS; rw [if_neg (by omega)]
theorem zWeeksS_step {S : Int → Int} {w k : Int} (h : 0 ≤ k) : upI (zWeeksS S w k) (2 + 3 * k + 2) (min 9999 (S (2 + 3 * k + 2) + w * zWeek (mK S k) (mF S k))) = zWeeksS S w (k + 1) := by
  funext q; unfold upI
  by_cases e : q = 2 + 3 * k + 2
  · subst e; rw [if_pos rfl]
    unfold zWeeksS
    rw [if_pos (by omega)]
    have e2 : (2 + 3 * k + 2 - 2) / 3 = k := by omega
    rw [e2]
  · rw [if_neg e]
    unfold zWeeksS
    by_cases h2 : 2 ≤ q ∧ q < 2 + 3 * k ∧ (q - 2) % 3 = 2
    · rw [if_pos h2, if_pos (by omega)]
    · rw [if_neg h2, if_neg (by omega)]
theorem SmOk_weeks {S : Int → Int} (h : SmOk S) {w k : Int} (hw : 1 ≤ w ∧ w ≤ 99) (hk : 0 ≤ k ∧ k ≤ S 0) : SmOk (zWeeksS S w k) := by
  have hn := h.2.1
  have hv : ∀ q, 2 ≤ q ∧ q < 2 + 3 * k ∧ (q - 2) % 3 = 2 → 0 ≤ min 9999 (S q + w * zWeek (mK S ((q - 2) / 3)) (mF S ((q - 2) / 3))) ∧ min 9999 (S q + w * zWeek (mK S ((q - 2) / 3)) (mF S ((q - 2) / 3))) ≤ 9999 := by
    intro q hq
    have hh := h.2.2.2 ((q - 2) / 3) (by omega) (by omega)
    have e : 2 + 3 * ((q - 2) / 3) + 2 = q := by omega
    rw [e] at hh
    have hz := zWeek_rng (mK S ((q - 2) / 3)) (f := mF S ((q - 2) / 3)) hh.2.1
    have hm := zMulB w _ ⟨by omega, by omega⟩ hz
    omega
  have e0 : zWeeksS S w k 0 = S 0 := zWeeksS_hi (by omega)
  refine ⟨fun q => ?_, by rw [e0]; exact h.2.1, by rw [zWeeksS_hi (by omega)]; exact h.2.2.1, fun i hi hi2 => ?_⟩
  · unfold zWeeksS; split
    · rename_i hq
      have := hv q hq
      exact ⟨by omega, by omega⟩
    · exact h.1 q
  · rw [e0] at hi2
    have hh := h.2.2.2 i hi hi2
    have a0 : zWeeksS S w k (2 + 3 * i + 0) = S (2 + 3 * i + 0) := by unfold zWeeksS; rw [if_neg (by omega)]
    have a1 : zWeeksS S w k (2 + 3 * i + 1) = S (2 + 3 * i + 1) := by unfold zWeeksS; rw [if_neg (by omega)]
    rw [a0, a1]
    refine ⟨hh.1, hh.2.1, ?_⟩
    unfold zWeeksS; split
    · rename_i hq; exact hv _ hq
    · exact hh.2.2

set_option maxHeartbeats 4000000 in
set_option maxRecDepth 100000 in
theorem c_X12_lays (l : Launch) (g : xG) (σ : xS) (A : Nat → Prop) (i1 : Nat) (hi1 : i1 < xN) (i2 : Nat) (hi2 : i2 < xN) (hne12 : i1 ≠ i2) (f1 f2 : Int → Int) (ha1 : MArr g σ.1 i1 29 f1) (ha2 : MArr g σ.1 i2 29 f2) : Met l yX12_lays wsX12_lays ({ frames := 1, cells := 0, slots := 0, locals := 32 }) (va_Pc [.ref (g.2.2 (i1)), .ref (g.2.2 (i2))] (xPreQ g A σ)) (x_Qv g A (fun σ1 => σ1.2 = σ.2 ∧ (∀ j, j ≠ i2 → σ1.1 j = σ.1 j) ∧ MArr g σ1.1 i2 29 (zCopy f1 f2 29))) (0) (0) A := by
  refine Met.ofW (cc := cX12_lays) (maxL := 3) (ret := none) (by decide) rfl ?_
  intro p e s m args below meth c s₁ B hml hv
  obtain ⟨rfl, hP, hK, hD, hA⟩ := hv
  have hx := B.exec
  have hb := B.bytes
  have hr := B.returns
  have hts := atoms_spec (ws := wsX12_lays) B.pre
  have hown : s.vm.findClass RX12 = some m.cls := findClass_of_methodNamed B.named
  have hlocks := B.notSynchronized
  have hS : va_S A s.heap s.heap [] := va_S.rf
  have hfr : ∀ j, (j ≠ i2) → σ.1 j = σ.1 j := fun _ _ => rfl
  have hl := lv_entry ([.ref (g.2.2 (i1)), .ref (g.2.2 (i2))]) (n := 3) (Nat.le_of_ble_eq_true rfl)
  rw [lg_entry_eq]
  generalize (lg_sl ([.ref (g.2.2 (i1)), .ref (g.2.2 (i2))]) ++ List.replicate (3 - (lg_sl ([.ref (g.2.2 (i1)), .ref (g.2.2 (i2))])).length) Slot.unset).toArray = ls at hl ⊢
  have hl : lv_has ls 3 [(0, .ref (g.2.2 (i1))), (1, .ref (g.2.2 (i2)))] := hl
  refine x_iconst hx hb dX12_lays_0 ?_
  refine lv_istore_n (lv' := [(2, .int (iI (0))), (0, .ref (g.2.2 (i1))), (1, .ref (g.2.2 (i2)))]) hx hb dX12_lays_1 rfl hl (by decide) rfl (fun ls hl => ?_)
  have hloop_2 : ∀ (k : Nat) (i : Int), ((29 : Int) - i).toNat < k → (hi0 : 0 ≤ i) → (hin : i ≤ 29) → ∀ (M : xM) (H : Heap) (locs : List Loc), (ha1 : M (i1) = .inl (g.2.1 0, 29, .inl (fun k => iI (f1 (k : Int))))) → (ha2 : M (i2) = .inl (g.2.1 0, 29, .inl (fun k => iI (zCopy f1 f2 i (k : Int))))) → (hfr : ∀ j, (j ≠ i2) → M j = σ.1 j) → xP g (M, σ.2) H → xD g A (M, σ.2) → va_S A s.heap H locs → ∀ (ls : Array Slot), lv_has ls 3 [(2, .int (iI (i))), (0, .ref (g.2.2 (i1))), (1, .ref (g.2.2 (i2)))] → W p l e (headSpec wsX12_lays ({ frames := 1, cells := 0, slots := 0, locals := 32 })).room s m ([.ref (g.2.2 (i1)), .ref (g.2.2 (i2))] : List Value).toArray below meth c H locs 0 0 (MQ below (x_Qv g A (fun σ1 => σ1.2 = σ.2 ∧ (∀ j, j ≠ i2 → σ1.1 j = σ.1 j) ∧ MArr g σ1.1 i2 29 (zCopy f1 f2 29))) ([.ref (g.2.2 (i1)), .ref (g.2.2 (i2))] : List Value).toArray s (0) (0) A) (F0 m 2 ls []) := by
    intro k
    induction k with
    | zero =>
      intros; exact absurd (by assumption) (Nat.not_lt_zero _)
    | succ k ih =>
      intro i hmeas hi0 hin M H locs ha1 ha2 hfr hP hD hS ls hl
      have ih_1 := ih
      refine lv_iload_n hx hb dX12_lays_2 rfl (lv_at hl 0 rfl) ?_
      refine x_bipush (n := 29) hx hb (by decide +kernel) dX12_lays_3 ?_
      refine x_icmp_ge (tgt := 20) hx hb (by omega) (by omega) dX12_lays_5 (by decide) (fun c_5 => ?_) (fun c_5 => ?_)
      · refine x_retQv hx hb hr ?_ hP hD hS dX12_lays_20 hlocks
        refine ⟨rfl, hfr, ?_⟩
        have e : i = 29 := by omega
        rw [e] at ha2
        exact ha2
      · refine lv_aload_n hx hb dX12_lays_8 rfl (lv_at hl 2 rfl) ?_
        refine lv_iload_n hx hb dX12_lays_9 rfl (lv_at hl 0 rfl) ?_
        refine lv_aload_n hx hb dX12_lays_10 rfl (lv_at hl 1 rfl) ?_
        refine lv_iload_n hx hb dX12_lays_11 rfl (lv_at hl 0 rfl) ?_
        refine x_iald (f := f1) hx hb hK hP (i1) (by omega) ha1 (by omega) (by omega) (by decide) dX12_lays_12 ?_
        refine x_iast (f := zCopy f1 f2 i) hx hb hK hP hD hS (i2) (by omega) ha2 (by omega) (by omega) (by decide) dX12_lays_13 (fun M_2 H locs hnew hne hP hD hS => ?_)
        obtain ⟨f_3, hf_3⟩ : ∃ q : Int → Int, q = (upI (zCopy f1 f2 i) (i) (f1 (i))) := ⟨_, rfl⟩
        rw [← hf_3] at hnew
        have hP : xP g (M_2, σ.2) H := hP
        have hD : xD g A (M_2, σ.2) := hD
        have ha2 : M_2 (i2) = .inl (g.2.1 0, 29, .inl (fun k => iI (f_3 (k : Int)))) := hnew
        have ha1 := (hne (i1) (by omega)).trans ha1
        have hfr := x_fr (F := fun j => j ≠ i2) hfr hne (fun j h => by have h : j ≠ i2 := h; omega)
        refine x_iinc (k0 := 0) (lv' := [(2, .int (iI (i + 1))), (0, .ref (g.2.2 (i1))), (1, .ref (g.2.2 (i2)))]) hx hb dX12_lays_14 hl rfl (by decide) rfl (fun ls hl => ?_)
        refine lv_goto (tgt := 2) hx hb dX12_lays_17 (by decide) ?_
        have hs : f_3 = zCopy f1 f2 (i + 1) := by rw [hf_3]; exact zCopy_step hi0
        rw [hs] at ha2
        exact ih_1 (i + 1) (by omega) (by omega) (by omega) (M_2) _ _ ha1 ha2 hfr hP hD hS ls (lv_sub hl [0, 1, 2] rfl)
  rw [← zCopy_0 f1 f2] at ha2
  exact hloop_2 ((((29 : Int) - (0)).toNat) + 1) (0) (by omega) (by omega) (by omega) (σ.1) _ _ ha1 ha2 hfr hP hD hS ls (lv_sub hl [0, 1, 2] rfl)

set_option maxHeartbeats 4000000 in
set_option maxRecDepth 100000 in
theorem c_X12_begins (l : Launch) (g : xG) (σ : xS) (A : Nat → Prop) (ov : Nat → Int) (S Mi : Int → Int) (hob : MObj g σ.1 ov) (hs0 : MArr g σ.1 38 29 S) (h41 : MArr g σ.1 41 29 Mi) : Met l yX12_begins wsX12_begins ({ frames := 2, cells := 0, slots := 0, locals := 64 }) (va_Pc [.ref (g.2.2 37)] (xPreQ g A σ)) (x_Qv g A (fun σ1 => σ1.2 = σ.2 ∧ (∀ j, j ≠ 41 → σ1.1 j = σ.1 j) ∧ MArr g σ1.1 41 29 (zCopy S Mi 29))) (0) (0) A := by
  refine Met.ofW (cc := cX12_begins) (maxL := 1) (ret := none) (by decide) rfl ?_
  intro p e s m args below meth c s₁ B hml hv
  obtain ⟨rfl, hP, hK, hD, hA⟩ := hv
  have hx := B.exec
  have hb := B.bytes
  have hr := B.returns
  have hts := atoms_spec (ws := wsX12_begins) B.pre
  have hown : s.vm.findClass RX12 = some m.cls := findClass_of_methodNamed B.named
  have hlocks := B.notSynchronized
  have hS : va_S A s.heap s.heap [] := va_S.rf
  have hfr : ∀ j, (j ≠ 41) → σ.1 j = σ.1 j := fun _ _ => rfl
  have hl := lv_entry ([.ref (g.2.2 37)]) (n := 1) (Nat.le_of_ble_eq_true rfl)
  rw [lg_entry_eq]
  generalize (lg_sl ([.ref (g.2.2 37)]) ++ List.replicate (1 - (lg_sl ([.ref (g.2.2 37)])).length) Slot.unset).toArray = ls at hl ⊢
  have hl : lv_has ls 1 [(0, .ref (g.2.2 37))] := hl
  have hw_0 := hts (.fieldLink RX12 9 "TwiceAsRichModel" "s" "[I") (by decide +kernel)
  have hin_X12 : ∀ w ∈ wsX120, w ∈ wsX12_begins := by decide +kernel
  have hw_2 := hts (.fieldLink RX12 19 "TwiceAsRichModel" "mind" "[I") (by decide +kernel)
  refine lv_aload_n hx hb dX12_begins_0 rfl (lv_at hl 0 rfl) ?_
  refine x_get (C := RX12) (T := TX12) (N := 24) hx hb hts hin_X12 hown hK hP (37) (by decide) hob rfl 0 (by decide) hw_0 (fun _ h9 => h9) rfl dX12_begins_1 ?_
  refine lv_aload_n hx hb dX12_begins_4 rfl (lv_at hl 0 rfl) ?_
  refine x_get (C := RX12) (T := TX12) (N := 24) hx hb hts hin_X12 hown hK hP (37) (by decide) hob rfl 3 (by decide) hw_2 (fun _ h9 => h9) rfl dX12_begins_5 ?_
  refine x_cqv0 (va_runS (As := [.ref (g.2.2 38), .ref (g.2.2 41)]) (rest := []) ⟨hx, hb, hml, hown, hts⟩ (c_X12_lays l g σ A 38 (by decide) 41 (by decide) (by decide) S Mi hs0 h41) (va_cwS 2 hts gX12_begins_X12_lays rfl rfl rfl (by decide +kernel) ⟨Nat.le_of_ble_eq_true rfl, Nat.le_of_ble_eq_true rfl⟩) (x_preSQ hK hP hD hS hA) rfl rfl hl.1 rfl (lv_room (Nat.le_of_ble_eq_true rfl)) dX12_begins_8 ⟨by decide, by decide⟩) hS (fun σ1 H locs hpost hP hD hS => ?_)
  obtain ⟨M_1, p1⟩ := σ1
  obtain ⟨hp0, hfrc, hnew⟩ := hpost
  obtain rfl : p1 = σ.2 := hp0
  have hP : xP g (M_1, σ.2) H := hP
  have hD : xD g A (M_1, σ.2) := hD
  have hob : MObj g M_1 ov := (hfrc (37) (by omega)).trans hob
  have hs0 := (hfrc (38) (by omega)).trans hs0
  have hfr := x_frc (F := fun j => j ≠ 41) hfr hfrc (fun j h => by have h : j ≠ 41 := h; omega)
  obtain ⟨S_2, hS_2⟩ : ∃ q : Int → Int, q = zCopy S Mi 29 := ⟨_, rfl⟩
  have h41 : MArr g M_1 41 29 S_2 := by rw [hS_2]; exact hnew
  refine x_retQv hx hb hr ?_ hP hD hS dX12_begins_11 hlocks
  refine ⟨rfl, hfr, ?_⟩
  subst_vars
  exact h41

set_option maxHeartbeats 4000000 in
set_option maxRecDepth 100000 in
theorem c_X12_ends (l : Launch) (g : xG) (σ : xS) (A : Nat → Prop) (ov : Nat → Int) (S Mi : Int → Int) (hob : MObj g σ.1 ov) (hs0 : MArr g σ.1 38 29 S) (h41 : MArr g σ.1 41 29 Mi) : Met l yX12_ends wsX12_ends ({ frames := 2, cells := 0, slots := 0, locals := 64 }) (va_Pc [.ref (g.2.2 37)] (xPreQ g A σ)) (x_Qv g A (fun σ1 => σ1.2 = σ.2 ∧ (∀ j, j ≠ 38 → σ1.1 j = σ.1 j) ∧ MArr g σ1.1 38 29 (zCopy Mi S 29))) (0) (0) A := by
  refine Met.ofW (cc := cX12_ends) (maxL := 1) (ret := none) (by decide) rfl ?_
  intro p e s m args below meth c s₁ B hml hv
  obtain ⟨rfl, hP, hK, hD, hA⟩ := hv
  have hx := B.exec
  have hb := B.bytes
  have hr := B.returns
  have hts := atoms_spec (ws := wsX12_ends) B.pre
  have hown : s.vm.findClass RX12 = some m.cls := findClass_of_methodNamed B.named
  have hlocks := B.notSynchronized
  have hS : va_S A s.heap s.heap [] := va_S.rf
  have hfr : ∀ j, (j ≠ 38) → σ.1 j = σ.1 j := fun _ _ => rfl
  have hl := lv_entry ([.ref (g.2.2 37)]) (n := 1) (Nat.le_of_ble_eq_true rfl)
  rw [lg_entry_eq]
  generalize (lg_sl ([.ref (g.2.2 37)]) ++ List.replicate (1 - (lg_sl ([.ref (g.2.2 37)])).length) Slot.unset).toArray = ls at hl ⊢
  have hl : lv_has ls 1 [(0, .ref (g.2.2 37))] := hl
  have hw_0 := hts (.fieldLink RX12 19 "TwiceAsRichModel" "mind" "[I") (by decide +kernel)
  have hin_X12 : ∀ w ∈ wsX120, w ∈ wsX12_ends := by decide +kernel
  have hw_2 := hts (.fieldLink RX12 9 "TwiceAsRichModel" "s" "[I") (by decide +kernel)
  refine lv_aload_n hx hb dX12_ends_0 rfl (lv_at hl 0 rfl) ?_
  refine x_get (C := RX12) (T := TX12) (N := 24) hx hb hts hin_X12 hown hK hP (37) (by decide) hob rfl 3 (by decide) hw_0 (fun _ h9 => h9) rfl dX12_ends_1 ?_
  refine lv_aload_n hx hb dX12_ends_4 rfl (lv_at hl 0 rfl) ?_
  refine x_get (C := RX12) (T := TX12) (N := 24) hx hb hts hin_X12 hown hK hP (37) (by decide) hob rfl 0 (by decide) hw_2 (fun _ h9 => h9) rfl dX12_ends_5 ?_
  refine x_cqv0 (va_runS (As := [.ref (g.2.2 41), .ref (g.2.2 38)]) (rest := []) ⟨hx, hb, hml, hown, hts⟩ (c_X12_lays l g σ A 41 (by decide) 38 (by decide) (by decide) Mi S h41 hs0) (va_cwS 2 hts gX12_ends_X12_lays rfl rfl rfl (by decide +kernel) ⟨Nat.le_of_ble_eq_true rfl, Nat.le_of_ble_eq_true rfl⟩) (x_preSQ hK hP hD hS hA) rfl rfl hl.1 rfl (lv_room (Nat.le_of_ble_eq_true rfl)) dX12_ends_8 ⟨by decide, by decide⟩) hS (fun σ1 H locs hpost hP hD hS => ?_)
  obtain ⟨M_1, p1⟩ := σ1
  obtain ⟨hp0, hfrc, hnew⟩ := hpost
  obtain rfl : p1 = σ.2 := hp0
  have hP : xP g (M_1, σ.2) H := hP
  have hD : xD g A (M_1, σ.2) := hD
  have hob : MObj g M_1 ov := (hfrc (37) (by omega)).trans hob
  have h41 := (hfrc (41) (by omega)).trans h41
  have hfr := x_frc (F := fun j => j ≠ 38) hfr hfrc (fun j h => by have h : j ≠ 38 := h; omega)
  obtain ⟨S_2, hS_2⟩ : ∃ q : Int → Int, q = zCopy Mi S 29 := ⟨_, rfl⟩
  have hs0 : MArr g M_1 38 29 S_2 := by rw [hS_2]; exact hnew
  refine x_retQv hx hb hr ?_ hP hD hS dX12_ends_11 hlocks
  refine ⟨rfl, hfr, ?_⟩
  subst_vars
  exact hs0

set_option maxHeartbeats 4000000 in
set_option maxRecDepth 100000 in
theorem c_X12_image (l : Launch) (g : xG) (σ : xS) (A : Nat → Prop) (ov : Nat → Int) (S : Int → Int) (hob : MObj g σ.1 ov) (hs0 : MArr g σ.1 38 29 S) (hok : SmOk S) (Im : Int → Int) (h39 : MArr g σ.1 39 29 Im) : Met l yX12_image wsX12_image ({ frames := 4, cells := 0, slots := 0, locals := 128 }) (va_Pc [.ref (g.2.2 37)] (xPreQ g A σ)) (x_Qi g A (fun r σ1 => σ1.2 = σ.2 ∧ (∀ j, j ≠ 37 ∧ j ≠ 39 → σ1.1 j = σ.1 j) ∧ r = zSum (mP S) (S 0).toNat ∧ (∃ ov2, MObj g σ1.1 ov2 ∧ ov2 10 = 1) ∧ MArr g σ1.1 39 29 (zCopy S Im 29))) (0) (0) A := by
  refine Met.ofW (cc := cX12_image) (maxL := 1) (ret := (some .int)) (by decide) rfl ?_
  intro p e s m args below meth c s₁ B hml hv
  obtain ⟨rfl, hP, hK, hD, hA⟩ := hv
  have hx := B.exec
  have hb := B.bytes
  have hr := B.returns
  have hts := atoms_spec (ws := wsX12_image) B.pre
  have hown : s.vm.findClass RX12 = some m.cls := findClass_of_methodNamed B.named
  have hlocks := B.notSynchronized
  have hS : va_S A s.heap s.heap [] := va_S.rf
  have hfr : ∀ j, (j ≠ 37 ∧ j ≠ 39) → σ.1 j = σ.1 j := fun _ _ => rfl
  have hl := lv_entry ([.ref (g.2.2 37)]) (n := 1) (Nat.le_of_ble_eq_true rfl)
  rw [lg_entry_eq]
  generalize (lg_sl ([.ref (g.2.2 37)]) ++ List.replicate (1 - (lg_sl ([.ref (g.2.2 37)])).length) Slot.unset).toArray = ls at hl ⊢
  have hl : lv_has ls 1 [(0, .ref (g.2.2 37))] := hl
  have hn0 := hok.2.1
  have hrd0 := hok.2.2.1
  have hw_0 := hts (.fieldLink RX12 9 "TwiceAsRichModel" "s" "[I") (by decide +kernel)
  have hin_X12 : ∀ w ∈ wsX120, w ∈ wsX12_image := by decide +kernel
  have hw_2 := hts (.fieldLink RX12 13 "TwiceAsRichModel" "image" "[I") (by decide +kernel)
  have hw_3 := hts (.fieldLink RX12 243 "TwiceAsRichModel" "hasImage" "Z") (by decide +kernel)
  refine lv_aload_n hx hb dX12_image_0 rfl (lv_at hl 0 rfl) ?_
  refine x_get (C := RX12) (T := TX12) (N := 24) hx hb hts hin_X12 hown hK hP (37) (by decide) hob rfl 0 (by decide) hw_0 (fun _ h9 => h9) rfl dX12_image_1 ?_
  refine lv_aload_n hx hb dX12_image_4 rfl (lv_at hl 0 rfl) ?_
  refine x_get (C := RX12) (T := TX12) (N := 24) hx hb hts hin_X12 hown hK hP (37) (by decide) hob rfl 1 (by decide) hw_2 (fun _ h9 => h9) rfl dX12_image_5 ?_
  refine x_cqv0 (va_runS (As := [.ref (g.2.2 38), .ref (g.2.2 39)]) (rest := []) ⟨hx, hb, hml, hown, hts⟩ (c_X12_lays l g σ A 38 (by decide) 39 (by decide) (by decide) S Im hs0 h39) (va_cwS 2 hts gX12_image_X12_lays rfl rfl rfl (by decide +kernel) ⟨Nat.le_of_ble_eq_true rfl, Nat.le_of_ble_eq_true rfl⟩) (x_preSQ hK hP hD hS hA) rfl rfl hl.1 rfl (lv_room (Nat.le_of_ble_eq_true rfl)) dX12_image_8 ⟨by decide, by decide⟩) hS (fun σ1 H locs hpost hP hD hS => ?_)
  obtain ⟨M_1, p1⟩ := σ1
  obtain ⟨hp0, hfrc, hnew⟩ := hpost
  obtain rfl : p1 = σ.2 := hp0
  have hP : xP g (M_1, σ.2) H := hP
  have hD : xD g A (M_1, σ.2) := hD
  have hob : MObj g M_1 ov := (hfrc (37) (by omega)).trans hob
  have hs0 := (hfrc (38) (by omega)).trans hs0
  have hfr := x_frc (F := fun j => j ≠ 37 ∧ j ≠ 39) hfr hfrc (fun j h => by have h : j ≠ 37 ∧ j ≠ 39 := h; omega)
  obtain ⟨S_2, hS_2⟩ : ∃ q : Int → Int, q = zCopy S Im 29 := ⟨_, rfl⟩
  have h39 : MArr g M_1 39 29 S_2 := by rw [hS_2]; exact hnew
  refine lv_aload_n hx hb dX12_image_11 rfl (lv_at hl 0 rfl) ?_
  refine x_iconst hx hb dX12_image_12 ?_
  refine x_put (C := RX12) (T := TX12) (N := 24) (ty := .boolean) hx hb hts hin_X12 hown hK hP hD hS (37) (by decide) hob rfl tyX12 tyX12_ok nmX12 10 (by decide) hw_3 (fun _ h9 => h9) rfl (by decide +kernel) (x_nz (by omega)) rfl (Nat.le_of_ble_eq_true rfl) dX12_image_13 (fun M_3 H locs hnew hne hP hD hS => ?_)
  obtain ⟨ov_4, hov_4⟩ : ∃ q : Nat → Int, q = va_up (ov) 10 (1) := ⟨_, rfl⟩
  have vov_4 : ov_4 10 = 1 := by rw [hov_4]; rfl
  have nov_4 : ∀ j, j ≠ 10 → ov_4 j = ov j := fun j hj => by rw [hov_4]; exact va_up_ne _ _ hj
  have hnew : MObj g M_3 ov_4 := by rw [hov_4]; exact hnew
  have hP : xP g (M_3, σ.2) H := hP
  have hD : xD g A (M_3, σ.2) := hD
  have hob : MObj g M_3 ov_4 := hnew
  have hs0 := (hne (38) (by decide)).trans hs0
  have h39 := (hne (39) (by decide)).trans h39
  have hfr := x_fr (F := fun j => j ≠ 37 ∧ j ≠ 39) hfr hne (fun j h => by have h : j ≠ 37 ∧ j ≠ 39 := h; omega)
  refine lv_aload_n hx hb dX12_image_16 rfl (lv_at hl 0 rfl) ?_
  refine x_ci (va_runV (As := []) (rest := []) ⟨hx, hb, hml, hown, hts⟩ (c_X12_coins l g (M_3, σ.2) (ov_4) S hob hs0 hok ) (cwV 0 hts gX12_image_X12_coins rfl rfl rfl (by decide +kernel) ⟨Nat.le_of_ble_eq_true rfl, Nat.le_of_ble_eq_true rfl⟩) (x_preV hK hP (x_recv hK hP (i := 37) (by decide) hob rfl)) rfl rfl hl.1 rfl (lv_room (Nat.le_of_ble_eq_true rfl)) dX12_image_17 ⟨Nat.le_of_ble_eq_true rfl, Nat.le_of_ble_eq_true rfl⟩) (fun r_17 hr_17 qr_17 => ?_)
  replace qr_17 : r_17 = zSum (mP S) (S 0).toNat ∧ 0 ≤ r_17 ∧ r_17 ≤ 99999 := qr_17
  refine x_retQ hx hb hr (by omega) ?_ hP hD hS dX12_image_20 hlocks
  refine ⟨rfl, hfr, qr_17.1, ⟨_, hob, by assumption⟩, ?_⟩
  subst_vars
  exact h39

set_option maxHeartbeats 4000000 in
set_option maxRecDepth 100000 in
theorem c_X12_restore (l : Launch) (g : xG) (σ : xS) (A : Nat → Prop) (ov : Nat → Int) (S : Int → Int) (hob : MObj g σ.1 ov) (hs0 : MArr g σ.1 38 29 S) (hok : SmOk S) (Im : Int → Int) (h39 : MArr g σ.1 39 29 Im) (hov : ov 10 = 0 ∨ (ov 10 = 1 ∧ SmOk Im)) : Met l yX12_restore wsX12_restore ({ frames := 4, cells := 0, slots := 0, locals := 128 }) (va_Pc [.ref (g.2.2 37)] (xPreQ g A σ)) (x_Qi g A (fun r σ1 => σ1.2 = σ.2 ∧ (∀ j, j ≠ 38 → σ1.1 j = σ.1 j) ∧ ((ov 10 = 0 ∧ r = -3 ∧ MArr g σ1.1 38 29 S) ∨ (ov 10 = 1 ∧ r = zSum (mP Im) (Im 0).toNat ∧ MArr g σ1.1 38 29 (zCopy Im S 29))))) (0) (0) A := by
  refine Met.ofW (cc := cX12_restore) (maxL := 1) (ret := (some .int)) (by decide) rfl ?_
  intro p e s m args below meth c s₁ B hml hv
  obtain ⟨rfl, hP, hK, hD, hA⟩ := hv
  have hx := B.exec
  have hb := B.bytes
  have hr := B.returns
  have hts := atoms_spec (ws := wsX12_restore) B.pre
  have hown : s.vm.findClass RX12 = some m.cls := findClass_of_methodNamed B.named
  have hlocks := B.notSynchronized
  have hS : va_S A s.heap s.heap [] := va_S.rf
  have hfr : ∀ j, (j ≠ 38) → σ.1 j = σ.1 j := fun _ _ => rfl
  have hl := lv_entry ([.ref (g.2.2 37)]) (n := 1) (Nat.le_of_ble_eq_true rfl)
  rw [lg_entry_eq]
  generalize (lg_sl ([.ref (g.2.2 37)]) ++ List.replicate (1 - (lg_sl ([.ref (g.2.2 37)])).length) Slot.unset).toArray = ls at hl ⊢
  have hl : lv_has ls 1 [(0, .ref (g.2.2 37))] := hl
  have hn0 := hok.2.1
  have hrd0 := hok.2.2.1
  have hw_0 := hts (.fieldLink RX12 243 "TwiceAsRichModel" "hasImage" "Z") (by decide +kernel)
  have hin_X12 : ∀ w ∈ wsX120, w ∈ wsX12_restore := by decide +kernel
  have hw_2 := hts (.fieldLink RX12 13 "TwiceAsRichModel" "image" "[I") (by decide +kernel)
  have hw_3 := hts (.fieldLink RX12 9 "TwiceAsRichModel" "s" "[I") (by decide +kernel)
  refine lv_aload_n hx hb dX12_restore_0 rfl (lv_at hl 0 rfl) ?_
  refine x_get (C := RX12) (T := TX12) (N := 24) hx hb hts hin_X12 hown hK hP (37) (by decide) hob rfl 10 (by decide) hw_0 (fun _ h9 => h9) rfl dX12_restore_1 ?_
  refine x_if_ne (tgt := 10) hx hb (by omega) dX12_restore_4 (by decide) (fun c_4 => ?_) (fun c_4 => ?_)
  · refine lv_aload_n hx hb dX12_restore_10 rfl (lv_at hl 0 rfl) ?_
    refine x_get (C := RX12) (T := TX12) (N := 24) hx hb hts hin_X12 hown hK hP (37) (by decide) hob rfl 1 (by decide) hw_2 (fun _ h9 => h9) rfl dX12_restore_11 ?_
    refine lv_aload_n hx hb dX12_restore_14 rfl (lv_at hl 0 rfl) ?_
    refine x_get (C := RX12) (T := TX12) (N := 24) hx hb hts hin_X12 hown hK hP (37) (by decide) hob rfl 0 (by decide) hw_3 (fun _ h9 => h9) rfl dX12_restore_15 ?_
    refine x_cqv0 (va_runS (As := [.ref (g.2.2 39), .ref (g.2.2 38)]) (rest := []) ⟨hx, hb, hml, hown, hts⟩ (c_X12_lays l g σ A 39 (by decide) 38 (by decide) (by decide) Im S h39 hs0) (va_cwS 2 hts gX12_restore_X12_lays rfl rfl rfl (by decide +kernel) ⟨Nat.le_of_ble_eq_true rfl, Nat.le_of_ble_eq_true rfl⟩) (x_preSQ hK hP hD hS hA) rfl rfl hl.1 rfl (lv_room (Nat.le_of_ble_eq_true rfl)) dX12_restore_18 ⟨by decide, by decide⟩) hS (fun σ1 H locs hpost hP hD hS => ?_)
    obtain ⟨M_1, p1⟩ := σ1
    obtain ⟨hp0, hfrc, hnew⟩ := hpost
    obtain rfl : p1 = σ.2 := hp0
    have hP : xP g (M_1, σ.2) H := hP
    have hD : xD g A (M_1, σ.2) := hD
    have hob : MObj g M_1 ov := (hfrc (37) (by omega)).trans hob
    have h39 := (hfrc (39) (by omega)).trans h39
    have hfr := x_frc (F := fun j => j ≠ 38) hfr hfrc (fun j h => by have h : j ≠ 38 := h; omega)
    obtain ⟨S_2, hS_2⟩ : ∃ q : Int → Int, q = zCopy Im S 29 := ⟨_, rfl⟩
    have hs0 : MArr g M_1 38 29 S_2 := by rw [hS_2]; exact hnew
    refine lv_aload_n hx hb dX12_restore_21 rfl (lv_at hl 0 rfl) ?_
    have hoI : SmOk Im := by rcases hov with h | h; exact absurd h (by omega); exact h.2
    have hoS : SmOk S_2 := by rw [hS_2]; exact SmOk_agr hoI (zCopy_rng hoI.1 hok.1) (fun j h1 h2 => zCopy_in h1 h2)
    refine x_ci (va_runV (As := []) (rest := []) ⟨hx, hb, hml, hown, hts⟩ (c_X12_coins l g (M_1, σ.2) (ov) S_2 hob hs0 hoS ) (cwV 0 hts gX12_restore_X12_coins rfl rfl rfl (by decide +kernel) ⟨Nat.le_of_ble_eq_true rfl, Nat.le_of_ble_eq_true rfl⟩) (x_preV hK hP (x_recv hK hP (i := 37) (by decide) hob rfl)) rfl rfl hl.1 rfl (lv_room (Nat.le_of_ble_eq_true rfl)) dX12_restore_22 ⟨Nat.le_of_ble_eq_true rfl, Nat.le_of_ble_eq_true rfl⟩) (fun r_22 hr_22 qr_22 => ?_)
    replace qr_22 : r_22 = zSum (mP S_2) (S_2 0).toNat ∧ 0 ≤ r_22 ∧ r_22 ≤ 99999 := qr_22
    refine x_retQ hx hb hr (by omega) ?_ hP hD hS dX12_restore_25 hlocks
    refine ⟨rfl, hfr, ?_⟩
    right; refine ⟨by omega, ?_, by subst_vars; exact hs0⟩
    rw [qr_22.1]
    have e0 : S_2 0 = Im 0 := by rw [hS_2]; exact zCopy_in (by omega) (by omega)
    rw [e0]; exact zSum_cong _ _ _ (fun i h1 h2 => by unfold mP; rw [hS_2]; have hIm := (show SmOk Im by rcases hov with h | h; exact absurd h (by omega); exact h.2).2.1; exact zCopy_in (by omega) (by omega))
  · refine x_bipush (n := -3) hx hb (by decide +kernel) dX12_restore_7 ?_
    refine x_retQ hx hb hr (by omega) ?_ hP hD hS dX12_restore_9 hlocks
    refine ⟨rfl, hfr, ?_⟩
    left; exact ⟨by omega, rfl, hs0⟩

set_option maxHeartbeats 4000000 in
set_option maxRecDepth 100000 in
theorem c_X12_comes (l : Launch) (g : xG) (σ : xS) (A : Nat → Prop) (ov : Nat → Int) (S : Int → Int) (hob : MObj g σ.1 ov) (hs0 : MArr g σ.1 38 29 S) (hok : SmOk S) (Kp So Sz El KK KF : Int → Int) (h42 : MArr g σ.1 42 8 Kp) (h43 : MArr g σ.1 43 8 So) (h44 : MArr g σ.1 44 8 Sz) (h45 : MArr g σ.1 45 800 El) (h46 : MArr g σ.1 46 8 KK) (h47 : MArr g σ.1 47 8 KF) (hsh : ShOk Kp So Sz El KK KF) (hn8 : S 0 ≤ 8) (d : Int) (hd : inR d) (pu : Int) (hpu : inR pu) : Met l yX12_comes wsX12_comes ({ frames := 4, cells := 0, slots := 0, locals := 128 }) (va_Pc [.ref (g.2.2 37), .int (iI (d)), .int (iI (pu))] (xPreQ g A σ)) (x_Qi g A (fun r σ1 => σ1.2 = σ.2 ∧ (∀ j, j ≠ 38 → σ1.1 j = σ.1 j) ∧ r = zComesR Kp (S 0) d pu ∧ MArr g σ1.1 38 29 (if 0 ≤ zComesR Kp (S 0) d pu then zJoin S (KK d) (KF d) pu else S))) (0) (0) A := by
  refine Met.ofW (cc := cX12_comes) (maxL := 4) (ret := (some .int)) (by decide) rfl ?_
  intro p e s m args below meth c s₁ B hml hv
  obtain ⟨rfl, hP, hK, hD, hA⟩ := hv
  have hx := B.exec
  have hb := B.bytes
  have hr := B.returns
  have hts := atoms_spec (ws := wsX12_comes) B.pre
  have hown : s.vm.findClass RX12 = some m.cls := findClass_of_methodNamed B.named
  have hlocks := B.notSynchronized
  have hS : va_S A s.heap s.heap [] := va_S.rf
  have hfr : ∀ j, (j ≠ 38) → σ.1 j = σ.1 j := fun _ _ => rfl
  have hl := lv_entry ([.ref (g.2.2 37), .int (iI (d)), .int (iI (pu))]) (n := 4) (Nat.le_of_ble_eq_true rfl)
  rw [lg_entry_eq]
  generalize (lg_sl ([.ref (g.2.2 37), .int (iI (d)), .int (iI (pu))]) ++ List.replicate (4 - (lg_sl ([.ref (g.2.2 37), .int (iI (d)), .int (iI (pu))])).length) Slot.unset).toArray = ls at hl ⊢
  have hl : lv_has ls 4 [(0, .ref (g.2.2 37)), (1, .int (iI (d))), (2, .int (iI (pu)))] := hl
  have hn0 := hok.2.1
  have hrd0 := hok.2.2.1
  have hw_0 := hts (.constantLong RX12 173 (9999)) (by decide +kernel)
  have hw_1 := hts (.fieldLink RX12 34 "TwiceAsRichModel" "keptKind" "[I") (by decide +kernel)
  have hin_X12 : ∀ w ∈ wsX120, w ∈ wsX12_comes := by decide +kernel
  have hw_3 := hts (.fieldLink RX12 37 "TwiceAsRichModel" "keptFigure" "[I") (by decide +kernel)
  have hw_4 := hts (.fieldLink RX12 9 "TwiceAsRichModel" "s" "[I") (by decide +kernel)
  refine lv_iload_n hx hb dX12_comes_0 rfl (lv_at hl 2 rfl) ?_
  refine x_i2l hx hb (by omega) dX12_comes_1 ?_
  refine x_lconst (z := 0) hx hb (by decide +kernel) dX12_comes_2 ?_
  refine x_ldc2 (z := 9999) hx hb hown hw_0 (by decide +kernel) dX12_comes_3 ?_
  refine x_ci (va_runS (As := [.long (jL (pu)), .long (jL (0)), .long (jL (9999))]) (rest := []) ⟨hx, hb, hml, hown, hts⟩ (c_X12_isIn l g σ (pu) (by omega) (0) (by omega) (9999) (by omega)) (va_cwS 3 hts gX12_comes_X12_isIn rfl rfl rfl (by decide +kernel) ⟨Nat.le_of_ble_eq_true rfl, Nat.le_of_ble_eq_true rfl⟩) (x_preS hK hP) rfl rfl hl.1 rfl (lv_room (Nat.le_of_ble_eq_true rfl)) dX12_comes_6 ⟨Nat.le_of_ble_eq_true rfl, Nat.le_of_ble_eq_true rfl⟩) (fun r_6 hr_6 qr_6 => ?_)
  replace qr_6 : (r_6 = 1 ∧ (0) ≤ (pu) ∧ (pu) ≤ (9999)) ∨ (r_6 = 0 ∧ ¬ ((0) ≤ (pu) ∧ (pu) ≤ (9999))) := qr_6
  refine x_if_ne (tgt := 16) hx hb (by omega) dX12_comes_9 (by decide) (fun c_9 => ?_) (fun c_9 => ?_)
  · refine lv_aload_n hx hb dX12_comes_16 rfl (lv_at hl 0 rfl) ?_
    refine lv_iload_n hx hb dX12_comes_17 rfl (lv_at hl 1 rfl) ?_
    refine x_ci (va_runV (As := [.int (iI (d))]) (rest := []) ⟨hx, hb, hml, hown, hts⟩ (c_X12_wrongKept l g σ (ov) S hob hs0 hok Kp So Sz El KK KF h42 h43 h44 h45 h46 h47 hsh (d) (by omega)) (cwV 1 hts gX12_comes_X12_wrongKept rfl rfl rfl (by decide +kernel) ⟨Nat.le_of_ble_eq_true rfl, Nat.le_of_ble_eq_true rfl⟩) (x_preV hK hP (x_recv hK hP (i := 37) (by decide) hob rfl)) rfl rfl hl.1 rfl (lv_room (Nat.le_of_ble_eq_true rfl)) dX12_comes_18 ⟨Nat.le_of_ble_eq_true rfl, Nat.le_of_ble_eq_true rfl⟩) (fun r_18 hr_18 qr_18 => ?_)
    replace qr_18 : r_18 = zKeptR Kp (d) := qr_18
    refine lv_istore_n (lv' := [(3, .int (iI (r_18))), (0, .ref (g.2.2 37)), (1, .int (iI (d))), (2, .int (iI (pu)))]) hx hb dX12_comes_21 rfl hl (by decide) rfl (fun ls hl => ?_)
    refine lv_iload_n hx hb dX12_comes_22 rfl (lv_at hl 0 rfl) ?_
    refine x_if_eq (tgt := 28) hx hb (by omega) dX12_comes_23 (by decide) (fun c_23 => ?_) (fun c_23 => ?_)
    · have hk0 := zKeptR_0 qr_18 (by omega)
      have hsd := hsh.2.2.2.2.2.2 d hk0.1 hk0.2.1
      refine lv_aload_n hx hb dX12_comes_28 rfl (lv_at hl 1 rfl) ?_
      refine lv_aload_n hx hb dX12_comes_29 rfl (lv_at hl 1 rfl) ?_
      refine x_get (C := RX12) (T := TX12) (N := 24) hx hb hts hin_X12 hown hK hP (37) (by decide) hob rfl 8 (by decide) hw_1 (fun _ h9 => h9) rfl dX12_comes_30 ?_
      refine lv_iload_n hx hb dX12_comes_33 rfl (lv_at hl 2 rfl) ?_
      refine x_iald (f := KK) hx hb hK hP (46) (by decide) h46 (by omega) (by omega) (by decide) dX12_comes_34 ?_
      have hb_1 := hsh.2.2.2.2.1 (d)
      refine lv_aload_n hx hb dX12_comes_35 rfl (lv_at hl 1 rfl) ?_
      refine x_get (C := RX12) (T := TX12) (N := 24) hx hb hts hin_X12 hown hK hP (37) (by decide) hob rfl 9 (by decide) hw_3 (fun _ h9 => h9) rfl dX12_comes_36 ?_
      refine lv_iload_n hx hb dX12_comes_39 rfl (lv_at hl 2 rfl) ?_
      refine x_iald (f := KF) hx hb hK hP (47) (by decide) h47 (by omega) (by omega) (by decide) dX12_comes_40 ?_
      have hb_2 := hsh.2.2.2.2.2.1 (d)
      refine lv_iload_n hx hb dX12_comes_41 rfl (lv_at hl 3 rfl) ?_
      refine x_cqi0 (va_runV (As := [.int (iI (KK (d))), .int (iI (KF (d))), .int (iI (pu))]) (rest := []) ⟨hx, hb, hml, hown, hts⟩ (c_X12_adds l g σ A (ov) S hob hs0 hok (by omega) (KK (d)) (by omega) (KF (d)) (by omega) (pu) (by omega)) (cwV 3 hts gX12_comes_X12_adds rfl rfl rfl (by decide +kernel) ⟨Nat.le_of_ble_eq_true rfl, Nat.le_of_ble_eq_true rfl⟩) (x_preVQ hK hP hD hS hA (x_recv hK hP (i := 37) (by decide) hob rfl)) rfl rfl hl.1 rfl (lv_room (Nat.le_of_ble_eq_true rfl)) dX12_comes_42 ⟨by decide, by decide⟩) hS (fun r_42 σ1 H locs hr_42 hpost hP hD hS => ?_)
      obtain ⟨M_3, p1⟩ := σ1
      obtain ⟨hp0, hfrc, qr_42, hnew⟩ := hpost
      obtain rfl : p1 = σ.2 := hp0
      have hP : xP g (M_3, σ.2) H := hP
      have hD : xD g A (M_3, σ.2) := hD
      have hob : MObj g M_3 ov := (hfrc (37) (by omega)).trans hob
      have h42 := (hfrc (42) (by omega)).trans h42
      have h43 := (hfrc (43) (by omega)).trans h43
      have h44 := (hfrc (44) (by omega)).trans h44
      have h45 := (hfrc (45) (by omega)).trans h45
      have h46 := (hfrc (46) (by omega)).trans h46
      have h47 := (hfrc (47) (by omega)).trans h47
      have hfr := x_frc (F := fun j => j ≠ 38) hfr hfrc (fun j h => by have h : j ≠ 38 := h; omega)
      obtain ⟨S_4, hS_4⟩ : ∃ q : Int → Int, q = (if S 0 = 8 then S else zJoin S (KK (d)) (KF (d)) (pu)) := ⟨_, rfl⟩
      have hs0 : MArr g M_3 38 29 S_4 := by rw [hS_4]; exact hnew
      have oS_4 : SmOk S_4 := by rw [hS_4]; exact SmOk_adds hok (by omega) (by omega) (by omega) (by omega)
      have pS_4 := oS_4.2.1
      refine x_if_eq (tgt := 59) hx hb (by omega) dX12_comes_45 (by decide) (fun c_45 => ?_) (fun c_45 => ?_)
      · refine x_bipush (n := -2) hx hb (by decide +kernel) dX12_comes_59 ?_
        refine x_retQ hx hb hr (by omega) ?_ hP hD hS dX12_comes_61 hlocks
        have hv : zComesR Kp (S 0) d pu = -2 := by (unfold zComesR; rw [if_neg (by omega), if_neg (by omega), if_pos (by omega)])
        have e1 : S_4 = S := by (rw [hS_4, if_pos (by omega)])
        refine ⟨rfl, hfr, hv.symm, ?_⟩
        rw [hv, if_neg (by omega), ← e1]; exact hs0
      · refine lv_aload_n hx hb dX12_comes_48 rfl (lv_at hl 1 rfl) ?_
        refine x_get (C := RX12) (T := TX12) (N := 24) hx hb hts hin_X12 hown hK hP (37) (by decide) hob rfl 0 (by decide) hw_4 (fun _ h9 => h9) rfl dX12_comes_49 ?_
        refine x_iconst hx hb dX12_comes_52 ?_
        refine x_iald (f := S_4) hx hb hK hP (38) (by decide) hs0 (by omega) (by omega) (by decide) dX12_comes_53 ?_
        have hb_5 := oS_4.1 (0)
        refine x_iconst hx hb dX12_comes_54 ?_
        refine x_isub hx hb dX12_comes_55 ?_
        refine lv_goto (tgt := 61) hx hb dX12_comes_56 (by decide) ?_
        refine x_retQ hx hb hr (by omega) ?_ hP hD hS dX12_comes_61 hlocks
        have hv : zComesR Kp (S 0) d pu = S 0 := by (unfold zComesR; rw [if_neg (by omega), if_neg (by omega), if_neg (by omega)])
        have e1 : S_4 = zJoin S (KK d) (KF d) pu := by (rw [hS_4, if_neg (by omega)])
        have e0 : zJoin S (KK d) (KF d) pu 0 = S 0 + 1 := by (unfold zJoin; rw [upI_s])
        refine ⟨rfl, hfr, ?_, ?_⟩
        · rw [hv]; rw [e1, e0]; omega
        · rw [hv, if_pos (by omega), ← e1]; exact hs0
    · refine lv_iload_n hx hb dX12_comes_26 rfl (lv_at hl 0 rfl) ?_
      refine x_retQ hx hb hr (by omega) ?_ hP hD hS dX12_comes_27 hlocks
      have hv : zComesR Kp (S 0) d pu = (r_18) := by (unfold zComesR; first | (rw [if_pos (by omega)]; done) | (rw [if_neg (by omega), if_pos (by omega)]; exact qr_18.symm))
      refine ⟨rfl, hfr, hv.symm, ?_⟩
      rw [hv, if_neg (by have := zKeptR_rng Kp d; omega)]; exact hs0
  · refine x_iconst hx hb dX12_comes_12 ?_
    refine lv_goto (tgt := 21) hx hb dX12_comes_13 (by decide) ?_
    refine lv_istore_n (lv' := [(3, .int (iI (-1))), (0, .ref (g.2.2 37)), (1, .int (iI (d))), (2, .int (iI (pu)))]) hx hb dX12_comes_21 rfl hl (by decide) rfl (fun ls hl => ?_)
    refine lv_iload_n hx hb dX12_comes_22 rfl (lv_at hl 0 rfl) ?_
    refine x_if_eq (tgt := 28) hx hb (by omega) dX12_comes_23 (by decide) (fun c_23 => ?_) (fun c_23 => ?_)
    · exact absurd c_23 (by decide)
    · refine lv_iload_n hx hb dX12_comes_26 rfl (lv_at hl 0 rfl) ?_
      refine x_retQ hx hb hr (by omega) ?_ hP hD hS dX12_comes_27 hlocks
      have hv : zComesR Kp (S 0) d pu = (-1) := by (unfold zComesR; first | (rw [if_pos (by omega)]; done) | (rw [if_neg (by omega), if_pos (by omega)]; exact qr_18.symm))
      refine ⟨rfl, hfr, hv.symm, ?_⟩
      rw [hv, if_neg (by have := zKeptR_rng Kp d; omega)]; exact hs0

set_option maxHeartbeats 4000000 in
set_option maxRecDepth 100000 in
theorem c_X12_round (l : Launch) (g : xG) (σ : xS) (A : Nat → Prop) (ov : Nat → Int) (S : Int → Int) (hob : MObj g σ.1 ov) (hs0 : MArr g σ.1 38 29 S) (hok : SmOk S) (v : Int) (hv : inR v) : Met l yX12_round wsX12_round ({ frames := 2, cells := 0, slots := 0, locals := 64 }) (va_Pc [.ref (g.2.2 37), .int (iI (v))] (xPreQ g A σ)) (x_Qi g A (fun r σ1 => σ1.2 = σ.2 ∧ (∀ j, j ≠ 38 → σ1.1 j = σ.1 j) ∧ ((¬ (v = 0 ∨ v = 1) ∧ r = -1 ∧ MArr g σ1.1 38 29 S) ∨ ((v = 0 ∨ v = 1) ∧ r = S 1 ∧ MArr g σ1.1 38 29 (upI S 1 v))))) (0) (0) A := by
  refine Met.ofW (cc := cX12_round) (maxL := 3) (ret := (some .int)) (by decide) rfl ?_
  intro p e s m args below meth c s₁ B hml hv
  obtain ⟨rfl, hP, hK, hD, hA⟩ := hv
  have hx := B.exec
  have hb := B.bytes
  have hr := B.returns
  have hts := atoms_spec (ws := wsX12_round) B.pre
  have hown : s.vm.findClass RX12 = some m.cls := findClass_of_methodNamed B.named
  have hlocks := B.notSynchronized
  have hS : va_S A s.heap s.heap [] := va_S.rf
  have hfr : ∀ j, (j ≠ 38) → σ.1 j = σ.1 j := fun _ _ => rfl
  have hl := lv_entry ([.ref (g.2.2 37), .int (iI (v))]) (n := 3) (Nat.le_of_ble_eq_true rfl)
  rw [lg_entry_eq]
  generalize (lg_sl ([.ref (g.2.2 37), .int (iI (v))]) ++ List.replicate (3 - (lg_sl ([.ref (g.2.2 37), .int (iI (v))])).length) Slot.unset).toArray = ls at hl ⊢
  have hl : lv_has ls 3 [(0, .ref (g.2.2 37)), (1, .int (iI (v)))] := hl
  have hn0 := hok.2.1
  have hrd0 := hok.2.2.1
  have hw_0 := hts (.fieldLink RX12 9 "TwiceAsRichModel" "s" "[I") (by decide +kernel)
  have hin_X12 : ∀ w ∈ wsX120, w ∈ wsX12_round := by decide +kernel
  refine lv_iload_n hx hb dX12_round_0 rfl (lv_at hl 1 rfl) ?_
  refine x_i2l hx hb (by omega) dX12_round_1 ?_
  refine x_lconst (z := 0) hx hb (by decide +kernel) dX12_round_2 ?_
  refine x_lconst (z := 1) hx hb (by decide +kernel) dX12_round_3 ?_
  refine x_ci (va_runS (As := [.long (jL (v)), .long (jL (0)), .long (jL (1))]) (rest := []) ⟨hx, hb, hml, hown, hts⟩ (c_X12_isIn l g σ (v) (by omega) (0) (by omega) (1) (by omega)) (va_cwS 3 hts gX12_round_X12_isIn rfl rfl rfl (by decide +kernel) ⟨Nat.le_of_ble_eq_true rfl, Nat.le_of_ble_eq_true rfl⟩) (x_preS hK hP) rfl rfl hl.1 rfl (lv_room (Nat.le_of_ble_eq_true rfl)) dX12_round_4 ⟨Nat.le_of_ble_eq_true rfl, Nat.le_of_ble_eq_true rfl⟩) (fun r_4 hr_4 qr_4 => ?_)
  replace qr_4 : (r_4 = 1 ∧ (0) ≤ (v) ∧ (v) ≤ (1)) ∨ (r_4 = 0 ∧ ¬ ((0) ≤ (v) ∧ (v) ≤ (1))) := qr_4
  refine x_if_ne (tgt := 12) hx hb (by omega) dX12_round_7 (by decide) (fun c_7 => ?_) (fun c_7 => ?_)
  · refine lv_aload_n hx hb dX12_round_12 rfl (lv_at hl 0 rfl) ?_
    refine x_get (C := RX12) (T := TX12) (N := 24) hx hb hts hin_X12 hown hK hP (37) (by decide) hob rfl 0 (by decide) hw_0 (fun _ h9 => h9) rfl dX12_round_13 ?_
    refine x_iconst hx hb dX12_round_16 ?_
    refine x_iald (f := S) hx hb hK hP (38) (by decide) hs0 (by omega) (by omega) (by decide) dX12_round_17 ?_
    have hb_1 := hok.1 (1)
    refine lv_istore_n (lv' := [(2, .int (iI (S (1)))), (0, .ref (g.2.2 37)), (1, .int (iI (v)))]) hx hb dX12_round_18 rfl hl (by decide) rfl (fun ls hl => ?_)
    refine lv_aload_n hx hb dX12_round_19 rfl (lv_at hl 1 rfl) ?_
    refine x_get (C := RX12) (T := TX12) (N := 24) hx hb hts hin_X12 hown hK hP (37) (by decide) hob rfl 0 (by decide) hw_0 (fun _ h9 => h9) rfl dX12_round_20 ?_
    refine x_iconst hx hb dX12_round_23 ?_
    refine lv_iload_n hx hb dX12_round_24 rfl (lv_at hl 2 rfl) ?_
    refine x_iast (f := S) hx hb hK hP hD hS (38) (by decide) hs0 (by omega) (by omega) (by decide) dX12_round_25 (fun M_2 H locs hnew hne hP hD hS => ?_)
    obtain ⟨f_3, hf_3⟩ : ∃ q : Int → Int, q = (upI S (1) (v)) := ⟨_, rfl⟩
    rw [← hf_3] at hnew
    have hP : xP g (M_2, σ.2) H := hP
    have hD : xD g A (M_2, σ.2) := hD
    have hs0 : M_2 (38) = .inl (g.2.1 0, 29, .inl (fun k => iI (f_3 (k : Int)))) := hnew
    have hob : MObj g M_2 ov := (hne (37) (by decide)).trans hob
    have hfr := x_fr (F := fun j => j ≠ 38) hfr hne (fun j h => by have h : j ≠ 38 := h; omega)
    refine lv_iload_n hx hb dX12_round_26 rfl (lv_at hl 0 rfl) ?_
    refine x_retQ hx hb hr (by omega) ?_ hP hD hS dX12_round_27 hlocks
    refine ⟨rfl, hfr, ?_⟩
    right; exact ⟨by omega, rfl, by subst_vars; exact hs0⟩
  · refine x_iconst hx hb dX12_round_10 ?_
    refine x_retQ hx hb hr (by omega) ?_ hP hD hS dX12_round_11 hlocks
    refine ⟨rfl, hfr, ?_⟩
    left; exact ⟨by omega, rfl, hs0⟩

set_option maxHeartbeats 4000000 in
set_option maxRecDepth 100000 in
theorem c_X12_give (l : Launch) (g : xG) (σ : xS) (A : Nat → Prop) (ov : Nat → Int) (S : Int → Int) (hob : MObj g σ.1 ov) (hs0 : MArr g σ.1 38 29 S) (hok : SmOk S) (a : Int) (ha : inR a) (b : Int) (hb9 : inR b) (c0 : Int) (hc : inR c0) : Met l yX12_give wsX12_give ({ frames := 5, cells := 0, slots := 0, locals := 160 }) (va_Pc [.ref (g.2.2 37), .int (iI (a)), .int (iI (b)), .int (iI (c0))] (xPreQ g A σ)) (x_Qi g A (fun r σ1 => σ1.2 = σ.2 ∧ (∀ j, j ≠ 38 → σ1.1 j = σ.1 j) ∧ ((zGiftR (mP S) (S 0) a b c0 ≠ 0 ∧ r = zGiftR (mP S) (S 0) a b c0 ∧ MArr g σ1.1 38 29 S) ∨ (zGiftR (mP S) (S 0) a b c0 = 0 ∧ r = mP S a - c0 ∧ MArr g σ1.1 38 29 (zGives S a b c0))))) (0) (0) A := by
  refine Met.ofW (cc := cX12_give) (maxL := 5) (ret := (some .int)) (by decide) rfl ?_
  intro p e s m args below meth c s₁ B hml hv
  obtain ⟨rfl, hP, hK, hD, hA⟩ := hv
  have hx := B.exec
  have hb := B.bytes
  have hr := B.returns
  have hts := atoms_spec (ws := wsX12_give) B.pre
  have hown : s.vm.findClass RX12 = some m.cls := findClass_of_methodNamed B.named
  have hlocks := B.notSynchronized
  have hS : va_S A s.heap s.heap [] := va_S.rf
  have hfr : ∀ j, (j ≠ 38) → σ.1 j = σ.1 j := fun _ _ => rfl
  have hl := lv_entry ([.ref (g.2.2 37), .int (iI (a)), .int (iI (b)), .int (iI (c0))]) (n := 5) (Nat.le_of_ble_eq_true rfl)
  rw [lg_entry_eq]
  generalize (lg_sl ([.ref (g.2.2 37), .int (iI (a)), .int (iI (b)), .int (iI (c0))]) ++ List.replicate (5 - (lg_sl ([.ref (g.2.2 37), .int (iI (a)), .int (iI (b)), .int (iI (c0))])).length) Slot.unset).toArray = ls at hl ⊢
  have hl : lv_has ls 5 [(0, .ref (g.2.2 37)), (1, .int (iI (a))), (2, .int (iI (b))), (3, .int (iI (c0)))] := hl
  have hn0 := hok.2.1
  have hrd0 := hok.2.2.1
  refine lv_aload_n hx hb dX12_give_0 rfl (lv_at hl 0 rfl) ?_
  refine lv_iload_n hx hb dX12_give_1 rfl (lv_at hl 1 rfl) ?_
  refine lv_iload_n hx hb dX12_give_2 rfl (lv_at hl 2 rfl) ?_
  refine lv_iload_n hx hb dX12_give_3 rfl (lv_at hl 3 rfl) ?_
  refine x_ci (va_runV (As := [.int (iI (a)), .int (iI (b)), .int (iI (c0))]) (rest := []) ⟨hx, hb, hml, hown, hts⟩ (c_X12_wrongGift l g σ (ov) S hob hs0 hok (a) (by omega) (b) (by omega) (c0) (by omega)) (cwV 3 hts gX12_give_X12_wrongGift rfl rfl rfl (by decide +kernel) ⟨Nat.le_of_ble_eq_true rfl, Nat.le_of_ble_eq_true rfl⟩) (x_preV hK hP (x_recv hK hP (i := 37) (by decide) hob rfl)) rfl rfl hl.1 rfl (lv_room (Nat.le_of_ble_eq_true rfl)) dX12_give_4 ⟨Nat.le_of_ble_eq_true rfl, Nat.le_of_ble_eq_true rfl⟩) (fun r_4 hr_4 qr_4 => ?_)
  replace qr_4 : r_4 = zGiftR (mP S) (S 0) (a) (b) (c0) := qr_4
  refine lv_istore (lv' := [(4, .int (iI (r_4))), (0, .ref (g.2.2 37)), (1, .int (iI (a))), (2, .int (iI (b))), (3, .int (iI (c0)))]) hx hb dX12_give_7 hl (by decide) rfl (fun ls hl => ?_)
  refine lv_iload hx hb dX12_give_9 (lv_at hl 0 rfl) ?_
  refine x_if_eq (tgt := 17) hx hb (by omega) dX12_give_11 (by decide) (fun c_11 => ?_) (fun c_11 => ?_)
  · have hzg := zGiftR_0 qr_4 (by omega)
    have hg1 : mP S a = S (2 + 3 * a + 2) := rfl
    have hg2 : mP S b = S (2 + 3 * b + 2) := rfl
    have hga := (hok.2.2.2 a (by omega) (by omega)).2.2
    have hgb := (hok.2.2.2 b (by omega) (by omega)).2.2
    refine lv_aload_n hx hb dX12_give_17 rfl (lv_at hl 1 rfl) ?_
    refine lv_iload_n hx hb dX12_give_18 rfl (lv_at hl 2 rfl) ?_
    refine lv_iload_n hx hb dX12_give_19 rfl (lv_at hl 3 rfl) ?_
    refine lv_iload_n hx hb dX12_give_20 rfl (lv_at hl 4 rfl) ?_
    have hga := (hok.2.2.2 (a) (by omega) (by omega)).2.2
    have hgb := (hok.2.2.2 (b) (by omega) (by omega)).2.2
    refine x_cqv0 (va_runV (As := [.int (iI (a)), .int (iI (b)), .int (iI (c0))]) (rest := []) ⟨hx, hb, hml, hown, hts⟩ (c_X12_gives l g σ A (ov) S hob hs0 hok (a) (by omega) (b) (by omega) (c0) (by omega) (by omega) (by omega) (by omega) (by omega) (by omega)) (cwV 3 hts gX12_give_X12_gives rfl rfl rfl (by decide +kernel) ⟨Nat.le_of_ble_eq_true rfl, Nat.le_of_ble_eq_true rfl⟩) (x_preVQ hK hP hD hS hA (x_recv hK hP (i := 37) (by decide) hob rfl)) rfl rfl hl.1 rfl (lv_room (Nat.le_of_ble_eq_true rfl)) dX12_give_21 ⟨by decide, by decide⟩) hS (fun σ1 H locs hpost hP hD hS => ?_)
    obtain ⟨M_1, p1⟩ := σ1
    obtain ⟨hp0, hfrc, hnew⟩ := hpost
    obtain rfl : p1 = σ.2 := hp0
    have hP : xP g (M_1, σ.2) H := hP
    have hD : xD g A (M_1, σ.2) := hD
    have hob : MObj g M_1 ov := (hfrc (37) (by omega)).trans hob
    have hfr := x_frc (F := fun j => j ≠ 38) hfr hfrc (fun j h => by have h : j ≠ 38 := h; omega)
    obtain ⟨S_2, hS_2⟩ : ∃ q : Int → Int, q = zGives S (a) (b) (c0) := ⟨_, rfl⟩
    have hs0 : MArr g M_1 38 29 S_2 := by rw [hS_2]; exact hnew
    have oS_2 : SmOk S_2 := by rw [hS_2]; exact SmOk_gives hok (by omega) (by omega) (by omega) (by omega) (by omega) (by omega) (by omega)
    refine lv_aload_n hx hb dX12_give_24 rfl (lv_at hl 1 rfl) ?_
    refine lv_iload_n hx hb dX12_give_25 rfl (lv_at hl 2 rfl) ?_
    refine x_ci (va_runV (As := [.int (iI (a))]) (rest := []) ⟨hx, hb, hml, hown, hts⟩ (c_X12_purse l g (M_1, σ.2) (ov) S_2 hob hs0 oS_2.1 (a) (by omega)) (cwV 1 hts gX12_give_X12_purse rfl rfl rfl (by decide +kernel) ⟨Nat.le_of_ble_eq_true rfl, Nat.le_of_ble_eq_true rfl⟩) (x_preV hK hP (x_recv hK hP (i := 37) (by decide) hob rfl)) rfl rfl hl.1 rfl (lv_room (Nat.le_of_ble_eq_true rfl)) dX12_give_26 ⟨Nat.le_of_ble_eq_true rfl, Nat.le_of_ble_eq_true rfl⟩) (fun r_26 hr_26 qr_26 => ?_)
    replace qr_26 : r_26 = S_2 (2 + 3 * (a) + 2) := qr_26
    refine x_retQ hx hb hr (by omega) ?_ hP hD hS dX12_give_29 hlocks
    refine ⟨rfl, hfr, ?_⟩
    right; refine ⟨by omega, ?_, by subst_vars; exact hs0⟩
    rw [qr_26, hS_2]
    unfold zGives
    rw [upI_n (by omega), upI_s]; rfl
  · refine lv_iload hx hb dX12_give_14 (lv_at hl 0 rfl) ?_
    refine x_retQ hx hb hr (by omega) ?_ hP hD hS dX12_give_16 hlocks
    refine ⟨rfl, hfr, ?_⟩
    left; exact ⟨by omega, by omega, hs0⟩

set_option maxHeartbeats 4000000 in
set_option maxRecDepth 100000 in
theorem c_X12_weeks (l : Launch) (g : xG) (σ : xS) (A : Nat → Prop) (ov : Nat → Int) (S : Int → Int) (hob : MObj g σ.1 ov) (hs0 : MArr g σ.1 38 29 S) (hok : SmOk S) (w : Int) (hw : inR w) : Met l yX12_weeks wsX12_weeks ({ frames := 4, cells := 0, slots := 0, locals := 128 }) (va_Pc [.ref (g.2.2 37), .int (iI (w))] (xPreQ g A σ)) (x_Qi g A (fun r σ1 => σ1.2 = σ.2 ∧ (∀ j, j ≠ 38 → σ1.1 j = σ.1 j) ∧ ((¬ (1 ≤ w ∧ w ≤ 99) ∧ r = -1 ∧ MArr g σ1.1 38 29 S) ∨ ((1 ≤ w ∧ w ≤ 99) ∧ r = zSum (mP (zWeeksS S w (S 0))) (S 0).toNat ∧ MArr g σ1.1 38 29 (zWeeksS S w (S 0)))))) (0) (0) A := by
  refine Met.ofW (cc := cX12_weeks) (maxL := 4) (ret := (some .int)) (by decide) rfl ?_
  intro p e s m args below meth c s₁ B hml hv
  obtain ⟨rfl, hP, hK, hD, hA⟩ := hv
  have hx := B.exec
  have hb := B.bytes
  have hr := B.returns
  have hts := atoms_spec (ws := wsX12_weeks) B.pre
  have hown : s.vm.findClass RX12 = some m.cls := findClass_of_methodNamed B.named
  have hlocks := B.notSynchronized
  have hS : va_S A s.heap s.heap [] := va_S.rf
  have hfr : ∀ j, (j ≠ 38) → σ.1 j = σ.1 j := fun _ _ => rfl
  have hl := lv_entry ([.ref (g.2.2 37), .int (iI (w))]) (n := 4) (Nat.le_of_ble_eq_true rfl)
  rw [lg_entry_eq]
  generalize (lg_sl ([.ref (g.2.2 37), .int (iI (w))]) ++ List.replicate (4 - (lg_sl ([.ref (g.2.2 37), .int (iI (w))])).length) Slot.unset).toArray = ls at hl ⊢
  have hl : lv_has ls 4 [(0, .ref (g.2.2 37)), (1, .int (iI (w)))] := hl
  have hn0 := hok.2.1
  have hrd0 := hok.2.2.1
  have hw_0 := hts (.constantLong RX12 178 (99)) (by decide +kernel)
  have hw_1 := hts (.fieldLink RX12 9 "TwiceAsRichModel" "s" "[I") (by decide +kernel)
  have hin_X12 : ∀ w ∈ wsX120, w ∈ wsX12_weeks := by decide +kernel
  refine lv_iload_n hx hb dX12_weeks_0 rfl (lv_at hl 1 rfl) ?_
  refine x_i2l hx hb (by omega) dX12_weeks_1 ?_
  refine x_lconst (z := 1) hx hb (by decide +kernel) dX12_weeks_2 ?_
  refine x_ldc2 (z := 99) hx hb hown hw_0 (by decide +kernel) dX12_weeks_3 ?_
  refine x_ci (va_runS (As := [.long (jL (w)), .long (jL (1)), .long (jL (99))]) (rest := []) ⟨hx, hb, hml, hown, hts⟩ (c_X12_isIn l g σ (w) (by omega) (1) (by omega) (99) (by omega)) (va_cwS 3 hts gX12_weeks_X12_isIn rfl rfl rfl (by decide +kernel) ⟨Nat.le_of_ble_eq_true rfl, Nat.le_of_ble_eq_true rfl⟩) (x_preS hK hP) rfl rfl hl.1 rfl (lv_room (Nat.le_of_ble_eq_true rfl)) dX12_weeks_6 ⟨Nat.le_of_ble_eq_true rfl, Nat.le_of_ble_eq_true rfl⟩) (fun r_6 hr_6 qr_6 => ?_)
  replace qr_6 : (r_6 = 1 ∧ (1) ≤ (w) ∧ (w) ≤ (99)) ∨ (r_6 = 0 ∧ ¬ ((1) ≤ (w) ∧ (w) ≤ (99))) := qr_6
  refine x_if_ne (tgt := 14) hx hb (by omega) dX12_weeks_9 (by decide) (fun c_9 => ?_) (fun c_9 => ?_)
  · refine x_iconst hx hb dX12_weeks_14 ?_
    refine lv_istore_n (lv' := [(2, .int (iI (0))), (0, .ref (g.2.2 37)), (1, .int (iI (w)))]) hx hb dX12_weeks_15 rfl hl (by decide) rfl (fun ls hl => ?_)
    have hloop_16 : ∀ (k : Nat) (i : Int), (S 0 - i).toNat < k → (hi0 : 0 ≤ i) → (hin : i ≤ S 0) → (hw1 : 1 ≤ w ∧ w ≤ 99) → ∀ (M : xM) (H : Heap) (locs : List Loc), (hob : M (37) = .inr (12, [.ref (g.2.2 38), .ref (g.2.2 39), .ref (g.2.2 40), .ref (g.2.2 41), .ref (g.2.2 42), .ref (g.2.2 43), .ref (g.2.2 44), .ref (g.2.2 45), .ref (g.2.2 46), .ref (g.2.2 47), .int (iI (ov 10)), .int (iI (ov 11)), .int (iI (ov 12)), .int (iI (ov 13)), .int (iI (ov 14)), .int (iI (ov 15)), .ref (g.2.2 48), .int (iI (ov 17)), .int (iI (ov 18)), .int (iI (ov 19)), .int (iI (ov 20)), .int (iI (ov 21)), .ref (g.2.2 49), .int (iI (ov 23))])) → (hs0 : M (38) = .inl (g.2.1 0, 29, .inl (fun k => iI (zWeeksS S w i (k : Int))))) → (hfr : ∀ j, (j ≠ 38) → M j = σ.1 j) → xP g (M, σ.2) H → xD g A (M, σ.2) → va_S A s.heap H locs → ∀ (ls : Array Slot), lv_has ls 4 [(2, .int (iI (i))), (0, .ref (g.2.2 37)), (1, .int (iI (w)))] → W p l e (headSpec wsX12_weeks ({ frames := 4, cells := 0, slots := 0, locals := 128 })).room s m ([.ref (g.2.2 37), .int (iI (w))] : List Value).toArray below meth c H locs 0 0 (MQ below (x_Qi g A (fun r σ1 => σ1.2 = σ.2 ∧ (∀ j, j ≠ 38 → σ1.1 j = σ.1 j) ∧ ((¬ (1 ≤ w ∧ w ≤ 99) ∧ r = -1 ∧ MArr g σ1.1 38 29 S) ∨ ((1 ≤ w ∧ w ≤ 99) ∧ r = zSum (mP (zWeeksS S w (S 0))) (S 0).toNat ∧ MArr g σ1.1 38 29 (zWeeksS S w (S 0)))))) ([.ref (g.2.2 37), .int (iI (w))] : List Value).toArray s (0) (0) A) (F0 m 16 ls []) := by
      intro k
      induction k with
      | zero =>
        intros; exact absurd (by assumption) (Nat.not_lt_zero _)
      | succ k ih =>
        intro i hmeas hi0 hin hw1 M H locs hob hs0 hfr hP hD hS ls hl
        have ih_1 := ih
        have hz0 : zWeeksS S w i 0 = S 0 := zWeeksS_hi (by omega)
        refine lv_iload_n hx hb dX12_weeks_16 rfl (lv_at hl 0 rfl) ?_
        refine lv_aload_n hx hb dX12_weeks_17 rfl (lv_at hl 1 rfl) ?_
        refine x_get (C := RX12) (T := TX12) (N := 24) hx hb hts hin_X12 hown hK hP (37) (by decide) hob rfl 0 (by decide) hw_1 (fun _ h9 => h9) rfl dX12_weeks_18 ?_
        refine x_iconst hx hb dX12_weeks_21 ?_
        refine x_iald (f := zWeeksS S w i) hx hb hK hP (38) (by decide) hs0 (by omega) (by omega) (by decide) dX12_weeks_22 ?_
        have hb_2 := (SmOk_weeks hok hw1 ⟨hi0, hin⟩).1 (0)
        have hz00 : zWeeksS S w i 0 = S 0 := zWeeksS_hi (by omega)
        refine x_icmp_ge (tgt := 74) hx hb (by omega) (by omega) dX12_weeks_23 (by decide) (fun c_23 => ?_) (fun c_23 => ?_)
        · have hz0 : zWeeksS S w i 0 = S 0 := zWeeksS_hi (by omega)
          have hei : i = S 0 := by omega
          have hoW : SmOk (zWeeksS S w i) := SmOk_weeks hok (by omega) ⟨by omega, by omega⟩
          refine lv_aload_n hx hb dX12_weeks_74 rfl (lv_at hl 1 rfl) ?_
          refine x_ci (va_runV (As := []) (rest := []) ⟨hx, hb, hml, hown, hts⟩ (c_X12_coins l g (M, σ.2) (ov) (zWeeksS S w i) hob hs0 hoW ) (cwV 0 hts gX12_weeks_X12_coins rfl rfl rfl (by decide +kernel) ⟨Nat.le_of_ble_eq_true rfl, Nat.le_of_ble_eq_true rfl⟩) (x_preV hK hP (x_recv hK hP (i := 37) (by decide) hob rfl)) rfl rfl hl.1 rfl (lv_room (Nat.le_of_ble_eq_true rfl)) dX12_weeks_75 ⟨Nat.le_of_ble_eq_true rfl, Nat.le_of_ble_eq_true rfl⟩) (fun r_75 hr_75 qr_75 => ?_)
          replace qr_75 : r_75 = zSum (mP (zWeeksS S w i)) ((zWeeksS S w i) 0).toNat ∧ 0 ≤ r_75 ∧ r_75 ≤ 99999 := qr_75
          refine x_retQ hx hb hr (by omega) ?_ hP hD hS dX12_weeks_78 hlocks
          refine ⟨rfl, hfr, ?_⟩
          right; refine ⟨by omega, ?_, ?_⟩
          · rw [qr_75.1, hz0, hei]
          · rw [← hei]; exact hs0
        · have hz0 : zWeeksS S w i 0 = S 0 := zWeeksS_hi (by omega)
          refine lv_aload_n hx hb dX12_weeks_26 rfl (lv_at hl 1 rfl) ?_
          refine lv_iload_n hx hb dX12_weeks_27 rfl (lv_at hl 0 rfl) ?_
          refine x_ci (va_runV (As := [.int (iI (i))]) (rest := []) ⟨hx, hb, hml, hown, hts⟩ (c_X12_purse l g (M, σ.2) (ov) (zWeeksS S w i) hob hs0 (SmOk_weeks hok hw1 ⟨hi0, hin⟩).1 (i) (by omega)) (cwV 1 hts gX12_weeks_X12_purse rfl rfl rfl (by decide +kernel) ⟨Nat.le_of_ble_eq_true rfl, Nat.le_of_ble_eq_true rfl⟩) (x_preV hK hP (x_recv hK hP (i := 37) (by decide) hob rfl)) rfl rfl hl.1 rfl (lv_room (Nat.le_of_ble_eq_true rfl)) dX12_weeks_28 ⟨Nat.le_of_ble_eq_true rfl, Nat.le_of_ble_eq_true rfl⟩) (fun r_28 hr_28 qr_28 => ?_)
          replace qr_28 : r_28 = (zWeeksS S w i) (2 + 3 * (i) + 2) := qr_28
          refine lv_iload_n hx hb dX12_weeks_31 rfl (lv_at hl 2 rfl) ?_
          refine lv_aload_n hx hb dX12_weeks_32 rfl (lv_at hl 1 rfl) ?_
          refine lv_iload_n hx hb dX12_weeks_33 rfl (lv_at hl 0 rfl) ?_
          refine x_ci (va_runV (As := [.int (iI (i))]) (rest := [.int (iI (w)), .int (iI (r_28))]) ⟨hx, hb, hml, hown, hts⟩ (c_X12_kind l g (M, σ.2) (ov) (zWeeksS S w i) hob hs0 (SmOk_weeks hok hw1 ⟨hi0, hin⟩).1 (i) (by omega)) (cwV 1 hts gX12_weeks_X12_kind rfl rfl rfl (by decide +kernel) ⟨Nat.le_of_ble_eq_true rfl, Nat.le_of_ble_eq_true rfl⟩) (x_preV hK hP (x_recv hK hP (i := 37) (by decide) hob rfl)) rfl rfl hl.1 rfl (lv_room (Nat.le_of_ble_eq_true rfl)) dX12_weeks_34 ⟨Nat.le_of_ble_eq_true rfl, Nat.le_of_ble_eq_true rfl⟩) (fun r_34 hr_34 qr_34 => ?_)
          replace qr_34 : r_34 = (zWeeksS S w i) (2 + 3 * (i) + 0) := qr_34
          refine lv_aload_n hx hb dX12_weeks_37 rfl (lv_at hl 1 rfl) ?_
          refine lv_iload_n hx hb dX12_weeks_38 rfl (lv_at hl 0 rfl) ?_
          refine x_ci (va_runV (As := [.int (iI (i))]) (rest := [.int (iI (r_34)), .int (iI (w)), .int (iI (r_28))]) ⟨hx, hb, hml, hown, hts⟩ (c_X12_figure l g (M, σ.2) (ov) (zWeeksS S w i) hob hs0 (SmOk_weeks hok hw1 ⟨hi0, hin⟩).1 (i) (by omega)) (cwV 1 hts gX12_weeks_X12_figure rfl rfl rfl (by decide +kernel) ⟨Nat.le_of_ble_eq_true rfl, Nat.le_of_ble_eq_true rfl⟩) (x_preV hK hP (x_recv hK hP (i := 37) (by decide) hob rfl)) rfl rfl hl.1 rfl (lv_room (Nat.le_of_ble_eq_true rfl)) dX12_weeks_39 ⟨Nat.le_of_ble_eq_true rfl, Nat.le_of_ble_eq_true rfl⟩) (fun r_39 hr_39 qr_39 => ?_)
          replace qr_39 : r_39 = (zWeeksS S w i) (2 + 3 * (i) + 1) := qr_39
          have hq9 := (SmOk_weeks hok hw1 ⟨hi0, hin⟩).2.2.2 i (by omega) (by omega)
          refine x_ci (va_runS (As := [.int (iI (r_34)), .int (iI (r_39))]) (rest := [.int (iI (w)), .int (iI (r_28))]) ⟨hx, hb, hml, hown, hts⟩ (c_X12_earnsBy l g (M, σ.2) (r_34) (by omega) (r_39) (by omega)) (va_cwS 2 hts gX12_weeks_X12_earnsBy rfl rfl rfl (by decide +kernel) ⟨Nat.le_of_ble_eq_true rfl, Nat.le_of_ble_eq_true rfl⟩) (x_preS hK hP) rfl rfl hl.1 rfl (lv_room (Nat.le_of_ble_eq_true rfl)) dX12_weeks_42 ⟨Nat.le_of_ble_eq_true rfl, Nat.le_of_ble_eq_true rfl⟩) (fun r_42 hr_42 qr_42 => ?_)
          replace qr_42 : r_42 = zWeek ((r_34)).toNat (r_39) := qr_42
          have br_42 := zWeek_rng ((r_34)).toNat (f := (r_39)) (by omega); rw [← qr_42] at br_42
          have hmulb := zMulB w r_42 (by omega) (by omega)
          refine x_imul hx hb dX12_weeks_45 ?_
          refine x_iadd hx hb dX12_weeks_46 ?_
          refine lv_istore_n (lv' := [(3, .int (iI (r_28 + (w * r_42)))), (2, .int (iI (i))), (0, .ref (g.2.2 37)), (1, .int (iI (w)))]) hx hb dX12_weeks_47 rfl hl (by decide) rfl (fun ls hl => ?_)
          refine lv_aload_n hx hb dX12_weeks_48 rfl (lv_at hl 2 rfl) ?_
          refine lv_iload_n hx hb dX12_weeks_49 rfl (lv_at hl 1 rfl) ?_
          refine x_iconst hx hb dX12_weeks_50 ?_
          refine lv_iload_n hx hb dX12_weeks_51 rfl (lv_at hl 0 rfl) ?_
          refine x_sipush (n := 9999) hx hb (by decide +kernel) dX12_weeks_52 ?_
          refine x_icmp_le (tgt := 64) hx hb (by omega) (by omega) dX12_weeks_55 (by decide) (fun c_55 => ?_) (fun c_55 => ?_)
          · refine lv_iload_n hx hb dX12_weeks_64 rfl (lv_at hl 0 rfl) ?_
            refine x_cqv0 (va_runV (As := [.int (iI (i)), .int (iI (2)), .int (iI (r_28 + (w * r_42)))]) (rest := []) ⟨hx, hb, hml, hown, hts⟩ (c_X12_puts l g (M, σ.2) A (ov) (zWeeksS S w i) hob hs0 (SmOk_weeks hok hw1 ⟨hi0, hin⟩).1 (i) (by omega) (2) (by omega) (r_28 + (w * r_42)) (by omega)) (cwV 3 hts gX12_weeks_X12_puts rfl rfl rfl (by decide +kernel) ⟨Nat.le_of_ble_eq_true rfl, Nat.le_of_ble_eq_true rfl⟩) (x_preVQ hK hP hD hS hA (x_recv hK hP (i := 37) (by decide) hob rfl)) rfl rfl hl.1 rfl (lv_room (Nat.le_of_ble_eq_true rfl)) dX12_weeks_65 ⟨by decide, by decide⟩) hS (fun σ1 H locs hpost hP hD hS => ?_)
            obtain ⟨M_4, p1⟩ := σ1
            obtain ⟨hp0, hfrc, hnew⟩ := hpost
            obtain rfl : p1 = σ.2 := hp0
            have hP : xP g (M_4, σ.2) H := hP
            have hD : xD g A (M_4, σ.2) := hD
            have hob : MObj g M_4 ov := (hfrc (37) (by omega)).trans hob
            have hfr := x_frc (F := fun j => j ≠ 38) hfr hfrc (fun j h => by have h : j ≠ 38 := h; omega)
            obtain ⟨S_5, hS_5⟩ : ∃ q : Int → Int, q = upI (zWeeksS S w i) (2 + 3 * (i) + (2)) (r_28 + (w * r_42)) := ⟨_, rfl⟩
            have hs0 : MArr g M_4 38 29 S_5 := by rw [hS_5]; exact hnew
            have rS_5 : ∀ k, inR (S_5 k) := by rw [hS_5]; exact upI_rng (SmOk_weeks hok hw1 ⟨hi0, hin⟩).1 ⟨by omega, by omega⟩
            refine x_iinc (k0 := 1) (lv' := [(2, .int (iI (i + 1))), (3, .int (iI (r_28 + (w * r_42)))), (0, .ref (g.2.2 37)), (1, .int (iI (w)))]) hx hb dX12_weeks_68 hl rfl (by decide) rfl (fun ls hl => ?_)
            refine lv_goto (tgt := 16) hx hb dX12_weeks_71 (by decide) ?_
            have a0 : zWeeksS S w i (2 + 3 * i + 0) = S (2 + 3 * i + 0) := zWeeksS_hi (by omega)
            have a1 : zWeeksS S w i (2 + 3 * i + 1) = S (2 + 3 * i + 1) := zWeeksS_hi (by omega)
            have a2 : zWeeksS S w i (2 + 3 * i + 2) = S (2 + 3 * i + 2) := zWeeksS_hi (by omega)
            have e1 : r_42 = zWeek (mK S i) (mF S i) := by (rw [qr_42, qr_34, qr_39, a0, a1]; first | rfl | done)
            have hs : S_5 = zWeeksS S w (i + 1) := by (rw [hS_5, ← zWeeksS_step hi0]; refine congrArg (upI _ _) ?_; rw [← e1]; omega)
            rw [hs] at hs0
            exact ih_1 (i + 1) (by omega) (by omega) (by omega) (by omega) (M_4) _ _ hob hs0 hfr hP hD hS ls (lv_sub hl [0, 2, 3] rfl)
          · refine x_sipush (n := 9999) hx hb (by decide +kernel) dX12_weeks_58 ?_
            refine lv_goto (tgt := 65) hx hb dX12_weeks_61 (by decide) ?_
            refine x_cqv0 (va_runV (As := [.int (iI (i)), .int (iI (2)), .int (iI (9999))]) (rest := []) ⟨hx, hb, hml, hown, hts⟩ (c_X12_puts l g (M, σ.2) A (ov) (zWeeksS S w i) hob hs0 (SmOk_weeks hok hw1 ⟨hi0, hin⟩).1 (i) (by omega) (2) (by omega) (9999) (by omega)) (cwV 3 hts gX12_weeks_X12_puts rfl rfl rfl (by decide +kernel) ⟨Nat.le_of_ble_eq_true rfl, Nat.le_of_ble_eq_true rfl⟩) (x_preVQ hK hP hD hS hA (x_recv hK hP (i := 37) (by decide) hob rfl)) rfl rfl hl.1 rfl (lv_room (Nat.le_of_ble_eq_true rfl)) dX12_weeks_65 ⟨by decide, by decide⟩) hS (fun σ1 H locs hpost hP hD hS => ?_)
            obtain ⟨M_6, p1⟩ := σ1
            obtain ⟨hp0, hfrc, hnew⟩ := hpost
            obtain rfl : p1 = σ.2 := hp0
            have hP : xP g (M_6, σ.2) H := hP
            have hD : xD g A (M_6, σ.2) := hD
            have hob : MObj g M_6 ov := (hfrc (37) (by omega)).trans hob
            have hfr := x_frc (F := fun j => j ≠ 38) hfr hfrc (fun j h => by have h : j ≠ 38 := h; omega)
            obtain ⟨S_7, hS_7⟩ : ∃ q : Int → Int, q = upI (zWeeksS S w i) (2 + 3 * (i) + (2)) (9999) := ⟨_, rfl⟩
            have hs0 : MArr g M_6 38 29 S_7 := by rw [hS_7]; exact hnew
            have rS_7 : ∀ k, inR (S_7 k) := by rw [hS_7]; exact upI_rng (SmOk_weeks hok hw1 ⟨hi0, hin⟩).1 ⟨by omega, by omega⟩
            refine x_iinc (k0 := 1) (lv' := [(2, .int (iI (i + 1))), (3, .int (iI (r_28 + (w * r_42)))), (0, .ref (g.2.2 37)), (1, .int (iI (w)))]) hx hb dX12_weeks_68 hl rfl (by decide) rfl (fun ls hl => ?_)
            refine lv_goto (tgt := 16) hx hb dX12_weeks_71 (by decide) ?_
            have a0 : zWeeksS S w i (2 + 3 * i + 0) = S (2 + 3 * i + 0) := zWeeksS_hi (by omega)
            have a1 : zWeeksS S w i (2 + 3 * i + 1) = S (2 + 3 * i + 1) := zWeeksS_hi (by omega)
            have a2 : zWeeksS S w i (2 + 3 * i + 2) = S (2 + 3 * i + 2) := zWeeksS_hi (by omega)
            have e1 : r_42 = zWeek (mK S i) (mF S i) := by (rw [qr_42, qr_34, qr_39, a0, a1]; first | rfl | done)
            have hs : S_7 = zWeeksS S w (i + 1) := by (rw [hS_7, ← zWeeksS_step hi0]; refine congrArg (upI _ _) ?_; rw [← e1]; omega)
            rw [hs] at hs0
            exact ih_1 (i + 1) (by omega) (by omega) (by omega) (by omega) (M_6) _ _ hob hs0 hfr hP hD hS ls (lv_sub hl [0, 2, 3] rfl)
    rw [← zWeeksS_0 S w] at hs0
    exact hloop_16 (((S 0 - (0)).toNat) + 1) (0) (by omega) (by omega) (by omega) (by omega) (σ.1) _ _ hob hs0 hfr hP hD hS ls (lv_sub hl [0, 1, 2] rfl)
  · refine x_iconst hx hb dX12_weeks_12 ?_
    refine x_retQ hx hb hr (by omega) ?_ hP hD hS dX12_weeks_13 hlocks
    refine ⟨rfl, hfr, ?_⟩
    left; exact ⟨by omega, rfl, hs0⟩

set_option maxHeartbeats 4000000 in
set_option maxRecDepth 100000 in
theorem c_X12_keep (l : Launch) (g : xG) (σ : xS) (A : Nat → Prop) (ov : Nat → Int) (S : Int → Int) (hob : MObj g σ.1 ov) (hs0 : MArr g σ.1 38 29 S) (hok : SmOk S) (Kp So Sz El KK KF : Int → Int) (h42 : MArr g σ.1 42 8 Kp) (h43 : MArr g σ.1 43 8 So) (h44 : MArr g σ.1 44 8 Sz) (h45 : MArr g σ.1 45 800 El) (h46 : MArr g σ.1 46 8 KK) (h47 : MArr g σ.1 47 8 KF) (hsh : ShOk Kp So Sz El KK KF) (d : Int) (hd : inR d) (wh : Int) (hw : inR wh) (kd : Int) (hkd : inR kd) (f : Int) (hf : inR f) : Met l yX12_keep wsX12_keep ({ frames := 3, cells := 0, slots := 0, locals := 96 }) (va_Pc [.ref (g.2.2 37), .int (iI (d)), .int (iI (wh)), .int (iI (kd)), .int (iI (f))] (xPreQ g A σ)) (x_Qi g A (fun r σ1 => σ1.2 = σ.2 ∧ (∀ j, j ≠ 42 ∧ j ≠ 46 ∧ j ≠ 47 → σ1.1 j = σ.1 j) ∧ ((r = -1 ∧ ¬ zKeepOk d wh kd f ∧ σ1.1 = σ.1) ∨ (r = 0 ∧ zKeepOk d wh kd f ∧ MArr g σ1.1 42 8 (upI Kp d wh) ∧ MArr g σ1.1 46 8 (upI KK d kd) ∧ MArr g σ1.1 47 8 (upI KF d f))))) (0) (0) A := by
  refine Met.ofW (cc := cX12_keep) (maxL := 5) (ret := (some .int)) (by decide) rfl ?_
  intro p e s m args below meth c s₁ B hml hv
  obtain ⟨rfl, hP, hK, hD, hA⟩ := hv
  have hx := B.exec
  have hb := B.bytes
  have hr := B.returns
  have hts := atoms_spec (ws := wsX12_keep) B.pre
  have hown : s.vm.findClass RX12 = some m.cls := findClass_of_methodNamed B.named
  have hlocks := B.notSynchronized
  have hS : va_S A s.heap s.heap [] := va_S.rf
  have hfr : ∀ j, (j ≠ 42 ∧ j ≠ 46 ∧ j ≠ 47) → σ.1 j = σ.1 j := fun _ _ => rfl
  have hl := lv_entry ([.ref (g.2.2 37), .int (iI (d)), .int (iI (wh)), .int (iI (kd)), .int (iI (f))]) (n := 5) (Nat.le_of_ble_eq_true rfl)
  rw [lg_entry_eq]
  generalize (lg_sl ([.ref (g.2.2 37), .int (iI (d)), .int (iI (wh)), .int (iI (kd)), .int (iI (f))]) ++ List.replicate (5 - (lg_sl ([.ref (g.2.2 37), .int (iI (d)), .int (iI (wh)), .int (iI (kd)), .int (iI (f))])).length) Slot.unset).toArray = ls at hl ⊢
  have hl : lv_has ls 5 [(0, .ref (g.2.2 37)), (1, .int (iI (d))), (2, .int (iI (wh))), (3, .int (iI (kd))), (4, .int (iI (f)))] := hl
  have hn0 := hok.2.1
  have hrd0 := hok.2.2.1
  have hw_0 := hts (.fieldLink RX12 22 "TwiceAsRichModel" "kept" "[I") (by decide +kernel)
  have hin_X12 : ∀ w ∈ wsX120, w ∈ wsX12_keep := by decide +kernel
  have hw_2 := hts (.fieldLink RX12 34 "TwiceAsRichModel" "keptKind" "[I") (by decide +kernel)
  have hw_3 := hts (.fieldLink RX12 37 "TwiceAsRichModel" "keptFigure" "[I") (by decide +kernel)
  have hw_4 := hts (.constantLong RX12 50 (7)) (by decide +kernel)
  have hw_5 := hts (.constantLong RX12 247 (9)) (by decide +kernel)
  refine lv_iload_n hx hb dX12_keep_0 rfl (lv_at hl 1 rfl) ?_
  refine x_ci (va_runS (As := [.int (iI (d))]) (rest := []) ⟨hx, hb, hml, hown, hts⟩ (c_X12_isShelf l g σ (d) (by omega)) (va_cwS 1 hts gX12_keep_X12_isShelf rfl rfl rfl (by decide +kernel) ⟨Nat.le_of_ble_eq_true rfl, Nat.le_of_ble_eq_true rfl⟩) (x_preS hK hP) rfl rfl hl.1 rfl (lv_room (Nat.le_of_ble_eq_true rfl)) dX12_keep_1 ⟨Nat.le_of_ble_eq_true rfl, Nat.le_of_ble_eq_true rfl⟩) (fun r_1 hr_1 qr_1 => ?_)
  replace qr_1 : (r_1 = 1 ∧ 0 ≤ (d) ∧ (d) ≤ 7) ∨ (r_1 = 0 ∧ ¬ (0 ≤ (d) ∧ (d) ≤ 7)) := qr_1
  refine x_if_eq (tgt := 47) hx hb (by omega) dX12_keep_4 (by decide) (fun c_4 => ?_) (fun c_4 => ?_)
  · refine x_iconst hx hb dX12_keep_47 ?_
    refine x_retQ hx hb hr (by omega) ?_ hP hD hS dX12_keep_48 hlocks
    refine ⟨rfl, hfr, ?_⟩
    left; exact ⟨rfl, by unfold zKeepOk; omega, rfl⟩
  · refine lv_iload_n hx hb dX12_keep_7 rfl (lv_at hl 2 rfl) ?_
    refine x_i2l hx hb (by omega) dX12_keep_8 ?_
    refine x_lconst (z := 0) hx hb (by decide +kernel) dX12_keep_9 ?_
    refine x_lconst (z := 1) hx hb (by decide +kernel) dX12_keep_10 ?_
    refine x_ci (va_runS (As := [.long (jL (wh)), .long (jL (0)), .long (jL (1))]) (rest := []) ⟨hx, hb, hml, hown, hts⟩ (c_X12_isIn l g σ (wh) (by omega) (0) (by omega) (1) (by omega)) (va_cwS 3 hts gX12_keep_X12_isIn rfl rfl rfl (by decide +kernel) ⟨Nat.le_of_ble_eq_true rfl, Nat.le_of_ble_eq_true rfl⟩) (x_preS hK hP) rfl rfl hl.1 rfl (lv_room (Nat.le_of_ble_eq_true rfl)) dX12_keep_11 ⟨Nat.le_of_ble_eq_true rfl, Nat.le_of_ble_eq_true rfl⟩) (fun r_11 hr_11 qr_11 => ?_)
    replace qr_11 : (r_11 = 1 ∧ (0) ≤ (wh) ∧ (wh) ≤ (1)) ∨ (r_11 = 0 ∧ ¬ ((0) ≤ (wh) ∧ (wh) ≤ (1))) := qr_11
    refine x_if_eq (tgt := 47) hx hb (by omega) dX12_keep_14 (by decide) (fun c_14 => ?_) (fun c_14 => ?_)
    · refine x_iconst hx hb dX12_keep_47 ?_
      refine x_retQ hx hb hr (by omega) ?_ hP hD hS dX12_keep_48 hlocks
      refine ⟨rfl, hfr, ?_⟩
      left; exact ⟨rfl, by unfold zKeepOk; omega, rfl⟩
    · refine lv_iload_n hx hb dX12_keep_17 rfl (lv_at hl 2 rfl) ?_
      refine x_iconst hx hb dX12_keep_18 ?_
      refine x_icmp_ne (tgt := 49) hx hb (by omega) (by omega) dX12_keep_19 (by decide) (fun c_19 => ?_) (fun c_19 => ?_)
      · refine lv_aload_n hx hb dX12_keep_49 rfl (lv_at hl 0 rfl) ?_
        refine x_get (C := RX12) (T := TX12) (N := 24) hx hb hts hin_X12 hown hK hP (37) (by decide) hob rfl 4 (by decide) hw_0 (fun _ h9 => h9) rfl dX12_keep_50 ?_
        refine lv_iload_n hx hb dX12_keep_53 rfl (lv_at hl 1 rfl) ?_
        refine lv_iload_n hx hb dX12_keep_54 rfl (lv_at hl 2 rfl) ?_
        refine x_iast (f := Kp) hx hb hK hP hD hS (42) (by decide) h42 (by omega) (by omega) (by decide) dX12_keep_55 (fun M_1 H locs hnew hne hP hD hS => ?_)
        obtain ⟨f_2, hf_2⟩ : ∃ q : Int → Int, q = (upI Kp (d) (wh)) := ⟨_, rfl⟩
        rw [← hf_2] at hnew
        have hP : xP g (M_1, σ.2) H := hP
        have hD : xD g A (M_1, σ.2) := hD
        have h42 : M_1 (42) = .inl (g.2.1 0, 8, .inl (fun k => iI (f_2 (k : Int)))) := hnew
        have hob : MObj g M_1 ov := (hne (37) (by decide)).trans hob
        have hs0 := (hne (38) (by decide)).trans hs0
        have h43 := (hne (43) (by decide)).trans h43
        have h44 := (hne (44) (by decide)).trans h44
        have h45 := (hne (45) (by decide)).trans h45
        have h46 := (hne (46) (by decide)).trans h46
        have h47 := (hne (47) (by decide)).trans h47
        have hfr := x_fr (F := fun j => j ≠ 42 ∧ j ≠ 46 ∧ j ≠ 47) hfr hne (fun j h => by have h : j ≠ 42 ∧ j ≠ 46 ∧ j ≠ 47 := h; omega)
        refine lv_aload_n hx hb dX12_keep_56 rfl (lv_at hl 0 rfl) ?_
        refine x_get (C := RX12) (T := TX12) (N := 24) hx hb hts hin_X12 hown hK hP (37) (by decide) hob rfl 8 (by decide) hw_2 (fun _ h9 => h9) rfl dX12_keep_57 ?_
        refine lv_iload_n hx hb dX12_keep_60 rfl (lv_at hl 1 rfl) ?_
        refine lv_iload_n hx hb dX12_keep_61 rfl (lv_at hl 3 rfl) ?_
        refine x_iast (f := KK) hx hb hK hP hD hS (46) (by decide) h46 (by omega) (by omega) (by decide) dX12_keep_62 (fun M_3 H locs hnew hne hP hD hS => ?_)
        obtain ⟨f_4, hf_4⟩ : ∃ q : Int → Int, q = (upI KK (d) (kd)) := ⟨_, rfl⟩
        rw [← hf_4] at hnew
        have hP : xP g (M_3, σ.2) H := hP
        have hD : xD g A (M_3, σ.2) := hD
        have h46 : M_3 (46) = .inl (g.2.1 0, 8, .inl (fun k => iI (f_4 (k : Int)))) := hnew
        have hob : MObj g M_3 ov := (hne (37) (by decide)).trans hob
        have hs0 := (hne (38) (by decide)).trans hs0
        have h42 := (hne (42) (by decide)).trans h42
        have h43 := (hne (43) (by decide)).trans h43
        have h44 := (hne (44) (by decide)).trans h44
        have h45 := (hne (45) (by decide)).trans h45
        have h47 := (hne (47) (by decide)).trans h47
        have hfr := x_fr (F := fun j => j ≠ 42 ∧ j ≠ 46 ∧ j ≠ 47) hfr hne (fun j h => by have h : j ≠ 42 ∧ j ≠ 46 ∧ j ≠ 47 := h; omega)
        refine lv_aload_n hx hb dX12_keep_63 rfl (lv_at hl 0 rfl) ?_
        refine x_get (C := RX12) (T := TX12) (N := 24) hx hb hts hin_X12 hown hK hP (37) (by decide) hob rfl 9 (by decide) hw_3 (fun _ h9 => h9) rfl dX12_keep_64 ?_
        refine lv_iload_n hx hb dX12_keep_67 rfl (lv_at hl 1 rfl) ?_
        refine lv_iload hx hb dX12_keep_68 (lv_at hl 4 rfl) ?_
        refine x_iast (f := KF) hx hb hK hP hD hS (47) (by decide) h47 (by omega) (by omega) (by decide) dX12_keep_70 (fun M_5 H locs hnew hne hP hD hS => ?_)
        obtain ⟨f_6, hf_6⟩ : ∃ q : Int → Int, q = (upI KF (d) (f)) := ⟨_, rfl⟩
        rw [← hf_6] at hnew
        have hP : xP g (M_5, σ.2) H := hP
        have hD : xD g A (M_5, σ.2) := hD
        have h47 : M_5 (47) = .inl (g.2.1 0, 8, .inl (fun k => iI (f_6 (k : Int)))) := hnew
        have hob : MObj g M_5 ov := (hne (37) (by decide)).trans hob
        have hs0 := (hne (38) (by decide)).trans hs0
        have h42 := (hne (42) (by decide)).trans h42
        have h43 := (hne (43) (by decide)).trans h43
        have h44 := (hne (44) (by decide)).trans h44
        have h45 := (hne (45) (by decide)).trans h45
        have h46 := (hne (46) (by decide)).trans h46
        have hfr := x_fr (F := fun j => j ≠ 42 ∧ j ≠ 46 ∧ j ≠ 47) hfr hne (fun j h => by have h : j ≠ 42 ∧ j ≠ 46 ∧ j ≠ 47 := h; omega)
        refine x_iconst hx hb dX12_keep_71 ?_
        refine x_retQ hx hb hr (by omega) ?_ hP hD hS dX12_keep_72 hlocks
        refine ⟨rfl, hfr, ?_⟩
        right; refine ⟨rfl, by unfold zKeepOk; omega, ?_, ?_, ?_⟩
        · subst_vars; exact h42
        · subst_vars; exact h46
        · subst_vars; exact h47
      · refine lv_iload_n hx hb dX12_keep_22 rfl (lv_at hl 3 rfl) ?_
        refine x_i2l hx hb (by omega) dX12_keep_23 ?_
        refine x_lconst (z := 0) hx hb (by decide +kernel) dX12_keep_24 ?_
        refine x_ldc2 (z := 7) hx hb hown hw_4 (by decide +kernel) dX12_keep_25 ?_
        refine x_ci (va_runS (As := [.long (jL (kd)), .long (jL (0)), .long (jL (7))]) (rest := []) ⟨hx, hb, hml, hown, hts⟩ (c_X12_isIn l g σ (kd) (by omega) (0) (by omega) (7) (by omega)) (va_cwS 3 hts gX12_keep_X12_isIn rfl rfl rfl (by decide +kernel) ⟨Nat.le_of_ble_eq_true rfl, Nat.le_of_ble_eq_true rfl⟩) (x_preS hK hP) rfl rfl hl.1 rfl (lv_room (Nat.le_of_ble_eq_true rfl)) dX12_keep_28 ⟨Nat.le_of_ble_eq_true rfl, Nat.le_of_ble_eq_true rfl⟩) (fun r_28 hr_28 qr_28 => ?_)
        replace qr_28 : (r_28 = 1 ∧ (0) ≤ (kd) ∧ (kd) ≤ (7)) ∨ (r_28 = 0 ∧ ¬ ((0) ≤ (kd) ∧ (kd) ≤ (7))) := qr_28
        refine x_if_eq (tgt := 47) hx hb (by omega) dX12_keep_31 (by decide) (fun c_31 => ?_) (fun c_31 => ?_)
        · refine x_iconst hx hb dX12_keep_47 ?_
          refine x_retQ hx hb hr (by omega) ?_ hP hD hS dX12_keep_48 hlocks
          refine ⟨rfl, hfr, ?_⟩
          left; exact ⟨rfl, by unfold zKeepOk; omega, rfl⟩
        · refine lv_iload hx hb dX12_keep_34 (lv_at hl 4 rfl) ?_
          refine x_i2l hx hb (by omega) dX12_keep_36 ?_
          refine x_lconst (z := 0) hx hb (by decide +kernel) dX12_keep_37 ?_
          refine x_ldc2 (z := 9) hx hb hown hw_5 (by decide +kernel) dX12_keep_38 ?_
          refine x_ci (va_runS (As := [.long (jL (f)), .long (jL (0)), .long (jL (9))]) (rest := []) ⟨hx, hb, hml, hown, hts⟩ (c_X12_isIn l g σ (f) (by omega) (0) (by omega) (9) (by omega)) (va_cwS 3 hts gX12_keep_X12_isIn rfl rfl rfl (by decide +kernel) ⟨Nat.le_of_ble_eq_true rfl, Nat.le_of_ble_eq_true rfl⟩) (x_preS hK hP) rfl rfl hl.1 rfl (lv_room (Nat.le_of_ble_eq_true rfl)) dX12_keep_41 ⟨Nat.le_of_ble_eq_true rfl, Nat.le_of_ble_eq_true rfl⟩) (fun r_41 hr_41 qr_41 => ?_)
          replace qr_41 : (r_41 = 1 ∧ (0) ≤ (f) ∧ (f) ≤ (9)) ∨ (r_41 = 0 ∧ ¬ ((0) ≤ (f) ∧ (f) ≤ (9))) := qr_41
          refine x_if_ne (tgt := 49) hx hb (by omega) dX12_keep_44 (by decide) (fun c_44 => ?_) (fun c_44 => ?_)
          · refine lv_aload_n hx hb dX12_keep_49 rfl (lv_at hl 0 rfl) ?_
            refine x_get (C := RX12) (T := TX12) (N := 24) hx hb hts hin_X12 hown hK hP (37) (by decide) hob rfl 4 (by decide) hw_0 (fun _ h9 => h9) rfl dX12_keep_50 ?_
            refine lv_iload_n hx hb dX12_keep_53 rfl (lv_at hl 1 rfl) ?_
            refine lv_iload_n hx hb dX12_keep_54 rfl (lv_at hl 2 rfl) ?_
            refine x_iast (f := Kp) hx hb hK hP hD hS (42) (by decide) h42 (by omega) (by omega) (by decide) dX12_keep_55 (fun M_7 H locs hnew hne hP hD hS => ?_)
            obtain ⟨f_8, hf_8⟩ : ∃ q : Int → Int, q = (upI Kp (d) (wh)) := ⟨_, rfl⟩
            rw [← hf_8] at hnew
            have hP : xP g (M_7, σ.2) H := hP
            have hD : xD g A (M_7, σ.2) := hD
            have h42 : M_7 (42) = .inl (g.2.1 0, 8, .inl (fun k => iI (f_8 (k : Int)))) := hnew
            have hob : MObj g M_7 ov := (hne (37) (by decide)).trans hob
            have hs0 := (hne (38) (by decide)).trans hs0
            have h43 := (hne (43) (by decide)).trans h43
            have h44 := (hne (44) (by decide)).trans h44
            have h45 := (hne (45) (by decide)).trans h45
            have h46 := (hne (46) (by decide)).trans h46
            have h47 := (hne (47) (by decide)).trans h47
            have hfr := x_fr (F := fun j => j ≠ 42 ∧ j ≠ 46 ∧ j ≠ 47) hfr hne (fun j h => by have h : j ≠ 42 ∧ j ≠ 46 ∧ j ≠ 47 := h; omega)
            refine lv_aload_n hx hb dX12_keep_56 rfl (lv_at hl 0 rfl) ?_
            refine x_get (C := RX12) (T := TX12) (N := 24) hx hb hts hin_X12 hown hK hP (37) (by decide) hob rfl 8 (by decide) hw_2 (fun _ h9 => h9) rfl dX12_keep_57 ?_
            refine lv_iload_n hx hb dX12_keep_60 rfl (lv_at hl 1 rfl) ?_
            refine lv_iload_n hx hb dX12_keep_61 rfl (lv_at hl 3 rfl) ?_
            refine x_iast (f := KK) hx hb hK hP hD hS (46) (by decide) h46 (by omega) (by omega) (by decide) dX12_keep_62 (fun M_9 H locs hnew hne hP hD hS => ?_)
            obtain ⟨f_10, hf_10⟩ : ∃ q : Int → Int, q = (upI KK (d) (kd)) := ⟨_, rfl⟩
            rw [← hf_10] at hnew
            have hP : xP g (M_9, σ.2) H := hP
            have hD : xD g A (M_9, σ.2) := hD
            have h46 : M_9 (46) = .inl (g.2.1 0, 8, .inl (fun k => iI (f_10 (k : Int)))) := hnew
            have hob : MObj g M_9 ov := (hne (37) (by decide)).trans hob
            have hs0 := (hne (38) (by decide)).trans hs0
            have h42 := (hne (42) (by decide)).trans h42
            have h43 := (hne (43) (by decide)).trans h43
            have h44 := (hne (44) (by decide)).trans h44
            have h45 := (hne (45) (by decide)).trans h45
            have h47 := (hne (47) (by decide)).trans h47
            have hfr := x_fr (F := fun j => j ≠ 42 ∧ j ≠ 46 ∧ j ≠ 47) hfr hne (fun j h => by have h : j ≠ 42 ∧ j ≠ 46 ∧ j ≠ 47 := h; omega)
            refine lv_aload_n hx hb dX12_keep_63 rfl (lv_at hl 0 rfl) ?_
            refine x_get (C := RX12) (T := TX12) (N := 24) hx hb hts hin_X12 hown hK hP (37) (by decide) hob rfl 9 (by decide) hw_3 (fun _ h9 => h9) rfl dX12_keep_64 ?_
            refine lv_iload_n hx hb dX12_keep_67 rfl (lv_at hl 1 rfl) ?_
            refine lv_iload hx hb dX12_keep_68 (lv_at hl 4 rfl) ?_
            refine x_iast (f := KF) hx hb hK hP hD hS (47) (by decide) h47 (by omega) (by omega) (by decide) dX12_keep_70 (fun M_11 H locs hnew hne hP hD hS => ?_)
            obtain ⟨f_12, hf_12⟩ : ∃ q : Int → Int, q = (upI KF (d) (f)) := ⟨_, rfl⟩
            rw [← hf_12] at hnew
            have hP : xP g (M_11, σ.2) H := hP
            have hD : xD g A (M_11, σ.2) := hD
            have h47 : M_11 (47) = .inl (g.2.1 0, 8, .inl (fun k => iI (f_12 (k : Int)))) := hnew
            have hob : MObj g M_11 ov := (hne (37) (by decide)).trans hob
            have hs0 := (hne (38) (by decide)).trans hs0
            have h42 := (hne (42) (by decide)).trans h42
            have h43 := (hne (43) (by decide)).trans h43
            have h44 := (hne (44) (by decide)).trans h44
            have h45 := (hne (45) (by decide)).trans h45
            have h46 := (hne (46) (by decide)).trans h46
            have hfr := x_fr (F := fun j => j ≠ 42 ∧ j ≠ 46 ∧ j ≠ 47) hfr hne (fun j h => by have h : j ≠ 42 ∧ j ≠ 46 ∧ j ≠ 47 := h; omega)
            refine x_iconst hx hb dX12_keep_71 ?_
            refine x_retQ hx hb hr (by omega) ?_ hP hD hS dX12_keep_72 hlocks
            refine ⟨rfl, hfr, ?_⟩
            right; refine ⟨rfl, by unfold zKeepOk; omega, ?_, ?_, ?_⟩
            · subst_vars; exact h42
            · subst_vars; exact h46
            · subst_vars; exact h47
          · refine x_iconst hx hb dX12_keep_47 ?_
            refine x_retQ hx hb hr (by omega) ?_ hP hD hS dX12_keep_48 hlocks
            refine ⟨rfl, hfr, ?_⟩
            left; exact ⟨rfl, by unfold zKeepOk; omega, rfl⟩

set_option maxHeartbeats 4000000 in
set_option maxRecDepth 100000 in
theorem c_X12_row (l : Launch) (g : xG) (σ : xS) (A : Nat → Prop) (ov : Nat → Int) (S : Int → Int) (hob : MObj g σ.1 ov) (hs0 : MArr g σ.1 38 29 S) (hok : SmOk S) (Kp So Sz El KK KF : Int → Int) (h42 : MArr g σ.1 42 8 Kp) (h43 : MArr g σ.1 43 8 So) (h44 : MArr g σ.1 44 8 Sz) (h45 : MArr g σ.1 45 800 El) (h46 : MArr g σ.1 46 8 KK) (h47 : MArr g σ.1 47 8 KF) (hsh : ShOk Kp So Sz El KK KF) (d : Int) (hd : inR d) (o : Int) (ho : inR o) (n : Int) (hn : inR n) : Met l yX12_row wsX12_row ({ frames := 3, cells := 0, slots := 0, locals := 96 }) (va_Pc [.ref (g.2.2 37), .int (iI (d)), .int (iI (o)), .int (iI (n))] (xPreQ g A σ)) (x_Qi g A (fun r σ1 => σ1.2 = σ.2 ∧ (∀ j, j ≠ 42 ∧ j ≠ 43 ∧ j ≠ 44 ∧ j ≠ 45 → σ1.1 j = σ.1 j) ∧ ((r ≠ 0 ∧ r = zRowMk d o n ∧ σ1.1 = σ.1) ∨ (r = 0 ∧ zRowMk d o n = 0 ∧ MArr g σ1.1 42 8 (upI Kp d 2) ∧ MArr g σ1.1 43 8 (upI So d o) ∧ MArr g σ1.1 44 8 (upI Sz d n) ∧ MArr g σ1.1 45 800 (zZero El (100 * d) 100))))) (0) (0) A := by
  refine Met.ofW (cc := cX12_row) (maxL := 5) (ret := (some .int)) (by decide) rfl ?_
  intro p e s m args below meth c s₁ B hml hv
  obtain ⟨rfl, hP, hK, hD, hA⟩ := hv
  have hx := B.exec
  have hb := B.bytes
  have hr := B.returns
  have hts := atoms_spec (ws := wsX12_row) B.pre
  have hown : s.vm.findClass RX12 = some m.cls := findClass_of_methodNamed B.named
  have hlocks := B.notSynchronized
  have hS : va_S A s.heap s.heap [] := va_S.rf
  have hfr : ∀ j, (j ≠ 42 ∧ j ≠ 43 ∧ j ≠ 44 ∧ j ≠ 45) → σ.1 j = σ.1 j := fun _ _ => rfl
  have hl := lv_entry ([.ref (g.2.2 37), .int (iI (d)), .int (iI (o)), .int (iI (n))]) (n := 5) (Nat.le_of_ble_eq_true rfl)
  rw [lg_entry_eq]
  generalize (lg_sl ([.ref (g.2.2 37), .int (iI (d)), .int (iI (o)), .int (iI (n))]) ++ List.replicate (5 - (lg_sl ([.ref (g.2.2 37), .int (iI (d)), .int (iI (o)), .int (iI (n))])).length) Slot.unset).toArray = ls at hl ⊢
  have hl : lv_has ls 5 [(0, .ref (g.2.2 37)), (1, .int (iI (d))), (2, .int (iI (o))), (3, .int (iI (n)))] := hl
  have hn0 := hok.2.1
  have hrd0 := hok.2.2.1
  have hw_0 := hts (.constantLong RX12 226 (2)) (by decide +kernel)
  have hw_1 := hts (.fieldLink RX12 22 "TwiceAsRichModel" "kept" "[I") (by decide +kernel)
  have hin_X12 : ∀ w ∈ wsX120, w ∈ wsX12_row := by decide +kernel
  have hw_3 := hts (.fieldLink RX12 25 "TwiceAsRichModel" "sort" "[I") (by decide +kernel)
  have hw_4 := hts (.fieldLink RX12 28 "TwiceAsRichModel" "size" "[I") (by decide +kernel)
  have hw_5 := hts (.fieldLink RX12 31 "TwiceAsRichModel" "element" "[I") (by decide +kernel)
  refine lv_iload_n hx hb dX12_row_0 rfl (lv_at hl 1 rfl) ?_
  refine x_ci (va_runS (As := [.int (iI (d))]) (rest := []) ⟨hx, hb, hml, hown, hts⟩ (c_X12_isShelf l g σ (d) (by omega)) (va_cwS 1 hts gX12_row_X12_isShelf rfl rfl rfl (by decide +kernel) ⟨Nat.le_of_ble_eq_true rfl, Nat.le_of_ble_eq_true rfl⟩) (x_preS hK hP) rfl rfl hl.1 rfl (lv_room (Nat.le_of_ble_eq_true rfl)) dX12_row_1 ⟨Nat.le_of_ble_eq_true rfl, Nat.le_of_ble_eq_true rfl⟩) (fun r_1 hr_1 qr_1 => ?_)
  replace qr_1 : (r_1 = 1 ∧ 0 ≤ (d) ∧ (d) ≤ 7) ∨ (r_1 = 0 ∧ ¬ (0 ≤ (d) ∧ (d) ≤ 7)) := qr_1
  refine x_if_eq (tgt := 25) hx hb (by omega) dX12_row_4 (by decide) (fun c_4 => ?_) (fun c_4 => ?_)
  · refine x_iconst hx hb dX12_row_25 ?_
    refine x_retQ hx hb hr (by omega) ?_ hP hD hS dX12_row_26 hlocks
    refine ⟨rfl, hfr, ?_⟩
    left; exact ⟨by omega, by (unfold zRowMk; rw [if_pos (by omega)]), rfl⟩
  · refine lv_iload_n hx hb dX12_row_7 rfl (lv_at hl 2 rfl) ?_
    refine x_i2l hx hb (by omega) dX12_row_8 ?_
    refine x_lconst (z := 0) hx hb (by decide +kernel) dX12_row_9 ?_
    refine x_ldc2 (z := 2) hx hb hown hw_0 (by decide +kernel) dX12_row_10 ?_
    refine x_ci (va_runS (As := [.long (jL (o)), .long (jL (0)), .long (jL (2))]) (rest := []) ⟨hx, hb, hml, hown, hts⟩ (c_X12_isIn l g σ (o) (by omega) (0) (by omega) (2) (by omega)) (va_cwS 3 hts gX12_row_X12_isIn rfl rfl rfl (by decide +kernel) ⟨Nat.le_of_ble_eq_true rfl, Nat.le_of_ble_eq_true rfl⟩) (x_preS hK hP) rfl rfl hl.1 rfl (lv_room (Nat.le_of_ble_eq_true rfl)) dX12_row_13 ⟨Nat.le_of_ble_eq_true rfl, Nat.le_of_ble_eq_true rfl⟩) (fun r_13 hr_13 qr_13 => ?_)
    replace qr_13 : (r_13 = 1 ∧ (0) ≤ (o) ∧ (o) ≤ (2)) ∨ (r_13 = 0 ∧ ¬ ((0) ≤ (o) ∧ (o) ≤ (2))) := qr_13
    refine x_if_eq (tgt := 25) hx hb (by omega) dX12_row_16 (by decide) (fun c_16 => ?_) (fun c_16 => ?_)
    · refine x_iconst hx hb dX12_row_25 ?_
      refine x_retQ hx hb hr (by omega) ?_ hP hD hS dX12_row_26 hlocks
      refine ⟨rfl, hfr, ?_⟩
      left; exact ⟨by omega, by (unfold zRowMk; rw [if_pos (by omega)]), rfl⟩
    · refine lv_iload_n hx hb dX12_row_19 rfl (lv_at hl 3 rfl) ?_
      refine x_bipush (n := 100) hx hb (by decide +kernel) dX12_row_20 ?_
      refine x_icmp_le (tgt := 27) hx hb (by omega) (by omega) dX12_row_22 (by decide) (fun c_22 => ?_) (fun c_22 => ?_)
      · refine lv_iload_n hx hb dX12_row_27 rfl (lv_at hl 3 rfl) ?_
        refine x_if_ge (tgt := 34) hx hb (by omega) dX12_row_28 (by decide) (fun c_28 => ?_) (fun c_28 => ?_)
        · refine lv_aload_n hx hb dX12_row_34 rfl (lv_at hl 0 rfl) ?_
          refine x_get (C := RX12) (T := TX12) (N := 24) hx hb hts hin_X12 hown hK hP (37) (by decide) hob rfl 4 (by decide) hw_1 (fun _ h9 => h9) rfl dX12_row_35 ?_
          refine lv_iload_n hx hb dX12_row_38 rfl (lv_at hl 1 rfl) ?_
          refine x_iconst hx hb dX12_row_39 ?_
          refine x_iast (f := Kp) hx hb hK hP hD hS (42) (by decide) h42 (by omega) (by omega) (by decide) dX12_row_40 (fun M_1 H locs hnew hne hP hD hS => ?_)
          obtain ⟨f_2, hf_2⟩ : ∃ q : Int → Int, q = (upI Kp (d) (2)) := ⟨_, rfl⟩
          rw [← hf_2] at hnew
          have hP : xP g (M_1, σ.2) H := hP
          have hD : xD g A (M_1, σ.2) := hD
          have h42 : M_1 (42) = .inl (g.2.1 0, 8, .inl (fun k => iI (f_2 (k : Int)))) := hnew
          have hob : MObj g M_1 ov := (hne (37) (by decide)).trans hob
          have hs0 := (hne (38) (by decide)).trans hs0
          have h43 := (hne (43) (by decide)).trans h43
          have h44 := (hne (44) (by decide)).trans h44
          have h45 := (hne (45) (by decide)).trans h45
          have h46 := (hne (46) (by decide)).trans h46
          have h47 := (hne (47) (by decide)).trans h47
          have hfr := x_fr (F := fun j => j ≠ 42 ∧ j ≠ 43 ∧ j ≠ 44 ∧ j ≠ 45) hfr hne (fun j h => by have h : j ≠ 42 ∧ j ≠ 43 ∧ j ≠ 44 ∧ j ≠ 45 := h; omega)
          refine lv_aload_n hx hb dX12_row_41 rfl (lv_at hl 0 rfl) ?_
          refine x_get (C := RX12) (T := TX12) (N := 24) hx hb hts hin_X12 hown hK hP (37) (by decide) hob rfl 5 (by decide) hw_3 (fun _ h9 => h9) rfl dX12_row_42 ?_
          refine lv_iload_n hx hb dX12_row_45 rfl (lv_at hl 1 rfl) ?_
          refine lv_iload_n hx hb dX12_row_46 rfl (lv_at hl 2 rfl) ?_
          refine x_iast (f := So) hx hb hK hP hD hS (43) (by decide) h43 (by omega) (by omega) (by decide) dX12_row_47 (fun M_3 H locs hnew hne hP hD hS => ?_)
          obtain ⟨f_4, hf_4⟩ : ∃ q : Int → Int, q = (upI So (d) (o)) := ⟨_, rfl⟩
          rw [← hf_4] at hnew
          have hP : xP g (M_3, σ.2) H := hP
          have hD : xD g A (M_3, σ.2) := hD
          have h43 : M_3 (43) = .inl (g.2.1 0, 8, .inl (fun k => iI (f_4 (k : Int)))) := hnew
          have hob : MObj g M_3 ov := (hne (37) (by decide)).trans hob
          have hs0 := (hne (38) (by decide)).trans hs0
          have h42 := (hne (42) (by decide)).trans h42
          have h44 := (hne (44) (by decide)).trans h44
          have h45 := (hne (45) (by decide)).trans h45
          have h46 := (hne (46) (by decide)).trans h46
          have h47 := (hne (47) (by decide)).trans h47
          have hfr := x_fr (F := fun j => j ≠ 42 ∧ j ≠ 43 ∧ j ≠ 44 ∧ j ≠ 45) hfr hne (fun j h => by have h : j ≠ 42 ∧ j ≠ 43 ∧ j ≠ 44 ∧ j ≠ 45 := h; omega)
          refine lv_aload_n hx hb dX12_row_48 rfl (lv_at hl 0 rfl) ?_
          refine x_get (C := RX12) (T := TX12) (N := 24) hx hb hts hin_X12 hown hK hP (37) (by decide) hob rfl 6 (by decide) hw_4 (fun _ h9 => h9) rfl dX12_row_49 ?_
          refine lv_iload_n hx hb dX12_row_52 rfl (lv_at hl 1 rfl) ?_
          refine lv_iload_n hx hb dX12_row_53 rfl (lv_at hl 3 rfl) ?_
          refine x_iast (f := Sz) hx hb hK hP hD hS (44) (by decide) h44 (by omega) (by omega) (by decide) dX12_row_54 (fun M_5 H locs hnew hne hP hD hS => ?_)
          obtain ⟨f_6, hf_6⟩ : ∃ q : Int → Int, q = (upI Sz (d) (n)) := ⟨_, rfl⟩
          rw [← hf_6] at hnew
          have hP : xP g (M_5, σ.2) H := hP
          have hD : xD g A (M_5, σ.2) := hD
          have h44 : M_5 (44) = .inl (g.2.1 0, 8, .inl (fun k => iI (f_6 (k : Int)))) := hnew
          have hob : MObj g M_5 ov := (hne (37) (by decide)).trans hob
          have hs0 := (hne (38) (by decide)).trans hs0
          have h42 := (hne (42) (by decide)).trans h42
          have h43 := (hne (43) (by decide)).trans h43
          have h45 := (hne (45) (by decide)).trans h45
          have h46 := (hne (46) (by decide)).trans h46
          have h47 := (hne (47) (by decide)).trans h47
          have hfr := x_fr (F := fun j => j ≠ 42 ∧ j ≠ 43 ∧ j ≠ 44 ∧ j ≠ 45) hfr hne (fun j h => by have h : j ≠ 42 ∧ j ≠ 43 ∧ j ≠ 44 ∧ j ≠ 45 := h; omega)
          refine x_iconst hx hb dX12_row_55 ?_
          refine lv_istore (lv' := [(4, .int (iI (0))), (0, .ref (g.2.2 37)), (1, .int (iI (d))), (2, .int (iI (o))), (3, .int (iI (n)))]) hx hb dX12_row_56 hl (by decide) rfl (fun ls hl => ?_)
          have hloop_58 : ∀ (k : Nat) (i : Int), ((100 : Int) - i).toNat < k → (hi0 : 0 ≤ i) → (hin : i ≤ 100) → ∀ (M : xM) (H : Heap) (locs : List Loc), (hob : M (37) = .inr (12, [.ref (g.2.2 38), .ref (g.2.2 39), .ref (g.2.2 40), .ref (g.2.2 41), .ref (g.2.2 42), .ref (g.2.2 43), .ref (g.2.2 44), .ref (g.2.2 45), .ref (g.2.2 46), .ref (g.2.2 47), .int (iI (ov 10)), .int (iI (ov 11)), .int (iI (ov 12)), .int (iI (ov 13)), .int (iI (ov 14)), .int (iI (ov 15)), .ref (g.2.2 48), .int (iI (ov 17)), .int (iI (ov 18)), .int (iI (ov 19)), .int (iI (ov 20)), .int (iI (ov 21)), .ref (g.2.2 49), .int (iI (ov 23))])) → (hs0 : M (38) = .inl (g.2.1 0, 29, .inl (fun k => iI (S (k : Int))))) → (h42 : M (42) = .inl (g.2.1 0, 8, .inl (fun k => iI (f_2 (k : Int))))) → (h43 : M (43) = .inl (g.2.1 0, 8, .inl (fun k => iI (f_4 (k : Int))))) → (h44 : M (44) = .inl (g.2.1 0, 8, .inl (fun k => iI (f_6 (k : Int))))) → (h45 : M (45) = .inl (g.2.1 0, 800, .inl (fun k => iI (zZero El (100 * d) i (k : Int))))) → (h46 : M (46) = .inl (g.2.1 0, 8, .inl (fun k => iI (KK (k : Int))))) → (h47 : M (47) = .inl (g.2.1 0, 8, .inl (fun k => iI (KF (k : Int))))) → (hfr : ∀ j, (j ≠ 42 ∧ j ≠ 43 ∧ j ≠ 44 ∧ j ≠ 45) → M j = σ.1 j) → xP g (M, σ.2) H → xD g A (M, σ.2) → va_S A s.heap H locs → ∀ (ls : Array Slot), lv_has ls 5 [(4, .int (iI (i))), (0, .ref (g.2.2 37)), (1, .int (iI (d))), (2, .int (iI (o))), (3, .int (iI (n)))] → W p l e (headSpec wsX12_row ({ frames := 3, cells := 0, slots := 0, locals := 96 })).room s m ([.ref (g.2.2 37), .int (iI (d)), .int (iI (o)), .int (iI (n))] : List Value).toArray below meth c H locs 0 0 (MQ below (x_Qi g A (fun r σ1 => σ1.2 = σ.2 ∧ (∀ j, j ≠ 42 ∧ j ≠ 43 ∧ j ≠ 44 ∧ j ≠ 45 → σ1.1 j = σ.1 j) ∧ ((r ≠ 0 ∧ r = zRowMk d o n ∧ σ1.1 = σ.1) ∨ (r = 0 ∧ zRowMk d o n = 0 ∧ MArr g σ1.1 42 8 (upI Kp d 2) ∧ MArr g σ1.1 43 8 (upI So d o) ∧ MArr g σ1.1 44 8 (upI Sz d n) ∧ MArr g σ1.1 45 800 (zZero El (100 * d) 100))))) ([.ref (g.2.2 37), .int (iI (d)), .int (iI (o)), .int (iI (n))] : List Value).toArray s (0) (0) A) (F0 m 58 ls []) := by
            intro k
            induction k with
            | zero =>
              intros; exact absurd (by assumption) (Nat.not_lt_zero _)
            | succ k ih =>
              intro i hmeas hi0 hin M H locs hob hs0 h42 h43 h44 h45 h46 h47 hfr hP hD hS ls hl
              have ih_7 := ih
              refine lv_iload hx hb dX12_row_58 (lv_at hl 0 rfl) ?_
              refine x_bipush (n := 100) hx hb (by decide +kernel) dX12_row_60 ?_
              refine x_icmp_ge (tgt := 84) hx hb (by omega) (by omega) dX12_row_62 (by decide) (fun c_62 => ?_) (fun c_62 => ?_)
              · refine x_iconst hx hb dX12_row_84 ?_
                refine x_retQ hx hb hr (by omega) ?_ hP hD hS dX12_row_85 hlocks
                refine ⟨rfl, hfr, ?_⟩
                right; refine ⟨rfl, by (unfold zRowMk; rw [if_neg (by omega), if_neg (by omega)]), ?_, ?_, ?_, ?_⟩
                · subst_vars; exact h42
                · subst_vars; exact h43
                · subst_vars; exact h44
                · have e : i = 100 := by omega
                  rw [e] at h45; exact h45
              · refine lv_aload_n hx hb dX12_row_65 rfl (lv_at hl 1 rfl) ?_
                refine x_get (C := RX12) (T := TX12) (N := 24) hx hb hts hin_X12 hown hK hP (37) (by decide) hob rfl 7 (by decide) hw_5 (fun _ h9 => h9) rfl dX12_row_66 ?_
                refine x_bipush (n := 100) hx hb (by decide +kernel) dX12_row_69 ?_
                refine lv_iload_n hx hb dX12_row_71 rfl (lv_at hl 2 rfl) ?_
                refine x_imul hx hb dX12_row_72 ?_
                refine lv_iload hx hb dX12_row_73 (lv_at hl 0 rfl) ?_
                refine x_iadd hx hb dX12_row_75 ?_
                refine x_iconst hx hb dX12_row_76 ?_
                refine x_iast (f := zZero El (100 * d) i) hx hb hK hP hD hS (45) (by decide) h45 (by omega) (by omega) (by decide) dX12_row_77 (fun M_8 H locs hnew hne hP hD hS => ?_)
                obtain ⟨f_9, hf_9⟩ : ∃ q : Int → Int, q = (upI (zZero El (100 * d) i) ((100 * d) + i) (0)) := ⟨_, rfl⟩
                rw [← hf_9] at hnew
                have hP : xP g (M_8, σ.2) H := hP
                have hD : xD g A (M_8, σ.2) := hD
                have h45 : M_8 (45) = .inl (g.2.1 0, 800, .inl (fun k => iI (f_9 (k : Int)))) := hnew
                have hob : MObj g M_8 ov := (hne (37) (by decide)).trans hob
                have hs0 := (hne (38) (by decide)).trans hs0
                have h42 := (hne (42) (by decide)).trans h42
                have h43 := (hne (43) (by decide)).trans h43
                have h44 := (hne (44) (by decide)).trans h44
                have h46 := (hne (46) (by decide)).trans h46
                have h47 := (hne (47) (by decide)).trans h47
                have hfr := x_fr (F := fun j => j ≠ 42 ∧ j ≠ 43 ∧ j ≠ 44 ∧ j ≠ 45) hfr hne (fun j h => by have h : j ≠ 42 ∧ j ≠ 43 ∧ j ≠ 44 ∧ j ≠ 45 := h; omega)
                refine x_iinc (k0 := 0) (lv' := [(4, .int (iI (i + 1))), (0, .ref (g.2.2 37)), (1, .int (iI (d))), (2, .int (iI (o))), (3, .int (iI (n)))]) hx hb dX12_row_78 hl rfl (by decide) rfl (fun ls hl => ?_)
                refine lv_goto (tgt := 58) hx hb dX12_row_81 (by decide) ?_
                have hs : f_9 = zZero El (100 * d) (i + 1) := by rw [hf_9]; exact zZero_step hi0
                rw [hs] at h45
                exact ih_7 (i + 1) (by omega) (by omega) (by omega) (M_8) _ _ hob hs0 h42 h43 h44 h45 h46 h47 hfr hP hD hS ls (lv_sub hl [0, 1, 2, 3, 4] rfl)
          rw [← zZero_0 El (100 * d)] at h45
          exact hloop_58 ((((100 : Int) - (0)).toNat) + 1) (0) (by omega) (by omega) (by omega) (M_5) _ _ hob hs0 h42 h43 h44 h45 h46 h47 hfr hP hD hS ls (lv_sub hl [0, 1, 2, 3, 4] rfl)
        · refine x_bipush (n := -14) hx hb (by decide +kernel) dX12_row_31 ?_
          refine x_retQ hx hb hr (by omega) ?_ hP hD hS dX12_row_33 hlocks
          refine ⟨rfl, hfr, ?_⟩
          left; exact ⟨by omega, by (unfold zRowMk; rw [if_neg (by omega), if_pos (by omega)]), rfl⟩
      · refine x_iconst hx hb dX12_row_25 ?_
        refine x_retQ hx hb hr (by omega) ?_ hP hD hS dX12_row_26 hlocks
        refine ⟨rfl, hfr, ?_⟩
        left; exact ⟨by omega, by (unfold zRowMk; rw [if_pos (by omega)]), rfl⟩

set_option maxHeartbeats 4000000 in
set_option maxRecDepth 100000 in
theorem c_X12_put (l : Launch) (g : xG) (σ : xS) (A : Nat → Prop) (ov : Nat → Int) (S : Int → Int) (hob : MObj g σ.1 ov) (hs0 : MArr g σ.1 38 29 S) (hok : SmOk S) (Kp So Sz El KK KF : Int → Int) (h42 : MArr g σ.1 42 8 Kp) (h43 : MArr g σ.1 43 8 So) (h44 : MArr g σ.1 44 8 Sz) (h45 : MArr g σ.1 45 800 El) (h46 : MArr g σ.1 46 8 KK) (h47 : MArr g σ.1 47 8 KF) (hsh : ShOk Kp So Sz El KK KF) (d : Int) (hd : inR d) (i0 : Int) (hi : inR i0) (v : Int) (hv : inR v) : Met l yX12_put wsX12_put ({ frames := 4, cells := 0, slots := 0, locals := 128 }) (va_Pc [.ref (g.2.2 37), .int (iI (d)), .int (iI (i0)), .int (iI (v))] (xPreQ g A σ)) (x_Qi g A (fun r σ1 => σ1.2 = σ.2 ∧ (∀ j, j ≠ 45 → σ1.1 j = σ.1 j) ∧ ((r ≠ 0 ∧ r = zPutR Kp So Sz d i0 ∧ σ1.1 = σ.1) ∨ (r = 0 ∧ zPutR Kp So Sz d i0 = 0 ∧ MArr g σ1.1 45 800 (upI El (100 * d + i0) (zLow (So d) v)))))) (0) (0) A := by
  refine Met.ofW (cc := cX12_put) (maxL := 5) (ret := (some .int)) (by decide) rfl ?_
  intro p e s m args below meth c s₁ B hml hv
  obtain ⟨rfl, hP, hK, hD, hA⟩ := hv
  have hx := B.exec
  have hb := B.bytes
  have hr := B.returns
  have hts := atoms_spec (ws := wsX12_put) B.pre
  have hown : s.vm.findClass RX12 = some m.cls := findClass_of_methodNamed B.named
  have hlocks := B.notSynchronized
  have hS : va_S A s.heap s.heap [] := va_S.rf
  have hfr : ∀ j, (j ≠ 45) → σ.1 j = σ.1 j := fun _ _ => rfl
  have hl := lv_entry ([.ref (g.2.2 37), .int (iI (d)), .int (iI (i0)), .int (iI (v))]) (n := 5) (Nat.le_of_ble_eq_true rfl)
  rw [lg_entry_eq]
  generalize (lg_sl ([.ref (g.2.2 37), .int (iI (d)), .int (iI (i0)), .int (iI (v))]) ++ List.replicate (5 - (lg_sl ([.ref (g.2.2 37), .int (iI (d)), .int (iI (i0)), .int (iI (v))])).length) Slot.unset).toArray = ls at hl ⊢
  have hl : lv_has ls 5 [(0, .ref (g.2.2 37)), (1, .int (iI (d))), (2, .int (iI (i0))), (3, .int (iI (v)))] := hl
  have hn0 := hok.2.1
  have hrd0 := hok.2.2.1
  have hw_0 := hts (.fieldLink RX12 28 "TwiceAsRichModel" "size" "[I") (by decide +kernel)
  have hin_X12 : ∀ w ∈ wsX120, w ∈ wsX12_put := by decide +kernel
  have hw_2 := hts (.fieldLink RX12 31 "TwiceAsRichModel" "element" "[I") (by decide +kernel)
  have hw_3 := hts (.fieldLink RX12 25 "TwiceAsRichModel" "sort" "[I") (by decide +kernel)
  refine lv_aload_n hx hb dX12_put_0 rfl (lv_at hl 0 rfl) ?_
  refine lv_iload_n hx hb dX12_put_1 rfl (lv_at hl 1 rfl) ?_
  refine x_iconst hx hb dX12_put_2 ?_
  refine x_ci (va_runV (As := [.int (iI (d)), .int (iI (-1))]) (rest := []) ⟨hx, hb, hml, hown, hts⟩ (c_X12_wrongRow l g σ (ov) S hob hs0 hok Kp So Sz El KK KF h42 h43 h44 h45 h46 h47 hsh (d) (by omega) (-1) (by omega)) (cwV 2 hts gX12_put_X12_wrongRow rfl rfl rfl (by decide +kernel) ⟨Nat.le_of_ble_eq_true rfl, Nat.le_of_ble_eq_true rfl⟩) (x_preV hK hP (x_recv hK hP (i := 37) (by decide) hob rfl)) rfl rfl hl.1 rfl (lv_room (Nat.le_of_ble_eq_true rfl)) dX12_put_3 ⟨Nat.le_of_ble_eq_true rfl, Nat.le_of_ble_eq_true rfl⟩) (fun r_3 hr_3 qr_3 => ?_)
  replace qr_3 : r_3 = zRowR Kp So (d) (-1) := qr_3
  refine lv_istore (lv' := [(4, .int (iI (r_3))), (0, .ref (g.2.2 37)), (1, .int (iI (d))), (2, .int (iI (i0))), (3, .int (iI (v)))]) hx hb dX12_put_6 hl (by decide) rfl (fun ls hl => ?_)
  refine lv_iload hx hb dX12_put_8 (lv_at hl 0 rfl) ?_
  refine x_if_eq (tgt := 16) hx hb (by omega) dX12_put_10 (by decide) (fun c_10 => ?_) (fun c_10 => ?_)
  · have hk0 := zRowR_0 qr_3 (by omega)
    have hsd := hsh.2.2.2.2.2.2 d hk0.1 hk0.2.1
    refine lv_iload_n hx hb dX12_put_16 rfl (lv_at hl 3 rfl) ?_
    refine x_i2l hx hb (by omega) dX12_put_17 ?_
    refine x_lconst (z := 0) hx hb (by decide +kernel) dX12_put_18 ?_
    refine lv_aload_n hx hb dX12_put_19 rfl (lv_at hl 1 rfl) ?_
    refine x_get (C := RX12) (T := TX12) (N := 24) hx hb hts hin_X12 hown hK hP (37) (by decide) hob rfl 6 (by decide) hw_0 (fun _ h9 => h9) rfl dX12_put_20 ?_
    refine lv_iload_n hx hb dX12_put_23 rfl (lv_at hl 2 rfl) ?_
    refine x_iald (f := Sz) hx hb hK hP (44) (by decide) h44 (by omega) (by omega) (by decide) dX12_put_24 ?_
    have hb_1 := hsh.2.2.1 (d)
    refine x_iconst hx hb dX12_put_25 ?_
    refine x_isub hx hb dX12_put_26 ?_
    refine x_i2l hx hb (by omega) dX12_put_27 ?_
    refine x_ci (va_runS (As := [.long (jL (i0)), .long (jL (0)), .long (jL ((Sz (d)) - 1))]) (rest := []) ⟨hx, hb, hml, hown, hts⟩ (c_X12_isIn l g σ (i0) (by omega) (0) (by omega) ((Sz (d)) - 1) (by omega)) (va_cwS 3 hts gX12_put_X12_isIn rfl rfl rfl (by decide +kernel) ⟨Nat.le_of_ble_eq_true rfl, Nat.le_of_ble_eq_true rfl⟩) (x_preS hK hP) rfl rfl hl.1 rfl (lv_room (Nat.le_of_ble_eq_true rfl)) dX12_put_28 ⟨Nat.le_of_ble_eq_true rfl, Nat.le_of_ble_eq_true rfl⟩) (fun r_28 hr_28 qr_28 => ?_)
    replace qr_28 : (r_28 = 1 ∧ (0) ≤ (i0) ∧ (i0) ≤ ((Sz (d)) - 1)) ∨ (r_28 = 0 ∧ ¬ ((0) ≤ (i0) ∧ (i0) ≤ ((Sz (d)) - 1))) := qr_28
    refine x_if_ne (tgt := 37) hx hb (by omega) dX12_put_31 (by decide) (fun c_31 => ?_) (fun c_31 => ?_)
    · refine lv_aload_n hx hb dX12_put_37 rfl (lv_at hl 1 rfl) ?_
      refine x_get (C := RX12) (T := TX12) (N := 24) hx hb hts hin_X12 hown hK hP (37) (by decide) hob rfl 7 (by decide) hw_2 (fun _ h9 => h9) rfl dX12_put_38 ?_
      refine x_bipush (n := 100) hx hb (by decide +kernel) dX12_put_41 ?_
      refine lv_iload_n hx hb dX12_put_43 rfl (lv_at hl 2 rfl) ?_
      refine x_imul hx hb dX12_put_44 ?_
      refine lv_iload_n hx hb dX12_put_45 rfl (lv_at hl 3 rfl) ?_
      refine x_iadd hx hb dX12_put_46 ?_
      refine lv_aload_n hx hb dX12_put_47 rfl (lv_at hl 1 rfl) ?_
      refine x_get (C := RX12) (T := TX12) (N := 24) hx hb hts hin_X12 hown hK hP (37) (by decide) hob rfl 5 (by decide) hw_3 (fun _ h9 => h9) rfl dX12_put_48 ?_
      refine lv_iload_n hx hb dX12_put_51 rfl (lv_at hl 2 rfl) ?_
      refine x_iald (f := So) hx hb hK hP (43) (by decide) h43 (by omega) (by omega) (by decide) dX12_put_52 ?_
      have hb_2 := hsh.2.1 (d)
      refine x_if_ne (tgt := 61) hx hb (by omega) dX12_put_53 (by decide) (fun c_53 => ?_) (fun c_53 => ?_)
      · refine lv_aload_n hx hb dX12_put_61 rfl (lv_at hl 1 rfl) ?_
        refine x_get (C := RX12) (T := TX12) (N := 24) hx hb hts hin_X12 hown hK hP (37) (by decide) hob rfl 5 (by decide) hw_3 (fun _ h9 => h9) rfl dX12_put_62 ?_
        refine lv_iload_n hx hb dX12_put_65 rfl (lv_at hl 2 rfl) ?_
        refine x_iald (f := So) hx hb hK hP (43) (by decide) h43 (by omega) (by omega) (by decide) dX12_put_66 ?_
        have hb_3 := hsh.2.1 (d)
        refine x_iconst hx hb dX12_put_67 ?_
        refine x_icmp_ne (tgt := 76) hx hb (by omega) (by omega) dX12_put_68 (by decide) (fun c_68 => ?_) (fun c_68 => ?_)
        · refine lv_iload_n hx hb dX12_put_76 rfl (lv_at hl 4 rfl) ?_
          refine x_iast (f := El) hx hb hK hP hD hS (45) (by decide) h45 (by omega) (by omega) (by decide) dX12_put_77 (fun M_4 H locs hnew hne hP hD hS => ?_)
          obtain ⟨f_5, hf_5⟩ : ∃ q : Int → Int, q = (upI El ((100 * d) + i0) (v)) := ⟨_, rfl⟩
          rw [← hf_5] at hnew
          have hP : xP g (M_4, σ.2) H := hP
          have hD : xD g A (M_4, σ.2) := hD
          have h45 : M_4 (45) = .inl (g.2.1 0, 800, .inl (fun k => iI (f_5 (k : Int)))) := hnew
          have hob : MObj g M_4 ov := (hne (37) (by decide)).trans hob
          have hs0 := (hne (38) (by decide)).trans hs0
          have h42 := (hne (42) (by decide)).trans h42
          have h43 := (hne (43) (by decide)).trans h43
          have h44 := (hne (44) (by decide)).trans h44
          have h46 := (hne (46) (by decide)).trans h46
          have h47 := (hne (47) (by decide)).trans h47
          have hfr := x_fr (F := fun j => j ≠ 45) hfr hne (fun j h => by have h : j ≠ 45 := h; omega)
          refine x_iconst hx hb dX12_put_78 ?_
          refine x_retQ hx hb hr (by omega) ?_ hP hD hS dX12_put_79 hlocks
          refine ⟨rfl, hfr, ?_⟩
          right; refine ⟨rfl, by (unfold zPutR; rw [if_neg (by omega), if_neg (by omega)]), ?_⟩
          have e : f_5 = upI El (100 * d + i0) (zLow (So d) v) := by (rw [hf_5]; unfold zLow; first | (rw [if_pos (by omega)]; done) | (rw [if_neg (by omega), if_pos (by omega)]; done) | (rw [if_neg (by omega), if_neg (by omega)]; done))
          rw [← e]; exact h45
        · refine lv_iload_n hx hb dX12_put_71 rfl (lv_at hl 4 rfl) ?_
          refine x_i2s hx hb dX12_put_72 ?_
          have hb_6 := iShort_rng (v)
          refine lv_goto (tgt := 77) hx hb dX12_put_73 (by decide) ?_
          refine x_iast (f := El) hx hb hK hP hD hS (45) (by decide) h45 (by omega) (by omega) (by decide) dX12_put_77 (fun M_7 H locs hnew hne hP hD hS => ?_)
          obtain ⟨f_8, hf_8⟩ : ∃ q : Int → Int, q = (upI El ((100 * d) + i0) (iShort (v))) := ⟨_, rfl⟩
          rw [← hf_8] at hnew
          have hP : xP g (M_7, σ.2) H := hP
          have hD : xD g A (M_7, σ.2) := hD
          have h45 : M_7 (45) = .inl (g.2.1 0, 800, .inl (fun k => iI (f_8 (k : Int)))) := hnew
          have hob : MObj g M_7 ov := (hne (37) (by decide)).trans hob
          have hs0 := (hne (38) (by decide)).trans hs0
          have h42 := (hne (42) (by decide)).trans h42
          have h43 := (hne (43) (by decide)).trans h43
          have h44 := (hne (44) (by decide)).trans h44
          have h46 := (hne (46) (by decide)).trans h46
          have h47 := (hne (47) (by decide)).trans h47
          have hfr := x_fr (F := fun j => j ≠ 45) hfr hne (fun j h => by have h : j ≠ 45 := h; omega)
          refine x_iconst hx hb dX12_put_78 ?_
          refine x_retQ hx hb hr (by omega) ?_ hP hD hS dX12_put_79 hlocks
          refine ⟨rfl, hfr, ?_⟩
          right; refine ⟨rfl, by (unfold zPutR; rw [if_neg (by omega), if_neg (by omega)]), ?_⟩
          have e : f_8 = upI El (100 * d + i0) (zLow (So d) v) := by (rw [hf_8]; unfold zLow; first | (rw [if_pos (by omega)]; done) | (rw [if_neg (by omega), if_pos (by omega)]; done) | (rw [if_neg (by omega), if_neg (by omega)]; done))
          rw [← e]; exact h45
      · refine lv_iload_n hx hb dX12_put_56 rfl (lv_at hl 4 rfl) ?_
        refine x_i2b hx hb dX12_put_57 ?_
        have hb_9 := iByte_rng (v)
        refine lv_goto (tgt := 77) hx hb dX12_put_58 (by decide) ?_
        refine x_iast (f := El) hx hb hK hP hD hS (45) (by decide) h45 (by omega) (by omega) (by decide) dX12_put_77 (fun M_10 H locs hnew hne hP hD hS => ?_)
        obtain ⟨f_11, hf_11⟩ : ∃ q : Int → Int, q = (upI El ((100 * d) + i0) (iByte (v))) := ⟨_, rfl⟩
        rw [← hf_11] at hnew
        have hP : xP g (M_10, σ.2) H := hP
        have hD : xD g A (M_10, σ.2) := hD
        have h45 : M_10 (45) = .inl (g.2.1 0, 800, .inl (fun k => iI (f_11 (k : Int)))) := hnew
        have hob : MObj g M_10 ov := (hne (37) (by decide)).trans hob
        have hs0 := (hne (38) (by decide)).trans hs0
        have h42 := (hne (42) (by decide)).trans h42
        have h43 := (hne (43) (by decide)).trans h43
        have h44 := (hne (44) (by decide)).trans h44
        have h46 := (hne (46) (by decide)).trans h46
        have h47 := (hne (47) (by decide)).trans h47
        have hfr := x_fr (F := fun j => j ≠ 45) hfr hne (fun j h => by have h : j ≠ 45 := h; omega)
        refine x_iconst hx hb dX12_put_78 ?_
        refine x_retQ hx hb hr (by omega) ?_ hP hD hS dX12_put_79 hlocks
        refine ⟨rfl, hfr, ?_⟩
        right; refine ⟨rfl, by (unfold zPutR; rw [if_neg (by omega), if_neg (by omega)]), ?_⟩
        have e : f_11 = upI El (100 * d + i0) (zLow (So d) v) := by (rw [hf_11]; unfold zLow; first | (rw [if_pos (by omega)]; done) | (rw [if_neg (by omega), if_pos (by omega)]; done) | (rw [if_neg (by omega), if_neg (by omega)]; done))
        rw [← e]; exact h45
    · refine x_bipush (n := -13) hx hb (by decide +kernel) dX12_put_34 ?_
      refine x_retQ hx hb hr (by omega) ?_ hP hD hS dX12_put_36 hlocks
      refine ⟨rfl, hfr, ?_⟩
      left; exact ⟨by omega, by (unfold zPutR; rw [if_neg (by omega), if_pos (by omega)]), rfl⟩
  · refine lv_iload hx hb dX12_put_13 (lv_at hl 0 rfl) ?_
    refine x_retQ hx hb hr (by omega) ?_ hP hD hS dX12_put_15 hlocks
    refine ⟨rfl, hfr, ?_⟩
    left; exact ⟨by omega, by (unfold zPutR; rw [if_pos (by omega)]; omega), rfl⟩

