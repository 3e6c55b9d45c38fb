def zGives (S : Int → Int) (a b c : Int) : Int → Int := upI (upI S (2 + 3 * a + 2) (S (2 + 3 * a + 2) - c)) (2 + 3 * b + 2) (upI S (2 + 3 * a + 2) (S (2 + 3 * a + 2) - c) (2 + 3 * b + 2) + c)
def zGiftRS (S : Int → Int) (a b c : Int) : Int := zGiftR (mP S) (S 0) a b c
def zJoin (S : Int → Int) (k f p : Int) : Int → Int := upI (upI (upI (upI S (2 + 3 * S 0 + 0) k) (2 + 3 * S 0 + 1) f) (2 + 3 * S 0 + 2) p) 0 (S 0 + 1)
def zChg (S : Int → Int) (a b k : Int) : Int → Int := upI (upI S (2 + 3 * a + k) (S (2 + 3 * b + k))) (2 + 3 * b + k) (S (2 + 3 * a + k))
theorem upI_rng {f : Int → Int} {k v : Int} (hf : ∀ i, inR (f i)) (hv : inR v) : ∀ i, inR (upI f k v i) := fun i => by
  unfold upI; split
  · exact hv
  · exact hf i
theorem zCopy_rng {f g : Int → Int} {k : Int} (hf : ∀ i, inR (f i)) (hg : ∀ i, inR (g i)) : ∀ i, inR (zCopy f g k i) := fun i => by
  unfold zCopy; split
  · exact hf i
  · exact hg i
theorem SmOk_purse {S : Int → Int} (h : SmOk S) {i v : Int} (hi : 0 ≤ i) (hv : 0 ≤ v ∧ v ≤ 9999) : SmOk (upI S (2 + 3 * i + 2) v) := by
  obtain ⟨h1, h2, h3, h4⟩ := h
  have e0 : upI S (2 + 3 * i + 2) v 0 = S 0 := upI_n (by omega)
  have e1 : upI S (2 + 3 * i + 2) v 1 = S 1 := upI_n (by omega)
  refine ⟨upI_rng h1 ⟨by omega, by omega⟩, by rw [e0]; exact h2, by rw [e1]; exact h3, fun j hj hj2 => ?_⟩
  rw [e0] at hj2
  have := h4 j hj hj2
  have a0 : upI S (2 + 3 * i + 2) v (2 + 3 * j + 0) = S (2 + 3 * j + 0) := upI_n (by omega)
  have a1 : upI S (2 + 3 * i + 2) v (2 + 3 * j + 1) = S (2 + 3 * j + 1) := upI_n (by omega)
  rw [a0, a1]
  refine ⟨this.1, this.2.1, ?_⟩
  unfold upI; split
  · exact hv
  · exact this.2.2
theorem zJoin_rng {S : Int → Int} (h : ∀ k, inR (S k)) {k f p : Int} (hk : inR k) (hf : inR f) (hp : inR p) (hn : 0 ≤ S 0 ∧ S 0 ≤ 9) : ∀ i, inR (zJoin S k f p i) := upI_rng (upI_rng (upI_rng (upI_rng h hk) hf) hp) ⟨by omega, by omega⟩
def zSwapS (S : Int → Int) (a b : Int) : Int → Int := zChg (zChg (zChg S a b 0) a b 1) a b 2
theorem SmOk_gives {S : Int → Int} (h : SmOk S) {a b c : Int} (ha : 0 ≤ a ∧ a < S 0) (hb : 0 ≤ b ∧ b < S 0) (hab : a ≠ b) (hc : 0 ≤ c) (hc2 : c ≤ 9999) (h1 : c ≤ S (2 + 3 * a + 2)) (h2 : S (2 + 3 * b + 2) + c ≤ 9999) : SmOk (zGives S a b c) := by
  have ga := (h.2.2.2 a ha.1 ha.2).2.2
  have gb := (h.2.2.2 b hb.1 hb.2).2.2
  unfold zGives
  have e : upI S (2 + 3 * a + 2) (S (2 + 3 * a + 2) - c) (2 + 3 * b + 2) = S (2 + 3 * b + 2) := upI_n (by omega)
  rw [e]
  exact SmOk_purse (SmOk_purse h ha.1 (by omega)) hb.1 (by omega)
theorem zChg_a {S : Int → Int} {a b k : Int} (h : a ≠ b) : zChg S a b k (2 + 3 * a + k) = S (2 + 3 * b + k) := by
  unfold zChg; rw [upI_n (by omega), upI_s]
theorem zChg_b {S : Int → Int} {a b k : Int} : zChg S a b k (2 + 3 * b + k) = S (2 + 3 * a + k) := by
  unfold zChg; rw [upI_s]
theorem zChg_o {S : Int → Int} {a b k j : Int} (h : j ≠ 2 + 3 * a + k) (h2 : j ≠ 2 + 3 * b + k) : zChg S a b k j = S j := by
  unfold zChg; rw [upI_n h2, upI_n h]
theorem zSwapS_at {S : Int → Int} {a b : Int} (h : a ≠ b) (i k : Int) (hk : k = 0 ∨ k = 1 ∨ k = 2) (hi : 0 ≤ i) (ha : 0 ≤ a) (hb : 0 ≤ b) : zSwapS S a b (2 + 3 * i + k) = S (2 + 3 * (if i = a then b else if i = b then a else i) + k) := by
  unfold zSwapS
  by_cases h1 : i = a
  · subst h1; rw [if_pos rfl]
    rcases hk with e | e | e <;> subst e
    · rw [zChg_o (by omega) (by omega), zChg_o (by omega) (by omega), zChg_a h]
    · rw [zChg_o (by omega) (by omega), zChg_a h, zChg_o (by omega) (by omega)]
    · rw [zChg_a h, zChg_o (by omega) (by omega), zChg_o (by omega) (by omega)]
  · rw [if_neg h1]
    by_cases h2 : i = b
    · subst h2; rw [if_pos rfl]
      rcases hk with e | e | e <;> subst e
      · rw [zChg_o (by omega) (by omega), zChg_o (by omega) (by omega), zChg_b]
      · rw [zChg_o (by omega) (by omega), zChg_b, zChg_o (by omega) (by omega)]
      · rw [zChg_b, zChg_o (by omega) (by omega), zChg_o (by omega) (by omega)]
    · rw [if_neg h2, zChg_o (by omega) (by omega), zChg_o (by omega) (by omega), zChg_o (by omega) (by omega)]
theorem zSwapS_hd {S : Int → Int} {a b j : Int} (ha : 0 ≤ a) (hb : 0 ≤ b) (hj : j < 2) : zSwapS S a b j = S j := by
  unfold zSwapS
  rw [zChg_o (by omega) (by omega), zChg_o (by omega) (by omega), zChg_o (by omega) (by omega)]
theorem zChg_rng {S : Int → Int} (h : ∀ k, inR (S k)) {a b k : Int} : ∀ i, inR (zChg S a b k i) := upI_rng (upI_rng h (h _)) (h _)
theorem SmOk_swap {S : Int → Int} (h : SmOk S) {a b : Int} (ha : 0 ≤ a ∧ a < S 0) (hb : 0 ≤ b ∧ b < S 0) (hab : a ≠ b) (_ : True) : SmOk (zSwapS S a b) := by
  have e0 : zSwapS S a b 0 = S 0 := zSwapS_hd ha.1 hb.1 (by omega)
  have e1 : zSwapS S a b 1 = S 1 := zSwapS_hd ha.1 hb.1 (by omega)
  refine ⟨zChg_rng (zChg_rng (zChg_rng h.1)), by rw [e0]; exact h.2.1, by rw [e1]; exact h.2.2.1, fun i hi hi2 => ?_⟩
  rw [e0] at hi2
  rw [zSwapS_at hab i 0 (by omega) hi ha.1 hb.1, zSwapS_at hab i 1 (by omega) hi ha.1 hb.1, zSwapS_at hab i 2 (by omega) hi ha.1 hb.1]
  split
  · exact h.2.2.2 b hb.1 hb.2
  · split
    · exact h.2.2.2 a ha.1 ha.2
    · exact h.2.2.2 i hi hi2

set_option maxHeartbeats 4000000 in
set_option maxRecDepth 100000 in
theorem c_X12_puts (l : Launch) (g : xG) (σ : xS) (A : Nat → Prop) (ov : Nat → Int) (S : Int → Int) (hob : MObj g σ.1 ov) (hs0 : MArr g σ.1 38 29 S) (hokr : ∀ k, inR (S k)) (h : Int) (hh : 0 ≤ h ∧ h < 9) (k : Int) (hk : 0 ≤ k ∧ k < 3) (v : Int) (hv : inR v) : Met l yX12_puts wsX12_puts ({ frames := 1, cells := 0, slots := 0, locals := 32 }) (va_Pc [.ref (g.2.2 37), .int (iI (h)), .int (iI (k)), .int (iI (v))] (xPreQ g A σ)) (x_Qv g A (fun σ1 => σ1.2 = σ.2 ∧ (∀ j, j ≠ 38 → σ1.1 j = σ.1 j) ∧ MArr g σ1.1 38 29 (upI S (2 + 3 * h + k) v))) (0) (0) A := by
  refine Met.ofW (cc := cX12_puts) (maxL := 4) (ret := none) (by decide) rfl ?_
  intro p e s m args below meth c s₁ B hml hv
  obtain ⟨rfl, hP, hK, hD, hA⟩ := hv
  have hx := B.exec
  have hb := B.bytes
  have hr := B.returns
  have hts := atoms_spec (ws := wsX12_puts) B.pre
  have hown : s.vm.findClass RX12 = some m.cls := findClass_of_methodNamed B.named
  have hlocks := B.notSynchronized
  have hS : va_S A s.heap s.heap [] := va_S.rf
  have hfr : ∀ j, (j ≠ 38) → σ.1 j = σ.1 j := fun _ _ => rfl
  have hl := lv_entry ([.ref (g.2.2 37), .int (iI (h)), .int (iI (k)), .int (iI (v))]) (n := 4) (Nat.le_of_ble_eq_true rfl)
  rw [lg_entry_eq]
  generalize (lg_sl ([.ref (g.2.2 37), .int (iI (h)), .int (iI (k)), .int (iI (v))]) ++ List.replicate (4 - (lg_sl ([.ref (g.2.2 37), .int (iI (h)), .int (iI (k)), .int (iI (v))])).length) Slot.unset).toArray = ls at hl ⊢
  have hl : lv_has ls 4 [(0, .ref (g.2.2 37)), (1, .int (iI (h))), (2, .int (iI (k))), (3, .int (iI (v)))] := hl
  have hw_0 := hts (.fieldLink RX12 9 "TwiceAsRichModel" "s" "[I") (by decide +kernel)
  have hin_X12 : ∀ w ∈ wsX120, w ∈ wsX12_puts := by decide +kernel
  refine lv_aload_n hx hb dX12_puts_0 rfl (lv_at hl 0 rfl) ?_
  refine x_get (C := RX12) (T := TX12) (N := 24) hx hb hts hin_X12 hown hK hP (37) (by decide) hob rfl 0 (by decide) hw_0 (fun _ h9 => h9) rfl dX12_puts_1 ?_
  refine x_iconst hx hb dX12_puts_4 ?_
  refine x_iconst hx hb dX12_puts_5 ?_
  refine lv_iload_n hx hb dX12_puts_6 rfl (lv_at hl 1 rfl) ?_
  refine x_imul hx hb dX12_puts_7 ?_
  refine x_iadd hx hb dX12_puts_8 ?_
  refine lv_iload_n hx hb dX12_puts_9 rfl (lv_at hl 2 rfl) ?_
  refine x_iadd hx hb dX12_puts_10 ?_
  refine lv_iload_n hx hb dX12_puts_11 rfl (lv_at hl 3 rfl) ?_
  refine x_iast (f := S) hx hb hK hP hD hS (38) (by decide) hs0 (by omega) (by omega) (by decide) dX12_puts_12 (fun M_1 H locs hnew hne hP hD hS => ?_)
  obtain ⟨f_2, hf_2⟩ : ∃ q : Int → Int, q = (upI S ((2 + (3 * h)) + k) (v)) := ⟨_, rfl⟩
  rw [← hf_2] at hnew
  have hP : xP g (M_1, σ.2) H := hP
  have hD : xD g A (M_1, σ.2) := hD
  have hs0 : M_1 (38) = .inl (g.2.1 0, 29, .inl (fun k => iI (f_2 (k : Int)))) := hnew
  have hob : MObj g M_1 ov := (hne (37) (by decide)).trans hob
  have hfr := x_fr (F := fun j => j ≠ 38) hfr hne (fun j h => by have h : j ≠ 38 := h; omega)
  refine x_retQv hx hb hr ?_ hP hD hS dX12_puts_13 hlocks
  refine ⟨rfl, hfr, ?_⟩
  have e : f_2 = upI S (2 + 3 * h + k) v := by subst_vars; rfl
  rw [← e]; exact hs0

set_option maxHeartbeats 4000000 in
set_option maxRecDepth 100000 in
theorem c_X12_joins (l : Launch) (g : xG) (σ : xS) (A : Nat → Prop) (ov : Nat → Int) (S : Int → Int) (hob : MObj g σ.1 ov) (hs0 : MArr g σ.1 38 29 S) (hokr : ∀ k, inR (S k)) (hn9 : 0 ≤ S 0 ∧ S 0 ≤ 8) (kd : Int) (hk : inR kd) (f : Int) (hf : inR f) (pu : Int) (hpu : inR pu) : Met l yX12_joins wsX12_joins ({ frames := 2, cells := 0, slots := 0, locals := 64 }) (va_Pc [.ref (g.2.2 37), .int (iI (kd)), .int (iI (f)), .int (iI (pu))] (xPreQ g A σ)) (x_Qv g A (fun σ1 => σ1.2 = σ.2 ∧ (∀ j, j ≠ 38 → σ1.1 j = σ.1 j) ∧ MArr g σ1.1 38 29 (zJoin S kd f pu))) (0) (0) A := by
  refine Met.ofW (cc := cX12_joins) (maxL := 4) (ret := none) (by decide) rfl ?_
  intro p e s m args below meth c s₁ B hml hv
  obtain ⟨rfl, hP, hK, hD, hA⟩ := hv
  have hx := B.exec
  have hb := B.bytes
  have hr := B.returns
  have hts := atoms_spec (ws := wsX12_joins) B.pre
  have hown : s.vm.findClass RX12 = some m.cls := findClass_of_methodNamed B.named
  have hlocks := B.notSynchronized
  have hS : va_S A s.heap s.heap [] := va_S.rf
  have hfr : ∀ j, (j ≠ 38) → σ.1 j = σ.1 j := fun _ _ => rfl
  have hl := lv_entry ([.ref (g.2.2 37), .int (iI (kd)), .int (iI (f)), .int (iI (pu))]) (n := 4) (Nat.le_of_ble_eq_true rfl)
  rw [lg_entry_eq]
  generalize (lg_sl ([.ref (g.2.2 37), .int (iI (kd)), .int (iI (f)), .int (iI (pu))]) ++ List.replicate (4 - (lg_sl ([.ref (g.2.2 37), .int (iI (kd)), .int (iI (f)), .int (iI (pu))])).length) Slot.unset).toArray = ls at hl ⊢
  have hl : lv_has ls 4 [(0, .ref (g.2.2 37)), (1, .int (iI (kd))), (2, .int (iI (f))), (3, .int (iI (pu)))] := hl
  have hw_0 := hts (.fieldLink RX12 9 "TwiceAsRichModel" "s" "[I") (by decide +kernel)
  have hin_X12 : ∀ w ∈ wsX120, w ∈ wsX12_joins := by decide +kernel
  refine lv_aload_n hx hb dX12_joins_0 rfl (lv_at hl 0 rfl) ?_
  refine lv_aload_n hx hb dX12_joins_1 rfl (lv_at hl 0 rfl) ?_
  refine x_get (C := RX12) (T := TX12) (N := 24) hx hb hts hin_X12 hown hK hP (37) (by decide) hob rfl 0 (by decide) hw_0 (fun _ h9 => h9) rfl dX12_joins_2 ?_
  refine x_iconst hx hb dX12_joins_5 ?_
  refine x_iald (f := S) hx hb hK hP (38) (by decide) hs0 (by omega) (by omega) (by decide) dX12_joins_6 ?_
  have hb_1 := hokr (0)
  refine x_iconst hx hb dX12_joins_7 ?_
  refine lv_iload_n hx hb dX12_joins_8 rfl (lv_at hl 1 rfl) ?_
  refine x_cqv0 (va_runV (As := [.int (iI (S (0))), .int (iI (0)), .int (iI (kd))]) (rest := []) ⟨hx, hb, hml, hown, hts⟩ (c_X12_puts l g σ A (ov) S hob hs0 hokr (S (0)) (by omega) (0) (by omega) (kd) (by omega)) (cwV 3 hts gX12_joins_X12_puts rfl rfl rfl (by decide +kernel) ⟨Nat.le_of_ble_eq_true rfl, Nat.le_of_ble_eq_true rfl⟩) (x_preVQ hK hP hD hS hA (x_recv hK hP (i := 37) (by decide) hob rfl)) rfl rfl hl.1 rfl (lv_room (Nat.le_of_ble_eq_true rfl)) dX12_joins_9 ⟨by decide, by decide⟩) hS (fun σ1 H locs hpost hP hD hS => ?_)
  obtain ⟨M_2, p1⟩ := σ1
  obtain ⟨hp0, hfrc, hnew⟩ := hpost
  obtain rfl : p1 = σ.2 := hp0
  have hP : xP g (M_2, σ.2) H := hP
  have hD : xD g A (M_2, σ.2) := hD
  have hob : MObj g M_2 ov := (hfrc (37) (by omega)).trans hob
  have hfr := x_frc (F := fun j => j ≠ 38) hfr hfrc (fun j h => by have h : j ≠ 38 := h; omega)
  obtain ⟨S_3, hS_3⟩ : ∃ q : Int → Int, q = upI S (2 + 3 * (S (0)) + (0)) (kd) := ⟨_, rfl⟩
  have hs0 : MArr g M_2 38 29 S_3 := by rw [hS_3]; exact hnew
  have rS_3 : ∀ k, inR (S_3 k) := by rw [hS_3]; exact upI_rng hokr ⟨by omega, by omega⟩
  refine lv_aload_n hx hb dX12_joins_12 rfl (lv_at hl 0 rfl) ?_
  have es : S_3 0 = S 0 := by rw [hS_3]; exact upI_n (by omega)
  refine lv_aload_n hx hb dX12_joins_13 rfl (lv_at hl 0 rfl) ?_
  refine x_get (C := RX12) (T := TX12) (N := 24) hx hb hts hin_X12 hown hK hP (37) (by decide) hob rfl 0 (by decide) hw_0 (fun _ h9 => h9) rfl dX12_joins_14 ?_
  refine x_iconst hx hb dX12_joins_17 ?_
  refine x_iald (f := S_3) hx hb hK hP (38) (by decide) hs0 (by omega) (by omega) (by decide) dX12_joins_18 ?_
  have hb_4 := rS_3 (0)
  refine x_iconst hx hb dX12_joins_19 ?_
  refine lv_iload_n hx hb dX12_joins_20 rfl (lv_at hl 2 rfl) ?_
  refine x_cqv0 (va_runV (As := [.int (iI (S_3 (0))), .int (iI (1)), .int (iI (f))]) (rest := []) ⟨hx, hb, hml, hown, hts⟩ (c_X12_puts l g (M_2, σ.2) A (ov) S_3 hob hs0 rS_3 (S_3 (0)) (by omega) (1) (by omega) (f) (by omega)) (cwV 3 hts gX12_joins_X12_puts rfl rfl rfl (by decide +kernel) ⟨Nat.le_of_ble_eq_true rfl, Nat.le_of_ble_eq_true rfl⟩) (x_preVQ hK hP hD hS hA (x_recv hK hP (i := 37) (by decide) hob rfl)) rfl rfl hl.1 rfl (lv_room (Nat.le_of_ble_eq_true rfl)) dX12_joins_21 ⟨by decide, by decide⟩) hS (fun σ1 H locs hpost hP hD hS => ?_)
  obtain ⟨M_5, p1⟩ := σ1
  obtain ⟨hp0, hfrc, hnew⟩ := hpost
  obtain rfl : p1 = σ.2 := hp0
  have hP : xP g (M_5, σ.2) H := hP
  have hD : xD g A (M_5, σ.2) := hD
  have hob : MObj g M_5 ov := (hfrc (37) (by omega)).trans hob
  have hfr := x_frc (F := fun j => j ≠ 38) hfr hfrc (fun j h => by have h : j ≠ 38 := h; omega)
  obtain ⟨S_6, hS_6⟩ : ∃ q : Int → Int, q = upI S_3 (2 + 3 * (S_3 (0)) + (1)) (f) := ⟨_, rfl⟩
  have hs0 : MArr g M_5 38 29 S_6 := by rw [hS_6]; exact hnew
  have rS_6 : ∀ k, inR (S_6 k) := by rw [hS_6]; exact upI_rng rS_3 ⟨by omega, by omega⟩
  refine lv_aload_n hx hb dX12_joins_24 rfl (lv_at hl 0 rfl) ?_
  have es2 : S_6 0 = S 0 := by rw [hS_6, ← es]; exact upI_n (by omega)
  refine lv_aload_n hx hb dX12_joins_25 rfl (lv_at hl 0 rfl) ?_
  refine x_get (C := RX12) (T := TX12) (N := 24) hx hb hts hin_X12 hown hK hP (37) (by decide) hob rfl 0 (by decide) hw_0 (fun _ h9 => h9) rfl dX12_joins_26 ?_
  refine x_iconst hx hb dX12_joins_29 ?_
  refine x_iald (f := S_6) hx hb hK hP (38) (by decide) hs0 (by omega) (by omega) (by decide) dX12_joins_30 ?_
  have hb_7 := rS_6 (0)
  refine x_iconst hx hb dX12_joins_31 ?_
  refine lv_iload_n hx hb dX12_joins_32 rfl (lv_at hl 3 rfl) ?_
  refine x_cqv0 (va_runV (As := [.int (iI (S_6 (0))), .int (iI (2)), .int (iI (pu))]) (rest := []) ⟨hx, hb, hml, hown, hts⟩ (c_X12_puts l g (M_5, σ.2) A (ov) S_6 hob hs0 rS_6 (S_6 (0)) (by omega) (2) (by omega) (pu) (by omega)) (cwV 3 hts gX12_joins_X12_puts rfl rfl rfl (by decide +kernel) ⟨Nat.le_of_ble_eq_true rfl, Nat.le_of_ble_eq_true rfl⟩) (x_preVQ hK hP hD hS hA (x_recv hK hP (i := 37) (by decide) hob rfl)) rfl rfl hl.1 rfl (lv_room (Nat.le_of_ble_eq_true rfl)) dX12_joins_33 ⟨by decide, by decide⟩) hS (fun σ1 H locs hpost hP hD hS => ?_)
  obtain ⟨M_8, p1⟩ := σ1
  obtain ⟨hp0, hfrc, hnew⟩ := hpost
  obtain rfl : p1 = σ.2 := hp0
  have hP : xP g (M_8, σ.2) H := hP
  have hD : xD g A (M_8, σ.2) := hD
  have hob : MObj g M_8 ov := (hfrc (37) (by omega)).trans hob
  have hfr := x_frc (F := fun j => j ≠ 38) hfr hfrc (fun j h => by have h : j ≠ 38 := h; omega)
  obtain ⟨S_9, hS_9⟩ : ∃ q : Int → Int, q = upI S_6 (2 + 3 * (S_6 (0)) + (2)) (pu) := ⟨_, rfl⟩
  have hs0 : MArr g M_8 38 29 S_9 := by rw [hS_9]; exact hnew
  have rS_9 : ∀ k, inR (S_9 k) := by rw [hS_9]; exact upI_rng rS_6 ⟨by omega, by omega⟩
  refine lv_aload_n hx hb dX12_joins_36 rfl (lv_at hl 0 rfl) ?_
  have es3 : S_9 0 = S 0 := by rw [hS_9, ← es2]; exact upI_n (by omega)
  refine x_get (C := RX12) (T := TX12) (N := 24) hx hb hts hin_X12 hown hK hP (37) (by decide) hob rfl 0 (by decide) hw_0 (fun _ h9 => h9) rfl dX12_joins_37 ?_
  refine x_iconst hx hb dX12_joins_40 ?_
  refine lv_dup2_11 hx hb dX12_joins_41 rfl rfl ?_
  refine x_iald (f := S_9) hx hb hK hP (38) (by decide) hs0 (by omega) (by omega) (by decide) dX12_joins_42 ?_
  have hb_10 := rS_9 (0)
  refine x_iconst hx hb dX12_joins_43 ?_
  refine x_iadd hx hb dX12_joins_44 ?_
  refine x_iast (f := S_9) hx hb hK hP hD hS (38) (by decide) hs0 (by omega) (by omega) (by decide) dX12_joins_45 (fun M_11 H locs hnew hne hP hD hS => ?_)
  obtain ⟨f_12, hf_12⟩ : ∃ q : Int → Int, q = (upI S_9 (0) ((S_9 (0)) + 1)) := ⟨_, rfl⟩
  rw [← hf_12] at hnew
  have hP : xP g (M_11, σ.2) H := hP
  have hD : xD g A (M_11, σ.2) := hD
  have hs0 : M_11 (38) = .inl (g.2.1 0, 29, .inl (fun k => iI (f_12 (k : Int)))) := hnew
  have hob : MObj g M_11 ov := (hne (37) (by decide)).trans hob
  have hfr := x_fr (F := fun j => j ≠ 38) hfr hne (fun j h => by have h : j ≠ 38 := h; omega)
  refine x_retQv hx hb hr ?_ hP hD hS dX12_joins_46 hlocks
  refine ⟨rfl, hfr, ?_⟩
  have e : f_12 = zJoin S kd f pu := by (unfold zJoin; subst_vars; simp only [upI_n (show (0 : Int) ≠ 2 + 3 * S 0 + 0 by omega), upI_n (show (0 : Int) ≠ 2 + 3 * S 0 + 1 by omega), upI_n (show (0 : Int) ≠ 2 + 3 * S 0 + 2 by omega)])
  rw [← e]; exact hs0
