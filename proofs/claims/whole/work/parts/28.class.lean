theorem zCopy_all {α : Type} {C : α → Prop} {f h : Int → α} {k : Int} (hf : ∀ i, C (f i)) (hh : ∀ i, C (h i)) : ∀ i, C (zCopy f h k i) := fun i => by
  unfold zCopy; split
  · exact hf i
  · exact hh i
theorem StOk_become {σ : xS} {n rd n2 rd2 : Int} {P P2 : Int → Int} {G G2 : Int → Option Nat} (h : StOk σ n rd P G) (h2 : StOk σ n2 rd2 P2 G2) : StOk σ n2 rd2 (zCopy P2 P 9) (zCopy G2 G 9) := by
  obtain ⟨a1, a2, a3, a4, a5, a6⟩ := h2
  refine ⟨a1, a2, a3, zCopy_all (C := inR) a4 h.2.2.2.1, zCopy_all (C := fun o => ∀ a, o = some a → a ∈ σ.2.1) a5 h.2.2.2.2.1, fun i h0 h1 => ?_⟩
  rw [zCopy_in h0 (by omega), zCopy_in h0 (by omega)]
  exact a6 i h0 h1
theorem StOk_purse {σ : xS} {n rd : Int} {P : Int → Int} {G : Int → Option Nat} (h : StOk σ n rd P G) {i v : Int} (hv : 0 ≤ v ∧ v ≤ 9999) : StOk σ n rd (upI P i v) G := by
  obtain ⟨a1, a2, a3, a4, a5, a6⟩ := h
  refine ⟨a1, a2, a3, upI_rng a4 ⟨by omega, by omega⟩, a5, fun j h0 h1 => ⟨(a6 j h0 h1).1, ?_⟩⟩
  unfold upI; split
  · exact hv
  · exact (a6 j h0 h1).2
theorem StOk_remove {σ : xS} {n rd k : Int} {P : Int → Int} {G : Int → Option Nat} (h : StOk σ n rd P G) (hk : 0 ≤ k ∧ k < n) : StOk σ (n - 1) rd (zDown P k (n - 1)) (zDown G k (n - 1)) := by
  obtain ⟨a1, a2, a3, a4, a5, a6⟩ := h
  refine ⟨by omega, by omega, a3, fun i => ?_, fun i => ?_, fun i h0 h1 => ?_⟩
  · unfold zDown; split
    · exact a4 _
    · exact a4 _
  · unfold zDown; split
    · exact a5 _
    · exact a5 _
  · unfold zDown
    by_cases q : k ≤ i ∧ i < n - 1
    · rw [if_pos q, if_pos q]; exact a6 (i + 1) (by omega) (by omega)
    · rw [if_neg q, if_neg q]; exact a6 i h0 (by omega)
theorem StOk_insert {σ : xS} {n rd k pu : Int} {a : Nat} {P : Int → Int} {G : Int → Option Nat} (h : StOk σ n rd P G) (h8 : n ≤ 8) (hk : 0 ≤ k ∧ k ≤ n) (ha : a ∈ σ.2.1) (hp : 0 ≤ pu ∧ pu ≤ 9999) : StOk σ (n + 1) rd (upI (zUp P k n) k pu) (upI (zUp G k n) k (some a)) := by
  obtain ⟨a1, a2, a3, a4, a5, a6⟩ := h
  refine ⟨by omega, by omega, a3, upI_rng (fun i => ?_) ⟨by omega, by omega⟩, fun i b hb => ?_, fun i h0 h1 => ?_⟩
  · unfold zUp; split
    · exact a4 _
    · exact a4 _
  · unfold upI at hb
    by_cases q : i = k
    · rw [if_pos q] at hb; cases hb; exact ha
    · rw [if_neg q] at hb
      unfold zUp at hb
      by_cases q2 : k < i ∧ i ≤ n
      · rw [if_pos q2] at hb; exact a5 _ _ hb
      · rw [if_neg q2] at hb; exact a5 _ _ hb
  · unfold upI
    by_cases q : i = k
    · rw [if_pos q, if_pos q]; exact ⟨⟨a, rfl⟩, hp⟩
    · rw [if_neg q, if_neg q]
      unfold zUp
      by_cases q2 : k < i ∧ i ≤ n
      · rw [if_pos q2, if_pos q2]; exact a6 (i - 1) (by omega) (by omega)
      · rw [if_neg q2, if_neg q2]; exact a6 i h0 (by omega)
def xStr (g : xG) (M : xM) (σ : xS) (b : Nat) : Prop := ∃ n rd P G, StAt g M b n rd P G ∧ StOk σ n rd P G
theorem zSame_copy {σ : xS} {G Gm : Int → Option Nat} {P Pm : Int → Int} {n : Int} (hn : n ≤ 9) : zSame (sK σ (zCopy G Gm 9)) (sK σ G) (sF σ (zCopy G Gm 9)) (sF σ G) (zCopy P Pm 9) P n := fun i h0 h1 => by
  unfold sK sF
  rw [zCopy_in h0 (by omega), zCopy_in h0 (by omega)]
  exact ⟨rfl, rfl, rfl⟩
theorem zWed_cls {σ : xS} {G Gm : Int → Option Nat} {P Pm : Int → Int} {n rd h : Int} (h0 : 0 ≤ h) (h1 : h + 1 < n) (hn : n ≤ 9) : zAll (sK σ (zDown (zCopy G Gm 9) (h + 1) (n - 1))) (sF σ (zDown (zCopy G Gm 9) (h + 1) (n - 1))) (zDown (upI (zCopy P Pm 9) h (min 9999 (zCopy P Pm 9 h + zCopy P Pm 9 (h + 1)))) (h + 1) (n - 1)) (n - 1) rd = zWed (sK σ G) (sF σ G) P n rd h := by
  unfold zWed
  rw [if_pos (by omega)]
  have z := zSame_copy (σ := σ) (G := G) (Gm := Gm) (P := P) (Pm := Pm) hn
  have ep : ∀ i, 0 ≤ i → i < n → upI (zCopy P Pm 9) h (min 9999 (zCopy P Pm 9 h + zCopy P Pm 9 (h + 1))) i = zWedP P h i := fun i a b => by
    unfold zWedP upI
    rw [(z h (by omega) (by omega)).2.2, (z (h + 1) (by omega) (by omega)).2.2, (z i a b).2.2]
  refine zAll_congr (fun i a b => ?_)
  unfold zSk sK sF zDown
  by_cases q : h + 1 ≤ i
  · have q2 : h + 1 ≤ i ∧ i < n - 1 := ⟨q, b⟩
    simp only [if_pos q2, if_pos q]
    have zi := z (i + 1) (by omega) (by omega)
    exact ⟨zi.1, zi.2.1, ep (i + 1) (by omega) (by omega)⟩
  · have q2 : ¬ (h + 1 ≤ i ∧ i < n - 1) := fun x => q x.1
    simp only [if_neg q2, if_neg q]
    have zi := z i a (by omega)
    exact ⟨zi.1, zi.2.1, ep i a (by omega)⟩

set_option maxHeartbeats 4000000 in
set_option maxRecDepth 100000 in
theorem c_X11_image (l : Launch) (g : xG) (σ : xS) (A : Nat → Prop) (ph : Nat) (tk : Int) (hx0 : XObj g σ.1 ph tk) (n rd : Int) (P : Int → Int) (G : Int → Option Nat) (hst : StAt g σ.1 1 n rd P G) (hok : StOk σ n rd P G) (hH : HsOk σ) (ni ri : Int) (Pi : Int → Int) (Gi : Int → Option Nat) (hsi9 : StAt g σ.1 4 ni ri Pi Gi) (hoi : StOk σ ni ri Pi Gi) : Met l yX11_image wsX11_image ({ frames := 2, cells := 0, slots := 0, locals := 64 }) (va_Pc [.ref (g.2.2 0)] (xPreQ g A σ)) (x_Qi g A (fun r σ1 => σ1.2 = σ.2 ∧ (∀ j, j ≠ 0 ∧ j ≠ 4 ∧ j ≠ 5 ∧ j ≠ 6 → σ1.1 j = σ.1 j) ∧ r = zSum P n.toNat ∧ XObj g σ1.1 ph 1 ∧ StAt g σ1.1 4 n rd (zCopy P Pi 9) (zCopy G Gi 9))) (0) (0) A := by
  refine Met.ofW (cc := cX11_image) (maxL := 1) (ret := (some .int)) (by decide) rfl ?_
  intro p e s m args below meth c s₁ B hml hv
  obtain ⟨rfl, hP, hK, hD, hA⟩ := hv
  have hx := B.exec
  have hb := B.bytes
  have hr := B.returns
  have hts := atoms_spec (ws := wsX11_image) B.pre
  have hown : s.vm.findClass RX11 = some m.cls := findClass_of_methodNamed B.named
  have hlocks := B.notSynchronized
  have hS : va_S A s.heap s.heap [] := va_S.rf
  have hfr : ∀ j, (j ≠ 0 ∧ j ≠ 4 ∧ j ≠ 5 ∧ j ≠ 6) → σ.1 j = σ.1 j := fun _ _ => rfl
  have hl := lv_entry ([.ref (g.2.2 0)]) (n := 1) (Nat.le_of_ble_eq_true rfl)
  rw [lg_entry_eq]
  generalize (lg_sl ([.ref (g.2.2 0)]) ++ List.replicate (1 - (lg_sl ([.ref (g.2.2 0)])).length) Slot.unset).toArray = ls at hl ⊢
  have hl : lv_has ls 1 [(0, .ref (g.2.2 0))] := hl
  have hm0 : σ.1 1 = .inr (7, [.ref (g.2.2 2), .ref (g.2.2 3), .int (iI n), .int (iI rd)]) := hst.1
  have hm1 : MRef g σ.1 2 9 G := hst.2.1
  have hm2 : MArr g σ.1 3 9 P := hst.2.2
  have hok1 := hok.1
  have hok2 := hok.2.1
  have hok3 := hok.2.2.1
  have hqi0 : σ.1 4 = .inr (7, [.ref (g.2.2 5), .ref (g.2.2 6), .int (iI ni), .int (iI ri)]) := hsi9.1
  have hqi1 : MRef g σ.1 5 9 Gi := hsi9.2.1
  have hqi2 : MArr g σ.1 6 9 Pi := hsi9.2.2
  have hoi1 := hoi.1
  have hoi2 := hoi.2.1
  have hoi3 := hoi.2.2.1
  have hw_0 := hts (.fieldLink RX11 16 "TwiceAsRich" "image" "LTwiceAsRich$Street;") (by decide +kernel)
  have hin_X11 : ∀ w ∈ wsX110, w ∈ wsX11_image := by decide +kernel
  have hw_2 := hts (.fieldLink RX11 10 "TwiceAsRich" "street" "LTwiceAsRich$Street;") (by decide +kernel)
  have hw_3 := hts (.fieldLink RX11 218 "TwiceAsRich" "imageTaken" "Z") (by decide +kernel)
  refine lv_aload_n hx hb dX11_image_0 rfl (lv_at hl 0 rfl) ?_
  refine x_get (C := RX11) (T := TX11) (N := 11) hx hb hts hin_X11 hown hK hP (0) (by decide) hx0 rfl 1 (by decide) hw_0 (fun _ h9 => h9) rfl dX11_image_1 ?_
  refine lv_aload_n hx hb dX11_image_4 rfl (lv_at hl 0 rfl) ?_
  refine x_get (C := RX11) (T := TX11) (N := 11) hx hb hts hin_X11 hown hK hP (0) (by decide) hx0 rfl 0 (by decide) hw_2 (fun _ h9 => h9) rfl dX11_image_5 ?_
  refine x_cqv0 (va_runV (As := [.ref (g.2.2 1)]) (rest := []) ⟨hx, hb, hml, hown, hts⟩ (c_X7_become l g σ A (4) (by decide) (ni) (ri) Pi Gi ⟨hqi0, hqi1, hqi2⟩ hoi hH (1) (by decide) (by decide) (n) (rd) P G ⟨hm0, hm1, hm2⟩ hok) (cwV 1 hts gX11_image_X7_become rfl rfl rfl (by decide +kernel) ⟨Nat.le_of_ble_eq_true rfl, Nat.le_of_ble_eq_true rfl⟩) (x_preVQ hK hP hD hS hA (x_recv hK hP (i := 4) (by decide) hqi0 rfl)) rfl rfl hl.1 rfl (lv_room (Nat.le_of_ble_eq_true rfl)) dX11_image_8 ⟨by decide, by decide⟩) hS (fun σ1 H locs hpost hP hD hS => ?_)
  obtain ⟨M_1, p1⟩ := σ1
  obtain ⟨hp0, hfrc, hnst⟩ := hpost
  obtain rfl : p1 = σ.2 := hp0
  have hP : xP g (M_1, σ.2) H := hP
  have hD : xD g A (M_1, σ.2) := hD
  have hx0 := (hfrc (0) (by omega)).trans hx0
  have hm0 := (hfrc (1) (by omega)).trans hm0
  have hm1 := (hfrc (2) (by omega)).trans hm1
  have hm2 := (hfrc (3) (by omega)).trans hm2
  have hfr := x_frc (F := fun j => j ≠ 0 ∧ j ≠ 4 ∧ j ≠ 5 ∧ j ≠ 6) hfr hfrc (fun j h => by have h : j ≠ 0 ∧ j ≠ 4 ∧ j ≠ 5 ∧ j ≠ 6 := h; omega)
  obtain ⟨Pn_2, hPn_2⟩ : ∃ q : Int → Int, q = zCopy P Pi 9 := ⟨_, rfl⟩
  obtain ⟨Gn_3, hGn_3⟩ : ∃ q : Int → Option Nat, q = zCopy G Gi 9 := ⟨_, rfl⟩
  have ost_4 : StOk σ (n) (rd) Pn_2 Gn_3 := by rw [hPn_2, hGn_3]; exact StOk_become hoi hok
  rw [← hPn_2, ← hGn_3] at hnst
  have hqi0 : M_1 (4) = .inr (7, [.ref (g.2.2 5), .ref (g.2.2 6), .int (iI (n)), .int (iI (rd))]) := hnst.1
  have hqi1 : MRef g M_1 5 9 Gn_3 := hnst.2.1
  have hqi2 : MArr g M_1 6 9 Pn_2 := hnst.2.2
  refine lv_aload_n hx hb dX11_image_11 rfl (lv_at hl 0 rfl) ?_
  refine x_iconst hx hb dX11_image_12 ?_
  refine x_put (C := RX11) (T := TX11) (N := 11) (ty := .boolean) hx hb hts hin_X11 hown hK hP hD hS (0) (by decide) hx0 rfl tyX11 tyX11_ok nmX11 2 (by decide) hw_3 (fun _ h9 => h9) rfl (by decide +kernel) (x_nz (by omega)) rfl (Nat.le_of_ble_eq_true rfl) dX11_image_13 (fun M_5 H locs hnew hne hP hD hS => ?_)
  have hP : xP g (M_5, σ.2) H := hP
  have hD : xD g A (M_5, σ.2) := hD
  have hx0 : M_5 (0) = .inr (11, [.ref (g.2.2 1), .ref (g.2.2 4), .int (iI (1)), .ref (g.2.2 7), .ref ph, .ref (g.2.2 13), .ref (g.2.2 23), .ref (g.2.2 25), .ref (g.2.2 26), .ref (g.2.2 27), .ref (g.2.2 28)]) := hnew
  have hm0 := (hne (1) (by decide)).trans hm0
  have hm1 := (hne (2) (by decide)).trans hm1
  have hm2 := (hne (3) (by decide)).trans hm2
  have hqi0 := (hne (4) (by decide)).trans hqi0
  have hqi1 := (hne (5) (by decide)).trans hqi1
  have hqi2 := (hne (6) (by decide)).trans hqi2
  have hfr := x_fr (F := fun j => j ≠ 0 ∧ j ≠ 4 ∧ j ≠ 5 ∧ j ≠ 6) hfr hne (fun j h => by have h : j ≠ 0 ∧ j ≠ 4 ∧ j ≠ 5 ∧ j ≠ 6 := h; omega)
  refine lv_aload_n hx hb dX11_image_16 rfl (lv_at hl 0 rfl) ?_
  refine x_get (C := RX11) (T := TX11) (N := 11) hx hb hts hin_X11 hown hK hP (0) (by decide) hx0 rfl 0 (by decide) hw_2 (fun _ h9 => h9) rfl dX11_image_17 ?_
  refine x_ci (va_runV (As := []) (rest := []) ⟨hx, hb, hml, hown, hts⟩ (c_X7_allCoins l g (M_5, σ.2) (1) (by decide) (n) (rd) P G ⟨hm0, hm1, hm2⟩ hok hH ) (cwV 0 hts gX11_image_X7_allCoins rfl rfl rfl (by decide +kernel) ⟨Nat.le_of_ble_eq_true rfl, Nat.le_of_ble_eq_true rfl⟩) (x_preV hK hP (x_recv hK hP (i := 1) (by decide) hm0 rfl)) rfl rfl hl.1 rfl (lv_room (Nat.le_of_ble_eq_true rfl)) dX11_image_20 ⟨Nat.le_of_ble_eq_true rfl, Nat.le_of_ble_eq_true rfl⟩) (fun r_20 hr_20 qr_20 => ?_)
  replace qr_20 : r_20 = zSum (P) ((n)).toNat ∧ 0 ≤ r_20 ∧ r_20 ≤ 99999 := qr_20
  refine x_retQ hx hb hr (by omega) ?_ hP hD hS dX11_image_23 hlocks
  refine ⟨rfl, hfr, qr_20.1, hx0, ?_⟩
  rw [← hPn_2, ← hGn_3]
  exact ⟨hqi0, hqi1, hqi2⟩

set_option maxHeartbeats 4000000 in
set_option maxRecDepth 100000 in
theorem c_X11_restore (l : Launch) (g : xG) (σ : xS) (A : Nat → Prop) (ph : Nat) (tk : Int) (hx0 : XObj g σ.1 ph tk) (n rd : Int) (P : Int → Int) (G : Int → Option Nat) (hst : StAt g σ.1 1 n rd P G) (hok : StOk σ n rd P G) (hH : HsOk σ) (ni ri : Int) (Pi : Int → Int) (Gi : Int → Option Nat) (hsi9 : StAt g σ.1 4 ni ri Pi Gi) (hoi : StOk σ ni ri Pi Gi) (htk : tk = 0 ∨ tk = 1) : Met l yX11_restore wsX11_restore ({ frames := 2, cells := 0, slots := 0, locals := 64 }) (va_Pc [.ref (g.2.2 0)] (xPreQ g A σ)) (x_Qi g A (fun r σ1 => σ1.2 = σ.2 ∧ (∀ j, j ≠ 1 ∧ j ≠ 2 ∧ j ≠ 3 → σ1.1 j = σ.1 j) ∧ ((tk = 0 ∧ r = -3 ∧ StAt g σ1.1 1 n rd P G) ∨ (tk = 1 ∧ r = zSum (zCopy Pi P 9) ni.toNat ∧ StAt g σ1.1 1 ni ri (zCopy Pi P 9) (zCopy Gi G 9))))) (0) (0) A := by
  refine Met.ofW (cc := cX11_restore) (maxL := 1) (ret := (some .int)) (by decide) rfl ?_
  intro p e s m args below meth c s₁ B hml hv
  obtain ⟨rfl, hP, hK, hD, hA⟩ := hv
  have hx := B.exec
  have hb := B.bytes
  have hr := B.returns
  have hts := atoms_spec (ws := wsX11_restore) B.pre
  have hown : s.vm.findClass RX11 = some m.cls := findClass_of_methodNamed B.named
  have hlocks := B.notSynchronized
  have hS : va_S A s.heap s.heap [] := va_S.rf
  have hfr : ∀ j, (j ≠ 1 ∧ j ≠ 2 ∧ j ≠ 3) → σ.1 j = σ.1 j := fun _ _ => rfl
  have hl := lv_entry ([.ref (g.2.2 0)]) (n := 1) (Nat.le_of_ble_eq_true rfl)
  rw [lg_entry_eq]
  generalize (lg_sl ([.ref (g.2.2 0)]) ++ List.replicate (1 - (lg_sl ([.ref (g.2.2 0)])).length) Slot.unset).toArray = ls at hl ⊢
  have hl : lv_has ls 1 [(0, .ref (g.2.2 0))] := hl
  have hm0 : σ.1 1 = .inr (7, [.ref (g.2.2 2), .ref (g.2.2 3), .int (iI n), .int (iI rd)]) := hst.1
  have hm1 : MRef g σ.1 2 9 G := hst.2.1
  have hm2 : MArr g σ.1 3 9 P := hst.2.2
  have hok1 := hok.1
  have hok2 := hok.2.1
  have hok3 := hok.2.2.1
  have hqi0 : σ.1 4 = .inr (7, [.ref (g.2.2 5), .ref (g.2.2 6), .int (iI ni), .int (iI ri)]) := hsi9.1
  have hqi1 : MRef g σ.1 5 9 Gi := hsi9.2.1
  have hqi2 : MArr g σ.1 6 9 Pi := hsi9.2.2
  have hoi1 := hoi.1
  have hoi2 := hoi.2.1
  have hoi3 := hoi.2.2.1
  have hw_0 := hts (.fieldLink RX11 218 "TwiceAsRich" "imageTaken" "Z") (by decide +kernel)
  have hin_X11 : ∀ w ∈ wsX110, w ∈ wsX11_restore := by decide +kernel
  have hw_2 := hts (.fieldLink RX11 10 "TwiceAsRich" "street" "LTwiceAsRich$Street;") (by decide +kernel)
  have hw_3 := hts (.fieldLink RX11 16 "TwiceAsRich" "image" "LTwiceAsRich$Street;") (by decide +kernel)
  refine lv_aload_n hx hb dX11_restore_0 rfl (lv_at hl 0 rfl) ?_
  refine x_get (C := RX11) (T := TX11) (N := 11) hx hb hts hin_X11 hown hK hP (0) (by decide) hx0 rfl 2 (by decide) hw_0 (fun _ h9 => h9) rfl dX11_restore_1 ?_
  refine x_if_ne (tgt := 10) hx hb (by omega) dX11_restore_4 (by decide) (fun c_4 => ?_) (fun c_4 => ?_)
  · refine lv_aload_n hx hb dX11_restore_10 rfl (lv_at hl 0 rfl) ?_
    refine x_get (C := RX11) (T := TX11) (N := 11) hx hb hts hin_X11 hown hK hP (0) (by decide) hx0 rfl 0 (by decide) hw_2 (fun _ h9 => h9) rfl dX11_restore_11 ?_
    refine lv_aload_n hx hb dX11_restore_14 rfl (lv_at hl 0 rfl) ?_
    refine x_get (C := RX11) (T := TX11) (N := 11) hx hb hts hin_X11 hown hK hP (0) (by decide) hx0 rfl 1 (by decide) hw_3 (fun _ h9 => h9) rfl dX11_restore_15 ?_
    refine x_cqv0 (va_runV (As := [.ref (g.2.2 4)]) (rest := []) ⟨hx, hb, hml, hown, hts⟩ (c_X7_become l g σ A (1) (by decide) (n) (rd) P G ⟨hm0, hm1, hm2⟩ hok hH (4) (by decide) (by decide) (ni) (ri) Pi Gi ⟨hqi0, hqi1, hqi2⟩ hoi) (cwV 1 hts gX11_restore_X7_become rfl rfl rfl (by decide +kernel) ⟨Nat.le_of_ble_eq_true rfl, Nat.le_of_ble_eq_true rfl⟩) (x_preVQ hK hP hD hS hA (x_recv hK hP (i := 1) (by decide) hm0 rfl)) rfl rfl hl.1 rfl (lv_room (Nat.le_of_ble_eq_true rfl)) dX11_restore_18 ⟨by decide, by decide⟩) hS (fun σ1 H locs hpost hP hD hS => ?_)
    obtain ⟨M_1, p1⟩ := σ1
    obtain ⟨hp0, hfrc, hnst⟩ := hpost
    obtain rfl : p1 = σ.2 := hp0
    have hP : xP g (M_1, σ.2) H := hP
    have hD : xD g A (M_1, σ.2) := hD
    have hx0 := (hfrc (0) (by omega)).trans hx0
    have hqi0 := (hfrc (4) (by omega)).trans hqi0
    have hqi1 := (hfrc (5) (by omega)).trans hqi1
    have hqi2 := (hfrc (6) (by omega)).trans hqi2
    have hfr := x_frc (F := fun j => j ≠ 1 ∧ j ≠ 2 ∧ j ≠ 3) hfr hfrc (fun j h => by have h : j ≠ 1 ∧ j ≠ 2 ∧ j ≠ 3 := h; omega)
    obtain ⟨Pn_2, hPn_2⟩ : ∃ q : Int → Int, q = zCopy Pi P 9 := ⟨_, rfl⟩
    obtain ⟨Gn_3, hGn_3⟩ : ∃ q : Int → Option Nat, q = zCopy Gi G 9 := ⟨_, rfl⟩
    have ost_4 : StOk σ (ni) (ri) Pn_2 Gn_3 := by rw [hPn_2, hGn_3]; exact StOk_become hok hoi
    rw [← hPn_2, ← hGn_3] at hnst
    have hm0 : M_1 (1) = .inr (7, [.ref (g.2.2 2), .ref (g.2.2 3), .int (iI (ni)), .int (iI (ri))]) := hnst.1
    have hm1 : MRef g M_1 2 9 Gn_3 := hnst.2.1
    have hm2 : MArr g M_1 3 9 Pn_2 := hnst.2.2
    refine lv_aload_n hx hb dX11_restore_21 rfl (lv_at hl 0 rfl) ?_
    refine x_get (C := RX11) (T := TX11) (N := 11) hx hb hts hin_X11 hown hK hP (0) (by decide) hx0 rfl 0 (by decide) hw_2 (fun _ h9 => h9) rfl dX11_restore_22 ?_
    refine x_ci (va_runV (As := []) (rest := []) ⟨hx, hb, hml, hown, hts⟩ (c_X7_allCoins l g (M_1, σ.2) (1) (by decide) (ni) (ri) Pn_2 Gn_3 ⟨hm0, hm1, hm2⟩ ost_4 hH ) (cwV 0 hts gX11_restore_X7_allCoins rfl rfl rfl (by decide +kernel) ⟨Nat.le_of_ble_eq_true rfl, Nat.le_of_ble_eq_true rfl⟩) (x_preV hK hP (x_recv hK hP (i := 1) (by decide) hm0 rfl)) rfl rfl hl.1 rfl (lv_room (Nat.le_of_ble_eq_true rfl)) dX11_restore_25 ⟨Nat.le_of_ble_eq_true rfl, Nat.le_of_ble_eq_true rfl⟩) (fun r_25 hr_25 qr_25 => ?_)
    replace qr_25 : r_25 = zSum (Pn_2) ((ni)).toNat ∧ 0 ≤ r_25 ∧ r_25 ≤ 99999 := qr_25
    refine x_retQ hx hb hr (by omega) ?_ hP hD hS dX11_restore_28 hlocks
    refine ⟨rfl, hfr, Or.inr ⟨by omega, ?_, ?_⟩⟩
    · rw [← hPn_2]; exact qr_25.1
    · rw [← hPn_2, ← hGn_3]; exact ⟨hm0, hm1, hm2⟩
  · refine x_bipush (n := -3) hx hb (by decide +kernel) dX11_restore_7 ?_
    refine x_retQ hx hb hr (by omega) ?_ hP hD hS dX11_restore_9 hlocks
    exact ⟨rfl, hfr, Or.inl ⟨by omega, rfl, hm0, hm1, hm2⟩⟩

set_option maxHeartbeats 4000000 in
set_option maxRecDepth 100000 in
theorem c_X11_wedding (l : Launch) (g : xG) (σ : xS) (A : Nat → Prop) (ph : Nat) (tk : Int) (hx0 : XObj g σ.1 ph tk) (n rd : Int) (P : Int → Int) (G : Int → Option Nat) (hst : StAt g σ.1 1 n rd P G) (hok : StOk σ n rd P G) (hH : HsOk σ) (nm rm : Int) (Pm : Int → Int) (Gm : Int → Option Nat) (hsm9 : StAt g σ.1 7 nm rm Pm Gm) (hom : StOk σ nm rm Pm Gm) (h : Int) (hh : inR h) : Met l yX11_wedding wsX11_wedding ({ frames := 7, cells := 0, slots := 0, locals := 224 }) (va_Pc [.ref (g.2.2 0), .int (iI (h))] (xPreQ g A σ)) (x_Qi g A (fun r σ1 => σ1.2 = σ.2 ∧ (∀ j, j ≠ 7 ∧ j ≠ 8 ∧ j ≠ 9 → σ1.1 j = σ.1 j) ∧ (r = zWed (sK σ G) (sF σ G) P n rd h) ∧ xStr g σ1.1 σ 7)) (0) (0) A := by
  refine Met.ofW (cc := cX11_wedding) (maxL := 2) (ret := (some .int)) (by decide) rfl ?_
  intro p e s m args below meth c s₁ B hml hv
  obtain ⟨rfl, hP, hK, hD, hA⟩ := hv
  have hx := B.exec
  have hb := B.bytes
  have hr := B.returns
  have hts := atoms_spec (ws := wsX11_wedding) B.pre
  have hown : s.vm.findClass RX11 = some m.cls := findClass_of_methodNamed B.named
  have hlocks := B.notSynchronized
  have hS : va_S A s.heap s.heap [] := va_S.rf
  have hfr : ∀ j, (j ≠ 7 ∧ j ≠ 8 ∧ j ≠ 9) → σ.1 j = σ.1 j := fun _ _ => rfl
  have hl := lv_entry ([.ref (g.2.2 0), .int (iI (h))]) (n := 2) (Nat.le_of_ble_eq_true rfl)
  rw [lg_entry_eq]
  generalize (lg_sl ([.ref (g.2.2 0), .int (iI (h))]) ++ List.replicate (2 - (lg_sl ([.ref (g.2.2 0), .int (iI (h))])).length) Slot.unset).toArray = ls at hl ⊢
  have hl : lv_has ls 2 [(0, .ref (g.2.2 0)), (1, .int (iI (h)))] := hl
  have hm0 : σ.1 1 = .inr (7, [.ref (g.2.2 2), .ref (g.2.2 3), .int (iI n), .int (iI rd)]) := hst.1
  have hm1 : MRef g σ.1 2 9 G := hst.2.1
  have hm2 : MArr g σ.1 3 9 P := hst.2.2
  have hok1 := hok.1
  have hok2 := hok.2.1
  have hok3 := hok.2.2.1
  have hqm0 : σ.1 7 = .inr (7, [.ref (g.2.2 8), .ref (g.2.2 9), .int (iI nm), .int (iI rm)]) := hsm9.1
  have hqm1 : MRef g σ.1 8 9 Gm := hsm9.2.1
  have hqm2 : MArr g σ.1 9 9 Pm := hsm9.2.2
  have hom1 := hom.1
  have hom2 := hom.2.1
  have hom3 := hom.2.2.1
  have hw_0 := hts (.fieldLink RX11 10 "TwiceAsRich" "street" "LTwiceAsRich$Street;") (by decide +kernel)
  have hin_X11 : ∀ w ∈ wsX110, w ∈ wsX11_wedding := by decide +kernel
  have hw_2 := hts (.fieldLink RX11 19 "TwiceAsRich" "mind" "LTwiceAsRich$Street;") (by decide +kernel)
  have hw_3 := hts (.fieldLink RX11 103 "TwiceAsRich$Street" "purses" "[I") (by decide +kernel)
  have hin_X7 : ∀ w ∈ wsX70, w ∈ wsX11_wedding := by decide +kernel
  have hw_5 := hts (.methodLink RX11 184 Lib.Math.min.name) (by decide +kernel)
  have hw_6 := hts (.static Lib.Math.min.name) (by decide +kernel)
  have hw_7 := hts (.initialized "java/lang/Math") (by decide +kernel)
  have hw_8 := hts (.code Lib.Math.min.name Lib.Math.min.code 2 (some .int)) (by decide +kernel)
  refine lv_aload_n hx hb dX11_wedding_0 rfl (lv_at hl 0 rfl) ?_
  refine x_get (C := RX11) (T := TX11) (N := 11) hx hb hts hin_X11 hown hK hP (0) (by decide) hx0 rfl 0 (by decide) hw_0 (fun _ h9 => h9) rfl dX11_wedding_1 ?_
  refine lv_iload_n hx hb dX11_wedding_4 rfl (lv_at hl 1 rfl) ?_
  refine x_ci (va_runV (As := [.int (iI (h))]) (rest := []) ⟨hx, hb, hml, hown, hts⟩ (c_X7_has l g σ (1) (by decide) (n) (rd) P G ⟨hm0, hm1, hm2⟩ hok hH (h) (by omega)) (cwV 1 hts gX11_wedding_X7_has rfl rfl rfl (by decide +kernel) ⟨Nat.le_of_ble_eq_true rfl, Nat.le_of_ble_eq_true rfl⟩) (x_preV hK hP (x_recv hK hP (i := 1) (by decide) hm0 rfl)) rfl rfl hl.1 rfl (lv_room (Nat.le_of_ble_eq_true rfl)) dX11_wedding_5 ⟨Nat.le_of_ble_eq_true rfl, Nat.le_of_ble_eq_true rfl⟩) (fun r_5 hr_5 qr_5 => ?_)
  replace qr_5 : (r_5 = 1 ∧ 0 ≤ (h) ∧ (h) < (n)) ∨ (r_5 = 0 ∧ ¬ (0 ≤ (h) ∧ (h) < (n))) := qr_5
  refine x_if_eq (tgt := 24) hx hb (by omega) dX11_wedding_8 (by decide) (fun c_8 => ?_) (fun c_8 => ?_)
  · refine x_iconst hx hb dX11_wedding_24 ?_
    refine x_retQ hx hb hr (by omega) ?_ hP hD hS dX11_wedding_25 hlocks
    refine ⟨rfl, hfr, by unfold zWed; rw [if_neg (by omega)], nm, rm, Pm, Gm, hsm9, hom⟩
  · refine lv_aload_n hx hb dX11_wedding_11 rfl (lv_at hl 0 rfl) ?_
    refine x_get (C := RX11) (T := TX11) (N := 11) hx hb hts hin_X11 hown hK hP (0) (by decide) hx0 rfl 0 (by decide) hw_0 (fun _ h9 => h9) rfl dX11_wedding_12 ?_
    refine lv_iload_n hx hb dX11_wedding_15 rfl (lv_at hl 1 rfl) ?_
    refine x_iconst hx hb dX11_wedding_16 ?_
    refine x_iadd hx hb dX11_wedding_17 ?_
    refine x_ci (va_runV (As := [.int (iI (h + 1))]) (rest := []) ⟨hx, hb, hml, hown, hts⟩ (c_X7_has l g σ (1) (by decide) (n) (rd) P G ⟨hm0, hm1, hm2⟩ hok hH (h + 1) (by omega)) (cwV 1 hts gX11_wedding_X7_has rfl rfl rfl (by decide +kernel) ⟨Nat.le_of_ble_eq_true rfl, Nat.le_of_ble_eq_true rfl⟩) (x_preV hK hP (x_recv hK hP (i := 1) (by decide) hm0 rfl)) rfl rfl hl.1 rfl (lv_room (Nat.le_of_ble_eq_true rfl)) dX11_wedding_18 ⟨Nat.le_of_ble_eq_true rfl, Nat.le_of_ble_eq_true rfl⟩) (fun r_18 hr_18 qr_18 => ?_)
    replace qr_18 : (r_18 = 1 ∧ 0 ≤ (h + 1) ∧ (h + 1) < (n)) ∨ (r_18 = 0 ∧ ¬ (0 ≤ (h + 1) ∧ (h + 1) < (n))) := qr_18
    refine x_if_ne (tgt := 26) hx hb (by omega) dX11_wedding_21 (by decide) (fun c_21 => ?_) (fun c_21 => ?_)
    · refine lv_aload_n hx hb dX11_wedding_26 rfl (lv_at hl 0 rfl) ?_
      refine x_get (C := RX11) (T := TX11) (N := 11) hx hb hts hin_X11 hown hK hP (0) (by decide) hx0 rfl 3 (by decide) hw_2 (fun _ h9 => h9) rfl dX11_wedding_27 ?_
      refine lv_aload_n hx hb dX11_wedding_30 rfl (lv_at hl 0 rfl) ?_
      refine x_get (C := RX11) (T := TX11) (N := 11) hx hb hts hin_X11 hown hK hP (0) (by decide) hx0 rfl 0 (by decide) hw_0 (fun _ h9 => h9) rfl dX11_wedding_31 ?_
      refine x_cqv0 (va_runV (As := [.ref (g.2.2 1)]) (rest := []) ⟨hx, hb, hml, hown, hts⟩ (c_X7_become l g σ A (7) (by decide) (nm) (rm) Pm Gm ⟨hqm0, hqm1, hqm2⟩ hom hH (1) (by decide) (by decide) (n) (rd) P G ⟨hm0, hm1, hm2⟩ hok) (cwV 1 hts gX11_wedding_X7_become rfl rfl rfl (by decide +kernel) ⟨Nat.le_of_ble_eq_true rfl, Nat.le_of_ble_eq_true rfl⟩) (x_preVQ hK hP hD hS hA (x_recv hK hP (i := 7) (by decide) hqm0 rfl)) rfl rfl hl.1 rfl (lv_room (Nat.le_of_ble_eq_true rfl)) dX11_wedding_34 ⟨by decide, by decide⟩) hS (fun σ1 H locs hpost hP hD hS => ?_)
      obtain ⟨M_1, p1⟩ := σ1
      obtain ⟨hp0, hfrc, hnst⟩ := hpost
      obtain rfl : p1 = σ.2 := hp0
      have hP : xP g (M_1, σ.2) H := hP
      have hD : xD g A (M_1, σ.2) := hD
      have hx0 := (hfrc (0) (by omega)).trans hx0
      have hm0 := (hfrc (1) (by omega)).trans hm0
      have hm1 := (hfrc (2) (by omega)).trans hm1
      have hm2 := (hfrc (3) (by omega)).trans hm2
      have hfr := x_frc (F := fun j => j ≠ 7 ∧ j ≠ 8 ∧ j ≠ 9) hfr hfrc (fun j h => by have h : j ≠ 7 ∧ j ≠ 8 ∧ j ≠ 9 := h; omega)
      obtain ⟨Pn_2, hPn_2⟩ : ∃ q : Int → Int, q = zCopy P Pm 9 := ⟨_, rfl⟩
      obtain ⟨Gn_3, hGn_3⟩ : ∃ q : Int → Option Nat, q = zCopy G Gm 9 := ⟨_, rfl⟩
      have ost_4 : StOk σ (n) (rd) Pn_2 Gn_3 := by rw [hPn_2, hGn_3]; exact StOk_become hom hok
      rw [← hPn_2, ← hGn_3] at hnst
      have hqm0 : M_1 (7) = .inr (7, [.ref (g.2.2 8), .ref (g.2.2 9), .int (iI (n)), .int (iI (rd))]) := hnst.1
      have hqm1 : MRef g M_1 8 9 Gn_3 := hnst.2.1
      have hqm2 : MArr g M_1 9 9 Pn_2 := hnst.2.2
      refine lv_aload_n hx hb dX11_wedding_37 rfl (lv_at hl 0 rfl) ?_
      refine x_get (C := RX11) (T := TX11) (N := 11) hx hb hts hin_X11 hown hK hP (0) (by decide) hx0 rfl 3 (by decide) hw_2 (fun _ h9 => h9) rfl dX11_wedding_38 ?_
      refine x_get (C := RX7) (T := TX7) (N := 4) hx hb hts hin_X7 hown hK hP (7) (by decide) hqm0 rfl 1 (by decide) hw_3 (fun _ h9 => h9) rfl dX11_wedding_41 ?_
      refine lv_iload_n hx hb dX11_wedding_44 rfl (lv_at hl 1 rfl) ?_
      have hpa := (ost_4.2.2.2.2.2 h (by omega) (by omega)).2
      have hpb := (ost_4.2.2.2.2.2 (h + 1) (by omega) (by omega)).2
      have e8 := hGn_3
      have e9a := hPn_2
      refine x_sipush (n := 9999) hx hb (by decide +kernel) dX11_wedding_45 ?_
      refine lv_aload_n hx hb dX11_wedding_48 rfl (lv_at hl 0 rfl) ?_
      refine x_get (C := RX11) (T := TX11) (N := 11) hx hb hts hin_X11 hown hK hP (0) (by decide) hx0 rfl 3 (by decide) hw_2 (fun _ h9 => h9) rfl dX11_wedding_49 ?_
      refine x_get (C := RX7) (T := TX7) (N := 4) hx hb hts hin_X7 hown hK hP (7) (by decide) hqm0 rfl 1 (by decide) hw_3 (fun _ h9 => h9) rfl dX11_wedding_52 ?_
      refine lv_iload_n hx hb dX11_wedding_55 rfl (lv_at hl 1 rfl) ?_
      refine x_iald (f := Pn_2) hx hb hK hP (9) (by decide) hqm2 (by omega) (by omega) (by decide) dX11_wedding_56 ?_
      have hb_5 := ost_4.2.2.2.1 (h)
      refine lv_aload_n hx hb dX11_wedding_57 rfl (lv_at hl 0 rfl) ?_
      refine x_get (C := RX11) (T := TX11) (N := 11) hx hb hts hin_X11 hown hK hP (0) (by decide) hx0 rfl 3 (by decide) hw_2 (fun _ h9 => h9) rfl dX11_wedding_58 ?_
      refine x_get (C := RX7) (T := TX7) (N := 4) hx hb hts hin_X7 hown hK hP (7) (by decide) hqm0 rfl 1 (by decide) hw_3 (fun _ h9 => h9) rfl dX11_wedding_61 ?_
      refine lv_iload_n hx hb dX11_wedding_64 rfl (lv_at hl 1 rfl) ?_
      refine x_iconst hx hb dX11_wedding_65 ?_
      refine x_iadd hx hb dX11_wedding_66 ?_
      refine x_iald (f := Pn_2) hx hb hK hP (9) (by decide) hqm2 (by omega) (by omega) (by decide) dX11_wedding_67 ?_
      have hb_6 := ost_4.2.2.2.1 (h + 1)
      refine x_iadd hx hb dX11_wedding_68 ?_
      refine x_min hx hb (hml.trans hl.1.symm) hown hw_5 hw_6 hw_7 hw_8 (Nat.le_of_ble_eq_true rfl) (Nat.le_of_ble_eq_true rfl) (Nat.le_of_ble_eq_true rfl) (Nat.le_of_ble_eq_true rfl) (by omega) (by omega) dX11_wedding_69 (fun q_7 hq_7 => ?_)
      refine x_iast (f := Pn_2) hx hb hK hP hD hS (9) (by decide) hqm2 (by omega) (by omega) (by decide) dX11_wedding_72 (fun M_8 H locs hnew hne hP hD hS => ?_)
      obtain ⟨f_9, hf_9⟩ : ∃ q : Int → Int, q = (upI Pn_2 (h) (q_7)) := ⟨_, rfl⟩
      rw [← hf_9] at hnew
      have hP : xP g (M_8, σ.2) H := hP
      have hD : xD g A (M_8, σ.2) := hD
      have hqm2 : M_8 (9) = .inl (g.2.1 0, 9, .inl (fun k => iI (f_9 (k : Int)))) := hnew
      have hx0 := (hne (0) (by decide)).trans hx0
      have hm0 := (hne (1) (by decide)).trans hm0
      have hm1 := (hne (2) (by decide)).trans hm1
      have hm2 := (hne (3) (by decide)).trans hm2
      have hqm0 := (hne (7) (by decide)).trans hqm0
      have hqm1 := (hne (8) (by decide)).trans hqm1
      have hfr := x_fr (F := fun j => j ≠ 7 ∧ j ≠ 8 ∧ j ≠ 9) hfr hne (fun j h => by have h : j ≠ 7 ∧ j ≠ 8 ∧ j ≠ 9 := h; omega)
      have ost_10 : StOk σ (n) (rd) f_9 Gn_3 := by (rw [hf_9]; exact StOk_purse ost_4 (by omega))
      have e9 := hf_9
      have hmn : q_7 = min 9999 (Pn_2 h + Pn_2 (h + 1)) := by omega
      rw [hmn, e9a] at e9
      refine lv_aload_n hx hb dX11_wedding_73 rfl (lv_at hl 0 rfl) ?_
      refine x_get (C := RX11) (T := TX11) (N := 11) hx hb hts hin_X11 hown hK hP (0) (by decide) hx0 rfl 3 (by decide) hw_2 (fun _ h9 => h9) rfl dX11_wedding_74 ?_
      refine lv_iload_n hx hb dX11_wedding_77 rfl (lv_at hl 1 rfl) ?_
      refine x_iconst hx hb dX11_wedding_78 ?_
      refine x_iadd hx hb dX11_wedding_79 ?_
      refine x_cqv0 (va_runV (As := [.int (iI (h + 1))]) (rest := []) ⟨hx, hb, hml, hown, hts⟩ (c_X7_remove l g (M_8, σ.2) A (7) (by decide) (n) (rd) f_9 Gn_3 ⟨hqm0, hqm1, hqm2⟩ ost_10 hH (h + 1) (by omega)) (cwV 1 hts gX11_wedding_X7_remove rfl rfl rfl (by decide +kernel) ⟨Nat.le_of_ble_eq_true rfl, Nat.le_of_ble_eq_true rfl⟩) (x_preVQ hK hP hD hS hA (x_recv hK hP (i := 7) (by decide) hqm0 rfl)) rfl rfl hl.1 rfl (lv_room (Nat.le_of_ble_eq_true rfl)) dX11_wedding_80 ⟨by decide, by decide⟩) hS (fun σ1 H locs hpost hP hD hS => ?_)
      obtain ⟨M_11, p1⟩ := σ1
      obtain ⟨hp0, hfrc, hnst⟩ := hpost
      obtain rfl : p1 = σ.2 := hp0
      have hP : xP g (M_11, σ.2) H := hP
      have hD : xD g A (M_11, σ.2) := hD
      have hx0 := (hfrc (0) (by omega)).trans hx0
      have hm0 := (hfrc (1) (by omega)).trans hm0
      have hm1 := (hfrc (2) (by omega)).trans hm1
      have hm2 := (hfrc (3) (by omega)).trans hm2
      have hfr := x_frc (F := fun j => j ≠ 7 ∧ j ≠ 8 ∧ j ≠ 9) hfr hfrc (fun j h => by have h : j ≠ 7 ∧ j ≠ 8 ∧ j ≠ 9 := h; omega)
      obtain ⟨Pn_12, hPn_12⟩ : ∃ q : Int → Int, q = zDown f_9 (h + 1) (n - 1) := ⟨_, rfl⟩
      obtain ⟨Gn_13, hGn_13⟩ : ∃ q : Int → Option Nat, q = zDown Gn_3 (h + 1) (n - 1) := ⟨_, rfl⟩
      have ost_14 : StOk σ (n - 1) (rd) Pn_12 Gn_13 := by rw [hPn_12, hGn_13]; exact StOk_remove ost_10 (by omega)
      rw [← hPn_12, ← hGn_13] at hnst
      have hqm0 : M_11 (7) = .inr (7, [.ref (g.2.2 8), .ref (g.2.2 9), .int (iI (n - 1)), .int (iI (rd))]) := hnst.1
      have hqm1 : MRef g M_11 8 9 Gn_13 := hnst.2.1
      have hqm2 : MArr g M_11 9 9 Pn_12 := hnst.2.2
      refine lv_aload_n hx hb dX11_wedding_83 rfl (lv_at hl 0 rfl) ?_
      refine x_get (C := RX11) (T := TX11) (N := 11) hx hb hts hin_X11 hown hK hP (0) (by decide) hx0 rfl 3 (by decide) hw_2 (fun _ h9 => h9) rfl dX11_wedding_84 ?_
      refine x_ci (va_runV (As := []) (rest := []) ⟨hx, hb, hml, hown, hts⟩ (c_X7_allBreaches l g (M_11, σ.2) (7) (by decide) (n - 1) (rd) Pn_12 Gn_13 ⟨hqm0, hqm1, hqm2⟩ ost_14 hH ) (cwV 0 hts gX11_wedding_X7_allBreaches rfl rfl rfl (by decide +kernel) ⟨Nat.le_of_ble_eq_true rfl, Nat.le_of_ble_eq_true rfl⟩) (x_preV hK hP (x_recv hK hP (i := 7) (by decide) hqm0 rfl)) rfl rfl hl.1 rfl (lv_room (Nat.le_of_ble_eq_true rfl)) dX11_wedding_87 ⟨Nat.le_of_ble_eq_true rfl, Nat.le_of_ble_eq_true rfl⟩) (fun r_87 hr_87 qr_87 => ?_)
      replace qr_87 : r_87 = zAll (sK σ (Gn_13)) (sF σ (Gn_13)) (Pn_12) (n - 1) (rd) ∧ 0 ≤ r_87 ∧ r_87 ≤ 18 := qr_87
      refine x_retQ hx hb hr (by omega) ?_ hP hD hS dX11_wedding_90 hlocks
      refine ⟨rfl, hfr, ?_, _, _, _, _, ⟨hqm0, hqm1, hqm2⟩, ost_14⟩
      rw [qr_87.1, hPn_12, hGn_13, e9, e8]
      exact zWed_cls (by omega) (by omega) (by omega)
    · refine x_iconst hx hb dX11_wedding_24 ?_
      refine x_retQ hx hb hr (by omega) ?_ hP hD hS dX11_wedding_25 hlocks
      refine ⟨rfl, hfr, by unfold zWed; rw [if_neg (by omega)], nm, rm, Pm, Gm, hsm9, hom⟩
