/-! what was in mind is put back -/
def zKeep (S T : Int → Int) : Prop := (∀ k, inR (T k)) ∧ ∀ j, 0 ≤ j → j < 29 → T j = S j
def xBack (g : xG) (M : xM) (S : Int → Int) : Prop := ∃ S2 Mi2 : Int → Int, MArr g M 38 29 S2 ∧ MArr g M 41 29 Mi2 ∧ zKeep S S2
theorem zKeep_self {S : Int → Int} (h : ∀ k, inR (S k)) : zKeep S S := ⟨h, fun _ _ _ => rfl⟩
theorem zKeep_back {S Mi T Mj U : Int → Int} (h : ∀ k, inR (S k)) (ht : ∀ k, inR (T k)) (e1 : Mj = zCopy S Mi 29) (e2 : U = zCopy Mj T 29) : zKeep S U := by
  rw [e2, e1, zCopy_back]
  exact ⟨zCopy_rng h ht, fun j h1 h2 => zCopy_in h1 h2⟩
theorem zMost_same {K K2 : Int → Nat} {F F2 P P2 : Int → Int} {n rd i : Int} (h : zSame K K2 F F2 P P2 n) (hi : 0 ≤ i ∧ i < n) : zMost K F P n rd i = zMost K2 F2 P2 n rd i := zMost_congr h hi
theorem upI_up {α : Type} {f : Int → α} {k : Int} {v w : α} : upI (upI f k v) k w = upI f k w := by
  funext i; unfold upI; split <;> rfl
def zSk {α : Type} (f : Int → α) (a : Int) : Int → α := fun i => if a ≤ i then f (i + 1) else f i
def zIn {α : Type} (f : Int → α) (a : Int) (v : α) : Int → α := fun i => if i < a then f i else if i = a then v else f (i - 1)
def zWedP (P : Int → Int) (h : Int) : Int → Int := upI P h (min 9999 (P h + P (h + 1)))
def zWed (K : Int → Nat) (F P : Int → Int) (n rd h : Int) : Int := if 0 ≤ h ∧ h < n ∧ 0 ≤ h + 1 ∧ h + 1 < n then zAll (zSk K (h + 1)) (zSk F (h + 1)) (zSk (zWedP P h) (h + 1)) (n - 1) rd else -1
def zWorth (K : Int → Nat) (F P : Int → Int) (n rd h p : Int) : Int := if (0 ≤ h ∧ h < n) ∧ (0 ≤ p ∧ p ≤ 9999) then zMost (zIn K (h + 1) 0) (zIn F (h + 1) 0) (zIn P (h + 1) p) (n + 1) rd h - zMost K F P n rd h else -1000000001
def zFitN (K : Int → Nat) (F P : Int → Int) (n rd h : Int) : Nat → Int × Int × Int
  | 0 => (0, -4, -4)
  | k + 1 => if zAll K F (upI P h (k : Int)) n rd = 0 then ((zFitN K F P n rd h k).1 + 1, (if (zFitN K F P n rd h k).2.1 < 0 then (k : Int) else (zFitN K F P n rd h k).2.1), (k : Int)) else zFitN K F P n rd h k
theorem zFitN_succ (K : Int → Nat) (F P : Int → Int) (n rd h : Int) {k : Int} (hk : 0 ≤ k) : zFitN K F P n rd h (k + 1).toNat = if zAll K F (upI P h k) n rd = 0 then ((zFitN K F P n rd h k.toNat).1 + 1, (if (zFitN K F P n rd h k.toNat).2.1 < 0 then k else (zFitN K F P n rd h k.toNat).2.1), k) else zFitN K F P n rd h k.toNat := by
  have e : (k + 1).toNat = k.toNat + 1 := by omega
  have e2 : ((k.toNat : Nat) : Int) = k := Int.toNat_of_nonneg hk
  rw [e]
  show (if zAll K F (upI P h ((k.toNat : Nat) : Int)) n rd = 0 then ((zFitN K F P n rd h k.toNat).1 + 1, (if (zFitN K F P n rd h k.toNat).2.1 < 0 then ((k.toNat : Nat) : Int) else (zFitN K F P n rd h k.toNat).2.1), ((k.toNat : Nat) : Int)) else _) = _
  rw [e2]
def zFit (K : Int → Nat) (F P : Int → Int) (n rd h wh : Int) : Int := if ¬ ((0 ≤ h ∧ h < n) ∧ (0 ≤ wh ∧ wh ≤ 2)) then -1 else if wh = 0 then (zFitN K F P n rd h 100).1 else if wh = 1 then (zFitN K F P n rd h 100).2.1 else (zFitN K F P n rd h 100).2.2
/-! in words of the array -/
theorem mP_up {S : Int → Int} {h v : Int} : mP (upI S (2 + 3 * h + 2) v) = upI (mP S) h v := by
  funext i; unfold mP upI
  by_cases e : i = h
  · rw [if_pos (by omega), if_pos e]
  · rw [if_neg (by omega), if_neg e]
theorem mK_up {S : Int → Int} {h v : Int} : mK (upI S (2 + 3 * h + 2) v) = mK S := by
  funext i; unfold mK upI; rw [if_neg (by omega)]
theorem mF_up {S : Int → Int} {h v : Int} : mF (upI S (2 + 3 * h + 2) v) = mF S := by
  funext i; unfold mF upI; rw [if_neg (by omega)]
def zSh3 (S : Int → Int) (a k : Int) : Int → Int := fun q => if a ≤ q ∧ q < k then S (q + 3) else S q
theorem zSh3_0 (S : Int → Int) (a : Int) : zSh3 S a a = S := by
  funext q; unfold zSh3; rw [if_neg (by omega)]
theorem zSh3_rd {S : Int → Int} {a k : Int} : zSh3 S a k (k + 3) = S (k + 3) := by unfold zSh3; rw [if_neg (by omega)]
theorem zSh3_step {S : Int → Int} {a k : Int} (h : a ≤ k) : upI (zSh3 S a k) k (S (k + 3)) = zSh3 S a (k + 1) := by
  funext q; unfold upI zSh3
  by_cases e : q = k
  · subst e; rw [if_pos rfl, if_pos (by omega)]
  · rw [if_neg e]
    by_cases h2 : a ≤ q ∧ q < k
    · rw [if_pos h2, if_pos (by omega)]
    · rw [if_neg h2, if_neg (by omega)]
theorem zSh3_lo {S : Int → Int} {a k q : Int} (h : q < a) : zSh3 S a k q = S q := by unfold zSh3; rw [if_neg (by omega)]
theorem zSh3_rng {S : Int → Int} {a k : Int} (h : ∀ q, inR (S q)) : ∀ q, inR (zSh3 S a k q) := fun q => by
  unfold zSh3; split
  · exact h _
  · exact h _
def zShU (S : Int → Int) (k m : Int) : Int → Int := fun q => if k + 3 < q ∧ q ≤ m + 3 then S (q - 3) else S q
theorem zShU_0 (S : Int → Int) (m : Int) : zShU S m m = S := by
  funext q; unfold zShU; rw [if_neg (by omega)]
theorem zShU_rd {S : Int → Int} {k m : Int} : zShU S k m k = S k := by unfold zShU; rw [if_neg (by omega)]
theorem zShU_step {S : Int → Int} {k m : Int} (h : k ≤ m) : upI (zShU S k m) (k + 3) (S k) = zShU S (k - 1) m := by
  funext q; unfold upI zShU
  by_cases e : q = k + 3
  · subst e; rw [if_pos rfl, if_pos (by omega), show k + 3 - 3 = k by omega]
  · rw [if_neg e]
    by_cases h2 : k + 3 < q ∧ q ≤ m + 3
    · rw [if_pos h2, if_pos (by omega)]
    · rw [if_neg h2, if_neg (by omega)]
theorem zShU_rng {S : Int → Int} {k m : Int} (h : ∀ q, inR (S q)) : ∀ q, inR (zShU S k m q) := fun q => by
  unfold zShU; split
  · exact h _
  · exact h _
def zWedU (S : Int → Int) (h : Int) : Int → Int := upI S (2 + 3 * h + 2) (min 9999 (S (2 + 3 * h + 2) + S (2 + 3 * (h + 1) + 2)))
def zWedS (S : Int → Int) (h : Int) : Int → Int := upI (zSh3 (zWedU S h) (2 + 3 * (h + 1)) (2 + 3 * (S 0 - 1))) 0 (S 0 - 1)
def zInsS (S : Int → Int) (h p : Int) : Int → Int := upI (upI (upI (upI (zShU S (2 + 3 * (h + 1) - 1) (2 + 3 * S 0 - 1)) (2 + 3 * (h + 1) + 0) 0) (2 + 3 * (h + 1) + 1) 0) (2 + 3 * (h + 1) + 2) p) 0 (S 0 + 1)
theorem SmOk_wed {S : Int → Int} (ok : SmOk S) {h : Int} (h0 : 0 ≤ h) (h1 : h + 1 < S 0) : SmOk (zWedU S h) := SmOk_purse ok h0 (by
  have a := ok.2.2.2 h h0 (by omega)
  have b := ok.2.2.2 (h + 1) (by omega) h1
  omega)
theorem zWedS_0 {S : Int → Int} {h : Int} : zWedS S h 0 = S 0 - 1 := upI_s
theorem zWedS_1 {S : Int → Int} {h : Int} (h0 : 0 ≤ h) : zWedS S h 1 = S 1 := by
  unfold zWedS; rw [upI_n (by omega), zSh3_lo (by omega)]; unfold zWedU; rw [upI_n (by omega)]
theorem zWedS_at {S : Int → Int} {h i c : Int} (h0 : 0 ≤ h) (hi : 0 ≤ i) (hi2 : i < S 0 - 1) (hc : 0 ≤ c ∧ c ≤ 2) : zWedS S h (2 + 3 * i + c) = (if h + 1 ≤ i then zWedU S h (2 + 3 * (i + 1) + c) else zWedU S h (2 + 3 * i + c)) := by
  unfold zWedS; rw [upI_n (by omega)]; unfold zSh3
  by_cases e : h + 1 ≤ i
  · rw [if_pos e, if_pos (by omega)]; congr 1; omega
  · rw [if_neg e, if_neg (by omega)]
theorem SmOk_wedS {S : Int → Int} (ok : SmOk S) {h : Int} (h0 : 0 ≤ h) (h1 : h + 1 < S 0) : SmOk (zWedS S h) := by
  have w := SmOk_wed ok h0 h1
  have w0 : zWedU S h 0 = S 0 := by unfold zWedU; rw [upI_n (by omega)]
  have hn := ok.2.1
  refine ⟨upI_rng (zSh3_rng w.1) ⟨by omega, by omega⟩, by rw [zWedS_0]; omega, by rw [zWedS_1 h0]; exact ok.2.2.1, fun i hi hi2 => ?_⟩
  rw [zWedS_0] at hi2
  rw [zWedS_at h0 hi hi2 (c := 0) (by omega), zWedS_at h0 hi hi2 (c := 1) (by omega), zWedS_at h0 hi hi2 (c := 2) (by omega)]
  by_cases e : h + 1 ≤ i
  · simp only [if_pos e]; exact w.2.2.2 (i + 1) (by omega) (by rw [w0]; omega)
  · simp only [if_neg e]; exact w.2.2.2 i hi (by rw [w0]; omega)
theorem zWedS_all {S : Int → Int} {h : Int} (h0 : 0 ≤ h) (h1 : h + 1 < S 0) : zAll (mK (zWedS S h)) (mF (zWedS S h)) (mP (zWedS S h)) (zWedS S h 0) (zWedS S h 1) = zWed (mK S) (mF S) (mP S) (S 0) (S 1) h := by
  unfold zWed
  rw [if_pos (by omega), zWedS_0, zWedS_1 h0]
  have eK : mK (zWedU S h) = mK S := mK_up
  have eF : mF (zWedU S h) = mF S := mF_up
  have eP : mP (zWedU S h) = zWedP (mP S) h := mP_up
  rw [← eK, ← eF, ← eP]
  refine zAll_congr (fun i hi hi2 => ?_)
  have a0 := zWedS_at (h := h) h0 hi hi2 (c := 0) (by omega)
  have a1 := zWedS_at (h := h) h0 hi hi2 (c := 1) (by omega)
  have a2 := zWedS_at (h := h) h0 hi hi2 (c := 2) (by omega)
  by_cases e : h + 1 ≤ i
  · rw [if_pos e] at a0 a1 a2
    refine ⟨?_, ?_, ?_⟩
    · unfold mK zSk; rw [a0, if_pos e]
    · unfold mF zSk; rw [a1, if_pos e]
    · unfold mP zSk; rw [a2, if_pos e]
  · rw [if_neg e] at a0 a1 a2
    refine ⟨?_, ?_, ?_⟩
    · unfold mK zSk; rw [a0, if_neg e]
    · unfold mF zSk; rw [a1, if_neg e]
    · unfold mP zSk; rw [a2, if_neg e]
theorem zInsS_0 {S : Int → Int} {h p : Int} : zInsS S h p 0 = S 0 + 1 := upI_s
theorem zInsS_1 {S : Int → Int} {h p : Int} (h0 : 0 ≤ h) : zInsS S h p 1 = S 1 := by
  unfold zInsS; rw [upI_n (by omega), upI_n (by omega), upI_n (by omega), upI_n (by omega)]; unfold zShU; rw [if_neg (by omega)]
theorem zInsS_at {S : Int → Int} {h p i c : Int} (h0 : 0 ≤ h) (hi : 0 ≤ i) (hi2 : i ≤ S 0) (hc : c = 0 ∨ c = 1 ∨ c = 2) : zInsS S h p (2 + 3 * i + c) = (if i < h + 1 then S (2 + 3 * i + c) else if i = h + 1 then (if c = 2 then p else 0) else S (2 + 3 * (i - 1) + c)) := by
  unfold zInsS; rw [upI_n (by omega)]
  by_cases e : i = h + 1
  · subst e
    rw [if_neg (by omega), if_pos rfl]
    rcases hc with e | e | e <;> subst e
    · rw [upI_n (by omega), upI_n (by omega), upI_s, if_neg (by omega)]
    · rw [upI_n (by omega), upI_s, if_neg (by omega)]
    · rw [upI_s, if_pos rfl]
  · rw [upI_n (by omega), upI_n (by omega), upI_n (by omega)]
    unfold zShU
    by_cases e2 : i < h + 1
    · rw [if_pos e2, if_neg (by omega)]
    · rw [if_neg e2, if_neg e, if_pos (by omega)]; congr 1; omega
theorem SmOk_insS {S : Int → Int} (ok : SmOk S) {h p : Int} (h0 : 0 ≤ h) (h1 : h < S 0) (h8 : S 0 ≤ 8) (hp : 0 ≤ p ∧ p ≤ 9999) : SmOk (zInsS S h p) := by
  have hn := ok.2.1
  refine ⟨upI_rng (upI_rng (upI_rng (upI_rng (zShU_rng ok.1) ⟨by omega, by omega⟩) ⟨by omega, by omega⟩) ⟨by omega, by omega⟩) ⟨by omega, by omega⟩, by rw [zInsS_0]; omega, by rw [zInsS_1 h0]; exact ok.2.2.1, fun i hi hi2 => ?_⟩
  rw [zInsS_0] at hi2
  rw [zInsS_at h0 hi (by omega) (c := 0) (by omega), zInsS_at h0 hi (by omega) (c := 1) (by omega), zInsS_at h0 hi (by omega) (c := 2) (by omega)]
  by_cases e : i < h + 1
  · simp only [if_pos e]; exact ok.2.2.2 i hi (by omega)
  · by_cases e2 : i = h + 1
    · simp only [if_neg e, if_pos e2]
      refine ⟨?_, ?_, ?_⟩
      · rw [if_neg (by omega)]; omega
      · rw [if_neg (by omega)]; omega
      · first | exact hp | (rw [if_pos rfl]; exact hp)
    · simp only [if_neg e, if_neg e2]; exact ok.2.2.2 (i - 1) (by omega) (by omega)
theorem zInsS_most {S : Int → Int} {h p : Int} (h0 : 0 ≤ h) (h1 : h < S 0) : zMost (mK (zInsS S h p)) (mF (zInsS S h p)) (mP (zInsS S h p)) (zInsS S h p 0) (zInsS S h p 1) h = zMost (zIn (mK S) (h + 1) 0) (zIn (mF S) (h + 1) 0) (zIn (mP S) (h + 1) p) (S 0 + 1) (S 1) h := by
  rw [zInsS_0, zInsS_1 h0]
  refine zMost_congr (fun i hi hi2 => ?_) ⟨h0, by omega⟩
  have a0 := zInsS_at (S := S) (p := p) h0 hi (by omega) (c := 0) (by omega)
  have a1 := zInsS_at (S := S) (p := p) h0 hi (by omega) (c := 1) (by omega)
  have a2 := zInsS_at (S := S) (p := p) h0 hi (by omega) (c := 2) (by omega)
  by_cases e : i < h + 1
  · rw [if_pos e] at a0 a1 a2
    refine ⟨?_, ?_, ?_⟩
    · unfold mK zIn; rw [a0, if_pos e]
    · unfold mF zIn; rw [a1, if_pos e]
    · unfold mP zIn; rw [a2, if_pos e]
  · by_cases e2 : i = h + 1
    · rw [if_neg e, if_pos e2] at a0 a1 a2
      refine ⟨?_, ?_, ?_⟩
      · unfold mK zIn; rw [a0, if_neg e, if_pos e2, if_neg (by omega)]; rfl
      · unfold mF zIn; rw [a1, if_neg e, if_pos e2, if_neg (by omega)]
      · unfold mP zIn; rw [a2, if_neg e, if_pos e2, if_pos rfl]
    · rw [if_neg e, if_neg e2] at a0 a1 a2
      refine ⟨?_, ?_, ?_⟩
      · unfold mK zIn; rw [a0, if_neg e, if_neg e2]
      · unfold mF zIn; rw [a1, if_neg e, if_neg e2]
      · unfold mP zIn; rw [a2, if_neg e, if_neg e2]

set_option maxHeartbeats 4000000 in
set_option maxRecDepth 100000 in
theorem c_X12_wedding (l : Launch) (g : xG) (σ : xS) (A : Nat → Prop) (ov : Nat → Int) (S : Int → Int) (hob : MObj g σ.1 ov) (hs0 : MArr g σ.1 38 29 S) (hok : SmOk S) (h : Int) (hh : inR h) (Mi : Int → Int) (h41 : MArr g σ.1 41 29 Mi) : Met l yX12_wedding wsX12_wedding ({ frames := 7, cells := 0, slots := 0, locals := 224 }) (va_Pc [.ref (g.2.2 37), .int (iI (h))] (xPreQ g A σ)) (x_Qi g A (fun r σ1 => σ1.2 = σ.2 ∧ (∀ j, j ≠ 38 ∧ j ≠ 41 → σ1.1 j = σ.1 j) ∧ (r = zWed (mK S) (mF S) (mP S) (S 0) (S 1) h) ∧ xBack g σ1.1 S)) (0) (0) A := by
  refine Met.ofW (cc := cX12_wedding) (maxL := 4) (ret := (some .int)) (by decide) rfl ?_
  intro p e s m args below meth c s₁ B hml hv
  obtain ⟨rfl, hP, hK, hD, hA⟩ := hv
  have hx := B.exec
  have hb := B.bytes
  have hr := B.returns
  have hts := atoms_spec (ws := wsX12_wedding) B.pre
  have hown : s.vm.findClass RX12 = some m.cls := findClass_of_methodNamed B.named
  have hlocks := B.notSynchronized
  have hS : va_S A s.heap s.heap [] := va_S.rf
  have hfr : ∀ j, (j ≠ 38 ∧ j ≠ 41) → σ.1 j = σ.1 j := fun _ _ => rfl
  have hl := lv_entry ([.ref (g.2.2 37), .int (iI (h))]) (n := 4) (Nat.le_of_ble_eq_true rfl)
  rw [lg_entry_eq]
  generalize (lg_sl ([.ref (g.2.2 37), .int (iI (h))]) ++ List.replicate (4 - (lg_sl ([.ref (g.2.2 37), .int (iI (h))])).length) Slot.unset).toArray = ls at hl ⊢
  have hl : lv_has ls 4 [(0, .ref (g.2.2 37)), (1, .int (iI (h)))] := hl
  have hn0 := hok.2.1
  have hrd0 := hok.2.2.1
  have hw_0 := hts (.fieldLink RX12 9 "TwiceAsRichModel" "s" "[I") (by decide +kernel)
  have hin_X12 : ∀ w ∈ wsX120, w ∈ wsX12_wedding := by decide +kernel
  refine lv_aload_n hx hb dX12_wedding_0 rfl (lv_at hl 0 rfl) ?_
  refine lv_iload_n hx hb dX12_wedding_1 rfl (lv_at hl 1 rfl) ?_
  refine x_ci (va_runV (As := [.int (iI (h))]) (rest := []) ⟨hx, hb, hml, hown, hts⟩ (c_X12_isHouse l g σ (ov) S hob hs0 hok (h) (by omega)) (cwV 1 hts gX12_wedding_X12_isHouse rfl rfl rfl (by decide +kernel) ⟨Nat.le_of_ble_eq_true rfl, Nat.le_of_ble_eq_true rfl⟩) (x_preV hK hP (x_recv hK hP (i := 37) (by decide) hob rfl)) rfl rfl hl.1 rfl (lv_room (Nat.le_of_ble_eq_true rfl)) dX12_wedding_2 ⟨Nat.le_of_ble_eq_true rfl, Nat.le_of_ble_eq_true rfl⟩) (fun r_2 hr_2 qr_2 => ?_)
  replace qr_2 : (r_2 = 1 ∧ 0 ≤ (h) ∧ (h) < S 0) ∨ (r_2 = 0 ∧ ¬ (0 ≤ (h) ∧ (h) < S 0)) := qr_2
  refine x_if_eq (tgt := 18) hx hb (by omega) dX12_wedding_5 (by decide) (fun c_5 => ?_) (fun c_5 => ?_)
  · refine x_iconst hx hb dX12_wedding_18 ?_
    refine x_retQ hx hb hr (by omega) ?_ hP hD hS dX12_wedding_19 hlocks
    refine ⟨rfl, hfr, by unfold zWed; rw [if_neg (by omega)], S, Mi, hs0, h41, zKeep_self hok.1⟩
  · refine lv_aload_n hx hb dX12_wedding_8 rfl (lv_at hl 0 rfl) ?_
    refine lv_iload_n hx hb dX12_wedding_9 rfl (lv_at hl 1 rfl) ?_
    refine x_iconst hx hb dX12_wedding_10 ?_
    refine x_iadd hx hb dX12_wedding_11 ?_
    refine x_ci (va_runV (As := [.int (iI (h + 1))]) (rest := []) ⟨hx, hb, hml, hown, hts⟩ (c_X12_isHouse l g σ (ov) S hob hs0 hok (h + 1) (by omega)) (cwV 1 hts gX12_wedding_X12_isHouse rfl rfl rfl (by decide +kernel) ⟨Nat.le_of_ble_eq_true rfl, Nat.le_of_ble_eq_true rfl⟩) (x_preV hK hP (x_recv hK hP (i := 37) (by decide) hob rfl)) rfl rfl hl.1 rfl (lv_room (Nat.le_of_ble_eq_true rfl)) dX12_wedding_12 ⟨Nat.le_of_ble_eq_true rfl, Nat.le_of_ble_eq_true rfl⟩) (fun r_12 hr_12 qr_12 => ?_)
    replace qr_12 : (r_12 = 1 ∧ 0 ≤ (h + 1) ∧ (h + 1) < S 0) ∨ (r_12 = 0 ∧ ¬ (0 ≤ (h + 1) ∧ (h + 1) < S 0)) := qr_12
    refine x_if_ne (tgt := 20) hx hb (by omega) dX12_wedding_15 (by decide) (fun c_15 => ?_) (fun c_15 => ?_)
    · have hh0 : 0 ≤ h := by omega
      have hh1 : h + 1 < S 0 := by omega
      have hka := hok.2.2.2 h hh0 (by omega)
      have hkb := hok.2.2.2 (h + 1) (by omega) hh1
      refine lv_aload_n hx hb dX12_wedding_20 rfl (lv_at hl 0 rfl) ?_
      refine x_cqv0 (va_runV (As := []) (rest := []) ⟨hx, hb, hml, hown, hts⟩ (c_X12_begins l g σ A (ov) S Mi hob hs0 h41) (cwV 0 hts gX12_wedding_X12_begins rfl rfl rfl (by decide +kernel) ⟨Nat.le_of_ble_eq_true rfl, Nat.le_of_ble_eq_true rfl⟩) (x_preVQ hK hP hD hS hA (x_recv hK hP (i := 37) (by decide) hob rfl)) rfl rfl hl.1 rfl (lv_room (Nat.le_of_ble_eq_true rfl)) dX12_wedding_21 ⟨by decide, by decide⟩) hS (fun σ1 H locs hpost hP hD hS => ?_)
      obtain ⟨M_1, p1⟩ := σ1
      obtain ⟨hp0, hfrc, hnew⟩ := hpost
      obtain rfl : p1 = σ.2 := hp0
      have hP : xP g (M_1, σ.2) H := hP
      have hD : xD g A (M_1, σ.2) := hD
      have hob : MObj g M_1 ov := (hfrc (37) (by omega)).trans hob
      have hs0 := (hfrc (38) (by omega)).trans hs0
      have hfr := x_frc (F := fun j => j ≠ 38 ∧ j ≠ 41) hfr hfrc (fun j h => by have h : j ≠ 38 ∧ j ≠ 41 := h; omega)
      obtain ⟨Mi_2, hMi_2⟩ : ∃ q : Int → Int, q = zCopy S Mi 29 := ⟨_, rfl⟩
      have h41 : MArr g M_1 41 29 Mi_2 := by rw [hMi_2]; exact hnew
      refine lv_aload_n hx hb dX12_wedding_24 rfl (lv_at hl 0 rfl) ?_
      refine lv_iload_n hx hb dX12_wedding_25 rfl (lv_at hl 1 rfl) ?_
      refine x_ci (va_runV (As := [.int (iI (h))]) (rest := []) ⟨hx, hb, hml, hown, hts⟩ (c_X12_purse l g (M_1, σ.2) (ov) S hob hs0 hok.1 (h) (by omega)) (cwV 1 hts gX12_wedding_X12_purse rfl rfl rfl (by decide +kernel) ⟨Nat.le_of_ble_eq_true rfl, Nat.le_of_ble_eq_true rfl⟩) (x_preV hK hP (x_recv hK hP (i := 37) (by decide) hob rfl)) rfl rfl hl.1 rfl (lv_room (Nat.le_of_ble_eq_true rfl)) dX12_wedding_26 ⟨Nat.le_of_ble_eq_true rfl, Nat.le_of_ble_eq_true rfl⟩) (fun r_26 hr_26 qr_26 => ?_)
      replace qr_26 : r_26 = S (2 + 3 * (h) + 2) := qr_26
      refine lv_aload_n hx hb dX12_wedding_29 rfl (lv_at hl 0 rfl) ?_
      refine lv_iload_n hx hb dX12_wedding_30 rfl (lv_at hl 1 rfl) ?_
      refine x_iconst hx hb dX12_wedding_31 ?_
      refine x_iadd hx hb dX12_wedding_32 ?_
      refine x_ci (va_runV (As := [.int (iI (h + 1))]) (rest := [.int (iI (r_26))]) ⟨hx, hb, hml, hown, hts⟩ (c_X12_purse l g (M_1, σ.2) (ov) S hob hs0 hok.1 (h + 1) (by omega)) (cwV 1 hts gX12_wedding_X12_purse rfl rfl rfl (by decide +kernel) ⟨Nat.le_of_ble_eq_true rfl, Nat.le_of_ble_eq_true rfl⟩) (x_preV hK hP (x_recv hK hP (i := 37) (by decide) hob rfl)) rfl rfl hl.1 rfl (lv_room (Nat.le_of_ble_eq_true rfl)) dX12_wedding_33 ⟨Nat.le_of_ble_eq_true rfl, Nat.le_of_ble_eq_true rfl⟩) (fun r_33 hr_33 qr_33 => ?_)
      replace qr_33 : r_33 = S (2 + 3 * (h + 1) + 2) := qr_33
      refine x_iadd hx hb dX12_wedding_36 ?_
      refine lv_istore_n (lv' := [(2, .int (iI (r_26 + r_33))), (0, .ref (g.2.2 37)), (1, .int (iI (h)))]) hx hb dX12_wedding_37 rfl hl (by decide) rfl (fun ls hl => ?_)
      refine lv_aload_n hx hb dX12_wedding_38 rfl (lv_at hl 1 rfl) ?_
      refine lv_iload_n hx hb dX12_wedding_39 rfl (lv_at hl 2 rfl) ?_
      refine x_iconst hx hb dX12_wedding_40 ?_
      refine lv_iload_n hx hb dX12_wedding_41 rfl (lv_at hl 0 rfl) ?_
      refine x_sipush (n := 9999) hx hb (by decide +kernel) dX12_wedding_42 ?_
      refine x_icmp_le (tgt := 54) hx hb (by omega) (by omega) dX12_wedding_45 (by decide) (fun c_45 => ?_) (fun c_45 => ?_)
      · refine lv_iload_n hx hb dX12_wedding_54 rfl (lv_at hl 0 rfl) ?_
        refine x_cqv0 (va_runV (As := [.int (iI (h)), .int (iI (2)), .int (iI (r_26 + r_33))]) (rest := []) ⟨hx, hb, hml, hown, hts⟩ (c_X12_puts l g (M_1, σ.2) A (ov) S hob hs0 hok.1 (h) (by omega) (2) (by omega) (r_26 + r_33) (by omega)) (cwV 3 hts gX12_wedding_X12_puts rfl rfl rfl (by decide +kernel) ⟨Nat.le_of_ble_eq_true rfl, Nat.le_of_ble_eq_true rfl⟩) (x_preVQ hK hP hD hS hA (x_recv hK hP (i := 37) (by decide) hob rfl)) rfl rfl hl.1 rfl (lv_room (Nat.le_of_ble_eq_true rfl)) dX12_wedding_55 ⟨by decide, by decide⟩) hS (fun σ1 H locs hpost hP hD hS => ?_)
        obtain ⟨M_3, p1⟩ := σ1
        obtain ⟨hp0, hfrc, hnew⟩ := hpost
        obtain rfl : p1 = σ.2 := hp0
        have hP : xP g (M_3, σ.2) H := hP
        have hD : xD g A (M_3, σ.2) := hD
        have hob : MObj g M_3 ov := (hfrc (37) (by omega)).trans hob
        have h41 := (hfrc (41) (by omega)).trans h41
        have hfr := x_frc (F := fun j => j ≠ 38 ∧ j ≠ 41) hfr hfrc (fun j h => by have h : j ≠ 38 ∧ j ≠ 41 := h; omega)
        obtain ⟨S_4, hS_4⟩ : ∃ q : Int → Int, q = upI S (2 + 3 * (h) + (2)) (r_26 + r_33) := ⟨_, rfl⟩
        have hs0 : MArr g M_3 38 29 S_4 := by rw [hS_4]; exact hnew
        have rS_4 : ∀ k, inR (S_4 k) := by rw [hS_4]; exact upI_rng hok.1 ⟨by omega, by omega⟩
        have eU : S_4 = zWedU S h := by (rw [hS_4]; unfold zWedU; congr 1; omega)
        have oU := SmOk_wed hok hh0 hh1
        rw [eU] at hs0
        refine x_iconst hx hb dX12_wedding_58 ?_
        refine x_iconst hx hb dX12_wedding_59 ?_
        refine lv_iload_n hx hb dX12_wedding_60 rfl (lv_at hl 2 rfl) ?_
        refine x_iconst hx hb dX12_wedding_61 ?_
        refine x_iadd hx hb dX12_wedding_62 ?_
        refine x_imul hx hb dX12_wedding_63 ?_
        refine x_iadd hx hb dX12_wedding_64 ?_
        refine lv_istore_n (lv' := [(3, .int (iI (2 + (3 * (h + 1))))), (2, .int (iI (r_26 + r_33))), (0, .ref (g.2.2 37)), (1, .int (iI (h)))]) hx hb dX12_wedding_65 rfl hl (by decide) rfl (fun ls hl => ?_)
        have hloop_66 : ∀ (k : Nat) (kk : Int), (40 - kk).toNat < k → (hk0 : 2 + 3 * (h + 1) ≤ kk) → (hk1 : kk ≤ 2 + 3 * (S 0 - 1)) → ∀ (M : xM) (H : Heap) (locs : List Loc), (hob : M (37) = .inr (12, [.ref (g.2.2 38), .ref (g.2.2 39), .ref (g.2.2 40), .ref (g.2.2 41), .ref (g.2.2 42), .ref (g.2.2 43), .ref (g.2.2 44), .ref (g.2.2 45), .ref (g.2.2 46), .ref (g.2.2 47), .int (iI (ov 10)), .int (iI (ov 11)), .int (iI (ov 12)), .int (iI (ov 13)), .int (iI (ov 14)), .int (iI (ov 15)), .ref (g.2.2 48), .int (iI (ov 17)), .int (iI (ov 18)), .int (iI (ov 19)), .int (iI (ov 20)), .int (iI (ov 21)), .ref (g.2.2 49), .int (iI (ov 23))])) → (hs0 : M (38) = .inl (g.2.1 0, 29, .inl (fun k => iI (zSh3 (zWedU S h) (2 + 3 * (h + 1)) kk (k : Int))))) → (h41 : M (41) = .inl (g.2.1 0, 29, .inl (fun k => iI (Mi_2 (k : Int))))) → (hfr : ∀ j, (j ≠ 38 ∧ j ≠ 41) → M j = σ.1 j) → xP g (M, σ.2) H → xD g A (M, σ.2) → va_S A s.heap H locs → ∀ (ls : Array Slot), lv_has ls 4 [(3, .int (iI (kk))), (2, .int (iI (r_26 + r_33))), (0, .ref (g.2.2 37)), (1, .int (iI (h)))] → W p l e (headSpec wsX12_wedding ({ frames := 7, cells := 0, slots := 0, locals := 224 })).room s m ([.ref (g.2.2 37), .int (iI (h))] : List Value).toArray below meth c H locs 0 0 (MQ below (x_Qi g A (fun r σ1 => σ1.2 = σ.2 ∧ (∀ j, j ≠ 38 ∧ j ≠ 41 → σ1.1 j = σ.1 j) ∧ (r = zWed (mK S) (mF S) (mP S) (S 0) (S 1) h) ∧ xBack g σ1.1 S)) ([.ref (g.2.2 37), .int (iI (h))] : List Value).toArray s (0) (0) A) (F0 m 66 ls []) := by
          intro k
          induction k with
          | zero =>
            intros; exact absurd (by assumption) (Nat.not_lt_zero _)
          | succ k ih =>
            intro kk hmeas hk0 hk1 M H locs hob hs0 h41 hfr hP hD hS ls hl
            have ih_5 := ih
            refine lv_iload_n hx hb dX12_wedding_66 rfl (lv_at hl 0 rfl) ?_
            refine x_iconst hx hb dX12_wedding_67 ?_
            refine x_iconst hx hb dX12_wedding_68 ?_
            refine lv_aload_n hx hb dX12_wedding_69 rfl (lv_at hl 2 rfl) ?_
            refine x_get (C := RX12) (T := TX12) (N := 24) hx hb hts hin_X12 hown hK hP (37) (by decide) hob rfl 0 (by decide) hw_0 (fun _ h9 => h9) rfl dX12_wedding_70 ?_
            refine x_iconst hx hb dX12_wedding_73 ?_
            refine x_iald (f := zSh3 (zWedU S h) (2 + 3 * (h + 1)) kk) hx hb hK hP (38) (by decide) hs0 (by omega) (by omega) (by decide) dX12_wedding_74 ?_
            have hb_6 := zSh3_rng (a := 2 + 3 * (h + 1)) (k := kk) oU.1 (0)
            have hz0 : ((zSh3 (zWedU S h) (2 + 3 * (h + 1)) kk) (0)) = S 0 := by (rw [zSh3_lo (by omega)]; unfold zWedU; rw [upI_n (by omega)])
            refine x_iconst hx hb dX12_wedding_75 ?_
            refine x_isub hx hb dX12_wedding_76 ?_
            refine x_imul hx hb dX12_wedding_77 ?_
            refine x_iadd hx hb dX12_wedding_78 ?_
            refine x_icmp_ge (tgt := 102) hx hb (by omega) (by omega) dX12_wedding_79 (by decide) (fun c_79 => ?_) (fun c_79 => ?_)
            · refine lv_aload_n hx hb dX12_wedding_102 rfl (lv_at hl 2 rfl) ?_
              refine x_get (C := RX12) (T := TX12) (N := 24) hx hb hts hin_X12 hown hK hP (37) (by decide) hob rfl 0 (by decide) hw_0 (fun _ h9 => h9) rfl dX12_wedding_103 ?_
              refine x_iconst hx hb dX12_wedding_106 ?_
              have hz1 : zSh3 (zWedU S h) (2 + 3 * (h + 1)) kk 0 = S 0 := by (rw [zSh3_lo (by omega)]; unfold zWedU; rw [upI_n (by omega)])
              refine lv_dup2_11 hx hb dX12_wedding_107 rfl rfl ?_
              refine x_iald (f := zSh3 (zWedU S h) (2 + 3 * (h + 1)) kk) hx hb hK hP (38) (by decide) hs0 (by omega) (by omega) (by decide) dX12_wedding_108 ?_
              have hb_7 := zSh3_rng (a := 2 + 3 * (h + 1)) (k := kk) oU.1 (0)
              refine x_iconst hx hb dX12_wedding_109 ?_
              refine x_isub hx hb dX12_wedding_110 ?_
              refine x_iast (f := zSh3 (zWedU S h) (2 + 3 * (h + 1)) kk) hx hb hK hP hD hS (38) (by decide) hs0 (by omega) (by omega) (by decide) dX12_wedding_111 (fun M_8 H locs hnew hne hP hD hS => ?_)
              obtain ⟨f_9, hf_9⟩ : ∃ q : Int → Int, q = (upI (zSh3 (zWedU S h) (2 + 3 * (h + 1)) kk) (0) (((zSh3 (zWedU S h) (2 + 3 * (h + 1)) kk) (0)) - 1)) := ⟨_, rfl⟩
              rw [← hf_9] at hnew
              have hP : xP g (M_8, σ.2) H := hP
              have hD : xD g A (M_8, σ.2) := hD
              have hs0 : M_8 (38) = .inl (g.2.1 0, 29, .inl (fun k => iI (f_9 (k : Int)))) := hnew
              have hob : MObj g M_8 ov := (hne (37) (by decide)).trans hob
              have h41 := (hne (41) (by decide)).trans h41
              have hfr := x_fr (F := fun j => j ≠ 38 ∧ j ≠ 41) hfr hne (fun j h => by have h : j ≠ 38 ∧ j ≠ 41 := h; omega)
              have ek : kk = 2 + 3 * (S 0 - 1) := by omega
              have e38 : f_9 = zWedS S h := by (rw [hf_9, hz1, ek]; rfl)
              have oW : SmOk f_9 := by (rw [e38]; exact SmOk_wedS hok hh0 hh1)
              refine lv_aload_n hx hb dX12_wedding_112 rfl (lv_at hl 2 rfl) ?_
              refine x_ci (va_runV (As := []) (rest := []) ⟨hx, hb, hml, hown, hts⟩ (c_X12_breachesAll l g (M_8, σ.2) (ov) f_9 hob hs0 oW ) (cwV 0 hts gX12_wedding_X12_breachesAll rfl rfl rfl (by decide +kernel) ⟨Nat.le_of_ble_eq_true rfl, Nat.le_of_ble_eq_true rfl⟩) (x_preV hK hP (x_recv hK hP (i := 37) (by decide) hob rfl)) rfl rfl hl.1 rfl (lv_room (Nat.le_of_ble_eq_true rfl)) dX12_wedding_113 ⟨Nat.le_of_ble_eq_true rfl, Nat.le_of_ble_eq_true rfl⟩) (fun r_113 hr_113 qr_113 => ?_)
              replace qr_113 : r_113 = zAll (mK f_9) (mF f_9) (mP f_9) (f_9 0) (f_9 1) ∧ 0 ≤ r_113 ∧ r_113 ≤ 18 := qr_113
              refine lv_istore_n (lv' := [(3, .int (iI (r_113))), (2, .int (iI (r_26 + r_33))), (0, .ref (g.2.2 37)), (1, .int (iI (h)))]) hx hb dX12_wedding_116 rfl hl (by decide) rfl (fun ls hl => ?_)
              refine lv_aload_n hx hb dX12_wedding_117 rfl (lv_at hl 2 rfl) ?_
              refine x_cqv0 (va_runV (As := []) (rest := []) ⟨hx, hb, hml, hown, hts⟩ (c_X12_ends l g (M_8, σ.2) A (ov) f_9 Mi_2 hob hs0 h41) (cwV 0 hts gX12_wedding_X12_ends rfl rfl rfl (by decide +kernel) ⟨Nat.le_of_ble_eq_true rfl, Nat.le_of_ble_eq_true rfl⟩) (x_preVQ hK hP hD hS hA (x_recv hK hP (i := 37) (by decide) hob rfl)) rfl rfl hl.1 rfl (lv_room (Nat.le_of_ble_eq_true rfl)) dX12_wedding_118 ⟨by decide, by decide⟩) hS (fun σ1 H locs hpost hP hD hS => ?_)
              obtain ⟨M_10, p1⟩ := σ1
              obtain ⟨hp0, hfrc, hnew⟩ := hpost
              obtain rfl : p1 = σ.2 := hp0
              have hP : xP g (M_10, σ.2) H := hP
              have hD : xD g A (M_10, σ.2) := hD
              have hob : MObj g M_10 ov := (hfrc (37) (by omega)).trans hob
              have h41 := (hfrc (41) (by omega)).trans h41
              have hfr := x_frc (F := fun j => j ≠ 38 ∧ j ≠ 41) hfr hfrc (fun j h => by have h : j ≠ 38 ∧ j ≠ 41 := h; omega)
              obtain ⟨S_11, hS_11⟩ : ∃ q : Int → Int, q = zCopy Mi_2 f_9 29 := ⟨_, rfl⟩
              have hs0 : MArr g M_10 38 29 S_11 := by rw [hS_11]; exact hnew
              refine lv_iload_n hx hb dX12_wedding_121 rfl (lv_at hl 0 rfl) ?_
              refine x_retQ hx hb hr (by omega) ?_ hP hD hS dX12_wedding_122 hlocks
              refine ⟨rfl, hfr, ?_, ?_⟩
              · rw [qr_113.1, e38]; exact zWedS_all hh0 hh1
              · exact ⟨_, _, hs0, h41, zKeep_back hok.1 oW.1 hMi_2 hS_11⟩
            · refine lv_aload_n hx hb dX12_wedding_82 rfl (lv_at hl 2 rfl) ?_
              refine x_get (C := RX12) (T := TX12) (N := 24) hx hb hts hin_X12 hown hK hP (37) (by decide) hob rfl 0 (by decide) hw_0 (fun _ h9 => h9) rfl dX12_wedding_83 ?_
              refine lv_iload_n hx hb dX12_wedding_86 rfl (lv_at hl 0 rfl) ?_
              refine lv_aload_n hx hb dX12_wedding_87 rfl (lv_at hl 2 rfl) ?_
              refine x_get (C := RX12) (T := TX12) (N := 24) hx hb hts hin_X12 hown hK hP (37) (by decide) hob rfl 0 (by decide) hw_0 (fun _ h9 => h9) rfl dX12_wedding_88 ?_
              refine lv_iload_n hx hb dX12_wedding_91 rfl (lv_at hl 0 rfl) ?_
              refine x_iconst hx hb dX12_wedding_92 ?_
              refine x_iadd hx hb dX12_wedding_93 ?_
              refine x_iald (f := zSh3 (zWedU S h) (2 + 3 * (h + 1)) kk) hx hb hK hP (38) (by decide) hs0 (by omega) (by omega) (by decide) dX12_wedding_94 ?_
              have hb_12 := zSh3_rng (a := 2 + 3 * (h + 1)) (k := kk) oU.1 (kk + 3)
              refine x_iast (f := zSh3 (zWedU S h) (2 + 3 * (h + 1)) kk) hx hb hK hP hD hS (38) (by decide) hs0 (by omega) (by omega) (by decide) dX12_wedding_95 (fun M_13 H locs hnew hne hP hD hS => ?_)
              obtain ⟨f_14, hf_14⟩ : ∃ q : Int → Int, q = (upI (zSh3 (zWedU S h) (2 + 3 * (h + 1)) kk) (kk) ((zSh3 (zWedU S h) (2 + 3 * (h + 1)) kk) (kk + 3))) := ⟨_, rfl⟩
              rw [← hf_14] at hnew
              have hP : xP g (M_13, σ.2) H := hP
              have hD : xD g A (M_13, σ.2) := hD
              have hs0 : M_13 (38) = .inl (g.2.1 0, 29, .inl (fun k => iI (f_14 (k : Int)))) := hnew
              have hob : MObj g M_13 ov := (hne (37) (by decide)).trans hob
              have h41 := (hne (41) (by decide)).trans h41
              have hfr := x_fr (F := fun j => j ≠ 38 ∧ j ≠ 41) hfr hne (fun j h => by have h : j ≠ 38 ∧ j ≠ 41 := h; omega)
              refine x_iinc (k0 := 0) (lv' := [(3, .int (iI (kk + 1))), (2, .int (iI (r_26 + r_33))), (0, .ref (g.2.2 37)), (1, .int (iI (h)))]) hx hb dX12_wedding_96 hl rfl (by decide) rfl (fun ls hl => ?_)
              refine lv_goto (tgt := 66) hx hb dX12_wedding_99 (by decide) ?_
              have hs : f_14 = zSh3 (zWedU S h) (2 + 3 * (h + 1)) (kk + 1) := by (rw [hf_14, zSh3_rd]; exact zSh3_step (by omega))
              rw [hs] at hs0
              exact ih_5 (kk + 1) (by omega) (by omega) (by omega) (M_13) _ _ hob hs0 h41 hfr hP hD hS ls (lv_sub hl [0, 1, 2, 3] rfl)
        rw [← zSh3_0 (zWedU S h) (2 + 3 * (h + 1))] at hs0
        exact hloop_66 (((40 - (2 + 3 * (h + 1))).toNat) + 1) (2 + 3 * (h + 1)) (by omega) (by omega) (by omega) (M_3) _ _ hob hs0 h41 hfr hP hD hS ls (lv_sub hl [0, 1, 2, 3] rfl)
      · refine x_sipush (n := 9999) hx hb (by decide +kernel) dX12_wedding_48 ?_
        refine lv_goto (tgt := 55) hx hb dX12_wedding_51 (by decide) ?_
        refine x_cqv0 (va_runV (As := [.int (iI (h)), .int (iI (2)), .int (iI (9999))]) (rest := []) ⟨hx, hb, hml, hown, hts⟩ (c_X12_puts l g (M_1, σ.2) A (ov) S hob hs0 hok.1 (h) (by omega) (2) (by omega) (9999) (by omega)) (cwV 3 hts gX12_wedding_X12_puts rfl rfl rfl (by decide +kernel) ⟨Nat.le_of_ble_eq_true rfl, Nat.le_of_ble_eq_true rfl⟩) (x_preVQ hK hP hD hS hA (x_recv hK hP (i := 37) (by decide) hob rfl)) rfl rfl hl.1 rfl (lv_room (Nat.le_of_ble_eq_true rfl)) dX12_wedding_55 ⟨by decide, by decide⟩) hS (fun σ1 H locs hpost hP hD hS => ?_)
        obtain ⟨M_15, p1⟩ := σ1
        obtain ⟨hp0, hfrc, hnew⟩ := hpost
        obtain rfl : p1 = σ.2 := hp0
        have hP : xP g (M_15, σ.2) H := hP
        have hD : xD g A (M_15, σ.2) := hD
        have hob : MObj g M_15 ov := (hfrc (37) (by omega)).trans hob
        have h41 := (hfrc (41) (by omega)).trans h41
        have hfr := x_frc (F := fun j => j ≠ 38 ∧ j ≠ 41) hfr hfrc (fun j h => by have h : j ≠ 38 ∧ j ≠ 41 := h; omega)
        obtain ⟨S_16, hS_16⟩ : ∃ q : Int → Int, q = upI S (2 + 3 * (h) + (2)) (9999) := ⟨_, rfl⟩
        have hs0 : MArr g M_15 38 29 S_16 := by rw [hS_16]; exact hnew
        have rS_16 : ∀ k, inR (S_16 k) := by rw [hS_16]; exact upI_rng hok.1 ⟨by omega, by omega⟩
        have eU : S_16 = zWedU S h := by (rw [hS_16]; unfold zWedU; congr 1; omega)
        have oU := SmOk_wed hok hh0 hh1
        rw [eU] at hs0
        refine x_iconst hx hb dX12_wedding_58 ?_
        refine x_iconst hx hb dX12_wedding_59 ?_
        refine lv_iload_n hx hb dX12_wedding_60 rfl (lv_at hl 2 rfl) ?_
        refine x_iconst hx hb dX12_wedding_61 ?_
        refine x_iadd hx hb dX12_wedding_62 ?_
        refine x_imul hx hb dX12_wedding_63 ?_
        refine x_iadd hx hb dX12_wedding_64 ?_
        refine lv_istore_n (lv' := [(3, .int (iI (2 + (3 * (h + 1))))), (2, .int (iI (r_26 + r_33))), (0, .ref (g.2.2 37)), (1, .int (iI (h)))]) hx hb dX12_wedding_65 rfl hl (by decide) rfl (fun ls hl => ?_)
        have hloop_66 : ∀ (k : Nat) (kk : Int), (40 - kk).toNat < k → (hk0 : 2 + 3 * (h + 1) ≤ kk) → (hk1 : kk ≤ 2 + 3 * (S 0 - 1)) → ∀ (M : xM) (H : Heap) (locs : List Loc), (hob : M (37) = .inr (12, [.ref (g.2.2 38), .ref (g.2.2 39), .ref (g.2.2 40), .ref (g.2.2 41), .ref (g.2.2 42), .ref (g.2.2 43), .ref (g.2.2 44), .ref (g.2.2 45), .ref (g.2.2 46), .ref (g.2.2 47), .int (iI (ov 10)), .int (iI (ov 11)), .int (iI (ov 12)), .int (iI (ov 13)), .int (iI (ov 14)), .int (iI (ov 15)), .ref (g.2.2 48), .int (iI (ov 17)), .int (iI (ov 18)), .int (iI (ov 19)), .int (iI (ov 20)), .int (iI (ov 21)), .ref (g.2.2 49), .int (iI (ov 23))])) → (hs0 : M (38) = .inl (g.2.1 0, 29, .inl (fun k => iI (zSh3 (zWedU S h) (2 + 3 * (h + 1)) kk (k : Int))))) → (h41 : M (41) = .inl (g.2.1 0, 29, .inl (fun k => iI (Mi_2 (k : Int))))) → (hfr : ∀ j, (j ≠ 38 ∧ j ≠ 41) → M j = σ.1 j) → xP g (M, σ.2) H → xD g A (M, σ.2) → va_S A s.heap H locs → ∀ (ls : Array Slot), lv_has ls 4 [(3, .int (iI (kk))), (2, .int (iI (r_26 + r_33))), (0, .ref (g.2.2 37)), (1, .int (iI (h)))] → W p l e (headSpec wsX12_wedding ({ frames := 7, cells := 0, slots := 0, locals := 224 })).room s m ([.ref (g.2.2 37), .int (iI (h))] : List Value).toArray below meth c H locs 0 0 (MQ below (x_Qi g A (fun r σ1 => σ1.2 = σ.2 ∧ (∀ j, j ≠ 38 ∧ j ≠ 41 → σ1.1 j = σ.1 j) ∧ (r = zWed (mK S) (mF S) (mP S) (S 0) (S 1) h) ∧ xBack g σ1.1 S)) ([.ref (g.2.2 37), .int (iI (h))] : List Value).toArray s (0) (0) A) (F0 m 66 ls []) := by
          intro k
          induction k with
          | zero =>
            intros; exact absurd (by assumption) (Nat.not_lt_zero _)
          | succ k ih =>
            intro kk hmeas hk0 hk1 M H locs hob hs0 h41 hfr hP hD hS ls hl
            have ih_17 := ih
            refine lv_iload_n hx hb dX12_wedding_66 rfl (lv_at hl 0 rfl) ?_
            refine x_iconst hx hb dX12_wedding_67 ?_
            refine x_iconst hx hb dX12_wedding_68 ?_
            refine lv_aload_n hx hb dX12_wedding_69 rfl (lv_at hl 2 rfl) ?_
            refine x_get (C := RX12) (T := TX12) (N := 24) hx hb hts hin_X12 hown hK hP (37) (by decide) hob rfl 0 (by decide) hw_0 (fun _ h9 => h9) rfl dX12_wedding_70 ?_
            refine x_iconst hx hb dX12_wedding_73 ?_
            refine x_iald (f := zSh3 (zWedU S h) (2 + 3 * (h + 1)) kk) hx hb hK hP (38) (by decide) hs0 (by omega) (by omega) (by decide) dX12_wedding_74 ?_
            have hb_18 := zSh3_rng (a := 2 + 3 * (h + 1)) (k := kk) oU.1 (0)
            have hz0 : ((zSh3 (zWedU S h) (2 + 3 * (h + 1)) kk) (0)) = S 0 := by (rw [zSh3_lo (by omega)]; unfold zWedU; rw [upI_n (by omega)])
            refine x_iconst hx hb dX12_wedding_75 ?_
            refine x_isub hx hb dX12_wedding_76 ?_
            refine x_imul hx hb dX12_wedding_77 ?_
            refine x_iadd hx hb dX12_wedding_78 ?_
            refine x_icmp_ge (tgt := 102) hx hb (by omega) (by omega) dX12_wedding_79 (by decide) (fun c_79 => ?_) (fun c_79 => ?_)
            · refine lv_aload_n hx hb dX12_wedding_102 rfl (lv_at hl 2 rfl) ?_
              refine x_get (C := RX12) (T := TX12) (N := 24) hx hb hts hin_X12 hown hK hP (37) (by decide) hob rfl 0 (by decide) hw_0 (fun _ h9 => h9) rfl dX12_wedding_103 ?_
              refine x_iconst hx hb dX12_wedding_106 ?_
              have hz1 : zSh3 (zWedU S h) (2 + 3 * (h + 1)) kk 0 = S 0 := by (rw [zSh3_lo (by omega)]; unfold zWedU; rw [upI_n (by omega)])
              refine lv_dup2_11 hx hb dX12_wedding_107 rfl rfl ?_
              refine x_iald (f := zSh3 (zWedU S h) (2 + 3 * (h + 1)) kk) hx hb hK hP (38) (by decide) hs0 (by omega) (by omega) (by decide) dX12_wedding_108 ?_
              have hb_19 := zSh3_rng (a := 2 + 3 * (h + 1)) (k := kk) oU.1 (0)
              refine x_iconst hx hb dX12_wedding_109 ?_
              refine x_isub hx hb dX12_wedding_110 ?_
              refine x_iast (f := zSh3 (zWedU S h) (2 + 3 * (h + 1)) kk) hx hb hK hP hD hS (38) (by decide) hs0 (by omega) (by omega) (by decide) dX12_wedding_111 (fun M_20 H locs hnew hne hP hD hS => ?_)
              obtain ⟨f_21, hf_21⟩ : ∃ q : Int → Int, q = (upI (zSh3 (zWedU S h) (2 + 3 * (h + 1)) kk) (0) (((zSh3 (zWedU S h) (2 + 3 * (h + 1)) kk) (0)) - 1)) := ⟨_, rfl⟩
              rw [← hf_21] at hnew
              have hP : xP g (M_20, σ.2) H := hP
              have hD : xD g A (M_20, σ.2) := hD
              have hs0 : M_20 (38) = .inl (g.2.1 0, 29, .inl (fun k => iI (f_21 (k : Int)))) := hnew
              have hob : MObj g M_20 ov := (hne (37) (by decide)).trans hob
              have h41 := (hne (41) (by decide)).trans h41
              have hfr := x_fr (F := fun j => j ≠ 38 ∧ j ≠ 41) hfr hne (fun j h => by have h : j ≠ 38 ∧ j ≠ 41 := h; omega)
              have ek : kk = 2 + 3 * (S 0 - 1) := by omega
              have e38 : f_21 = zWedS S h := by (rw [hf_21, hz1, ek]; rfl)
              have oW : SmOk f_21 := by (rw [e38]; exact SmOk_wedS hok hh0 hh1)
              refine lv_aload_n hx hb dX12_wedding_112 rfl (lv_at hl 2 rfl) ?_
              refine x_ci (va_runV (As := []) (rest := []) ⟨hx, hb, hml, hown, hts⟩ (c_X12_breachesAll l g (M_20, σ.2) (ov) f_21 hob hs0 oW ) (cwV 0 hts gX12_wedding_X12_breachesAll rfl rfl rfl (by decide +kernel) ⟨Nat.le_of_ble_eq_true rfl, Nat.le_of_ble_eq_true rfl⟩) (x_preV hK hP (x_recv hK hP (i := 37) (by decide) hob rfl)) rfl rfl hl.1 rfl (lv_room (Nat.le_of_ble_eq_true rfl)) dX12_wedding_113 ⟨Nat.le_of_ble_eq_true rfl, Nat.le_of_ble_eq_true rfl⟩) (fun r_113 hr_113 qr_113 => ?_)
              replace qr_113 : r_113 = zAll (mK f_21) (mF f_21) (mP f_21) (f_21 0) (f_21 1) ∧ 0 ≤ r_113 ∧ r_113 ≤ 18 := qr_113
              refine lv_istore_n (lv' := [(3, .int (iI (r_113))), (2, .int (iI (r_26 + r_33))), (0, .ref (g.2.2 37)), (1, .int (iI (h)))]) hx hb dX12_wedding_116 rfl hl (by decide) rfl (fun ls hl => ?_)
              refine lv_aload_n hx hb dX12_wedding_117 rfl (lv_at hl 2 rfl) ?_
              refine x_cqv0 (va_runV (As := []) (rest := []) ⟨hx, hb, hml, hown, hts⟩ (c_X12_ends l g (M_20, σ.2) A (ov) f_21 Mi_2 hob hs0 h41) (cwV 0 hts gX12_wedding_X12_ends rfl rfl rfl (by decide +kernel) ⟨Nat.le_of_ble_eq_true rfl, Nat.le_of_ble_eq_true rfl⟩) (x_preVQ hK hP hD hS hA (x_recv hK hP (i := 37) (by decide) hob rfl)) rfl rfl hl.1 rfl (lv_room (Nat.le_of_ble_eq_true rfl)) dX12_wedding_118 ⟨by decide, by decide⟩) hS (fun σ1 H locs hpost hP hD hS => ?_)
              obtain ⟨M_22, p1⟩ := σ1
              obtain ⟨hp0, hfrc, hnew⟩ := hpost
              obtain rfl : p1 = σ.2 := hp0
              have hP : xP g (M_22, σ.2) H := hP
              have hD : xD g A (M_22, σ.2) := hD
              have hob : MObj g M_22 ov := (hfrc (37) (by omega)).trans hob
              have h41 := (hfrc (41) (by omega)).trans h41
              have hfr := x_frc (F := fun j => j ≠ 38 ∧ j ≠ 41) hfr hfrc (fun j h => by have h : j ≠ 38 ∧ j ≠ 41 := h; omega)
              obtain ⟨S_23, hS_23⟩ : ∃ q : Int → Int, q = zCopy Mi_2 f_21 29 := ⟨_, rfl⟩
              have hs0 : MArr g M_22 38 29 S_23 := by rw [hS_23]; exact hnew
              refine lv_iload_n hx hb dX12_wedding_121 rfl (lv_at hl 0 rfl) ?_
              refine x_retQ hx hb hr (by omega) ?_ hP hD hS dX12_wedding_122 hlocks
              refine ⟨rfl, hfr, ?_, ?_⟩
              · rw [qr_113.1, e38]; exact zWedS_all hh0 hh1
              · exact ⟨_, _, hs0, h41, zKeep_back hok.1 oW.1 hMi_2 hS_23⟩
            · refine lv_aload_n hx hb dX12_wedding_82 rfl (lv_at hl 2 rfl) ?_
              refine x_get (C := RX12) (T := TX12) (N := 24) hx hb hts hin_X12 hown hK hP (37) (by decide) hob rfl 0 (by decide) hw_0 (fun _ h9 => h9) rfl dX12_wedding_83 ?_
              refine lv_iload_n hx hb dX12_wedding_86 rfl (lv_at hl 0 rfl) ?_
              refine lv_aload_n hx hb dX12_wedding_87 rfl (lv_at hl 2 rfl) ?_
              refine x_get (C := RX12) (T := TX12) (N := 24) hx hb hts hin_X12 hown hK hP (37) (by decide) hob rfl 0 (by decide) hw_0 (fun _ h9 => h9) rfl dX12_wedding_88 ?_
              refine lv_iload_n hx hb dX12_wedding_91 rfl (lv_at hl 0 rfl) ?_
              refine x_iconst hx hb dX12_wedding_92 ?_
              refine x_iadd hx hb dX12_wedding_93 ?_
              refine x_iald (f := zSh3 (zWedU S h) (2 + 3 * (h + 1)) kk) hx hb hK hP (38) (by decide) hs0 (by omega) (by omega) (by decide) dX12_wedding_94 ?_
              have hb_24 := zSh3_rng (a := 2 + 3 * (h + 1)) (k := kk) oU.1 (kk + 3)
              refine x_iast (f := zSh3 (zWedU S h) (2 + 3 * (h + 1)) kk) hx hb hK hP hD hS (38) (by decide) hs0 (by omega) (by omega) (by decide) dX12_wedding_95 (fun M_25 H locs hnew hne hP hD hS => ?_)
              obtain ⟨f_26, hf_26⟩ : ∃ q : Int → Int, q = (upI (zSh3 (zWedU S h) (2 + 3 * (h + 1)) kk) (kk) ((zSh3 (zWedU S h) (2 + 3 * (h + 1)) kk) (kk + 3))) := ⟨_, rfl⟩
              rw [← hf_26] at hnew
              have hP : xP g (M_25, σ.2) H := hP
              have hD : xD g A (M_25, σ.2) := hD
              have hs0 : M_25 (38) = .inl (g.2.1 0, 29, .inl (fun k => iI (f_26 (k : Int)))) := hnew
              have hob : MObj g M_25 ov := (hne (37) (by decide)).trans hob
              have h41 := (hne (41) (by decide)).trans h41
              have hfr := x_fr (F := fun j => j ≠ 38 ∧ j ≠ 41) hfr hne (fun j h => by have h : j ≠ 38 ∧ j ≠ 41 := h; omega)
              refine x_iinc (k0 := 0) (lv' := [(3, .int (iI (kk + 1))), (2, .int (iI (r_26 + r_33))), (0, .ref (g.2.2 37)), (1, .int (iI (h)))]) hx hb dX12_wedding_96 hl rfl (by decide) rfl (fun ls hl => ?_)
              refine lv_goto (tgt := 66) hx hb dX12_wedding_99 (by decide) ?_
              have hs : f_26 = zSh3 (zWedU S h) (2 + 3 * (h + 1)) (kk + 1) := by (rw [hf_26, zSh3_rd]; exact zSh3_step (by omega))
              rw [hs] at hs0
              exact ih_17 (kk + 1) (by omega) (by omega) (by omega) (M_25) _ _ hob hs0 h41 hfr hP hD hS ls (lv_sub hl [0, 1, 2, 3] rfl)
        rw [← zSh3_0 (zWedU S h) (2 + 3 * (h + 1))] at hs0
        exact hloop_66 (((40 - (2 + 3 * (h + 1))).toNat) + 1) (2 + 3 * (h + 1)) (by omega) (by omega) (by omega) (M_15) _ _ hob hs0 h41 hfr hP hD hS ls (lv_sub hl [0, 1, 2, 3] rfl)
    · refine x_iconst hx hb dX12_wedding_18 ?_
      refine x_retQ hx hb hr (by omega) ?_ hP hD hS dX12_wedding_19 hlocks
      refine ⟨rfl, hfr, by unfold zWed; rw [if_neg (by omega)], S, Mi, hs0, h41, zKeep_self hok.1⟩

set_option maxHeartbeats 4000000 in
set_option maxRecDepth 100000 in
theorem c_X12_worth (l : Launch) (g : xG) (σ : xS) (A : Nat → Prop) (ov : Nat → Int) (S : Int → Int) (hob : MObj g σ.1 ov) (hs0 : MArr g σ.1 38 29 S) (hok : SmOk S) (hn8 : S 0 ≤ 8) (h : Int) (hh : inR h) (pu : Int) (hpu : inR pu) (Mi : Int → Int) (h41 : MArr g σ.1 41 29 Mi) : Met l yX12_worth wsX12_worth ({ frames := 5, cells := 0, slots := 0, locals := 160 }) (va_Pc [.ref (g.2.2 37), .int (iI (h)), .int (iI (pu))] (xPreQ g A σ)) (x_Qi g A (fun r σ1 => σ1.2 = σ.2 ∧ (∀ j, j ≠ 38 ∧ j ≠ 41 → σ1.1 j = σ.1 j) ∧ (r = zWorth (mK S) (mF S) (mP S) (S 0) (S 1) h pu) ∧ xBack g σ1.1 S)) (0) (0) A := by
  refine Met.ofW (cc := cX12_worth) (maxL := 5) (ret := (some .int)) (by decide) rfl ?_
  intro p e s m args below meth c s₁ B hml hv
  obtain ⟨rfl, hP, hK, hD, hA⟩ := hv
  have hx := B.exec
  have hb := B.bytes
  have hr := B.returns
  have hts := atoms_spec (ws := wsX12_worth) B.pre
  have hown : s.vm.findClass RX12 = some m.cls := findClass_of_methodNamed B.named
  have hlocks := B.notSynchronized
  have hS : va_S A s.heap s.heap [] := va_S.rf
  have hfr : ∀ j, (j ≠ 38 ∧ j ≠ 41) → σ.1 j = σ.1 j := fun _ _ => rfl
  have hl := lv_entry ([.ref (g.2.2 37), .int (iI (h)), .int (iI (pu))]) (n := 5) (Nat.le_of_ble_eq_true rfl)
  rw [lg_entry_eq]
  generalize (lg_sl ([.ref (g.2.2 37), .int (iI (h)), .int (iI (pu))]) ++ List.replicate (5 - (lg_sl ([.ref (g.2.2 37), .int (iI (h)), .int (iI (pu))])).length) Slot.unset).toArray = ls at hl ⊢
  have hl : lv_has ls 5 [(0, .ref (g.2.2 37)), (1, .int (iI (h))), (2, .int (iI (pu)))] := hl
  have hn0 := hok.2.1
  have hrd0 := hok.2.2.1
  have hw_0 := hts (.constant RX12 225 (-1000000001)) (by decide +kernel)
  have hw_1 := hts (.constantLong RX12 173 (9999)) (by decide +kernel)
  have hw_2 := hts (.fieldLink RX12 9 "TwiceAsRichModel" "s" "[I") (by decide +kernel)
  have hin_X12 : ∀ w ∈ wsX120, w ∈ wsX12_worth := by decide +kernel
  refine lv_aload_n hx hb dX12_worth_0 rfl (lv_at hl 0 rfl) ?_
  refine lv_iload_n hx hb dX12_worth_1 rfl (lv_at hl 1 rfl) ?_
  refine x_ci (va_runV (As := [.int (iI (h))]) (rest := []) ⟨hx, hb, hml, hown, hts⟩ (c_X12_isHouse l g σ (ov) S hob hs0 hok (h) (by omega)) (cwV 1 hts gX12_worth_X12_isHouse rfl rfl rfl (by decide +kernel) ⟨Nat.le_of_ble_eq_true rfl, Nat.le_of_ble_eq_true rfl⟩) (x_preV hK hP (x_recv hK hP (i := 37) (by decide) hob rfl)) rfl rfl hl.1 rfl (lv_room (Nat.le_of_ble_eq_true rfl)) dX12_worth_2 ⟨Nat.le_of_ble_eq_true rfl, Nat.le_of_ble_eq_true rfl⟩) (fun r_2 hr_2 qr_2 => ?_)
  replace qr_2 : (r_2 = 1 ∧ 0 ≤ (h) ∧ (h) < S 0) ∨ (r_2 = 0 ∧ ¬ (0 ≤ (h) ∧ (h) < S 0)) := qr_2
  refine x_if_eq (tgt := 20) hx hb (by omega) dX12_worth_5 (by decide) (fun c_5 => ?_) (fun c_5 => ?_)
  · refine x_ldc (n := -1000000001) hx hb hown hw_0 (by decide +kernel) dX12_worth_20 ?_
    refine x_retQ hx hb hr (by omega) ?_ hP hD hS dX12_worth_22 hlocks
    refine ⟨rfl, hfr, by unfold zWorth; rw [if_neg (by omega)], S, Mi, hs0, h41, zKeep_self hok.1⟩
  · refine lv_iload_n hx hb dX12_worth_8 rfl (lv_at hl 2 rfl) ?_
    refine x_i2l hx hb (by omega) dX12_worth_9 ?_
    refine x_lconst (z := 0) hx hb (by decide +kernel) dX12_worth_10 ?_
    refine x_ldc2 (z := 9999) hx hb hown hw_1 (by decide +kernel) dX12_worth_11 ?_
    refine x_ci (va_runS (As := [.long (jL (pu)), .long (jL (0)), .long (jL (9999))]) (rest := []) ⟨hx, hb, hml, hown, hts⟩ (c_X12_isIn l g σ (pu) (by omega) (0) (by omega) (9999) (by omega)) (va_cwS 3 hts gX12_worth_X12_isIn rfl rfl rfl (by decide +kernel) ⟨Nat.le_of_ble_eq_true rfl, Nat.le_of_ble_eq_true rfl⟩) (x_preS hK hP) rfl rfl hl.1 rfl (lv_room (Nat.le_of_ble_eq_true rfl)) dX12_worth_14 ⟨Nat.le_of_ble_eq_true rfl, Nat.le_of_ble_eq_true rfl⟩) (fun r_14 hr_14 qr_14 => ?_)
    replace qr_14 : (r_14 = 1 ∧ (0) ≤ (pu) ∧ (pu) ≤ (9999)) ∨ (r_14 = 0 ∧ ¬ ((0) ≤ (pu) ∧ (pu) ≤ (9999))) := qr_14
    refine x_if_ne (tgt := 23) hx hb (by omega) dX12_worth_17 (by decide) (fun c_17 => ?_) (fun c_17 => ?_)
    · have hh0 : 0 ≤ h := by omega
      have hh1 : h < S 0 := by omega
      refine lv_aload_n hx hb dX12_worth_23 rfl (lv_at hl 0 rfl) ?_
      refine lv_iload_n hx hb dX12_worth_24 rfl (lv_at hl 1 rfl) ?_
      refine x_ci (va_runV (As := [.int (iI (h))]) (rest := []) ⟨hx, hb, hml, hown, hts⟩ (c_X12_mostOf l g σ (ov) S hob hs0 hok (h) (by omega)) (cwV 1 hts gX12_worth_X12_mostOf rfl rfl rfl (by decide +kernel) ⟨Nat.le_of_ble_eq_true rfl, Nat.le_of_ble_eq_true rfl⟩) (x_preV hK hP (x_recv hK hP (i := 37) (by decide) hob rfl)) rfl rfl hl.1 rfl (lv_room (Nat.le_of_ble_eq_true rfl)) dX12_worth_25 ⟨Nat.le_of_ble_eq_true rfl, Nat.le_of_ble_eq_true rfl⟩) (fun r_25 hr_25 qr_25 => ?_)
      replace qr_25 : r_25 = zMost (mK S) (mF S) (mP S) (S 0) (S 1) (h) ∧ 0 ≤ r_25 ∧ r_25 ≤ 9999 := qr_25
      refine lv_istore_n (lv' := [(3, .int (iI (r_25))), (0, .ref (g.2.2 37)), (1, .int (iI (h))), (2, .int (iI (pu)))]) hx hb dX12_worth_28 rfl hl (by decide) rfl (fun ls hl => ?_)
      refine lv_aload_n hx hb dX12_worth_29 rfl (lv_at hl 1 rfl) ?_
      refine x_cqv0 (va_runV (As := []) (rest := []) ⟨hx, hb, hml, hown, hts⟩ (c_X12_begins l g σ A (ov) S Mi hob hs0 h41) (cwV 0 hts gX12_worth_X12_begins rfl rfl rfl (by decide +kernel) ⟨Nat.le_of_ble_eq_true rfl, Nat.le_of_ble_eq_true rfl⟩) (x_preVQ hK hP hD hS hA (x_recv hK hP (i := 37) (by decide) hob rfl)) rfl rfl hl.1 rfl (lv_room (Nat.le_of_ble_eq_true rfl)) dX12_worth_30 ⟨by decide, by decide⟩) hS (fun σ1 H locs hpost hP hD hS => ?_)
      obtain ⟨M_1, p1⟩ := σ1
      obtain ⟨hp0, hfrc, hnew⟩ := hpost
      obtain rfl : p1 = σ.2 := hp0
      have hP : xP g (M_1, σ.2) H := hP
      have hD : xD g A (M_1, σ.2) := hD
      have hob : MObj g M_1 ov := (hfrc (37) (by omega)).trans hob
      have hs0 := (hfrc (38) (by omega)).trans hs0
      have hfr := x_frc (F := fun j => j ≠ 38 ∧ j ≠ 41) hfr hfrc (fun j h => by have h : j ≠ 38 ∧ j ≠ 41 := h; omega)
      obtain ⟨Mi_2, hMi_2⟩ : ∃ q : Int → Int, q = zCopy S Mi 29 := ⟨_, rfl⟩
      have h41 : MArr g M_1 41 29 Mi_2 := by rw [hMi_2]; exact hnew
      refine x_iconst hx hb dX12_worth_33 ?_
      refine x_iconst hx hb dX12_worth_34 ?_
      refine lv_aload_n hx hb dX12_worth_35 rfl (lv_at hl 1 rfl) ?_
      refine x_get (C := RX12) (T := TX12) (N := 24) hx hb hts hin_X12 hown hK hP (37) (by decide) hob rfl 0 (by decide) hw_2 (fun _ h9 => h9) rfl dX12_worth_36 ?_
      refine x_iconst hx hb dX12_worth_39 ?_
      refine x_iald (f := S) hx hb hK hP (38) (by decide) hs0 (by omega) (by omega) (by decide) dX12_worth_40 ?_
      have hb_3 := hok.1 (0)
      refine x_imul hx hb dX12_worth_41 ?_
      refine x_iadd hx hb dX12_worth_42 ?_
      refine x_iconst hx hb dX12_worth_43 ?_
      refine x_isub hx hb dX12_worth_44 ?_
      refine lv_istore (lv' := [(4, .int (iI ((2 + (3 * (S (0)))) - 1))), (3, .int (iI (r_25))), (0, .ref (g.2.2 37)), (1, .int (iI (h))), (2, .int (iI (pu)))]) hx hb dX12_worth_45 hl (by decide) rfl (fun ls hl => ?_)
      have hloop_47 : ∀ (k : Nat) (kk : Int), kk.toNat < k → (hk0 : 2 + 3 * (h + 1) - 1 ≤ kk) → (hk1 : kk ≤ 2 + 3 * S 0 - 1) → ∀ (M : xM) (H : Heap) (locs : List Loc), (hob : M (37) = .inr (12, [.ref (g.2.2 38), .ref (g.2.2 39), .ref (g.2.2 40), .ref (g.2.2 41), .ref (g.2.2 42), .ref (g.2.2 43), .ref (g.2.2 44), .ref (g.2.2 45), .ref (g.2.2 46), .ref (g.2.2 47), .int (iI (ov 10)), .int (iI (ov 11)), .int (iI (ov 12)), .int (iI (ov 13)), .int (iI (ov 14)), .int (iI (ov 15)), .ref (g.2.2 48), .int (iI (ov 17)), .int (iI (ov 18)), .int (iI (ov 19)), .int (iI (ov 20)), .int (iI (ov 21)), .ref (g.2.2 49), .int (iI (ov 23))])) → (hs0 : M (38) = .inl (g.2.1 0, 29, .inl (fun k => iI (zShU S kk (2 + 3 * S 0 - 1) (k : Int))))) → (h41 : M (41) = .inl (g.2.1 0, 29, .inl (fun k => iI (Mi_2 (k : Int))))) → (hfr : ∀ j, (j ≠ 38 ∧ j ≠ 41) → M j = σ.1 j) → xP g (M, σ.2) H → xD g A (M, σ.2) → va_S A s.heap H locs → ∀ (ls : Array Slot), lv_has ls 5 [(4, .int (iI (kk))), (3, .int (iI (r_25))), (0, .ref (g.2.2 37)), (1, .int (iI (h))), (2, .int (iI (pu)))] → W p l e (headSpec wsX12_worth ({ frames := 5, cells := 0, slots := 0, locals := 160 })).room s m ([.ref (g.2.2 37), .int (iI (h)), .int (iI (pu))] : List Value).toArray below meth c H locs 0 0 (MQ below (x_Qi g A (fun r σ1 => σ1.2 = σ.2 ∧ (∀ j, j ≠ 38 ∧ j ≠ 41 → σ1.1 j = σ.1 j) ∧ (r = zWorth (mK S) (mF S) (mP S) (S 0) (S 1) h pu) ∧ xBack g σ1.1 S)) ([.ref (g.2.2 37), .int (iI (h)), .int (iI (pu))] : List Value).toArray s (0) (0) A) (F0 m 47 ls []) := by
        intro k
        induction k with
        | zero =>
          intros; exact absurd (by assumption) (Nat.not_lt_zero _)
        | succ k ih =>
          intro kk hmeas hk0 hk1 M H locs hob hs0 h41 hfr hP hD hS ls hl
          have ih_4 := ih
          refine lv_iload hx hb dX12_worth_47 (lv_at hl 0 rfl) ?_
          refine x_iconst hx hb dX12_worth_49 ?_
          refine x_iconst hx hb dX12_worth_50 ?_
          refine lv_iload_n hx hb dX12_worth_51 rfl (lv_at hl 3 rfl) ?_
          refine x_iconst hx hb dX12_worth_52 ?_
          refine x_iadd hx hb dX12_worth_53 ?_
          refine x_imul hx hb dX12_worth_54 ?_
          refine x_iadd hx hb dX12_worth_55 ?_
          refine x_icmp_lt (tgt := 81) hx hb (by omega) (by omega) dX12_worth_56 (by decide) (fun c_56 => ?_) (fun c_56 => ?_)
          · refine lv_aload_n hx hb dX12_worth_81 rfl (lv_at hl 2 rfl) ?_
            refine lv_iload_n hx hb dX12_worth_82 rfl (lv_at hl 3 rfl) ?_
            refine x_iconst hx hb dX12_worth_83 ?_
            refine x_iadd hx hb dX12_worth_84 ?_
            refine x_iconst hx hb dX12_worth_85 ?_
            refine x_iconst hx hb dX12_worth_86 ?_
            refine x_cqv0 (va_runV (As := [.int (iI (h + 1)), .int (iI (0)), .int (iI (0))]) (rest := []) ⟨hx, hb, hml, hown, hts⟩ (c_X12_puts l g (M, σ.2) A (ov) (zShU S kk (2 + 3 * S 0 - 1)) hob hs0 (zShU_rng hok.1) (h + 1) (by omega) (0) (by omega) (0) (by omega)) (cwV 3 hts gX12_worth_X12_puts rfl rfl rfl (by decide +kernel) ⟨Nat.le_of_ble_eq_true rfl, Nat.le_of_ble_eq_true rfl⟩) (x_preVQ hK hP hD hS hA (x_recv hK hP (i := 37) (by decide) hob rfl)) rfl rfl hl.1 rfl (lv_room (Nat.le_of_ble_eq_true rfl)) dX12_worth_87 ⟨by decide, by decide⟩) hS (fun σ1 H locs hpost hP hD hS => ?_)
            obtain ⟨M_5, p1⟩ := σ1
            obtain ⟨hp0, hfrc, hnew⟩ := hpost
            obtain rfl : p1 = σ.2 := hp0
            have hP : xP g (M_5, σ.2) H := hP
            have hD : xD g A (M_5, σ.2) := hD
            have hob : MObj g M_5 ov := (hfrc (37) (by omega)).trans hob
            have h41 := (hfrc (41) (by omega)).trans h41
            have hfr := x_frc (F := fun j => j ≠ 38 ∧ j ≠ 41) hfr hfrc (fun j h => by have h : j ≠ 38 ∧ j ≠ 41 := h; omega)
            obtain ⟨S_6, hS_6⟩ : ∃ q : Int → Int, q = upI (zShU S kk (2 + 3 * S 0 - 1)) (2 + 3 * (h + 1) + (0)) (0) := ⟨_, rfl⟩
            have hs0 : MArr g M_5 38 29 S_6 := by rw [hS_6]; exact hnew
            have rS_6 : ∀ k, inR (S_6 k) := by rw [hS_6]; exact upI_rng (zShU_rng hok.1) ⟨by omega, by omega⟩
            have e87 := hS_6
            refine lv_aload_n hx hb dX12_worth_90 rfl (lv_at hl 2 rfl) ?_
            refine lv_iload_n hx hb dX12_worth_91 rfl (lv_at hl 3 rfl) ?_
            refine x_iconst hx hb dX12_worth_92 ?_
            refine x_iadd hx hb dX12_worth_93 ?_
            refine x_iconst hx hb dX12_worth_94 ?_
            refine x_iconst hx hb dX12_worth_95 ?_
            refine x_cqv0 (va_runV (As := [.int (iI (h + 1)), .int (iI (1)), .int (iI (0))]) (rest := []) ⟨hx, hb, hml, hown, hts⟩ (c_X12_puts l g (M_5, σ.2) A (ov) S_6 hob hs0 rS_6 (h + 1) (by omega) (1) (by omega) (0) (by omega)) (cwV 3 hts gX12_worth_X12_puts rfl rfl rfl (by decide +kernel) ⟨Nat.le_of_ble_eq_true rfl, Nat.le_of_ble_eq_true rfl⟩) (x_preVQ hK hP hD hS hA (x_recv hK hP (i := 37) (by decide) hob rfl)) rfl rfl hl.1 rfl (lv_room (Nat.le_of_ble_eq_true rfl)) dX12_worth_96 ⟨by decide, by decide⟩) hS (fun σ1 H locs hpost hP hD hS => ?_)
            obtain ⟨M_7, p1⟩ := σ1
            obtain ⟨hp0, hfrc, hnew⟩ := hpost
            obtain rfl : p1 = σ.2 := hp0
            have hP : xP g (M_7, σ.2) H := hP
            have hD : xD g A (M_7, σ.2) := hD
            have hob : MObj g M_7 ov := (hfrc (37) (by omega)).trans hob
            have h41 := (hfrc (41) (by omega)).trans h41
            have hfr := x_frc (F := fun j => j ≠ 38 ∧ j ≠ 41) hfr hfrc (fun j h => by have h : j ≠ 38 ∧ j ≠ 41 := h; omega)
            obtain ⟨S_8, hS_8⟩ : ∃ q : Int → Int, q = upI S_6 (2 + 3 * (h + 1) + (1)) (0) := ⟨_, rfl⟩
            have hs0 : MArr g M_7 38 29 S_8 := by rw [hS_8]; exact hnew
            have rS_8 : ∀ k, inR (S_8 k) := by rw [hS_8]; exact upI_rng rS_6 ⟨by omega, by omega⟩
            have e96 := hS_8
            refine lv_aload_n hx hb dX12_worth_99 rfl (lv_at hl 2 rfl) ?_
            refine lv_iload_n hx hb dX12_worth_100 rfl (lv_at hl 3 rfl) ?_
            refine x_iconst hx hb dX12_worth_101 ?_
            refine x_iadd hx hb dX12_worth_102 ?_
            refine x_iconst hx hb dX12_worth_103 ?_
            refine lv_iload_n hx hb dX12_worth_104 rfl (lv_at hl 4 rfl) ?_
            refine x_cqv0 (va_runV (As := [.int (iI (h + 1)), .int (iI (2)), .int (iI (pu))]) (rest := []) ⟨hx, hb, hml, hown, hts⟩ (c_X12_puts l g (M_7, σ.2) A (ov) S_8 hob hs0 rS_8 (h + 1) (by omega) (2) (by omega) (pu) (by omega)) (cwV 3 hts gX12_worth_X12_puts rfl rfl rfl (by decide +kernel) ⟨Nat.le_of_ble_eq_true rfl, Nat.le_of_ble_eq_true rfl⟩) (x_preVQ hK hP hD hS hA (x_recv hK hP (i := 37) (by decide) hob rfl)) rfl rfl hl.1 rfl (lv_room (Nat.le_of_ble_eq_true rfl)) dX12_worth_105 ⟨by decide, by decide⟩) hS (fun σ1 H locs hpost hP hD hS => ?_)
            obtain ⟨M_9, p1⟩ := σ1
            obtain ⟨hp0, hfrc, hnew⟩ := hpost
            obtain rfl : p1 = σ.2 := hp0
            have hP : xP g (M_9, σ.2) H := hP
            have hD : xD g A (M_9, σ.2) := hD
            have hob : MObj g M_9 ov := (hfrc (37) (by omega)).trans hob
            have h41 := (hfrc (41) (by omega)).trans h41
            have hfr := x_frc (F := fun j => j ≠ 38 ∧ j ≠ 41) hfr hfrc (fun j h => by have h : j ≠ 38 ∧ j ≠ 41 := h; omega)
            obtain ⟨S_10, hS_10⟩ : ∃ q : Int → Int, q = upI S_8 (2 + 3 * (h + 1) + (2)) (pu) := ⟨_, rfl⟩
            have hs0 : MArr g M_9 38 29 S_10 := by rw [hS_10]; exact hnew
            have rS_10 : ∀ k, inR (S_10 k) := by rw [hS_10]; exact upI_rng rS_8 ⟨by omega, by omega⟩
            have e105 := hS_10
            have ek : kk = 2 + 3 * (h + 1) - 1 := by omega
            have hz1 : S_10 0 = S 0 := by (rw [e105, upI_n (by omega), e96, upI_n (by omega), e87, upI_n (by omega)]; unfold zShU; rw [if_neg (by omega)])
            refine lv_aload_n hx hb dX12_worth_108 rfl (lv_at hl 2 rfl) ?_
            refine x_get (C := RX12) (T := TX12) (N := 24) hx hb hts hin_X12 hown hK hP (37) (by decide) hob rfl 0 (by decide) hw_2 (fun _ h9 => h9) rfl dX12_worth_109 ?_
            refine x_iconst hx hb dX12_worth_112 ?_
            refine lv_dup2_11 hx hb dX12_worth_113 rfl rfl ?_
            refine x_iald (f := S_10) hx hb hK hP (38) (by decide) hs0 (by omega) (by omega) (by decide) dX12_worth_114 ?_
            have hb_11 := rS_10 (0)
            refine x_iconst hx hb dX12_worth_115 ?_
            refine x_iadd hx hb dX12_worth_116 ?_
            refine x_iast (f := S_10) hx hb hK hP hD hS (38) (by decide) hs0 (by omega) (by omega) (by decide) dX12_worth_117 (fun M_12 H locs hnew hne hP hD hS => ?_)
            obtain ⟨f_13, hf_13⟩ : ∃ q : Int → Int, q = (upI S_10 (0) ((S_10 (0)) + 1)) := ⟨_, rfl⟩
            rw [← hf_13] at hnew
            have hP : xP g (M_12, σ.2) H := hP
            have hD : xD g A (M_12, σ.2) := hD
            have hs0 : M_12 (38) = .inl (g.2.1 0, 29, .inl (fun k => iI (f_13 (k : Int)))) := hnew
            have hob : MObj g M_12 ov := (hne (37) (by decide)).trans hob
            have h41 := (hne (41) (by decide)).trans h41
            have hfr := x_fr (F := fun j => j ≠ 38 ∧ j ≠ 41) hfr hne (fun j h => by have h : j ≠ 38 ∧ j ≠ 41 := h; omega)
            have e38 : f_13 = zInsS S h pu := by (rw [hf_13, hz1, e105, e96, e87, ek]; rfl)
            have oW : SmOk f_13 := by (rw [e38]; exact SmOk_insS hok hh0 hh1 hn8 (by omega))
            have hn13 : f_13 0 = S 0 + 1 := by (rw [e38]; exact zInsS_0)
            refine lv_aload_n hx hb dX12_worth_118 rfl (lv_at hl 2 rfl) ?_
            refine lv_iload_n hx hb dX12_worth_119 rfl (lv_at hl 3 rfl) ?_
            refine x_ci (va_runV (As := [.int (iI (h))]) (rest := []) ⟨hx, hb, hml, hown, hts⟩ (c_X12_mostOf l g (M_12, σ.2) (ov) f_13 hob hs0 oW (h) (by omega)) (cwV 1 hts gX12_worth_X12_mostOf rfl rfl rfl (by decide +kernel) ⟨Nat.le_of_ble_eq_true rfl, Nat.le_of_ble_eq_true rfl⟩) (x_preV hK hP (x_recv hK hP (i := 37) (by decide) hob rfl)) rfl rfl hl.1 rfl (lv_room (Nat.le_of_ble_eq_true rfl)) dX12_worth_120 ⟨Nat.le_of_ble_eq_true rfl, Nat.le_of_ble_eq_true rfl⟩) (fun r_120 hr_120 qr_120 => ?_)
            replace qr_120 : r_120 = zMost (mK f_13) (mF f_13) (mP f_13) (f_13 0) (f_13 1) (h) ∧ 0 ≤ r_120 ∧ r_120 ≤ 9999 := qr_120
            refine lv_istore (lv' := [(4, .int (iI (r_120))), (3, .int (iI (r_25))), (0, .ref (g.2.2 37)), (1, .int (iI (h))), (2, .int (iI (pu)))]) hx hb dX12_worth_123 hl (by decide) rfl (fun ls hl => ?_)
            refine lv_aload_n hx hb dX12_worth_125 rfl (lv_at hl 2 rfl) ?_
            refine x_cqv0 (va_runV (As := []) (rest := []) ⟨hx, hb, hml, hown, hts⟩ (c_X12_ends l g (M_12, σ.2) A (ov) f_13 Mi_2 hob hs0 h41) (cwV 0 hts gX12_worth_X12_ends rfl rfl rfl (by decide +kernel) ⟨Nat.le_of_ble_eq_true rfl, Nat.le_of_ble_eq_true rfl⟩) (x_preVQ hK hP hD hS hA (x_recv hK hP (i := 37) (by decide) hob rfl)) rfl rfl hl.1 rfl (lv_room (Nat.le_of_ble_eq_true rfl)) dX12_worth_126 ⟨by decide, by decide⟩) hS (fun σ1 H locs hpost hP hD hS => ?_)
            obtain ⟨M_14, p1⟩ := σ1
            obtain ⟨hp0, hfrc, hnew⟩ := hpost
            obtain rfl : p1 = σ.2 := hp0
            have hP : xP g (M_14, σ.2) H := hP
            have hD : xD g A (M_14, σ.2) := hD
            have hob : MObj g M_14 ov := (hfrc (37) (by omega)).trans hob
            have h41 := (hfrc (41) (by omega)).trans h41
            have hfr := x_frc (F := fun j => j ≠ 38 ∧ j ≠ 41) hfr hfrc (fun j h => by have h : j ≠ 38 ∧ j ≠ 41 := h; omega)
            obtain ⟨S_15, hS_15⟩ : ∃ q : Int → Int, q = zCopy Mi_2 f_13 29 := ⟨_, rfl⟩
            have hs0 : MArr g M_14 38 29 S_15 := by rw [hS_15]; exact hnew
            refine lv_iload hx hb dX12_worth_129 (lv_at hl 0 rfl) ?_
            refine lv_iload_n hx hb dX12_worth_131 rfl (lv_at hl 1 rfl) ?_
            refine x_isub hx hb dX12_worth_132 ?_
            refine x_retQ hx hb hr (by omega) ?_ hP hD hS dX12_worth_133 hlocks
            refine ⟨rfl, hfr, ?_, ?_⟩
            · have z := zInsS_most (S := S) (p := pu) hh0 hh1
              rw [← e38, ← qr_120.1] at z
              unfold zWorth; rw [if_pos (by omega), ← z, ← qr_25.1]
            · exact ⟨_, _, hs0, h41, zKeep_back hok.1 oW.1 hMi_2 hS_15⟩
          · refine lv_aload_n hx hb dX12_worth_59 rfl (lv_at hl 2 rfl) ?_
            refine x_get (C := RX12) (T := TX12) (N := 24) hx hb hts hin_X12 hown hK hP (37) (by decide) hob rfl 0 (by decide) hw_2 (fun _ h9 => h9) rfl dX12_worth_60 ?_
            refine lv_iload hx hb dX12_worth_63 (lv_at hl 0 rfl) ?_
            refine x_iconst hx hb dX12_worth_65 ?_
            refine x_iadd hx hb dX12_worth_66 ?_
            refine lv_aload_n hx hb dX12_worth_67 rfl (lv_at hl 2 rfl) ?_
            refine x_get (C := RX12) (T := TX12) (N := 24) hx hb hts hin_X12 hown hK hP (37) (by decide) hob rfl 0 (by decide) hw_2 (fun _ h9 => h9) rfl dX12_worth_68 ?_
            refine lv_iload hx hb dX12_worth_71 (lv_at hl 0 rfl) ?_
            refine x_iald (f := zShU S kk (2 + 3 * S 0 - 1)) hx hb hK hP (38) (by decide) hs0 (by omega) (by omega) (by decide) dX12_worth_73 ?_
            have hb_16 := zShU_rng (k := kk) (m := 2 + 3 * S 0 - 1) hok.1 (kk)
            refine x_iast (f := zShU S kk (2 + 3 * S 0 - 1)) hx hb hK hP hD hS (38) (by decide) hs0 (by omega) (by omega) (by decide) dX12_worth_74 (fun M_17 H locs hnew hne hP hD hS => ?_)
            obtain ⟨f_18, hf_18⟩ : ∃ q : Int → Int, q = (upI (zShU S kk (2 + 3 * S 0 - 1)) (kk + 3) ((zShU S kk (2 + 3 * S 0 - 1)) (kk))) := ⟨_, rfl⟩
            rw [← hf_18] at hnew
            have hP : xP g (M_17, σ.2) H := hP
            have hD : xD g A (M_17, σ.2) := hD
            have hs0 : M_17 (38) = .inl (g.2.1 0, 29, .inl (fun k => iI (f_18 (k : Int)))) := hnew
            have hob : MObj g M_17 ov := (hne (37) (by decide)).trans hob
            have h41 := (hne (41) (by decide)).trans h41
            have hfr := x_fr (F := fun j => j ≠ 38 ∧ j ≠ 41) hfr hne (fun j h => by have h : j ≠ 38 ∧ j ≠ 41 := h; omega)
            refine x_iinc (k0 := 0) (lv' := [(4, .int (iI (kk + (-1)))), (3, .int (iI (r_25))), (0, .ref (g.2.2 37)), (1, .int (iI (h))), (2, .int (iI (pu)))]) hx hb dX12_worth_75 hl rfl (by decide) rfl (fun ls hl => ?_)
            refine lv_goto (tgt := 47) hx hb dX12_worth_78 (by decide) ?_
            have hs : f_18 = zShU S (kk - 1) (2 + 3 * S 0 - 1) := by (rw [hf_18, zShU_rd]; exact zShU_step (by omega))
            rw [hs] at hs0
            exact ih_4 (kk + (-1)) (by omega) (by omega) (by omega) (M_17) _ _ hob hs0 h41 hfr hP hD hS ls (lv_sub hl [0, 1, 2, 3, 4] rfl)
      rw [← zShU_0 S (2 + 3 * S 0 - 1)] at hs0
      exact hloop_47 (((2 + 3 * S 0 - 1).toNat) + 1) (2 + 3 * S 0 - 1) (by omega) (by omega) (by omega) (M_1) _ _ hob hs0 h41 hfr hP hD hS ls (lv_sub hl [0, 1, 2, 3, 4] rfl)
    · refine x_ldc (n := -1000000001) hx hb hown hw_0 (by decide +kernel) dX12_worth_20 ?_
      refine x_retQ hx hb hr (by omega) ?_ hP hD hS dX12_worth_22 hlocks
      refine ⟨rfl, hfr, by unfold zWorth; rw [if_neg (by omega)], S, Mi, hs0, h41, zKeep_self hok.1⟩

set_option maxHeartbeats 4000000 in
set_option maxRecDepth 100000 in
theorem c_X12_fitting (l : Launch) (g : xG) (σ : xS) (A : Nat → Prop) (ov : Nat → Int) (S : Int → Int) (hob : MObj g σ.1 ov) (hs0 : MArr g σ.1 38 29 S) (hok : SmOk S) (h : Int) (hh : inR h) (wh : Int) (hw : inR wh) (Mi : Int → Int) (h41 : MArr g σ.1 41 29 Mi) : Met l yX12_fitting wsX12_fitting ({ frames := 8, cells := 0, slots := 0, locals := 256 }) (va_Pc [.ref (g.2.2 37), .int (iI (h)), .int (iI (wh))] (xPreQ g A σ)) (x_Qi g A (fun r σ1 => σ1.2 = σ.2 ∧ (∀ j, j ≠ 38 ∧ j ≠ 41 → σ1.1 j = σ.1 j) ∧ (r = zFit (mK S) (mF S) (mP S) (S 0) (S 1) h wh) ∧ xBack g σ1.1 S)) (0) (0) A := by
  refine Met.ofW (cc := cX12_fitting) (maxL := 7) (ret := (some .int)) (by decide) rfl ?_
  intro p e s m args below meth c s₁ B hml hv
  obtain ⟨rfl, hP, hK, hD, hA⟩ := hv
  have hx := B.exec
  have hb := B.bytes
  have hr := B.returns
  have hts := atoms_spec (ws := wsX12_fitting) B.pre
  have hown : s.vm.findClass RX12 = some m.cls := findClass_of_methodNamed B.named
  have hlocks := B.notSynchronized
  have hS : va_S A s.heap s.heap [] := va_S.rf
  have hfr : ∀ j, (j ≠ 38 ∧ j ≠ 41) → σ.1 j = σ.1 j := fun _ _ => rfl
  have hl := lv_entry ([.ref (g.2.2 37), .int (iI (h)), .int (iI (wh))]) (n := 7) (Nat.le_of_ble_eq_true rfl)
  rw [lg_entry_eq]
  generalize (lg_sl ([.ref (g.2.2 37), .int (iI (h)), .int (iI (wh))]) ++ List.replicate (7 - (lg_sl ([.ref (g.2.2 37), .int (iI (h)), .int (iI (wh))])).length) Slot.unset).toArray = ls at hl ⊢
  have hl : lv_has ls 7 [(0, .ref (g.2.2 37)), (1, .int (iI (h))), (2, .int (iI (wh)))] := hl
  have hn0 := hok.2.1
  have hrd0 := hok.2.2.1
  have hw_0 := hts (.constantLong RX12 226 (2)) (by decide +kernel)
  refine lv_aload_n hx hb dX12_fitting_0 rfl (lv_at hl 0 rfl) ?_
  refine lv_iload_n hx hb dX12_fitting_1 rfl (lv_at hl 1 rfl) ?_
  refine x_ci (va_runV (As := [.int (iI (h))]) (rest := []) ⟨hx, hb, hml, hown, hts⟩ (c_X12_isHouse l g σ (ov) S hob hs0 hok (h) (by omega)) (cwV 1 hts gX12_fitting_X12_isHouse rfl rfl rfl (by decide +kernel) ⟨Nat.le_of_ble_eq_true rfl, Nat.le_of_ble_eq_true rfl⟩) (x_preV hK hP (x_recv hK hP (i := 37) (by decide) hob rfl)) rfl rfl hl.1 rfl (lv_room (Nat.le_of_ble_eq_true rfl)) dX12_fitting_2 ⟨Nat.le_of_ble_eq_true rfl, Nat.le_of_ble_eq_true rfl⟩) (fun r_2 hr_2 qr_2 => ?_)
  replace qr_2 : (r_2 = 1 ∧ 0 ≤ (h) ∧ (h) < S 0) ∨ (r_2 = 0 ∧ ¬ (0 ≤ (h) ∧ (h) < S 0)) := qr_2
  refine x_if_eq (tgt := 20) hx hb (by omega) dX12_fitting_5 (by decide) (fun c_5 => ?_) (fun c_5 => ?_)
  · refine x_iconst hx hb dX12_fitting_20 ?_
    refine x_retQ hx hb hr (by omega) ?_ hP hD hS dX12_fitting_21 hlocks
    refine ⟨rfl, hfr, by unfold zFit; rw [if_pos (by omega)], S, Mi, hs0, h41, zKeep_self hok.1⟩
  · refine lv_iload_n hx hb dX12_fitting_8 rfl (lv_at hl 2 rfl) ?_
    refine x_i2l hx hb (by omega) dX12_fitting_9 ?_
    refine x_lconst (z := 0) hx hb (by decide +kernel) dX12_fitting_10 ?_
    refine x_ldc2 (z := 2) hx hb hown hw_0 (by decide +kernel) dX12_fitting_11 ?_
    refine x_ci (va_runS (As := [.long (jL (wh)), .long (jL (0)), .long (jL (2))]) (rest := []) ⟨hx, hb, hml, hown, hts⟩ (c_X12_isIn l g σ (wh) (by omega) (0) (by omega) (2) (by omega)) (va_cwS 3 hts gX12_fitting_X12_isIn rfl rfl rfl (by decide +kernel) ⟨Nat.le_of_ble_eq_true rfl, Nat.le_of_ble_eq_true rfl⟩) (x_preS hK hP) rfl rfl hl.1 rfl (lv_room (Nat.le_of_ble_eq_true rfl)) dX12_fitting_14 ⟨Nat.le_of_ble_eq_true rfl, Nat.le_of_ble_eq_true rfl⟩) (fun r_14 hr_14 qr_14 => ?_)
    replace qr_14 : (r_14 = 1 ∧ (0) ≤ (wh) ∧ (wh) ≤ (2)) ∨ (r_14 = 0 ∧ ¬ ((0) ≤ (wh) ∧ (wh) ≤ (2))) := qr_14
    refine x_if_ne (tgt := 22) hx hb (by omega) dX12_fitting_17 (by decide) (fun c_17 => ?_) (fun c_17 => ?_)
    · have hh0 : 0 ≤ h := by omega
      have hh1 : h < S 0 := by omega
      refine x_iconst hx hb dX12_fitting_22 ?_
      refine lv_istore_n (lv' := [(3, .int (iI (0))), (0, .ref (g.2.2 37)), (1, .int (iI (h))), (2, .int (iI (wh)))]) hx hb dX12_fitting_23 rfl hl (by decide) rfl (fun ls hl => ?_)
      refine x_bipush (n := -4) hx hb (by decide +kernel) dX12_fitting_24 ?_
      refine lv_istore (lv' := [(4, .int (iI (-4))), (3, .int (iI (0))), (0, .ref (g.2.2 37)), (1, .int (iI (h))), (2, .int (iI (wh)))]) hx hb dX12_fitting_26 hl (by decide) rfl (fun ls hl => ?_)
      refine x_bipush (n := -4) hx hb (by decide +kernel) dX12_fitting_28 ?_
      refine lv_istore (lv' := [(5, .int (iI (-4))), (4, .int (iI (-4))), (3, .int (iI (0))), (0, .ref (g.2.2 37)), (1, .int (iI (h))), (2, .int (iI (wh)))]) hx hb dX12_fitting_30 hl (by decide) rfl (fun ls hl => ?_)
      refine lv_aload_n hx hb dX12_fitting_32 rfl (lv_at hl 3 rfl) ?_
      refine x_cqv0 (va_runV (As := []) (rest := []) ⟨hx, hb, hml, hown, hts⟩ (c_X12_begins l g σ A (ov) S Mi hob hs0 h41) (cwV 0 hts gX12_fitting_X12_begins rfl rfl rfl (by decide +kernel) ⟨Nat.le_of_ble_eq_true rfl, Nat.le_of_ble_eq_true rfl⟩) (x_preVQ hK hP hD hS hA (x_recv hK hP (i := 37) (by decide) hob rfl)) rfl rfl hl.1 rfl (lv_room (Nat.le_of_ble_eq_true rfl)) dX12_fitting_33 ⟨by decide, by decide⟩) hS (fun σ1 H locs hpost hP hD hS => ?_)
      obtain ⟨M_1, p1⟩ := σ1
      obtain ⟨hp0, hfrc, hnew⟩ := hpost
      obtain rfl : p1 = σ.2 := hp0
      have hP : xP g (M_1, σ.2) H := hP
      have hD : xD g A (M_1, σ.2) := hD
      have hob : MObj g M_1 ov := (hfrc (37) (by omega)).trans hob
      have hs0 := (hfrc (38) (by omega)).trans hs0
      have hfr := x_frc (F := fun j => j ≠ 38 ∧ j ≠ 41) hfr hfrc (fun j h => by have h : j ≠ 38 ∧ j ≠ 41 := h; omega)
      obtain ⟨Mi_2, hMi_2⟩ : ∃ q : Int → Int, q = zCopy S Mi 29 := ⟨_, rfl⟩
      have h41 : MArr g M_1 41 29 Mi_2 := by rw [hMi_2]; exact hnew
      refine x_iconst hx hb dX12_fitting_36 ?_
      refine lv_istore (lv' := [(6, .int (iI (0))), (5, .int (iI (-4))), (4, .int (iI (-4))), (3, .int (iI (0))), (0, .ref (g.2.2 37)), (1, .int (iI (h))), (2, .int (iI (wh)))]) hx hb dX12_fitting_37 hl (by decide) rfl (fun ls hl => ?_)
      have hloop_39 : ∀ (k : Nat) (T : Int → Int) (p9 : Int) (mn : Int) (ls9 : Int) (gr : Int), ((100 : Int) - p9).toNat < k → (hp0 : 0 ≤ p9) → (hp1 : p9 ≤ 100) → (hT : ∀ v, upI T (2 + 3 * h + 2) v = upI S (2 + 3 * h + 2) v) → (hTr : ∀ q, inR (T q)) → (hst : (mn, ls9, gr) = zFitN (mK S) (mF S) (mP S) (S 0) (S 1) h p9.toNat) → (hmr : 0 ≤ mn ∧ mn ≤ p9) → (hlr : -4 ≤ ls9 ∧ ls9 ≤ 99) → (hgr : -4 ≤ gr ∧ gr ≤ 99) → ∀ (M : xM) (H : Heap) (locs : List Loc), (hob : M (37) = .inr (12, [.ref (g.2.2 38), .ref (g.2.2 39), .ref (g.2.2 40), .ref (g.2.2 41), .ref (g.2.2 42), .ref (g.2.2 43), .ref (g.2.2 44), .ref (g.2.2 45), .ref (g.2.2 46), .ref (g.2.2 47), .int (iI (ov 10)), .int (iI (ov 11)), .int (iI (ov 12)), .int (iI (ov 13)), .int (iI (ov 14)), .int (iI (ov 15)), .ref (g.2.2 48), .int (iI (ov 17)), .int (iI (ov 18)), .int (iI (ov 19)), .int (iI (ov 20)), .int (iI (ov 21)), .ref (g.2.2 49), .int (iI (ov 23))])) → (hs0 : M (38) = .inl (g.2.1 0, 29, .inl (fun k => iI (T (k : Int))))) → (h41 : M (41) = .inl (g.2.1 0, 29, .inl (fun k => iI (Mi_2 (k : Int))))) → (hfr : ∀ j, (j ≠ 38 ∧ j ≠ 41) → M j = σ.1 j) → xP g (M, σ.2) H → xD g A (M, σ.2) → va_S A s.heap H locs → ∀ (ls : Array Slot), lv_has ls 7 [(6, .int (iI (p9))), (3, .int (iI (mn))), (4, .int (iI (ls9))), (5, .int (iI (gr))), (0, .ref (g.2.2 37)), (1, .int (iI (h))), (2, .int (iI (wh)))] → W p l e (headSpec wsX12_fitting ({ frames := 8, cells := 0, slots := 0, locals := 256 })).room s m ([.ref (g.2.2 37), .int (iI (h)), .int (iI (wh))] : List Value).toArray below meth c H locs 0 0 (MQ below (x_Qi g A (fun r σ1 => σ1.2 = σ.2 ∧ (∀ j, j ≠ 38 ∧ j ≠ 41 → σ1.1 j = σ.1 j) ∧ (r = zFit (mK S) (mF S) (mP S) (S 0) (S 1) h wh) ∧ xBack g σ1.1 S)) ([.ref (g.2.2 37), .int (iI (h)), .int (iI (wh))] : List Value).toArray s (0) (0) A) (F0 m 39 ls []) := by
        intro k
        induction k with
        | zero =>
          intros; exact absurd (by assumption) (Nat.not_lt_zero _)
        | succ k ih =>
          intro T p9 mn ls9 gr hmeas hp0 hp1 hT hTr hst hmr hlr hgr M H locs hob hs0 h41 hfr hP hD hS ls hl
          have ih_3 := ih
          refine lv_iload hx hb dX12_fitting_39 (lv_at hl 0 rfl) ?_
          refine x_bipush (n := 99) hx hb (by decide +kernel) dX12_fitting_41 ?_
          refine x_icmp_gt (tgt := 91) hx hb (by omega) (by omega) dX12_fitting_43 (by decide) (fun c_43 => ?_) (fun c_43 => ?_)
          · refine lv_aload_n hx hb dX12_fitting_91 rfl (lv_at hl 4 rfl) ?_
            refine x_cqv0 (va_runV (As := []) (rest := []) ⟨hx, hb, hml, hown, hts⟩ (c_X12_ends l g (M, σ.2) A (ov) T Mi_2 hob hs0 h41) (cwV 0 hts gX12_fitting_X12_ends rfl rfl rfl (by decide +kernel) ⟨Nat.le_of_ble_eq_true rfl, Nat.le_of_ble_eq_true rfl⟩) (x_preVQ hK hP hD hS hA (x_recv hK hP (i := 37) (by decide) hob rfl)) rfl rfl hl.1 rfl (lv_room (Nat.le_of_ble_eq_true rfl)) dX12_fitting_92 ⟨by decide, by decide⟩) hS (fun σ1 H locs hpost hP hD hS => ?_)
            obtain ⟨M_4, p1⟩ := σ1
            obtain ⟨hp0, hfrc, hnew⟩ := hpost
            obtain rfl : p1 = σ.2 := hp0
            have hP : xP g (M_4, σ.2) H := hP
            have hD : xD g A (M_4, σ.2) := hD
            have hob : MObj g M_4 ov := (hfrc (37) (by omega)).trans hob
            have h41 := (hfrc (41) (by omega)).trans h41
            have hfr := x_frc (F := fun j => j ≠ 38 ∧ j ≠ 41) hfr hfrc (fun j h => by have h : j ≠ 38 ∧ j ≠ 41 := h; omega)
            obtain ⟨S_5, hS_5⟩ : ∃ q : Int → Int, q = zCopy Mi_2 T 29 := ⟨_, rfl⟩
            have hs0 : MArr g M_4 38 29 S_5 := by rw [hS_5]; exact hnew
            refine lv_iload_n hx hb dX12_fitting_95 rfl (lv_at hl 6 rfl) ?_
            refine x_if_ne (tgt := 103) hx hb (by omega) dX12_fitting_96 (by decide) (fun c_96 => ?_) (fun c_96 => ?_)
            · refine lv_iload_n hx hb dX12_fitting_103 rfl (lv_at hl 6 rfl) ?_
              refine x_iconst hx hb dX12_fitting_104 ?_
              refine x_icmp_ne (tgt := 113) hx hb (by omega) (by omega) dX12_fitting_105 (by decide) (fun c_105 => ?_) (fun c_105 => ?_)
              · refine lv_iload hx hb dX12_fitting_113 (lv_at hl 3 rfl) ?_
                refine x_retQ hx hb hr (by omega) ?_ hP hD hS dX12_fitting_115 hlocks
                refine ⟨rfl, hfr, ?_, ?_⟩
                · have e : p9 = 100 := by omega
                  rw [e] at hst
                  have hst : (mn, ls9, gr) = zFitN (mK S) (mF S) (mP S) (S 0) (S 1) h 100 := hst
                  unfold zFit
                  rw [← hst]
                  repeat first | rw [if_pos (by omega)] | rw [if_neg (by omega)]
                  all_goals (first | rfl | omega)
                · exact ⟨_, _, hs0, h41, zKeep_back hok.1 hTr hMi_2 hS_5⟩
              · refine lv_iload hx hb dX12_fitting_108 (lv_at hl 2 rfl) ?_
                refine lv_goto (tgt := 115) hx hb dX12_fitting_110 (by decide) ?_
                refine x_retQ hx hb hr (by omega) ?_ hP hD hS dX12_fitting_115 hlocks
                refine ⟨rfl, hfr, ?_, ?_⟩
                · have e : p9 = 100 := by omega
                  rw [e] at hst
                  have hst : (mn, ls9, gr) = zFitN (mK S) (mF S) (mP S) (S 0) (S 1) h 100 := hst
                  unfold zFit
                  rw [← hst]
                  repeat first | rw [if_pos (by omega)] | rw [if_neg (by omega)]
                  all_goals (first | rfl | omega)
                · exact ⟨_, _, hs0, h41, zKeep_back hok.1 hTr hMi_2 hS_5⟩
            · refine lv_iload_n hx hb dX12_fitting_99 rfl (lv_at hl 1 rfl) ?_
              refine lv_goto (tgt := 115) hx hb dX12_fitting_100 (by decide) ?_
              refine x_retQ hx hb hr (by omega) ?_ hP hD hS dX12_fitting_115 hlocks
              refine ⟨rfl, hfr, ?_, ?_⟩
              · have e : p9 = 100 := by omega
                rw [e] at hst
                have hst : (mn, ls9, gr) = zFitN (mK S) (mF S) (mP S) (S 0) (S 1) h 100 := hst
                unfold zFit
                rw [← hst]
                repeat first | rw [if_pos (by omega)] | rw [if_neg (by omega)]
                all_goals (first | rfl | omega)
              · exact ⟨_, _, hs0, h41, zKeep_back hok.1 hTr hMi_2 hS_5⟩
          · refine lv_aload_n hx hb dX12_fitting_46 rfl (lv_at hl 4 rfl) ?_
            refine lv_iload_n hx hb dX12_fitting_47 rfl (lv_at hl 5 rfl) ?_
            refine x_iconst hx hb dX12_fitting_48 ?_
            refine lv_iload hx hb dX12_fitting_49 (lv_at hl 0 rfl) ?_
            refine x_cqv0 (va_runV (As := [.int (iI (h)), .int (iI (2)), .int (iI (p9))]) (rest := []) ⟨hx, hb, hml, hown, hts⟩ (c_X12_puts l g (M, σ.2) A (ov) T hob hs0 hTr (h) (by omega) (2) (by omega) (p9) (by omega)) (cwV 3 hts gX12_fitting_X12_puts rfl rfl rfl (by decide +kernel) ⟨Nat.le_of_ble_eq_true rfl, Nat.le_of_ble_eq_true rfl⟩) (x_preVQ hK hP hD hS hA (x_recv hK hP (i := 37) (by decide) hob rfl)) rfl rfl hl.1 rfl (lv_room (Nat.le_of_ble_eq_true rfl)) dX12_fitting_51 ⟨by decide, by decide⟩) hS (fun σ1 H locs hpost hP hD hS => ?_)
            obtain ⟨M_6, p1⟩ := σ1
            obtain ⟨hp0, hfrc, hnew⟩ := hpost
            obtain rfl : p1 = σ.2 := hp0
            have hP : xP g (M_6, σ.2) H := hP
            have hD : xD g A (M_6, σ.2) := hD
            have hob : MObj g M_6 ov := (hfrc (37) (by omega)).trans hob
            have h41 := (hfrc (41) (by omega)).trans h41
            have hfr := x_frc (F := fun j => j ≠ 38 ∧ j ≠ 41) hfr hfrc (fun j h => by have h : j ≠ 38 ∧ j ≠ 41 := h; omega)
            obtain ⟨S_7, hS_7⟩ : ∃ q : Int → Int, q = upI T (2 + 3 * (h) + (2)) (p9) := ⟨_, rfl⟩
            have hs0 : MArr g M_6 38 29 S_7 := by rw [hS_7]; exact hnew
            have rS_7 : ∀ k, inR (S_7 k) := by rw [hS_7]; exact upI_rng hTr ⟨by omega, by omega⟩
            have eT : S_7 = upI S (2 + 3 * h + 2) p9 := by (rw [hS_7]; exact hT p9)
            have oT : SmOk S_7 := by (rw [eT]; exact SmOk_purse hok hh0 (by omega))
            have eA : zAll (mK S_7) (mF S_7) (mP S_7) (S_7 0) (S_7 1) = zAll (mK S) (mF S) (upI (mP S) h p9) (S 0) (S 1) := by (rw [eT, mK_up, mF_up, mP_up, upI_n (by omega), upI_n (by omega)])
            refine lv_aload_n hx hb dX12_fitting_54 rfl (lv_at hl 4 rfl) ?_
            refine x_ci (va_runV (As := []) (rest := []) ⟨hx, hb, hml, hown, hts⟩ (c_X12_isLawful l g (M_6, σ.2) (ov) S_7 hob hs0 oT ) (cwV 0 hts gX12_fitting_X12_isLawful rfl rfl rfl (by decide +kernel) ⟨Nat.le_of_ble_eq_true rfl, Nat.le_of_ble_eq_true rfl⟩) (x_preV hK hP (x_recv hK hP (i := 37) (by decide) hob rfl)) rfl rfl hl.1 rfl (lv_room (Nat.le_of_ble_eq_true rfl)) dX12_fitting_55 ⟨Nat.le_of_ble_eq_true rfl, Nat.le_of_ble_eq_true rfl⟩) (fun r_55 hr_55 qr_55 => ?_)
            replace qr_55 : (r_55 = 1 ∧ zAll (mK S_7) (mF S_7) (mP S_7) (S_7 0) (S_7 1) = 0) ∨ (r_55 = 0 ∧ zAll (mK S_7) (mF S_7) (mP S_7) (S_7 0) (S_7 1) ≠ 0) := qr_55
            refine x_if_ne (tgt := 64) hx hb (by omega) dX12_fitting_58 (by decide) (fun c_58 => ?_) (fun c_58 => ?_)
            · refine x_iinc (k0 := 1) (lv' := [(3, .int (iI (mn + 1))), (6, .int (iI (p9))), (4, .int (iI (ls9))), (5, .int (iI (gr))), (0, .ref (g.2.2 37)), (1, .int (iI (h))), (2, .int (iI (wh)))]) hx hb dX12_fitting_64 hl rfl (by decide) rfl (fun ls hl => ?_)
              refine lv_iload hx hb dX12_fitting_67 (lv_at hl 2 rfl) ?_
              refine x_if_ge (tgt := 77) hx hb (by omega) dX12_fitting_69 (by decide) (fun c_69 => ?_) (fun c_69 => ?_)
              · refine lv_iload hx hb dX12_fitting_77 (lv_at hl 2 rfl) ?_
                refine lv_istore (lv' := [(4, .int (iI (ls9))), (3, .int (iI (mn + 1))), (6, .int (iI (p9))), (5, .int (iI (gr))), (0, .ref (g.2.2 37)), (1, .int (iI (h))), (2, .int (iI (wh)))]) hx hb dX12_fitting_79 hl (by decide) rfl (fun ls hl => ?_)
                refine lv_iload hx hb dX12_fitting_81 (lv_at hl 2 rfl) ?_
                refine lv_istore (lv' := [(5, .int (iI (p9))), (4, .int (iI (ls9))), (3, .int (iI (mn + 1))), (6, .int (iI (p9))), (0, .ref (g.2.2 37)), (1, .int (iI (h))), (2, .int (iI (wh)))]) hx hb dX12_fitting_83 hl (by decide) rfl (fun ls hl => ?_)
                refine x_iinc (k0 := 3) (lv' := [(6, .int (iI (p9 + 1))), (5, .int (iI (p9))), (4, .int (iI (ls9))), (3, .int (iI (mn + 1))), (0, .ref (g.2.2 37)), (1, .int (iI (h))), (2, .int (iI (wh)))]) hx hb dX12_fitting_85 hl rfl (by decide) rfl (fun ls hl => ?_)
                refine lv_goto (tgt := 39) hx hb dX12_fitting_88 (by decide) ?_
                exact ih_3 (S_7) (p9 + 1) (mn + 1) (ls9) (p9) (by omega) (by omega) (by omega) (by exact fun v => by rw [eT]; exact upI_up) (by exact oT.1) (by rw [zFitN_succ _ _ _ _ _ _ hp0, ← hst, ← eA]; simp only; first | (rw [if_pos (by omega), if_pos (by omega)]; done) | (rw [if_pos (by omega), if_neg (by omega)]; done) | (rw [if_neg (by omega)]; done)) (by omega) (by omega) (by omega) (M_6) _ _ hob hs0 h41 hfr hP hD hS ls (lv_sub hl [0, 3, 2, 1, 4, 5, 6] rfl)
              · refine lv_iload hx hb dX12_fitting_72 (lv_at hl 1 rfl) ?_
                refine lv_goto (tgt := 79) hx hb dX12_fitting_74 (by decide) ?_
                refine lv_istore (lv' := [(4, .int (iI (p9))), (3, .int (iI (mn + 1))), (6, .int (iI (p9))), (5, .int (iI (gr))), (0, .ref (g.2.2 37)), (1, .int (iI (h))), (2, .int (iI (wh)))]) hx hb dX12_fitting_79 hl (by decide) rfl (fun ls hl => ?_)
                refine lv_iload hx hb dX12_fitting_81 (lv_at hl 2 rfl) ?_
                refine lv_istore (lv' := [(5, .int (iI (p9))), (4, .int (iI (p9))), (3, .int (iI (mn + 1))), (6, .int (iI (p9))), (0, .ref (g.2.2 37)), (1, .int (iI (h))), (2, .int (iI (wh)))]) hx hb dX12_fitting_83 hl (by decide) rfl (fun ls hl => ?_)
                refine x_iinc (k0 := 3) (lv' := [(6, .int (iI (p9 + 1))), (5, .int (iI (p9))), (4, .int (iI (p9))), (3, .int (iI (mn + 1))), (0, .ref (g.2.2 37)), (1, .int (iI (h))), (2, .int (iI (wh)))]) hx hb dX12_fitting_85 hl rfl (by decide) rfl (fun ls hl => ?_)
                refine lv_goto (tgt := 39) hx hb dX12_fitting_88 (by decide) ?_
                exact ih_3 (S_7) (p9 + 1) (mn + 1) (p9) (p9) (by omega) (by omega) (by omega) (by exact fun v => by rw [eT]; exact upI_up) (by exact oT.1) (by rw [zFitN_succ _ _ _ _ _ _ hp0, ← hst, ← eA]; simp only; first | (rw [if_pos (by omega), if_pos (by omega)]; done) | (rw [if_pos (by omega), if_neg (by omega)]; done) | (rw [if_neg (by omega)]; done)) (by omega) (by omega) (by omega) (M_6) _ _ hob hs0 h41 hfr hP hD hS ls (lv_sub hl [0, 3, 2, 1, 4, 5, 6] rfl)
            · refine lv_goto (tgt := 85) hx hb dX12_fitting_61 (by decide) ?_
              refine x_iinc (k0 := 0) (lv' := [(6, .int (iI (p9 + 1))), (3, .int (iI (mn))), (4, .int (iI (ls9))), (5, .int (iI (gr))), (0, .ref (g.2.2 37)), (1, .int (iI (h))), (2, .int (iI (wh)))]) hx hb dX12_fitting_85 hl rfl (by decide) rfl (fun ls hl => ?_)
              refine lv_goto (tgt := 39) hx hb dX12_fitting_88 (by decide) ?_
              exact ih_3 (S_7) (p9 + 1) (mn) (ls9) (gr) (by omega) (by omega) (by omega) (by exact fun v => by rw [eT]; exact upI_up) (by exact oT.1) (by rw [zFitN_succ _ _ _ _ _ _ hp0, ← hst, ← eA]; simp only; first | (rw [if_pos (by omega), if_pos (by omega)]; done) | (rw [if_pos (by omega), if_neg (by omega)]; done) | (rw [if_neg (by omega)]; done)) (by omega) (by omega) (by omega) (M_6) _ _ hob hs0 h41 hfr hP hD hS ls (lv_sub hl [0, 1, 2, 3, 4, 5, 6] rfl)
      exact hloop_39 ((((100 : Int) - (0)).toNat) + 1) (S) (0) (0) (-4) (-4) (by omega) (by omega) (by omega) (by exact fun v => rfl) (by exact hok.1) (by rfl) (by omega) (by omega) (by omega) (M_1) _ _ hob hs0 h41 hfr hP hD hS ls (lv_sub hl [0, 3, 2, 1, 4, 5, 6] rfl)
    · refine x_iconst hx hb dX12_fitting_20 ?_
      refine x_retQ hx hb hr (by omega) ?_ hP hD hS dX12_fitting_21 hlocks
      refine ⟨rfl, hfr, by unfold zFit; rw [if_pos (by omega)], S, Mi, hs0, h41, zKeep_self hok.1⟩
