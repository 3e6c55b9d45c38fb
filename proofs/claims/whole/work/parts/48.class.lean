/-! ===== the same street, on both sides; houses that come ===== -/
def xSame (σ : xS) (n rd : Int) (P : Int → Int) (G : Int → Option Nat) (S : Int → Int) : Prop := n = S 0 ∧ rd = S 1 ∧ zSame (sK σ G) (mK S) (sF σ G) (mF S) P (mP S) n
def xBorn (σ : xS) (a k : Nat) (f : Int) : xS := (σ.1, σ.2.1 ++ [a], va_up σ.2.2.1 a k, va_up σ.2.2.2 a f)
def xGrow (σ τ : xS) : Prop := ∀ a, a ∈ σ.2.1 → a ∈ τ.2.1 ∧ τ.2.2.1 a = σ.2.2.1 a ∧ τ.2.2.2 a = σ.2.2.2 a
theorem xGrow.rf {σ τ : xS} (h : τ.2 = σ.2) : xGrow σ τ := fun a ha => by rw [h]; exact ⟨ha, rfl, rfl⟩
theorem xGrow.tr {σ τ υ : xS} (h : xGrow σ τ) (h2 : xGrow τ υ) : xGrow σ υ := fun a ha => by
  obtain ⟨a1, a2, a3⟩ := h a ha
  obtain ⟨b1, b2, b3⟩ := h2 a a1
  exact ⟨b1, b2.trans a2, b3.trans a3⟩
theorem xGrow.born {σ τ : xS} {a k : Nat} {f : Int} (h : a ∉ σ.2.1) (ht : τ.2 = (xBorn σ a k f).2) : xGrow σ τ := fun b hb => by
  have hn : b ≠ a := fun e => h (e ▸ hb)
  rw [ht]
  exact ⟨List.mem_append_left _ hb, va_up_ne _ _ hn, va_up_ne _ _ hn⟩
theorem HsOk.born {σ τ : xS} {a k : Nat} {f : Int} (hH : HsOk σ) (ht : τ.2 = (xBorn σ a k f).2) (hk : k < 8) (hf : 0 ≤ f ∧ f ≤ 9) : HsOk τ := fun b hb => by
  rw [ht] at hb ⊢
  by_cases e : b = a
  · subst e
    show va_up σ.2.2.1 b k b < 8 ∧ 0 ≤ va_up σ.2.2.2 b f b ∧ va_up σ.2.2.2 b f b ≤ 9
    rw [va_up_self, va_up_self]
    exact ⟨hk, hf⟩
  · show va_up σ.2.2.1 a k b < 8 ∧ 0 ≤ va_up σ.2.2.2 a f b ∧ va_up σ.2.2.2 a f b ≤ 9
    rw [va_up_ne _ _ e, va_up_ne _ _ e]
    rcases List.mem_append.mp hb with h | h
    · exact hH b h
    · exact absurd (List.mem_singleton.mp h) e
theorem StOk.grow {σ τ : xS} {n rd : Int} {P : Int → Int} {G : Int → Option Nat} (h : StOk σ n rd P G) (hg : xGrow σ τ) : StOk τ n rd P G := by
  obtain ⟨a1, a2, a3, a4, a5, a6⟩ := h
  exact ⟨a1, a2, a3, a4, fun i b hb => (hg b (a5 i b hb)).1, a6⟩
theorem xStr.grow {g : xG} {M : xM} {σ τ : xS} {b : Nat} (h : xStr g M σ b) (hg : xGrow σ τ) : xStr g M τ b := by
  obtain ⟨n, rd, P, G, h1, h2⟩ := h
  exact ⟨n, rd, P, G, h1, h2.grow hg⟩
theorem sK_grow {σ τ : xS} {G : Int → Option Nat} (hg : xGrow σ τ) {i : Int} (h : ∀ a, G i = some a → a ∈ σ.2.1) : sK τ G i = sK σ G i ∧ sF τ G i = sF σ G i := by
  unfold sK sF kdO fgO
  cases e : G i with
  | none => exact ⟨rfl, rfl⟩
  | some a => exact ⟨(hg a (h a e)).2.1, (hg a (h a e)).2.2⟩
theorem xSame.grow {σ τ : xS} {n rd : Int} {P S : Int → Int} {G : Int → Option Nat} (h : xSame σ n rd P G S) (ho : StOk σ n rd P G) (hg : xGrow σ τ) : xSame τ n rd P G S := by
  obtain ⟨h1, h2, h3⟩ := h
  refine ⟨h1, h2, fun i a b => ?_⟩
  have z := sK_grow hg (i := i) (fun q => ho.2.2.2.2.1 i q)
  rw [z.1, z.2]; exact h3 i a b
theorem xSame_join {σ τ : xS} {n rd f v : Int} {P S : Int → Int} {G : Int → Option Nat} {a : Nat} {k : Int} (h : xSame σ n rd P G S) (ho : StOk σ n rd P G) (ha : a ∉ σ.2.1) (ht : τ.2 = (xBorn σ a k.toNat f).2) : xSame τ (n + 1) rd (upI P n v) (upI G n (some a)) (zJoin S k f v) := by
  obtain ⟨h1, h2, h3⟩ := h
  have hn := ho.1
  have hg := xGrow.born ha ht
  refine ⟨by unfold zJoin; rw [upI_s]; omega, by unfold zJoin; rw [upI_n (by omega), upI_n (by omega), upI_n (by omega), upI_n (by omega)]; exact h2, fun i i0 i1 => ?_⟩
  by_cases e : i = n
  · subst e
    have e1 : sK τ (upI G i (some a)) i = k.toNat := by
      unfold sK kdO; rw [upI_s, ht]; exact va_up_self _ _ _
    have e2 : sF τ (upI G i (some a)) i = f := by
      unfold sF fgO; rw [upI_s, ht]; exact va_up_self _ _ _
    have e3 : mK (zJoin S k f v) i = k.toNat := by
      unfold mK zJoin; rw [h1, upI_n (by omega), upI_n (by omega), upI_n (by omega), upI_s]
    have e4 : mF (zJoin S k f v) i = f := by
      unfold mF zJoin; rw [h1, upI_n (by omega), upI_n (by omega), upI_s]
    have e5 : mP (zJoin S k f v) i = v := by
      unfold mP zJoin; rw [h1, upI_n (by omega), upI_s]
    rw [e1, e2, e3, e4, e5, upI_s]
    exact ⟨rfl, rfl, rfl⟩
  · have z := h3 i i0 (by omega)
    have zg := sK_grow hg (G := G) (i := i) (fun q => ho.2.2.2.2.1 i q)
    have e1 : sK τ (upI G n (some a)) i = sK τ G i := by unfold sK; rw [upI_n e]
    have e2 : sF τ (upI G n (some a)) i = sF τ G i := by unfold sF; rw [upI_n e]
    have e3 : mK (zJoin S k f v) i = mK S i := by
      unfold mK zJoin; rw [upI_n (by omega), upI_n (by omega), upI_n (by omega), upI_n (by omega)]
    have e4 : mF (zJoin S k f v) i = mF S i := by
      unfold mF zJoin; rw [upI_n (by omega), upI_n (by omega), upI_n (by omega), upI_n (by omega)]
    have e5 : mP (zJoin S k f v) i = mP S i := by
      unfold mP zJoin; rw [upI_n (by omega), upI_n (by omega), upI_n (by omega), upI_n (by omega)]
    rw [e1, e2, e3, e4, e5, zg.1, zg.2, upI_n e]
    exact z
theorem xSame_rd {σ : xS} {n rd v : Int} {P S : Int → Int} {G : Int → Option Nat} (h : xSame σ n rd P G S) : xSame σ n v P G (upI S 1 v) := by
  obtain ⟨h1, h2, h3⟩ := h
  refine ⟨by rw [upI_n (by omega)]; exact h1, by rw [upI_s], fun i a b => ?_⟩
  have z := h3 i a b
  unfold mK mF mP at z ⊢
  rw [upI_n (by omega), upI_n (by omega), upI_n (by omega)]
  exact z
theorem xSame_pop {σ : xS} {n rd : Int} {P S : Int → Int} {G : Int → Option Nat} (h : xSame σ n rd P G S) : xSame σ (n - 1) rd P G (upI S 0 (S 0 - 1)) := by
  obtain ⟨h1, h2, h3⟩ := h
  refine ⟨by rw [upI_s]; omega, by rw [upI_n (by omega)]; exact h2, fun i a b => ?_⟩
  have z := h3 i a (by omega)
  unfold mK mF mP at z ⊢
  rw [upI_n (by omega), upI_n (by omega), upI_n (by omega)]
  exact z
theorem xSame_gift {σ : xS} {n rd a b c : Int} {P S : Int → Int} {G : Int → Option Nat} (h : xSame σ n rd P G S) (h0 : zGiftR P n a b c = 0) : zGiftR (mP S) (S 0) a b c = 0 ∧ xSame σ n rd (zGift P a b c) G (zGives S a b c) := by
  obtain ⟨h1, h2, h3⟩ := h
  have z := zGiftR_0 rfl h0
  have e : ∀ i, 0 ≤ i → i < n → P i = mP S i := fun i x y => (h3 i x y).2.2
  refine ⟨by rw [← h1, ← zGiftR_congr e]; exact h0, by rw [zGives_lo (by omega) (by omega) (by omega)]; exact h1, by rw [zGives_lo (by omega) (by omega) (by omega)]; exact h2, fun i x y => ?_⟩
  rw [mK_gives, mF_gives, mP_gives]
  exact ⟨(h3 i x y).1, (h3 i x y).2.1, zGift_congr e (by omega) (by omega) x y⟩
theorem xSame_giftN {σ : xS} {n rd a b c : Int} {P S : Int → Int} {G : Int → Option Nat} (h : xSame σ n rd P G S) : zGiftR (mP S) (S 0) a b c = zGiftR P n a b c := by
  obtain ⟨h1, h2, h3⟩ := h
  rw [← h1]; exact (zGiftR_congr (fun i x y => (h3 i x y).2.2)).symm
theorem xSame_swap {σ : xS} {n rd a b : Int} {P S : Int → Int} {G : Int → Option Nat} (h : xSame σ n rd P G S) (ha : 0 ≤ a ∧ a < n) (hb : 0 ≤ b ∧ b < n) (hab : a ≠ b) : xSame σ n rd (zSwap P a b) (zSwap G a b) (zSwapS S a b) := by
  obtain ⟨h1, h2, h3⟩ := h
  refine ⟨by rw [zSwapS_hd ha.1 hb.1 (by omega)]; exact h1, by rw [zSwapS_hd ha.1 hb.1 (by omega)]; exact h2, fun i x y => ?_⟩
  have z := mPs (S := S) hab ha.1 hb.1 (n := n) i x y
  have q := zSw_rng ha hb ⟨x, y⟩
  have zi := h3 _ q.1 q.2
  rw [z.1, z.2.1, z.2.2]
  unfold sK sF at zi ⊢
  rw [zSwap_at hab, zSwap_at hab]
  exact zi
theorem zTl_h {C S : Int → Int} {p : Int} (h : C p = 104) : zTl C S p = if C (p + 1) - 48 < 8 ∧ S 0 ≠ 8 then (1, zJoin S (C (p + 1) - 48) (C (p + 2) - 48) (zVl C (p + 3) (zCnt C (p + 3) 4).toNat)) else (0, S) := by
  unfold zTl zTold; rw [h, if_pos rfl]
theorem zTl_r {C S : Int → Int} {p : Int} (h : C p = 114) : zTl C S p = if C (p + 1) - 48 ≤ 1 then (1, upI S 1 (C (p + 1) - 48)) else (0, S) := by
  unfold zTl zTold; rw [h, if_neg (by decide), if_pos rfl]
theorem zTl_g {C S : Int → Int} {p : Int} (h : C p = 103) : zTl C S p = if zGiftR (mP S) (S 0) (C (p + 1) - 48) (C (p + 2) - 48) (zVl C (p + 3) (zCnt C (p + 3) 4).toNat) = 0 then (1, zGives S (C (p + 1) - 48) (C (p + 2) - 48) (zVl C (p + 3) (zCnt C (p + 3) 4).toNat)) else (0, S) := by
  unfold zTl zTold; rw [h, if_neg (by decide), if_neg (by decide), if_pos rfl]
theorem zTl_m {C S : Int → Int} {p : Int} (h : C p = 109) : zTl C S p = if 0 ≤ C (p + 1) - 48 ∧ C (p + 1) - 48 < S 0 ∧ 0 ≤ C (p + 2) - 48 ∧ C (p + 2) - 48 < S 0 ∧ C (p + 1) - 48 ≠ C (p + 2) - 48 then (1, zSwapS S (C (p + 1) - 48) (C (p + 2) - 48)) else (0, S) := by
  unfold zTl zTold; rw [h, if_neg (by decide), if_neg (by decide), if_neg (by decide), if_pos rfl]
theorem zTl_u {C S : Int → Int} {p : Int} (h : C p = 117) : zTl C S p = if S 0 ≠ 0 then (1, upI S 0 (S 0 - 1)) else (0, S) := by
  unfold zTl zTold; rw [h, if_neg (by decide), if_neg (by decide), if_neg (by decide), if_neg (by decide)]
theorem zDig {C : Int → Int} {p : Int} {k : Nat} {m : Int} (h : m + 1 ≤ zCnt C p k) (hm : 0 ≤ m) : 48 ≤ C p ∧ C p ≤ 57 ∧ ∃ j : Nat, m ≤ zCnt C (p + 1) j := by
  cases k with
  | zero => exact absurd h (by show ¬ m + 1 ≤ (0 : Int); omega)
  | succ k =>
    by_cases q : 48 ≤ C p ∧ C p ≤ 57
    · rw [zCnt_y _ q] at h
      exact ⟨q.1, q.2, k, by omega⟩
    · rw [zCnt_n _ q] at h; omega
theorem zStOk_d {C : Int → Int} {p : Int} (h : zStOk C p) : (C p ≠ 117 → 48 ≤ C (p + 1) ∧ C (p + 1) ≤ 57) ∧ (C p ≠ 117 → C p ≠ 114 → 48 ≤ C (p + 2) ∧ C (p + 2) ≤ 57) := by
  obtain ⟨h1, h2, -⟩ := h
  refine ⟨fun a => ?_, fun a b => ?_⟩
  · have hf : 0 + 1 ≤ zFs (C p) := by unfold zFs; rcases h1 with q | q | q | q | q <;> simp [q] <;> omega
    have z := zDig (m := 0) (Int.le_trans hf h2) (by omega)
    exact ⟨z.1, z.2.1⟩
  · have hf : 1 + 1 ≤ zFs (C p) := by unfold zFs; rcases h1 with q | q | q | q | q <;> simp [q] <;> omega
    obtain ⟨-, -, j, hj⟩ := zDig (m := 1) (Int.le_trans hf h2) (by omega)
    have z := zDig (C := C) (m := 0) (p := p + 1 + 1) (k := j) (by omega) (by omega)
    rw [show p + 2 = p + 1 + 1 by omega]
    exact ⟨z.1, z.2.1⟩
def zDn (g : xG) (σ σ1 : xS) (C S : Int → Int) (p r : Int) : Prop := (∀ j, j ≠ 7 ∧ j ≠ 8 ∧ j ≠ 9 → σ1.1 j = σ.1 j) ∧ xGrow σ σ1 ∧ HsOk σ1 ∧ ((r = 1 ∧ (zTl C S p).1 = 1 ∧ ∃ n rd P G, StAt g σ1.1 7 n rd P G ∧ StOk σ1 n rd P G ∧ n ≤ 8 ∧ xSame σ1 n rd P G (zTl C S p).2) ∨ (r = 0 ∧ (zTl C S p).1 = 0 ∧ xStr g σ1.1 σ1 7))
def zComesT (g : xG) (σ σ1 : xS) (n rd : Int) (P : Int → Int) (G : Int → Option Nat) (k f v r : Int) : Prop := (r = 0 ∧ ¬ (k < 8 ∧ n < 8) ∧ σ1 = σ) ∨ (r = 1 ∧ (k < 8 ∧ n < 8) ∧ ∃ a, a ∉ σ.2.1 ∧ σ1.2 = (xBorn σ a k.toNat f).2 ∧ (∀ j, j ≠ 7 ∧ j ≠ 8 ∧ j ≠ 9 → σ1.1 j = σ.1 j) ∧ StAt g σ1.1 7 (n + 1) rd (upI P n v) (upI G n (some a)))
theorem zDn_h {g : xG} {σ τ : xS} {C S : Int → Int} {p a b v r n rd : Int} {P : Int → Int} {G : Int → Option Nat} (hc : C p = 104) (ea : a = C (p + 1) - 48) (eb : b = C (p + 2) - 48) (ev : v = zVl C (p + 3) (zCnt C (p + 3) 4).toNat) (ha : 0 ≤ a) (hb : 0 ≤ b ∧ b ≤ 9) (hv : 0 ≤ v ∧ v ≤ 9999) (h8 : n ≤ 8) (hst : StAt g σ.1 7 n rd P G) (hok : StOk σ n rd P G) (hH : HsOk σ) (hs : xSame σ n rd P G S) (hp : zComesT g σ τ n rd P G a b v r) : zDn g σ τ C S p r := by
  have z := zTl_h (S := S) hc
  rw [← ea, ← eb, ← ev, ← hs.1] at z
  rcases hp with ⟨e, h1, rfl⟩ | ⟨e, h1, w, hw, h2, h3, h4⟩
  · rw [if_neg (by omega)] at z
    exact ⟨fun _ _ => rfl, xGrow.rf rfl, hH, Or.inr ⟨e, by rw [z], n, rd, P, G, hst, hok⟩⟩
  · rw [if_pos (by omega)] at z
    have hg := xGrow.born hw h2
    refine ⟨h3, hg, hH.born h2 (by omega) hb, Or.inl ⟨e, by rw [z], n + 1, rd, _, _, h4, ?_, by omega, by rw [z]; exact xSame_join hs hok hw h2⟩⟩
    have o := StOk_insert (k := n) (pu := v) (a := w) (hok.grow hg) h8 ⟨hok.1, Int.le_refl _⟩ (by rw [h2]; exact List.mem_append_right _ (List.mem_singleton.mpr rfl)) hv
    rw [zUp_0, zUp_0] at o
    exact o
theorem zDn_r {g : xG} {σ τ : xS} {C S : Int → Int} {p a r n rd : Int} {P : Int → Int} {G : Int → Option Nat} (hc : C p = 114) (ea : a = C (p + 1) - 48) (ha : 0 ≤ a) (h8 : n ≤ 8) (hst : StAt g σ.1 7 n rd P G) (hok : StOk σ n rd P G) (hH : HsOk σ) (hs : xSame σ n rd P G S) (ht : τ.2 = σ.2) (hf : ∀ j, j ≠ 7 ∧ j ≠ 8 ∧ j ≠ 9 → τ.1 j = σ.1 j) (hp : (r = 1 ∧ a ≤ 1 ∧ StAt g τ.1 7 n a P G) ∨ (r = 0 ∧ 1 < a ∧ τ.1 = σ.1)) : zDn g σ τ C S p r := by
  have z := zTl_r (S := S) hc
  rw [← ea] at z
  have hg : xGrow σ τ := xGrow.rf ht
  have hH2 : HsOk τ := fun q hq => by rw [ht] at hq ⊢; exact hH q hq
  have ho := hok.grow hg
  rcases hp with ⟨e, h1, h2⟩ | ⟨e, h1, h2⟩
  · rw [if_pos h1] at z
    exact ⟨hf, hg, hH2, Or.inl ⟨e, by rw [z], n, a, P, G, h2, ⟨ho.1, ho.2.1, by omega, ho.2.2.2⟩, h8, by rw [z]; exact xSame_rd (hs.grow hok hg)⟩⟩
  · rw [if_neg (by omega)] at z
    exact ⟨hf, hg, hH2, Or.inr ⟨e, by rw [z], n, rd, P, G, by rw [h2]; exact hst, ho⟩⟩
theorem zDn_g {g : xG} {σ τ : xS} {C S : Int → Int} {p a b v q r n rd : Int} {P : Int → Int} {G : Int → Option Nat} (hc : C p = 103) (ea : a = C (p + 1) - 48) (eb : b = C (p + 2) - 48) (ev : v = zVl C (p + 3) (zCnt C (p + 3) 4).toNat) (h8 : n ≤ 8) (hok : StOk σ n rd P G) (hH : HsOk σ) (hs : xSame σ n rd P G S) (ht : τ.2 = σ.2) (hf : ∀ j, j ≠ 7 ∧ j ≠ 8 ∧ j ≠ 9 → τ.1 j = σ.1 j) (eq : q = zGiftR P n a b v) (hp : StAt g τ.1 7 n rd (if zGiftR P n a b v = 0 then zGift P a b v else P) G) (hr : (q = 0 ∧ r = 1) ∨ (q ≠ 0 ∧ r = 0)) : zDn g σ τ C S p r := by
  have z := zTl_g (S := S) hc
  rw [← ea, ← eb, ← ev, xSame_giftN hs] at z
  have hg : xGrow σ τ := xGrow.rf ht
  have hH2 : HsOk τ := fun q hq => by rw [ht] at hq ⊢; exact hH q hq
  have ho := StOk_gift (i := a) (j := b) (c := v) (hok.grow hg)
  rcases hr with ⟨e0, e⟩ | ⟨e0, e⟩
  · have h0 : zGiftR P n a b v = 0 := by omega
    rw [if_pos h0] at z hp ho
    exact ⟨hf, hg, hH2, Or.inl ⟨e, by rw [z], n, rd, _, G, hp, ho, h8, by rw [z]; exact (xSame_gift (hs.grow hok hg) h0).2⟩⟩
  · have h0 : ¬ zGiftR P n a b v = 0 := by omega
    rw [if_neg h0] at z hp ho
    exact ⟨hf, hg, hH2, Or.inr ⟨e, by rw [z], n, rd, _, G, hp, ho⟩⟩
theorem zDn_m {g : xG} {σ τ : xS} {C S : Int → Int} {p a b r n rd : Int} {P : Int → Int} {G : Int → Option Nat} (hc : C p = 109) (ea : a = C (p + 1) - 48) (eb : b = C (p + 2) - 48) (h8 : n ≤ 8) (hst : StAt g σ.1 7 n rd P G) (hok : StOk σ n rd P G) (hH : HsOk σ) (hs : xSame σ n rd P G S) (ht : τ.2 = σ.2) (hf : ∀ j, j ≠ 7 ∧ j ≠ 8 ∧ j ≠ 9 → τ.1 j = σ.1 j) (hp : (r = 1 ∧ (0 ≤ a ∧ a < n ∧ 0 ≤ b ∧ b < n ∧ a ≠ b) ∧ StAt g τ.1 7 n rd (zSwap P a b) (zSwap G a b)) ∨ (r = 0 ∧ ¬ (0 ≤ a ∧ a < n ∧ 0 ≤ b ∧ b < n ∧ a ≠ b) ∧ τ.1 = σ.1)) : zDn g σ τ C S p r := by
  have z := zTl_m (S := S) hc
  rw [← ea, ← eb, ← hs.1] at z
  have hg : xGrow σ τ := xGrow.rf ht
  have hH2 : HsOk τ := fun q hq => by rw [ht] at hq ⊢; exact hH q hq
  have ho := hok.grow hg
  rcases hp with ⟨e, h1, h2⟩ | ⟨e, h1, h2⟩
  · rw [if_pos h1] at z
    exact ⟨hf, hg, hH2, Or.inl ⟨e, by rw [z], n, rd, _, _, h2, StOk_swap ho ⟨h1.1, h1.2.1⟩ ⟨h1.2.2.1, h1.2.2.2.1⟩ h1.2.2.2.2, h8, by rw [z]; exact xSame_swap (hs.grow hok hg) ⟨h1.1, h1.2.1⟩ ⟨h1.2.2.1, h1.2.2.2.1⟩ h1.2.2.2.2⟩⟩
  · rw [if_neg h1] at z
    exact ⟨hf, hg, hH2, Or.inr ⟨e, by rw [z], n, rd, P, G, by rw [h2]; exact hst, ho⟩⟩
theorem zDn_u {g : xG} {σ τ : xS} {C S : Int → Int} {p r n rd : Int} {P : Int → Int} {G : Int → Option Nat} (hc : C p = 117) (h8 : n ≤ 8) (hst : StAt g σ.1 7 n rd P G) (hok : StOk σ n rd P G) (hH : HsOk σ) (hs : xSame σ n rd P G S) (ht : τ.2 = σ.2) (hf : ∀ j, j ≠ 7 ∧ j ≠ 8 ∧ j ≠ 9 → τ.1 j = σ.1 j) (hp : (r = 1 ∧ n ≠ 0 ∧ StAt g τ.1 7 (n - 1) rd P G) ∨ (r = 0 ∧ n = 0 ∧ τ.1 = σ.1)) : zDn g σ τ C S p r := by
  have z := zTl_u (S := S) hc
  rw [← hs.1] at z
  have hg : xGrow σ τ := xGrow.rf ht
  have hH2 : HsOk τ := fun q hq => by rw [ht] at hq ⊢; exact hH q hq
  have ho := hok.grow hg
  have h0 := hok.1
  rcases hp with ⟨e, h1, h2⟩ | ⟨e, h1, h2⟩
  · rw [if_pos h1] at z
    refine ⟨hf, hg, hH2, Or.inl ⟨e, by rw [z], n - 1, rd, P, G, h2, ⟨by omega, by omega, ho.2.2.1, ho.2.2.2.1, ho.2.2.2.2.1, fun i a b => ho.2.2.2.2.2 i a (by omega)⟩, by omega, ?_⟩⟩
    have y := xSame_pop (hs.grow hok hg)
    rw [z]
    rw [← hs.1] at y
    exact y
  · rw [if_neg (by omega)] at z
    exact ⟨hf, hg, hH2, Or.inr ⟨e, by rw [z], n, rd, P, G, by rw [h2]; exact hst, ho⟩⟩

/-- the links to the private methods of the class around it -/
def xNst (U : State) : Prop := va_Nw (.methodLinkNest RX8 83 yX11_isHouse "TwiceAsRich") U ∧ va_Nw (.methodLinkNest RX8 90 yX11_houseOfKind "TwiceAsRich") U
theorem xNst.moved {u U : State} (hW : u.WarmedH U.vm) (h : xNst u) : xNst U := ⟨h.1.warmM hW, h.2.warmM hW⟩
theorem xNst.same {u U : State} (hvm : u.vm = U.vm) (h : xNst u) : xNst U := ⟨va_Nw.same rfl hvm h.1, va_Nw.same rfl hvm h.2⟩
def xnQ (g : xG) (A : Nat → Prop) (σ : xS) (U : State) : Prop := xPreQ g A σ U ∧ xNst U
theorem xn_blind {g : xG} {A : Nat → Prop} {σ : xS} {av : List Value} : FrameBlind (va_Pc av (xnQ g A σ)) := fun a U gg mk q => by
  obtain ⟨q0, ⟨qP, qK, qD, qA⟩, qN⟩ := q
  exact ⟨q0, ⟨qP, xK.same (u := U) (U := U.calling gg mk a) rfl qK, qD, qA⟩, xNst.same (u := U) (U := U.calling gg mk a) rfl qN⟩
theorem xn_preV {g : xG} {A : Nat → Prop} {σ : xS} {s : State} {H H0 : Heap} {locs : List Loc} {a : Nat} {C : String} {As : List Value} (hK : xK g s) (hP : xP g σ H) (hD : xD g A σ) (hS : va_S A H0 H locs) (hA : ∀ q : Nat, H0.size ≤ q → A q) (hN : xNst s) (hr : ∃ cell : Cell, H[a]? = some cell ∧ cell.vm.isStatics = false ∧ s.vm.findClass C = some cell.cls) : PreV s H C a (va_Pc (.ref a :: As) (xnQ g A σ)) As :=
  ⟨xn_blind, hr, fun U hU hW => ⟨rfl, ⟨by rw [hU]; exact hP, xK.moved hW hK, hD, fun q h => hA q (Nat.le_trans hS.1 (by rw [← hU]; exact h))⟩, hN.moved hW⟩⟩
theorem xn_preS {g : xG} {A : Nat → Prop} {σ : xS} {s : State} {H H0 : Heap} {locs : List Loc} {As : List Value} (hK : xK g s) (hP : xP g σ H) (hD : xD g A σ) (hS : va_S A H0 H locs) (hA : ∀ q : Nat, H0.size ≤ q → A q) (hN : xNst s) : PreS s H (va_Pc As (xnQ g A σ)) As :=
  ⟨xn_blind, fun U hU hW => ⟨rfl, ⟨by rw [hU]; exact hP, xK.moved hW hK, hD, fun q h => hA q (Nat.le_trans hS.1 (by rw [← hU]; exact h))⟩, hN.moved hW⟩⟩

set_option maxHeartbeats 4000000 in
set_option maxRecDepth 100000 in
theorem c_X8_turnsAsTold (l : Launch) (g : xG) (σ : xS) (A : Nat → Prop) (n rd : Int) (P : Int → Int) (G : Int → Option Nat) (hst : StAt g σ.1 7 n rd P G) (hok : StOk σ n rd P G) (hH : HsOk σ) (v : Int) (hv : 0 ≤ v ∧ inR v) : Met l yX8_turnsAsTold wsX8_turnsAsTold ({ frames := 1, cells := 0, slots := 0, locals := 32 }) (va_Pc [.ref (g.2.2 7), .int (iI (v))] (xPreQ g A σ)) (x_Qi g A (fun r σ1 => σ1.2 = σ.2 ∧ (∀ j, j ≠ 7 ∧ j ≠ 8 ∧ j ≠ 9 → σ1.1 j = σ.1 j) ∧ ((r = 1 ∧ v ≤ 1 ∧ StAt g σ1.1 7 (n) (v) (P) (G)) ∨ (r = 0 ∧ 1 < v ∧ σ1.1 = σ.1)))) (0) (0) A := by
  refine Met.ofW (cc := cX8_turnsAsTold) (maxL := 2) (ret := (some .boolean)) (by decide) rfl ?_
  intro p e s m args below meth c s₁ B hml hv
  obtain ⟨rfl, hP, hK, hD, hA⟩ := hv
  have hx := B.exec
  have hb := B.bytes
  have hr := B.returns
  have hts := atoms_spec (ws := wsX8_turnsAsTold) B.pre
  have hown : s.vm.findClass RX8 = some m.cls := findClass_of_methodNamed B.named
  have hlocks := B.notSynchronized
  have hS : va_S A s.heap s.heap [] := va_S.rf
  have hfr : ∀ j, (j ≠ 7 ∧ j ≠ 8 ∧ j ≠ 9) → σ.1 j = σ.1 j := fun _ _ => rfl
  have hl := lv_entry ([.ref (g.2.2 7), .int (iI (v))]) (n := 2) (Nat.le_of_ble_eq_true rfl)
  rw [lg_entry_eq]
  generalize (lg_sl ([.ref (g.2.2 7), .int (iI (v))]) ++ List.replicate (2 - (lg_sl ([.ref (g.2.2 7), .int (iI (v))])).length) Slot.unset).toArray = ls at hl ⊢
  have hl : lv_has ls 2 [(0, .ref (g.2.2 7)), (1, .int (iI (v)))] := hl
  have hm0 : σ.1 7 = .inr (7, [.ref (g.2.2 8), .ref (g.2.2 9), .int (iI n), .int (iI rd)]) := hst.1
  have hm1 : MRef g σ.1 8 9 G := hst.2.1
  have hm2 : MArr g σ.1 9 9 P := hst.2.2
  have hok1 := hok.1
  have hok2 := hok.2.1
  have hok3 := hok.2.2.1
  have hw_0 := hts (.fieldLink RX8 98 "TwiceAsRich$Street" "round" "I") (by decide +kernel)
  have hin_X7 : ∀ w ∈ wsX70, w ∈ wsX8_turnsAsTold := by decide +kernel
  refine lv_iload_n hx hb dX8_turnsAsTold_0 rfl (lv_at hl 1 rfl) ?_
  refine x_if_eq (tgt := 11) hx hb (by omega) dX8_turnsAsTold_1 (by decide) (fun c_1 => ?_) (fun c_1 => ?_)
  · refine lv_aload_n hx hb dX8_turnsAsTold_11 rfl (lv_at hl 0 rfl) ?_
    refine lv_iload_n hx hb dX8_turnsAsTold_12 rfl (lv_at hl 1 rfl) ?_
    refine x_put (C := RX7) (T := TX7) (N := 4) (ty := .int) hx hb hts hin_X7 hown hK hP hD hS (7) (by decide) hm0 rfl tyX7 tyX7_ok nmX7 3 (by decide) hw_0 (fun _ h9 => h9) rfl (by decide +kernel) rfl rfl (Nat.le_of_ble_eq_true rfl) dX8_turnsAsTold_13 (fun M_1 H locs hnew hne hP hD hS => ?_)
    have hP : xP g (M_1, σ.2) H := hP
    have hD : xD g A (M_1, σ.2) := hD
    have hm0 : M_1 (7) = .inr (7, [.ref (g.2.2 8), .ref (g.2.2 9), .int (iI (n)), .int (iI (v))]) := hnew
    have hm1 := (hne (8) (by decide)).trans hm1
    have hm2 := (hne (9) (by decide)).trans hm2
    have hfr := x_fr (F := fun j => j ≠ 7 ∧ j ≠ 8 ∧ j ≠ 9) hfr hne (fun j h => by have h : j ≠ 7 ∧ j ≠ 8 ∧ j ≠ 9 := h; omega)
    refine x_iconst hx hb dX8_turnsAsTold_16 ?_
    refine x_retQz hx hb hr (by omega) ?_ hP hD hS dX8_turnsAsTold_17 hlocks
    first | exact ⟨rfl, hfr, Or.inl ⟨rfl, by omega, hm0, hm1, hm2⟩⟩ | exact ⟨rfl, hfr, Or.inr ⟨rfl, by omega, rfl⟩⟩
  · refine lv_iload_n hx hb dX8_turnsAsTold_4 rfl (lv_at hl 1 rfl) ?_
    refine x_iconst hx hb dX8_turnsAsTold_5 ?_
    refine x_icmp_eq (tgt := 11) hx hb (by omega) (by omega) dX8_turnsAsTold_6 (by decide) (fun c_6 => ?_) (fun c_6 => ?_)
    · refine lv_aload_n hx hb dX8_turnsAsTold_11 rfl (lv_at hl 0 rfl) ?_
      refine lv_iload_n hx hb dX8_turnsAsTold_12 rfl (lv_at hl 1 rfl) ?_
      refine x_put (C := RX7) (T := TX7) (N := 4) (ty := .int) hx hb hts hin_X7 hown hK hP hD hS (7) (by decide) hm0 rfl tyX7 tyX7_ok nmX7 3 (by decide) hw_0 (fun _ h9 => h9) rfl (by decide +kernel) rfl rfl (Nat.le_of_ble_eq_true rfl) dX8_turnsAsTold_13 (fun M_2 H locs hnew hne hP hD hS => ?_)
      have hP : xP g (M_2, σ.2) H := hP
      have hD : xD g A (M_2, σ.2) := hD
      have hm0 : M_2 (7) = .inr (7, [.ref (g.2.2 8), .ref (g.2.2 9), .int (iI (n)), .int (iI (v))]) := hnew
      have hm1 := (hne (8) (by decide)).trans hm1
      have hm2 := (hne (9) (by decide)).trans hm2
      have hfr := x_fr (F := fun j => j ≠ 7 ∧ j ≠ 8 ∧ j ≠ 9) hfr hne (fun j h => by have h : j ≠ 7 ∧ j ≠ 8 ∧ j ≠ 9 := h; omega)
      refine x_iconst hx hb dX8_turnsAsTold_16 ?_
      refine x_retQz hx hb hr (by omega) ?_ hP hD hS dX8_turnsAsTold_17 hlocks
      first | exact ⟨rfl, hfr, Or.inl ⟨rfl, by omega, hm0, hm1, hm2⟩⟩ | exact ⟨rfl, hfr, Or.inr ⟨rfl, by omega, rfl⟩⟩
    · refine x_iconst hx hb dX8_turnsAsTold_9 ?_
      refine x_retQz hx hb hr (by omega) ?_ hP hD hS dX8_turnsAsTold_10 hlocks
      first | exact ⟨rfl, hfr, Or.inl ⟨rfl, by omega, hm0, hm1, hm2⟩⟩ | exact ⟨rfl, hfr, Or.inr ⟨rfl, by omega, rfl⟩⟩

set_option maxHeartbeats 4000000 in
set_option maxRecDepth 100000 in
theorem c_X8_movesAsTold (l : Launch) (g : xG) (σ : xS) (A : Nat → Prop) (n rd : Int) (P : Int → Int) (G : Int → Option Nat) (hst : StAt g σ.1 7 n rd P G) (hok : StOk σ n rd P G) (hH : HsOk σ) (a : Int) (ha : inR a) (b : Int) (hb9 : inR b) : Met l yX8_movesAsTold wsX8_movesAsTold ({ frames := 3, cells := 0, slots := 0, locals := 96 }) (va_Pc [.ref (g.2.2 7), .int (iI (a)), .int (iI (b))] (xPreQ g A σ)) (x_Qi g A (fun r σ1 => σ1.2 = σ.2 ∧ (∀ j, j ≠ 7 ∧ j ≠ 8 ∧ j ≠ 9 → σ1.1 j = σ.1 j) ∧ ((r = 1 ∧ (0 ≤ a ∧ a < n ∧ 0 ≤ b ∧ b < n ∧ a ≠ b) ∧ StAt g σ1.1 7 (n) (rd) (zSwap P a b) (zSwap G a b)) ∨ (r = 0 ∧ ¬ (0 ≤ a ∧ a < n ∧ 0 ≤ b ∧ b < n ∧ a ≠ b) ∧ σ1.1 = σ.1)))) (0) (0) A := by
  refine Met.ofW (cc := cX8_movesAsTold) (maxL := 3) (ret := (some .boolean)) (by decide) rfl ?_
  intro p e s m args below meth c s₁ B hml hv
  obtain ⟨rfl, hP, hK, hD, hA⟩ := hv
  have hx := B.exec
  have hb := B.bytes
  have hr := B.returns
  have hts := atoms_spec (ws := wsX8_movesAsTold) B.pre
  have hown : s.vm.findClass RX8 = some m.cls := findClass_of_methodNamed B.named
  have hlocks := B.notSynchronized
  have hS : va_S A s.heap s.heap [] := va_S.rf
  have hfr : ∀ j, (j ≠ 7 ∧ j ≠ 8 ∧ j ≠ 9) → σ.1 j = σ.1 j := fun _ _ => rfl
  have hl := lv_entry ([.ref (g.2.2 7), .int (iI (a)), .int (iI (b))]) (n := 3) (Nat.le_of_ble_eq_true rfl)
  rw [lg_entry_eq]
  generalize (lg_sl ([.ref (g.2.2 7), .int (iI (a)), .int (iI (b))]) ++ List.replicate (3 - (lg_sl ([.ref (g.2.2 7), .int (iI (a)), .int (iI (b))])).length) Slot.unset).toArray = ls at hl ⊢
  have hl : lv_has ls 3 [(0, .ref (g.2.2 7)), (1, .int (iI (a))), (2, .int (iI (b)))] := hl
  have hm0 : σ.1 7 = .inr (7, [.ref (g.2.2 8), .ref (g.2.2 9), .int (iI n), .int (iI rd)]) := hst.1
  have hm1 : MRef g σ.1 8 9 G := hst.2.1
  have hm2 : MArr g σ.1 9 9 P := hst.2.2
  have hok1 := hok.1
  have hok2 := hok.2.1
  have hok3 := hok.2.2.1
  refine lv_aload_n hx hb dX8_movesAsTold_0 rfl (lv_at hl 0 rfl) ?_
  refine lv_iload_n hx hb dX8_movesAsTold_1 rfl (lv_at hl 1 rfl) ?_
  refine lv_iload_n hx hb dX8_movesAsTold_2 rfl (lv_at hl 2 rfl) ?_
  refine x_ci (va_runV (As := [.int (iI (a)), .int (iI (b))]) (rest := []) ⟨hx, hb, hml, hown, hts⟩ (c_X7_hasTwo l g σ (7) (by decide) (n) (rd) P G ⟨hm0, hm1, hm2⟩ hok hH (a) (by omega) (b) (by omega)) (cwV 2 hts gX8_movesAsTold_X7_hasTwo rfl rfl rfl (by decide +kernel) ⟨Nat.le_of_ble_eq_true rfl, Nat.le_of_ble_eq_true rfl⟩) (x_preV hK hP (x_recv hK hP (i := 7) (by decide) hm0 rfl)) rfl rfl hl.1 rfl (lv_room (Nat.le_of_ble_eq_true rfl)) dX8_movesAsTold_3 ⟨Nat.le_of_ble_eq_true rfl, Nat.le_of_ble_eq_true rfl⟩) (fun r_3 hr_3 qr_3 => ?_)
  replace qr_3 : (r_3 = 1 ∧ (0 ≤ (a) ∧ (a) < (n) ∧ 0 ≤ (b) ∧ (b) < (n) ∧ (a) ≠ (b))) ∨ (r_3 = 0 ∧ ¬ (0 ≤ (a) ∧ (a) < (n) ∧ 0 ≤ (b) ∧ (b) < (n) ∧ (a) ≠ (b))) := qr_3
  refine x_if_ne (tgt := 11) hx hb (by omega) dX8_movesAsTold_6 (by decide) (fun c_6 => ?_) (fun c_6 => ?_)
  · refine lv_aload_n hx hb dX8_movesAsTold_11 rfl (lv_at hl 0 rfl) ?_
    refine lv_iload_n hx hb dX8_movesAsTold_12 rfl (lv_at hl 1 rfl) ?_
    refine lv_iload_n hx hb dX8_movesAsTold_13 rfl (lv_at hl 2 rfl) ?_
    refine x_cqv0 (va_runV (As := [.int (iI (a)), .int (iI (b))]) (rest := []) ⟨hx, hb, hml, hown, hts⟩ (c_X7_exchange l g σ A (7) (by decide) (n) (rd) P G ⟨hm0, hm1, hm2⟩ hok hH (a) (by omega) (b) (by omega) (by omega)) (cwV 2 hts gX8_movesAsTold_X7_exchange rfl rfl rfl (by decide +kernel) ⟨Nat.le_of_ble_eq_true rfl, Nat.le_of_ble_eq_true rfl⟩) (x_preVQ hK hP hD hS hA (x_recv hK hP (i := 7) (by decide) hm0 rfl)) rfl rfl hl.1 rfl (lv_room (Nat.le_of_ble_eq_true rfl)) dX8_movesAsTold_14 ⟨by decide, by decide⟩) hS (fun σ1 H locs hpost hP hD hS => ?_)
    obtain ⟨M_1, p1⟩ := σ1
    obtain ⟨hp0, hfrc, hnst⟩ := hpost
    obtain rfl : p1 = σ.2 := hp0
    have hP : xP g (M_1, σ.2) H := hP
    have hD : xD g A (M_1, σ.2) := hD
    have hfr := x_frc (F := fun j => j ≠ 7 ∧ j ≠ 8 ∧ j ≠ 9) hfr hfrc (fun j h => by have h : j ≠ 7 ∧ j ≠ 8 ∧ j ≠ 9 := h; omega)
    obtain ⟨Pn_2, hPn_2⟩ : ∃ q : Int → Int, q = zSwap P (a) (b) := ⟨_, rfl⟩
    obtain ⟨Gn_3, hGn_3⟩ : ∃ q : Int → Option Nat, q = zSwap G (a) (b) := ⟨_, rfl⟩
    have ost_4 : StOk σ (n) (rd) Pn_2 Gn_3 := by rw [hPn_2, hGn_3]; exact StOk_swap hok (by omega) (by omega) (by omega)
    rw [← hPn_2, ← hGn_3] at hnst
    have hm0 : M_1 (7) = .inr (7, [.ref (g.2.2 8), .ref (g.2.2 9), .int (iI (n)), .int (iI (rd))]) := hnst.1
    have hm1 : MRef g M_1 8 9 Gn_3 := hnst.2.1
    have hm2 : MArr g M_1 9 9 Pn_2 := hnst.2.2
    refine x_iconst hx hb dX8_movesAsTold_17 ?_
    refine x_retQz hx hb hr (by omega) ?_ hP hD hS dX8_movesAsTold_18 hlocks
    refine ⟨rfl, hfr, Or.inl ⟨rfl, by omega, hm0, ?_, ?_⟩⟩
    · rw [← hGn_3]; exact hm1
    · rw [← hPn_2]; exact hm2
  · refine x_iconst hx hb dX8_movesAsTold_9 ?_
    refine x_retQz hx hb hr (by omega) ?_ hP hD hS dX8_movesAsTold_10 hlocks
    exact ⟨rfl, hfr, Or.inr ⟨rfl, by omega, rfl⟩⟩

set_option maxHeartbeats 4000000 in
set_option maxRecDepth 100000 in
theorem c_X8_leavesAsTold (l : Launch) (g : xG) (σ : xS) (A : Nat → Prop) (n rd : Int) (P : Int → Int) (G : Int → Option Nat) (hst : StAt g σ.1 7 n rd P G) (hok : StOk σ n rd P G) (hH : HsOk σ) : Met l yX8_leavesAsTold wsX8_leavesAsTold ({ frames := 3, cells := 0, slots := 0, locals := 96 }) (va_Pc [.ref (g.2.2 7)] (xPreQ g A σ)) (x_Qi g A (fun r σ1 => σ1.2 = σ.2 ∧ (∀ j, j ≠ 7 ∧ j ≠ 8 ∧ j ≠ 9 → σ1.1 j = σ.1 j) ∧ ((r = 1 ∧ n ≠ 0 ∧ StAt g σ1.1 7 (n - 1) (rd) (P) (G)) ∨ (r = 0 ∧ n = 0 ∧ σ1.1 = σ.1)))) (0) (0) A := by
  refine Met.ofW (cc := cX8_leavesAsTold) (maxL := 1) (ret := (some .boolean)) (by decide) rfl ?_
  intro p e s m args below meth c s₁ B hml hv
  obtain ⟨rfl, hP, hK, hD, hA⟩ := hv
  have hx := B.exec
  have hb := B.bytes
  have hr := B.returns
  have hts := atoms_spec (ws := wsX8_leavesAsTold) B.pre
  have hown : s.vm.findClass RX8 = some m.cls := findClass_of_methodNamed B.named
  have hlocks := B.notSynchronized
  have hS : va_S A s.heap s.heap [] := va_S.rf
  have hfr : ∀ j, (j ≠ 7 ∧ j ≠ 8 ∧ j ≠ 9) → σ.1 j = σ.1 j := fun _ _ => rfl
  have hl := lv_entry ([.ref (g.2.2 7)]) (n := 1) (Nat.le_of_ble_eq_true rfl)
  rw [lg_entry_eq]
  generalize (lg_sl ([.ref (g.2.2 7)]) ++ List.replicate (1 - (lg_sl ([.ref (g.2.2 7)])).length) Slot.unset).toArray = ls at hl ⊢
  have hl : lv_has ls 1 [(0, .ref (g.2.2 7))] := hl
  have hm0 : σ.1 7 = .inr (7, [.ref (g.2.2 8), .ref (g.2.2 9), .int (iI n), .int (iI rd)]) := hst.1
  have hm1 : MRef g σ.1 8 9 G := hst.2.1
  have hm2 : MArr g σ.1 9 9 P := hst.2.2
  have hok1 := hok.1
  have hok2 := hok.2.1
  have hok3 := hok.2.2.1
  have hw_0 := hts (.fieldLink RX8 87 "TwiceAsRich$Street" "count" "I") (by decide +kernel)
  have hin_X7 : ∀ w ∈ wsX70, w ∈ wsX8_leavesAsTold := by decide +kernel
  refine lv_aload_n hx hb dX8_leavesAsTold_0 rfl (lv_at hl 0 rfl) ?_
  refine x_get (C := RX7) (T := TX7) (N := 4) hx hb hts hin_X7 hown hK hP (7) (by decide) hm0 rfl 2 (by decide) hw_0 (fun _ h9 => h9) rfl dX8_leavesAsTold_1 ?_
  refine x_if_ne (tgt := 9) hx hb (by omega) dX8_leavesAsTold_4 (by decide) (fun c_4 => ?_) (fun c_4 => ?_)
  · refine lv_aload_n hx hb dX8_leavesAsTold_9 rfl (lv_at hl 0 rfl) ?_
    refine lv_aload_n hx hb dX8_leavesAsTold_10 rfl (lv_at hl 0 rfl) ?_
    refine x_get (C := RX7) (T := TX7) (N := 4) hx hb hts hin_X7 hown hK hP (7) (by decide) hm0 rfl 2 (by decide) hw_0 (fun _ h9 => h9) rfl dX8_leavesAsTold_11 ?_
    refine x_iconst hx hb dX8_leavesAsTold_14 ?_
    refine x_isub hx hb dX8_leavesAsTold_15 ?_
    refine x_cqv0 (va_runV (As := [.int (iI (n - 1))]) (rest := []) ⟨hx, hb, hml, hown, hts⟩ (c_X7_remove l g σ A (7) (by decide) (n) (rd) P G ⟨hm0, hm1, hm2⟩ hok hH (n - 1) (by omega)) (cwV 1 hts gX8_leavesAsTold_X7_remove rfl rfl rfl (by decide +kernel) ⟨Nat.le_of_ble_eq_true rfl, Nat.le_of_ble_eq_true rfl⟩) (x_preVQ hK hP hD hS hA (x_recv hK hP (i := 7) (by decide) hm0 rfl)) rfl rfl hl.1 rfl (lv_room (Nat.le_of_ble_eq_true rfl)) dX8_leavesAsTold_16 ⟨by decide, by decide⟩) hS (fun σ1 H locs hpost hP hD hS => ?_)
    obtain ⟨M_1, p1⟩ := σ1
    obtain ⟨hp0, hfrc, hnst⟩ := hpost
    obtain rfl : p1 = σ.2 := hp0
    have hP : xP g (M_1, σ.2) H := hP
    have hD : xD g A (M_1, σ.2) := hD
    have hfr := x_frc (F := fun j => j ≠ 7 ∧ j ≠ 8 ∧ j ≠ 9) hfr hfrc (fun j h => by have h : j ≠ 7 ∧ j ≠ 8 ∧ j ≠ 9 := h; omega)
    obtain ⟨Pn_2, hPn_2⟩ : ∃ q : Int → Int, q = zDown P (n - 1) (n - 1) := ⟨_, rfl⟩
    obtain ⟨Gn_3, hGn_3⟩ : ∃ q : Int → Option Nat, q = zDown G (n - 1) (n - 1) := ⟨_, rfl⟩
    have ost_4 : StOk σ (n - 1) (rd) Pn_2 Gn_3 := by rw [hPn_2, hGn_3]; exact StOk_remove hok (by omega)
    rw [← hPn_2, ← hGn_3] at hnst
    have hm0 : M_1 (7) = .inr (7, [.ref (g.2.2 8), .ref (g.2.2 9), .int (iI (n - 1)), .int (iI (rd))]) := hnst.1
    have hm1 : MRef g M_1 8 9 Gn_3 := hnst.2.1
    have hm2 : MArr g M_1 9 9 Pn_2 := hnst.2.2
    refine x_iconst hx hb dX8_leavesAsTold_19 ?_
    refine x_retQz hx hb hr (by omega) ?_ hP hD hS dX8_leavesAsTold_20 hlocks
    refine ⟨rfl, hfr, Or.inl ⟨rfl, by omega, hm0, ?_, ?_⟩⟩
    · rw [hGn_3, zDown_0] at hm1; exact hm1
    · rw [hPn_2, zDown_0] at hm2; exact hm2
  · refine x_iconst hx hb dX8_leavesAsTold_7 ?_
    refine x_retQz hx hb hr (by omega) ?_ hP hD hS dX8_leavesAsTold_8 hlocks
    exact ⟨rfl, hfr, Or.inr ⟨rfl, by omega, rfl⟩⟩

set_option maxHeartbeats 4000000 in
set_option maxRecDepth 100000 in
theorem c_X8_comesAsTold (l : Launch) (g : xG) (σ : xS) (A : Nat → Prop) (n rd : Int) (P : Int → Int) (G : Int → Option Nat) (hst : StAt g σ.1 7 n rd P G) (hok : StOk σ n rd P G) (hH : HsOk σ) (h8 : n ≤ 8) (kd : Int) (hkd : 0 ≤ kd ∧ kd ≤ 9) (fg : Int) (hfg : 0 ≤ fg ∧ fg ≤ 9) (pu : Int) (hpu : 0 ≤ pu ∧ pu ≤ 9999) : Met l yX8_comesAsTold wsX8_comesAsTold ({ frames := 5, cells := 1, slots := 1, locals := 160 }) (va_Pc [.ref (g.2.2 7), .int (iI (kd)), .int (iI (fg)), .int (iI (pu))] (xnQ g A σ)) (x_Qi g A (fun r σ1 => zComesT g σ σ1 n rd P G kd fg pu r)) (1) (1) A := by
  refine Met.ofW (cc := cX8_comesAsTold) (maxL := 4) (ret := (some .boolean)) (by decide) rfl ?_
  intro p e s m args below meth c s₁ B hml hv
  obtain ⟨rfl, ⟨hP, hK, hD, hA⟩, hN⟩ := hv
  have hx := B.exec
  have hb := B.bytes
  have hr := B.returns
  have hts := atoms_spec (ws := wsX8_comesAsTold) B.pre
  have hown : s.vm.findClass RX8 = some m.cls := findClass_of_methodNamed B.named
  have hlocks := B.notSynchronized
  have hS : va_S A s.heap s.heap [] := va_S.rf
  have hfr : ∀ j, (j ≠ 7 ∧ j ≠ 8 ∧ j ≠ 9) → σ.1 j = σ.1 j := fun _ _ => rfl
  have hl := lv_entry ([.ref (g.2.2 7), .int (iI (kd)), .int (iI (fg)), .int (iI (pu))]) (n := 4) (Nat.le_of_ble_eq_true rfl)
  rw [lg_entry_eq]
  generalize (lg_sl ([.ref (g.2.2 7), .int (iI (kd)), .int (iI (fg)), .int (iI (pu))]) ++ List.replicate (4 - (lg_sl ([.ref (g.2.2 7), .int (iI (kd)), .int (iI (fg)), .int (iI (pu))])).length) Slot.unset).toArray = ls at hl ⊢
  have hl : lv_has ls 4 [(0, .ref (g.2.2 7)), (1, .int (iI (kd))), (2, .int (iI (fg))), (3, .int (iI (pu)))] := hl
  have hm0 : σ.1 7 = .inr (7, [.ref (g.2.2 8), .ref (g.2.2 9), .int (iI n), .int (iI rd)]) := hst.1
  have hm1 : MRef g σ.1 8 9 G := hst.2.1
  have hm2 : MArr g σ.1 9 9 P := hst.2.2
  have hok1 := hok.1
  have hok2 := hok.2.1
  have hok3 := hok.2.2.1
  have hw_0 := hts (.fieldLink RX8 87 "TwiceAsRich$Street" "count" "I") (by decide +kernel)
  have hin_X7 : ∀ w ∈ wsX70, w ∈ wsX8_comesAsTold := by decide +kernel
  refine lv_iload_n hx hb dX8_comesAsTold_0 rfl (lv_at hl 1 rfl) ?_
  refine lv_iload_n hx hb dX8_comesAsTold_1 rfl (lv_at hl 2 rfl) ?_
  refine x_ci (va_runSN (As := [.int (iI (kd)), .int (iI (fg))]) (rest := []) ⟨hx, hb, hml, hown, hts⟩ (c_X11_isHouse l g σ  (kd) (by omega) (fg) (by omega)) ⟨va_cnB 2 hts gX8_comesAsTold_X11_isHouse_n83 rfl rfl rfl hN.1 (hts (.initialized RX11) (by decide +kernel)) (by decide +kernel) ⟨Nat.le_of_ble_eq_true rfl, Nat.le_of_ble_eq_true rfl⟩, hts (.static yX11_isHouse) (by decide +kernel), trivial⟩ (x_preS hK hP) rfl rfl hl.1 rfl (lv_room (Nat.le_of_ble_eq_true rfl)) dX8_comesAsTold_2 ⟨Nat.le_of_ble_eq_true rfl, Nat.le_of_ble_eq_true rfl⟩) (fun r_2 hr_2 qr_2 => ?_)
  replace qr_2 : (r_2 = 1 ∧ (0 ≤ (kd) ∧ (kd) < 8) ∧ 0 ≤ (fg) ∧ (fg) ≤ 9) ∨ (r_2 = 0 ∧ ¬ ((0 ≤ (kd) ∧ (kd) < 8) ∧ 0 ≤ (fg) ∧ (fg) ≤ 9)) := qr_2
  refine x_if_eq (tgt := 17) hx hb (by omega) dX8_comesAsTold_5 (by decide) (fun c_5 => ?_) (fun c_5 => ?_)
  · refine x_iconst hx hb dX8_comesAsTold_17 ?_
    refine W.widen (k := 1) (n := 1) (by omega) (by omega) ?_
    refine x_retQz hx hb hr (by omega) ?_ hP hD hS dX8_comesAsTold_18 hlocks
    exact Or.inl ⟨rfl, by omega, rfl⟩
  · refine lv_aload_n hx hb dX8_comesAsTold_8 rfl (lv_at hl 0 rfl) ?_
    refine x_get (C := RX7) (T := TX7) (N := 4) hx hb hts hin_X7 hown hK hP (7) (by decide) hm0 rfl 2 (by decide) hw_0 (fun _ h9 => h9) rfl dX8_comesAsTold_9 ?_
    refine x_bipush (n := 8) hx hb (by decide +kernel) dX8_comesAsTold_12 ?_
    refine x_icmp_lt (tgt := 19) hx hb (by omega) (by omega) dX8_comesAsTold_14 (by decide) (fun c_14 => ?_) (fun c_14 => ?_)
    · refine lv_aload_n hx hb dX8_comesAsTold_19 rfl (lv_at hl 0 rfl) ?_
      refine lv_aload_n hx hb dX8_comesAsTold_20 rfl (lv_at hl 0 rfl) ?_
      refine x_get (C := RX7) (T := TX7) (N := 4) hx hb hts hin_X7 hown hK hP (7) (by decide) hm0 rfl 2 (by decide) hw_0 (fun _ h9 => h9) rfl dX8_comesAsTold_21 ?_
      refine lv_iload_n hx hb dX8_comesAsTold_24 rfl (lv_at hl 1 rfl) ?_
      refine lv_iload_n hx hb dX8_comesAsTold_25 rfl (lv_at hl 2 rfl) ?_
      refine x_cqr (mc := 1) (ms := 1) (va_runSN (As := [.int (iI (kd)), .int (iI (fg))]) (rest := [.int (iI (n)), .ref (g.2.2 7)]) ⟨hx, hb, hml, hown, hts⟩ (c_X11_houseOfKind l g σ A (kd) (by omega) (fg)) ⟨va_cnB 2 hts gX8_comesAsTold_X11_houseOfKind_n90 rfl rfl rfl hN.2 (hts (.initialized RX11) (by decide +kernel)) (by decide +kernel) ⟨Nat.le_of_ble_eq_true rfl, Nat.le_of_ble_eq_true rfl⟩, hts (.static yX11_houseOfKind) (by decide +kernel), trivial⟩ (x_preSQ hK hP hD hS hA) rfl rfl hl.1 rfl (lv_room (Nat.le_of_ble_eq_true rfl)) dX8_comesAsTold_26 ⟨Nat.le_of_ble_eq_true rfl, Nat.le_of_ble_eq_true rfl⟩) hS (fun b9 τ H locs hpost hP hD hS => ?_)
      obtain ⟨hnew9, e9⟩ := hpost
      have hτ : τ = xBorn σ b9 (kd).toNat (fg) := e9
      have hτ1 : τ.1 = σ.1 := by rw [hτ]; rfl
      have hgr : xGrow σ τ := xGrow.born hnew9 (by rw [hτ])
      have hH : HsOk τ := hH.born (by rw [hτ]) (by omega) (by omega)
      have hok : StOk τ n rd P G := hok.grow hgr
      have ha_b9 : b9 ∈ τ.2.1 := by (rw [hτ]; exact List.mem_append_right _ (List.mem_singleton.mpr rfl))
      rw [← hτ1] at hm0
      rw [← hτ1] at hm1
      rw [← hτ1] at hm2
      have hfr0 := hfr
      have hfr : ∀ j, (j ≠ 7 ∧ j ≠ 8 ∧ j ≠ 9) → τ.1 j = τ.1 j := fun _ _ => rfl
      refine lv_iload_n hx hb dX8_comesAsTold_29 rfl (lv_at hl 3 rfl) ?_
      refine x_cqv0 (va_runV (As := [.int (iI (n)), .ref b9, .int (iI (pu))]) (rest := []) ⟨hx, hb, hml, hown, hts⟩ (c_X7_insert l g τ A (7) (by decide) (n) (rd) P G ⟨hm0, hm1, hm2⟩ hok hH (by omega) (n) (by omega) b9 ha_b9 (pu) (by omega)) (cwV 3 hts gX8_comesAsTold_X7_insert rfl rfl rfl (by decide +kernel) ⟨Nat.le_of_ble_eq_true rfl, Nat.le_of_ble_eq_true rfl⟩) (x_preVQ hK hP hD hS hA (x_recv hK hP (i := 7) (by decide) hm0 rfl)) rfl rfl hl.1 rfl (lv_room (Nat.le_of_ble_eq_true rfl)) dX8_comesAsTold_30 ⟨by decide, by decide⟩) hS (fun τ1 H locs hpost hP hD hS => ?_)
      obtain ⟨M_1, p1⟩ := τ1
      obtain ⟨hp0, hfrc, hnst⟩ := hpost
      obtain rfl : p1 = τ.2 := hp0
      have hP : xP g (M_1, τ.2) H := hP
      have hD : xD g A (M_1, τ.2) := hD
      have hfr := x_frc (F := fun j => j ≠ 7 ∧ j ≠ 8 ∧ j ≠ 9) hfr hfrc (fun j h => by have h : j ≠ 7 ∧ j ≠ 8 ∧ j ≠ 9 := h; omega)
      obtain ⟨Pn_2, hPn_2⟩ : ∃ q : Int → Int, q = upI (zUp P (n) (n)) (n) (pu) := ⟨_, rfl⟩
      obtain ⟨Gn_3, hGn_3⟩ : ∃ q : Int → Option Nat, q = upI (zUp G (n) (n)) (n) (some b9) := ⟨_, rfl⟩
      have ost_4 : StOk τ (n + 1) (rd) Pn_2 Gn_3 := by rw [hPn_2, hGn_3]; exact StOk_insert hok (by omega) (by omega) ha_b9 (by omega)
      rw [← hPn_2, ← hGn_3] at hnst
      have hm0 : M_1 (7) = .inr (7, [.ref (g.2.2 8), .ref (g.2.2 9), .int (iI (n + 1)), .int (iI (rd))]) := hnst.1
      have hm1 : MRef g M_1 8 9 Gn_3 := hnst.2.1
      have hm2 : MArr g M_1 9 9 Pn_2 := hnst.2.2
      refine x_iconst hx hb dX8_comesAsTold_33 ?_
      refine W.widen (k := 1) (n := 1) (by omega) (by omega) ?_
      refine x_retQz hx hb hr (by omega) ?_ hP hD hS dX8_comesAsTold_34 hlocks
      refine Or.inr ⟨rfl, by omega, b9, hnew9, (by rw [hτ]), fun j hj => (hfr j hj).trans ((congrFun hτ1 j).trans (hfr0 j hj)), hm0, ?_, ?_⟩
      · rw [hGn_3, zUp_0] at hm1; exact hm1
      · rw [hPn_2, zUp_0] at hm2; exact hm2
    · refine x_iconst hx hb dX8_comesAsTold_17 ?_
      refine W.widen (k := 1) (n := 1) (by omega) (by omega) ?_
      refine x_retQz hx hb hr (by omega) ?_ hP hD hS dX8_comesAsTold_18 hlocks
      exact Or.inl ⟨rfl, by omega, rfl⟩

set_option maxHeartbeats 4000000 in
set_option maxRecDepth 100000 in
theorem c_X8_isDone (l : Launch) (g : xG) (σ : xS) (A : Nat → Prop) (bi : Nat) (hbi : bi < xN) (sz dn : Int) (ht0 : TObj g σ.1 bi sz dn) (Bf : Int → Int) (hbf : MArr g σ.1 bi 100 Bf) (hsz : 0 ≤ sz ∧ sz ≤ 100) (hBr : ∀ k, inR (Bf k)) (hb7 : bi ≠ 7 ∧ bi ≠ 8 ∧ bi ≠ 9) (n rd : Int) (P : Int → Int) (G : Int → Option Nat) (hst : StAt g σ.1 7 n rd P G) (hok : StOk σ n rd P G) (hH : HsOk σ) (h8 : n ≤ 8) (S : Int → Int) (hsm : xSame σ n rd P G S) (w9 : Int) (hw9 : 0 ≤ w9 ∧ w9 ≤ 200) (hst9 : zStOk (zCc Bf sz) w9) : Met l yX8_isDone wsX8_isDone ({ frames := 6, cells := 1, slots := 1, locals := 192 }) (va_Pc [.ref (g.2.2 23), .int (iI (w9)), .ref (g.2.2 7)] (xnQ g A σ)) (x_Qi g A (fun r σ1 => zDn g σ σ1 (zCc Bf sz) S w9 r)) (1) (1) A := by
  refine Met.ofW (cc := cX8_isDone) (maxL := 5) (ret := (some .boolean)) (by decide) rfl ?_
  intro p e s m args below meth c s₁ B hml hv
  obtain ⟨rfl, ⟨hP, hK, hD, hA⟩, hN⟩ := hv
  have hx := B.exec
  have hb := B.bytes
  have hr := B.returns
  have hts := atoms_spec (ws := wsX8_isDone) B.pre
  have hown : s.vm.findClass RX8 = some m.cls := findClass_of_methodNamed B.named
  have hlocks := B.notSynchronized
  have hS : va_S A s.heap s.heap [] := va_S.rf
  have hfr : ∀ j, (j ≠ 7 ∧ j ≠ 8 ∧ j ≠ 9) → σ.1 j = σ.1 j := fun _ _ => rfl
  have hl := lv_entry ([.ref (g.2.2 23), .int (iI (w9)), .ref (g.2.2 7)]) (n := 5) (Nat.le_of_ble_eq_true rfl)
  rw [lg_entry_eq]
  generalize (lg_sl ([.ref (g.2.2 23), .int (iI (w9)), .ref (g.2.2 7)]) ++ List.replicate (5 - (lg_sl ([.ref (g.2.2 23), .int (iI (w9)), .ref (g.2.2 7)])).length) Slot.unset).toArray = ls at hl ⊢
  have hl : lv_has ls 5 [(0, .ref (g.2.2 23)), (1, .int (iI (w9))), (2, .ref (g.2.2 7))] := hl
  have hm0 : σ.1 7 = .inr (7, [.ref (g.2.2 8), .ref (g.2.2 9), .int (iI n), .int (iI rd)]) := hst.1
  have hm1 : MRef g σ.1 8 9 G := hst.2.1
  have hm2 : MArr g σ.1 9 9 P := hst.2.2
  have hok1 := hok.1
  have hok2 := hok.2.1
  have hok3 := hok.2.2.1
  have hlet := hst9.1
  have hdg := zStOk_d hst9
  have hdg1 := hdg.1
  have hdg2 := hdg.2
  refine lv_aload_n hx hb dX8_isDone_0 rfl (lv_at hl 0 rfl) ?_
  refine lv_iload_n hx hb dX8_isDone_1 rfl (lv_at hl 1 rfl) ?_
  refine x_iconst hx hb dX8_isDone_2 ?_
  refine x_iadd hx hb dX8_isDone_3 ?_
  refine x_ci (va_runV (As := [.int (iI (w9 + 1))]) (rest := []) ⟨hx, hb, hml, hown, hts⟩ (c_X8_digitAt l g σ bi hbi (sz) (dn) ht0 Bf hbf hsz hBr (w9 + 1) (by omega)) (cwV 1 hts gX8_isDone_X8_digitAt rfl rfl rfl (by decide +kernel) ⟨Nat.le_of_ble_eq_true rfl, Nat.le_of_ble_eq_true rfl⟩) (x_preV hK hP (x_recv hK hP (i := 23) (by decide) ht0 rfl)) rfl rfl hl.1 rfl (lv_room (Nat.le_of_ble_eq_true rfl)) dX8_isDone_4 ⟨Nat.le_of_ble_eq_true rfl, Nat.le_of_ble_eq_true rfl⟩) (fun r_4 hr_4 qr_4 => ?_)
  replace qr_4 : inR (zCc Bf sz (w9 + 1) - 48) → r_4 = zCc Bf sz (w9 + 1) - 48 := qr_4
  refine lv_istore_n (lv' := [(3, .int (iI (r_4))), (0, .ref (g.2.2 23)), (1, .int (iI (w9))), (2, .ref (g.2.2 7))]) hx hb dX8_isDone_7 rfl hl (by decide) rfl (fun ls hl => ?_)
  refine lv_aload_n hx hb dX8_isDone_8 rfl (lv_at hl 1 rfl) ?_
  refine lv_iload_n hx hb dX8_isDone_9 rfl (lv_at hl 2 rfl) ?_
  refine x_iconst hx hb dX8_isDone_10 ?_
  refine x_iadd hx hb dX8_isDone_11 ?_
  refine x_ci (va_runV (As := [.int (iI (w9 + 2))]) (rest := []) ⟨hx, hb, hml, hown, hts⟩ (c_X8_digitAt l g σ bi hbi (sz) (dn) ht0 Bf hbf hsz hBr (w9 + 2) (by omega)) (cwV 1 hts gX8_isDone_X8_digitAt rfl rfl rfl (by decide +kernel) ⟨Nat.le_of_ble_eq_true rfl, Nat.le_of_ble_eq_true rfl⟩) (x_preV hK hP (x_recv hK hP (i := 23) (by decide) ht0 rfl)) rfl rfl hl.1 rfl (lv_room (Nat.le_of_ble_eq_true rfl)) dX8_isDone_12 ⟨Nat.le_of_ble_eq_true rfl, Nat.le_of_ble_eq_true rfl⟩) (fun r_12 hr_12 qr_12 => ?_)
  replace qr_12 : inR (zCc Bf sz (w9 + 2) - 48) → r_12 = zCc Bf sz (w9 + 2) - 48 := qr_12
  refine lv_istore (lv' := [(4, .int (iI (r_12))), (3, .int (iI (r_4))), (0, .ref (g.2.2 23)), (1, .int (iI (w9))), (2, .ref (g.2.2 7))]) hx hb dX8_isDone_15 hl (by decide) rfl (fun ls hl => ?_)
  refine lv_aload_n hx hb dX8_isDone_17 rfl (lv_at hl 2 rfl) ?_
  refine lv_iload_n hx hb dX8_isDone_18 rfl (lv_at hl 3 rfl) ?_
  refine x_ci (va_runV (As := [.int (iI (w9))]) (rest := []) ⟨hx, hb, hml, hown, hts⟩ (c_X8_byteAt l g σ bi hbi (sz) (dn) ht0 Bf hbf hsz hBr (w9) (by omega)) (cwV 1 hts gX8_isDone_X8_byteAt rfl rfl rfl (by decide +kernel) ⟨Nat.le_of_ble_eq_true rfl, Nat.le_of_ble_eq_true rfl⟩) (x_preV hK hP (x_recv hK hP (i := 23) (by decide) ht0 rfl)) rfl rfl hl.1 rfl (lv_room (Nat.le_of_ble_eq_true rfl)) dX8_isDone_19 ⟨Nat.le_of_ble_eq_true rfl, Nat.le_of_ble_eq_true rfl⟩) (fun r_19 hr_19 qr_19 => ?_)
  replace qr_19 : r_19 = zCc Bf sz (w9) := qr_19
  have c_22 : r_19 = 103 ∨ r_19 = 104 ∨ r_19 = 105 ∨ r_19 = 106 ∨ r_19 = 107 ∨ r_19 = 108 ∨ r_19 = 109 ∨ r_19 = 110 ∨ r_19 = 111 ∨ r_19 = 112 ∨ r_19 = 113 ∨ r_19 = 114 ∨ r_19 = 115 ∨ r_19 = 116 ∨ r_19 = 117 ∨ (r_19 ≠ 103 ∧ r_19 ≠ 104 ∧ r_19 ≠ 105 ∧ r_19 ≠ 106 ∧ r_19 ≠ 107 ∧ r_19 ≠ 108 ∧ r_19 ≠ 109 ∧ r_19 ≠ 110 ∧ r_19 ≠ 111 ∧ r_19 ≠ 112 ∧ r_19 ≠ 113 ∧ r_19 ≠ 114 ∧ r_19 ≠ 115 ∧ r_19 ≠ 116 ∧ r_19 ≠ 117) := by omega
  rcases c_22 with c_22 | c_22 | c_22 | c_22 | c_22 | c_22 | c_22 | c_22 | c_22 | c_22 | c_22 | c_22 | c_22 | c_22 | c_22 | c_22
  · refine x_tabIn (z := 103) (tgt := 117) hx hb c_22 (by decide) dX8_isDone_22 (by decide) (by decide) rfl (by decide) ?_
    refine lv_aload_n hx hb dX8_isDone_117 rfl (lv_at hl 4 rfl) ?_
    refine lv_iload_n hx hb dX8_isDone_118 rfl (lv_at hl 1 rfl) ?_
    refine lv_iload hx hb dX8_isDone_119 (lv_at hl 0 rfl) ?_
    refine lv_aload_n hx hb dX8_isDone_121 rfl (lv_at hl 2 rfl) ?_
    refine lv_iload_n hx hb dX8_isDone_122 rfl (lv_at hl 3 rfl) ?_
    refine x_iconst hx hb dX8_isDone_123 ?_
    refine x_iadd hx hb dX8_isDone_124 ?_
    refine x_ci (va_runV (As := [.int (iI (w9 + 3))]) (rest := [.int (iI (r_12)), .int (iI (r_4)), .ref (g.2.2 7)]) ⟨hx, hb, hml, hown, hts⟩ (c_X8_numberAt l g σ bi hbi (sz) (dn) ht0 Bf hbf hsz hBr (w9 + 3) (by omega)) (cwV 1 hts gX8_isDone_X8_numberAt rfl rfl rfl (by decide +kernel) ⟨Nat.le_of_ble_eq_true rfl, Nat.le_of_ble_eq_true rfl⟩) (x_preV hK hP (x_recv hK hP (i := 23) (by decide) ht0 rfl)) rfl rfl hl.1 rfl (lv_room (Nat.le_of_ble_eq_true rfl)) dX8_isDone_125 ⟨Nat.le_of_ble_eq_true rfl, Nat.le_of_ble_eq_true rfl⟩) (fun r_125 hr_125 qr_125 => ?_)
    replace qr_125 : r_125 = zVl (zCc Bf sz) (w9 + 3) (zCnt (zCc Bf sz) (w9 + 3) 4).toNat ∧ 0 ≤ r_125 ∧ r_125 ≤ 9999 := qr_125
    refine x_cqi0 (va_runV (As := [.int (iI (r_4)), .int (iI (r_12)), .int (iI (r_125))]) (rest := []) ⟨hx, hb, hml, hown, hts⟩ (c_X7_gift l g σ A (7) (by decide) (n) (rd) P G ⟨hm0, hm1, hm2⟩ hok hH (r_4) (by omega) (r_12) (by omega) (r_125) (by omega)) (cwV 3 hts gX8_isDone_X7_gift rfl rfl rfl (by decide +kernel) ⟨Nat.le_of_ble_eq_true rfl, Nat.le_of_ble_eq_true rfl⟩) (x_preVQ hK hP hD hS hA (x_recv hK hP (i := 7) (by decide) hm0 rfl)) rfl rfl hl.1 rfl (lv_room (Nat.le_of_ble_eq_true rfl)) dX8_isDone_128 ⟨by decide, by decide⟩) hS (fun r_128 σ1 H locs hr_128 hpost hP hD hS => ?_)
    obtain ⟨M_1, p1⟩ := σ1
    obtain ⟨hp0, hfrc, qr_128, hnst⟩ := hpost
    obtain rfl : p1 = σ.2 := hp0
    have hP : xP g (M_1, σ.2) H := hP
    have hD : xD g A (M_1, σ.2) := hD
    have ht0 := (hfrc (23) (by omega)).trans ht0
    have hbf := (hfrc (bi) (by omega)).trans hbf
    have hfr := x_frc (F := fun j => j ≠ 7 ∧ j ≠ 8 ∧ j ≠ 9) hfr hfrc (fun j h => by have h : j ≠ 7 ∧ j ≠ 8 ∧ j ≠ 9 := h; omega)
    obtain ⟨Pn_2, hPn_2⟩ : ∃ q : Int → Int, q = if zGiftR P (n) (r_4) (r_12) (r_125) = 0 then zGift P (r_4) (r_12) (r_125) else P := ⟨_, rfl⟩
    obtain ⟨Gn_3, hGn_3⟩ : ∃ q : Int → Option Nat, q = G := ⟨_, rfl⟩
    have ost_4 : StOk σ (n) (rd) Pn_2 Gn_3 := by rw [hPn_2, hGn_3]; exact StOk_gift hok
    rw [← hPn_2, ← hGn_3] at hnst
    have hm0 : M_1 (7) = .inr (7, [.ref (g.2.2 8), .ref (g.2.2 9), .int (iI (n)), .int (iI (rd))]) := hnst.1
    have hm1 : MRef g M_1 8 9 Gn_3 := hnst.2.1
    have hm2 : MArr g M_1 9 9 Pn_2 := hnst.2.2
    refine x_if_ne (tgt := 138) hx hb (by omega) dX8_isDone_131 (by decide) (fun c_131 => ?_) (fun c_131 => ?_)
    · refine x_iconst hx hb dX8_isDone_138 ?_
      refine W.widen (k := 1) (n := 1) (by omega) (by omega) ?_
      refine x_retQz hx hb hr (by omega) ?_ hP hD hS dX8_isDone_139 hlocks
      have hc9 : zCc Bf sz w9 = 103 := by omega
      have hq1 : r_4 = zCc Bf sz (w9 + 1) - 48 := qr_4 ⟨by omega, by omega⟩
      have hq2 : r_12 = zCc Bf sz (w9 + 2) - 48 := qr_12 ⟨by omega, by omega⟩
      refine zDn_g hc9 hq1 hq2 qr_125.1 h8 hok hH hsm rfl hfr qr_128 ?_ (by omega)
      refine ⟨hm0, ?_, ?_⟩
      · rw [← hGn_3]; exact hm1
      · rw [← hPn_2]; exact hm2
    · refine x_iconst hx hb dX8_isDone_134 ?_
      refine lv_goto (tgt := 139) hx hb dX8_isDone_135 (by decide) ?_
      refine W.widen (k := 1) (n := 1) (by omega) (by omega) ?_
      refine x_retQz hx hb hr (by omega) ?_ hP hD hS dX8_isDone_139 hlocks
      have hc9 : zCc Bf sz w9 = 103 := by omega
      have hq1 : r_4 = zCc Bf sz (w9 + 1) - 48 := qr_4 ⟨by omega, by omega⟩
      have hq2 : r_12 = zCc Bf sz (w9 + 2) - 48 := qr_12 ⟨by omega, by omega⟩
      refine zDn_g hc9 hq1 hq2 qr_125.1 h8 hok hH hsm rfl hfr qr_128 ?_ (by omega)
      refine ⟨hm0, ?_, ?_⟩
      · rw [← hGn_3]; exact hm1
      · rw [← hPn_2]; exact hm2
  · refine x_tabIn (z := 104) (tgt := 96) hx hb c_22 (by decide) dX8_isDone_22 (by decide) (by decide) rfl (by decide) ?_
    refine lv_aload_n hx hb dX8_isDone_96 rfl (lv_at hl 4 rfl) ?_
    refine lv_iload_n hx hb dX8_isDone_97 rfl (lv_at hl 1 rfl) ?_
    refine lv_iload hx hb dX8_isDone_98 (lv_at hl 0 rfl) ?_
    refine lv_aload_n hx hb dX8_isDone_100 rfl (lv_at hl 2 rfl) ?_
    refine lv_iload_n hx hb dX8_isDone_101 rfl (lv_at hl 3 rfl) ?_
    refine x_iconst hx hb dX8_isDone_102 ?_
    refine x_iadd hx hb dX8_isDone_103 ?_
    refine x_ci (va_runV (As := [.int (iI (w9 + 3))]) (rest := [.int (iI (r_12)), .int (iI (r_4)), .ref (g.2.2 7)]) ⟨hx, hb, hml, hown, hts⟩ (c_X8_numberAt l g σ bi hbi (sz) (dn) ht0 Bf hbf hsz hBr (w9 + 3) (by omega)) (cwV 1 hts gX8_isDone_X8_numberAt rfl rfl rfl (by decide +kernel) ⟨Nat.le_of_ble_eq_true rfl, Nat.le_of_ble_eq_true rfl⟩) (x_preV hK hP (x_recv hK hP (i := 23) (by decide) ht0 rfl)) rfl rfl hl.1 rfl (lv_room (Nat.le_of_ble_eq_true rfl)) dX8_isDone_104 ⟨Nat.le_of_ble_eq_true rfl, Nat.le_of_ble_eq_true rfl⟩) (fun r_104 hr_104 qr_104 => ?_)
    replace qr_104 : r_104 = zVl (zCc Bf sz) (w9 + 3) (zCnt (zCc Bf sz) (w9 + 3) 4).toNat ∧ 0 ≤ r_104 ∧ r_104 ≤ 9999 := qr_104
    refine x_cqi (mc := 1) (ms := 1) (va_runS (As := [.ref (g.2.2 7), .int (iI (r_4)), .int (iI (r_12)), .int (iI (r_104))]) (rest := []) ⟨hx, hb, hml, hown, hts⟩ (c_X8_comesAsTold l g σ A n rd P G ⟨hm0, hm1, hm2⟩ hok hH h8 (r_4) (by omega) (r_12) (by omega) (r_104) (by omega)) (va_cwS 4 hts gX8_isDone_X8_comesAsTold rfl rfl rfl (by decide +kernel) ⟨Nat.le_of_ble_eq_true rfl, Nat.le_of_ble_eq_true rfl⟩) (xn_preS hK hP hD hS hA hN) rfl rfl hl.1 rfl (lv_room (Nat.le_of_ble_eq_true rfl)) dX8_isDone_107 ⟨by decide, by decide⟩) hS (fun r_107 τ H locs hr_107 hpost hP hD hS => ?_)
    have hrz : r_107 = 0 ∨ r_107 = 1 := by (rcases hpost with q | q; exact Or.inl q.1; exact Or.inr q.1)
    refine W.widen (k := 1) (n := 1) (by omega) (by omega) ?_
    refine x_retQz hx hb hr (by omega) ?_ hP hD hS dX8_isDone_110 hlocks
    have hc9 : zCc Bf sz w9 = 104 := by omega
    have hq1 : r_4 = zCc Bf sz (w9 + 1) - 48 := qr_4 ⟨by omega, by omega⟩
    have hq2 : r_12 = zCc Bf sz (w9 + 2) - 48 := qr_12 ⟨by omega, by omega⟩
    exact zDn_h hc9 hq1 hq2 qr_104.1 (by omega) (by omega) qr_104.2 h8 hst hok hH hsm hpost
  · refine x_tabIn (z := 105) (tgt := 153) hx hb c_22 (by decide) dX8_isDone_22 (by decide) (by decide) rfl (by decide) ?_
    exfalso; omega
  · refine x_tabIn (z := 106) (tgt := 153) hx hb c_22 (by decide) dX8_isDone_22 (by decide) (by decide) rfl (by decide) ?_
    exfalso; omega
  · refine x_tabIn (z := 107) (tgt := 153) hx hb c_22 (by decide) dX8_isDone_22 (by decide) (by decide) rfl (by decide) ?_
    exfalso; omega
  · refine x_tabIn (z := 108) (tgt := 153) hx hb c_22 (by decide) dX8_isDone_22 (by decide) (by decide) rfl (by decide) ?_
    exfalso; omega
  · refine x_tabIn (z := 109) (tgt := 140) hx hb c_22 (by decide) dX8_isDone_22 (by decide) (by decide) rfl (by decide) ?_
    refine lv_aload_n hx hb dX8_isDone_140 rfl (lv_at hl 4 rfl) ?_
    refine lv_iload_n hx hb dX8_isDone_141 rfl (lv_at hl 1 rfl) ?_
    refine lv_iload hx hb dX8_isDone_142 (lv_at hl 0 rfl) ?_
    refine x_cqi (mc := 0) (ms := 0) (va_runS (As := [.ref (g.2.2 7), .int (iI (r_4)), .int (iI (r_12))]) (rest := []) ⟨hx, hb, hml, hown, hts⟩ (c_X8_movesAsTold l g σ A n rd P G ⟨hm0, hm1, hm2⟩ hok hH  (r_4) (by omega) (r_12) (by omega)) (va_cwS 3 hts gX8_isDone_X8_movesAsTold rfl rfl rfl (by decide +kernel) ⟨Nat.le_of_ble_eq_true rfl, Nat.le_of_ble_eq_true rfl⟩) (x_preSQ hK hP hD hS hA) rfl rfl hl.1 rfl (lv_room (Nat.le_of_ble_eq_true rfl)) dX8_isDone_144 ⟨by decide, by decide⟩) hS (fun r_144 τ H locs hr_144 hpost hP hD hS => ?_)
    refine W.widen (k := 1) (n := 1) (by omega) (by omega) ?_
    have hrz : r_144 = 0 ∨ r_144 = 1 := by (rcases hpost.2.2 with q | q; exact Or.inr q.1; exact Or.inl q.1)
    refine x_retQz hx hb hr (by omega) ?_ hP hD hS dX8_isDone_147 hlocks
    have hc9 : zCc Bf sz w9 = 109 := by omega
    have hq1 : r_4 = zCc Bf sz (w9 + 1) - 48 := qr_4 ⟨by omega, by omega⟩
    have hq2 : r_12 = zCc Bf sz (w9 + 2) - 48 := qr_12 ⟨by omega, by omega⟩
    exact zDn_m hc9 hq1 hq2 h8 hst hok hH hsm hpost.1 hpost.2.1 hpost.2.2
  · refine x_tabIn (z := 110) (tgt := 153) hx hb c_22 (by decide) dX8_isDone_22 (by decide) (by decide) rfl (by decide) ?_
    exfalso; omega
  · refine x_tabIn (z := 111) (tgt := 153) hx hb c_22 (by decide) dX8_isDone_22 (by decide) (by decide) rfl (by decide) ?_
    exfalso; omega
  · refine x_tabIn (z := 112) (tgt := 153) hx hb c_22 (by decide) dX8_isDone_22 (by decide) (by decide) rfl (by decide) ?_
    exfalso; omega
  · refine x_tabIn (z := 113) (tgt := 153) hx hb c_22 (by decide) dX8_isDone_22 (by decide) (by decide) rfl (by decide) ?_
    exfalso; omega
  · refine x_tabIn (z := 114) (tgt := 111) hx hb c_22 (by decide) dX8_isDone_22 (by decide) (by decide) rfl (by decide) ?_
    refine lv_aload_n hx hb dX8_isDone_111 rfl (lv_at hl 4 rfl) ?_
    refine lv_iload_n hx hb dX8_isDone_112 rfl (lv_at hl 1 rfl) ?_
    refine x_cqi (mc := 0) (ms := 0) (va_runS (As := [.ref (g.2.2 7), .int (iI (r_4))]) (rest := []) ⟨hx, hb, hml, hown, hts⟩ (c_X8_turnsAsTold l g σ A n rd P G ⟨hm0, hm1, hm2⟩ hok hH  (r_4) (by omega)) (va_cwS 2 hts gX8_isDone_X8_turnsAsTold rfl rfl rfl (by decide +kernel) ⟨Nat.le_of_ble_eq_true rfl, Nat.le_of_ble_eq_true rfl⟩) (x_preSQ hK hP hD hS hA) rfl rfl hl.1 rfl (lv_room (Nat.le_of_ble_eq_true rfl)) dX8_isDone_113 ⟨by decide, by decide⟩) hS (fun r_113 τ H locs hr_113 hpost hP hD hS => ?_)
    refine W.widen (k := 1) (n := 1) (by omega) (by omega) ?_
    have hrz : r_113 = 0 ∨ r_113 = 1 := by (rcases hpost.2.2 with q | q; exact Or.inr q.1; exact Or.inl q.1)
    refine x_retQz hx hb hr (by omega) ?_ hP hD hS dX8_isDone_116 hlocks
    have hc9 : zCc Bf sz w9 = 114 := by omega
    have hq1 : r_4 = zCc Bf sz (w9 + 1) - 48 := qr_4 ⟨by omega, by omega⟩
    exact zDn_r hc9 hq1 (by omega) h8 hst hok hH hsm hpost.1 hpost.2.1 hpost.2.2
  · refine x_tabIn (z := 115) (tgt := 153) hx hb c_22 (by decide) dX8_isDone_22 (by decide) (by decide) rfl (by decide) ?_
    exfalso; omega
  · refine x_tabIn (z := 116) (tgt := 153) hx hb c_22 (by decide) dX8_isDone_22 (by decide) (by decide) rfl (by decide) ?_
    exfalso; omega
  · refine x_tabIn (z := 117) (tgt := 148) hx hb c_22 (by decide) dX8_isDone_22 (by decide) (by decide) rfl (by decide) ?_
    refine lv_aload_n hx hb dX8_isDone_148 rfl (lv_at hl 4 rfl) ?_
    refine x_cqi (mc := 0) (ms := 0) (va_runS (As := [.ref (g.2.2 7)]) (rest := []) ⟨hx, hb, hml, hown, hts⟩ (c_X8_leavesAsTold l g σ A n rd P G ⟨hm0, hm1, hm2⟩ hok hH  ) (va_cwS 1 hts gX8_isDone_X8_leavesAsTold rfl rfl rfl (by decide +kernel) ⟨Nat.le_of_ble_eq_true rfl, Nat.le_of_ble_eq_true rfl⟩) (x_preSQ hK hP hD hS hA) rfl rfl hl.1 rfl (lv_room (Nat.le_of_ble_eq_true rfl)) dX8_isDone_149 ⟨by decide, by decide⟩) hS (fun r_149 τ H locs hr_149 hpost hP hD hS => ?_)
    refine W.widen (k := 1) (n := 1) (by omega) (by omega) ?_
    have hrz : r_149 = 0 ∨ r_149 = 1 := by (rcases hpost.2.2 with q | q; exact Or.inr q.1; exact Or.inl q.1)
    refine x_retQz hx hb hr (by omega) ?_ hP hD hS dX8_isDone_152 hlocks
    have hc9 : zCc Bf sz w9 = 117 := by omega
    exact zDn_u hc9 h8 hst hok hH hsm hpost.1 hpost.2.1 hpost.2.2
  · refine x_tabOut (tgt := 153) hx hb (by omega) dX8_isDone_22 (by omega) (by decide) ?_
    exfalso; omega
