/-! ===== the same street answers the same ===== -/
theorem zLawful_s {K K2 : Int → Nat} {F F2 P P2 : Int → Int} {n rd : Int} (h : zSame K K2 F F2 P P2 n) : zLawful K F P n rd = zLawful K2 F2 P2 n rd := by
  unfold zLawful; rw [zAll_congr h]
theorem zBreaches_s {K K2 : Int → Nat} {F F2 P P2 : Int → Int} {n rd x : Int} (h : zSame K K2 F F2 P P2 n) : zBreaches K F P n rd x = zBreaches K2 F2 P2 n rd x := by
  unfold zBreaches
  rw [zAll_congr h]
  by_cases q : 0 ≤ x ∧ x < n
  · rw [zBr_congr h q]
  · rw [if_neg q, if_neg q]
theorem zHeldR_s {K K2 : Int → Nat} {F F2 P P2 : Int → Int} {n rd x : Int} (h : zSame K K2 F F2 P P2 n) : zHeldR K F P n rd x = zHeldR K2 F2 P2 n rd x := by
  unfold zHeldR
  by_cases q : 0 ≤ x ∧ x < n
  · rw [zHold_congr h q]
  · rw [if_neg q, if_neg q]
theorem zFreeN_s {K K2 : Int → Nat} {F F2 P P2 : Int → Int} {n rd : Int} (h : zSame K K2 F F2 P P2 n) : ∀ k : Nat, (k : Int) ≤ n → zFreeN K F P n rd k = zFreeN K2 F2 P2 n rd k
  | 0, _ => rfl
  | k + 1, hk => by
    have ih := zFreeN_s (rd := rd) h k (by omega)
    have e := (h (k : Int) (by omega) (by omega)).2.2
    have e2 := zHold_congr (rd := rd) h (i := (k : Int)) ⟨by omega, by omega⟩
    show (if P (k : Int) < 9999 ∧ zHold K F P n rd (k : Int) = 0 then iOr (zFreeN K F P n rd k) (iShl 1 (k : Int)) else zFreeN K F P n rd k) = (if P2 (k : Int) < 9999 ∧ zHold K2 F2 P2 n rd (k : Int) = 0 then iOr (zFreeN K2 F2 P2 n rd k) (iShl 1 (k : Int)) else zFreeN K2 F2 P2 n rd k)
    rw [ih, e, e2]
theorem zSum_s {P P2 : Int → Int} {n : Int} (h : ∀ i, 0 ≤ i → i < n → P i = P2 i) : zSum P n.toNat = zSum P2 n.toNat := zSum_cong _ _ _ (fun i a b => h i a (by omega))
theorem zCount_s {K K2 : Int → Nat} {F F2 P P2 : Int → Int} {n rd x : Int} (h : zSame K K2 F F2 P P2 n) : zCount K F P n rd x = zCount K2 F2 P2 n rd x := by
  unfold zCount
  rw [zNone_congr h, zSum_s (fun i a b => (h i a b).2.2)]
theorem zTax_s {P P2 : Int → Int} {n x : Int} (h : ∀ i, 0 ≤ i → i < n → P i = P2 i) : zTax P n x = zTax P2 n x := by
  unfold zTax
  have e : zSum (fun i => min (P i) x) n.toNat = zSum (fun i => min (P2 i) x) n.toNat := zSum_s (fun i a b => by rw [h i a b])
  rw [e]
theorem zHouse_s {K K2 : Int → Nat} {F F2 P P2 : Int → Int} {n rd x w : Int} (h : zSame K K2 F F2 P P2 n) : zHouse K F P n rd x w = zHouse K2 F2 P2 n rd x w := by
  unfold zHouse
  by_cases q : 0 ≤ x ∧ x < n
  · obtain ⟨a, b, d⟩ := h x q.1 q.2
    rw [zMost_congr h q, a, b, d]
  · rw [if_pos q, if_pos q]
theorem zJudged_s {R R2 P P2 : Int → Int} {z n sk r r2 : Int} (hR : ∀ j, 0 ≤ j → j < z → R j = R2 j) (hP : ∀ j, 0 ≤ j → j < n → P j = P2 j) (h1 : zJudged R P z n sk r) (h2 : zJudged R2 P2 z n sk r2) : r = r2 := by
  rcases h1 with ⟨a1, a2, a3, a4, a5, a6⟩ | ⟨a1, a2⟩
  · rcases h2 with ⟨b1, b2, b3, b4, b5, b6⟩ | ⟨b1, b2⟩
    · by_cases l1 : r < r2
      · have t := b6 r a1 l1
        rw [← hR r a1 a2, ← hP r a1 a3] at t
        rcases t with t | t
        · exact absurd t a4
        · exact absurd t a5
      · by_cases l2 : r2 < r
        · have t := a6 r2 b1 l2
          rw [hR r2 b1 b2, hP r2 b1 b3] at t
          rcases t with t | t
          · exact absurd t b4
          · exact absurd t b5
        · omega
    · have t := b1 r a1 a2 a3
      rw [← hR r a1 a2, ← hP r a1 a3] at t
      rcases t with t | t
      · exact absurd t a4
      · exact absurd t a5
  · rcases h2 with ⟨b1, b2, b3, b4, b5, b6⟩ | ⟨b1, b2⟩
    · have t := a1 r2 b1 b2 b3
      rw [hR r2 b1 b2, hP r2 b1 b3] at t
      rcases t with t | t
      · exact absurd t b4
      · exact absurd t b5
    · omega
theorem zChI_s {K K2 : Int → Nat} {F F2 P P2 : Int → Int} {n rd i : Int} (h : zSame K K2 F F2 P P2 n) (hi : 0 ≤ i ∧ i < n) (st : Int × Int) : ∀ k : Nat, i + 1 + (k : Int) ≤ n → zChI K F P n rd i st k = zChI K2 F2 P2 n rd i st k
  | 0, _ => rfl
  | k + 1, hk => by
    have ih := zChI_s (rd := rd) h hi st k (by omega)
    have e := zAllSw_congr (rd := rd) h hi (b := i + 1 + (k : Int)) ⟨by omega, by omega⟩
    show (if zAllSw K F P n rd i (i + 1 + (k : Int)) < (zChI K F P n rd i st k).1 then (zAllSw K F P n rd i (i + 1 + (k : Int)), 10 * i + (i + 1 + (k : Int))) else zChI K F P n rd i st k) = (if zAllSw K2 F2 P2 n rd i (i + 1 + (k : Int)) < (zChI K2 F2 P2 n rd i st k).1 then (zAllSw K2 F2 P2 n rd i (i + 1 + (k : Int)), 10 * i + (i + 1 + (k : Int))) else zChI K2 F2 P2 n rd i st k)
    rw [ih, e]
theorem zChO_s {K K2 : Int → Nat} {F F2 P P2 : Int → Int} {n rd : Int} (h : zSame K K2 F F2 P P2 n) : ∀ k : Nat, (k : Int) ≤ n → zChO K F P n rd k = zChO K2 F2 P2 n rd k
  | 0, _ => by
    show (zAll K F P n rd, (-4 : Int)) = (zAll K2 F2 P2 n rd, (-4 : Int))
    rw [zAll_congr h]
  | k + 1, hk => by
    have ih := zChO_s (rd := rd) h k (by omega)
    show zChI K F P n rd (k : Int) (zChO K F P n rd k) (n - 1 - (k : Int)).toNat = zChI K2 F2 P2 n rd (k : Int) (zChO K2 F2 P2 n rd k) (n - 1 - (k : Int)).toNat
    rw [ih]
    exact zChI_s h ⟨by omega, by omega⟩ _ _ (by omega)
theorem zChange_s {K K2 : Int → Nat} {F F2 P P2 : Int → Int} {n rd x : Int} (hn : 0 ≤ n) (h : zSame K K2 F F2 P P2 n) : zChange K F P n rd x = zChange K2 F2 P2 n rd x := by
  unfold zChange; rw [zChO_s h n.toNat (by omega)]
theorem zWed_s {K K2 : Int → Nat} {F F2 P P2 : Int → Int} {n rd x : Int} (h : zSame K K2 F F2 P P2 n) : zWed K F P n rd x = zWed K2 F2 P2 n rd x := by
  unfold zWed
  by_cases q : 0 ≤ x ∧ x < n ∧ 0 ≤ x + 1 ∧ x + 1 < n
  · rw [if_pos q, if_pos q]
    have hP : ∀ i, 0 ≤ i → i < n → zWedP P x i = zWedP P2 x i := fun i a b => by
      unfold zWedP upI
      rw [(h x q.1 q.2.1).2.2, (h (x + 1) q.2.2.1 q.2.2.2).2.2, (h i a b).2.2]
    refine zAll_congr (fun i a b => ?_)
    unfold zSk
    by_cases e : x + 1 ≤ i
    · rw [if_pos e, if_pos e, if_pos e, if_pos e, if_pos e, if_pos e]
      exact ⟨(h (i + 1) (by omega) (by omega)).1, (h (i + 1) (by omega) (by omega)).2.1, hP (i + 1) (by omega) (by omega)⟩
    · rw [if_neg e, if_neg e, if_neg e, if_neg e, if_neg e, if_neg e]
      exact ⟨(h i a (by omega)).1, (h i a (by omega)).2.1, hP i a (by omega)⟩
  · rw [if_neg q, if_neg q]
theorem zIn_s {α : Type} {f h : Int → α} {n a : Int} {v : α} (e : ∀ i, 0 ≤ i → i < n → f i = h i) (ha : 0 ≤ a ∧ a ≤ n) : ∀ i, 0 ≤ i → i < n + 1 → zIn f a v i = zIn h a v i := fun i h0 h1 => by
  unfold zIn
  by_cases q : i < a
  · rw [if_pos q, if_pos q]; exact e i h0 (by omega)
  · rw [if_neg q, if_neg q]
    by_cases q2 : i = a
    · rw [if_pos q2, if_pos q2]
    · rw [if_neg q2, if_neg q2]; exact e (i - 1) (by omega) (by omega)
theorem zWorth_s {K K2 : Int → Nat} {F F2 P P2 : Int → Int} {n rd x p : Int} (h : zSame K K2 F F2 P P2 n) : zWorth K F P n rd x p = zWorth K2 F2 P2 n rd x p := by
  unfold zWorth
  by_cases q : (0 ≤ x ∧ x < n) ∧ (0 ≤ p ∧ p ≤ 9999)
  · rw [if_pos q, if_pos q, zMost_congr h q.1]
    have e : zMost (zIn K (x + 1) 0) (zIn F (x + 1) 0) (zIn P (x + 1) p) (n + 1) rd x = zMost (zIn K2 (x + 1) 0) (zIn F2 (x + 1) 0) (zIn P2 (x + 1) p) (n + 1) rd x := zMost_congr (fun i a b => ⟨zIn_s (fun j c d => (h j c d).1) ⟨by omega, by omega⟩ i a b, zIn_s (fun j c d => (h j c d).2.1) ⟨by omega, by omega⟩ i a b, zIn_s (fun j c d => (h j c d).2.2) ⟨by omega, by omega⟩ i a b⟩) ⟨by omega, by omega⟩
    rw [e]
  · rw [if_neg q, if_neg q]
theorem zSame_up {K K2 : Int → Nat} {F F2 P P2 : Int → Int} {n x v : Int} (h : zSame K K2 F F2 P P2 n) : zSame K K2 F F2 (upI P x v) (upI P2 x v) n := fun i a b => by
  obtain ⟨h1, h2, h3⟩ := h i a b
  refine ⟨h1, h2, ?_⟩
  unfold upI; rw [h3]
theorem zFitN_s {K K2 : Int → Nat} {F F2 P P2 : Int → Int} {n rd x : Int} (h : zSame K K2 F F2 P P2 n) : ∀ k : Nat, zFitN K F P n rd x k = zFitN K2 F2 P2 n rd x k
  | 0 => rfl
  | k + 1 => by
    have ih := zFitN_s (rd := rd) (x := x) h k
    have e := zAll_congr (rd := rd) (zSame_up (x := x) (v := (k : Int)) h)
    show (if zAll K F (upI P x (k : Int)) n rd = 0 then ((zFitN K F P n rd x k).1 + 1, (if (zFitN K F P n rd x k).2.1 < 0 then (k : Int) else (zFitN K F P n rd x k).2.1), (k : Int)) else zFitN K F P n rd x k) = (if zAll K2 F2 (upI P2 x (k : Int)) n rd = 0 then ((zFitN K2 F2 P2 n rd x k).1 + 1, (if (zFitN K2 F2 P2 n rd x k).2.1 < 0 then (k : Int) else (zFitN K2 F2 P2 n rd x k).2.1), (k : Int)) else zFitN K2 F2 P2 n rd x k)
    rw [e, ih]
theorem zFit_s {K K2 : Int → Nat} {F F2 P P2 : Int → Int} {n rd x w : Int} (h : zSame K K2 F F2 P P2 n) : zFit K F P n rd x w = zFit K2 F2 P2 n rd x w := by
  unfold zFit; rw [zFitN_s h]
theorem zSdB_rng {n rd z : Int} (hn : 0 < n) : zSdB n rd z = -1 ∨ (0 ≤ zSdB n rd z ∧ zSdB n rd z < n) := by
  unfold zSdB
  rcases zSide_ne (rd := rd) (sd := zDraw (zNext (zNext z)) 2) (zDraw_rng (zNext z) hn) with q | q
  · exact Or.inl q
  · exact Or.inr ⟨q.1, q.2.1⟩
theorem zSdN_s {K K2 : Int → Nat} {F F2 P P2 : Int → Int} {n rd z : Int} (hn : 0 < n) (h : zSame K K2 F F2 P P2 n) : ∀ k : Nat, (zSdN K F P n rd z k).1 = (zSdN K2 F2 P2 n rd z k).1 ∧ (∀ i, 0 ≤ i → i < n → (zSdN K F P n rd z k).2.1 i = (zSdN K2 F2 P2 n rd z k).2.1 i) ∧ (zSdN K F P n rd z k).2.2 = (zSdN K2 F2 P2 n rd z k).2.2
  | 0 => ⟨rfl, fun i a b => (h i a b).2.2, rfl⟩
  | k + 1 => by
    obtain ⟨i1, i2, i3⟩ := zSdN_s (rd := rd) (z := z) hn h k
    have e : ∀ i, 0 ≤ i → i < n → zSdP (zSdN K F P n rd z k).2.1 n rd (zSdN K F P n rd z k).1 i = zSdP (zSdN K2 F2 P2 n rd z k).2.1 n rd (zSdN K2 F2 P2 n rd z k).1 i := fun i a b => by
      rw [i1]; unfold zSdP
      exact zSteal_congr i2 (zDraw_rng _ hn) (zSdB_rng hn) a b
    refine ⟨?_, e, ?_⟩
    · show zNext (zNext (zSdN K F P n rd z k).1) = zNext (zNext (zSdN K2 F2 P2 n rd z k).1)
      rw [i1]
    · have e2 : zAll K F (zSdP (zSdN K F P n rd z k).2.1 n rd (zSdN K F P n rd z k).1) n rd = zAll K2 F2 (zSdP (zSdN K2 F2 P2 n rd z k).2.1 n rd (zSdN K2 F2 P2 n rd z k).1) n rd := zAll_congr (fun i a b => ⟨(h i a b).1, (h i a b).2.1, e i a b⟩)
      show (if zAll K F (zSdP (zSdN K F P n rd z k).2.1 n rd (zSdN K F P n rd z k).1) n rd = 0 then (zSdN K F P n rd z k).2.2 + 1 else (zSdN K F P n rd z k).2.2) = (if zAll K2 F2 (zSdP (zSdN K2 F2 P2 n rd z k).2.1 n rd (zSdN K2 F2 P2 n rd z k).1) n rd = 0 then (zSdN K2 F2 P2 n rd z k).2.2 + 1 else (zSdN K2 F2 P2 n rd z k).2.2)
      rw [e2, i3]
theorem zSeeded_s {K K2 : Int → Nat} {F F2 P P2 : Int → Int} {n rd k z : Int} (hn : 0 ≤ n) (h : zSame K K2 F F2 P P2 n) : zSeeded K F P n rd k z = zSeeded K2 F2 P2 n rd k z := by
  unfold zSeeded
  by_cases e : n = 0
  · rw [if_pos e, if_pos e]
  · rw [(zSdN_s (rd := rd) (z := z) (by omega) h k.toNat).2.2]
theorem zPart_s {K K2 : Int → Nat} {F F2 P P2 : Int → Int} {n rd o c : Int} (hn : 0 ≤ n) (h : zSame K K2 F F2 P P2 n) : zPart K F P n rd o c = zPart K2 F2 P2 n rd o c := by
  unfold zPart
  exact zParts_congr (n := n) (zNote_localK h) _ _ _ _ _ _ (by omega) (fun i a b => by omega)
theorem zPartings_s {K K2 : Int → Nat} {F F2 P P2 : Int → Int} {n rd c : Int} (hn : 0 ≤ n) (h : zSame K K2 F F2 P P2 n) : zPartings K F P n rd c = zPartings K2 F2 P2 n rd c := by
  unfold zPartings; rw [zPart_s hn h]
theorem zUneven_s {K K2 : Int → Nat} {F F2 P P2 : Int → Int} {n rd c : Int} (hn : 0 ≤ n) (h : zSame K K2 F F2 P P2 n) : zUneven K F P n rd c = zUneven K2 F2 P2 n rd c := by
  unfold zUneven; rw [zPart_s hn h]
theorem zRichest_s {K K2 : Int → Nat} {F F2 P P2 : Int → Int} {n rd c x : Int} (hn : 0 ≤ n) (h : zSame K K2 F F2 P P2 n) : zRichest K F P n rd c x = zRichest K2 F2 P2 n rd c x := by
  unfold zRichest; rw [zPart_s hn h]
theorem zHands_s {K K2 : Int → Nat} {F F2 P P2 : Int → Int} {n rd : Int} (hn : 0 ≤ n) (h : zSame K K2 F F2 P P2 n) : zHands K F P n rd = zHands K2 F2 P2 n rd := by
  unfold zHands; rw [zSum_s (fun i a b => (h i a b).2.2), zPart_s hn h]
theorem zAny_s {K K2 : Int → Nat} {F F2 P P2 : Int → Int} {n rd : Int} (hn : 0 ≤ n) (h : zSame K K2 F F2 P P2 n) : zAny K F P n rd = zAny K2 F2 P2 n rd := by
  unfold zAny; rw [zSum_s (fun i a b => (h i a b).2.2), zPart_s hn h]
/-! gifts told -/
theorem zGvT_s {n t z : Int} {R R2 : Int → Int} (h : ∀ j, 0 ≤ j → j < z → R j = R2 j) (h0 : 0 ≤ t) (h1 : 3 * t + 2 < z) : zGvT n R t ↔ zGvT n R2 t := by
  unfold zGvT
  rw [h (3 * t) (by omega) (by omega), h (3 * t + 1) (by omega) (by omega), h (3 * t + 2) (by omega) (by omega)]
theorem zGivOk_s {n z : Int} {R R2 : Int → Int} (h : ∀ j, 0 ≤ j → j < z → R j = R2 j) : zGivOk n R z ↔ zGivOk n R2 z := by
  unfold zGivOk
  constructor
  · intro ⟨a, b, d⟩
    exact ⟨a, b, fun t t0 t1 => (zGvT_s h t0 (by omega)).mp (d t t0 t1)⟩
  · intro ⟨a, b, d⟩
    exact ⟨a, b, fun t t0 t1 => (zGvT_s h t0 (by omega)).mpr (d t t0 t1)⟩
theorem zGvN_s {n z : Int} {R R2 P P2 : Int → Int} (h : ∀ j, 0 ≤ j → j < z → R j = R2 j) (hP : ∀ i, 0 ≤ i → i < n → P i = P2 i) : ∀ k : Nat, 3 * (k : Int) ≤ z → (∀ i, 0 ≤ i → i < n → (zGvN R P n k).1 i = (zGvN R2 P2 n k).1 i) ∧ (zGvN R P n k).2 = (zGvN R2 P2 n k).2
  | 0, _ => ⟨hP, rfl⟩
  | k + 1, hk => by
    obtain ⟨i1, i2⟩ := zGvN_s h hP k (by omega)
    have r0 := h (3 * (k : Int)) (by omega) (by omega)
    have r1 := h (3 * (k : Int) + 1) (by omega) (by omega)
    have r2 := h (3 * (k : Int) + 2) (by omega) (by omega)
    have eg : zGiftR (zGvN R P n k).1 n (R (3 * (k : Int))) (R (3 * (k : Int) + 1)) (R (3 * (k : Int) + 2)) = zGiftR (zGvN R2 P2 n k).1 n (R2 (3 * (k : Int))) (R2 (3 * (k : Int) + 1)) (R2 (3 * (k : Int) + 2)) := by
      rw [r0, r1, r2]; exact zGiftR_congr i1
    have u1 : zGvN R P n (k + 1) = if zGiftR (zGvN R P n k).1 n (R (3 * (k : Int))) (R (3 * (k : Int) + 1)) (R (3 * (k : Int) + 2)) = 0 then (zGift (zGvN R P n k).1 (R (3 * (k : Int))) (R (3 * (k : Int) + 1)) (R (3 * (k : Int) + 2)), (zGvN R P n k).2 + 1) else zGvN R P n k := rfl
    have u2 : zGvN R2 P2 n (k + 1) = if zGiftR (zGvN R2 P2 n k).1 n (R2 (3 * (k : Int))) (R2 (3 * (k : Int) + 1)) (R2 (3 * (k : Int) + 2)) = 0 then (zGift (zGvN R2 P2 n k).1 (R2 (3 * (k : Int))) (R2 (3 * (k : Int) + 1)) (R2 (3 * (k : Int) + 2)), (zGvN R2 P2 n k).2 + 1) else zGvN R2 P2 n k := rfl
    by_cases q : zGiftR (zGvN R2 P2 n k).1 n (R2 (3 * (k : Int))) (R2 (3 * (k : Int) + 1)) (R2 (3 * (k : Int) + 2)) = 0
    · rw [u1, u2, eg, if_pos q, if_pos q]
      have z := zGiftR_0 rfl q
      refine ⟨fun i a b => ?_, by show (zGvN R P n k).2 + 1 = (zGvN R2 P2 n k).2 + 1; rw [i2]⟩
      show zGift (zGvN R P n k).1 (R (3 * (k : Int))) (R (3 * (k : Int) + 1)) (R (3 * (k : Int) + 2)) i = zGift (zGvN R2 P2 n k).1 (R2 (3 * (k : Int))) (R2 (3 * (k : Int) + 1)) (R2 (3 * (k : Int) + 2)) i
      rw [r0, r1, r2]
      exact zGift_congr i1 ⟨z.1, z.2.1⟩ ⟨z.2.2.1, z.2.2.2.1⟩ a b
    · rw [u1, u2, eg, if_neg q, if_neg q]
      exact ⟨i1, i2⟩
theorem zGiven_s {K K2 : Int → Nat} {R R2 F F2 P P2 : Int → Int} {n rd w z : Int} (hz : 0 ≤ z) (h : ∀ j, 0 ≤ j → j < z → R j = R2 j) (hs : zSame K K2 F F2 P P2 n) : zGiven R K F P n rd w z = zGiven R2 K2 F2 P2 n rd w z := by
  obtain ⟨e1, e2⟩ := zGvN_s (n := n) h (fun i a b => (hs i a b).2.2) (z / 3).toNat (by omega)
  unfold zGiven
  rw [e2, zAll_congr (fun i a b => ⟨(hs i a b).1, (hs i a b).2.1, e1 i a b⟩)]
theorem zGivenC_s {Kp So Sz Kp2 So2 Sz2 El2 : Int → Int} {R : Int → Int} {K K2 : Int → Nat} {F F2 P P2 : Int → Int} {n rd d w r r2 : Int} (hr : zRowR Kp So d 1 = zRowR Kp2 So2 d 1) (hz : 0 ≤ d ∧ d ≤ 7 → zRowR Kp2 So2 d 1 = 0 → Sz d = Sz2 d ∧ 0 ≤ Sz2 d ∧ ∀ j, 0 ≤ j → j < Sz2 d → R j = El2 (100 * d + j)) (hs : zSame K K2 F F2 P P2 n) (h1 : zGivenC Kp So Sz R K F P n rd d w r) (h2 : zGivenR Kp2 So2 Sz2 El2 K2 F2 P2 n rd d w r2) : r = r2 := by
  unfold zGivenC at h1
  unfold zGivenR zGivNo zGivYes at h2
  rw [hr] at h1
  by_cases q : (0 ≤ d ∧ d ≤ 7) ∧ (0 ≤ w ∧ w ≤ 1)
  · by_cases q2 : zRowR Kp2 So2 d 1 = 0
    · obtain ⟨ez, z0, eR⟩ := hz q.1 q2
      have eg : zGivOk n R (Sz d) ↔ zGivOk n (zRw El2 d) (Sz2 d) := by rw [ez]; exact zGivOk_s eR
      have ev : zGiven R K F P n rd w (Sz d) = zGiven (zRw El2 d) K2 F2 P2 n rd w (Sz2 d) := by rw [ez]; exact zGiven_s z0 eR hs
      rcases h1 with ⟨a, _⟩ | ⟨_, _, a, _⟩ | ⟨_, _, _, a, b⟩ | ⟨_, _, _, a, b⟩
      · exact absurd q a
      · exact absurd q2 a
      · rcases h2 with (⟨c, _⟩ | ⟨_, _, c, _⟩ | ⟨_, _, _, c, d⟩) | ⟨⟨_, _, _, c⟩, d⟩
        · exact absurd q c
        · exact absurd q2 c
        · rw [b, d]
        · exact absurd (eg.mpr c) a
      · rcases h2 with (⟨c, _⟩ | ⟨_, _, c, _⟩ | ⟨_, _, _, c, d⟩) | ⟨⟨_, _, _, c⟩, d⟩
        · exact absurd q c
        · exact absurd q2 c
        · exact absurd (eg.mp a) c
        · rw [b, d, ev]
    · rcases h1 with ⟨a, _⟩ | ⟨_, _, _, b⟩ | ⟨_, _, a, _, _⟩ | ⟨_, _, a, _, _⟩
      · exact absurd q a
      · rcases h2 with (⟨c, _⟩ | ⟨_, _, _, d⟩ | ⟨_, _, c, _, _⟩) | ⟨⟨_, _, c, _⟩, _⟩
        · exact absurd q c
        · rw [b, d]
        · exact absurd c q2
        · exact absurd c q2
      · exact absurd a q2
      · exact absurd a q2
  · rcases h1 with ⟨_, b⟩ | ⟨a, b, _⟩ | ⟨a, b, _⟩ | ⟨a, b, _⟩
    · rcases h2 with (⟨_, d⟩ | ⟨c, d, _⟩ | ⟨c, d, _⟩) | ⟨⟨c, d, _⟩, _⟩
      · rw [b, d]
      · exact absurd ⟨c, d⟩ q
      · exact absurd ⟨c, d⟩ q
      · exact absurd ⟨c, d⟩ q
    · exact absurd ⟨a, b⟩ q
    · exact absurd ⟨a, b⟩ q
    · exact absurd ⟨a, b⟩ q
/-! texts: where a text has ended, both have no letter, no digit and no semicolon -/
def zCE (C C2 : Int → Int) : Prop := ∀ p, 0 ≤ p → C p = C2 p ∨ (¬ zLet (C p) ∧ ¬ (48 ≤ C p ∧ C p ≤ 57) ∧ C p ≠ 59 ∧ ¬ zLet (C2 p) ∧ ¬ (48 ≤ C2 p ∧ C2 p ≤ 57) ∧ C2 p ≠ 59)
theorem zCE_cnt {C C2 : Int → Int} (h : zCE C C2) : ∀ (k : Nat) (p : Int), 0 ≤ p → zCnt C p k = zCnt C2 p k
  | 0, _, _ => rfl
  | k + 1, p, h0 => by
    have ih := zCE_cnt h k (p + 1) (by omega)
    rcases h p h0 with e | ⟨_, b, _, _, d, _⟩
    · by_cases q : 48 ≤ C2 p ∧ C2 p ≤ 57
      · rw [zCnt_y k (show 48 ≤ C p ∧ C p ≤ 57 by rw [e]; exact q), zCnt_y k q, ih]
      · rw [zCnt_n _ (show ¬ (48 ≤ C p ∧ C p ≤ 57) by rw [e]; exact q), zCnt_n _ q]
    · rw [zCnt_n _ b, zCnt_n _ d]
theorem zCE_let {C C2 : Int → Int} {p : Int} (h : zCE C C2) (h0 : 0 ≤ p) (hl : zLet (C p)) : C p = C2 p := by
  rcases h p h0 with e | ⟨a, _⟩
  · exact e
  · exact absurd hl a
theorem zCE_let2 {C C2 : Int → Int} {p : Int} (h : zCE C C2) (h0 : 0 ≤ p) : zLet (C p) ↔ zLet (C2 p) := by
  rcases h p h0 with e | ⟨a, _, _, d, _⟩
  · rw [e]
  · exact ⟨fun q => absurd q a, fun q => absurd q d⟩
theorem zCE_end {C C2 : Int → Int} {p : Int} (h : zCE C C2) (h0 : 0 ≤ p) : zEnd C p = zEnd C2 p := by
  unfold zEnd
  by_cases q : zLet (C p)
  · rw [if_pos q, if_pos ((zCE_let2 h h0).mp q), zCE_let h h0 q, zCE_cnt h _ _ (by omega)]
  · rw [if_neg q, if_neg (fun x => q ((zCE_let2 h h0).mpr x))]
theorem zCE_semi {C C2 : Int → Int} {p : Int} (h : zCE C C2) (h0 : 0 ≤ p) : C p = 59 ↔ C2 p = 59 := by
  rcases h p h0 with e | ⟨_, _, a, _, _, d⟩
  · rw [e]
  · exact ⟨fun q => absurd q a, fun q => absurd q d⟩
theorem zCE_ok {C C2 : Int → Int} {p : Int} (h : zCE C C2) (h0 : 0 ≤ p) : zStOk C p ↔ zStOk C2 p := by
  have he := zCE_end h h0
  have hg := zEnd_ge C p
  constructor
  · intro ⟨a, b, d⟩
    have e := zCE_let h h0 a
    refine ⟨(zCE_let2 h h0).mp a, ?_, ?_⟩
    · rw [← e, ← zCE_cnt h _ _ (by omega)]; exact b
    · rw [← he]; exact (zCE_semi h (by omega)).mp d
  · intro ⟨a, b, d⟩
    have a1 := (zCE_let2 h h0).mpr a
    have e := zCE_let h h0 a1
    refine ⟨a1, ?_, ?_⟩
    · rw [e, zCE_cnt h _ _ (by omega)]; exact b
    · rw [← he] at d; exact (zCE_semi h (by omega)).mpr d
theorem zCE_scan {C C2 : Int → Int} (h : zCE C C2) (z : Int) : ∀ (k : Nat) (p n : Int), 0 ≤ p → zScan C z k p n = zScan C2 z k p n
  | 0, _, _, _ => rfl
  | k + 1, p, n, h0 => by
    have hg := zEnd_ge C p
    have ih := zCE_scan h z k (zEnd C p + 1) (n + 1) (by omega)
    show (if zStOk C p then (if zEnd C p + 1 < z then zScan C z k (zEnd C p + 1) (n + 1) else (-1, n + 1)) else (zEnd C p, n)) = (if zStOk C2 p then (if zEnd C2 p + 1 < z then zScan C2 z k (zEnd C2 p + 1) (n + 1) else (-1, n + 1)) else (zEnd C2 p, n))
    have ee := zCE_end h h0
    by_cases q : zStOk C p
    · rw [if_pos q, if_pos ((zCE_ok h h0).mp q)]
      by_cases q2 : zEnd C p + 1 < z
      · rw [if_pos q2, if_pos (show zEnd C2 p + 1 < z by rw [← ee]; exact q2), ih, ee]
      · rw [if_neg q2, if_neg (show ¬ zEnd C2 p + 1 < z by rw [← ee]; exact q2)]
    · rw [if_neg q, if_neg (fun x => q ((zCE_ok h h0).mpr x)), ee]
theorem zCE_dig {C C2 : Int → Int} {p : Int} (h : zCE C C2) (h0 : 0 ≤ p) (hd : 48 ≤ C p ∧ C p ≤ 57) : C p = C2 p := by
  rcases h p h0 with e | ⟨_, b, _⟩
  · exact e
  · exact absurd hd b
theorem zCnt_all {C : Int → Int} : ∀ (K : Nat) (p : Int) (j : Nat), (j : Int) < zCnt C p K → 48 ≤ C (p + (j : Int)) ∧ C (p + (j : Int)) ≤ 57
  | 0, p, j, h => by
    have h : (j : Int) < 0 := h
    omega
  | K + 1, p, j, h => by
    by_cases q : 48 ≤ C p ∧ C p ≤ 57
    · rw [zCnt_y K q] at h
      cases j with
      | zero => rw [show p + ((0 : Nat) : Int) = p by omega]; exact q
      | succ j =>
        have ih := zCnt_all (C := C) K (p + 1) j (by omega)
        rw [show p + ((j + 1 : Nat) : Int) = p + 1 + (j : Int) by omega]; exact ih
    · rw [zCnt_n _ q] at h; omega
theorem zCE_vl {C C2 : Int → Int} {p : Int} (h : zCE C C2) (h0 : 0 ≤ p) (K : Nat) : ∀ k : Nat, (k : Int) ≤ zCnt C p K → zVl C p k = zVl C2 p k
  | 0, _ => rfl
  | k + 1, hk => by
    have ih := zCE_vl h h0 K k (by omega)
    have d := zCE_dig h (by omega) (zCnt_all K p k (by omega))
    show 10 * zVl C p k + C (p + (k : Int)) - 48 = 10 * zVl C2 p k + C2 (p + (k : Int)) - 48
    rw [ih, d]
theorem zCE_tl {C C2 S : Int → Int} {p : Int} (h : zCE C C2) (h0 : 0 ≤ p) (ok : zStOk C p) : zTl C S p = zTl C2 S p := by
  have hl := ok.1
  have e := zCE_let h h0 hl
  have hd := zStOk_d ok
  have hc := zCE_cnt h 4 (p + 3) (by omega)
  have hv : zVl C (p + 3) (zCnt C (p + 3) 4).toNat = zVl C2 (p + 3) (zCnt C2 (p + 3) 4).toNat := by
    rw [← hc]
    have hr := zCnt_rng C 4 (p + 3)
    exact zCE_vl h (by omega) 4 _ (by omega)
  have d1 : C p ≠ 117 → C (p + 1) = C2 (p + 1) := fun q => zCE_dig h (by omega) (hd.1 q)
  have d2 : C p ≠ 117 → C p ≠ 114 → C (p + 2) = C2 (p + 2) := fun q q2 => zCE_dig h (by omega) (hd.2 q q2)
  rcases hl with q | q | q | q | q
  · rw [zTl_h q, zTl_h (show C2 p = 104 by rw [← e]; exact q), hv, d1 (by omega), d2 (by omega) (by omega)]
  · rw [zTl_r q, zTl_r (show C2 p = 114 by rw [← e]; exact q), d1 (by omega)]
  · rw [zTl_g q, zTl_g (show C2 p = 103 by rw [← e]; exact q), hv, d1 (by omega), d2 (by omega) (by omega)]
  · rw [zTl_m q, zTl_m (show C2 p = 109 by rw [← e]; exact q), d1 (by omega), d2 (by omega) (by omega)]
  · rw [zTl_u q, zTl_u (show C2 p = 117 by rw [← e]; exact q)]
theorem zCE_do {C C2 : Int → Int} (h : zCE C C2) (z : Int) : ∀ (k : Nat) (p n : Int) (S : Int → Int), k = (101 - n).toNat → 0 ≤ n ∧ n ≤ 101 → 0 ≤ p → (p < z → (zScan C z k p n).1 = -1) → zDo C z k p S = zDo C2 z k p S
  | 0, _, _, _, _, _, _, _ => rfl
  | k + 1, p, n, S, hk, hn, h0, hs => by
    show (if p < z then (if (zTl C S p).1 = 1 then zDo C z k (zEnd C p + 1) (zTl C S p).2 else (p, S)) else (-1, S)) = (if p < z then (if (zTl C2 S p).1 = 1 then zDo C2 z k (zEnd C2 p + 1) (zTl C2 S p).2 else (p, S)) else (-1, S))
    by_cases q : p < z
    · have hz := hs q
      rw [hk] at hz
      have ok := zScan_ok (C := C) (z := z) (p := p) (n := n) ⟨by omega, by omega⟩ h0 hz
      have hg := zEnd_ge C p
      have ih := zCE_do h z k (zEnd C p + 1) (n + 1) (zTl C S p).2 (by omega) (by omega) (by omega) (fun y => by rw [show k = (101 - (n + 1)).toNat by omega]; exact ok.2 y)
      rw [← zCE_tl h h0 ok.1, ← zCE_end h h0, ih]
    · rw [if_neg q, if_neg q]
theorem zStrG_s {C C2 S : Int → Int} {z : Int} (h : zCE C C2) : zStrG C z S = zStrG C2 z S := by
  unfold zStrG
  rw [← zCE_scan h z 101 0 0 (by omega)]
  by_cases q : (zScan C z 101 0 0).1 = -1
  · rw [← zCE_do h z 101 0 0 S (by omega) (by omega) (by omega) (fun _ => q)]
  · rw [if_pos q, if_pos q]
