/-! ===== the class and the reference side by side ===== -/
def LSh (g : xG) (σ : xS) (Kf : Int → Option Nat) (So Sz : Int → Int) (El : Int → Int → Int) : Prop := MRef g σ.1 25 8 Kf ∧ MArr g σ.1 26 8 So ∧ MArr g σ.1 27 8 Sz ∧ XsOk σ Kf So Sz ∧ MGrid g σ.1 ∧ (∀ d : Int, 0 ≤ d → d ≤ 7 → MArr g σ.1 (29 + d.toNat) 100 (El d)) ∧ ∀ d k : Int, inR (El d k)
def LX (g : xG) (σ : xS) (ph : Nat) (tk n rd : Int) (P : Int → Int) (G : Int → Option Nat) (ni ri : Int) (Pi : Int → Int) (Gi Kf : Int → Option Nat) (So Sz : Int → Int) (El : Int → Int → Int) : Prop := XObj g σ.1 ph tk ∧ (ph ∈ σ.2.1 ∧ σ.2.2.1 ph = 0 ∧ σ.2.2.2 ph = 0) ∧ (tk = 0 ∨ tk = 1) ∧ HsOk σ ∧ (StAt g σ.1 1 n rd P G ∧ StOk σ n rd P G ∧ n ≤ 8) ∧ (StAt g σ.1 4 ni ri Pi Gi ∧ StOk σ ni ri Pi Gi ∧ ni ≤ 8) ∧ xStr g σ.1 σ 7 ∧ xPt g σ.1 σ ∧ (∃ b z d, TObj g σ.1 b z d) ∧ LSh g σ Kf So Sz El
def LM (g : xG) (M : xM) (ov : Nat → Int) (S Im Kp So2 Sz2 El2 KK KF : Int → Int) : Prop := MObj g M ov ∧ (MArr g M 38 29 S ∧ SmOk S ∧ S 0 ≤ 8) ∧ (MArr g M 39 29 Im ∧ ∀ k, inR (Im k)) ∧ (∃ Rd : Int → Int, MArr g M 40 29 Rd) ∧ (∃ Mi : Int → Int, MArr g M 41 29 Mi) ∧ (MArr g M 42 8 Kp ∧ MArr g M 43 8 So2 ∧ MArr g M 44 8 Sz2 ∧ MArr g M 45 800 El2 ∧ MArr g M 46 8 KK ∧ MArr g M 47 8 KF) ∧ ShOk Kp So2 Sz2 El2 KK KF ∧ (∃ Nm : Int → Int, MArr g M 48 3 Nm ∧ ∀ k, inR (Nm k)) ∧ ∃ Wz : Int → Int, MArr g M 49 8 Wz
def LO (g : xG) (M : xM) : Prop := ∃ f : Nat → Int64, M 50 = .inl (g.2.1 3, 1, .inr (.inl f))
def zShs (σ : xS) (Kf : Int → Option Nat) (So Sz : Int → Int) (El : Int → Int → Int) (Kp So2 Sz2 El2 KK KF : Int → Int) : Prop := ∀ d : Int, 0 ≤ d → d ≤ 7 → xKp Kf So d = Kp d ∧ (Kp d = 1 → sK σ Kf d = (KK d).toNat ∧ sF σ Kf d = KF d) ∧ (Kp d = 2 → So d = So2 d ∧ Sz d = Sz2 d ∧ ∀ j : Int, 0 ≤ j → j < 100 → El d j = El2 (100 * d + j))
def LR (σ : xS) (ph : Nat) (tk n rd : Int) (P : Int → Int) (G : Int → Option Nat) (ni ri : Int) (Pi : Int → Int) (Gi Kf : Int → Option Nat) (So Sz : Int → Int) (El : Int → Int → Int) (ov : Nat → Int) (S Im Kp So2 Sz2 El2 KK KF : Int → Int) : Prop := xSame σ n rd P G S ∧ ov 10 = tk ∧ (tk = 1 → SmOk Im ∧ xSame σ ni ri Pi Gi Im) ∧ zShs σ Kf So Sz El Kp So2 Sz2 El2 KK KF
def LI (g : xG) (σ : xS) : Prop := ∃ (ph : Nat) (tk n rd : Int) (P : Int → Int) (G : Int → Option Nat) (ni ri : Int) (Pi : Int → Int) (Gi Kf : Int → Option Nat) (So Sz : Int → Int) (El : Int → Int → Int) (ov : Nat → Int) (S Im Kp So2 Sz2 El2 KK KF : Int → Int), LX g σ ph tk n rd P G ni ri Pi Gi Kf So Sz El ∧ LM g σ.1 ov S Im Kp So2 Sz2 El2 KK KF ∧ LO g σ.1 ∧ LR σ ph tk n rd P G ni ri Pi Gi Kf So Sz El ov S Im Kp So2 Sz2 El2 KK KF
/-! what stays -/
theorem StAt.fr {g : xG} {M M1 : xM} {b : Nat} {n rd : Int} {P : Int → Int} {G : Int → Option Nat} (h : StAt g M b n rd P G) (e0 : M1 b = M b) (e1 : M1 (b + 1) = M (b + 1)) (e2 : M1 (b + 2) = M (b + 2)) : StAt g M1 b n rd P G := ⟨e0.trans h.1, e1.trans h.2.1, e2.trans h.2.2⟩
theorem xStr.fr {g : xG} {M M1 : xM} {σ : xS} {b : Nat} (h : xStr g M σ b) (e0 : M1 b = M b) (e1 : M1 (b + 1) = M (b + 1)) (e2 : M1 (b + 2) = M (b + 2)) : xStr g M1 σ b := by
  obtain ⟨n, rd, P, G, h1, h2⟩ := h
  exact ⟨n, rd, P, G, h1.fr e0 e1 e2, h2⟩
theorem xPt.fr {g : xG} {M M1 : xM} {σ τ : xS} (h : xPt g M σ) (hg : xGrow σ τ) (e : ∀ j, 10 ≤ j ∧ j ≤ 22 → M1 j = M j) : xPt g M1 τ := by
  obtain ⟨wy, un, hd, mv, na, ra, Pa, Ga, Rc, Wb, Sx, h1, h2, h3, h4, h5, h6, h7, h8⟩ := h
  exact ⟨wy, un, hd, mv, na, ra, Pa, Ga, Rc, Wb, Sx, (e 13 (by omega)).trans h1, h2.fr (e 10 (by omega)) (e 11 (by omega)) (e 12 (by omega)), h3.grow hg, (e 14 (by omega)).trans h4, (e 15 (by omega)).trans h5, (e 16 (by omega)).trans h6, fun d a b => (e (17 + d.toNat) (by omega)).trans (h7 d a b), h8⟩
theorem LSh.fr {g : xG} {σ τ : xS} {Kf : Int → Option Nat} {So Sz : Int → Int} {El : Int → Int → Int} (h : LSh g σ Kf So Sz El) (hg : xGrow σ τ) (e : ∀ j, 25 ≤ j ∧ j ≤ 36 → τ.1 j = σ.1 j) : LSh g τ Kf So Sz El := by
  obtain ⟨h1, h2, h3, h4, h5, h6, h7⟩ := h
  exact ⟨(e 25 (by omega)).trans h1, (e 26 (by omega)).trans h2, (e 27 (by omega)).trans h3, h4.grow hg, (e 28 (by omega)).trans h5, fun d a b => (e (29 + d.toNat) (by omega)).trans (h6 d a b), h7⟩
theorem HsOk.same {σ τ : xS} (h : HsOk σ) (e : τ.2 = σ.2) : HsOk τ := fun a ha => by rw [e] at ha ⊢; exact h a ha
theorem LX.fr {g : xG} {σ τ : xS} {ph : Nat} {tk n rd : Int} {P : Int → Int} {G : Int → Option Nat} {ni ri : Int} {Pi : Int → Int} {Gi Kf : Int → Option Nat} {So Sz : Int → Int} {El : Int → Int → Int} (h : LX g σ ph tk n rd P G ni ri Pi Gi Kf So Sz El) (h2 : τ.2 = σ.2) (e : ∀ j, j ≤ 36 → τ.1 j = σ.1 j) : LX g τ ph tk n rd P G ni ri Pi Gi Kf So Sz El := by
  obtain ⟨a1, a2, a3, a4, ⟨a5, a6, a7⟩, ⟨a8, a9, a10⟩, a11, a12, ⟨b, z, d, a13⟩, a14⟩ := h
  have hg : xGrow σ τ := xGrow.rf h2
  exact ⟨(e 0 (by omega)).trans a1, by rw [h2]; exact a2, a3, a4.same h2, ⟨a5.fr (e 1 (by omega)) (e 2 (by omega)) (e 3 (by omega)), a6.grow hg, a7⟩, ⟨a8.fr (e 4 (by omega)) (e 5 (by omega)) (e 6 (by omega)), a9.grow hg, a10⟩, (a11.fr (e 7 (by omega)) (e 8 (by omega)) (e 9 (by omega))).grow hg, a12.fr hg (fun j hj => e j (by omega)), ⟨b, z, d, (e 23 (by omega)).trans a13⟩, a14.fr hg (fun j hj => e j (by omega))⟩
theorem LX_mind {g : xG} {σ τ : xS} {ph : Nat} {tk n rd : Int} {P : Int → Int} {G : Int → Option Nat} {ni ri : Int} {Pi : Int → Int} {Gi Kf : Int → Option Nat} {So Sz : Int → Int} {El : Int → Int → Int} (h : LX g σ ph tk n rd P G ni ri Pi Gi Kf So Sz El) (h2 : τ.2 = σ.2) (e : ∀ j, j ≠ 7 ∧ j ≠ 8 ∧ j ≠ 9 → τ.1 j = σ.1 j) (hm : xStr g τ.1 σ 7) : LX g τ ph tk n rd P G ni ri Pi Gi Kf So Sz El := by
  obtain ⟨a1, a2, a3, a4, ⟨a5, a6, a7⟩, ⟨a8, a9, a10⟩, a11, a12, ⟨b, z, d, a13⟩, a14⟩ := h
  have hg : xGrow σ τ := xGrow.rf h2
  exact ⟨(e 0 (by omega)).trans a1, by rw [h2]; exact a2, a3, a4.same h2, ⟨a5.fr (e 1 (by omega)) (e 2 (by omega)) (e 3 (by omega)), a6.grow hg, a7⟩, ⟨a8.fr (e 4 (by omega)) (e 5 (by omega)) (e 6 (by omega)), a9.grow hg, a10⟩, hm.grow hg, a12.fr hg (fun j hj => e j (by omega)), ⟨b, z, d, (e 23 (by omega)).trans a13⟩, a14.fr hg (fun j hj => e j (by omega))⟩
theorem LX_pt {g : xG} {σ τ : xS} {ph : Nat} {tk n rd : Int} {P : Int → Int} {G : Int → Option Nat} {ni ri : Int} {Pi : Int → Int} {Gi Kf : Int → Option Nat} {So Sz : Int → Int} {El : Int → Int → Int} (h : LX g σ ph tk n rd P G ni ri Pi Gi Kf So Sz El) (h2 : τ.2 = σ.2) (e : ∀ j, j < 10 ∨ j = 16 ∨ 22 < j → τ.1 j = σ.1 j) (hm : xPt g τ.1 σ) : LX g τ ph tk n rd P G ni ri Pi Gi Kf So Sz El := by
  obtain ⟨a1, a2, a3, a4, ⟨a5, a6, a7⟩, ⟨a8, a9, a10⟩, a11, a12, ⟨b, z, d, a13⟩, a14⟩ := h
  have hg : xGrow σ τ := xGrow.rf h2
  exact ⟨(e 0 (by omega)).trans a1, by rw [h2]; exact a2, a3, a4.same h2, ⟨a5.fr (e 1 (by omega)) (e 2 (by omega)) (e 3 (by omega)), a6.grow hg, a7⟩, ⟨a8.fr (e 4 (by omega)) (e 5 (by omega)) (e 6 (by omega)), a9.grow hg, a10⟩, (a11.fr (e 7 (by omega)) (e 8 (by omega)) (e 9 (by omega))).grow hg, hm.fr hg (fun j hj => rfl), ⟨b, z, d, (e 23 (by omega)).trans a13⟩, a14.fr hg (fun j hj => e j (by omega))⟩
theorem LX_str {g : xG} {σ τ : xS} {ph : Nat} {tk n rd : Int} {P : Int → Int} {G : Int → Option Nat} {ni ri : Int} {Pi : Int → Int} {Gi Kf : Int → Option Nat} {So Sz : Int → Int} {El : Int → Int → Int} {n2 rd2 : Int} {P2 : Int → Int} {G2 : Int → Option Nat} (h : LX g σ ph tk n rd P G ni ri Pi Gi Kf So Sz El) (h2 : τ.2 = σ.2) (e : ∀ j, j ≠ 1 ∧ j ≠ 2 ∧ j ≠ 3 → τ.1 j = σ.1 j) (hs : StAt g τ.1 1 n2 rd2 P2 G2) (ho : StOk σ n2 rd2 P2 G2) (h8 : n2 ≤ 8) : LX g τ ph tk n2 rd2 P2 G2 ni ri Pi Gi Kf So Sz El := by
  obtain ⟨a1, a2, a3, a4, ⟨a5, a6, a7⟩, ⟨a8, a9, a10⟩, a11, a12, ⟨b, z, d, a13⟩, a14⟩ := h
  have hg : xGrow σ τ := xGrow.rf h2
  exact ⟨(e 0 (by omega)).trans a1, by rw [h2]; exact a2, a3, a4.same h2, ⟨hs, ho.grow hg, h8⟩, ⟨a8.fr (e 4 (by omega)) (e 5 (by omega)) (e 6 (by omega)), a9.grow hg, a10⟩, (a11.fr (e 7 (by omega)) (e 8 (by omega)) (e 9 (by omega))).grow hg, a12.fr hg (fun j hj => e j (by omega)), ⟨b, z, d, (e 23 (by omega)).trans a13⟩, a14.fr hg (fun j hj => e j (by omega))⟩
theorem LX_sh {g : xG} {σ τ : xS} {ph : Nat} {tk n rd : Int} {P : Int → Int} {G : Int → Option Nat} {ni ri : Int} {Pi : Int → Int} {Gi Kf : Int → Option Nat} {So Sz : Int → Int} {El : Int → Int → Int} {Kf2 : Int → Option Nat} {So9 Sz9 : Int → Int} {El9 : Int → Int → Int} (h : LX g σ ph tk n rd P G ni ri Pi Gi Kf So Sz El) (hg : xGrow σ τ) (hH : HsOk τ) (e : ∀ j, j ≤ 24 → τ.1 j = σ.1 j) (hs : LSh g τ Kf2 So9 Sz9 El9) : LX g τ ph tk n rd P G ni ri Pi Gi Kf2 So9 Sz9 El9 := by
  obtain ⟨a1, ⟨a2, p2, p3⟩, a3, a4, ⟨a5, a6, a7⟩, ⟨a8, a9, a10⟩, a11, a12, ⟨b, z, d, a13⟩, a14⟩ := h
  obtain ⟨g1, g2, g3⟩ := hg ph a2
  exact ⟨(e 0 (by omega)).trans a1, ⟨g1, g2.trans p2, g3.trans p3⟩, a3, hH, ⟨a5.fr (e 1 (by omega)) (e 2 (by omega)) (e 3 (by omega)), a6.grow hg, a7⟩, ⟨a8.fr (e 4 (by omega)) (e 5 (by omega)) (e 6 (by omega)), a9.grow hg, a10⟩, (a11.fr (e 7 (by omega)) (e 8 (by omega)) (e 9 (by omega))).grow hg, a12.fr hg (fun j hj => e j (by omega)), ⟨b, z, d, (e 23 (by omega)).trans a13⟩, hs⟩
theorem LM.fr {g : xG} {M M1 : xM} {ov : Nat → Int} {S Im Kp So2 Sz2 El2 KK KF : Int → Int} (h : LM g M ov S Im Kp So2 Sz2 El2 KK KF) (e : ∀ j, 37 ≤ j ∧ j ≤ 49 → M1 j = M j) : LM g M1 ov S Im Kp So2 Sz2 El2 KK KF := by
  obtain ⟨a1, ⟨a2, a3⟩, ⟨a4, a5⟩, ⟨Rd, a6⟩, ⟨Mi, a7⟩, ⟨b1, b2, b3, b4, b5, b6⟩, a8, ⟨Nm, a9, a10⟩, Wz, a11⟩ := h
  exact ⟨(e 37 (by omega)).trans a1, ⟨(e 38 (by omega)).trans a2, a3⟩, ⟨(e 39 (by omega)).trans a4, a5⟩, ⟨Rd, (e 40 (by omega)).trans a6⟩, ⟨Mi, (e 41 (by omega)).trans a7⟩, ⟨(e 42 (by omega)).trans b1, (e 43 (by omega)).trans b2, (e 44 (by omega)).trans b3, (e 45 (by omega)).trans b4, (e 46 (by omega)).trans b5, (e 47 (by omega)).trans b6⟩, a8, ⟨Nm, (e 48 (by omega)).trans a9, a10⟩, Wz, (e 49 (by omega)).trans a11⟩
theorem LO.fr {g : xG} {M M1 : xM} (h : LO g M) (e : M1 50 = M 50) : LO g M1 := by
  obtain ⟨f, hf⟩ := h
  exact ⟨f, e.trans hf⟩
theorem zShs.grow {σ τ : xS} {Kf : Int → Option Nat} {So Sz : Int → Int} {El : Int → Int → Int} {Kp So2 Sz2 El2 KK KF : Int → Int} (h : zShs σ Kf So Sz El Kp So2 Sz2 El2 KK KF) (hx : XsOk σ Kf So Sz) (hg : xGrow σ τ) : zShs τ Kf So Sz El Kp So2 Sz2 El2 KK KF := fun d d0 d1 => by
  obtain ⟨h1, h2, h3⟩ := h d d0 d1
  refine ⟨h1, fun q => ?_, h3⟩
  have z := sK_grow hg (G := Kf) (i := d) (fun a ha => hx.2.2.1 d a ha)
  rw [z.1, z.2]; exact h2 q
theorem LR.grow {g : xG} {σ τ : xS} {ph : Nat} {tk n rd : Int} {P : Int → Int} {G : Int → Option Nat} {ni ri : Int} {Pi : Int → Int} {Gi Kf : Int → Option Nat} {So Sz : Int → Int} {El : Int → Int → Int} {ov : Nat → Int} {S Im Kp So2 Sz2 El2 KK KF : Int → Int} (h : LR σ ph tk n rd P G ni ri Pi Gi Kf So Sz El ov S Im Kp So2 Sz2 El2 KK KF) (hX : LX g σ ph tk n rd P G ni ri Pi Gi Kf So Sz El) (hg : xGrow σ τ) : LR τ ph tk n rd P G ni ri Pi Gi Kf So Sz El ov S Im Kp So2 Sz2 El2 KK KF := by
  obtain ⟨h1, h2, h3, h4⟩ := h
  obtain ⟨a1, a2, a3, a4, ⟨a5, a6, a7⟩, ⟨a8, a9, a10⟩, a11, a12, a13, s1, s2, s3, s4, s5⟩ := hX
  exact ⟨h1.grow a6 hg, h2, fun q => ⟨(h3 q).1, (h3 q).2.grow a9 hg⟩, h4.grow s4 hg⟩
theorem xSame_agr {σ : xS} {n rd : Int} {P S T : Int → Int} {G : Int → Option Nat} (h : xSame σ n rd P G S) (hn : n ≤ 9) (e : ∀ j, 0 ≤ j → j < 29 → T j = S j) : xSame σ n rd P G T := by
  obtain ⟨h1, h2, h3⟩ := h
  refine ⟨by rw [e 0 (by omega) (by omega)]; exact h1, by rw [e 1 (by omega) (by omega)]; exact h2, fun i a b => ?_⟩
  have z := h3 i a b
  unfold mK mF mP at z ⊢
  rw [e _ (by omega) (by omega), e _ (by omega) (by omega), e _ (by omega) (by omega)]
  exact z
theorem LI_back {g : xG} {σ τ : xS} {ph : Nat} {tk n rd : Int} {P : Int → Int} {G : Int → Option Nat} {ni ri : Int} {Pi : Int → Int} {Gi Kf : Int → Option Nat} {So Sz : Int → Int} {El : Int → Int → Int} {ov : Nat → Int} {S Im Kp So2 Sz2 El2 KK KF : Int → Int} (hX : LX g σ ph tk n rd P G ni ri Pi Gi Kf So Sz El) (hM : LM g σ.1 ov S Im Kp So2 Sz2 El2 KK KF) (hO : LO g σ.1) (hR : LR σ ph tk n rd P G ni ri Pi Gi Kf So Sz El ov S Im Kp So2 Sz2 El2 KK KF) (h2 : τ.2 = σ.2) (e : ∀ j, j ≠ 37 ∧ j ≠ 38 ∧ j ≠ 41 ∧ j ≠ 49 → τ.1 j = σ.1 j) (ho : ∃ ov2, MObj g τ.1 ov2 ∧ ov2 10 = ov 10) (hb : xBack g τ.1 S) (hw : ∃ W2 : Int → Int, MArr g τ.1 49 8 W2) : LI g τ := by
  obtain ⟨ov2, o1, o2⟩ := ho
  obtain ⟨S2, Mi2, s1, s2, s3⟩ := hb
  have hX2 := hX.fr h2 (fun j hj => e j (by omega))
  have hR2 := hR.grow hX (xGrow.rf h2)
  obtain ⟨a1, ⟨a2, a3, a33⟩, ⟨a4, a5⟩, ⟨Rd, a6⟩, ⟨Mi, a7⟩, ⟨b1, b2, b3, b4, b5, b6⟩, a8, ⟨Nm, a9, a10⟩, Wz, a11⟩ := hM
  obtain ⟨r1, r2, r3⟩ := hR2
  have n8 := hX.2.2.2.2.1.2.2
  refine ⟨ph, tk, n, rd, P, G, ni, ri, Pi, Gi, Kf, So, Sz, El, ov2, S2, Im, Kp, So2, Sz2, El2, KK, KF, hX2, ⟨o1, ⟨s1, SmOk_agr a3 s3.1 s3.2, by rw [s3.2 0 (by omega) (by omega)]; exact a33⟩, ⟨(e 39 (by omega)).trans a4, a5⟩, ⟨Rd, (e 40 (by omega)).trans a6⟩, ⟨Mi2, s2⟩, ⟨(e 42 (by omega)).trans b1, (e 43 (by omega)).trans b2, (e 44 (by omega)).trans b3, (e 45 (by omega)).trans b4, (e 46 (by omega)).trans b5, (e 47 (by omega)).trans b6⟩, a8, ⟨Nm, (e 48 (by omega)).trans a9, a10⟩, hw⟩, hO.fr (e 50 (by omega)), xSame_agr r1 (by omega) s3.2, o2.trans r2, r3⟩
theorem LI_str {g : xG} {σ σ1 τ : xS} {ph : Nat} {tk n rd : Int} {P : Int → Int} {G : Int → Option Nat} {ni ri : Int} {Pi : Int → Int} {Gi Kf : Int → Option Nat} {So Sz : Int → Int} {El : Int → Int → Int} {ov : Nat → Int} {S Im Kp So2 Sz2 El2 KK KF : Int → Int} {n2 rd2 : Int} {P2 S2 : Int → Int} {G2 : Int → Option Nat} (hX : LX g σ ph tk n rd P G ni ri Pi Gi Kf So Sz El) (hM : LM g σ.1 ov S Im Kp So2 Sz2 El2 KK KF) (hO : LO g σ.1) (hR : LR σ ph tk n rd P G ni ri Pi Gi Kf So Sz El ov S Im Kp So2 Sz2 El2 KK KF) (h1 : σ1.2 = σ.2) (e1 : ∀ j, j ≠ 1 ∧ j ≠ 2 ∧ j ≠ 3 → σ1.1 j = σ.1 j) (hs : StAt g σ1.1 1 n2 rd2 P2 G2) (hk : StOk σ n2 rd2 P2 G2) (h8 : n2 ≤ 8) (h2 : τ.2 = σ1.2) (e2 : ∀ j, j ≠ 38 → τ.1 j = σ1.1 j) (hm : MArr g τ.1 38 29 S2) (sok : SmOk S2) (hsm : xSame σ n2 rd2 P2 G2 S2) : LI g τ := by
  have hX2 := (LX_str hX h1 e1 hs hk h8).fr h2 (fun j hj => e2 j (by omega))
  have hM1 := hM.fr (M1 := σ1.1) (fun j hj => e1 j (by omega))
  have hg : xGrow σ τ := xGrow.rf (h2.trans h1)
  have hR2 := hR.grow hX hg
  obtain ⟨a1, ⟨a2, a3, a33⟩, ⟨a4, a5⟩, ⟨Rd, a6⟩, ⟨Mi, a7⟩, ⟨b1, b2, b3, b4, b5, b6⟩, a8, ⟨Nm, a9, a10⟩, Wz, a11⟩ := hM1
  obtain ⟨r1, r2, r3⟩ := hR2
  have e0 := hsm.1
  refine ⟨ph, tk, n2, rd2, P2, G2, ni, ri, Pi, Gi, Kf, So, Sz, El, ov, S2, Im, Kp, So2, Sz2, El2, KK, KF, hX2, ⟨(e2 37 (by omega)).trans a1, ⟨hm, sok, by omega⟩, ⟨(e2 39 (by omega)).trans a4, a5⟩, ⟨Rd, (e2 40 (by omega)).trans a6⟩, ⟨Mi, (e2 41 (by omega)).trans a7⟩, ⟨(e2 42 (by omega)).trans b1, (e2 43 (by omega)).trans b2, (e2 44 (by omega)).trans b3, (e2 45 (by omega)).trans b4, (e2 46 (by omega)).trans b5, (e2 47 (by omega)).trans b6⟩, a8, ⟨Nm, (e2 48 (by omega)).trans a9, a10⟩, Wz, (e2 49 (by omega)).trans a11⟩, (hO.fr (e1 50 (by omega))).fr (e2 50 (by omega)), hsm.grow hk hg, r2, r3⟩
theorem LI_sh {g : xG} {σ σ1 τ : xS} {ph : Nat} {tk n rd : Int} {P : Int → Int} {G : Int → Option Nat} {ni ri : Int} {Pi : Int → Int} {Gi Kf : Int → Option Nat} {So Sz : Int → Int} {El : Int → Int → Int} {ov : Nat → Int} {S Im Kp So2 Sz2 El2 KK KF : Int → Int} {Kf2 : Int → Option Nat} {So9 Sz9 : Int → Int} {El9 : Int → Int → Int} {Kp9 So8 Sz8 El8 KK9 KF9 : Int → Int} (hX : LX g σ ph tk n rd P G ni ri Pi Gi Kf So Sz El) (hM : LM g σ.1 ov S Im Kp So2 Sz2 El2 KK KF) (hO : LO g σ.1) (hR : LR σ ph tk n rd P G ni ri Pi Gi Kf So Sz El ov S Im Kp So2 Sz2 El2 KK KF) (hg : xGrow σ σ1) (hH : HsOk σ1) (e1 : ∀ j, j ≤ 24 ∨ 37 ≤ j → σ1.1 j = σ.1 j) (hs : LSh g σ1 Kf2 So9 Sz9 El9) (h2 : τ.2 = σ1.2) (e2 : ∀ j, j ≤ 41 ∨ 48 ≤ j → τ.1 j = σ1.1 j) (hm : MArr g τ.1 42 8 Kp9 ∧ MArr g τ.1 43 8 So8 ∧ MArr g τ.1 44 8 Sz8 ∧ MArr g τ.1 45 800 El8 ∧ MArr g τ.1 46 8 KK9 ∧ MArr g τ.1 47 8 KF9) (sok : ShOk Kp9 So8 Sz8 El8 KK9 KF9) (hsm : zShs σ1 Kf2 So9 Sz9 El9 Kp9 So8 Sz8 El8 KK9 KF9) : LI g τ := by
  have hX1 := LX_sh hX hg hH (fun j hj => e1 j (by omega)) hs
  have hX2 := hX1.fr h2 (fun j hj => e2 j (by omega))
  have hM1 := hM.fr (M1 := σ1.1) (fun j hj => e1 j (by omega))
  have hR1 := hR.grow hX hg
  obtain ⟨a1, a2, ⟨a4, a5⟩, ⟨Rd, a6⟩, ⟨Mi, a7⟩, _, a8, ⟨Nm, a9, a10⟩, Wz, a11⟩ := hM1
  have hR2 : LR σ1 ph tk n rd P G ni ri Pi Gi Kf2 So9 Sz9 El9 ov S Im Kp9 So8 Sz8 El8 KK9 KF9 := ⟨hR1.1, hR1.2.1, hR1.2.2.1, hsm⟩
  exact ⟨ph, tk, n, rd, P, G, ni, ri, Pi, Gi, Kf2, So9, Sz9, El9, ov, S, Im, Kp9, So8, Sz8, El8, KK9, KF9, hX2, ⟨(e2 37 (by omega)).trans a1, ⟨(e2 38 (by omega)).trans a2.1, a2.2⟩, ⟨(e2 39 (by omega)).trans a4, a5⟩, ⟨Rd, (e2 40 (by omega)).trans a6⟩, ⟨Mi, (e2 41 (by omega)).trans a7⟩, hm, sok, ⟨Nm, (e2 48 (by omega)).trans a9, a10⟩, Wz, (e2 49 (by omega)).trans a11⟩, (hO.fr (e1 50 (by omega))).fr (e2 50 (by omega)), hR2.grow hX1 (xGrow.rf h2)⟩
/-! shelves: the same refusals -/
section SHS
variable {σ : xS} {Kf : Int → Option Nat} {So Sz : Int → Int} {El : Int → Int → Int} {Kp So2 Sz2 El2 KK KF : Int → Int}
theorem zShs_kept (h : zShs σ Kf So Sz El Kp So2 Sz2 El2 KK KF) (d : Int) : zKeptR (xKp Kf So) d = zKeptR Kp d := by
  unfold zKeptR
  by_cases q : 0 ≤ d ∧ d ≤ 7
  · rw [(h d q.1 q.2).1]
  · rw [if_pos q, if_pos q]
theorem zShs_row (h : zShs σ Kf So Sz El Kp So2 Sz2 El2 KK KF) (d o : Int) : zRowR (xKp Kf So) So d o = zRowR Kp So2 d o := by
  unfold zRowR
  by_cases q : 0 ≤ d ∧ d ≤ 7
  · obtain ⟨a, _, b⟩ := h d q.1 q.2
    rw [a]
    by_cases k2 : Kp d = 2
    · rw [(b k2).1]
    · by_cases k0 : Kp d = 0
      · rw [if_pos k0, if_pos k0]
      · rw [if_neg k0, if_neg k0, if_pos (Or.inl k2), if_pos (Or.inl k2)]
  · rw [if_pos q, if_pos q]
theorem zShs_el (h : zShs σ Kf So Sz El Kp So2 Sz2 El2 KK KF) (d i : Int) : zElT (xKp Kf So) Sz d i = zElT Kp Sz2 d i := by
  unfold zElT
  by_cases q : 0 ≤ d ∧ d ≤ 7
  · obtain ⟨a, _, b⟩ := h d q.1 q.2
    rw [a]
    by_cases k2 : Kp d = 2
    · rw [(b k2).2.1]
    · rw [if_pos (Or.inl k2 : Kp d ≠ 2 ∨ ¬ (0 ≤ i ∧ i < Sz d)), if_pos (Or.inl k2 : Kp d ≠ 2 ∨ ¬ (0 ≤ i ∧ i < Sz2 d))]
  · rw [if_pos q, if_pos q]
theorem zShs_put (h : zShs σ Kf So Sz El Kp So2 Sz2 El2 KK KF) (d i : Int) : zPutR (xKp Kf So) So Sz d i = zPutR Kp So2 Sz2 d i := by
  unfold zPutR
  rw [zShs_row h]
  by_cases q : zRowR Kp So2 d (-1) ≠ 0
  · rw [if_pos q, if_pos q]
  · have z := zRowR_0 (Kp := Kp) (So := So2) (d := d) (o := -1) rfl (by omega)
    rw [((h d z.1 z.2.1).2.2 z.2.2.1).2.1]
theorem zShs_comes (h : zShs σ Kf So Sz El Kp So2 Sz2 El2 KK KF) (n d pu : Int) : zComesR (xKp Kf So) n d pu = zComesR Kp n d pu := by
  unfold zComesR
  rw [zShs_kept h]
theorem zShs_copy (h : zShs σ Kf So Sz El Kp So2 Sz2 El2 KK KF) (d i e j n : Int) : zCopyR (xKp Kf So) So Sz d i e j n = zCopyR Kp So2 Sz2 d i e j n := by
  unfold zCopyR
  by_cases q : ¬ (0 ≤ d ∧ d ≤ 7) ∨ ¬ (0 ≤ e ∧ e ≤ 7)
  · rw [if_pos q, if_pos q]
  · obtain ⟨a, _, b⟩ := h d (by omega) (by omega)
    obtain ⟨a2, _, b2⟩ := h e (by omega) (by omega)
    rw [a, a2]
    by_cases k2 : Kp d = 2 ∧ Kp e = 2
    · rw [(b k2.1).1, (b k2.1).2.1, (b2 k2.2).1, (b2 k2.2).2.1]
    · rw [if_neg q, if_neg q]
      by_cases k0 : Kp d = 0 ∨ Kp e = 0
      · rw [if_pos k0, if_pos k0]
      · rw [if_neg k0, if_neg k0, if_pos (show Kp d ≠ 2 ∨ Kp e ≠ 2 ∨ So d ≠ So e by omega), if_pos (show Kp d ≠ 2 ∨ Kp e ≠ 2 ∨ So2 d ≠ So2 e by omega)]
theorem zShs_str (h : zShs σ Kf So Sz El Kp So2 Sz2 El2 KK KF) (S : Int → Int) (d : Int) (hz : 0 ≤ d ∧ d ≤ 7 → Kp d = 2 → 0 ≤ Sz2 d ∧ Sz2 d ≤ 100) : zStrC (xKp Kf So) So Sz El S d = zStr Kp So2 Sz2 El2 S d := by
  unfold zStrC zStr
  rw [zShs_row h]
  by_cases q : zRowR Kp So2 d 0 ≠ 0
  · rw [if_pos q, if_pos q]
  · have z := zRowR_0 (Kp := Kp) (So := So2) (d := d) (o := 0) rfl (by omega)
    obtain ⟨b1, b2, b3⟩ := (h d z.1 z.2.1).2.2 z.2.2.1
    have hz := hz ⟨z.1, z.2.1⟩ z.2.2.1
    rw [if_neg q, if_neg q, b2]
    refine zStrG_s (fun p p0 => ?_)
    unfold zCc zC
    by_cases l : p < Sz2 d
    · rw [if_pos ⟨p0, l⟩, if_pos l]; exact Or.inl (b3 p p0 (by omega))
    · rw [if_neg (show ¬ (0 ≤ p ∧ p < Sz2 d) from fun x => l x.2), if_neg l]; exact Or.inr ⟨by unfold zLet; omega, by omega, by omega, by unfold zLet; omega, by omega, by omega⟩
end SHS
theorem zComesR_0 {Kp : Int → Int} {n d pu : Int} (h : 0 ≤ zComesR Kp n d pu) : (0 ≤ pu ∧ pu ≤ 9999) ∧ (0 ≤ d ∧ d ≤ 7) ∧ Kp d = 1 ∧ n ≠ 8 := by
  unfold zComesR at h
  have r := zKeptR_rng Kp d
  by_cases q : ¬ (0 ≤ pu ∧ pu ≤ 9999)
  · rw [if_pos q] at h; omega
  · rw [if_neg q] at h
    by_cases q2 : zKeptR Kp d ≠ 0
    · rw [if_pos q2] at h; omega
    · rw [if_neg q2] at h
      have z := zKeptR_0 (Kp := Kp) (d := d) rfl (by omega)
      by_cases q3 : n = 8
      · rw [if_pos q3] at h; omega
      · exact ⟨by omega, ⟨z.1, z.2.1⟩, z.2.2, q3⟩
theorem xSame_joinE {σ : xS} {n rd f v : Int} {P S : Int → Int} {G : Int → Option Nat} {o : Option Nat} {k : Int} (h : xSame σ n rd P G S) (h0 : 0 ≤ n) (hk : kdO σ.2.2.1 o = k.toNat) (hf : fgO σ.2.2.2 o = f) : xSame σ (n + 1) rd (upI P n v) (upI G n o) (zJoin S k f v) := by
  obtain ⟨h1, h2, h3⟩ := h
  refine ⟨by unfold zJoin; rw [upI_s]; omega, by unfold zJoin; rw [upI_n (by omega), upI_n (by omega), upI_n (by omega), upI_n (by omega)]; exact h2, fun i i0 i1 => ?_⟩
  by_cases e : i = n
  · subst e
    have e1 : sK σ (upI G i o) i = k.toNat := by unfold sK; rw [upI_s]; exact hk
    have e2 : sF σ (upI G i o) i = f := by unfold sF; rw [upI_s]; exact hf
    have e3 : mK (zJoin S k f v) i = k.toNat := by
      unfold mK zJoin; rw [h1, upI_n (by omega), upI_n (by omega), upI_n (by omega), upI_s]
    have e4 : mF (zJoin S k f v) i = f := by
      unfold mF zJoin; rw [h1, upI_n (by omega), upI_n (by omega), upI_s]
    have e5 : mP (zJoin S k f v) i = v := by
      unfold mP zJoin; rw [h1, upI_n (by omega), upI_s]
    rw [e1, e2, e3, e4, e5, upI_s]
    exact ⟨rfl, rfl, rfl⟩
  · have z := h3 i i0 (by omega)
    have e1 : sK σ (upI G n o) i = sK σ G i := by unfold sK; rw [upI_n e]
    have e2 : sF σ (upI G n o) i = sF σ G i := by unfold sF; rw [upI_n e]
    have e3 : mK (zJoin S k f v) i = mK S i := by
      unfold mK zJoin; rw [upI_n (by omega), upI_n (by omega), upI_n (by omega), upI_n (by omega)]
    have e4 : mF (zJoin S k f v) i = mF S i := by
      unfold mF zJoin; rw [upI_n (by omega), upI_n (by omega), upI_n (by omega), upI_n (by omega)]
    have e5 : mP (zJoin S k f v) i = mP S i := by
      unfold mP zJoin; rw [upI_n (by omega), upI_n (by omega), upI_n (by omega), upI_n (by omega)]
    rw [e1, e2, e3, e4, e5, upI_n e]
    exact z
theorem StOk_joinE {σ : xS} {n rd v : Int} {P : Int → Int} {G : Int → Option Nat} {a : Nat} (h : StOk σ n rd P G) (h8 : n ≤ 8) (ha : a ∈ σ.2.1) (hv : 0 ≤ v ∧ v ≤ 9999) : StOk σ (n + 1) rd (upI P n v) (upI G n (some a)) := by
  obtain ⟨a1, a2, a3, a4, a5, a6⟩ := h
  refine ⟨by omega, by omega, a3, upI_rng a4 ⟨by omega, by omega⟩, fun i b hb => ?_, fun i h0 h1 => ?_⟩
  · by_cases e : i = n
    · subst e; rw [upI_s] at hb; cases hb; exact ha
    · rw [upI_n e] at hb; exact a5 i b hb
  · by_cases e : i = n
    · subst e; rw [upI_s, upI_s]; exact ⟨⟨a, rfl⟩, hv⟩
    · rw [upI_n e, upI_n e]; exact a6 i h0 (by omega)
theorem SmOk_rd {S : Int → Int} (h : SmOk S) {v : Int} (hv : v = 0 ∨ v = 1) : SmOk (upI S 1 v) := by
  obtain ⟨a1, a2, a3, a4⟩ := h
  refine ⟨upI_rng a1 ⟨by omega, by omega⟩, by rw [upI_n (by omega)]; exact a2, by rw [upI_s]; exact hv, fun i h0 h1 => ?_⟩
  rw [upI_n (by omega)] at h1
  rw [upI_n (by omega), upI_n (by omega), upI_n (by omega)]
  exact a4 i h0 h1
theorem xSame_weeks {σ : xS} {n rd w : Int} {P S : Int → Int} {G : Int → Option Nat} (h : xSame σ n rd P G S) (h0 : 0 ≤ n) : xSame σ n rd (zCopy (fun i => min 9999 (P i + w * zWeek (sK σ G i) (sF σ G i))) P n) G (zWeeksS S w (S 0)) := by
  obtain ⟨h1, h2, h3⟩ := h
  refine ⟨by rw [zWeeksS_hi (by omega)]; exact h1, by rw [zWeeksS_hi (by omega)]; exact h2, fun i a b => ?_⟩
  obtain ⟨z1, z2, z3⟩ := h3 i a b
  have e3 : mK (zWeeksS S w (S 0)) i = mK S i := by
    unfold mK zWeeksS; rw [if_neg (by omega)]
  have e4 : mF (zWeeksS S w (S 0)) i = mF S i := by
    unfold mF zWeeksS; rw [if_neg (by omega)]
  have e5 : mP (zWeeksS S w (S 0)) i = min 9999 (mP S i + w * zWeek (mK S i) (mF S i)) := by
    have ei : (2 + 3 * i + 2 - 2) / 3 = i := by omega
    show zWeeksS S w (S 0) (2 + 3 * i + 2) = _
    unfold zWeeksS; rw [if_pos (by omega), ei]; rfl
  rw [e3, e4, e5, zCopy_in a b, z1, z2, z3]
  exact ⟨rfl, rfl, rfl⟩
theorem xSame_cp {σ : xS} {n rd : Int} {P S T Pm : Int → Int} {G Gm : Int → Option Nat} (h : xSame σ n rd P G S) (hn : n ≤ 9) (e : ∀ j, 0 ≤ j → j < 29 → T j = S j) : xSame σ n rd (zCopy P Pm 9) (zCopy G Gm 9) T := by
  obtain ⟨h1, h2, h3⟩ := xSame_agr h hn e
  refine ⟨h1, h2, fun i a b => ?_⟩
  have z := zSame_copy (σ := σ) (G := G) (Gm := Gm) (P := P) (Pm := Pm) hn i a b
  have y := h3 i a b
  exact ⟨z.1.trans y.1, z.2.1.trans y.2.1, z.2.2.trans y.2.2⟩
theorem xKp_some {σ : xS} {Kf : Int → Option Nat} {So : Int → Int} {d : Int} (h : xKp Kf So d = 1) : ∃ a, Kf d = some a := by
  unfold xKp kpO at h
  cases e : Kf d with
  | some a => exact ⟨a, rfl⟩
  | none => rw [e] at h; simp only at h; split at h <;> omega
theorem zPutR_0 {Kp So Sz : Int → Int} {d i : Int} (h : zPutR Kp So Sz d i = 0) : (0 ≤ d ∧ d ≤ 7) ∧ Kp d = 2 ∧ 0 ≤ i ∧ i < Sz d := by
  unfold zPutR at h
  by_cases q : zRowR Kp So d (-1) ≠ 0
  · rw [if_pos q] at h; exact absurd h q
  · have z := zRowR_0 (Kp := Kp) (So := So) (d := d) (o := -1) rfl (by omega)
    rw [if_neg q] at h
    by_cases q2 : ¬ (0 ≤ i ∧ i < Sz d)
    · rw [if_pos q2] at h; omega
    · exact ⟨⟨z.1, z.2.1⟩, z.2.2.1, by omega, by omega⟩
theorem zCopyR_0 {Kp So Sz : Int → Int} {d i e j n : Int} (h : 0 ≤ zCopyR Kp So Sz d i e j n) : (0 ≤ d ∧ d ≤ 7) ∧ (0 ≤ e ∧ e ≤ 7) ∧ (Kp d = 2 ∧ Kp e = 2 ∧ So d = So e) ∧ 0 ≤ n ∧ 0 ≤ i ∧ 0 ≤ j ∧ i + n ≤ Sz d ∧ j + n ≤ Sz e := by
  unfold zCopyR at h
  by_cases q1 : ¬ (0 ≤ d ∧ d ≤ 7) ∨ ¬ (0 ≤ e ∧ e ≤ 7)
  · rw [if_pos q1] at h; omega
  · rw [if_neg q1] at h
    by_cases q2 : Kp d = 0 ∨ Kp e = 0
    · rw [if_pos q2] at h; omega
    · rw [if_neg q2] at h
      by_cases q3 : Kp d ≠ 2 ∨ Kp e ≠ 2 ∨ So d ≠ So e
      · rw [if_pos q3] at h; omega
      · rw [if_neg q3] at h
        by_cases q4 : n < 0 ∨ i < 0 ∨ j < 0 ∨ Sz d - i < n ∨ Sz e - j < n
        · rw [if_pos q4] at h; omega
        · omega

theorem fr_row {g : xG} {σ σ1 : xS} {Kf : Int → Option Nat} {So Sz : Int → Int} {El : Int → Int → Int} {d o n0 r1 : Int} (p1 : σ1.2 = σ.2 ∧ (∀ j, j ≠ 25 ∧ j ≠ 26 ∧ j ≠ 27 ∧ j ≠ 29 + d.toNat → σ1.1 j = σ.1 j) ∧ ((r1 ≠ 0 ∧ r1 = zRowMk d o n0 ∧ σ1.1 = σ.1) ∨ (r1 = 0 ∧ zRowMk d o n0 = 0 ∧ MRef g σ1.1 25 8 (upI Kf d none) ∧ MArr g σ1.1 26 8 (upI So d o) ∧ MArr g σ1.1 27 8 (upI Sz d n0) ∧ MArr g σ1.1 (29 + d.toNat) 100 (zCopy (fun _ => 0) (El d) ((100 : Nat) : Int))))) : ∀ j, 37 ≤ j → σ1.1 j = σ.1 j := by
  obtain ⟨a1, a2, a3⟩ := p1
  intro j hj
  rcases a3 with ⟨q, q1, q2⟩ | ⟨q, q1, q2⟩
  · rw [q2]
  · refine a2 j ?_
    unfold zRowMk at q1
    by_cases x1 : ¬ (0 ≤ d ∧ d ≤ 7) ∨ ¬ (0 ≤ o ∧ o ≤ 2) ∨ 100 < n0
    · rw [if_pos x1] at q1; omega
    · omega

theorem fr_put {g : xG} {σ σ1 : xS} {Kf : Int → Option Nat} {So Sz : Int → Int} {El : Int → Int → Int} {d i v r1 : Int} (p1 : σ1.2 = σ.2 ∧ (∀ j, j ≠ 29 + d.toNat → σ1.1 j = σ.1 j) ∧ r1 = zPutR (xKp Kf So) So Sz d i ∧ ((r1 < 0 ∧ σ1.1 = σ.1) ∨ (r1 = 0 ∧ MArr g σ1.1 (29 + d.toNat) 100 (upI (El d) i (zLow (So d) v))))) : ∀ j, 37 ≤ j → σ1.1 j = σ.1 j := by
  obtain ⟨a1, a2, a3, a4⟩ := p1
  intro j hj
  rcases a4 with ⟨q, q2⟩ | ⟨q, q2⟩
  · rw [q2]
  · have z := zPutR_0 (a3.symm.trans q)
    exact a2 j (by omega)

theorem fr_copy {g : xG} {σ σ1 : xS} {Kf : Int → Option Nat} {So Sz : Int → Int} {El : Int → Int → Int} {d i0 e9 j0 n0 r1 : Int} (p1 : σ1.2 = σ.2 ∧ (∀ j, j ≠ 29 + e9.toNat → σ1.1 j = σ.1 j) ∧ r1 = zCopyR (xKp Kf So) So Sz d i0 e9 j0 n0 ∧ ((r1 < 0 ∧ σ1.1 = σ.1) ∨ (0 ≤ r1 ∧ MArr g σ1.1 (29 + e9.toNat) 100 (zCpy (El d) (El e9) i0 j0 n0)))) : ∀ j, 37 ≤ j → σ1.1 j = σ.1 j := by
  obtain ⟨a1, a2, a3, a4⟩ := p1
  intro j hj
  rcases a4 with ⟨q, q2⟩ | ⟨q, q2⟩
  · rw [q2]
  · rw [a3] at q
    have z := zCopyR_0 q
    exact a2 j (by omega)

theorem st_house {g : xG} {σ : xS} {ph : Nat} {tk n rd : Int} {P : Int → Int} {G : Int → Option Nat} {ni ri : Int} {Pi : Int → Int} {Gi Kf : Int → Option Nat} {So Sz : Int → Int} {El : Int → Int → Int} {ov : Nat → Int} {S Im Kp So2 Sz2 El2 KK KF : Int → Int} {h wh : Int} {r1 r2 : Int} (hX : LX g σ ph tk n rd P G ni ri Pi Gi Kf So Sz El) (hM : LM g σ.1 ov S Im Kp So2 Sz2 El2 KK KF) (hO : LO g σ.1) (hR : LR σ ph tk n rd P G ni ri Pi Gi Kf So Sz El ov S Im Kp So2 Sz2 El2 KK KF) (p1 : r1 = zHouse (sK σ G) (sF σ G) P n rd h wh) (p2 : r2 = zHouse (mK S) (mF S) (mP S) (S 0) (S 1) h wh) : r1 = r2 := by
  obtain ⟨e0, e1, e2⟩ := hR.1
  have hn0 := hX.2.2.2.2.1.2.1.1
  rw [p1, p2, ← e0, ← e1]
  exact zHouse_s e2

theorem st_lawful {g : xG} {σ : xS} {ph : Nat} {tk n rd : Int} {P : Int → Int} {G : Int → Option Nat} {ni ri : Int} {Pi : Int → Int} {Gi Kf : Int → Option Nat} {So Sz : Int → Int} {El : Int → Int → Int} {ov : Nat → Int} {S Im Kp So2 Sz2 El2 KK KF : Int → Int} {r1 r2 : Int} (hX : LX g σ ph tk n rd P G ni ri Pi Gi Kf So Sz El) (hM : LM g σ.1 ov S Im Kp So2 Sz2 El2 KK KF) (hO : LO g σ.1) (hR : LR σ ph tk n rd P G ni ri Pi Gi Kf So Sz El ov S Im Kp So2 Sz2 El2 KK KF) (p1 : r1 = zLawful (sK σ G) (sF σ G) P n rd) (p2 : r2 = zLawful (mK S) (mF S) (mP S) (S 0) (S 1)) : r1 = r2 := by
  obtain ⟨e0, e1, e2⟩ := hR.1
  have hn0 := hX.2.2.2.2.1.2.1.1
  rw [p1, p2, ← e0, ← e1]
  exact zLawful_s e2

theorem st_breaches {g : xG} {σ : xS} {ph : Nat} {tk n rd : Int} {P : Int → Int} {G : Int → Option Nat} {ni ri : Int} {Pi : Int → Int} {Gi Kf : Int → Option Nat} {So Sz : Int → Int} {El : Int → Int → Int} {ov : Nat → Int} {S Im Kp So2 Sz2 El2 KK KF : Int → Int} {h : Int} {r1 r2 : Int} (hX : LX g σ ph tk n rd P G ni ri Pi Gi Kf So Sz El) (hM : LM g σ.1 ov S Im Kp So2 Sz2 El2 KK KF) (hO : LO g σ.1) (hR : LR σ ph tk n rd P G ni ri Pi Gi Kf So Sz El ov S Im Kp So2 Sz2 El2 KK KF) (p1 : r1 = zBreaches (sK σ G) (sF σ G) P n rd h) (p2 : r2 = zBreaches (mK S) (mF S) (mP S) (S 0) (S 1) h) : r1 = r2 := by
  obtain ⟨e0, e1, e2⟩ := hR.1
  have hn0 := hX.2.2.2.2.1.2.1.1
  rw [p1, p2, ← e0, ← e1]
  exact zBreaches_s e2

theorem st_held {g : xG} {σ : xS} {ph : Nat} {tk n rd : Int} {P : Int → Int} {G : Int → Option Nat} {ni ri : Int} {Pi : Int → Int} {Gi Kf : Int → Option Nat} {So Sz : Int → Int} {El : Int → Int → Int} {ov : Nat → Int} {S Im Kp So2 Sz2 El2 KK KF : Int → Int} {h : Int} {r1 r2 : Int} (hX : LX g σ ph tk n rd P G ni ri Pi Gi Kf So Sz El) (hM : LM g σ.1 ov S Im Kp So2 Sz2 El2 KK KF) (hO : LO g σ.1) (hR : LR σ ph tk n rd P G ni ri Pi Gi Kf So Sz El ov S Im Kp So2 Sz2 El2 KK KF) (p1 : r1 = zHeldR (sK σ G) (sF σ G) P n rd h) (p2 : r2 = zHeldR (mK S) (mF S) (mP S) (S 0) (S 1) h) : r1 = r2 := by
  obtain ⟨e0, e1, e2⟩ := hR.1
  have hn0 := hX.2.2.2.2.1.2.1.1
  rw [p1, p2, ← e0, ← e1]
  exact zHeldR_s e2

theorem st_free {g : xG} {σ : xS} {ph : Nat} {tk n rd : Int} {P : Int → Int} {G : Int → Option Nat} {ni ri : Int} {Pi : Int → Int} {Gi Kf : Int → Option Nat} {So Sz : Int → Int} {El : Int → Int → Int} {ov : Nat → Int} {S Im Kp So2 Sz2 El2 KK KF : Int → Int} {r1 r2 : Int} (hX : LX g σ ph tk n rd P G ni ri Pi Gi Kf So Sz El) (hM : LM g σ.1 ov S Im Kp So2 Sz2 El2 KK KF) (hO : LO g σ.1) (hR : LR σ ph tk n rd P G ni ri Pi Gi Kf So Sz El ov S Im Kp So2 Sz2 El2 KK KF) (p1 : r1 = zFreeN (sK σ G) (sF σ G) P n rd n.toNat) (p2 : r2 = zFreeN (mK S) (mF S) (mP S) (S 0) (S 1) (S 0).toNat) : r1 = r2 := by
  obtain ⟨e0, e1, e2⟩ := hR.1
  have hn0 := hX.2.2.2.2.1.2.1.1
  rw [p1, p2, ← e0, ← e1]
  exact zFreeN_s e2 n.toNat (by omega)

theorem st_count {g : xG} {σ : xS} {ph : Nat} {tk n rd : Int} {P : Int → Int} {G : Int → Option Nat} {ni ri : Int} {Pi : Int → Int} {Gi Kf : Int → Option Nat} {So Sz : Int → Int} {El : Int → Int → Int} {ov : Nat → Int} {S Im Kp So2 Sz2 El2 KK KF : Int → Int} {wh : Int} {r1 r2 : Int} (hX : LX g σ ph tk n rd P G ni ri Pi Gi Kf So Sz El) (hM : LM g σ.1 ov S Im Kp So2 Sz2 El2 KK KF) (hO : LO g σ.1) (hR : LR σ ph tk n rd P G ni ri Pi Gi Kf So Sz El ov S Im Kp So2 Sz2 El2 KK KF) (p1 : r1 = zCount (sK σ G) (sF σ G) P n rd wh) (p2 : r2 = zCount (mK S) (mF S) (mP S) (S 0) (S 1) wh) : r1 = r2 := by
  obtain ⟨e0, e1, e2⟩ := hR.1
  have hn0 := hX.2.2.2.2.1.2.1.1
  rw [p1, p2, ← e0, ← e1]
  exact zCount_s e2

theorem st_tax {g : xG} {σ : xS} {ph : Nat} {tk n rd : Int} {P : Int → Int} {G : Int → Option Nat} {ni ri : Int} {Pi : Int → Int} {Gi Kf : Int → Option Nat} {So Sz : Int → Int} {El : Int → Int → Int} {ov : Nat → Int} {S Im Kp So2 Sz2 El2 KK KF : Int → Int} {lv : Int} {r1 r2 : Int} (hX : LX g σ ph tk n rd P G ni ri Pi Gi Kf So Sz El) (hM : LM g σ.1 ov S Im Kp So2 Sz2 El2 KK KF) (hO : LO g σ.1) (hR : LR σ ph tk n rd P G ni ri Pi Gi Kf So Sz El ov S Im Kp So2 Sz2 El2 KK KF) (p1 : r1 = zTax P n lv) (p2 : r2 = zTax (mP S) (S 0) lv) : r1 = r2 := by
  obtain ⟨e0, e1, e2⟩ := hR.1
  have hn0 := hX.2.2.2.2.1.2.1.1
  rw [p1, p2, ← e0]
  exact zTax_s (fun i a b => (e2 i a b).2.2)

theorem st_judge {g : xG} {σ : xS} {ph : Nat} {tk n rd : Int} {P : Int → Int} {G : Int → Option Nat} {ni ri : Int} {Pi : Int → Int} {Gi Kf : Int → Option Nat} {So Sz : Int → Int} {El : Int → Int → Int} {ov : Nat → Int} {S Im Kp So2 Sz2 El2 KK KF : Int → Int} {d : Int} {r1 r2 : Int} (hX : LX g σ ph tk n rd P G ni ri Pi Gi Kf So Sz El) (hM : LM g σ.1 ov S Im Kp So2 Sz2 El2 KK KF) (hO : LO g σ.1) (hR : LR σ ph tk n rd P G ni ri Pi Gi Kf So Sz El ov S Im Kp So2 Sz2 El2 KK KF) (p1 : (zRowR (xKp Kf So) So d (-1) ≠ 0 ∧ r1 = zRowR (xKp Kf So) So d (-1)) ∨ (zRowR (xKp Kf So) So d (-1) = 0 ∧ zJudged (El d) P (Sz d) n (zLeast (So d)) r1)) (p2 : (zRowR Kp So2 d (-1) ≠ 0 ∧ r2 = zRowR Kp So2 d (-1)) ∨ (zRowR Kp So2 d (-1) = 0 ∧ zJudged (fun j => El2 (100 * d + j)) (mP S) (Sz2 d) (S 0) (zLeast (So2 d)) r2)) : r1 = r2 := by
  obtain ⟨e0, e1, e2⟩ := hR.1
  have hn0 := hX.2.2.2.2.1.2.1.1
  have hs := hR.2.2.2
  have sok := hM.2.2.2.2.2.2.1
  rw [zShs_row hs] at p1
  rcases p1 with ⟨q1, p1⟩ | ⟨q1, p1⟩
  · rcases p2 with ⟨q2, p2⟩ | ⟨q2, p2⟩
    · rw [p1, p2]
    · exact absurd q2 q1
  · rcases p2 with ⟨q2, p2⟩ | ⟨q2, p2⟩
    · exact absurd q1 q2
    · have z := zRowR_0 (Kp := Kp) (So := So2) (d := d) (o := -1) rfl q1
      obtain ⟨b1, b2, b3⟩ := (hs d z.1 z.2.1).2.2 z.2.2.1
      have sz : 0 ≤ Sz2 d ∧ Sz2 d ≤ 100 := by
        rcases sok.2.2.2.2.2.2 d z.1 z.2.1 with y | ⟨y, _⟩ | ⟨_, _, y⟩
        · omega
        · omega
        · exact y
      rw [b1, b2] at p1
      rw [← e0] at p2
      exact zJudged_s (fun j j0 j1 => b3 j j0 (by omega)) (fun j j0 j1 => (e2 j j0 j1).2.2) p1 p2

theorem st_fee {g : xG} {σ : xS} {ph : Nat} {tk n rd : Int} {P : Int → Int} {G : Int → Option Nat} {ni ri : Int} {Pi : Int → Int} {Gi Kf : Int → Option Nat} {So Sz : Int → Int} {El : Int → Int → Int} {ov : Nat → Int} {S Im Kp So2 Sz2 El2 KK KF : Int → Int} {d : Int} {r1 r2 : Int} (hX : LX g σ ph tk n rd P G ni ri Pi Gi Kf So Sz El) (hM : LM g σ.1 ov S Im Kp So2 Sz2 El2 KK KF) (hO : LO g σ.1) (hR : LR σ ph tk n rd P G ni ri Pi Gi Kf So Sz El ov S Im Kp So2 Sz2 El2 KK KF) (p1 : r1 = (if zKeptR (xKp Kf So) d ≠ 0 then zKeptR (xKp Kf So) d else zFee (sK σ Kf d) (sF σ Kf d))) (p2 : r2 = (if zKeptR Kp d ≠ 0 then zKeptR Kp d else zFee (KK d).toNat (KF d))) : r1 = r2 := by
  have hs := hR.2.2.2
  rw [zShs_kept hs] at p1
  rw [p1, p2]
  by_cases q : zKeptR Kp d ≠ 0
  · rw [if_pos q, if_pos q]
  · have z := zKeptR_0 (Kp := Kp) (d := d) rfl (by omega)
    obtain ⟨b1, b2⟩ := (hs d z.1 z.2.1).2.1 z.2.2
    rw [if_neg q, if_neg q, b1, b2]

theorem st_toss {g : xG} {σ σ1 : xS} {ph : Nat} {tk n rd : Int} {P : Int → Int} {G : Int → Option Nat} {ni ri : Int} {Pi : Int → Int} {Gi Kf : Int → Option Nat} {So Sz : Int → Int} {El : Int → Int → Int} {ov : Nat → Int} {S Im Kp So2 Sz2 El2 KK KF : Int → Int} {d : Int} {r1 r2 : Int} (hX : LX g σ ph tk n rd P G ni ri Pi Gi Kf So Sz El) (hM : LM g σ.1 ov S Im Kp So2 Sz2 El2 KK KF) (hO : LO g σ.1) (hR : LR σ ph tk n rd P G ni ri Pi Gi Kf So Sz El ov S Im Kp So2 Sz2 El2 KK KF) (p1 : σ1.2 = σ.2 ∧ σ1.1 = σ.1 ∧ r1 = (if zKeptR (xKp Kf So) d ≠ 0 then zKeptR (xKp Kf So) d else zTossF ((sK σ Kf d : Nat) : Int) (sF σ Kf d))) (p2 : r2 = (if zKeptR Kp d ≠ 0 then zKeptR Kp d else zTossF (KK d) (KF d))) : r1 = r2 ∧ LI g σ1 := by
  have hs := hR.2.2.2
  have sok := hM.2.2.2.2.2.2.1
  obtain ⟨a1, a2, a3⟩ := p1
  refine ⟨?_, ?_⟩
  · rw [zShs_kept hs] at a3
    rw [a3, p2]
    by_cases q : zKeptR Kp d ≠ 0
    · rw [if_pos q, if_pos q]
    · have z := zKeptR_0 (Kp := Kp) (d := d) rfl (by omega)
      obtain ⟨b1, b2⟩ := (hs d z.1 z.2.1).2.1 z.2.2
      have kk : 0 ≤ KK d := by
        rcases sok.2.2.2.2.2.2 d z.1 z.2.1 with y | ⟨_, y, _⟩ | ⟨y, _⟩
        · omega
        · exact y.1
        · omega
      rw [if_neg q, if_neg q, b1, b2, Int.toNat_of_nonneg kk]
  · have e : σ1 = σ := Prod.ext a2 a1
    rw [e]
    exact ⟨ph, tk, n, rd, P, G, ni, ri, Pi, Gi, Kf, So, Sz, El, ov, S, Im, Kp, So2, Sz2, El2, KK, KF, hX, hM, hO, hR⟩

theorem st_wedding {g : xG} {σ σ1 σ2 : xS} {ph : Nat} {tk n rd : Int} {P : Int → Int} {G : Int → Option Nat} {ni ri : Int} {Pi : Int → Int} {Gi Kf : Int → Option Nat} {So Sz : Int → Int} {El : Int → Int → Int} {ov : Nat → Int} {S Im Kp So2 Sz2 El2 KK KF : Int → Int} {h : Int} {r1 r2 : Int} (hX : LX g σ ph tk n rd P G ni ri Pi Gi Kf So Sz El) (hM : LM g σ.1 ov S Im Kp So2 Sz2 El2 KK KF) (hO : LO g σ.1) (hR : LR σ ph tk n rd P G ni ri Pi Gi Kf So Sz El ov S Im Kp So2 Sz2 El2 KK KF) (p1 : σ1.2 = σ.2 ∧ (∀ j, j ≠ 7 ∧ j ≠ 8 ∧ j ≠ 9 → σ1.1 j = σ.1 j) ∧ (r1 = zWed (sK σ G) (sF σ G) P n rd h) ∧ xStr g σ1.1 σ 7) (p2 : σ2.2 = σ1.2 ∧ (∀ j, j ≠ 38 ∧ j ≠ 41 → σ2.1 j = σ1.1 j) ∧ (r2 = zWed (mK S) (mF S) (mP S) (S 0) (S 1) h) ∧ xBack g σ2.1 S) : r1 = r2 ∧ LI g σ2 := by
  obtain ⟨e0, e1, e2⟩ := hR.1
  have hn0 := hX.2.2.2.2.1.2.1.1
  obtain ⟨a1, a2, a3, a4⟩ := p1
  have hM1 := (hM.fr (M1 := σ1.1) (fun j hj => a2 j (by omega)))
  obtain ⟨b1, b2, b3, b4⟩ := p2
  refine ⟨?_, LI_back (LX_mind hX a1 a2 a4) hM1 (hO.fr (a2 50 (by omega))) (hR.grow hX (xGrow.rf a1)) b1 (fun j hj => b2 j (by omega)) ⟨ov, (b2 37 (by omega)).trans hM1.1, rfl⟩ b4 (by (obtain ⟨Wz, hWz⟩ := hM1.2.2.2.2.2.2.2.2; exact ⟨Wz, (b2 49 (by omega)).trans hWz⟩))⟩
  rw [a3, b3, ← e0, ← e1]
  exact zWed_s e2

theorem st_worth {g : xG} {σ σ1 σ2 : xS} {ph : Nat} {tk n rd : Int} {P : Int → Int} {G : Int → Option Nat} {ni ri : Int} {Pi : Int → Int} {Gi Kf : Int → Option Nat} {So Sz : Int → Int} {El : Int → Int → Int} {ov : Nat → Int} {S Im Kp So2 Sz2 El2 KK KF : Int → Int} {h pu : Int} {r1 r2 : Int} (hX : LX g σ ph tk n rd P G ni ri Pi Gi Kf So Sz El) (hM : LM g σ.1 ov S Im Kp So2 Sz2 El2 KK KF) (hO : LO g σ.1) (hR : LR σ ph tk n rd P G ni ri Pi Gi Kf So Sz El ov S Im Kp So2 Sz2 El2 KK KF) (p1 : σ1.2 = σ.2 ∧ (∀ j, j ≠ 7 ∧ j ≠ 8 ∧ j ≠ 9 → σ1.1 j = σ.1 j) ∧ (r1 = zWorth (sK σ G) (sF σ G) P n rd h pu) ∧ xStr g σ1.1 σ 7) (p2 : σ2.2 = σ1.2 ∧ (∀ j, j ≠ 38 ∧ j ≠ 41 → σ2.1 j = σ1.1 j) ∧ (r2 = zWorth (mK S) (mF S) (mP S) (S 0) (S 1) h pu) ∧ xBack g σ2.1 S) : r1 = r2 ∧ LI g σ2 := by
  obtain ⟨e0, e1, e2⟩ := hR.1
  have hn0 := hX.2.2.2.2.1.2.1.1
  obtain ⟨a1, a2, a3, a4⟩ := p1
  have hM1 := (hM.fr (M1 := σ1.1) (fun j hj => a2 j (by omega)))
  obtain ⟨b1, b2, b3, b4⟩ := p2
  refine ⟨?_, LI_back (LX_mind hX a1 a2 a4) hM1 (hO.fr (a2 50 (by omega))) (hR.grow hX (xGrow.rf a1)) b1 (fun j hj => b2 j (by omega)) ⟨ov, (b2 37 (by omega)).trans hM1.1, rfl⟩ b4 (by (obtain ⟨Wz, hWz⟩ := hM1.2.2.2.2.2.2.2.2; exact ⟨Wz, (b2 49 (by omega)).trans hWz⟩))⟩
  rw [a3, b3, ← e0, ← e1]
  exact zWorth_s e2

theorem st_fitting {g : xG} {σ σ1 σ2 : xS} {ph : Nat} {tk n rd : Int} {P : Int → Int} {G : Int → Option Nat} {ni ri : Int} {Pi : Int → Int} {Gi Kf : Int → Option Nat} {So Sz : Int → Int} {El : Int → Int → Int} {ov : Nat → Int} {S Im Kp So2 Sz2 El2 KK KF : Int → Int} {h wh : Int} {r1 r2 : Int} (hX : LX g σ ph tk n rd P G ni ri Pi Gi Kf So Sz El) (hM : LM g σ.1 ov S Im Kp So2 Sz2 El2 KK KF) (hO : LO g σ.1) (hR : LR σ ph tk n rd P G ni ri Pi Gi Kf So Sz El ov S Im Kp So2 Sz2 El2 KK KF) (p1 : σ1.2 = σ.2 ∧ (∀ j, j ≠ 7 ∧ j ≠ 8 ∧ j ≠ 9 → σ1.1 j = σ.1 j) ∧ (r1 = zFit (sK σ G) (sF σ G) P n rd h wh) ∧ xStr g σ1.1 σ 7) (p2 : σ2.2 = σ1.2 ∧ (∀ j, j ≠ 38 ∧ j ≠ 41 → σ2.1 j = σ1.1 j) ∧ (r2 = zFit (mK S) (mF S) (mP S) (S 0) (S 1) h wh) ∧ xBack g σ2.1 S) : r1 = r2 ∧ LI g σ2 := by
  obtain ⟨e0, e1, e2⟩ := hR.1
  have hn0 := hX.2.2.2.2.1.2.1.1
  obtain ⟨a1, a2, a3, a4⟩ := p1
  have hM1 := (hM.fr (M1 := σ1.1) (fun j hj => a2 j (by omega)))
  obtain ⟨b1, b2, b3, b4⟩ := p2
  refine ⟨?_, LI_back (LX_mind hX a1 a2 a4) hM1 (hO.fr (a2 50 (by omega))) (hR.grow hX (xGrow.rf a1)) b1 (fun j hj => b2 j (by omega)) ⟨ov, (b2 37 (by omega)).trans hM1.1, rfl⟩ b4 (by (obtain ⟨Wz, hWz⟩ := hM1.2.2.2.2.2.2.2.2; exact ⟨Wz, (b2 49 (by omega)).trans hWz⟩))⟩
  rw [a3, b3, ← e0, ← e1]
  exact zFit_s e2

theorem st_seeded {g : xG} {σ σ1 σ2 : xS} {ph : Nat} {tk n rd : Int} {P : Int → Int} {G : Int → Option Nat} {ni ri : Int} {Pi : Int → Int} {Gi Kf : Int → Option Nat} {So Sz : Int → Int} {El : Int → Int → Int} {ov : Nat → Int} {S Im Kp So2 Sz2 El2 KK KF : Int → Int} {k9 z : Int} {r1 r2 : Int} (hX : LX g σ ph tk n rd P G ni ri Pi Gi Kf So Sz El) (hM : LM g σ.1 ov S Im Kp So2 Sz2 El2 KK KF) (hO : LO g σ.1) (hR : LR σ ph tk n rd P G ni ri Pi Gi Kf So Sz El ov S Im Kp So2 Sz2 El2 KK KF) (p1 : σ1.2 = σ.2 ∧ (∀ j, j ≠ 7 ∧ j ≠ 8 ∧ j ≠ 9 → σ1.1 j = σ.1 j) ∧ (r1 = zSeeded (sK σ G) (sF σ G) P n rd k9 z) ∧ xStr g σ1.1 σ 7) (p2 : σ2.2 = σ1.2 ∧ (∀ j, j ≠ 37 ∧ j ≠ 38 ∧ j ≠ 41 → σ2.1 j = σ1.1 j) ∧ r2 = zSeeded (mK S) (mF S) (mP S) (S 0) (S 1) k9 z ∧ (∃ ov2, MObj g σ2.1 ov2 ∧ ov2 10 = ov 10) ∧ xBack g σ2.1 S) : r1 = r2 ∧ LI g σ2 := by
  obtain ⟨e0, e1, e2⟩ := hR.1
  have hn0 := hX.2.2.2.2.1.2.1.1
  obtain ⟨a1, a2, a3, a4⟩ := p1
  have hM1 := (hM.fr (M1 := σ1.1) (fun j hj => a2 j (by omega)))
  obtain ⟨b1, b2, b3, b4, b5⟩ := p2
  refine ⟨?_, LI_back (LX_mind hX a1 a2 a4) hM1 (hO.fr (a2 50 (by omega))) (hR.grow hX (xGrow.rf a1)) b1 (fun j hj => b2 j (by omega)) b4 b5 (by (obtain ⟨Wz, hWz⟩ := hM1.2.2.2.2.2.2.2.2; exact ⟨Wz, (b2 49 (by omega)).trans hWz⟩))⟩
  rw [a3, b3, ← e0, ← e1]
  exact zSeeded_s hn0 e2

theorem st_change {g : xG} {σ σ1 σ2 : xS} {ph : Nat} {tk n rd : Int} {P : Int → Int} {G : Int → Option Nat} {ni ri : Int} {Pi : Int → Int} {Gi Kf : Int → Option Nat} {So Sz : Int → Int} {El : Int → Int → Int} {ov : Nat → Int} {S Im Kp So2 Sz2 El2 KK KF : Int → Int} {wh : Int} {r1 r2 : Int} (hX : LX g σ ph tk n rd P G ni ri Pi Gi Kf So Sz El) (hM : LM g σ.1 ov S Im Kp So2 Sz2 El2 KK KF) (hO : LO g σ.1) (hR : LR σ ph tk n rd P G ni ri Pi Gi Kf So Sz El ov S Im Kp So2 Sz2 El2 KK KF) (p1 : σ1.2 = σ.2 ∧ (∀ j, j ≠ 7 ∧ j ≠ 8 ∧ j ≠ 9 → σ1.1 j = σ.1 j) ∧ (r1 = zChange (sK σ G) (sF σ G) P n rd wh) ∧ xStr g σ1.1 σ 7) (p2 : σ2.2 = σ1.2 ∧ (∀ j, j ≠ 38 → σ2.1 j = σ1.1 j) ∧ r2 = zChange (mK S) (mF S) (mP S) (S 0) (S 1) wh ∧ MArr g σ2.1 38 29 S) : r1 = r2 ∧ LI g σ2 := by
  obtain ⟨e0, e1, e2⟩ := hR.1
  have hn0 := hX.2.2.2.2.1.2.1.1
  obtain ⟨a1, a2, a3, a4⟩ := p1
  have hM1 := (hM.fr (M1 := σ1.1) (fun j hj => a2 j (by omega)))
  obtain ⟨b1, b2, b3, b4⟩ := p2
  refine ⟨?_, LI_back (LX_mind hX a1 a2 a4) hM1 (hO.fr (a2 50 (by omega))) (hR.grow hX (xGrow.rf a1)) b1 (fun j hj => b2 j (by omega)) ⟨ov, (b2 37 (by omega)).trans hM1.1, rfl⟩ (by (obtain ⟨Mi, hMi⟩ := hM1.2.2.2.2.1; exact ⟨S, Mi, b4, (b2 41 (by omega)).trans hMi, zKeep_self hM1.2.1.2.1.1⟩)) (by (obtain ⟨Wz, hWz⟩ := hM1.2.2.2.2.2.2.2.2; exact ⟨Wz, (b2 49 (by omega)).trans hWz⟩))⟩
  rw [a3, b3, ← e0, ← e1]
  exact zChange_s hn0 e2

theorem st_given {g : xG} {σ σ1 σ2 : xS} {ph : Nat} {tk n rd : Int} {P : Int → Int} {G : Int → Option Nat} {ni ri : Int} {Pi : Int → Int} {Gi Kf : Int → Option Nat} {So Sz : Int → Int} {El : Int → Int → Int} {ov : Nat → Int} {S Im Kp So2 Sz2 El2 KK KF : Int → Int} {d wh : Int} {r1 r2 : Int} (hX : LX g σ ph tk n rd P G ni ri Pi Gi Kf So Sz El) (hM : LM g σ.1 ov S Im Kp So2 Sz2 El2 KK KF) (hO : LO g σ.1) (hR : LR σ ph tk n rd P G ni ri Pi Gi Kf So Sz El ov S Im Kp So2 Sz2 El2 KK KF) (p1 : σ1.2 = σ.2 ∧ (∀ j, j ≠ 7 ∧ j ≠ 8 ∧ j ≠ 9 → σ1.1 j = σ.1 j) ∧ zGivenC (xKp Kf So) So Sz (El d) (sK σ G) (sF σ G) P n rd d wh r1 ∧ xStr g σ1.1 σ 7) (p2 : σ2.2 = σ1.2 ∧ (∀ j, j ≠ 38 ∧ j ≠ 41 → σ2.1 j = σ1.1 j) ∧ zGivenR Kp So2 Sz2 El2 (mK S) (mF S) (mP S) (S 0) (S 1) d wh r2 ∧ xBack g σ2.1 S) : r1 = r2 ∧ LI g σ2 := by
  obtain ⟨e0, e1, e2⟩ := hR.1
  have hn0 := hX.2.2.2.2.1.2.1.1
  obtain ⟨a1, a2, a3, a4⟩ := p1
  have hM1 := (hM.fr (M1 := σ1.1) (fun j hj => a2 j (by omega)))
  obtain ⟨b1, b2, b3, b4⟩ := p2
  refine ⟨?_, LI_back (LX_mind hX a1 a2 a4) hM1 (hO.fr (a2 50 (by omega))) (hR.grow hX (xGrow.rf a1)) b1 (fun j hj => b2 j (by omega)) ⟨ov, (b2 37 (by omega)).trans hM1.1, rfl⟩ b4 (by (obtain ⟨Wz, hWz⟩ := hM1.2.2.2.2.2.2.2.2; exact ⟨Wz, (b2 49 (by omega)).trans hWz⟩))⟩
  have hs := hR.2.2.2
  have sok := hM.2.2.2.2.2.2.1
  rw [← e0, ← e1] at b3
  refine zGivenC_s (zShs_row hs d 1) (fun hd hq => ?_) e2 a3 b3
  have z := zRowR_0 (Kp := Kp) (So := So2) (d := d) (o := 1) rfl hq
  obtain ⟨c1, c2, c3⟩ := (hs d z.1 z.2.1).2.2 z.2.2.1
  have sz : 0 ≤ Sz2 d ∧ Sz2 d ≤ 100 := by
    rcases sok.2.2.2.2.2.2 d z.1 z.2.1 with y | ⟨y, _⟩ | ⟨_, _, y⟩
    · omega
    · omega
    · exact y
  exact ⟨c2, sz.1, fun j j0 j1 => c3 j j0 (by omega)⟩

theorem st_partings {g : xG} {σ σ1 σ2 : xS} {ph : Nat} {tk n rd : Int} {P : Int → Int} {G : Int → Option Nat} {ni ri : Int} {Pi : Int → Int} {Gi Kf : Int → Option Nat} {So Sz : Int → Int} {El : Int → Int → Int} {ov : Nat → Int} {S Im Kp So2 Sz2 El2 KK KF : Int → Int} {c0 : Int} {r1 r2 : Int} (hX : LX g σ ph tk n rd P G ni ri Pi Gi Kf So Sz El) (hM : LM g σ.1 ov S Im Kp So2 Sz2 El2 KK KF) (hO : LO g σ.1) (hR : LR σ ph tk n rd P G ni ri Pi Gi Kf So Sz El ov S Im Kp So2 Sz2 El2 KK KF) (p1 : σ1.2 = σ.2 ∧ (∀ j, j < 10 ∨ j = 16 ∨ 22 < j → σ1.1 j = σ.1 j) ∧ r1 = zPartings (sK σ G) (sF σ G) P n rd c0 ∧ xPt g σ1.1 σ) (p2 : σ2.2 = σ1.2 ∧ (∀ j, j ≠ 37 ∧ j ≠ 38 ∧ j ≠ 41 ∧ j ≠ 49 → σ2.1 j = σ1.1 j) ∧ r2 = zPartings (mK S) (mF S) (mP S) (S 0) (S 1) c0 ∧ (∃ ov2, MObj g σ2.1 ov2 ∧ ov2 10 = ov 10) ∧ xBack g σ2.1 S ∧ ∃ W2, MArr g σ2.1 49 8 W2) : r1 = r2 ∧ LI g σ2 := by
  obtain ⟨e0, e1, e2⟩ := hR.1
  have hn0 := hX.2.2.2.2.1.2.1.1
  obtain ⟨a1, a2, a3, a4⟩ := p1
  have hM1 := (hM.fr (M1 := σ1.1) (fun j hj => a2 j (by omega)))
  obtain ⟨b1, b2, b3, b4, b5, b6⟩ := p2
  refine ⟨?_, LI_back (LX_pt hX a1 a2 a4) hM1 (hO.fr (a2 50 (by omega))) (hR.grow hX (xGrow.rf a1)) b1 (fun j hj => b2 j (by omega)) b4 b5 b6⟩
  rw [a3, b3, ← e0, ← e1]
  exact zPartings_s hn0 e2

theorem st_uneven {g : xG} {σ σ1 σ2 : xS} {ph : Nat} {tk n rd : Int} {P : Int → Int} {G : Int → Option Nat} {ni ri : Int} {Pi : Int → Int} {Gi Kf : Int → Option Nat} {So Sz : Int → Int} {El : Int → Int → Int} {ov : Nat → Int} {S Im Kp So2 Sz2 El2 KK KF : Int → Int} {c0 : Int} {r1 r2 : Int} (hX : LX g σ ph tk n rd P G ni ri Pi Gi Kf So Sz El) (hM : LM g σ.1 ov S Im Kp So2 Sz2 El2 KK KF) (hO : LO g σ.1) (hR : LR σ ph tk n rd P G ni ri Pi Gi Kf So Sz El ov S Im Kp So2 Sz2 El2 KK KF) (p1 : σ1.2 = σ.2 ∧ (∀ j, j < 10 ∨ j = 16 ∨ 22 < j → σ1.1 j = σ.1 j) ∧ r1 = zUneven (sK σ G) (sF σ G) P n rd c0 ∧ xPt g σ1.1 σ) (p2 : σ2.2 = σ1.2 ∧ (∀ j, j ≠ 37 ∧ j ≠ 38 ∧ j ≠ 41 ∧ j ≠ 49 → σ2.1 j = σ1.1 j) ∧ r2 = zUneven (mK S) (mF S) (mP S) (S 0) (S 1) c0 ∧ (∃ ov2, MObj g σ2.1 ov2 ∧ ov2 10 = ov 10) ∧ xBack g σ2.1 S ∧ ∃ W2, MArr g σ2.1 49 8 W2) : r1 = r2 ∧ LI g σ2 := by
  obtain ⟨e0, e1, e2⟩ := hR.1
  have hn0 := hX.2.2.2.2.1.2.1.1
  obtain ⟨a1, a2, a3, a4⟩ := p1
  have hM1 := (hM.fr (M1 := σ1.1) (fun j hj => a2 j (by omega)))
  obtain ⟨b1, b2, b3, b4, b5, b6⟩ := p2
  refine ⟨?_, LI_back (LX_pt hX a1 a2 a4) hM1 (hO.fr (a2 50 (by omega))) (hR.grow hX (xGrow.rf a1)) b1 (fun j hj => b2 j (by omega)) b4 b5 b6⟩
  rw [a3, b3, ← e0, ← e1]
  exact zUneven_s hn0 e2

theorem st_richest {g : xG} {σ σ1 σ2 : xS} {ph : Nat} {tk n rd : Int} {P : Int → Int} {G : Int → Option Nat} {ni ri : Int} {Pi : Int → Int} {Gi Kf : Int → Option Nat} {So Sz : Int → Int} {El : Int → Int → Int} {ov : Nat → Int} {S Im Kp So2 Sz2 El2 KK KF : Int → Int} {c0 h : Int} {r1 r2 : Int} (hX : LX g σ ph tk n rd P G ni ri Pi Gi Kf So Sz El) (hM : LM g σ.1 ov S Im Kp So2 Sz2 El2 KK KF) (hO : LO g σ.1) (hR : LR σ ph tk n rd P G ni ri Pi Gi Kf So Sz El ov S Im Kp So2 Sz2 El2 KK KF) (p1 : σ1.2 = σ.2 ∧ (∀ j, j < 10 ∨ j = 16 ∨ 22 < j → σ1.1 j = σ.1 j) ∧ r1 = zRichest (sK σ G) (sF σ G) P n rd c0 h ∧ xPt g σ1.1 σ) (p2 : σ2.2 = σ1.2 ∧ (∀ j, j ≠ 37 ∧ j ≠ 38 ∧ j ≠ 41 ∧ j ≠ 49 → σ2.1 j = σ1.1 j) ∧ r2 = zRichest (mK S) (mF S) (mP S) (S 0) (S 1) c0 h ∧ (∃ ov2, MObj g σ2.1 ov2 ∧ ov2 10 = ov 10) ∧ xBack g σ2.1 S ∧ ∃ W2, MArr g σ2.1 49 8 W2) : r1 = r2 ∧ LI g σ2 := by
  obtain ⟨e0, e1, e2⟩ := hR.1
  have hn0 := hX.2.2.2.2.1.2.1.1
  obtain ⟨a1, a2, a3, a4⟩ := p1
  have hM1 := (hM.fr (M1 := σ1.1) (fun j hj => a2 j (by omega)))
  obtain ⟨b1, b2, b3, b4, b5, b6⟩ := p2
  refine ⟨?_, LI_back (LX_pt hX a1 a2 a4) hM1 (hO.fr (a2 50 (by omega))) (hR.grow hX (xGrow.rf a1)) b1 (fun j hj => b2 j (by omega)) b4 b5 b6⟩
  rw [a3, b3, ← e0, ← e1]
  exact zRichest_s hn0 e2

theorem st_hands {g : xG} {σ σ1 σ2 : xS} {ph : Nat} {tk n rd : Int} {P : Int → Int} {G : Int → Option Nat} {ni ri : Int} {Pi : Int → Int} {Gi Kf : Int → Option Nat} {So Sz : Int → Int} {El : Int → Int → Int} {ov : Nat → Int} {S Im Kp So2 Sz2 El2 KK KF : Int → Int} {r1 r2 : Int} (hX : LX g σ ph tk n rd P G ni ri Pi Gi Kf So Sz El) (hM : LM g σ.1 ov S Im Kp So2 Sz2 El2 KK KF) (hO : LO g σ.1) (hR : LR σ ph tk n rd P G ni ri Pi Gi Kf So Sz El ov S Im Kp So2 Sz2 El2 KK KF) (p1 : σ1.2 = σ.2 ∧ (∀ j, j < 10 ∨ j = 16 ∨ 22 < j → σ1.1 j = σ.1 j) ∧ r1 = zHands (sK σ G) (sF σ G) P n rd ∧ xPt g σ1.1 σ) (p2 : σ2.2 = σ1.2 ∧ (∀ j, j ≠ 37 ∧ j ≠ 38 ∧ j ≠ 41 ∧ j ≠ 49 → σ2.1 j = σ1.1 j) ∧ r2 = zHands (mK S) (mF S) (mP S) (S 0) (S 1) ∧ (∃ ov2, MObj g σ2.1 ov2 ∧ ov2 10 = ov 10) ∧ xBack g σ2.1 S ∧ ∃ W2, MArr g σ2.1 49 8 W2) : r1 = r2 ∧ LI g σ2 := by
  obtain ⟨e0, e1, e2⟩ := hR.1
  have hn0 := hX.2.2.2.2.1.2.1.1
  obtain ⟨a1, a2, a3, a4⟩ := p1
  have hM1 := (hM.fr (M1 := σ1.1) (fun j hj => a2 j (by omega)))
  obtain ⟨b1, b2, b3, b4, b5, b6⟩ := p2
  refine ⟨?_, LI_back (LX_pt hX a1 a2 a4) hM1 (hO.fr (a2 50 (by omega))) (hR.grow hX (xGrow.rf a1)) b1 (fun j hj => b2 j (by omega)) b4 b5 b6⟩
  rw [a3, b3, ← e0, ← e1]
  exact zHands_s hn0 e2

theorem st_any {g : xG} {σ σ1 σ2 : xS} {ph : Nat} {tk n rd : Int} {P : Int → Int} {G : Int → Option Nat} {ni ri : Int} {Pi : Int → Int} {Gi Kf : Int → Option Nat} {So Sz : Int → Int} {El : Int → Int → Int} {ov : Nat → Int} {S Im Kp So2 Sz2 El2 KK KF : Int → Int} {r1 r2 : Int} (hX : LX g σ ph tk n rd P G ni ri Pi Gi Kf So Sz El) (hM : LM g σ.1 ov S Im Kp So2 Sz2 El2 KK KF) (hO : LO g σ.1) (hR : LR σ ph tk n rd P G ni ri Pi Gi Kf So Sz El ov S Im Kp So2 Sz2 El2 KK KF) (p1 : σ1.2 = σ.2 ∧ (∀ j, j < 10 ∨ j = 16 ∨ 22 < j → σ1.1 j = σ.1 j) ∧ r1 = zAny (sK σ G) (sF σ G) P n rd ∧ xPt g σ1.1 σ) (p2 : σ2.2 = σ1.2 ∧ (∀ j, j ≠ 37 ∧ j ≠ 38 ∧ j ≠ 41 ∧ j ≠ 49 → σ2.1 j = σ1.1 j) ∧ r2 = zAny (mK S) (mF S) (mP S) (S 0) (S 1) ∧ (∃ ov2, MObj g σ2.1 ov2 ∧ ov2 10 = ov 10) ∧ xBack g σ2.1 S ∧ ∃ W2, MArr g σ2.1 49 8 W2) : r1 = r2 ∧ LI g σ2 := by
  obtain ⟨e0, e1, e2⟩ := hR.1
  have hn0 := hX.2.2.2.2.1.2.1.1
  obtain ⟨a1, a2, a3, a4⟩ := p1
  have hM1 := (hM.fr (M1 := σ1.1) (fun j hj => a2 j (by omega)))
  obtain ⟨b1, b2, b3, b4, b5, b6⟩ := p2
  refine ⟨?_, LI_back (LX_pt hX a1 a2 a4) hM1 (hO.fr (a2 50 (by omega))) (hR.grow hX (xGrow.rf a1)) b1 (fun j hj => b2 j (by omega)) b4 b5 b6⟩
  rw [a3, b3, ← e0, ← e1]
  exact zAny_s hn0 e2

theorem st_round {g : xG} {σ σ1 σ2 : xS} {ph : Nat} {tk n rd : Int} {P : Int → Int} {G : Int → Option Nat} {ni ri : Int} {Pi : Int → Int} {Gi Kf : Int → Option Nat} {So Sz : Int → Int} {El : Int → Int → Int} {ov : Nat → Int} {S Im Kp So2 Sz2 El2 KK KF : Int → Int} {v : Int} {r1 r2 : Int} (hX : LX g σ ph tk n rd P G ni ri Pi Gi Kf So Sz El) (hM : LM g σ.1 ov S Im Kp So2 Sz2 El2 KK KF) (hO : LO g σ.1) (hR : LR σ ph tk n rd P G ni ri Pi Gi Kf So Sz El ov S Im Kp So2 Sz2 El2 KK KF) (p1 : σ1.2 = σ.2 ∧ (∀ j, j ≠ 1 ∧ j ≠ 2 ∧ j ≠ 3 → σ1.1 j = σ.1 j) ∧ ((¬ (v = 0 ∨ v = 1) ∧ r1 = -1 ∧ StAt g σ1.1 1 (n) (rd) (P) (G)) ∨ ((v = 0 ∨ v = 1) ∧ r1 = rd ∧ StAt g σ1.1 1 (n) (v) (P) (G)))) (p2 : σ2.2 = σ1.2 ∧ (∀ j, j ≠ 38 → σ2.1 j = σ1.1 j) ∧ ((¬ (v = 0 ∨ v = 1) ∧ r2 = -1 ∧ MArr g σ2.1 38 29 S) ∨ ((v = 0 ∨ v = 1) ∧ r2 = S 1 ∧ MArr g σ2.1 38 29 (upI S 1 v)))) : r1 = r2 ∧ LI g σ2 := by
  obtain ⟨e0, e1, e2⟩ := hR.1
  have hn0 := hX.2.2.2.2.1.2.1.1
  have hok := hX.2.2.2.2.1.2.1
  have h8 := hX.2.2.2.2.1.2.2
  have sok := hM.2.1.2.1
  have hsm := hR.1
  obtain ⟨a1, a2, a3⟩ := p1
  obtain ⟨b1, b2, b3⟩ := p2
  rcases a3 with ⟨q, c1, c2⟩ | ⟨q, c1, c2⟩
  · rcases b3 with ⟨_, d1, d2⟩ | ⟨q2, _⟩
    · exact ⟨by rw [c1, d1], LI_str hX hM hO hR a1 a2 c2 hok h8 b1 b2 d2 sok hsm⟩
    · exact absurd q2 q
  · rcases b3 with ⟨q2, _⟩ | ⟨_, d1, d2⟩
    · exact absurd q q2
    · exact ⟨by rw [c1, d1]; exact e1, LI_str hX hM hO hR a1 a2 c2 ⟨hok.1, hok.2.1, q, hok.2.2.2⟩ h8 b1 b2 d2 (SmOk_rd sok q) (xSame_rd hsm)⟩

theorem st_give {g : xG} {σ σ1 σ2 : xS} {ph : Nat} {tk n rd : Int} {P : Int → Int} {G : Int → Option Nat} {ni ri : Int} {Pi : Int → Int} {Gi Kf : Int → Option Nat} {So Sz : Int → Int} {El : Int → Int → Int} {ov : Nat → Int} {S Im Kp So2 Sz2 El2 KK KF : Int → Int} {a b c0 : Int} {r1 r2 : Int} (hX : LX g σ ph tk n rd P G ni ri Pi Gi Kf So Sz El) (hM : LM g σ.1 ov S Im Kp So2 Sz2 El2 KK KF) (hO : LO g σ.1) (hR : LR σ ph tk n rd P G ni ri Pi Gi Kf So Sz El ov S Im Kp So2 Sz2 El2 KK KF) (p1 : σ1.2 = σ.2 ∧ (∀ j, j ≠ 1 ∧ j ≠ 2 ∧ j ≠ 3 → σ1.1 j = σ.1 j) ∧ ((zGiftR P n a b c0 ≠ 0 ∧ r1 = zGiftR P n a b c0 ∧ StAt g σ1.1 1 (n) (rd) (P) (G)) ∨ (zGiftR P n a b c0 = 0 ∧ r1 = P a - c0 ∧ StAt g σ1.1 1 (n) (rd) (zGift P a b c0) (G)))) (p2 : σ2.2 = σ1.2 ∧ (∀ j, j ≠ 38 → σ2.1 j = σ1.1 j) ∧ ((zGiftR (mP S) (S 0) a b c0 ≠ 0 ∧ r2 = zGiftR (mP S) (S 0) a b c0 ∧ MArr g σ2.1 38 29 S) ∨ (zGiftR (mP S) (S 0) a b c0 = 0 ∧ r2 = mP S a - c0 ∧ MArr g σ2.1 38 29 (zGives S a b c0)))) : r1 = r2 ∧ LI g σ2 := by
  obtain ⟨e0, e1, e2⟩ := hR.1
  have hn0 := hX.2.2.2.2.1.2.1.1
  have hok := hX.2.2.2.2.1.2.1
  have h8 := hX.2.2.2.2.1.2.2
  have sok := hM.2.1.2.1
  have hsm := hR.1
  obtain ⟨a1, a2, a3⟩ := p1
  obtain ⟨b1, b2, b3⟩ := p2
  rw [xSame_giftN hsm] at b3
  rcases a3 with ⟨q, c1, c2⟩ | ⟨q, c1, c2⟩
  · rcases b3 with ⟨_, d1, d2⟩ | ⟨q2, _⟩
    · exact ⟨by rw [c1, d1], LI_str hX hM hO hR a1 a2 c2 hok h8 b1 b2 d2 sok hsm⟩
    · exact absurd q2 q
  · rcases b3 with ⟨q2, _⟩ | ⟨_, d1, d2⟩
    · exact absurd q q2
    · have z := zGiftR_0 rfl q
      have y := xSame_gift hsm q
      have ko := StOk_gift (i := a) (j := b) (c := c0) hok
      rw [if_pos q] at ko
      have so := SmOk_givesIf (a := a) (b := b) (c := c0) sok
      rw [if_pos y.1] at so
      exact ⟨by rw [c1, d1, (e2 a (by omega) (by omega)).2.2], LI_str hX hM hO hR a1 a2 c2 ko h8 b1 b2 d2 so y.2⟩

theorem st_weeks {g : xG} {σ σ1 σ2 : xS} {ph : Nat} {tk n rd : Int} {P : Int → Int} {G : Int → Option Nat} {ni ri : Int} {Pi : Int → Int} {Gi Kf : Int → Option Nat} {So Sz : Int → Int} {El : Int → Int → Int} {ov : Nat → Int} {S Im Kp So2 Sz2 El2 KK KF : Int → Int} {w : Int} {r1 r2 : Int} (hX : LX g σ ph tk n rd P G ni ri Pi Gi Kf So Sz El) (hM : LM g σ.1 ov S Im Kp So2 Sz2 El2 KK KF) (hO : LO g σ.1) (hR : LR σ ph tk n rd P G ni ri Pi Gi Kf So Sz El ov S Im Kp So2 Sz2 El2 KK KF) (p1 : σ1.2 = σ.2 ∧ (∀ j, j ≠ 1 ∧ j ≠ 2 ∧ j ≠ 3 → σ1.1 j = σ.1 j) ∧ ((¬ (1 ≤ w ∧ w ≤ 99) ∧ r1 = -1 ∧ StAt g σ1.1 1 (n) (rd) (P) (G)) ∨ ((1 ≤ w ∧ w ≤ 99) ∧ r1 = zSum (zCopy (fun i => min 9999 (P i + w * zWeek (sK σ G i) (sF σ G i))) P n) n.toNat ∧ StAt g σ1.1 1 (n) (rd) (zCopy (fun i => min 9999 (P i + w * zWeek (sK σ G i) (sF σ G i))) P n) (G)))) (p2 : σ2.2 = σ1.2 ∧ (∀ j, j ≠ 38 → σ2.1 j = σ1.1 j) ∧ ((¬ (1 ≤ w ∧ w ≤ 99) ∧ r2 = -1 ∧ MArr g σ2.1 38 29 S) ∨ ((1 ≤ w ∧ w ≤ 99) ∧ r2 = zSum (mP (zWeeksS S w (S 0))) (S 0).toNat ∧ MArr g σ2.1 38 29 (zWeeksS S w (S 0))))) : r1 = r2 ∧ LI g σ2 := by
  obtain ⟨e0, e1, e2⟩ := hR.1
  have hn0 := hX.2.2.2.2.1.2.1.1
  have hok := hX.2.2.2.2.1.2.1
  have h8 := hX.2.2.2.2.1.2.2
  have sok := hM.2.1.2.1
  have hsm := hR.1
  obtain ⟨a1, a2, a3⟩ := p1
  obtain ⟨b1, b2, b3⟩ := p2
  have hH := hX.2.2.2.1
  rcases a3 with ⟨q, c1, c2⟩ | ⟨q, c1, c2⟩
  · rcases b3 with ⟨_, d1, d2⟩ | ⟨q2, _⟩
    · exact ⟨by rw [c1, d1], LI_str hX hM hO hR a1 a2 c2 hok h8 b1 b2 d2 sok hsm⟩
    · exact absurd q2 q
  · rcases b3 with ⟨q2, _⟩ | ⟨_, d1, d2⟩
    · exact absurd q q2
    · have y := xSame_weeks (w := w) hsm hn0
      refine ⟨?_, LI_str hX hM hO hR a1 a2 c2 (StOk_earn hH hok q) h8 b1 b2 d2 (SmOk_weeks sok q ⟨by omega, by omega⟩) y⟩
      rw [c1, d1, ← e0]
      rw [← e0] at y
      exact zSum_s (fun i x z => (y.2.2 i x z).2.2)

theorem st_comes {g : xG} {σ σ1 σ2 : xS} {ph : Nat} {tk n rd : Int} {P : Int → Int} {G : Int → Option Nat} {ni ri : Int} {Pi : Int → Int} {Gi Kf : Int → Option Nat} {So Sz : Int → Int} {El : Int → Int → Int} {ov : Nat → Int} {S Im Kp So2 Sz2 El2 KK KF : Int → Int} {d pu : Int} {r1 r2 : Int} (hX : LX g σ ph tk n rd P G ni ri Pi Gi Kf So Sz El) (hM : LM g σ.1 ov S Im Kp So2 Sz2 El2 KK KF) (hO : LO g σ.1) (hR : LR σ ph tk n rd P G ni ri Pi Gi Kf So Sz El ov S Im Kp So2 Sz2 El2 KK KF) (p1 : σ1.2 = σ.2 ∧ (∀ j, j ≠ 1 ∧ j ≠ 2 ∧ j ≠ 3 → σ1.1 j = σ.1 j) ∧ r1 = zComesR (xKp Kf So) n d pu ∧ ((r1 < 0 ∧ StAt g σ1.1 1 (n) (rd) (P) (G)) ∨ (0 ≤ r1 ∧ r1 = n ∧ StAt g σ1.1 1 (n + 1) (rd) (upI P n pu) (upI G n (Kf d))))) (p2 : σ2.2 = σ1.2 ∧ (∀ j, j ≠ 38 → σ2.1 j = σ1.1 j) ∧ r2 = zComesR Kp (S 0) d pu ∧ MArr g σ2.1 38 29 (if 0 ≤ zComesR Kp (S 0) d pu then zJoin S (KK d) (KF d) pu else S)) : r1 = r2 ∧ LI g σ2 := by
  obtain ⟨e0, e1, e2⟩ := hR.1
  have hn0 := hX.2.2.2.2.1.2.1.1
  have hok := hX.2.2.2.2.1.2.1
  have h8 := hX.2.2.2.2.1.2.2
  have sok := hM.2.1.2.1
  have hsm := hR.1
  have hs := hR.2.2.2
  have shk := hM.2.2.2.2.2.2.1
  have hxs := hX.2.2.2.2.2.2.2.2.2.2.2.2.1
  obtain ⟨a1, a2, a3, a4⟩ := p1
  obtain ⟨b1, b2, b3, b4⟩ := p2
  rw [zShs_comes hs] at a3
  rw [← e0] at b3 b4
  refine ⟨by rw [a3, b3], ?_⟩
  rcases a4 with ⟨q, c2⟩ | ⟨q, q1, c2⟩
  · rw [if_neg (by omega)] at b4
    exact LI_str hX hM hO hR a1 a2 c2 hok h8 b1 b2 b4 sok hsm
  · rw [a3] at q
    rw [if_pos q] at b4
    obtain ⟨z1, z2, z3, z4⟩ := zComesR_0 q
    obtain ⟨y1, y2, y3⟩ := hs d z2.1 z2.2
    obtain ⟨a, ha⟩ := xKp_some (σ := σ) (y1.trans z3)
    obtain ⟨w1, w2⟩ := y2 z3
    have kk : (0 ≤ KK d ∧ KK d < 8) ∧ (0 ≤ KF d ∧ KF d ≤ 9) := by
      rcases shk.2.2.2.2.2.2 d z2.1 z2.2 with y | ⟨_, y⟩ | ⟨y, _⟩
      · omega
      · exact y
      · omega
    have so := SmOk_adds (k := KK d) (f := KF d) (p := pu) sok hM.2.1.2.2 kk.1 kk.2 z1
    rw [if_neg (by omega)] at so
    have jo := xSame_joinE (v := pu) (o := Kf d) hsm hn0 w1 w2
    have ko := StOk_joinE (v := pu) hok h8 (hxs.2.2.1 d a ha) z1
    rw [← ha] at ko
    exact LI_str hX hM hO hR a1 a2 c2 ko (by omega) b1 b2 b4 so jo

theorem st_image {g : xG} {σ σ1 σ2 : xS} {ph : Nat} {tk n rd : Int} {P : Int → Int} {G : Int → Option Nat} {ni ri : Int} {Pi : Int → Int} {Gi Kf : Int → Option Nat} {So Sz : Int → Int} {El : Int → Int → Int} {ov : Nat → Int} {S Im Kp So2 Sz2 El2 KK KF : Int → Int} {r1 r2 : Int} (hX : LX g σ ph tk n rd P G ni ri Pi Gi Kf So Sz El) (hM : LM g σ.1 ov S Im Kp So2 Sz2 El2 KK KF) (hO : LO g σ.1) (hR : LR σ ph tk n rd P G ni ri Pi Gi Kf So Sz El ov S Im Kp So2 Sz2 El2 KK KF) (p1 : σ1.2 = σ.2 ∧ (∀ j, j ≠ 0 ∧ j ≠ 4 ∧ j ≠ 5 ∧ j ≠ 6 → σ1.1 j = σ.1 j) ∧ r1 = zSum P n.toNat ∧ XObj g σ1.1 ph 1 ∧ StAt g σ1.1 4 n rd (zCopy P Pi 9) (zCopy G Gi 9)) (p2 : σ2.2 = σ1.2 ∧ (∀ j, j ≠ 37 ∧ j ≠ 39 → σ2.1 j = σ1.1 j) ∧ r2 = zSum (mP S) (S 0).toNat ∧ (∃ ov2, MObj g σ2.1 ov2 ∧ ov2 10 = 1) ∧ MArr g σ2.1 39 29 (zCopy S Im 29)) : r1 = r2 ∧ LI g σ2 := by
  obtain ⟨e0, e1, e2⟩ := hR.1
  have hn0 := hX.2.2.2.2.1.2.1.1
  have hok := hX.2.2.2.2.1.2.1
  have h8 := hX.2.2.2.2.1.2.2
  obtain ⟨a1, a2, a3, a4, a5⟩ := p1
  obtain ⟨b1, b2, b3, ⟨ov2, b4, b5⟩, b6⟩ := p2
  refine ⟨by (rw [a3, b3, ← e0]; exact zSum_s (fun i x z => (e2 i x z).2.2)), ?_⟩
  have hM1 := hM.fr (M1 := σ1.1) (fun j hj => a2 j (by omega))
  obtain ⟨m1, m2, ⟨m4, m5⟩, ⟨Rd, m6⟩, ⟨Mi, m7⟩, ⟨c1, c2, c3, c4, c5, c6⟩, m8, ⟨Nm, m9, m10⟩, Wz, m11⟩ := hM1
  have hR1 := hR.grow hX (xGrow.rf a1)
  have hsm := hR.1
  obtain ⟨x1, x2, x3, x4, ⟨x5, x6, x7⟩, ⟨x8, x9, x10⟩, x11, x12, ⟨tb, tz, td, x13⟩, x14⟩ := hX
  have hg : xGrow σ σ1 := xGrow.rf a1
  have sok := m2.2.1
  have agr : ∀ j, 0 ≤ j → j < 29 → zCopy S Im 29 j = S j := fun j j0 j1 => zCopy_in j0 j1
  have hX1 : LX g σ1 ph 1 n rd P G n rd (zCopy P Pi 9) (zCopy G Gi 9) Kf So Sz El := ⟨a4, by rw [a1]; exact x2, Or.inr rfl, x4.same a1, ⟨x5.fr (a2 1 (by omega)) (a2 2 (by omega)) (a2 3 (by omega)), x6.grow hg, x7⟩, ⟨a5, (StOk_become x9 x6).grow hg, x7⟩, (x11.fr (a2 7 (by omega)) (a2 8 (by omega)) (a2 9 (by omega))).grow hg, x12.fr hg (fun j hj => a2 j (by omega)), ⟨tb, tz, td, (a2 23 (by omega)).trans x13⟩, x14.fr hg (fun j hj => a2 j (by omega))⟩
  have hR2 : LR σ1 ph 1 n rd P G n rd (zCopy P Pi 9) (zCopy G Gi 9) Kf So Sz El ov2 S (zCopy S Im 29) Kp So2 Sz2 El2 KK KF := ⟨hR1.1, b5, fun _ => ⟨SmOk_agr sok (zCopy_rng sok.1 m5) agr, xSame_cp hR1.1 (by omega) agr⟩, hR1.2.2.2⟩
  exact ⟨ph, 1, n, rd, P, G, n, rd, zCopy P Pi 9, zCopy G Gi 9, Kf, So, Sz, El, ov2, S, zCopy S Im 29, Kp, So2, Sz2, El2, KK, KF, hX1.fr b1 (fun j hj => b2 j (by omega)), ⟨b4, ⟨(b2 38 (by omega)).trans m2.1, m2.2⟩, ⟨b6, zCopy_rng sok.1 m5⟩, ⟨Rd, (b2 40 (by omega)).trans m6⟩, ⟨Mi, (b2 41 (by omega)).trans m7⟩, ⟨(b2 42 (by omega)).trans c1, (b2 43 (by omega)).trans c2, (b2 44 (by omega)).trans c3, (b2 45 (by omega)).trans c4, (b2 46 (by omega)).trans c5, (b2 47 (by omega)).trans c6⟩, m8, ⟨Nm, (b2 48 (by omega)).trans m9, m10⟩, Wz, (b2 49 (by omega)).trans m11⟩, (hO.fr (a2 50 (by omega))).fr (b2 50 (by omega)), hR2.grow hX1 (xGrow.rf b1)⟩

theorem st_restore {g : xG} {σ σ1 σ2 : xS} {ph : Nat} {tk n rd : Int} {P : Int → Int} {G : Int → Option Nat} {ni ri : Int} {Pi : Int → Int} {Gi Kf : Int → Option Nat} {So Sz : Int → Int} {El : Int → Int → Int} {ov : Nat → Int} {S Im Kp So2 Sz2 El2 KK KF : Int → Int} {r1 r2 : Int} (hX : LX g σ ph tk n rd P G ni ri Pi Gi Kf So Sz El) (hM : LM g σ.1 ov S Im Kp So2 Sz2 El2 KK KF) (hO : LO g σ.1) (hR : LR σ ph tk n rd P G ni ri Pi Gi Kf So Sz El ov S Im Kp So2 Sz2 El2 KK KF) (p1 : σ1.2 = σ.2 ∧ (∀ j, j ≠ 1 ∧ j ≠ 2 ∧ j ≠ 3 → σ1.1 j = σ.1 j) ∧ ((tk = 0 ∧ r1 = -3 ∧ StAt g σ1.1 1 n rd P G) ∨ (tk = 1 ∧ r1 = zSum (zCopy Pi P 9) ni.toNat ∧ StAt g σ1.1 1 ni ri (zCopy Pi P 9) (zCopy Gi G 9)))) (p2 : σ2.2 = σ1.2 ∧ (∀ j, j ≠ 38 → σ2.1 j = σ1.1 j) ∧ ((ov 10 = 0 ∧ r2 = -3 ∧ MArr g σ2.1 38 29 S) ∨ (ov 10 = 1 ∧ r2 = zSum (mP Im) (Im 0).toNat ∧ MArr g σ2.1 38 29 (zCopy Im S 29)))) : r1 = r2 ∧ LI g σ2 := by
  obtain ⟨e0, e1, e2⟩ := hR.1
  have hn0 := hX.2.2.2.2.1.2.1.1
  have hok := hX.2.2.2.2.1.2.1
  have h8 := hX.2.2.2.2.1.2.2
  have sok := hM.2.1.2.1
  have hsm := hR.1
  obtain ⟨a1, a2, a3⟩ := p1
  obtain ⟨b1, b2, b3⟩ := p2
  have hoi := hX.2.2.2.2.2.1.2.1
  have hi8 := hX.2.2.2.2.2.1.2.2
  have eo := hR.2.1
  rcases a3 with ⟨q, c1, c2⟩ | ⟨q, c1, c2⟩
  · rcases b3 with ⟨_, d1, d2⟩ | ⟨q2, _⟩
    · exact ⟨by rw [c1, d1], LI_str hX hM hO hR a1 a2 c2 hok h8 b1 b2 d2 sok hsm⟩
    · exfalso; omega
  · rcases b3 with ⟨q2, _⟩ | ⟨_, d1, d2⟩
    · exfalso; omega
    · obtain ⟨im1, im2⟩ := hR.2.2.1 q
      have agr : ∀ j, 0 ≤ j → j < 29 → zCopy Im S 29 j = Im j := fun j j0 j1 => zCopy_in j0 j1
      have ei := im2.1
      refine ⟨?_, LI_str hX hM hO hR a1 a2 c2 (StOk_become hok hoi) hi8 b1 b2 d2 (SmOk_agr im1 (zCopy_rng im1.1 sok.1) agr) (xSame_cp im2 (by omega) agr)⟩
      rw [c1, d1, ← ei]
      exact zSum_s (fun i x z => by rw [zCopy_in x (by omega)]; exact (im2.2.2 i x z).2.2)

theorem st_keep {g : xG} {σ σ1 σ2 : xS} {ph : Nat} {tk n rd : Int} {P : Int → Int} {G : Int → Option Nat} {ni ri : Int} {Pi : Int → Int} {Gi Kf : Int → Option Nat} {So Sz : Int → Int} {El : Int → Int → Int} {ov : Nat → Int} {S Im Kp So2 Sz2 El2 KK KF : Int → Int} {d wh kd fg : Int} {r1 r2 : Int} (hX : LX g σ ph tk n rd P G ni ri Pi Gi Kf So Sz El) (hM : LM g σ.1 ov S Im Kp So2 Sz2 El2 KK KF) (hO : LO g σ.1) (hR : LR σ ph tk n rd P G ni ri Pi Gi Kf So Sz El ov S Im Kp So2 Sz2 El2 KK KF) (p1 : xGrow σ σ1 ∧ HsOk σ1 ∧ (∀ j, j ≠ 25 ∧ j ≠ 26 → σ1.1 j = σ.1 j) ∧ ((r1 = -1 ∧ ¬ zKeepOk d wh kd fg ∧ σ1 = σ) ∨ (r1 = 0 ∧ zKeepOk d wh kd fg ∧ MArr g σ1.1 26 8 (upI So d (-1)) ∧ ((wh = 0 ∧ σ1.2 = σ.2 ∧ MRef g σ1.1 25 8 (upI Kf d none)) ∨ (wh = 1 ∧ ∃ a, a ∉ σ.2.1 ∧ σ1.2 = (xBorn σ a kd.toNat fg).2 ∧ MRef g σ1.1 25 8 (upI Kf d (some a))))))) (p2 : σ2.2 = σ1.2 ∧ (∀ j, j ≠ 42 ∧ j ≠ 46 ∧ j ≠ 47 → σ2.1 j = σ1.1 j) ∧ ((r2 = -1 ∧ ¬ zKeepOk d wh kd fg ∧ σ2.1 = σ1.1) ∨ (r2 = 0 ∧ zKeepOk d wh kd fg ∧ MArr g σ2.1 42 8 (upI Kp d wh) ∧ MArr g σ2.1 46 8 (upI KK d kd) ∧ MArr g σ2.1 47 8 (upI KF d fg)))) (hkd : inR kd) (hfg : inR fg) : r1 = r2 ∧ LI g σ2 := by
  have hs := hR.2.2.2
  have shk := hM.2.2.2.2.2.2.1
  have hsh := hX.2.2.2.2.2.2.2.2.2
  obtain ⟨a1, a2, a3, a4⟩ := p1
  obtain ⟨b1, b2, b3⟩ := p2
  have hM1 := hM.fr (M1 := σ1.1) (fun j hj => a3 j (by omega))
  obtain ⟨m1, m2, m4, m6, m7, ⟨c1, c2, c3, c4, c5, c6⟩, m8, m9, m11⟩ := hM1
  obtain ⟨s1, s2, s3, s4, s5, s6, s7⟩ := hsh
  obtain ⟨k1, k2, k3, k4, k5, k6, k7⟩ := shk
  rcases a4 with ⟨q, q1, q2⟩ | ⟨q, q1, q2, q3⟩
  · rcases b3 with ⟨d, d1, d2⟩ | ⟨d, d1, _⟩
    · subst q2
      refine ⟨by rw [q, d], ?_⟩
      have e : σ2 = σ1 := Prod.ext d2 b1
      rw [e]
      exact ⟨ph, tk, n, rd, P, G, ni, ri, Pi, Gi, Kf, So, Sz, El, ov, S, Im, Kp, So2, Sz2, El2, KK, KF, hX, hM, hO, hR⟩
    · exact absurd d1 q1
  · rcases b3 with ⟨d9, d1, d2⟩ | ⟨d9, d1, d2, d3, d4⟩
    · exact absurd q1 d1
    · refine ⟨by rw [q, d9], ?_⟩
      obtain ⟨o1, o2⟩ := q1
      have hgr : ∀ i a, Kf i = some a → a ∈ σ1.2.1 := fun i a e => (a1 a (s4.2.2.1 i a e)).1
      have rest : ∀ (o : Option Nat) (i : Int), 0 ≤ i → i ≤ 7 → i ≠ d → xKp (upI Kf d o) (upI So d (-1)) i = Kp i ∧ (Kp i = 1 → sK σ1 (upI Kf d o) i = (KK i).toNat ∧ sF σ1 (upI Kf d o) i = KF i) ∧ (Kp i = 2 → So i = So2 i ∧ Sz i = Sz2 i ∧ ∀ j : Int, 0 ≤ j → j < 100 → El i j = El2 (100 * i + j)) := fun o i i0 i1 ne => by
        obtain ⟨y1, y2, y3⟩ := hs i i0 i1
        have z := sK_grow a1 (G := Kf) (i := i) (fun a ha => s4.2.2.1 i a ha)
        have ek : upI Kf d o i = Kf i := upI_n ne
        refine ⟨?_, fun k => ?_, y3⟩
        · unfold xKp; rw [ek, upI_n ne]; exact y1
        · unfold sK sF; rw [ek]
          have yk := y2 k
          unfold sK sF at z yk
          rw [z.1, z.2]; exact yk
      have tail : ∀ (o : Option Nat), (∀ a, o = some a → a ∈ σ1.2.1) → kpO o (-1) = wh → (wh = 1 → kdO σ1.2.2.1 o = kd.toNat ∧ fgO σ1.2.2.2 o = fg) → MRef g σ1.1 25 8 (upI Kf d o) → LI g σ2 := fun o ho hw hh h25 => by
        refine LI_sh (Kf2 := upI Kf d o) (So9 := upI So d (-1)) (Sz9 := Sz) (El9 := El) (Kp9 := upI Kp d wh) (So8 := So2) (Sz8 := Sz2) (El8 := El2) (KK9 := upI KK d kd) (KF9 := upI KF d fg) hX hM hO hR a1 a2 (fun j hj => a3 j (by omega)) ⟨h25, q2, (a3 27 (by omega)).trans s3, ⟨upI_rng s4.1 ⟨by omega, by omega⟩, s4.2.1, fun i a e => ?_, fun i i0 i1 => ?_⟩, (a3 28 (by omega)).trans s5, fun i i0 i1 => (a3 (29 + i.toNat) (by omega)).trans (s6 i i0 i1), s7⟩ b1 (fun j hj => b2 j (by omega)) ⟨d2, (b2 43 (by omega)).trans c2, (b2 44 (by omega)).trans c3, (b2 45 (by omega)).trans c4, d3, d4⟩ ⟨upI_rng k1 ⟨by omega, by omega⟩, k2, k3, k4, upI_rng k5 hkd, upI_rng k6 hfg, fun i i0 i1 => ?_⟩ (fun i i0 i1 => ?_)
        · by_cases e9 : i = d
          · subst e9; rw [upI_s] at e; exact ho a e
          · rw [upI_n e9] at e; exact hgr i a e
        · by_cases e9 : i = d
          · subst e9; rw [upI_s]; exact Or.inl rfl
          · rw [upI_n e9, upI_n e9]; exact s4.2.2.2 i i0 i1
        · by_cases e9 : i = d
          · subst e9; rw [upI_s, upI_s, upI_s]
            rcases o2 with o2 | ⟨o2, o3, o4⟩
            · exact Or.inl o2
            · exact Or.inr (Or.inl ⟨o2, ⟨by omega, by omega⟩, by omega, by omega⟩)
          · rw [upI_n e9, upI_n e9, upI_n e9]; exact k7 i i0 i1
        · by_cases e9 : i = d
          · subst e9
            rw [upI_s (f := Kp), upI_s (f := KK), upI_s (f := KF)]
            refine ⟨?_, fun k => ?_, fun k => ?_⟩
            · unfold xKp; rw [upI_s, upI_s]; exact hw
            · unfold sK sF; rw [upI_s]; exact hh k
            · exfalso; rcases o2 with o2 | ⟨o2, _⟩ <;> omega
          · rw [upI_n (f := Kp) e9, upI_n (f := KK) e9, upI_n (f := KF) e9, upI_n (f := So) e9]; exact rest o i i0 i1 e9
      rcases q3 with ⟨w0, w1, w2⟩ | ⟨w0, a, w1, w2, w3⟩
      · refine tail none (fun a e => by cases e) (by rw [w0]; rfl) (fun x => by omega) w2
      · refine tail (some a) (fun b e => by (cases e; rw [w2]; exact List.mem_append_right _ (List.mem_singleton.mpr rfl))) (by rw [w0]; rfl) (fun _ => ?_) w3
        rw [w2]
        exact ⟨va_up_self _ _ _, va_up_self _ _ _⟩

theorem st_row {g : xG} {σ σ1 σ2 : xS} {ph : Nat} {tk n rd : Int} {P : Int → Int} {G : Int → Option Nat} {ni ri : Int} {Pi : Int → Int} {Gi Kf : Int → Option Nat} {So Sz : Int → Int} {El : Int → Int → Int} {ov : Nat → Int} {S Im Kp So2 Sz2 El2 KK KF : Int → Int} {d o n0 : Int} {r1 r2 : Int} (hX : LX g σ ph tk n rd P G ni ri Pi Gi Kf So Sz El) (hM : LM g σ.1 ov S Im Kp So2 Sz2 El2 KK KF) (hO : LO g σ.1) (hR : LR σ ph tk n rd P G ni ri Pi Gi Kf So Sz El ov S Im Kp So2 Sz2 El2 KK KF) (p1 : σ1.2 = σ.2 ∧ (∀ j, j ≠ 25 ∧ j ≠ 26 ∧ j ≠ 27 ∧ j ≠ 29 + d.toNat → σ1.1 j = σ.1 j) ∧ ((r1 ≠ 0 ∧ r1 = zRowMk d o n0 ∧ σ1.1 = σ.1) ∨ (r1 = 0 ∧ zRowMk d o n0 = 0 ∧ MRef g σ1.1 25 8 (upI Kf d none) ∧ MArr g σ1.1 26 8 (upI So d o) ∧ MArr g σ1.1 27 8 (upI Sz d n0) ∧ MArr g σ1.1 (29 + d.toNat) 100 (zCopy (fun _ => 0) (El d) ((100 : Nat) : Int))))) (p2 : σ2.2 = σ1.2 ∧ (∀ j, j ≠ 42 ∧ j ≠ 43 ∧ j ≠ 44 ∧ j ≠ 45 → σ2.1 j = σ1.1 j) ∧ ((r2 ≠ 0 ∧ r2 = zRowMk d o n0 ∧ σ2.1 = σ1.1) ∨ (r2 = 0 ∧ zRowMk d o n0 = 0 ∧ MArr g σ2.1 42 8 (upI Kp d 2) ∧ MArr g σ2.1 43 8 (upI So2 d o) ∧ MArr g σ2.1 44 8 (upI Sz2 d n0) ∧ MArr g σ2.1 45 800 (zZero El2 (100 * d) 100)))) : r1 = r2 ∧ LI g σ2 := by
  have hfr9 := fr_row (σ := σ) (σ1 := σ1) p1
  have hs := hR.2.2.2
  have shk := hM.2.2.2.2.2.2.1
  have hsh := hX.2.2.2.2.2.2.2.2.2
  have hH := hX.2.2.2.1
  obtain ⟨s1, s2, s3, s4, s5, s6, s7⟩ := hsh
  obtain ⟨k1, k2, k3, k4, k5, k6, k7⟩ := shk
  obtain ⟨a1, a2, a3⟩ := p1
  obtain ⟨b1, b2, b3⟩ := p2
  have hM1 := hM.fr (M1 := σ1.1) (fun j hj => hfr9 j (by omega))
  obtain ⟨m1, m2, m4, m6, m7, ⟨c1, c2, c3, c4, c5, c6⟩, m8, m9, m11⟩ := hM1
  have hg : xGrow σ σ1 := xGrow.rf a1
  rcases a3 with ⟨q, q1, q2⟩ | ⟨q, q1, q2, q3, q4, q5⟩
  · rcases b3 with ⟨d9, d1, d2⟩ | ⟨d9, d1, _⟩
    · refine ⟨by rw [q1, d1], ?_⟩
      have e1 : σ1 = σ := Prod.ext q2 a1
      have e : σ2 = σ := (Prod.ext d2 b1 : σ2 = σ1).trans e1
      rw [e]
      exact ⟨ph, tk, n, rd, P, G, ni, ri, Pi, Gi, Kf, So, Sz, El, ov, S, Im, Kp, So2, Sz2, El2, KK, KF, hX, hM, hO, hR⟩
    · exfalso; omega
  · rcases b3 with ⟨d9, d1, d2⟩ | ⟨d9, d1, d2, d3, d4, d5⟩
    · exfalso; omega
    · refine ⟨by rw [q, d9], ?_⟩
      have cond : (0 ≤ d ∧ d ≤ 7) ∧ (0 ≤ o ∧ o ≤ 2) ∧ 0 ≤ n0 ∧ n0 ≤ 100 := by
        unfold zRowMk at q1
        by_cases x1 : ¬ (0 ≤ d ∧ d ≤ 7) ∨ ¬ (0 ≤ o ∧ o ≤ 2) ∨ 100 < n0
        · rw [if_pos x1] at q1; omega
        · rw [if_neg x1] at q1
          by_cases x2 : n0 < 0
          · rw [if_pos x2] at q1; omega
          · omega
      obtain ⟨g1, g2, g3⟩ := cond
      have hz : ∀ i k : Int, inR (zZero El2 (100 * d) 100 k) := fun _ k => by
        unfold zZero; split
        · exact ⟨by omega, by omega⟩
        · exact k4 k
      refine LI_sh (Kf2 := upI Kf d none) (So9 := upI So d o) (Sz9 := upI Sz d n0) (El9 := upI El d (zCopy (fun _ => 0) (El d) ((100 : Nat) : Int))) (Kp9 := upI Kp d 2) (So8 := upI So2 d o) (Sz8 := upI Sz2 d n0) (El8 := zZero El2 (100 * d) 100) (KK9 := KK) (KF9 := KF) hX hM hO hR hg (hH.same a1) (fun j hj => a2 j (by omega)) ⟨q2, q3, q4, ⟨upI_rng s4.1 ⟨by omega, by omega⟩, upI_rng s4.2.1 ⟨by omega, by omega⟩, fun i a e => ?_, fun i i0 i1 => ?_⟩, (a2 28 (by omega)).trans s5, fun i i0 i1 => ?_, fun i k => ?_⟩ b1 (fun j hj => b2 j (by omega)) ⟨d2, d3, d4, d5, (b2 46 (by omega)).trans c5, (b2 47 (by omega)).trans c6⟩ ⟨upI_rng k1 ⟨by omega, by omega⟩, upI_rng k2 ⟨by omega, by omega⟩, upI_rng k3 ⟨by omega, by omega⟩, hz 0, k5, k6, fun i i0 i1 => ?_⟩ (fun i i0 i1 => ?_)
      · by_cases e9 : i = d
        · subst e9; rw [upI_s] at e; cases e
        · rw [upI_n e9] at e; exact (hg a (s4.2.2.1 i a e)).1
      · by_cases e9 : i = d
        · subst e9; rw [upI_s, upI_s, upI_s]; exact Or.inr ⟨by omega, by omega, rfl, by omega, by omega⟩
        · rw [upI_n e9, upI_n e9, upI_n e9]; exact s4.2.2.2 i i0 i1
      · by_cases e9 : i = d
        · subst e9; rw [upI_s]; exact q5
        · rw [upI_n e9]; exact (a2 (29 + i.toNat) (by omega)).trans (s6 i i0 i1)
      · by_cases e9 : i = d
        · subst e9; rw [upI_s]; exact zCopy_rng (fun _ => (⟨by decide, by decide⟩ : inR 0)) (s7 i) k
        · rw [upI_n e9]; exact s7 i k
      · by_cases e9 : i = d
        · subst e9; rw [upI_s, upI_s, upI_s]; exact Or.inr (Or.inr ⟨rfl, ⟨by omega, by omega⟩, by omega, by omega⟩)
        · rw [upI_n e9, upI_n e9, upI_n e9]; exact k7 i i0 i1
      · by_cases e9 : i = d
        · subst e9
          rw [upI_s, upI_s, upI_s, upI_s, upI_s, upI_s]
          refine ⟨?_, fun k => by omega, fun _ => ⟨rfl, rfl, fun j j0 j1 => ?_⟩⟩
          · show kpO (upI Kf i none i) (upI So i o i) = 2
            rw [upI_s, upI_s]
            show (if o = -1 then (0 : Int) else 2) = 2
            rw [if_neg (by omega)]
          · rw [zCopy_in j0 (by omega)]; unfold zZero; rw [if_pos (by omega)]
        · rw [upI_n e9, upI_n e9, upI_n e9, upI_n e9, upI_n e9, upI_n e9]
          obtain ⟨y1, y2, y3⟩ := hs i i0 i1
          have z := sK_grow hg (G := Kf) (i := i) (fun a ha => s4.2.2.1 i a ha)
          have ek : upI Kf d none i = Kf i := upI_n e9
          refine ⟨?_, fun k => ?_, fun k => ⟨(y3 k).1, (y3 k).2.1, fun j j0 j1 => ?_⟩⟩
          · unfold xKp; rw [ek, upI_n e9]; exact y1
          · unfold sK sF; rw [ek]
            have yk := y2 k
            unfold sK sF at z yk
            rw [z.1, z.2]; exact yk
          · unfold zZero; rw [if_neg (by omega)]; exact (y3 k).2.2 j j0 j1

theorem st_put {g : xG} {σ σ1 σ2 : xS} {ph : Nat} {tk n rd : Int} {P : Int → Int} {G : Int → Option Nat} {ni ri : Int} {Pi : Int → Int} {Gi Kf : Int → Option Nat} {So Sz : Int → Int} {El : Int → Int → Int} {ov : Nat → Int} {S Im Kp So2 Sz2 El2 KK KF : Int → Int} {d i v : Int} {r1 r2 : Int} (hX : LX g σ ph tk n rd P G ni ri Pi Gi Kf So Sz El) (hM : LM g σ.1 ov S Im Kp So2 Sz2 El2 KK KF) (hO : LO g σ.1) (hR : LR σ ph tk n rd P G ni ri Pi Gi Kf So Sz El ov S Im Kp So2 Sz2 El2 KK KF) (p1 : σ1.2 = σ.2 ∧ (∀ j, j ≠ 29 + d.toNat → σ1.1 j = σ.1 j) ∧ r1 = zPutR (xKp Kf So) So Sz d i ∧ ((r1 < 0 ∧ σ1.1 = σ.1) ∨ (r1 = 0 ∧ MArr g σ1.1 (29 + d.toNat) 100 (upI (El d) i (zLow (So d) v))))) (p2 : σ2.2 = σ1.2 ∧ (∀ j, j ≠ 45 → σ2.1 j = σ1.1 j) ∧ ((r2 ≠ 0 ∧ r2 = zPutR Kp So2 Sz2 d i ∧ σ2.1 = σ1.1) ∨ (r2 = 0 ∧ zPutR Kp So2 Sz2 d i = 0 ∧ MArr g σ2.1 45 800 (upI El2 (100 * d + i) (zLow (So2 d) v))))) (hv : inR v) : r1 = r2 ∧ LI g σ2 := by
  have hfr9 := fr_put (σ := σ) (σ1 := σ1) p1
  have hs := hR.2.2.2
  have shk := hM.2.2.2.2.2.2.1
  have hsh := hX.2.2.2.2.2.2.2.2.2
  have hH := hX.2.2.2.1
  obtain ⟨s1, s2, s3, s4, s5, s6, s7⟩ := hsh
  obtain ⟨k1, k2, k3, k4, k5, k6, k7⟩ := shk
  obtain ⟨a1, a2, a3, a4⟩ := p1
  obtain ⟨b1, b2, b3⟩ := p2
  have hM1 := hM.fr (M1 := σ1.1) (fun j hj => hfr9 j (by omega))
  obtain ⟨m1, m2, m4, m6, m7, ⟨c1, c2, c3, c4, c5, c6⟩, m8, m9, m11⟩ := hM1
  have hg : xGrow σ σ1 := xGrow.rf a1
  rw [zShs_put hs] at a3
  rcases a4 with ⟨q, q2⟩ | ⟨q, q2⟩
  · rcases b3 with ⟨d9, d1, d2⟩ | ⟨d9, d1, _⟩
    · refine ⟨by rw [a3, d1], ?_⟩
      have e1 : σ1 = σ := Prod.ext q2 a1
      have e : σ2 = σ := (Prod.ext d2 b1 : σ2 = σ1).trans e1
      rw [e]
      exact ⟨ph, tk, n, rd, P, G, ni, ri, Pi, Gi, Kf, So, Sz, El, ov, S, Im, Kp, So2, Sz2, El2, KK, KF, hX, hM, hO, hR⟩
    · exfalso; omega
  · rcases b3 with ⟨d9, d1, d2⟩ | ⟨d9, d1, d2⟩
    · exfalso; omega
    · refine ⟨by rw [q, d9], ?_⟩
      obtain ⟨z1, z2, z3, z4⟩ := zPutR_0 d1
      obtain ⟨y1, y2, y3⟩ := (hs d z1.1 z1.2).2.2 z2
      have sz : Sz2 d ≤ 100 := by
        rcases k7 d z1.1 z1.2 with y | ⟨y, _⟩ | ⟨_, _, y⟩
        · omega
        · omega
        · exact y.2
      have lr : inR (zLow (So d) v) := by
        unfold zLow; split
        · exact iByte_rng v
        · split
          · exact iShort_rng v
          · exact hv
      refine LI_sh (Kf2 := Kf) (So9 := So) (Sz9 := Sz) (El9 := upI El d (upI (El d) i (zLow (So d) v))) (Kp9 := Kp) (So8 := So2) (Sz8 := Sz2) (El8 := upI El2 (100 * d + i) (zLow (So2 d) v)) (KK9 := KK) (KF9 := KF) hX hM hO hR hg (hH.same a1) (fun j hj => a2 j (by omega)) ⟨(a2 25 (by omega)).trans s1, (a2 26 (by omega)).trans s2, (a2 27 (by omega)).trans s3, s4.grow hg, (a2 28 (by omega)).trans s5, fun x x0 x1 => ?_, fun x k => ?_⟩ b1 (fun j hj => b2 j (by omega)) ⟨(b2 42 (by omega)).trans c1, (b2 43 (by omega)).trans c2, (b2 44 (by omega)).trans c3, d2, (b2 46 (by omega)).trans c5, (b2 47 (by omega)).trans c6⟩ ⟨k1, k2, k3, upI_rng k4 (by rw [← y1]; exact lr), k5, k6, k7⟩ (fun x x0 x1 => ?_)
      · by_cases e9 : x = d
        · subst e9; rw [upI_s]; exact q2
        · rw [upI_n e9]; exact (a2 (29 + x.toNat) (by omega)).trans (s6 x x0 x1)
      · by_cases e9 : x = d
        · subst e9; rw [upI_s]; exact upI_rng (s7 x) lr k
        · rw [upI_n e9]; exact s7 x k
      · obtain ⟨t1, t2, t3⟩ := (hs.grow s4 hg) x x0 x1
        refine ⟨t1, t2, fun k => ⟨(t3 k).1, (t3 k).2.1, fun j j0 j1 => ?_⟩⟩
        by_cases e9 : x = d
        · subst e9
          rw [upI_s]
          by_cases e8 : j = i
          · subst e8; rw [upI_s, upI_s, y1]
          · rw [upI_n e8, upI_n (by omega)]; exact (t3 k).2.2 j j0 j1
        · rw [upI_n e9, upI_n (by omega)]; exact (t3 k).2.2 j j0 j1

theorem st_copy {g : xG} {σ σ1 σ2 : xS} {ph : Nat} {tk n rd : Int} {P : Int → Int} {G : Int → Option Nat} {ni ri : Int} {Pi : Int → Int} {Gi Kf : Int → Option Nat} {So Sz : Int → Int} {El : Int → Int → Int} {ov : Nat → Int} {S Im Kp So2 Sz2 El2 KK KF : Int → Int} {d i0 e9 j0 n0 : Int} {r1 r2 : Int} (hX : LX g σ ph tk n rd P G ni ri Pi Gi Kf So Sz El) (hM : LM g σ.1 ov S Im Kp So2 Sz2 El2 KK KF) (hO : LO g σ.1) (hR : LR σ ph tk n rd P G ni ri Pi Gi Kf So Sz El ov S Im Kp So2 Sz2 El2 KK KF) (p1 : σ1.2 = σ.2 ∧ (∀ j, j ≠ 29 + e9.toNat → σ1.1 j = σ.1 j) ∧ r1 = zCopyR (xKp Kf So) So Sz d i0 e9 j0 n0 ∧ ((r1 < 0 ∧ σ1.1 = σ.1) ∨ (0 ≤ r1 ∧ MArr g σ1.1 (29 + e9.toNat) 100 (zCpy (El d) (El e9) i0 j0 n0)))) (p2 : σ2.2 = σ1.2 ∧ (∀ j, j ≠ 45 → σ2.1 j = σ1.1 j) ∧ r2 = zCopyR Kp So2 Sz2 d i0 e9 j0 n0 ∧ ((r2 < 0 ∧ σ2.1 = σ1.1) ∨ (0 ≤ r2 ∧ MArr g σ2.1 45 800 (zMoved El2 (100 * d + i0) (100 * e9 + j0) n0)))) : r1 = r2 ∧ LI g σ2 := by
  have hfr9 := fr_copy (σ := σ) (σ1 := σ1) p1
  have hs := hR.2.2.2
  have shk := hM.2.2.2.2.2.2.1
  have hsh := hX.2.2.2.2.2.2.2.2.2
  have hH := hX.2.2.2.1
  obtain ⟨s1, s2, s3, s4, s5, s6, s7⟩ := hsh
  obtain ⟨k1, k2, k3, k4, k5, k6, k7⟩ := shk
  obtain ⟨a1, a2, a3, a4⟩ := p1
  obtain ⟨b1, b2, b3, b4⟩ := p2
  have hM1 := hM.fr (M1 := σ1.1) (fun j hj => hfr9 j (by omega))
  obtain ⟨m1, m2, m4, m6, m7, ⟨c1, c2, c3, c4, c5, c6⟩, m8, m9, m11⟩ := hM1
  have hg : xGrow σ σ1 := xGrow.rf a1
  rw [zShs_copy hs] at a3
  refine ⟨by rw [a3, b3], ?_⟩
  rcases a4 with ⟨q, q2⟩ | ⟨q, q2⟩
  · rcases b4 with ⟨d9, d2⟩ | ⟨d9, _⟩
    · have e1 : σ1 = σ := Prod.ext q2 a1
      have e : σ2 = σ := (Prod.ext d2 b1 : σ2 = σ1).trans e1
      rw [e]
      exact ⟨ph, tk, n, rd, P, G, ni, ri, Pi, Gi, Kf, So, Sz, El, ov, S, Im, Kp, So2, Sz2, El2, KK, KF, hX, hM, hO, hR⟩
    · exfalso; omega
  · rcases b4 with ⟨d9, d2⟩ | ⟨d9, d2⟩
    · exfalso; omega
    · rw [a3] at q
      obtain ⟨z1, z2, ⟨z3, z4, z5⟩, z6, z7, z8, z9, z10⟩ := zCopyR_0 q
      obtain ⟨y1, y2, y3⟩ := (hs d z1.1 z1.2).2.2 z3
      obtain ⟨x1, x2, x3⟩ := (hs e9 z2.1 z2.2).2.2 z4
      have sz : Sz2 d ≤ 100 := by
        rcases k7 d z1.1 z1.2 with y | ⟨y, _⟩ | ⟨_, _, y⟩
        · omega
        · omega
        · exact y.2
      have sz2 : Sz2 e9 ≤ 100 := by
        rcases k7 e9 z2.1 z2.2 with y | ⟨y, _⟩ | ⟨_, _, y⟩
        · omega
        · omega
        · exact y.2
      refine LI_sh (Kf2 := Kf) (So9 := So) (Sz9 := Sz) (El9 := upI El e9 (zCpy (El d) (El e9) i0 j0 n0)) (Kp9 := Kp) (So8 := So2) (Sz8 := Sz2) (El8 := zMoved El2 (100 * d + i0) (100 * e9 + j0) n0) (KK9 := KK) (KF9 := KF) hX hM hO hR hg (hH.same a1) (fun j hj => a2 j (by omega)) ⟨(a2 25 (by omega)).trans s1, (a2 26 (by omega)).trans s2, (a2 27 (by omega)).trans s3, s4.grow hg, (a2 28 (by omega)).trans s5, fun x x0 x1 => ?_, fun x k => ?_⟩ b1 (fun j hj => b2 j (by omega)) ⟨(b2 42 (by omega)).trans c1, (b2 43 (by omega)).trans c2, (b2 44 (by omega)).trans c3, d2, (b2 46 (by omega)).trans c5, (b2 47 (by omega)).trans c6⟩ ⟨k1, k2, k3, fun k => ?_, k5, k6, k7⟩ (fun x x0 x1 => ?_)
      · by_cases e8 : x = e9
        · subst e8; rw [upI_s]; exact q2
        · rw [upI_n e8]; exact (a2 (29 + x.toNat) (by omega)).trans (s6 x x0 x1)
      · by_cases e8 : x = e9
        · subst e8; rw [upI_s]; unfold zCpy; split
          · exact s7 d _
          · exact s7 x k
        · rw [upI_n e8]; exact s7 x k
      · unfold zMoved; split
        · exact k4 _
        · exact k4 k
      · obtain ⟨t1, t2, t3⟩ := (hs.grow s4 hg) x x0 x1
        refine ⟨t1, t2, fun k => ⟨(t3 k).1, (t3 k).2.1, fun j jl jh => ?_⟩⟩
        by_cases e8 : x = e9
        · subst e8
          rw [upI_s]
          unfold zCpy zMoved
          by_cases u : j0 ≤ j ∧ j < j0 + n0
          · rw [if_pos u, if_pos (by omega), y3 _ (by omega) (by omega)]
            congr 1; omega
          · rw [if_neg u, if_neg (by omega)]; exact (t3 k).2.2 j jl jh
        · rw [upI_n e8]; unfold zMoved; rw [if_neg (by omega)]; exact (t3 k).2.2 j jl jh

theorem st_street {g : xG} {σ σ1 σ2 : xS} {ph : Nat} {tk n rd : Int} {P : Int → Int} {G : Int → Option Nat} {ni ri : Int} {Pi : Int → Int} {Gi Kf : Int → Option Nat} {So Sz : Int → Int} {El : Int → Int → Int} {ov : Nat → Int} {S Im Kp So2 Sz2 El2 KK KF : Int → Int} {d : Int} {r1 r2 : Int} (hX : LX g σ ph tk n rd P G ni ri Pi Gi Kf So Sz El) (hM : LM g σ.1 ov S Im Kp So2 Sz2 El2 KK KF) (hO : LO g σ.1) (hR : LR σ ph tk n rd P G ni ri Pi Gi Kf So Sz El ov S Im Kp So2 Sz2 El2 KK KF) (p1 : (∀ j, (j ≠ 1 ∧ j ≠ 2 ∧ j ≠ 3 ∧ j ≠ 7 ∧ j ≠ 8 ∧ j ≠ 9 ∧ j ≠ 23) → σ1.1 j = σ.1 j) ∧ xGrow σ σ1 ∧ HsOk σ1 ∧ (∃ b1 z1 d1, TObj g σ1.1 b1 z1 d1) ∧ xStr g σ1.1 σ1 7 ∧ r1 = (zStrC (xKp Kf So) So Sz El S d).1 ∧ ∃ n1 rd1 P1 G1, StAt g σ1.1 1 n1 rd1 P1 G1 ∧ StOk σ1 n1 rd1 P1 G1 ∧ n1 ≤ 8 ∧ xSame σ1 n1 rd1 P1 G1 (zStrC (xKp Kf So) So Sz El S d).2) (p2 : σ2.2 = σ1.2 ∧ (∀ j, j ≠ 37 ∧ j ≠ 38 ∧ j ≠ 40 ∧ j ≠ 48 → σ2.1 j = σ1.1 j) ∧ r2 = (zStr Kp So2 Sz2 El2 S d).1 ∧ ∃ ov2 S2 Rd2 N2, MObj g σ2.1 ov2 ∧ ov2 10 = ov 10 ∧ MArr g σ2.1 38 29 S2 ∧ SmOk S2 ∧ S2 0 ≤ 8 ∧ (∀ j, 0 ≤ j → j < 29 → S2 j = (zStr Kp So2 Sz2 El2 S d).2 j) ∧ MArr g σ2.1 40 29 Rd2 ∧ MArr g σ2.1 48 3 N2 ∧ ∀ k, inR (N2 k)) : r1 = r2 ∧ LI g σ2 := by
  have hs := hR.2.2.2
  have shk := hM.2.2.2.2.2.2.1
  obtain ⟨a1, a2, a3, a4, a5, a6, n1, rd1, P1, G1, a7, a8, a9, a10⟩ := p1
  obtain ⟨b1, b2, b3, ov2, S2, Rd2, N2, b4, b5, b6, b7, b8, b9, b10, b11, b12⟩ := p2
  have es := zShs_str hs S d (fun hd k2 => by
    rcases shk.2.2.2.2.2.2 d hd.1 hd.2 with y | ⟨y, _⟩ | ⟨_, _, y⟩
    · omega
    · omega
    · exact y)
  rw [es] at a6 a10
  refine ⟨by rw [a6, b3], ?_⟩
  have hM1 := hM.fr (M1 := σ1.1) (fun j hj => a1 j (by omega))
  obtain ⟨m1, m2, ⟨m4, m5⟩, ⟨Rd, m6⟩, ⟨Mi, m7⟩, ⟨c1, c2, c3, c4, c5, c6⟩, m8, ⟨Nm, m9, m10⟩, Wz, m11⟩ := hM1
  have hR1 := hR.grow hX a2
  obtain ⟨x1, ⟨x2, y2, y3⟩, x3, x4, ⟨x5, x6, x7⟩, ⟨x8, x9, x10⟩, x11, x12, x13, x14⟩ := hX
  obtain ⟨g1, g2, g3⟩ := a2 ph x2
  have hX1 : LX g σ1 ph tk n1 rd1 P1 G1 ni ri Pi Gi Kf So Sz El := ⟨(a1 0 (by omega)).trans x1, ⟨g1, g2.trans y2, g3.trans y3⟩, x3, a3, ⟨a7, a8, a9⟩, ⟨x8.fr (a1 4 (by omega)) (a1 5 (by omega)) (a1 6 (by omega)), x9.grow a2, x10⟩, a5, x12.fr a2 (fun j hj => a1 j (by omega)), a4, x14.fr a2 (fun j hj => a1 j (by omega))⟩
  have hR2 : LR σ1 ph tk n1 rd1 P1 G1 ni ri Pi Gi Kf So Sz El ov2 S2 Im Kp So2 Sz2 El2 KK KF := ⟨xSame_agr a10 (by omega) b9, b5.trans hR1.2.1, hR1.2.2⟩
  exact ⟨ph, tk, n1, rd1, P1, G1, ni, ri, Pi, Gi, Kf, So, Sz, El, ov2, S2, Im, Kp, So2, Sz2, El2, KK, KF, hX1.fr b1 (fun j hj => b2 j (by omega)), ⟨b4, ⟨b6, b7, b8⟩, ⟨(b2 39 (by omega)).trans m4, m5⟩, ⟨Rd2, b10⟩, ⟨Mi, (b2 41 (by omega)).trans m7⟩, ⟨(b2 42 (by omega)).trans c1, (b2 43 (by omega)).trans c2, (b2 44 (by omega)).trans c3, (b2 45 (by omega)).trans c4, (b2 46 (by omega)).trans c5, (b2 47 (by omega)).trans c6⟩, m8, ⟨N2, b11, b12⟩, Wz, (b2 49 (by omega)).trans m11⟩, (hO.fr (a1 50 (by omega))).fr (b2 50 (by omega)), hR2.grow hX1 (xGrow.rf b1)⟩
