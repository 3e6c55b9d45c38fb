section XROWS2
variable {p : Program} {l : Launch} {e : Env} {R : Room} {s : State} {m : MethodId} {args : Array Value} {below : List Frame} {meth : Method} {c : Code} {H : Heap} {locs : List Loc} {cells slots : Nat} {Q : State → Prop}
variable {cc : ByteArray} {pc : Nat} {ls : Array Slot} {rest : List Value} {g : xG} {σ : xS} {A : Nat → Prop} {H0 : Heap}
theorem x_cqi0 {st0 : List Value} {a : Array Value} {post : Int → xS → Prop} (hr : va_Run p l e R s m args below meth c H locs cells slots 0 0 (F0 m pc ls st0) rest (x_Qi g A post a) A) (hS : va_S A H0 H locs)
    (kk : ∀ (r : Int) (σ1 : xS) (H1 : Heap) (locs1 : List Loc), inR r → post r σ1 → xP g σ1 H1 → xD g A σ1 → va_S A H0 H1 locs1 → W p l e R s m args below meth c H1 locs1 cells slots Q (F0 m (pc + 3) ls (.int (iI r) :: rest))) : W p l e R s m args below meth c H locs cells slots Q (F0 m pc ls st0) := x_cqi (mc := 0) (ms := 0) hr hS kk
theorem x_cqv0 {st0 : List Value} {a : Array Value} {post : xS → Prop} (hr : va_Run p l e R s m args below meth c H locs cells slots 0 0 (F0 m pc ls st0) rest (x_Qv g A post a) A) (hS : va_S A H0 H locs)
    (kk : ∀ (σ1 : xS) (H1 : Heap) (locs1 : List Loc), post σ1 → xP g σ1 H1 → xD g A σ1 → va_S A H0 H1 locs1 → W p l e R s m args below meth c H1 locs1 cells slots Q (F0 m (pc + 3) ls rest)) : W p l e R s m args below meth c H locs cells slots Q (F0 m pc ls st0) := x_cqv (mc := 0) (ms := 0) hr hS kk
theorem x_frc {F F2 : Nat → Prop} {M0 M M1 : xM} (hfr : ∀ j, F j → M j = M0 j) (hne : ∀ j, F2 j → M1 j = M j) (h : ∀ j, F j → F2 j) : ∀ j, F j → M1 j = M0 j := fun j hj => (hne j (h j hj)).trans (hfr j hj)
end XROWS2
