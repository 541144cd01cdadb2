theorem k_lt {i n : Nat} (h : kSt i) (hn : 124 ≤ n) : i < n := by unfold kSt at h; omega
theorem k_lt1 {i n : Nat} (h : kSt i) (hn : 124 ≤ n) : i + 1 < n := by unfold kSt at h; omega
theorem k_ltN {i n : Nat} (h : kNt i) (hn : 124 ≤ n) : i < n := by unfold kNt at h; omega
theorem k_ltN1 {i n : Nat} (h : kNt i) (hn : 124 ≤ n) : i + 1 < n := by unfold kNt at h; omega
theorem k_ltN2 {i n : Nat} (h : kNt i) (hn : 124 ≤ n) : i + 2 < n := by unfold kNt at h; omega
theorem iS_mod (k : Nat) : iS (k % 8) = iS k := by unfold iS; omega
section XR
variable {p : Program} {l : Launch} {e : Env} {R : Room} {s : State} {m : MethodId} {args : Array Value} {below : List Frame} {meth : Method} {cd : Code} {Q : State → Prop} {cells slots : Nat}
variable {cc : ByteArray} {Ts : List Cond} {own : String} {G : (Nat → Prop) → State → Prop} {D : va_G} {A : Nat → Prop} {ad : Nat → Nat} {n nL : Nat} {c : Nat → va_E} {pc : Nat} {L : List (Nat × Value)} {st : List Value} {cl : List vw_C} {tys : List (ClassId × FieldType)}
variable {aC : Nat → ClassId} {S : xS} {c0 : Nat → va_E}
theorem j_st {st' : List Value} (h : st = st') (kk : px_J p l e R s m args below meth cd D cl A ad n nL cells slots Q c pc L st') : px_J p l e R s m args below meth cd D cl A ad n nL cells slots Q c pc L st := h ▸ kk
theorem x_gen {T : xS} (kk : ∀ S' : xS, S' = T → px_J p l e R s m args below meth cd D cl A ad n nL cells slots Q (xe aC ad S' c0) pc L st) : px_J p l e R s m args below meth cd D cl A ad n nL cells slots Q (xe aC ad T c0) pc L st := kk T rfl
theorem vp_lt {x : Int32} {k : Nat} (h : vp_in x k) : x.toNatClampNeg < k := by
  unfold vp_in at h
  omega
theorem x_aald_notes (X : px_X p s m args cd cc nL Ts own G D cl tys A ad n) (hn : 124 ≤ n) {C : String} {x : Int32} (hin : vp_in x 32) (hd : decode cc pc = .ok (.aaload, 1)) (ht : tys[2]? = some (aC 2, .object C))
    (kk : px_J p l e R s m args below meth cd D cl A ad n nL cells slots Q (xe aC ad S c0) (pc + 1) L (.ref (ad (iN x.toNatClampNeg)) :: st)) : px_J p l e R s m args below meth cd D cl A ad n nL cells slots Q (xe aC ad S c0) pc L (.int x :: .ref (ad 7) :: st) := by
  refine j_aald (C := C) X 7 2 (by omega) x_notes ht hin hd ?_
  have e : va_rf ((fun q => if q < 32 then some (ad (iN q)) else none) x.toNatClampNeg) = .ref (ad (iN x.toNatClampNeg)) := by
    show va_rf (if x.toNatClampNeg < 32 then some (ad (iN x.toNatClampNeg)) else none) = _
    rw [if_pos (vp_lt hin)]
    rfl
  rw [e]
  exact kk
theorem x_aald_kept (X : px_X p s m args cd cc nL Ts own G D cl tys A ad n) (hn : 124 ≤ n) {C : String} {x : Int32} (hin : vp_in x 8) (hd : decode cc pc = .ok (.aaload, 1)) (ht : tys[3]? = some (aC 3, .object C))
    (kk : px_J p l e R s m args below meth cd D cl A ad n nL cells slots Q (xe aC ad S c0) (pc + 1) L (.ref (ad (iS (gK S x.toNatClampNeg))) :: st)) : px_J p l e R s m args below meth cd D cl A ad n nL cells slots Q (xe aC ad S c0) pc L (.int x :: .ref (ad 105) :: st) := by
  refine j_aald (C := C) X 105 3 (by omega) x_kept ht hin hd ?_
  have e : va_rf ((fun q => if q < 8 then some (ad (iS (gK S q))) else none) x.toNatClampNeg) = .ref (ad (iS (gK S x.toNatClampNeg))) := by
    show va_rf (if x.toNatClampNeg < 8 then some (ad (iS (gK S x.toNatClampNeg))) else none) = _
    rw [if_pos (vp_lt hin)]
    rfl
  rw [e]
  exact kk
theorem x_upK {j k : Nat} (hj : j < 8) : va_up (xe aC ad S c0) 105 (.inl (aC 3, 8, .inr (.inr (.inr (.inr (va_up (fun q => if q < 8 then some (ad (iS (gK S q))) else none) j (some (ad (iS k)))))))) ) = xe aC ad (sK S j k) c0 := by
  funext i
  by_cases hi : i = 105
  · subst hi
    rw [x_kept]
    have e : va_up (fun q => if q < 8 then some (ad (iS (gK S q))) else none) j (some (ad (iS k))) = fun q => if q < 8 then some (ad (iS (gK (sK S j k) q))) else none := by
      funext q
      by_cases hq : q = j
      · subst hq
        simp [va_up, hj, gK, sK, iS_mod]
      · simp [va_up, hq, gK, sK]
    simp [va_up, ← e]
  · show (if i = 105 then _ else xe aC ad S c0 i) = xe aC ad (sK S j k) c0 i
    rw [if_neg hi]
    show xc aC ad i (gI S i) (gR S i) (gK S) (gN S) (c0 i) = xc aC ad i (gI S i) (gR S i) (gK (sK S j k)) (gN S) (c0 i)
    unfold xc
    simp [hi]
theorem x_aast_kept (X : px_X p s m args cd cc nL Ts own G D cl tys A ad n) (hn : 124 ≤ n) {r : vw_C} {k ci : Nat} {vs : List Value} {x : Int32} (hin : vp_in x 8) (hd : decode cc pc = .ok (.aastore, 1)) (ht : tys[3]? = some (aC 3, .object r.1)) (hv : xe aC ad S c0 (iS k) = .inr (ci, vs)) (hc : cl[ci]? = some r)
    (kk : px_J p l e R s m args below meth cd D cl A ad n nL cells slots Q (xe aC ad (sK S x.toNatClampNeg k) c0) (pc + 1) L st) : px_J p l e R s m args below meth cd D cl A ad n nL cells slots Q (xe aC ad S c0) pc L (.ref (ad (iS k)) :: .int x :: .ref (ad 105) :: st) := by
  refine j_aast X 105 3 (iS k) ci (by omega) (k_lt (k_S k) hn) x_kept ht hv hc hin hd ?_
  rw [x_upK (vp_lt hin)]
  exact kk
theorem x_mmin (X : px_X p s m args cd cc nL Ts own G D cl tys A ad n) {index : Nat} (hm : Cond.methodLink own index Lib.Math.min.name ∈ Ts ∧ Cond.static Lib.Math.min.name ∈ Ts ∧ Cond.initialized "java/lang/Math" ∈ Ts ∧ Cond.code Lib.Math.min.name Lib.Math.min.code 2 (some .int) ∈ Ts) {x y : Int32} (hd : decode cc pc = .ok (.invokestatic index, 3))
    (hfr : 1 ≤ R.frames) (hlo : (st.map fun v => v.category).sum + 13 ≤ R.locals) (hc : cells ≤ R.cells) (hs : slots ≤ R.slots)
    (kk : px_J p l e R s m args below meth cd D cl A ad n nL cells slots Q c (pc + 3) L (.int (if y < x then y else x) :: st)) : px_J p l e R s m args below meth cd D cl A ad n nL cells slots Q c pc L (.int y :: .int x :: st) :=
  fun ls H locs h1 h2 h3 => va_mmin X.1.1 X.1.2.1 (X.1.2.2.1.trans h1.1.symm) X.1.2.2.2.1 (X.1.2.2.2.2 _ hm.1) (X.1.2.2.2.2 _ hm.2.1) (X.1.2.2.2.2 _ hm.2.2.1) (X.1.2.2.2.2 _ hm.2.2.2) hfr hlo hc hs hd (kk ls H locs h1 h2 h3)
theorem x_copy (X : px_X p s m args cd cc nL Ts own G D cl tys A ad n) {index : Nat} (hm : Cond.methodLink own index arraycopyName ∈ Ts ∧ Cond.native arraycopyName ∈ Ts ∧ Cond.static arraycopyName ∈ Ts ∧ Cond.initialized "java/lang/System" ∈ Ts) (i j : Nat) (hi : i < n) (hj : j < n) {cA : ClassId} {f g : Nat → Int32} (he : c i = .inl (cA, 56, .inl f)) (hg : c j = .inl (cA, 56, .inl g)) (ht : tys[0]? = some (cA, .int)) (hd : decode cc pc = .ok (.invokestatic index, 3))
    (hfr : 1 ≤ R.frames) (hlo : (st.map fun v => v.category).sum + (nativeFrameWords "java/lang/System" "arraycopy" 5 + 11) ≤ R.locals)
    (kk : px_J p l e R s m args below meth cd D cl A ad n nL cells slots Q (va_up c j (.inl (cA, 56, .inl (va_cpy f g 0 0 56)))) (pc + 3) L st) : px_J p l e R s m args below meth cd D cl A ad n nL cells slots Q c pc L (.int 56 :: .int 0 :: .ref (ad j) :: .int 0 :: .ref (ad i) :: st) := by
  intro ls H locs h1 h2 h3
  refine va_copyi (ty := .int) X.1.1 X.1.2.1 (X.1.2.2.1.trans h1.1.symm) X.1.2.2.2.1 (X.1.2.2.2.2 _ hm.1) (X.1.2.2.2.2 _ hm.2.1) (X.1.2.2.2.2 _ hm.2.2.1) (X.1.2.2.2.2 _ hm.2.2.2) X.2.1 h2 (px_D X.2.2.1 X.2.2.2.1) h3 i j 0 0 (by rw [px_at hi, he]) (by rw [px_at hj, hg]) ht ht rfl (by decide) (by decide) (by decide) (by decide) (by decide) (fun _ _ => rfl) hfr hlo hd (fun H1 locs1 g1 _ g3 => ?_)
  rw [px_set hj] at g1
  exact kk ls H1 locs1 h1 g1 g3
end XR
