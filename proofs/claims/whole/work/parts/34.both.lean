/-! BOTH WORLDS ACROSS A CALL OF ONE -/
def kApart (L M : Nat → Nat) : Prop := ∀ i j, i < 308 → j < 24 → L i ≠ M j
section BW
variable {p : Program} {l : Launch} {e : Env} {R : Room} {s : State} {m : MethodId} {args : Array Value} {below : List Frame} {meth : Method} {c : Code} {H : Heap} {locs : List Loc} {cells slots : Nat} {Q : State → Prop}
variable {pc : Nat} {ls : Array Slot} {rest : List Value} {A : Nat → Prop} {H0 : Heap} {D : va_G} {G : Nat → ClassId} {L M : Nat → Nat} {T N T' N' TM NM : kT} {q q' : kQ} {r g r1 g1 : Nat → Int32} {st0 : List Value} {a : Array Value} {ans : Int32}
theorem kA_of (hW : kWd D G L A H0 T N q H locs) : ∀ x, kA L x → A x := fun x h => by
  obtain ⟨k, hk, e⟩ := h
  rw [e]
  exact hW.2.1.2 k _ (kw_get hk)
theorem mA_of (hM : mWd D G M A H0 T N r g H locs) : ∀ x, mA M x → A x := fun x h => by
  obtain ⟨k, hk, e⟩ := h
  rw [e]
  exact hM.2.1.2 k _ (mw_get hk)
theorem mKept (hap : kApart L M) {H1 : Heap} (hM : va_P D vwCl (mw G M T N r g) H) (hkk : ∀ x : Nat, x < H.size → ¬ kA L x → H1[x]? = H[x]?) : va_P D vwCl (mw G M T N r g) H1 := hM.kept (fun k y hy => hkk _ (hM k y hy).lt (fun z => by
  obtain ⟨i, hi, e⟩ := z
  obtain ⟨hk, e2⟩ := mw_is hy
  exact hap i k hi hk (by rw [← e, e2])))
theorem kKept (hap : kApart L M) {H1 : Heap} (hW : va_P D vwCl (kw G L T N q) H) (hkk : ∀ x : Nat, x < H.size → ¬ mA M x → H1[x]? = H[x]?) : va_P D vwCl (kw G L T N q) H1 := hW.kept (fun k y hy => hkk _ (hW k y hy).lt (fun z => by
  obtain ⟨i, hi, e⟩ := z
  obtain ⟨hk, e2⟩ := kw_is hy
  exact hap k i hk hi (by rw [← e, e2])))
theorem lkQi (hap : kApart L M) (hr : va_Run p l e R s m args below meth c H locs cells slots 0 0 (F0 m pc ls st0) rest (kQi D G L ans T' N' q' a) (kA L)) (hW : kWd D G L A H0 T N q H locs) (hM : mWd D G M A H0 TM NM r g H locs) (kk : ∀ (H1 : Heap) (locs1 : List Loc), kWd D G L A H0 T' N' q' H1 locs1 → mWd D G M A H0 TM NM r g H1 locs1 → W p l e R s m args below meth c H1 locs1 cells slots Q (F0 m (pc + 3) ls (.int ans :: rest))) : W p l e R s m args below meth c H locs cells slots Q (F0 m pc ls st0) :=
  va_calli hr hW.2.2 (fun x _ h => kA_of hW x h) (kA_of hW) (fun v u t H1 locs1 e1 _ e2 hP _ hkk hS => by subst e1; subst e2; exact kk _ _ ⟨hP, kD.same hW.2.1, hS⟩ ⟨mKept hap hM.1 hkk, hM.2.1, hS⟩)
theorem lkQv (hap : kApart L M) (hr : va_Run p l e R s m args below meth c H locs cells slots 0 0 (F0 m pc ls st0) rest (kQv D G L T' N' q' a) (kA L)) (hW : kWd D G L A H0 T N q H locs) (hM : mWd D G M A H0 TM NM r g H locs) (kk : ∀ (H1 : Heap) (locs1 : List Loc), kWd D G L A H0 T' N' q' H1 locs1 → mWd D G M A H0 TM NM r g H1 locs1 → W p l e R s m args below meth c H1 locs1 cells slots Q (F0 m (pc + 3) ls rest)) : W p l e R s m args below meth c H locs cells slots Q (F0 m pc ls st0) :=
  va_callv hr hW.2.2 (fun x _ h => kA_of hW x h) (kA_of hW) (fun u t H1 locs1 e1 _ _ hP _ hkk hS => by subst e1; exact kk _ _ ⟨hP, kD.same hW.2.1, hS⟩ ⟨mKept hap hM.1 hkk, hM.2.1, hS⟩)
theorem lmQi (hap : kApart L M) (hr : va_Run p l e R s m args below meth c H locs cells slots 0 0 (F0 m pc ls st0) rest (mQi D G M ans T' N' r1 g1 a) (mA M)) (hM : mWd D G M A H0 TM NM r g H locs) (hW : kWd D G L A H0 T N q H locs) (kk : ∀ (H1 : Heap) (locs1 : List Loc), kWd D G L A H0 T N q H1 locs1 → mWd D G M A H0 T' N' r1 g1 H1 locs1 → W p l e R s m args below meth c H1 locs1 cells slots Q (F0 m (pc + 3) ls (.int ans :: rest))) : W p l e R s m args below meth c H locs cells slots Q (F0 m pc ls st0) :=
  va_calli hr hM.2.2 (fun x _ h => mA_of hM x h) (mA_of hM) (fun v u t H1 locs1 e1 _ e2 hP _ hkk hS => by subst e1; subst e2; exact kk _ _ ⟨kKept hap hW.1 hkk, hW.2.1, hS⟩ ⟨hP, mD.same hM.2.1, hS⟩)
theorem lmQv (hap : kApart L M) (hr : va_Run p l e R s m args below meth c H locs cells slots 0 0 (F0 m pc ls st0) rest (mQv D G M T' N' r1 g1 a) (mA M)) (hM : mWd D G M A H0 TM NM r g H locs) (hW : kWd D G L A H0 T N q H locs) (kk : ∀ (H1 : Heap) (locs1 : List Loc), kWd D G L A H0 T N q H1 locs1 → mWd D G M A H0 T' N' r1 g1 H1 locs1 → W p l e R s m args below meth c H1 locs1 cells slots Q (F0 m (pc + 3) ls rest)) : W p l e R s m args below meth c H locs cells slots Q (F0 m pc ls st0) :=
  va_callv hr hM.2.2 (fun x _ h => mA_of hM x h) (mA_of hM) (fun u t H1 locs1 e1 _ _ hP _ hkk hS => by subst e1; exact kk _ _ ⟨kKept hap hW.1 hkk, hW.2.1, hS⟩ ⟨hP, mD.same hM.2.1, hS⟩)
end BW
