/-! ROWS over the class's world: contexts, fields, arrays, calls -/
def kt : List Cond := lw_tbl.filter goodWord
theorem kt_in {w : Cond} (h : w ∈ lw_tbl) (g : goodWord w = true) : w ∈ kt := List.mem_filter.mpr ⟨h, g⟩
theorem kt_good {w : Cond} (h : w ∈ kt) : goodWord w = true := (List.mem_filter.mp h).2
def kIsN (w : Cond) : Bool := match w with
  | .fieldLinkNest .. => true
  | .methodLinkNest .. => true
  | _ => false
def kNs (U : State) : Prop := ∀ w ∈ lw_tbl, kIsN w = true → va_Nw w U
theorem kNs.warm {s U : State} (hW : s.WarmedH U.vm) (h : kNs s) : kNs U := by
  intro w hw hn
  have h1 := h w hw hn
  cases w <;> first | (exact Bool.noConfusion hn) | exact va_Nw.warmF hW h1 | exact va_Nw.warmM hW h1
theorem kNs.call {U : State} {g : JFrame} {mk : MethodId} {a : Array Value} (h : kNs U) : kNs (U.calling g mk a) := by
  intro w hw hn
  have h1 := h w hw hn
  cases w <;> first | (exact Bool.noConfusion hn) | exact va_Nw.same (u := U) (U := U.calling g mk a) rfl rfl h1
theorem inT0 : ∀ w ∈ wsX00, w ∈ kt := fun w h => kt_in (inX0 w h) (by revert w; decide +kernel)
theorem inT1 : ∀ w ∈ wsX10, w ∈ kt := fun w h => kt_in (inX1 w h) (by revert w; decide +kernel)
theorem inT2 : ∀ w ∈ wsX20, w ∈ kt := fun w h => kt_in (inX2 w h) (by revert w; decide +kernel)
theorem inT3 : ∀ w ∈ wsX30, w ∈ kt := fun w h => kt_in (inX3 w h) (by revert w; decide +kernel)
theorem inT4 : ∀ w ∈ wsX40, w ∈ kt := fun w h => kt_in (inX4 w h) (by revert w; decide +kernel)
theorem kgoodV {own C : String} {idx : Nat} {y : MethodName} {cc : ByteArray} {n : Nat} {r : Option FieldType} (h1 : Cond.methodLink own idx y ∈ lw_tbl) (h2 : Cond.instanceMethod y ∈ lw_tbl) (h3 : Cond.selects C y y ∈ lw_tbl) (h4 : Cond.initialized C ∈ lw_tbl) (h5 : Cond.code y cc n r ∈ lw_tbl) : GoodIn kt (wsV own idx C y (Cond.code y cc n r :: kt)) := by
  intro w hw
  have hm : w ∈ kt := by
    unfold wsV at hw
    rcases List.mem_append.mp hw with h | h
    · simp only [List.mem_cons, List.not_mem_nil, or_false] at h
      rcases h with rfl | rfl | rfl | rfl
      · exact kt_in h1 rfl
      · exact kt_in h2 rfl
      · exact kt_in h3 rfl
      · exact kt_in h4 rfl
    · rcases List.mem_cons.mp h with rfl | h
      · exact kt_in h5 rfl
      · exact h
  exact ⟨hm, good_of_word (kt_good hm)⟩
theorem kgoodS {own : String} {idx : Nat} {y : MethodName} {cc : ByteArray} {n : Nat} {r : Option FieldType} (h1 : Cond.methodLink own idx y ∈ lw_tbl) (h2 : Cond.static y ∈ lw_tbl) (h4 : Cond.initialized own ∈ lw_tbl) (h5 : Cond.code y cc n r ∈ lw_tbl) : GoodIn kt (wsS own idx y (Cond.code y cc n r :: kt)) := by
  intro w hw
  have hm : w ∈ kt := by
    unfold wsS at hw
    rcases List.mem_append.mp hw with h | h
    · simp only [List.mem_cons, List.not_mem_nil, or_false] at h
      rcases h with rfl | rfl | rfl
      · exact kt_in h1 rfl
      · exact kt_in h2 rfl
      · exact kt_in h4 rfl
    · rcases List.mem_cons.mp h with rfl | h
      · exact kt_in h5 rfl
      · exact h
  exact ⟨hm, good_of_word (kt_good hm)⟩
theorem kgoodC {y : MethodName} {cc : ByteArray} {n : Nat} {r : Option FieldType} (h5 : Cond.code y cc n r ∈ lw_tbl) : GoodIn kt (Cond.code y cc n r :: kt) := by
  intro w hw
  have hm : w ∈ kt := by
    rcases List.mem_cons.mp hw with rfl | h
    · exact kt_in h5 rfl
    · exact h
  exact ⟨hm, good_of_word (kt_good hm)⟩
/-- a method's contract: its words are the tables' -/
abbrev kM (l : Launch) (y : MethodName) (cc : ByteArray) (n : Nat) (r : Option FieldType) (fr lo : Nat) (Pc : Array Value → State → Prop) (Qc : Array Value → State → Outcome → State → Prop) (free : Addr → Prop) : Prop :=
  Met l y (Cond.code y cc n r :: kt) ({ frames := fr, cells := 0, slots := 0, locals := lo } : Room) Pc Qc 0 0 free
/-- what stays the same in a method -/
def kCx (p : Program) (s : State) (m : MethodId) (args : Array Value) (c : Code) (cc : ByteArray) (nL : Nat) (own : String) : Prop :=
  p.tables.exec = Jvm.exec ∧ c.code = cc ∧ c.maxLocals = nL ∧ s.vm.findClass own = some m.cls ∧ ∀ w ∈ kt, w.before args s = true
/-- the class's world, as a start's premise -/
def kWp (D : va_G) (G : Nat → ClassId) (L : Nat → Nat) (T N : kT) (q : kQ) (U : State) : Prop := va_P D vwCl (kw G L T N q) U.heap ∧ va_K D vwCl (kty G) U ∧ kNs U
abbrev kPc (D : va_G) (G : Nat → ClassId) (L : Nat → Nat) (T N : kT) (q : kQ) (av : List Value) : Array Value → State → Prop := va_Pc av (kWp D G L T N q)
/-- no world: a static method of numbers -/
abbrev kP0 (av : List Value) : Array Value → State → Prop := va_Pc av (fun _ => True)
/-- answers: a number, nothing changed; a number and a new world; a new world -/
abbrev kSi (a : Int32) : Array Value → State → Outcome → State → Prop := vp_Si (fun r => r = a)
abbrev kSq (a : Option Nat) : Array Value → State → Outcome → State → Prop := va_Sq (fun r => r = a)
abbrev kQi (D : va_G) (G : Nat → ClassId) (L : Nat → Nat) (a : Int32) (T N : kT) (q : kQ) : Array Value → State → Outcome → State → Prop := va_Qi (fun r (_ : Unit) => r = a) (fun _ t => va_P D vwCl (kw G L T N q) t.heap) (kA L)
abbrev kQv (D : va_G) (G : Nat → ClassId) (L : Nat → Nat) (T N : kT) (q : kQ) : Array Value → State → Outcome → State → Prop := va_Qv (fun (_ : Unit) => True) (fun _ t => va_P D vwCl (kw G L T N q) t.heap) (kA L)
/-- what changes: the world at a heap -/
def kWd (D : va_G) (G : Nat → ClassId) (L : Nat → Nat) (A : Nat → Prop) (H0 : Heap) (T N : kT) (q : kQ) (H : Heap) (locs : List Loc) : Prop := va_P D vwCl (kw G L T N q) H ∧ va_D A (kw G L T N q) ∧ va_S A H0 H locs
theorem kStart {l : Launch} {y : MethodName} {cc : ByteArray} {n : Nat} {r : Option FieldType} {fr lo : Nat} {Pc : Array Value → State → Prop} {Qc : Array Value → State → Outcome → State → Prop} {free : Addr → Prop} (hy : plainName y.cls = true)
    (body : ∀ (p : Program) (e : Env) (s : State) (m : MethodId) (args : Array Value) (below : List Frame) (meth : Method) (c : Code), kCx p s m args c cc n y.cls → meth.sig.returnType = r → meth.locks = false → Pc args s → W p l e ({ frames := fr, cells := 0, slots := 0, locals := lo } : Room) s m args below meth c s.heap [] 0 0 (MQ below Qc args s 0 0 free) (entryFrame m args n)) : kM l y cc n r fr lo Pc Qc free := by
  refine Met.ofW (cc := cc) (maxL := n) (ret := r) hy rfl ?_
  intro p e s m args below meth c s₁ B hml hv
  have hts := atoms_spec (ws := Cond.code y cc n r :: kt) B.pre
  exact body p e s m args below meth c ⟨B.exec, B.bytes, hml, findClass_of_methodNamed B.named, fun w hw => hts w (List.mem_cons_of_mem _ hw)⟩ B.returns B.notSynchronized hv
section KR
variable {p : Program} {l : Launch} {e : Env} {R : Room} {s : State} {m : MethodId} {args : Array Value} {below : List Frame} {meth : Method} {c : Code} {H : Heap} {locs : List Loc} {cells slots : Nat} {Q : State → Prop}
variable {cc : ByteArray} {pc : Nat} {ls : Array Slot} {rest : List Value} {A : Nat → Prop} {H0 : Heap} {nL index : Nat} {own ref name desc : String}
variable {D : va_G} {G : Nat → ClassId} {L : Nat → Nat} {T N : kT} {q : kQ}
theorem kWd.start {U : State} (hL : kL L) (h : va_P D vwCl (kw G L T N q) U.heap) : kWd D G L (kA L) U.heap T N q U.heap [] := ⟨h, kD hL, va_S.rf⟩
/-- the world's cells stand at other values of the pictures: a set that is the new world -/
theorem kWd.to {T' N' : kT} {q' : kQ} {H1 : Heap} {locs1 : List Loc} {ws : va_W} (e : ws = kw G L T' N' q') (h1 : va_P D vwCl ws H1) (h2 : va_D A ws) (h3 : va_S A H0 H1 locs1) : kWd D G L A H0 T' N' q' H1 locs1 := by subst e; exact ⟨h1, h2, h3⟩
/-! fields of the class's own object -/
theorem kg3 (hC : kCx p s m args c cc nL own) (hK : va_K D vwCl (kty G) s) (hW : kWd D G L A H0 T N q H locs) (k : Nat) {v : Value} (hv : (k3 L T)[k]? = some v) (hk : k < 13) (hlink : Cond.fieldLink own index RX3 (TX3 k).2.1 (TX3 k).2.2.1 ∈ lw_tbl) (hdg : decode cc pc = .ok (.getfield index, 3))
    (kk : W p l e R s m args below meth c H locs cells slots Q (F0 m (pc + 3) ls (v :: rest))) : W p l e R s m args below meth c H locs cells slots Q (F0 m pc ls (.ref (L 0) :: rest)) := by
  refine va_get (T := TX3) (N := 13) hC.1 hC.2.1 hC.2.2.2.2 inT3 hC.2.2.2.1 hK hW.1 0 kw_m rfl k hk (hC.2.2.2.2 _ (kt_in hlink rfl)) (fun x h => ?_) hv hdg kk
  rcases (show k = 0 ∨ k = 1 ∨ k = 2 ∨ k = 3 ∨ k = 4 ∨ k = 5 ∨ k = 6 ∨ k = 7 ∨ k = 8 ∨ k = 9 ∨ k = 10 ∨ k = 11 ∨ k = 12 by omega) with rfl | rfl | rfl | rfl | rfl | rfl | rfl | rfl | rfl | rfl | rfl | rfl | rfl <;> exact h
theorem kp3 (hC : kCx p s m args c cc nL own) (hK : va_K D vwCl (kty G) s) (hW : kWd D G L A H0 T N q H locs) (k : Nat) {v : Int32} (h3 : 3 ≤ k) (hk : k < 13) (hlink : Cond.fieldLink own index RX3 (TX3 k).2.1 (TX3 k).2.2.1 ∈ lw_tbl) (hdg : decode cc pc = .ok (.putfield index, 3))
    (kk : ∀ (H1 : Heap) (locs1 : List Loc), kWd D G L A H0 (kup T 0 (k - 3) v) N q H1 locs1 → W p l e R s m args below meth c H1 locs1 cells slots Q (F0 m (pc + 3) ls rest)) : W p l e R s m args below meth c H locs cells slots Q (F0 m pc ls (.int v :: .ref (L 0) :: rest)) := by
  refine va_put (T := TX3) (N := 13) (ty := .int) hC.1 hC.2.1 hC.2.2.2.2 inT3 tyX3 tyX3_ok nmX3 hC.2.2.2.1 hK hW.1 hW.2.1 hW.2.2 0 kw_m rfl k hk (hC.2.2.2.2 _ (kt_in hlink rfl)) (fun x h => ?_) ?_ ?_ rfl rfl (by simpa using hk) hdg (fun H1 locs1 h1 h2 h3' => kk H1 locs1 (kWd.to (kw_put3 h3 hk v) h1 h2 h3'))
  all_goals rcases (show k = 3 ∨ k = 4 ∨ k = 5 ∨ k = 6 ∨ k = 7 ∨ k = 8 ∨ k = 9 ∨ k = 10 ∨ k = 11 ∨ k = 12 by omega) with rfl | rfl | rfl | rfl | rfl | rfl | rfl | rfl | rfl | rfl <;> first | exact h | rfl | decide +kernel
end KR
