/-! small facts; starts of walks; answers that are yes or no -/
noncomputable def kif {α : Type} (P : Prop) (a b : α) : α := @ite α P (Classical.propDecidable P) a b
theorem kif_t {α : Type} {P : Prop} {a b : α} (h : P) : kif P a b = a := if_pos h
theorem kif_f {α : Type} {P : Prop} {a b : α} (h : ¬ P) : kif P a b = b := if_neg h
theorem kif_true {α : Type} {a b : α} : kif True a b = a := kif_t trivial
theorem kif_false {α : Type} {a b : α} : kif False a b = b := kif_f (fun h => h)
theorem kif_c {α : Type} {P R : Prop} {a b : α} (h : P ↔ R) : kif P a b = kif R a b := by
  by_cases hp : P
  · rw [kif_t hp, kif_t (h.mp hp)]
  · rw [kif_f hp, kif_f (fun q => hp (h.mpr q))]
noncomputable def kb (P : Prop) : Int32 := kif P 1 0
theorem kb_t {P : Prop} (h : P) : kb P = 1 := kif_t h
theorem kb_f {P : Prop} (h : ¬ P) : kb P = 0 := kif_f h
theorem kb_01 (P : Prop) : kb P = 0 ∨ kb P = 1 := by
  by_cases h : P
  · exact Or.inr (kb_t h)
  · exact Or.inl (kb_f h)
theorem kb_0 {P : Prop} : kb P = 0 ↔ ¬ P := by
  by_cases h : P
  · rw [kb_t h]; exact ⟨fun q => absurd q (by decide), fun q => absurd h q⟩
  · rw [kb_f h]; exact ⟨fun _ => h, fun _ => rfl⟩
theorem kb_c {P R : Prop} (h : P ↔ R) : kb P = kb R := kif_c h
theorem knn {P : Prop} (h : ¬ ¬ P) : P := Classical.byContradiction h
theorem kn_b {x : Int32} (h : x = 0 ∨ x = 1) : narrow .boolean (.int x) = .int x := by rcases h with rfl | rfl <;> rfl
theorem kf_b {x : Int32} (h : x = 0 ∨ x = 1) : fits .boolean (.int x) = true := by rcases h with rfl | rfl <;> rfl
theorem tn_def (x : Int32) : tn x = x.toInt.toNat := rfl
theorem tn_nI {n : Nat} (h : n < 2 ^ 31) : tn (nI n) = n := nI_clamp h
theorem tn_nat {x : Int32} (h : ¬ x < 0) : x = nI (tn x) ∧ tn x < 2 ^ 31 := by
  obtain ⟨j, h1, h2⟩ := nI_of h
  rw [h2, tn_nI h1]
  exact ⟨rfl, h1⟩
theorem kin_lt {i : Int32} {n : Nat} (h : vp_in i n) : tn i < n := Nat.not_le.mp fun q => h (Or.inr q)
theorem kin_mk {i : Int32} {n : Nat} (h1 : ¬ i < 0) (h2 : ¬ nI n ≤ i) (hn : n < 2 ^ 31) : vp_in i n := by
  obtain ⟨j, h3, h4⟩ := nI_of h1
  subst h4
  rcases Nat.lt_or_ge j n with q | q
  · exact vp_in_nI q hn
  · exact absurd (nI_le q h3) h2
theorem kin24 {i : Int32} (h1 : ¬ i < 0) (h2 : ¬ 24 ≤ i) : vp_in i 24 := kin_mk h1 h2 (by decide)
theorem kin40 {i : Int32} (h1 : ¬ i < 0) (h2 : ¬ 40 ≤ i) : vp_in i 40 := kin_mk h1 h2 (by decide)
theorem kin60 {i : Int32} (h1 : ¬ i < 0) (h2 : ¬ 60 ≤ i) : vp_in i 60 := kin_mk h1 h2 (by decide)
theorem kin32 {i : Int32} (h1 : ¬ i < 0) (h2 : ¬ 32 ≤ i) : vp_in i 32 := kin_mk h1 h2 (by decide)
theorem kin_4 {i : Int32} (h1 : 0 ≤ i) (h2 : i < 4) : vp_in i 4 := kin_mk (fun q => by rw [Int32.lt_iff_toInt_lt] at q; rw [Int32.le_iff_toInt_le] at h1; omega) (fun q => by
  have q2 : (4 : Int32) ≤ i := q
  rw [Int32.lt_iff_toInt_lt] at h2; rw [Int32.le_iff_toInt_le] at q2; omega) (by decide)
theorem ksw7 (x : Int32) : x = 0 ∨ x = 1 ∨ x = 2 ∨ x = 3 ∨ x = 4 ∨ x = 5 ∨ x = 6 ∨ ((x.toInt < 0 ∨ 6 < x.toInt) ∧ x ≠ 0 ∧ x ≠ 1 ∧ x ≠ 2 ∧ x ≠ 3 ∧ x ≠ 4 ∧ x ≠ 5 ∧ x ≠ 6) := by
  have e : ∀ n : Int32, x.toInt = n.toInt → x = n := fun n h => Int32.toInt_inj.mp h
  by_cases h : x.toInt < 0 ∨ 6 < x.toInt
  · refine Or.inr (Or.inr (Or.inr (Or.inr (Or.inr (Or.inr (Or.inr ⟨h, ?_, ?_, ?_, ?_, ?_, ?_, ?_⟩)))))) <;> (rintro rfl; revert h; decide)
  · have h2 : x.toInt = 0 ∨ x.toInt = 1 ∨ x.toInt = 2 ∨ x.toInt = 3 ∨ x.toInt = 4 ∨ x.toInt = 5 ∨ x.toInt = 6 := by omega
    rcases h2 with q | q | q | q | q | q | q
    · exact Or.inl (e 0 q)
    · exact Or.inr (Or.inl (e 1 q))
    · exact Or.inr (Or.inr (Or.inl (e 2 q)))
    · exact Or.inr (Or.inr (Or.inr (Or.inl (e 3 q))))
    · exact Or.inr (Or.inr (Or.inr (Or.inr (Or.inl (e 4 q)))))
    · exact Or.inr (Or.inr (Or.inr (Or.inr (Or.inr (Or.inl (e 5 q))))))
    · exact Or.inr (Or.inr (Or.inr (Or.inr (Or.inr (Or.inr (Or.inl (e 6 q)))))))
theorem ksw4 (x : Int32) : x = 0 ∨ x = 1 ∨ x = 2 ∨ x = 3 ∨ ((x.toInt < 0 ∨ 3 < x.toInt) ∧ x ≠ 0 ∧ x ≠ 1 ∧ x ≠ 2 ∧ x ≠ 3) := by
  have e : ∀ n : Int32, x.toInt = n.toInt → x = n := fun n h => Int32.toInt_inj.mp h
  by_cases h : x.toInt < 0 ∨ 3 < x.toInt
  · refine Or.inr (Or.inr (Or.inr (Or.inr ⟨h, ?_, ?_, ?_, ?_⟩))) <;> (rintro rfl; revert h; decide)
  · have h2 : x.toInt = 0 ∨ x.toInt = 1 ∨ x.toInt = 2 ∨ x.toInt = 3 := by omega
    rcases h2 with q | q | q | q
    · exact Or.inl (e 0 q)
    · exact Or.inr (Or.inl (e 1 q))
    · exact Or.inr (Or.inr (Or.inl (e 2 q)))
    · exact Or.inr (Or.inr (Or.inr (Or.inl (e 3 q))))
theorem ksw3 (x : Int32) : x = 0 ∨ x = 1 ∨ x = 2 ∨ ((x.toInt < 0 ∨ 2 < x.toInt) ∧ x ≠ 0 ∧ x ≠ 1 ∧ x ≠ 2) := by
  have e : ∀ n : Int32, x.toInt = n.toInt → x = n := fun n h => Int32.toInt_inj.mp h
  by_cases h : x.toInt < 0 ∨ 2 < x.toInt
  · refine Or.inr (Or.inr (Or.inr ⟨h, ?_, ?_, ?_⟩)) <;> (rintro rfl; revert h; decide)
  · have h2 : x.toInt = 0 ∨ x.toInt = 1 ∨ x.toInt = 2 := by omega
    rcases h2 with q | q | q
    · exact Or.inl (e 0 q)
    · exact Or.inr (Or.inl (e 1 q))
    · exact Or.inr (Or.inr (Or.inl (e 2 q)))
theorem kBegin {l : Launch} {y : MethodName} {cc : ByteArray} {n : Nat} {r : Option FieldType} {fr lo : Nat} {av : List Value} {B : State → Prop} {Qc : Array Value → State → Outcome → State → Prop} {free : Addr → Prop} (hy : plainName y.cls = true) (hn : (lg_sl av).length ≤ n)
    (body : ∀ (p : Program) (e : Env) (s : State) (m : MethodId) (args : Array Value) (below : List Frame) (meth : Method) (c : Code), kCx p s m args c cc n y.cls → meth.sig.returnType = r → meth.locks = false → B s → ∀ ls : Array Slot, lv_has ls n (lv_args 0 av) → W p l e ({ frames := fr, cells := 0, slots := 0, locals := lo } : Room) s m args below meth c s.heap [] 0 0 (MQ below Qc args s 0 0 free) (F0 m 0 ls [])) : kM l y cc n r fr lo (va_Pc av B) Qc free := by
  refine kStart hy ?_
  intro p e s m args below meth c hC hr hlk hv
  obtain ⟨ha, hB⟩ := hv
  have K := body p e s m args below meth c hC hr hlk hB _ (lv_entry av hn)
  have e1 : entryFrame m args n = F0 m 0 (lg_sl av ++ List.replicate (n - (lg_sl av).length) Slot.unset).toArray [] := by
    rw [ha, lg_entry_eq]
  rw [e1]
  exact K
section KR
variable {p : Program} {l : Launch} {e : Env} {R : Room} {s : State} {m : MethodId} {args : Array Value} {below : List Frame} {meth : Method} {c : Code} {H : Heap} {locs : List Loc} {cells slots : Nat} {Q : State → Prop}
variable {cc : ByteArray} {pc : Nat} {ls : Array Slot} {rest : List Value} {A : Nat → Prop} {H0 : Heap} {nL index : Nat} {own : String}
variable {D : va_G} {G : Nat → ClassId} {L : Nat → Nat} {T N : kT} {q : kQ}
theorem kopt {P : Prop} {a : Nat} (kt : P → W p l e R s m args below meth c H locs cells slots Q (F0 m pc ls (.ref a :: rest))) (kf : ¬ P → W p l e R s m args below meth c H locs cells slots Q (F0 m pc ls (.null :: rest))) : W p l e R s m args below meth c H locs cells slots Q (F0 m pc ls (va_rf (kif P (some a) none) :: rest)) := by
  by_cases h : P
  · rw [kif_t h]; exact kt h
  · rw [kif_f h]; exact kf h
theorem kif_eq (hexec : p.tables.exec = Jvm.exec) (hb : c.code = cc) {P : Prop} {off : Int} {tgt : Nat} (hdg : decode cc pc = .ok (.ifCond .eq off, 3)) (ht : (pc : Int) + off = (tgt : Int))
    (kt : ¬ P → W p l e R s m args below meth c H locs cells slots Q (F0 m tgt ls rest)) (kf : P → W p l e R s m args below meth c H locs cells slots Q (F0 m (pc + 3) ls rest)) : W p l e R s m args below meth c H locs cells slots Q (F0 m pc ls (.int (kb P) :: rest)) :=
  lv_if_eq hexec hb hdg ht (fun h => kt (kb_0.mp h)) (fun h => kf (knn fun q => h (kb_0.mpr q)))
theorem kif_ne (hexec : p.tables.exec = Jvm.exec) (hb : c.code = cc) {P : Prop} {off : Int} {tgt : Nat} (hdg : decode cc pc = .ok (.ifCond .ne off, 3)) (ht : (pc : Int) + off = (tgt : Int))
    (kt : P → W p l e R s m args below meth c H locs cells slots Q (F0 m tgt ls rest)) (kf : ¬ P → W p l e R s m args below meth c H locs cells slots Q (F0 m (pc + 3) ls rest)) : W p l e R s m args below meth c H locs cells slots Q (F0 m pc ls (.int (kb P) :: rest)) :=
  lv_if_ne hexec hb hdg ht (fun h => kt (knn fun q => h (kb_0.mpr q))) (fun h => kf (kb_0.mp h))
theorem kar1n (hC : kCx p s m args c cc nL own) (hK : va_K D vwCl (kty G) s) (hW : kWd D G L A H0 T N q H locs) {i : Nat} (hi : i < 24) (hdg : decode cc pc = .ok (.aaload, 1)) (kk : W p l e R s m args below meth c H locs cells slots Q (F0 m (pc + 1) ls (.ref (L (4 + i)) :: rest))) : W p l e R s m args below meth c H locs cells slots Q (F0 m pc ls (.int (nI i) :: .ref (L 1) :: rest)) :=
  kar1 hC hK hW (vp_in_nI hi (by decide)) hdg (by rw [tn_nI (by omega)]; exact kk)
theorem kar2n (hC : kCx p s m args c cc nL own) (hK : va_K D vwCl (kty G) s) (hW : kWd D G L A H0 T N q H locs) {i : Nat} (hi : i < 40) (hdg : decode cc pc = .ok (.aaload, 1)) (kk : W p l e R s m args below meth c H locs cells slots Q (F0 m (pc + 1) ls (.ref (L (28 + i)) :: rest))) : W p l e R s m args below meth c H locs cells slots Q (F0 m pc ls (.int (nI i) :: .ref (L 2) :: rest)) :=
  kar2 hC hK hW (vp_in_nI hi (by decide)) hdg (by rw [tn_nI (by omega)]; exact kk)
theorem kar3n (hC : kCx p s m args c cc nL own) (hK : va_K D vwCl (kty G) s) (hW : kWd D G L A H0 T N q H locs) {i : Nat} (hi : i < 60) (hdg : decode cc pc = .ok (.aaload, 1)) (kk : W p l e R s m args below meth c H locs cells slots Q (F0 m (pc + 1) ls (.ref (L (188 + i)) :: rest))) : W p l e R s m args below meth c H locs cells slots Q (F0 m pc ls (.int (nI i) :: .ref (L 3) :: rest)) :=
  kar3 hC hK hW (vp_in_nI hi (by decide)) hdg (by rw [tn_nI (by omega)]; exact kk)
end KR
/-! WHAT THE CLASS SAYS, in words of T: the answers of its small methods -/
def kP (T : kT) (p : Int32) : Prop := ¬ p < 0 ∧ ¬ 24 ≤ p ∧ ¬ T 1 (tn p) = 0
def kEo (T : kT) (x : Int32) : Prop := ¬ x < 0 ∧ ¬ 40 ≤ x ∧ ¬ T 10 (tn x) = 0
def kO (T : kT) (o : Int32) : Prop := ¬ o < 0 ∧ ¬ 60 ≤ o ∧ ¬ T 18 (tn o) = 0
def kCn (T : kT) (o : Int32) : Prop := kO T o ∧ ¬ T 19 (tn o) = 0
def kFl (T : kT) (o : Int32) : Prop := kO T o ∧ T 19 (tn o) = 0
theorem kP.lt {T : kT} {p : Int32} (h : kP T p) : tn p < 24 := kin_lt (kin24 h.1 h.2.1)
theorem kEo.lt {T : kT} {p : Int32} (h : kEo T p) : tn p < 40 := kin_lt (kin40 h.1 h.2.1)
theorem kO.lt {T : kT} {p : Int32} (h : kO T p) : tn p < 60 := kin_lt (kin60 h.1 h.2.1)
theorem kCn.lt {T : kT} {p : Int32} (h : kCn T p) : tn p < 60 := h.1.lt
theorem kFl.lt {T : kT} {p : Int32} (h : kFl T p) : tn p < 60 := h.1.lt
def kWi (a b : Int32) : Prop := (a &&& (b ^^^ (-1))) = 0
def kFw (sa ta sb tb : Int32) : Prop := kWi sa sb ∧ kWi tb ta
def kSet (T : kT) (s : Int32) : Prop := ((s.toUInt32 >>> ((T 0 0).toUInt32 &&& Int32.toUInt32 31)).toInt32) = 0
def kBoth (T : kT) (x y : Int32) : Int32 := (x ||| T 0 4) &&& (y ||| T 0 5)
def kSafe (T : kT) (r : Nat) (a b : Int32) : Prop := kWi (b &&& (a ^^^ (-1))) (T 5 r ||| T 0 4) ∧ kWi (a &&& (b ^^^ (-1))) (T 6 r ||| T 0 5)
def kOwn (T : kT) (r : Nat) (a b : Int32) : Prop := kWi a (T 5 r) ∧ kWi b (T 6 r)
def kRd (T : kT) (r o : Nat) : Prop := kFw (T 21 o) (T 22 o) (T 3 r) (T 4 r)
def kWr (T : kT) (r o : Nat) : Prop := kFw (T 3 r) (T 4 r) (T 21 o) (T 22 o)
def kIn (T : kT) (o c : Int32) : Prop := kO T o ∧ T 20 (tn o) = c
