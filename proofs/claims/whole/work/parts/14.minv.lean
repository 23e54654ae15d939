section MR
variable {p : Program} {l : Launch} {e : Env} {R : Room} {s : State} {m : MethodId} {args : Array Value} {below : List Frame} {meth : Method} {c : Code} {H : Heap} {locs : List Loc} {cells slots : Nat} {Q : State → Prop}
variable {cc : ByteArray} {pc : Nat} {ls : Array Slot} {rest : List Value} {A : Nat → Prop} {H0 : Heap} {nL index : Nat} {own : String}
variable {D : va_G} {G : Nat → ClassId} {M : Nat → Nat} {T N : kT} {r g : Nat → Int32}
theorem maiN (hC : kCx p s m args c cc nL own) (hK : va_K D vwCl (kty G) s) (hW : mWd D G M A H0 T N r g H locs) (k : Nat) (hk : k < 24) {n : Nat} {f : Nat → Int32} (he : mE G M T N r g k = .inl (G 0, n, .inl f)) {i : Nat} (hin : i < n) (hdg : decode cc pc = .ok (.iaload, 1)) (kk : W p l e R s m args below meth c H locs cells slots Q (F0 m (pc + 1) ls (.int (f i) :: rest))) (hn : n < 2 ^ 31 := by decide) : W p l e R s m args below meth c H locs cells slots Q (F0 m pc ls (.int (nI i) :: .ref (M k) :: rest)) :=
  mai hC hK hW k hk he (vp_in_nI hin hn) hdg (by rw [tn_nI (by omega)]; exact kk)
theorem mabN (hC : kCx p s m args c cc nL own) (hK : va_K D vwCl (kty G) s) (hW : mWd D G M A H0 T N r g H locs) (k : Nat) (hk : k < 24) {n : Nat} {f : Nat → Int32} (he : mE G M T N r g k = .inl (G 1, n, .inl f)) {i : Nat} (hin : i < n) (hdg : decode cc pc = .ok (.baload, 1)) (kk : W p l e R s m args below meth c H locs cells slots Q (F0 m (pc + 1) ls (.int (f i) :: rest))) (hn : n < 2 ^ 31 := by decide) : W p l e R s m args below meth c H locs cells slots Q (F0 m pc ls (.int (nI i) :: .ref (M k) :: rest)) :=
  mab hC hK hW k hk he (vp_in_nI hin hn) hdg (by rw [tn_nI (by omega)]; exact kk)
theorem mai_sN (hC : kCx p s m args c cc nL own) (hK : va_K D vwCl (kty G) s) (hW : mWd D G M A H0 T N r g H locs) (k : Nat) (hk : k < 24) {n : Nat} {f : Nat → Int32} (he : mE G M T N r g k = .inl (G 0, n, .inl f)) {i : Nat} {v : Int32} (hin : i < n) {T' N' : kT} {r' g' : Nat → Int32} (hset : (mw G M T N r g).set k (M k, .inl (G 0, n, .inl (upd f i v))) = mw G M T' N' r' g') (hdg : decode cc pc = .ok (.iastore, 1)) (kk : ∀ (H1 : Heap) (locs1 : List Loc), mWd D G M A H0 T' N' r' g' H1 locs1 → W p l e R s m args below meth c H1 locs1 cells slots Q (F0 m (pc + 1) ls rest)) (hn : n < 2 ^ 31 := by decide) : W p l e R s m args below meth c H locs cells slots Q (F0 m pc ls (.int v :: .int (nI i) :: .ref (M k) :: rest)) :=
  mai_s hC hK hW k hk he (vp_in_nI hin hn) (by rw [tn_nI (by omega)]; exact hset) hdg kk
theorem mab_sN (hC : kCx p s m args c cc nL own) (hK : va_K D vwCl (kty G) s) (hW : mWd D G M A H0 T N r g H locs) (k : Nat) (hk : k < 24) {n : Nat} {f : Nat → Int32} (he : mE G M T N r g k = .inl (G 1, n, .inl f)) {i : Nat} {v : Int32} (hin : i < n) (hv : v = 0 ∨ v = 1) {T' N' : kT} {r' g' : Nat → Int32} (hset : (mw G M T N r g).set k (M k, .inl (G 1, n, .inl (upd f i v))) = mw G M T' N' r' g') (hdg : decode cc pc = .ok (.bastore, 1)) (kk : ∀ (H1 : Heap) (locs1 : List Loc), mWd D G M A H0 T' N' r' g' H1 locs1 → W p l e R s m args below meth c H1 locs1 cells slots Q (F0 m (pc + 1) ls rest)) (hn : n < 2 ^ 31 := by decide) : W p l e R s m args below meth c H locs cells slots Q (F0 m pc ls (.int v :: .int (nI i) :: .ref (M k) :: rest)) :=
  mab_s hC hK hW k hk he (vp_in_nI hin hn) hv (by rw [tn_nI (by omega)]; exact hset) hdg kk
end MR
/-! THE INVARIANT: counts, what lies beyond them, ranges -/
def kI1 (T : kT) : Prop := ¬ T 0 1 < 0 ∧ 1 ≤ tn (T 0 1) ∧ tn (T 0 1) ≤ 24 ∧ ∀ x, tn (T 0 1) ≤ x → T 1 x = 0
def kI2 (T : kT) : Prop := ¬ T 0 2 < 0 ∧ tn (T 0 2) ≤ 40 ∧ ∀ x, tn (T 0 2) ≤ x → T 10 x = 0
def kI3 (T : kT) : Prop := ¬ T 0 3 < 0 ∧ 1 ≤ tn (T 0 3) ∧ tn (T 0 3) ≤ 60 ∧ ∀ x, tn (T 0 3) ≤ x → T 18 x = 0
def kI0 (T : kT) : Prop := ¬ T 0 0 < 0 ∧ tn (T 0 0) ≤ 24
def kWt (v a b : Int64) : Prop := ¬ v < a ∧ ¬ b < v
theorem lg_lt (x y : Int64) : lg_cmp x y < 0 ↔ x < y := by
  unfold lg_cmp
  rcases (show x < y ∨ x = y ∨ y < x by rw [Int64.lt_iff_toInt_lt, Int64.lt_iff_toInt_lt, ← Int64.toInt_inj]; omega) with h | h | h
  · have h2 : ¬ y < x := fun z => by rw [Int64.lt_iff_toInt_lt] at h z; omega
    have h3 : ¬ x = y := fun z => by subst z; rw [Int64.lt_iff_toInt_lt] at h; omega
    simp [h, h2, h3]
  · subst h
    have h2 : ¬ x < x := fun z => by rw [Int64.lt_iff_toInt_lt] at z; omega
    simp [h2]
  · have h2 : ¬ x < y := fun z => by rw [Int64.lt_iff_toInt_lt] at h z; omega
    simp [h, h2]
theorem lg_gt (x y : Int64) : 0 < lg_cmp x y ↔ y < x := by
  unfold lg_cmp
  rcases (show x < y ∨ x = y ∨ y < x by rw [Int64.lt_iff_toInt_lt, Int64.lt_iff_toInt_lt, ← Int64.toInt_inj]; omega) with h | h | h
  · have h2 : ¬ y < x := fun z => by rw [Int64.lt_iff_toInt_lt] at h z; omega
    have h3 : ¬ x = y := fun z => by subst z; rw [Int64.lt_iff_toInt_lt] at h; omega
    simp [h, h2, h3]
  · subst h
    have h2 : ¬ x < x := fun z => by rw [Int64.lt_iff_toInt_lt] at z; omega
    simp [h2]
  · simp [h]
theorem kwt_n {x c : Int32} (hc : ¬ c < 0) : kWt x.toInt64 0 ((c - 1).toInt64) ↔ ¬ x < 0 ∧ tn x < tn c := by
  obtain ⟨k, hk, rfl⟩ := nI_of hc
  rw [tn_nI hk]
  unfold kWt
  rw [Int64.lt_iff_toInt_lt, Int64.lt_iff_toInt_lt, Int32.toInt_toInt64, Int32.toInt_toInt64, Int32.lt_iff_toInt_lt, tn_def]
  have h0 : (0 : Int64).toInt = 0 := rfl
  have h0' : (0 : Int32).toInt = 0 := rfl
  have h1 : (nI k - 1).toInt = (k : Int) - 1 := by
    cases k with
    | zero => decide
    | succ j => rw [nI_pred, nI_toInt (by omega)]; omega
  rw [h0, h0', h1]
  omega
theorem kwt_c {x : Int32} {lo hi : Int32} {a b : Int64} (ha : lo.toInt64 = a) (hb : hi.toInt64 = b) : kWt x.toInt64 a b ↔ ¬ x < lo ∧ ¬ hi < x := by
  subst ha; subst hb
  unfold kWt
  rw [Int64.lt_iff_toInt_lt, Int64.lt_iff_toInt_lt, Int32.toInt_toInt64, Int32.toInt_toInt64, Int32.toInt_toInt64, Int32.lt_iff_toInt_lt, Int32.lt_iff_toInt_lt]
theorem kl24 {x : Int32} {n : Nat} (hn : n < 2 ^ 31) (h0 : ¬ x < 0) : nI n ≤ x ↔ n ≤ tn x := by
  obtain ⟨j, hj, rfl⟩ := nI_of h0
  rw [tn_nI hj]
  exact nI_leI hn hj
theorem mkP {T : kT} {p : Int32} (hI : kI1 T) : kP T p ↔ (¬ p < 0 ∧ tn p < tn (T 0 1)) ∧ ¬ T 1 (tn p) = 0 := by
  unfold kP
  constructor
  · rintro ⟨h1, h2, h3⟩
    refine ⟨⟨h1, ?_⟩, h3⟩
    rcases Nat.lt_or_ge (tn p) (tn (T 0 1)) with z | z
    · exact z
    · exact absurd (hI.2.2.2 _ z) h3
  · rintro ⟨⟨h1, h2⟩, h3⟩
    refine ⟨h1, fun z => ?_, h3⟩
    have z2 := (kl24 (n := 24) (by decide) h1).mp z
    have z3 := hI.2.2.1
    omega
theorem mkE {T : kT} {p : Int32} (hI : kI2 T) : kEo T p ↔ (¬ p < 0 ∧ tn p < tn (T 0 2)) ∧ ¬ T 10 (tn p) = 0 := by
  unfold kEo
  constructor
  · rintro ⟨h1, h2, h3⟩
    refine ⟨⟨h1, ?_⟩, h3⟩
    rcases Nat.lt_or_ge (tn p) (tn (T 0 2)) with z | z
    · exact z
    · exact absurd (hI.2.2 _ z) h3
  · rintro ⟨⟨h1, h2⟩, h3⟩
    refine ⟨h1, fun z => ?_, h3⟩
    have z2 := (kl24 (n := 40) (by decide) h1).mp z
    have z3 := hI.2.1
    omega
theorem mkO {T : kT} {p : Int32} (hI : kI3 T) : kO T p ↔ (¬ p < 0 ∧ tn p < tn (T 0 3)) ∧ ¬ T 18 (tn p) = 0 := by
  unfold kO
  constructor
  · rintro ⟨h1, h2, h3⟩
    refine ⟨⟨h1, ?_⟩, h3⟩
    rcases Nat.lt_or_ge (tn p) (tn (T 0 3)) with z | z
    · exact z
    · exact absurd (hI.2.2.2 _ z) h3
  · rintro ⟨⟨h1, h2⟩, h3⟩
    refine ⟨h1, fun z => ?_, h3⟩
    have z2 := (kl24 (n := 60) (by decide) h1).mp z
    have z3 := hI.2.2.1
    omega
theorem vp_nat {x : Int32} {n : Nat} (h0 : ¬ x < 0) (h : tn x < n) : vp_in x n := by
  intro z
  rcases z with z | z
  · exact h0 z
  · have z2 : n ≤ tn x := z
    omega
theorem kP.in {T : kT} {p : Int32} (h : kP T p) : vp_in p 24 := kin24 h.1 h.2.1
theorem kEo.in {T : kT} {p : Int32} (h : kEo T p) : vp_in p 40 := kin40 h.1 h.2.1
theorem kO.in {T : kT} {p : Int32} (h : kO T p) : vp_in p 60 := kin60 h.1 h.2.1
theorem kP.inh {T : kT} {p : Int32} (hI : kI1 T) (h : kWt p.toInt64 0 ((T 0 1 - 1).toInt64)) : vp_in p 24 := by
  have z := (kwt_n hI.1).mp h
  exact vp_nat z.1 (Nat.lt_of_lt_of_le z.2 hI.2.2.1)
theorem kEo.inh {T : kT} {p : Int32} (hI : kI2 T) (h : kWt p.toInt64 0 ((T 0 2 - 1).toInt64)) : vp_in p 40 := by
  have z := (kwt_n hI.1).mp h
  exact vp_nat z.1 (Nat.lt_of_lt_of_le z.2 hI.2.1)
theorem kO.inh {T : kT} {p : Int32} (hI : kI3 T) (h : kWt p.toInt64 0 ((T 0 3 - 1).toInt64)) : vp_in p 60 := by
  have z := (kwt_n hI.1).mp h
  exact vp_nat z.1 (Nat.lt_of_lt_of_le z.2 hI.2.2.1)
theorem ushr_nat (x : Int32) (n : Nat) (hn : n < 32) : ((x.toUInt32 >>> ((nI n).toUInt32 &&& Int32.toUInt32 31)).toInt32) = 0 ↔ x.toUInt32.toNat < 2 ^ n := by
  have e : ((nI n).toUInt32 &&& Int32.toUInt32 31) = UInt32.ofNat n := by
    have h : ∀ k, k < 32 → ((nI k).toUInt32 &&& Int32.toUInt32 31) = UInt32.ofNat k := by decide
    exact h n hn
  rw [e]
  have e2 : (x.toUInt32 >>> UInt32.ofNat n).toNat = x.toUInt32.toNat >>> n := by
    rw [UInt32.toNat_shiftRight]
    have h : ∀ k, k < 32 → (UInt32.ofNat k).toNat % 32 = k := by decide
    rw [h n hn]
  constructor
  · intro h
    have h2 : (x.toUInt32 >>> UInt32.ofNat n) = 0 := by
      have z := congrArg Int32.toUInt32 h
      rw [UInt32.toUInt32_toInt32] at z
      exact z
    rw [h2] at e2
    have e3 : x.toUInt32.toNat >>> n = 0 := e2.symm
    rw [Nat.shiftRight_eq_div_pow] at e3
    exact (Nat.div_eq_zero_iff_lt (Nat.two_pow_pos n)).mp e3
  · intro h
    have e3 : (x.toUInt32 >>> UInt32.ofNat n).toNat = 0 := by
      rw [e2, Nat.shiftRight_eq_div_pow]
      exact Nat.div_eq_of_lt h
    have e4 : (x.toUInt32 >>> UInt32.ofNat n) = 0 := UInt32.toNat_inj.mp e3
    rw [e4]
    rfl
theorem mSet {T : kT} {x : Int32} (hI : kI0 T) : kWt x.toInt64 0 ((((1 : Int32) <<< (T 0 0 &&& 31)) - 1).toInt64) ↔ kSet T x := by
  obtain ⟨k, hk, e⟩ := nI_of hI.1
  have hk2 : k ≤ 24 := by have := hI.2; rw [e, tn_nI hk] at this; exact this
  unfold kSet
  rw [e, ushr_nat x k (by omega)]
  have e1 : (((1 : Int32) <<< (nI k &&& 31)) - 1) = nI (2 ^ k) - 1 := by
    have h : ∀ j, j < 25 → (((1 : Int32) <<< (nI j &&& 31)) - 1) = nI (2 ^ j) - 1 := by decide
    exact h k (by omega)
  have e2 : (2 : Nat) ^ k ≤ 2 ^ 24 := Nat.pow_le_pow_right (by decide) hk2
  rw [e1, kwt_n (nI_pos (by omega)), tn_nI (by omega)]
  rw [Int32.lt_iff_toInt_lt, tn_def]
  have h0' : (0 : Int32).toInt = 0 := rfl
  rw [h0']
  have e3 : x.toInt = (x.toUInt32.toNat : Int).bmod (2 ^ 32) := BitVec.toInt_eq_toNat_bmod x.toBitVec
  have e4 : x.toUInt32.toNat < 2 ^ 32 := x.toUInt32.toNat_lt
  rw [e3, Int.bmod_def]
  split <;> omega
