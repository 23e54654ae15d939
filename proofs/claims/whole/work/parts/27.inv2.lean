/-! THE OBJECTS STAY IN ORDER -/
def isum (f : Nat → Int) : Nat → Int
  | 0 => 0
  | n + 1 => isum f n + f n
theorem isum_cong {f g : Nat → Int} : ∀ {n : Nat}, (∀ j, j < n → g j = f j) → isum g n = isum f n
  | 0, _ => rfl
  | n + 1, h => by show isum g n + g n = isum f n + f n; rw [h n (by omega), isum_cong (fun j hj => h j (by omega))]
theorem isum_upd {f g : Nat → Int} {o : Nat} : ∀ {n : Nat}, (∀ j, j < n → j ≠ o → g j = f j) → o < n → isum g n = isum f n + (g o - f o)
  | 0, _, hn => absurd hn (by omega)
  | n + 1, h, hn => by
    show isum g n + g n = isum f n + f n + (g o - f o)
    by_cases e : o = n
    · rw [e, isum_cong (f := f) (g := g) (fun j hj => h j (by omega) (by omega))]; omega
    · rw [isum_upd (f := f) (g := g) (o := o) (n := n) (fun j hj => h j (by omega)) (by omega), h n (by omega) (by omega)]; omega
theorem isum_mono {f g : Nat → Int} : ∀ {n : Nat}, (∀ j, j < n → g j ≤ f j) → isum g n ≤ isum f n
  | 0, _ => Int.le_refl _
  | n + 1, h => by
    have a := h n (by omega)
    have b := isum_mono (n := n) (fun j hj => h j (by omega))
    show isum g n + g n ≤ isum f n + f n
    omega
theorem isum_zero {f : Nat → Int} : ∀ {n : Nat}, (∀ j, j < n → f j = 0) → isum f n = 0
  | 0, _ => rfl
  | n + 1, h => by show isum f n + f n = 0; rw [h n (by omega), isum_zero (fun j hj => h j (by omega))]; rfl
theorem isum_b {f : Nat → Int} : ∀ {n : Nat}, (∀ j, j < n → 0 ≤ f j ∧ f j ≤ 200) → 0 ≤ isum f n ∧ isum f n ≤ 200 * n
  | 0, _ => ⟨Int.le_refl _, Int.le_refl _⟩
  | n + 1, h => by
    have a := h n (by omega)
    have b := isum_b (n := n) (fun j hj => h j (by omega))
    show 0 ≤ isum f n + f n ∧ isum f n + f n ≤ 200 * ((n + 1 : Nat) : Int)
    omega
theorem kdf_int {f : Nat → Int32} {x : Int32} (hx : 0 ≤ x.toInt ∧ x.toInt ≤ 200) : ∀ {n : Nat}, n ≤ 60 → (∀ j, j < n → 0 ≤ (f j).toInt ∧ (f j).toInt ≤ 200) → (kdf f x n).toInt = x.toInt - isum (fun j => (f j).toInt) n
  | 0, _, _ => by show x.toInt = x.toInt - 0; omega
  | n + 1, hn, h => by
    have a := h n (by omega)
    have e := kdf_int (f := f) hx (n := n) (by omega) (fun j hj => h j (by omega))
    have b := isum_b (f := fun j => (f j).toInt) (n := n) (fun j hj => h j (by omega))
    show (kdf f x n - f n).toInt = x.toInt - (isum (fun j => (f j).toInt) n + (f n).toInt)
    rw [Int32.toInt_sub, e]
    rw [Int.bmod_eq_of_le (by omega) (by omega)]
    omega
theorem kBf_nI : ∀ k, k < 33 → kBf (nI k) = nI ((k + 3) / 4) := by decide +kernel
theorem i32b {a : Int32} (h : ¬ a < 0) {b : Nat} (hb : b < 2 ^ 31) (h2 : a ≤ nI b) : 0 ≤ a.toInt ∧ a.toInt ≤ b ∧ tn a ≤ b ∧ a.toInt = tn a := by
  have e0 : (0 : Int32).toInt = 0 := by decide
  rw [Int32.lt_iff_toInt_lt] at h
  rw [Int32.le_iff_toInt_le, nI_toInt hb] at h2
  have e1 : tn a = a.toInt.toNat := rfl
  omega
section INV
variable {T T' : kT}
theorem j9 (h : jO T) (x : Nat) : 0 ≤ (T 25 x).toInt ∧ (T 25 x).toInt ≤ 32 ∧ tn (T 25 x) ≤ 32 ∧ (T 25 x).toInt = tn (T 25 x) := i32b (h.2.2.2.1 x).1 (b := 32) (by decide) (h.2.2.2.1 x).2
theorem j23 (h : jO T) (x : Nat) : 0 ≤ (T 23 x).toInt ∧ (T 23 x).toInt ≤ 200 := by
  have z := i32b (h.2.2.2.2.2.2.2 x).1 (b := 200) (by decide) (h.2.2.2.2.2.2.2 x).2
  exact ⟨z.1, z.2.1⟩
theorem jBf (h : jO T) (x : Nat) : (kBf (T 25 x)).toInt = ((tn (T 25 x) + 3) / 4 : Nat) := by
  have z := j9 h x
  have e := nI_tn (h.2.2.2.1 x).1
  have k := kBf_nI (tn (T 25 x)) (by omega)
  rw [← e] at k
  rw [k, nI_toInt (by omega)]
theorem jBt (h : jO T) (x : Nat) : 0 ≤ (kBt T x).toInt ∧ (kBt T x).toInt ≤ 200 := by
  unfold kBt
  by_cases c : T 19 x = 0
  · rw [kif_t c, jBf h x]
    have z := j9 h x
    omega
  · rw [kif_f c]
    exact j23 h x
theorem jbf (h : jO T) (c : Int32) (x : Nat) : 0 ≤ (kbf T c x).toInt ∧ (kbf T c x).toInt ≤ 200 := by
  unfold kbf
  by_cases q : kIn T (nI x) c
  · rw [kif_t q]; exact jBt h x
  · rw [kif_f q]; decide
noncomputable def lb (T : kT) (c : Int32) : Int := isum (fun j => (kbf T c j).toInt) 60
theorem jbl (h : jO T) {c : Int32} (hc : kCn T c) : (kBl T c).toInt = (T 23 (tn c)).toInt - lb T c := by
  unfold kBl
  rw [kif_t hc]
  exact kdf_int (j23 h _) (Nat.le_refl _) (fun j _ => jbf h c j)
theorem jL_iff (h : jO T) : jL T ↔ ∀ x, kCn T x → lb T x ≤ (T 23 (tn x)).toInt := by
  have e0 : (0 : Int32).toInt = 0 := by decide
  refine ⟨fun hl x hx => ?_, fun hl x hx => ?_⟩
  · have a := hl x hx
    rw [Int32.lt_iff_toInt_lt, jbl h hx] at a
    omega
  · have a := hl x hx
    rw [Int32.lt_iff_toInt_lt, jbl h hx]
    omega
theorem kCn_lt (h : jO T) {c : Int32} (hc : kO T c) : tn c < tn (T 0 3) := Nat.not_le.mp fun q => hc.2.2 (h.1.2.2.2 _ q)
theorem tn60 {o : Nat} (h : o < 60) : tn (nI o) = o := tn_nI (by omega)
theorem tn_inj {a b : Int32} (ha : ¬ a < 0) (hb : ¬ b < 0) (h : tn a = tn b) : a = b := by rw [nI_tn ha, nI_tn hb, h]
/-- a new object -/
theorem i_mk {b hh s t bl pl : Int32} (h : kInv T) (hlt : T 0 3 < 60) (hb : b = 0 ∨ b = 1) (hhc : kCn T hh) (hbl : ¬ bl < 0 ∧ bl ≤ 200) (hpl : b = 0 → pl = 0) (hfit : b = 1 → ¬ kBl T hh < bl) : kInv (kMk T b hh s t bl pl) := by
  unfold kMk
  by_cases c : kGo T 3
  · rw [kif_t c]
    unfold kGoT
    rw [kif_t c]
    obtain ⟨h0, hc, hp, he, hO, hL⟩ := h
    obtain ⟨i1, i2, i3⟩ := kinc hO.1.1 hlt
    have e60 : tn (60 : Int32) = 60 := by decide
    generalize hn : tn (T 0 3) = n at *
    have hn1 : 1 ≤ n := by have := hO.1.2.1; omega
    obtain ⟨X, hX⟩ : ∃ X, X = kup (t_X1_begin (kup T 0 7 (T 0 7 + 3)) n b hh s t bl pl) 0 3 (T 0 3 + 1) := ⟨_, rfl⟩
    have x03 : X 0 3 = T 0 3 + 1 := by rw [hX]; exact kup_eq _ _ _ _
    have x18 : ∀ j, X 18 j = if j = n then 1 else T 18 j := fun j => by rw [hX]; show kup T 18 n 1 18 j = _; simp [kup]
    have x19 : ∀ j, X 19 j = if j = n then b else T 19 j := fun j => by rw [hX]; show kup T 19 n b 19 j = _; simp [kup]
    have x20 : ∀ j, X 20 j = if j = n then hh else T 20 j := fun j => by rw [hX]; show kup T 20 n hh 20 j = _; simp [kup]
    have x23 : ∀ j, X 23 j = if j = n then bl else T 23 j := fun j => by rw [hX]; show kup T 23 n bl 23 j = _; simp [kup]
    have x24 : ∀ j, X 24 j = if j = n then pl else T 24 j := fun j => by rw [hX]; show kup T 24 n pl 24 j = _; simp [kup]
    have x25 : X 25 = T 25 := by rw [hX]; rfl
    have z25 : T 25 n = 0 := hO.2.2.1 n (by rw [hn]; omega)
    have z18 : T 18 n = 0 := hO.1.2.2.2 n (by rw [hn]; omega)
    have hhl : tn hh < n := by have := kCn_lt hO hhc.1; omega
    have keep : ∀ y, kCn T y → kCn X y := fun y hy => by
      have hy2 : tn y < n := by have := kCn_lt hO hy.1; omega
      unfold kCn kO
      rw [x18, x19, if_neg (by omega), if_neg (by omega)]
      exact hy
    have back : ∀ y, kCn X y → tn y ≠ n → kCn T y := fun y hy hq => by
      unfold kCn kO at hy
      rw [x18, x19, if_neg hq, if_neg hq] at hy
      exact hy
    have hOX : jO X := by
      refine ⟨⟨by rw [x03]; exact i1, by rw [x03]; omega, by rw [x03]; omega, fun x hx => ?_⟩, fun x => ?_, fun x hx => ?_, by unfold kI9; rw [x25]; exact hO.2.2.2.1, ⟨?_, fun x hx hx2 => ?_⟩, ?_, fun x => ?_, fun x => ?_⟩
      · rw [x03] at hx; rw [x18, if_neg (by omega)]; exact hO.1.2.2.2 x (by rw [hn]; omega)
      · rw [x19, x24, x25]
        by_cases q : x = n
        · rw [if_pos q, if_pos q, q]; exact ⟨hpl, fun _ => z25⟩
        · rw [if_neg q, if_neg q]; exact hO.2.1 x
      · rw [x03] at hx; rw [x25]; exact hO.2.2.1 x (by rw [hn]; omega)
      · rw [x20, if_neg (by omega)]; exact hO.2.2.2.2.1.1
      · rw [x18] at hx2
        rw [x20]
        by_cases q : x = n
        · rw [if_pos q]; exact ⟨keep _ hhc, by omega⟩
        · rw [if_neg q] at hx2 ⊢
          have z := hO.2.2.2.2.1.2 x hx hx2
          exact ⟨keep _ z.1, z.2⟩
      · unfold kIz; rw [x19, if_neg (by omega)]; exact hO.2.2.2.2.2.1
      · rw [x18, x19]
        by_cases q : x = n
        · rw [if_pos q, if_pos q]; exact ⟨Or.inr rfl, hb⟩
        · rw [if_neg q, if_neg q]; exact hO.2.2.2.2.2.2.1 x
      · rw [x23]
        by_cases q : x = n
        · rw [if_pos q]; exact hbl
        · rw [if_neg q]; exact hO.2.2.2.2.2.2.2 x
    have hLX : jL X := by
      rw [jL_iff hOX]
      rw [jL_iff hO] at hL
      intro x hx
      by_cases q : tn x = n
      · have z : lb X x = 0 := isum_zero (fun j hj => by
          unfold kbf
          rw [kif_f]
          · decide
          · intro hi
            have h1 := hi.1.2.2
            have h2 := hi.2
            rw [tn60 hj] at h1 h2
            rw [x18] at h1
            rw [x20] at h2
            by_cases qj : j = n
            · rw [if_pos qj] at h2; rw [h2] at hhl; omega
            · rw [if_neg qj] at h1 h2
              rcases Nat.eq_zero_or_pos j with q0 | q0
              · rw [q0, hO.2.2.2.2.1.1] at h2
                exact hx.1.1 (by rw [← h2]; decide)
              · have z := (hO.2.2.2.2.1.2 j q0 h1).1.1.2.2
                rw [h2, q] at z
                exact z z18)
        rw [z]
        exact (j23 hOX _).1
      · have hx' := back x hx q
        have hl := hL x hx'
        rw [x23, if_neg q]
        have ho : ∀ j, j < 60 → j ≠ n → kbf X x j = kbf T x j := fun j h60 hj => by
          unfold kbf kIn kO kBt
          rw [tn60 h60, x18, x20, x19, x23, x25, if_neg hj, if_neg hj, if_neg hj, if_neg hj]
        have e := isum_upd (f := fun j => (kbf T x j).toInt) (g := fun j => (kbf X x j).toInt) (o := n) (fun j h60 hj => by show (kbf X x j).toInt = _; rw [ho j h60 hj]) (n := 60) (by omega)
        have z : (kbf T x n).toInt = 0 := by
          unfold kbf
          rw [kif_f (fun w => w.1.2.2 (by rw [tn60 (by omega)]; exact z18))]
          decide
        show isum (fun j => (kbf X x j).toInt) 60 ≤ _
        rw [e]
        show lb T x + ((kbf X x n).toInt - (kbf T x n).toInt) ≤ _
        rw [z]
        unfold kbf
        by_cases hi : kIn X (nI n) x
        · rw [kif_t hi]
          have h2 := hi.2
          rw [tn60 (by omega), x20, if_pos rfl] at h2
          unfold kBt
          rw [x19, x25, x23, if_pos rfl, if_pos rfl, z25]
          rcases hb with hb | hb
          · rw [kif_t hb]
            have : (kBf 0).toInt = 0 := by decide
            omega
          · rw [kif_f (by rw [hb]; decide)]
            have f := hfit hb
            rw [h2, Int32.lt_iff_toInt_lt, jbl hO hx'] at f
            omega
        · rw [kif_f hi]
          have : (0 : Int32).toInt = 0 := by decide
          omega
    have hr : kInv X := ⟨h0.c (by rw [hX]; rfl), hc.c (by rw [hX]; rfl), hp.c (by rw [hX]; rfl) (by rw [hX]; rfl), he.c (by rw [hX]; rfl) (by rw [hX]; rfl) (by rw [hX]; rfl), hOX, hLX⟩
    rw [hX] at hr
    exact hr
  · rw [kif_f c]; exact h
end INV
