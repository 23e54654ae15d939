/-! WHAT STAYS TRUE OF THE STATE -/
def jP (T : kT) : Prop := kI1 T ∧ ∀ x, T 1 x = 0 ∨ T 1 x = 1
def jE (T : kT) : Prop := kI2 T ∧ kI6 T ∧ kIq T ∧ ∀ x, T 10 x = 0 ∨ T 10 x = 1
def jO (T : kT) : Prop := kI3 T ∧ kI5 T ∧ kI7 T ∧ kI9 T ∧ kIh T ∧ kIz T ∧ (∀ x, (T 18 x = 0 ∨ T 18 x = 1) ∧ (T 19 x = 0 ∨ T 19 x = 1)) ∧ ∀ x, ¬ T 23 x < 0 ∧ T 23 x ≤ 200
def jL (T : kT) : Prop := ∀ x, kCn T x → ¬ kBl T x < 0
def jA (T : kT) : Prop := jO T ∧ jL T
def kInv (T : kT) : Prop := kI0 T ∧ kIc T ∧ jP T ∧ jE T ∧ jA T
section INV
variable {T T' : kT}
theorem jP.c (h : jP T) (h1 : T' 0 1 = T 0 1) (h2 : T' 1 = T 1) : jP T' := by
  unfold jP kI1 at *
  simp only [h1, h2]
  exact h
theorem jE.c (h : jE T) (h1 : T' 0 2 = T 0 2) (h2 : T' 10 = T 10) (h3 : T' 14 = T 14) : jE T' := by
  unfold jE kI2 kI6 kIq at *
  simp only [h1, h2, h3]
  exact h
theorem jO.c (h : jO T) (h1 : T' 0 3 = T 0 3) (a : T' 18 = T 18) (b : T' 19 = T 19) (c : T' 20 = T 20) (d : T' 23 = T 23) (e : T' 24 = T 24) (f : T' 25 = T 25) : jO T' := by
  unfold jO kI3 kI5 kI7 kI9 kIh kIz kCn kO at *
  simp only [h1, a, b, c, d, e, f]
  exact h
theorem jL.c (h : jL T) (a : T' 18 = T 18) (b : T' 19 = T 19) (c : T' 20 = T 20) (d : T' 23 = T 23) (f : T' 25 = T 25) : jL T' := by
  have e : kbf T' = kbf T := by
    funext x o
    unfold kbf kIn kBt kO
    simp only [a, b, c, d, f]
  unfold jL kBl kCn kO at *
  simp only [a, b, d, e]
  exact h
theorem jA.c (h : jA T) (h1 : T' 0 3 = T 0 3) (a : T' 18 = T 18) (b : T' 19 = T 19) (c : T' 20 = T 20) (d : T' 23 = T 23) (e : T' 24 = T 24) (f : T' 25 = T 25) : jA T' := ⟨h.1.c h1 a b c d e f, h.2.c a b c d f⟩
theorem kI0.c (h : kI0 T) (h1 : T' 0 0 = T 0 0) : kI0 T' := by unfold kI0 at *; rw [h1]; exact h
theorem kIc.c (h : kIc T) (h1 : T' 0 8 = T 0 8) : kIc T' := by unfold kIc at *; rw [h1]; exact h
theorem kinc {a b : Int32} (h : ¬ a < 0) (h2 : a < b) : ¬ a + 1 < 0 ∧ tn (a + 1) = tn a + 1 ∧ tn a < tn b := by
  have ha := nI_tn h
  have hz : (0 : Int32).toInt = 0 := by decide
  have h1 : tn a < tn b ∧ tn a < 2147483647 := by
    rw [Int32.lt_iff_toInt_lt] at h h2
    have hb := Int32.toInt_lt b
    have e1 : tn a = a.toInt.toNat := rfl
    have e2 : tn b = b.toInt.toNat := rfl
    omega
  rw [ha, nI_1, tn_nI (by omega), tn_nI (by omega)]
  exact ⟨nI_pos (by omega), rfl, h1.1⟩
/-- a field of another row, or of another name -/
theorem jup {f i : Nat} {v : Int32} {g : Nat} (h : g ≠ f) : kup T f i v g = T g := by funext j; exact kup_f h
theorem jup0 {i j : Nat} {v : Int32} (h : j ≠ i) : kup T 0 i v 0 j = T 0 j := by simp [kup, h]
theorem i_label {p w x : Int32} (h : kInv T) : kInv (t_label T p w x) := by
  unfold t_label
  by_cases c : kP T p ∧ (kLb w ∧ kSet T x) ∧ kLok T p w x
  · rw [kif_t c]
    obtain ⟨h0, hc, hp, he, ho⟩ := h
    exact ⟨h0.c rfl, hc.c rfl, hp.c rfl rfl, he.c rfl rfl rfl, ho.c rfl rfl rfl rfl rfl rfl rfl⟩
  · rw [kif_f c]; exact h
theorem i_drop {p w x : Int32} (h : kInv T) : kInv (t_drop T p w x) := by
  unfold t_drop
  by_cases c : kP T p ∧ (kLb w ∧ kSet T x) ∧ kDok T p w x
  · rw [kif_t c]
    obtain ⟨h0, hc, hp, he, ho⟩ := h
    exact ⟨h0.c rfl, hc.c rfl, hp.c rfl rfl, he.c rfl rfl rfl, ho.c rfl rfl rfl rfl rfl rfl rfl⟩
  · rw [kif_f c]; exact h
theorem i_close {p x : Int32} (h : kInv T) : kInv (t_close T p x) := by
  unfold t_close
  by_cases c : (kP T p ∧ kEo T x) ∧ T 11 (tn x) = p
  · rw [kif_t c]
    obtain ⟨h0, hc, hp, he, ho⟩ := h
    refine ⟨h0.c rfl, hc.c rfl, hp.c rfl rfl, ⟨⟨he.1.1, he.1.2.1, fun y hy => ?_⟩, he.2.1, he.2.2.1, fun y => ?_⟩, ho.c rfl rfl rfl rfl rfl rfl rfl⟩
    · show kup T 10 (tn x) 0 10 y = 0
      by_cases hq : y = tn x
      · rw [hq, kup_eq]
      · rw [kup_i hq]; exact he.1.2.2 y hy
    · show kup T 10 (tn x) 0 10 y = 0 ∨ kup T 10 (tn x) 0 10 y = 1
      by_cases hq : y = tn x
      · rw [hq, kup_eq]; exact Or.inl rfl
      · rw [kup_i hq]; exact he.2.2.2 y
  · rw [kif_f c]; exact h
theorem i_tag {p k : Int32} (h : kInv T) : kInv (t_tag T p k) := by
  unfold t_tag
  by_cases c : kP T p ∧ kKd k ∧ T 0 0 < 24
  · rw [kif_t c]
    obtain ⟨h0, hc, hp, he, ho⟩ := h
    obtain ⟨i1, i2, i3⟩ := kinc h0.1 c.2.2
    have e24 : tn (24 : Int32) = 24 := by decide
    have hn : kI0 (kup (kTg T (tn p) k) 0 0 (T 0 0 + 1)) := ⟨by rw [kup_eq]; exact i1, by rw [kup_eq]; omega⟩
    refine ⟨hn, ?_⟩
    unfold kTg
    by_cases c0 : k = 0
    · rw [kif_t c0]
      exact ⟨hc.c rfl, hp.c rfl rfl, he.c rfl rfl rfl, ho.c rfl rfl rfl rfl rfl rfl rfl⟩
    · rw [kif_f c0]
      by_cases c1 : k = 1
      · rw [kif_t c1]
        exact ⟨hc.c rfl, hp.c rfl rfl, he.c rfl rfl rfl, ho.c rfl rfl rfl rfl rfl rfl rfl⟩
      · rw [kif_f c1]
        exact ⟨hc.c rfl, hp.c rfl rfl, he.c rfl rfl rfl, ho.c rfl rfl rfl rfl rfl rfl rfl⟩
  · rw [kif_f c]; exact h
theorem i_spawn {p s t a b : Int32} (h : kInv T) : kInv (t_spawn T p s t a b) := by
  unfold t_spawn
  by_cases c : kP T p ∧ kSps T s t a b ∧ kSpo T (tn p) s t a b ∧ T 0 1 < 24
  · rw [kif_t c]
    obtain ⟨h0, hc, hp, he, ho⟩ := h
    obtain ⟨i1, i2, i3⟩ := kinc hp.1.1 c.2.2.2
    have e24 : tn (24 : Int32) = 24 := by decide
    have e1 : (kup (t_X2_begin T (tn (T 0 1)) p s t a b) 0 1 (T 0 1 + 1)) 1 = kup T 1 (tn (T 0 1)) 1 1 := rfl
    have e2 : (kup (t_X2_begin T (tn (T 0 1)) p s t a b) 0 1 (T 0 1 + 1)) 0 1 = T 0 1 + 1 := kup_eq _ _ _ _
    refine ⟨h0.c rfl, hc.c rfl, ⟨⟨by rw [e2]; exact i1, by rw [e2]; omega, by rw [e2]; omega, fun x hx => ?_⟩, fun x => ?_⟩, he.c rfl rfl rfl, ho.c rfl rfl rfl rfl rfl rfl rfl⟩
    · rw [e1, kup_i (by rw [e2] at hx; omega)]; rw [e2] at hx; exact hp.1.2.2.2 x (by omega)
    · rw [e1]
      by_cases hq : x = tn (T 0 1)
      · rw [hq, kup_eq]; exact Or.inr rfl
      · rw [kup_i hq]; exact hp.2 x
  · rw [kif_f c]; exact h
theorem i_endpoint {p s t : Int32} (h : kInv T) : kInv (t_endpoint T p s t) := by
  unfold t_endpoint
  by_cases c : kP T p ∧ (kSet T s ∧ kSet T t) ∧ kEok T (tn p) s t ∧ T 0 2 < 40
  · rw [kif_t c]
    obtain ⟨h0, hc, hp, he, ho⟩ := h
    obtain ⟨i1, i2, i3⟩ := kinc he.1.1 c.2.2.2
    have e24 : tn (40 : Int32) = 40 := by decide
    have e1 : (kup (t_X0_begin T (tn (T 0 2)) p s t) 0 2 (T 0 2 + 1)) 10 = kup T 10 (tn (T 0 2)) 1 10 := rfl
    have e2 : (kup (t_X0_begin T (tn (T 0 2)) p s t) 0 2 (T 0 2 + 1)) 0 2 = T 0 2 + 1 := kup_eq _ _ _ _
    have e3 : (kup (t_X0_begin T (tn (T 0 2)) p s t) 0 2 (T 0 2 + 1)) 14 = T 14 := rfl
    refine ⟨h0.c rfl, hc.c rfl, hp.c rfl rfl, ⟨⟨by rw [e2]; exact i1, by rw [e2]; omega, fun x hx => ?_⟩, fun x hx => ?_, fun x => by rw [e3]; exact he.2.2.1 x, fun x => ?_⟩, ho.c rfl rfl rfl rfl rfl rfl rfl⟩
    · rw [e1, kup_i (by rw [e2] at hx; omega)]; rw [e2] at hx; exact he.1.2.2 x (by omega)
    · rw [e3]; rw [e2] at hx; exact he.2.1 x (by omega)
    · rw [e1]
      by_cases hq : x = tn (T 0 2)
      · rw [hq, kup_eq]; exact Or.inr rfl
      · rw [kup_i hq]; exact he.2.2.2 x
  · rw [kif_f c]; exact h
theorem i_exit {p : Int32} (h : kInv T) : kInv (t_exit T p) := by
  unfold t_exit
  by_cases c : kP T p ∧ ¬ p = 0
  · rw [kif_t c]
    obtain ⟨h0, hc, hp, he, ho⟩ := h
    rw [kCl_f]
    have e1 : kCl (kup T 1 (tn p) 0) p 40 1 = kup T 1 (tn p) 0 1 := rfl
    have e2 : ∀ x, kCl (kup T 1 (tn p) 0) p 40 10 x = 0 ∨ kCl (kup T 1 (tn p) 0) p 40 10 x = T 10 x := fun x => by
      show (if 10 = 10 ∧ x < 40 ∧ kup T 1 (tn p) 0 11 x = p then 0 else kup T 1 (tn p) 0 10 x) = 0 ∨ (if 10 = 10 ∧ x < 40 ∧ kup T 1 (tn p) 0 11 x = p then 0 else kup T 1 (tn p) 0 10 x) = T 10 x
      by_cases hq : 10 = 10 ∧ x < 40 ∧ kup T 1 (tn p) 0 11 x = p
      · exact Or.inl (if_pos hq)
      · exact Or.inr (by rw [if_neg hq]; rfl)
    refine ⟨h0.c rfl, hc.c rfl, ⟨⟨hp.1.1, hp.1.2.1, hp.1.2.2.1, fun x hx => ?_⟩, fun x => ?_⟩, ⟨⟨he.1.1, he.1.2.1, fun x hx => ?_⟩, he.2.1, he.2.2.1, fun x => ?_⟩, ho.c rfl rfl rfl rfl rfl rfl rfl⟩
    · rw [e1]
      by_cases hq : x = tn p
      · rw [hq, kup_eq]
      · rw [kup_i hq]; exact hp.1.2.2.2 x hx
    · rw [e1]
      by_cases hq : x = tn p
      · rw [hq, kup_eq]; exact Or.inl rfl
      · rw [kup_i hq]; exact hp.2 x
    · rcases e2 x with z | z
      · exact z
      · rw [z]; exact he.1.2.2 x hx
    · rcases e2 x with z | z
      · exact Or.inl z
      · rw [z]; exact he.2.2.2 x
  · rw [kif_f c]; exact h
theorem i_crash {n : Int32} (h : kInv T) : kInv (t_crash T n) := by
  unfold t_crash
  by_cases c : kCr n
  · rw [kif_t c]
    obtain ⟨h0, hc, hp, he, ho⟩ := h
    exact ⟨h0.c rfl, (by show ¬ kup T 0 8 n 0 8 < -1; rw [kup_eq]; exact c.1), hp.c rfl rfl, he.c rfl rfl rfl, ho.c rfl rfl rfl rfl rfl rfl rfl⟩
  · rw [kif_f c]; exact h
theorem kdecr {a b : Int32} (h : ¬ a < 0) (hz : ¬ a = 0) (hb : a ≤ b) : ¬ a - 1 < 0 ∧ a - 1 ≤ b := by
  have e0 : (0 : Int32).toInt = 0 := by decide
  have e1 : (1 : Int32).toInt = 1 := by decide
  have hz' : a.toInt ≠ 0 := fun q => hz (Int32.toInt_inj.mp (by rw [q, e0]))
  rw [Int32.lt_iff_toInt_lt] at h ⊢
  rw [Int32.le_iff_toInt_le] at hb ⊢
  have := Int32.toInt_lt a
  have e2 : (a - 1).toInt = a.toInt - 1 := by
    rw [Int32.toInt_sub, e1]
    exact Int.bmod_eq_of_le (by omega) (by omega)
  omega
theorem i_send {p x f v a b : Int32} (h : kInv T) : kInv (t_send T p x f v a b) := by
  unfold t_send
  by_cases c : kSdg T p x f a b
  · rw [kif_t c]
    by_cases c2 : kSdl T x f
    · rw [kif_t c2]
      obtain ⟨h0, hc, hp, he, ho⟩ := h
      have hr := c2.2.1
      have ha : T 14 (tn f) < 4 := by
        rw [Int32.lt_iff_toInt_lt]; have := hr.2; rw [Int32.le_iff_toInt_le] at this; omega
      obtain ⟨i1, i2, i3⟩ := kinc hr.1 ha
      have hi : tn f < tn (T 0 2) := Nat.not_le.mp fun q => c2.1.2.2 (he.1.2.2 _ q)
      have e1 : t_X0_put T (tn f) v a b 14 = kup T 14 (tn f) (T 14 (tn f) + 1) 14 := rfl
      refine ⟨h0.c rfl, hc.c rfl, hp.c rfl rfl, ⟨he.1, fun y hy => ?_, fun y => ?_, he.2.2.2⟩, ho.c rfl rfl rfl rfl rfl rfl rfl⟩
      · rw [e1, kup_i (by intro q; rw [q] at hy; exact absurd hy (Nat.not_le.mpr hi))]; exact he.2.1 y hy
      · rw [e1]
        by_cases hq : y = tn f
        · rw [hq, kup_eq]
          refine ⟨i1, ?_⟩
          rw [Int32.le_iff_toInt_le]
          have e4 : (4 : Int32).toInt = 4 := by decide
          have e5 : tn (4 : Int32) = 4 := by decide
          rw [e4, nI_tn i1, nI_toInt (by omega)]
          omega
        · rw [kup_i hq]; exact he.2.2.1 y
    · rw [kif_f c2]
      obtain ⟨h0, hc, hp, he, ho⟩ := h
      exact ⟨h0.c rfl, hc.c rfl, hp.c rfl rfl, he.c rfl rfl rfl, ho.c rfl rfl rfl rfl rfl rfl rfl⟩
  · rw [kif_f c]; exact h
theorem i_receive {p x x0 x1 x2 : Int32} (h : kInv T) : kInv (t_receive T p x x0 x1 x2) := by
  unfold t_receive
  by_cases c : kRcg T p x
  · rw [kif_t c]
    obtain ⟨h0, hc, hp, he, ho⟩ := h
    have hz := c.2.2
    have hd := kdecr (he.2.2.1 (tn x)).1 hz (he.2.2.1 (tn x)).2
    have e1 : t_X0_moveUp (t_X2_take T (tn p) x0 x1 x2) (tn x) 14 = kup T 14 (tn x) (T 14 (tn x) - 1) 14 := rfl
    refine ⟨h0.c rfl, hc.c rfl, hp.c rfl rfl, ⟨he.1, fun y hy => ?_, fun y => ?_, he.2.2.2⟩, ho.c rfl rfl rfl rfl rfl rfl rfl⟩
    · have hy : tn (T 0 2) ≤ y := hy
      rw [e1, kup_i (by intro q; rw [q] at hy; exact hz (he.2.1 _ hy))]; exact he.2.1 y hy
    · rw [e1]
      by_cases hq : y = tn x
      · rw [hq, kup_eq]; exact hd
      · rw [kup_i hq]; exact he.2.2.1 y
  · rw [kif_f c]; exact h
theorem kc10_f (T : kT) : ∀ n, kfT kc10 T n = kz 10 n T
  | 0 => (kz_0 10 T).symm
  | n + 1 => by
    show kup (kfT kc10 T n) 10 n 0 = _
    rw [kc10_f T n, kz_s]
theorem kc1_f (T : kT) : ∀ n, kfT kc1 T n = kz 1 n T
  | 0 => (kz_0 1 T).symm
  | n + 1 => by
    show kup (kfT kc1 T n) 1 n 0 = _
    rw [kc1_f T n, kz_s]
theorem i_kSt (h : kInv T) : kInv (kSt T) := by
  unfold kSt
  rw [kc10_f, kc1_f]
  obtain ⟨h0, hc, hp, he, ho⟩ := h
  have e1 : t_X2_begin (kz 1 24 (kz 10 40 T)) 0 (-1) 0 0 0 0 1 = kup (kz 1 24 T) 1 0 1 1 := rfl
  have e2 : t_X2_begin (kz 1 24 (kz 10 40 T)) 0 (-1) 0 0 0 0 10 = kz 10 40 T 10 := rfl
  have e3 : ∀ x, kz 1 24 T 1 x = 0 ∨ kz 1 24 T 1 x = T 1 x := fun x => by
    unfold kz
    by_cases hq : 1 = 1 ∧ x < 24
    · exact Or.inl (if_pos hq)
    · exact Or.inr (if_neg hq)
  have e4 : ∀ x, kz 10 40 T 10 x = 0 ∨ kz 10 40 T 10 x = T 10 x := fun x => by
    unfold kz
    by_cases hq : 10 = 10 ∧ x < 40
    · exact Or.inl (if_pos hq)
    · exact Or.inr (if_neg hq)
  refine ⟨h0.c rfl, hc.c rfl, ⟨⟨hp.1.1, hp.1.2.1, hp.1.2.2.1, fun x hx => ?_⟩, fun x => ?_⟩, ⟨⟨he.1.1, he.1.2.1, fun x hx => ?_⟩, he.2.1, he.2.2.1, fun x => ?_⟩, ho.c rfl rfl rfl rfl rfl rfl rfl⟩
  · have hx : tn (T 0 1) ≤ x := hx
    have := hp.1.2.1
    rw [e1, kup_i (by omega)]
    rcases e3 x with z | z
    · exact z
    · rw [z]; exact hp.1.2.2.2 x hx
  · rw [e1]
    by_cases hq : x = 0
    · rw [hq, kup_eq]; exact Or.inr rfl
    · rw [kup_i hq]
      rcases e3 x with z | z
      · exact Or.inl z
      · rw [z]; exact hp.2 x
  · rw [e2]
    rcases e4 x with z | z
    · exact z
    · rw [z]; exact he.1.2.2 x hx
  · rw [e2]
    rcases e4 x with z | z
    · exact Or.inl z
    · rw [z]; exact he.2.2.2 x
theorem i_kOt (h : kInv T) : kInv (kOt T) := by
  unfold kOt
  by_cases c : T 0 8 = -1
  · rw [kif_t c]; exact h
  · rw [kif_f c]
    refine i_kSt ?_
    obtain ⟨h0, hc, hp, he, ho⟩ := h
    exact ⟨h0.c rfl, (by show ¬ ((-1 : Int32) < -1); decide), hp.c rfl rfl, he.c rfl rfl rfl, ho.c rfl rfl rfl rfl rfl rfl rfl⟩
end INV
