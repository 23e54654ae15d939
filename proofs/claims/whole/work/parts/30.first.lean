/-! THE FIRST STATE; THE QUEUES OF BOTH -/
theorem T0_eq : kT0 = mT0 := by
  unfold mT0 kSt
  rw [kc10_f, kc1_f]
  funext f i
  by_cases h : f < 26 ∧ i < 9
  · have z : ∀ f, f < 26 → ∀ i, i < 9 → kT0 f i = (kup (kup (kup (kup (kup (kup (t_X2_begin (kz 1 24 (kz 10 40 (kup (kup zT 0 8 (-1)) 0 1 1))) 0 (-1) 0 0 0 0) 0 3 1) 18 0 1) 19 0 1) 20 0 (-1)) 23 0 200) 24 0 50) f i := by decide +kernel
    exact z f h.1 i h.2
  · have z1 : ∀ (S : kT) (a b : Nat) (v : Int32), a < 26 → b < 9 → kup S a b v f i = S f i := fun S a b v ha hb => by
      unfold kup
      rw [if_neg (by omega)]
    have z2 : ∀ (S : kT) (a n : Nat), S f i = 0 → kz a n S f i = 0 := fun S a n hs => by
      unfold kz
      by_cases q : f = a ∧ i < n
      · rw [if_pos q]
      · rw [if_neg q]; exact hs
    unfold kT0 t_X1_begin t_X2_begin
    simp only [z1, Nat.reduceLT]
    rw [z2 _ _ _ (z2 _ _ _ (by simp only [z1, Nat.reduceLT]; rfl))]
    rfl
theorem f0 (f x : Nat) (h : 10 ≤ f) : kT0 f x = if x = 0 then (if f = 18 then 1 else if f = 19 then 1 else if f = 20 then -1 else if f = 23 then 200 else if f = 24 then 50 else 0) else 0 := by
  unfold kT0 t_X1_begin t_X2_begin
  by_cases q : x = 0
  · subst q
    rw [if_pos rfl]
    by_cases h2 : f < 26
    · have z : ∀ f, f < 26 → 10 ≤ f → (kup (kup (kup (kup (kup (kup (kup (kup (kup (kup (kup (kup (kup (kup (kup (kup (kup (kup (kup zT 1 0 1) 2 0 (-1)) 3 0 0) 4 0 0) 5 0 0) 6 0 0) 7 0 0) 8 0 0) 9 0 0) 0 1 1) 18 0 1) 19 0 1) 20 0 (-1)) 21 0 0) 22 0 0) 23 0 200) 24 0 50) 0 3 1) 0 8 (-1)) f 0 = if f = 18 then 1 else if f = 19 then 1 else if f = 20 then -1 else if f = 23 then 200 else if f = 24 then 50 else 0 := by decide +kernel
      exact z f h2 h
    · have z1 : ∀ (S : kT) (a b : Nat) (v : Int32), a < 26 → kup S a b v f 0 = S f 0 := fun S a b v ha => by
        unfold kup
        rw [if_neg (by omega)]
      simp only [z1, Nat.reduceLT]
      rw [if_neg (by omega), if_neg (by omega), if_neg (by omega), if_neg (by omega), if_neg (by omega)]
      rfl
  · rw [if_neg q]
    have z1 : ∀ (S : kT) (a : Nat) (v : Int32), kup S a 0 v f x = S f x := fun S a v => kup_i q
    have z2 : ∀ (S : kT) (b : Nat) (v : Int32), kup S 0 b v f x = S f x := fun S b v => kup_f (by omega)
    simp only [z1, z2]
    rfl
theorem inv0 : kInv kT0 := by
  have r1 : ∀ x, kT0 1 x = if x = 0 then 1 else 0 := fun x => by
    by_cases q : x = 0
    · rw [q]; rfl
    · rw [if_neg q]
      show kup zT 1 0 1 1 x = 0
      rw [kup_i q]; rfl
  have hO : jO kT0 := by
    refine ⟨⟨by decide, by decide, by decide, fun x hx => ?_⟩, fun x => ?_, fun x hx => ?_, fun x => ?_, ⟨by decide, fun x hx hx2 => ?_⟩, by unfold kIz; decide, fun x => ?_, fun x => ?_⟩
    · have : tn (kT0 0 3) = 1 := by decide
      rw [f0 _ _ (by decide), if_neg (by omega)]
    · rw [f0 19 _ (by decide), f0 24 _ (by decide), f0 25 _ (by decide)]
      by_cases q : x = 0
      · simp [q]
      · simp [q]
    · rw [f0 25 _ (by decide)]
      by_cases q : x = 0 <;> simp [q]
    · rw [f0 25 _ (by decide)]
      by_cases q : x = 0
      · rw [if_pos q]; decide
      · rw [if_neg q]; decide
    · rw [f0 18 _ (by decide), if_neg (by omega)] at hx2
      exact absurd rfl hx2
    · rw [f0 18 _ (by decide), f0 19 _ (by decide)]
      by_cases q : x = 0
      · simp [q]
      · simp [q]
    · rw [f0 23 _ (by decide)]
      by_cases q : x = 0
      · rw [if_pos q]; decide
      · rw [if_neg q]; decide
  refine ⟨⟨by decide, by decide⟩, by unfold kIc; decide, ⟨⟨by decide, by decide, by decide, fun x hx => ?_⟩, fun x => ?_⟩, ⟨⟨by decide, by decide, fun x _ => ?_⟩, fun x _ => ?_, fun x => ?_, fun x => ?_⟩, hO, ?_⟩
  · have : tn (kT0 0 1) = 1 := by decide
    rw [r1, if_neg (by omega)]
  · rw [r1]
    by_cases q : x = 0 <;> simp [q]
  · rw [f0 10 _ (by decide)]
    by_cases q : x = 0 <;> simp [q]
  · rw [f0 14 _ (by decide)]
    by_cases q : x = 0 <;> simp [q]
  · rw [f0 14 _ (by decide)]
    by_cases q : x = 0
    · rw [if_pos q]; decide
    · rw [if_neg q]; decide
  · rw [f0 10 _ (by decide)]
    by_cases q : x = 0 <;> simp [q]
  · rw [jL_iff hO]
    intro x hx
    have z : lb kT0 x = 0 := isum_zero (fun j hj => by
      unfold kbf
      rw [kif_f]
      · decide
      · intro w
        have w1 := w.1.2.2
        have w2 := w.2
        rw [tn60 hj, f0 _ _ (by decide)] at w1 w2
        by_cases q : j = 0
        · rw [if_pos q] at w2
          exact hx.1.1 (by rw [← w2]; decide)
        · rw [if_neg q] at w1
          exact absurd rfl w1)
    rw [z]
    exact (j23 hO _).1
