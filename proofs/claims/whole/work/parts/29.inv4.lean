/-! WHAT IS REMOVED -/
section INV
variable {T T' : kT}
theorem i_rm {o : Int32} (h : kInv T) (ho : ¬ o < 0) (h60 : tn o < 60) : kInv (kRmT T o) := by
  unfold kRmT
  by_cases c : kGo T (kRmn T o)
  · rw [kif_t c]
    unfold kGoT
    rw [kif_t c]
    obtain ⟨h0, hc, hp, he, hO, hL⟩ := h
    have hh : kIh T := hO.2.2.2.2.1
    rw [kRy_f (S := kup T 0 7 (T 0 7 + kRmn T o)) (o := o) hh rfl rfl (60 - tn o) (by omega)]
    obtain ⟨X, hX⟩ : ∃ X, X = kRy (kup T 0 7 (T 0 7 + kRmn T o)) T o (60 - tn o) := ⟨_, rfl⟩
    have x18 : ∀ j, X 18 j = if tn o ≤ j ∧ j < 60 then kif (kszf T o j = 1) 0 (T 18 j) else T 18 j := fun j => by
      rw [hX]
      show (if 18 = 18 ∧ 60 - (60 - tn o) ≤ j ∧ j < 60 then kif (kszf T o j = 1) 0 (T 18 j) else T 18 j) = _
      by_cases q : tn o ≤ j ∧ j < 60
      · rw [if_pos ⟨rfl, by omega, q.2⟩, if_pos q]
      · rw [if_neg (by omega), if_neg q]
    have x18' : ∀ j, X 18 j = 0 ∨ X 18 j = T 18 j := fun j => by
      rw [x18]
      by_cases q : tn o ≤ j ∧ j < 60
      · rw [if_pos q]
        by_cases q2 : kszf T o j = 1
        · rw [kif_t q2]; exact Or.inl rfl
        · rw [kif_f q2]; exact Or.inr rfl
      · rw [if_neg q]; exact Or.inr rfl
    have hkey : ∀ j, j < 60 → ¬ X 18 j = 0 → ¬ kPo T o 60 (nI j) := fun j hj hx hk => by
      have hge := kPo_ge hh 60 _ hk
      rw [tn60 hj] at hge
      have ht : ¬ T 18 j = 0 := by
        rcases x18' j with z | z
        · exact absurd z hx
        · rw [← z]; exact hx
      rw [x18, if_pos ⟨hge, hj⟩, kif_t (show kszf T o j = 1 from by unfold kszf kb; rw [kif_t ⟨ht, hk⟩])] at hx
      exact hx rfl
    have hgone : ∀ j, j < 60 → ¬ T 18 j = 0 → X 18 j = 0 → kPo T o 60 (nI j) := fun j hj ht hx => by
      rw [x18] at hx
      by_cases q : tn o ≤ j ∧ j < 60
      · rw [if_pos q] at hx
        by_cases q2 : ¬ T 18 j = 0 ∧ kPo T o 60 (nI j)
        · exact q2.2
        · rw [kif_f (show ¬ kszf T o j = 1 from by unfold kszf kb; rw [kif_f q2]; decide)] at hx
          exact absurd hx ht
      · rw [if_neg q] at hx
        exact absurd hx ht
    have a1 : X 0 3 = T 0 3 := by rw [hX]; rfl
    have a3 : X 19 = T 19 := by rw [hX]; rfl
    have a4 : X 20 = T 20 := by rw [hX]; rfl
    have a5 : X 23 = T 23 := by rw [hX]; rfl
    have a6 : X 24 = T 24 := by rw [hX]; rfl
    have a7 : X 25 = T 25 := by rw [hX]; rfl
    have back : ∀ j, ¬ X 18 j = 0 → ¬ T 18 j = 0 := fun j hx => by
      rcases x18' j with z | z
      · exact absurd z hx
      · rw [← z]; exact hx
    have hOX : jO X := by
      refine ⟨⟨by rw [a1]; exact hO.1.1, by rw [a1]; exact hO.1.2.1, by rw [a1]; exact hO.1.2.2.1, fun x hx => ?_⟩, by unfold kI5; rw [a3, a6, a7]; exact hO.2.1, by unfold kI7; rw [a1, a7]; exact hO.2.2.1, by unfold kI9; rw [a7]; exact hO.2.2.2.1, ⟨by rw [a4]; exact hh.1, fun x hx hx2 => ?_⟩, by unfold kIz; rw [a3]; exact hO.2.2.2.2.2.1, fun x => ?_, by rw [a5]; exact hO.2.2.2.2.2.2.2⟩
      · rw [a1] at hx
        rcases x18' x with z | z
        · exact z
        · rw [z]; exact hO.1.2.2.2 x hx
      · rw [a4]
        have ht := back x hx2
        have z := hh.2 x hx ht
        refine ⟨?_, z.2⟩
        unfold kCn kO
        rw [a3]
        refine ⟨⟨z.1.1.1, z.1.1.2.1, fun hg => ?_⟩, z.1.2⟩
        have hx60 : x < 60 := by
          have := hO.1.2.2.1
          exact Nat.lt_of_lt_of_le (Nat.not_le.mp fun q => ht (hO.1.2.2.2 x q)) this
        have k := hgone (tn (T 20 x)) (by omega) z.1.1.2.2 hg
        rw [← nI_tn z.1.1.1] at k
        have hkO : kO T (nI x) := ⟨nI_pos (by omega), nI_ge (a := x) (b := 60) hx60 (by decide), by rw [tn60 hx60]; exact ht⟩
        have k61 : kPo T o 61 (nI x) := Or.inr ⟨hkO, by rw [tn60 hx60]; exact k⟩
        have k60 := (kPo_dep hh ho x 61 60 (nI x) (by rw [tn60 hx60]; exact Nat.le_refl _) hkO (by rw [tn60 hx60]; omega) (by rw [tn60 hx60]; omega)).mp k61
        exact hkey x hx60 hx2 k60
      · rw [a3]
        refine ⟨?_, (hO.2.2.2.2.2.2.1 x).2⟩
        rcases x18' x with z | z
        · exact Or.inl z
        · rw [z]; exact (hO.2.2.2.2.2.2.1 x).1
    have hLX : jL X := by
      rw [jL_iff hOX]
      rw [jL_iff hO] at hL
      intro x hx
      have hx' : kCn T x := by
        unfold kCn kO at hx ⊢
        rw [a3] at hx
        exact ⟨⟨hx.1.1, hx.1.2.1, back _ hx.1.2.2⟩, hx.2⟩
      have hl := hL x hx'
      rw [a5]
      refine Int.le_trans (isum_mono (fun j hj => ?_)) hl
      show (kbf X x j).toInt ≤ (kbf T x j).toInt
      by_cases hi : kIn X (nI j) x
      · have hi' : kIn T (nI j) x := by
          unfold kIn kO at hi ⊢
          rw [a4] at hi
          exact ⟨⟨hi.1.1, hi.1.2.1, back _ hi.1.2.2⟩, hi.2⟩
        unfold kbf
        rw [kif_t hi, kif_t hi']
        unfold kBt
        rw [a3, a5, a7]
        exact Int.le_refl _
      · have e : (kbf X x j).toInt = 0 := by unfold kbf; rw [kif_f hi]; decide
        rw [e]
        exact (jbf hO x j).1
    have hr : kInv X := ⟨h0.c (by rw [hX]; rfl), hc.c (by rw [hX]; rfl), hp.c (by rw [hX]; rfl) (by rw [hX]; rfl), he.c (by rw [hX]; rfl) (by rw [hX]; rfl) (by rw [hX]; rfl), hOX, hLX⟩
    rw [hX] at hr
    exact hr
  · rw [kif_f c]; exact h
theorem i_remove {p o : Int32} (h : kInv T) : kInv (t_remove T p o) := by
  unfold t_remove
  by_cases c : (kP T p ∧ kO T o) ∧ kRmd T p o
  · rw [kif_t c]
    exact i_kOt (i_rm h c.1.2.1 (by have := kCn_lt h.2.2.2.2.1 c.1.2; have := h.2.2.2.2.1.1.2.2.1; omega))
  · rw [kif_f c]; exact h
end INV
