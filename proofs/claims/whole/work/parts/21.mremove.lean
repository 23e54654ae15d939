theorem kO.n1 {T : kT} {o : Int32} (hh : kIh T) (h : kO T o) (h0 : ¬ o = 0) : kCn T (T 20 (tn o)) ∧ tn (T 20 (tn o)) < tn o := h.n0 hh (fun z => h0 (kle0 h.1 z))
theorem kPo_m1 {T : kT} {o : Int32} (ho : ¬ o < 0) : ∀ n, ¬ kPo T o n (-1)
  | 0, h => ho (by have e : (-1 : Int32) = o := h; rw [← e]; decide)
  | n + 1, h => by
    rcases h with h | h
    · exact ho (by rw [← h]; decide)
    · exact h.1.1 (by decide)
theorem kPo_dep {T : kT} {o : Int32} (hh : kIh T) (ho : ¬ o < 0) : ∀ (d n m : Nat) (a : Int32), tn a ≤ d → kO T a → tn a < n → tn a < m → (kPo T o n a ↔ kPo T o m a)
  | d, 0, _, _, _, _, h, _ => absurd h (by omega)
  | d, _ + 1, 0, _, _, _, _, h => absurd h (by omega)
  | d, n + 1, m + 1, a, hd, ha, hn, hm => by
    show (a = o ∨ (kO T a ∧ kPo T o n (T 20 (tn a)))) ↔ (a = o ∨ (kO T a ∧ kPo T o m (T 20 (tn a))))
    rcases Nat.eq_zero_or_pos (tn a) with z | z
    · rw [z, hh.1]
      exact ⟨fun q => q.elim Or.inl (fun w => absurd w.2 (kPo_m1 ho n)), fun q => q.elim Or.inl (fun w => absurd w.2 (kPo_m1 ho m))⟩
    · obtain ⟨h1, h2⟩ := hh.2 (tn a) z ha.2.2
      match d, hd with
      | 0, hd => exact absurd z (by omega)
      | d + 1, hd =>
        have k := kPo_dep hh ho d n m (T 20 (tn a)) (by omega) h1.1 (by omega) (by omega)
        exact ⟨fun q => q.elim Or.inl (fun w => Or.inr ⟨w.1, k.mp w.2⟩), fun q => q.elim Or.inl (fun w => Or.inr ⟨w.1, k.mpr w.2⟩)⟩
theorem kPo_cong {T T' : kT} {o : Int32} (hh : kIh T) {d : Nat} (h : ∀ j, j ≤ d → T' 18 j = T 18 j ∧ T' 20 j = T 20 j) : ∀ (n : Nat) (a : Int32), tn a ≤ d → (kPo T' o n a ↔ kPo T o n a)
  | 0, _, _ => Iff.rfl
  | n + 1, a, ha => by
    show (a = o ∨ (kO T' a ∧ kPo T' o n (T' 20 (tn a)))) ↔ (a = o ∨ (kO T a ∧ kPo T o n (T 20 (tn a))))
    have e1 : kO T' a ↔ kO T a := by unfold kO; rw [(h (tn a) ha).1]
    rw [e1, (h (tn a) ha).2]
    by_cases ho : kO T a
    · have k : kPo T' o n (T 20 (tn a)) ↔ kPo T o n (T 20 (tn a)) := by
        refine kPo_cong hh h n _ ?_
        rcases Nat.eq_zero_or_pos (tn a) with z | z
        · rw [z, hh.1]
          exact Nat.zero_le _
        · have h2 := (hh.2 (tn a) z ho.2.2).2
          omega
      rw [k]
    · exact ⟨fun q => q.elim Or.inl (fun w => absurd w.1 ho), fun q => q.elim Or.inl (fun w => absurd w.1 ho)⟩
theorem kPo_ge {T : kT} {o : Int32} (hh : kIh T) : ∀ (n : Nat) (a : Int32), kPo T o n a → tn o ≤ tn a
  | 0, a, h => by have e : a = o := h; rw [e]; exact Nat.le_refl _
  | n + 1, a, h => by
    rcases h with h | h
    · rw [h]; exact Nat.le_refl _
    · have k := kPo_ge hh n _ h.2
      rcases Nat.eq_zero_or_pos (tn a) with z | z
      · rw [z, hh.1] at k
        have e : tn (-1 : Int32) = 0 := by decide
        omega
      · have h2 := (hh.2 (tn a) z h.1.2.2).2
        omega
noncomputable def kg (T : kT) (o : Int32) (g : Nat → Int32) (i : Nat) : Nat → Int32 := fun j => if j < i then kszf T o j else g j
theorem kg_0 (T : kT) (o : Int32) (g : Nat → Int32) : kg T o g 0 = g := by
  funext j
  unfold kg
  rw [if_neg (by omega)]
theorem kg_s {T : kT} {o : Int32} {g : Nat → Int32} {i : Nat} {v : Int32} (h : v = kszf T o i) : upd (kg T o g i) i v = kg T o g (i + 1) := by
  funext j
  unfold upd kg
  by_cases hj : j = i
  · subst hj
    rw [if_pos rfl, if_pos (by omega), h]
  · rw [if_neg hj]
    by_cases h2 : j < i
    · rw [if_pos h2, if_pos (by omega)]
    · rw [if_neg h2, if_neg (by omega)]
theorem kg_at {T : kT} {o : Int32} {g : Nat → Int32} {i j : Nat} (h : j < i) : kg T o g i j = kszf T o j := by unfold kg; rw [if_pos h]
theorem kgo_step {T : kT} {o : Int32} {g : Nat → Int32} {i : Nat} (hh : kIh T) (ho : ¬ o < 0) (hi : i < 60) : kszf T o i = kb (¬ T 18 i = 0 ∧ (nI i = o ∨ (¬ T 20 i < 0 ∧ ¬ kg T o g i (tn (T 20 i)) = 0))) := by
  unfold kszf
  refine kb_c ?_
  by_cases ht : T 18 i = 0
  · exact ⟨fun z => absurd ht z.1, fun z => absurd ht z.1⟩
  · have hk : kO T (nI i) := by
      unfold kO
      rw [tn_nI (by omega)]
      exact ⟨nI_pos (by omega), nI_ge (a := i) (b := 60) hi (by decide), ht⟩
    have e : kPo T o 60 (nI i) ↔ (nI i = o ∨ kPo T o 59 (T 20 i)) := by
      show (nI i = o ∨ (kO T (nI i) ∧ kPo T o 59 (T 20 (tn (nI i))))) ↔ _
      rw [tn_nI (by omega)]
      exact ⟨fun q => q.elim Or.inl (fun w => Or.inr w.2), fun q => q.elim Or.inl (fun w => Or.inr ⟨hk, w⟩)⟩
    rw [e]
    have e2 : kPo T o 59 (T 20 i) ↔ (¬ T 20 i < 0 ∧ ¬ kg T o g i (tn (T 20 i)) = 0) := by
      rcases Nat.eq_zero_or_pos i with z | z
      · subst z
        rw [hh.1]
        exact ⟨fun q => absurd q (kPo_m1 ho 59), fun q => absurd (by decide) q.1⟩
      · obtain ⟨h1, h2⟩ := hh.2 i z ht
        rw [kg_at h2]
        unfold kszf
        rw [kb_0, ← nI_tn h1.1.1]
        have k := kPo_dep hh ho 60 59 60 (T 20 i) (by omega) h1.1 (by omega) (by omega)
        exact ⟨fun q => ⟨h1.1.1, fun w => w ⟨h1.1.2.2, k.mp q⟩⟩, fun q => k.mpr (knn q.2).2⟩
    exact ⟨fun q => ⟨ht, q.2.elim Or.inl (fun w => Or.inr (e2.mp w))⟩, fun q => ⟨ht, q.2.elim Or.inl (fun w => Or.inr (e2.mpr w))⟩⟩
theorem kin_h {T : kT} {i : Nat} (hh : kIh T) (ht : ¬ T 18 i = 0) (h0 : ¬ T 20 i < 0) : vp_in (T 20 i) 60 := by
  rcases Nat.eq_zero_or_pos i with z | z
  · subst z
    exact absurd (by rw [hh.1]; decide) h0
  · exact (hh.2 i z ht).1.1.in
theorem kszf_n {T : kT} {o : Int32} (hI : kI3 T) : ksum (kszf T o) (tn (T 0 3)) = ksum (kszf T o) 60 :=
  (ksum_tail hI.2.2.1 (fun i h1 _ => by unfold kszf; rw [kb_f]; exact fun z => z.1 (hI.2.2.2 i h1))).symm
noncomputable def kRx (S T : kT) (o : Int32) (i : Nat) : kT := fun f j => if f = 18 ∧ j < i then kif (kszf T o j = 1) 0 (S f j) else S f j
theorem kRx_0 (S T : kT) (o : Int32) : kRx S T o 0 = S := by
  funext f j
  unfold kRx
  rw [if_neg (fun z => by omega)]
theorem kRx_s {S T : kT} {o : Int32} {i : Nat} {v : Int32} (h : v = kif (kszf T o i = 1) 0 (S 18 i)) : kup (kRx S T o i) 18 i v = kRx S T o (i + 1) := by
  funext f j
  unfold kup kRx
  by_cases hf : f = 18
  · subst hf
    by_cases hj : j = i
    · subst hj
      rw [if_pos ⟨rfl, rfl⟩, if_pos ⟨rfl, by omega⟩, h]
    · rw [if_neg (fun z => hj z.2)]
      by_cases h2 : j < i
      · rw [if_pos ⟨rfl, h2⟩, if_pos ⟨rfl, by omega⟩]
      · rw [if_neg (fun z => h2 z.2), if_neg (fun z => by omega)]
  · rw [if_neg (fun z => hf z.1), if_neg (fun z => hf z.1), if_neg (fun z => hf z.1)]
theorem kRx_i {S T : kT} {o : Int32} {i : Nat} : kRx S T o i 18 i = S 18 i := by
  unfold kRx
  rw [if_neg (fun z => by omega)]
noncomputable def kRy (S T : kT) (o : Int32) (m : Nat) : kT := fun f j => if f = 18 ∧ 60 - m ≤ j ∧ j < 60 then kif (kszf T o j = 1) 0 (S f j) else S f j
theorem kRy_f {S T : kT} {o : Int32} (hh : kIh T) (h18 : S 18 = T 18) (h20 : S 20 = T 20) : ∀ m, m ≤ 60 → kfT (krtg o) S m = kRy S T o m
  | 0, _ => by
    funext f j
    show S f j = _
    unfold kRy
    rw [if_neg (fun z => by omega)]
  | m + 1, hm => by
    show krtg o (kfT (krtg o) S m) m = _
    rw [kRy_f hh h18 h20 m (by omega)]
    unfold krtg
    have e18 : ∀ j, j ≤ 59 - m → kRy S T o m 18 j = T 18 j := fun j hj => by
      unfold kRy
      rw [if_neg (fun z => by omega), h18]
    have e20 : ∀ j, kRy S T o m 20 j = T 20 j := fun j => by
      unfold kRy
      rw [if_neg (fun z => absurd z.1 (by decide)), h20]
    have ec := kPo_cong (o := o) hh (T' := kRy S T o m) (d := 59 - m) (fun j hj => ⟨e18 j hj, e20 j⟩) 60 (nI (59 - m)) (by rw [tn_nI (by omega)]; exact Nat.le_refl _)
    have hP : (¬ kRy S T o m 18 (59 - m) = 0 ∧ kPo (kRy S T o m) o 60 (nI (59 - m))) ↔ kszf T o (59 - m) = 1 := by
      rw [e18 _ (Nat.le_refl _), ec]
      unfold kszf
      constructor
      · intro z; exact kb_t z
      · intro z
        exact knn (fun q => by rw [kb_f q] at z; exact absurd z (by decide))
    rw [kif_c hP]
    funext f j
    by_cases hz : kszf T o (59 - m) = 1
    · rw [kif_t hz]
      unfold kup kRy
      by_cases hf : f = 18
      · subst hf
        by_cases hj : j = 59 - m
        · subst hj
          rw [if_pos ⟨rfl, rfl⟩, if_pos ⟨rfl, by omega, by omega⟩, kif_t hz]
        · rw [if_neg (fun z => hj z.2)]
          by_cases h2 : 60 - m ≤ j ∧ j < 60
          · rw [if_pos ⟨rfl, h2⟩, if_pos ⟨rfl, by omega, h2.2⟩]
          · rw [if_neg (fun z => h2 z.2), if_neg (fun z => by omega)]
      · rw [if_neg (fun z => hf z.1), if_neg (fun z => hf z.1), if_neg (fun z => hf z.1)]
    · rw [kif_f hz]
      unfold kRy
      by_cases hf : f = 18
      · subst hf
        by_cases hj : j = 59 - m
        · subst hj
          rw [if_neg (fun z => by omega), if_pos ⟨rfl, by omega, by omega⟩, kif_f hz]
        · by_cases h2 : 60 - m ≤ j ∧ j < 60
          · rw [if_pos ⟨rfl, h2⟩, if_pos ⟨rfl, by omega, h2.2⟩]
          · rw [if_neg (fun z => h2 z.2), if_neg (fun z => by omega)]
      · rw [if_neg (fun z => hf z.1), if_neg (fun z => hf z.1)]
theorem kRx_eq {S T : kT} {o : Int32} (hh : kIh T) (hI : kI3 T) (h18 : S 18 = T 18) (h20 : S 20 = T 20) : kRx S T o (tn (T 0 3)) = kfT (krtg o) S (60 - tn o) := by
  rw [kRy_f hh h18 h20 _ (by omega)]
  funext f j
  unfold kRx kRy
  by_cases hf : f = 18
  · subst hf
    have a1 := hI.2.2.1
    have nz : ∀ j, ¬ kszf T o j = 1 ∨ (¬ T 18 j = 0 ∧ kPo T o 60 (nI j)) := fun j => by
      by_cases q : ¬ T 18 j = 0 ∧ kPo T o 60 (nI j)
      · exact Or.inr q
      · left; unfold kszf; rw [kb_f q]; decide
    by_cases hj : j < tn (T 0 3)
    · rw [if_pos ⟨rfl, hj⟩]
      by_cases h2 : 60 - (60 - tn o) ≤ j ∧ j < 60
      · rw [if_pos ⟨rfl, h2⟩]
      · rw [if_neg (fun z => h2 z.2)]
        rcases nz j with q | q
        · exact kif_f q
        · have k := kPo_ge hh 60 _ q.2
          rw [tn_nI (by omega)] at k
          exact absurd ⟨by omega, by omega⟩ h2
    · rw [if_neg (fun z => hj z.2)]
      have z0 := hI.2.2.2 j (by omega)
      by_cases h2 : 60 - (60 - tn o) ≤ j ∧ j < 60
      · rw [if_pos ⟨rfl, h2⟩]
        rcases nz j with q | q
        · exact (kif_f q).symm
        · exact absurd z0 q.1
      · rw [if_neg (fun z => h2 z.2)]
  · rw [if_neg (fun z => hf z.1), if_neg (fun z => hf z.1)]
theorem krm_z {T : kT} {p : Int32} (hh : kIh T) {o : Int32} (h : o = 0) : ¬ kRmd T p o := by
  subst h
  intro z
  exact kO.z hh z.1
set_option maxHeartbeats 4000000 in
set_option maxRecDepth 100000 in
theorem c_X4_remove (l : Launch) (D : va_G) (G : Nat → ClassId) (M : Nat → Nat) (hL : mL M) (T N : kT) (r g : Nat → Int32) (p : Int32) (o : Int32) (hI1 : kI1 T) (hI2 : kI2 T) (hI3 : kI3 T) (hIc : kIc T) (hIh : kIh T) (hIb : kIb T) : kM l yX4_remove cX4_remove 5 (some .int) 2 46 (mPc D G M T N r g [.ref (M 0), .int p, .int o]) (mQi D G M (a_remove T p o) (t_remove T p o) N r (kif (kP T p ∧ kO T o ∧ kRmd T p o) (kg T o g (tn (T 0 3))) g)) (mA M) := by
  refine kBegin (by decide) (Nat.le_of_ble_eq_true rfl) ?_
  intro zp ze zs zm zargs zbelow zmeth zc hC hr hlk hB ls hl
  obtain ⟨hP, hK⟩ := hB
  have hW : mWd D G M (mA M) zs.heap T N r g zs.heap [] := mWd.start hL hP
  have hl : lv_has ls 5 [(0, .ref (M 0)), (1, .int p), (2, .int o)] := hl
  refine lv_aload_n hC.1 hC.2.1 dX4_remove_0 rfl (lv_at hl 0 rfl) ?_
  refine lv_iload_n hC.1 hC.2.1 dX4_remove_1 rfl (lv_at hl 1 rfl) ?_
  refine keSi (rest := []) (mcV 0 hC hK hW (c_X4_isProcess l D G M hL T N r g p hI1) (kgoodV tm_X4_103 ti_yX4_isProcess te_yX4_isProcess tz_X4 tc_yX4_isProcess) mw_m rfl ⟨rfl, by decide, by decide, (show Option.map _ (parseMethodDescriptor yX4_isProcess.desc) = some 1 from by decide +kernel)⟩ ⟨Nat.le_of_ble_eq_true rfl, Nat.le_of_ble_eq_true rfl⟩ hl.1 rfl (Nat.le_of_ble_eq_true rfl) ⟨Nat.le_refl _, Nat.le_refl _⟩ dX4_remove_2) ?_
  refine kif_eq (tgt := 16) hC.1 hC.2.1 dX4_remove_5 (by decide) (fun c_5 => ?_) (fun c_5 => ?_)
  · refine lv_ldc hC.1 hC.2.1 hC.2.2.2.1 (hC.2.2.2.2 _ (kt_in tk_X4_107 rfl)) dX4_remove_16 ?_
    exact mkrI hC hr hlk hW (by simp (config := {decide := true}) only [kif_true, kif_false, kb, kup_eq, kup_f, kup_i, not_true_eq_false, not_false_eq_true, and_true, true_and, and_false, false_and, and_self, or_true, true_or, or_false, false_or, a_remove, t_remove, c_5]) (by simp (config := {decide := true}) only [kif_true, kif_false, kb, kup_eq, kup_f, kup_i, not_true_eq_false, not_false_eq_true, and_true, true_and, and_false, false_and, and_self, or_true, true_or, or_false, false_or, a_remove, t_remove, c_5]) rfl rfl (kif_f (fun z => c_5 z.1)).symm dX4_remove_18
  · refine lv_aload_n hC.1 hC.2.1 dX4_remove_8 rfl (lv_at hl 0 rfl) ?_
    refine lv_iload_n hC.1 hC.2.1 dX4_remove_9 rfl (lv_at hl 2 rfl) ?_
    refine keSi (rest := []) (mcV 0 hC hK hW (c_X4_isObject l D G M hL T N r g o hI3) (kgoodV tm_X4_172 ti_yX4_isObject te_yX4_isObject tz_X4 tc_yX4_isObject) mw_m rfl ⟨rfl, by decide, by decide, (show Option.map _ (parseMethodDescriptor yX4_isObject.desc) = some 1 from by decide +kernel)⟩ ⟨Nat.le_of_ble_eq_true rfl, Nat.le_of_ble_eq_true rfl⟩ hl.1 rfl (Nat.le_of_ble_eq_true rfl) ⟨Nat.le_refl _, Nat.le_refl _⟩ dX4_remove_10) ?_
    refine kif_ne (tgt := 19) hC.1 hC.2.1 dX4_remove_13 (by decide) (fun c_13 => ?_) (fun c_13 => ?_)
    · refine lv_iload_n hC.1 hC.2.1 dX4_remove_19 rfl (lv_at hl 2 rfl) ?_
      refine lv_if_eq (tgt := 51) hC.1 hC.2.1 dX4_remove_20 (by decide) (fun c_20 => ?_) (fun c_20 => ?_)
      · refine lv_ldc hC.1 hC.2.1 hC.2.2.2.1 (hC.2.2.2.2 _ (kt_in tk_X4_135 rfl)) dX4_remove_51 ?_
        exact mkrI hC hr hlk hW (by rw [a_remove]; simp (config := {decide := true}) only [kif_true, kif_false, kb, kup_eq, kup_f, kup_i, not_true_eq_false, not_false_eq_true, and_true, true_and, and_false, false_and, and_self, or_true, true_or, or_false, false_or, c_5, c_13, krm_z hIh c_20]) (by rw [t_remove]; simp (config := {decide := true}) only [kif_true, kif_false, kb, kup_eq, kup_f, kup_i, not_true_eq_false, not_false_eq_true, and_true, true_and, and_false, false_and, and_self, or_true, true_or, or_false, false_or, c_5, c_13, krm_z hIh c_20]) rfl rfl (kif_f (fun z => krm_z hIh c_20 z.2.2)).symm dX4_remove_53
      · have hh1 := kO.n1 hIh c_13 c_20
        have hh := hh1.1.1.in
        refine lv_aload_n hC.1 hC.2.1 dX4_remove_23 rfl (lv_at hl 0 rfl) ?_
        refine lv_iload_n hC.1 hC.2.1 dX4_remove_24 rfl (lv_at hl 1 rfl) ?_
        refine lv_aload_n hC.1 hC.2.1 dX4_remove_25 rfl (lv_at hl 0 rfl) ?_
        refine mg4 hC hK hW 23 (v := .ref (M 18)) rfl (by decide) rfl tf_X4_62 dX4_remove_26 ?_
        refine lv_iload_n hC.1 hC.2.1 dX4_remove_29 rfl (lv_at hl 2 rfl) ?_
        refine mai hC hK hW 18 (by decide) rfl (i := o) c_13.in dX4_remove_30 ?_
        refine keSi (rest := []) (mcV 0 hC hK hW (c_X4_canRead l D G M hL T N r g p (T 20 (tn o)) c_5.in hh) (kgoodV tm_X4_165 ti_yX4_canRead te_yX4_canRead tz_X4 tc_yX4_canRead) mw_m rfl ⟨rfl, by decide, by decide, (show Option.map _ (parseMethodDescriptor yX4_canRead.desc) = some 2 from by decide +kernel)⟩ ⟨Nat.le_of_ble_eq_true rfl, Nat.le_of_ble_eq_true rfl⟩ hl.1 rfl (Nat.le_of_ble_eq_true rfl) ⟨Nat.le_refl _, Nat.le_refl _⟩ dX4_remove_31) ?_
        refine kif_eq (tgt := 51) hC.1 hC.2.1 dX4_remove_34 (by decide) (fun c_34 => ?_) (fun c_34 => ?_)
        · refine lv_ldc hC.1 hC.2.1 hC.2.2.2.1 (hC.2.2.2.2 _ (kt_in tk_X4_135 rfl)) dX4_remove_51 ?_
          exact mkrI hC hr hlk hW (by simp (config := {decide := true}) only [kif_true, kif_false, kb, kup_eq, kup_f, kup_i, not_true_eq_false, not_false_eq_true, and_true, true_and, and_false, false_and, and_self, or_true, true_or, or_false, false_or, a_remove, t_remove, c_5, c_13, show ¬ kRmd T p o from fun z => c_34 z.2.1]) (by simp (config := {decide := true}) only [kif_true, kif_false, kb, kup_eq, kup_f, kup_i, not_true_eq_false, not_false_eq_true, and_true, true_and, and_false, false_and, and_self, or_true, true_or, or_false, false_or, a_remove, t_remove, c_5, c_13, show ¬ kRmd T p o from fun z => c_34 z.2.1]) rfl rfl (kif_f (fun z => c_34 z.2.2.2.1)).symm dX4_remove_53
        · refine lv_aload_n hC.1 hC.2.1 dX4_remove_37 rfl (lv_at hl 0 rfl) ?_
          refine lv_iload_n hC.1 hC.2.1 dX4_remove_38 rfl (lv_at hl 1 rfl) ?_
          refine lv_aload_n hC.1 hC.2.1 dX4_remove_39 rfl (lv_at hl 0 rfl) ?_
          refine mg4 hC hK hW 23 (v := .ref (M 18)) rfl (by decide) rfl tf_X4_62 dX4_remove_40 ?_
          refine lv_iload_n hC.1 hC.2.1 dX4_remove_43 rfl (lv_at hl 2 rfl) ?_
          refine mai hC hK hW 18 (by decide) rfl (i := o) c_13.in dX4_remove_44 ?_
          refine keSi (rest := []) (mcV 0 hC hK hW (c_X4_canWrite l D G M hL T N r g p (T 20 (tn o)) c_5.in hh) (kgoodV tm_X4_169 ti_yX4_canWrite te_yX4_canWrite tz_X4 tc_yX4_canWrite) mw_m rfl ⟨rfl, by decide, by decide, (show Option.map _ (parseMethodDescriptor yX4_canWrite.desc) = some 2 from by decide +kernel)⟩ ⟨Nat.le_of_ble_eq_true rfl, Nat.le_of_ble_eq_true rfl⟩ hl.1 rfl (Nat.le_of_ble_eq_true rfl) ⟨Nat.le_refl _, Nat.le_refl _⟩ dX4_remove_45) ?_
          refine kif_ne (tgt := 54) hC.1 hC.2.1 dX4_remove_48 (by decide) (fun c_48 => ?_) (fun c_48 => ?_)
          · refine lv_iconst (v := 0) hC.1 hC.2.1 dX4_remove_54 (by decide) ?_
            refine lv_istore_n (lv' := [(3, .int 0), (0, .ref (M 0)), (1, .int p), (2, .int o)]) hC.1 hC.2.1 dX4_remove_55 rfl hl (by decide) rfl (fun ls hl => ?_)
            have hW : mWd D G M (mA M) zs.heap T N r (kg T o g 0) zs.heap [] := by rw [kg_0]; exact hW
            refine lv_iconst (v := 0) hC.1 hC.2.1 dX4_remove_56 (by decide) ?_
            refine lv_istore (lv' := [(4, .int 0), (3, .int 0), (0, .ref (M 0)), (1, .int p), (2, .int o)]) hC.1 hC.2.1 dX4_remove_57 hl (by decide) rfl (fun ls hl => ?_)
            have loop_59 : ∀ (zf i : Nat), i + zf = tn (T 0 3) →  ∀ (H : Heap) (locs : List Loc), mWd D G M (mA M) zs.heap T N r (kg T o g i) H locs → ∀ ls : Array Slot, lv_has ls 5 [(4, .int (nI i)), (3, .int (ksum (kszf T o) i)), (0, .ref (M 0)), (1, .int p), (2, .int o)] → W zp l ze ({ frames := 2, cells := 0, slots := 0, locals := 46 } : Room) zs zm zargs zbelow zmeth zc H locs 0 0 (MQ zbelow (mQi D G M (a_remove T p o) (t_remove T p o) N r (kif (kP T p ∧ kO T o ∧ kRmd T p o) (kg T o g (tn (T 0 3))) g)) zargs zs 0 0 (mA M)) (F0 zm 59 ls []) := by
              intro zf
              induction zf with
              | zero =>
                intro i  hi  H locs hW ls hl
                have hi0 : i = tn (T 0 3) := by omega
                have hb2 := (tn_nat hI3.1).2
                have hb3 := hI3.2.2.1
                refine lv_iload hC.1 hC.2.1 dX4_remove_59 (lv_at hl 0 rfl) ?_
                refine lv_aload_n hC.1 hC.2.1 dX4_remove_61 rfl (lv_at hl 2 rfl) ?_
                refine mg4 hC hK hW 18 (v := .int (T 0 3)) rfl (by decide) rfl tf_X4_90 dX4_remove_62 ?_
                refine lv_icmp_ge (tgt := 145) hC.1 hC.2.1 dX4_remove_65 (by decide) (fun c_65 => ?_) (fun c_65 => ?_)
                · rw [hi0, kszf_n hI3] at hl
                  rw [hi0] at hW
                  refine lv_aload_n hC.1 hC.2.1 dX4_remove_145 rfl (lv_at hl 2 rfl) ?_
                  refine lv_iload_n hC.1 hC.2.1 dX4_remove_146 rfl (lv_at hl 1 rfl) ?_
                  refine lv_iconst (v := 1) hC.1 hC.2.1 dX4_remove_147 (by decide) ?_
                  refine lv_iadd hC.1 hC.2.1 dX4_remove_148 ?_
                  refine meQi (rest := []) (mcV 0 hC hK hW (c_X4_goes l D G M hL T N r (kg T o g (tn (T 0 3))) ((ksum (kszf T o) 60) + 1) hIc) (kgoodV tm_X4_175 ti_yX4_goes te_yX4_goes tz_X4 tc_yX4_goes) mw_m rfl ⟨rfl, by decide, by decide, (show Option.map _ (parseMethodDescriptor yX4_goes.desc) = some 1 from by decide +kernel)⟩ ⟨Nat.le_of_ble_eq_true rfl, Nat.le_of_ble_eq_true rfl⟩ hl.1 rfl (Nat.le_of_ble_eq_true rfl) ⟨Nat.le_refl _, Nat.le_refl _⟩ dX4_remove_149) hW (fun H locs (hW : mWd D G M (mA M) zs.heap (kGoT T ((ksum (kszf T o) 60) + 1)) N r (kg T o g (tn (T 0 3))) H locs) => ?_)
                  refine kif_eq (tgt := 205) hC.1 hC.2.1 dX4_remove_152 (by decide) (fun c_152 => ?_) (fun c_152 => ?_)
                  · rw [show kGoT T (ksum (kszf T o) 60 + 1) = T from kif_f c_152] at hW
                    refine lv_aload_n hC.1 hC.2.1 dX4_remove_205 rfl (lv_at hl 2 rfl) ?_
                    refine lv_iconst (v := 1) hC.1 hC.2.1 dX4_remove_206 (by decide) ?_
                    refine meQi (rest := []) (mcV 0 hC hK hW (c_X4_answer l D G M hL T N r (kg T o g (tn (T 0 3))) 1 hIc hI1 hI2) (kgoodV tm_X4_178 ti_yX4_answer te_yX4_answer tz_X4 tc_yX4_answer) mw_m rfl ⟨rfl, by decide, by decide, (show Option.map _ (parseMethodDescriptor yX4_answer.desc) = some 1 from by decide +kernel)⟩ ⟨Nat.le_of_ble_eq_true rfl, Nat.le_of_ble_eq_true rfl⟩ hl.1 rfl (Nat.le_of_ble_eq_true rfl) ⟨Nat.le_refl _, Nat.le_refl _⟩ dX4_remove_207) hW (fun H locs (hW : mWd D G M (mA M) zs.heap (kOt T) N r (kg T o g (tn (T 0 3))) H locs) => ?_)
                    exact mkrI hC hr hlk hW (by simp (config := {decide := true}) only [kif_true, kif_false, kb, kup_eq, kup_f, kup_i, not_true_eq_false, not_false_eq_true, and_true, true_and, and_false, false_and, and_self, or_true, true_or, or_false, false_or, a_remove, t_remove, c_5, c_13, show kRmd T p o from ⟨hh1.1.1, c_34, c_48⟩, show kRmT T o = T from kif_f c_152]) (by simp (config := {decide := true}) only [kif_true, kif_false, kb, kup_eq, kup_f, kup_i, not_true_eq_false, not_false_eq_true, and_true, true_and, and_false, false_and, and_self, or_true, true_or, or_false, false_or, a_remove, t_remove, c_5, c_13, show kRmd T p o from ⟨hh1.1.1, c_34, c_48⟩, show kRmT T o = T from kif_f c_152]) rfl rfl (kif_t ⟨c_5, c_13, hh1.1.1, c_34, c_48⟩).symm dX4_remove_210
                  · rw [show kGoT T (ksum (kszf T o) 60 + 1) = kup T 0 7 (T 0 7 + (ksum (kszf T o) 60 + 1)) from kif_t c_152] at hW
                    have hW : mWd D G M (mA M) zs.heap (kRx (kup T 0 7 (T 0 7 + (ksum (kszf T o) 60 + 1))) T o 0) N r (kg T o g (tn (T 0 3))) H locs := by rw [kRx_0]; exact hW
                    refine lv_iconst (v := 0) hC.1 hC.2.1 dX4_remove_155 (by decide) ?_
                    refine lv_istore (lv' := [(4, .int 0), (3, .int (ksum (kszf T o) 60)), (0, .ref (M 0)), (1, .int p), (2, .int o)]) hC.1 hC.2.1 dX4_remove_156 hl (by decide) rfl (fun ls hl => ?_)
                    have loop_158 : ∀ (zf i : Nat), i + zf = tn (T 0 3) →  ∀ (H : Heap) (locs : List Loc), mWd D G M (mA M) zs.heap (kRx (kup T 0 7 (T 0 7 + (ksum (kszf T o) 60 + 1))) T o i) N r (kg T o g (tn (T 0 3))) H locs → ∀ ls : Array Slot, lv_has ls 5 [(4, .int (nI i)), (0, .ref (M 0)), (1, .int p), (2, .int o)] → W zp l ze ({ frames := 2, cells := 0, slots := 0, locals := 46 } : Room) zs zm zargs zbelow zmeth zc H locs 0 0 (MQ zbelow (mQi D G M (a_remove T p o) (t_remove T p o) N r (kif (kP T p ∧ kO T o ∧ kRmd T p o) (kg T o g (tn (T 0 3))) g)) zargs zs 0 0 (mA M)) (F0 zm 158 ls []) := by
                      intro zf
                      induction zf with
                      | zero =>
                        intro i  hi  H locs hW ls hl
                        have hi0 : i = tn (T 0 3) := by omega
                        have hb2 := (tn_nat hI3.1).2
                        have hb3 := hI3.2.2.1
                        refine lv_iload hC.1 hC.2.1 dX4_remove_158 (lv_at hl 0 rfl) ?_
                        refine lv_aload_n hC.1 hC.2.1 dX4_remove_160 rfl (lv_at hl 1 rfl) ?_
                        refine mg4 hC hK hW 18 (v := .int ((kRx (kup T 0 7 (T 0 7 + (ksum (kszf T o) 60 + 1))) T o i) 0 3)) rfl (by decide) rfl tf_X4_90 dX4_remove_161 ?_
                        refine lv_icmp_ge (tgt := 205) hC.1 hC.2.1 dX4_remove_164 (by decide) (fun c_164 => ?_) (fun c_164 => ?_)
                        · rw [hi0] at hW
                          refine lv_aload_n hC.1 hC.2.1 dX4_remove_205 rfl (lv_at hl 1 rfl) ?_
                          refine lv_iconst (v := 1) hC.1 hC.2.1 dX4_remove_206 (by decide) ?_
                          refine meQi (rest := []) (mcV 0 hC hK hW (c_X4_answer l D G M hL (kRx (kup T 0 7 (T 0 7 + (ksum (kszf T o) 60 + 1))) T o (tn (T 0 3))) N r (kg T o g (tn (T 0 3))) 1 hIc hI1 hI2) (kgoodV tm_X4_178 ti_yX4_answer te_yX4_answer tz_X4 tc_yX4_answer) mw_m rfl ⟨rfl, by decide, by decide, (show Option.map _ (parseMethodDescriptor yX4_answer.desc) = some 1 from by decide +kernel)⟩ ⟨Nat.le_of_ble_eq_true rfl, Nat.le_of_ble_eq_true rfl⟩ hl.1 rfl (Nat.le_of_ble_eq_true rfl) ⟨Nat.le_refl _, Nat.le_refl _⟩ dX4_remove_207) hW (fun H locs (hW : mWd D G M (mA M) zs.heap (kOt (kRx (kup T 0 7 (T 0 7 + (ksum (kszf T o) 60 + 1))) T o (tn (T 0 3)))) N r (kg T o g (tn (T 0 3))) H locs) => ?_)
                          exact mkrI hC hr hlk hW (by simp (config := {decide := true}) only [kif_true, kif_false, kb, kup_eq, kup_f, kup_i, not_true_eq_false, not_false_eq_true, and_true, true_and, and_false, false_and, and_self, or_true, true_or, or_false, false_or, a_remove, t_remove, c_5, c_13, show kRmd T p o from ⟨hh1.1.1, c_34, c_48⟩, show kRmT T o = kRx (kup T 0 7 (T 0 7 + (ksum (kszf T o) 60 + 1))) T o (tn (T 0 3)) from by unfold kRmT kRmn kGoT; rw [kif_t c_152, kif_t c_152]; exact (kRx_eq (S := (kup T 0 7 (T 0 7 + (ksum (kszf T o) 60 + 1)))) hIh hI3 rfl rfl).symm]) (by simp (config := {decide := true}) only [kif_true, kif_false, kb, kup_eq, kup_f, kup_i, not_true_eq_false, not_false_eq_true, and_true, true_and, and_false, false_and, and_self, or_true, true_or, or_false, false_or, a_remove, t_remove, c_5, c_13, show kRmd T p o from ⟨hh1.1.1, c_34, c_48⟩, show kRmT T o = kRx (kup T 0 7 (T 0 7 + (ksum (kszf T o) 60 + 1))) T o (tn (T 0 3)) from by unfold kRmT kRmn kGoT; rw [kif_t c_152, kif_t c_152]; exact (kRx_eq (S := (kup T 0 7 (T 0 7 + (ksum (kszf T o) 60 + 1)))) hIh hI3 rfl rfl).symm]) rfl rfl (kif_t ⟨c_5, c_13, hh1.1.1, c_34, c_48⟩).symm dX4_remove_210
                        · exact absurd (show T 0 3 ≤ nI i from by rw [(tn_nat hI3.1).1]; exact nI_le (by omega) (by omega)) c_164
                      | succ zf ih =>
                        intro i  hi  H locs hW ls hl
                        have hlt : i < tn (T 0 3) := by omega
                        have hb2 := (tn_nat hI3.1).2
                        have hb3 := hI3.2.2.1
                        refine lv_iload hC.1 hC.2.1 dX4_remove_158 (lv_at hl 0 rfl) ?_
                        refine lv_aload_n hC.1 hC.2.1 dX4_remove_160 rfl (lv_at hl 1 rfl) ?_
                        refine mg4 hC hK hW 18 (v := .int ((kRx (kup T 0 7 (T 0 7 + (ksum (kszf T o) 60 + 1))) T o i) 0 3)) rfl (by decide) rfl tf_X4_90 dX4_remove_161 ?_
                        refine lv_icmp_ge (tgt := 205) hC.1 hC.2.1 dX4_remove_164 (by decide) (fun c_164 => ?_) (fun c_164 => ?_)
                        · exact absurd (show nI (tn (T 0 3)) ≤ nI i from by rw [← (tn_nat hI3.1).1]; exact c_164) (nI_ge (a := i) (b := tn (T 0 3)) (by omega) (by omega))
                        · refine lv_aload_n hC.1 hC.2.1 dX4_remove_167 rfl (lv_at hl 1 rfl) ?_
                          refine mg4 hC hK hW 19 (v := .ref (M 14)) rfl (by decide) rfl tf_X4_50 dX4_remove_168 ?_
                          refine lv_iload hC.1 hC.2.1 dX4_remove_171 (lv_at hl 0 rfl) ?_
                          refine lv_aload_n hC.1 hC.2.1 dX4_remove_173 rfl (lv_at hl 1 rfl) ?_
                          refine mg4 hC hK hW 19 (v := .ref (M 14)) rfl (by decide) rfl tf_X4_50 dX4_remove_174 ?_
                          refine lv_iload hC.1 hC.2.1 dX4_remove_177 (lv_at hl 0 rfl) ?_
                          refine mabN hC hK hW 14 (by decide) rfl (i := i) (by omega) dX4_remove_179 ?_
                          refine lv_if_eq (tgt := 197) hC.1 hC.2.1 dX4_remove_180 (by decide) (fun c_180 => ?_) (fun c_180 => ?_)
                          · refine lv_iconst (v := 0) hC.1 hC.2.1 dX4_remove_197 (by decide) ?_
                            refine mab_sN hC hK hW 14 (by decide) rfl (i := i) (by omega) (Or.inl rfl) (mw_ar_14 i 0) dX4_remove_198 (fun H locs (hW : mWd D G M (mA M) zs.heap (kup (kRx (kup T 0 7 (T 0 7 + (ksum (kszf T o) 60 + 1))) T o i) 18 i 0) N r (kg T o g (tn (T 0 3))) H locs) => ?_)
                            refine lv_iinc (v := nI (i + 1)) (lv' := [(4, .int (nI (i + 1))), (0, .ref (M 0)), (1, .int p), (2, .int o)]) hC.1 hC.2.1 dX4_remove_199 hl (k := 0) rfl (nI_1 i) (by decide) rfl (fun ls hl => ?_)
                            refine lv_goto (tgt := 158) hC.1 hC.2.1 dX4_remove_202 (by decide) ?_
                            have e_v : (0 : Int32) = kif (kszf T o i = 1) 0 ((kup T 0 7 (T 0 7 + (ksum (kszf T o) 60 + 1))) 18 i) := by rw [show (kup T 0 7 (T 0 7 + (ksum (kszf T o) 60 + 1))) 18 i = 0 from kRx_i.symm.trans c_180]; by_cases q : kszf T o i = 1; exact (kif_t q).symm; exact (kif_f q).symm
                            rw [kRx_s e_v] at hW
                            exact ih (i + 1) (by omega) _ _ hW ls (lv_sub hl [0, 1, 2, 3] rfl)
                          · refine lv_aload_n hC.1 hC.2.1 dX4_remove_183 rfl (lv_at hl 1 rfl) ?_
                            refine mg4 hC hK hW 32 (v := .ref (M 23)) rfl (by decide) rfl tf_X4_81 dX4_remove_184 ?_
                            refine lv_iload hC.1 hC.2.1 dX4_remove_187 (lv_at hl 0 rfl) ?_
                            refine mabN hC hK hW 23 (by decide) rfl (i := i) (by omega) dX4_remove_189 ?_
                            refine lv_if_ne (tgt := 197) hC.1 hC.2.1 dX4_remove_190 (by decide) (fun c_190 => ?_) (fun c_190 => ?_)
                            · refine lv_iconst (v := 0) hC.1 hC.2.1 dX4_remove_197 (by decide) ?_
                              refine mab_sN hC hK hW 14 (by decide) rfl (i := i) (by omega) (Or.inl rfl) (mw_ar_14 i 0) dX4_remove_198 (fun H locs (hW : mWd D G M (mA M) zs.heap (kup (kRx (kup T 0 7 (T 0 7 + (ksum (kszf T o) 60 + 1))) T o i) 18 i 0) N r (kg T o g (tn (T 0 3))) H locs) => ?_)
                              refine lv_iinc (v := nI (i + 1)) (lv' := [(4, .int (nI (i + 1))), (0, .ref (M 0)), (1, .int p), (2, .int o)]) hC.1 hC.2.1 dX4_remove_199 hl (k := 0) rfl (nI_1 i) (by decide) rfl (fun ls hl => ?_)
                              refine lv_goto (tgt := 158) hC.1 hC.2.1 dX4_remove_202 (by decide) ?_
                              have e_v : (0 : Int32) = kif (kszf T o i = 1) 0 ((kup T 0 7 (T 0 7 + (ksum (kszf T o) 60 + 1))) 18 i) := (kif_t (by rw [kg_at hlt] at c_190; exact (kb_01 _).resolve_left c_190)).symm
                              rw [kRx_s e_v] at hW
                              exact ih (i + 1) (by omega) _ _ hW ls (lv_sub hl [0, 1, 2, 3] rfl)
                            · refine lv_iconst (v := 1) hC.1 hC.2.1 dX4_remove_193 (by decide) ?_
                              refine lv_goto (tgt := 198) hC.1 hC.2.1 dX4_remove_194 (by decide) ?_
                              refine mab_sN hC hK hW 14 (by decide) rfl (i := i) (by omega) (Or.inr rfl) (mw_ar_14 i 1) dX4_remove_198 (fun H locs (hW : mWd D G M (mA M) zs.heap (kup (kRx (kup T 0 7 (T 0 7 + (ksum (kszf T o) 60 + 1))) T o i) 18 i 1) N r (kg T o g (tn (T 0 3))) H locs) => ?_)
                              refine lv_iinc (v := nI (i + 1)) (lv' := [(4, .int (nI (i + 1))), (0, .ref (M 0)), (1, .int p), (2, .int o)]) hC.1 hC.2.1 dX4_remove_199 hl (k := 0) rfl (nI_1 i) (by decide) rfl (fun ls hl => ?_)
                              refine lv_goto (tgt := 158) hC.1 hC.2.1 dX4_remove_202 (by decide) ?_
                              have e_v : (1 : Int32) = kif (kszf T o i = 1) 0 ((kup T 0 7 (T 0 7 + (ksum (kszf T o) 60 + 1))) 18 i) := by rw [kif_f (by rw [kg_at hlt] at c_190; rw [c_190]; decide)]; exact ((hIb i).2.2.1.resolve_left (fun z => c_180 (kRx_i.trans z))).symm
                              rw [kRx_s e_v] at hW
                              exact ih (i + 1) (by omega) _ _ hW ls (lv_sub hl [0, 1, 2, 3] rfl)
                    exact loop_158 (tn (T 0 3)) 0 (by omega) _ _ hW ls (by rw [nI_0]; exact lv_sub hl [0, 2, 3, 4] rfl)
                · exact absurd (show T 0 3 ≤ nI i from by rw [(tn_nat hI3.1).1]; exact nI_le (by omega) (by omega)) c_65
              | succ zf ih =>
                intro i  hi  H locs hW ls hl
                have hlt : i < tn (T 0 3) := by omega
                have hb2 := (tn_nat hI3.1).2
                have hb3 := hI3.2.2.1
                refine lv_iload hC.1 hC.2.1 dX4_remove_59 (lv_at hl 0 rfl) ?_
                refine lv_aload_n hC.1 hC.2.1 dX4_remove_61 rfl (lv_at hl 2 rfl) ?_
                refine mg4 hC hK hW 18 (v := .int (T 0 3)) rfl (by decide) rfl tf_X4_90 dX4_remove_62 ?_
                refine lv_icmp_ge (tgt := 145) hC.1 hC.2.1 dX4_remove_65 (by decide) (fun c_65 => ?_) (fun c_65 => ?_)
                · exact absurd (show nI (tn (T 0 3)) ≤ nI i from by rw [← (tn_nat hI3.1).1]; exact c_65) (nI_ge (a := i) (b := tn (T 0 3)) (by omega) (by omega))
                · refine lv_aload_n hC.1 hC.2.1 dX4_remove_68 rfl (lv_at hl 2 rfl) ?_
                  refine mg4 hC hK hW 32 (v := .ref (M 23)) rfl (by decide) rfl tf_X4_81 dX4_remove_69 ?_
                  refine lv_iload hC.1 hC.2.1 dX4_remove_72 (lv_at hl 0 rfl) ?_
                  refine lv_aload_n hC.1 hC.2.1 dX4_remove_74 rfl (lv_at hl 2 rfl) ?_
                  refine mg4 hC hK hW 19 (v := .ref (M 14)) rfl (by decide) rfl tf_X4_50 dX4_remove_75 ?_
                  refine lv_iload hC.1 hC.2.1 dX4_remove_78 (lv_at hl 0 rfl) ?_
                  refine mabN hC hK hW 14 (by decide) rfl (i := i) (by omega) dX4_remove_80 ?_
                  refine lv_if_eq (tgt := 119) hC.1 hC.2.1 dX4_remove_81 (by decide) (fun c_81 => ?_) (fun c_81 => ?_)
                  · refine lv_iconst (v := 0) hC.1 hC.2.1 dX4_remove_119 (by decide) ?_
                    refine mab_sN hC hK hW 23 (by decide) rfl (i := i) (by omega) (Or.inl rfl) (mw_g i 0) dX4_remove_120 (fun H locs (hW : mWd D G M (mA M) zs.heap T N r (upd (kg T o g i) i 0) H locs) => ?_)
                    refine lv_iload_n hC.1 hC.2.1 dX4_remove_121 rfl (lv_at hl 1 rfl) ?_
                    refine lv_aload_n hC.1 hC.2.1 dX4_remove_122 rfl (lv_at hl 2 rfl) ?_
                    refine mg4 hC hK hW 32 (v := .ref (M 23)) rfl (by decide) rfl tf_X4_81 dX4_remove_123 ?_
                    refine lv_iload hC.1 hC.2.1 dX4_remove_126 (lv_at hl 0 rfl) ?_
                    refine mabN hC hK hW 23 (by decide) rfl (i := i) (by omega) dX4_remove_128 ?_
                    rw [show ((upd (kg T o g i) i 0) i : Int32) = 0 from (by simp [upd])]
                    refine lv_if_eq (tgt := 136) hC.1 hC.2.1 dX4_remove_129 (by decide) (fun c_129 => ?_) (fun c_129 => ?_)
                    · refine lv_iconst (v := 0) hC.1 hC.2.1 dX4_remove_136 (by decide) ?_
                      refine lv_iadd hC.1 hC.2.1 dX4_remove_137 ?_
                      refine lv_istore_n (lv' := [(3, .int ((ksum (kszf T o) i) + 0)), (4, .int (nI i)), (0, .ref (M 0)), (1, .int p), (2, .int o)]) hC.1 hC.2.1 dX4_remove_138 rfl hl (by decide) rfl (fun ls hl => ?_)
                      refine lv_iinc (v := nI (i + 1)) (lv' := [(4, .int (nI (i + 1))), (3, .int ((ksum (kszf T o) i) + 0)), (0, .ref (M 0)), (1, .int p), (2, .int o)]) hC.1 hC.2.1 dX4_remove_139 hl (k := 1) rfl (nI_1 i) (by decide) rfl (fun ls hl => ?_)
                      refine lv_goto (tgt := 59) hC.1 hC.2.1 dX4_remove_142 (by decide) ?_
                      have e_v : (0 : Int32) = kszf T o i := by rw [kgo_step (g := g) hIh c_13.1 (by omega)]; exact (kb_f (fun z => z.1 c_81)).symm
                      rw [kg_s e_v] at hW
                      have e_3 : ksum (kszf T o) i + 0 = ksum (kszf T o) (i + 1) := by show _ = ksum (kszf T o) i + kszf T o i; rw [← e_v]
                      rw [e_3] at hl
                      exact ih (i + 1) (by omega) _ _ hW ls (lv_sub hl [0, 1, 2, 3, 4] rfl)
                    · exact absurd (by decide) c_129
                  · refine lv_iload hC.1 hC.2.1 dX4_remove_84 (lv_at hl 0 rfl) ?_
                    refine lv_iload_n hC.1 hC.2.1 dX4_remove_86 rfl (lv_at hl 4 rfl) ?_
                    refine lv_icmp_eq (tgt := 115) hC.1 hC.2.1 dX4_remove_87 (by decide) (fun c_87 => ?_) (fun c_87 => ?_)
                    · refine lv_iconst (v := 1) hC.1 hC.2.1 dX4_remove_115 (by decide) ?_
                      refine lv_goto (tgt := 120) hC.1 hC.2.1 dX4_remove_116 (by decide) ?_
                      refine mab_sN hC hK hW 23 (by decide) rfl (i := i) (by omega) (Or.inr rfl) (mw_g i 1) dX4_remove_120 (fun H locs (hW : mWd D G M (mA M) zs.heap T N r (upd (kg T o g i) i 1) H locs) => ?_)
                      refine lv_iload_n hC.1 hC.2.1 dX4_remove_121 rfl (lv_at hl 1 rfl) ?_
                      refine lv_aload_n hC.1 hC.2.1 dX4_remove_122 rfl (lv_at hl 2 rfl) ?_
                      refine mg4 hC hK hW 32 (v := .ref (M 23)) rfl (by decide) rfl tf_X4_81 dX4_remove_123 ?_
                      refine lv_iload hC.1 hC.2.1 dX4_remove_126 (lv_at hl 0 rfl) ?_
                      refine mabN hC hK hW 23 (by decide) rfl (i := i) (by omega) dX4_remove_128 ?_
                      rw [show ((upd (kg T o g i) i 1) i : Int32) = 1 from (by simp [upd])]
                      refine lv_if_eq (tgt := 136) hC.1 hC.2.1 dX4_remove_129 (by decide) (fun c_129 => ?_) (fun c_129 => ?_)
                      · exact absurd c_129 (by decide)
                      · refine lv_iconst (v := 1) hC.1 hC.2.1 dX4_remove_132 (by decide) ?_
                        refine lv_goto (tgt := 137) hC.1 hC.2.1 dX4_remove_133 (by decide) ?_
                        refine lv_iadd hC.1 hC.2.1 dX4_remove_137 ?_
                        refine lv_istore_n (lv' := [(3, .int ((ksum (kszf T o) i) + 1)), (4, .int (nI i)), (0, .ref (M 0)), (1, .int p), (2, .int o)]) hC.1 hC.2.1 dX4_remove_138 rfl hl (by decide) rfl (fun ls hl => ?_)
                        refine lv_iinc (v := nI (i + 1)) (lv' := [(4, .int (nI (i + 1))), (3, .int ((ksum (kszf T o) i) + 1)), (0, .ref (M 0)), (1, .int p), (2, .int o)]) hC.1 hC.2.1 dX4_remove_139 hl (k := 1) rfl (nI_1 i) (by decide) rfl (fun ls hl => ?_)
                        refine lv_goto (tgt := 59) hC.1 hC.2.1 dX4_remove_142 (by decide) ?_
                        have e_v : (1 : Int32) = kszf T o i := by rw [kgo_step (g := g) hIh c_13.1 (by omega)]; exact (kb_t ⟨c_81, Or.inl c_87⟩).symm
                        rw [kg_s e_v] at hW
                        have e_3 : ksum (kszf T o) i + 1 = ksum (kszf T o) (i + 1) := by show _ = ksum (kszf T o) i + kszf T o i; rw [← e_v]
                        rw [e_3] at hl
                        exact ih (i + 1) (by omega) _ _ hW ls (lv_sub hl [0, 1, 2, 3, 4] rfl)
                    · refine lv_aload_n hC.1 hC.2.1 dX4_remove_90 rfl (lv_at hl 2 rfl) ?_
                      refine mg4 hC hK hW 23 (v := .ref (M 18)) rfl (by decide) rfl tf_X4_62 dX4_remove_91 ?_
                      refine lv_iload hC.1 hC.2.1 dX4_remove_94 (lv_at hl 0 rfl) ?_
                      refine maiN hC hK hW 18 (by decide) rfl (i := i) (by omega) dX4_remove_96 ?_
                      refine lv_if_lt (tgt := 119) hC.1 hC.2.1 dX4_remove_97 (by decide) (fun c_97 => ?_) (fun c_97 => ?_)
                      · refine lv_iconst (v := 0) hC.1 hC.2.1 dX4_remove_119 (by decide) ?_
                        refine mab_sN hC hK hW 23 (by decide) rfl (i := i) (by omega) (Or.inl rfl) (mw_g i 0) dX4_remove_120 (fun H locs (hW : mWd D G M (mA M) zs.heap T N r (upd (kg T o g i) i 0) H locs) => ?_)
                        refine lv_iload_n hC.1 hC.2.1 dX4_remove_121 rfl (lv_at hl 1 rfl) ?_
                        refine lv_aload_n hC.1 hC.2.1 dX4_remove_122 rfl (lv_at hl 2 rfl) ?_
                        refine mg4 hC hK hW 32 (v := .ref (M 23)) rfl (by decide) rfl tf_X4_81 dX4_remove_123 ?_
                        refine lv_iload hC.1 hC.2.1 dX4_remove_126 (lv_at hl 0 rfl) ?_
                        refine mabN hC hK hW 23 (by decide) rfl (i := i) (by omega) dX4_remove_128 ?_
                        rw [show ((upd (kg T o g i) i 0) i : Int32) = 0 from (by simp [upd])]
                        refine lv_if_eq (tgt := 136) hC.1 hC.2.1 dX4_remove_129 (by decide) (fun c_129 => ?_) (fun c_129 => ?_)
                        · refine lv_iconst (v := 0) hC.1 hC.2.1 dX4_remove_136 (by decide) ?_
                          refine lv_iadd hC.1 hC.2.1 dX4_remove_137 ?_
                          refine lv_istore_n (lv' := [(3, .int ((ksum (kszf T o) i) + 0)), (4, .int (nI i)), (0, .ref (M 0)), (1, .int p), (2, .int o)]) hC.1 hC.2.1 dX4_remove_138 rfl hl (by decide) rfl (fun ls hl => ?_)
                          refine lv_iinc (v := nI (i + 1)) (lv' := [(4, .int (nI (i + 1))), (3, .int ((ksum (kszf T o) i) + 0)), (0, .ref (M 0)), (1, .int p), (2, .int o)]) hC.1 hC.2.1 dX4_remove_139 hl (k := 1) rfl (nI_1 i) (by decide) rfl (fun ls hl => ?_)
                          refine lv_goto (tgt := 59) hC.1 hC.2.1 dX4_remove_142 (by decide) ?_
                          have e_v : (0 : Int32) = kszf T o i := by rw [kgo_step (g := g) hIh c_13.1 (by omega)]; exact (kb_f (fun z => z.2.elim c_87 (fun q => q.1 c_97))).symm
                          rw [kg_s e_v] at hW
                          have e_3 : ksum (kszf T o) i + 0 = ksum (kszf T o) (i + 1) := by show _ = ksum (kszf T o) i + kszf T o i; rw [← e_v]
                          rw [e_3] at hl
                          exact ih (i + 1) (by omega) _ _ hW ls (lv_sub hl [0, 1, 2, 3, 4] rfl)
                        · exact absurd (by decide) c_129
                      · refine lv_aload_n hC.1 hC.2.1 dX4_remove_100 rfl (lv_at hl 2 rfl) ?_
                        refine mg4 hC hK hW 32 (v := .ref (M 23)) rfl (by decide) rfl tf_X4_81 dX4_remove_101 ?_
                        refine lv_aload_n hC.1 hC.2.1 dX4_remove_104 rfl (lv_at hl 2 rfl) ?_
                        refine mg4 hC hK hW 23 (v := .ref (M 18)) rfl (by decide) rfl tf_X4_62 dX4_remove_105 ?_
                        refine lv_iload hC.1 hC.2.1 dX4_remove_108 (lv_at hl 0 rfl) ?_
                        refine maiN hC hK hW 18 (by decide) rfl (i := i) (by omega) dX4_remove_110 ?_
                        refine mab hC hK hW 23 (by decide) rfl (i := T 20 i) (kin_h hIh c_81 c_97) dX4_remove_111 ?_
                        refine lv_if_eq (tgt := 119) hC.1 hC.2.1 dX4_remove_112 (by decide) (fun c_112 => ?_) (fun c_112 => ?_)
                        · refine lv_iconst (v := 0) hC.1 hC.2.1 dX4_remove_119 (by decide) ?_
                          refine mab_sN hC hK hW 23 (by decide) rfl (i := i) (by omega) (Or.inl rfl) (mw_g i 0) dX4_remove_120 (fun H locs (hW : mWd D G M (mA M) zs.heap T N r (upd (kg T o g i) i 0) H locs) => ?_)
                          refine lv_iload_n hC.1 hC.2.1 dX4_remove_121 rfl (lv_at hl 1 rfl) ?_
                          refine lv_aload_n hC.1 hC.2.1 dX4_remove_122 rfl (lv_at hl 2 rfl) ?_
                          refine mg4 hC hK hW 32 (v := .ref (M 23)) rfl (by decide) rfl tf_X4_81 dX4_remove_123 ?_
                          refine lv_iload hC.1 hC.2.1 dX4_remove_126 (lv_at hl 0 rfl) ?_
                          refine mabN hC hK hW 23 (by decide) rfl (i := i) (by omega) dX4_remove_128 ?_
                          rw [show ((upd (kg T o g i) i 0) i : Int32) = 0 from (by simp [upd])]
                          refine lv_if_eq (tgt := 136) hC.1 hC.2.1 dX4_remove_129 (by decide) (fun c_129 => ?_) (fun c_129 => ?_)
                          · refine lv_iconst (v := 0) hC.1 hC.2.1 dX4_remove_136 (by decide) ?_
                            refine lv_iadd hC.1 hC.2.1 dX4_remove_137 ?_
                            refine lv_istore_n (lv' := [(3, .int ((ksum (kszf T o) i) + 0)), (4, .int (nI i)), (0, .ref (M 0)), (1, .int p), (2, .int o)]) hC.1 hC.2.1 dX4_remove_138 rfl hl (by decide) rfl (fun ls hl => ?_)
                            refine lv_iinc (v := nI (i + 1)) (lv' := [(4, .int (nI (i + 1))), (3, .int ((ksum (kszf T o) i) + 0)), (0, .ref (M 0)), (1, .int p), (2, .int o)]) hC.1 hC.2.1 dX4_remove_139 hl (k := 1) rfl (nI_1 i) (by decide) rfl (fun ls hl => ?_)
                            refine lv_goto (tgt := 59) hC.1 hC.2.1 dX4_remove_142 (by decide) ?_
                            have e_v : (0 : Int32) = kszf T o i := by rw [kgo_step (g := g) hIh c_13.1 (by omega)]; exact (kb_f (fun z => z.2.elim c_87 (fun q => q.2 c_112))).symm
                            rw [kg_s e_v] at hW
                            have e_3 : ksum (kszf T o) i + 0 = ksum (kszf T o) (i + 1) := by show _ = ksum (kszf T o) i + kszf T o i; rw [← e_v]
                            rw [e_3] at hl
                            exact ih (i + 1) (by omega) _ _ hW ls (lv_sub hl [0, 1, 2, 3, 4] rfl)
                          · exact absurd (by decide) c_129
                        · refine lv_iconst (v := 1) hC.1 hC.2.1 dX4_remove_115 (by decide) ?_
                          refine lv_goto (tgt := 120) hC.1 hC.2.1 dX4_remove_116 (by decide) ?_
                          refine mab_sN hC hK hW 23 (by decide) rfl (i := i) (by omega) (Or.inr rfl) (mw_g i 1) dX4_remove_120 (fun H locs (hW : mWd D G M (mA M) zs.heap T N r (upd (kg T o g i) i 1) H locs) => ?_)
                          refine lv_iload_n hC.1 hC.2.1 dX4_remove_121 rfl (lv_at hl 1 rfl) ?_
                          refine lv_aload_n hC.1 hC.2.1 dX4_remove_122 rfl (lv_at hl 2 rfl) ?_
                          refine mg4 hC hK hW 32 (v := .ref (M 23)) rfl (by decide) rfl tf_X4_81 dX4_remove_123 ?_
                          refine lv_iload hC.1 hC.2.1 dX4_remove_126 (lv_at hl 0 rfl) ?_
                          refine mabN hC hK hW 23 (by decide) rfl (i := i) (by omega) dX4_remove_128 ?_
                          rw [show ((upd (kg T o g i) i 1) i : Int32) = 1 from (by simp [upd])]
                          refine lv_if_eq (tgt := 136) hC.1 hC.2.1 dX4_remove_129 (by decide) (fun c_129 => ?_) (fun c_129 => ?_)
                          · exact absurd c_129 (by decide)
                          · refine lv_iconst (v := 1) hC.1 hC.2.1 dX4_remove_132 (by decide) ?_
                            refine lv_goto (tgt := 137) hC.1 hC.2.1 dX4_remove_133 (by decide) ?_
                            refine lv_iadd hC.1 hC.2.1 dX4_remove_137 ?_
                            refine lv_istore_n (lv' := [(3, .int ((ksum (kszf T o) i) + 1)), (4, .int (nI i)), (0, .ref (M 0)), (1, .int p), (2, .int o)]) hC.1 hC.2.1 dX4_remove_138 rfl hl (by decide) rfl (fun ls hl => ?_)
                            refine lv_iinc (v := nI (i + 1)) (lv' := [(4, .int (nI (i + 1))), (3, .int ((ksum (kszf T o) i) + 1)), (0, .ref (M 0)), (1, .int p), (2, .int o)]) hC.1 hC.2.1 dX4_remove_139 hl (k := 1) rfl (nI_1 i) (by decide) rfl (fun ls hl => ?_)
                            refine lv_goto (tgt := 59) hC.1 hC.2.1 dX4_remove_142 (by decide) ?_
                            have e_v : (1 : Int32) = kszf T o i := by rw [kgo_step (g := g) hIh c_13.1 (by omega)]; exact (kb_t ⟨c_81, Or.inr ⟨c_97, c_112⟩⟩).symm
                            rw [kg_s e_v] at hW
                            have e_3 : ksum (kszf T o) i + 1 = ksum (kszf T o) (i + 1) := by show _ = ksum (kszf T o) i + kszf T o i; rw [← e_v]
                            rw [e_3] at hl
                            exact ih (i + 1) (by omega) _ _ hW ls (lv_sub hl [0, 1, 2, 3, 4] rfl)
            exact loop_59 (tn (T 0 3)) 0 (by omega) _ _ hW ls (by rw [nI_0]; exact lv_sub hl [0, 1, 2, 3, 4] rfl)
          · refine lv_ldc hC.1 hC.2.1 hC.2.2.2.1 (hC.2.2.2.2 _ (kt_in tk_X4_135 rfl)) dX4_remove_51 ?_
            exact mkrI hC hr hlk hW (by simp (config := {decide := true}) only [kif_true, kif_false, kb, kup_eq, kup_f, kup_i, not_true_eq_false, not_false_eq_true, and_true, true_and, and_false, false_and, and_self, or_true, true_or, or_false, false_or, a_remove, t_remove, c_5, c_13, show ¬ kRmd T p o from fun z => c_48 z.2.2]) (by simp (config := {decide := true}) only [kif_true, kif_false, kb, kup_eq, kup_f, kup_i, not_true_eq_false, not_false_eq_true, and_true, true_and, and_false, false_and, and_self, or_true, true_or, or_false, false_or, a_remove, t_remove, c_5, c_13, show ¬ kRmd T p o from fun z => c_48 z.2.2]) rfl rfl (kif_f (fun z => c_48 z.2.2.2.2)).symm dX4_remove_53
    · refine lv_ldc hC.1 hC.2.1 hC.2.2.2.1 (hC.2.2.2.2 _ (kt_in tk_X4_107 rfl)) dX4_remove_16 ?_
      exact mkrI hC hr hlk hW (by simp (config := {decide := true}) only [kif_true, kif_false, kb, kup_eq, kup_f, kup_i, not_true_eq_false, not_false_eq_true, and_true, true_and, and_false, false_and, and_self, or_true, true_or, or_false, false_or, a_remove, t_remove, c_5, c_13]) (by simp (config := {decide := true}) only [kif_true, kif_false, kb, kup_eq, kup_f, kup_i, not_true_eq_false, not_false_eq_true, and_true, true_and, and_false, false_and, and_self, or_true, true_or, or_false, false_or, a_remove, t_remove, c_5, c_13]) rfl rfl (kif_f (fun z => c_13 z.2.1)).symm dX4_remove_18
