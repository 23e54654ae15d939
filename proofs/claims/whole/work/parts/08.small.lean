set_option maxHeartbeats 4000000 in
set_option maxRecDepth 100000 in
theorem c_X3_isWithin (l : Launch) (a : Int32) (b : Int32) : kM l yX3_isWithin cX3_isWithin 2 (some .boolean) 0 0 (kP0 [.int a, .int b]) (kSi (kb (kWi a b))) (fun _ => False) := by
  refine kBegin (by decide) (Nat.le_of_ble_eq_true rfl) ?_
  intro zp ze zs zm zargs zbelow zmeth zc hC hr hlk hB ls hl
  have hl : lv_has ls 2 [(0, .int a), (1, .int b)] := hl
  refine lv_iload_n hC.1 hC.2.1 dX3_isWithin_0 rfl (lv_at hl 0 rfl) ?_
  refine lv_iload_n hC.1 hC.2.1 dX3_isWithin_1 rfl (lv_at hl 1 rfl) ?_
  refine lv_iconst (v := (-1)) hC.1 hC.2.1 dX3_isWithin_2 (by decide) ?_
  refine lv_ixor hC.1 hC.2.1 dX3_isWithin_3 ?_
  refine lv_iand hC.1 hC.2.1 dX3_isWithin_4 ?_
  refine lv_if_ne (tgt := 12) hC.1 hC.2.1 dX3_isWithin_5 (by decide) (fun c_5 => ?_) (fun c_5 => ?_)
  · refine lv_iconst (v := 0) hC.1 hC.2.1 dX3_isWithin_12 (by decide) ?_
    exact krZ hC hr hlk (Or.inl rfl) (by simp only [kif_true, kif_false, kb, not_true_eq_false, not_false_eq_true, and_true, true_and, and_false, false_and, and_self, or_true, true_or, or_false, false_or, kWi, c_5]) dX3_isWithin_13
  · refine lv_iconst (v := 1) hC.1 hC.2.1 dX3_isWithin_8 (by decide) ?_
    refine lv_goto (tgt := 13) hC.1 hC.2.1 dX3_isWithin_9 (by decide) ?_
    exact krZ hC hr hlk (Or.inr rfl) (by simp only [kif_true, kif_false, kb, not_true_eq_false, not_false_eq_true, and_true, true_and, and_false, false_and, and_self, or_true, true_or, or_false, false_or, kWi, c_5]) dX3_isWithin_13
set_option maxHeartbeats 4000000 in
set_option maxRecDepth 100000 in
theorem c_X3_flows (l : Launch) (sa : Int32) (ta : Int32) (sb : Int32) (tb : Int32) : kM l yX3_flows cX3_flows 4 (some .boolean) 1 21 (kP0 [.int sa, .int ta, .int sb, .int tb]) (kSi (kb (kFw sa ta sb tb))) (fun _ => False) := by
  refine kBegin (by decide) (Nat.le_of_ble_eq_true rfl) ?_
  intro zp ze zs zm zargs zbelow zmeth zc hC hr hlk hB ls hl
  have hl : lv_has ls 4 [(0, .int sa), (1, .int ta), (2, .int sb), (3, .int tb)] := hl
  refine lv_iload_n hC.1 hC.2.1 dX3_flows_0 rfl (lv_at hl 0 rfl) ?_
  refine lv_iload_n hC.1 hC.2.1 dX3_flows_1 rfl (lv_at hl 2 rfl) ?_
  refine keSi (rest := []) (kcS0 hC (c_X3_isWithin l sa sb) (kgoodS tm_X3_110 ts_yX3_isWithin tz_X3 tc_yX3_isWithin) ⟨rfl, by decide, by decide, (show Option.map _ (parseMethodDescriptor yX3_isWithin.desc) = some 2 from by decide +kernel)⟩ ⟨Nat.le_of_ble_eq_true rfl, Nat.le_of_ble_eq_true rfl⟩ hl.1 rfl (Nat.le_of_ble_eq_true rfl) ⟨Nat.le_refl _, Nat.le_refl _⟩ dX3_flows_2) ?_
  refine kif_eq (tgt := 20) hC.1 hC.2.1 dX3_flows_5 (by decide) (fun c_5 => ?_) (fun c_5 => ?_)
  · refine lv_iconst (v := 0) hC.1 hC.2.1 dX3_flows_20 (by decide) ?_
    exact krZ hC hr hlk (Or.inl rfl) (by simp only [kif_true, kif_false, kb, not_true_eq_false, not_false_eq_true, and_true, true_and, and_false, false_and, and_self, or_true, true_or, or_false, false_or, kFw, c_5]) dX3_flows_21
  · refine lv_iload_n hC.1 hC.2.1 dX3_flows_8 rfl (lv_at hl 3 rfl) ?_
    refine lv_iload_n hC.1 hC.2.1 dX3_flows_9 rfl (lv_at hl 1 rfl) ?_
    refine keSi (rest := []) (kcS0 hC (c_X3_isWithin l tb ta) (kgoodS tm_X3_110 ts_yX3_isWithin tz_X3 tc_yX3_isWithin) ⟨rfl, by decide, by decide, (show Option.map _ (parseMethodDescriptor yX3_isWithin.desc) = some 2 from by decide +kernel)⟩ ⟨Nat.le_of_ble_eq_true rfl, Nat.le_of_ble_eq_true rfl⟩ hl.1 rfl (Nat.le_of_ble_eq_true rfl) ⟨Nat.le_refl _, Nat.le_refl _⟩ dX3_flows_10) ?_
    refine kif_eq (tgt := 20) hC.1 hC.2.1 dX3_flows_13 (by decide) (fun c_13 => ?_) (fun c_13 => ?_)
    · refine lv_iconst (v := 0) hC.1 hC.2.1 dX3_flows_20 (by decide) ?_
      exact krZ hC hr hlk (Or.inl rfl) (by simp only [kif_true, kif_false, kb, not_true_eq_false, not_false_eq_true, and_true, true_and, and_false, false_and, and_self, or_true, true_or, or_false, false_or, kFw, c_5, c_13]) dX3_flows_21
    · refine lv_iconst (v := 1) hC.1 hC.2.1 dX3_flows_16 (by decide) ?_
      refine lv_goto (tgt := 21) hC.1 hC.2.1 dX3_flows_17 (by decide) ?_
      exact krZ hC hr hlk (Or.inr rfl) (by simp only [kif_true, kif_false, kb, not_true_eq_false, not_false_eq_true, and_true, true_and, and_false, false_and, and_self, or_true, true_or, or_false, false_or, kFw, c_5, c_13]) dX3_flows_21
set_option maxHeartbeats 4000000 in
set_option maxRecDepth 100000 in
theorem c_X3_isSet (l : Launch) (D : va_G) (G : Nat → ClassId) (L : Nat → Nat) (hL : kL L) (T N : kT) (q : kQ) (x : Int32) : kM l yX3_isSet cX3_isSet 2 (some .boolean) 0 0 (kPc D G L T N q [.ref (L 0), .int x]) (kSi (kb (kSet T x))) (fun _ => False) := by
  refine kBegin (by decide) (Nat.le_of_ble_eq_true rfl) ?_
  intro zp ze zs zm zargs zbelow zmeth zc hC hr hlk hB ls hl
  obtain ⟨hP, hK, hN⟩ := hB
  have hW : kWd D G L (kA L) zs.heap T N q zs.heap [] := kWd.start hL hP
  have hl : lv_has ls 2 [(0, .ref (L 0)), (1, .int x)] := hl
  refine lv_iload_n hC.1 hC.2.1 dX3_isSet_0 rfl (lv_at hl 1 rfl) ?_
  refine lv_aload_n hC.1 hC.2.1 dX3_isSet_1 rfl (lv_at hl 0 rfl) ?_
  refine kg3 hC hK hW 3 (v := .int (T 0 0)) rfl (by decide) tf_X3_53 dX3_isSet_2 ?_
  refine lv_iushr hC.1 hC.2.1 dX3_isSet_5 rfl ?_
  refine lv_if_ne (tgt := 13) hC.1 hC.2.1 dX3_isSet_6 (by decide) (fun c_6 => ?_) (fun c_6 => ?_)
  · refine lv_iconst (v := 0) hC.1 hC.2.1 dX3_isSet_13 (by decide) ?_
    exact krZ hC hr hlk (Or.inl rfl) (by simp only [kif_true, kif_false, kb, not_true_eq_false, not_false_eq_true, and_true, true_and, and_false, false_and, and_self, or_true, true_or, or_false, false_or, kSet, c_6]) dX3_isSet_14
  · refine lv_iconst (v := 1) hC.1 hC.2.1 dX3_isSet_9 (by decide) ?_
    refine lv_goto (tgt := 14) hC.1 hC.2.1 dX3_isSet_10 (by decide) ?_
    exact krZ hC hr hlk (Or.inr rfl) (by simp only [kif_true, kif_false, kb, not_true_eq_false, not_false_eq_true, and_true, true_and, and_false, false_and, and_self, or_true, true_or, or_false, false_or, kSet, c_6]) dX3_isSet_14
set_option maxHeartbeats 4000000 in
set_option maxRecDepth 100000 in
theorem c_X3_both (l : Launch) (D : va_G) (G : Nat → ClassId) (L : Nat → Nat) (hL : kL L) (T N : kT) (q : kQ) (x : Int32) (y : Int32) : kM l yX3_both cX3_both 3 (some .int) 0 0 (kPc D G L T N q [.ref (L 0), .int x, .int y]) (kSi (kBoth T x y)) (fun _ => False) := by
  refine kBegin (by decide) (Nat.le_of_ble_eq_true rfl) ?_
  intro zp ze zs zm zargs zbelow zmeth zc hC hr hlk hB ls hl
  obtain ⟨hP, hK, hN⟩ := hB
  have hW : kWd D G L (kA L) zs.heap T N q zs.heap [] := kWd.start hL hP
  have hl : lv_has ls 3 [(0, .ref (L 0)), (1, .int x), (2, .int y)] := hl
  refine lv_iload_n hC.1 hC.2.1 dX3_both_0 rfl (lv_at hl 1 rfl) ?_
  refine lv_aload_n hC.1 hC.2.1 dX3_both_1 rfl (lv_at hl 0 rfl) ?_
  refine kg3 hC hK hW 7 (v := .int (T 0 4)) rfl (by decide) tf_X3_57 dX3_both_2 ?_
  refine lv_ior hC.1 hC.2.1 dX3_both_5 ?_
  refine lv_iload_n hC.1 hC.2.1 dX3_both_6 rfl (lv_at hl 2 rfl) ?_
  refine lv_aload_n hC.1 hC.2.1 dX3_both_7 rfl (lv_at hl 0 rfl) ?_
  refine kg3 hC hK hW 8 (v := .int (T 0 5)) rfl (by decide) tf_X3_63 dX3_both_8 ?_
  refine lv_ior hC.1 hC.2.1 dX3_both_11 ?_
  refine lv_iand hC.1 hC.2.1 dX3_both_12 ?_
  exact krS hC hr hlk rfl dX3_both_13
set_option maxHeartbeats 4000000 in
set_option maxRecDepth 100000 in
theorem c_X3_isSafe (l : Launch) (D : va_G) (G : Nat → ClassId) (L : Nat → Nat) (hL : kL L) (T N : kT) (q : kQ) (r : Nat) (w_r : r < 24) (a : Int32) (b : Int32) : kM l yX3_isSafe cX3_isSafe 4 (some .boolean) 1 21 (kPc D G L T N q [.ref (L 0), .ref (L (4 + r)), .int a, .int b]) (kSi (kb (kSafe T r a b))) (fun _ => False) := by
  refine kBegin (by decide) (Nat.le_of_ble_eq_true rfl) ?_
  intro zp ze zs zm zargs zbelow zmeth zc hC hr hlk hB ls hl
  obtain ⟨hP, hK, hN⟩ := hB
  have hW : kWd D G L (kA L) zs.heap T N q zs.heap [] := kWd.start hL hP
  have hl : lv_has ls 4 [(0, .ref (L 0)), (1, .ref (L (4 + r))), (2, .int a), (3, .int b)] := hl
  refine lv_iload_n hC.1 hC.2.1 dX3_isSafe_0 rfl (lv_at hl 3 rfl) ?_
  refine lv_iload_n hC.1 hC.2.1 dX3_isSafe_1 rfl (lv_at hl 2 rfl) ?_
  refine lv_iconst (v := (-1)) hC.1 hC.2.1 dX3_isSafe_2 (by decide) ?_
  refine lv_ixor hC.1 hC.2.1 dX3_isSafe_3 ?_
  refine lv_iand hC.1 hC.2.1 dX3_isSafe_4 ?_
  refine lv_aload_n hC.1 hC.2.1 dX3_isSafe_5 rfl (lv_at hl 1 rfl) ?_
  refine kg2N hC hK hN hW w_r 4 (v := .int (T 5 r)) rfl (by decide) tf_X3_60 dX3_isSafe_6 ?_
  refine lv_aload_n hC.1 hC.2.1 dX3_isSafe_9 rfl (lv_at hl 0 rfl) ?_
  refine kg3 hC hK hW 7 (v := .int (T 0 4)) rfl (by decide) tf_X3_57 dX3_isSafe_10 ?_
  refine lv_ior hC.1 hC.2.1 dX3_isSafe_13 ?_
  refine keSi (rest := []) (kcS0 hC (c_X3_isWithin l (b &&& (a ^^^ (-1))) ((T 5 r) ||| (T 0 4))) (kgoodS tm_X3_110 ts_yX3_isWithin tz_X3 tc_yX3_isWithin) ⟨rfl, by decide, by decide, (show Option.map _ (parseMethodDescriptor yX3_isWithin.desc) = some 2 from by decide +kernel)⟩ ⟨Nat.le_of_ble_eq_true rfl, Nat.le_of_ble_eq_true rfl⟩ hl.1 rfl (Nat.le_of_ble_eq_true rfl) ⟨Nat.le_refl _, Nat.le_refl _⟩ dX3_isSafe_14) ?_
  refine kif_eq (tgt := 44) hC.1 hC.2.1 dX3_isSafe_17 (by decide) (fun c_17 => ?_) (fun c_17 => ?_)
  · refine lv_iconst (v := 0) hC.1 hC.2.1 dX3_isSafe_44 (by decide) ?_
    exact krZ hC hr hlk (Or.inl rfl) (by simp only [kif_true, kif_false, kb, not_true_eq_false, not_false_eq_true, and_true, true_and, and_false, false_and, and_self, or_true, true_or, or_false, false_or, kSafe, c_17]) dX3_isSafe_45
  · refine lv_iload_n hC.1 hC.2.1 dX3_isSafe_20 rfl (lv_at hl 2 rfl) ?_
    refine lv_iload_n hC.1 hC.2.1 dX3_isSafe_21 rfl (lv_at hl 3 rfl) ?_
    refine lv_iconst (v := (-1)) hC.1 hC.2.1 dX3_isSafe_22 (by decide) ?_
    refine lv_ixor hC.1 hC.2.1 dX3_isSafe_23 ?_
    refine lv_iand hC.1 hC.2.1 dX3_isSafe_24 ?_
    refine lv_aload_n hC.1 hC.2.1 dX3_isSafe_25 rfl (lv_at hl 1 rfl) ?_
    refine kg2N hC hK hN hW w_r 5 (v := .int (T 6 r)) rfl (by decide) tf_X3_66 dX3_isSafe_26 ?_
    refine lv_aload_n hC.1 hC.2.1 dX3_isSafe_29 rfl (lv_at hl 0 rfl) ?_
    refine kg3 hC hK hW 8 (v := .int (T 0 5)) rfl (by decide) tf_X3_63 dX3_isSafe_30 ?_
    refine lv_ior hC.1 hC.2.1 dX3_isSafe_33 ?_
    refine keSi (rest := []) (kcS0 hC (c_X3_isWithin l (a &&& (b ^^^ (-1))) ((T 6 r) ||| (T 0 5))) (kgoodS tm_X3_110 ts_yX3_isWithin tz_X3 tc_yX3_isWithin) ⟨rfl, by decide, by decide, (show Option.map _ (parseMethodDescriptor yX3_isWithin.desc) = some 2 from by decide +kernel)⟩ ⟨Nat.le_of_ble_eq_true rfl, Nat.le_of_ble_eq_true rfl⟩ hl.1 rfl (Nat.le_of_ble_eq_true rfl) ⟨Nat.le_refl _, Nat.le_refl _⟩ dX3_isSafe_34) ?_
    refine kif_eq (tgt := 44) hC.1 hC.2.1 dX3_isSafe_37 (by decide) (fun c_37 => ?_) (fun c_37 => ?_)
    · refine lv_iconst (v := 0) hC.1 hC.2.1 dX3_isSafe_44 (by decide) ?_
      exact krZ hC hr hlk (Or.inl rfl) (by simp only [kif_true, kif_false, kb, not_true_eq_false, not_false_eq_true, and_true, true_and, and_false, false_and, and_self, or_true, true_or, or_false, false_or, kSafe, c_17, c_37]) dX3_isSafe_45
    · refine lv_iconst (v := 1) hC.1 hC.2.1 dX3_isSafe_40 (by decide) ?_
      refine lv_goto (tgt := 45) hC.1 hC.2.1 dX3_isSafe_41 (by decide) ?_
      exact krZ hC hr hlk (Or.inr rfl) (by simp only [kif_true, kif_false, kb, not_true_eq_false, not_false_eq_true, and_true, true_and, and_false, false_and, and_self, or_true, true_or, or_false, false_or, kSafe, c_17, c_37]) dX3_isSafe_45
set_option maxHeartbeats 4000000 in
set_option maxRecDepth 100000 in
theorem c_X3_owns (l : Launch) (D : va_G) (G : Nat → ClassId) (L : Nat → Nat) (hL : kL L) (T N : kT) (q : kQ) (r : Nat) (w_r : r < 24) (a : Int32) (b : Int32) : kM l yX3_owns cX3_owns 3 (some .boolean) 1 21 (kPc D G L T N q [.ref (L (4 + r)), .int a, .int b]) (kSi (kb (kOwn T r a b))) (fun _ => False) := by
  refine kBegin (by decide) (Nat.le_of_ble_eq_true rfl) ?_
  intro zp ze zs zm zargs zbelow zmeth zc hC hr hlk hB ls hl
  obtain ⟨hP, hK, hN⟩ := hB
  have hW : kWd D G L (kA L) zs.heap T N q zs.heap [] := kWd.start hL hP
  have hl : lv_has ls 3 [(0, .ref (L (4 + r))), (1, .int a), (2, .int b)] := hl
  refine lv_iload_n hC.1 hC.2.1 dX3_owns_0 rfl (lv_at hl 1 rfl) ?_
  refine lv_aload_n hC.1 hC.2.1 dX3_owns_1 rfl (lv_at hl 0 rfl) ?_
  refine kg2N hC hK hN hW w_r 4 (v := .int (T 5 r)) rfl (by decide) tf_X3_60 dX3_owns_2 ?_
  refine keSi (rest := []) (kcS0 hC (c_X3_isWithin l a (T 5 r)) (kgoodS tm_X3_110 ts_yX3_isWithin tz_X3 tc_yX3_isWithin) ⟨rfl, by decide, by decide, (show Option.map _ (parseMethodDescriptor yX3_isWithin.desc) = some 2 from by decide +kernel)⟩ ⟨Nat.le_of_ble_eq_true rfl, Nat.le_of_ble_eq_true rfl⟩ hl.1 rfl (Nat.le_of_ble_eq_true rfl) ⟨Nat.le_refl _, Nat.le_refl _⟩ dX3_owns_5) ?_
  refine kif_eq (tgt := 26) hC.1 hC.2.1 dX3_owns_8 (by decide) (fun c_8 => ?_) (fun c_8 => ?_)
  · refine lv_iconst (v := 0) hC.1 hC.2.1 dX3_owns_26 (by decide) ?_
    exact krZ hC hr hlk (Or.inl rfl) (by simp only [kif_true, kif_false, kb, not_true_eq_false, not_false_eq_true, and_true, true_and, and_false, false_and, and_self, or_true, true_or, or_false, false_or, kOwn, c_8]) dX3_owns_27
  · refine lv_iload_n hC.1 hC.2.1 dX3_owns_11 rfl (lv_at hl 2 rfl) ?_
    refine lv_aload_n hC.1 hC.2.1 dX3_owns_12 rfl (lv_at hl 0 rfl) ?_
    refine kg2N hC hK hN hW w_r 5 (v := .int (T 6 r)) rfl (by decide) tf_X3_66 dX3_owns_13 ?_
    refine keSi (rest := []) (kcS0 hC (c_X3_isWithin l b (T 6 r)) (kgoodS tm_X3_110 ts_yX3_isWithin tz_X3 tc_yX3_isWithin) ⟨rfl, by decide, by decide, (show Option.map _ (parseMethodDescriptor yX3_isWithin.desc) = some 2 from by decide +kernel)⟩ ⟨Nat.le_of_ble_eq_true rfl, Nat.le_of_ble_eq_true rfl⟩ hl.1 rfl (Nat.le_of_ble_eq_true rfl) ⟨Nat.le_refl _, Nat.le_refl _⟩ dX3_owns_16) ?_
    refine kif_eq (tgt := 26) hC.1 hC.2.1 dX3_owns_19 (by decide) (fun c_19 => ?_) (fun c_19 => ?_)
    · refine lv_iconst (v := 0) hC.1 hC.2.1 dX3_owns_26 (by decide) ?_
      exact krZ hC hr hlk (Or.inl rfl) (by simp only [kif_true, kif_false, kb, not_true_eq_false, not_false_eq_true, and_true, true_and, and_false, false_and, and_self, or_true, true_or, or_false, false_or, kOwn, c_8, c_19]) dX3_owns_27
    · refine lv_iconst (v := 1) hC.1 hC.2.1 dX3_owns_22 (by decide) ?_
      refine lv_goto (tgt := 27) hC.1 hC.2.1 dX3_owns_23 (by decide) ?_
      exact krZ hC hr hlk (Or.inr rfl) (by simp only [kif_true, kif_false, kb, not_true_eq_false, not_false_eq_true, and_true, true_and, and_false, false_and, and_self, or_true, true_or, or_false, false_or, kOwn, c_8, c_19]) dX3_owns_27
set_option maxHeartbeats 4000000 in
set_option maxRecDepth 100000 in
theorem c_X3_canRead (l : Launch) (D : va_G) (G : Nat → ClassId) (L : Nat → Nat) (hL : kL L) (T N : kT) (q : kQ) (r : Nat) (w_r : r < 24) (o : Nat) (w_o : o < 60) : kM l yX3_canRead cX3_canRead 2 (some .boolean) 2 44 (kPc D G L T N q [.ref (L (4 + r)), .ref (L (188 + o))]) (kSi (kb (kRd T r o))) (fun _ => False) := by
  refine kBegin (by decide) (Nat.le_of_ble_eq_true rfl) ?_
  intro zp ze zs zm zargs zbelow zmeth zc hC hr hlk hB ls hl
  obtain ⟨hP, hK, hN⟩ := hB
  have hW : kWd D G L (kA L) zs.heap T N q zs.heap [] := kWd.start hL hP
  have hl : lv_has ls 2 [(0, .ref (L (4 + r))), (1, .ref (L (188 + o)))] := hl
  refine lv_aload_n hC.1 hC.2.1 dX3_canRead_0 rfl (lv_at hl 1 rfl) ?_
  refine kg1N hC hK hN hW w_o 4 (v := .int (T 21 o)) rfl (by decide) tf_X3_232 dX3_canRead_1 ?_
  refine lv_aload_n hC.1 hC.2.1 dX3_canRead_4 rfl (lv_at hl 1 rfl) ?_
  refine kg1N hC hK hN hW w_o 5 (v := .int (T 22 o)) rfl (by decide) tf_X3_233 dX3_canRead_5 ?_
  refine lv_aload_n hC.1 hC.2.1 dX3_canRead_8 rfl (lv_at hl 0 rfl) ?_
  refine kg2N hC hK hN hW w_r 2 (v := .int (T 3 r)) rfl (by decide) tf_X3_69 dX3_canRead_9 ?_
  refine lv_aload_n hC.1 hC.2.1 dX3_canRead_12 rfl (lv_at hl 0 rfl) ?_
  refine kg2N hC hK hN hW w_r 3 (v := .int (T 4 r)) rfl (by decide) tf_X3_72 dX3_canRead_13 ?_
  refine keSi (rest := []) (kcS0 hC (c_X3_flows l (T 21 o) (T 22 o) (T 3 r) (T 4 r)) (kgoodS tm_X3_139 ts_yX3_flows tz_X3 tc_yX3_flows) ⟨rfl, by decide, by decide, (show Option.map _ (parseMethodDescriptor yX3_flows.desc) = some 4 from by decide +kernel)⟩ ⟨Nat.le_of_ble_eq_true rfl, Nat.le_of_ble_eq_true rfl⟩ hl.1 rfl (Nat.le_of_ble_eq_true rfl) ⟨Nat.le_refl _, Nat.le_refl _⟩ dX3_canRead_16) ?_
  exact krZ hC hr hlk (kb_01 _) rfl dX3_canRead_19
set_option maxHeartbeats 4000000 in
set_option maxRecDepth 100000 in
theorem c_X3_canWrite (l : Launch) (D : va_G) (G : Nat → ClassId) (L : Nat → Nat) (hL : kL L) (T N : kT) (q : kQ) (r : Nat) (w_r : r < 24) (o : Nat) (w_o : o < 60) : kM l yX3_canWrite cX3_canWrite 2 (some .boolean) 2 44 (kPc D G L T N q [.ref (L (4 + r)), .ref (L (188 + o))]) (kSi (kb (kWr T r o))) (fun _ => False) := by
  refine kBegin (by decide) (Nat.le_of_ble_eq_true rfl) ?_
  intro zp ze zs zm zargs zbelow zmeth zc hC hr hlk hB ls hl
  obtain ⟨hP, hK, hN⟩ := hB
  have hW : kWd D G L (kA L) zs.heap T N q zs.heap [] := kWd.start hL hP
  have hl : lv_has ls 2 [(0, .ref (L (4 + r))), (1, .ref (L (188 + o)))] := hl
  refine lv_aload_n hC.1 hC.2.1 dX3_canWrite_0 rfl (lv_at hl 0 rfl) ?_
  refine kg2N hC hK hN hW w_r 2 (v := .int (T 3 r)) rfl (by decide) tf_X3_69 dX3_canWrite_1 ?_
  refine lv_aload_n hC.1 hC.2.1 dX3_canWrite_4 rfl (lv_at hl 0 rfl) ?_
  refine kg2N hC hK hN hW w_r 3 (v := .int (T 4 r)) rfl (by decide) tf_X3_72 dX3_canWrite_5 ?_
  refine lv_aload_n hC.1 hC.2.1 dX3_canWrite_8 rfl (lv_at hl 1 rfl) ?_
  refine kg1N hC hK hN hW w_o 4 (v := .int (T 21 o)) rfl (by decide) tf_X3_232 dX3_canWrite_9 ?_
  refine lv_aload_n hC.1 hC.2.1 dX3_canWrite_12 rfl (lv_at hl 1 rfl) ?_
  refine kg1N hC hK hN hW w_o 5 (v := .int (T 22 o)) rfl (by decide) tf_X3_233 dX3_canWrite_13 ?_
  refine keSi (rest := []) (kcS0 hC (c_X3_flows l (T 3 r) (T 4 r) (T 21 o) (T 22 o)) (kgoodS tm_X3_139 ts_yX3_flows tz_X3 tc_yX3_flows) ⟨rfl, by decide, by decide, (show Option.map _ (parseMethodDescriptor yX3_flows.desc) = some 4 from by decide +kernel)⟩ ⟨Nat.le_of_ble_eq_true rfl, Nat.le_of_ble_eq_true rfl⟩ hl.1 rfl (Nat.le_of_ble_eq_true rfl) ⟨Nat.le_refl _, Nat.le_refl _⟩ dX3_canWrite_16) ?_
  exact krZ hC hr hlk (kb_01 _) rfl dX3_canWrite_19
set_option maxHeartbeats 4000000 in
set_option maxRecDepth 100000 in
theorem c_X3_processAt (l : Launch) (D : va_G) (G : Nat → ClassId) (L : Nat → Nat) (hL : kL L) (T N : kT) (q : kQ) (p : Int32) : kM l yX3_processAt cX3_processAt 2 (some (.object "LabelKernel$ProcessRow")) 0 0 (kPc D G L T N q [.ref (L 0), .int p]) (kSq (kif (kP T p) (some (L (4 + tn p))) none)) (fun _ => False) := by
  refine kBegin (by decide) (Nat.le_of_ble_eq_true rfl) ?_
  intro zp ze zs zm zargs zbelow zmeth zc hC hr hlk hB ls hl
  obtain ⟨hP, hK, hN⟩ := hB
  have hW : kWd D G L (kA L) zs.heap T N q zs.heap [] := kWd.start hL hP
  have hl : lv_has ls 2 [(0, .ref (L 0)), (1, .int p)] := hl
  refine lv_iload_n hC.1 hC.2.1 dX3_processAt_0 rfl (lv_at hl 1 rfl) ?_
  refine lv_if_lt (tgt := 25) hC.1 hC.2.1 dX3_processAt_1 (by decide) (fun c_1 => ?_) (fun c_1 => ?_)
  · refine lv_null hC.1 hC.2.1 dX3_processAt_25 ?_
    exact krA (o := none) hC hr hlk (by simp only [kif_true, kif_false, kb, not_true_eq_false, not_false_eq_true, and_true, true_and, and_false, false_and, and_self, or_true, true_or, or_false, false_or, kP, c_1]) rfl dX3_processAt_26
  · refine lv_iload_n hC.1 hC.2.1 dX3_processAt_4 rfl (lv_at hl 1 rfl) ?_
    refine lv_aload_n hC.1 hC.2.1 dX3_processAt_5 rfl (lv_at hl 0 rfl) ?_
    refine kg3 hC hK hW 0 (v := .ref (L 1)) rfl (by decide) tf_X3_11 dX3_processAt_6 ?_
    refine kal1 hC hK hW dX3_processAt_9 ?_
    refine lv_icmp_ge (tgt := 25) hC.1 hC.2.1 dX3_processAt_10 (by decide) (fun c_10 => ?_) (fun c_10 => ?_)
    · refine lv_null hC.1 hC.2.1 dX3_processAt_25 ?_
      exact krA (o := none) hC hr hlk (by simp only [kif_true, kif_false, kb, not_true_eq_false, not_false_eq_true, and_true, true_and, and_false, false_and, and_self, or_true, true_or, or_false, false_or, kP, c_1, c_10]) rfl dX3_processAt_26
    · refine lv_aload_n hC.1 hC.2.1 dX3_processAt_13 rfl (lv_at hl 0 rfl) ?_
      refine kg3 hC hK hW 0 (v := .ref (L 1)) rfl (by decide) tf_X3_11 dX3_processAt_14 ?_
      refine lv_iload_n hC.1 hC.2.1 dX3_processAt_17 rfl (lv_at hl 1 rfl) ?_
      refine kar1 hC hK hW (kin24 c_1 c_10) dX3_processAt_18 ?_
      refine kg2N hC hK hN hW (kin_lt (kin24 c_1 c_10)) 0 (v := .int (T 1 (tn p))) rfl (by decide) tf_X3_102 dX3_processAt_19 ?_
      refine lv_if_ne (tgt := 27) hC.1 hC.2.1 dX3_processAt_22 (by decide) (fun c_22 => ?_) (fun c_22 => ?_)
      · refine lv_aload_n hC.1 hC.2.1 dX3_processAt_27 rfl (lv_at hl 0 rfl) ?_
        refine kg3 hC hK hW 0 (v := .ref (L 1)) rfl (by decide) tf_X3_11 dX3_processAt_28 ?_
        refine lv_iload_n hC.1 hC.2.1 dX3_processAt_31 rfl (lv_at hl 1 rfl) ?_
        refine kar1 hC hK hW (kin24 c_1 c_10) dX3_processAt_32 ?_
        exact krA (o := (some (L (4 + (tn p))))) hC hr hlk (by simp only [kif_true, kif_false, kb, not_true_eq_false, not_false_eq_true, and_true, true_and, and_false, false_and, and_self, or_true, true_or, or_false, false_or, kP, c_1, c_10, c_22]) rfl dX3_processAt_33
      · refine lv_null hC.1 hC.2.1 dX3_processAt_25 ?_
        exact krA (o := none) hC hr hlk (by simp only [kif_true, kif_false, kb, not_true_eq_false, not_false_eq_true, and_true, true_and, and_false, false_and, and_self, or_true, true_or, or_false, false_or, kP, c_1, c_10, c_22]) rfl dX3_processAt_26
set_option maxHeartbeats 4000000 in
set_option maxRecDepth 100000 in
theorem c_X3_endpointAt (l : Launch) (D : va_G) (G : Nat → ClassId) (L : Nat → Nat) (hL : kL L) (T N : kT) (q : kQ) (e : Int32) : kM l yX3_endpointAt cX3_endpointAt 2 (some (.object "LabelKernel$EndpointRow")) 0 0 (kPc D G L T N q [.ref (L 0), .int e]) (kSq (kif (kEo T e) (some (L (28 + tn e))) none)) (fun _ => False) := by
  refine kBegin (by decide) (Nat.le_of_ble_eq_true rfl) ?_
  intro zp ze zs zm zargs zbelow zmeth zc hC hr hlk hB ls hl
  obtain ⟨hP, hK, hN⟩ := hB
  have hW : kWd D G L (kA L) zs.heap T N q zs.heap [] := kWd.start hL hP
  have hl : lv_has ls 2 [(0, .ref (L 0)), (1, .int e)] := hl
  refine lv_iload_n hC.1 hC.2.1 dX3_endpointAt_0 rfl (lv_at hl 1 rfl) ?_
  refine lv_if_lt (tgt := 25) hC.1 hC.2.1 dX3_endpointAt_1 (by decide) (fun c_1 => ?_) (fun c_1 => ?_)
  · refine lv_null hC.1 hC.2.1 dX3_endpointAt_25 ?_
    exact krA (o := none) hC hr hlk (by simp only [kif_true, kif_false, kb, not_true_eq_false, not_false_eq_true, and_true, true_and, and_false, false_and, and_self, or_true, true_or, or_false, false_or, kEo, c_1]) rfl dX3_endpointAt_26
  · refine lv_iload_n hC.1 hC.2.1 dX3_endpointAt_4 rfl (lv_at hl 1 rfl) ?_
    refine lv_aload_n hC.1 hC.2.1 dX3_endpointAt_5 rfl (lv_at hl 0 rfl) ?_
    refine kg3 hC hK hW 1 (v := .ref (L 2)) rfl (by decide) tf_X3_18 dX3_endpointAt_6 ?_
    refine kal2 hC hK hW dX3_endpointAt_9 ?_
    refine lv_icmp_ge (tgt := 25) hC.1 hC.2.1 dX3_endpointAt_10 (by decide) (fun c_10 => ?_) (fun c_10 => ?_)
    · refine lv_null hC.1 hC.2.1 dX3_endpointAt_25 ?_
      exact krA (o := none) hC hr hlk (by simp only [kif_true, kif_false, kb, not_true_eq_false, not_false_eq_true, and_true, true_and, and_false, false_and, and_self, or_true, true_or, or_false, false_or, kEo, c_1, c_10]) rfl dX3_endpointAt_26
    · refine lv_aload_n hC.1 hC.2.1 dX3_endpointAt_13 rfl (lv_at hl 0 rfl) ?_
      refine kg3 hC hK hW 1 (v := .ref (L 2)) rfl (by decide) tf_X3_18 dX3_endpointAt_14 ?_
      refine lv_iload_n hC.1 hC.2.1 dX3_endpointAt_17 rfl (lv_at hl 1 rfl) ?_
      refine kar2 hC hK hW (kin40 c_1 c_10) dX3_endpointAt_18 ?_
      refine kg0N hC hK hN hW (kin_lt (kin40 c_1 c_10)) 3 (v := .int (T 10 (tn e))) rfl (by decide) tf_X3_127 dX3_endpointAt_19 ?_
      refine lv_if_ne (tgt := 27) hC.1 hC.2.1 dX3_endpointAt_22 (by decide) (fun c_22 => ?_) (fun c_22 => ?_)
      · refine lv_aload_n hC.1 hC.2.1 dX3_endpointAt_27 rfl (lv_at hl 0 rfl) ?_
        refine kg3 hC hK hW 1 (v := .ref (L 2)) rfl (by decide) tf_X3_18 dX3_endpointAt_28 ?_
        refine lv_iload_n hC.1 hC.2.1 dX3_endpointAt_31 rfl (lv_at hl 1 rfl) ?_
        refine kar2 hC hK hW (kin40 c_1 c_10) dX3_endpointAt_32 ?_
        exact krA (o := (some (L (28 + (tn e))))) hC hr hlk (by simp only [kif_true, kif_false, kb, not_true_eq_false, not_false_eq_true, and_true, true_and, and_false, false_and, and_self, or_true, true_or, or_false, false_or, kEo, c_1, c_10, c_22]) rfl dX3_endpointAt_33
      · refine lv_null hC.1 hC.2.1 dX3_endpointAt_25 ?_
        exact krA (o := none) hC hr hlk (by simp only [kif_true, kif_false, kb, not_true_eq_false, not_false_eq_true, and_true, true_and, and_false, false_and, and_self, or_true, true_or, or_false, false_or, kEo, c_1, c_10, c_22]) rfl dX3_endpointAt_26
set_option maxHeartbeats 4000000 in
set_option maxRecDepth 100000 in
theorem c_X3_objectAt (l : Launch) (D : va_G) (G : Nat → ClassId) (L : Nat → Nat) (hL : kL L) (T N : kT) (q : kQ) (o : Int32) : kM l yX3_objectAt cX3_objectAt 2 (some (.object "LabelKernel$ObjectRow")) 0 0 (kPc D G L T N q [.ref (L 0), .int o]) (kSq (kif (kO T o) (some (L (188 + tn o))) none)) (fun _ => False) := by
  refine kBegin (by decide) (Nat.le_of_ble_eq_true rfl) ?_
  intro zp ze zs zm zargs zbelow zmeth zc hC hr hlk hB ls hl
  obtain ⟨hP, hK, hN⟩ := hB
  have hW : kWd D G L (kA L) zs.heap T N q zs.heap [] := kWd.start hL hP
  have hl : lv_has ls 2 [(0, .ref (L 0)), (1, .int o)] := hl
  refine lv_iload_n hC.1 hC.2.1 dX3_objectAt_0 rfl (lv_at hl 1 rfl) ?_
  refine lv_if_lt (tgt := 25) hC.1 hC.2.1 dX3_objectAt_1 (by decide) (fun c_1 => ?_) (fun c_1 => ?_)
  · refine lv_null hC.1 hC.2.1 dX3_objectAt_25 ?_
    exact krA (o := none) hC hr hlk (by simp only [kif_true, kif_false, kb, not_true_eq_false, not_false_eq_true, and_true, true_and, and_false, false_and, and_self, or_true, true_or, or_false, false_or, kO, c_1]) rfl dX3_objectAt_26
  · refine lv_iload_n hC.1 hC.2.1 dX3_objectAt_4 rfl (lv_at hl 1 rfl) ?_
    refine lv_aload_n hC.1 hC.2.1 dX3_objectAt_5 rfl (lv_at hl 0 rfl) ?_
    refine kg3 hC hK hW 2 (v := .ref (L 3)) rfl (by decide) tf_X3_25 dX3_objectAt_6 ?_
    refine kal3 hC hK hW dX3_objectAt_9 ?_
    refine lv_icmp_ge (tgt := 25) hC.1 hC.2.1 dX3_objectAt_10 (by decide) (fun c_10 => ?_) (fun c_10 => ?_)
    · refine lv_null hC.1 hC.2.1 dX3_objectAt_25 ?_
      exact krA (o := none) hC hr hlk (by simp only [kif_true, kif_false, kb, not_true_eq_false, not_false_eq_true, and_true, true_and, and_false, false_and, and_self, or_true, true_or, or_false, false_or, kO, c_1, c_10]) rfl dX3_objectAt_26
    · refine lv_aload_n hC.1 hC.2.1 dX3_objectAt_13 rfl (lv_at hl 0 rfl) ?_
      refine kg3 hC hK hW 2 (v := .ref (L 3)) rfl (by decide) tf_X3_25 dX3_objectAt_14 ?_
      refine lv_iload_n hC.1 hC.2.1 dX3_objectAt_17 rfl (lv_at hl 1 rfl) ?_
      refine kar3 hC hK hW (kin60 c_1 c_10) dX3_objectAt_18 ?_
      refine kg1N hC hK hN hW (kin_lt (kin60 c_1 c_10)) 1 (v := .int (T 18 (tn o))) rfl (by decide) tf_X3_253 dX3_objectAt_19 ?_
      refine lv_if_ne (tgt := 27) hC.1 hC.2.1 dX3_objectAt_22 (by decide) (fun c_22 => ?_) (fun c_22 => ?_)
      · refine lv_aload_n hC.1 hC.2.1 dX3_objectAt_27 rfl (lv_at hl 0 rfl) ?_
        refine kg3 hC hK hW 2 (v := .ref (L 3)) rfl (by decide) tf_X3_25 dX3_objectAt_28 ?_
        refine lv_iload_n hC.1 hC.2.1 dX3_objectAt_31 rfl (lv_at hl 1 rfl) ?_
        refine kar3 hC hK hW (kin60 c_1 c_10) dX3_objectAt_32 ?_
        exact krA (o := (some (L (188 + (tn o))))) hC hr hlk (by simp only [kif_true, kif_false, kb, not_true_eq_false, not_false_eq_true, and_true, true_and, and_false, false_and, and_self, or_true, true_or, or_false, false_or, kO, c_1, c_10, c_22]) rfl dX3_objectAt_33
      · refine lv_null hC.1 hC.2.1 dX3_objectAt_25 ?_
        exact krA (o := none) hC hr hlk (by simp only [kif_true, kif_false, kb, not_true_eq_false, not_false_eq_true, and_true, true_and, and_false, false_and, and_self, or_true, true_or, or_false, false_or, kO, c_1, c_10, c_22]) rfl dX3_objectAt_26
set_option maxHeartbeats 4000000 in
set_option maxRecDepth 100000 in
theorem c_X3_containerAt (l : Launch) (D : va_G) (G : Nat → ClassId) (L : Nat → Nat) (hL : kL L) (T N : kT) (q : kQ) (o : Int32) : kM l yX3_containerAt cX3_containerAt 3 (some (.object "LabelKernel$ObjectRow")) 1 21 (kPc D G L T N q [.ref (L 0), .int o]) (kSq (kif (kCn T o) (some (L (188 + tn o))) none)) (fun _ => False) := by
  refine kBegin (by decide) (Nat.le_of_ble_eq_true rfl) ?_
  intro zp ze zs zm zargs zbelow zmeth zc hC hr hlk hB ls hl
  obtain ⟨hP, hK, hN⟩ := hB
  have hW : kWd D G L (kA L) zs.heap T N q zs.heap [] := kWd.start hL hP
  have hl : lv_has ls 3 [(0, .ref (L 0)), (1, .int o)] := hl
  refine lv_aload_n hC.1 hC.2.1 dX3_containerAt_0 rfl (lv_at hl 0 rfl) ?_
  refine lv_iload_n hC.1 hC.2.1 dX3_containerAt_1 rfl (lv_at hl 1 rfl) ?_
  refine keSq (rest := []) (kcV 0 hC hK hN hW (c_X3_objectAt l D G L hL T N q o) (kgoodV tm_X3_191 ti_yX3_objectAt te_yX3_objectAt tz_X3 tc_yX3_objectAt) kw_m rfl ⟨rfl, by decide, by decide, (show Option.map _ (parseMethodDescriptor yX3_objectAt.desc) = some 1 from by decide +kernel)⟩ ⟨Nat.le_of_ble_eq_true rfl, Nat.le_of_ble_eq_true rfl⟩ hl.1 rfl (Nat.le_of_ble_eq_true rfl) ⟨Nat.le_refl _, Nat.le_refl _⟩ dX3_containerAt_2) ?_
  refine kopt (P := kO T o) (fun c_2 => ?_) (fun c_2 => ?_)
  · refine lv_astore_n (lv' := [(2, .ref (L (188 + (tn o)))), (0, .ref (L 0)), (1, .int o)]) hC.1 hC.2.1 dX3_containerAt_5 rfl hl (by decide) rfl (fun ls hl => ?_)
    refine lv_aload_n hC.1 hC.2.1 dX3_containerAt_6 rfl (lv_at hl 0 rfl) ?_
    refine lv_ifnull hC.1 hC.2.1 dX3_containerAt_7 ?_
    refine lv_aload_n hC.1 hC.2.1 dX3_containerAt_10 rfl (lv_at hl 0 rfl) ?_
    refine kg1N hC hK hN hW (kO.lt c_2) 2 (v := .int (T 19 (tn o))) rfl (by decide) tf_X3_229 dX3_containerAt_11 ?_
    refine lv_if_eq (tgt := 21) hC.1 hC.2.1 dX3_containerAt_14 (by decide) (fun c_14 => ?_) (fun c_14 => ?_)
    · refine lv_null hC.1 hC.2.1 dX3_containerAt_21 ?_
      exact krA (o := none) hC hr hlk (by simp only [kif_true, kif_false, kb, not_true_eq_false, not_false_eq_true, and_true, true_and, and_false, false_and, and_self, or_true, true_or, or_false, false_or, kCn, c_2, c_14]) rfl dX3_containerAt_22
    · refine lv_aload_n hC.1 hC.2.1 dX3_containerAt_17 rfl (lv_at hl 0 rfl) ?_
      refine lv_goto (tgt := 22) hC.1 hC.2.1 dX3_containerAt_18 (by decide) ?_
      exact krA (o := (some (L (188 + (tn o))))) hC hr hlk (by simp only [kif_true, kif_false, kb, not_true_eq_false, not_false_eq_true, and_true, true_and, and_false, false_and, and_self, or_true, true_or, or_false, false_or, kCn, c_2, c_14]) rfl dX3_containerAt_22
  · refine lv_astore_nN (lv' := [(2, .null), (0, .ref (L 0)), (1, .int o)]) hC.1 hC.2.1 dX3_containerAt_5 rfl hl (by decide) rfl (fun ls hl => ?_)
    refine lv_aload_nN hC.1 hC.2.1 dX3_containerAt_6 rfl (lv_at hl 0 rfl) ?_
    refine lv_ifnullN (tgt := 21) hC.1 hC.2.1 dX3_containerAt_7 (by decide) ?_
    refine lv_null hC.1 hC.2.1 dX3_containerAt_21 ?_
    exact krA (o := none) hC hr hlk (by simp only [kif_true, kif_false, kb, not_true_eq_false, not_false_eq_true, and_true, true_and, and_false, false_and, and_self, or_true, true_or, or_false, false_or, kCn, c_2]) rfl dX3_containerAt_22
set_option maxHeartbeats 4000000 in
set_option maxRecDepth 100000 in
theorem c_X3_fileAt (l : Launch) (D : va_G) (G : Nat → ClassId) (L : Nat → Nat) (hL : kL L) (T N : kT) (q : kQ) (o : Int32) : kM l yX3_fileAt cX3_fileAt 3 (some (.object "LabelKernel$ObjectRow")) 1 21 (kPc D G L T N q [.ref (L 0), .int o]) (kSq (kif (kFl T o) (some (L (188 + tn o))) none)) (fun _ => False) := by
  refine kBegin (by decide) (Nat.le_of_ble_eq_true rfl) ?_
  intro zp ze zs zm zargs zbelow zmeth zc hC hr hlk hB ls hl
  obtain ⟨hP, hK, hN⟩ := hB
  have hW : kWd D G L (kA L) zs.heap T N q zs.heap [] := kWd.start hL hP
  have hl : lv_has ls 3 [(0, .ref (L 0)), (1, .int o)] := hl
  refine lv_aload_n hC.1 hC.2.1 dX3_fileAt_0 rfl (lv_at hl 0 rfl) ?_
  refine lv_iload_n hC.1 hC.2.1 dX3_fileAt_1 rfl (lv_at hl 1 rfl) ?_
  refine keSq (rest := []) (kcV 0 hC hK hN hW (c_X3_objectAt l D G L hL T N q o) (kgoodV tm_X3_191 ti_yX3_objectAt te_yX3_objectAt tz_X3 tc_yX3_objectAt) kw_m rfl ⟨rfl, by decide, by decide, (show Option.map _ (parseMethodDescriptor yX3_objectAt.desc) = some 1 from by decide +kernel)⟩ ⟨Nat.le_of_ble_eq_true rfl, Nat.le_of_ble_eq_true rfl⟩ hl.1 rfl (Nat.le_of_ble_eq_true rfl) ⟨Nat.le_refl _, Nat.le_refl _⟩ dX3_fileAt_2) ?_
  refine kopt (P := kO T o) (fun c_2 => ?_) (fun c_2 => ?_)
  · refine lv_astore_n (lv' := [(2, .ref (L (188 + (tn o)))), (0, .ref (L 0)), (1, .int o)]) hC.1 hC.2.1 dX3_fileAt_5 rfl hl (by decide) rfl (fun ls hl => ?_)
    refine lv_aload_n hC.1 hC.2.1 dX3_fileAt_6 rfl (lv_at hl 0 rfl) ?_
    refine lv_ifnull hC.1 hC.2.1 dX3_fileAt_7 ?_
    refine lv_aload_n hC.1 hC.2.1 dX3_fileAt_10 rfl (lv_at hl 0 rfl) ?_
    refine kg1N hC hK hN hW (kO.lt c_2) 2 (v := .int (T 19 (tn o))) rfl (by decide) tf_X3_229 dX3_fileAt_11 ?_
    refine lv_if_ne (tgt := 21) hC.1 hC.2.1 dX3_fileAt_14 (by decide) (fun c_14 => ?_) (fun c_14 => ?_)
    · refine lv_null hC.1 hC.2.1 dX3_fileAt_21 ?_
      exact krA (o := none) hC hr hlk (by simp only [kif_true, kif_false, kb, not_true_eq_false, not_false_eq_true, and_true, true_and, and_false, false_and, and_self, or_true, true_or, or_false, false_or, kFl, c_2, c_14]) rfl dX3_fileAt_22
    · refine lv_aload_n hC.1 hC.2.1 dX3_fileAt_17 rfl (lv_at hl 0 rfl) ?_
      refine lv_goto (tgt := 22) hC.1 hC.2.1 dX3_fileAt_18 (by decide) ?_
      exact krA (o := (some (L (188 + (tn o))))) hC hr hlk (by simp only [kif_true, kif_false, kb, not_true_eq_false, not_false_eq_true, and_true, true_and, and_false, false_and, and_self, or_true, true_or, or_false, false_or, kFl, c_2, c_14]) rfl dX3_fileAt_22
  · refine lv_astore_nN (lv' := [(2, .null), (0, .ref (L 0)), (1, .int o)]) hC.1 hC.2.1 dX3_fileAt_5 rfl hl (by decide) rfl (fun ls hl => ?_)
    refine lv_aload_nN hC.1 hC.2.1 dX3_fileAt_6 rfl (lv_at hl 0 rfl) ?_
    refine lv_ifnullN (tgt := 21) hC.1 hC.2.1 dX3_fileAt_7 (by decide) ?_
    refine lv_null hC.1 hC.2.1 dX3_fileAt_21 ?_
    exact krA (o := none) hC hr hlk (by simp only [kif_true, kif_false, kb, not_true_eq_false, not_false_eq_true, and_true, true_and, and_false, false_and, and_self, or_true, true_or, or_false, false_or, kFl, c_2]) rfl dX3_fileAt_22
set_option maxHeartbeats 4000000 in
set_option maxRecDepth 100000 in
theorem c_X3_standsIn (l : Launch) (D : va_G) (G : Nat → ClassId) (L : Nat → Nat) (hL : kL L) (T N : kT) (q : kQ) (o : Int32) (c : Int32) : kM l yX3_standsIn cX3_standsIn 4 (some .boolean) 1 21 (kPc D G L T N q [.ref (L 0), .int o, .int c]) (kSi (kb (kIn T o c))) (fun _ => False) := by
  refine kBegin (by decide) (Nat.le_of_ble_eq_true rfl) ?_
  intro zp ze zs zm zargs zbelow zmeth zc hC hr hlk hB ls hl
  obtain ⟨hP, hK, hN⟩ := hB
  have hW : kWd D G L (kA L) zs.heap T N q zs.heap [] := kWd.start hL hP
  have hl : lv_has ls 4 [(0, .ref (L 0)), (1, .int o), (2, .int c)] := hl
  refine lv_aload_n hC.1 hC.2.1 dX3_standsIn_0 rfl (lv_at hl 0 rfl) ?_
  refine lv_iload_n hC.1 hC.2.1 dX3_standsIn_1 rfl (lv_at hl 1 rfl) ?_
  refine keSq (rest := []) (kcV 0 hC hK hN hW (c_X3_objectAt l D G L hL T N q o) (kgoodV tm_X3_191 ti_yX3_objectAt te_yX3_objectAt tz_X3 tc_yX3_objectAt) kw_m rfl ⟨rfl, by decide, by decide, (show Option.map _ (parseMethodDescriptor yX3_objectAt.desc) = some 1 from by decide +kernel)⟩ ⟨Nat.le_of_ble_eq_true rfl, Nat.le_of_ble_eq_true rfl⟩ hl.1 rfl (Nat.le_of_ble_eq_true rfl) ⟨Nat.le_refl _, Nat.le_refl _⟩ dX3_standsIn_2) ?_
  refine kopt (P := kO T o) (fun c_2 => ?_) (fun c_2 => ?_)
  · refine lv_astore_n (lv' := [(3, .ref (L (188 + (tn o)))), (0, .ref (L 0)), (1, .int o), (2, .int c)]) hC.1 hC.2.1 dX3_standsIn_5 rfl hl (by decide) rfl (fun ls hl => ?_)
    refine lv_aload_n hC.1 hC.2.1 dX3_standsIn_6 rfl (lv_at hl 0 rfl) ?_
    refine lv_ifnull hC.1 hC.2.1 dX3_standsIn_7 ?_
    refine lv_aload_n hC.1 hC.2.1 dX3_standsIn_10 rfl (lv_at hl 0 rfl) ?_
    refine kg1N hC hK hN hW (kO.lt c_2) 3 (v := .int (T 20 (tn o))) rfl (by decide) tf_X3_194 dX3_standsIn_11 ?_
    refine lv_iload_n hC.1 hC.2.1 dX3_standsIn_14 rfl (lv_at hl 3 rfl) ?_
    refine lv_icmp_ne (tgt := 22) hC.1 hC.2.1 dX3_standsIn_15 (by decide) (fun c_15 => ?_) (fun c_15 => ?_)
    · refine lv_iconst (v := 0) hC.1 hC.2.1 dX3_standsIn_22 (by decide) ?_
      exact krZ hC hr hlk (Or.inl rfl) (by simp only [kif_true, kif_false, kb, not_true_eq_false, not_false_eq_true, and_true, true_and, and_false, false_and, and_self, or_true, true_or, or_false, false_or, kIn, c_2, c_15]) dX3_standsIn_23
    · refine lv_iconst (v := 1) hC.1 hC.2.1 dX3_standsIn_18 (by decide) ?_
      refine lv_goto (tgt := 23) hC.1 hC.2.1 dX3_standsIn_19 (by decide) ?_
      exact krZ hC hr hlk (Or.inr rfl) (by simp only [kif_true, kif_false, kb, not_true_eq_false, not_false_eq_true, and_true, true_and, and_false, false_and, and_self, or_true, true_or, or_false, false_or, kIn, c_2, c_15]) dX3_standsIn_23
  · refine lv_astore_nN (lv' := [(3, .null), (0, .ref (L 0)), (1, .int o), (2, .int c)]) hC.1 hC.2.1 dX3_standsIn_5 rfl hl (by decide) rfl (fun ls hl => ?_)
    refine lv_aload_nN hC.1 hC.2.1 dX3_standsIn_6 rfl (lv_at hl 0 rfl) ?_
    refine lv_ifnullN (tgt := 22) hC.1 hC.2.1 dX3_standsIn_7 (by decide) ?_
    refine lv_iconst (v := 0) hC.1 hC.2.1 dX3_standsIn_22 (by decide) ?_
    exact krZ hC hr hlk (Or.inl rfl) (by simp only [kif_true, kif_false, kb, not_true_eq_false, not_false_eq_true, and_true, true_and, and_false, false_and, and_self, or_true, true_or, or_false, false_or, kIn, c_2]) dX3_standsIn_23
