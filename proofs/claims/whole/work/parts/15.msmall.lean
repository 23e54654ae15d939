theorem ksum_tail {f : Nat → Int32} {n : Nat} : ∀ {m : Nat}, n ≤ m → (∀ i, n ≤ i → i < m → f i = 0) → ksum f m = ksum f n
  | 0, h, _ => by
    have e : n = 0 := by omega
    rw [e]
  | m + 1, h, hz => by
    rcases Nat.lt_or_ge m n with q | q
    · have e : n = m + 1 := by omega
      rw [e]
    · show ksum f m + f m = ksum f n
      rw [hz m q (by omega), Int32.add_zero]
      exact ksum_tail q (fun i h1 h2 => hz i h1 (by omega))
theorem kdf_tail {f : Nat → Int32} {x : Int32} {n : Nat} : ∀ {m : Nat}, n ≤ m → (∀ i, n ≤ i → i < m → f i = 0) → kdf f x m = kdf f x n
  | 0, h, _ => by
    have e : n = 0 := by omega
    rw [e]
  | m + 1, h, hz => by
    rcases Nat.lt_or_ge m n with q | q
    · have e : n = m + 1 := by omega
      rw [e]
    · show kdf f x m - f m = kdf f x n
      rw [hz m q (by omega), Int32.sub_zero]
      exact kdf_tail q (fun i h1 h2 => hz i h1 (by omega))
theorem ksum_cong {f g : Nat → Int32} : ∀ {n : Nat}, (∀ i, i < n → f i = g i) → ksum f n = ksum g n
  | 0, _ => rfl
  | n + 1, h => by show ksum f n + f n = ksum g n + g n; rw [ksum_cong (fun i hi => h i (by omega)), h n (by omega)]
theorem kdf_cong {f g : Nat → Int32} {x : Int32} : ∀ {n : Nat}, (∀ i, i < n → f i = g i) → kdf f x n = kdf g x n
  | 0, _ => rfl
  | n + 1, h => by show kdf f x n - f n = kdf g x n - g n; rw [kdf_cong (fun i hi => h i (by omega)), h n (by omega)]
theorem kOpn_n {T : kT} {p : Int32} (hI : kI2 T) : kOpn T p (tn (T 0 2)) = kOpn T p 40 :=
  (ksum_tail hI.2.1 (fun i h1 _ => by rw [kb_f]; exact fun z => z.1 (hI.2.2 i h1))).symm
theorem kLiv_n {T : kT} (hI : kI1 T) : kLiv T (tn (T 0 1)) = kLiv T 24 :=
  (ksum_tail hI.2.2.1 (fun i h1 _ => by rw [kb_f]; exact fun z => z (hI.2.2.2 i h1))).symm
theorem kOps_n {T : kT} (hI : kI2 T) : kOps T (tn (T 0 2)) = kOps T 40 :=
  (ksum_tail hI.2.1 (fun i h1 _ => by rw [kb_f]; exact fun z => z (hI.2.2 i h1))).symm
theorem kThr_n {T : kT} (hI : kI3 T) : kThr T (tn (T 0 3)) = kThr T 60 :=
  (ksum_tail hI.2.2.1 (fun i h1 _ => by rw [kb_f]; exact fun z => z (hI.2.2.2 i h1))).symm
def kSui (T : kT) (r : Nat) (a b : Int32) : Prop := kWi (a ^^^ T 3 r) (kBoth T (T 5 r) (T 6 r)) ∧ kWi (b ^^^ T 4 r) (kBoth T (T 5 r) (T 6 r))
theorem i32_or0 (x y : Int32) : x ||| y = 0 ↔ x = 0 ∧ y = 0 := by
  rw [← Int32.toBitVec_inj, ← Int32.toBitVec_inj, ← Int32.toBitVec_inj, Int32.toBitVec_or]
  exact BitVec.or_eq_zero_iff
theorem kWi_or (x y b : Int32) : kWi (x ||| y) b ↔ kWi x b ∧ kWi y b := by
  unfold kWi
  have e : (x ||| y) &&& (b ^^^ (-1)) = (x &&& (b ^^^ (-1))) ||| (y &&& (b ^^^ (-1))) := by
    rw [← Int32.toBitVec_inj]
    simp only [Int32.toBitVec_and, Int32.toBitVec_or]
    apply BitVec.eq_of_getLsbD_eq
    intro j hj
    simp [Bool.and_or_distrib_right]
  rw [e]
  exact i32_or0 _ _
theorem kFit_n {T : kT} {p : Int32} (hI : kI2 T) : kFit T p (T 3 (tn p)) (T 4 (tn p)) (kBoth T (T 5 (tn p)) (T 6 (tn p))) ↔ ∀ x, x < tn (T 0 2) → ¬ (¬ T 10 x = 0 ∧ T 11 x = p ∧ ¬ kSui T (tn p) (T 12 x) (T 13 x)) := by
  unfold kFit
  constructor
  · intro h x hx z
    exact h x (by have := hI.2.1; omega) ⟨z.1, z.2.1, fun q => z.2.2 (by unfold kSui; exact (kWi_or _ _ _).mp q)⟩
  · intro h x hx z
    rcases Nat.lt_or_ge x (tn (T 0 2)) with q | q
    · exact h x q ⟨z.1, z.2.1, fun w => z.2.2 ((kWi_or _ _ _).mpr w)⟩
    · exact z.1 (hI.2.2 x q)
def kI5 (T : kT) : Prop := ∀ x, (T 19 x = 0 → T 24 x = 0) ∧ (¬ T 19 x = 0 → T 25 x = 0)
noncomputable def mbf (T : kT) (c : Int32) (o : Nat) : Int32 := kif (¬ T 18 o = 0 ∧ T 20 o = c) (kif (T 19 o = 0) (kBf (T 25 o)) (T 23 o)) 0
noncomputable def mpf (T : kT) (c : Int32) (o : Nat) : Int32 := kif (¬ T 18 o = 0 ∧ T 20 o = c) (kif (T 19 o = 0) 1 (1 + T 24 o)) 0
theorem kIn_n {T : kT} {c : Int32} {o : Nat} (h : o < 60) : kIn T (nI o) c ↔ ¬ T 18 o = 0 ∧ T 20 o = c := by
  unfold kIn kO
  rw [tn_nI (by omega)]
  constructor
  · rintro ⟨⟨-, -, h3⟩, h4⟩
    exact ⟨h3, h4⟩
  · rintro ⟨h3, h4⟩
    exact ⟨⟨nI_pos (by omega), nI_ge (by omega) (by decide), h3⟩, h4⟩
theorem kbl_n {T : kT} {c : Int32} {x : Int32} (hI : kI3 T) : kdf (kbf T c) x 60 = kdf (mbf T c) x (tn (T 0 3)) := by
  have e : kdf (kbf T c) x 60 = kdf (mbf T c) x 60 := kdf_cong (fun i hi => by
    unfold kbf mbf kBt
    exact kif_c (kIn_n hi))
  rw [e]
  refine kdf_tail hI.2.2.1 (fun i h1 _ => ?_)
  unfold mbf
  exact kif_f (fun z => z.1 (hI.2.2.2 i h1))
theorem kpl_n {T : kT} {c : Int32} {x : Int32} (hI : kI3 T) (hI5 : kI5 T) : kdf (kpf T c) x 60 = kdf (mpf T c) x (tn (T 0 3)) := by
  have e : kdf (kpf T c) x 60 = kdf (mpf T c) x 60 := kdf_cong (fun i hi => by
    unfold kpf mpf
    rw [kif_c (kIn_n hi)]
    by_cases h : T 19 i = 0
    · rw [kif_t (P := T 19 i = 0) h, (hI5 i).1 h, Int32.add_zero]
    · rw [kif_f (P := T 19 i = 0) h])
  rw [e]
  refine kdf_tail hI.2.2.1 (fun i h1 _ => ?_)
  unfold mpf
  exact kif_f (fun z => z.1 (hI.2.2.2 i h1))
set_option maxHeartbeats 4000000 in
set_option maxRecDepth 100000 in
theorem c_X4_within (l : Launch) (v : Int64) (a : Int64) (b : Int64) : kM l yX4_within cX4_within 6 (some .boolean) 0 0 (kP0 [.long v, .long a, .long b]) (kSi (kb (kWt v a b))) (fun _ => False) := by
  refine kBegin (by decide) (Nat.le_of_ble_eq_true rfl) ?_
  intro zp ze zs zm zargs zbelow zmeth zc hC hr hlk hB ls hl
  have hl : lv_has ls 6 [(0, .long v), (2, .long a), (4, .long b)] := hl
  refine lv_lload_n hC.1 hC.2.1 dX4_within_0 rfl (lv_at hl 0 rfl) ?_
  refine lv_lload_n hC.1 hC.2.1 dX4_within_1 rfl (lv_at hl 1 rfl) ?_
  refine W.lcmp hC.1 hC.2.1 dX4_within_2 ?_
  refine lv_if_lt (tgt := 17) hC.1 hC.2.1 dX4_within_3 (by decide) (fun c_3 => ?_) (fun c_3 => ?_)
  · refine lv_iconst (v := 0) hC.1 hC.2.1 dX4_within_17 (by decide) ?_
    exact krZ hC hr hlk (Or.inl rfl) ((kb_f (fun z => z.1 ((lg_lt v a).mp c_3))).symm) dX4_within_18
  · refine lv_lload_n hC.1 hC.2.1 dX4_within_6 rfl (lv_at hl 0 rfl) ?_
    refine lv_lload hC.1 hC.2.1 dX4_within_7 (lv_at hl 2 rfl) ?_
    refine W.lcmp hC.1 hC.2.1 dX4_within_9 ?_
    refine lv_if_gt (tgt := 17) hC.1 hC.2.1 dX4_within_10 (by decide) (fun c_10 => ?_) (fun c_10 => ?_)
    · refine lv_iconst (v := 0) hC.1 hC.2.1 dX4_within_17 (by decide) ?_
      exact krZ hC hr hlk (Or.inl rfl) ((kb_f (fun z => z.2 ((lg_gt v b).mp c_10))).symm) dX4_within_18
    · refine lv_iconst (v := 1) hC.1 hC.2.1 dX4_within_13 (by decide) ?_
      refine lv_goto (tgt := 18) hC.1 hC.2.1 dX4_within_14 (by decide) ?_
      exact krZ hC hr hlk (Or.inr rfl) ((kb_t ⟨fun z => c_3 ((lg_lt v a).mpr z), fun z => c_10 ((lg_gt v b).mpr z)⟩).symm) dX4_within_18
set_option maxHeartbeats 4000000 in
set_option maxRecDepth 100000 in
theorem c_X4_flows (l : Launch) (sa : Int32) (ta : Int32) (sb : Int32) (tb : Int32) : kM l yX4_flows cX4_flows 4 (some .boolean) 0 0 (kP0 [.int sa, .int ta, .int sb, .int tb]) (kSi (kb (kFw sa ta sb tb))) (fun _ => False) := by
  refine kBegin (by decide) (Nat.le_of_ble_eq_true rfl) ?_
  intro zp ze zs zm zargs zbelow zmeth zc hC hr hlk hB ls hl
  have hl : lv_has ls 4 [(0, .int sa), (1, .int ta), (2, .int sb), (3, .int tb)] := hl
  refine lv_iload_n hC.1 hC.2.1 dX4_flows_0 rfl (lv_at hl 0 rfl) ?_
  refine lv_iload_n hC.1 hC.2.1 dX4_flows_1 rfl (lv_at hl 2 rfl) ?_
  refine lv_iconst (v := (-1)) hC.1 hC.2.1 dX4_flows_2 (by decide) ?_
  refine lv_ixor hC.1 hC.2.1 dX4_flows_3 ?_
  refine lv_iand hC.1 hC.2.1 dX4_flows_4 ?_
  refine lv_if_ne (tgt := 20) hC.1 hC.2.1 dX4_flows_5 (by decide) (fun c_5 => ?_) (fun c_5 => ?_)
  · refine lv_iconst (v := 0) hC.1 hC.2.1 dX4_flows_20 (by decide) ?_
    exact krZ hC hr hlk (Or.inl rfl) (by simp only [kif_true, kif_false, kb, kup_eq, kup_f, kup_i, not_true_eq_false, not_false_eq_true, and_true, true_and, and_false, false_and, and_self, or_true, true_or, or_false, false_or, kFw, kWi, c_5]) dX4_flows_21
  · refine lv_iload_n hC.1 hC.2.1 dX4_flows_8 rfl (lv_at hl 3 rfl) ?_
    refine lv_iload_n hC.1 hC.2.1 dX4_flows_9 rfl (lv_at hl 1 rfl) ?_
    refine lv_iconst (v := (-1)) hC.1 hC.2.1 dX4_flows_10 (by decide) ?_
    refine lv_ixor hC.1 hC.2.1 dX4_flows_11 ?_
    refine lv_iand hC.1 hC.2.1 dX4_flows_12 ?_
    refine lv_if_ne (tgt := 20) hC.1 hC.2.1 dX4_flows_13 (by decide) (fun c_13 => ?_) (fun c_13 => ?_)
    · refine lv_iconst (v := 0) hC.1 hC.2.1 dX4_flows_20 (by decide) ?_
      exact krZ hC hr hlk (Or.inl rfl) (by simp only [kif_true, kif_false, kb, kup_eq, kup_f, kup_i, not_true_eq_false, not_false_eq_true, and_true, true_and, and_false, false_and, and_self, or_true, true_or, or_false, false_or, kFw, kWi, c_5, c_13]) dX4_flows_21
    · refine lv_iconst (v := 1) hC.1 hC.2.1 dX4_flows_16 (by decide) ?_
      refine lv_goto (tgt := 21) hC.1 hC.2.1 dX4_flows_17 (by decide) ?_
      exact krZ hC hr hlk (Or.inr rfl) (by simp only [kif_true, kif_false, kb, kup_eq, kup_f, kup_i, not_true_eq_false, not_false_eq_true, and_true, true_and, and_false, false_and, and_self, or_true, true_or, or_false, false_or, kFw, kWi, c_5, c_13]) dX4_flows_21
set_option maxHeartbeats 4000000 in
set_option maxRecDepth 100000 in
theorem c_X4_blocksOf (l : Launch) (n : Int32) : kM l yX4_blocksOf cX4_blocksOf 1 (some .int) 0 0 (kP0 [.int n]) (kSi (kBf n)) (fun _ => False) := by
  refine kBegin (by decide) (Nat.le_of_ble_eq_true rfl) ?_
  intro zp ze zs zm zargs zbelow zmeth zc hC hr hlk hB ls hl
  have hl : lv_has ls 1 [(0, .int n)] := hl
  refine lv_iload_n hC.1 hC.2.1 dX4_blocksOf_0 rfl (lv_at hl 0 rfl) ?_
  refine lv_iconst (v := 3) hC.1 hC.2.1 dX4_blocksOf_1 (by decide) ?_
  refine lv_iadd hC.1 hC.2.1 dX4_blocksOf_2 ?_
  refine lv_iconst (v := 4) hC.1 hC.2.1 dX4_blocksOf_3 (by decide) ?_
  refine lv_idiv hC.1 hC.2.1 dX4_blocksOf_4 (by decide) ?_
  exact krS hC hr hlk (by unfold kBf; rw [show n + 4 - 1 = n + 3 from by rw [Int32.sub_eq_add_neg, Int32.add_assoc]; rfl]) dX4_blocksOf_5
set_option maxHeartbeats 4000000 in
set_option maxRecDepth 100000 in
theorem c_X4_isProcess (l : Launch) (D : va_G) (G : Nat → ClassId) (M : Nat → Nat) (hL : mL M) (T N : kT) (r g : Nat → Int32) (p : Int32) (hI : kI1 T) : kM l yX4_isProcess cX4_isProcess 2 (some .boolean) 1 25 (mPc D G M T N r g [.ref (M 0), .int p]) (kSi (kb (kP T p))) (fun _ => False) := by
  refine kBegin (by decide) (Nat.le_of_ble_eq_true rfl) ?_
  intro zp ze zs zm zargs zbelow zmeth zc hC hr hlk hB ls hl
  obtain ⟨hP, hK⟩ := hB
  have hW : mWd D G M (mA M) zs.heap T N r g zs.heap [] := mWd.start hL hP
  have hl : lv_has ls 2 [(0, .ref (M 0)), (1, .int p)] := hl
  refine lv_iload_n hC.1 hC.2.1 dX4_isProcess_0 rfl (lv_at hl 1 rfl) ?_
  refine lv_i2l hC.1 hC.2.1 dX4_isProcess_1 rfl ?_
  refine lv_lconst (v := 0) hC.1 hC.2.1 dX4_isProcess_2 (by decide) ?_
  refine lv_aload_n hC.1 hC.2.1 dX4_isProcess_3 rfl (lv_at hl 0 rfl) ?_
  refine mg4 hC hK hW 3 (v := .int (T 0 1)) rfl (by decide) rfl tf_X4_84 dX4_isProcess_4 ?_
  refine lv_iconst (v := 1) hC.1 hC.2.1 dX4_isProcess_7 (by decide) ?_
  refine lv_isub hC.1 hC.2.1 dX4_isProcess_8 ?_
  refine lv_i2l hC.1 hC.2.1 dX4_isProcess_9 rfl ?_
  refine keSi (rest := []) (kcS0 hC (c_X4_within l p.toInt64 0 (((T 0 1) - 1).toInt64)) (kgoodS tm_X4_93 ts_yX4_within tz_X4 tc_yX4_within) ⟨rfl, by decide, by decide, (show Option.map _ (parseMethodDescriptor yX4_within.desc) = some 3 from by decide +kernel)⟩ ⟨Nat.le_of_ble_eq_true rfl, Nat.le_of_ble_eq_true rfl⟩ hl.1 rfl (Nat.le_of_ble_eq_true rfl) ⟨Nat.le_refl _, Nat.le_refl _⟩ dX4_isProcess_10) ?_
  refine kif_eq (tgt := 29) hC.1 hC.2.1 dX4_isProcess_13 (by decide) (fun c_13 => ?_) (fun c_13 => ?_)
  · refine lv_iconst (v := 0) hC.1 hC.2.1 dX4_isProcess_29 (by decide) ?_
    exact krZ hC hr hlk (Or.inl rfl) (kb_f (fun z => c_13 ((kwt_n hI.1).mpr ((mkP hI).mp z).1))).symm dX4_isProcess_30
  · refine lv_aload_n hC.1 hC.2.1 dX4_isProcess_16 rfl (lv_at hl 0 rfl) ?_
    refine mg4 hC hK hW 4 (v := .ref (M 1)) rfl (by decide) rfl tf_X4_7 dX4_isProcess_17 ?_
    refine lv_iload_n hC.1 hC.2.1 dX4_isProcess_20 rfl (lv_at hl 1 rfl) ?_
    refine mab hC hK hW 1 (by decide) rfl (i := p) (kP.inh hI c_13) dX4_isProcess_21 ?_
    refine lv_if_eq (tgt := 29) hC.1 hC.2.1 dX4_isProcess_22 (by decide) (fun c_22 => ?_) (fun c_22 => ?_)
    · refine lv_iconst (v := 0) hC.1 hC.2.1 dX4_isProcess_29 (by decide) ?_
      exact krZ hC hr hlk (Or.inl rfl) (kb_f (fun z => z.2.2 c_22)).symm dX4_isProcess_30
    · refine lv_iconst (v := 1) hC.1 hC.2.1 dX4_isProcess_25 (by decide) ?_
      refine lv_goto (tgt := 30) hC.1 hC.2.1 dX4_isProcess_26 (by decide) ?_
      exact krZ hC hr hlk (Or.inr rfl) (kb_t ((mkP hI).mpr ⟨(kwt_n hI.1).mp c_13, c_22⟩)).symm dX4_isProcess_30
set_option maxHeartbeats 4000000 in
set_option maxRecDepth 100000 in
theorem c_X4_isPort (l : Launch) (D : va_G) (G : Nat → ClassId) (M : Nat → Nat) (hL : mL M) (T N : kT) (r g : Nat → Int32) (x : Int32) (hI : kI2 T) : kM l yX4_isPort cX4_isPort 2 (some .boolean) 1 25 (mPc D G M T N r g [.ref (M 0), .int x]) (kSi (kb (kEo T x))) (fun _ => False) := by
  refine kBegin (by decide) (Nat.le_of_ble_eq_true rfl) ?_
  intro zp ze zs zm zargs zbelow zmeth zc hC hr hlk hB ls hl
  obtain ⟨hP, hK⟩ := hB
  have hW : mWd D G M (mA M) zs.heap T N r g zs.heap [] := mWd.start hL hP
  have hl : lv_has ls 2 [(0, .ref (M 0)), (1, .int x)] := hl
  refine lv_iload_n hC.1 hC.2.1 dX4_isPort_0 rfl (lv_at hl 1 rfl) ?_
  refine lv_i2l hC.1 hC.2.1 dX4_isPort_1 rfl ?_
  refine lv_lconst (v := 0) hC.1 hC.2.1 dX4_isPort_2 (by decide) ?_
  refine lv_aload_n hC.1 hC.2.1 dX4_isPort_3 rfl (lv_at hl 0 rfl) ?_
  refine mg4 hC hK hW 11 (v := .int (T 0 2)) rfl (by decide) rfl tf_X4_100 dX4_isPort_4 ?_
  refine lv_iconst (v := 1) hC.1 hC.2.1 dX4_isPort_7 (by decide) ?_
  refine lv_isub hC.1 hC.2.1 dX4_isPort_8 ?_
  refine lv_i2l hC.1 hC.2.1 dX4_isPort_9 rfl ?_
  refine keSi (rest := []) (kcS0 hC (c_X4_within l x.toInt64 0 (((T 0 2) - 1).toInt64)) (kgoodS tm_X4_93 ts_yX4_within tz_X4 tc_yX4_within) ⟨rfl, by decide, by decide, (show Option.map _ (parseMethodDescriptor yX4_within.desc) = some 3 from by decide +kernel)⟩ ⟨Nat.le_of_ble_eq_true rfl, Nat.le_of_ble_eq_true rfl⟩ hl.1 rfl (Nat.le_of_ble_eq_true rfl) ⟨Nat.le_refl _, Nat.le_refl _⟩ dX4_isPort_10) ?_
  refine kif_eq (tgt := 29) hC.1 hC.2.1 dX4_isPort_13 (by decide) (fun c_13 => ?_) (fun c_13 => ?_)
  · refine lv_iconst (v := 0) hC.1 hC.2.1 dX4_isPort_29 (by decide) ?_
    exact krZ hC hr hlk (Or.inl rfl) (kb_f (fun z => c_13 ((kwt_n hI.1).mpr ((mkE hI).mp z).1))).symm dX4_isPort_30
  · refine lv_aload_n hC.1 hC.2.1 dX4_isPort_16 rfl (lv_at hl 0 rfl) ?_
    refine mg4 hC hK hW 12 (v := .ref (M 8)) rfl (by decide) rfl tf_X4_32 dX4_isPort_17 ?_
    refine lv_iload_n hC.1 hC.2.1 dX4_isPort_20 rfl (lv_at hl 1 rfl) ?_
    refine mab hC hK hW 8 (by decide) rfl (i := x) (kEo.inh hI c_13) dX4_isPort_21 ?_
    refine lv_if_eq (tgt := 29) hC.1 hC.2.1 dX4_isPort_22 (by decide) (fun c_22 => ?_) (fun c_22 => ?_)
    · refine lv_iconst (v := 0) hC.1 hC.2.1 dX4_isPort_29 (by decide) ?_
      exact krZ hC hr hlk (Or.inl rfl) (kb_f (fun z => z.2.2 c_22)).symm dX4_isPort_30
    · refine lv_iconst (v := 1) hC.1 hC.2.1 dX4_isPort_25 (by decide) ?_
      refine lv_goto (tgt := 30) hC.1 hC.2.1 dX4_isPort_26 (by decide) ?_
      exact krZ hC hr hlk (Or.inr rfl) (kb_t ((mkE hI).mpr ⟨(kwt_n hI.1).mp c_13, c_22⟩)).symm dX4_isPort_30
set_option maxHeartbeats 4000000 in
set_option maxRecDepth 100000 in
theorem c_X4_isObject (l : Launch) (D : va_G) (G : Nat → ClassId) (M : Nat → Nat) (hL : mL M) (T N : kT) (r g : Nat → Int32) (o : Int32) (hI : kI3 T) : kM l yX4_isObject cX4_isObject 2 (some .boolean) 1 25 (mPc D G M T N r g [.ref (M 0), .int o]) (kSi (kb (kO T o))) (fun _ => False) := by
  refine kBegin (by decide) (Nat.le_of_ble_eq_true rfl) ?_
  intro zp ze zs zm zargs zbelow zmeth zc hC hr hlk hB ls hl
  obtain ⟨hP, hK⟩ := hB
  have hW : mWd D G M (mA M) zs.heap T N r g zs.heap [] := mWd.start hL hP
  have hl : lv_has ls 2 [(0, .ref (M 0)), (1, .int o)] := hl
  refine lv_iload_n hC.1 hC.2.1 dX4_isObject_0 rfl (lv_at hl 1 rfl) ?_
  refine lv_i2l hC.1 hC.2.1 dX4_isObject_1 rfl ?_
  refine lv_lconst (v := 0) hC.1 hC.2.1 dX4_isObject_2 (by decide) ?_
  refine lv_aload_n hC.1 hC.2.1 dX4_isObject_3 rfl (lv_at hl 0 rfl) ?_
  refine mg4 hC hK hW 18 (v := .int (T 0 3)) rfl (by decide) rfl tf_X4_90 dX4_isObject_4 ?_
  refine lv_iconst (v := 1) hC.1 hC.2.1 dX4_isObject_7 (by decide) ?_
  refine lv_isub hC.1 hC.2.1 dX4_isObject_8 ?_
  refine lv_i2l hC.1 hC.2.1 dX4_isObject_9 rfl ?_
  refine keSi (rest := []) (kcS0 hC (c_X4_within l o.toInt64 0 (((T 0 3) - 1).toInt64)) (kgoodS tm_X4_93 ts_yX4_within tz_X4 tc_yX4_within) ⟨rfl, by decide, by decide, (show Option.map _ (parseMethodDescriptor yX4_within.desc) = some 3 from by decide +kernel)⟩ ⟨Nat.le_of_ble_eq_true rfl, Nat.le_of_ble_eq_true rfl⟩ hl.1 rfl (Nat.le_of_ble_eq_true rfl) ⟨Nat.le_refl _, Nat.le_refl _⟩ dX4_isObject_10) ?_
  refine kif_eq (tgt := 29) hC.1 hC.2.1 dX4_isObject_13 (by decide) (fun c_13 => ?_) (fun c_13 => ?_)
  · refine lv_iconst (v := 0) hC.1 hC.2.1 dX4_isObject_29 (by decide) ?_
    exact krZ hC hr hlk (Or.inl rfl) (kb_f (fun z => c_13 ((kwt_n hI.1).mpr ((mkO hI).mp z).1))).symm dX4_isObject_30
  · refine lv_aload_n hC.1 hC.2.1 dX4_isObject_16 rfl (lv_at hl 0 rfl) ?_
    refine mg4 hC hK hW 19 (v := .ref (M 14)) rfl (by decide) rfl tf_X4_50 dX4_isObject_17 ?_
    refine lv_iload_n hC.1 hC.2.1 dX4_isObject_20 rfl (lv_at hl 1 rfl) ?_
    refine mab hC hK hW 14 (by decide) rfl (i := o) (kO.inh hI c_13) dX4_isObject_21 ?_
    refine lv_if_eq (tgt := 29) hC.1 hC.2.1 dX4_isObject_22 (by decide) (fun c_22 => ?_) (fun c_22 => ?_)
    · refine lv_iconst (v := 0) hC.1 hC.2.1 dX4_isObject_29 (by decide) ?_
      exact krZ hC hr hlk (Or.inl rfl) (kb_f (fun z => z.2.2 c_22)).symm dX4_isObject_30
    · refine lv_iconst (v := 1) hC.1 hC.2.1 dX4_isObject_25 (by decide) ?_
      refine lv_goto (tgt := 30) hC.1 hC.2.1 dX4_isObject_26 (by decide) ?_
      exact krZ hC hr hlk (Or.inr rfl) (kb_t ((mkO hI).mpr ⟨(kwt_n hI.1).mp c_13, c_22⟩)).symm dX4_isObject_30
set_option maxHeartbeats 4000000 in
set_option maxRecDepth 100000 in
theorem c_X4_isSet (l : Launch) (D : va_G) (G : Nat → ClassId) (M : Nat → Nat) (hL : mL M) (T N : kT) (r g : Nat → Int32) (x : Int32) (hI : kI0 T) : kM l yX4_isSet cX4_isSet 2 (some .boolean) 1 25 (mPc D G M T N r g [.ref (M 0), .int x]) (kSi (kb (kSet T x))) (fun _ => False) := by
  refine kBegin (by decide) (Nat.le_of_ble_eq_true rfl) ?_
  intro zp ze zs zm zargs zbelow zmeth zc hC hr hlk hB ls hl
  obtain ⟨hP, hK⟩ := hB
  have hW : mWd D G M (mA M) zs.heap T N r g zs.heap [] := mWd.start hL hP
  have hl : lv_has ls 2 [(0, .ref (M 0)), (1, .int x)] := hl
  refine lv_iload_n hC.1 hC.2.1 dX4_isSet_0 rfl (lv_at hl 1 rfl) ?_
  refine lv_i2l hC.1 hC.2.1 dX4_isSet_1 rfl ?_
  refine lv_lconst (v := 0) hC.1 hC.2.1 dX4_isSet_2 (by decide) ?_
  refine lv_iconst (v := 1) hC.1 hC.2.1 dX4_isSet_3 (by decide) ?_
  refine lv_aload_n hC.1 hC.2.1 dX4_isSet_4 rfl (lv_at hl 0 rfl) ?_
  refine mg4 hC hK hW 0 (v := .int (T 0 0)) rfl (by decide) rfl tf_X4_97 dX4_isSet_5 ?_
  refine lv_ishl hC.1 hC.2.1 dX4_isSet_8 ?_
  refine lv_iconst (v := 1) hC.1 hC.2.1 dX4_isSet_9 (by decide) ?_
  refine lv_isub hC.1 hC.2.1 dX4_isSet_10 ?_
  refine lv_i2l hC.1 hC.2.1 dX4_isSet_11 rfl ?_
  refine keSi (rest := []) (kcS0 hC (c_X4_within l x.toInt64 0 (((1 <<< ((T 0 0) &&& 31)) - 1).toInt64)) (kgoodS tm_X4_93 ts_yX4_within tz_X4 tc_yX4_within) ⟨rfl, by decide, by decide, (show Option.map _ (parseMethodDescriptor yX4_within.desc) = some 3 from by decide +kernel)⟩ ⟨Nat.le_of_ble_eq_true rfl, Nat.le_of_ble_eq_true rfl⟩ hl.1 rfl (Nat.le_of_ble_eq_true rfl) ⟨Nat.le_refl _, Nat.le_refl _⟩ dX4_isSet_12) ?_
  exact krZ hC hr hlk (kb_01 _) (kb_c (mSet hI)) dX4_isSet_15
set_option maxHeartbeats 4000000 in
set_option maxRecDepth 100000 in
theorem c_X4_isRoomy (l : Launch) (D : va_G) (G : Nat → ClassId) (M : Nat → Nat) (hL : mL M) (T N : kT) (r g : Nat → Int32) (o : Int32) (hI3 : kI3 T) : kM l yX4_isRoomy cX4_isRoomy 2 (some .boolean) 2 46 (mPc D G M T N r g [.ref (M 0), .int o]) (kSi (kb (kCn T o))) (fun _ => False) := by
  refine kBegin (by decide) (Nat.le_of_ble_eq_true rfl) ?_
  intro zp ze zs zm zargs zbelow zmeth zc hC hr hlk hB ls hl
  obtain ⟨hP, hK⟩ := hB
  have hW : mWd D G M (mA M) zs.heap T N r g zs.heap [] := mWd.start hL hP
  have hl : lv_has ls 2 [(0, .ref (M 0)), (1, .int o)] := hl
  refine lv_aload_n hC.1 hC.2.1 dX4_isRoomy_0 rfl (lv_at hl 0 rfl) ?_
  refine lv_iload_n hC.1 hC.2.1 dX4_isRoomy_1 rfl (lv_at hl 1 rfl) ?_
  refine keSi (rest := []) (mcV 0 hC hK hW (c_X4_isObject l D G M hL T N r g o hI3) (kgoodV tm_X4_172 ti_yX4_isObject te_yX4_isObject tz_X4 tc_yX4_isObject) mw_m rfl ⟨rfl, by decide, by decide, (show Option.map _ (parseMethodDescriptor yX4_isObject.desc) = some 1 from by decide +kernel)⟩ ⟨Nat.le_of_ble_eq_true rfl, Nat.le_of_ble_eq_true rfl⟩ hl.1 rfl (Nat.le_of_ble_eq_true rfl) ⟨Nat.le_refl _, Nat.le_refl _⟩ dX4_isRoomy_2) ?_
  refine kif_eq (tgt := 21) hC.1 hC.2.1 dX4_isRoomy_5 (by decide) (fun c_5 => ?_) (fun c_5 => ?_)
  · refine lv_iconst (v := 0) hC.1 hC.2.1 dX4_isRoomy_21 (by decide) ?_
    exact krZ hC hr hlk (Or.inl rfl) (by simp only [kif_true, kif_false, kb, kup_eq, kup_f, kup_i, not_true_eq_false, not_false_eq_true, and_true, true_and, and_false, false_and, and_self, or_true, true_or, or_false, false_or, kCn, c_5]) dX4_isRoomy_22
  · refine lv_aload_n hC.1 hC.2.1 dX4_isRoomy_8 rfl (lv_at hl 0 rfl) ?_
    refine mg4 hC hK hW 20 (v := .ref (M 15)) rfl (by decide) rfl tf_X4_53 dX4_isRoomy_9 ?_
    refine lv_iload_n hC.1 hC.2.1 dX4_isRoomy_12 rfl (lv_at hl 1 rfl) ?_
    refine mab hC hK hW 15 (by decide) rfl (i := o) c_5.in dX4_isRoomy_13 ?_
    refine lv_if_eq (tgt := 21) hC.1 hC.2.1 dX4_isRoomy_14 (by decide) (fun c_14 => ?_) (fun c_14 => ?_)
    · refine lv_iconst (v := 0) hC.1 hC.2.1 dX4_isRoomy_21 (by decide) ?_
      exact krZ hC hr hlk (Or.inl rfl) (by simp only [kif_true, kif_false, kb, kup_eq, kup_f, kup_i, not_true_eq_false, not_false_eq_true, and_true, true_and, and_false, false_and, and_self, or_true, true_or, or_false, false_or, kCn, c_5, c_14]) dX4_isRoomy_22
    · refine lv_iconst (v := 1) hC.1 hC.2.1 dX4_isRoomy_17 (by decide) ?_
      refine lv_goto (tgt := 22) hC.1 hC.2.1 dX4_isRoomy_18 (by decide) ?_
      exact krZ hC hr hlk (Or.inr rfl) (by simp only [kif_true, kif_false, kb, kup_eq, kup_f, kup_i, not_true_eq_false, not_false_eq_true, and_true, true_and, and_false, false_and, and_self, or_true, true_or, or_false, false_or, kCn, c_5, c_14]) dX4_isRoomy_22
set_option maxHeartbeats 4000000 in
set_option maxRecDepth 100000 in
theorem c_X4_isFile (l : Launch) (D : va_G) (G : Nat → ClassId) (M : Nat → Nat) (hL : mL M) (T N : kT) (r g : Nat → Int32) (o : Int32) (hI3 : kI3 T) : kM l yX4_isFile cX4_isFile 2 (some .boolean) 2 46 (mPc D G M T N r g [.ref (M 0), .int o]) (kSi (kb (kFl T o))) (fun _ => False) := by
  refine kBegin (by decide) (Nat.le_of_ble_eq_true rfl) ?_
  intro zp ze zs zm zargs zbelow zmeth zc hC hr hlk hB ls hl
  obtain ⟨hP, hK⟩ := hB
  have hW : mWd D G M (mA M) zs.heap T N r g zs.heap [] := mWd.start hL hP
  have hl : lv_has ls 2 [(0, .ref (M 0)), (1, .int o)] := hl
  refine lv_aload_n hC.1 hC.2.1 dX4_isFile_0 rfl (lv_at hl 0 rfl) ?_
  refine lv_iload_n hC.1 hC.2.1 dX4_isFile_1 rfl (lv_at hl 1 rfl) ?_
  refine keSi (rest := []) (mcV 0 hC hK hW (c_X4_isObject l D G M hL T N r g o hI3) (kgoodV tm_X4_172 ti_yX4_isObject te_yX4_isObject tz_X4 tc_yX4_isObject) mw_m rfl ⟨rfl, by decide, by decide, (show Option.map _ (parseMethodDescriptor yX4_isObject.desc) = some 1 from by decide +kernel)⟩ ⟨Nat.le_of_ble_eq_true rfl, Nat.le_of_ble_eq_true rfl⟩ hl.1 rfl (Nat.le_of_ble_eq_true rfl) ⟨Nat.le_refl _, Nat.le_refl _⟩ dX4_isFile_2) ?_
  refine kif_eq (tgt := 21) hC.1 hC.2.1 dX4_isFile_5 (by decide) (fun c_5 => ?_) (fun c_5 => ?_)
  · refine lv_iconst (v := 0) hC.1 hC.2.1 dX4_isFile_21 (by decide) ?_
    exact krZ hC hr hlk (Or.inl rfl) (by simp only [kif_true, kif_false, kb, kup_eq, kup_f, kup_i, not_true_eq_false, not_false_eq_true, and_true, true_and, and_false, false_and, and_self, or_true, true_or, or_false, false_or, kFl, c_5]) dX4_isFile_22
  · refine lv_aload_n hC.1 hC.2.1 dX4_isFile_8 rfl (lv_at hl 0 rfl) ?_
    refine mg4 hC hK hW 20 (v := .ref (M 15)) rfl (by decide) rfl tf_X4_53 dX4_isFile_9 ?_
    refine lv_iload_n hC.1 hC.2.1 dX4_isFile_12 rfl (lv_at hl 1 rfl) ?_
    refine mab hC hK hW 15 (by decide) rfl (i := o) c_5.in dX4_isFile_13 ?_
    refine lv_if_ne (tgt := 21) hC.1 hC.2.1 dX4_isFile_14 (by decide) (fun c_14 => ?_) (fun c_14 => ?_)
    · refine lv_iconst (v := 0) hC.1 hC.2.1 dX4_isFile_21 (by decide) ?_
      exact krZ hC hr hlk (Or.inl rfl) (by simp only [kif_true, kif_false, kb, kup_eq, kup_f, kup_i, not_true_eq_false, not_false_eq_true, and_true, true_and, and_false, false_and, and_self, or_true, true_or, or_false, false_or, kFl, c_5, c_14]) dX4_isFile_22
    · refine lv_iconst (v := 1) hC.1 hC.2.1 dX4_isFile_17 (by decide) ?_
      refine lv_goto (tgt := 22) hC.1 hC.2.1 dX4_isFile_18 (by decide) ?_
      exact krZ hC hr hlk (Or.inr rfl) (by simp only [kif_true, kif_false, kb, kup_eq, kup_f, kup_i, not_true_eq_false, not_false_eq_true, and_true, true_and, and_false, false_and, and_self, or_true, true_or, or_false, false_or, kFl, c_5, c_14]) dX4_isFile_22
set_option maxHeartbeats 4000000 in
set_option maxRecDepth 100000 in
theorem c_X4_bothOf (l : Launch) (D : va_G) (G : Nat → ClassId) (M : Nat → Nat) (hL : mL M) (T N : kT) (r g : Nat → Int32) (p : Int32) (hp : vp_in p 24) : kM l yX4_bothOf cX4_bothOf 2 (some .int) 0 0 (mPc D G M T N r g [.ref (M 0), .int p]) (kSi (kBoth T (T 5 (tn p)) (T 6 (tn p)))) (fun _ => False) := by
  refine kBegin (by decide) (Nat.le_of_ble_eq_true rfl) ?_
  intro zp ze zs zm zargs zbelow zmeth zc hC hr hlk hB ls hl
  obtain ⟨hP, hK⟩ := hB
  have hW : mWd D G M (mA M) zs.heap T N r g zs.heap [] := mWd.start hL hP
  have hl : lv_has ls 2 [(0, .ref (M 0)), (1, .int p)] := hl
  refine lv_aload_n hC.1 hC.2.1 dX4_bothOf_0 rfl (lv_at hl 0 rfl) ?_
  refine mg4 hC hK hW 7 (v := .ref (M 4)) rfl (by decide) rfl tf_X4_20 dX4_bothOf_1 ?_
  refine lv_iload_n hC.1 hC.2.1 dX4_bothOf_4 rfl (lv_at hl 1 rfl) ?_
  refine mai hC hK hW 4 (by decide) rfl (i := p) hp dX4_bothOf_5 ?_
  refine lv_aload_n hC.1 hC.2.1 dX4_bothOf_6 rfl (lv_at hl 0 rfl) ?_
  refine mg4 hC hK hW 1 (v := .int (T 0 4)) rfl (by decide) rfl tf_X4_112 dX4_bothOf_7 ?_
  refine lv_ior hC.1 hC.2.1 dX4_bothOf_10 ?_
  refine lv_aload_n hC.1 hC.2.1 dX4_bothOf_11 rfl (lv_at hl 0 rfl) ?_
  refine mg4 hC hK hW 8 (v := .ref (M 5)) rfl (by decide) rfl tf_X4_23 dX4_bothOf_12 ?_
  refine lv_iload_n hC.1 hC.2.1 dX4_bothOf_15 rfl (lv_at hl 1 rfl) ?_
  refine mai hC hK hW 5 (by decide) rfl (i := p) hp dX4_bothOf_16 ?_
  refine lv_aload_n hC.1 hC.2.1 dX4_bothOf_17 rfl (lv_at hl 0 rfl) ?_
  refine mg4 hC hK hW 2 (v := .int (T 0 5)) rfl (by decide) rfl tf_X4_115 dX4_bothOf_18 ?_
  refine lv_ior hC.1 hC.2.1 dX4_bothOf_21 ?_
  refine lv_iand hC.1 hC.2.1 dX4_bothOf_22 ?_
  exact krS hC hr hlk rfl dX4_bothOf_23
set_option maxHeartbeats 4000000 in
set_option maxRecDepth 100000 in
theorem c_X4_isSafe (l : Launch) (D : va_G) (G : Nat → ClassId) (M : Nat → Nat) (hL : mL M) (T N : kT) (r g : Nat → Int32) (p : Int32) (a : Int32) (b : Int32) (hp : vp_in p 24) : kM l yX4_isSafe cX4_isSafe 4 (some .boolean) 0 0 (mPc D G M T N r g [.ref (M 0), .int p, .int a, .int b]) (kSi (kb (kSafe T (tn p) a b))) (fun _ => False) := by
  refine kBegin (by decide) (Nat.le_of_ble_eq_true rfl) ?_
  intro zp ze zs zm zargs zbelow zmeth zc hC hr hlk hB ls hl
  obtain ⟨hP, hK⟩ := hB
  have hW : mWd D G M (mA M) zs.heap T N r g zs.heap [] := mWd.start hL hP
  have hl : lv_has ls 4 [(0, .ref (M 0)), (1, .int p), (2, .int a), (3, .int b)] := hl
  refine lv_iload_n hC.1 hC.2.1 dX4_isSafe_0 rfl (lv_at hl 3 rfl) ?_
  refine lv_iload_n hC.1 hC.2.1 dX4_isSafe_1 rfl (lv_at hl 2 rfl) ?_
  refine lv_iconst (v := (-1)) hC.1 hC.2.1 dX4_isSafe_2 (by decide) ?_
  refine lv_ixor hC.1 hC.2.1 dX4_isSafe_3 ?_
  refine lv_iand hC.1 hC.2.1 dX4_isSafe_4 ?_
  refine lv_aload_n hC.1 hC.2.1 dX4_isSafe_5 rfl (lv_at hl 0 rfl) ?_
  refine mg4 hC hK hW 7 (v := .ref (M 4)) rfl (by decide) rfl tf_X4_20 dX4_isSafe_6 ?_
  refine lv_iload_n hC.1 hC.2.1 dX4_isSafe_9 rfl (lv_at hl 1 rfl) ?_
  refine mai hC hK hW 4 (by decide) rfl (i := p) hp dX4_isSafe_10 ?_
  refine lv_aload_n hC.1 hC.2.1 dX4_isSafe_11 rfl (lv_at hl 0 rfl) ?_
  refine mg4 hC hK hW 1 (v := .int (T 0 4)) rfl (by decide) rfl tf_X4_112 dX4_isSafe_12 ?_
  refine lv_ior hC.1 hC.2.1 dX4_isSafe_15 ?_
  refine lv_iconst (v := (-1)) hC.1 hC.2.1 dX4_isSafe_16 (by decide) ?_
  refine lv_ixor hC.1 hC.2.1 dX4_isSafe_17 ?_
  refine lv_iand hC.1 hC.2.1 dX4_isSafe_18 ?_
  refine lv_if_ne (tgt := 48) hC.1 hC.2.1 dX4_isSafe_19 (by decide) (fun c_19 => ?_) (fun c_19 => ?_)
  · refine lv_iconst (v := 0) hC.1 hC.2.1 dX4_isSafe_48 (by decide) ?_
    exact krZ hC hr hlk (Or.inl rfl) (by simp only [kif_true, kif_false, kb, kup_eq, kup_f, kup_i, not_true_eq_false, not_false_eq_true, and_true, true_and, and_false, false_and, and_self, or_true, true_or, or_false, false_or, kSafe, kWi, c_19]) dX4_isSafe_49
  · refine lv_iload_n hC.1 hC.2.1 dX4_isSafe_22 rfl (lv_at hl 2 rfl) ?_
    refine lv_iload_n hC.1 hC.2.1 dX4_isSafe_23 rfl (lv_at hl 3 rfl) ?_
    refine lv_iconst (v := (-1)) hC.1 hC.2.1 dX4_isSafe_24 (by decide) ?_
    refine lv_ixor hC.1 hC.2.1 dX4_isSafe_25 ?_
    refine lv_iand hC.1 hC.2.1 dX4_isSafe_26 ?_
    refine lv_aload_n hC.1 hC.2.1 dX4_isSafe_27 rfl (lv_at hl 0 rfl) ?_
    refine mg4 hC hK hW 8 (v := .ref (M 5)) rfl (by decide) rfl tf_X4_23 dX4_isSafe_28 ?_
    refine lv_iload_n hC.1 hC.2.1 dX4_isSafe_31 rfl (lv_at hl 1 rfl) ?_
    refine mai hC hK hW 5 (by decide) rfl (i := p) hp dX4_isSafe_32 ?_
    refine lv_aload_n hC.1 hC.2.1 dX4_isSafe_33 rfl (lv_at hl 0 rfl) ?_
    refine mg4 hC hK hW 2 (v := .int (T 0 5)) rfl (by decide) rfl tf_X4_115 dX4_isSafe_34 ?_
    refine lv_ior hC.1 hC.2.1 dX4_isSafe_37 ?_
    refine lv_iconst (v := (-1)) hC.1 hC.2.1 dX4_isSafe_38 (by decide) ?_
    refine lv_ixor hC.1 hC.2.1 dX4_isSafe_39 ?_
    refine lv_iand hC.1 hC.2.1 dX4_isSafe_40 ?_
    refine lv_if_ne (tgt := 48) hC.1 hC.2.1 dX4_isSafe_41 (by decide) (fun c_41 => ?_) (fun c_41 => ?_)
    · refine lv_iconst (v := 0) hC.1 hC.2.1 dX4_isSafe_48 (by decide) ?_
      exact krZ hC hr hlk (Or.inl rfl) (by simp only [kif_true, kif_false, kb, kup_eq, kup_f, kup_i, not_true_eq_false, not_false_eq_true, and_true, true_and, and_false, false_and, and_self, or_true, true_or, or_false, false_or, kSafe, kWi, c_19, c_41]) dX4_isSafe_49
    · refine lv_iconst (v := 1) hC.1 hC.2.1 dX4_isSafe_44 (by decide) ?_
      refine lv_goto (tgt := 49) hC.1 hC.2.1 dX4_isSafe_45 (by decide) ?_
      exact krZ hC hr hlk (Or.inr rfl) (by simp only [kif_true, kif_false, kb, kup_eq, kup_f, kup_i, not_true_eq_false, not_false_eq_true, and_true, true_and, and_false, false_and, and_self, or_true, true_or, or_false, false_or, kSafe, kWi, c_19, c_41]) dX4_isSafe_49
set_option maxHeartbeats 4000000 in
set_option maxRecDepth 100000 in
theorem c_X4_suits (l : Launch) (D : va_G) (G : Nat → ClassId) (M : Nat → Nat) (hL : mL M) (T N : kT) (r g : Nat → Int32) (p : Int32) (a : Int32) (b : Int32) (hp : vp_in p 24) : kM l yX4_suits cX4_suits 5 (some .boolean) 1 21 (mPc D G M T N r g [.ref (M 0), .int p, .int a, .int b]) (kSi (kb (kSui T (tn p) a b))) (fun _ => False) := by
  refine kBegin (by decide) (Nat.le_of_ble_eq_true rfl) ?_
  intro zp ze zs zm zargs zbelow zmeth zc hC hr hlk hB ls hl
  obtain ⟨hP, hK⟩ := hB
  have hW : mWd D G M (mA M) zs.heap T N r g zs.heap [] := mWd.start hL hP
  have hl : lv_has ls 5 [(0, .ref (M 0)), (1, .int p), (2, .int a), (3, .int b)] := hl
  refine lv_aload_n hC.1 hC.2.1 dX4_suits_0 rfl (lv_at hl 0 rfl) ?_
  refine lv_iload_n hC.1 hC.2.1 dX4_suits_1 rfl (lv_at hl 1 rfl) ?_
  refine keSi (rest := []) (mcV 0 hC hK hW (c_X4_bothOf l D G M hL T N r g p hp) (kgoodV tm_X4_122 ti_yX4_bothOf te_yX4_bothOf tz_X4 tc_yX4_bothOf) mw_m rfl ⟨rfl, by decide, by decide, (show Option.map _ (parseMethodDescriptor yX4_bothOf.desc) = some 1 from by decide +kernel)⟩ ⟨Nat.le_of_ble_eq_true rfl, Nat.le_of_ble_eq_true rfl⟩ hl.1 rfl (Nat.le_of_ble_eq_true rfl) ⟨Nat.le_refl _, Nat.le_refl _⟩ dX4_suits_2) ?_
  refine lv_iconst (v := (-1)) hC.1 hC.2.1 dX4_suits_5 (by decide) ?_
  refine lv_ixor hC.1 hC.2.1 dX4_suits_6 ?_
  refine lv_istore (lv' := [(4, .int ((kBoth T (T 5 (tn p)) (T 6 (tn p))) ^^^ (-1))), (0, .ref (M 0)), (1, .int p), (2, .int a), (3, .int b)]) hC.1 hC.2.1 dX4_suits_7 hl (by decide) rfl (fun ls hl => ?_)
  refine lv_iload_n hC.1 hC.2.1 dX4_suits_9 rfl (lv_at hl 3 rfl) ?_
  refine lv_aload_n hC.1 hC.2.1 dX4_suits_10 rfl (lv_at hl 1 rfl) ?_
  refine mg4 hC hK hW 5 (v := .ref (M 2)) rfl (by decide) rfl tf_X4_13 dX4_suits_11 ?_
  refine lv_iload_n hC.1 hC.2.1 dX4_suits_14 rfl (lv_at hl 2 rfl) ?_
  refine mai hC hK hW 2 (by decide) rfl (i := p) hp dX4_suits_15 ?_
  refine lv_ixor hC.1 hC.2.1 dX4_suits_16 ?_
  refine lv_iload hC.1 hC.2.1 dX4_suits_17 (lv_at hl 0 rfl) ?_
  refine lv_iand hC.1 hC.2.1 dX4_suits_19 ?_
  refine lv_if_ne (tgt := 41) hC.1 hC.2.1 dX4_suits_20 (by decide) (fun c_20 => ?_) (fun c_20 => ?_)
  · refine lv_iconst (v := 0) hC.1 hC.2.1 dX4_suits_41 (by decide) ?_
    exact krZ hC hr hlk (Or.inl rfl) (by simp only [kif_true, kif_false, kb, kup_eq, kup_f, kup_i, not_true_eq_false, not_false_eq_true, and_true, true_and, and_false, false_and, and_self, or_true, true_or, or_false, false_or, kSui, kWi, c_20]) dX4_suits_42
  · refine lv_iload_n hC.1 hC.2.1 dX4_suits_23 rfl (lv_at hl 4 rfl) ?_
    refine lv_aload_n hC.1 hC.2.1 dX4_suits_24 rfl (lv_at hl 1 rfl) ?_
    refine mg4 hC hK hW 6 (v := .ref (M 3)) rfl (by decide) rfl tf_X4_17 dX4_suits_25 ?_
    refine lv_iload_n hC.1 hC.2.1 dX4_suits_28 rfl (lv_at hl 2 rfl) ?_
    refine mai hC hK hW 3 (by decide) rfl (i := p) hp dX4_suits_29 ?_
    refine lv_ixor hC.1 hC.2.1 dX4_suits_30 ?_
    refine lv_iload hC.1 hC.2.1 dX4_suits_31 (lv_at hl 0 rfl) ?_
    refine lv_iand hC.1 hC.2.1 dX4_suits_33 ?_
    refine lv_if_ne (tgt := 41) hC.1 hC.2.1 dX4_suits_34 (by decide) (fun c_34 => ?_) (fun c_34 => ?_)
    · refine lv_iconst (v := 0) hC.1 hC.2.1 dX4_suits_41 (by decide) ?_
      exact krZ hC hr hlk (Or.inl rfl) (by simp only [kif_true, kif_false, kb, kup_eq, kup_f, kup_i, not_true_eq_false, not_false_eq_true, and_true, true_and, and_false, false_and, and_self, or_true, true_or, or_false, false_or, kSui, kWi, c_20, c_34]) dX4_suits_42
    · refine lv_iconst (v := 1) hC.1 hC.2.1 dX4_suits_37 (by decide) ?_
      refine lv_goto (tgt := 42) hC.1 hC.2.1 dX4_suits_38 (by decide) ?_
      exact krZ hC hr hlk (Or.inr rfl) (by simp only [kif_true, kif_false, kb, kup_eq, kup_f, kup_i, not_true_eq_false, not_false_eq_true, and_true, true_and, and_false, false_and, and_self, or_true, true_or, or_false, false_or, kSui, kWi, c_20, c_34]) dX4_suits_42
set_option maxHeartbeats 4000000 in
set_option maxRecDepth 100000 in
theorem c_X4_putLabel (l : Launch) (D : va_G) (G : Nat → ClassId) (M : Nat → Nat) (hL : mL M) (T N : kT) (r g : Nat → Int32) (p : Int32) (w : Int32) (x : Int32) (hp : vp_in p 24) : kM l yX4_putLabel cX4_putLabel 4 none 0 0 (mPc D G M T N r g [.ref (M 0), .int p, .int w, .int x]) (mQv D G M (kif (w = 0) (kup T 3 (tn p) x) (kup T 4 (tn p) x)) N r g) (mA M) := by
  refine kBegin (by decide) (Nat.le_of_ble_eq_true rfl) ?_
  intro zp ze zs zm zargs zbelow zmeth zc hC hr hlk hB ls hl
  obtain ⟨hP, hK⟩ := hB
  have hW : mWd D G M (mA M) zs.heap T N r g zs.heap [] := mWd.start hL hP
  have hl : lv_has ls 4 [(0, .ref (M 0)), (1, .int p), (2, .int w), (3, .int x)] := hl
  refine lv_iload_n hC.1 hC.2.1 dX4_putLabel_0 rfl (lv_at hl 2 rfl) ?_
  refine lv_if_ne (tgt := 14) hC.1 hC.2.1 dX4_putLabel_1 (by decide) (fun c_1 => ?_) (fun c_1 => ?_)
  · refine lv_aload_n hC.1 hC.2.1 dX4_putLabel_14 rfl (lv_at hl 0 rfl) ?_
    refine mg4 hC hK hW 6 (v := .ref (M 3)) rfl (by decide) rfl tf_X4_17 dX4_putLabel_15 ?_
    refine lv_iload_n hC.1 hC.2.1 dX4_putLabel_18 rfl (lv_at hl 1 rfl) ?_
    refine lv_iload_n hC.1 hC.2.1 dX4_putLabel_19 rfl (lv_at hl 3 rfl) ?_
    refine mai_s hC hK hW 3 (by decide) rfl (i := p) hp (mw_ar_3 (tn p) x) dX4_putLabel_20 (fun H locs (hW : mWd D G M (mA M) zs.heap (kup T 4 (tn p) x) N r g H locs) => ?_)
    exact mkrV hC hr hlk hW (by simp only [kif_true, kif_false, kb, kup_eq, kup_f, kup_i, not_true_eq_false, not_false_eq_true, and_true, true_and, and_false, false_and, and_self, or_true, true_or, or_false, false_or, c_1]) rfl rfl rfl dX4_putLabel_21
  · refine lv_aload_n hC.1 hC.2.1 dX4_putLabel_4 rfl (lv_at hl 0 rfl) ?_
    refine mg4 hC hK hW 5 (v := .ref (M 2)) rfl (by decide) rfl tf_X4_13 dX4_putLabel_5 ?_
    refine lv_iload_n hC.1 hC.2.1 dX4_putLabel_8 rfl (lv_at hl 1 rfl) ?_
    refine lv_iload_n hC.1 hC.2.1 dX4_putLabel_9 rfl (lv_at hl 3 rfl) ?_
    refine mai_s hC hK hW 2 (by decide) rfl (i := p) hp (mw_ar_2 (tn p) x) dX4_putLabel_10 (fun H locs (hW : mWd D G M (mA M) zs.heap (kup T 3 (tn p) x) N r g H locs) => ?_)
    refine lv_goto (tgt := 21) hC.1 hC.2.1 dX4_putLabel_11 (by decide) ?_
    exact mkrV hC hr hlk hW (by simp only [kif_true, kif_false, kb, kup_eq, kup_f, kup_i, not_true_eq_false, not_false_eq_true, and_true, true_and, and_false, false_and, and_self, or_true, true_or, or_false, false_or, c_1]) rfl rfl rfl dX4_putLabel_21
set_option maxHeartbeats 4000000 in
set_option maxRecDepth 100000 in
theorem c_X4_canWrite (l : Launch) (D : va_G) (G : Nat → ClassId) (M : Nat → Nat) (hL : mL M) (T N : kT) (r g : Nat → Int32) (p : Int32) (o : Int32) (hp : vp_in p 24) (ho : vp_in o 60) : kM l yX4_canWrite cX4_canWrite 3 (some .boolean) 1 23 (mPc D G M T N r g [.ref (M 0), .int p, .int o]) (kSi (kb (kWr T (tn p) (tn o)))) (fun _ => False) := by
  refine kBegin (by decide) (Nat.le_of_ble_eq_true rfl) ?_
  intro zp ze zs zm zargs zbelow zmeth zc hC hr hlk hB ls hl
  obtain ⟨hP, hK⟩ := hB
  have hW : mWd D G M (mA M) zs.heap T N r g zs.heap [] := mWd.start hL hP
  have hl : lv_has ls 3 [(0, .ref (M 0)), (1, .int p), (2, .int o)] := hl
  refine lv_aload_n hC.1 hC.2.1 dX4_canWrite_0 rfl (lv_at hl 0 rfl) ?_
  refine mg4 hC hK hW 5 (v := .ref (M 2)) rfl (by decide) rfl tf_X4_13 dX4_canWrite_1 ?_
  refine lv_iload_n hC.1 hC.2.1 dX4_canWrite_4 rfl (lv_at hl 1 rfl) ?_
  refine mai hC hK hW 2 (by decide) rfl (i := p) hp dX4_canWrite_5 ?_
  refine lv_aload_n hC.1 hC.2.1 dX4_canWrite_6 rfl (lv_at hl 0 rfl) ?_
  refine mg4 hC hK hW 6 (v := .ref (M 3)) rfl (by decide) rfl tf_X4_17 dX4_canWrite_7 ?_
  refine lv_iload_n hC.1 hC.2.1 dX4_canWrite_10 rfl (lv_at hl 1 rfl) ?_
  refine mai hC hK hW 3 (by decide) rfl (i := p) hp dX4_canWrite_11 ?_
  refine lv_aload_n hC.1 hC.2.1 dX4_canWrite_12 rfl (lv_at hl 0 rfl) ?_
  refine mg4 hC hK hW 21 (v := .ref (M 16)) rfl (by decide) rfl tf_X4_56 dX4_canWrite_13 ?_
  refine lv_iload_n hC.1 hC.2.1 dX4_canWrite_16 rfl (lv_at hl 2 rfl) ?_
  refine mai hC hK hW 16 (by decide) rfl (i := o) ho dX4_canWrite_17 ?_
  refine lv_aload_n hC.1 hC.2.1 dX4_canWrite_18 rfl (lv_at hl 0 rfl) ?_
  refine mg4 hC hK hW 22 (v := .ref (M 17)) rfl (by decide) rfl tf_X4_59 dX4_canWrite_19 ?_
  refine lv_iload_n hC.1 hC.2.1 dX4_canWrite_22 rfl (lv_at hl 2 rfl) ?_
  refine mai hC hK hW 17 (by decide) rfl (i := o) ho dX4_canWrite_23 ?_
  refine keSi (rest := []) (kcS0 hC (c_X4_flows l (T 3 (tn p)) (T 4 (tn p)) (T 21 (tn o)) (T 22 (tn o))) (kgoodS tm_X4_148 ts_yX4_flows tz_X4 tc_yX4_flows) ⟨rfl, by decide, by decide, (show Option.map _ (parseMethodDescriptor yX4_flows.desc) = some 4 from by decide +kernel)⟩ ⟨Nat.le_of_ble_eq_true rfl, Nat.le_of_ble_eq_true rfl⟩ hl.1 rfl (Nat.le_of_ble_eq_true rfl) ⟨Nat.le_refl _, Nat.le_refl _⟩ dX4_canWrite_24) ?_
  exact krZ hC hr hlk (kb_01 _) rfl dX4_canWrite_27
set_option maxHeartbeats 4000000 in
set_option maxRecDepth 100000 in
theorem c_X4_canRead (l : Launch) (D : va_G) (G : Nat → ClassId) (M : Nat → Nat) (hL : mL M) (T N : kT) (r g : Nat → Int32) (p : Int32) (o : Int32) (hp : vp_in p 24) (ho : vp_in o 60) : kM l yX4_canRead cX4_canRead 3 (some .boolean) 1 23 (mPc D G M T N r g [.ref (M 0), .int p, .int o]) (kSi (kb (kRd T (tn p) (tn o)))) (fun _ => False) := by
  refine kBegin (by decide) (Nat.le_of_ble_eq_true rfl) ?_
  intro zp ze zs zm zargs zbelow zmeth zc hC hr hlk hB ls hl
  obtain ⟨hP, hK⟩ := hB
  have hW : mWd D G M (mA M) zs.heap T N r g zs.heap [] := mWd.start hL hP
  have hl : lv_has ls 3 [(0, .ref (M 0)), (1, .int p), (2, .int o)] := hl
  refine lv_aload_n hC.1 hC.2.1 dX4_canRead_0 rfl (lv_at hl 0 rfl) ?_
  refine mg4 hC hK hW 21 (v := .ref (M 16)) rfl (by decide) rfl tf_X4_56 dX4_canRead_1 ?_
  refine lv_iload_n hC.1 hC.2.1 dX4_canRead_4 rfl (lv_at hl 2 rfl) ?_
  refine mai hC hK hW 16 (by decide) rfl (i := o) ho dX4_canRead_5 ?_
  refine lv_aload_n hC.1 hC.2.1 dX4_canRead_6 rfl (lv_at hl 0 rfl) ?_
  refine mg4 hC hK hW 22 (v := .ref (M 17)) rfl (by decide) rfl tf_X4_59 dX4_canRead_7 ?_
  refine lv_iload_n hC.1 hC.2.1 dX4_canRead_10 rfl (lv_at hl 2 rfl) ?_
  refine mai hC hK hW 17 (by decide) rfl (i := o) ho dX4_canRead_11 ?_
  refine lv_aload_n hC.1 hC.2.1 dX4_canRead_12 rfl (lv_at hl 0 rfl) ?_
  refine mg4 hC hK hW 5 (v := .ref (M 2)) rfl (by decide) rfl tf_X4_13 dX4_canRead_13 ?_
  refine lv_iload_n hC.1 hC.2.1 dX4_canRead_16 rfl (lv_at hl 1 rfl) ?_
  refine mai hC hK hW 2 (by decide) rfl (i := p) hp dX4_canRead_17 ?_
  refine lv_aload_n hC.1 hC.2.1 dX4_canRead_18 rfl (lv_at hl 0 rfl) ?_
  refine mg4 hC hK hW 6 (v := .ref (M 3)) rfl (by decide) rfl tf_X4_17 dX4_canRead_19 ?_
  refine lv_iload_n hC.1 hC.2.1 dX4_canRead_22 rfl (lv_at hl 1 rfl) ?_
  refine mai hC hK hW 3 (by decide) rfl (i := p) hp dX4_canRead_23 ?_
  refine keSi (rest := []) (kcS0 hC (c_X4_flows l (T 21 (tn o)) (T 22 (tn o)) (T 3 (tn p)) (T 4 (tn p))) (kgoodS tm_X4_148 ts_yX4_flows tz_X4 tc_yX4_flows) ⟨rfl, by decide, by decide, (show Option.map _ (parseMethodDescriptor yX4_flows.desc) = some 4 from by decide +kernel)⟩ ⟨Nat.le_of_ble_eq_true rfl, Nat.le_of_ble_eq_true rfl⟩ hl.1 rfl (Nat.le_of_ble_eq_true rfl) ⟨Nat.le_refl _, Nat.le_refl _⟩ dX4_canRead_24) ?_
  exact krZ hC hr hlk (kb_01 _) rfl dX4_canRead_27
set_option maxHeartbeats 4000000 in
set_option maxRecDepth 100000 in
theorem c_X4_mayMake (l : Launch) (D : va_G) (G : Nat → ClassId) (M : Nat → Nat) (hL : mL M) (T N : kT) (r g : Nat → Int32) (p : Int32) (o : Int32) (x3 : Int32) (x4 : Int32) (hp : vp_in p 24) (ho : vp_in o 60) : kM l yX4_mayMake cX4_mayMake 5 (some .boolean) 2 45 (mPc D G M T N r g [.ref (M 0), .int p, .int o, .int x3, .int x4]) (kSi (kb (kMay T (tn p) (tn o) x3 x4))) (fun _ => False) := by
  refine kBegin (by decide) (Nat.le_of_ble_eq_true rfl) ?_
  intro zp ze zs zm zargs zbelow zmeth zc hC hr hlk hB ls hl
  obtain ⟨hP, hK⟩ := hB
  have hW : mWd D G M (mA M) zs.heap T N r g zs.heap [] := mWd.start hL hP
  have hl : lv_has ls 5 [(0, .ref (M 0)), (1, .int p), (2, .int o), (3, .int x3), (4, .int x4)] := hl
  refine lv_aload_n hC.1 hC.2.1 dX4_mayMake_0 rfl (lv_at hl 0 rfl) ?_
  refine lv_iload_n hC.1 hC.2.1 dX4_mayMake_1 rfl (lv_at hl 1 rfl) ?_
  refine lv_iload_n hC.1 hC.2.1 dX4_mayMake_2 rfl (lv_at hl 2 rfl) ?_
  refine keSi (rest := []) (mcV 0 hC hK hW (c_X4_canRead l D G M hL T N r g p o hp ho) (kgoodV tm_X4_165 ti_yX4_canRead te_yX4_canRead tz_X4 tc_yX4_canRead) mw_m rfl ⟨rfl, by decide, by decide, (show Option.map _ (parseMethodDescriptor yX4_canRead.desc) = some 2 from by decide +kernel)⟩ ⟨Nat.le_of_ble_eq_true rfl, Nat.le_of_ble_eq_true rfl⟩ hl.1 rfl (Nat.le_of_ble_eq_true rfl) ⟨Nat.le_refl _, Nat.le_refl _⟩ dX4_mayMake_3) ?_
  refine kif_eq (tgt := 64) hC.1 hC.2.1 dX4_mayMake_6 (by decide) (fun c_6 => ?_) (fun c_6 => ?_)
  · refine lv_iconst (v := 0) hC.1 hC.2.1 dX4_mayMake_64 (by decide) ?_
    exact krZ hC hr hlk (Or.inl rfl) (by simp only [kif_true, kif_false, kb, kup_eq, kup_f, kup_i, not_true_eq_false, not_false_eq_true, and_true, true_and, and_false, false_and, and_self, or_true, true_or, or_false, false_or, kMay, c_6]) dX4_mayMake_65
  · refine lv_aload_n hC.1 hC.2.1 dX4_mayMake_9 rfl (lv_at hl 0 rfl) ?_
    refine lv_iload_n hC.1 hC.2.1 dX4_mayMake_10 rfl (lv_at hl 1 rfl) ?_
    refine lv_iload_n hC.1 hC.2.1 dX4_mayMake_11 rfl (lv_at hl 2 rfl) ?_
    refine keSi (rest := []) (mcV 0 hC hK hW (c_X4_canWrite l D G M hL T N r g p o hp ho) (kgoodV tm_X4_169 ti_yX4_canWrite te_yX4_canWrite tz_X4 tc_yX4_canWrite) mw_m rfl ⟨rfl, by decide, by decide, (show Option.map _ (parseMethodDescriptor yX4_canWrite.desc) = some 2 from by decide +kernel)⟩ ⟨Nat.le_of_ble_eq_true rfl, Nat.le_of_ble_eq_true rfl⟩ hl.1 rfl (Nat.le_of_ble_eq_true rfl) ⟨Nat.le_refl _, Nat.le_refl _⟩ dX4_mayMake_12) ?_
    refine kif_eq (tgt := 64) hC.1 hC.2.1 dX4_mayMake_15 (by decide) (fun c_15 => ?_) (fun c_15 => ?_)
    · refine lv_iconst (v := 0) hC.1 hC.2.1 dX4_mayMake_64 (by decide) ?_
      exact krZ hC hr hlk (Or.inl rfl) (by simp only [kif_true, kif_false, kb, kup_eq, kup_f, kup_i, not_true_eq_false, not_false_eq_true, and_true, true_and, and_false, false_and, and_self, or_true, true_or, or_false, false_or, kMay, c_6, c_15]) dX4_mayMake_65
    · refine lv_aload_n hC.1 hC.2.1 dX4_mayMake_18 rfl (lv_at hl 0 rfl) ?_
      refine mg4 hC hK hW 21 (v := .ref (M 16)) rfl (by decide) rfl tf_X4_56 dX4_mayMake_19 ?_
      refine lv_iload_n hC.1 hC.2.1 dX4_mayMake_22 rfl (lv_at hl 2 rfl) ?_
      refine mai hC hK hW 16 (by decide) rfl (i := o) ho dX4_mayMake_23 ?_
      refine lv_aload_n hC.1 hC.2.1 dX4_mayMake_24 rfl (lv_at hl 0 rfl) ?_
      refine mg4 hC hK hW 22 (v := .ref (M 17)) rfl (by decide) rfl tf_X4_59 dX4_mayMake_25 ?_
      refine lv_iload_n hC.1 hC.2.1 dX4_mayMake_28 rfl (lv_at hl 2 rfl) ?_
      refine mai hC hK hW 17 (by decide) rfl (i := o) ho dX4_mayMake_29 ?_
      refine lv_iload_n hC.1 hC.2.1 dX4_mayMake_30 rfl (lv_at hl 3 rfl) ?_
      refine lv_iload hC.1 hC.2.1 dX4_mayMake_31 (lv_at hl 4 rfl) ?_
      refine keSi (rest := []) (kcS0 hC (c_X4_flows l (T 21 (tn o)) (T 22 (tn o)) x3 x4) (kgoodS tm_X4_148 ts_yX4_flows tz_X4 tc_yX4_flows) ⟨rfl, by decide, by decide, (show Option.map _ (parseMethodDescriptor yX4_flows.desc) = some 4 from by decide +kernel)⟩ ⟨Nat.le_of_ble_eq_true rfl, Nat.le_of_ble_eq_true rfl⟩ hl.1 rfl (Nat.le_of_ble_eq_true rfl) ⟨Nat.le_refl _, Nat.le_refl _⟩ dX4_mayMake_33) ?_
      refine kif_eq (tgt := 64) hC.1 hC.2.1 dX4_mayMake_36 (by decide) (fun c_36 => ?_) (fun c_36 => ?_)
      · refine lv_iconst (v := 0) hC.1 hC.2.1 dX4_mayMake_64 (by decide) ?_
        exact krZ hC hr hlk (Or.inl rfl) (by simp only [kif_true, kif_false, kb, kup_eq, kup_f, kup_i, not_true_eq_false, not_false_eq_true, and_true, true_and, and_false, false_and, and_self, or_true, true_or, or_false, false_or, kMay, c_6, c_15, c_36]) dX4_mayMake_65
      · refine lv_aload_n hC.1 hC.2.1 dX4_mayMake_39 rfl (lv_at hl 0 rfl) ?_
        refine mg4 hC hK hW 5 (v := .ref (M 2)) rfl (by decide) rfl tf_X4_13 dX4_mayMake_40 ?_
        refine lv_iload_n hC.1 hC.2.1 dX4_mayMake_43 rfl (lv_at hl 1 rfl) ?_
        refine mai hC hK hW 2 (by decide) rfl (i := p) hp dX4_mayMake_44 ?_
        refine lv_aload_n hC.1 hC.2.1 dX4_mayMake_45 rfl (lv_at hl 0 rfl) ?_
        refine mg4 hC hK hW 6 (v := .ref (M 3)) rfl (by decide) rfl tf_X4_17 dX4_mayMake_46 ?_
        refine lv_iload_n hC.1 hC.2.1 dX4_mayMake_49 rfl (lv_at hl 1 rfl) ?_
        refine mai hC hK hW 3 (by decide) rfl (i := p) hp dX4_mayMake_50 ?_
        refine lv_iload_n hC.1 hC.2.1 dX4_mayMake_51 rfl (lv_at hl 3 rfl) ?_
        refine lv_iload hC.1 hC.2.1 dX4_mayMake_52 (lv_at hl 4 rfl) ?_
        refine keSi (rest := []) (kcS0 hC (c_X4_flows l (T 3 (tn p)) (T 4 (tn p)) x3 x4) (kgoodS tm_X4_148 ts_yX4_flows tz_X4 tc_yX4_flows) ⟨rfl, by decide, by decide, (show Option.map _ (parseMethodDescriptor yX4_flows.desc) = some 4 from by decide +kernel)⟩ ⟨Nat.le_of_ble_eq_true rfl, Nat.le_of_ble_eq_true rfl⟩ hl.1 rfl (Nat.le_of_ble_eq_true rfl) ⟨Nat.le_refl _, Nat.le_refl _⟩ dX4_mayMake_54) ?_
        refine kif_eq (tgt := 64) hC.1 hC.2.1 dX4_mayMake_57 (by decide) (fun c_57 => ?_) (fun c_57 => ?_)
        · refine lv_iconst (v := 0) hC.1 hC.2.1 dX4_mayMake_64 (by decide) ?_
          exact krZ hC hr hlk (Or.inl rfl) (by simp only [kif_true, kif_false, kb, kup_eq, kup_f, kup_i, not_true_eq_false, not_false_eq_true, and_true, true_and, and_false, false_and, and_self, or_true, true_or, or_false, false_or, kMay, c_6, c_15, c_36, c_57]) dX4_mayMake_65
        · refine lv_iconst (v := 1) hC.1 hC.2.1 dX4_mayMake_60 (by decide) ?_
          refine lv_goto (tgt := 65) hC.1 hC.2.1 dX4_mayMake_61 (by decide) ?_
          exact krZ hC hr hlk (Or.inr rfl) (by simp only [kif_true, kif_false, kb, kup_eq, kup_f, kup_i, not_true_eq_false, not_false_eq_true, and_true, true_and, and_false, false_and, and_self, or_true, true_or, or_false, false_or, kMay, c_6, c_15, c_36, c_57]) dX4_mayMake_65
set_option maxHeartbeats 4000000 in
set_option maxRecDepth 100000 in
theorem c_X4_openOf (l : Launch) (D : va_G) (G : Nat → ClassId) (M : Nat → Nat) (hL : mL M) (T N : kT) (r g : Nat → Int32) (p : Int32) (hI2 : kI2 T) : kM l yX4_openOf cX4_openOf 4 (some .int) 0 0 (mPc D G M T N r g [.ref (M 0), .int p]) (kSi (kOpn T p 40)) (fun _ => False) := by
  refine kBegin (by decide) (Nat.le_of_ble_eq_true rfl) ?_
  intro zp ze zs zm zargs zbelow zmeth zc hC hr hlk hB ls hl
  obtain ⟨hP, hK⟩ := hB
  have hW : mWd D G M (mA M) zs.heap T N r g zs.heap [] := mWd.start hL hP
  have hl : lv_has ls 4 [(0, .ref (M 0)), (1, .int p)] := hl
  refine lv_iconst (v := 0) hC.1 hC.2.1 dX4_openOf_0 (by decide) ?_
  refine lv_istore_n (lv' := [(2, .int 0), (0, .ref (M 0)), (1, .int p)]) hC.1 hC.2.1 dX4_openOf_1 rfl hl (by decide) rfl (fun ls hl => ?_)
  refine lv_iconst (v := 0) hC.1 hC.2.1 dX4_openOf_2 (by decide) ?_
  refine lv_istore_n (lv' := [(3, .int 0), (2, .int 0), (0, .ref (M 0)), (1, .int p)]) hC.1 hC.2.1 dX4_openOf_3 rfl hl (by decide) rfl (fun ls hl => ?_)
  have loop_4 : ∀ (zf i : Nat), i + zf = tn (T 0 2) →  ∀ ls : Array Slot, lv_has ls 4 [(3, .int (nI i)), (2, .int (kOpn T p i)), (0, .ref (M 0)), (1, .int p)] → W zp l ze ({ frames := 0, cells := 0, slots := 0, locals := 0 } : Room) zs zm zargs zbelow zmeth zc zs.heap [] 0 0 (MQ zbelow (kSi (kOpn T p 40)) zargs zs 0 0 (fun _ => False)) (F0 zm 4 ls []) := by
    intro zf
    induction zf with
    | zero =>
      intro i  hi  ls hl
      have hi0 : i = tn (T 0 2) := by omega
      have hb2 := (tn_nat hI2.1).2
      have hb3 := hI2.2.1
      refine lv_iload_n hC.1 hC.2.1 dX4_openOf_4 rfl (lv_at hl 0 rfl) ?_
      refine lv_aload_n hC.1 hC.2.1 dX4_openOf_5 rfl (lv_at hl 2 rfl) ?_
      refine mg4 hC hK hW 11 (v := .int (T 0 2)) rfl (by decide) rfl tf_X4_100 dX4_openOf_6 ?_
      refine lv_icmp_ge (tgt := 45) hC.1 hC.2.1 dX4_openOf_9 (by decide) (fun c_9 => ?_) (fun c_9 => ?_)
      · refine lv_iload_n hC.1 hC.2.1 dX4_openOf_45 rfl (lv_at hl 1 rfl) ?_
        exact krS hC hr hlk (by rw [hi0]; exact kOpn_n hI2) dX4_openOf_46
      · exact absurd (show T 0 2 ≤ nI i from by rw [(tn_nat hI2.1).1]; exact nI_le (by omega) (by omega)) c_9
    | succ zf ih =>
      intro i  hi  ls hl
      have hlt : i < tn (T 0 2) := by omega
      have hb2 := (tn_nat hI2.1).2
      have hb3 := hI2.2.1
      refine lv_iload_n hC.1 hC.2.1 dX4_openOf_4 rfl (lv_at hl 0 rfl) ?_
      refine lv_aload_n hC.1 hC.2.1 dX4_openOf_5 rfl (lv_at hl 2 rfl) ?_
      refine mg4 hC hK hW 11 (v := .int (T 0 2)) rfl (by decide) rfl tf_X4_100 dX4_openOf_6 ?_
      refine lv_icmp_ge (tgt := 45) hC.1 hC.2.1 dX4_openOf_9 (by decide) (fun c_9 => ?_) (fun c_9 => ?_)
      · exact absurd (show nI (tn (T 0 2)) ≤ nI i from by rw [← (tn_nat hI2.1).1]; exact c_9) (nI_ge (a := i) (b := tn (T 0 2)) (by omega) (by omega))
      · refine lv_iload_n hC.1 hC.2.1 dX4_openOf_12 rfl (lv_at hl 1 rfl) ?_
        refine lv_aload_n hC.1 hC.2.1 dX4_openOf_13 rfl (lv_at hl 2 rfl) ?_
        refine mg4 hC hK hW 12 (v := .ref (M 8)) rfl (by decide) rfl tf_X4_32 dX4_openOf_14 ?_
        refine lv_iload_n hC.1 hC.2.1 dX4_openOf_17 rfl (lv_at hl 0 rfl) ?_
        refine mabN hC hK hW 8 (by decide) rfl (i := i) (by omega) dX4_openOf_18 ?_
        refine lv_if_eq (tgt := 36) hC.1 hC.2.1 dX4_openOf_19 (by decide) (fun c_19 => ?_) (fun c_19 => ?_)
        · refine lv_iconst (v := 0) hC.1 hC.2.1 dX4_openOf_36 (by decide) ?_
          refine lv_iadd hC.1 hC.2.1 dX4_openOf_37 ?_
          refine lv_istore_n (lv' := [(2, .int ((kOpn T p i) + 0)), (3, .int (nI i)), (0, .ref (M 0)), (1, .int p)]) hC.1 hC.2.1 dX4_openOf_38 rfl hl (by decide) rfl (fun ls hl => ?_)
          refine lv_iinc (v := nI (i + 1)) (lv' := [(3, .int (nI (i + 1))), (2, .int ((kOpn T p i) + 0)), (0, .ref (M 0)), (1, .int p)]) hC.1 hC.2.1 dX4_openOf_39 hl (k := 1) rfl (nI_1 i) (by decide) rfl (fun ls hl => ?_)
          refine lv_goto (tgt := 4) hC.1 hC.2.1 dX4_openOf_42 (by decide) ?_
          have e_2 : ((kOpn T p i) + 0) = kOpn T p (i + 1) := by simp only [kif_true, kif_false, kb, not_true_eq_false, not_false_eq_true, and_true, true_and, and_false, false_and, and_self, or_true, true_or, or_false, false_or, Int32.add_zero, Int32.sub_zero, kOpn, ksum, c_9, c_19]
          rw [e_2] at hl
          exact ih (i + 1) (by omega) ls (lv_sub hl [0, 1, 2, 3] rfl)
        · refine lv_aload_n hC.1 hC.2.1 dX4_openOf_22 rfl (lv_at hl 2 rfl) ?_
          refine mg4 hC hK hW 13 (v := .ref (M 9)) rfl (by decide) rfl tf_X4_35 dX4_openOf_23 ?_
          refine lv_iload_n hC.1 hC.2.1 dX4_openOf_26 rfl (lv_at hl 0 rfl) ?_
          refine maiN hC hK hW 9 (by decide) rfl (i := i) (by omega) dX4_openOf_27 ?_
          refine lv_iload_n hC.1 hC.2.1 dX4_openOf_28 rfl (lv_at hl 3 rfl) ?_
          refine lv_icmp_ne (tgt := 36) hC.1 hC.2.1 dX4_openOf_29 (by decide) (fun c_29 => ?_) (fun c_29 => ?_)
          · refine lv_iconst (v := 0) hC.1 hC.2.1 dX4_openOf_36 (by decide) ?_
            refine lv_iadd hC.1 hC.2.1 dX4_openOf_37 ?_
            refine lv_istore_n (lv' := [(2, .int ((kOpn T p i) + 0)), (3, .int (nI i)), (0, .ref (M 0)), (1, .int p)]) hC.1 hC.2.1 dX4_openOf_38 rfl hl (by decide) rfl (fun ls hl => ?_)
            refine lv_iinc (v := nI (i + 1)) (lv' := [(3, .int (nI (i + 1))), (2, .int ((kOpn T p i) + 0)), (0, .ref (M 0)), (1, .int p)]) hC.1 hC.2.1 dX4_openOf_39 hl (k := 1) rfl (nI_1 i) (by decide) rfl (fun ls hl => ?_)
            refine lv_goto (tgt := 4) hC.1 hC.2.1 dX4_openOf_42 (by decide) ?_
            have e_2 : ((kOpn T p i) + 0) = kOpn T p (i + 1) := by simp only [kif_true, kif_false, kb, not_true_eq_false, not_false_eq_true, and_true, true_and, and_false, false_and, and_self, or_true, true_or, or_false, false_or, Int32.add_zero, Int32.sub_zero, kOpn, ksum, c_9, c_19, c_29]
            rw [e_2] at hl
            exact ih (i + 1) (by omega) ls (lv_sub hl [0, 1, 2, 3] rfl)
          · refine lv_iconst (v := 1) hC.1 hC.2.1 dX4_openOf_32 (by decide) ?_
            refine lv_goto (tgt := 37) hC.1 hC.2.1 dX4_openOf_33 (by decide) ?_
            refine lv_iadd hC.1 hC.2.1 dX4_openOf_37 ?_
            refine lv_istore_n (lv' := [(2, .int ((kOpn T p i) + 1)), (3, .int (nI i)), (0, .ref (M 0)), (1, .int p)]) hC.1 hC.2.1 dX4_openOf_38 rfl hl (by decide) rfl (fun ls hl => ?_)
            refine lv_iinc (v := nI (i + 1)) (lv' := [(3, .int (nI (i + 1))), (2, .int ((kOpn T p i) + 1)), (0, .ref (M 0)), (1, .int p)]) hC.1 hC.2.1 dX4_openOf_39 hl (k := 1) rfl (nI_1 i) (by decide) rfl (fun ls hl => ?_)
            refine lv_goto (tgt := 4) hC.1 hC.2.1 dX4_openOf_42 (by decide) ?_
            have e_2 : ((kOpn T p i) + 1) = kOpn T p (i + 1) := by simp only [kif_true, kif_false, kb, not_true_eq_false, not_false_eq_true, and_true, true_and, and_false, false_and, and_self, or_true, true_or, or_false, false_or, Int32.add_zero, Int32.sub_zero, kOpn, ksum, c_9, c_19, c_29]
            rw [e_2] at hl
            exact ih (i + 1) (by omega) ls (lv_sub hl [0, 1, 2, 3] rfl)
  exact loop_4 (tn (T 0 2)) 0 (by omega) ls (by rw [nI_0]; exact lv_sub hl [0, 1, 2, 3] rfl)
set_option maxHeartbeats 4000000 in
set_option maxRecDepth 100000 in
theorem c_X4_suitAll (l : Launch) (D : va_G) (G : Nat → ClassId) (M : Nat → Nat) (hL : mL M) (T N : kT) (r g : Nat → Int32) (p : Int32) (hI2 : kI2 T) (hp : vp_in p 24) : kM l yX4_suitAll cX4_suitAll 4 (some .boolean) 2 45 (mPc D G M T N r g [.ref (M 0), .int p]) (kSi (kb (kFit T p (T 3 (tn p)) (T 4 (tn p)) (kBoth T (T 5 (tn p)) (T 6 (tn p)))))) (fun _ => False) := by
  refine kBegin (by decide) (Nat.le_of_ble_eq_true rfl) ?_
  intro zp ze zs zm zargs zbelow zmeth zc hC hr hlk hB ls hl
  obtain ⟨hP, hK⟩ := hB
  have hW : mWd D G M (mA M) zs.heap T N r g zs.heap [] := mWd.start hL hP
  have hl : lv_has ls 4 [(0, .ref (M 0)), (1, .int p)] := hl
  refine lv_iconst (v := 1) hC.1 hC.2.1 dX4_suitAll_0 (by decide) ?_
  refine lv_istore_n (lv' := [(2, .int 1), (0, .ref (M 0)), (1, .int p)]) hC.1 hC.2.1 dX4_suitAll_1 rfl hl (by decide) rfl (fun ls hl => ?_)
  refine lv_iconst (v := 0) hC.1 hC.2.1 dX4_suitAll_2 (by decide) ?_
  refine lv_istore_n (lv' := [(3, .int 0), (2, .int 1), (0, .ref (M 0)), (1, .int p)]) hC.1 hC.2.1 dX4_suitAll_3 rfl hl (by decide) rfl (fun ls hl => ?_)
  have loop_4 : ∀ (zf i : Nat), i + zf = tn (T 0 2) →  ∀ ls : Array Slot, lv_has ls 4 [(3, .int (nI i)), (2, .int (kb (∀ x, x < i → ¬ (¬ T 10 x = 0 ∧ T 11 x = p ∧ ¬ kSui T (tn p) (T 12 x) (T 13 x))))), (0, .ref (M 0)), (1, .int p)] → W zp l ze ({ frames := 2, cells := 0, slots := 0, locals := 45 } : Room) zs zm zargs zbelow zmeth zc zs.heap [] 0 0 (MQ zbelow (kSi (kb (kFit T p (T 3 (tn p)) (T 4 (tn p)) (kBoth T (T 5 (tn p)) (T 6 (tn p)))))) zargs zs 0 0 (fun _ => False)) (F0 zm 4 ls []) := by
    intro zf
    induction zf with
    | zero =>
      intro i  hi  ls hl
      have hi0 : i = tn (T 0 2) := by omega
      have hb2 := (tn_nat hI2.1).2
      have hb3 := hI2.2.1
      refine lv_iload_n hC.1 hC.2.1 dX4_suitAll_4 rfl (lv_at hl 0 rfl) ?_
      refine lv_aload_n hC.1 hC.2.1 dX4_suitAll_5 rfl (lv_at hl 2 rfl) ?_
      refine mg4 hC hK hW 11 (v := .int (T 0 2)) rfl (by decide) rfl tf_X4_100 dX4_suitAll_6 ?_
      refine lv_icmp_ge (tgt := 67) hC.1 hC.2.1 dX4_suitAll_9 (by decide) (fun c_9 => ?_) (fun c_9 => ?_)
      · refine lv_iload_n hC.1 hC.2.1 dX4_suitAll_67 rfl (lv_at hl 1 rfl) ?_
        exact krZ hC hr hlk (kb_01 _) (by rw [hi0]; exact (kb_c (kFit_n hI2)).symm) dX4_suitAll_68
      · exact absurd (show T 0 2 ≤ nI i from by rw [(tn_nat hI2.1).1]; exact nI_le (by omega) (by omega)) c_9
    | succ zf ih =>
      intro i  hi  ls hl
      have hlt : i < tn (T 0 2) := by omega
      have hb2 := (tn_nat hI2.1).2
      have hb3 := hI2.2.1
      refine lv_iload_n hC.1 hC.2.1 dX4_suitAll_4 rfl (lv_at hl 0 rfl) ?_
      refine lv_aload_n hC.1 hC.2.1 dX4_suitAll_5 rfl (lv_at hl 2 rfl) ?_
      refine mg4 hC hK hW 11 (v := .int (T 0 2)) rfl (by decide) rfl tf_X4_100 dX4_suitAll_6 ?_
      refine lv_icmp_ge (tgt := 67) hC.1 hC.2.1 dX4_suitAll_9 (by decide) (fun c_9 => ?_) (fun c_9 => ?_)
      · exact absurd (show nI (tn (T 0 2)) ≤ nI i from by rw [← (tn_nat hI2.1).1]; exact c_9) (nI_ge (a := i) (b := tn (T 0 2)) (by omega) (by omega))
      · refine lv_iload_n hC.1 hC.2.1 dX4_suitAll_12 rfl (lv_at hl 1 rfl) ?_
        refine kif_eq (tgt := 59) hC.1 hC.2.1 dX4_suitAll_13 (by decide) (fun c_13 => ?_) (fun c_13 => ?_)
        · refine lv_iconst (v := 0) hC.1 hC.2.1 dX4_suitAll_59 (by decide) ?_
          refine lv_istore_n (lv' := [(2, .int 0), (3, .int (nI i)), (0, .ref (M 0)), (1, .int p)]) hC.1 hC.2.1 dX4_suitAll_60 rfl hl (by decide) rfl (fun ls hl => ?_)
          refine lv_iinc (v := nI (i + 1)) (lv' := [(3, .int (nI (i + 1))), (2, .int 0), (0, .ref (M 0)), (1, .int p)]) hC.1 hC.2.1 dX4_suitAll_61 hl (k := 1) rfl (nI_1 i) (by decide) rfl (fun ls hl => ?_)
          refine lv_goto (tgt := 4) hC.1 hC.2.1 dX4_suitAll_64 (by decide) ?_
          have e_2 : (0 : Int32) = kb (∀ x, x < (i + 1) → ¬ (¬ T 10 x = 0 ∧ T 11 x = p ∧ ¬ kSui T (tn p) (T 12 x) (T 13 x))) := (kb_f (fun h => c_13 (fun x hx => h x (by omega)))).symm
          rw [e_2] at hl
          exact ih (i + 1) (by omega) ls (lv_sub hl [0, 1, 2, 3] rfl)
        · refine lv_aload_n hC.1 hC.2.1 dX4_suitAll_16 rfl (lv_at hl 2 rfl) ?_
          refine mg4 hC hK hW 12 (v := .ref (M 8)) rfl (by decide) rfl tf_X4_32 dX4_suitAll_17 ?_
          refine lv_iload_n hC.1 hC.2.1 dX4_suitAll_20 rfl (lv_at hl 0 rfl) ?_
          refine mabN hC hK hW 8 (by decide) rfl (i := i) (by omega) dX4_suitAll_21 ?_
          refine lv_if_eq (tgt := 55) hC.1 hC.2.1 dX4_suitAll_22 (by decide) (fun c_22 => ?_) (fun c_22 => ?_)
          · refine lv_iconst (v := 1) hC.1 hC.2.1 dX4_suitAll_55 (by decide) ?_
            refine lv_goto (tgt := 60) hC.1 hC.2.1 dX4_suitAll_56 (by decide) ?_
            refine lv_istore_n (lv' := [(2, .int 1), (3, .int (nI i)), (0, .ref (M 0)), (1, .int p)]) hC.1 hC.2.1 dX4_suitAll_60 rfl hl (by decide) rfl (fun ls hl => ?_)
            refine lv_iinc (v := nI (i + 1)) (lv' := [(3, .int (nI (i + 1))), (2, .int 1), (0, .ref (M 0)), (1, .int p)]) hC.1 hC.2.1 dX4_suitAll_61 hl (k := 1) rfl (nI_1 i) (by decide) rfl (fun ls hl => ?_)
            refine lv_goto (tgt := 4) hC.1 hC.2.1 dX4_suitAll_64 (by decide) ?_
            have e_2 : (1 : Int32) = kb (∀ x, x < (i + 1) → ¬ (¬ T 10 x = 0 ∧ T 11 x = p ∧ ¬ kSui T (tn p) (T 12 x) (T 13 x))) := (kb_t (fun x hx z => by rcases Nat.lt_succ_iff_lt_or_eq.mp hx with q | q; exact c_13 x q z; subst q; exact z.1 c_22)).symm
            rw [e_2] at hl
            exact ih (i + 1) (by omega) ls (lv_sub hl [0, 1, 2, 3] rfl)
          · refine lv_aload_n hC.1 hC.2.1 dX4_suitAll_25 rfl (lv_at hl 2 rfl) ?_
            refine mg4 hC hK hW 13 (v := .ref (M 9)) rfl (by decide) rfl tf_X4_35 dX4_suitAll_26 ?_
            refine lv_iload_n hC.1 hC.2.1 dX4_suitAll_29 rfl (lv_at hl 0 rfl) ?_
            refine maiN hC hK hW 9 (by decide) rfl (i := i) (by omega) dX4_suitAll_30 ?_
            refine lv_iload_n hC.1 hC.2.1 dX4_suitAll_31 rfl (lv_at hl 3 rfl) ?_
            refine lv_icmp_ne (tgt := 55) hC.1 hC.2.1 dX4_suitAll_32 (by decide) (fun c_32 => ?_) (fun c_32 => ?_)
            · refine lv_iconst (v := 1) hC.1 hC.2.1 dX4_suitAll_55 (by decide) ?_
              refine lv_goto (tgt := 60) hC.1 hC.2.1 dX4_suitAll_56 (by decide) ?_
              refine lv_istore_n (lv' := [(2, .int 1), (3, .int (nI i)), (0, .ref (M 0)), (1, .int p)]) hC.1 hC.2.1 dX4_suitAll_60 rfl hl (by decide) rfl (fun ls hl => ?_)
              refine lv_iinc (v := nI (i + 1)) (lv' := [(3, .int (nI (i + 1))), (2, .int 1), (0, .ref (M 0)), (1, .int p)]) hC.1 hC.2.1 dX4_suitAll_61 hl (k := 1) rfl (nI_1 i) (by decide) rfl (fun ls hl => ?_)
              refine lv_goto (tgt := 4) hC.1 hC.2.1 dX4_suitAll_64 (by decide) ?_
              have e_2 : (1 : Int32) = kb (∀ x, x < (i + 1) → ¬ (¬ T 10 x = 0 ∧ T 11 x = p ∧ ¬ kSui T (tn p) (T 12 x) (T 13 x))) := (kb_t (fun x hx z => by rcases Nat.lt_succ_iff_lt_or_eq.mp hx with q | q; exact c_13 x q z; subst q; exact c_32 z.2.1)).symm
              rw [e_2] at hl
              exact ih (i + 1) (by omega) ls (lv_sub hl [0, 1, 2, 3] rfl)
            · refine lv_aload_n hC.1 hC.2.1 dX4_suitAll_35 rfl (lv_at hl 2 rfl) ?_
              refine lv_iload_n hC.1 hC.2.1 dX4_suitAll_36 rfl (lv_at hl 3 rfl) ?_
              refine lv_aload_n hC.1 hC.2.1 dX4_suitAll_37 rfl (lv_at hl 2 rfl) ?_
              refine mg4 hC hK hW 14 (v := .ref (M 10)) rfl (by decide) rfl tf_X4_38 dX4_suitAll_38 ?_
              refine lv_iload_n hC.1 hC.2.1 dX4_suitAll_41 rfl (lv_at hl 0 rfl) ?_
              refine maiN hC hK hW 10 (by decide) rfl (i := i) (by omega) dX4_suitAll_42 ?_
              refine lv_aload_n hC.1 hC.2.1 dX4_suitAll_43 rfl (lv_at hl 2 rfl) ?_
              refine mg4 hC hK hW 15 (v := .ref (M 11)) rfl (by decide) rfl tf_X4_41 dX4_suitAll_44 ?_
              refine lv_iload_n hC.1 hC.2.1 dX4_suitAll_47 rfl (lv_at hl 0 rfl) ?_
              refine maiN hC hK hW 11 (by decide) rfl (i := i) (by omega) dX4_suitAll_48 ?_
              refine keSi (rest := []) (mcV 0 hC hK hW (c_X4_suits l D G M hL T N r g p (T 12 i) (T 13 i) hp) (kgoodV tm_X4_125 ti_yX4_suits te_yX4_suits tz_X4 tc_yX4_suits) mw_m rfl ⟨rfl, by decide, by decide, (show Option.map _ (parseMethodDescriptor yX4_suits.desc) = some 3 from by decide +kernel)⟩ ⟨Nat.le_of_ble_eq_true rfl, Nat.le_of_ble_eq_true rfl⟩ hl.1 rfl (Nat.le_of_ble_eq_true rfl) ⟨Nat.le_refl _, Nat.le_refl _⟩ dX4_suitAll_49) ?_
              refine kif_eq (tgt := 59) hC.1 hC.2.1 dX4_suitAll_52 (by decide) (fun c_52 => ?_) (fun c_52 => ?_)
              · refine lv_iconst (v := 0) hC.1 hC.2.1 dX4_suitAll_59 (by decide) ?_
                refine lv_istore_n (lv' := [(2, .int 0), (3, .int (nI i)), (0, .ref (M 0)), (1, .int p)]) hC.1 hC.2.1 dX4_suitAll_60 rfl hl (by decide) rfl (fun ls hl => ?_)
                refine lv_iinc (v := nI (i + 1)) (lv' := [(3, .int (nI (i + 1))), (2, .int 0), (0, .ref (M 0)), (1, .int p)]) hC.1 hC.2.1 dX4_suitAll_61 hl (k := 1) rfl (nI_1 i) (by decide) rfl (fun ls hl => ?_)
                refine lv_goto (tgt := 4) hC.1 hC.2.1 dX4_suitAll_64 (by decide) ?_
                have e_2 : (0 : Int32) = kb (∀ x, x < (i + 1) → ¬ (¬ T 10 x = 0 ∧ T 11 x = p ∧ ¬ kSui T (tn p) (T 12 x) (T 13 x))) := (kb_f (fun h => h i (by omega) ⟨c_22, c_32, c_52⟩)).symm
                rw [e_2] at hl
                exact ih (i + 1) (by omega) ls (lv_sub hl [0, 1, 2, 3] rfl)
              · refine lv_iconst (v := 1) hC.1 hC.2.1 dX4_suitAll_55 (by decide) ?_
                refine lv_goto (tgt := 60) hC.1 hC.2.1 dX4_suitAll_56 (by decide) ?_
                refine lv_istore_n (lv' := [(2, .int 1), (3, .int (nI i)), (0, .ref (M 0)), (1, .int p)]) hC.1 hC.2.1 dX4_suitAll_60 rfl hl (by decide) rfl (fun ls hl => ?_)
                refine lv_iinc (v := nI (i + 1)) (lv' := [(3, .int (nI (i + 1))), (2, .int 1), (0, .ref (M 0)), (1, .int p)]) hC.1 hC.2.1 dX4_suitAll_61 hl (k := 1) rfl (nI_1 i) (by decide) rfl (fun ls hl => ?_)
                refine lv_goto (tgt := 4) hC.1 hC.2.1 dX4_suitAll_64 (by decide) ?_
                have e_2 : (1 : Int32) = kb (∀ x, x < (i + 1) → ¬ (¬ T 10 x = 0 ∧ T 11 x = p ∧ ¬ kSui T (tn p) (T 12 x) (T 13 x))) := (kb_t (fun x hx z => by rcases Nat.lt_succ_iff_lt_or_eq.mp hx with q | q; exact c_13 x q z; subst q; exact z.2.2 c_52)).symm
                rw [e_2] at hl
                exact ih (i + 1) (by omega) ls (lv_sub hl [0, 1, 2, 3] rfl)
  exact loop_4 (tn (T 0 2)) 0 (by omega) ls (by rw [nI_0, kb_t (P := ∀ x, x < 0 → ¬ (¬ T 10 x = 0 ∧ T 11 x = p ∧ ¬ kSui T (tn p) (T 12 x) (T 13 x))) (fun x hx => absurd hx (Nat.not_lt_zero x))]; exact lv_sub hl [0, 1, 2, 3] rfl)
set_option maxHeartbeats 4000000 in
set_option maxRecDepth 100000 in
theorem c_X4_blocksLeft (l : Launch) (D : va_G) (G : Nat → ClassId) (M : Nat → Nat) (hL : mL M) (T N : kT) (r g : Nat → Int32) (c : Int32) (hI3 : kI3 T) (hc : kCn T c) : kM l yX4_blocksLeft cX4_blocksLeft 4 (some .int) 1 20 (mPc D G M T N r g [.ref (M 0), .int c]) (kSi (kBl T c)) (fun _ => False) := by
  refine kBegin (by decide) (Nat.le_of_ble_eq_true rfl) ?_
  intro zp ze zs zm zargs zbelow zmeth zc hC hr hlk hB ls hl
  obtain ⟨hP, hK⟩ := hB
  have hW : mWd D G M (mA M) zs.heap T N r g zs.heap [] := mWd.start hL hP
  have hl : lv_has ls 4 [(0, .ref (M 0)), (1, .int c)] := hl
  refine lv_aload_n hC.1 hC.2.1 dX4_blocksLeft_0 rfl (lv_at hl 0 rfl) ?_
  refine mg4 hC hK hW 24 (v := .ref (M 19)) rfl (by decide) rfl tf_X4_65 dX4_blocksLeft_1 ?_
  refine lv_iload_n hC.1 hC.2.1 dX4_blocksLeft_4 rfl (lv_at hl 1 rfl) ?_
  refine mai hC hK hW 19 (by decide) rfl (i := c) hc.1.in dX4_blocksLeft_5 ?_
  refine lv_istore_n (lv' := [(2, .int (T 23 (tn c))), (0, .ref (M 0)), (1, .int c)]) hC.1 hC.2.1 dX4_blocksLeft_6 rfl hl (by decide) rfl (fun ls hl => ?_)
  refine lv_iconst (v := 0) hC.1 hC.2.1 dX4_blocksLeft_7 (by decide) ?_
  refine lv_istore_n (lv' := [(3, .int 0), (2, .int (T 23 (tn c))), (0, .ref (M 0)), (1, .int c)]) hC.1 hC.2.1 dX4_blocksLeft_8 rfl hl (by decide) rfl (fun ls hl => ?_)
  have loop_9 : ∀ (zf i : Nat), i + zf = tn (T 0 3) →  ∀ ls : Array Slot, lv_has ls 4 [(3, .int (nI i)), (2, .int (kdf (mbf T c) (T 23 (tn c)) i)), (0, .ref (M 0)), (1, .int c)] → W zp l ze ({ frames := 1, cells := 0, slots := 0, locals := 20 } : Room) zs zm zargs zbelow zmeth zc zs.heap [] 0 0 (MQ zbelow (kSi (kBl T c)) zargs zs 0 0 (fun _ => False)) (F0 zm 9 ls []) := by
    intro zf
    induction zf with
    | zero =>
      intro i  hi  ls hl
      have hi0 : i = tn (T 0 3) := by omega
      have hb2 := (tn_nat hI3.1).2
      have hb3 := hI3.2.2.1
      refine lv_iload_n hC.1 hC.2.1 dX4_blocksLeft_9 rfl (lv_at hl 0 rfl) ?_
      refine lv_aload_n hC.1 hC.2.1 dX4_blocksLeft_10 rfl (lv_at hl 2 rfl) ?_
      refine mg4 hC hK hW 18 (v := .int (T 0 3)) rfl (by decide) rfl tf_X4_90 dX4_blocksLeft_11 ?_
      refine lv_icmp_ge (tgt := 76) hC.1 hC.2.1 dX4_blocksLeft_14 (by decide) (fun c_14 => ?_) (fun c_14 => ?_)
      · refine lv_iload_n hC.1 hC.2.1 dX4_blocksLeft_76 rfl (lv_at hl 1 rfl) ?_
        exact krS hC hr hlk (by rw [hi0]; unfold kBl; rw [kif_t hc]; exact (kbl_n hI3).symm) dX4_blocksLeft_77
      · exact absurd (show T 0 3 ≤ nI i from by rw [(tn_nat hI3.1).1]; exact nI_le (by omega) (by omega)) c_14
    | succ zf ih =>
      intro i  hi  ls hl
      have hlt : i < tn (T 0 3) := by omega
      have hb2 := (tn_nat hI3.1).2
      have hb3 := hI3.2.2.1
      refine lv_iload_n hC.1 hC.2.1 dX4_blocksLeft_9 rfl (lv_at hl 0 rfl) ?_
      refine lv_aload_n hC.1 hC.2.1 dX4_blocksLeft_10 rfl (lv_at hl 2 rfl) ?_
      refine mg4 hC hK hW 18 (v := .int (T 0 3)) rfl (by decide) rfl tf_X4_90 dX4_blocksLeft_11 ?_
      refine lv_icmp_ge (tgt := 76) hC.1 hC.2.1 dX4_blocksLeft_14 (by decide) (fun c_14 => ?_) (fun c_14 => ?_)
      · exact absurd (show nI (tn (T 0 3)) ≤ nI i from by rw [← (tn_nat hI3.1).1]; exact c_14) (nI_ge (a := i) (b := tn (T 0 3)) (by omega) (by omega))
      · refine lv_iload_n hC.1 hC.2.1 dX4_blocksLeft_17 rfl (lv_at hl 1 rfl) ?_
        refine lv_aload_n hC.1 hC.2.1 dX4_blocksLeft_18 rfl (lv_at hl 2 rfl) ?_
        refine mg4 hC hK hW 19 (v := .ref (M 14)) rfl (by decide) rfl tf_X4_50 dX4_blocksLeft_19 ?_
        refine lv_iload_n hC.1 hC.2.1 dX4_blocksLeft_22 rfl (lv_at hl 0 rfl) ?_
        refine mabN hC hK hW 14 (by decide) rfl (i := i) (by omega) dX4_blocksLeft_23 ?_
        refine lv_if_eq (tgt := 67) hC.1 hC.2.1 dX4_blocksLeft_24 (by decide) (fun c_24 => ?_) (fun c_24 => ?_)
        · refine lv_iconst (v := 0) hC.1 hC.2.1 dX4_blocksLeft_67 (by decide) ?_
          refine lv_isub hC.1 hC.2.1 dX4_blocksLeft_68 ?_
          refine lv_istore_n (lv' := [(2, .int ((kdf (mbf T c) (T 23 (tn c)) i) - 0)), (3, .int (nI i)), (0, .ref (M 0)), (1, .int c)]) hC.1 hC.2.1 dX4_blocksLeft_69 rfl hl (by decide) rfl (fun ls hl => ?_)
          refine lv_iinc (v := nI (i + 1)) (lv' := [(3, .int (nI (i + 1))), (2, .int ((kdf (mbf T c) (T 23 (tn c)) i) - 0)), (0, .ref (M 0)), (1, .int c)]) hC.1 hC.2.1 dX4_blocksLeft_70 hl (k := 1) rfl (nI_1 i) (by decide) rfl (fun ls hl => ?_)
          refine lv_goto (tgt := 9) hC.1 hC.2.1 dX4_blocksLeft_73 (by decide) ?_
          have e_2 : ((kdf (mbf T c) (T 23 (tn c)) i) - 0) = kdf (mbf T c) (T 23 (tn c)) (i + 1) := by simp only [kif_true, kif_false, kb, not_true_eq_false, not_false_eq_true, and_true, true_and, and_false, false_and, and_self, or_true, true_or, or_false, false_or, Int32.add_zero, Int32.sub_zero, kdf, mbf, c_14, c_24]
          rw [e_2] at hl
          exact ih (i + 1) (by omega) ls (lv_sub hl [0, 1, 2, 3] rfl)
        · refine lv_aload_n hC.1 hC.2.1 dX4_blocksLeft_27 rfl (lv_at hl 2 rfl) ?_
          refine mg4 hC hK hW 23 (v := .ref (M 18)) rfl (by decide) rfl tf_X4_62 dX4_blocksLeft_28 ?_
          refine lv_iload_n hC.1 hC.2.1 dX4_blocksLeft_31 rfl (lv_at hl 0 rfl) ?_
          refine maiN hC hK hW 18 (by decide) rfl (i := i) (by omega) dX4_blocksLeft_32 ?_
          refine lv_iload_n hC.1 hC.2.1 dX4_blocksLeft_33 rfl (lv_at hl 3 rfl) ?_
          refine lv_icmp_ne (tgt := 67) hC.1 hC.2.1 dX4_blocksLeft_34 (by decide) (fun c_34 => ?_) (fun c_34 => ?_)
          · refine lv_iconst (v := 0) hC.1 hC.2.1 dX4_blocksLeft_67 (by decide) ?_
            refine lv_isub hC.1 hC.2.1 dX4_blocksLeft_68 ?_
            refine lv_istore_n (lv' := [(2, .int ((kdf (mbf T c) (T 23 (tn c)) i) - 0)), (3, .int (nI i)), (0, .ref (M 0)), (1, .int c)]) hC.1 hC.2.1 dX4_blocksLeft_69 rfl hl (by decide) rfl (fun ls hl => ?_)
            refine lv_iinc (v := nI (i + 1)) (lv' := [(3, .int (nI (i + 1))), (2, .int ((kdf (mbf T c) (T 23 (tn c)) i) - 0)), (0, .ref (M 0)), (1, .int c)]) hC.1 hC.2.1 dX4_blocksLeft_70 hl (k := 1) rfl (nI_1 i) (by decide) rfl (fun ls hl => ?_)
            refine lv_goto (tgt := 9) hC.1 hC.2.1 dX4_blocksLeft_73 (by decide) ?_
            have e_2 : ((kdf (mbf T c) (T 23 (tn c)) i) - 0) = kdf (mbf T c) (T 23 (tn c)) (i + 1) := by simp only [kif_true, kif_false, kb, not_true_eq_false, not_false_eq_true, and_true, true_and, and_false, false_and, and_self, or_true, true_or, or_false, false_or, Int32.add_zero, Int32.sub_zero, kdf, mbf, c_14, c_24, c_34]
            rw [e_2] at hl
            exact ih (i + 1) (by omega) ls (lv_sub hl [0, 1, 2, 3] rfl)
          · refine lv_aload_n hC.1 hC.2.1 dX4_blocksLeft_37 rfl (lv_at hl 2 rfl) ?_
            refine mg4 hC hK hW 20 (v := .ref (M 15)) rfl (by decide) rfl tf_X4_53 dX4_blocksLeft_38 ?_
            refine lv_iload_n hC.1 hC.2.1 dX4_blocksLeft_41 rfl (lv_at hl 0 rfl) ?_
            refine mabN hC hK hW 15 (by decide) rfl (i := i) (by omega) dX4_blocksLeft_42 ?_
            refine lv_if_eq (tgt := 55) hC.1 hC.2.1 dX4_blocksLeft_43 (by decide) (fun c_43 => ?_) (fun c_43 => ?_)
            · refine lv_aload_n hC.1 hC.2.1 dX4_blocksLeft_55 rfl (lv_at hl 2 rfl) ?_
              refine mg4 hC hK hW 26 (v := .ref (M 21)) rfl (by decide) rfl tf_X4_71 dX4_blocksLeft_56 ?_
              refine lv_iload_n hC.1 hC.2.1 dX4_blocksLeft_59 rfl (lv_at hl 0 rfl) ?_
              refine maiN hC hK hW 21 (by decide) rfl (i := i) (by omega) dX4_blocksLeft_60 ?_
              refine keSi (rest := [.int (kdf (mbf T c) (T 23 (tn c)) i)]) (kcS0 hC (c_X4_blocksOf l (T 25 i)) (kgoodS tm_X4_155 ts_yX4_blocksOf tz_X4 tc_yX4_blocksOf) ⟨rfl, by decide, by decide, (show Option.map _ (parseMethodDescriptor yX4_blocksOf.desc) = some 1 from by decide +kernel)⟩ ⟨Nat.le_of_ble_eq_true rfl, Nat.le_of_ble_eq_true rfl⟩ hl.1 rfl (Nat.le_of_ble_eq_true rfl) ⟨Nat.le_refl _, Nat.le_refl _⟩ dX4_blocksLeft_61) ?_
              refine lv_goto (tgt := 68) hC.1 hC.2.1 dX4_blocksLeft_64 (by decide) ?_
              refine lv_isub hC.1 hC.2.1 dX4_blocksLeft_68 ?_
              refine lv_istore_n (lv' := [(2, .int ((kdf (mbf T c) (T 23 (tn c)) i) - (kBf (T 25 i)))), (3, .int (nI i)), (0, .ref (M 0)), (1, .int c)]) hC.1 hC.2.1 dX4_blocksLeft_69 rfl hl (by decide) rfl (fun ls hl => ?_)
              refine lv_iinc (v := nI (i + 1)) (lv' := [(3, .int (nI (i + 1))), (2, .int ((kdf (mbf T c) (T 23 (tn c)) i) - (kBf (T 25 i)))), (0, .ref (M 0)), (1, .int c)]) hC.1 hC.2.1 dX4_blocksLeft_70 hl (k := 1) rfl (nI_1 i) (by decide) rfl (fun ls hl => ?_)
              refine lv_goto (tgt := 9) hC.1 hC.2.1 dX4_blocksLeft_73 (by decide) ?_
              have e_2 : ((kdf (mbf T c) (T 23 (tn c)) i) - (kBf (T 25 i))) = kdf (mbf T c) (T 23 (tn c)) (i + 1) := by simp only [kif_true, kif_false, kb, not_true_eq_false, not_false_eq_true, and_true, true_and, and_false, false_and, and_self, or_true, true_or, or_false, false_or, Int32.add_zero, Int32.sub_zero, kdf, mbf, c_14, c_24, c_34, c_43]
              rw [e_2] at hl
              exact ih (i + 1) (by omega) ls (lv_sub hl [0, 1, 2, 3] rfl)
            · refine lv_aload_n hC.1 hC.2.1 dX4_blocksLeft_46 rfl (lv_at hl 2 rfl) ?_
              refine mg4 hC hK hW 24 (v := .ref (M 19)) rfl (by decide) rfl tf_X4_65 dX4_blocksLeft_47 ?_
              refine lv_iload_n hC.1 hC.2.1 dX4_blocksLeft_50 rfl (lv_at hl 0 rfl) ?_
              refine maiN hC hK hW 19 (by decide) rfl (i := i) (by omega) dX4_blocksLeft_51 ?_
              refine lv_goto (tgt := 68) hC.1 hC.2.1 dX4_blocksLeft_52 (by decide) ?_
              refine lv_isub hC.1 hC.2.1 dX4_blocksLeft_68 ?_
              refine lv_istore_n (lv' := [(2, .int ((kdf (mbf T c) (T 23 (tn c)) i) - (T 23 i))), (3, .int (nI i)), (0, .ref (M 0)), (1, .int c)]) hC.1 hC.2.1 dX4_blocksLeft_69 rfl hl (by decide) rfl (fun ls hl => ?_)
              refine lv_iinc (v := nI (i + 1)) (lv' := [(3, .int (nI (i + 1))), (2, .int ((kdf (mbf T c) (T 23 (tn c)) i) - (T 23 i))), (0, .ref (M 0)), (1, .int c)]) hC.1 hC.2.1 dX4_blocksLeft_70 hl (k := 1) rfl (nI_1 i) (by decide) rfl (fun ls hl => ?_)
              refine lv_goto (tgt := 9) hC.1 hC.2.1 dX4_blocksLeft_73 (by decide) ?_
              have e_2 : ((kdf (mbf T c) (T 23 (tn c)) i) - (T 23 i)) = kdf (mbf T c) (T 23 (tn c)) (i + 1) := by simp only [kif_true, kif_false, kb, not_true_eq_false, not_false_eq_true, and_true, true_and, and_false, false_and, and_self, or_true, true_or, or_false, false_or, Int32.add_zero, Int32.sub_zero, kdf, mbf, c_14, c_24, c_34, c_43]
              rw [e_2] at hl
              exact ih (i + 1) (by omega) ls (lv_sub hl [0, 1, 2, 3] rfl)
  exact loop_9 (tn (T 0 3)) 0 (by omega) ls (by rw [nI_0]; exact lv_sub hl [0, 1, 2, 3] rfl)
set_option maxHeartbeats 4000000 in
set_option maxRecDepth 100000 in
theorem c_X4_objectsLeft (l : Launch) (D : va_G) (G : Nat → ClassId) (M : Nat → Nat) (hL : mL M) (T N : kT) (r g : Nat → Int32) (c : Int32) (hI3 : kI3 T) (hI5 : kI5 T) (hc : kCn T c) : kM l yX4_objectsLeft cX4_objectsLeft 4 (some .int) 0 0 (mPc D G M T N r g [.ref (M 0), .int c]) (kSi (kPl T c)) (fun _ => False) := by
  refine kBegin (by decide) (Nat.le_of_ble_eq_true rfl) ?_
  intro zp ze zs zm zargs zbelow zmeth zc hC hr hlk hB ls hl
  obtain ⟨hP, hK⟩ := hB
  have hW : mWd D G M (mA M) zs.heap T N r g zs.heap [] := mWd.start hL hP
  have hl : lv_has ls 4 [(0, .ref (M 0)), (1, .int c)] := hl
  refine lv_aload_n hC.1 hC.2.1 dX4_objectsLeft_0 rfl (lv_at hl 0 rfl) ?_
  refine mg4 hC hK hW 25 (v := .ref (M 20)) rfl (by decide) rfl tf_X4_68 dX4_objectsLeft_1 ?_
  refine lv_iload_n hC.1 hC.2.1 dX4_objectsLeft_4 rfl (lv_at hl 1 rfl) ?_
  refine mai hC hK hW 20 (by decide) rfl (i := c) hc.1.in dX4_objectsLeft_5 ?_
  refine lv_istore_n (lv' := [(2, .int (T 24 (tn c))), (0, .ref (M 0)), (1, .int c)]) hC.1 hC.2.1 dX4_objectsLeft_6 rfl hl (by decide) rfl (fun ls hl => ?_)
  refine lv_iconst (v := 0) hC.1 hC.2.1 dX4_objectsLeft_7 (by decide) ?_
  refine lv_istore_n (lv' := [(3, .int 0), (2, .int (T 24 (tn c))), (0, .ref (M 0)), (1, .int c)]) hC.1 hC.2.1 dX4_objectsLeft_8 rfl hl (by decide) rfl (fun ls hl => ?_)
  have loop_9 : ∀ (zf i : Nat), i + zf = tn (T 0 3) →  ∀ ls : Array Slot, lv_has ls 4 [(3, .int (nI i)), (2, .int (kdf (mpf T c) (T 24 (tn c)) i)), (0, .ref (M 0)), (1, .int c)] → W zp l ze ({ frames := 0, cells := 0, slots := 0, locals := 0 } : Room) zs zm zargs zbelow zmeth zc zs.heap [] 0 0 (MQ zbelow (kSi (kPl T c)) zargs zs 0 0 (fun _ => False)) (F0 zm 9 ls []) := by
    intro zf
    induction zf with
    | zero =>
      intro i  hi  ls hl
      have hi0 : i = tn (T 0 3) := by omega
      have hb2 := (tn_nat hI3.1).2
      have hb3 := hI3.2.2.1
      refine lv_iload_n hC.1 hC.2.1 dX4_objectsLeft_9 rfl (lv_at hl 0 rfl) ?_
      refine lv_aload_n hC.1 hC.2.1 dX4_objectsLeft_10 rfl (lv_at hl 2 rfl) ?_
      refine mg4 hC hK hW 18 (v := .int (T 0 3)) rfl (by decide) rfl tf_X4_90 dX4_objectsLeft_11 ?_
      refine lv_icmp_ge (tgt := 70) hC.1 hC.2.1 dX4_objectsLeft_14 (by decide) (fun c_14 => ?_) (fun c_14 => ?_)
      · refine lv_iload_n hC.1 hC.2.1 dX4_objectsLeft_70 rfl (lv_at hl 1 rfl) ?_
        exact krS hC hr hlk (by rw [hi0]; unfold kPl; rw [kif_t hc]; exact (kpl_n hI3 hI5).symm) dX4_objectsLeft_71
      · exact absurd (show T 0 3 ≤ nI i from by rw [(tn_nat hI3.1).1]; exact nI_le (by omega) (by omega)) c_14
    | succ zf ih =>
      intro i  hi  ls hl
      have hlt : i < tn (T 0 3) := by omega
      have hb2 := (tn_nat hI3.1).2
      have hb3 := hI3.2.2.1
      refine lv_iload_n hC.1 hC.2.1 dX4_objectsLeft_9 rfl (lv_at hl 0 rfl) ?_
      refine lv_aload_n hC.1 hC.2.1 dX4_objectsLeft_10 rfl (lv_at hl 2 rfl) ?_
      refine mg4 hC hK hW 18 (v := .int (T 0 3)) rfl (by decide) rfl tf_X4_90 dX4_objectsLeft_11 ?_
      refine lv_icmp_ge (tgt := 70) hC.1 hC.2.1 dX4_objectsLeft_14 (by decide) (fun c_14 => ?_) (fun c_14 => ?_)
      · exact absurd (show nI (tn (T 0 3)) ≤ nI i from by rw [← (tn_nat hI3.1).1]; exact c_14) (nI_ge (a := i) (b := tn (T 0 3)) (by omega) (by omega))
      · refine lv_iload_n hC.1 hC.2.1 dX4_objectsLeft_17 rfl (lv_at hl 1 rfl) ?_
        refine lv_aload_n hC.1 hC.2.1 dX4_objectsLeft_18 rfl (lv_at hl 2 rfl) ?_
        refine mg4 hC hK hW 19 (v := .ref (M 14)) rfl (by decide) rfl tf_X4_50 dX4_objectsLeft_19 ?_
        refine lv_iload_n hC.1 hC.2.1 dX4_objectsLeft_22 rfl (lv_at hl 0 rfl) ?_
        refine mabN hC hK hW 14 (by decide) rfl (i := i) (by omega) dX4_objectsLeft_23 ?_
        refine lv_if_eq (tgt := 61) hC.1 hC.2.1 dX4_objectsLeft_24 (by decide) (fun c_24 => ?_) (fun c_24 => ?_)
        · refine lv_iconst (v := 0) hC.1 hC.2.1 dX4_objectsLeft_61 (by decide) ?_
          refine lv_isub hC.1 hC.2.1 dX4_objectsLeft_62 ?_
          refine lv_istore_n (lv' := [(2, .int ((kdf (mpf T c) (T 24 (tn c)) i) - 0)), (3, .int (nI i)), (0, .ref (M 0)), (1, .int c)]) hC.1 hC.2.1 dX4_objectsLeft_63 rfl hl (by decide) rfl (fun ls hl => ?_)
          refine lv_iinc (v := nI (i + 1)) (lv' := [(3, .int (nI (i + 1))), (2, .int ((kdf (mpf T c) (T 24 (tn c)) i) - 0)), (0, .ref (M 0)), (1, .int c)]) hC.1 hC.2.1 dX4_objectsLeft_64 hl (k := 1) rfl (nI_1 i) (by decide) rfl (fun ls hl => ?_)
          refine lv_goto (tgt := 9) hC.1 hC.2.1 dX4_objectsLeft_67 (by decide) ?_
          have e_2 : ((kdf (mpf T c) (T 24 (tn c)) i) - 0) = kdf (mpf T c) (T 24 (tn c)) (i + 1) := by simp only [kif_true, kif_false, kb, not_true_eq_false, not_false_eq_true, and_true, true_and, and_false, false_and, and_self, or_true, true_or, or_false, false_or, Int32.add_zero, Int32.sub_zero, kdf, mpf, c_14, c_24]
          rw [e_2] at hl
          exact ih (i + 1) (by omega) ls (lv_sub hl [0, 1, 2, 3] rfl)
        · refine lv_aload_n hC.1 hC.2.1 dX4_objectsLeft_27 rfl (lv_at hl 2 rfl) ?_
          refine mg4 hC hK hW 23 (v := .ref (M 18)) rfl (by decide) rfl tf_X4_62 dX4_objectsLeft_28 ?_
          refine lv_iload_n hC.1 hC.2.1 dX4_objectsLeft_31 rfl (lv_at hl 0 rfl) ?_
          refine maiN hC hK hW 18 (by decide) rfl (i := i) (by omega) dX4_objectsLeft_32 ?_
          refine lv_iload_n hC.1 hC.2.1 dX4_objectsLeft_33 rfl (lv_at hl 3 rfl) ?_
          refine lv_icmp_ne (tgt := 61) hC.1 hC.2.1 dX4_objectsLeft_34 (by decide) (fun c_34 => ?_) (fun c_34 => ?_)
          · refine lv_iconst (v := 0) hC.1 hC.2.1 dX4_objectsLeft_61 (by decide) ?_
            refine lv_isub hC.1 hC.2.1 dX4_objectsLeft_62 ?_
            refine lv_istore_n (lv' := [(2, .int ((kdf (mpf T c) (T 24 (tn c)) i) - 0)), (3, .int (nI i)), (0, .ref (M 0)), (1, .int c)]) hC.1 hC.2.1 dX4_objectsLeft_63 rfl hl (by decide) rfl (fun ls hl => ?_)
            refine lv_iinc (v := nI (i + 1)) (lv' := [(3, .int (nI (i + 1))), (2, .int ((kdf (mpf T c) (T 24 (tn c)) i) - 0)), (0, .ref (M 0)), (1, .int c)]) hC.1 hC.2.1 dX4_objectsLeft_64 hl (k := 1) rfl (nI_1 i) (by decide) rfl (fun ls hl => ?_)
            refine lv_goto (tgt := 9) hC.1 hC.2.1 dX4_objectsLeft_67 (by decide) ?_
            have e_2 : ((kdf (mpf T c) (T 24 (tn c)) i) - 0) = kdf (mpf T c) (T 24 (tn c)) (i + 1) := by simp only [kif_true, kif_false, kb, not_true_eq_false, not_false_eq_true, and_true, true_and, and_false, false_and, and_self, or_true, true_or, or_false, false_or, Int32.add_zero, Int32.sub_zero, kdf, mpf, c_14, c_24, c_34]
            rw [e_2] at hl
            exact ih (i + 1) (by omega) ls (lv_sub hl [0, 1, 2, 3] rfl)
          · refine lv_aload_n hC.1 hC.2.1 dX4_objectsLeft_37 rfl (lv_at hl 2 rfl) ?_
            refine mg4 hC hK hW 20 (v := .ref (M 15)) rfl (by decide) rfl tf_X4_53 dX4_objectsLeft_38 ?_
            refine lv_iload_n hC.1 hC.2.1 dX4_objectsLeft_41 rfl (lv_at hl 0 rfl) ?_
            refine mabN hC hK hW 15 (by decide) rfl (i := i) (by omega) dX4_objectsLeft_42 ?_
            refine lv_if_eq (tgt := 57) hC.1 hC.2.1 dX4_objectsLeft_43 (by decide) (fun c_43 => ?_) (fun c_43 => ?_)
            · refine lv_iconst (v := 1) hC.1 hC.2.1 dX4_objectsLeft_57 (by decide) ?_
              refine lv_goto (tgt := 62) hC.1 hC.2.1 dX4_objectsLeft_58 (by decide) ?_
              refine lv_isub hC.1 hC.2.1 dX4_objectsLeft_62 ?_
              refine lv_istore_n (lv' := [(2, .int ((kdf (mpf T c) (T 24 (tn c)) i) - 1)), (3, .int (nI i)), (0, .ref (M 0)), (1, .int c)]) hC.1 hC.2.1 dX4_objectsLeft_63 rfl hl (by decide) rfl (fun ls hl => ?_)
              refine lv_iinc (v := nI (i + 1)) (lv' := [(3, .int (nI (i + 1))), (2, .int ((kdf (mpf T c) (T 24 (tn c)) i) - 1)), (0, .ref (M 0)), (1, .int c)]) hC.1 hC.2.1 dX4_objectsLeft_64 hl (k := 1) rfl (nI_1 i) (by decide) rfl (fun ls hl => ?_)
              refine lv_goto (tgt := 9) hC.1 hC.2.1 dX4_objectsLeft_67 (by decide) ?_
              have e_2 : ((kdf (mpf T c) (T 24 (tn c)) i) - 1) = kdf (mpf T c) (T 24 (tn c)) (i + 1) := by simp only [kif_true, kif_false, kb, not_true_eq_false, not_false_eq_true, and_true, true_and, and_false, false_and, and_self, or_true, true_or, or_false, false_or, Int32.add_zero, Int32.sub_zero, kdf, mpf, c_14, c_24, c_34, c_43]
              rw [e_2] at hl
              exact ih (i + 1) (by omega) ls (lv_sub hl [0, 1, 2, 3] rfl)
            · refine lv_iconst (v := 1) hC.1 hC.2.1 dX4_objectsLeft_46 (by decide) ?_
              refine lv_aload_n hC.1 hC.2.1 dX4_objectsLeft_47 rfl (lv_at hl 2 rfl) ?_
              refine mg4 hC hK hW 25 (v := .ref (M 20)) rfl (by decide) rfl tf_X4_68 dX4_objectsLeft_48 ?_
              refine lv_iload_n hC.1 hC.2.1 dX4_objectsLeft_51 rfl (lv_at hl 0 rfl) ?_
              refine maiN hC hK hW 20 (by decide) rfl (i := i) (by omega) dX4_objectsLeft_52 ?_
              refine lv_iadd hC.1 hC.2.1 dX4_objectsLeft_53 ?_
              refine lv_goto (tgt := 62) hC.1 hC.2.1 dX4_objectsLeft_54 (by decide) ?_
              refine lv_isub hC.1 hC.2.1 dX4_objectsLeft_62 ?_
              refine lv_istore_n (lv' := [(2, .int ((kdf (mpf T c) (T 24 (tn c)) i) - (1 + (T 24 i)))), (3, .int (nI i)), (0, .ref (M 0)), (1, .int c)]) hC.1 hC.2.1 dX4_objectsLeft_63 rfl hl (by decide) rfl (fun ls hl => ?_)
              refine lv_iinc (v := nI (i + 1)) (lv' := [(3, .int (nI (i + 1))), (2, .int ((kdf (mpf T c) (T 24 (tn c)) i) - (1 + (T 24 i)))), (0, .ref (M 0)), (1, .int c)]) hC.1 hC.2.1 dX4_objectsLeft_64 hl (k := 1) rfl (nI_1 i) (by decide) rfl (fun ls hl => ?_)
              refine lv_goto (tgt := 9) hC.1 hC.2.1 dX4_objectsLeft_67 (by decide) ?_
              have e_2 : ((kdf (mpf T c) (T 24 (tn c)) i) - (1 + (T 24 i))) = kdf (mpf T c) (T 24 (tn c)) (i + 1) := by simp only [kif_true, kif_false, kb, not_true_eq_false, not_false_eq_true, and_true, true_and, and_false, false_and, and_self, or_true, true_or, or_false, false_or, Int32.add_zero, Int32.sub_zero, kdf, mpf, c_14, c_24, c_34, c_43]
              rw [e_2] at hl
              exact ih (i + 1) (by omega) ls (lv_sub hl [0, 1, 2, 3] rfl)
  exact loop_9 (tn (T 0 3)) 0 (by omega) ls (by rw [nI_0]; exact lv_sub hl [0, 1, 2, 3] rfl)
