theorem kif_id {α : Type} {P : Prop} {a : α} : kif P a a = a := by
  by_cases h : P
  · exact kif_t h
  · exact kif_f h
def kIh (T : kT) : Prop := T 20 0 = -1 ∧ ∀ x, 1 ≤ x → ¬ T 18 x = 0 → kCn T (T 20 x) ∧ tn (T 20 x) < x
def kI9 (T : kT) : Prop := ∀ x, ¬ T 25 x < 0 ∧ T 25 x ≤ 32
theorem nI_tn {w : Int32} (h : ¬ w < 0) : w = nI (tn w) := (tn_nat h).1
theorem tk_ixw {n w : Int32} (h : ¬ n < 0) (hw : ¬ w < 0) : 3 * n + w = nI (3 * tn n + tn w) := by
  have e := tk_ix h (tn w)
  rw [← nI_tn hw] at e
  exact e
theorem nu_ix {n w : Int32} (h : ¬ n < 0) (hw : ¬ w < 0) : 32 * n + w = nI (32 * tn n + tn w) := by
  have e := nI_tn h
  have e2 := nI_tn hw
  have e3 : (32 : Int32) = nI 32 := rfl
  rw [e3]
  conv => lhs; rw [e, e2]
  unfold nI
  rw [← Int32.ofNat_mul, ← Int32.ofNat_add]
theorem kw02 {w : Int32} (h : kWt w.toInt64 0 2) : ¬ w < 0 ∧ tn w < 3 := by
  have z := kkd.mp h
  refine ⟨z.1, ?_⟩
  have z2 := z.2
  rw [Int32.le_iff_toInt_le] at z2
  rw [tn_def]
  have z3 : (2 : Int32).toInt = 2 := rfl
  omega
theorem msg_eq {T : kT} {P : Nat} {w : Int32} (h : kWt w.toInt64 0 2) : T (7 + (3 * P + tn w) % 3) ((3 * P + tn w) / 3) = kif (w = 0) (T 7 P) (kif (w = 1) (T 8 P) (kif (w = 2) (T 9 P) (-1000002))) := by
  obtain ⟨h1, h2⟩ := kw02 h
  have e := nI_tn h1
  rcases (show tn w = 0 ∨ tn w = 1 ∨ tn w = 2 by omega) with q | q | q
  · rw [q] at e
    have e2 : w = 0 := e
    rw [kif_t e2, q, show (3 * P + 0) % 3 = 0 by omega, show (3 * P + 0) / 3 = P by omega]
  · rw [q] at e
    have e2 : w = 1 := e
    rw [kif_f (show ¬ w = 0 by rw [e2]; decide), kif_t e2, q, show (3 * P + 1) % 3 = 1 by omega, show (3 * P + 1) / 3 = P by omega]
  · rw [q] at e
    have e2 : w = 2 := e
    rw [kif_f (show ¬ w = 0 by rw [e2]; decide), kif_f (show ¬ w = 1 by rw [e2]; decide), kif_t e2, q, show (3 * P + 2) % 3 = 2 by omega, show (3 * P + 2) / 3 = P by omega]
theorem msg_no {T : kT} {P : Nat} {w : Int32} (h : ¬ kWt w.toInt64 0 2) : (-1000002 : Int32) = kif (w = 0) (T 7 P) (kif (w = 1) (T 8 P) (kif (w = 2) (T 9 P) (-1000002))) := by
  rw [kif_f (fun e => h (by subst e; unfold kWt; decide)), kif_f (fun e => h (by subst e; unfold kWt; decide)), kif_f (fun e => h (by subst e; unfold kWt; decide))]
theorem kcr {n : Int32} : kWt n.toInt64 (-1) 100 ↔ kCr n := by
  refine Iff.trans (kwt_c (lo := -1) (hi := 100) rfl rfl) ?_
  unfold kCr
  exact ⟨fun z => ⟨z.1, hle z.2⟩, fun z => ⟨z.1, fun q => hnle q z.2⟩⟩
theorem kob {w : Int32} : kWt w.toInt64 0 6 ↔ (¬ w < 0 ∧ w ≤ 6) := by
  refine Iff.trans (kwt_c (lo := 0) (hi := 6) rfl rfl) ?_
  exact ⟨fun z => ⟨z.1, hle z.2⟩, fun z => ⟨z.1, fun q => hnle q z.2⟩⟩
theorem krd {T : kT} {f : Nat} {i : Int32} (h9 : kI9 T) : kWt i.toInt64 0 ((T 25 f - 1).toInt64) ↔ (¬ i < 0 ∧ ¬ T 25 f ≤ i ∧ i < 32) := by
  refine Iff.trans (kwt_n (h9 f).1) ?_
  obtain ⟨a1, a2⟩ := h9 f
  constructor
  · rintro ⟨b1, b2⟩
    rw [Int32.lt_iff_toInt_lt] at a1 b1
    rw [Int32.le_iff_toInt_le] at a2
    rw [tn_def, tn_def] at b2
    rw [Int32.lt_iff_toInt_lt, Int32.le_iff_toInt_le, Int32.lt_iff_toInt_lt]
    have z3 : (32 : Int32).toInt = 32 := rfl
    have z0 : (0 : Int32).toInt = 0 := rfl
    omega
  · rintro ⟨b1, b2, b3⟩
    refine ⟨b1, ?_⟩
    rw [Int32.lt_iff_toInt_lt] at a1 b1
    rw [Int32.le_iff_toInt_le] at b2
    rw [tn_def, tn_def]
    have z0 : (0 : Int32).toInt = 0 := rfl
    omega
theorem kO.n0 {T : kT} {o : Int32} (hh : kIh T) (h : kO T o) (h0 : ¬ o ≤ 0) : kCn T (T 20 (tn o)) ∧ tn (T 20 (tn o)) < tn o := by
  refine hh.2 (tn o) ?_ h.2.2
  rw [tn_def]
  rw [Int32.le_iff_toInt_le] at h0
  have z0 : (0 : Int32).toInt = 0 := rfl
  omega
theorem kO.z {T : kT} (hh : kIh T) : ¬ kO T (T 20 0) := by
  rw [hh.1]
  exact fun z => z.1 (by decide)
theorem kle0 {o : Int32} (h1 : ¬ o < 0) (h2 : o ≤ 0) : o = 0 := by
  rw [Int32.lt_iff_toInt_lt] at h1
  rw [Int32.le_iff_toInt_le] at h2
  have z0 : (0 : Int32).toInt = 0 := rfl
  exact Int32.toInt_inj.mp (by omega)
theorem kHid_a {T : kT} {p o w : Int32} (h4 : ¬ w ≤ 3) (hr : kRd T (tn p) (tn o)) : kHid T p o w := Or.inr ⟨fun z => h4 (by rw [Int32.lt_iff_toInt_lt] at z; rw [Int32.le_iff_toInt_le]; have z4 : (4 : Int32).toInt = 4 := rfl; have z3 : (3 : Int32).toInt = 3 := rfl; omega), hr⟩
theorem kle34 {w : Int32} : w ≤ 3 ↔ w < 4 := by
  rw [Int32.lt_iff_toInt_lt, Int32.le_iff_toInt_le]
  have z4 : (4 : Int32).toInt = 4 := rfl
  have z3 : (3 : Int32).toInt = 3 := rfl
  omega
theorem kle43 {w : Int32} : 4 ≤ w ↔ ¬ w < 4 := by
  rw [Int32.lt_iff_toInt_lt, Int32.le_iff_toInt_le]
  omega
theorem kbd {b n : Int32} : (kWt b.toInt64 0 200 ∧ kWt n.toInt64 0 50) ↔ kBd b n := by
  rw [show kWt b.toInt64 0 200 ↔ (¬ b < 0 ∧ ¬ 200 < b) from kwt_c (lo := 0) (hi := 200) rfl rfl, show kWt n.toInt64 0 50 ↔ (¬ n < 0 ∧ ¬ 50 < n) from kwt_c (lo := 0) (hi := 50) rfl rfl]
  unfold kBd
  exact ⟨fun z => ⟨z.1.1, z.1.2, z.2.1, z.2.2⟩, fun z => ⟨⟨z.1, z.2.1⟩, z.2.2.1, z.2.2.2⟩⟩
theorem keq_tn {x : Int32} {n : Nat} (h : x < nI n) (h0 : ¬ x < 0) (hn : n < 2 ^ 31) : tn x < n := kin_lt (kinL h0 h hn)
theorem kdec1 (x k : Int32) : x - k + Int32.ofInt (-1) = x - (k + 1) := by
  rw [show Int32.ofInt (-1) = -(1 : Int32) by decide, ← Int32.sub_eq_add_neg, Int32.sub_eq_add_neg, Int32.sub_eq_add_neg, Int32.sub_eq_add_neg, Int32.neg_add, Int32.sub_eq_add_neg, Int32.add_assoc]
theorem ksub0 {x k : Int32} : x - k = 0 ↔ k = x := by
  constructor
  · intro h
    have z := congrArg (fun y => y + k) h
    simp only [Int32.sub_add_cancel, Int32.zero_add] at z
    exact z.symm
  · rintro rfl
    simp
set_option maxHeartbeats 4000000 in
set_option maxRecDepth 100000 in
theorem c_X4_message (l : Launch) (D : va_G) (G : Nat → ClassId) (M : Nat → Nat) (hL : mL M) (T N : kT) (r g : Nat → Int32) (p : Int32) (w : Int32) (hI1 : kI1 T) : kM l yX4_message cX4_message 3 (some .int) 2 46 (mPc D G M T N r g [.ref (M 0), .int p, .int w]) (kSi (a_message T p w)) (fun _ => False) := by
  refine kBegin (by decide) (Nat.le_of_ble_eq_true rfl) ?_
  intro zp ze zs zm zargs zbelow zmeth zc hC hr hlk hB ls hl
  obtain ⟨hP, hK⟩ := hB
  have hW : mWd D G M (mA M) zs.heap T N r g zs.heap [] := mWd.start hL hP
  have hl : lv_has ls 3 [(0, .ref (M 0)), (1, .int p), (2, .int w)] := hl
  refine lv_aload_n hC.1 hC.2.1 dX4_message_0 rfl (lv_at hl 0 rfl) ?_
  refine lv_iload_n hC.1 hC.2.1 dX4_message_1 rfl (lv_at hl 1 rfl) ?_
  refine keSi (rest := []) (mcV 0 hC hK hW (c_X4_isProcess l D G M hL T N r g p hI1) (kgoodV tm_X4_103 ti_yX4_isProcess te_yX4_isProcess tz_X4 tc_yX4_isProcess) mw_m rfl ⟨rfl, by decide, by decide, (show Option.map _ (parseMethodDescriptor yX4_isProcess.desc) = some 1 from by decide +kernel)⟩ ⟨Nat.le_of_ble_eq_true rfl, Nat.le_of_ble_eq_true rfl⟩ hl.1 rfl (Nat.le_of_ble_eq_true rfl) ⟨Nat.le_refl _, Nat.le_refl _⟩ dX4_message_2) ?_
  refine kif_ne (tgt := 13) hC.1 hC.2.1 dX4_message_5 (by decide) (fun c_5 => ?_) (fun c_5 => ?_)
  · refine lv_iload_n hC.1 hC.2.1 dX4_message_13 rfl (lv_at hl 2 rfl) ?_
    refine lv_i2l hC.1 hC.2.1 dX4_message_14 rfl ?_
    refine lv_lconst (v := 0) hC.1 hC.2.1 dX4_message_15 (by decide) ?_
    refine lv_ldc2 hC.1 hC.2.1 hC.2.2.2.1 (hC.2.2.2.2 _ (kt_in tk_X4_108 rfl)) dX4_message_16 ?_
    refine keSi (rest := []) (kcS0 hC (c_X4_within l w.toInt64 0 (2)) (kgoodS tm_X4_93 ts_yX4_within tz_X4 tc_yX4_within) ⟨rfl, by decide, by decide, (show Option.map _ (parseMethodDescriptor yX4_within.desc) = some 3 from by decide +kernel)⟩ ⟨Nat.le_of_ble_eq_true rfl, Nat.le_of_ble_eq_true rfl⟩ hl.1 rfl (Nat.le_of_ble_eq_true rfl) ⟨Nat.le_refl _, Nat.le_refl _⟩ dX4_message_19) ?_
    refine kif_eq (tgt := 38) hC.1 hC.2.1 dX4_message_22 (by decide) (fun c_22 => ?_) (fun c_22 => ?_)
    · refine lv_ldc hC.1 hC.2.1 hC.2.2.2.1 (hC.2.2.2.2 _ (kt_in tk_X4_110 rfl)) dX4_message_38 ?_
      exact krS hC hr hlk (by rw [a_message, kif_t c_5]; exact msg_no c_22) dX4_message_40
    · refine lv_aload_n hC.1 hC.2.1 dX4_message_25 rfl (lv_at hl 0 rfl) ?_
      refine mg4 hC hK hW 10 (v := .ref (M 7)) rfl (by decide) rfl tf_X4_29 dX4_message_26 ?_
      refine lv_iconst (v := 3) hC.1 hC.2.1 dX4_message_29 (by decide) ?_
      refine lv_iload_n hC.1 hC.2.1 dX4_message_30 rfl (lv_at hl 1 rfl) ?_
      refine lv_imul hC.1 hC.2.1 dX4_message_31 ?_
      refine lv_iload_n hC.1 hC.2.1 dX4_message_32 rfl (lv_at hl 2 rfl) ?_
      refine lv_iadd hC.1 hC.2.1 dX4_message_33 ?_
      rw [show (((3 * p) + w) : Int32) = nI (3 * tn p + tn w) from (tk_ixw c_5.1 (kw02 c_22).1)]
      refine maiN hC hK hW 7 (by decide) rfl (i := (3 * tn p + tn w)) (by have z1 := c_5.lt; have z2 := (kw02 c_22).2; omega) dX4_message_34 ?_
      refine lv_goto (tgt := 40) hC.1 hC.2.1 dX4_message_35 (by decide) ?_
      exact krS hC hr hlk (by rw [a_message, kif_t c_5]; exact msg_eq c_22) dX4_message_40
  · refine lv_ldc hC.1 hC.2.1 hC.2.2.2.1 (hC.2.2.2.2 _ (kt_in tk_X4_107 rfl)) dX4_message_8 ?_
    refine lv_goto (tgt := 40) hC.1 hC.2.1 dX4_message_10 (by decide) ?_
    exact krS hC hr hlk (by rw [a_message, kif_f c_5]) dX4_message_40
set_option maxHeartbeats 4000000 in
set_option maxRecDepth 100000 in
theorem c_X4_crash (l : Launch) (D : va_G) (G : Nat → ClassId) (M : Nat → Nat) (hL : mL M) (T N : kT) (r g : Nat → Int32) (n : Int32) : kM l yX4_crash cX4_crash 2 (some .int) 1 25 (mPc D G M T N r g [.ref (M 0), .int n]) (mQi D G M (a_crash n) (t_crash T n) N r g) (mA M) := by
  refine kBegin (by decide) (Nat.le_of_ble_eq_true rfl) ?_
  intro zp ze zs zm zargs zbelow zmeth zc hC hr hlk hB ls hl
  obtain ⟨hP, hK⟩ := hB
  have hW : mWd D G M (mA M) zs.heap T N r g zs.heap [] := mWd.start hL hP
  have hl : lv_has ls 2 [(0, .ref (M 0)), (1, .int n)] := hl
  refine lv_iload_n hC.1 hC.2.1 dX4_crash_0 rfl (lv_at hl 1 rfl) ?_
  refine lv_i2l hC.1 hC.2.1 dX4_crash_1 rfl ?_
  refine lv_ldc2 hC.1 hC.2.1 hC.2.2.2.1 (hC.2.2.2.2 _ (kt_in tk_X4_210 rfl)) dX4_crash_2 ?_
  refine lv_ldc2 hC.1 hC.2.1 hC.2.2.2.1 (hC.2.2.2.2 _ (kt_in tk_X4_212 rfl)) dX4_crash_5 ?_
  refine keSi (rest := []) (kcS0 hC (c_X4_within l n.toInt64 (-1) (100)) (kgoodS tm_X4_93 ts_yX4_within tz_X4 tc_yX4_within) ⟨rfl, by decide, by decide, (show Option.map _ (parseMethodDescriptor yX4_within.desc) = some 3 from by decide +kernel)⟩ ⟨Nat.le_of_ble_eq_true rfl, Nat.le_of_ble_eq_true rfl⟩ hl.1 rfl (Nat.le_of_ble_eq_true rfl) ⟨Nat.le_refl _, Nat.le_refl _⟩ dX4_crash_8) ?_
  refine kif_ne (tgt := 17) hC.1 hC.2.1 dX4_crash_11 (by decide) (fun c_11 => ?_) (fun c_11 => ?_)
  · have hcr := kcr.mp c_11
    refine lv_aload_n hC.1 hC.2.1 dX4_crash_17 rfl (lv_at hl 0 rfl) ?_
    refine lv_iload_n hC.1 hC.2.1 dX4_crash_18 rfl (lv_at hl 1 rfl) ?_
    refine mp4 hC hK hW 28 (by decide) rfl rfl (by decide +kernel) (mw_put_28 n) tf_X4_77 dX4_crash_19 (fun H locs (hW : mWd D G M (mA M) zs.heap (kup T 0 8 n) N r g H locs) => ?_)
    refine lv_iconst (v := 1) hC.1 hC.2.1 dX4_crash_22 (by decide) ?_
    exact mkrI hC hr hlk hW (by simp (config := {decide := true}) only [kif_true, kif_false, kb, kup_eq, kup_f, kup_i, not_true_eq_false, not_false_eq_true, and_true, true_and, and_false, false_and, and_self, or_true, true_or, or_false, false_or, a_crash, t_crash, c_11, hcr]) (by simp (config := {decide := true}) only [kif_true, kif_false, kb, kup_eq, kup_f, kup_i, not_true_eq_false, not_false_eq_true, and_true, true_and, and_false, false_and, and_self, or_true, true_or, or_false, false_or, a_crash, t_crash, c_11, hcr]) rfl rfl rfl dX4_crash_23
  · have hcr : ¬ kCr n := fun z => c_11 (kcr.mpr z)
    refine lv_ldc hC.1 hC.2.1 hC.2.2.2.1 (hC.2.2.2.2 _ (kt_in tk_X4_110 rfl)) dX4_crash_14 ?_
    exact mkrI hC hr hlk hW (by simp (config := {decide := true}) only [kif_true, kif_false, kb, kup_eq, kup_f, kup_i, not_true_eq_false, not_false_eq_true, and_true, true_and, and_false, false_and, and_self, or_true, true_or, or_false, false_or, a_crash, t_crash, c_11, hcr]) (by simp (config := {decide := true}) only [kif_true, kif_false, kb, kup_eq, kup_f, kup_i, not_true_eq_false, not_false_eq_true, and_true, true_and, and_false, false_and, and_self, or_true, true_or, or_false, false_or, a_crash, t_crash, c_11, hcr]) rfl rfl rfl dX4_crash_16
set_option maxHeartbeats 4000000 in
set_option maxRecDepth 100000 in
theorem c_X4_count (l : Launch) (D : va_G) (G : Nat → ClassId) (M : Nat → Nat) (hL : mL M) (T N : kT) (r g : Nat → Int32) (w : Int32) (hI1 : kI1 T) (hI2 : kI2 T) (hI3 : kI3 T) : kM l yX4_count cX4_count 4 (some .int) 0 0 (mPc D G M T N r g [.ref (M 0), .int w]) (kSi (a_count T w)) (fun _ => False) := by
  refine kBegin (by decide) (Nat.le_of_ble_eq_true rfl) ?_
  intro zp ze zs zm zargs zbelow zmeth zc hC hr hlk hB ls hl
  obtain ⟨hP, hK⟩ := hB
  have hW : mWd D G M (mA M) zs.heap T N r g zs.heap [] := mWd.start hL hP
  have hl : lv_has ls 4 [(0, .ref (M 0)), (1, .int w)] := hl
  refine lv_iconst (v := 0) hC.1 hC.2.1 dX4_count_0 (by decide) ?_
  refine lv_istore_n (lv' := [(2, .int 0), (0, .ref (M 0)), (1, .int w)]) hC.1 hC.2.1 dX4_count_1 rfl hl (by decide) rfl (fun ls hl => ?_)
  refine lv_iload_n hC.1 hC.2.1 dX4_count_2 rfl (lv_at hl 2 rfl) ?_
  rcases ksw7 w with c_3 | c_3 | c_3 | c_3 | c_3 | c_3 | c_3 | c_3
  · refine lv_tableIn (tgt := 44) (off := 41) hC.1 hC.2.1 dX4_count_3 (by rw [c_3]; decide) (by rw [c_3]; decide) (by rw [c_3]; rfl) (by decide) ?_
    refine lv_aload_n hC.1 hC.2.1 dX4_count_44 rfl (lv_at hl 1 rfl) ?_
    refine mg4 hC hK hW 0 (v := .int (T 0 0)) rfl (by decide) rfl tf_X4_97 dX4_count_45 ?_
    exact krS hC hr hlk (by simp (config := {decide := true}) only [kif_true, kif_false, kb, kup_eq, kup_f, kup_i, not_true_eq_false, not_false_eq_true, and_true, true_and, and_false, false_and, and_self, or_true, true_or, or_false, false_or, a_count, c_3]) dX4_count_48
  · refine lv_tableIn (tgt := 49) (off := 46) hC.1 hC.2.1 dX4_count_3 (by rw [c_3]; decide) (by rw [c_3]; decide) (by rw [c_3]; rfl) (by decide) ?_
    refine lv_iconst (v := 0) hC.1 hC.2.1 dX4_count_49 (by decide) ?_
    refine lv_istore_n (lv' := [(3, .int 0), (2, .int 0), (0, .ref (M 0)), (1, .int w)]) hC.1 hC.2.1 dX4_count_50 rfl hl (by decide) rfl (fun ls hl => ?_)
    have loop_51 : ∀ (zf i : Nat), i + zf = tn (T 0 1) →  ∀ ls : Array Slot, lv_has ls 4 [(3, .int (nI i)), (2, .int (kLiv T i)), (0, .ref (M 0)), (1, .int w)] → W zp l ze ({ frames := 0, cells := 0, slots := 0, locals := 0 } : Room) zs zm zargs zbelow zmeth zc zs.heap [] 0 0 (MQ zbelow (kSi (a_count T w)) zargs zs 0 0 (fun _ => False)) (F0 zm 51 ls []) := by
      intro zf
      induction zf with
      | zero =>
        intro i  hi  ls hl
        have hi0 : i = tn (T 0 1) := by omega
        have hb2 := (tn_nat hI1.1).2
        have hb3 := hI1.2.2.1
        refine lv_iload_n hC.1 hC.2.1 dX4_count_51 rfl (lv_at hl 0 rfl) ?_
        refine lv_aload_n hC.1 hC.2.1 dX4_count_52 rfl (lv_at hl 2 rfl) ?_
        refine mg4 hC hK hW 3 (v := .int (T 0 1)) rfl (by decide) rfl tf_X4_84 dX4_count_53 ?_
        refine lv_icmp_ge (tgt := 82) hC.1 hC.2.1 dX4_count_56 (by decide) (fun c_56 => ?_) (fun c_56 => ?_)
        · refine lv_iload_n hC.1 hC.2.1 dX4_count_82 rfl (lv_at hl 1 rfl) ?_
          exact krS hC hr hlk (by rw [hi0, kLiv_n hI1]; simp (config := {decide := true}) only [a_count, kif_true, kif_false, c_3]) dX4_count_83
        · exact absurd (show T 0 1 ≤ nI i from by rw [(tn_nat hI1.1).1]; exact nI_le (by omega) (by omega)) c_56
      | succ zf ih =>
        intro i  hi  ls hl
        have hlt : i < tn (T 0 1) := by omega
        have hb2 := (tn_nat hI1.1).2
        have hb3 := hI1.2.2.1
        refine lv_iload_n hC.1 hC.2.1 dX4_count_51 rfl (lv_at hl 0 rfl) ?_
        refine lv_aload_n hC.1 hC.2.1 dX4_count_52 rfl (lv_at hl 2 rfl) ?_
        refine mg4 hC hK hW 3 (v := .int (T 0 1)) rfl (by decide) rfl tf_X4_84 dX4_count_53 ?_
        refine lv_icmp_ge (tgt := 82) hC.1 hC.2.1 dX4_count_56 (by decide) (fun c_56 => ?_) (fun c_56 => ?_)
        · exact absurd (show nI (tn (T 0 1)) ≤ nI i from by rw [← (tn_nat hI1.1).1]; exact c_56) (nI_ge (a := i) (b := tn (T 0 1)) (by omega) (by omega))
        · refine lv_iload_n hC.1 hC.2.1 dX4_count_59 rfl (lv_at hl 1 rfl) ?_
          refine lv_aload_n hC.1 hC.2.1 dX4_count_60 rfl (lv_at hl 2 rfl) ?_
          refine mg4 hC hK hW 4 (v := .ref (M 1)) rfl (by decide) rfl tf_X4_7 dX4_count_61 ?_
          refine lv_iload_n hC.1 hC.2.1 dX4_count_64 rfl (lv_at hl 0 rfl) ?_
          refine mabN hC hK hW 1 (by decide) rfl (i := i) (by omega) dX4_count_65 ?_
          refine lv_if_eq (tgt := 73) hC.1 hC.2.1 dX4_count_66 (by decide) (fun c_66 => ?_) (fun c_66 => ?_)
          · refine lv_iconst (v := 0) hC.1 hC.2.1 dX4_count_73 (by decide) ?_
            refine lv_iadd hC.1 hC.2.1 dX4_count_74 ?_
            refine lv_istore_n (lv' := [(2, .int ((kLiv T i) + 0)), (3, .int (nI i)), (0, .ref (M 0)), (1, .int w)]) hC.1 hC.2.1 dX4_count_75 rfl hl (by decide) rfl (fun ls hl => ?_)
            refine lv_iinc (v := nI (i + 1)) (lv' := [(3, .int (nI (i + 1))), (2, .int ((kLiv T i) + 0)), (0, .ref (M 0)), (1, .int w)]) hC.1 hC.2.1 dX4_count_76 hl (k := 1) rfl (nI_1 i) (by decide) rfl (fun ls hl => ?_)
            refine lv_goto (tgt := 51) hC.1 hC.2.1 dX4_count_79 (by decide) ?_
            have e_2 : ((kLiv T i) + 0) = kLiv T (i + 1) := by simp only [kif_true, kif_false, kb, not_true_eq_false, not_false_eq_true, and_true, true_and, and_false, false_and, and_self, or_true, true_or, or_false, false_or, Int32.add_zero, Int32.sub_zero, kLiv, ksum, c_3, c_56, c_66]
            rw [e_2] at hl
            exact ih (i + 1) (by omega) ls (lv_sub hl [0, 1, 2, 3] rfl)
          · refine lv_iconst (v := 1) hC.1 hC.2.1 dX4_count_69 (by decide) ?_
            refine lv_goto (tgt := 74) hC.1 hC.2.1 dX4_count_70 (by decide) ?_
            refine lv_iadd hC.1 hC.2.1 dX4_count_74 ?_
            refine lv_istore_n (lv' := [(2, .int ((kLiv T i) + 1)), (3, .int (nI i)), (0, .ref (M 0)), (1, .int w)]) hC.1 hC.2.1 dX4_count_75 rfl hl (by decide) rfl (fun ls hl => ?_)
            refine lv_iinc (v := nI (i + 1)) (lv' := [(3, .int (nI (i + 1))), (2, .int ((kLiv T i) + 1)), (0, .ref (M 0)), (1, .int w)]) hC.1 hC.2.1 dX4_count_76 hl (k := 1) rfl (nI_1 i) (by decide) rfl (fun ls hl => ?_)
            refine lv_goto (tgt := 51) hC.1 hC.2.1 dX4_count_79 (by decide) ?_
            have e_2 : ((kLiv T i) + 1) = kLiv T (i + 1) := by simp only [kif_true, kif_false, kb, not_true_eq_false, not_false_eq_true, and_true, true_and, and_false, false_and, and_self, or_true, true_or, or_false, false_or, Int32.add_zero, Int32.sub_zero, kLiv, ksum, c_3, c_56, c_66]
            rw [e_2] at hl
            exact ih (i + 1) (by omega) ls (lv_sub hl [0, 1, 2, 3] rfl)
    exact loop_51 (tn (T 0 1)) 0 (by omega) ls (by rw [nI_0]; exact lv_sub hl [0, 1, 2, 3] rfl)
  · refine lv_tableIn (tgt := 84) (off := 81) hC.1 hC.2.1 dX4_count_3 (by rw [c_3]; decide) (by rw [c_3]; decide) (by rw [c_3]; rfl) (by decide) ?_
    refine lv_iconst (v := 0) hC.1 hC.2.1 dX4_count_84 (by decide) ?_
    refine lv_istore_n (lv' := [(3, .int 0), (2, .int 0), (0, .ref (M 0)), (1, .int w)]) hC.1 hC.2.1 dX4_count_85 rfl hl (by decide) rfl (fun ls hl => ?_)
    have loop_86 : ∀ (zf i : Nat), i + zf = tn (T 0 2) →  ∀ ls : Array Slot, lv_has ls 4 [(3, .int (nI i)), (2, .int (kOps T i)), (0, .ref (M 0)), (1, .int w)] → W zp l ze ({ frames := 0, cells := 0, slots := 0, locals := 0 } : Room) zs zm zargs zbelow zmeth zc zs.heap [] 0 0 (MQ zbelow (kSi (a_count T w)) zargs zs 0 0 (fun _ => False)) (F0 zm 86 ls []) := by
      intro zf
      induction zf with
      | zero =>
        intro i  hi  ls hl
        have hi0 : i = tn (T 0 2) := by omega
        have hb2 := (tn_nat hI2.1).2
        have hb3 := hI2.2.1
        refine lv_iload_n hC.1 hC.2.1 dX4_count_86 rfl (lv_at hl 0 rfl) ?_
        refine lv_aload_n hC.1 hC.2.1 dX4_count_87 rfl (lv_at hl 2 rfl) ?_
        refine mg4 hC hK hW 11 (v := .int (T 0 2)) rfl (by decide) rfl tf_X4_100 dX4_count_88 ?_
        refine lv_icmp_ge (tgt := 117) hC.1 hC.2.1 dX4_count_91 (by decide) (fun c_91 => ?_) (fun c_91 => ?_)
        · refine lv_iload_n hC.1 hC.2.1 dX4_count_117 rfl (lv_at hl 1 rfl) ?_
          exact krS hC hr hlk (by rw [hi0, kOps_n hI2]; simp (config := {decide := true}) only [a_count, kif_true, kif_false, c_3]) dX4_count_118
        · exact absurd (show T 0 2 ≤ nI i from by rw [(tn_nat hI2.1).1]; exact nI_le (by omega) (by omega)) c_91
      | succ zf ih =>
        intro i  hi  ls hl
        have hlt : i < tn (T 0 2) := by omega
        have hb2 := (tn_nat hI2.1).2
        have hb3 := hI2.2.1
        refine lv_iload_n hC.1 hC.2.1 dX4_count_86 rfl (lv_at hl 0 rfl) ?_
        refine lv_aload_n hC.1 hC.2.1 dX4_count_87 rfl (lv_at hl 2 rfl) ?_
        refine mg4 hC hK hW 11 (v := .int (T 0 2)) rfl (by decide) rfl tf_X4_100 dX4_count_88 ?_
        refine lv_icmp_ge (tgt := 117) hC.1 hC.2.1 dX4_count_91 (by decide) (fun c_91 => ?_) (fun c_91 => ?_)
        · exact absurd (show nI (tn (T 0 2)) ≤ nI i from by rw [← (tn_nat hI2.1).1]; exact c_91) (nI_ge (a := i) (b := tn (T 0 2)) (by omega) (by omega))
        · refine lv_iload_n hC.1 hC.2.1 dX4_count_94 rfl (lv_at hl 1 rfl) ?_
          refine lv_aload_n hC.1 hC.2.1 dX4_count_95 rfl (lv_at hl 2 rfl) ?_
          refine mg4 hC hK hW 12 (v := .ref (M 8)) rfl (by decide) rfl tf_X4_32 dX4_count_96 ?_
          refine lv_iload_n hC.1 hC.2.1 dX4_count_99 rfl (lv_at hl 0 rfl) ?_
          refine mabN hC hK hW 8 (by decide) rfl (i := i) (by omega) dX4_count_100 ?_
          refine lv_if_eq (tgt := 108) hC.1 hC.2.1 dX4_count_101 (by decide) (fun c_101 => ?_) (fun c_101 => ?_)
          · refine lv_iconst (v := 0) hC.1 hC.2.1 dX4_count_108 (by decide) ?_
            refine lv_iadd hC.1 hC.2.1 dX4_count_109 ?_
            refine lv_istore_n (lv' := [(2, .int ((kOps T i) + 0)), (3, .int (nI i)), (0, .ref (M 0)), (1, .int w)]) hC.1 hC.2.1 dX4_count_110 rfl hl (by decide) rfl (fun ls hl => ?_)
            refine lv_iinc (v := nI (i + 1)) (lv' := [(3, .int (nI (i + 1))), (2, .int ((kOps T i) + 0)), (0, .ref (M 0)), (1, .int w)]) hC.1 hC.2.1 dX4_count_111 hl (k := 1) rfl (nI_1 i) (by decide) rfl (fun ls hl => ?_)
            refine lv_goto (tgt := 86) hC.1 hC.2.1 dX4_count_114 (by decide) ?_
            have e_2 : ((kOps T i) + 0) = kOps T (i + 1) := by simp only [kif_true, kif_false, kb, not_true_eq_false, not_false_eq_true, and_true, true_and, and_false, false_and, and_self, or_true, true_or, or_false, false_or, Int32.add_zero, Int32.sub_zero, kOps, ksum, c_3, c_91, c_101]
            rw [e_2] at hl
            exact ih (i + 1) (by omega) ls (lv_sub hl [0, 1, 2, 3] rfl)
          · refine lv_iconst (v := 1) hC.1 hC.2.1 dX4_count_104 (by decide) ?_
            refine lv_goto (tgt := 109) hC.1 hC.2.1 dX4_count_105 (by decide) ?_
            refine lv_iadd hC.1 hC.2.1 dX4_count_109 ?_
            refine lv_istore_n (lv' := [(2, .int ((kOps T i) + 1)), (3, .int (nI i)), (0, .ref (M 0)), (1, .int w)]) hC.1 hC.2.1 dX4_count_110 rfl hl (by decide) rfl (fun ls hl => ?_)
            refine lv_iinc (v := nI (i + 1)) (lv' := [(3, .int (nI (i + 1))), (2, .int ((kOps T i) + 1)), (0, .ref (M 0)), (1, .int w)]) hC.1 hC.2.1 dX4_count_111 hl (k := 1) rfl (nI_1 i) (by decide) rfl (fun ls hl => ?_)
            refine lv_goto (tgt := 86) hC.1 hC.2.1 dX4_count_114 (by decide) ?_
            have e_2 : ((kOps T i) + 1) = kOps T (i + 1) := by simp only [kif_true, kif_false, kb, not_true_eq_false, not_false_eq_true, and_true, true_and, and_false, false_and, and_self, or_true, true_or, or_false, false_or, Int32.add_zero, Int32.sub_zero, kOps, ksum, c_3, c_91, c_101]
            rw [e_2] at hl
            exact ih (i + 1) (by omega) ls (lv_sub hl [0, 1, 2, 3] rfl)
    exact loop_86 (tn (T 0 2)) 0 (by omega) ls (by rw [nI_0]; exact lv_sub hl [0, 1, 2, 3] rfl)
  · refine lv_tableIn (tgt := 119) (off := 116) hC.1 hC.2.1 dX4_count_3 (by rw [c_3]; decide) (by rw [c_3]; decide) (by rw [c_3]; rfl) (by decide) ?_
    refine lv_iconst (v := 0) hC.1 hC.2.1 dX4_count_119 (by decide) ?_
    refine lv_istore_n (lv' := [(3, .int 0), (2, .int 0), (0, .ref (M 0)), (1, .int w)]) hC.1 hC.2.1 dX4_count_120 rfl hl (by decide) rfl (fun ls hl => ?_)
    have loop_121 : ∀ (zf i : Nat), i + zf = tn (T 0 3) →  ∀ ls : Array Slot, lv_has ls 4 [(3, .int (nI i)), (2, .int (kThr T i)), (0, .ref (M 0)), (1, .int w)] → W zp l ze ({ frames := 0, cells := 0, slots := 0, locals := 0 } : Room) zs zm zargs zbelow zmeth zc zs.heap [] 0 0 (MQ zbelow (kSi (a_count T w)) zargs zs 0 0 (fun _ => False)) (F0 zm 121 ls []) := by
      intro zf
      induction zf with
      | zero =>
        intro i  hi  ls hl
        have hi0 : i = tn (T 0 3) := by omega
        have hb2 := (tn_nat hI3.1).2
        have hb3 := hI3.2.2.1
        refine lv_iload_n hC.1 hC.2.1 dX4_count_121 rfl (lv_at hl 0 rfl) ?_
        refine lv_aload_n hC.1 hC.2.1 dX4_count_122 rfl (lv_at hl 2 rfl) ?_
        refine mg4 hC hK hW 18 (v := .int (T 0 3)) rfl (by decide) rfl tf_X4_90 dX4_count_123 ?_
        refine lv_icmp_ge (tgt := 152) hC.1 hC.2.1 dX4_count_126 (by decide) (fun c_126 => ?_) (fun c_126 => ?_)
        · refine lv_iload_n hC.1 hC.2.1 dX4_count_152 rfl (lv_at hl 1 rfl) ?_
          exact krS hC hr hlk (by rw [hi0, kThr_n hI3]; simp (config := {decide := true}) only [a_count, kif_true, kif_false, c_3]) dX4_count_153
        · exact absurd (show T 0 3 ≤ nI i from by rw [(tn_nat hI3.1).1]; exact nI_le (by omega) (by omega)) c_126
      | succ zf ih =>
        intro i  hi  ls hl
        have hlt : i < tn (T 0 3) := by omega
        have hb2 := (tn_nat hI3.1).2
        have hb3 := hI3.2.2.1
        refine lv_iload_n hC.1 hC.2.1 dX4_count_121 rfl (lv_at hl 0 rfl) ?_
        refine lv_aload_n hC.1 hC.2.1 dX4_count_122 rfl (lv_at hl 2 rfl) ?_
        refine mg4 hC hK hW 18 (v := .int (T 0 3)) rfl (by decide) rfl tf_X4_90 dX4_count_123 ?_
        refine lv_icmp_ge (tgt := 152) hC.1 hC.2.1 dX4_count_126 (by decide) (fun c_126 => ?_) (fun c_126 => ?_)
        · exact absurd (show nI (tn (T 0 3)) ≤ nI i from by rw [← (tn_nat hI3.1).1]; exact c_126) (nI_ge (a := i) (b := tn (T 0 3)) (by omega) (by omega))
        · refine lv_iload_n hC.1 hC.2.1 dX4_count_129 rfl (lv_at hl 1 rfl) ?_
          refine lv_aload_n hC.1 hC.2.1 dX4_count_130 rfl (lv_at hl 2 rfl) ?_
          refine mg4 hC hK hW 19 (v := .ref (M 14)) rfl (by decide) rfl tf_X4_50 dX4_count_131 ?_
          refine lv_iload_n hC.1 hC.2.1 dX4_count_134 rfl (lv_at hl 0 rfl) ?_
          refine mabN hC hK hW 14 (by decide) rfl (i := i) (by omega) dX4_count_135 ?_
          refine lv_if_eq (tgt := 143) hC.1 hC.2.1 dX4_count_136 (by decide) (fun c_136 => ?_) (fun c_136 => ?_)
          · refine lv_iconst (v := 0) hC.1 hC.2.1 dX4_count_143 (by decide) ?_
            refine lv_iadd hC.1 hC.2.1 dX4_count_144 ?_
            refine lv_istore_n (lv' := [(2, .int ((kThr T i) + 0)), (3, .int (nI i)), (0, .ref (M 0)), (1, .int w)]) hC.1 hC.2.1 dX4_count_145 rfl hl (by decide) rfl (fun ls hl => ?_)
            refine lv_iinc (v := nI (i + 1)) (lv' := [(3, .int (nI (i + 1))), (2, .int ((kThr T i) + 0)), (0, .ref (M 0)), (1, .int w)]) hC.1 hC.2.1 dX4_count_146 hl (k := 1) rfl (nI_1 i) (by decide) rfl (fun ls hl => ?_)
            refine lv_goto (tgt := 121) hC.1 hC.2.1 dX4_count_149 (by decide) ?_
            have e_2 : ((kThr T i) + 0) = kThr T (i + 1) := by simp only [kif_true, kif_false, kb, not_true_eq_false, not_false_eq_true, and_true, true_and, and_false, false_and, and_self, or_true, true_or, or_false, false_or, Int32.add_zero, Int32.sub_zero, kThr, ksum, c_3, c_126, c_136]
            rw [e_2] at hl
            exact ih (i + 1) (by omega) ls (lv_sub hl [0, 1, 2, 3] rfl)
          · refine lv_iconst (v := 1) hC.1 hC.2.1 dX4_count_139 (by decide) ?_
            refine lv_goto (tgt := 144) hC.1 hC.2.1 dX4_count_140 (by decide) ?_
            refine lv_iadd hC.1 hC.2.1 dX4_count_144 ?_
            refine lv_istore_n (lv' := [(2, .int ((kThr T i) + 1)), (3, .int (nI i)), (0, .ref (M 0)), (1, .int w)]) hC.1 hC.2.1 dX4_count_145 rfl hl (by decide) rfl (fun ls hl => ?_)
            refine lv_iinc (v := nI (i + 1)) (lv' := [(3, .int (nI (i + 1))), (2, .int ((kThr T i) + 1)), (0, .ref (M 0)), (1, .int w)]) hC.1 hC.2.1 dX4_count_146 hl (k := 1) rfl (nI_1 i) (by decide) rfl (fun ls hl => ?_)
            refine lv_goto (tgt := 121) hC.1 hC.2.1 dX4_count_149 (by decide) ?_
            have e_2 : ((kThr T i) + 1) = kThr T (i + 1) := by simp only [kif_true, kif_false, kb, not_true_eq_false, not_false_eq_true, and_true, true_and, and_false, false_and, and_self, or_true, true_or, or_false, false_or, Int32.add_zero, Int32.sub_zero, kThr, ksum, c_3, c_126, c_136]
            rw [e_2] at hl
            exact ih (i + 1) (by omega) ls (lv_sub hl [0, 1, 2, 3] rfl)
    exact loop_121 (tn (T 0 3)) 0 (by omega) ls (by rw [nI_0]; exact lv_sub hl [0, 1, 2, 3] rfl)
  · refine lv_tableIn (tgt := 154) (off := 151) hC.1 hC.2.1 dX4_count_3 (by rw [c_3]; decide) (by rw [c_3]; decide) (by rw [c_3]; rfl) (by decide) ?_
    refine lv_aload_n hC.1 hC.2.1 dX4_count_154 rfl (lv_at hl 1 rfl) ?_
    refine mg4 hC hK hW 29 (v := .int (T 0 7)) rfl (by decide) rfl tf_X4_158 dX4_count_155 ?_
    exact krS hC hr hlk (by simp (config := {decide := true}) only [kif_true, kif_false, kb, kup_eq, kup_f, kup_i, not_true_eq_false, not_false_eq_true, and_true, true_and, and_false, false_and, and_self, or_true, true_or, or_false, false_or, a_count, c_3]) dX4_count_158
  · refine lv_tableIn (tgt := 159) (off := 156) hC.1 hC.2.1 dX4_count_3 (by rw [c_3]; decide) (by rw [c_3]; decide) (by rw [c_3]; rfl) (by decide) ?_
    refine lv_aload_n hC.1 hC.2.1 dX4_count_159 rfl (lv_at hl 1 rfl) ?_
    refine mg4 hC hK hW 30 (v := .int (T 0 9)) rfl (by decide) rfl tf_X4_161 dX4_count_160 ?_
    exact krS hC hr hlk (by simp (config := {decide := true}) only [kif_true, kif_false, kb, kup_eq, kup_f, kup_i, not_true_eq_false, not_false_eq_true, and_true, true_and, and_false, false_and, and_self, or_true, true_or, or_false, false_or, a_count, c_3]) dX4_count_163
  · refine lv_tableIn (tgt := 164) (off := 161) hC.1 hC.2.1 dX4_count_3 (by rw [c_3]; decide) (by rw [c_3]; decide) (by rw [c_3]; rfl) (by decide) ?_
    refine lv_aload_n hC.1 hC.2.1 dX4_count_164 rfl (lv_at hl 1 rfl) ?_
    refine mg4 hC hK hW 31 (v := .int (T 0 6)) rfl (by decide) rfl tf_X4_152 dX4_count_165 ?_
    exact krS hC hr hlk (by simp (config := {decide := true}) only [kif_true, kif_false, kb, kup_eq, kup_f, kup_i, not_true_eq_false, not_false_eq_true, and_true, true_and, and_false, false_and, and_self, or_true, true_or, or_false, false_or, a_count, c_3]) dX4_count_168
  · refine lv_tableOut (tgt := 169) hC.1 hC.2.1 dX4_count_3 c_3.1 (by decide) ?_
    refine lv_ldc hC.1 hC.2.1 hC.2.2.2.1 (hC.2.2.2.2 _ (kt_in tk_X4_110 rfl)) dX4_count_169 ?_
    exact krS hC hr hlk (by simp (config := {decide := true}) only [kif_true, kif_false, kb, kup_eq, kup_f, kup_i, not_true_eq_false, not_false_eq_true, and_true, true_and, and_false, false_and, and_self, or_true, true_or, or_false, false_or, a_count, c_3.2.1, c_3.2.2.1, c_3.2.2.2.1, c_3.2.2.2.2.1, c_3.2.2.2.2.2.1, c_3.2.2.2.2.2.2.1, c_3.2.2.2.2.2.2.2]) dX4_count_171
set_option maxHeartbeats 4000000 in
set_option maxRecDepth 100000 in
theorem c_X4_list (l : Launch) (D : va_G) (G : Nat → ClassId) (M : Nat → Nat) (hL : mL M) (T N : kT) (r g : Nat → Int32) (p : Int32) (c : Int32) (x : Int32) (hI1 : kI1 T) (hI3 : kI3 T) : kM l yX4_list cX4_list 6 (some .int) 3 67 (mPc D G M T N r g [.ref (M 0), .int p, .int c, .int x]) (kSi (a_list T p c x)) (fun _ => False) := by
  refine kBegin (by decide) (Nat.le_of_ble_eq_true rfl) ?_
  intro zp ze zs zm zargs zbelow zmeth zc hC hr hlk hB ls hl
  obtain ⟨hP, hK⟩ := hB
  have hW : mWd D G M (mA M) zs.heap T N r g zs.heap [] := mWd.start hL hP
  have hl : lv_has ls 6 [(0, .ref (M 0)), (1, .int p), (2, .int c), (3, .int x)] := hl
  refine lv_aload_n hC.1 hC.2.1 dX4_list_0 rfl (lv_at hl 0 rfl) ?_
  refine lv_iload_n hC.1 hC.2.1 dX4_list_1 rfl (lv_at hl 1 rfl) ?_
  refine keSi (rest := []) (mcV 0 hC hK hW (c_X4_isProcess l D G M hL T N r g p hI1) (kgoodV tm_X4_103 ti_yX4_isProcess te_yX4_isProcess tz_X4 tc_yX4_isProcess) mw_m rfl ⟨rfl, by decide, by decide, (show Option.map _ (parseMethodDescriptor yX4_isProcess.desc) = some 1 from by decide +kernel)⟩ ⟨Nat.le_of_ble_eq_true rfl, Nat.le_of_ble_eq_true rfl⟩ hl.1 rfl (Nat.le_of_ble_eq_true rfl) ⟨Nat.le_refl _, Nat.le_refl _⟩ dX4_list_2) ?_
  refine kif_eq (tgt := 16) hC.1 hC.2.1 dX4_list_5 (by decide) (fun c_5 => ?_) (fun c_5 => ?_)
  · refine lv_ldc hC.1 hC.2.1 hC.2.2.2.1 (hC.2.2.2.2 _ (kt_in tk_X4_107 rfl)) dX4_list_16 ?_
    exact krS hC hr hlk (by simp (config := {decide := true}) only [kif_true, kif_false, kb, kup_eq, kup_f, kup_i, not_true_eq_false, not_false_eq_true, and_true, true_and, and_false, false_and, and_self, or_true, true_or, or_false, false_or, a_list, c_5]) dX4_list_18
  · refine lv_aload_n hC.1 hC.2.1 dX4_list_8 rfl (lv_at hl 0 rfl) ?_
    refine lv_iload_n hC.1 hC.2.1 dX4_list_9 rfl (lv_at hl 2 rfl) ?_
    refine keSi (rest := []) (mcV 0 hC hK hW (c_X4_isRoomy l D G M hL T N r g c hI3) (kgoodV tm_X4_181 ti_yX4_isRoomy te_yX4_isRoomy tz_X4 tc_yX4_isRoomy) mw_m rfl ⟨rfl, by decide, by decide, (show Option.map _ (parseMethodDescriptor yX4_isRoomy.desc) = some 1 from by decide +kernel)⟩ ⟨Nat.le_of_ble_eq_true rfl, Nat.le_of_ble_eq_true rfl⟩ hl.1 rfl (Nat.le_of_ble_eq_true rfl) ⟨Nat.le_refl _, Nat.le_refl _⟩ dX4_list_10) ?_
    refine kif_ne (tgt := 19) hC.1 hC.2.1 dX4_list_13 (by decide) (fun c_13 => ?_) (fun c_13 => ?_)
    · refine lv_aload_n hC.1 hC.2.1 dX4_list_19 rfl (lv_at hl 0 rfl) ?_
      refine lv_iload_n hC.1 hC.2.1 dX4_list_20 rfl (lv_at hl 1 rfl) ?_
      refine lv_iload_n hC.1 hC.2.1 dX4_list_21 rfl (lv_at hl 2 rfl) ?_
      refine keSi (rest := []) (mcV 0 hC hK hW (c_X4_canRead l D G M hL T N r g p c c_5.in c_13.1.in) (kgoodV tm_X4_165 ti_yX4_canRead te_yX4_canRead tz_X4 tc_yX4_canRead) mw_m rfl ⟨rfl, by decide, by decide, (show Option.map _ (parseMethodDescriptor yX4_canRead.desc) = some 2 from by decide +kernel)⟩ ⟨Nat.le_of_ble_eq_true rfl, Nat.le_of_ble_eq_true rfl⟩ hl.1 rfl (Nat.le_of_ble_eq_true rfl) ⟨Nat.le_refl _, Nat.le_refl _⟩ dX4_list_22) ?_
      refine kif_ne (tgt := 31) hC.1 hC.2.1 dX4_list_25 (by decide) (fun c_25 => ?_) (fun c_25 => ?_)
      · refine lv_iload_n hC.1 hC.2.1 dX4_list_31 rfl (lv_at hl 3 rfl) ?_
        refine lv_istore (lv' := [(4, .int x), (0, .ref (M 0)), (1, .int p), (2, .int c), (3, .int x)]) hC.1 hC.2.1 dX4_list_32 hl (by decide) rfl (fun ls hl => ?_)
        refine lv_iconst (v := 0) hC.1 hC.2.1 dX4_list_34 (by decide) ?_
        refine lv_istore (lv' := [(5, .int 0), (4, .int x), (0, .ref (M 0)), (1, .int p), (2, .int c), (3, .int x)]) hC.1 hC.2.1 dX4_list_35 hl (by decide) rfl (fun ls hl => ?_)
        have loop_37 : ∀ (zf i : Nat) (k : Int32), i + zf = tn (T 0 3) → (klist T c x zf i k = klist T c x (tn (T 0 3)) 0 0) → ∀ ls : Array Slot, lv_has ls 6 [(5, .int (nI i)), (4, .int (x - k)), (0, .ref (M 0)), (2, .int c)] → W zp l ze ({ frames := 3, cells := 0, slots := 0, locals := 67 } : Room) zs zm zargs zbelow zmeth zc zs.heap [] 0 0 (MQ zbelow (kSi (a_list T p c x)) zargs zs 0 0 (fun _ => False)) (F0 zm 37 ls []) := by
          intro zf
          induction zf with
          | zero =>
            intro i k hi hA ls hl
            have hi0 : i = tn (T 0 3) := by omega
            have hb2 := (tn_nat hI3.1).2
            have hb3 := hI3.2.2.1
            refine lv_iload hC.1 hC.2.1 dX4_list_37 (lv_at hl 0 rfl) ?_
            refine lv_aload_n hC.1 hC.2.1 dX4_list_39 rfl (lv_at hl 2 rfl) ?_
            refine mg4 hC hK hW 18 (v := .int (T 0 3)) rfl (by decide) rfl tf_X4_90 dX4_list_40 ?_
            refine lv_icmp_ge (tgt := 84) hC.1 hC.2.1 dX4_list_43 (by decide) (fun c_43 => ?_) (fun c_43 => ?_)
            · refine lv_iconst (v := (-1)) hC.1 hC.2.1 dX4_list_84 (by decide) ?_
              exact krS hC hr hlk (by simp only [a_list, kif_true, c_5, c_13, c_25, and_self]; rw [← hA]; simp only [klist, kif_true, kif_false, kb, not_true_eq_false, not_false_eq_true, and_true, true_and, and_false, false_and, and_self, or_true, true_or, or_false, false_or, Int32.add_zero, Int32.sub_zero, c_5, c_13, c_25, hi0, c_43]) dX4_list_85
            · exact absurd (show T 0 3 ≤ nI i from by rw [(tn_nat hI3.1).1]; exact nI_le (by omega) (by omega)) c_43
          | succ zf ih =>
            intro i k hi hA ls hl
            have hlt : i < tn (T 0 3) := by omega
            have hb2 := (tn_nat hI3.1).2
            have hb3 := hI3.2.2.1
            refine lv_iload hC.1 hC.2.1 dX4_list_37 (lv_at hl 0 rfl) ?_
            refine lv_aload_n hC.1 hC.2.1 dX4_list_39 rfl (lv_at hl 2 rfl) ?_
            refine mg4 hC hK hW 18 (v := .int (T 0 3)) rfl (by decide) rfl tf_X4_90 dX4_list_40 ?_
            refine lv_icmp_ge (tgt := 84) hC.1 hC.2.1 dX4_list_43 (by decide) (fun c_43 => ?_) (fun c_43 => ?_)
            · exact absurd (show nI (tn (T 0 3)) ≤ nI i from by rw [← (tn_nat hI3.1).1]; exact c_43) (nI_ge (a := i) (b := tn (T 0 3)) (by omega) (by omega))
            · refine lv_aload_n hC.1 hC.2.1 dX4_list_46 rfl (lv_at hl 2 rfl) ?_
              refine mg4 hC hK hW 19 (v := .ref (M 14)) rfl (by decide) rfl tf_X4_50 dX4_list_47 ?_
              refine lv_iload hC.1 hC.2.1 dX4_list_50 (lv_at hl 0 rfl) ?_
              refine mabN hC hK hW 14 (by decide) rfl (i := i) (by omega) dX4_list_52 ?_
              refine lv_if_eq (tgt := 78) hC.1 hC.2.1 dX4_list_53 (by decide) (fun c_53 => ?_) (fun c_53 => ?_)
              · have hin : ¬ kIn T (nI i) c := fun z => ((kIn_n (by omega)).mp z).1 c_53
                refine lv_iinc (v := nI (i + 1)) (lv' := [(5, .int (nI (i + 1))), (4, .int (x - k)), (0, .ref (M 0)), (2, .int c)]) hC.1 hC.2.1 dX4_list_78 hl (k := 0) rfl (nI_1 i) (by decide) rfl (fun ls hl => ?_)
                refine lv_goto (tgt := 37) hC.1 hC.2.1 dX4_list_81 (by decide) ?_
                exact ih (i + 1) k (by omega) (Eq.trans (by simp only [klist, kif_true, kif_false, kb, not_true_eq_false, not_false_eq_true, and_true, true_and, and_false, false_and, and_self, or_true, true_or, or_false, false_or, Int32.add_zero, Int32.sub_zero, hin]) hA) ls (lv_sub hl [0, 1, 2, 3] rfl)
              · refine lv_aload_n hC.1 hC.2.1 dX4_list_56 rfl (lv_at hl 2 rfl) ?_
                refine mg4 hC hK hW 23 (v := .ref (M 18)) rfl (by decide) rfl tf_X4_62 dX4_list_57 ?_
                refine lv_iload hC.1 hC.2.1 dX4_list_60 (lv_at hl 0 rfl) ?_
                refine maiN hC hK hW 18 (by decide) rfl (i := i) (by omega) dX4_list_62 ?_
                refine lv_iload_n hC.1 hC.2.1 dX4_list_63 rfl (lv_at hl 3 rfl) ?_
                refine lv_icmp_ne (tgt := 78) hC.1 hC.2.1 dX4_list_64 (by decide) (fun c_64 => ?_) (fun c_64 => ?_)
                · have hin : ¬ kIn T (nI i) c := fun z => c_64 ((kIn_n (by omega)).mp z).2
                  refine lv_iinc (v := nI (i + 1)) (lv' := [(5, .int (nI (i + 1))), (4, .int (x - k)), (0, .ref (M 0)), (2, .int c)]) hC.1 hC.2.1 dX4_list_78 hl (k := 0) rfl (nI_1 i) (by decide) rfl (fun ls hl => ?_)
                  refine lv_goto (tgt := 37) hC.1 hC.2.1 dX4_list_81 (by decide) ?_
                  exact ih (i + 1) k (by omega) (Eq.trans (by simp only [klist, kif_true, kif_false, kb, not_true_eq_false, not_false_eq_true, and_true, true_and, and_false, false_and, and_self, or_true, true_or, or_false, false_or, Int32.add_zero, Int32.sub_zero, hin]) hA) ls (lv_sub hl [0, 1, 2, 3] rfl)
                · have hin : kIn T (nI i) c := (kIn_n (by omega)).mpr ⟨c_53, knn (fun z => z c_64)⟩
                  refine lv_iload hC.1 hC.2.1 dX4_list_67 (lv_at hl 1 rfl) ?_
                  refine lv_if_ne (tgt := 75) hC.1 hC.2.1 dX4_list_69 (by decide) (fun c_69 => ?_) (fun c_69 => ?_)
                  · have hkx : ¬ k = x := fun z => c_69 (ksub0.mpr z)
                    refine lv_iinc (v := x - (k + 1)) (lv' := [(4, .int (x - (k + 1))), (5, .int (nI i)), (0, .ref (M 0)), (2, .int c)]) hC.1 hC.2.1 dX4_list_75 hl (k := 1) rfl (kdec1 x k) (by decide) rfl (fun ls hl => ?_)
                    refine lv_iinc (v := nI (i + 1)) (lv' := [(5, .int (nI (i + 1))), (4, .int (x - (k + 1))), (0, .ref (M 0)), (2, .int c)]) hC.1 hC.2.1 dX4_list_78 hl (k := 1) rfl (nI_1 i) (by decide) rfl (fun ls hl => ?_)
                    refine lv_goto (tgt := 37) hC.1 hC.2.1 dX4_list_81 (by decide) ?_
                    exact ih (i + 1) (k + 1) (by omega) (Eq.trans (by simp only [klist, kif_true, kif_false, kb, not_true_eq_false, not_false_eq_true, and_true, true_and, and_false, false_and, and_self, or_true, true_or, or_false, false_or, Int32.add_zero, Int32.sub_zero, hin, hkx]) hA) ls (lv_sub hl [0, 1, 2, 3] rfl)
                  · have hkx : k = x := ksub0.mp c_69
                    refine lv_iload hC.1 hC.2.1 dX4_list_72 (lv_at hl 0 rfl) ?_
                    exact krS hC hr hlk (by simp only [a_list, kif_true, c_5, c_13, c_25, and_self]; rw [← hA]; simp only [klist, kif_true, kif_false, kb, not_true_eq_false, not_false_eq_true, and_true, true_and, and_false, false_and, and_self, or_true, true_or, or_false, false_or, Int32.add_zero, Int32.sub_zero, c_5, c_13, c_25, c_43, c_53, c_64, hin, c_69, hkx]) dX4_list_74
        exact loop_37 (tn (T 0 3)) 0 0 (by omega) (rfl) ls (by rw [nI_0, Int32.sub_zero]; exact lv_sub hl [0, 1, 2, 4] rfl)
      · refine lv_ldc hC.1 hC.2.1 hC.2.2.2.1 (hC.2.2.2.2 _ (kt_in tk_X4_135 rfl)) dX4_list_28 ?_
        exact krS hC hr hlk (by simp (config := {decide := true}) only [kif_true, kif_false, kb, kup_eq, kup_f, kup_i, not_true_eq_false, not_false_eq_true, and_true, true_and, and_false, false_and, and_self, or_true, true_or, or_false, false_or, a_list, c_5, c_13, c_25]) dX4_list_30
    · refine lv_ldc hC.1 hC.2.1 hC.2.2.2.1 (hC.2.2.2.2 _ (kt_in tk_X4_107 rfl)) dX4_list_16 ?_
      exact krS hC hr hlk (by simp (config := {decide := true}) only [kif_true, kif_false, kb, kup_eq, kup_f, kup_i, not_true_eq_false, not_false_eq_true, and_true, true_and, and_false, false_and, and_self, or_true, true_or, or_false, false_or, a_list, c_5, c_13]) dX4_list_18
set_option maxHeartbeats 4000000 in
set_option maxRecDepth 100000 in
theorem c_X4_read (l : Launch) (D : va_G) (G : Nat → ClassId) (M : Nat → Nat) (hL : mL M) (T N : kT) (r g : Nat → Int32) (p : Int32) (f : Int32) (i : Int32) (hI1 : kI1 T) (hI3 : kI3 T) (hI9 : kI9 T) : kM l yX4_read cX4_read 4 (some .int) 3 67 (mPc D G M T N r g [.ref (M 0), .int p, .int f, .int i]) (kSi (a_read T N p f i)) (fun _ => False) := by
  refine kBegin (by decide) (Nat.le_of_ble_eq_true rfl) ?_
  intro zp ze zs zm zargs zbelow zmeth zc hC hr hlk hB ls hl
  obtain ⟨hP, hK⟩ := hB
  have hW : mWd D G M (mA M) zs.heap T N r g zs.heap [] := mWd.start hL hP
  have hl : lv_has ls 4 [(0, .ref (M 0)), (1, .int p), (2, .int f), (3, .int i)] := hl
  refine lv_aload_n hC.1 hC.2.1 dX4_read_0 rfl (lv_at hl 0 rfl) ?_
  refine lv_iload_n hC.1 hC.2.1 dX4_read_1 rfl (lv_at hl 1 rfl) ?_
  refine keSi (rest := []) (mcV 0 hC hK hW (c_X4_isProcess l D G M hL T N r g p hI1) (kgoodV tm_X4_103 ti_yX4_isProcess te_yX4_isProcess tz_X4 tc_yX4_isProcess) mw_m rfl ⟨rfl, by decide, by decide, (show Option.map _ (parseMethodDescriptor yX4_isProcess.desc) = some 1 from by decide +kernel)⟩ ⟨Nat.le_of_ble_eq_true rfl, Nat.le_of_ble_eq_true rfl⟩ hl.1 rfl (Nat.le_of_ble_eq_true rfl) ⟨Nat.le_refl _, Nat.le_refl _⟩ dX4_read_2) ?_
  refine kif_eq (tgt := 16) hC.1 hC.2.1 dX4_read_5 (by decide) (fun c_5 => ?_) (fun c_5 => ?_)
  · refine lv_ldc hC.1 hC.2.1 hC.2.2.2.1 (hC.2.2.2.2 _ (kt_in tk_X4_107 rfl)) dX4_read_16 ?_
    exact krS hC hr hlk (by simp (config := {decide := true}) only [kif_true, kif_false, kb, kup_eq, kup_f, kup_i, not_true_eq_false, not_false_eq_true, and_true, true_and, and_false, false_and, and_self, or_true, true_or, or_false, false_or, a_read, c_5]) dX4_read_18
  · refine lv_aload_n hC.1 hC.2.1 dX4_read_8 rfl (lv_at hl 0 rfl) ?_
    refine lv_iload_n hC.1 hC.2.1 dX4_read_9 rfl (lv_at hl 2 rfl) ?_
    refine keSi (rest := []) (mcV 0 hC hK hW (c_X4_isFile l D G M hL T N r g f hI3) (kgoodV tm_X4_201 ti_yX4_isFile te_yX4_isFile tz_X4 tc_yX4_isFile) mw_m rfl ⟨rfl, by decide, by decide, (show Option.map _ (parseMethodDescriptor yX4_isFile.desc) = some 1 from by decide +kernel)⟩ ⟨Nat.le_of_ble_eq_true rfl, Nat.le_of_ble_eq_true rfl⟩ hl.1 rfl (Nat.le_of_ble_eq_true rfl) ⟨Nat.le_refl _, Nat.le_refl _⟩ dX4_read_10) ?_
    refine kif_ne (tgt := 19) hC.1 hC.2.1 dX4_read_13 (by decide) (fun c_13 => ?_) (fun c_13 => ?_)
    · refine lv_aload_n hC.1 hC.2.1 dX4_read_19 rfl (lv_at hl 0 rfl) ?_
      refine lv_iload_n hC.1 hC.2.1 dX4_read_20 rfl (lv_at hl 1 rfl) ?_
      refine lv_iload_n hC.1 hC.2.1 dX4_read_21 rfl (lv_at hl 2 rfl) ?_
      refine keSi (rest := []) (mcV 0 hC hK hW (c_X4_canRead l D G M hL T N r g p f c_5.in c_13.1.in) (kgoodV tm_X4_165 ti_yX4_canRead te_yX4_canRead tz_X4 tc_yX4_canRead) mw_m rfl ⟨rfl, by decide, by decide, (show Option.map _ (parseMethodDescriptor yX4_canRead.desc) = some 2 from by decide +kernel)⟩ ⟨Nat.le_of_ble_eq_true rfl, Nat.le_of_ble_eq_true rfl⟩ hl.1 rfl (Nat.le_of_ble_eq_true rfl) ⟨Nat.le_refl _, Nat.le_refl _⟩ dX4_read_22) ?_
      refine kif_ne (tgt := 31) hC.1 hC.2.1 dX4_read_25 (by decide) (fun c_25 => ?_) (fun c_25 => ?_)
      · refine lv_iload_n hC.1 hC.2.1 dX4_read_31 rfl (lv_at hl 3 rfl) ?_
        refine lv_i2l hC.1 hC.2.1 dX4_read_32 rfl ?_
        refine lv_lconst (v := 0) hC.1 hC.2.1 dX4_read_33 (by decide) ?_
        refine lv_aload_n hC.1 hC.2.1 dX4_read_34 rfl (lv_at hl 0 rfl) ?_
        refine mg4 hC hK hW 26 (v := .ref (M 21)) rfl (by decide) rfl tf_X4_71 dX4_read_35 ?_
        refine lv_iload_n hC.1 hC.2.1 dX4_read_38 rfl (lv_at hl 2 rfl) ?_
        refine mai hC hK hW 21 (by decide) rfl (i := f) c_13.1.in dX4_read_39 ?_
        refine lv_iconst (v := 1) hC.1 hC.2.1 dX4_read_40 (by decide) ?_
        refine lv_isub hC.1 hC.2.1 dX4_read_41 ?_
        refine lv_i2l hC.1 hC.2.1 dX4_read_42 rfl ?_
        refine keSi (rest := []) (kcS0 hC (c_X4_within l i.toInt64 0 (((T 25 (tn f)) - 1).toInt64)) (kgoodS tm_X4_93 ts_yX4_within tz_X4 tc_yX4_within) ⟨rfl, by decide, by decide, (show Option.map _ (parseMethodDescriptor yX4_within.desc) = some 3 from by decide +kernel)⟩ ⟨Nat.le_of_ble_eq_true rfl, Nat.le_of_ble_eq_true rfl⟩ hl.1 rfl (Nat.le_of_ble_eq_true rfl) ⟨Nat.le_refl _, Nat.le_refl _⟩ dX4_read_43) ?_
        refine kif_eq (tgt := 63) hC.1 hC.2.1 dX4_read_46 (by decide) (fun c_46 => ?_) (fun c_46 => ?_)
        · have hrd : ¬ (¬ i < 0 ∧ ¬ T 25 (tn f) ≤ i ∧ i < 32) := fun z => c_46 ((krd hI9).mpr z)
          refine lv_ldc hC.1 hC.2.1 hC.2.2.2.1 (hC.2.2.2.2 _ (kt_in tk_X4_110 rfl)) dX4_read_63 ?_
          exact krS hC hr hlk (by simp (config := {decide := true}) only [kif_true, kif_false, kb, kup_eq, kup_f, kup_i, not_true_eq_false, not_false_eq_true, and_true, true_and, and_false, false_and, and_self, or_true, true_or, or_false, false_or, a_read, c_5, c_13, c_25, c_46, hrd]) dX4_read_65
        · have hrd := (krd hI9).mp c_46
          refine lv_aload_n hC.1 hC.2.1 dX4_read_49 rfl (lv_at hl 0 rfl) ?_
          refine mg4 hC hK hW 27 (v := .ref (M 22)) rfl (by decide) rfl tf_X4_74 dX4_read_50 ?_
          refine lv_bipush (v := 32) hC.1 hC.2.1 dX4_read_53 (by decide) ?_
          refine lv_iload_n hC.1 hC.2.1 dX4_read_55 rfl (lv_at hl 2 rfl) ?_
          refine lv_imul hC.1 hC.2.1 dX4_read_56 ?_
          refine lv_iload_n hC.1 hC.2.1 dX4_read_57 rfl (lv_at hl 3 rfl) ?_
          refine lv_iadd hC.1 hC.2.1 dX4_read_58 ?_
          rw [show (((32 * f) + i) : Int32) = nI (32 * tn f + tn i) from (nu_ix c_13.1.1 hrd.1)]
          refine maiN hC hK hW 22 (by decide) rfl (i := (32 * tn f + tn i)) (by have z1 := c_13.lt; have z2 := keq_tn (n := 32) hrd.2.2 hrd.1 (by decide); omega) dX4_read_59 ?_
          rw [show (N ((32 * tn f + tn i) / 32) ((32 * tn f + tn i) % 32) : Int32) = N (tn f) (tn i) from (by have z2 := keq_tn (n := 32) hrd.2.2 hrd.1 (by decide); rw [show (32 * tn f + tn i) / 32 = tn f by omega, show (32 * tn f + tn i) % 32 = tn i by omega])]
          refine lv_goto (tgt := 65) hC.1 hC.2.1 dX4_read_60 (by decide) ?_
          exact krS hC hr hlk (by simp (config := {decide := true}) only [kif_true, kif_false, kb, kup_eq, kup_f, kup_i, not_true_eq_false, not_false_eq_true, and_true, true_and, and_false, false_and, and_self, or_true, true_or, or_false, false_or, a_read, c_5, c_13, c_25, c_46, hrd.1, hrd.2.1, hrd.2.2]) dX4_read_65
      · refine lv_ldc hC.1 hC.2.1 hC.2.2.2.1 (hC.2.2.2.2 _ (kt_in tk_X4_135 rfl)) dX4_read_28 ?_
        exact krS hC hr hlk (by simp (config := {decide := true}) only [kif_true, kif_false, kb, kup_eq, kup_f, kup_i, not_true_eq_false, not_false_eq_true, and_true, true_and, and_false, false_and, and_self, or_true, true_or, or_false, false_or, a_read, c_5, c_13, c_25]) dX4_read_30
    · refine lv_ldc hC.1 hC.2.1 hC.2.2.2.1 (hC.2.2.2.2 _ (kt_in tk_X4_107 rfl)) dX4_read_16 ?_
      exact krS hC hr hlk (by simp (config := {decide := true}) only [kif_true, kif_false, kb, kup_eq, kup_f, kup_i, not_true_eq_false, not_false_eq_true, and_true, true_and, and_false, false_and, and_self, or_true, true_or, or_false, false_or, a_read, c_5, c_13]) dX4_read_18
set_option maxHeartbeats 4000000 in
set_option maxRecDepth 100000 in
theorem c_X4_object (l : Launch) (D : va_G) (G : Nat → ClassId) (M : Nat → Nat) (hL : mL M) (T N : kT) (r g : Nat → Int32) (p : Int32) (o : Int32) (w : Int32) (hI1 : kI1 T) (hI3 : kI3 T) (hI5 : kI5 T) (hIh : kIh T) : kM l yX4_object cX4_object 4 (some .int) 2 46 (mPc D G M T N r g [.ref (M 0), .int p, .int o, .int w]) (kSi (a_object T p o w)) (fun _ => False) := by
  refine kBegin (by decide) (Nat.le_of_ble_eq_true rfl) ?_
  intro zp ze zs zm zargs zbelow zmeth zc hC hr hlk hB ls hl
  obtain ⟨hP, hK⟩ := hB
  have hW : mWd D G M (mA M) zs.heap T N r g zs.heap [] := mWd.start hL hP
  have hl : lv_has ls 4 [(0, .ref (M 0)), (1, .int p), (2, .int o), (3, .int w)] := hl
  refine lv_aload_n hC.1 hC.2.1 dX4_object_0 rfl (lv_at hl 0 rfl) ?_
  refine lv_iload_n hC.1 hC.2.1 dX4_object_1 rfl (lv_at hl 1 rfl) ?_
  refine keSi (rest := []) (mcV 0 hC hK hW (c_X4_isProcess l D G M hL T N r g p hI1) (kgoodV tm_X4_103 ti_yX4_isProcess te_yX4_isProcess tz_X4 tc_yX4_isProcess) mw_m rfl ⟨rfl, by decide, by decide, (show Option.map _ (parseMethodDescriptor yX4_isProcess.desc) = some 1 from by decide +kernel)⟩ ⟨Nat.le_of_ble_eq_true rfl, Nat.le_of_ble_eq_true rfl⟩ hl.1 rfl (Nat.le_of_ble_eq_true rfl) ⟨Nat.le_refl _, Nat.le_refl _⟩ dX4_object_2) ?_
  refine kif_eq (tgt := 16) hC.1 hC.2.1 dX4_object_5 (by decide) (fun c_5 => ?_) (fun c_5 => ?_)
  · refine lv_ldc hC.1 hC.2.1 hC.2.2.2.1 (hC.2.2.2.2 _ (kt_in tk_X4_107 rfl)) dX4_object_16 ?_
    exact krS hC hr hlk (by rw [a_object, kif_f (fun z => c_5 z.1)]) dX4_object_18
  · refine lv_aload_n hC.1 hC.2.1 dX4_object_8 rfl (lv_at hl 0 rfl) ?_
    refine lv_iload_n hC.1 hC.2.1 dX4_object_9 rfl (lv_at hl 2 rfl) ?_
    refine keSi (rest := []) (mcV 0 hC hK hW (c_X4_isObject l D G M hL T N r g o hI3) (kgoodV tm_X4_172 ti_yX4_isObject te_yX4_isObject tz_X4 tc_yX4_isObject) mw_m rfl ⟨rfl, by decide, by decide, (show Option.map _ (parseMethodDescriptor yX4_isObject.desc) = some 1 from by decide +kernel)⟩ ⟨Nat.le_of_ble_eq_true rfl, Nat.le_of_ble_eq_true rfl⟩ hl.1 rfl (Nat.le_of_ble_eq_true rfl) ⟨Nat.le_refl _, Nat.le_refl _⟩ dX4_object_10) ?_
    refine kif_ne (tgt := 19) hC.1 hC.2.1 dX4_object_13 (by decide) (fun c_13 => ?_) (fun c_13 => ?_)
    · refine lv_iload_n hC.1 hC.2.1 dX4_object_19 rfl (lv_at hl 3 rfl) ?_
      refine lv_i2l hC.1 hC.2.1 dX4_object_20 rfl ?_
      refine lv_lconst (v := 0) hC.1 hC.2.1 dX4_object_21 (by decide) ?_
      refine lv_ldc2 hC.1 hC.2.1 hC.2.2.2.1 (hC.2.2.2.2 _ (kt_in tk_X4_208 rfl)) dX4_object_22 ?_
      refine keSi (rest := []) (kcS0 hC (c_X4_within l w.toInt64 0 (6)) (kgoodS tm_X4_93 ts_yX4_within tz_X4 tc_yX4_within) ⟨rfl, by decide, by decide, (show Option.map _ (parseMethodDescriptor yX4_within.desc) = some 3 from by decide +kernel)⟩ ⟨Nat.le_of_ble_eq_true rfl, Nat.le_of_ble_eq_true rfl⟩ hl.1 rfl (Nat.le_of_ble_eq_true rfl) ⟨Nat.le_refl _, Nat.le_refl _⟩ dX4_object_25) ?_
      refine kif_ne (tgt := 34) hC.1 hC.2.1 dX4_object_28 (by decide) (fun c_28 => ?_) (fun c_28 => ?_)
      · have hw6 := kob.mp c_28
        refine lv_iload_n hC.1 hC.2.1 dX4_object_34 rfl (lv_at hl 3 rfl) ?_
        refine lv_iconst (v := 3) hC.1 hC.2.1 dX4_object_35 (by decide) ?_
        refine lv_icmp_le (tgt := 48) hC.1 hC.2.1 dX4_object_36 (by decide) (fun c_36 => ?_) (fun c_36 => ?_)
        · refine lv_iload_n hC.1 hC.2.1 dX4_object_48 rfl (lv_at hl 3 rfl) ?_
          refine lv_iconst (v := 4) hC.1 hC.2.1 dX4_object_49 (by decide) ?_
          refine lv_icmp_ge (tgt := 74) hC.1 hC.2.1 dX4_object_50 (by decide) (fun c_50 => ?_) (fun c_50 => ?_)
          · exact absurd (kle34.mp c_36) (kle43.mp c_50)
          · refine lv_iload_n hC.1 hC.2.1 dX4_object_53 rfl (lv_at hl 2 rfl) ?_
            refine lv_if_le (tgt := 74) hC.1 hC.2.1 dX4_object_54 (by decide) (fun c_54 => ?_) (fun c_54 => ?_)
            · have ho0 : o = 0 := kle0 c_13.1 c_54
              have hid : kHid T p o w := Or.inl ⟨kle34.mp c_36, Or.inl (by rw [ho0]; exact kO.z hIh)⟩
              refine lv_iload_n hC.1 hC.2.1 dX4_object_74 rfl (lv_at hl 3 rfl) ?_
              rcases ksw6 w with c_75 | c_75 | c_75 | c_75 | c_75 | c_75 | c_75
              · refine lv_tableIn (tgt := 112) (off := 37) hC.1 hC.2.1 dX4_object_75 (by rw [c_75]; decide) (by rw [c_75]; decide) (by rw [c_75]; rfl) (by decide) ?_
                refine lv_aload_n hC.1 hC.2.1 dX4_object_112 rfl (lv_at hl 0 rfl) ?_
                refine mg4 hC hK hW 20 (v := .ref (M 15)) rfl (by decide) rfl tf_X4_53 dX4_object_113 ?_
                refine lv_iload_n hC.1 hC.2.1 dX4_object_116 rfl (lv_at hl 2 rfl) ?_
                refine mab hC hK hW 15 (by decide) rfl (i := o) c_13.in dX4_object_117 ?_
                refine lv_if_eq (tgt := 125) hC.1 hC.2.1 dX4_object_118 (by decide) (fun c_118 => ?_) (fun c_118 => ?_)
                · refine lv_iconst (v := 0) hC.1 hC.2.1 dX4_object_125 (by decide) ?_
                  exact krS hC hr hlk (by rw [a_object, kif_t ⟨c_5, c_13⟩, kif_t hw6, kif_t hid]; simp (config := {decide := true}) only [kif_true, kif_false, kb, kup_eq, kup_f, kup_i, not_true_eq_false, not_false_eq_true, and_true, true_and, and_false, false_and, and_self, or_true, true_or, or_false, false_or, c_75, c_118]) dX4_object_126
                · refine lv_iconst (v := 1) hC.1 hC.2.1 dX4_object_121 (by decide) ?_
                  refine lv_goto (tgt := 126) hC.1 hC.2.1 dX4_object_122 (by decide) ?_
                  exact krS hC hr hlk (by rw [a_object, kif_t ⟨c_5, c_13⟩, kif_t hw6, kif_t hid]; simp (config := {decide := true}) only [kif_true, kif_false, kb, kup_eq, kup_f, kup_i, not_true_eq_false, not_false_eq_true, and_true, true_and, and_false, false_and, and_self, or_true, true_or, or_false, false_or, c_75, c_118]) dX4_object_126
              · refine lv_tableIn (tgt := 127) (off := 52) hC.1 hC.2.1 dX4_object_75 (by rw [c_75]; decide) (by rw [c_75]; decide) (by rw [c_75]; rfl) (by decide) ?_
                refine lv_aload_n hC.1 hC.2.1 dX4_object_127 rfl (lv_at hl 0 rfl) ?_
                refine mg4 hC hK hW 21 (v := .ref (M 16)) rfl (by decide) rfl tf_X4_56 dX4_object_128 ?_
                refine lv_iload_n hC.1 hC.2.1 dX4_object_131 rfl (lv_at hl 2 rfl) ?_
                refine mai hC hK hW 16 (by decide) rfl (i := o) c_13.in dX4_object_132 ?_
                exact krS hC hr hlk (by rw [a_object, kif_t ⟨c_5, c_13⟩, kif_t hw6, kif_t hid]; simp (config := {decide := true}) only [kif_true, kif_false, kb, kup_eq, kup_f, kup_i, not_true_eq_false, not_false_eq_true, and_true, true_and, and_false, false_and, and_self, or_true, true_or, or_false, false_or, c_75]) dX4_object_133
              · refine lv_tableIn (tgt := 134) (off := 59) hC.1 hC.2.1 dX4_object_75 (by rw [c_75]; decide) (by rw [c_75]; decide) (by rw [c_75]; rfl) (by decide) ?_
                refine lv_aload_n hC.1 hC.2.1 dX4_object_134 rfl (lv_at hl 0 rfl) ?_
                refine mg4 hC hK hW 22 (v := .ref (M 17)) rfl (by decide) rfl tf_X4_59 dX4_object_135 ?_
                refine lv_iload_n hC.1 hC.2.1 dX4_object_138 rfl (lv_at hl 2 rfl) ?_
                refine mai hC hK hW 17 (by decide) rfl (i := o) c_13.in dX4_object_139 ?_
                exact krS hC hr hlk (by rw [a_object, kif_t ⟨c_5, c_13⟩, kif_t hw6, kif_t hid]; simp (config := {decide := true}) only [kif_true, kif_false, kb, kup_eq, kup_f, kup_i, not_true_eq_false, not_false_eq_true, and_true, true_and, and_false, false_and, and_self, or_true, true_or, or_false, false_or, c_75]) dX4_object_140
              · refine lv_tableIn (tgt := 141) (off := 66) hC.1 hC.2.1 dX4_object_75 (by rw [c_75]; decide) (by rw [c_75]; decide) (by rw [c_75]; rfl) (by decide) ?_
                refine lv_aload_n hC.1 hC.2.1 dX4_object_141 rfl (lv_at hl 0 rfl) ?_
                refine mg4 hC hK hW 23 (v := .ref (M 18)) rfl (by decide) rfl tf_X4_62 dX4_object_142 ?_
                refine lv_iload_n hC.1 hC.2.1 dX4_object_145 rfl (lv_at hl 2 rfl) ?_
                refine mai hC hK hW 18 (by decide) rfl (i := o) c_13.in dX4_object_146 ?_
                exact krS hC hr hlk (by rw [a_object, kif_t ⟨c_5, c_13⟩, kif_t hw6, kif_t hid]; simp (config := {decide := true}) only [kif_true, kif_false, kb, kup_eq, kup_f, kup_i, not_true_eq_false, not_false_eq_true, and_true, true_and, and_false, false_and, and_self, or_true, true_or, or_false, false_or, c_75]) dX4_object_147
              · refine lv_tableIn (tgt := 148) (off := 73) hC.1 hC.2.1 dX4_object_75 (by rw [c_75]; decide) (by rw [c_75]; decide) (by rw [c_75]; rfl) (by decide) ?_
                refine lv_aload_n hC.1 hC.2.1 dX4_object_148 rfl (lv_at hl 0 rfl) ?_
                refine mg4 hC hK hW 20 (v := .ref (M 15)) rfl (by decide) rfl tf_X4_53 dX4_object_149 ?_
                refine lv_iload_n hC.1 hC.2.1 dX4_object_152 rfl (lv_at hl 2 rfl) ?_
                refine mab hC hK hW 15 (by decide) rfl (i := o) c_13.in dX4_object_153 ?_
                refine lv_if_eq (tgt := 161) hC.1 hC.2.1 dX4_object_154 (by decide) (fun c_154 => ?_) (fun c_154 => ?_)
                · refine lv_aload_n hC.1 hC.2.1 dX4_object_161 rfl (lv_at hl 0 rfl) ?_
                  refine mg4 hC hK hW 26 (v := .ref (M 21)) rfl (by decide) rfl tf_X4_71 dX4_object_162 ?_
                  refine lv_iload_n hC.1 hC.2.1 dX4_object_165 rfl (lv_at hl 2 rfl) ?_
                  refine mai hC hK hW 21 (by decide) rfl (i := o) c_13.in dX4_object_166 ?_
                  exact krS hC hr hlk (by rw [a_object, kif_t ⟨c_5, c_13⟩, kif_t hw6, kif_t hid]; simp (config := {decide := true}) only [kif_true, kif_false, kb, kup_eq, kup_f, kup_i, not_true_eq_false, not_false_eq_true, and_true, true_and, and_false, false_and, and_self, or_true, true_or, or_false, false_or, c_75, c_154]) dX4_object_167
                · refine lv_iconst (v := 0) hC.1 hC.2.1 dX4_object_157 (by decide) ?_
                  refine lv_goto (tgt := 167) hC.1 hC.2.1 dX4_object_158 (by decide) ?_
                  exact krS hC hr hlk (by rw [a_object, kif_t ⟨c_5, c_13⟩, kif_t hw6, kif_t hid]; simp (config := {decide := true}) only [kif_true, kif_false, kb, kup_eq, kup_f, kup_i, not_true_eq_false, not_false_eq_true, and_true, true_and, and_false, false_and, and_self, or_true, true_or, or_false, false_or, c_75]; exact ((hI5 (tn o)).2 c_154).symm) dX4_object_167
              · refine lv_tableIn (tgt := 168) (off := 93) hC.1 hC.2.1 dX4_object_75 (by rw [c_75]; decide) (by rw [c_75]; decide) (by rw [c_75]; rfl) (by decide) ?_
                refine lv_aload_n hC.1 hC.2.1 dX4_object_168 rfl (lv_at hl 0 rfl) ?_
                refine mg4 hC hK hW 20 (v := .ref (M 15)) rfl (by decide) rfl tf_X4_53 dX4_object_169 ?_
                refine lv_iload_n hC.1 hC.2.1 dX4_object_172 rfl (lv_at hl 2 rfl) ?_
                refine mab hC hK hW 15 (by decide) rfl (i := o) c_13.in dX4_object_173 ?_
                refine lv_if_eq (tgt := 185) hC.1 hC.2.1 dX4_object_174 (by decide) (fun c_174 => ?_) (fun c_174 => ?_)
                · refine lv_iconst (v := 0) hC.1 hC.2.1 dX4_object_185 (by decide) ?_
                  exact krS hC hr hlk (by rw [a_object, kif_t ⟨c_5, c_13⟩, kif_t hw6, kif_t hid]; simp (config := {decide := true}) only [kif_true, kif_false, kb, kup_eq, kup_f, kup_i, not_true_eq_false, not_false_eq_true, and_true, true_and, and_false, false_and, and_self, or_true, true_or, or_false, false_or, c_75]; exact (kif_f (fun z => z.2 c_174)).symm) dX4_object_186
                · refine lv_aload_n hC.1 hC.2.1 dX4_object_177 rfl (lv_at hl 0 rfl) ?_
                  refine lv_iload_n hC.1 hC.2.1 dX4_object_178 rfl (lv_at hl 2 rfl) ?_
                  refine keSi (rest := []) (mcV 0 hC hK hW (c_X4_blocksLeft l D G M hL T N r g o hI3 ⟨c_13, c_174⟩) (kgoodV tm_X4_191 ti_yX4_blocksLeft te_yX4_blocksLeft tz_X4 tc_yX4_blocksLeft) mw_m rfl ⟨rfl, by decide, by decide, (show Option.map _ (parseMethodDescriptor yX4_blocksLeft.desc) = some 1 from by decide +kernel)⟩ ⟨Nat.le_of_ble_eq_true rfl, Nat.le_of_ble_eq_true rfl⟩ hl.1 rfl (Nat.le_of_ble_eq_true rfl) ⟨Nat.le_refl _, Nat.le_refl _⟩ dX4_object_179) ?_
                  refine lv_goto (tgt := 186) hC.1 hC.2.1 dX4_object_182 (by decide) ?_
                  exact krS hC hr hlk (by rw [a_object, kif_t ⟨c_5, c_13⟩, kif_t hw6, kif_t hid]; simp (config := {decide := true}) only [kif_true, kif_false, kb, kup_eq, kup_f, kup_i, not_true_eq_false, not_false_eq_true, and_true, true_and, and_false, false_and, and_self, or_true, true_or, or_false, false_or, c_75]) dX4_object_186
              · refine lv_tableOut (tgt := 187) hC.1 hC.2.1 dX4_object_75 c_75.1 (by decide) ?_
                refine lv_aload_n hC.1 hC.2.1 dX4_object_187 rfl (lv_at hl 0 rfl) ?_
                refine mg4 hC hK hW 20 (v := .ref (M 15)) rfl (by decide) rfl tf_X4_53 dX4_object_188 ?_
                refine lv_iload_n hC.1 hC.2.1 dX4_object_191 rfl (lv_at hl 2 rfl) ?_
                refine mab hC hK hW 15 (by decide) rfl (i := o) c_13.in dX4_object_192 ?_
                refine lv_if_eq (tgt := 204) hC.1 hC.2.1 dX4_object_193 (by decide) (fun c_193 => ?_) (fun c_193 => ?_)
                · refine lv_iconst (v := 0) hC.1 hC.2.1 dX4_object_204 (by decide) ?_
                  exact krS hC hr hlk (by rw [a_object, kif_t ⟨c_5, c_13⟩, kif_t hw6, kif_t hid]; simp (config := {decide := true}) only [kif_true, kif_false, kb, kup_eq, kup_f, kup_i, not_true_eq_false, not_false_eq_true, and_true, true_and, and_false, false_and, and_self, or_true, true_or, or_false, false_or, c_75.2.1, c_75.2.2.1, c_75.2.2.2.1, c_75.2.2.2.2.1, c_75.2.2.2.2.2.1, c_75.2.2.2.2.2.2]; exact (kif_f (fun z => z.2 c_193)).symm) dX4_object_205
                · refine lv_aload_n hC.1 hC.2.1 dX4_object_196 rfl (lv_at hl 0 rfl) ?_
                  refine lv_iload_n hC.1 hC.2.1 dX4_object_197 rfl (lv_at hl 2 rfl) ?_
                  refine keSi (rest := []) (mcV 0 hC hK hW (c_X4_objectsLeft l D G M hL T N r g o hI3 hI5 ⟨c_13, c_193⟩) (kgoodV tm_X4_194 ti_yX4_objectsLeft te_yX4_objectsLeft tz_X4 tc_yX4_objectsLeft) mw_m rfl ⟨rfl, by decide, by decide, (show Option.map _ (parseMethodDescriptor yX4_objectsLeft.desc) = some 1 from by decide +kernel)⟩ ⟨Nat.le_of_ble_eq_true rfl, Nat.le_of_ble_eq_true rfl⟩ hl.1 rfl (Nat.le_of_ble_eq_true rfl) ⟨Nat.le_refl _, Nat.le_refl _⟩ dX4_object_198) ?_
                  refine lv_goto (tgt := 205) hC.1 hC.2.1 dX4_object_201 (by decide) ?_
                  exact krS hC hr hlk (by rw [a_object, kif_t ⟨c_5, c_13⟩, kif_t hw6, kif_t hid]; simp (config := {decide := true}) only [kif_true, kif_false, kb, kup_eq, kup_f, kup_i, not_true_eq_false, not_false_eq_true, and_true, true_and, and_false, false_and, and_self, or_true, true_or, or_false, false_or, c_75.2.1, c_75.2.2.1, c_75.2.2.2.1, c_75.2.2.2.2.1, c_75.2.2.2.2.2.1, c_75.2.2.2.2.2.2]) dX4_object_205
            · have hh := (kO.n0 hIh c_13 c_54).1.1.in
              refine lv_aload_n hC.1 hC.2.1 dX4_object_57 rfl (lv_at hl 0 rfl) ?_
              refine lv_iload_n hC.1 hC.2.1 dX4_object_58 rfl (lv_at hl 1 rfl) ?_
              refine lv_aload_n hC.1 hC.2.1 dX4_object_59 rfl (lv_at hl 0 rfl) ?_
              refine mg4 hC hK hW 23 (v := .ref (M 18)) rfl (by decide) rfl tf_X4_62 dX4_object_60 ?_
              refine lv_iload_n hC.1 hC.2.1 dX4_object_63 rfl (lv_at hl 2 rfl) ?_
              refine mai hC hK hW 18 (by decide) rfl (i := o) c_13.in dX4_object_64 ?_
              refine keSi (rest := []) (mcV 0 hC hK hW (c_X4_canRead l D G M hL T N r g p (T 20 (tn o)) c_5.in hh) (kgoodV tm_X4_165 ti_yX4_canRead te_yX4_canRead tz_X4 tc_yX4_canRead) mw_m rfl ⟨rfl, by decide, by decide, (show Option.map _ (parseMethodDescriptor yX4_canRead.desc) = some 2 from by decide +kernel)⟩ ⟨Nat.le_of_ble_eq_true rfl, Nat.le_of_ble_eq_true rfl⟩ hl.1 rfl (Nat.le_of_ble_eq_true rfl) ⟨Nat.le_refl _, Nat.le_refl _⟩ dX4_object_65) ?_
              refine kif_ne (tgt := 74) hC.1 hC.2.1 dX4_object_68 (by decide) (fun c_68 => ?_) (fun c_68 => ?_)
              · have hid : kHid T p o w := Or.inl ⟨kle34.mp c_36, Or.inr c_68⟩
                refine lv_iload_n hC.1 hC.2.1 dX4_object_74 rfl (lv_at hl 3 rfl) ?_
                rcases ksw6 w with c_75 | c_75 | c_75 | c_75 | c_75 | c_75 | c_75
                · refine lv_tableIn (tgt := 112) (off := 37) hC.1 hC.2.1 dX4_object_75 (by rw [c_75]; decide) (by rw [c_75]; decide) (by rw [c_75]; rfl) (by decide) ?_
                  refine lv_aload_n hC.1 hC.2.1 dX4_object_112 rfl (lv_at hl 0 rfl) ?_
                  refine mg4 hC hK hW 20 (v := .ref (M 15)) rfl (by decide) rfl tf_X4_53 dX4_object_113 ?_
                  refine lv_iload_n hC.1 hC.2.1 dX4_object_116 rfl (lv_at hl 2 rfl) ?_
                  refine mab hC hK hW 15 (by decide) rfl (i := o) c_13.in dX4_object_117 ?_
                  refine lv_if_eq (tgt := 125) hC.1 hC.2.1 dX4_object_118 (by decide) (fun c_118 => ?_) (fun c_118 => ?_)
                  · refine lv_iconst (v := 0) hC.1 hC.2.1 dX4_object_125 (by decide) ?_
                    exact krS hC hr hlk (by rw [a_object, kif_t ⟨c_5, c_13⟩, kif_t hw6, kif_t hid]; simp (config := {decide := true}) only [kif_true, kif_false, kb, kup_eq, kup_f, kup_i, not_true_eq_false, not_false_eq_true, and_true, true_and, and_false, false_and, and_self, or_true, true_or, or_false, false_or, c_75, c_118]) dX4_object_126
                  · refine lv_iconst (v := 1) hC.1 hC.2.1 dX4_object_121 (by decide) ?_
                    refine lv_goto (tgt := 126) hC.1 hC.2.1 dX4_object_122 (by decide) ?_
                    exact krS hC hr hlk (by rw [a_object, kif_t ⟨c_5, c_13⟩, kif_t hw6, kif_t hid]; simp (config := {decide := true}) only [kif_true, kif_false, kb, kup_eq, kup_f, kup_i, not_true_eq_false, not_false_eq_true, and_true, true_and, and_false, false_and, and_self, or_true, true_or, or_false, false_or, c_75, c_118]) dX4_object_126
                · refine lv_tableIn (tgt := 127) (off := 52) hC.1 hC.2.1 dX4_object_75 (by rw [c_75]; decide) (by rw [c_75]; decide) (by rw [c_75]; rfl) (by decide) ?_
                  refine lv_aload_n hC.1 hC.2.1 dX4_object_127 rfl (lv_at hl 0 rfl) ?_
                  refine mg4 hC hK hW 21 (v := .ref (M 16)) rfl (by decide) rfl tf_X4_56 dX4_object_128 ?_
                  refine lv_iload_n hC.1 hC.2.1 dX4_object_131 rfl (lv_at hl 2 rfl) ?_
                  refine mai hC hK hW 16 (by decide) rfl (i := o) c_13.in dX4_object_132 ?_
                  exact krS hC hr hlk (by rw [a_object, kif_t ⟨c_5, c_13⟩, kif_t hw6, kif_t hid]; simp (config := {decide := true}) only [kif_true, kif_false, kb, kup_eq, kup_f, kup_i, not_true_eq_false, not_false_eq_true, and_true, true_and, and_false, false_and, and_self, or_true, true_or, or_false, false_or, c_75]) dX4_object_133
                · refine lv_tableIn (tgt := 134) (off := 59) hC.1 hC.2.1 dX4_object_75 (by rw [c_75]; decide) (by rw [c_75]; decide) (by rw [c_75]; rfl) (by decide) ?_
                  refine lv_aload_n hC.1 hC.2.1 dX4_object_134 rfl (lv_at hl 0 rfl) ?_
                  refine mg4 hC hK hW 22 (v := .ref (M 17)) rfl (by decide) rfl tf_X4_59 dX4_object_135 ?_
                  refine lv_iload_n hC.1 hC.2.1 dX4_object_138 rfl (lv_at hl 2 rfl) ?_
                  refine mai hC hK hW 17 (by decide) rfl (i := o) c_13.in dX4_object_139 ?_
                  exact krS hC hr hlk (by rw [a_object, kif_t ⟨c_5, c_13⟩, kif_t hw6, kif_t hid]; simp (config := {decide := true}) only [kif_true, kif_false, kb, kup_eq, kup_f, kup_i, not_true_eq_false, not_false_eq_true, and_true, true_and, and_false, false_and, and_self, or_true, true_or, or_false, false_or, c_75]) dX4_object_140
                · refine lv_tableIn (tgt := 141) (off := 66) hC.1 hC.2.1 dX4_object_75 (by rw [c_75]; decide) (by rw [c_75]; decide) (by rw [c_75]; rfl) (by decide) ?_
                  refine lv_aload_n hC.1 hC.2.1 dX4_object_141 rfl (lv_at hl 0 rfl) ?_
                  refine mg4 hC hK hW 23 (v := .ref (M 18)) rfl (by decide) rfl tf_X4_62 dX4_object_142 ?_
                  refine lv_iload_n hC.1 hC.2.1 dX4_object_145 rfl (lv_at hl 2 rfl) ?_
                  refine mai hC hK hW 18 (by decide) rfl (i := o) c_13.in dX4_object_146 ?_
                  exact krS hC hr hlk (by rw [a_object, kif_t ⟨c_5, c_13⟩, kif_t hw6, kif_t hid]; simp (config := {decide := true}) only [kif_true, kif_false, kb, kup_eq, kup_f, kup_i, not_true_eq_false, not_false_eq_true, and_true, true_and, and_false, false_and, and_self, or_true, true_or, or_false, false_or, c_75]) dX4_object_147
                · refine lv_tableIn (tgt := 148) (off := 73) hC.1 hC.2.1 dX4_object_75 (by rw [c_75]; decide) (by rw [c_75]; decide) (by rw [c_75]; rfl) (by decide) ?_
                  refine lv_aload_n hC.1 hC.2.1 dX4_object_148 rfl (lv_at hl 0 rfl) ?_
                  refine mg4 hC hK hW 20 (v := .ref (M 15)) rfl (by decide) rfl tf_X4_53 dX4_object_149 ?_
                  refine lv_iload_n hC.1 hC.2.1 dX4_object_152 rfl (lv_at hl 2 rfl) ?_
                  refine mab hC hK hW 15 (by decide) rfl (i := o) c_13.in dX4_object_153 ?_
                  refine lv_if_eq (tgt := 161) hC.1 hC.2.1 dX4_object_154 (by decide) (fun c_154 => ?_) (fun c_154 => ?_)
                  · refine lv_aload_n hC.1 hC.2.1 dX4_object_161 rfl (lv_at hl 0 rfl) ?_
                    refine mg4 hC hK hW 26 (v := .ref (M 21)) rfl (by decide) rfl tf_X4_71 dX4_object_162 ?_
                    refine lv_iload_n hC.1 hC.2.1 dX4_object_165 rfl (lv_at hl 2 rfl) ?_
                    refine mai hC hK hW 21 (by decide) rfl (i := o) c_13.in dX4_object_166 ?_
                    exact krS hC hr hlk (by rw [a_object, kif_t ⟨c_5, c_13⟩, kif_t hw6, kif_t hid]; simp (config := {decide := true}) only [kif_true, kif_false, kb, kup_eq, kup_f, kup_i, not_true_eq_false, not_false_eq_true, and_true, true_and, and_false, false_and, and_self, or_true, true_or, or_false, false_or, c_75, c_154]) dX4_object_167
                  · refine lv_iconst (v := 0) hC.1 hC.2.1 dX4_object_157 (by decide) ?_
                    refine lv_goto (tgt := 167) hC.1 hC.2.1 dX4_object_158 (by decide) ?_
                    exact krS hC hr hlk (by rw [a_object, kif_t ⟨c_5, c_13⟩, kif_t hw6, kif_t hid]; simp (config := {decide := true}) only [kif_true, kif_false, kb, kup_eq, kup_f, kup_i, not_true_eq_false, not_false_eq_true, and_true, true_and, and_false, false_and, and_self, or_true, true_or, or_false, false_or, c_75]; exact ((hI5 (tn o)).2 c_154).symm) dX4_object_167
                · refine lv_tableIn (tgt := 168) (off := 93) hC.1 hC.2.1 dX4_object_75 (by rw [c_75]; decide) (by rw [c_75]; decide) (by rw [c_75]; rfl) (by decide) ?_
                  refine lv_aload_n hC.1 hC.2.1 dX4_object_168 rfl (lv_at hl 0 rfl) ?_
                  refine mg4 hC hK hW 20 (v := .ref (M 15)) rfl (by decide) rfl tf_X4_53 dX4_object_169 ?_
                  refine lv_iload_n hC.1 hC.2.1 dX4_object_172 rfl (lv_at hl 2 rfl) ?_
                  refine mab hC hK hW 15 (by decide) rfl (i := o) c_13.in dX4_object_173 ?_
                  refine lv_if_eq (tgt := 185) hC.1 hC.2.1 dX4_object_174 (by decide) (fun c_174 => ?_) (fun c_174 => ?_)
                  · refine lv_iconst (v := 0) hC.1 hC.2.1 dX4_object_185 (by decide) ?_
                    exact krS hC hr hlk (by rw [a_object, kif_t ⟨c_5, c_13⟩, kif_t hw6, kif_t hid]; simp (config := {decide := true}) only [kif_true, kif_false, kb, kup_eq, kup_f, kup_i, not_true_eq_false, not_false_eq_true, and_true, true_and, and_false, false_and, and_self, or_true, true_or, or_false, false_or, c_75]; exact (kif_f (fun z => z.2 c_174)).symm) dX4_object_186
                  · refine lv_aload_n hC.1 hC.2.1 dX4_object_177 rfl (lv_at hl 0 rfl) ?_
                    refine lv_iload_n hC.1 hC.2.1 dX4_object_178 rfl (lv_at hl 2 rfl) ?_
                    refine keSi (rest := []) (mcV 0 hC hK hW (c_X4_blocksLeft l D G M hL T N r g o hI3 ⟨c_13, c_174⟩) (kgoodV tm_X4_191 ti_yX4_blocksLeft te_yX4_blocksLeft tz_X4 tc_yX4_blocksLeft) mw_m rfl ⟨rfl, by decide, by decide, (show Option.map _ (parseMethodDescriptor yX4_blocksLeft.desc) = some 1 from by decide +kernel)⟩ ⟨Nat.le_of_ble_eq_true rfl, Nat.le_of_ble_eq_true rfl⟩ hl.1 rfl (Nat.le_of_ble_eq_true rfl) ⟨Nat.le_refl _, Nat.le_refl _⟩ dX4_object_179) ?_
                    refine lv_goto (tgt := 186) hC.1 hC.2.1 dX4_object_182 (by decide) ?_
                    exact krS hC hr hlk (by rw [a_object, kif_t ⟨c_5, c_13⟩, kif_t hw6, kif_t hid]; simp (config := {decide := true}) only [kif_true, kif_false, kb, kup_eq, kup_f, kup_i, not_true_eq_false, not_false_eq_true, and_true, true_and, and_false, false_and, and_self, or_true, true_or, or_false, false_or, c_75]) dX4_object_186
                · refine lv_tableOut (tgt := 187) hC.1 hC.2.1 dX4_object_75 c_75.1 (by decide) ?_
                  refine lv_aload_n hC.1 hC.2.1 dX4_object_187 rfl (lv_at hl 0 rfl) ?_
                  refine mg4 hC hK hW 20 (v := .ref (M 15)) rfl (by decide) rfl tf_X4_53 dX4_object_188 ?_
                  refine lv_iload_n hC.1 hC.2.1 dX4_object_191 rfl (lv_at hl 2 rfl) ?_
                  refine mab hC hK hW 15 (by decide) rfl (i := o) c_13.in dX4_object_192 ?_
                  refine lv_if_eq (tgt := 204) hC.1 hC.2.1 dX4_object_193 (by decide) (fun c_193 => ?_) (fun c_193 => ?_)
                  · refine lv_iconst (v := 0) hC.1 hC.2.1 dX4_object_204 (by decide) ?_
                    exact krS hC hr hlk (by rw [a_object, kif_t ⟨c_5, c_13⟩, kif_t hw6, kif_t hid]; simp (config := {decide := true}) only [kif_true, kif_false, kb, kup_eq, kup_f, kup_i, not_true_eq_false, not_false_eq_true, and_true, true_and, and_false, false_and, and_self, or_true, true_or, or_false, false_or, c_75.2.1, c_75.2.2.1, c_75.2.2.2.1, c_75.2.2.2.2.1, c_75.2.2.2.2.2.1, c_75.2.2.2.2.2.2]; exact (kif_f (fun z => z.2 c_193)).symm) dX4_object_205
                  · refine lv_aload_n hC.1 hC.2.1 dX4_object_196 rfl (lv_at hl 0 rfl) ?_
                    refine lv_iload_n hC.1 hC.2.1 dX4_object_197 rfl (lv_at hl 2 rfl) ?_
                    refine keSi (rest := []) (mcV 0 hC hK hW (c_X4_objectsLeft l D G M hL T N r g o hI3 hI5 ⟨c_13, c_193⟩) (kgoodV tm_X4_194 ti_yX4_objectsLeft te_yX4_objectsLeft tz_X4 tc_yX4_objectsLeft) mw_m rfl ⟨rfl, by decide, by decide, (show Option.map _ (parseMethodDescriptor yX4_objectsLeft.desc) = some 1 from by decide +kernel)⟩ ⟨Nat.le_of_ble_eq_true rfl, Nat.le_of_ble_eq_true rfl⟩ hl.1 rfl (Nat.le_of_ble_eq_true rfl) ⟨Nat.le_refl _, Nat.le_refl _⟩ dX4_object_198) ?_
                    refine lv_goto (tgt := 205) hC.1 hC.2.1 dX4_object_201 (by decide) ?_
                    exact krS hC hr hlk (by rw [a_object, kif_t ⟨c_5, c_13⟩, kif_t hw6, kif_t hid]; simp (config := {decide := true}) only [kif_true, kif_false, kb, kup_eq, kup_f, kup_i, not_true_eq_false, not_false_eq_true, and_true, true_and, and_false, false_and, and_self, or_true, true_or, or_false, false_or, c_75.2.1, c_75.2.2.1, c_75.2.2.2.1, c_75.2.2.2.2.1, c_75.2.2.2.2.2.1, c_75.2.2.2.2.2.2]) dX4_object_205
              · have hid : ¬ kHid T p o w := fun z => z.elim (fun q => q.2.elim (fun y => y (kO.n0 hIh c_13 c_54).1.1) c_68) (fun q => q.1 (kle34.mp c_36))
                refine lv_ldc hC.1 hC.2.1 hC.2.2.2.1 (hC.2.2.2.2 _ (kt_in tk_X4_135 rfl)) dX4_object_71 ?_
                exact krS hC hr hlk (by rw [a_object, kif_t ⟨c_5, c_13⟩, kif_t hw6, kif_f hid]) dX4_object_73
        · refine lv_aload_n hC.1 hC.2.1 dX4_object_39 rfl (lv_at hl 0 rfl) ?_
          refine lv_iload_n hC.1 hC.2.1 dX4_object_40 rfl (lv_at hl 1 rfl) ?_
          refine lv_iload_n hC.1 hC.2.1 dX4_object_41 rfl (lv_at hl 2 rfl) ?_
          refine keSi (rest := []) (mcV 0 hC hK hW (c_X4_canRead l D G M hL T N r g p o c_5.in c_13.in) (kgoodV tm_X4_165 ti_yX4_canRead te_yX4_canRead tz_X4 tc_yX4_canRead) mw_m rfl ⟨rfl, by decide, by decide, (show Option.map _ (parseMethodDescriptor yX4_canRead.desc) = some 2 from by decide +kernel)⟩ ⟨Nat.le_of_ble_eq_true rfl, Nat.le_of_ble_eq_true rfl⟩ hl.1 rfl (Nat.le_of_ble_eq_true rfl) ⟨Nat.le_refl _, Nat.le_refl _⟩ dX4_object_42) ?_
          refine kif_eq (tgt := 71) hC.1 hC.2.1 dX4_object_45 (by decide) (fun c_45 => ?_) (fun c_45 => ?_)
          · have hid : ¬ kHid T p o w := fun z => z.elim (fun q => c_36 (kle34.mpr q.1)) (fun q => c_45 q.2)
            refine lv_ldc hC.1 hC.2.1 hC.2.2.2.1 (hC.2.2.2.2 _ (kt_in tk_X4_135 rfl)) dX4_object_71 ?_
            exact krS hC hr hlk (by rw [a_object, kif_t ⟨c_5, c_13⟩, kif_t hw6, kif_f hid]) dX4_object_73
          · refine lv_iload_n hC.1 hC.2.1 dX4_object_48 rfl (lv_at hl 3 rfl) ?_
            refine lv_iconst (v := 4) hC.1 hC.2.1 dX4_object_49 (by decide) ?_
            refine lv_icmp_ge (tgt := 74) hC.1 hC.2.1 dX4_object_50 (by decide) (fun c_50 => ?_) (fun c_50 => ?_)
            · have hid : kHid T p o w := kHid_a c_36 c_45
              refine lv_iload_n hC.1 hC.2.1 dX4_object_74 rfl (lv_at hl 3 rfl) ?_
              rcases ksw6 w with c_75 | c_75 | c_75 | c_75 | c_75 | c_75 | c_75
              · refine lv_tableIn (tgt := 112) (off := 37) hC.1 hC.2.1 dX4_object_75 (by rw [c_75]; decide) (by rw [c_75]; decide) (by rw [c_75]; rfl) (by decide) ?_
                refine lv_aload_n hC.1 hC.2.1 dX4_object_112 rfl (lv_at hl 0 rfl) ?_
                refine mg4 hC hK hW 20 (v := .ref (M 15)) rfl (by decide) rfl tf_X4_53 dX4_object_113 ?_
                refine lv_iload_n hC.1 hC.2.1 dX4_object_116 rfl (lv_at hl 2 rfl) ?_
                refine mab hC hK hW 15 (by decide) rfl (i := o) c_13.in dX4_object_117 ?_
                refine lv_if_eq (tgt := 125) hC.1 hC.2.1 dX4_object_118 (by decide) (fun c_118 => ?_) (fun c_118 => ?_)
                · refine lv_iconst (v := 0) hC.1 hC.2.1 dX4_object_125 (by decide) ?_
                  exact krS hC hr hlk (by rw [a_object, kif_t ⟨c_5, c_13⟩, kif_t hw6, kif_t hid]; simp (config := {decide := true}) only [kif_true, kif_false, kb, kup_eq, kup_f, kup_i, not_true_eq_false, not_false_eq_true, and_true, true_and, and_false, false_and, and_self, or_true, true_or, or_false, false_or, c_75, c_118]) dX4_object_126
                · refine lv_iconst (v := 1) hC.1 hC.2.1 dX4_object_121 (by decide) ?_
                  refine lv_goto (tgt := 126) hC.1 hC.2.1 dX4_object_122 (by decide) ?_
                  exact krS hC hr hlk (by rw [a_object, kif_t ⟨c_5, c_13⟩, kif_t hw6, kif_t hid]; simp (config := {decide := true}) only [kif_true, kif_false, kb, kup_eq, kup_f, kup_i, not_true_eq_false, not_false_eq_true, and_true, true_and, and_false, false_and, and_self, or_true, true_or, or_false, false_or, c_75, c_118]) dX4_object_126
              · refine lv_tableIn (tgt := 127) (off := 52) hC.1 hC.2.1 dX4_object_75 (by rw [c_75]; decide) (by rw [c_75]; decide) (by rw [c_75]; rfl) (by decide) ?_
                refine lv_aload_n hC.1 hC.2.1 dX4_object_127 rfl (lv_at hl 0 rfl) ?_
                refine mg4 hC hK hW 21 (v := .ref (M 16)) rfl (by decide) rfl tf_X4_56 dX4_object_128 ?_
                refine lv_iload_n hC.1 hC.2.1 dX4_object_131 rfl (lv_at hl 2 rfl) ?_
                refine mai hC hK hW 16 (by decide) rfl (i := o) c_13.in dX4_object_132 ?_
                exact krS hC hr hlk (by rw [a_object, kif_t ⟨c_5, c_13⟩, kif_t hw6, kif_t hid]; simp (config := {decide := true}) only [kif_true, kif_false, kb, kup_eq, kup_f, kup_i, not_true_eq_false, not_false_eq_true, and_true, true_and, and_false, false_and, and_self, or_true, true_or, or_false, false_or, c_75]) dX4_object_133
              · refine lv_tableIn (tgt := 134) (off := 59) hC.1 hC.2.1 dX4_object_75 (by rw [c_75]; decide) (by rw [c_75]; decide) (by rw [c_75]; rfl) (by decide) ?_
                refine lv_aload_n hC.1 hC.2.1 dX4_object_134 rfl (lv_at hl 0 rfl) ?_
                refine mg4 hC hK hW 22 (v := .ref (M 17)) rfl (by decide) rfl tf_X4_59 dX4_object_135 ?_
                refine lv_iload_n hC.1 hC.2.1 dX4_object_138 rfl (lv_at hl 2 rfl) ?_
                refine mai hC hK hW 17 (by decide) rfl (i := o) c_13.in dX4_object_139 ?_
                exact krS hC hr hlk (by rw [a_object, kif_t ⟨c_5, c_13⟩, kif_t hw6, kif_t hid]; simp (config := {decide := true}) only [kif_true, kif_false, kb, kup_eq, kup_f, kup_i, not_true_eq_false, not_false_eq_true, and_true, true_and, and_false, false_and, and_self, or_true, true_or, or_false, false_or, c_75]) dX4_object_140
              · refine lv_tableIn (tgt := 141) (off := 66) hC.1 hC.2.1 dX4_object_75 (by rw [c_75]; decide) (by rw [c_75]; decide) (by rw [c_75]; rfl) (by decide) ?_
                refine lv_aload_n hC.1 hC.2.1 dX4_object_141 rfl (lv_at hl 0 rfl) ?_
                refine mg4 hC hK hW 23 (v := .ref (M 18)) rfl (by decide) rfl tf_X4_62 dX4_object_142 ?_
                refine lv_iload_n hC.1 hC.2.1 dX4_object_145 rfl (lv_at hl 2 rfl) ?_
                refine mai hC hK hW 18 (by decide) rfl (i := o) c_13.in dX4_object_146 ?_
                exact krS hC hr hlk (by rw [a_object, kif_t ⟨c_5, c_13⟩, kif_t hw6, kif_t hid]; simp (config := {decide := true}) only [kif_true, kif_false, kb, kup_eq, kup_f, kup_i, not_true_eq_false, not_false_eq_true, and_true, true_and, and_false, false_and, and_self, or_true, true_or, or_false, false_or, c_75]) dX4_object_147
              · refine lv_tableIn (tgt := 148) (off := 73) hC.1 hC.2.1 dX4_object_75 (by rw [c_75]; decide) (by rw [c_75]; decide) (by rw [c_75]; rfl) (by decide) ?_
                refine lv_aload_n hC.1 hC.2.1 dX4_object_148 rfl (lv_at hl 0 rfl) ?_
                refine mg4 hC hK hW 20 (v := .ref (M 15)) rfl (by decide) rfl tf_X4_53 dX4_object_149 ?_
                refine lv_iload_n hC.1 hC.2.1 dX4_object_152 rfl (lv_at hl 2 rfl) ?_
                refine mab hC hK hW 15 (by decide) rfl (i := o) c_13.in dX4_object_153 ?_
                refine lv_if_eq (tgt := 161) hC.1 hC.2.1 dX4_object_154 (by decide) (fun c_154 => ?_) (fun c_154 => ?_)
                · refine lv_aload_n hC.1 hC.2.1 dX4_object_161 rfl (lv_at hl 0 rfl) ?_
                  refine mg4 hC hK hW 26 (v := .ref (M 21)) rfl (by decide) rfl tf_X4_71 dX4_object_162 ?_
                  refine lv_iload_n hC.1 hC.2.1 dX4_object_165 rfl (lv_at hl 2 rfl) ?_
                  refine mai hC hK hW 21 (by decide) rfl (i := o) c_13.in dX4_object_166 ?_
                  exact krS hC hr hlk (by rw [a_object, kif_t ⟨c_5, c_13⟩, kif_t hw6, kif_t hid]; simp (config := {decide := true}) only [kif_true, kif_false, kb, kup_eq, kup_f, kup_i, not_true_eq_false, not_false_eq_true, and_true, true_and, and_false, false_and, and_self, or_true, true_or, or_false, false_or, c_75, c_154]) dX4_object_167
                · refine lv_iconst (v := 0) hC.1 hC.2.1 dX4_object_157 (by decide) ?_
                  refine lv_goto (tgt := 167) hC.1 hC.2.1 dX4_object_158 (by decide) ?_
                  exact krS hC hr hlk (by rw [a_object, kif_t ⟨c_5, c_13⟩, kif_t hw6, kif_t hid]; simp (config := {decide := true}) only [kif_true, kif_false, kb, kup_eq, kup_f, kup_i, not_true_eq_false, not_false_eq_true, and_true, true_and, and_false, false_and, and_self, or_true, true_or, or_false, false_or, c_75]; exact ((hI5 (tn o)).2 c_154).symm) dX4_object_167
              · refine lv_tableIn (tgt := 168) (off := 93) hC.1 hC.2.1 dX4_object_75 (by rw [c_75]; decide) (by rw [c_75]; decide) (by rw [c_75]; rfl) (by decide) ?_
                refine lv_aload_n hC.1 hC.2.1 dX4_object_168 rfl (lv_at hl 0 rfl) ?_
                refine mg4 hC hK hW 20 (v := .ref (M 15)) rfl (by decide) rfl tf_X4_53 dX4_object_169 ?_
                refine lv_iload_n hC.1 hC.2.1 dX4_object_172 rfl (lv_at hl 2 rfl) ?_
                refine mab hC hK hW 15 (by decide) rfl (i := o) c_13.in dX4_object_173 ?_
                refine lv_if_eq (tgt := 185) hC.1 hC.2.1 dX4_object_174 (by decide) (fun c_174 => ?_) (fun c_174 => ?_)
                · refine lv_iconst (v := 0) hC.1 hC.2.1 dX4_object_185 (by decide) ?_
                  exact krS hC hr hlk (by rw [a_object, kif_t ⟨c_5, c_13⟩, kif_t hw6, kif_t hid]; simp (config := {decide := true}) only [kif_true, kif_false, kb, kup_eq, kup_f, kup_i, not_true_eq_false, not_false_eq_true, and_true, true_and, and_false, false_and, and_self, or_true, true_or, or_false, false_or, c_75]; exact (kif_f (fun z => z.2 c_174)).symm) dX4_object_186
                · refine lv_aload_n hC.1 hC.2.1 dX4_object_177 rfl (lv_at hl 0 rfl) ?_
                  refine lv_iload_n hC.1 hC.2.1 dX4_object_178 rfl (lv_at hl 2 rfl) ?_
                  refine keSi (rest := []) (mcV 0 hC hK hW (c_X4_blocksLeft l D G M hL T N r g o hI3 ⟨c_13, c_174⟩) (kgoodV tm_X4_191 ti_yX4_blocksLeft te_yX4_blocksLeft tz_X4 tc_yX4_blocksLeft) mw_m rfl ⟨rfl, by decide, by decide, (show Option.map _ (parseMethodDescriptor yX4_blocksLeft.desc) = some 1 from by decide +kernel)⟩ ⟨Nat.le_of_ble_eq_true rfl, Nat.le_of_ble_eq_true rfl⟩ hl.1 rfl (Nat.le_of_ble_eq_true rfl) ⟨Nat.le_refl _, Nat.le_refl _⟩ dX4_object_179) ?_
                  refine lv_goto (tgt := 186) hC.1 hC.2.1 dX4_object_182 (by decide) ?_
                  exact krS hC hr hlk (by rw [a_object, kif_t ⟨c_5, c_13⟩, kif_t hw6, kif_t hid]; simp (config := {decide := true}) only [kif_true, kif_false, kb, kup_eq, kup_f, kup_i, not_true_eq_false, not_false_eq_true, and_true, true_and, and_false, false_and, and_self, or_true, true_or, or_false, false_or, c_75]) dX4_object_186
              · refine lv_tableOut (tgt := 187) hC.1 hC.2.1 dX4_object_75 c_75.1 (by decide) ?_
                refine lv_aload_n hC.1 hC.2.1 dX4_object_187 rfl (lv_at hl 0 rfl) ?_
                refine mg4 hC hK hW 20 (v := .ref (M 15)) rfl (by decide) rfl tf_X4_53 dX4_object_188 ?_
                refine lv_iload_n hC.1 hC.2.1 dX4_object_191 rfl (lv_at hl 2 rfl) ?_
                refine mab hC hK hW 15 (by decide) rfl (i := o) c_13.in dX4_object_192 ?_
                refine lv_if_eq (tgt := 204) hC.1 hC.2.1 dX4_object_193 (by decide) (fun c_193 => ?_) (fun c_193 => ?_)
                · refine lv_iconst (v := 0) hC.1 hC.2.1 dX4_object_204 (by decide) ?_
                  exact krS hC hr hlk (by rw [a_object, kif_t ⟨c_5, c_13⟩, kif_t hw6, kif_t hid]; simp (config := {decide := true}) only [kif_true, kif_false, kb, kup_eq, kup_f, kup_i, not_true_eq_false, not_false_eq_true, and_true, true_and, and_false, false_and, and_self, or_true, true_or, or_false, false_or, c_75.2.1, c_75.2.2.1, c_75.2.2.2.1, c_75.2.2.2.2.1, c_75.2.2.2.2.2.1, c_75.2.2.2.2.2.2]; exact (kif_f (fun z => z.2 c_193)).symm) dX4_object_205
                · refine lv_aload_n hC.1 hC.2.1 dX4_object_196 rfl (lv_at hl 0 rfl) ?_
                  refine lv_iload_n hC.1 hC.2.1 dX4_object_197 rfl (lv_at hl 2 rfl) ?_
                  refine keSi (rest := []) (mcV 0 hC hK hW (c_X4_objectsLeft l D G M hL T N r g o hI3 hI5 ⟨c_13, c_193⟩) (kgoodV tm_X4_194 ti_yX4_objectsLeft te_yX4_objectsLeft tz_X4 tc_yX4_objectsLeft) mw_m rfl ⟨rfl, by decide, by decide, (show Option.map _ (parseMethodDescriptor yX4_objectsLeft.desc) = some 1 from by decide +kernel)⟩ ⟨Nat.le_of_ble_eq_true rfl, Nat.le_of_ble_eq_true rfl⟩ hl.1 rfl (Nat.le_of_ble_eq_true rfl) ⟨Nat.le_refl _, Nat.le_refl _⟩ dX4_object_198) ?_
                  refine lv_goto (tgt := 205) hC.1 hC.2.1 dX4_object_201 (by decide) ?_
                  exact krS hC hr hlk (by rw [a_object, kif_t ⟨c_5, c_13⟩, kif_t hw6, kif_t hid]; simp (config := {decide := true}) only [kif_true, kif_false, kb, kup_eq, kup_f, kup_i, not_true_eq_false, not_false_eq_true, and_true, true_and, and_false, false_and, and_self, or_true, true_or, or_false, false_or, c_75.2.1, c_75.2.2.1, c_75.2.2.2.1, c_75.2.2.2.2.1, c_75.2.2.2.2.2.1, c_75.2.2.2.2.2.2]) dX4_object_205
            · exact absurd (show ¬ w ≤ 3 from c_36) (fun z => c_50 (kle43.mpr (fun q => z (kle34.mpr q))))
      · have hw6 : ¬ (¬ w < 0 ∧ w ≤ 6) := fun z => c_28 (kob.mpr z)
        refine lv_ldc hC.1 hC.2.1 hC.2.2.2.1 (hC.2.2.2.2 _ (kt_in tk_X4_110 rfl)) dX4_object_31 ?_
        exact krS hC hr hlk (by rw [a_object, kif_t ⟨c_5, c_13⟩, kif_f hw6]) dX4_object_33
    · refine lv_ldc hC.1 hC.2.1 hC.2.2.2.1 (hC.2.2.2.2 _ (kt_in tk_X4_107 rfl)) dX4_object_16 ?_
      exact krS hC hr hlk (by rw [a_object, kif_f (fun z => c_13 z.2)]) dX4_object_18
set_option maxHeartbeats 4000000 in
set_option maxRecDepth 100000 in
theorem c_X4_container (l : Launch) (D : va_G) (G : Nat → ClassId) (M : Nat → Nat) (hL : mL M) (T N : kT) (r g : Nat → Int32) (p : Int32) (c : Int32) (s : Int32) (t : Int32) (b : Int32) (n : Int32) (hI0 : kI0 T) (hI1 : kI1 T) (hI2 : kI2 T) (hI3 : kI3 T) (hIc : kIc T) (hI5 : kI5 T) (hI7 : kI7 T) : kM l yX4_container cX4_container 7 (some .int) 3 69 (mPc D G M T N r g [.ref (M 0), .int p, .int c, .int s, .int t, .int b, .int n]) (mQi D G M (a_container T p c s t b n) (t_container T p c s t b n) N r g) (mA M) := by
  refine kBegin (by decide) (Nat.le_of_ble_eq_true rfl) ?_
  intro zp ze zs zm zargs zbelow zmeth zc hC hr hlk hB ls hl
  obtain ⟨hP, hK⟩ := hB
  have hW : mWd D G M (mA M) zs.heap T N r g zs.heap [] := mWd.start hL hP
  have hl : lv_has ls 7 [(0, .ref (M 0)), (1, .int p), (2, .int c), (3, .int s), (4, .int t), (5, .int b), (6, .int n)] := hl
  refine lv_aload_n hC.1 hC.2.1 dX4_container_0 rfl (lv_at hl 0 rfl) ?_
  refine lv_iload_n hC.1 hC.2.1 dX4_container_1 rfl (lv_at hl 1 rfl) ?_
  refine keSi (rest := []) (mcV 0 hC hK hW (c_X4_isProcess l D G M hL T N r g p hI1) (kgoodV tm_X4_103 ti_yX4_isProcess te_yX4_isProcess tz_X4 tc_yX4_isProcess) mw_m rfl ⟨rfl, by decide, by decide, (show Option.map _ (parseMethodDescriptor yX4_isProcess.desc) = some 1 from by decide +kernel)⟩ ⟨Nat.le_of_ble_eq_true rfl, Nat.le_of_ble_eq_true rfl⟩ hl.1 rfl (Nat.le_of_ble_eq_true rfl) ⟨Nat.le_refl _, Nat.le_refl _⟩ dX4_container_2) ?_
  refine kif_eq (tgt := 16) hC.1 hC.2.1 dX4_container_5 (by decide) (fun c_5 => ?_) (fun c_5 => ?_)
  · refine lv_ldc hC.1 hC.2.1 hC.2.2.2.1 (hC.2.2.2.2 _ (kt_in tk_X4_107 rfl)) dX4_container_16 ?_
    exact mkrI hC hr hlk hW (by simp (config := {decide := true}) only [kif_true, kif_false, kb, kup_eq, kup_f, kup_i, not_true_eq_false, not_false_eq_true, and_true, true_and, and_false, false_and, and_self, or_true, true_or, or_false, false_or, kif_id, a_container, t_container, kCnl, kMka, kMkt, c_5]) (by simp (config := {decide := true}) only [kif_true, kif_false, kb, kup_eq, kup_f, kup_i, not_true_eq_false, not_false_eq_true, and_true, true_and, and_false, false_and, and_self, or_true, true_or, or_false, false_or, kif_id, a_container, t_container, kCnl, kMka, kMkt, c_5]) rfl rfl rfl dX4_container_18
  · refine lv_aload_n hC.1 hC.2.1 dX4_container_8 rfl (lv_at hl 0 rfl) ?_
    refine lv_iload_n hC.1 hC.2.1 dX4_container_9 rfl (lv_at hl 2 rfl) ?_
    refine keSi (rest := []) (mcV 0 hC hK hW (c_X4_isRoomy l D G M hL T N r g c hI3) (kgoodV tm_X4_181 ti_yX4_isRoomy te_yX4_isRoomy tz_X4 tc_yX4_isRoomy) mw_m rfl ⟨rfl, by decide, by decide, (show Option.map _ (parseMethodDescriptor yX4_isRoomy.desc) = some 1 from by decide +kernel)⟩ ⟨Nat.le_of_ble_eq_true rfl, Nat.le_of_ble_eq_true rfl⟩ hl.1 rfl (Nat.le_of_ble_eq_true rfl) ⟨Nat.le_refl _, Nat.le_refl _⟩ dX4_container_10) ?_
    refine kif_ne (tgt := 19) hC.1 hC.2.1 dX4_container_13 (by decide) (fun c_13 => ?_) (fun c_13 => ?_)
    · refine lv_aload_n hC.1 hC.2.1 dX4_container_19 rfl (lv_at hl 0 rfl) ?_
      refine lv_iload_n hC.1 hC.2.1 dX4_container_20 rfl (lv_at hl 3 rfl) ?_
      refine keSi (rest := []) (mcV 0 hC hK hW (c_X4_isSet l D G M hL T N r g s hI0) (kgoodV tm_X4_129 ti_yX4_isSet te_yX4_isSet tz_X4 tc_yX4_isSet) mw_m rfl ⟨rfl, by decide, by decide, (show Option.map _ (parseMethodDescriptor yX4_isSet.desc) = some 1 from by decide +kernel)⟩ ⟨Nat.le_of_ble_eq_true rfl, Nat.le_of_ble_eq_true rfl⟩ hl.1 rfl (Nat.le_of_ble_eq_true rfl) ⟨Nat.le_refl _, Nat.le_refl _⟩ dX4_container_21) ?_
      refine kif_eq (tgt := 62) hC.1 hC.2.1 dX4_container_24 (by decide) (fun c_24 => ?_) (fun c_24 => ?_)
      · refine lv_ldc hC.1 hC.2.1 hC.2.2.2.1 (hC.2.2.2.2 _ (kt_in tk_X4_110 rfl)) dX4_container_62 ?_
        exact mkrI hC hr hlk hW (by simp (config := {decide := true}) only [kif_true, kif_false, kb, kup_eq, kup_f, kup_i, not_true_eq_false, not_false_eq_true, and_true, true_and, and_false, false_and, and_self, or_true, true_or, or_false, false_or, kif_id, a_container, t_container, kCnl, kMka, kMkt, c_5, c_13, c_24]) (by simp (config := {decide := true}) only [kif_true, kif_false, kb, kup_eq, kup_f, kup_i, not_true_eq_false, not_false_eq_true, and_true, true_and, and_false, false_and, and_self, or_true, true_or, or_false, false_or, kif_id, a_container, t_container, kCnl, kMka, kMkt, c_5, c_13, c_24]) rfl rfl rfl dX4_container_64
      · refine lv_aload_n hC.1 hC.2.1 dX4_container_27 rfl (lv_at hl 0 rfl) ?_
        refine lv_iload hC.1 hC.2.1 dX4_container_28 (lv_at hl 4 rfl) ?_
        refine keSi (rest := []) (mcV 0 hC hK hW (c_X4_isSet l D G M hL T N r g t hI0) (kgoodV tm_X4_129 ti_yX4_isSet te_yX4_isSet tz_X4 tc_yX4_isSet) mw_m rfl ⟨rfl, by decide, by decide, (show Option.map _ (parseMethodDescriptor yX4_isSet.desc) = some 1 from by decide +kernel)⟩ ⟨Nat.le_of_ble_eq_true rfl, Nat.le_of_ble_eq_true rfl⟩ hl.1 rfl (Nat.le_of_ble_eq_true rfl) ⟨Nat.le_refl _, Nat.le_refl _⟩ dX4_container_30) ?_
        refine kif_eq (tgt := 62) hC.1 hC.2.1 dX4_container_33 (by decide) (fun c_33 => ?_) (fun c_33 => ?_)
        · refine lv_ldc hC.1 hC.2.1 hC.2.2.2.1 (hC.2.2.2.2 _ (kt_in tk_X4_110 rfl)) dX4_container_62 ?_
          exact mkrI hC hr hlk hW (by simp (config := {decide := true}) only [kif_true, kif_false, kb, kup_eq, kup_f, kup_i, not_true_eq_false, not_false_eq_true, and_true, true_and, and_false, false_and, and_self, or_true, true_or, or_false, false_or, kif_id, a_container, t_container, kCnl, kMka, kMkt, c_5, c_13, c_24, c_33]) (by simp (config := {decide := true}) only [kif_true, kif_false, kb, kup_eq, kup_f, kup_i, not_true_eq_false, not_false_eq_true, and_true, true_and, and_false, false_and, and_self, or_true, true_or, or_false, false_or, kif_id, a_container, t_container, kCnl, kMka, kMkt, c_5, c_13, c_24, c_33]) rfl rfl rfl dX4_container_64
        · refine lv_iload hC.1 hC.2.1 dX4_container_36 (lv_at hl 5 rfl) ?_
          refine lv_i2l hC.1 hC.2.1 dX4_container_38 rfl ?_
          refine lv_lconst (v := 0) hC.1 hC.2.1 dX4_container_39 (by decide) ?_
          refine lv_ldc2 hC.1 hC.2.1 hC.2.2.2.1 (hC.2.2.2.2 _ (kt_in tk_X4_184 rfl)) dX4_container_40 ?_
          refine keSi (rest := []) (kcS0 hC (c_X4_within l b.toInt64 0 (200)) (kgoodS tm_X4_93 ts_yX4_within tz_X4 tc_yX4_within) ⟨rfl, by decide, by decide, (show Option.map _ (parseMethodDescriptor yX4_within.desc) = some 3 from by decide +kernel)⟩ ⟨Nat.le_of_ble_eq_true rfl, Nat.le_of_ble_eq_true rfl⟩ hl.1 rfl (Nat.le_of_ble_eq_true rfl) ⟨Nat.le_refl _, Nat.le_refl _⟩ dX4_container_43) ?_
          refine kif_eq (tgt := 62) hC.1 hC.2.1 dX4_container_46 (by decide) (fun c_46 => ?_) (fun c_46 => ?_)
          · have hbd : ¬ kBd b n := fun z => c_46 (kbd.mpr z).1
            refine lv_ldc hC.1 hC.2.1 hC.2.2.2.1 (hC.2.2.2.2 _ (kt_in tk_X4_110 rfl)) dX4_container_62 ?_
            exact mkrI hC hr hlk hW (by simp (config := {decide := true}) only [kif_true, kif_false, kb, kup_eq, kup_f, kup_i, not_true_eq_false, not_false_eq_true, and_true, true_and, and_false, false_and, and_self, or_true, true_or, or_false, false_or, kif_id, a_container, t_container, kCnl, kMka, kMkt, c_5, c_13, c_24, c_33, c_46, hbd]) (by simp (config := {decide := true}) only [kif_true, kif_false, kb, kup_eq, kup_f, kup_i, not_true_eq_false, not_false_eq_true, and_true, true_and, and_false, false_and, and_self, or_true, true_or, or_false, false_or, kif_id, a_container, t_container, kCnl, kMka, kMkt, c_5, c_13, c_24, c_33, c_46, hbd]) rfl rfl rfl dX4_container_64
          · refine lv_iload hC.1 hC.2.1 dX4_container_49 (lv_at hl 6 rfl) ?_
            refine lv_i2l hC.1 hC.2.1 dX4_container_51 rfl ?_
            refine lv_lconst (v := 0) hC.1 hC.2.1 dX4_container_52 (by decide) ?_
            refine lv_ldc2 hC.1 hC.2.1 hC.2.2.2.1 (hC.2.2.2.2 _ (kt_in tk_X4_186 rfl)) dX4_container_53 ?_
            refine keSi (rest := []) (kcS0 hC (c_X4_within l n.toInt64 0 (50)) (kgoodS tm_X4_93 ts_yX4_within tz_X4 tc_yX4_within) ⟨rfl, by decide, by decide, (show Option.map _ (parseMethodDescriptor yX4_within.desc) = some 3 from by decide +kernel)⟩ ⟨Nat.le_of_ble_eq_true rfl, Nat.le_of_ble_eq_true rfl⟩ hl.1 rfl (Nat.le_of_ble_eq_true rfl) ⟨Nat.le_refl _, Nat.le_refl _⟩ dX4_container_56) ?_
            refine kif_ne (tgt := 65) hC.1 hC.2.1 dX4_container_59 (by decide) (fun c_59 => ?_) (fun c_59 => ?_)
            · have hbd := kbd.mp ⟨c_46, c_59⟩
              refine lv_aload_n hC.1 hC.2.1 dX4_container_65 rfl (lv_at hl 0 rfl) ?_
              refine lv_iload_n hC.1 hC.2.1 dX4_container_66 rfl (lv_at hl 1 rfl) ?_
              refine lv_iload_n hC.1 hC.2.1 dX4_container_67 rfl (lv_at hl 2 rfl) ?_
              refine lv_iload_n hC.1 hC.2.1 dX4_container_68 rfl (lv_at hl 3 rfl) ?_
              refine lv_iload hC.1 hC.2.1 dX4_container_69 (lv_at hl 4 rfl) ?_
              refine keSi (rest := []) (mcV 0 hC hK hW (c_X4_mayMake l D G M hL T N r g p c s t c_5.in c_13.1.in) (kgoodV tm_X4_188 ti_yX4_mayMake te_yX4_mayMake tz_X4 tc_yX4_mayMake) mw_m rfl ⟨rfl, by decide, by decide, (show Option.map _ (parseMethodDescriptor yX4_mayMake.desc) = some 4 from by decide +kernel)⟩ ⟨Nat.le_of_ble_eq_true rfl, Nat.le_of_ble_eq_true rfl⟩ hl.1 rfl (Nat.le_of_ble_eq_true rfl) ⟨Nat.le_refl _, Nat.le_refl _⟩ dX4_container_71) ?_
              refine kif_ne (tgt := 80) hC.1 hC.2.1 dX4_container_74 (by decide) (fun c_74 => ?_) (fun c_74 => ?_)
              · refine lv_aload_n hC.1 hC.2.1 dX4_container_80 rfl (lv_at hl 0 rfl) ?_
                refine mg4 hC hK hW 18 (v := .int (T 0 3)) rfl (by decide) rfl tf_X4_90 dX4_container_81 ?_
                refine lv_bipush (v := 60) hC.1 hC.2.1 dX4_container_84 (by decide) ?_
                refine lv_icmp_eq (tgt := 111) hC.1 hC.2.1 dX4_container_86 (by decide) (fun c_86 => ?_) (fun c_86 => ?_)
                · have hlt : ¬ T 0 3 < 60 := keq_nlt (n := 60) c_86
                  refine lv_ldc hC.1 hC.2.1 hC.2.2.2.1 (hC.2.2.2.2 _ (kt_in tk_X4_111 rfl)) dX4_container_111 ?_
                  exact mkrI hC hr hlk hW (by simp (config := {decide := true}) only [kif_true, kif_false, kb, kup_eq, kup_f, kup_i, not_true_eq_false, not_false_eq_true, and_true, true_and, and_false, false_and, and_self, or_true, true_or, or_false, false_or, kif_id, a_container, t_container, kCnl, kMka, kMkt, c_5, c_13, c_24, c_33, c_46, c_59, hbd, c_74, c_86, hlt]) (by simp (config := {decide := true}) only [kif_true, kif_false, kb, kup_eq, kup_f, kup_i, not_true_eq_false, not_false_eq_true, and_true, true_and, and_false, false_and, and_self, or_true, true_or, or_false, false_or, kif_id, a_container, t_container, kCnl, kMka, kMkt, c_5, c_13, c_24, c_33, c_46, c_59, hbd, c_74, c_86, hlt]) rfl rfl rfl dX4_container_113
                · refine lv_aload_n hC.1 hC.2.1 dX4_container_89 rfl (lv_at hl 0 rfl) ?_
                  refine lv_iload_n hC.1 hC.2.1 dX4_container_90 rfl (lv_at hl 2 rfl) ?_
                  refine keSi (rest := []) (mcV 0 hC hK hW (c_X4_blocksLeft l D G M hL T N r g c hI3 c_13) (kgoodV tm_X4_191 ti_yX4_blocksLeft te_yX4_blocksLeft tz_X4 tc_yX4_blocksLeft) mw_m rfl ⟨rfl, by decide, by decide, (show Option.map _ (parseMethodDescriptor yX4_blocksLeft.desc) = some 1 from by decide +kernel)⟩ ⟨Nat.le_of_ble_eq_true rfl, Nat.le_of_ble_eq_true rfl⟩ hl.1 rfl (Nat.le_of_ble_eq_true rfl) ⟨Nat.le_refl _, Nat.le_refl _⟩ dX4_container_91) ?_
                  refine lv_iload hC.1 hC.2.1 dX4_container_94 (lv_at hl 5 rfl) ?_
                  refine lv_icmp_lt (tgt := 111) hC.1 hC.2.1 dX4_container_96 (by decide) (fun c_96 => ?_) (fun c_96 => ?_)
                  · refine lv_ldc hC.1 hC.2.1 hC.2.2.2.1 (hC.2.2.2.2 _ (kt_in tk_X4_111 rfl)) dX4_container_111 ?_
                    exact mkrI hC hr hlk hW (by simp (config := {decide := true}) only [kif_true, kif_false, kb, kup_eq, kup_f, kup_i, not_true_eq_false, not_false_eq_true, and_true, true_and, and_false, false_and, and_self, or_true, true_or, or_false, false_or, kif_id, a_container, t_container, kCnl, kMka, kMkt, c_5, c_13, c_24, c_33, c_46, c_59, hbd, c_74, c_86, c_96]) (by simp (config := {decide := true}) only [kif_true, kif_false, kb, kup_eq, kup_f, kup_i, not_true_eq_false, not_false_eq_true, and_true, true_and, and_false, false_and, and_self, or_true, true_or, or_false, false_or, kif_id, a_container, t_container, kCnl, kMka, kMkt, c_5, c_13, c_24, c_33, c_46, c_59, hbd, c_74, c_86, c_96]) rfl rfl rfl dX4_container_113
                  · refine lv_aload_n hC.1 hC.2.1 dX4_container_99 rfl (lv_at hl 0 rfl) ?_
                    refine lv_iload_n hC.1 hC.2.1 dX4_container_100 rfl (lv_at hl 2 rfl) ?_
                    refine keSi (rest := []) (mcV 0 hC hK hW (c_X4_objectsLeft l D G M hL T N r g c hI3 hI5 c_13) (kgoodV tm_X4_194 ti_yX4_objectsLeft te_yX4_objectsLeft tz_X4 tc_yX4_objectsLeft) mw_m rfl ⟨rfl, by decide, by decide, (show Option.map _ (parseMethodDescriptor yX4_objectsLeft.desc) = some 1 from by decide +kernel)⟩ ⟨Nat.le_of_ble_eq_true rfl, Nat.le_of_ble_eq_true rfl⟩ hl.1 rfl (Nat.le_of_ble_eq_true rfl) ⟨Nat.le_refl _, Nat.le_refl _⟩ dX4_container_101) ?_
                    refine lv_iload hC.1 hC.2.1 dX4_container_104 (lv_at hl 6 rfl) ?_
                    refine lv_iconst (v := 1) hC.1 hC.2.1 dX4_container_106 (by decide) ?_
                    refine lv_iadd hC.1 hC.2.1 dX4_container_107 ?_
                    refine lv_icmp_ge (tgt := 114) hC.1 hC.2.1 dX4_container_108 (by decide) (fun c_108 => ?_) (fun c_108 => ?_)
                    · have hlt : T 0 3 < 60 := keq_lt (n := 60) hI3.1 hI3.2.2.1 (by decide) c_86
                      have hlt2 := keq_tn (n := 60) hlt hI3.1 (by decide)
                      rw [Int32.add_comm] at c_108
                      refine lv_aload_n hC.1 hC.2.1 dX4_container_114 rfl (lv_at hl 0 rfl) ?_
                      refine lv_iload_n hC.1 hC.2.1 dX4_container_115 rfl (lv_at hl 2 rfl) ?_
                      refine lv_iload_n hC.1 hC.2.1 dX4_container_116 rfl (lv_at hl 3 rfl) ?_
                      refine lv_iload hC.1 hC.2.1 dX4_container_117 (lv_at hl 4 rfl) ?_
                      refine lv_iconst (v := 1) hC.1 hC.2.1 dX4_container_119 (by decide) ?_
                      refine lv_iload hC.1 hC.2.1 dX4_container_120 (lv_at hl 5 rfl) ?_
                      refine lv_iload hC.1 hC.2.1 dX4_container_122 (lv_at hl 6 rfl) ?_
                      refine meQi (rest := []) (mcV 0 hC hK hW (c_X4_make l D G M hL T N r g c s t 1 (Or.inr rfl) b n hIc hI1 hI2 hI3 hI7 hlt2) (kgoodV tm_X4_197 ti_yX4_make te_yX4_make tz_X4 tc_yX4_make) mw_m rfl ⟨rfl, by decide, by decide, (show Option.map _ (parseMethodDescriptor yX4_make.desc) = some 6 from by decide +kernel)⟩ ⟨Nat.le_of_ble_eq_true rfl, Nat.le_of_ble_eq_true rfl⟩ hl.1 rfl (Nat.le_of_ble_eq_true rfl) ⟨Nat.le_refl _, Nat.le_refl _⟩ dX4_container_124) hW (fun H locs (hW : mWd D G M (mA M) zs.heap (kOt (kMk T 1 c s t b n)) N r g H locs) => ?_)
                      exact mkrI hC hr hlk hW (by simp (config := {decide := true}) only [kif_true, kif_false, kb, kup_eq, kup_f, kup_i, not_true_eq_false, not_false_eq_true, and_true, true_and, and_false, false_and, and_self, or_true, true_or, or_false, false_or, kif_id, a_container, t_container, kCnl, kMka, kMkt, c_5, c_13, c_24, c_33, c_46, c_59, hbd, c_74, c_86, c_96, c_108, hlt]) (by simp (config := {decide := true}) only [kif_true, kif_false, kb, kup_eq, kup_f, kup_i, not_true_eq_false, not_false_eq_true, and_true, true_and, and_false, false_and, and_self, or_true, true_or, or_false, false_or, kif_id, a_container, t_container, kCnl, kMka, kMkt, c_5, c_13, c_24, c_33, c_46, c_59, hbd, c_74, c_86, c_96, c_108, hlt]) rfl rfl rfl dX4_container_127
                    · rw [Int32.add_comm] at c_108
                      refine lv_ldc hC.1 hC.2.1 hC.2.2.2.1 (hC.2.2.2.2 _ (kt_in tk_X4_111 rfl)) dX4_container_111 ?_
                      exact mkrI hC hr hlk hW (by simp (config := {decide := true}) only [kif_true, kif_false, kb, kup_eq, kup_f, kup_i, not_true_eq_false, not_false_eq_true, and_true, true_and, and_false, false_and, and_self, or_true, true_or, or_false, false_or, kif_id, a_container, t_container, kCnl, kMka, kMkt, c_5, c_13, c_24, c_33, c_46, c_59, hbd, c_74, c_86, c_96, c_108]) (by simp (config := {decide := true}) only [kif_true, kif_false, kb, kup_eq, kup_f, kup_i, not_true_eq_false, not_false_eq_true, and_true, true_and, and_false, false_and, and_self, or_true, true_or, or_false, false_or, kif_id, a_container, t_container, kCnl, kMka, kMkt, c_5, c_13, c_24, c_33, c_46, c_59, hbd, c_74, c_86, c_96, c_108]) rfl rfl rfl dX4_container_113
              · refine lv_ldc hC.1 hC.2.1 hC.2.2.2.1 (hC.2.2.2.2 _ (kt_in tk_X4_135 rfl)) dX4_container_77 ?_
                exact mkrI hC hr hlk hW (by simp (config := {decide := true}) only [kif_true, kif_false, kb, kup_eq, kup_f, kup_i, not_true_eq_false, not_false_eq_true, and_true, true_and, and_false, false_and, and_self, or_true, true_or, or_false, false_or, kif_id, a_container, t_container, kCnl, kMka, kMkt, c_5, c_13, c_24, c_33, c_46, c_59, hbd, c_74]) (by simp (config := {decide := true}) only [kif_true, kif_false, kb, kup_eq, kup_f, kup_i, not_true_eq_false, not_false_eq_true, and_true, true_and, and_false, false_and, and_self, or_true, true_or, or_false, false_or, kif_id, a_container, t_container, kCnl, kMka, kMkt, c_5, c_13, c_24, c_33, c_46, c_59, hbd, c_74]) rfl rfl rfl dX4_container_79
            · have hbd : ¬ kBd b n := fun z => c_59 (kbd.mpr z).2
              refine lv_ldc hC.1 hC.2.1 hC.2.2.2.1 (hC.2.2.2.2 _ (kt_in tk_X4_110 rfl)) dX4_container_62 ?_
              exact mkrI hC hr hlk hW (by simp (config := {decide := true}) only [kif_true, kif_false, kb, kup_eq, kup_f, kup_i, not_true_eq_false, not_false_eq_true, and_true, true_and, and_false, false_and, and_self, or_true, true_or, or_false, false_or, kif_id, a_container, t_container, kCnl, kMka, kMkt, c_5, c_13, c_24, c_33, c_46, c_59, hbd]) (by simp (config := {decide := true}) only [kif_true, kif_false, kb, kup_eq, kup_f, kup_i, not_true_eq_false, not_false_eq_true, and_true, true_and, and_false, false_and, and_self, or_true, true_or, or_false, false_or, kif_id, a_container, t_container, kCnl, kMka, kMkt, c_5, c_13, c_24, c_33, c_46, c_59, hbd]) rfl rfl rfl dX4_container_64
    · refine lv_ldc hC.1 hC.2.1 hC.2.2.2.1 (hC.2.2.2.2 _ (kt_in tk_X4_107 rfl)) dX4_container_16 ?_
      exact mkrI hC hr hlk hW (by simp (config := {decide := true}) only [kif_true, kif_false, kb, kup_eq, kup_f, kup_i, not_true_eq_false, not_false_eq_true, and_true, true_and, and_false, false_and, and_self, or_true, true_or, or_false, false_or, kif_id, a_container, t_container, kCnl, kMka, kMkt, c_5, c_13]) (by simp (config := {decide := true}) only [kif_true, kif_false, kb, kup_eq, kup_f, kup_i, not_true_eq_false, not_false_eq_true, and_true, true_and, and_false, false_and, and_self, or_true, true_or, or_false, false_or, kif_id, a_container, t_container, kCnl, kMka, kMkt, c_5, c_13]) rfl rfl rfl dX4_container_18
set_option maxHeartbeats 4000000 in
set_option maxRecDepth 100000 in
theorem c_X4_file (l : Launch) (D : va_G) (G : Nat → ClassId) (M : Nat → Nat) (hL : mL M) (T N : kT) (r g : Nat → Int32) (p : Int32) (c : Int32) (s : Int32) (t : Int32) (hI0 : kI0 T) (hI1 : kI1 T) (hI2 : kI2 T) (hI3 : kI3 T) (hIc : kIc T) (hI5 : kI5 T) (hI7 : kI7 T) : kM l yX4_file cX4_file 5 (some .int) 3 69 (mPc D G M T N r g [.ref (M 0), .int p, .int c, .int s, .int t]) (mQi D G M (a_file T p c s t) (t_file T p c s t) N r g) (mA M) := by
  refine kBegin (by decide) (Nat.le_of_ble_eq_true rfl) ?_
  intro zp ze zs zm zargs zbelow zmeth zc hC hr hlk hB ls hl
  obtain ⟨hP, hK⟩ := hB
  have hW : mWd D G M (mA M) zs.heap T N r g zs.heap [] := mWd.start hL hP
  have hl : lv_has ls 5 [(0, .ref (M 0)), (1, .int p), (2, .int c), (3, .int s), (4, .int t)] := hl
  refine lv_aload_n hC.1 hC.2.1 dX4_file_0 rfl (lv_at hl 0 rfl) ?_
  refine lv_iload_n hC.1 hC.2.1 dX4_file_1 rfl (lv_at hl 1 rfl) ?_
  refine keSi (rest := []) (mcV 0 hC hK hW (c_X4_isProcess l D G M hL T N r g p hI1) (kgoodV tm_X4_103 ti_yX4_isProcess te_yX4_isProcess tz_X4 tc_yX4_isProcess) mw_m rfl ⟨rfl, by decide, by decide, (show Option.map _ (parseMethodDescriptor yX4_isProcess.desc) = some 1 from by decide +kernel)⟩ ⟨Nat.le_of_ble_eq_true rfl, Nat.le_of_ble_eq_true rfl⟩ hl.1 rfl (Nat.le_of_ble_eq_true rfl) ⟨Nat.le_refl _, Nat.le_refl _⟩ dX4_file_2) ?_
  refine kif_eq (tgt := 16) hC.1 hC.2.1 dX4_file_5 (by decide) (fun c_5 => ?_) (fun c_5 => ?_)
  · refine lv_ldc hC.1 hC.2.1 hC.2.2.2.1 (hC.2.2.2.2 _ (kt_in tk_X4_107 rfl)) dX4_file_16 ?_
    exact mkrI hC hr hlk hW (by simp (config := {decide := true}) only [kif_true, kif_false, kb, kup_eq, kup_f, kup_i, not_true_eq_false, not_false_eq_true, and_true, true_and, and_false, false_and, and_self, or_true, true_or, or_false, false_or, kif_id, a_file, t_file, kMka, kMkt, c_5]) (by simp (config := {decide := true}) only [kif_true, kif_false, kb, kup_eq, kup_f, kup_i, not_true_eq_false, not_false_eq_true, and_true, true_and, and_false, false_and, and_self, or_true, true_or, or_false, false_or, kif_id, a_file, t_file, kMka, kMkt, c_5]) rfl rfl rfl dX4_file_18
  · refine lv_aload_n hC.1 hC.2.1 dX4_file_8 rfl (lv_at hl 0 rfl) ?_
    refine lv_iload_n hC.1 hC.2.1 dX4_file_9 rfl (lv_at hl 2 rfl) ?_
    refine keSi (rest := []) (mcV 0 hC hK hW (c_X4_isRoomy l D G M hL T N r g c hI3) (kgoodV tm_X4_181 ti_yX4_isRoomy te_yX4_isRoomy tz_X4 tc_yX4_isRoomy) mw_m rfl ⟨rfl, by decide, by decide, (show Option.map _ (parseMethodDescriptor yX4_isRoomy.desc) = some 1 from by decide +kernel)⟩ ⟨Nat.le_of_ble_eq_true rfl, Nat.le_of_ble_eq_true rfl⟩ hl.1 rfl (Nat.le_of_ble_eq_true rfl) ⟨Nat.le_refl _, Nat.le_refl _⟩ dX4_file_10) ?_
    refine kif_ne (tgt := 19) hC.1 hC.2.1 dX4_file_13 (by decide) (fun c_13 => ?_) (fun c_13 => ?_)
    · refine lv_aload_n hC.1 hC.2.1 dX4_file_19 rfl (lv_at hl 0 rfl) ?_
      refine lv_iload_n hC.1 hC.2.1 dX4_file_20 rfl (lv_at hl 3 rfl) ?_
      refine keSi (rest := []) (mcV 0 hC hK hW (c_X4_isSet l D G M hL T N r g s hI0) (kgoodV tm_X4_129 ti_yX4_isSet te_yX4_isSet tz_X4 tc_yX4_isSet) mw_m rfl ⟨rfl, by decide, by decide, (show Option.map _ (parseMethodDescriptor yX4_isSet.desc) = some 1 from by decide +kernel)⟩ ⟨Nat.le_of_ble_eq_true rfl, Nat.le_of_ble_eq_true rfl⟩ hl.1 rfl (Nat.le_of_ble_eq_true rfl) ⟨Nat.le_refl _, Nat.le_refl _⟩ dX4_file_21) ?_
      refine kif_eq (tgt := 36) hC.1 hC.2.1 dX4_file_24 (by decide) (fun c_24 => ?_) (fun c_24 => ?_)
      · refine lv_ldc hC.1 hC.2.1 hC.2.2.2.1 (hC.2.2.2.2 _ (kt_in tk_X4_110 rfl)) dX4_file_36 ?_
        exact mkrI hC hr hlk hW (by simp (config := {decide := true}) only [kif_true, kif_false, kb, kup_eq, kup_f, kup_i, not_true_eq_false, not_false_eq_true, and_true, true_and, and_false, false_and, and_self, or_true, true_or, or_false, false_or, kif_id, a_file, t_file, kMka, kMkt, c_5, c_13, c_24]) (by simp (config := {decide := true}) only [kif_true, kif_false, kb, kup_eq, kup_f, kup_i, not_true_eq_false, not_false_eq_true, and_true, true_and, and_false, false_and, and_self, or_true, true_or, or_false, false_or, kif_id, a_file, t_file, kMka, kMkt, c_5, c_13, c_24]) rfl rfl rfl dX4_file_38
      · refine lv_aload_n hC.1 hC.2.1 dX4_file_27 rfl (lv_at hl 0 rfl) ?_
        refine lv_iload hC.1 hC.2.1 dX4_file_28 (lv_at hl 4 rfl) ?_
        refine keSi (rest := []) (mcV 0 hC hK hW (c_X4_isSet l D G M hL T N r g t hI0) (kgoodV tm_X4_129 ti_yX4_isSet te_yX4_isSet tz_X4 tc_yX4_isSet) mw_m rfl ⟨rfl, by decide, by decide, (show Option.map _ (parseMethodDescriptor yX4_isSet.desc) = some 1 from by decide +kernel)⟩ ⟨Nat.le_of_ble_eq_true rfl, Nat.le_of_ble_eq_true rfl⟩ hl.1 rfl (Nat.le_of_ble_eq_true rfl) ⟨Nat.le_refl _, Nat.le_refl _⟩ dX4_file_30) ?_
        refine kif_ne (tgt := 39) hC.1 hC.2.1 dX4_file_33 (by decide) (fun c_33 => ?_) (fun c_33 => ?_)
        · refine lv_aload_n hC.1 hC.2.1 dX4_file_39 rfl (lv_at hl 0 rfl) ?_
          refine lv_iload_n hC.1 hC.2.1 dX4_file_40 rfl (lv_at hl 1 rfl) ?_
          refine lv_iload_n hC.1 hC.2.1 dX4_file_41 rfl (lv_at hl 2 rfl) ?_
          refine lv_iload_n hC.1 hC.2.1 dX4_file_42 rfl (lv_at hl 3 rfl) ?_
          refine lv_iload hC.1 hC.2.1 dX4_file_43 (lv_at hl 4 rfl) ?_
          refine keSi (rest := []) (mcV 0 hC hK hW (c_X4_mayMake l D G M hL T N r g p c s t c_5.in c_13.1.in) (kgoodV tm_X4_188 ti_yX4_mayMake te_yX4_mayMake tz_X4 tc_yX4_mayMake) mw_m rfl ⟨rfl, by decide, by decide, (show Option.map _ (parseMethodDescriptor yX4_mayMake.desc) = some 4 from by decide +kernel)⟩ ⟨Nat.le_of_ble_eq_true rfl, Nat.le_of_ble_eq_true rfl⟩ hl.1 rfl (Nat.le_of_ble_eq_true rfl) ⟨Nat.le_refl _, Nat.le_refl _⟩ dX4_file_45) ?_
          refine kif_ne (tgt := 54) hC.1 hC.2.1 dX4_file_48 (by decide) (fun c_48 => ?_) (fun c_48 => ?_)
          · refine lv_aload_n hC.1 hC.2.1 dX4_file_54 rfl (lv_at hl 0 rfl) ?_
            refine mg4 hC hK hW 18 (v := .int (T 0 3)) rfl (by decide) rfl tf_X4_90 dX4_file_55 ?_
            refine lv_bipush (v := 60) hC.1 hC.2.1 dX4_file_58 (by decide) ?_
            refine lv_icmp_eq (tgt := 72) hC.1 hC.2.1 dX4_file_60 (by decide) (fun c_60 => ?_) (fun c_60 => ?_)
            · have hlt : ¬ T 0 3 < 60 := keq_nlt (n := 60) c_60
              refine lv_ldc hC.1 hC.2.1 hC.2.2.2.1 (hC.2.2.2.2 _ (kt_in tk_X4_111 rfl)) dX4_file_72 ?_
              exact mkrI hC hr hlk hW (by simp (config := {decide := true}) only [kif_true, kif_false, kb, kup_eq, kup_f, kup_i, not_true_eq_false, not_false_eq_true, and_true, true_and, and_false, false_and, and_self, or_true, true_or, or_false, false_or, kif_id, a_file, t_file, kMka, kMkt, c_5, c_13, c_24, c_33, c_48, c_60, hlt]) (by simp (config := {decide := true}) only [kif_true, kif_false, kb, kup_eq, kup_f, kup_i, not_true_eq_false, not_false_eq_true, and_true, true_and, and_false, false_and, and_self, or_true, true_or, or_false, false_or, kif_id, a_file, t_file, kMka, kMkt, c_5, c_13, c_24, c_33, c_48, c_60, hlt]) rfl rfl rfl dX4_file_74
            · refine lv_aload_n hC.1 hC.2.1 dX4_file_63 rfl (lv_at hl 0 rfl) ?_
              refine lv_iload_n hC.1 hC.2.1 dX4_file_64 rfl (lv_at hl 2 rfl) ?_
              refine keSi (rest := []) (mcV 0 hC hK hW (c_X4_objectsLeft l D G M hL T N r g c hI3 hI5 c_13) (kgoodV tm_X4_194 ti_yX4_objectsLeft te_yX4_objectsLeft tz_X4 tc_yX4_objectsLeft) mw_m rfl ⟨rfl, by decide, by decide, (show Option.map _ (parseMethodDescriptor yX4_objectsLeft.desc) = some 1 from by decide +kernel)⟩ ⟨Nat.le_of_ble_eq_true rfl, Nat.le_of_ble_eq_true rfl⟩ hl.1 rfl (Nat.le_of_ble_eq_true rfl) ⟨Nat.le_refl _, Nat.le_refl _⟩ dX4_file_65) ?_
              refine lv_iconst (v := 1) hC.1 hC.2.1 dX4_file_68 (by decide) ?_
              refine lv_icmp_ge (tgt := 75) hC.1 hC.2.1 dX4_file_69 (by decide) (fun c_69 => ?_) (fun c_69 => ?_)
              · have hlt : T 0 3 < 60 := keq_lt (n := 60) hI3.1 hI3.2.2.1 (by decide) c_60
                have hlt2 := keq_tn (n := 60) hlt hI3.1 (by decide)
                refine lv_aload_n hC.1 hC.2.1 dX4_file_75 rfl (lv_at hl 0 rfl) ?_
                refine lv_iload_n hC.1 hC.2.1 dX4_file_76 rfl (lv_at hl 2 rfl) ?_
                refine lv_iload_n hC.1 hC.2.1 dX4_file_77 rfl (lv_at hl 3 rfl) ?_
                refine lv_iload hC.1 hC.2.1 dX4_file_78 (lv_at hl 4 rfl) ?_
                refine lv_iconst (v := 0) hC.1 hC.2.1 dX4_file_80 (by decide) ?_
                refine lv_iconst (v := 0) hC.1 hC.2.1 dX4_file_81 (by decide) ?_
                refine lv_iconst (v := 0) hC.1 hC.2.1 dX4_file_82 (by decide) ?_
                refine meQi (rest := []) (mcV 0 hC hK hW (c_X4_make l D G M hL T N r g c s t 0 (Or.inl rfl) 0 0 hIc hI1 hI2 hI3 hI7 hlt2) (kgoodV tm_X4_197 ti_yX4_make te_yX4_make tz_X4 tc_yX4_make) mw_m rfl ⟨rfl, by decide, by decide, (show Option.map _ (parseMethodDescriptor yX4_make.desc) = some 6 from by decide +kernel)⟩ ⟨Nat.le_of_ble_eq_true rfl, Nat.le_of_ble_eq_true rfl⟩ hl.1 rfl (Nat.le_of_ble_eq_true rfl) ⟨Nat.le_refl _, Nat.le_refl _⟩ dX4_file_83) hW (fun H locs (hW : mWd D G M (mA M) zs.heap (kOt (kMk T 0 c s t 0 0)) N r g H locs) => ?_)
                exact mkrI hC hr hlk hW (by simp (config := {decide := true}) only [kif_true, kif_false, kb, kup_eq, kup_f, kup_i, not_true_eq_false, not_false_eq_true, and_true, true_and, and_false, false_and, and_self, or_true, true_or, or_false, false_or, kif_id, a_file, t_file, kMka, kMkt, c_5, c_13, c_24, c_33, c_48, c_60, c_69, hlt]) (by simp (config := {decide := true}) only [kif_true, kif_false, kb, kup_eq, kup_f, kup_i, not_true_eq_false, not_false_eq_true, and_true, true_and, and_false, false_and, and_self, or_true, true_or, or_false, false_or, kif_id, a_file, t_file, kMka, kMkt, c_5, c_13, c_24, c_33, c_48, c_60, c_69, hlt]) rfl rfl rfl dX4_file_86
              · refine lv_ldc hC.1 hC.2.1 hC.2.2.2.1 (hC.2.2.2.2 _ (kt_in tk_X4_111 rfl)) dX4_file_72 ?_
                exact mkrI hC hr hlk hW (by simp (config := {decide := true}) only [kif_true, kif_false, kb, kup_eq, kup_f, kup_i, not_true_eq_false, not_false_eq_true, and_true, true_and, and_false, false_and, and_self, or_true, true_or, or_false, false_or, kif_id, a_file, t_file, kMka, kMkt, c_5, c_13, c_24, c_33, c_48, c_60, c_69]) (by simp (config := {decide := true}) only [kif_true, kif_false, kb, kup_eq, kup_f, kup_i, not_true_eq_false, not_false_eq_true, and_true, true_and, and_false, false_and, and_self, or_true, true_or, or_false, false_or, kif_id, a_file, t_file, kMka, kMkt, c_5, c_13, c_24, c_33, c_48, c_60, c_69]) rfl rfl rfl dX4_file_74
          · refine lv_ldc hC.1 hC.2.1 hC.2.2.2.1 (hC.2.2.2.2 _ (kt_in tk_X4_135 rfl)) dX4_file_51 ?_
            exact mkrI hC hr hlk hW (by simp (config := {decide := true}) only [kif_true, kif_false, kb, kup_eq, kup_f, kup_i, not_true_eq_false, not_false_eq_true, and_true, true_and, and_false, false_and, and_self, or_true, true_or, or_false, false_or, kif_id, a_file, t_file, kMka, kMkt, c_5, c_13, c_24, c_33, c_48]) (by simp (config := {decide := true}) only [kif_true, kif_false, kb, kup_eq, kup_f, kup_i, not_true_eq_false, not_false_eq_true, and_true, true_and, and_false, false_and, and_self, or_true, true_or, or_false, false_or, kif_id, a_file, t_file, kMka, kMkt, c_5, c_13, c_24, c_33, c_48]) rfl rfl rfl dX4_file_53
        · refine lv_ldc hC.1 hC.2.1 hC.2.2.2.1 (hC.2.2.2.2 _ (kt_in tk_X4_110 rfl)) dX4_file_36 ?_
          exact mkrI hC hr hlk hW (by simp (config := {decide := true}) only [kif_true, kif_false, kb, kup_eq, kup_f, kup_i, not_true_eq_false, not_false_eq_true, and_true, true_and, and_false, false_and, and_self, or_true, true_or, or_false, false_or, kif_id, a_file, t_file, kMka, kMkt, c_5, c_13, c_24, c_33]) (by simp (config := {decide := true}) only [kif_true, kif_false, kb, kup_eq, kup_f, kup_i, not_true_eq_false, not_false_eq_true, and_true, true_and, and_false, false_and, and_self, or_true, true_or, or_false, false_or, kif_id, a_file, t_file, kMka, kMkt, c_5, c_13, c_24, c_33]) rfl rfl rfl dX4_file_38
    · refine lv_ldc hC.1 hC.2.1 hC.2.2.2.1 (hC.2.2.2.2 _ (kt_in tk_X4_107 rfl)) dX4_file_16 ?_
      exact mkrI hC hr hlk hW (by simp (config := {decide := true}) only [kif_true, kif_false, kb, kup_eq, kup_f, kup_i, not_true_eq_false, not_false_eq_true, and_true, true_and, and_false, false_and, and_self, or_true, true_or, or_false, false_or, kif_id, a_file, t_file, kMka, kMkt, c_5, c_13]) (by simp (config := {decide := true}) only [kif_true, kif_false, kb, kup_eq, kup_f, kup_i, not_true_eq_false, not_false_eq_true, and_true, true_and, and_false, false_and, and_self, or_true, true_or, or_false, false_or, kif_id, a_file, t_file, kMka, kMkt, c_5, c_13]) rfl rfl rfl dX4_file_18
