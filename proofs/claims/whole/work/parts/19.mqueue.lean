def kIq (T : kT) : Prop := ∀ x, ¬ T 14 x < 0 ∧ T 14 x ≤ 4
theorem kf40 {f : Int32} : kWt f.toInt64 0 39 ↔ (¬ f < 0 ∧ ¬ 40 ≤ f) := by
  refine Iff.trans (kwt_c (lo := 0) (hi := 39) rfl rfl) ?_
  rw [Int32.lt_iff_toInt_lt, Int32.lt_iff_toInt_lt, Int32.le_iff_toInt_le]
  have z1 : (39 : Int32).toInt = 39 := rfl
  have z2 : (40 : Int32).toInt = 40 := rfl
  omega
theorem kRm_n {T : kT} {x : Nat} (h : kIq T) : kRm T x ↔ ¬ T 14 x = 4 := by
  obtain ⟨h1, h2⟩ := h x
  unfold kRm
  rw [Int32.lt_iff_toInt_lt, Int32.le_iff_toInt_le, ← Int32.toInt_inj]
  rw [Int32.lt_iff_toInt_lt] at h1
  rw [Int32.le_iff_toInt_le] at h2
  have z1 : (4 : Int32).toInt = 4 := rfl
  omega
theorem kq_lt {T : kT} {x : Nat} (h : kIq T) (h4 : ¬ T 14 x = 4) : tn (T 14 x) < 4 := kin_lt ((kRm_n h).mpr h4).in
theorem kq_le {T : kT} {x : Nat} (h : kIq T) : tn (T 14 x) ≤ 4 := by
  obtain ⟨h1, h2⟩ := h x
  rw [Int32.le_iff_toInt_le] at h2
  rw [tn_def]
  have z1 : (4 : Int32).toInt = 4 := rfl
  omega
theorem q_ix {f w : Int32} (hf : ¬ f < 0) (hw : ¬ w < 0) : 12 * f + 3 * w = nI (12 * tn f + 3 * tn w) := by
  have e := nI_tn hf
  have e2 := nI_tn hw
  have e3 : (3 : Int32) = nI 3 := rfl
  have e4 : (12 : Int32) = nI 12 := rfl
  rw [e3, e4]
  conv => lhs; rw [e, e2]
  unfold nI
  rw [← Int32.ofNat_mul, ← Int32.ofNat_mul, ← Int32.ofNat_add]
theorem q_ixk {f : Int32} (hf : ¬ f < 0) (k : Nat) : 12 * f + nI k = nI (12 * tn f + k) := by
  have e := nI_tn hf
  have e4 : (12 : Int32) = nI 12 := rfl
  rw [e4]
  conv => lhs; rw [e]
  unfold nI
  rw [← Int32.ofNat_mul, ← Int32.ofNat_add]
theorem q_ix3 {w : Int32} (hw : ¬ w < 0) (h0 : ¬ w = 0) : 3 * (w - 1) = nI (3 * (tn w - 1)) ∧ 1 ≤ tn w := by
  have e2 := nI_tn hw
  have hp : 1 ≤ tn w := by
    rcases Nat.eq_zero_or_pos (tn w) with z | z
    · exact absurd (by rw [z] at e2; exact e2) h0
    · exact z
  refine ⟨?_, hp⟩
  have e3 : (3 : Int32) = nI 3 := rfl
  obtain ⟨j, hj⟩ : ∃ j, tn w = j + 1 := ⟨tn w - 1, by omega⟩
  rw [hj] at e2 ⊢
  rw [e3, e2, nI_pred]
  unfold nI
  rw [← Int32.ofNat_mul]
  rfl
noncomputable def r_send (T : kT) (r : Nat → Int32) (p x f v a b : Int32) : Nat → Int32 := kif (kSdg T p x f a b ∧ kSdl T x f) (upd (upd (upd r (12 * tn f + 3 * tn (T 14 (tn f))) v) (12 * tn f + 3 * tn (T 14 (tn f)) + 1) a) (12 * tn f + 3 * tn (T 14 (tn f)) + 2) b) r
def kshr (r : Nat → Int32) (b i : Nat) : Nat → Int32 := fun j => if b ≤ j ∧ j < b + i then r (j + 3) else r j
theorem kshr_0 (r : Nat → Int32) (b : Nat) : kshr r b 0 = r := by
  funext j
  unfold kshr
  rw [if_neg (by omega)]
theorem kshr_s (r : Nat → Int32) (b i : Nat) : upd (kshr r b i) (b + i) (kshr r b i (b + i + 3)) = kshr r b (i + 1) := by
  funext j
  unfold upd kshr
  by_cases h : j = b + i
  · subst h
    rw [if_pos rfl, if_neg (by omega), if_pos (by omega)]
  · rw [if_neg h]
    by_cases h2 : b ≤ j ∧ j < b + i
    · rw [if_pos h2, if_pos (by omega)]
    · rw [if_neg h2, if_neg (by omega)]
noncomputable def r_receive (T : kT) (r : Nat → Int32) (p x : Int32) : Nat → Int32 := kif (kRcg T p x) (kshr r (12 * tn x) (3 * (tn (T 14 (tn x)) - 1))) r
set_option maxHeartbeats 4000000 in
set_option maxRecDepth 100000 in
theorem c_X4_send (l : Launch) (D : va_G) (G : Nat → ClassId) (M : Nat → Nat) (hL : mL M) (T N : kT) (r g : Nat → Int32) (p : Int32) (x : Int32) (f : Int32) (v : Int32) (a : Int32) (b : Int32) (hI0 : kI0 T) (hI1 : kI1 T) (hI2 : kI2 T) (hIq : kIq T) : kM l yX4_send cX4_send 8 (some .int) 2 46 (mPc D G M T N r g [.ref (M 0), .int p, .int x, .int f, .int v, .int a, .int b]) (mQi D G M (a_send T p x f a b) (t_send T p x f v a b) N (r_send T r p x f v a b) g) (mA M) := by
  refine kBegin (by decide) (Nat.le_of_ble_eq_true rfl) ?_
  intro zp ze zs zm zargs zbelow zmeth zc hC hr hlk hB ls hl
  obtain ⟨hP, hK⟩ := hB
  have hW : mWd D G M (mA M) zs.heap T N r g zs.heap [] := mWd.start hL hP
  have hl : lv_has ls 8 [(0, .ref (M 0)), (1, .int p), (2, .int x), (3, .int f), (4, .int v), (5, .int a), (6, .int b)] := hl
  refine lv_aload_n hC.1 hC.2.1 dX4_send_0 rfl (lv_at hl 0 rfl) ?_
  refine lv_iload_n hC.1 hC.2.1 dX4_send_1 rfl (lv_at hl 1 rfl) ?_
  refine keSi (rest := []) (mcV 0 hC hK hW (c_X4_isProcess l D G M hL T N r g p hI1) (kgoodV tm_X4_103 ti_yX4_isProcess te_yX4_isProcess tz_X4 tc_yX4_isProcess) mw_m rfl ⟨rfl, by decide, by decide, (show Option.map _ (parseMethodDescriptor yX4_isProcess.desc) = some 1 from by decide +kernel)⟩ ⟨Nat.le_of_ble_eq_true rfl, Nat.le_of_ble_eq_true rfl⟩ hl.1 rfl (Nat.le_of_ble_eq_true rfl) ⟨Nat.le_refl _, Nat.le_refl _⟩ dX4_send_2) ?_
  refine kif_eq (tgt := 16) hC.1 hC.2.1 dX4_send_5 (by decide) (fun c_5 => ?_) (fun c_5 => ?_)
  · refine lv_ldc hC.1 hC.2.1 hC.2.2.2.1 (hC.2.2.2.2 _ (kt_in tk_X4_107 rfl)) dX4_send_16 ?_
    exact mkrI hC hr hlk hW (by simp (config := {decide := true}) only [kif_true, kif_false, kb, kup_eq, kup_f, kup_i, not_true_eq_false, not_false_eq_true, and_true, true_and, and_false, false_and, and_self, or_true, true_or, or_false, false_or, a_send, t_send, r_send, kSdg, kSdo, kSdd, kSdl, kOwn, kWi, t_X0_put, c_5]) (by simp (config := {decide := true}) only [kif_true, kif_false, kb, kup_eq, kup_f, kup_i, not_true_eq_false, not_false_eq_true, and_true, true_and, and_false, false_and, and_self, or_true, true_or, or_false, false_or, a_send, t_send, r_send, kSdg, kSdo, kSdd, kSdl, kOwn, kWi, t_X0_put, c_5]) rfl (by simp (config := {decide := true}) only [kif_true, kif_false, kb, kup_eq, kup_f, kup_i, not_true_eq_false, not_false_eq_true, and_true, true_and, and_false, false_and, and_self, or_true, true_or, or_false, false_or, a_send, t_send, r_send, kSdg, kSdo, kSdd, kSdl, kOwn, kWi, t_X0_put, c_5]) rfl dX4_send_18
  · refine lv_aload_n hC.1 hC.2.1 dX4_send_8 rfl (lv_at hl 0 rfl) ?_
    refine lv_iload_n hC.1 hC.2.1 dX4_send_9 rfl (lv_at hl 2 rfl) ?_
    refine keSi (rest := []) (mcV 0 hC hK hW (c_X4_isPort l D G M hL T N r g x hI2) (kgoodV tm_X4_143 ti_yX4_isPort te_yX4_isPort tz_X4 tc_yX4_isPort) mw_m rfl ⟨rfl, by decide, by decide, (show Option.map _ (parseMethodDescriptor yX4_isPort.desc) = some 1 from by decide +kernel)⟩ ⟨Nat.le_of_ble_eq_true rfl, Nat.le_of_ble_eq_true rfl⟩ hl.1 rfl (Nat.le_of_ble_eq_true rfl) ⟨Nat.le_refl _, Nat.le_refl _⟩ dX4_send_10) ?_
    refine kif_ne (tgt := 19) hC.1 hC.2.1 dX4_send_13 (by decide) (fun c_13 => ?_) (fun c_13 => ?_)
    · refine lv_iload_n hC.1 hC.2.1 dX4_send_19 rfl (lv_at hl 3 rfl) ?_
      refine lv_i2l hC.1 hC.2.1 dX4_send_20 rfl ?_
      refine lv_lconst (v := 0) hC.1 hC.2.1 dX4_send_21 (by decide) ?_
      refine lv_ldc2 hC.1 hC.2.1 hC.2.2.2.1 (hC.2.2.2.2 _ (kt_in tk_X4_146 rfl)) dX4_send_22 ?_
      refine keSi (rest := []) (kcS0 hC (c_X4_within l f.toInt64 0 (39)) (kgoodS tm_X4_93 ts_yX4_within tz_X4 tc_yX4_within) ⟨rfl, by decide, by decide, (show Option.map _ (parseMethodDescriptor yX4_within.desc) = some 3 from by decide +kernel)⟩ ⟨Nat.le_of_ble_eq_true rfl, Nat.le_of_ble_eq_true rfl⟩ hl.1 rfl (Nat.le_of_ble_eq_true rfl) ⟨Nat.le_refl _, Nat.le_refl _⟩ dX4_send_25) ?_
      refine kif_eq (tgt := 49) hC.1 hC.2.1 dX4_send_28 (by decide) (fun c_28 => ?_) (fun c_28 => ?_)
      · have hf40 : ¬ (¬ f < 0 ∧ ¬ 40 ≤ f) := fun z => c_28 (kf40.mpr z)
        refine lv_ldc hC.1 hC.2.1 hC.2.2.2.1 (hC.2.2.2.2 _ (kt_in tk_X4_110 rfl)) dX4_send_49 ?_
        exact mkrI hC hr hlk hW (by simp (config := {decide := true}) only [kif_true, kif_false, kb, kup_eq, kup_f, kup_i, not_true_eq_false, not_false_eq_true, and_true, true_and, and_false, false_and, and_self, or_true, true_or, or_false, false_or, a_send, t_send, r_send, kSdg, kSdo, kSdd, kSdl, kOwn, kWi, t_X0_put, c_5, c_13, c_28, hf40]) (by simp (config := {decide := true}) only [kif_true, kif_false, kb, kup_eq, kup_f, kup_i, not_true_eq_false, not_false_eq_true, and_true, true_and, and_false, false_and, and_self, or_true, true_or, or_false, false_or, a_send, t_send, r_send, kSdg, kSdo, kSdd, kSdl, kOwn, kWi, t_X0_put, c_5, c_13, c_28, hf40]) rfl (by simp (config := {decide := true}) only [kif_true, kif_false, kb, kup_eq, kup_f, kup_i, not_true_eq_false, not_false_eq_true, and_true, true_and, and_false, false_and, and_self, or_true, true_or, or_false, false_or, a_send, t_send, r_send, kSdg, kSdo, kSdd, kSdl, kOwn, kWi, t_X0_put, c_5, c_13, c_28, hf40]) rfl dX4_send_51
      · have hf40 := kf40.mp c_28
        refine lv_aload_n hC.1 hC.2.1 dX4_send_31 rfl (lv_at hl 0 rfl) ?_
        refine lv_iload hC.1 hC.2.1 dX4_send_32 (lv_at hl 5 rfl) ?_
        refine keSi (rest := []) (mcV 0 hC hK hW (c_X4_isSet l D G M hL T N r g a hI0) (kgoodV tm_X4_129 ti_yX4_isSet te_yX4_isSet tz_X4 tc_yX4_isSet) mw_m rfl ⟨rfl, by decide, by decide, (show Option.map _ (parseMethodDescriptor yX4_isSet.desc) = some 1 from by decide +kernel)⟩ ⟨Nat.le_of_ble_eq_true rfl, Nat.le_of_ble_eq_true rfl⟩ hl.1 rfl (Nat.le_of_ble_eq_true rfl) ⟨Nat.le_refl _, Nat.le_refl _⟩ dX4_send_34) ?_
        refine kif_eq (tgt := 49) hC.1 hC.2.1 dX4_send_37 (by decide) (fun c_37 => ?_) (fun c_37 => ?_)
        · refine lv_ldc hC.1 hC.2.1 hC.2.2.2.1 (hC.2.2.2.2 _ (kt_in tk_X4_110 rfl)) dX4_send_49 ?_
          exact mkrI hC hr hlk hW (by simp (config := {decide := true}) only [kif_true, kif_false, kb, kup_eq, kup_f, kup_i, not_true_eq_false, not_false_eq_true, and_true, true_and, and_false, false_and, and_self, or_true, true_or, or_false, false_or, a_send, t_send, r_send, kSdg, kSdo, kSdd, kSdl, kOwn, kWi, t_X0_put, c_5, c_13, c_28, hf40.1, hf40.2, c_37]) (by simp (config := {decide := true}) only [kif_true, kif_false, kb, kup_eq, kup_f, kup_i, not_true_eq_false, not_false_eq_true, and_true, true_and, and_false, false_and, and_self, or_true, true_or, or_false, false_or, a_send, t_send, r_send, kSdg, kSdo, kSdd, kSdl, kOwn, kWi, t_X0_put, c_5, c_13, c_28, hf40.1, hf40.2, c_37]) rfl (by simp (config := {decide := true}) only [kif_true, kif_false, kb, kup_eq, kup_f, kup_i, not_true_eq_false, not_false_eq_true, and_true, true_and, and_false, false_and, and_self, or_true, true_or, or_false, false_or, a_send, t_send, r_send, kSdg, kSdo, kSdd, kSdl, kOwn, kWi, t_X0_put, c_5, c_13, c_28, hf40.1, hf40.2, c_37]) rfl dX4_send_51
        · refine lv_aload_n hC.1 hC.2.1 dX4_send_40 rfl (lv_at hl 0 rfl) ?_
          refine lv_iload hC.1 hC.2.1 dX4_send_41 (lv_at hl 6 rfl) ?_
          refine keSi (rest := []) (mcV 0 hC hK hW (c_X4_isSet l D G M hL T N r g b hI0) (kgoodV tm_X4_129 ti_yX4_isSet te_yX4_isSet tz_X4 tc_yX4_isSet) mw_m rfl ⟨rfl, by decide, by decide, (show Option.map _ (parseMethodDescriptor yX4_isSet.desc) = some 1 from by decide +kernel)⟩ ⟨Nat.le_of_ble_eq_true rfl, Nat.le_of_ble_eq_true rfl⟩ hl.1 rfl (Nat.le_of_ble_eq_true rfl) ⟨Nat.le_refl _, Nat.le_refl _⟩ dX4_send_43) ?_
          refine kif_ne (tgt := 52) hC.1 hC.2.1 dX4_send_46 (by decide) (fun c_46 => ?_) (fun c_46 => ?_)
          · refine lv_aload_n hC.1 hC.2.1 dX4_send_52 rfl (lv_at hl 0 rfl) ?_
            refine mg4 hC hK hW 13 (v := .ref (M 9)) rfl (by decide) rfl tf_X4_35 dX4_send_53 ?_
            refine lv_iload_n hC.1 hC.2.1 dX4_send_56 rfl (lv_at hl 2 rfl) ?_
            refine mai hC hK hW 9 (by decide) rfl (i := x) c_13.in dX4_send_57 ?_
            refine lv_iload_n hC.1 hC.2.1 dX4_send_58 rfl (lv_at hl 1 rfl) ?_
            refine lv_icmp_ne (tgt := 90) hC.1 hC.2.1 dX4_send_59 (by decide) (fun c_59 => ?_) (fun c_59 => ?_)
            · refine lv_ldc hC.1 hC.2.1 hC.2.2.2.1 (hC.2.2.2.2 _ (kt_in tk_X4_135 rfl)) dX4_send_90 ?_
              exact mkrI hC hr hlk hW (by simp (config := {decide := true}) only [kif_true, kif_false, kb, kup_eq, kup_f, kup_i, not_true_eq_false, not_false_eq_true, and_true, true_and, and_false, false_and, and_self, or_true, true_or, or_false, false_or, a_send, t_send, r_send, kSdg, kSdo, kSdd, kSdl, kOwn, kWi, t_X0_put, c_5, c_13, c_28, hf40.1, hf40.2, c_37, c_46, c_59]) (by simp (config := {decide := true}) only [kif_true, kif_false, kb, kup_eq, kup_f, kup_i, not_true_eq_false, not_false_eq_true, and_true, true_and, and_false, false_and, and_self, or_true, true_or, or_false, false_or, a_send, t_send, r_send, kSdg, kSdo, kSdd, kSdl, kOwn, kWi, t_X0_put, c_5, c_13, c_28, hf40.1, hf40.2, c_37, c_46, c_59]) rfl (by simp (config := {decide := true}) only [kif_true, kif_false, kb, kup_eq, kup_f, kup_i, not_true_eq_false, not_false_eq_true, and_true, true_and, and_false, false_and, and_self, or_true, true_or, or_false, false_or, a_send, t_send, r_send, kSdg, kSdo, kSdd, kSdl, kOwn, kWi, t_X0_put, c_5, c_13, c_28, hf40.1, hf40.2, c_37, c_46, c_59]) rfl dX4_send_92
            · refine lv_iload hC.1 hC.2.1 dX4_send_62 (lv_at hl 5 rfl) ?_
              refine lv_aload_n hC.1 hC.2.1 dX4_send_64 rfl (lv_at hl 0 rfl) ?_
              refine mg4 hC hK hW 7 (v := .ref (M 4)) rfl (by decide) rfl tf_X4_20 dX4_send_65 ?_
              refine lv_iload_n hC.1 hC.2.1 dX4_send_68 rfl (lv_at hl 1 rfl) ?_
              refine mai hC hK hW 4 (by decide) rfl (i := p) c_5.in dX4_send_69 ?_
              refine lv_iconst (v := (-1)) hC.1 hC.2.1 dX4_send_70 (by decide) ?_
              refine lv_ixor hC.1 hC.2.1 dX4_send_71 ?_
              refine lv_iand hC.1 hC.2.1 dX4_send_72 ?_
              refine lv_if_ne (tgt := 90) hC.1 hC.2.1 dX4_send_73 (by decide) (fun c_73 => ?_) (fun c_73 => ?_)
              · refine lv_ldc hC.1 hC.2.1 hC.2.2.2.1 (hC.2.2.2.2 _ (kt_in tk_X4_135 rfl)) dX4_send_90 ?_
                exact mkrI hC hr hlk hW (by simp (config := {decide := true}) only [kif_true, kif_false, kb, kup_eq, kup_f, kup_i, not_true_eq_false, not_false_eq_true, and_true, true_and, and_false, false_and, and_self, or_true, true_or, or_false, false_or, a_send, t_send, r_send, kSdg, kSdo, kSdd, kSdl, kOwn, kWi, t_X0_put, c_5, c_13, c_28, hf40.1, hf40.2, c_37, c_46, c_59, c_73]) (by simp (config := {decide := true}) only [kif_true, kif_false, kb, kup_eq, kup_f, kup_i, not_true_eq_false, not_false_eq_true, and_true, true_and, and_false, false_and, and_self, or_true, true_or, or_false, false_or, a_send, t_send, r_send, kSdg, kSdo, kSdd, kSdl, kOwn, kWi, t_X0_put, c_5, c_13, c_28, hf40.1, hf40.2, c_37, c_46, c_59, c_73]) rfl (by simp (config := {decide := true}) only [kif_true, kif_false, kb, kup_eq, kup_f, kup_i, not_true_eq_false, not_false_eq_true, and_true, true_and, and_false, false_and, and_self, or_true, true_or, or_false, false_or, a_send, t_send, r_send, kSdg, kSdo, kSdd, kSdl, kOwn, kWi, t_X0_put, c_5, c_13, c_28, hf40.1, hf40.2, c_37, c_46, c_59, c_73]) rfl dX4_send_92
              · refine lv_iload hC.1 hC.2.1 dX4_send_76 (lv_at hl 6 rfl) ?_
                refine lv_aload_n hC.1 hC.2.1 dX4_send_78 rfl (lv_at hl 0 rfl) ?_
                refine mg4 hC hK hW 8 (v := .ref (M 5)) rfl (by decide) rfl tf_X4_23 dX4_send_79 ?_
                refine lv_iload_n hC.1 hC.2.1 dX4_send_82 rfl (lv_at hl 1 rfl) ?_
                refine mai hC hK hW 5 (by decide) rfl (i := p) c_5.in dX4_send_83 ?_
                refine lv_iconst (v := (-1)) hC.1 hC.2.1 dX4_send_84 (by decide) ?_
                refine lv_ixor hC.1 hC.2.1 dX4_send_85 ?_
                refine lv_iand hC.1 hC.2.1 dX4_send_86 ?_
                refine lv_if_eq (tgt := 93) hC.1 hC.2.1 dX4_send_87 (by decide) (fun c_87 => ?_) (fun c_87 => ?_)
                · refine lv_aload_n hC.1 hC.2.1 dX4_send_93 rfl (lv_at hl 0 rfl) ?_
                  refine lv_iload_n hC.1 hC.2.1 dX4_send_94 rfl (lv_at hl 3 rfl) ?_
                  refine keSi (rest := []) (mcV 0 hC hK hW (c_X4_isPort l D G M hL T N r g f hI2) (kgoodV tm_X4_143 ti_yX4_isPort te_yX4_isPort tz_X4 tc_yX4_isPort) mw_m rfl ⟨rfl, by decide, by decide, (show Option.map _ (parseMethodDescriptor yX4_isPort.desc) = some 1 from by decide +kernel)⟩ ⟨Nat.le_of_ble_eq_true rfl, Nat.le_of_ble_eq_true rfl⟩ hl.1 rfl (Nat.le_of_ble_eq_true rfl) ⟨Nat.le_refl _, Nat.le_refl _⟩ dX4_send_95) ?_
                  refine kif_eq (tgt := 141) hC.1 hC.2.1 dX4_send_98 (by decide) (fun c_98 => ?_) (fun c_98 => ?_)
                  · refine lv_aload_n hC.1 hC.2.1 dX4_send_141 rfl (lv_at hl 0 rfl) ?_
                    refine lv_dup hC.1 hC.2.1 dX4_send_142 rfl ?_
                    refine mg4 hC hK hW 31 (v := .int (T 0 6)) rfl (by decide) rfl tf_X4_152 dX4_send_143 ?_
                    refine lv_iconst (v := 1) hC.1 hC.2.1 dX4_send_146 (by decide) ?_
                    refine lv_iadd hC.1 hC.2.1 dX4_send_147 ?_
                    refine mp4 hC hK hW 31 (by decide) rfl rfl (by decide +kernel) (mw_put_31 ((T 0 6) + 1)) tf_X4_152 dX4_send_148 (fun H locs (hW : mWd D G M (mA M) zs.heap (kup T 0 6 ((T 0 6) + 1)) N r g H locs) => ?_)
                    refine lv_iconst (v := 1) hC.1 hC.2.1 dX4_send_151 (by decide) ?_
                    exact mkrI hC hr hlk hW (by simp (config := {decide := true}) only [kif_true, kif_false, kb, kup_eq, kup_f, kup_i, not_true_eq_false, not_false_eq_true, and_true, true_and, and_false, false_and, and_self, or_true, true_or, or_false, false_or, a_send, t_send, r_send, kSdg, kSdo, kSdd, kSdl, kOwn, kWi, t_X0_put, c_5, c_13, c_28, hf40.1, hf40.2, c_37, c_46, c_59, c_73, c_87, c_98]) (by simp (config := {decide := true}) only [kif_true, kif_false, kb, kup_eq, kup_f, kup_i, not_true_eq_false, not_false_eq_true, and_true, true_and, and_false, false_and, and_self, or_true, true_or, or_false, false_or, a_send, t_send, r_send, kSdg, kSdo, kSdd, kSdl, kOwn, kWi, t_X0_put, c_5, c_13, c_28, hf40.1, hf40.2, c_37, c_46, c_59, c_73, c_87, c_98]) rfl (by simp (config := {decide := true}) only [kif_true, kif_false, kb, kup_eq, kup_f, kup_i, not_true_eq_false, not_false_eq_true, and_true, true_and, and_false, false_and, and_self, or_true, true_or, or_false, false_or, a_send, t_send, r_send, kSdg, kSdo, kSdd, kSdl, kOwn, kWi, t_X0_put, c_5, c_13, c_28, hf40.1, hf40.2, c_37, c_46, c_59, c_73, c_87, c_98]) rfl dX4_send_152
                  · refine lv_aload_n hC.1 hC.2.1 dX4_send_101 rfl (lv_at hl 0 rfl) ?_
                    refine mg4 hC hK hW 16 (v := .ref (M 12)) rfl (by decide) rfl tf_X4_44 dX4_send_102 ?_
                    refine lv_iload_n hC.1 hC.2.1 dX4_send_105 rfl (lv_at hl 3 rfl) ?_
                    refine mai hC hK hW 12 (by decide) rfl (i := f) c_98.in dX4_send_106 ?_
                    refine lv_iconst (v := 4) hC.1 hC.2.1 dX4_send_107 (by decide) ?_
                    refine lv_icmp_eq (tgt := 141) hC.1 hC.2.1 dX4_send_108 (by decide) (fun c_108 => ?_) (fun c_108 => ?_)
                    · have hrm : ¬ kRm T (tn f) := fun z => (kRm_n hIq).mp z c_108
                      refine lv_aload_n hC.1 hC.2.1 dX4_send_141 rfl (lv_at hl 0 rfl) ?_
                      refine lv_dup hC.1 hC.2.1 dX4_send_142 rfl ?_
                      refine mg4 hC hK hW 31 (v := .int (T 0 6)) rfl (by decide) rfl tf_X4_152 dX4_send_143 ?_
                      refine lv_iconst (v := 1) hC.1 hC.2.1 dX4_send_146 (by decide) ?_
                      refine lv_iadd hC.1 hC.2.1 dX4_send_147 ?_
                      refine mp4 hC hK hW 31 (by decide) rfl rfl (by decide +kernel) (mw_put_31 ((T 0 6) + 1)) tf_X4_152 dX4_send_148 (fun H locs (hW : mWd D G M (mA M) zs.heap (kup T 0 6 ((T 0 6) + 1)) N r g H locs) => ?_)
                      refine lv_iconst (v := 1) hC.1 hC.2.1 dX4_send_151 (by decide) ?_
                      exact mkrI hC hr hlk hW (by simp (config := {decide := true}) only [kif_true, kif_false, kb, kup_eq, kup_f, kup_i, not_true_eq_false, not_false_eq_true, and_true, true_and, and_false, false_and, and_self, or_true, true_or, or_false, false_or, a_send, t_send, r_send, kSdg, kSdo, kSdd, kSdl, kOwn, kWi, t_X0_put, c_5, c_13, c_28, hf40.1, hf40.2, c_37, c_46, c_59, c_73, c_87, c_98, c_108, hrm]) (by simp (config := {decide := true}) only [kif_true, kif_false, kb, kup_eq, kup_f, kup_i, not_true_eq_false, not_false_eq_true, and_true, true_and, and_false, false_and, and_self, or_true, true_or, or_false, false_or, a_send, t_send, r_send, kSdg, kSdo, kSdd, kSdl, kOwn, kWi, t_X0_put, c_5, c_13, c_28, hf40.1, hf40.2, c_37, c_46, c_59, c_73, c_87, c_98, c_108, hrm]) rfl (by simp (config := {decide := true}) only [kif_true, kif_false, kb, kup_eq, kup_f, kup_i, not_true_eq_false, not_false_eq_true, and_true, true_and, and_false, false_and, and_self, or_true, true_or, or_false, false_or, a_send, t_send, r_send, kSdg, kSdo, kSdd, kSdl, kOwn, kWi, t_X0_put, c_5, c_13, c_28, hf40.1, hf40.2, c_37, c_46, c_59, c_73, c_87, c_98, c_108, hrm]) rfl dX4_send_152
                    · refine lv_aload_n hC.1 hC.2.1 dX4_send_111 rfl (lv_at hl 0 rfl) ?_
                      refine mg4 hC hK hW 14 (v := .ref (M 10)) rfl (by decide) rfl tf_X4_38 dX4_send_112 ?_
                      refine lv_iload_n hC.1 hC.2.1 dX4_send_115 rfl (lv_at hl 2 rfl) ?_
                      refine mai hC hK hW 10 (by decide) rfl (i := x) c_13.in dX4_send_116 ?_
                      refine lv_aload_n hC.1 hC.2.1 dX4_send_117 rfl (lv_at hl 0 rfl) ?_
                      refine mg4 hC hK hW 15 (v := .ref (M 11)) rfl (by decide) rfl tf_X4_41 dX4_send_118 ?_
                      refine lv_iload_n hC.1 hC.2.1 dX4_send_121 rfl (lv_at hl 2 rfl) ?_
                      refine mai hC hK hW 11 (by decide) rfl (i := x) c_13.in dX4_send_122 ?_
                      refine lv_aload_n hC.1 hC.2.1 dX4_send_123 rfl (lv_at hl 0 rfl) ?_
                      refine mg4 hC hK hW 14 (v := .ref (M 10)) rfl (by decide) rfl tf_X4_38 dX4_send_124 ?_
                      refine lv_iload_n hC.1 hC.2.1 dX4_send_127 rfl (lv_at hl 3 rfl) ?_
                      refine mai hC hK hW 10 (by decide) rfl (i := f) c_98.in dX4_send_128 ?_
                      refine lv_aload_n hC.1 hC.2.1 dX4_send_129 rfl (lv_at hl 0 rfl) ?_
                      refine mg4 hC hK hW 15 (v := .ref (M 11)) rfl (by decide) rfl tf_X4_41 dX4_send_130 ?_
                      refine lv_iload_n hC.1 hC.2.1 dX4_send_133 rfl (lv_at hl 3 rfl) ?_
                      refine mai hC hK hW 11 (by decide) rfl (i := f) c_98.in dX4_send_134 ?_
                      refine keSi (rest := []) (kcS0 hC (c_X4_flows l (T 12 (tn x)) (T 13 (tn x)) (T 12 (tn f)) (T 13 (tn f))) (kgoodS tm_X4_148 ts_yX4_flows tz_X4 tc_yX4_flows) ⟨rfl, by decide, by decide, (show Option.map _ (parseMethodDescriptor yX4_flows.desc) = some 4 from by decide +kernel)⟩ ⟨Nat.le_of_ble_eq_true rfl, Nat.le_of_ble_eq_true rfl⟩ hl.1 rfl (Nat.le_of_ble_eq_true rfl) ⟨Nat.le_refl _, Nat.le_refl _⟩ dX4_send_135) ?_
                      refine kif_ne (tgt := 153) hC.1 hC.2.1 dX4_send_138 (by decide) (fun c_138 => ?_) (fun c_138 => ?_)
                      · have hrm := (kRm_n hIq).mpr c_108
                        have hq4 := kq_lt hIq c_108
                        have hf4 := c_98.lt
                        refine lv_bipush (v := 12) hC.1 hC.2.1 dX4_send_153 (by decide) ?_
                        refine lv_iload_n hC.1 hC.2.1 dX4_send_155 rfl (lv_at hl 3 rfl) ?_
                        refine lv_imul hC.1 hC.2.1 dX4_send_156 ?_
                        refine lv_iconst (v := 3) hC.1 hC.2.1 dX4_send_157 (by decide) ?_
                        refine lv_aload_n hC.1 hC.2.1 dX4_send_158 rfl (lv_at hl 0 rfl) ?_
                        refine mg4 hC hK hW 16 (v := .ref (M 12)) rfl (by decide) rfl tf_X4_44 dX4_send_159 ?_
                        refine lv_iload_n hC.1 hC.2.1 dX4_send_162 rfl (lv_at hl 3 rfl) ?_
                        refine mai hC hK hW 12 (by decide) rfl (i := f) c_98.in dX4_send_163 ?_
                        refine lv_imul hC.1 hC.2.1 dX4_send_164 ?_
                        refine lv_iadd hC.1 hC.2.1 dX4_send_165 ?_
                        rw [show (((12 * f) + (3 * (T 14 (tn f)))) : Int32) = nI (12 * tn f + 3 * tn (T 14 (tn f))) from (q_ix c_98.1 (hIq (tn f)).1)]
                        refine lv_istore (lv' := [(7, .int (nI (12 * tn f + 3 * tn (T 14 (tn f))))), (0, .ref (M 0)), (1, .int p), (2, .int x), (3, .int f), (4, .int v), (5, .int a), (6, .int b)]) hC.1 hC.2.1 dX4_send_166 hl (by decide) rfl (fun ls hl => ?_)
                        refine lv_aload_n hC.1 hC.2.1 dX4_send_168 rfl (lv_at hl 1 rfl) ?_
                        refine mg4 hC hK hW 17 (v := .ref (M 13)) rfl (by decide) rfl tf_X4_47 dX4_send_169 ?_
                        refine lv_iload hC.1 hC.2.1 dX4_send_172 (lv_at hl 0 rfl) ?_
                        refine lv_iload hC.1 hC.2.1 dX4_send_174 (lv_at hl 5 rfl) ?_
                        refine mai_sN hC hK hW 13 (by decide) rfl (i := (12 * tn f + 3 * tn (T 14 (tn f)))) (by omega) (mw_q (12 * tn f + 3 * tn (T 14 (tn f))) v) dX4_send_176 (fun H locs (hW : mWd D G M (mA M) zs.heap T N (upd r (12 * tn f + 3 * tn (T 14 (tn f))) v) g H locs) => ?_)
                        refine lv_aload_n hC.1 hC.2.1 dX4_send_177 rfl (lv_at hl 1 rfl) ?_
                        refine mg4 hC hK hW 17 (v := .ref (M 13)) rfl (by decide) rfl tf_X4_47 dX4_send_178 ?_
                        refine lv_iload hC.1 hC.2.1 dX4_send_181 (lv_at hl 0 rfl) ?_
                        refine lv_iconst (v := 1) hC.1 hC.2.1 dX4_send_183 (by decide) ?_
                        refine lv_iadd hC.1 hC.2.1 dX4_send_184 ?_
                        rw [show (((nI (12 * tn f + 3 * tn (T 14 (tn f)))) + 1) : Int32) = nI (12 * tn f + 3 * tn (T 14 (tn f)) + 1) from (nI_add _ 1)]
                        refine lv_iload hC.1 hC.2.1 dX4_send_185 (lv_at hl 6 rfl) ?_
                        refine mai_sN hC hK hW 13 (by decide) rfl (i := (12 * tn f + 3 * tn (T 14 (tn f)) + 1)) (by omega) (mw_q (12 * tn f + 3 * tn (T 14 (tn f)) + 1) a) dX4_send_187 (fun H locs (hW : mWd D G M (mA M) zs.heap T N (upd (upd r (12 * tn f + 3 * tn (T 14 (tn f))) v) (12 * tn f + 3 * tn (T 14 (tn f)) + 1) a) g H locs) => ?_)
                        refine lv_aload_n hC.1 hC.2.1 dX4_send_188 rfl (lv_at hl 1 rfl) ?_
                        refine mg4 hC hK hW 17 (v := .ref (M 13)) rfl (by decide) rfl tf_X4_47 dX4_send_189 ?_
                        refine lv_iload hC.1 hC.2.1 dX4_send_192 (lv_at hl 0 rfl) ?_
                        refine lv_iconst (v := 2) hC.1 hC.2.1 dX4_send_194 (by decide) ?_
                        refine lv_iadd hC.1 hC.2.1 dX4_send_195 ?_
                        rw [show (((nI (12 * tn f + 3 * tn (T 14 (tn f)))) + 2) : Int32) = nI (12 * tn f + 3 * tn (T 14 (tn f)) + 2) from (nI_add _ 2)]
                        refine lv_iload hC.1 hC.2.1 dX4_send_196 (lv_at hl 7 rfl) ?_
                        refine mai_sN hC hK hW 13 (by decide) rfl (i := (12 * tn f + 3 * tn (T 14 (tn f)) + 2)) (by omega) (mw_q (12 * tn f + 3 * tn (T 14 (tn f)) + 2) b) dX4_send_198 (fun H locs (hW : mWd D G M (mA M) zs.heap T N (upd (upd (upd r (12 * tn f + 3 * tn (T 14 (tn f))) v) (12 * tn f + 3 * tn (T 14 (tn f)) + 1) a) (12 * tn f + 3 * tn (T 14 (tn f)) + 2) b) g H locs) => ?_)
                        refine lv_aload_n hC.1 hC.2.1 dX4_send_199 rfl (lv_at hl 1 rfl) ?_
                        refine mg4 hC hK hW 16 (v := .ref (M 12)) rfl (by decide) rfl tf_X4_44 dX4_send_200 ?_
                        refine lv_iload_n hC.1 hC.2.1 dX4_send_203 rfl (lv_at hl 4 rfl) ?_
                        refine lv_dup2_11 hC.1 hC.2.1 dX4_send_204 rfl rfl ?_
                        refine mai hC hK hW 12 (by decide) rfl (i := f) c_98.in dX4_send_205 ?_
                        refine lv_iconst (v := 1) hC.1 hC.2.1 dX4_send_206 (by decide) ?_
                        refine lv_iadd hC.1 hC.2.1 dX4_send_207 ?_
                        refine mai_s hC hK hW 12 (by decide) rfl (i := f) c_98.in (mw_ar_12 (tn f) ((T 14 (tn f)) + 1)) dX4_send_208 (fun H locs (hW : mWd D G M (mA M) zs.heap (kup T 14 (tn f) ((T 14 (tn f)) + 1)) N (upd (upd (upd r (12 * tn f + 3 * tn (T 14 (tn f))) v) (12 * tn f + 3 * tn (T 14 (tn f)) + 1) a) (12 * tn f + 3 * tn (T 14 (tn f)) + 2) b) g H locs) => ?_)
                        refine lv_iconst (v := 1) hC.1 hC.2.1 dX4_send_209 (by decide) ?_
                        exact mkrI hC hr hlk hW (by simp (config := {decide := true}) only [kif_true, kif_false, kb, kup_eq, kup_f, kup_i, not_true_eq_false, not_false_eq_true, and_true, true_and, and_false, false_and, and_self, or_true, true_or, or_false, false_or, a_send, t_send, r_send, kSdg, kSdo, kSdd, kSdl, kOwn, kWi, t_X0_put, c_5, c_13, c_28, hf40.1, hf40.2, c_37, c_46, c_59, c_73, c_87, c_98, c_108, c_138, hrm]) (by simp (config := {decide := true}) only [kif_true, kif_false, kb, kup_eq, kup_f, kup_i, not_true_eq_false, not_false_eq_true, and_true, true_and, and_false, false_and, and_self, or_true, true_or, or_false, false_or, a_send, t_send, r_send, kSdg, kSdo, kSdd, kSdl, kOwn, kWi, t_X0_put, c_5, c_13, c_28, hf40.1, hf40.2, c_37, c_46, c_59, c_73, c_87, c_98, c_108, c_138, hrm]) rfl (by simp (config := {decide := true}) only [kif_true, kif_false, kb, kup_eq, kup_f, kup_i, not_true_eq_false, not_false_eq_true, and_true, true_and, and_false, false_and, and_self, or_true, true_or, or_false, false_or, a_send, t_send, r_send, kSdg, kSdo, kSdd, kSdl, kOwn, kWi, t_X0_put, c_5, c_13, c_28, hf40.1, hf40.2, c_37, c_46, c_59, c_73, c_87, c_98, c_108, c_138, hrm]) rfl dX4_send_210
                      · have hrm := (kRm_n hIq).mpr c_108
                        refine lv_aload_n hC.1 hC.2.1 dX4_send_141 rfl (lv_at hl 0 rfl) ?_
                        refine lv_dup hC.1 hC.2.1 dX4_send_142 rfl ?_
                        refine mg4 hC hK hW 31 (v := .int (T 0 6)) rfl (by decide) rfl tf_X4_152 dX4_send_143 ?_
                        refine lv_iconst (v := 1) hC.1 hC.2.1 dX4_send_146 (by decide) ?_
                        refine lv_iadd hC.1 hC.2.1 dX4_send_147 ?_
                        refine mp4 hC hK hW 31 (by decide) rfl rfl (by decide +kernel) (mw_put_31 ((T 0 6) + 1)) tf_X4_152 dX4_send_148 (fun H locs (hW : mWd D G M (mA M) zs.heap (kup T 0 6 ((T 0 6) + 1)) N r g H locs) => ?_)
                        refine lv_iconst (v := 1) hC.1 hC.2.1 dX4_send_151 (by decide) ?_
                        exact mkrI hC hr hlk hW (by simp (config := {decide := true}) only [kif_true, kif_false, kb, kup_eq, kup_f, kup_i, not_true_eq_false, not_false_eq_true, and_true, true_and, and_false, false_and, and_self, or_true, true_or, or_false, false_or, a_send, t_send, r_send, kSdg, kSdo, kSdd, kSdl, kOwn, kWi, t_X0_put, c_5, c_13, c_28, hf40.1, hf40.2, c_37, c_46, c_59, c_73, c_87, c_98, c_108, c_138, hrm]) (by simp (config := {decide := true}) only [kif_true, kif_false, kb, kup_eq, kup_f, kup_i, not_true_eq_false, not_false_eq_true, and_true, true_and, and_false, false_and, and_self, or_true, true_or, or_false, false_or, a_send, t_send, r_send, kSdg, kSdo, kSdd, kSdl, kOwn, kWi, t_X0_put, c_5, c_13, c_28, hf40.1, hf40.2, c_37, c_46, c_59, c_73, c_87, c_98, c_108, c_138, hrm]) rfl (by simp (config := {decide := true}) only [kif_true, kif_false, kb, kup_eq, kup_f, kup_i, not_true_eq_false, not_false_eq_true, and_true, true_and, and_false, false_and, and_self, or_true, true_or, or_false, false_or, a_send, t_send, r_send, kSdg, kSdo, kSdd, kSdl, kOwn, kWi, t_X0_put, c_5, c_13, c_28, hf40.1, hf40.2, c_37, c_46, c_59, c_73, c_87, c_98, c_108, c_138, hrm]) rfl dX4_send_152
                · refine lv_ldc hC.1 hC.2.1 hC.2.2.2.1 (hC.2.2.2.2 _ (kt_in tk_X4_135 rfl)) dX4_send_90 ?_
                  exact mkrI hC hr hlk hW (by simp (config := {decide := true}) only [kif_true, kif_false, kb, kup_eq, kup_f, kup_i, not_true_eq_false, not_false_eq_true, and_true, true_and, and_false, false_and, and_self, or_true, true_or, or_false, false_or, a_send, t_send, r_send, kSdg, kSdo, kSdd, kSdl, kOwn, kWi, t_X0_put, c_5, c_13, c_28, hf40.1, hf40.2, c_37, c_46, c_59, c_73, c_87]) (by simp (config := {decide := true}) only [kif_true, kif_false, kb, kup_eq, kup_f, kup_i, not_true_eq_false, not_false_eq_true, and_true, true_and, and_false, false_and, and_self, or_true, true_or, or_false, false_or, a_send, t_send, r_send, kSdg, kSdo, kSdd, kSdl, kOwn, kWi, t_X0_put, c_5, c_13, c_28, hf40.1, hf40.2, c_37, c_46, c_59, c_73, c_87]) rfl (by simp (config := {decide := true}) only [kif_true, kif_false, kb, kup_eq, kup_f, kup_i, not_true_eq_false, not_false_eq_true, and_true, true_and, and_false, false_and, and_self, or_true, true_or, or_false, false_or, a_send, t_send, r_send, kSdg, kSdo, kSdd, kSdl, kOwn, kWi, t_X0_put, c_5, c_13, c_28, hf40.1, hf40.2, c_37, c_46, c_59, c_73, c_87]) rfl dX4_send_92
          · refine lv_ldc hC.1 hC.2.1 hC.2.2.2.1 (hC.2.2.2.2 _ (kt_in tk_X4_110 rfl)) dX4_send_49 ?_
            exact mkrI hC hr hlk hW (by simp (config := {decide := true}) only [kif_true, kif_false, kb, kup_eq, kup_f, kup_i, not_true_eq_false, not_false_eq_true, and_true, true_and, and_false, false_and, and_self, or_true, true_or, or_false, false_or, a_send, t_send, r_send, kSdg, kSdo, kSdd, kSdl, kOwn, kWi, t_X0_put, c_5, c_13, c_28, hf40.1, hf40.2, c_37, c_46]) (by simp (config := {decide := true}) only [kif_true, kif_false, kb, kup_eq, kup_f, kup_i, not_true_eq_false, not_false_eq_true, and_true, true_and, and_false, false_and, and_self, or_true, true_or, or_false, false_or, a_send, t_send, r_send, kSdg, kSdo, kSdd, kSdl, kOwn, kWi, t_X0_put, c_5, c_13, c_28, hf40.1, hf40.2, c_37, c_46]) rfl (by simp (config := {decide := true}) only [kif_true, kif_false, kb, kup_eq, kup_f, kup_i, not_true_eq_false, not_false_eq_true, and_true, true_and, and_false, false_and, and_self, or_true, true_or, or_false, false_or, a_send, t_send, r_send, kSdg, kSdo, kSdd, kSdl, kOwn, kWi, t_X0_put, c_5, c_13, c_28, hf40.1, hf40.2, c_37, c_46]) rfl dX4_send_51
    · refine lv_ldc hC.1 hC.2.1 hC.2.2.2.1 (hC.2.2.2.2 _ (kt_in tk_X4_107 rfl)) dX4_send_16 ?_
      exact mkrI hC hr hlk hW (by simp (config := {decide := true}) only [kif_true, kif_false, kb, kup_eq, kup_f, kup_i, not_true_eq_false, not_false_eq_true, and_true, true_and, and_false, false_and, and_self, or_true, true_or, or_false, false_or, a_send, t_send, r_send, kSdg, kSdo, kSdd, kSdl, kOwn, kWi, t_X0_put, c_5, c_13]) (by simp (config := {decide := true}) only [kif_true, kif_false, kb, kup_eq, kup_f, kup_i, not_true_eq_false, not_false_eq_true, and_true, true_and, and_false, false_and, and_self, or_true, true_or, or_false, false_or, a_send, t_send, r_send, kSdg, kSdo, kSdd, kSdl, kOwn, kWi, t_X0_put, c_5, c_13]) rfl (by simp (config := {decide := true}) only [kif_true, kif_false, kb, kup_eq, kup_f, kup_i, not_true_eq_false, not_false_eq_true, and_true, true_and, and_false, false_and, and_self, or_true, true_or, or_false, false_or, a_send, t_send, r_send, kSdg, kSdo, kSdd, kSdl, kOwn, kWi, t_X0_put, c_5, c_13]) rfl dX4_send_18
set_option maxHeartbeats 4000000 in
set_option maxRecDepth 100000 in
theorem c_X4_receive (l : Launch) (D : va_G) (G : Nat → ClassId) (M : Nat → Nat) (hL : mL M) (T N : kT) (r g : Nat → Int32) (p : Int32) (x : Int32) (hI1 : kI1 T) (hI2 : kI2 T) (hIq : kIq T) : kM l yX4_receive cX4_receive 4 (some .int) 2 46 (mPc D G M T N r g [.ref (M 0), .int p, .int x]) (mQi D G M (a_receive T p x) (t_receive T p x (r (12 * tn x + 0)) (r (12 * tn x + 1)) (r (12 * tn x + 2))) N (r_receive T r p x) g) (mA M) := by
  refine kBegin (by decide) (Nat.le_of_ble_eq_true rfl) ?_
  intro zp ze zs zm zargs zbelow zmeth zc hC hr hlk hB ls hl
  obtain ⟨hP, hK⟩ := hB
  have hW : mWd D G M (mA M) zs.heap T N r g zs.heap [] := mWd.start hL hP
  have hl : lv_has ls 4 [(0, .ref (M 0)), (1, .int p), (2, .int x)] := hl
  refine lv_aload_n hC.1 hC.2.1 dX4_receive_0 rfl (lv_at hl 0 rfl) ?_
  refine lv_iload_n hC.1 hC.2.1 dX4_receive_1 rfl (lv_at hl 1 rfl) ?_
  refine keSi (rest := []) (mcV 0 hC hK hW (c_X4_isProcess l D G M hL T N r g p hI1) (kgoodV tm_X4_103 ti_yX4_isProcess te_yX4_isProcess tz_X4 tc_yX4_isProcess) mw_m rfl ⟨rfl, by decide, by decide, (show Option.map _ (parseMethodDescriptor yX4_isProcess.desc) = some 1 from by decide +kernel)⟩ ⟨Nat.le_of_ble_eq_true rfl, Nat.le_of_ble_eq_true rfl⟩ hl.1 rfl (Nat.le_of_ble_eq_true rfl) ⟨Nat.le_refl _, Nat.le_refl _⟩ dX4_receive_2) ?_
  refine kif_eq (tgt := 16) hC.1 hC.2.1 dX4_receive_5 (by decide) (fun c_5 => ?_) (fun c_5 => ?_)
  · refine lv_ldc hC.1 hC.2.1 hC.2.2.2.1 (hC.2.2.2.2 _ (kt_in tk_X4_107 rfl)) dX4_receive_16 ?_
    exact mkrI hC hr hlk hW (by simp (config := {decide := true}) only [kif_true, kif_false, kb, kup_eq, kup_f, kup_i, not_true_eq_false, not_false_eq_true, and_true, true_and, and_false, false_and, and_self, or_true, true_or, or_false, false_or, a_receive, t_receive, r_receive, kRcg, t_X0_moveUp, t_X2_take, c_5]) (by simp (config := {decide := true}) only [kif_true, kif_false, kb, kup_eq, kup_f, kup_i, not_true_eq_false, not_false_eq_true, and_true, true_and, and_false, false_and, and_self, or_true, true_or, or_false, false_or, a_receive, t_receive, r_receive, kRcg, t_X0_moveUp, t_X2_take, c_5]) rfl (by simp (config := {decide := true}) only [kif_true, kif_false, kb, kup_eq, kup_f, kup_i, not_true_eq_false, not_false_eq_true, and_true, true_and, and_false, false_and, and_self, or_true, true_or, or_false, false_or, a_receive, t_receive, r_receive, kRcg, t_X0_moveUp, t_X2_take, c_5]) rfl dX4_receive_18
  · refine lv_aload_n hC.1 hC.2.1 dX4_receive_8 rfl (lv_at hl 0 rfl) ?_
    refine lv_iload_n hC.1 hC.2.1 dX4_receive_9 rfl (lv_at hl 2 rfl) ?_
    refine keSi (rest := []) (mcV 0 hC hK hW (c_X4_isPort l D G M hL T N r g x hI2) (kgoodV tm_X4_143 ti_yX4_isPort te_yX4_isPort tz_X4 tc_yX4_isPort) mw_m rfl ⟨rfl, by decide, by decide, (show Option.map _ (parseMethodDescriptor yX4_isPort.desc) = some 1 from by decide +kernel)⟩ ⟨Nat.le_of_ble_eq_true rfl, Nat.le_of_ble_eq_true rfl⟩ hl.1 rfl (Nat.le_of_ble_eq_true rfl) ⟨Nat.le_refl _, Nat.le_refl _⟩ dX4_receive_10) ?_
    refine kif_ne (tgt := 19) hC.1 hC.2.1 dX4_receive_13 (by decide) (fun c_13 => ?_) (fun c_13 => ?_)
    · refine lv_aload_n hC.1 hC.2.1 dX4_receive_19 rfl (lv_at hl 0 rfl) ?_
      refine mg4 hC hK hW 13 (v := .ref (M 9)) rfl (by decide) rfl tf_X4_35 dX4_receive_20 ?_
      refine lv_iload_n hC.1 hC.2.1 dX4_receive_23 rfl (lv_at hl 2 rfl) ?_
      refine mai hC hK hW 9 (by decide) rfl (i := x) c_13.in dX4_receive_24 ?_
      refine lv_iload_n hC.1 hC.2.1 dX4_receive_25 rfl (lv_at hl 1 rfl) ?_
      refine lv_icmp_eq (tgt := 32) hC.1 hC.2.1 dX4_receive_26 (by decide) (fun c_26 => ?_) (fun c_26 => ?_)
      · refine lv_aload_n hC.1 hC.2.1 dX4_receive_32 rfl (lv_at hl 0 rfl) ?_
        refine mg4 hC hK hW 16 (v := .ref (M 12)) rfl (by decide) rfl tf_X4_44 dX4_receive_33 ?_
        refine lv_iload_n hC.1 hC.2.1 dX4_receive_36 rfl (lv_at hl 2 rfl) ?_
        refine mai hC hK hW 12 (by decide) rfl (i := x) c_13.in dX4_receive_37 ?_
        refine lv_if_ne (tgt := 43) hC.1 hC.2.1 dX4_receive_38 (by decide) (fun c_38 => ?_) (fun c_38 => ?_)
        · refine lv_iconst (v := 0) hC.1 hC.2.1 dX4_receive_43 (by decide) ?_
          refine lv_istore_n (lv' := [(3, .int 0), (0, .ref (M 0)), (1, .int p), (2, .int x)]) hC.1 hC.2.1 dX4_receive_44 rfl hl (by decide) rfl (fun ls hl => ?_)
          refine lv_iload_n hC.1 hC.2.1 dX4_receive_45 rfl (lv_at hl 0 rfl) ?_
          refine lv_iconst (v := 3) hC.1 hC.2.1 dX4_receive_46 (by decide) ?_
          refine lv_icmp_ge (tgt := 77) hC.1 hC.2.1 dX4_receive_47 (by decide) (fun c_47 => ?_) (fun c_47 => ?_)
          · exact absurd c_47 (by decide)
          · refine lv_aload_n hC.1 hC.2.1 dX4_receive_50 rfl (lv_at hl 1 rfl) ?_
            refine mg4 hC hK hW 10 (v := .ref (M 7)) rfl (by decide) rfl tf_X4_29 dX4_receive_51 ?_
            refine lv_iconst (v := 3) hC.1 hC.2.1 dX4_receive_54 (by decide) ?_
            refine lv_iload_n hC.1 hC.2.1 dX4_receive_55 rfl (lv_at hl 2 rfl) ?_
            refine lv_imul hC.1 hC.2.1 dX4_receive_56 ?_
            refine lv_iload_n hC.1 hC.2.1 dX4_receive_57 rfl (lv_at hl 0 rfl) ?_
            refine lv_iadd hC.1 hC.2.1 dX4_receive_58 ?_
            rw [show (((3 * p) + 0) : Int32) = nI (3 * tn p + 0) from (tk_ix c_5.1 0)]
            refine lv_aload_n hC.1 hC.2.1 dX4_receive_59 rfl (lv_at hl 1 rfl) ?_
            refine mg4 hC hK hW 17 (v := .ref (M 13)) rfl (by decide) rfl tf_X4_47 dX4_receive_60 ?_
            refine lv_bipush (v := 12) hC.1 hC.2.1 dX4_receive_63 (by decide) ?_
            refine lv_iload_n hC.1 hC.2.1 dX4_receive_65 rfl (lv_at hl 3 rfl) ?_
            refine lv_imul hC.1 hC.2.1 dX4_receive_66 ?_
            refine lv_iload_n hC.1 hC.2.1 dX4_receive_67 rfl (lv_at hl 0 rfl) ?_
            refine lv_iadd hC.1 hC.2.1 dX4_receive_68 ?_
            rw [show (((12 * x) + 0) : Int32) = nI (12 * tn x + 0) from (q_ixk c_13.1 0)]
            refine maiN hC hK hW 13 (by decide) rfl (i := (12 * tn x + 0)) (by have z1 := c_13.lt; omega) dX4_receive_69 ?_
            refine mai_sN hC hK hW 7 (by decide) rfl (i := (3 * tn p + 0)) (by have z1 := c_5.lt; omega) (mw_tk (tn p) 0 (by omega) (r (12 * tn x + 0))) dX4_receive_70 (fun H locs (hW : mWd D G M (mA M) zs.heap (kup T (7 + 0) (tn p) (r (12 * tn x + 0))) N r g H locs) => ?_)
            refine lv_iinc (v := 1) (lv' := [(3, .int 1), (0, .ref (M 0)), (1, .int p), (2, .int x)]) hC.1 hC.2.1 dX4_receive_71 hl (k := 0) rfl rfl (by decide) rfl (fun ls hl => ?_)
            refine lv_goto (tgt := 45) hC.1 hC.2.1 dX4_receive_74 (by decide) ?_
            refine lv_iload_n hC.1 hC.2.1 dX4_receive_45 rfl (lv_at hl 0 rfl) ?_
            refine lv_iconst (v := 3) hC.1 hC.2.1 dX4_receive_46 (by decide) ?_
            refine lv_icmp_ge (tgt := 77) hC.1 hC.2.1 dX4_receive_47 (by decide) (fun c_47 => ?_) (fun c_47 => ?_)
            · exact absurd c_47 (by decide)
            · refine lv_aload_n hC.1 hC.2.1 dX4_receive_50 rfl (lv_at hl 1 rfl) ?_
              refine mg4 hC hK hW 10 (v := .ref (M 7)) rfl (by decide) rfl tf_X4_29 dX4_receive_51 ?_
              refine lv_iconst (v := 3) hC.1 hC.2.1 dX4_receive_54 (by decide) ?_
              refine lv_iload_n hC.1 hC.2.1 dX4_receive_55 rfl (lv_at hl 2 rfl) ?_
              refine lv_imul hC.1 hC.2.1 dX4_receive_56 ?_
              refine lv_iload_n hC.1 hC.2.1 dX4_receive_57 rfl (lv_at hl 0 rfl) ?_
              refine lv_iadd hC.1 hC.2.1 dX4_receive_58 ?_
              rw [show (((3 * p) + 1) : Int32) = nI (3 * tn p + 1) from (tk_ix c_5.1 1)]
              refine lv_aload_n hC.1 hC.2.1 dX4_receive_59 rfl (lv_at hl 1 rfl) ?_
              refine mg4 hC hK hW 17 (v := .ref (M 13)) rfl (by decide) rfl tf_X4_47 dX4_receive_60 ?_
              refine lv_bipush (v := 12) hC.1 hC.2.1 dX4_receive_63 (by decide) ?_
              refine lv_iload_n hC.1 hC.2.1 dX4_receive_65 rfl (lv_at hl 3 rfl) ?_
              refine lv_imul hC.1 hC.2.1 dX4_receive_66 ?_
              refine lv_iload_n hC.1 hC.2.1 dX4_receive_67 rfl (lv_at hl 0 rfl) ?_
              refine lv_iadd hC.1 hC.2.1 dX4_receive_68 ?_
              rw [show (((12 * x) + 1) : Int32) = nI (12 * tn x + 1) from (q_ixk c_13.1 1)]
              refine maiN hC hK hW 13 (by decide) rfl (i := (12 * tn x + 1)) (by have z1 := c_13.lt; omega) dX4_receive_69 ?_
              refine mai_sN hC hK hW 7 (by decide) rfl (i := (3 * tn p + 1)) (by have z1 := c_5.lt; omega) (mw_tk (tn p) 1 (by omega) (r (12 * tn x + 1))) dX4_receive_70 (fun H locs (hW : mWd D G M (mA M) zs.heap (kup (kup T (7 + 0) (tn p) (r (12 * tn x + 0))) (7 + 1) (tn p) (r (12 * tn x + 1))) N r g H locs) => ?_)
              refine lv_iinc (v := 2) (lv' := [(3, .int 2), (0, .ref (M 0)), (1, .int p), (2, .int x)]) hC.1 hC.2.1 dX4_receive_71 hl (k := 0) rfl rfl (by decide) rfl (fun ls hl => ?_)
              refine lv_goto (tgt := 45) hC.1 hC.2.1 dX4_receive_74 (by decide) ?_
              refine lv_iload_n hC.1 hC.2.1 dX4_receive_45 rfl (lv_at hl 0 rfl) ?_
              refine lv_iconst (v := 3) hC.1 hC.2.1 dX4_receive_46 (by decide) ?_
              refine lv_icmp_ge (tgt := 77) hC.1 hC.2.1 dX4_receive_47 (by decide) (fun c_47 => ?_) (fun c_47 => ?_)
              · exact absurd c_47 (by decide)
              · refine lv_aload_n hC.1 hC.2.1 dX4_receive_50 rfl (lv_at hl 1 rfl) ?_
                refine mg4 hC hK hW 10 (v := .ref (M 7)) rfl (by decide) rfl tf_X4_29 dX4_receive_51 ?_
                refine lv_iconst (v := 3) hC.1 hC.2.1 dX4_receive_54 (by decide) ?_
                refine lv_iload_n hC.1 hC.2.1 dX4_receive_55 rfl (lv_at hl 2 rfl) ?_
                refine lv_imul hC.1 hC.2.1 dX4_receive_56 ?_
                refine lv_iload_n hC.1 hC.2.1 dX4_receive_57 rfl (lv_at hl 0 rfl) ?_
                refine lv_iadd hC.1 hC.2.1 dX4_receive_58 ?_
                rw [show (((3 * p) + 2) : Int32) = nI (3 * tn p + 2) from (tk_ix c_5.1 2)]
                refine lv_aload_n hC.1 hC.2.1 dX4_receive_59 rfl (lv_at hl 1 rfl) ?_
                refine mg4 hC hK hW 17 (v := .ref (M 13)) rfl (by decide) rfl tf_X4_47 dX4_receive_60 ?_
                refine lv_bipush (v := 12) hC.1 hC.2.1 dX4_receive_63 (by decide) ?_
                refine lv_iload_n hC.1 hC.2.1 dX4_receive_65 rfl (lv_at hl 3 rfl) ?_
                refine lv_imul hC.1 hC.2.1 dX4_receive_66 ?_
                refine lv_iload_n hC.1 hC.2.1 dX4_receive_67 rfl (lv_at hl 0 rfl) ?_
                refine lv_iadd hC.1 hC.2.1 dX4_receive_68 ?_
                rw [show (((12 * x) + 2) : Int32) = nI (12 * tn x + 2) from (q_ixk c_13.1 2)]
                refine maiN hC hK hW 13 (by decide) rfl (i := (12 * tn x + 2)) (by have z1 := c_13.lt; omega) dX4_receive_69 ?_
                refine mai_sN hC hK hW 7 (by decide) rfl (i := (3 * tn p + 2)) (by have z1 := c_5.lt; omega) (mw_tk (tn p) 2 (by omega) (r (12 * tn x + 2))) dX4_receive_70 (fun H locs (hW : mWd D G M (mA M) zs.heap (kup (kup (kup T (7 + 0) (tn p) (r (12 * tn x + 0))) (7 + 1) (tn p) (r (12 * tn x + 1))) (7 + 2) (tn p) (r (12 * tn x + 2))) N r g H locs) => ?_)
                refine lv_iinc (v := 3) (lv' := [(3, .int 3), (0, .ref (M 0)), (1, .int p), (2, .int x)]) hC.1 hC.2.1 dX4_receive_71 hl (k := 0) rfl rfl (by decide) rfl (fun ls hl => ?_)
                refine lv_goto (tgt := 45) hC.1 hC.2.1 dX4_receive_74 (by decide) ?_
                refine lv_iload_n hC.1 hC.2.1 dX4_receive_45 rfl (lv_at hl 0 rfl) ?_
                refine lv_iconst (v := 3) hC.1 hC.2.1 dX4_receive_46 (by decide) ?_
                refine lv_icmp_ge (tgt := 77) hC.1 hC.2.1 dX4_receive_47 (by decide) (fun c_47 => ?_) (fun c_47 => ?_)
                · refine lv_aload_n hC.1 hC.2.1 dX4_receive_77 rfl (lv_at hl 1 rfl) ?_
                  refine mg4 hC hK hW 7 (v := .ref (M 4)) rfl (by decide) rfl tf_X4_20 dX4_receive_78 ?_
                  refine lv_iload_n hC.1 hC.2.1 dX4_receive_81 rfl (lv_at hl 2 rfl) ?_
                  refine lv_dup2_11 hC.1 hC.2.1 dX4_receive_82 rfl rfl ?_
                  refine mai hC hK hW 4 (by decide) rfl (i := p) c_5.in dX4_receive_83 ?_
                  rw [show ((kup (kup (kup T (7 + 0) (tn p) (r (12 * tn x + 0))) (7 + 1) (tn p) (r (12 * tn x + 1))) (7 + 2) (tn p) (r (12 * tn x + 2))) 5 (tn p) : Int32) = T 5 (tn p) from (by simp (config := {decide := true}) only [kup_f])]
                  refine lv_aload_n hC.1 hC.2.1 dX4_receive_84 rfl (lv_at hl 1 rfl) ?_
                  refine mg4 hC hK hW 10 (v := .ref (M 7)) rfl (by decide) rfl tf_X4_29 dX4_receive_85 ?_
                  refine lv_iconst (v := 3) hC.1 hC.2.1 dX4_receive_88 (by decide) ?_
                  refine lv_iload_n hC.1 hC.2.1 dX4_receive_89 rfl (lv_at hl 2 rfl) ?_
                  refine lv_imul hC.1 hC.2.1 dX4_receive_90 ?_
                  refine lv_iconst (v := 1) hC.1 hC.2.1 dX4_receive_91 (by decide) ?_
                  refine lv_iadd hC.1 hC.2.1 dX4_receive_92 ?_
                  rw [show (((3 * p) + 1) : Int32) = nI (3 * tn p + 1) from (tk_ix c_5.1 1)]
                  refine maiN hC hK hW 7 (by decide) rfl (i := (3 * tn p + 1)) (by have z1 := c_5.lt; omega) dX4_receive_93 ?_
                  rw [show ((kup (kup (kup T (7 + 0) (tn p) (r (12 * tn x + 0))) (7 + 1) (tn p) (r (12 * tn x + 1))) (7 + 2) (tn p) (r (12 * tn x + 2))) (7 + (3 * tn p + 1) % 3) ((3 * tn p + 1) / 3) : Int32) = r (12 * tn x + 1) from (by rw [show (3 * tn p + 1) % 3 = 1 by omega, show (3 * tn p + 1) / 3 = tn p by omega]; simp (config := {decide := true}) only [kup_eq, kup_f])]
                  refine lv_ior hC.1 hC.2.1 dX4_receive_94 ?_
                  refine mai_s hC hK hW 4 (by decide) rfl (i := p) c_5.in (mw_ar_4 (tn p) ((T 5 (tn p)) ||| (r (12 * tn x + 1)))) dX4_receive_95 (fun H locs (hW : mWd D G M (mA M) zs.heap (kup (kup (kup (kup T (7 + 0) (tn p) (r (12 * tn x + 0))) (7 + 1) (tn p) (r (12 * tn x + 1))) (7 + 2) (tn p) (r (12 * tn x + 2))) 5 (tn p) ((T 5 (tn p)) ||| (r (12 * tn x + 1)))) N r g H locs) => ?_)
                  refine lv_aload_n hC.1 hC.2.1 dX4_receive_96 rfl (lv_at hl 1 rfl) ?_
                  refine mg4 hC hK hW 8 (v := .ref (M 5)) rfl (by decide) rfl tf_X4_23 dX4_receive_97 ?_
                  refine lv_iload_n hC.1 hC.2.1 dX4_receive_100 rfl (lv_at hl 2 rfl) ?_
                  refine lv_dup2_11 hC.1 hC.2.1 dX4_receive_101 rfl rfl ?_
                  refine mai hC hK hW 5 (by decide) rfl (i := p) c_5.in dX4_receive_102 ?_
                  rw [show ((kup (kup (kup (kup T (7 + 0) (tn p) (r (12 * tn x + 0))) (7 + 1) (tn p) (r (12 * tn x + 1))) (7 + 2) (tn p) (r (12 * tn x + 2))) 5 (tn p) ((T 5 (tn p)) ||| (r (12 * tn x + 1)))) 6 (tn p) : Int32) = T 6 (tn p) from (by simp (config := {decide := true}) only [kup_f])]
                  refine lv_aload_n hC.1 hC.2.1 dX4_receive_103 rfl (lv_at hl 1 rfl) ?_
                  refine mg4 hC hK hW 10 (v := .ref (M 7)) rfl (by decide) rfl tf_X4_29 dX4_receive_104 ?_
                  refine lv_iconst (v := 3) hC.1 hC.2.1 dX4_receive_107 (by decide) ?_
                  refine lv_iload_n hC.1 hC.2.1 dX4_receive_108 rfl (lv_at hl 2 rfl) ?_
                  refine lv_imul hC.1 hC.2.1 dX4_receive_109 ?_
                  refine lv_iconst (v := 2) hC.1 hC.2.1 dX4_receive_110 (by decide) ?_
                  refine lv_iadd hC.1 hC.2.1 dX4_receive_111 ?_
                  rw [show (((3 * p) + 2) : Int32) = nI (3 * tn p + 2) from (tk_ix c_5.1 2)]
                  refine maiN hC hK hW 7 (by decide) rfl (i := (3 * tn p + 2)) (by have z1 := c_5.lt; omega) dX4_receive_112 ?_
                  rw [show ((kup (kup (kup (kup T (7 + 0) (tn p) (r (12 * tn x + 0))) (7 + 1) (tn p) (r (12 * tn x + 1))) (7 + 2) (tn p) (r (12 * tn x + 2))) 5 (tn p) ((T 5 (tn p)) ||| (r (12 * tn x + 1)))) (7 + (3 * tn p + 2) % 3) ((3 * tn p + 2) / 3) : Int32) = r (12 * tn x + 2) from (by rw [show (3 * tn p + 2) % 3 = 2 by omega, show (3 * tn p + 2) / 3 = tn p by omega]; simp (config := {decide := true}) only [kup_eq, kup_f])]
                  refine lv_ior hC.1 hC.2.1 dX4_receive_113 ?_
                  refine mai_s hC hK hW 5 (by decide) rfl (i := p) c_5.in (mw_ar_5 (tn p) ((T 6 (tn p)) ||| (r (12 * tn x + 2)))) dX4_receive_114 (fun H locs (hW : mWd D G M (mA M) zs.heap (kup (kup (kup (kup (kup T (7 + 0) (tn p) (r (12 * tn x + 0))) (7 + 1) (tn p) (r (12 * tn x + 1))) (7 + 2) (tn p) (r (12 * tn x + 2))) 5 (tn p) ((T 5 (tn p)) ||| (r (12 * tn x + 1)))) 6 (tn p) ((T 6 (tn p)) ||| (r (12 * tn x + 2)))) N r g H locs) => ?_)
                  refine lv_aload_n hC.1 hC.2.1 dX4_receive_115 rfl (lv_at hl 1 rfl) ?_
                  refine mg4 hC hK hW 16 (v := .ref (M 12)) rfl (by decide) rfl tf_X4_44 dX4_receive_116 ?_
                  refine lv_iload_n hC.1 hC.2.1 dX4_receive_119 rfl (lv_at hl 3 rfl) ?_
                  refine lv_dup2_11 hC.1 hC.2.1 dX4_receive_120 rfl rfl ?_
                  refine mai hC hK hW 12 (by decide) rfl (i := x) c_13.in dX4_receive_121 ?_
                  rw [show ((kup (kup (kup (kup (kup T (7 + 0) (tn p) (r (12 * tn x + 0))) (7 + 1) (tn p) (r (12 * tn x + 1))) (7 + 2) (tn p) (r (12 * tn x + 2))) 5 (tn p) ((T 5 (tn p)) ||| (r (12 * tn x + 1)))) 6 (tn p) ((T 6 (tn p)) ||| (r (12 * tn x + 2)))) 14 (tn x) : Int32) = T 14 (tn x) from (by simp (config := {decide := true}) only [kup_f])]
                  refine lv_iconst (v := 1) hC.1 hC.2.1 dX4_receive_122 (by decide) ?_
                  refine lv_isub hC.1 hC.2.1 dX4_receive_123 ?_
                  refine mai_s hC hK hW 12 (by decide) rfl (i := x) c_13.in (mw_ar_12 (tn x) ((T 14 (tn x)) - 1)) dX4_receive_124 (fun H locs (hW : mWd D G M (mA M) zs.heap (kup (kup (kup (kup (kup (kup T (7 + 0) (tn p) (r (12 * tn x + 0))) (7 + 1) (tn p) (r (12 * tn x + 1))) (7 + 2) (tn p) (r (12 * tn x + 2))) 5 (tn p) ((T 5 (tn p)) ||| (r (12 * tn x + 1)))) 6 (tn p) ((T 6 (tn p)) ||| (r (12 * tn x + 2)))) 14 (tn x) ((T 14 (tn x)) - 1)) N r g H locs) => ?_)
                  have hW : mWd D G M (mA M) zs.heap (kup (kup (kup (kup (kup (kup T (7 + 0) (tn p) (r (12 * tn x + 0))) (7 + 1) (tn p) (r (12 * tn x + 1))) (7 + 2) (tn p) (r (12 * tn x + 2))) 5 (tn p) (T 5 (tn p) ||| r (12 * tn x + 1))) 6 (tn p) (T 6 (tn p) ||| r (12 * tn x + 2))) 14 (tn x) (T 14 (tn x) - 1)) N (kshr r (12 * tn x) 0) g H locs := by rw [kshr_0]; exact hW
                  refine lv_iconst (v := 0) hC.1 hC.2.1 dX4_receive_125 (by decide) ?_
                  refine lv_istore_n (lv' := [(3, .int 0), (0, .ref (M 0)), (1, .int p), (2, .int x)]) hC.1 hC.2.1 dX4_receive_126 rfl hl (by decide) rfl (fun ls hl => ?_)
                  have loop_127 : ∀ (zf i : Nat), i + zf = 3 * (tn (T 14 (tn x)) - 1) →  ∀ (H : Heap) (locs : List Loc), mWd D G M (mA M) zs.heap (kup (kup (kup (kup (kup (kup T (7 + 0) (tn p) (r (12 * tn x + 0))) (7 + 1) (tn p) (r (12 * tn x + 1))) (7 + 2) (tn p) (r (12 * tn x + 2))) 5 (tn p) ((T 5 (tn p)) ||| (r (12 * tn x + 1)))) 6 (tn p) ((T 6 (tn p)) ||| (r (12 * tn x + 2)))) 14 (tn x) ((T 14 (tn x)) - 1)) N (kshr r (12 * tn x) i) g H locs → ∀ ls : Array Slot, lv_has ls 4 [(3, .int (nI i)), (0, .ref (M 0)), (1, .int p), (2, .int x)] → W zp l ze ({ frames := 2, cells := 0, slots := 0, locals := 46 } : Room) zs zm zargs zbelow zmeth zc H locs 0 0 (MQ zbelow (mQi D G M (a_receive T p x) (t_receive T p x (r (12 * tn x + 0)) (r (12 * tn x + 1)) (r (12 * tn x + 2))) N (r_receive T r p x) g) zargs zs 0 0 (mA M)) (F0 zm 127 ls []) := by
                    intro zf
                    induction zf with
                    | zero =>
                      intro i  hi  H locs hW ls hl
                      have hi0 : i = 3 * (tn (T 14 (tn x)) - 1) := by omega
                      have hb3 := kq_le (x := tn x) hIq
                      refine lv_iload_n hC.1 hC.2.1 dX4_receive_127 rfl (lv_at hl 0 rfl) ?_
                      refine lv_iconst (v := 3) hC.1 hC.2.1 dX4_receive_128 (by decide) ?_
                      refine lv_aload_n hC.1 hC.2.1 dX4_receive_129 rfl (lv_at hl 1 rfl) ?_
                      refine mg4 hC hK hW 16 (v := .ref (M 12)) rfl (by decide) rfl tf_X4_44 dX4_receive_130 ?_
                      refine lv_iload_n hC.1 hC.2.1 dX4_receive_133 rfl (lv_at hl 3 rfl) ?_
                      refine mai hC hK hW 12 (by decide) rfl (i := x) c_13.in dX4_receive_134 ?_
                      refine lv_imul hC.1 hC.2.1 dX4_receive_135 ?_
                      rw [show ((3 * ((kup (kup (kup (kup (kup (kup T (7 + 0) (tn p) (r (12 * tn x + 0))) (7 + 1) (tn p) (r (12 * tn x + 1))) (7 + 2) (tn p) (r (12 * tn x + 2))) 5 (tn p) ((T 5 (tn p)) ||| (r (12 * tn x + 1)))) 6 (tn p) ((T 6 (tn p)) ||| (r (12 * tn x + 2)))) 14 (tn x) ((T 14 (tn x)) - 1)) 14 (tn x))) : Int32) = nI (3 * (tn (T 14 (tn x)) - 1)) from (by rw [show (kup (kup (kup (kup (kup (kup T (7 + 0) (tn p) (r (12 * tn x + 0))) (7 + 1) (tn p) (r (12 * tn x + 1))) (7 + 2) (tn p) (r (12 * tn x + 2))) 5 (tn p) (T 5 (tn p) ||| r (12 * tn x + 1))) 6 (tn p) (T 6 (tn p) ||| r (12 * tn x + 2))) 14 (tn x) (T 14 (tn x) - 1)) 14 (tn x) = T 14 (tn x) - 1 from kup_eq _ _ _ _]; exact (q_ix3 (hIq (tn x)).1 c_38).1)]
                      refine lv_icmp_ge (tgt := 169) hC.1 hC.2.1 dX4_receive_136 (by decide) (fun c_136 => ?_) (fun c_136 => ?_)
                      · refine lv_iconst (v := 1) hC.1 hC.2.1 dX4_receive_169 (by decide) ?_
                        exact mkrI hC hr hlk hW (by simp (config := {decide := true}) only [kif_true, kif_false, kb, kup_eq, kup_f, kup_i, not_true_eq_false, not_false_eq_true, and_true, true_and, and_false, false_and, and_self, or_true, true_or, or_false, false_or, a_receive, t_receive, r_receive, kRcg, t_X0_moveUp, t_X2_take, c_5, c_13, c_26, c_38, c_47, c_47, c_47, c_47, hi0, c_136]) (by simp (config := {decide := true}) only [kif_true, kif_false, kb, kup_eq, kup_f, kup_i, not_true_eq_false, not_false_eq_true, and_true, true_and, and_false, false_and, and_self, or_true, true_or, or_false, false_or, a_receive, t_receive, r_receive, kRcg, t_X0_moveUp, t_X2_take, c_5, c_13, c_26, c_38, c_47, c_47, c_47, c_47]) rfl (by rw [hi0]; simp (config := {decide := true}) only [kif_true, kif_false, kb, kup_eq, kup_f, kup_i, not_true_eq_false, not_false_eq_true, and_true, true_and, and_false, false_and, and_self, or_true, true_or, or_false, false_or, r_receive, kRcg, c_5, c_13, c_26, c_38, c_47, c_47, c_47, c_47]) rfl dX4_receive_170
                      · exact absurd (nI_le (a := 3 * (tn (T 14 (tn x)) - 1)) (b := i) (by omega) (by omega)) c_136
                    | succ zf ih =>
                      intro i  hi  H locs hW ls hl
                      have hlt : i < 3 * (tn (T 14 (tn x)) - 1) := by omega
                      have hb3 := kq_le (x := tn x) hIq
                      refine lv_iload_n hC.1 hC.2.1 dX4_receive_127 rfl (lv_at hl 0 rfl) ?_
                      refine lv_iconst (v := 3) hC.1 hC.2.1 dX4_receive_128 (by decide) ?_
                      refine lv_aload_n hC.1 hC.2.1 dX4_receive_129 rfl (lv_at hl 1 rfl) ?_
                      refine mg4 hC hK hW 16 (v := .ref (M 12)) rfl (by decide) rfl tf_X4_44 dX4_receive_130 ?_
                      refine lv_iload_n hC.1 hC.2.1 dX4_receive_133 rfl (lv_at hl 3 rfl) ?_
                      refine mai hC hK hW 12 (by decide) rfl (i := x) c_13.in dX4_receive_134 ?_
                      refine lv_imul hC.1 hC.2.1 dX4_receive_135 ?_
                      rw [show ((3 * ((kup (kup (kup (kup (kup (kup T (7 + 0) (tn p) (r (12 * tn x + 0))) (7 + 1) (tn p) (r (12 * tn x + 1))) (7 + 2) (tn p) (r (12 * tn x + 2))) 5 (tn p) ((T 5 (tn p)) ||| (r (12 * tn x + 1)))) 6 (tn p) ((T 6 (tn p)) ||| (r (12 * tn x + 2)))) 14 (tn x) ((T 14 (tn x)) - 1)) 14 (tn x))) : Int32) = nI (3 * (tn (T 14 (tn x)) - 1)) from (by rw [show (kup (kup (kup (kup (kup (kup T (7 + 0) (tn p) (r (12 * tn x + 0))) (7 + 1) (tn p) (r (12 * tn x + 1))) (7 + 2) (tn p) (r (12 * tn x + 2))) 5 (tn p) (T 5 (tn p) ||| r (12 * tn x + 1))) 6 (tn p) (T 6 (tn p) ||| r (12 * tn x + 2))) 14 (tn x) (T 14 (tn x) - 1)) 14 (tn x) = T 14 (tn x) - 1 from kup_eq _ _ _ _]; exact (q_ix3 (hIq (tn x)).1 c_38).1)]
                      refine lv_icmp_ge (tgt := 169) hC.1 hC.2.1 dX4_receive_136 (by decide) (fun c_136 => ?_) (fun c_136 => ?_)
                      · exact absurd c_136 (nI_ge (a := i) (b := 3 * (tn (T 14 (tn x)) - 1)) (by omega) (by omega))
                      · refine lv_aload_n hC.1 hC.2.1 dX4_receive_139 rfl (lv_at hl 1 rfl) ?_
                        refine mg4 hC hK hW 17 (v := .ref (M 13)) rfl (by decide) rfl tf_X4_47 dX4_receive_140 ?_
                        refine lv_bipush (v := 12) hC.1 hC.2.1 dX4_receive_143 (by decide) ?_
                        refine lv_iload_n hC.1 hC.2.1 dX4_receive_145 rfl (lv_at hl 3 rfl) ?_
                        refine lv_imul hC.1 hC.2.1 dX4_receive_146 ?_
                        refine lv_iload_n hC.1 hC.2.1 dX4_receive_147 rfl (lv_at hl 0 rfl) ?_
                        refine lv_iadd hC.1 hC.2.1 dX4_receive_148 ?_
                        rw [show (((12 * x) + (nI i)) : Int32) = nI (12 * tn x + i) from (q_ixk c_13.1 i)]
                        refine lv_aload_n hC.1 hC.2.1 dX4_receive_149 rfl (lv_at hl 1 rfl) ?_
                        refine mg4 hC hK hW 17 (v := .ref (M 13)) rfl (by decide) rfl tf_X4_47 dX4_receive_150 ?_
                        refine lv_bipush (v := 12) hC.1 hC.2.1 dX4_receive_153 (by decide) ?_
                        refine lv_iload_n hC.1 hC.2.1 dX4_receive_155 rfl (lv_at hl 3 rfl) ?_
                        refine lv_imul hC.1 hC.2.1 dX4_receive_156 ?_
                        refine lv_iload_n hC.1 hC.2.1 dX4_receive_157 rfl (lv_at hl 0 rfl) ?_
                        refine lv_iadd hC.1 hC.2.1 dX4_receive_158 ?_
                        rw [show (((12 * x) + (nI i)) : Int32) = nI (12 * tn x + i) from (q_ixk c_13.1 i)]
                        refine lv_iconst (v := 3) hC.1 hC.2.1 dX4_receive_159 (by decide) ?_
                        refine lv_iadd hC.1 hC.2.1 dX4_receive_160 ?_
                        rw [show (((nI (12 * tn x + i)) + 3) : Int32) = nI (12 * tn x + i + 3) from (nI_add _ 3)]
                        refine maiN hC hK hW 13 (by decide) rfl (i := (12 * tn x + i + 3)) (by have z1 := c_13.lt; have z2 := kq_le (x := tn x) hIq; omega) dX4_receive_161 ?_
                        refine mai_sN hC hK hW 13 (by decide) rfl (i := (12 * tn x + i)) (by have z1 := c_13.lt; have z2 := kq_le (x := tn x) hIq; omega) (mw_q (12 * tn x + i) ((kshr r (12 * tn x) i) (12 * tn x + i + 3))) dX4_receive_162 (fun H locs (hW : mWd D G M (mA M) zs.heap (kup (kup (kup (kup (kup (kup T (7 + 0) (tn p) (r (12 * tn x + 0))) (7 + 1) (tn p) (r (12 * tn x + 1))) (7 + 2) (tn p) (r (12 * tn x + 2))) 5 (tn p) ((T 5 (tn p)) ||| (r (12 * tn x + 1)))) 6 (tn p) ((T 6 (tn p)) ||| (r (12 * tn x + 2)))) 14 (tn x) ((T 14 (tn x)) - 1)) N (upd (kshr r (12 * tn x) i) (12 * tn x + i) ((kshr r (12 * tn x) i) (12 * tn x + i + 3))) g H locs) => ?_)
                        refine lv_iinc (v := nI (i + 1)) (lv' := [(3, .int (nI (i + 1))), (0, .ref (M 0)), (1, .int p), (2, .int x)]) hC.1 hC.2.1 dX4_receive_163 hl (k := 0) rfl (nI_1 i) (by decide) rfl (fun ls hl => ?_)
                        refine lv_goto (tgt := 127) hC.1 hC.2.1 dX4_receive_166 (by decide) ?_
                        rw [kshr_s] at hW
                        exact ih (i + 1) (by omega) _ _ hW ls (lv_sub hl [0, 1, 2, 3] rfl)
                  exact loop_127 (3 * (tn (T 14 (tn x)) - 1)) 0 (by omega) _ _ hW ls (by rw [nI_0]; exact lv_sub hl [0, 1, 2, 3] rfl)
                · exact absurd (by decide) c_47
        · refine lv_iconst (v := 0) hC.1 hC.2.1 dX4_receive_41 (by decide) ?_
          exact mkrI hC hr hlk hW (by simp (config := {decide := true}) only [kif_true, kif_false, kb, kup_eq, kup_f, kup_i, not_true_eq_false, not_false_eq_true, and_true, true_and, and_false, false_and, and_self, or_true, true_or, or_false, false_or, a_receive, t_receive, r_receive, kRcg, t_X0_moveUp, t_X2_take, c_5, c_13, c_26, c_38]) (by simp (config := {decide := true}) only [kif_true, kif_false, kb, kup_eq, kup_f, kup_i, not_true_eq_false, not_false_eq_true, and_true, true_and, and_false, false_and, and_self, or_true, true_or, or_false, false_or, a_receive, t_receive, r_receive, kRcg, t_X0_moveUp, t_X2_take, c_5, c_13, c_26, c_38]) rfl (by simp (config := {decide := true}) only [kif_true, kif_false, kb, kup_eq, kup_f, kup_i, not_true_eq_false, not_false_eq_true, and_true, true_and, and_false, false_and, and_self, or_true, true_or, or_false, false_or, a_receive, t_receive, r_receive, kRcg, t_X0_moveUp, t_X2_take, c_5, c_13, c_26, c_38]) rfl dX4_receive_42
      · refine lv_ldc hC.1 hC.2.1 hC.2.2.2.1 (hC.2.2.2.2 _ (kt_in tk_X4_135 rfl)) dX4_receive_29 ?_
        exact mkrI hC hr hlk hW (by simp (config := {decide := true}) only [kif_true, kif_false, kb, kup_eq, kup_f, kup_i, not_true_eq_false, not_false_eq_true, and_true, true_and, and_false, false_and, and_self, or_true, true_or, or_false, false_or, a_receive, t_receive, r_receive, kRcg, t_X0_moveUp, t_X2_take, c_5, c_13, c_26]) (by simp (config := {decide := true}) only [kif_true, kif_false, kb, kup_eq, kup_f, kup_i, not_true_eq_false, not_false_eq_true, and_true, true_and, and_false, false_and, and_self, or_true, true_or, or_false, false_or, a_receive, t_receive, r_receive, kRcg, t_X0_moveUp, t_X2_take, c_5, c_13, c_26]) rfl (by simp (config := {decide := true}) only [kif_true, kif_false, kb, kup_eq, kup_f, kup_i, not_true_eq_false, not_false_eq_true, and_true, true_and, and_false, false_and, and_self, or_true, true_or, or_false, false_or, a_receive, t_receive, r_receive, kRcg, t_X0_moveUp, t_X2_take, c_5, c_13, c_26]) rfl dX4_receive_31
    · refine lv_ldc hC.1 hC.2.1 hC.2.2.2.1 (hC.2.2.2.2 _ (kt_in tk_X4_107 rfl)) dX4_receive_16 ?_
      exact mkrI hC hr hlk hW (by simp (config := {decide := true}) only [kif_true, kif_false, kb, kup_eq, kup_f, kup_i, not_true_eq_false, not_false_eq_true, and_true, true_and, and_false, false_and, and_self, or_true, true_or, or_false, false_or, a_receive, t_receive, r_receive, kRcg, t_X0_moveUp, t_X2_take, c_5, c_13]) (by simp (config := {decide := true}) only [kif_true, kif_false, kb, kup_eq, kup_f, kup_i, not_true_eq_false, not_false_eq_true, and_true, true_and, and_false, false_and, and_self, or_true, true_or, or_false, false_or, a_receive, t_receive, r_receive, kRcg, t_X0_moveUp, t_X2_take, c_5, c_13]) rfl (by simp (config := {decide := true}) only [kif_true, kif_false, kb, kup_eq, kup_f, kup_i, not_true_eq_false, not_false_eq_true, and_true, true_and, and_false, false_and, and_self, or_true, true_or, or_false, false_or, a_receive, t_receive, r_receive, kRcg, t_X0_moveUp, t_X2_take, c_5, c_13]) rfl dX4_receive_18
