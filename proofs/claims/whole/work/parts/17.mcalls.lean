theorem keq_lt {x : Int32} {n : Nat} (h0 : ¬ x < 0) (h : tn x ≤ n) (hn : n < 2 ^ 31) (h2 : ¬ x = nI n) : x < nI n := by
  obtain ⟨j, hj, rfl⟩ := nI_of h0
  rw [tn_nI hj] at h
  exact nI_lt (by rcases Nat.lt_or_ge j n with q | q; exact q; exact absurd (congrArg nI (by omega : j = n)) h2) hn
theorem keq_nlt {x : Int32} {n : Nat} (h2 : x = nI n) : ¬ x < nI n := by subst h2; exact fun z => by rw [Int32.lt_iff_toInt_lt] at z; omega
theorem kkd {k : Int32} : kWt k.toInt64 0 2 ↔ kKd k := by
  refine Iff.trans (kwt_c (lo := 0) (hi := 2) rfl rfl) ?_
  unfold kKd
  exact ⟨fun z => ⟨z.1, hle z.2⟩, fun z => ⟨z.1, fun q => hnle q z.2⟩⟩
theorem kFit_up3 {T : kT} {p v : Int32} {a : Nat} : kFit (kup T 3 a v) p ((kup T 3 a v) 3 a) ((kup T 3 a v) 4 a) (kBoth (kup T 3 a v) ((kup T 3 a v) 5 a) ((kup T 3 a v) 6 a)) = kFit T p v (T 4 a) (kBoth T (T 5 a) (T 6 a)) := by rw [kup_eq]; rfl
theorem kFit_up4 {T : kT} {p v : Int32} {a : Nat} : kFit (kup T 4 a v) p ((kup T 4 a v) 3 a) ((kup T 4 a v) 4 a) (kBoth (kup T 4 a v) ((kup T 4 a v) 5 a) ((kup T 4 a v) 6 a)) = kFit T p (T 3 a) v (kBoth T (T 5 a) (T 6 a)) := by rw [kup_eq]; rfl
theorem kFit_up5 {T : kT} {p v : Int32} {a : Nat} : kFit (kup T 5 a v) p ((kup T 5 a v) 3 a) ((kup T 5 a v) 4 a) (kBoth (kup T 5 a v) ((kup T 5 a v) 5 a) ((kup T 5 a v) 6 a)) = kFit T p (T 3 a) (T 4 a) (kBoth T v (T 6 a)) := by rw [kup_eq]; rfl
theorem kFit_up6 {T : kT} {p v : Int32} {a : Nat} : kFit (kup T 6 a v) p ((kup T 6 a v) 3 a) ((kup T 6 a v) 4 a) (kBoth (kup T 6 a v) ((kup T 6 a v) 5 a) ((kup T 6 a v) 6 a)) = kFit T p (T 3 a) (T 4 a) (kBoth T (T 5 a) v) := by rw [kup_eq]; rfl
theorem tk_ix {n : Int32} (h : ¬ n < 0) (k : Nat) : 3 * n + nI k = nI (3 * tn n + k) := by
  have e := (tn_nat h).1
  have e3 : (3 : Int32) = nI 3 := rfl
  rw [e3]
  conv => lhs; rw [e]
  unfold nI
  rw [← Int32.ofNat_mul, ← Int32.ofNat_add]
theorem ksp_eq {T : kT} {n : Nat} {p s t a b : Int32} : kup (kup (kup (kup (kup (kup (kup (kup (kup T 1 n 1) 3 n s) 4 n t) 5 n a) 6 n b) 2 n p) (7 + 0) n 0) (7 + 1) n 0) (7 + 2) n 0 = t_X2_begin T n p s t a b := by
  unfold t_X2_begin
  rw [kup_cm (f := 6) (f' := 2) (Or.inl (by decide)), kup_cm (f := 5) (f' := 2) (Or.inl (by decide)), kup_cm (f := 4) (f' := 2) (Or.inl (by decide)), kup_cm (f := 3) (f' := 2) (Or.inl (by decide))]
theorem kEok_iff {T : kT} {r : Nat} {s t : Int32} : kEok T r s t ↔ kSui T r s t := kWi_or _ _ _
def kI6 (T : kT) : Prop := ∀ x, tn (T 0 2) ≤ x → T 14 x = 0
def kCl (T : kT) (p : Int32) (n : Nat) : kT := fun g j => if g = 10 ∧ j < n ∧ T 11 j = p then 0 else T g j
theorem kCl_0 (T : kT) (p : Int32) : kCl T p 0 = T := by
  funext g j
  unfold kCl
  rw [if_neg (fun z => absurd z.2.1 (Nat.not_lt_zero j))]
theorem kCl_s (T : kT) (p : Int32) (n : Nat) : kClg p (kCl T p n) n = kCl T p (n + 1) := by
  unfold kClg
  by_cases h : T 11 n = p
  · rw [kif_t (show kCl T p n 11 n = p from h)]
    funext g j
    unfold kup kCl
    by_cases hg : g = 10
    · subst hg
      by_cases hj : j = n
      · subst hj
        simp [h]
      · by_cases h3 : j < n
        · simp [hj, h3, show j < n + 1 by omega]
        · simp [hj, h3, show ¬ j < n + 1 by omega]
    · simp [hg]
  · rw [kif_f (show ¬ kCl T p n 11 n = p from h)]
    funext g j
    unfold kCl
    by_cases hg : g = 10
    · subst hg
      by_cases hj : j = n
      · subst hj
        simp [h]
      · by_cases h3 : j < n
        · simp [h3, show j < n + 1 by omega]
        · simp [h3, show ¬ j < n + 1 by omega]
    · simp [hg]
theorem kCl_f (T : kT) (p : Int32) : ∀ n, kfT (kClg p) T n = kCl T p n
  | 0 => (kCl_0 T p).symm
  | n + 1 => by
    show kClg p (kfT (kClg p) T n) n = _
    rw [kCl_f T p n, kCl_s]
theorem kCl_z {T : kT} {p : Int32} (hI : kI2 T) : kCl T p (tn (T 0 2)) = kCl T p 40 := by
  funext g j
  unfold kCl
  by_cases hg : g = 10
  · subst hg
    by_cases hj : j < tn (T 0 2)
    · simp [hj, show j < 40 by have := hI.2.1; omega]
    · have z := hI.2.2 j (by omega)
      simp [hj, z]
  · simp [hg]
def kIb (T : kT) : Prop := ∀ x, (T 1 x = 0 ∨ T 1 x = 1) ∧ (T 10 x = 0 ∨ T 10 x = 1) ∧ (T 18 x = 0 ∨ T 18 x = 1) ∧ (T 19 x = 0 ∨ T 19 x = 1)
theorem kCl_e1 {T : kT} {p : Int32} {n : Nat} (hb : T 10 n = 0 ∨ T 10 n = 1) (h : ¬ T 10 n = 0) (h2 : ¬ T 11 n = p) : kup (kCl T p n) 10 n 1 = kCl T p (n + 1) := by
  rw [← kCl_s]
  unfold kClg
  rw [kif_f (show ¬ kCl T p n 11 n = p from h2)]
  refine kup_id ?_
  show (if 10 = 10 ∧ n < n ∧ T 11 n = p then 0 else T 10 n) = 1
  rw [if_neg (fun z => h2 z.2.2)]
  rcases hb with hb | hb
  · exact absurd hb h
  · exact hb
theorem kCl_e0 {T : kT} {p : Int32} {n : Nat} (h : T 10 n = 0 ∨ T 11 n = p) : kup (kCl T p n) 10 n 0 = kCl T p (n + 1) := by
  rw [← kCl_s]
  unfold kClg
  by_cases h2 : T 11 n = p
  · rw [kif_t (show kCl T p n 11 n = p from h2)]
  · rw [kif_f (show ¬ kCl T p n 11 n = p from h2)]
    refine kup_id ?_
    show (if 10 = 10 ∧ n < n ∧ T 11 n = p then 0 else T 10 n) = 0
    rw [if_neg (fun z => h2 z.2.2)]
    exact h.resolve_right h2
set_option maxHeartbeats 4000000 in
set_option maxRecDepth 100000 in
theorem c_X4_tag (l : Launch) (D : va_G) (G : Nat → ClassId) (M : Nat → Nat) (hL : mL M) (T N : kT) (r g : Nat → Int32) (p : Int32) (k : Int32) (hI0 : kI0 T) (hI1 : kI1 T) (hI2 : kI2 T) : kM l yX4_tag cX4_tag 4 (some .int) 2 46 (mPc D G M T N r g [.ref (M 0), .int p, .int k]) (mQi D G M (a_tag T p k) (t_tag T p k) N r g) (mA M) := by
  refine kBegin (by decide) (Nat.le_of_ble_eq_true rfl) ?_
  intro zp ze zs zm zargs zbelow zmeth zc hC hr hlk hB ls hl
  obtain ⟨hP, hK⟩ := hB
  have hW : mWd D G M (mA M) zs.heap T N r g zs.heap [] := mWd.start hL hP
  have hl : lv_has ls 4 [(0, .ref (M 0)), (1, .int p), (2, .int k)] := hl
  refine lv_aload_n hC.1 hC.2.1 dX4_tag_0 rfl (lv_at hl 0 rfl) ?_
  refine lv_iload_n hC.1 hC.2.1 dX4_tag_1 rfl (lv_at hl 1 rfl) ?_
  refine keSi (rest := []) (mcV 0 hC hK hW (c_X4_isProcess l D G M hL T N r g p hI1) (kgoodV tm_X4_103 ti_yX4_isProcess te_yX4_isProcess tz_X4 tc_yX4_isProcess) mw_m rfl ⟨rfl, by decide, by decide, (show Option.map _ (parseMethodDescriptor yX4_isProcess.desc) = some 1 from by decide +kernel)⟩ ⟨Nat.le_of_ble_eq_true rfl, Nat.le_of_ble_eq_true rfl⟩ hl.1 rfl (Nat.le_of_ble_eq_true rfl) ⟨Nat.le_refl _, Nat.le_refl _⟩ dX4_tag_2) ?_
  refine kif_ne (tgt := 11) hC.1 hC.2.1 dX4_tag_5 (by decide) (fun c_5 => ?_) (fun c_5 => ?_)
  · refine lv_iload_n hC.1 hC.2.1 dX4_tag_11 rfl (lv_at hl 2 rfl) ?_
    refine lv_i2l hC.1 hC.2.1 dX4_tag_12 rfl ?_
    refine lv_lconst (v := 0) hC.1 hC.2.1 dX4_tag_13 (by decide) ?_
    refine lv_ldc2 hC.1 hC.2.1 hC.2.2.2.1 (hC.2.2.2.2 _ (kt_in tk_X4_108 rfl)) dX4_tag_14 ?_
    refine keSi (rest := []) (kcS0 hC (c_X4_within l k.toInt64 0 (2)) (kgoodS tm_X4_93 ts_yX4_within tz_X4 tc_yX4_within) ⟨rfl, by decide, by decide, (show Option.map _ (parseMethodDescriptor yX4_within.desc) = some 3 from by decide +kernel)⟩ ⟨Nat.le_of_ble_eq_true rfl, Nat.le_of_ble_eq_true rfl⟩ hl.1 rfl (Nat.le_of_ble_eq_true rfl) ⟨Nat.le_refl _, Nat.le_refl _⟩ dX4_tag_17) ?_
    refine kif_ne (tgt := 26) hC.1 hC.2.1 dX4_tag_20 (by decide) (fun c_20 => ?_) (fun c_20 => ?_)
    · have hkd := kkd.mp c_20
      refine lv_aload_n hC.1 hC.2.1 dX4_tag_26 rfl (lv_at hl 0 rfl) ?_
      refine mg4 hC hK hW 0 (v := .int (T 0 0)) rfl (by decide) rfl tf_X4_97 dX4_tag_27 ?_
      refine lv_bipush (v := 24) hC.1 hC.2.1 dX4_tag_30 (by decide) ?_
      refine lv_icmp_ne (tgt := 38) hC.1 hC.2.1 dX4_tag_32 (by decide) (fun c_32 => ?_) (fun c_32 => ?_)
      · have h24 : T 0 0 < 24 := keq_lt (n := 24) hI0.1 hI0.2 (by decide) c_32
        refine lv_iconst (v := 1) hC.1 hC.2.1 dX4_tag_38 (by decide) ?_
        refine lv_aload_n hC.1 hC.2.1 dX4_tag_39 rfl (lv_at hl 0 rfl) ?_
        refine mg4 hC hK hW 0 (v := .int (T 0 0)) rfl (by decide) rfl tf_X4_97 dX4_tag_40 ?_
        refine lv_ishl hC.1 hC.2.1 dX4_tag_43 ?_
        refine lv_istore_n (lv' := [(3, .int (1 <<< ((T 0 0) &&& 31))), (0, .ref (M 0)), (1, .int p), (2, .int k)]) hC.1 hC.2.1 dX4_tag_44 rfl hl (by decide) rfl (fun ls hl => ?_)
        refine lv_iload_n hC.1 hC.2.1 dX4_tag_45 rfl (lv_at hl 3 rfl) ?_
        rcases ksw2 k with c_46 | c_46 | c_46
        · refine lv_lookup (tgt := 72) (off := 26) hC.1 hC.2.1 dX4_tag_46 (by decide) (by rw [c_46]; rfl) (by decide) ?_
          refine lv_aload_n hC.1 hC.2.1 dX4_tag_72 rfl (lv_at hl 1 rfl) ?_
          refine lv_dup hC.1 hC.2.1 dX4_tag_73 rfl ?_
          refine mg4 hC hK hW 1 (v := .int (T 0 4)) rfl (by decide) rfl tf_X4_112 dX4_tag_74 ?_
          refine lv_iload_n hC.1 hC.2.1 dX4_tag_77 rfl (lv_at hl 0 rfl) ?_
          refine lv_ior hC.1 hC.2.1 dX4_tag_78 ?_
          refine mp4 hC hK hW 1 (by decide) rfl rfl (by decide +kernel) (mw_put_1 ((T 0 4) ||| (1 <<< ((T 0 0) &&& 31)))) tf_X4_112 dX4_tag_79 (fun H locs (hW : mWd D G M (mA M) zs.heap (kup T 0 4 ((T 0 4) ||| (1 <<< ((T 0 0) &&& 31)))) N r g H locs) => ?_)
          refine lv_aload_n hC.1 hC.2.1 dX4_tag_82 rfl (lv_at hl 1 rfl) ?_
          refine mg4 hC hK hW 8 (v := .ref (M 5)) rfl (by decide) rfl tf_X4_23 dX4_tag_83 ?_
          refine lv_iload_n hC.1 hC.2.1 dX4_tag_86 rfl (lv_at hl 2 rfl) ?_
          refine lv_dup2_11 hC.1 hC.2.1 dX4_tag_87 rfl rfl ?_
          refine mai hC hK hW 5 (by decide) rfl (i := p) c_5.in dX4_tag_88 ?_
          refine lv_iload_n hC.1 hC.2.1 dX4_tag_89 rfl (lv_at hl 0 rfl) ?_
          refine lv_ior hC.1 hC.2.1 dX4_tag_90 ?_
          refine mai_s hC hK hW 5 (by decide) rfl (i := p) c_5.in (mw_ar_5 (tn p) (((kup T 0 4 ((T 0 4) ||| (1 <<< ((T 0 0) &&& 31)))) 6 (tn p)) ||| (1 <<< ((T 0 0) &&& 31)))) dX4_tag_91 (fun H locs (hW : mWd D G M (mA M) zs.heap (kup (kup T 0 4 ((T 0 4) ||| (1 <<< ((T 0 0) &&& 31)))) 6 (tn p) (((kup T 0 4 ((T 0 4) ||| (1 <<< ((T 0 0) &&& 31)))) 6 (tn p)) ||| (1 <<< ((T 0 0) &&& 31)))) N r g H locs) => ?_)
          refine lv_goto (tgt := 138) hC.1 hC.2.1 dX4_tag_92 (by decide) ?_
          refine lv_aload_n hC.1 hC.2.1 dX4_tag_138 rfl (lv_at hl 1 rfl) ?_
          refine lv_dup hC.1 hC.2.1 dX4_tag_139 rfl ?_
          refine mg4 hC hK hW 0 (v := .int ((kup (kup T 0 4 ((T 0 4) ||| (1 <<< ((T 0 0) &&& 31)))) 6 (tn p) (((kup T 0 4 ((T 0 4) ||| (1 <<< ((T 0 0) &&& 31)))) 6 (tn p)) ||| (1 <<< ((T 0 0) &&& 31)))) 0 0)) rfl (by decide) rfl tf_X4_97 dX4_tag_140 ?_
          refine lv_iconst (v := 1) hC.1 hC.2.1 dX4_tag_143 (by decide) ?_
          refine lv_iadd hC.1 hC.2.1 dX4_tag_144 ?_
          refine mp4 hC hK hW 0 (by decide) rfl rfl (by decide +kernel) (mw_put_0 (((kup (kup T 0 4 ((T 0 4) ||| (1 <<< ((T 0 0) &&& 31)))) 6 (tn p) (((kup T 0 4 ((T 0 4) ||| (1 <<< ((T 0 0) &&& 31)))) 6 (tn p)) ||| (1 <<< ((T 0 0) &&& 31)))) 0 0) + 1)) tf_X4_97 dX4_tag_145 (fun H locs (hW : mWd D G M (mA M) zs.heap (kup (kup (kup T 0 4 ((T 0 4) ||| (1 <<< ((T 0 0) &&& 31)))) 6 (tn p) (((kup T 0 4 ((T 0 4) ||| (1 <<< ((T 0 0) &&& 31)))) 6 (tn p)) ||| (1 <<< ((T 0 0) &&& 31)))) 0 0 (((kup (kup T 0 4 ((T 0 4) ||| (1 <<< ((T 0 0) &&& 31)))) 6 (tn p) (((kup T 0 4 ((T 0 4) ||| (1 <<< ((T 0 0) &&& 31)))) 6 (tn p)) ||| (1 <<< ((T 0 0) &&& 31)))) 0 0) + 1)) N r g H locs) => ?_)
          refine lv_aload_n hC.1 hC.2.1 dX4_tag_148 rfl (lv_at hl 1 rfl) ?_
          refine mg4 hC hK hW 0 (v := .int ((kup (kup (kup T 0 4 ((T 0 4) ||| (1 <<< ((T 0 0) &&& 31)))) 6 (tn p) (((kup T 0 4 ((T 0 4) ||| (1 <<< ((T 0 0) &&& 31)))) 6 (tn p)) ||| (1 <<< ((T 0 0) &&& 31)))) 0 0 (((kup (kup T 0 4 ((T 0 4) ||| (1 <<< ((T 0 0) &&& 31)))) 6 (tn p) (((kup T 0 4 ((T 0 4) ||| (1 <<< ((T 0 0) &&& 31)))) 6 (tn p)) ||| (1 <<< ((T 0 0) &&& 31)))) 0 0) + 1)) 0 0)) rfl (by decide) rfl tf_X4_97 dX4_tag_149 ?_
          refine lv_iconst (v := 1) hC.1 hC.2.1 dX4_tag_152 (by decide) ?_
          refine lv_isub hC.1 hC.2.1 dX4_tag_153 ?_
          exact mkrI hC hr hlk hW (by simp (config := {decide := true}) only [kif_true, kif_false, kb, kup_eq, kup_f, kup_i, not_true_eq_false, not_false_eq_true, and_true, true_and, and_false, false_and, and_self, or_true, true_or, or_false, false_or, a_tag, t_tag, kTg, kbit, kKd, c_5, c_20, hkd.1, hkd.2, c_32, h24, c_46]) (by simp (config := {decide := true}) only [kif_true, kif_false, kb, kup_eq, kup_f, kup_i, not_true_eq_false, not_false_eq_true, and_true, true_and, and_false, false_and, and_self, or_true, true_or, or_false, false_or, t_tag, kTg, kbit, kKd, c_5, c_20, hkd.1, hkd.2, c_32, h24, c_46]) rfl rfl rfl dX4_tag_154
        · refine lv_lookup (tgt := 95) (off := 49) hC.1 hC.2.1 dX4_tag_46 (by decide) (by rw [c_46]; rfl) (by decide) ?_
          refine lv_aload_n hC.1 hC.2.1 dX4_tag_95 rfl (lv_at hl 1 rfl) ?_
          refine lv_dup hC.1 hC.2.1 dX4_tag_96 rfl ?_
          refine mg4 hC hK hW 2 (v := .int (T 0 5)) rfl (by decide) rfl tf_X4_115 dX4_tag_97 ?_
          refine lv_iload_n hC.1 hC.2.1 dX4_tag_100 rfl (lv_at hl 0 rfl) ?_
          refine lv_ior hC.1 hC.2.1 dX4_tag_101 ?_
          refine mp4 hC hK hW 2 (by decide) rfl rfl (by decide +kernel) (mw_put_2 ((T 0 5) ||| (1 <<< ((T 0 0) &&& 31)))) tf_X4_115 dX4_tag_102 (fun H locs (hW : mWd D G M (mA M) zs.heap (kup T 0 5 ((T 0 5) ||| (1 <<< ((T 0 0) &&& 31)))) N r g H locs) => ?_)
          refine lv_aload_n hC.1 hC.2.1 dX4_tag_105 rfl (lv_at hl 1 rfl) ?_
          refine mg4 hC hK hW 7 (v := .ref (M 4)) rfl (by decide) rfl tf_X4_20 dX4_tag_106 ?_
          refine lv_iload_n hC.1 hC.2.1 dX4_tag_109 rfl (lv_at hl 2 rfl) ?_
          refine lv_dup2_11 hC.1 hC.2.1 dX4_tag_110 rfl rfl ?_
          refine mai hC hK hW 4 (by decide) rfl (i := p) c_5.in dX4_tag_111 ?_
          refine lv_iload_n hC.1 hC.2.1 dX4_tag_112 rfl (lv_at hl 0 rfl) ?_
          refine lv_ior hC.1 hC.2.1 dX4_tag_113 ?_
          refine mai_s hC hK hW 4 (by decide) rfl (i := p) c_5.in (mw_ar_4 (tn p) (((kup T 0 5 ((T 0 5) ||| (1 <<< ((T 0 0) &&& 31)))) 5 (tn p)) ||| (1 <<< ((T 0 0) &&& 31)))) dX4_tag_114 (fun H locs (hW : mWd D G M (mA M) zs.heap (kup (kup T 0 5 ((T 0 5) ||| (1 <<< ((T 0 0) &&& 31)))) 5 (tn p) (((kup T 0 5 ((T 0 5) ||| (1 <<< ((T 0 0) &&& 31)))) 5 (tn p)) ||| (1 <<< ((T 0 0) &&& 31)))) N r g H locs) => ?_)
          refine lv_goto (tgt := 138) hC.1 hC.2.1 dX4_tag_115 (by decide) ?_
          refine lv_aload_n hC.1 hC.2.1 dX4_tag_138 rfl (lv_at hl 1 rfl) ?_
          refine lv_dup hC.1 hC.2.1 dX4_tag_139 rfl ?_
          refine mg4 hC hK hW 0 (v := .int ((kup (kup T 0 5 ((T 0 5) ||| (1 <<< ((T 0 0) &&& 31)))) 5 (tn p) (((kup T 0 5 ((T 0 5) ||| (1 <<< ((T 0 0) &&& 31)))) 5 (tn p)) ||| (1 <<< ((T 0 0) &&& 31)))) 0 0)) rfl (by decide) rfl tf_X4_97 dX4_tag_140 ?_
          refine lv_iconst (v := 1) hC.1 hC.2.1 dX4_tag_143 (by decide) ?_
          refine lv_iadd hC.1 hC.2.1 dX4_tag_144 ?_
          refine mp4 hC hK hW 0 (by decide) rfl rfl (by decide +kernel) (mw_put_0 (((kup (kup T 0 5 ((T 0 5) ||| (1 <<< ((T 0 0) &&& 31)))) 5 (tn p) (((kup T 0 5 ((T 0 5) ||| (1 <<< ((T 0 0) &&& 31)))) 5 (tn p)) ||| (1 <<< ((T 0 0) &&& 31)))) 0 0) + 1)) tf_X4_97 dX4_tag_145 (fun H locs (hW : mWd D G M (mA M) zs.heap (kup (kup (kup T 0 5 ((T 0 5) ||| (1 <<< ((T 0 0) &&& 31)))) 5 (tn p) (((kup T 0 5 ((T 0 5) ||| (1 <<< ((T 0 0) &&& 31)))) 5 (tn p)) ||| (1 <<< ((T 0 0) &&& 31)))) 0 0 (((kup (kup T 0 5 ((T 0 5) ||| (1 <<< ((T 0 0) &&& 31)))) 5 (tn p) (((kup T 0 5 ((T 0 5) ||| (1 <<< ((T 0 0) &&& 31)))) 5 (tn p)) ||| (1 <<< ((T 0 0) &&& 31)))) 0 0) + 1)) N r g H locs) => ?_)
          refine lv_aload_n hC.1 hC.2.1 dX4_tag_148 rfl (lv_at hl 1 rfl) ?_
          refine mg4 hC hK hW 0 (v := .int ((kup (kup (kup T 0 5 ((T 0 5) ||| (1 <<< ((T 0 0) &&& 31)))) 5 (tn p) (((kup T 0 5 ((T 0 5) ||| (1 <<< ((T 0 0) &&& 31)))) 5 (tn p)) ||| (1 <<< ((T 0 0) &&& 31)))) 0 0 (((kup (kup T 0 5 ((T 0 5) ||| (1 <<< ((T 0 0) &&& 31)))) 5 (tn p) (((kup T 0 5 ((T 0 5) ||| (1 <<< ((T 0 0) &&& 31)))) 5 (tn p)) ||| (1 <<< ((T 0 0) &&& 31)))) 0 0) + 1)) 0 0)) rfl (by decide) rfl tf_X4_97 dX4_tag_149 ?_
          refine lv_iconst (v := 1) hC.1 hC.2.1 dX4_tag_152 (by decide) ?_
          refine lv_isub hC.1 hC.2.1 dX4_tag_153 ?_
          exact mkrI hC hr hlk hW (by simp (config := {decide := true}) only [kif_true, kif_false, kb, kup_eq, kup_f, kup_i, not_true_eq_false, not_false_eq_true, and_true, true_and, and_false, false_and, and_self, or_true, true_or, or_false, false_or, a_tag, t_tag, kTg, kbit, kKd, c_5, c_20, hkd.1, hkd.2, c_32, h24, c_46]) (by simp (config := {decide := true}) only [kif_true, kif_false, kb, kup_eq, kup_f, kup_i, not_true_eq_false, not_false_eq_true, and_true, true_and, and_false, false_and, and_self, or_true, true_or, or_false, false_or, t_tag, kTg, kbit, kKd, c_5, c_20, hkd.1, hkd.2, c_32, h24, c_46] <;> (funext g j; simp only [kup]; (repeat' split) <;> simp_all)) rfl rfl rfl dX4_tag_154
        · refine lv_lookup (tgt := 118) (off := 72) hC.1 hC.2.1 dX4_tag_46 (by decide) (klk2 c_46.1) (by decide) ?_
          refine lv_aload_n hC.1 hC.2.1 dX4_tag_118 rfl (lv_at hl 1 rfl) ?_
          refine mg4 hC hK hW 7 (v := .ref (M 4)) rfl (by decide) rfl tf_X4_20 dX4_tag_119 ?_
          refine lv_iload_n hC.1 hC.2.1 dX4_tag_122 rfl (lv_at hl 2 rfl) ?_
          refine lv_dup2_11 hC.1 hC.2.1 dX4_tag_123 rfl rfl ?_
          refine mai hC hK hW 4 (by decide) rfl (i := p) c_5.in dX4_tag_124 ?_
          refine lv_iload_n hC.1 hC.2.1 dX4_tag_125 rfl (lv_at hl 0 rfl) ?_
          refine lv_ior hC.1 hC.2.1 dX4_tag_126 ?_
          refine mai_s hC hK hW 4 (by decide) rfl (i := p) c_5.in (mw_ar_4 (tn p) ((T 5 (tn p)) ||| (1 <<< ((T 0 0) &&& 31)))) dX4_tag_127 (fun H locs (hW : mWd D G M (mA M) zs.heap (kup T 5 (tn p) ((T 5 (tn p)) ||| (1 <<< ((T 0 0) &&& 31)))) N r g H locs) => ?_)
          refine lv_aload_n hC.1 hC.2.1 dX4_tag_128 rfl (lv_at hl 1 rfl) ?_
          refine mg4 hC hK hW 8 (v := .ref (M 5)) rfl (by decide) rfl tf_X4_23 dX4_tag_129 ?_
          refine lv_iload_n hC.1 hC.2.1 dX4_tag_132 rfl (lv_at hl 2 rfl) ?_
          refine lv_dup2_11 hC.1 hC.2.1 dX4_tag_133 rfl rfl ?_
          refine mai hC hK hW 5 (by decide) rfl (i := p) c_5.in dX4_tag_134 ?_
          refine lv_iload_n hC.1 hC.2.1 dX4_tag_135 rfl (lv_at hl 0 rfl) ?_
          refine lv_ior hC.1 hC.2.1 dX4_tag_136 ?_
          refine mai_s hC hK hW 5 (by decide) rfl (i := p) c_5.in (mw_ar_5 (tn p) (((kup T 5 (tn p) ((T 5 (tn p)) ||| (1 <<< ((T 0 0) &&& 31)))) 6 (tn p)) ||| (1 <<< ((T 0 0) &&& 31)))) dX4_tag_137 (fun H locs (hW : mWd D G M (mA M) zs.heap (kup (kup T 5 (tn p) ((T 5 (tn p)) ||| (1 <<< ((T 0 0) &&& 31)))) 6 (tn p) (((kup T 5 (tn p) ((T 5 (tn p)) ||| (1 <<< ((T 0 0) &&& 31)))) 6 (tn p)) ||| (1 <<< ((T 0 0) &&& 31)))) N r g H locs) => ?_)
          refine lv_aload_n hC.1 hC.2.1 dX4_tag_138 rfl (lv_at hl 1 rfl) ?_
          refine lv_dup hC.1 hC.2.1 dX4_tag_139 rfl ?_
          refine mg4 hC hK hW 0 (v := .int ((kup (kup T 5 (tn p) ((T 5 (tn p)) ||| (1 <<< ((T 0 0) &&& 31)))) 6 (tn p) (((kup T 5 (tn p) ((T 5 (tn p)) ||| (1 <<< ((T 0 0) &&& 31)))) 6 (tn p)) ||| (1 <<< ((T 0 0) &&& 31)))) 0 0)) rfl (by decide) rfl tf_X4_97 dX4_tag_140 ?_
          refine lv_iconst (v := 1) hC.1 hC.2.1 dX4_tag_143 (by decide) ?_
          refine lv_iadd hC.1 hC.2.1 dX4_tag_144 ?_
          refine mp4 hC hK hW 0 (by decide) rfl rfl (by decide +kernel) (mw_put_0 (((kup (kup T 5 (tn p) ((T 5 (tn p)) ||| (1 <<< ((T 0 0) &&& 31)))) 6 (tn p) (((kup T 5 (tn p) ((T 5 (tn p)) ||| (1 <<< ((T 0 0) &&& 31)))) 6 (tn p)) ||| (1 <<< ((T 0 0) &&& 31)))) 0 0) + 1)) tf_X4_97 dX4_tag_145 (fun H locs (hW : mWd D G M (mA M) zs.heap (kup (kup (kup T 5 (tn p) ((T 5 (tn p)) ||| (1 <<< ((T 0 0) &&& 31)))) 6 (tn p) (((kup T 5 (tn p) ((T 5 (tn p)) ||| (1 <<< ((T 0 0) &&& 31)))) 6 (tn p)) ||| (1 <<< ((T 0 0) &&& 31)))) 0 0 (((kup (kup T 5 (tn p) ((T 5 (tn p)) ||| (1 <<< ((T 0 0) &&& 31)))) 6 (tn p) (((kup T 5 (tn p) ((T 5 (tn p)) ||| (1 <<< ((T 0 0) &&& 31)))) 6 (tn p)) ||| (1 <<< ((T 0 0) &&& 31)))) 0 0) + 1)) N r g H locs) => ?_)
          refine lv_aload_n hC.1 hC.2.1 dX4_tag_148 rfl (lv_at hl 1 rfl) ?_
          refine mg4 hC hK hW 0 (v := .int ((kup (kup (kup T 5 (tn p) ((T 5 (tn p)) ||| (1 <<< ((T 0 0) &&& 31)))) 6 (tn p) (((kup T 5 (tn p) ((T 5 (tn p)) ||| (1 <<< ((T 0 0) &&& 31)))) 6 (tn p)) ||| (1 <<< ((T 0 0) &&& 31)))) 0 0 (((kup (kup T 5 (tn p) ((T 5 (tn p)) ||| (1 <<< ((T 0 0) &&& 31)))) 6 (tn p) (((kup T 5 (tn p) ((T 5 (tn p)) ||| (1 <<< ((T 0 0) &&& 31)))) 6 (tn p)) ||| (1 <<< ((T 0 0) &&& 31)))) 0 0) + 1)) 0 0)) rfl (by decide) rfl tf_X4_97 dX4_tag_149 ?_
          refine lv_iconst (v := 1) hC.1 hC.2.1 dX4_tag_152 (by decide) ?_
          refine lv_isub hC.1 hC.2.1 dX4_tag_153 ?_
          exact mkrI hC hr hlk hW (by simp (config := {decide := true}) only [kif_true, kif_false, kb, kup_eq, kup_f, kup_i, not_true_eq_false, not_false_eq_true, and_true, true_and, and_false, false_and, and_self, or_true, true_or, or_false, false_or, a_tag, t_tag, kTg, kbit, kKd, c_5, c_20, hkd.1, hkd.2, c_32, h24, c_46.2.1, c_46.2.2]) (by simp (config := {decide := true}) only [kif_true, kif_false, kb, kup_eq, kup_f, kup_i, not_true_eq_false, not_false_eq_true, and_true, true_and, and_false, false_and, and_self, or_true, true_or, or_false, false_or, t_tag, kTg, kbit, kKd, c_5, c_20, hkd.1, hkd.2, c_32, h24, c_46.2.1, c_46.2.2]) rfl rfl rfl dX4_tag_154
      · have h24 : ¬ T 0 0 < 24 := keq_nlt (n := 24) c_32
        refine lv_ldc hC.1 hC.2.1 hC.2.2.2.1 (hC.2.2.2.2 _ (kt_in tk_X4_111 rfl)) dX4_tag_35 ?_
        exact mkrI hC hr hlk hW (by simp (config := {decide := true}) only [kif_true, kif_false, kb, kup_eq, kup_f, kup_i, not_true_eq_false, not_false_eq_true, and_true, true_and, and_false, false_and, and_self, or_true, true_or, or_false, false_or, a_tag, t_tag, kTg, kbit, kKd, c_5, c_20, hkd.1, hkd.2, c_32, h24]) (by simp (config := {decide := true}) only [kif_true, kif_false, kb, kup_eq, kup_f, kup_i, not_true_eq_false, not_false_eq_true, and_true, true_and, and_false, false_and, and_self, or_true, true_or, or_false, false_or, t_tag, kTg, kbit, kKd, c_5, c_20, hkd.1, hkd.2, c_32, h24]) rfl rfl rfl dX4_tag_37
    · have hkd : ¬ (¬ k < 0 ∧ k ≤ 2) := fun z => c_20 (kkd.mpr z)
      refine lv_ldc hC.1 hC.2.1 hC.2.2.2.1 (hC.2.2.2.2 _ (kt_in tk_X4_110 rfl)) dX4_tag_23 ?_
      exact mkrI hC hr hlk hW (by simp (config := {decide := true}) only [kif_true, kif_false, kb, kup_eq, kup_f, kup_i, not_true_eq_false, not_false_eq_true, and_true, true_and, and_false, false_and, and_self, or_true, true_or, or_false, false_or, a_tag, t_tag, kTg, kbit, kKd, c_5, c_20, hkd]) (by simp (config := {decide := true}) only [kif_true, kif_false, kb, kup_eq, kup_f, kup_i, not_true_eq_false, not_false_eq_true, and_true, true_and, and_false, false_and, and_self, or_true, true_or, or_false, false_or, t_tag, kTg, kbit, kKd, c_5, c_20, hkd]) rfl rfl rfl dX4_tag_25
  · refine lv_ldc hC.1 hC.2.1 hC.2.2.2.1 (hC.2.2.2.2 _ (kt_in tk_X4_107 rfl)) dX4_tag_8 ?_
    exact mkrI hC hr hlk hW (by simp (config := {decide := true}) only [kif_true, kif_false, kb, kup_eq, kup_f, kup_i, not_true_eq_false, not_false_eq_true, and_true, true_and, and_false, false_and, and_self, or_true, true_or, or_false, false_or, a_tag, t_tag, kTg, kbit, kKd, c_5]) (by simp (config := {decide := true}) only [kif_true, kif_false, kb, kup_eq, kup_f, kup_i, not_true_eq_false, not_false_eq_true, and_true, true_and, and_false, false_and, and_self, or_true, true_or, or_false, false_or, t_tag, kTg, kbit, kKd, c_5]) rfl rfl rfl dX4_tag_10
set_option maxHeartbeats 4000000 in
set_option maxRecDepth 100000 in
theorem c_X4_everybody (l : Launch) (D : va_G) (G : Nat → ClassId) (M : Nat → Nat) (hL : mL M) (T N : kT) (r g : Nat → Int32) (w : Int32) : kM l yX4_everybody cX4_everybody 2 (some .int) 0 0 (mPc D G M T N r g [.ref (M 0), .int w]) (kSi (a_everybody T w)) (fun _ => False) := by
  refine kBegin (by decide) (Nat.le_of_ble_eq_true rfl) ?_
  intro zp ze zs zm zargs zbelow zmeth zc hC hr hlk hB ls hl
  obtain ⟨hP, hK⟩ := hB
  have hW : mWd D G M (mA M) zs.heap T N r g zs.heap [] := mWd.start hL hP
  have hl : lv_has ls 2 [(0, .ref (M 0)), (1, .int w)] := hl
  refine lv_iload_n hC.1 hC.2.1 dX4_everybody_0 rfl (lv_at hl 1 rfl) ?_
  refine lv_if_ne (tgt := 11) hC.1 hC.2.1 dX4_everybody_1 (by decide) (fun c_1 => ?_) (fun c_1 => ?_)
  · refine lv_iload_n hC.1 hC.2.1 dX4_everybody_11 rfl (lv_at hl 1 rfl) ?_
    refine lv_iconst (v := 1) hC.1 hC.2.1 dX4_everybody_12 (by decide) ?_
    refine lv_icmp_ne (tgt := 23) hC.1 hC.2.1 dX4_everybody_13 (by decide) (fun c_13 => ?_) (fun c_13 => ?_)
    · refine lv_ldc hC.1 hC.2.1 hC.2.2.2.1 (hC.2.2.2.2 _ (kt_in tk_X4_110 rfl)) dX4_everybody_23 ?_
      exact krS hC hr hlk (by simp (config := {decide := true}) only [kif_true, kif_false, kb, kup_eq, kup_f, kup_i, not_true_eq_false, not_false_eq_true, and_true, true_and, and_false, false_and, and_self, or_true, true_or, or_false, false_or, a_everybody, c_1, c_13]) dX4_everybody_25
    · refine lv_aload_n hC.1 hC.2.1 dX4_everybody_16 rfl (lv_at hl 0 rfl) ?_
      refine mg4 hC hK hW 2 (v := .int (T 0 5)) rfl (by decide) rfl tf_X4_115 dX4_everybody_17 ?_
      refine lv_goto (tgt := 25) hC.1 hC.2.1 dX4_everybody_20 (by decide) ?_
      exact krS hC hr hlk (by simp (config := {decide := true}) only [kif_true, kif_false, kb, kup_eq, kup_f, kup_i, not_true_eq_false, not_false_eq_true, and_true, true_and, and_false, false_and, and_self, or_true, true_or, or_false, false_or, a_everybody, c_1, c_13]) dX4_everybody_25
  · refine lv_aload_n hC.1 hC.2.1 dX4_everybody_4 rfl (lv_at hl 0 rfl) ?_
    refine mg4 hC hK hW 1 (v := .int (T 0 4)) rfl (by decide) rfl tf_X4_112 dX4_everybody_5 ?_
    refine lv_goto (tgt := 25) hC.1 hC.2.1 dX4_everybody_8 (by decide) ?_
    exact krS hC hr hlk (by simp (config := {decide := true}) only [kif_true, kif_false, kb, kup_eq, kup_f, kup_i, not_true_eq_false, not_false_eq_true, and_true, true_and, and_false, false_and, and_self, or_true, true_or, or_false, false_or, a_everybody, c_1]) dX4_everybody_25
set_option maxHeartbeats 4000000 in
set_option maxRecDepth 100000 in
theorem c_X4_told (l : Launch) (D : va_G) (G : Nat → ClassId) (M : Nat → Nat) (hL : mL M) (T N : kT) (r g : Nat → Int32) (p : Int32) (w : Int32) (hI0 : kI0 T) (hI1 : kI1 T) (hI2 : kI2 T) : kM l yX4_told cX4_told 3 (some .int) 2 46 (mPc D G M T N r g [.ref (M 0), .int p, .int w]) (kSi (a_told T p w)) (fun _ => False) := by
  refine kBegin (by decide) (Nat.le_of_ble_eq_true rfl) ?_
  intro zp ze zs zm zargs zbelow zmeth zc hC hr hlk hB ls hl
  obtain ⟨hP, hK⟩ := hB
  have hW : mWd D G M (mA M) zs.heap T N r g zs.heap [] := mWd.start hL hP
  have hl : lv_has ls 3 [(0, .ref (M 0)), (1, .int p), (2, .int w)] := hl
  refine lv_aload_n hC.1 hC.2.1 dX4_told_0 rfl (lv_at hl 0 rfl) ?_
  refine lv_iload_n hC.1 hC.2.1 dX4_told_1 rfl (lv_at hl 1 rfl) ?_
  refine keSi (rest := []) (mcV 0 hC hK hW (c_X4_isProcess l D G M hL T N r g p hI1) (kgoodV tm_X4_103 ti_yX4_isProcess te_yX4_isProcess tz_X4 tc_yX4_isProcess) mw_m rfl ⟨rfl, by decide, by decide, (show Option.map _ (parseMethodDescriptor yX4_isProcess.desc) = some 1 from by decide +kernel)⟩ ⟨Nat.le_of_ble_eq_true rfl, Nat.le_of_ble_eq_true rfl⟩ hl.1 rfl (Nat.le_of_ble_eq_true rfl) ⟨Nat.le_refl _, Nat.le_refl _⟩ dX4_told_2) ?_
  refine kif_ne (tgt := 11) hC.1 hC.2.1 dX4_told_5 (by decide) (fun c_5 => ?_) (fun c_5 => ?_)
  · refine lv_iload_n hC.1 hC.2.1 dX4_told_11 rfl (lv_at hl 2 rfl) ?_
    rcases ksw7 w with c_12 | c_12 | c_12 | c_12 | c_12 | c_12 | c_12 | c_12
    · refine lv_tableIn (tgt := 56) (off := 44) hC.1 hC.2.1 dX4_told_12 (by rw [c_12]; decide) (by rw [c_12]; decide) (by rw [c_12]; rfl) (by decide) ?_
      refine lv_aload_n hC.1 hC.2.1 dX4_told_56 rfl (lv_at hl 0 rfl) ?_
      refine mg4 hC hK hW 5 (v := .ref (M 2)) rfl (by decide) rfl tf_X4_13 dX4_told_57 ?_
      refine lv_iload_n hC.1 hC.2.1 dX4_told_60 rfl (lv_at hl 1 rfl) ?_
      refine mai hC hK hW 2 (by decide) rfl (i := p) c_5.in dX4_told_61 ?_
      exact krS hC hr hlk (by simp (config := {decide := true}) only [kif_true, kif_false, kb, kup_eq, kup_f, kup_i, not_true_eq_false, not_false_eq_true, and_true, true_and, and_false, false_and, and_self, or_true, true_or, or_false, false_or, a_told, c_5, c_12]) dX4_told_62
    · refine lv_tableIn (tgt := 63) (off := 51) hC.1 hC.2.1 dX4_told_12 (by rw [c_12]; decide) (by rw [c_12]; decide) (by rw [c_12]; rfl) (by decide) ?_
      refine lv_aload_n hC.1 hC.2.1 dX4_told_63 rfl (lv_at hl 0 rfl) ?_
      refine mg4 hC hK hW 6 (v := .ref (M 3)) rfl (by decide) rfl tf_X4_17 dX4_told_64 ?_
      refine lv_iload_n hC.1 hC.2.1 dX4_told_67 rfl (lv_at hl 1 rfl) ?_
      refine mai hC hK hW 3 (by decide) rfl (i := p) c_5.in dX4_told_68 ?_
      exact krS hC hr hlk (by simp (config := {decide := true}) only [kif_true, kif_false, kb, kup_eq, kup_f, kup_i, not_true_eq_false, not_false_eq_true, and_true, true_and, and_false, false_and, and_self, or_true, true_or, or_false, false_or, a_told, c_5, c_12]) dX4_told_69
    · refine lv_tableIn (tgt := 70) (off := 58) hC.1 hC.2.1 dX4_told_12 (by rw [c_12]; decide) (by rw [c_12]; decide) (by rw [c_12]; rfl) (by decide) ?_
      refine lv_aload_n hC.1 hC.2.1 dX4_told_70 rfl (lv_at hl 0 rfl) ?_
      refine mg4 hC hK hW 7 (v := .ref (M 4)) rfl (by decide) rfl tf_X4_20 dX4_told_71 ?_
      refine lv_iload_n hC.1 hC.2.1 dX4_told_74 rfl (lv_at hl 1 rfl) ?_
      refine mai hC hK hW 4 (by decide) rfl (i := p) c_5.in dX4_told_75 ?_
      exact krS hC hr hlk (by simp (config := {decide := true}) only [kif_true, kif_false, kb, kup_eq, kup_f, kup_i, not_true_eq_false, not_false_eq_true, and_true, true_and, and_false, false_and, and_self, or_true, true_or, or_false, false_or, a_told, c_5, c_12]) dX4_told_76
    · refine lv_tableIn (tgt := 77) (off := 65) hC.1 hC.2.1 dX4_told_12 (by rw [c_12]; decide) (by rw [c_12]; decide) (by rw [c_12]; rfl) (by decide) ?_
      refine lv_aload_n hC.1 hC.2.1 dX4_told_77 rfl (lv_at hl 0 rfl) ?_
      refine mg4 hC hK hW 8 (v := .ref (M 5)) rfl (by decide) rfl tf_X4_23 dX4_told_78 ?_
      refine lv_iload_n hC.1 hC.2.1 dX4_told_81 rfl (lv_at hl 1 rfl) ?_
      refine mai hC hK hW 5 (by decide) rfl (i := p) c_5.in dX4_told_82 ?_
      exact krS hC hr hlk (by simp (config := {decide := true}) only [kif_true, kif_false, kb, kup_eq, kup_f, kup_i, not_true_eq_false, not_false_eq_true, and_true, true_and, and_false, false_and, and_self, or_true, true_or, or_false, false_or, a_told, c_5, c_12]) dX4_told_83
    · refine lv_tableIn (tgt := 84) (off := 72) hC.1 hC.2.1 dX4_told_12 (by rw [c_12]; decide) (by rw [c_12]; decide) (by rw [c_12]; rfl) (by decide) ?_
      refine lv_aload_n hC.1 hC.2.1 dX4_told_84 rfl (lv_at hl 0 rfl) ?_
      refine mg4 hC hK hW 9 (v := .ref (M 6)) rfl (by decide) rfl tf_X4_26 dX4_told_85 ?_
      refine lv_iload_n hC.1 hC.2.1 dX4_told_88 rfl (lv_at hl 1 rfl) ?_
      refine mai hC hK hW 6 (by decide) rfl (i := p) c_5.in dX4_told_89 ?_
      exact krS hC hr hlk (by simp (config := {decide := true}) only [kif_true, kif_false, kb, kup_eq, kup_f, kup_i, not_true_eq_false, not_false_eq_true, and_true, true_and, and_false, false_and, and_self, or_true, true_or, or_false, false_or, a_told, c_5, c_12]) dX4_told_90
    · refine lv_tableIn (tgt := 91) (off := 79) hC.1 hC.2.1 dX4_told_12 (by rw [c_12]; decide) (by rw [c_12]; decide) (by rw [c_12]; rfl) (by decide) ?_
      refine lv_aload_n hC.1 hC.2.1 dX4_told_91 rfl (lv_at hl 0 rfl) ?_
      refine lv_iload_n hC.1 hC.2.1 dX4_told_92 rfl (lv_at hl 1 rfl) ?_
      refine keSi (rest := []) (mcV 0 hC hK hW (c_X4_openOf l D G M hL T N r g p hI2) (kgoodV tm_X4_118 ti_yX4_openOf te_yX4_openOf tz_X4 tc_yX4_openOf) mw_m rfl ⟨rfl, by decide, by decide, (show Option.map _ (parseMethodDescriptor yX4_openOf.desc) = some 1 from by decide +kernel)⟩ ⟨Nat.le_of_ble_eq_true rfl, Nat.le_of_ble_eq_true rfl⟩ hl.1 rfl (Nat.le_of_ble_eq_true rfl) ⟨Nat.le_refl _, Nat.le_refl _⟩ dX4_told_93) ?_
      exact krS hC hr hlk (by simp (config := {decide := true}) only [kif_true, kif_false, kb, kup_eq, kup_f, kup_i, not_true_eq_false, not_false_eq_true, and_true, true_and, and_false, false_and, and_self, or_true, true_or, or_false, false_or, a_told, c_5, c_12]) dX4_told_96
    · refine lv_tableIn (tgt := 97) (off := 85) hC.1 hC.2.1 dX4_told_12 (by rw [c_12]; decide) (by rw [c_12]; decide) (by rw [c_12]; rfl) (by decide) ?_
      refine lv_aload_n hC.1 hC.2.1 dX4_told_97 rfl (lv_at hl 0 rfl) ?_
      refine lv_iload_n hC.1 hC.2.1 dX4_told_98 rfl (lv_at hl 1 rfl) ?_
      refine keSi (rest := []) (mcV 0 hC hK hW (c_X4_bothOf l D G M hL T N r g p c_5.in) (kgoodV tm_X4_122 ti_yX4_bothOf te_yX4_bothOf tz_X4 tc_yX4_bothOf) mw_m rfl ⟨rfl, by decide, by decide, (show Option.map _ (parseMethodDescriptor yX4_bothOf.desc) = some 1 from by decide +kernel)⟩ ⟨Nat.le_of_ble_eq_true rfl, Nat.le_of_ble_eq_true rfl⟩ hl.1 rfl (Nat.le_of_ble_eq_true rfl) ⟨Nat.le_refl _, Nat.le_refl _⟩ dX4_told_99) ?_
      exact krS hC hr hlk (by simp (config := {decide := true}) only [kif_true, kif_false, kb, kup_eq, kup_f, kup_i, not_true_eq_false, not_false_eq_true, and_true, true_and, and_false, false_and, and_self, or_true, true_or, or_false, false_or, a_told, c_5, c_12]) dX4_told_102
    · refine lv_tableOut (tgt := 103) hC.1 hC.2.1 dX4_told_12 c_12.1 (by decide) ?_
      refine lv_ldc hC.1 hC.2.1 hC.2.2.2.1 (hC.2.2.2.2 _ (kt_in tk_X4_110 rfl)) dX4_told_103 ?_
      exact krS hC hr hlk (by simp (config := {decide := true}) only [kif_true, kif_false, kb, kup_eq, kup_f, kup_i, not_true_eq_false, not_false_eq_true, and_true, true_and, and_false, false_and, and_self, or_true, true_or, or_false, false_or, a_told, c_5, c_12.2.1, c_12.2.2.1, c_12.2.2.2.1, c_12.2.2.2.2.1, c_12.2.2.2.2.2.1, c_12.2.2.2.2.2.2.1, c_12.2.2.2.2.2.2.2]) dX4_told_105
  · refine lv_ldc hC.1 hC.2.1 hC.2.2.2.1 (hC.2.2.2.2 _ (kt_in tk_X4_107 rfl)) dX4_told_8 ?_
    exact krS hC hr hlk (by simp (config := {decide := true}) only [kif_true, kif_false, kb, kup_eq, kup_f, kup_i, not_true_eq_false, not_false_eq_true, and_true, true_and, and_false, false_and, and_self, or_true, true_or, or_false, false_or, a_told, c_5]) dX4_told_10
set_option maxHeartbeats 4000000 in
set_option maxRecDepth 100000 in
theorem c_X4_label (l : Launch) (D : va_G) (G : Nat → ClassId) (M : Nat → Nat) (hL : mL M) (T N : kT) (r g : Nat → Int32) (p : Int32) (w : Int32) (x : Int32) (hI0 : kI0 T) (hI1 : kI1 T) (hI2 : kI2 T) : kM l yX4_label cX4_label 5 (some .int) 3 68 (mPc D G M T N r g [.ref (M 0), .int p, .int w, .int x]) (mQi D G M (a_label T p w x) (t_label T p w x) N r g) (mA M) := by
  refine kBegin (by decide) (Nat.le_of_ble_eq_true rfl) ?_
  intro zp ze zs zm zargs zbelow zmeth zc hC hr hlk hB ls hl
  obtain ⟨hP, hK⟩ := hB
  have hW : mWd D G M (mA M) zs.heap T N r g zs.heap [] := mWd.start hL hP
  have hl : lv_has ls 5 [(0, .ref (M 0)), (1, .int p), (2, .int w), (3, .int x)] := hl
  refine lv_aload_n hC.1 hC.2.1 dX4_label_0 rfl (lv_at hl 0 rfl) ?_
  refine lv_iload_n hC.1 hC.2.1 dX4_label_1 rfl (lv_at hl 1 rfl) ?_
  refine keSi (rest := []) (mcV 0 hC hK hW (c_X4_isProcess l D G M hL T N r g p hI1) (kgoodV tm_X4_103 ti_yX4_isProcess te_yX4_isProcess tz_X4 tc_yX4_isProcess) mw_m rfl ⟨rfl, by decide, by decide, (show Option.map _ (parseMethodDescriptor yX4_isProcess.desc) = some 1 from by decide +kernel)⟩ ⟨Nat.le_of_ble_eq_true rfl, Nat.le_of_ble_eq_true rfl⟩ hl.1 rfl (Nat.le_of_ble_eq_true rfl) ⟨Nat.le_refl _, Nat.le_refl _⟩ dX4_label_2) ?_
  refine kif_ne (tgt := 11) hC.1 hC.2.1 dX4_label_5 (by decide) (fun c_5 => ?_) (fun c_5 => ?_)
  · refine lv_iload_n hC.1 hC.2.1 dX4_label_11 rfl (lv_at hl 2 rfl) ?_
    refine lv_i2l hC.1 hC.2.1 dX4_label_12 rfl ?_
    refine lv_lconst (v := 0) hC.1 hC.2.1 dX4_label_13 (by decide) ?_
    refine lv_lconst (v := 1) hC.1 hC.2.1 dX4_label_14 (by decide) ?_
    refine keSi (rest := []) (kcS0 hC (c_X4_within l w.toInt64 0 1) (kgoodS tm_X4_93 ts_yX4_within tz_X4 tc_yX4_within) ⟨rfl, by decide, by decide, (show Option.map _ (parseMethodDescriptor yX4_within.desc) = some 3 from by decide +kernel)⟩ ⟨Nat.le_of_ble_eq_true rfl, Nat.le_of_ble_eq_true rfl⟩ hl.1 rfl (Nat.le_of_ble_eq_true rfl) ⟨Nat.le_refl _, Nat.le_refl _⟩ dX4_label_15) ?_
    refine kif_eq (tgt := 29) hC.1 hC.2.1 dX4_label_18 (by decide) (fun c_18 => ?_) (fun c_18 => ?_)
    · have hlb : ¬ (¬ w < 0 ∧ ¬ 1 < w) := fun z => c_18 ((kwt_c (lo := 0) (hi := 1) rfl rfl).mpr z)
      refine lv_ldc hC.1 hC.2.1 hC.2.2.2.1 (hC.2.2.2.2 _ (kt_in tk_X4_110 rfl)) dX4_label_29 ?_
      exact mkrI hC hr hlk hW (by simp (config := {decide := true}) only [kif_true, kif_false, kb, kup_eq, kup_f, kup_i, not_true_eq_false, not_false_eq_true, and_true, true_and, and_false, false_and, and_self, or_true, true_or, or_false, false_or, kLb, a_label, t_label, kLok, kLs, kLt, kLw, c_5, c_18, hlb]) (by simp (config := {decide := true}) only [kif_true, kif_false, kb, kup_eq, kup_f, kup_i, not_true_eq_false, not_false_eq_true, and_true, true_and, and_false, false_and, and_self, or_true, true_or, or_false, false_or, kLb, a_label, t_label, kLok, kLs, kLt, kLw, c_5, c_18, hlb]) rfl rfl rfl dX4_label_31
    · have hlb : (¬ w < 0 ∧ ¬ 1 < w) := (kwt_c (lo := 0) (hi := 1) rfl rfl).mp c_18
      refine lv_aload_n hC.1 hC.2.1 dX4_label_21 rfl (lv_at hl 0 rfl) ?_
      refine lv_iload_n hC.1 hC.2.1 dX4_label_22 rfl (lv_at hl 3 rfl) ?_
      refine keSi (rest := []) (mcV 0 hC hK hW (c_X4_isSet l D G M hL T N r g x hI0) (kgoodV tm_X4_129 ti_yX4_isSet te_yX4_isSet tz_X4 tc_yX4_isSet) mw_m rfl ⟨rfl, by decide, by decide, (show Option.map _ (parseMethodDescriptor yX4_isSet.desc) = some 1 from by decide +kernel)⟩ ⟨Nat.le_of_ble_eq_true rfl, Nat.le_of_ble_eq_true rfl⟩ hl.1 rfl (Nat.le_of_ble_eq_true rfl) ⟨Nat.le_refl _, Nat.le_refl _⟩ dX4_label_23) ?_
      refine kif_ne (tgt := 32) hC.1 hC.2.1 dX4_label_26 (by decide) (fun c_26 => ?_) (fun c_26 => ?_)
      · refine lv_iload_n hC.1 hC.2.1 dX4_label_32 rfl (lv_at hl 2 rfl) ?_
        refine lv_if_ne (tgt := 45) hC.1 hC.2.1 dX4_label_33 (by decide) (fun c_33 => ?_) (fun c_33 => ?_)
        · refine lv_aload_n hC.1 hC.2.1 dX4_label_45 rfl (lv_at hl 0 rfl) ?_
          refine mg4 hC hK hW 6 (v := .ref (M 3)) rfl (by decide) rfl tf_X4_17 dX4_label_46 ?_
          refine lv_iload_n hC.1 hC.2.1 dX4_label_49 rfl (lv_at hl 1 rfl) ?_
          refine mai hC hK hW 3 (by decide) rfl (i := p) c_5.in dX4_label_50 ?_
          refine lv_istore (lv' := [(4, .int (T 4 (tn p))), (0, .ref (M 0)), (1, .int p), (2, .int w), (3, .int x)]) hC.1 hC.2.1 dX4_label_51 hl (by decide) rfl (fun ls hl => ?_)
          refine lv_aload_n hC.1 hC.2.1 dX4_label_53 rfl (lv_at hl 1 rfl) ?_
          refine lv_iload_n hC.1 hC.2.1 dX4_label_54 rfl (lv_at hl 2 rfl) ?_
          refine lv_iload hC.1 hC.2.1 dX4_label_55 (lv_at hl 0 rfl) ?_
          refine lv_iload_n hC.1 hC.2.1 dX4_label_57 rfl (lv_at hl 4 rfl) ?_
          refine keSi (rest := []) (mcV 0 hC hK hW (c_X4_isSafe l D G M hL T N r g p (T 4 (tn p)) x c_5.in) (kgoodV tm_X4_132 ti_yX4_isSafe te_yX4_isSafe tz_X4 tc_yX4_isSafe) mw_m rfl ⟨rfl, by decide, by decide, (show Option.map _ (parseMethodDescriptor yX4_isSafe.desc) = some 3 from by decide +kernel)⟩ ⟨Nat.le_of_ble_eq_true rfl, Nat.le_of_ble_eq_true rfl⟩ hl.1 rfl (Nat.le_of_ble_eq_true rfl) ⟨Nat.le_refl _, Nat.le_refl _⟩ dX4_label_58) ?_
          refine kif_ne (tgt := 67) hC.1 hC.2.1 dX4_label_61 (by decide) (fun c_61 => ?_) (fun c_61 => ?_)
          · refine lv_aload_n hC.1 hC.2.1 dX4_label_67 rfl (lv_at hl 1 rfl) ?_
            refine lv_iload_n hC.1 hC.2.1 dX4_label_68 rfl (lv_at hl 2 rfl) ?_
            refine lv_iload_n hC.1 hC.2.1 dX4_label_69 rfl (lv_at hl 3 rfl) ?_
            refine lv_iload_n hC.1 hC.2.1 dX4_label_70 rfl (lv_at hl 4 rfl) ?_
            refine meQv (rest := []) (mcV 0 hC hK hW (c_X4_putLabel l D G M hL T N r g p w x c_5.in) (kgoodV tm_X4_136 ti_yX4_putLabel te_yX4_putLabel tz_X4 tc_yX4_putLabel) mw_m rfl ⟨rfl, by decide, by decide, (show Option.map _ (parseMethodDescriptor yX4_putLabel.desc) = some 3 from by decide +kernel)⟩ ⟨Nat.le_of_ble_eq_true rfl, Nat.le_of_ble_eq_true rfl⟩ hl.1 rfl (Nat.le_of_ble_eq_true rfl) ⟨Nat.le_refl _, Nat.le_refl _⟩ dX4_label_71) hW (fun H locs (hW : mWd D G M (mA M) zs.heap (kif (w = 0) (kup T 3 (tn p) x) (kup T 4 (tn p) x)) N r g H locs) => ?_)
            rw [kif_f c_33] at hW
            refine lv_aload_n hC.1 hC.2.1 dX4_label_74 rfl (lv_at hl 1 rfl) ?_
            refine lv_iload_n hC.1 hC.2.1 dX4_label_75 rfl (lv_at hl 2 rfl) ?_
            refine keSi (rest := []) (mcV 0 hC hK hW (c_X4_suitAll l D G M hL (kup T 4 (tn p) x) N r g p hI2 c_5.in) (kgoodV tm_X4_140 ti_yX4_suitAll te_yX4_suitAll tz_X4 tc_yX4_suitAll) mw_m rfl ⟨rfl, by decide, by decide, (show Option.map _ (parseMethodDescriptor yX4_suitAll.desc) = some 1 from by decide +kernel)⟩ ⟨Nat.le_of_ble_eq_true rfl, Nat.le_of_ble_eq_true rfl⟩ hl.1 rfl (Nat.le_of_ble_eq_true rfl) ⟨Nat.le_refl _, Nat.le_refl _⟩ dX4_label_76) ?_
            rw [kFit_up4]
            refine kif_ne (tgt := 93) hC.1 hC.2.1 dX4_label_79 (by decide) (fun c_79 => ?_) (fun c_79 => ?_)
            · refine lv_iload hC.1 hC.2.1 dX4_label_93 (lv_at hl 0 rfl) ?_
              exact mkrI hC hr hlk hW (by simp (config := {decide := true}) only [kif_true, kif_false, kb, kup_eq, kup_f, kup_i, not_true_eq_false, not_false_eq_true, and_true, true_and, and_false, false_and, and_self, or_true, true_or, or_false, false_or, kLb, a_label, t_label, kLok, kLs, kLt, kLw, c_5, c_18, hlb.1, hlb.2, c_26, c_33, c_61, c_79]) (by simp (config := {decide := true}) only [kif_true, kif_false, kb, kup_eq, kup_f, kup_i, not_true_eq_false, not_false_eq_true, and_true, true_and, and_false, false_and, and_self, or_true, true_or, or_false, false_or, kLb, a_label, t_label, kLok, kLs, kLt, kLw, c_5, c_18, hlb.1, hlb.2, c_26, c_33, c_61, c_79]; rw [kup_id (T := T) rfl]) rfl rfl rfl dX4_label_95
            · refine lv_aload_n hC.1 hC.2.1 dX4_label_82 rfl (lv_at hl 1 rfl) ?_
              refine lv_iload_n hC.1 hC.2.1 dX4_label_83 rfl (lv_at hl 2 rfl) ?_
              refine lv_iload_n hC.1 hC.2.1 dX4_label_84 rfl (lv_at hl 3 rfl) ?_
              refine lv_iload hC.1 hC.2.1 dX4_label_85 (lv_at hl 0 rfl) ?_
              refine meQv (rest := []) (mcV 0 hC hK hW (c_X4_putLabel l D G M hL (kup T 4 (tn p) x) N r g p w (T 4 (tn p)) c_5.in) (kgoodV tm_X4_136 ti_yX4_putLabel te_yX4_putLabel tz_X4 tc_yX4_putLabel) mw_m rfl ⟨rfl, by decide, by decide, (show Option.map _ (parseMethodDescriptor yX4_putLabel.desc) = some 3 from by decide +kernel)⟩ ⟨Nat.le_of_ble_eq_true rfl, Nat.le_of_ble_eq_true rfl⟩ hl.1 rfl (Nat.le_of_ble_eq_true rfl) ⟨Nat.le_refl _, Nat.le_refl _⟩ dX4_label_87) hW (fun H locs (hW : mWd D G M (mA M) zs.heap (kif (w = 0) (kup (kup T 4 (tn p) x) 3 (tn p) (T 4 (tn p))) (kup (kup T 4 (tn p) x) 4 (tn p) (T 4 (tn p)))) N r g H locs) => ?_)
              rw [kif_f c_33] at hW
              refine lv_ldc hC.1 hC.2.1 hC.2.2.2.1 (hC.2.2.2.2 _ (kt_in tk_X4_135 rfl)) dX4_label_90 ?_
              exact mkrI hC hr hlk hW (by simp (config := {decide := true}) only [kif_true, kif_false, kb, kup_eq, kup_f, kup_i, not_true_eq_false, not_false_eq_true, and_true, true_and, and_false, false_and, and_self, or_true, true_or, or_false, false_or, kLb, a_label, t_label, kLok, kLs, kLt, kLw, c_5, c_18, hlb.1, hlb.2, c_26, c_33, c_61, c_79]) (by rw [kup_up, kup_id rfl]; simp (config := {decide := true}) only [kif_true, kif_false, kb, kup_eq, kup_f, kup_i, not_true_eq_false, not_false_eq_true, and_true, true_and, and_false, false_and, and_self, or_true, true_or, or_false, false_or, kLb, a_label, t_label, kLok, kLs, kLt, kLw, c_5, c_18, hlb.1, hlb.2, c_26, c_33, c_61, c_79]) rfl rfl rfl dX4_label_92
          · refine lv_ldc hC.1 hC.2.1 hC.2.2.2.1 (hC.2.2.2.2 _ (kt_in tk_X4_135 rfl)) dX4_label_64 ?_
            exact mkrI hC hr hlk hW (by simp (config := {decide := true}) only [kif_true, kif_false, kb, kup_eq, kup_f, kup_i, not_true_eq_false, not_false_eq_true, and_true, true_and, and_false, false_and, and_self, or_true, true_or, or_false, false_or, kLb, a_label, t_label, kLok, kLs, kLt, kLw, c_5, c_18, hlb.1, hlb.2, c_26, c_33, c_61]) (by simp (config := {decide := true}) only [kif_true, kif_false, kb, kup_eq, kup_f, kup_i, not_true_eq_false, not_false_eq_true, and_true, true_and, and_false, false_and, and_self, or_true, true_or, or_false, false_or, kLb, a_label, t_label, kLok, kLs, kLt, kLw, c_5, c_18, hlb.1, hlb.2, c_26, c_33, c_61]) rfl rfl rfl dX4_label_66
        · refine lv_aload_n hC.1 hC.2.1 dX4_label_36 rfl (lv_at hl 0 rfl) ?_
          refine mg4 hC hK hW 5 (v := .ref (M 2)) rfl (by decide) rfl tf_X4_13 dX4_label_37 ?_
          refine lv_iload_n hC.1 hC.2.1 dX4_label_40 rfl (lv_at hl 1 rfl) ?_
          refine mai hC hK hW 2 (by decide) rfl (i := p) c_5.in dX4_label_41 ?_
          refine lv_goto (tgt := 51) hC.1 hC.2.1 dX4_label_42 (by decide) ?_
          refine lv_istore (lv' := [(4, .int (T 3 (tn p))), (0, .ref (M 0)), (1, .int p), (2, .int w), (3, .int x)]) hC.1 hC.2.1 dX4_label_51 hl (by decide) rfl (fun ls hl => ?_)
          refine lv_aload_n hC.1 hC.2.1 dX4_label_53 rfl (lv_at hl 1 rfl) ?_
          refine lv_iload_n hC.1 hC.2.1 dX4_label_54 rfl (lv_at hl 2 rfl) ?_
          refine lv_iload hC.1 hC.2.1 dX4_label_55 (lv_at hl 0 rfl) ?_
          refine lv_iload_n hC.1 hC.2.1 dX4_label_57 rfl (lv_at hl 4 rfl) ?_
          refine keSi (rest := []) (mcV 0 hC hK hW (c_X4_isSafe l D G M hL T N r g p (T 3 (tn p)) x c_5.in) (kgoodV tm_X4_132 ti_yX4_isSafe te_yX4_isSafe tz_X4 tc_yX4_isSafe) mw_m rfl ⟨rfl, by decide, by decide, (show Option.map _ (parseMethodDescriptor yX4_isSafe.desc) = some 3 from by decide +kernel)⟩ ⟨Nat.le_of_ble_eq_true rfl, Nat.le_of_ble_eq_true rfl⟩ hl.1 rfl (Nat.le_of_ble_eq_true rfl) ⟨Nat.le_refl _, Nat.le_refl _⟩ dX4_label_58) ?_
          refine kif_ne (tgt := 67) hC.1 hC.2.1 dX4_label_61 (by decide) (fun c_61 => ?_) (fun c_61 => ?_)
          · refine lv_aload_n hC.1 hC.2.1 dX4_label_67 rfl (lv_at hl 1 rfl) ?_
            refine lv_iload_n hC.1 hC.2.1 dX4_label_68 rfl (lv_at hl 2 rfl) ?_
            refine lv_iload_n hC.1 hC.2.1 dX4_label_69 rfl (lv_at hl 3 rfl) ?_
            refine lv_iload_n hC.1 hC.2.1 dX4_label_70 rfl (lv_at hl 4 rfl) ?_
            refine meQv (rest := []) (mcV 0 hC hK hW (c_X4_putLabel l D G M hL T N r g p w x c_5.in) (kgoodV tm_X4_136 ti_yX4_putLabel te_yX4_putLabel tz_X4 tc_yX4_putLabel) mw_m rfl ⟨rfl, by decide, by decide, (show Option.map _ (parseMethodDescriptor yX4_putLabel.desc) = some 3 from by decide +kernel)⟩ ⟨Nat.le_of_ble_eq_true rfl, Nat.le_of_ble_eq_true rfl⟩ hl.1 rfl (Nat.le_of_ble_eq_true rfl) ⟨Nat.le_refl _, Nat.le_refl _⟩ dX4_label_71) hW (fun H locs (hW : mWd D G M (mA M) zs.heap (kif (w = 0) (kup T 3 (tn p) x) (kup T 4 (tn p) x)) N r g H locs) => ?_)
            rw [kif_t c_33] at hW
            refine lv_aload_n hC.1 hC.2.1 dX4_label_74 rfl (lv_at hl 1 rfl) ?_
            refine lv_iload_n hC.1 hC.2.1 dX4_label_75 rfl (lv_at hl 2 rfl) ?_
            refine keSi (rest := []) (mcV 0 hC hK hW (c_X4_suitAll l D G M hL (kup T 3 (tn p) x) N r g p hI2 c_5.in) (kgoodV tm_X4_140 ti_yX4_suitAll te_yX4_suitAll tz_X4 tc_yX4_suitAll) mw_m rfl ⟨rfl, by decide, by decide, (show Option.map _ (parseMethodDescriptor yX4_suitAll.desc) = some 1 from by decide +kernel)⟩ ⟨Nat.le_of_ble_eq_true rfl, Nat.le_of_ble_eq_true rfl⟩ hl.1 rfl (Nat.le_of_ble_eq_true rfl) ⟨Nat.le_refl _, Nat.le_refl _⟩ dX4_label_76) ?_
            rw [kFit_up3]
            refine kif_ne (tgt := 93) hC.1 hC.2.1 dX4_label_79 (by decide) (fun c_79 => ?_) (fun c_79 => ?_)
            · refine lv_iload hC.1 hC.2.1 dX4_label_93 (lv_at hl 0 rfl) ?_
              exact mkrI hC hr hlk hW (by simp (config := {decide := true}) only [kif_true, kif_false, kb, kup_eq, kup_f, kup_i, not_true_eq_false, not_false_eq_true, and_true, true_and, and_false, false_and, and_self, or_true, true_or, or_false, false_or, kLb, a_label, t_label, kLok, kLs, kLt, kLw, c_5, c_18, hlb.1, hlb.2, c_26, c_33, c_61, c_79]) (by simp (config := {decide := true}) only [kif_true, kif_false, kb, kup_eq, kup_f, kup_i, not_true_eq_false, not_false_eq_true, and_true, true_and, and_false, false_and, and_self, or_true, true_or, or_false, false_or, kLb, a_label, t_label, kLok, kLs, kLt, kLw, c_5, c_18, hlb.1, hlb.2, c_26, c_33, c_61, c_79]; exact (kup_id (kup_f (f := 3) (g := 4) (by decide))).symm) rfl rfl rfl dX4_label_95
            · refine lv_aload_n hC.1 hC.2.1 dX4_label_82 rfl (lv_at hl 1 rfl) ?_
              refine lv_iload_n hC.1 hC.2.1 dX4_label_83 rfl (lv_at hl 2 rfl) ?_
              refine lv_iload_n hC.1 hC.2.1 dX4_label_84 rfl (lv_at hl 3 rfl) ?_
              refine lv_iload hC.1 hC.2.1 dX4_label_85 (lv_at hl 0 rfl) ?_
              refine meQv (rest := []) (mcV 0 hC hK hW (c_X4_putLabel l D G M hL (kup T 3 (tn p) x) N r g p w (T 3 (tn p)) c_5.in) (kgoodV tm_X4_136 ti_yX4_putLabel te_yX4_putLabel tz_X4 tc_yX4_putLabel) mw_m rfl ⟨rfl, by decide, by decide, (show Option.map _ (parseMethodDescriptor yX4_putLabel.desc) = some 3 from by decide +kernel)⟩ ⟨Nat.le_of_ble_eq_true rfl, Nat.le_of_ble_eq_true rfl⟩ hl.1 rfl (Nat.le_of_ble_eq_true rfl) ⟨Nat.le_refl _, Nat.le_refl _⟩ dX4_label_87) hW (fun H locs (hW : mWd D G M (mA M) zs.heap (kif (w = 0) (kup (kup T 3 (tn p) x) 3 (tn p) (T 3 (tn p))) (kup (kup T 3 (tn p) x) 4 (tn p) (T 3 (tn p)))) N r g H locs) => ?_)
              rw [kif_t c_33] at hW
              refine lv_ldc hC.1 hC.2.1 hC.2.2.2.1 (hC.2.2.2.2 _ (kt_in tk_X4_135 rfl)) dX4_label_90 ?_
              exact mkrI hC hr hlk hW (by simp (config := {decide := true}) only [kif_true, kif_false, kb, kup_eq, kup_f, kup_i, not_true_eq_false, not_false_eq_true, and_true, true_and, and_false, false_and, and_self, or_true, true_or, or_false, false_or, kLb, a_label, t_label, kLok, kLs, kLt, kLw, c_5, c_18, hlb.1, hlb.2, c_26, c_33, c_61, c_79]) (by rw [kup_up, kup_id rfl]; simp (config := {decide := true}) only [kif_true, kif_false, kb, kup_eq, kup_f, kup_i, not_true_eq_false, not_false_eq_true, and_true, true_and, and_false, false_and, and_self, or_true, true_or, or_false, false_or, kLb, a_label, t_label, kLok, kLs, kLt, kLw, c_5, c_18, hlb.1, hlb.2, c_26, c_33, c_61, c_79]) rfl rfl rfl dX4_label_92
          · refine lv_ldc hC.1 hC.2.1 hC.2.2.2.1 (hC.2.2.2.2 _ (kt_in tk_X4_135 rfl)) dX4_label_64 ?_
            exact mkrI hC hr hlk hW (by simp (config := {decide := true}) only [kif_true, kif_false, kb, kup_eq, kup_f, kup_i, not_true_eq_false, not_false_eq_true, and_true, true_and, and_false, false_and, and_self, or_true, true_or, or_false, false_or, kLb, a_label, t_label, kLok, kLs, kLt, kLw, c_5, c_18, hlb.1, hlb.2, c_26, c_33, c_61]) (by simp (config := {decide := true}) only [kif_true, kif_false, kb, kup_eq, kup_f, kup_i, not_true_eq_false, not_false_eq_true, and_true, true_and, and_false, false_and, and_self, or_true, true_or, or_false, false_or, kLb, a_label, t_label, kLok, kLs, kLt, kLw, c_5, c_18, hlb.1, hlb.2, c_26, c_33, c_61]) rfl rfl rfl dX4_label_66
      · refine lv_ldc hC.1 hC.2.1 hC.2.2.2.1 (hC.2.2.2.2 _ (kt_in tk_X4_110 rfl)) dX4_label_29 ?_
        exact mkrI hC hr hlk hW (by simp (config := {decide := true}) only [kif_true, kif_false, kb, kup_eq, kup_f, kup_i, not_true_eq_false, not_false_eq_true, and_true, true_and, and_false, false_and, and_self, or_true, true_or, or_false, false_or, kLb, a_label, t_label, kLok, kLs, kLt, kLw, c_5, c_18, hlb.1, hlb.2, c_26]) (by simp (config := {decide := true}) only [kif_true, kif_false, kb, kup_eq, kup_f, kup_i, not_true_eq_false, not_false_eq_true, and_true, true_and, and_false, false_and, and_self, or_true, true_or, or_false, false_or, kLb, a_label, t_label, kLok, kLs, kLt, kLw, c_5, c_18, hlb.1, hlb.2, c_26]) rfl rfl rfl dX4_label_31
  · refine lv_ldc hC.1 hC.2.1 hC.2.2.2.1 (hC.2.2.2.2 _ (kt_in tk_X4_107 rfl)) dX4_label_8 ?_
    exact mkrI hC hr hlk hW (by simp (config := {decide := true}) only [kif_true, kif_false, kb, kup_eq, kup_f, kup_i, not_true_eq_false, not_false_eq_true, and_true, true_and, and_false, false_and, and_self, or_true, true_or, or_false, false_or, kLb, a_label, t_label, kLok, kLs, kLt, kLw, c_5]) (by simp (config := {decide := true}) only [kif_true, kif_false, kb, kup_eq, kup_f, kup_i, not_true_eq_false, not_false_eq_true, and_true, true_and, and_false, false_and, and_self, or_true, true_or, or_false, false_or, kLb, a_label, t_label, kLok, kLs, kLt, kLw, c_5]) rfl rfl rfl dX4_label_10
set_option maxHeartbeats 4000000 in
set_option maxRecDepth 100000 in
theorem c_X4_drop (l : Launch) (D : va_G) (G : Nat → ClassId) (M : Nat → Nat) (hL : mL M) (T N : kT) (r g : Nat → Int32) (p : Int32) (w : Int32) (x : Int32) (hI0 : kI0 T) (hI1 : kI1 T) (hI2 : kI2 T) : kM l yX4_drop cX4_drop 6 (some .int) 3 68 (mPc D G M T N r g [.ref (M 0), .int p, .int w, .int x]) (mQi D G M (a_drop T p w x) (t_drop T p w x) N r g) (mA M) := by
  refine kBegin (by decide) (Nat.le_of_ble_eq_true rfl) ?_
  intro zp ze zs zm zargs zbelow zmeth zc hC hr hlk hB ls hl
  obtain ⟨hP, hK⟩ := hB
  have hW : mWd D G M (mA M) zs.heap T N r g zs.heap [] := mWd.start hL hP
  have hl : lv_has ls 6 [(0, .ref (M 0)), (1, .int p), (2, .int w), (3, .int x)] := hl
  refine lv_aload_n hC.1 hC.2.1 dX4_drop_0 rfl (lv_at hl 0 rfl) ?_
  refine lv_iload_n hC.1 hC.2.1 dX4_drop_1 rfl (lv_at hl 1 rfl) ?_
  refine keSi (rest := []) (mcV 0 hC hK hW (c_X4_isProcess l D G M hL T N r g p hI1) (kgoodV tm_X4_103 ti_yX4_isProcess te_yX4_isProcess tz_X4 tc_yX4_isProcess) mw_m rfl ⟨rfl, by decide, by decide, (show Option.map _ (parseMethodDescriptor yX4_isProcess.desc) = some 1 from by decide +kernel)⟩ ⟨Nat.le_of_ble_eq_true rfl, Nat.le_of_ble_eq_true rfl⟩ hl.1 rfl (Nat.le_of_ble_eq_true rfl) ⟨Nat.le_refl _, Nat.le_refl _⟩ dX4_drop_2) ?_
  refine kif_ne (tgt := 11) hC.1 hC.2.1 dX4_drop_5 (by decide) (fun c_5 => ?_) (fun c_5 => ?_)
  · refine lv_iload_n hC.1 hC.2.1 dX4_drop_11 rfl (lv_at hl 2 rfl) ?_
    refine lv_i2l hC.1 hC.2.1 dX4_drop_12 rfl ?_
    refine lv_lconst (v := 0) hC.1 hC.2.1 dX4_drop_13 (by decide) ?_
    refine lv_lconst (v := 1) hC.1 hC.2.1 dX4_drop_14 (by decide) ?_
    refine keSi (rest := []) (kcS0 hC (c_X4_within l w.toInt64 0 1) (kgoodS tm_X4_93 ts_yX4_within tz_X4 tc_yX4_within) ⟨rfl, by decide, by decide, (show Option.map _ (parseMethodDescriptor yX4_within.desc) = some 3 from by decide +kernel)⟩ ⟨Nat.le_of_ble_eq_true rfl, Nat.le_of_ble_eq_true rfl⟩ hl.1 rfl (Nat.le_of_ble_eq_true rfl) ⟨Nat.le_refl _, Nat.le_refl _⟩ dX4_drop_15) ?_
    refine kif_eq (tgt := 29) hC.1 hC.2.1 dX4_drop_18 (by decide) (fun c_18 => ?_) (fun c_18 => ?_)
    · have hlb : ¬ (¬ w < 0 ∧ ¬ 1 < w) := fun z => c_18 ((kwt_c (lo := 0) (hi := 1) rfl rfl).mpr z)
      refine lv_ldc hC.1 hC.2.1 hC.2.2.2.1 (hC.2.2.2.2 _ (kt_in tk_X4_110 rfl)) dX4_drop_29 ?_
      exact mkrI hC hr hlk hW (by simp (config := {decide := true}) only [kif_true, kif_false, kb, kup_eq, kup_f, kup_i, not_true_eq_false, not_false_eq_true, and_true, true_and, and_false, false_and, and_self, or_true, true_or, or_false, false_or, kLb, a_drop, t_drop, kDok, kDp, kDm, c_5, c_18, hlb]) (by simp (config := {decide := true}) only [kif_true, kif_false, kb, kup_eq, kup_f, kup_i, not_true_eq_false, not_false_eq_true, and_true, true_and, and_false, false_and, and_self, or_true, true_or, or_false, false_or, kLb, a_drop, t_drop, kDok, kDp, kDm, c_5, c_18, hlb]) rfl rfl rfl dX4_drop_31
    · have hlb : (¬ w < 0 ∧ ¬ 1 < w) := (kwt_c (lo := 0) (hi := 1) rfl rfl).mp c_18
      refine lv_aload_n hC.1 hC.2.1 dX4_drop_21 rfl (lv_at hl 0 rfl) ?_
      refine lv_iload_n hC.1 hC.2.1 dX4_drop_22 rfl (lv_at hl 3 rfl) ?_
      refine keSi (rest := []) (mcV 0 hC hK hW (c_X4_isSet l D G M hL T N r g x hI0) (kgoodV tm_X4_129 ti_yX4_isSet te_yX4_isSet tz_X4 tc_yX4_isSet) mw_m rfl ⟨rfl, by decide, by decide, (show Option.map _ (parseMethodDescriptor yX4_isSet.desc) = some 1 from by decide +kernel)⟩ ⟨Nat.le_of_ble_eq_true rfl, Nat.le_of_ble_eq_true rfl⟩ hl.1 rfl (Nat.le_of_ble_eq_true rfl) ⟨Nat.le_refl _, Nat.le_refl _⟩ dX4_drop_23) ?_
      refine kif_ne (tgt := 32) hC.1 hC.2.1 dX4_drop_26 (by decide) (fun c_26 => ?_) (fun c_26 => ?_)
      · refine lv_aload_n hC.1 hC.2.1 dX4_drop_32 rfl (lv_at hl 0 rfl) ?_
        refine mg4 hC hK hW 7 (v := .ref (M 4)) rfl (by decide) rfl tf_X4_20 dX4_drop_33 ?_
        refine lv_iload_n hC.1 hC.2.1 dX4_drop_36 rfl (lv_at hl 1 rfl) ?_
        refine mai hC hK hW 4 (by decide) rfl (i := p) c_5.in dX4_drop_37 ?_
        refine lv_istore (lv' := [(4, .int (T 5 (tn p))), (0, .ref (M 0)), (1, .int p), (2, .int w), (3, .int x)]) hC.1 hC.2.1 dX4_drop_38 hl (by decide) rfl (fun ls hl => ?_)
        refine lv_aload_n hC.1 hC.2.1 dX4_drop_40 rfl (lv_at hl 1 rfl) ?_
        refine mg4 hC hK hW 8 (v := .ref (M 5)) rfl (by decide) rfl tf_X4_23 dX4_drop_41 ?_
        refine lv_iload_n hC.1 hC.2.1 dX4_drop_44 rfl (lv_at hl 2 rfl) ?_
        refine mai hC hK hW 5 (by decide) rfl (i := p) c_5.in dX4_drop_45 ?_
        refine lv_istore (lv' := [(5, .int (T 6 (tn p))), (4, .int (T 5 (tn p))), (0, .ref (M 0)), (1, .int p), (2, .int w), (3, .int x)]) hC.1 hC.2.1 dX4_drop_46 hl (by decide) rfl (fun ls hl => ?_)
        refine lv_iload_n hC.1 hC.2.1 dX4_drop_48 rfl (lv_at hl 4 rfl) ?_
        refine lv_if_ne (tgt := 67) hC.1 hC.2.1 dX4_drop_49 (by decide) (fun c_49 => ?_) (fun c_49 => ?_)
        · refine lv_aload_n hC.1 hC.2.1 dX4_drop_67 rfl (lv_at hl 2 rfl) ?_
          refine mg4 hC hK hW 8 (v := .ref (M 5)) rfl (by decide) rfl tf_X4_23 dX4_drop_68 ?_
          refine lv_iload_n hC.1 hC.2.1 dX4_drop_71 rfl (lv_at hl 3 rfl) ?_
          refine lv_dup2_11 hC.1 hC.2.1 dX4_drop_72 rfl rfl ?_
          refine mai hC hK hW 5 (by decide) rfl (i := p) c_5.in dX4_drop_73 ?_
          refine lv_iload_n hC.1 hC.2.1 dX4_drop_74 rfl (lv_at hl 5 rfl) ?_
          refine lv_iconst (v := (-1)) hC.1 hC.2.1 dX4_drop_75 (by decide) ?_
          refine lv_ixor hC.1 hC.2.1 dX4_drop_76 ?_
          refine lv_iand hC.1 hC.2.1 dX4_drop_77 ?_
          refine mai_s hC hK hW 5 (by decide) rfl (i := p) c_5.in (mw_ar_5 (tn p) ((T 6 (tn p)) &&& (x ^^^ (-1)))) dX4_drop_78 (fun H locs (hW : mWd D G M (mA M) zs.heap (kup T 6 (tn p) ((T 6 (tn p)) &&& (x ^^^ (-1)))) N r g H locs) => ?_)
          refine lv_aload_n hC.1 hC.2.1 dX4_drop_79 rfl (lv_at hl 2 rfl) ?_
          refine lv_iload_n hC.1 hC.2.1 dX4_drop_80 rfl (lv_at hl 3 rfl) ?_
          refine keSi (rest := []) (mcV 0 hC hK hW (c_X4_suitAll l D G M hL (kup T 6 (tn p) ((T 6 (tn p)) &&& (x ^^^ (-1)))) N r g p hI2 c_5.in) (kgoodV tm_X4_140 ti_yX4_suitAll te_yX4_suitAll tz_X4 tc_yX4_suitAll) mw_m rfl ⟨rfl, by decide, by decide, (show Option.map _ (parseMethodDescriptor yX4_suitAll.desc) = some 1 from by decide +kernel)⟩ ⟨Nat.le_of_ble_eq_true rfl, Nat.le_of_ble_eq_true rfl⟩ hl.1 rfl (Nat.le_of_ble_eq_true rfl) ⟨Nat.le_refl _, Nat.le_refl _⟩ dX4_drop_81) ?_
          rw [kFit_up6]
          refine kif_ne (tgt := 106) hC.1 hC.2.1 dX4_drop_84 (by decide) (fun c_84 => ?_) (fun c_84 => ?_)
          · refine lv_iload_n hC.1 hC.2.1 dX4_drop_106 rfl (lv_at hl 4 rfl) ?_
            refine lv_if_ne (tgt := 119) hC.1 hC.2.1 dX4_drop_107 (by decide) (fun c_107 => ?_) (fun c_107 => ?_)
            · refine lv_aload_n hC.1 hC.2.1 dX4_drop_119 rfl (lv_at hl 2 rfl) ?_
              refine mg4 hC hK hW 8 (v := .ref (M 5)) rfl (by decide) rfl tf_X4_23 dX4_drop_120 ?_
              refine lv_iload_n hC.1 hC.2.1 dX4_drop_123 rfl (lv_at hl 3 rfl) ?_
              refine mai hC hK hW 5 (by decide) rfl (i := p) c_5.in dX4_drop_124 ?_
              exact mkrI hC hr hlk hW (by simp (config := {decide := true}) only [kif_true, kif_false, kb, kup_eq, kup_f, kup_i, not_true_eq_false, not_false_eq_true, and_true, true_and, and_false, false_and, and_self, or_true, true_or, or_false, false_or, kLb, a_drop, t_drop, kDok, kDp, kDm, c_5, c_18, hlb.1, hlb.2, c_26, c_49, c_84, c_107]) (by simp (config := {decide := true}) only [kif_true, kif_false, kb, kup_eq, kup_f, kup_i, not_true_eq_false, not_false_eq_true, and_true, true_and, and_false, false_and, and_self, or_true, true_or, or_false, false_or, kLb, a_drop, t_drop, kDok, kDp, kDm, c_5, c_18, hlb.1, hlb.2, c_26, c_49, c_84, c_107]; rw [kup_id (T := T) rfl]) rfl rfl rfl dX4_drop_125
            · exact absurd c_107 c_49
          · refine lv_aload_n hC.1 hC.2.1 dX4_drop_87 rfl (lv_at hl 2 rfl) ?_
            refine mg4 hC hK hW 7 (v := .ref (M 4)) rfl (by decide) rfl tf_X4_20 dX4_drop_88 ?_
            refine lv_iload_n hC.1 hC.2.1 dX4_drop_91 rfl (lv_at hl 3 rfl) ?_
            refine lv_iload hC.1 hC.2.1 dX4_drop_92 (lv_at hl 1 rfl) ?_
            refine mai_s hC hK hW 4 (by decide) rfl (i := p) c_5.in (mw_ar_4 (tn p) (T 5 (tn p))) dX4_drop_94 (fun H locs (hW : mWd D G M (mA M) zs.heap (kup (kup T 6 (tn p) ((T 6 (tn p)) &&& (x ^^^ (-1)))) 5 (tn p) (T 5 (tn p))) N r g H locs) => ?_)
            refine lv_aload_n hC.1 hC.2.1 dX4_drop_95 rfl (lv_at hl 2 rfl) ?_
            refine mg4 hC hK hW 8 (v := .ref (M 5)) rfl (by decide) rfl tf_X4_23 dX4_drop_96 ?_
            refine lv_iload_n hC.1 hC.2.1 dX4_drop_99 rfl (lv_at hl 3 rfl) ?_
            refine lv_iload hC.1 hC.2.1 dX4_drop_100 (lv_at hl 0 rfl) ?_
            refine mai_s hC hK hW 5 (by decide) rfl (i := p) c_5.in (mw_ar_5 (tn p) (T 6 (tn p))) dX4_drop_102 (fun H locs (hW : mWd D G M (mA M) zs.heap (kup (kup (kup T 6 (tn p) ((T 6 (tn p)) &&& (x ^^^ (-1)))) 5 (tn p) (T 5 (tn p))) 6 (tn p) (T 6 (tn p))) N r g H locs) => ?_)
            refine lv_ldc hC.1 hC.2.1 hC.2.2.2.1 (hC.2.2.2.2 _ (kt_in tk_X4_135 rfl)) dX4_drop_103 ?_
            exact mkrI hC hr hlk hW (by simp (config := {decide := true}) only [kif_true, kif_false, kb, kup_eq, kup_f, kup_i, not_true_eq_false, not_false_eq_true, and_true, true_and, and_false, false_and, and_self, or_true, true_or, or_false, false_or, kLb, a_drop, t_drop, kDok, kDp, kDm, c_5, c_18, hlb.1, hlb.2, c_26, c_49, c_84]) (by rw [kup_id (T := kup T 6 (tn p) (T 6 (tn p) &&& (x ^^^ (-1)))) (f := 5) (kup_f (by decide)), kup_up, kup_id rfl]; simp (config := {decide := true}) only [kif_true, kif_false, kb, kup_eq, kup_f, kup_i, not_true_eq_false, not_false_eq_true, and_true, true_and, and_false, false_and, and_self, or_true, true_or, or_false, false_or, kLb, a_drop, t_drop, kDok, kDp, kDm, c_5, c_18, hlb.1, hlb.2, c_26, c_49, c_84]) rfl rfl rfl dX4_drop_105
        · refine lv_aload_n hC.1 hC.2.1 dX4_drop_52 rfl (lv_at hl 2 rfl) ?_
          refine mg4 hC hK hW 7 (v := .ref (M 4)) rfl (by decide) rfl tf_X4_20 dX4_drop_53 ?_
          refine lv_iload_n hC.1 hC.2.1 dX4_drop_56 rfl (lv_at hl 3 rfl) ?_
          refine lv_dup2_11 hC.1 hC.2.1 dX4_drop_57 rfl rfl ?_
          refine mai hC hK hW 4 (by decide) rfl (i := p) c_5.in dX4_drop_58 ?_
          refine lv_iload_n hC.1 hC.2.1 dX4_drop_59 rfl (lv_at hl 5 rfl) ?_
          refine lv_iconst (v := (-1)) hC.1 hC.2.1 dX4_drop_60 (by decide) ?_
          refine lv_ixor hC.1 hC.2.1 dX4_drop_61 ?_
          refine lv_iand hC.1 hC.2.1 dX4_drop_62 ?_
          refine mai_s hC hK hW 4 (by decide) rfl (i := p) c_5.in (mw_ar_4 (tn p) ((T 5 (tn p)) &&& (x ^^^ (-1)))) dX4_drop_63 (fun H locs (hW : mWd D G M (mA M) zs.heap (kup T 5 (tn p) ((T 5 (tn p)) &&& (x ^^^ (-1)))) N r g H locs) => ?_)
          refine lv_goto (tgt := 79) hC.1 hC.2.1 dX4_drop_64 (by decide) ?_
          refine lv_aload_n hC.1 hC.2.1 dX4_drop_79 rfl (lv_at hl 2 rfl) ?_
          refine lv_iload_n hC.1 hC.2.1 dX4_drop_80 rfl (lv_at hl 3 rfl) ?_
          refine keSi (rest := []) (mcV 0 hC hK hW (c_X4_suitAll l D G M hL (kup T 5 (tn p) ((T 5 (tn p)) &&& (x ^^^ (-1)))) N r g p hI2 c_5.in) (kgoodV tm_X4_140 ti_yX4_suitAll te_yX4_suitAll tz_X4 tc_yX4_suitAll) mw_m rfl ⟨rfl, by decide, by decide, (show Option.map _ (parseMethodDescriptor yX4_suitAll.desc) = some 1 from by decide +kernel)⟩ ⟨Nat.le_of_ble_eq_true rfl, Nat.le_of_ble_eq_true rfl⟩ hl.1 rfl (Nat.le_of_ble_eq_true rfl) ⟨Nat.le_refl _, Nat.le_refl _⟩ dX4_drop_81) ?_
          rw [kFit_up5]
          refine kif_ne (tgt := 106) hC.1 hC.2.1 dX4_drop_84 (by decide) (fun c_84 => ?_) (fun c_84 => ?_)
          · refine lv_iload_n hC.1 hC.2.1 dX4_drop_106 rfl (lv_at hl 4 rfl) ?_
            refine lv_if_ne (tgt := 119) hC.1 hC.2.1 dX4_drop_107 (by decide) (fun c_107 => ?_) (fun c_107 => ?_)
            · exact absurd c_49 c_107
            · refine lv_aload_n hC.1 hC.2.1 dX4_drop_110 rfl (lv_at hl 2 rfl) ?_
              refine mg4 hC hK hW 7 (v := .ref (M 4)) rfl (by decide) rfl tf_X4_20 dX4_drop_111 ?_
              refine lv_iload_n hC.1 hC.2.1 dX4_drop_114 rfl (lv_at hl 3 rfl) ?_
              refine mai hC hK hW 4 (by decide) rfl (i := p) c_5.in dX4_drop_115 ?_
              refine lv_goto (tgt := 125) hC.1 hC.2.1 dX4_drop_116 (by decide) ?_
              exact mkrI hC hr hlk hW (by simp (config := {decide := true}) only [kif_true, kif_false, kb, kup_eq, kup_f, kup_i, not_true_eq_false, not_false_eq_true, and_true, true_and, and_false, false_and, and_self, or_true, true_or, or_false, false_or, kLb, a_drop, t_drop, kDok, kDp, kDm, c_5, c_18, hlb.1, hlb.2, c_26, c_49, c_84, c_107]) (by simp (config := {decide := true}) only [kif_true, kif_false, kb, kup_eq, kup_f, kup_i, not_true_eq_false, not_false_eq_true, and_true, true_and, and_false, false_and, and_self, or_true, true_or, or_false, false_or, kLb, a_drop, t_drop, kDok, kDp, kDm, c_5, c_18, hlb.1, hlb.2, c_26, c_49, c_84, c_107]; exact (kup_id (kup_f (f := 5) (g := 6) (by decide))).symm) rfl rfl rfl dX4_drop_125
          · refine lv_aload_n hC.1 hC.2.1 dX4_drop_87 rfl (lv_at hl 2 rfl) ?_
            refine mg4 hC hK hW 7 (v := .ref (M 4)) rfl (by decide) rfl tf_X4_20 dX4_drop_88 ?_
            refine lv_iload_n hC.1 hC.2.1 dX4_drop_91 rfl (lv_at hl 3 rfl) ?_
            refine lv_iload hC.1 hC.2.1 dX4_drop_92 (lv_at hl 1 rfl) ?_
            refine mai_s hC hK hW 4 (by decide) rfl (i := p) c_5.in (mw_ar_4 (tn p) (T 5 (tn p))) dX4_drop_94 (fun H locs (hW : mWd D G M (mA M) zs.heap (kup (kup T 5 (tn p) ((T 5 (tn p)) &&& (x ^^^ (-1)))) 5 (tn p) (T 5 (tn p))) N r g H locs) => ?_)
            refine lv_aload_n hC.1 hC.2.1 dX4_drop_95 rfl (lv_at hl 2 rfl) ?_
            refine mg4 hC hK hW 8 (v := .ref (M 5)) rfl (by decide) rfl tf_X4_23 dX4_drop_96 ?_
            refine lv_iload_n hC.1 hC.2.1 dX4_drop_99 rfl (lv_at hl 3 rfl) ?_
            refine lv_iload hC.1 hC.2.1 dX4_drop_100 (lv_at hl 0 rfl) ?_
            refine mai_s hC hK hW 5 (by decide) rfl (i := p) c_5.in (mw_ar_5 (tn p) (T 6 (tn p))) dX4_drop_102 (fun H locs (hW : mWd D G M (mA M) zs.heap (kup (kup (kup T 5 (tn p) ((T 5 (tn p)) &&& (x ^^^ (-1)))) 5 (tn p) (T 5 (tn p))) 6 (tn p) (T 6 (tn p))) N r g H locs) => ?_)
            refine lv_ldc hC.1 hC.2.1 hC.2.2.2.1 (hC.2.2.2.2 _ (kt_in tk_X4_135 rfl)) dX4_drop_103 ?_
            exact mkrI hC hr hlk hW (by simp (config := {decide := true}) only [kif_true, kif_false, kb, kup_eq, kup_f, kup_i, not_true_eq_false, not_false_eq_true, and_true, true_and, and_false, false_and, and_self, or_true, true_or, or_false, false_or, kLb, a_drop, t_drop, kDok, kDp, kDm, c_5, c_18, hlb.1, hlb.2, c_26, c_49, c_84]) (by rw [kup_up, kup_id rfl, kup_id rfl]; simp (config := {decide := true}) only [kif_true, kif_false, kb, kup_eq, kup_f, kup_i, not_true_eq_false, not_false_eq_true, and_true, true_and, and_false, false_and, and_self, or_true, true_or, or_false, false_or, kLb, a_drop, t_drop, kDok, kDp, kDm, c_5, c_18, hlb.1, hlb.2, c_26, c_49, c_84]) rfl rfl rfl dX4_drop_105
      · refine lv_ldc hC.1 hC.2.1 hC.2.2.2.1 (hC.2.2.2.2 _ (kt_in tk_X4_110 rfl)) dX4_drop_29 ?_
        exact mkrI hC hr hlk hW (by simp (config := {decide := true}) only [kif_true, kif_false, kb, kup_eq, kup_f, kup_i, not_true_eq_false, not_false_eq_true, and_true, true_and, and_false, false_and, and_self, or_true, true_or, or_false, false_or, kLb, a_drop, t_drop, kDok, kDp, kDm, c_5, c_18, hlb.1, hlb.2, c_26]) (by simp (config := {decide := true}) only [kif_true, kif_false, kb, kup_eq, kup_f, kup_i, not_true_eq_false, not_false_eq_true, and_true, true_and, and_false, false_and, and_self, or_true, true_or, or_false, false_or, kLb, a_drop, t_drop, kDok, kDp, kDm, c_5, c_18, hlb.1, hlb.2, c_26]) rfl rfl rfl dX4_drop_31
  · refine lv_ldc hC.1 hC.2.1 hC.2.2.2.1 (hC.2.2.2.2 _ (kt_in tk_X4_107 rfl)) dX4_drop_8 ?_
    exact mkrI hC hr hlk hW (by simp (config := {decide := true}) only [kif_true, kif_false, kb, kup_eq, kup_f, kup_i, not_true_eq_false, not_false_eq_true, and_true, true_and, and_false, false_and, and_self, or_true, true_or, or_false, false_or, kLb, a_drop, t_drop, kDok, kDp, kDm, c_5]) (by simp (config := {decide := true}) only [kif_true, kif_false, kb, kup_eq, kup_f, kup_i, not_true_eq_false, not_false_eq_true, and_true, true_and, and_false, false_and, and_self, or_true, true_or, or_false, false_or, kLb, a_drop, t_drop, kDok, kDp, kDm, c_5]) rfl rfl rfl dX4_drop_10
set_option maxHeartbeats 4000000 in
set_option maxRecDepth 100000 in
theorem c_X4_spawn (l : Launch) (D : va_G) (G : Nat → ClassId) (M : Nat → Nat) (hL : mL M) (T N : kT) (r g : Nat → Int32) (p : Int32) (s : Int32) (t : Int32) (a : Int32) (b : Int32) (hI0 : kI0 T) (hI1 : kI1 T) (hI2 : kI2 T) : kM l yX4_spawn cX4_spawn 8 (some .int) 2 46 (mPc D G M T N r g [.ref (M 0), .int p, .int s, .int t, .int a, .int b]) (mQi D G M (a_spawn T p s t a b) (t_spawn T p s t a b) N r g) (mA M) := by
  refine kBegin (by decide) (Nat.le_of_ble_eq_true rfl) ?_
  intro zp ze zs zm zargs zbelow zmeth zc hC hr hlk hB ls hl
  obtain ⟨hP, hK⟩ := hB
  have hW : mWd D G M (mA M) zs.heap T N r g zs.heap [] := mWd.start hL hP
  have hl : lv_has ls 8 [(0, .ref (M 0)), (1, .int p), (2, .int s), (3, .int t), (4, .int a), (5, .int b)] := hl
  refine lv_aload_n hC.1 hC.2.1 dX4_spawn_0 rfl (lv_at hl 0 rfl) ?_
  refine lv_iload_n hC.1 hC.2.1 dX4_spawn_1 rfl (lv_at hl 1 rfl) ?_
  refine keSi (rest := []) (mcV 0 hC hK hW (c_X4_isProcess l D G M hL T N r g p hI1) (kgoodV tm_X4_103 ti_yX4_isProcess te_yX4_isProcess tz_X4 tc_yX4_isProcess) mw_m rfl ⟨rfl, by decide, by decide, (show Option.map _ (parseMethodDescriptor yX4_isProcess.desc) = some 1 from by decide +kernel)⟩ ⟨Nat.le_of_ble_eq_true rfl, Nat.le_of_ble_eq_true rfl⟩ hl.1 rfl (Nat.le_of_ble_eq_true rfl) ⟨Nat.le_refl _, Nat.le_refl _⟩ dX4_spawn_2) ?_
  refine kif_ne (tgt := 11) hC.1 hC.2.1 dX4_spawn_5 (by decide) (fun c_5 => ?_) (fun c_5 => ?_)
  · refine lv_aload_n hC.1 hC.2.1 dX4_spawn_11 rfl (lv_at hl 0 rfl) ?_
    refine lv_iload_n hC.1 hC.2.1 dX4_spawn_12 rfl (lv_at hl 2 rfl) ?_
    refine keSi (rest := []) (mcV 0 hC hK hW (c_X4_isSet l D G M hL T N r g s hI0) (kgoodV tm_X4_129 ti_yX4_isSet te_yX4_isSet tz_X4 tc_yX4_isSet) mw_m rfl ⟨rfl, by decide, by decide, (show Option.map _ (parseMethodDescriptor yX4_isSet.desc) = some 1 from by decide +kernel)⟩ ⟨Nat.le_of_ble_eq_true rfl, Nat.le_of_ble_eq_true rfl⟩ hl.1 rfl (Nat.le_of_ble_eq_true rfl) ⟨Nat.le_refl _, Nat.le_refl _⟩ dX4_spawn_13) ?_
    refine kif_eq (tgt := 45) hC.1 hC.2.1 dX4_spawn_16 (by decide) (fun c_16 => ?_) (fun c_16 => ?_)
    · refine lv_ldc hC.1 hC.2.1 hC.2.2.2.1 (hC.2.2.2.2 _ (kt_in tk_X4_110 rfl)) dX4_spawn_45 ?_
      exact mkrI hC hr hlk hW (by simp (config := {decide := true}) only [kif_true, kif_false, kb, kup_eq, kup_f, kup_i, not_true_eq_false, not_false_eq_true, and_true, true_and, and_false, false_and, and_self, or_true, true_or, or_false, false_or, a_spawn, t_spawn, kSps, kSpo, kOwn, kWi, c_5, c_16]) (by simp (config := {decide := true}) only [kif_true, kif_false, kb, kup_eq, kup_f, kup_i, not_true_eq_false, not_false_eq_true, and_true, true_and, and_false, false_and, and_self, or_true, true_or, or_false, false_or, a_spawn, t_spawn, kSps, kSpo, kOwn, kWi, c_5, c_16]) rfl rfl rfl dX4_spawn_47
    · refine lv_aload_n hC.1 hC.2.1 dX4_spawn_19 rfl (lv_at hl 0 rfl) ?_
      refine lv_iload_n hC.1 hC.2.1 dX4_spawn_20 rfl (lv_at hl 3 rfl) ?_
      refine keSi (rest := []) (mcV 0 hC hK hW (c_X4_isSet l D G M hL T N r g t hI0) (kgoodV tm_X4_129 ti_yX4_isSet te_yX4_isSet tz_X4 tc_yX4_isSet) mw_m rfl ⟨rfl, by decide, by decide, (show Option.map _ (parseMethodDescriptor yX4_isSet.desc) = some 1 from by decide +kernel)⟩ ⟨Nat.le_of_ble_eq_true rfl, Nat.le_of_ble_eq_true rfl⟩ hl.1 rfl (Nat.le_of_ble_eq_true rfl) ⟨Nat.le_refl _, Nat.le_refl _⟩ dX4_spawn_21) ?_
      refine kif_eq (tgt := 45) hC.1 hC.2.1 dX4_spawn_24 (by decide) (fun c_24 => ?_) (fun c_24 => ?_)
      · refine lv_ldc hC.1 hC.2.1 hC.2.2.2.1 (hC.2.2.2.2 _ (kt_in tk_X4_110 rfl)) dX4_spawn_45 ?_
        exact mkrI hC hr hlk hW (by simp (config := {decide := true}) only [kif_true, kif_false, kb, kup_eq, kup_f, kup_i, not_true_eq_false, not_false_eq_true, and_true, true_and, and_false, false_and, and_self, or_true, true_or, or_false, false_or, a_spawn, t_spawn, kSps, kSpo, kOwn, kWi, c_5, c_16, c_24]) (by simp (config := {decide := true}) only [kif_true, kif_false, kb, kup_eq, kup_f, kup_i, not_true_eq_false, not_false_eq_true, and_true, true_and, and_false, false_and, and_self, or_true, true_or, or_false, false_or, a_spawn, t_spawn, kSps, kSpo, kOwn, kWi, c_5, c_16, c_24]) rfl rfl rfl dX4_spawn_47
      · refine lv_aload_n hC.1 hC.2.1 dX4_spawn_27 rfl (lv_at hl 0 rfl) ?_
        refine lv_iload hC.1 hC.2.1 dX4_spawn_28 (lv_at hl 4 rfl) ?_
        refine keSi (rest := []) (mcV 0 hC hK hW (c_X4_isSet l D G M hL T N r g a hI0) (kgoodV tm_X4_129 ti_yX4_isSet te_yX4_isSet tz_X4 tc_yX4_isSet) mw_m rfl ⟨rfl, by decide, by decide, (show Option.map _ (parseMethodDescriptor yX4_isSet.desc) = some 1 from by decide +kernel)⟩ ⟨Nat.le_of_ble_eq_true rfl, Nat.le_of_ble_eq_true rfl⟩ hl.1 rfl (Nat.le_of_ble_eq_true rfl) ⟨Nat.le_refl _, Nat.le_refl _⟩ dX4_spawn_30) ?_
        refine kif_eq (tgt := 45) hC.1 hC.2.1 dX4_spawn_33 (by decide) (fun c_33 => ?_) (fun c_33 => ?_)
        · refine lv_ldc hC.1 hC.2.1 hC.2.2.2.1 (hC.2.2.2.2 _ (kt_in tk_X4_110 rfl)) dX4_spawn_45 ?_
          exact mkrI hC hr hlk hW (by simp (config := {decide := true}) only [kif_true, kif_false, kb, kup_eq, kup_f, kup_i, not_true_eq_false, not_false_eq_true, and_true, true_and, and_false, false_and, and_self, or_true, true_or, or_false, false_or, a_spawn, t_spawn, kSps, kSpo, kOwn, kWi, c_5, c_16, c_24, c_33]) (by simp (config := {decide := true}) only [kif_true, kif_false, kb, kup_eq, kup_f, kup_i, not_true_eq_false, not_false_eq_true, and_true, true_and, and_false, false_and, and_self, or_true, true_or, or_false, false_or, a_spawn, t_spawn, kSps, kSpo, kOwn, kWi, c_5, c_16, c_24, c_33]) rfl rfl rfl dX4_spawn_47
        · refine lv_aload_n hC.1 hC.2.1 dX4_spawn_36 rfl (lv_at hl 0 rfl) ?_
          refine lv_iload hC.1 hC.2.1 dX4_spawn_37 (lv_at hl 5 rfl) ?_
          refine keSi (rest := []) (mcV 0 hC hK hW (c_X4_isSet l D G M hL T N r g b hI0) (kgoodV tm_X4_129 ti_yX4_isSet te_yX4_isSet tz_X4 tc_yX4_isSet) mw_m rfl ⟨rfl, by decide, by decide, (show Option.map _ (parseMethodDescriptor yX4_isSet.desc) = some 1 from by decide +kernel)⟩ ⟨Nat.le_of_ble_eq_true rfl, Nat.le_of_ble_eq_true rfl⟩ hl.1 rfl (Nat.le_of_ble_eq_true rfl) ⟨Nat.le_refl _, Nat.le_refl _⟩ dX4_spawn_39) ?_
          refine kif_ne (tgt := 48) hC.1 hC.2.1 dX4_spawn_42 (by decide) (fun c_42 => ?_) (fun c_42 => ?_)
          · refine lv_aload_n hC.1 hC.2.1 dX4_spawn_48 rfl (lv_at hl 0 rfl) ?_
            refine lv_iload_n hC.1 hC.2.1 dX4_spawn_49 rfl (lv_at hl 1 rfl) ?_
            refine lv_aload_n hC.1 hC.2.1 dX4_spawn_50 rfl (lv_at hl 0 rfl) ?_
            refine mg4 hC hK hW 5 (v := .ref (M 2)) rfl (by decide) rfl tf_X4_13 dX4_spawn_51 ?_
            refine lv_iload_n hC.1 hC.2.1 dX4_spawn_54 rfl (lv_at hl 1 rfl) ?_
            refine mai hC hK hW 2 (by decide) rfl (i := p) c_5.in dX4_spawn_55 ?_
            refine lv_iload_n hC.1 hC.2.1 dX4_spawn_56 rfl (lv_at hl 2 rfl) ?_
            refine keSi (rest := []) (mcV 0 hC hK hW (c_X4_isSafe l D G M hL T N r g p (T 3 (tn p)) s c_5.in) (kgoodV tm_X4_132 ti_yX4_isSafe te_yX4_isSafe tz_X4 tc_yX4_isSafe) mw_m rfl ⟨rfl, by decide, by decide, (show Option.map _ (parseMethodDescriptor yX4_isSafe.desc) = some 3 from by decide +kernel)⟩ ⟨Nat.le_of_ble_eq_true rfl, Nat.le_of_ble_eq_true rfl⟩ hl.1 rfl (Nat.le_of_ble_eq_true rfl) ⟨Nat.le_refl _, Nat.le_refl _⟩ dX4_spawn_57) ?_
            refine kif_eq (tgt := 106) hC.1 hC.2.1 dX4_spawn_60 (by decide) (fun c_60 => ?_) (fun c_60 => ?_)
            · refine lv_ldc hC.1 hC.2.1 hC.2.2.2.1 (hC.2.2.2.2 _ (kt_in tk_X4_135 rfl)) dX4_spawn_106 ?_
              exact mkrI hC hr hlk hW (by simp (config := {decide := true}) only [kif_true, kif_false, kb, kup_eq, kup_f, kup_i, not_true_eq_false, not_false_eq_true, and_true, true_and, and_false, false_and, and_self, or_true, true_or, or_false, false_or, a_spawn, t_spawn, kSps, kSpo, kOwn, kWi, c_5, c_16, c_24, c_33, c_42, c_60]) (by simp (config := {decide := true}) only [kif_true, kif_false, kb, kup_eq, kup_f, kup_i, not_true_eq_false, not_false_eq_true, and_true, true_and, and_false, false_and, and_self, or_true, true_or, or_false, false_or, a_spawn, t_spawn, kSps, kSpo, kOwn, kWi, c_5, c_16, c_24, c_33, c_42, c_60]) rfl rfl rfl dX4_spawn_108
            · refine lv_aload_n hC.1 hC.2.1 dX4_spawn_63 rfl (lv_at hl 0 rfl) ?_
              refine lv_iload_n hC.1 hC.2.1 dX4_spawn_64 rfl (lv_at hl 1 rfl) ?_
              refine lv_aload_n hC.1 hC.2.1 dX4_spawn_65 rfl (lv_at hl 0 rfl) ?_
              refine mg4 hC hK hW 6 (v := .ref (M 3)) rfl (by decide) rfl tf_X4_17 dX4_spawn_66 ?_
              refine lv_iload_n hC.1 hC.2.1 dX4_spawn_69 rfl (lv_at hl 1 rfl) ?_
              refine mai hC hK hW 3 (by decide) rfl (i := p) c_5.in dX4_spawn_70 ?_
              refine lv_iload_n hC.1 hC.2.1 dX4_spawn_71 rfl (lv_at hl 3 rfl) ?_
              refine keSi (rest := []) (mcV 0 hC hK hW (c_X4_isSafe l D G M hL T N r g p (T 4 (tn p)) t c_5.in) (kgoodV tm_X4_132 ti_yX4_isSafe te_yX4_isSafe tz_X4 tc_yX4_isSafe) mw_m rfl ⟨rfl, by decide, by decide, (show Option.map _ (parseMethodDescriptor yX4_isSafe.desc) = some 3 from by decide +kernel)⟩ ⟨Nat.le_of_ble_eq_true rfl, Nat.le_of_ble_eq_true rfl⟩ hl.1 rfl (Nat.le_of_ble_eq_true rfl) ⟨Nat.le_refl _, Nat.le_refl _⟩ dX4_spawn_72) ?_
              refine kif_eq (tgt := 106) hC.1 hC.2.1 dX4_spawn_75 (by decide) (fun c_75 => ?_) (fun c_75 => ?_)
              · refine lv_ldc hC.1 hC.2.1 hC.2.2.2.1 (hC.2.2.2.2 _ (kt_in tk_X4_135 rfl)) dX4_spawn_106 ?_
                exact mkrI hC hr hlk hW (by simp (config := {decide := true}) only [kif_true, kif_false, kb, kup_eq, kup_f, kup_i, not_true_eq_false, not_false_eq_true, and_true, true_and, and_false, false_and, and_self, or_true, true_or, or_false, false_or, a_spawn, t_spawn, kSps, kSpo, kOwn, kWi, c_5, c_16, c_24, c_33, c_42, c_60, c_75]) (by simp (config := {decide := true}) only [kif_true, kif_false, kb, kup_eq, kup_f, kup_i, not_true_eq_false, not_false_eq_true, and_true, true_and, and_false, false_and, and_self, or_true, true_or, or_false, false_or, a_spawn, t_spawn, kSps, kSpo, kOwn, kWi, c_5, c_16, c_24, c_33, c_42, c_60, c_75]) rfl rfl rfl dX4_spawn_108
              · refine lv_iload hC.1 hC.2.1 dX4_spawn_78 (lv_at hl 4 rfl) ?_
                refine lv_aload_n hC.1 hC.2.1 dX4_spawn_80 rfl (lv_at hl 0 rfl) ?_
                refine mg4 hC hK hW 7 (v := .ref (M 4)) rfl (by decide) rfl tf_X4_20 dX4_spawn_81 ?_
                refine lv_iload_n hC.1 hC.2.1 dX4_spawn_84 rfl (lv_at hl 1 rfl) ?_
                refine mai hC hK hW 4 (by decide) rfl (i := p) c_5.in dX4_spawn_85 ?_
                refine lv_iconst (v := (-1)) hC.1 hC.2.1 dX4_spawn_86 (by decide) ?_
                refine lv_ixor hC.1 hC.2.1 dX4_spawn_87 ?_
                refine lv_iand hC.1 hC.2.1 dX4_spawn_88 ?_
                refine lv_if_ne (tgt := 106) hC.1 hC.2.1 dX4_spawn_89 (by decide) (fun c_89 => ?_) (fun c_89 => ?_)
                · refine lv_ldc hC.1 hC.2.1 hC.2.2.2.1 (hC.2.2.2.2 _ (kt_in tk_X4_135 rfl)) dX4_spawn_106 ?_
                  exact mkrI hC hr hlk hW (by simp (config := {decide := true}) only [kif_true, kif_false, kb, kup_eq, kup_f, kup_i, not_true_eq_false, not_false_eq_true, and_true, true_and, and_false, false_and, and_self, or_true, true_or, or_false, false_or, a_spawn, t_spawn, kSps, kSpo, kOwn, kWi, c_5, c_16, c_24, c_33, c_42, c_60, c_75, c_89]) (by simp (config := {decide := true}) only [kif_true, kif_false, kb, kup_eq, kup_f, kup_i, not_true_eq_false, not_false_eq_true, and_true, true_and, and_false, false_and, and_self, or_true, true_or, or_false, false_or, a_spawn, t_spawn, kSps, kSpo, kOwn, kWi, c_5, c_16, c_24, c_33, c_42, c_60, c_75, c_89]) rfl rfl rfl dX4_spawn_108
                · refine lv_iload hC.1 hC.2.1 dX4_spawn_92 (lv_at hl 5 rfl) ?_
                  refine lv_aload_n hC.1 hC.2.1 dX4_spawn_94 rfl (lv_at hl 0 rfl) ?_
                  refine mg4 hC hK hW 8 (v := .ref (M 5)) rfl (by decide) rfl tf_X4_23 dX4_spawn_95 ?_
                  refine lv_iload_n hC.1 hC.2.1 dX4_spawn_98 rfl (lv_at hl 1 rfl) ?_
                  refine mai hC hK hW 5 (by decide) rfl (i := p) c_5.in dX4_spawn_99 ?_
                  refine lv_iconst (v := (-1)) hC.1 hC.2.1 dX4_spawn_100 (by decide) ?_
                  refine lv_ixor hC.1 hC.2.1 dX4_spawn_101 ?_
                  refine lv_iand hC.1 hC.2.1 dX4_spawn_102 ?_
                  refine lv_if_eq (tgt := 109) hC.1 hC.2.1 dX4_spawn_103 (by decide) (fun c_103 => ?_) (fun c_103 => ?_)
                  · refine lv_aload_n hC.1 hC.2.1 dX4_spawn_109 rfl (lv_at hl 0 rfl) ?_
                    refine mg4 hC hK hW 3 (v := .int (T 0 1)) rfl (by decide) rfl tf_X4_84 dX4_spawn_110 ?_
                    refine lv_bipush (v := 24) hC.1 hC.2.1 dX4_spawn_113 (by decide) ?_
                    refine lv_icmp_ne (tgt := 121) hC.1 hC.2.1 dX4_spawn_115 (by decide) (fun c_115 => ?_) (fun c_115 => ?_)
                    · have hlt : T 0 1 < 24 := keq_lt (n := 24) hI1.1 hI1.2.2.1 (by decide) c_115
                      refine lv_aload_n hC.1 hC.2.1 dX4_spawn_121 rfl (lv_at hl 0 rfl) ?_
                      refine mg4 hC hK hW 3 (v := .int (T 0 1)) rfl (by decide) rfl tf_X4_84 dX4_spawn_122 ?_
                      refine lv_istore (lv' := [(6, .int (T 0 1)), (0, .ref (M 0)), (1, .int p), (2, .int s), (3, .int t), (4, .int a), (5, .int b)]) hC.1 hC.2.1 dX4_spawn_125 hl (by decide) rfl (fun ls hl => ?_)
                      refine lv_aload_n hC.1 hC.2.1 dX4_spawn_127 rfl (lv_at hl 1 rfl) ?_
                      refine mg4 hC hK hW 4 (v := .ref (M 1)) rfl (by decide) rfl tf_X4_7 dX4_spawn_128 ?_
                      refine lv_iload hC.1 hC.2.1 dX4_spawn_131 (lv_at hl 0 rfl) ?_
                      refine lv_iconst (v := 1) hC.1 hC.2.1 dX4_spawn_133 (by decide) ?_
                      refine mab_s hC hK hW 1 (by decide) rfl (i := T 0 1) (kinL24 hI1.1 hlt) (Or.inr rfl) (mw_ar_1 (tn (T 0 1)) 1) dX4_spawn_134 (fun H locs (hW : mWd D G M (mA M) zs.heap (kup T 1 (tn (T 0 1)) 1) N r g H locs) => ?_)
                      refine lv_aload_n hC.1 hC.2.1 dX4_spawn_135 rfl (lv_at hl 1 rfl) ?_
                      refine mg4 hC hK hW 5 (v := .ref (M 2)) rfl (by decide) rfl tf_X4_13 dX4_spawn_136 ?_
                      refine lv_iload hC.1 hC.2.1 dX4_spawn_139 (lv_at hl 0 rfl) ?_
                      refine lv_iload_n hC.1 hC.2.1 dX4_spawn_141 rfl (lv_at hl 3 rfl) ?_
                      refine mai_s hC hK hW 2 (by decide) rfl (i := T 0 1) (kinL24 hI1.1 hlt) (mw_ar_2 (tn (T 0 1)) s) dX4_spawn_142 (fun H locs (hW : mWd D G M (mA M) zs.heap (kup (kup T 1 (tn (T 0 1)) 1) 3 (tn (T 0 1)) s) N r g H locs) => ?_)
                      refine lv_aload_n hC.1 hC.2.1 dX4_spawn_143 rfl (lv_at hl 1 rfl) ?_
                      refine mg4 hC hK hW 6 (v := .ref (M 3)) rfl (by decide) rfl tf_X4_17 dX4_spawn_144 ?_
                      refine lv_iload hC.1 hC.2.1 dX4_spawn_147 (lv_at hl 0 rfl) ?_
                      refine lv_iload_n hC.1 hC.2.1 dX4_spawn_149 rfl (lv_at hl 4 rfl) ?_
                      refine mai_s hC hK hW 3 (by decide) rfl (i := T 0 1) (kinL24 hI1.1 hlt) (mw_ar_3 (tn (T 0 1)) t) dX4_spawn_150 (fun H locs (hW : mWd D G M (mA M) zs.heap (kup (kup (kup T 1 (tn (T 0 1)) 1) 3 (tn (T 0 1)) s) 4 (tn (T 0 1)) t) N r g H locs) => ?_)
                      refine lv_aload_n hC.1 hC.2.1 dX4_spawn_151 rfl (lv_at hl 1 rfl) ?_
                      refine mg4 hC hK hW 7 (v := .ref (M 4)) rfl (by decide) rfl tf_X4_20 dX4_spawn_152 ?_
                      refine lv_iload hC.1 hC.2.1 dX4_spawn_155 (lv_at hl 0 rfl) ?_
                      refine lv_iload hC.1 hC.2.1 dX4_spawn_157 (lv_at hl 5 rfl) ?_
                      refine mai_s hC hK hW 4 (by decide) rfl (i := T 0 1) (kinL24 hI1.1 hlt) (mw_ar_4 (tn (T 0 1)) a) dX4_spawn_159 (fun H locs (hW : mWd D G M (mA M) zs.heap (kup (kup (kup (kup T 1 (tn (T 0 1)) 1) 3 (tn (T 0 1)) s) 4 (tn (T 0 1)) t) 5 (tn (T 0 1)) a) N r g H locs) => ?_)
                      refine lv_aload_n hC.1 hC.2.1 dX4_spawn_160 rfl (lv_at hl 1 rfl) ?_
                      refine mg4 hC hK hW 8 (v := .ref (M 5)) rfl (by decide) rfl tf_X4_23 dX4_spawn_161 ?_
                      refine lv_iload hC.1 hC.2.1 dX4_spawn_164 (lv_at hl 0 rfl) ?_
                      refine lv_iload hC.1 hC.2.1 dX4_spawn_166 (lv_at hl 6 rfl) ?_
                      refine mai_s hC hK hW 5 (by decide) rfl (i := T 0 1) (kinL24 hI1.1 hlt) (mw_ar_5 (tn (T 0 1)) b) dX4_spawn_168 (fun H locs (hW : mWd D G M (mA M) zs.heap (kup (kup (kup (kup (kup T 1 (tn (T 0 1)) 1) 3 (tn (T 0 1)) s) 4 (tn (T 0 1)) t) 5 (tn (T 0 1)) a) 6 (tn (T 0 1)) b) N r g H locs) => ?_)
                      refine lv_aload_n hC.1 hC.2.1 dX4_spawn_169 rfl (lv_at hl 1 rfl) ?_
                      refine mg4 hC hK hW 9 (v := .ref (M 6)) rfl (by decide) rfl tf_X4_26 dX4_spawn_170 ?_
                      refine lv_iload hC.1 hC.2.1 dX4_spawn_173 (lv_at hl 0 rfl) ?_
                      refine lv_iload_n hC.1 hC.2.1 dX4_spawn_175 rfl (lv_at hl 2 rfl) ?_
                      refine mai_s hC hK hW 6 (by decide) rfl (i := T 0 1) (kinL24 hI1.1 hlt) (mw_ar_6 (tn (T 0 1)) p) dX4_spawn_176 (fun H locs (hW : mWd D G M (mA M) zs.heap (kup (kup (kup (kup (kup (kup T 1 (tn (T 0 1)) 1) 3 (tn (T 0 1)) s) 4 (tn (T 0 1)) t) 5 (tn (T 0 1)) a) 6 (tn (T 0 1)) b) 2 (tn (T 0 1)) p) N r g H locs) => ?_)
                      refine lv_iconst (v := 0) hC.1 hC.2.1 dX4_spawn_177 (by decide) ?_
                      refine lv_istore (lv' := [(7, .int 0), (6, .int (T 0 1)), (0, .ref (M 0)), (1, .int p), (2, .int s), (3, .int t), (4, .int a), (5, .int b)]) hC.1 hC.2.1 dX4_spawn_178 hl (by decide) rfl (fun ls hl => ?_)
                      refine lv_iload hC.1 hC.2.1 dX4_spawn_180 (lv_at hl 0 rfl) ?_
                      refine lv_iconst (v := 3) hC.1 hC.2.1 dX4_spawn_182 (by decide) ?_
                      refine lv_icmp_ge (tgt := 205) hC.1 hC.2.1 dX4_spawn_183 (by decide) (fun c_183 => ?_) (fun c_183 => ?_)
                      · exact absurd c_183 (by decide)
                      · refine lv_aload_n hC.1 hC.2.1 dX4_spawn_186 rfl (lv_at hl 2 rfl) ?_
                        refine mg4 hC hK hW 10 (v := .ref (M 7)) rfl (by decide) rfl tf_X4_29 dX4_spawn_187 ?_
                        refine lv_iconst (v := 3) hC.1 hC.2.1 dX4_spawn_190 (by decide) ?_
                        refine lv_iload hC.1 hC.2.1 dX4_spawn_191 (lv_at hl 1 rfl) ?_
                        refine lv_imul hC.1 hC.2.1 dX4_spawn_193 ?_
                        refine lv_iload hC.1 hC.2.1 dX4_spawn_194 (lv_at hl 0 rfl) ?_
                        refine lv_iadd hC.1 hC.2.1 dX4_spawn_196 ?_
                        rw [show (((3 * (T 0 1)) + 0) : Int32) = nI (3 * tn (T 0 1) + 0) from (tk_ix hI1.1 0)]
                        refine lv_iconst (v := 0) hC.1 hC.2.1 dX4_spawn_197 (by decide) ?_
                        refine mai_sN hC hK hW 7 (by decide) rfl (i := (3 * tn (T 0 1) + 0)) (by have z := kin_lt (kinL24 hI1.1 hlt); omega) (mw_tk (tn (T 0 1)) 0 (by omega) 0) dX4_spawn_198 (fun H locs (hW : mWd D G M (mA M) zs.heap (kup (kup (kup (kup (kup (kup (kup T 1 (tn (T 0 1)) 1) 3 (tn (T 0 1)) s) 4 (tn (T 0 1)) t) 5 (tn (T 0 1)) a) 6 (tn (T 0 1)) b) 2 (tn (T 0 1)) p) (7 + 0) (tn (T 0 1)) 0) N r g H locs) => ?_)
                        refine lv_iinc (v := 1) (lv' := [(7, .int 1), (6, .int (T 0 1)), (0, .ref (M 0)), (1, .int p), (2, .int s), (3, .int t), (4, .int a), (5, .int b)]) hC.1 hC.2.1 dX4_spawn_199 hl (k := 0) rfl rfl (by decide) rfl (fun ls hl => ?_)
                        refine lv_goto (tgt := 180) hC.1 hC.2.1 dX4_spawn_202 (by decide) ?_
                        refine lv_iload hC.1 hC.2.1 dX4_spawn_180 (lv_at hl 0 rfl) ?_
                        refine lv_iconst (v := 3) hC.1 hC.2.1 dX4_spawn_182 (by decide) ?_
                        refine lv_icmp_ge (tgt := 205) hC.1 hC.2.1 dX4_spawn_183 (by decide) (fun c_183 => ?_) (fun c_183 => ?_)
                        · exact absurd c_183 (by decide)
                        · refine lv_aload_n hC.1 hC.2.1 dX4_spawn_186 rfl (lv_at hl 2 rfl) ?_
                          refine mg4 hC hK hW 10 (v := .ref (M 7)) rfl (by decide) rfl tf_X4_29 dX4_spawn_187 ?_
                          refine lv_iconst (v := 3) hC.1 hC.2.1 dX4_spawn_190 (by decide) ?_
                          refine lv_iload hC.1 hC.2.1 dX4_spawn_191 (lv_at hl 1 rfl) ?_
                          refine lv_imul hC.1 hC.2.1 dX4_spawn_193 ?_
                          refine lv_iload hC.1 hC.2.1 dX4_spawn_194 (lv_at hl 0 rfl) ?_
                          refine lv_iadd hC.1 hC.2.1 dX4_spawn_196 ?_
                          rw [show (((3 * (T 0 1)) + 1) : Int32) = nI (3 * tn (T 0 1) + 1) from (tk_ix hI1.1 1)]
                          refine lv_iconst (v := 0) hC.1 hC.2.1 dX4_spawn_197 (by decide) ?_
                          refine mai_sN hC hK hW 7 (by decide) rfl (i := (3 * tn (T 0 1) + 1)) (by have z := kin_lt (kinL24 hI1.1 hlt); omega) (mw_tk (tn (T 0 1)) 1 (by omega) 0) dX4_spawn_198 (fun H locs (hW : mWd D G M (mA M) zs.heap (kup (kup (kup (kup (kup (kup (kup (kup T 1 (tn (T 0 1)) 1) 3 (tn (T 0 1)) s) 4 (tn (T 0 1)) t) 5 (tn (T 0 1)) a) 6 (tn (T 0 1)) b) 2 (tn (T 0 1)) p) (7 + 0) (tn (T 0 1)) 0) (7 + 1) (tn (T 0 1)) 0) N r g H locs) => ?_)
                          refine lv_iinc (v := 2) (lv' := [(7, .int 2), (6, .int (T 0 1)), (0, .ref (M 0)), (1, .int p), (2, .int s), (3, .int t), (4, .int a), (5, .int b)]) hC.1 hC.2.1 dX4_spawn_199 hl (k := 0) rfl rfl (by decide) rfl (fun ls hl => ?_)
                          refine lv_goto (tgt := 180) hC.1 hC.2.1 dX4_spawn_202 (by decide) ?_
                          refine lv_iload hC.1 hC.2.1 dX4_spawn_180 (lv_at hl 0 rfl) ?_
                          refine lv_iconst (v := 3) hC.1 hC.2.1 dX4_spawn_182 (by decide) ?_
                          refine lv_icmp_ge (tgt := 205) hC.1 hC.2.1 dX4_spawn_183 (by decide) (fun c_183 => ?_) (fun c_183 => ?_)
                          · exact absurd c_183 (by decide)
                          · refine lv_aload_n hC.1 hC.2.1 dX4_spawn_186 rfl (lv_at hl 2 rfl) ?_
                            refine mg4 hC hK hW 10 (v := .ref (M 7)) rfl (by decide) rfl tf_X4_29 dX4_spawn_187 ?_
                            refine lv_iconst (v := 3) hC.1 hC.2.1 dX4_spawn_190 (by decide) ?_
                            refine lv_iload hC.1 hC.2.1 dX4_spawn_191 (lv_at hl 1 rfl) ?_
                            refine lv_imul hC.1 hC.2.1 dX4_spawn_193 ?_
                            refine lv_iload hC.1 hC.2.1 dX4_spawn_194 (lv_at hl 0 rfl) ?_
                            refine lv_iadd hC.1 hC.2.1 dX4_spawn_196 ?_
                            rw [show (((3 * (T 0 1)) + 2) : Int32) = nI (3 * tn (T 0 1) + 2) from (tk_ix hI1.1 2)]
                            refine lv_iconst (v := 0) hC.1 hC.2.1 dX4_spawn_197 (by decide) ?_
                            refine mai_sN hC hK hW 7 (by decide) rfl (i := (3 * tn (T 0 1) + 2)) (by have z := kin_lt (kinL24 hI1.1 hlt); omega) (mw_tk (tn (T 0 1)) 2 (by omega) 0) dX4_spawn_198 (fun H locs (hW : mWd D G M (mA M) zs.heap (kup (kup (kup (kup (kup (kup (kup (kup (kup T 1 (tn (T 0 1)) 1) 3 (tn (T 0 1)) s) 4 (tn (T 0 1)) t) 5 (tn (T 0 1)) a) 6 (tn (T 0 1)) b) 2 (tn (T 0 1)) p) (7 + 0) (tn (T 0 1)) 0) (7 + 1) (tn (T 0 1)) 0) (7 + 2) (tn (T 0 1)) 0) N r g H locs) => ?_)
                            refine lv_iinc (v := 3) (lv' := [(7, .int 3), (6, .int (T 0 1)), (0, .ref (M 0)), (1, .int p), (2, .int s), (3, .int t), (4, .int a), (5, .int b)]) hC.1 hC.2.1 dX4_spawn_199 hl (k := 0) rfl rfl (by decide) rfl (fun ls hl => ?_)
                            refine lv_goto (tgt := 180) hC.1 hC.2.1 dX4_spawn_202 (by decide) ?_
                            refine lv_iload hC.1 hC.2.1 dX4_spawn_180 (lv_at hl 0 rfl) ?_
                            refine lv_iconst (v := 3) hC.1 hC.2.1 dX4_spawn_182 (by decide) ?_
                            refine lv_icmp_ge (tgt := 205) hC.1 hC.2.1 dX4_spawn_183 (by decide) (fun c_183 => ?_) (fun c_183 => ?_)
                            · refine lv_aload_n hC.1 hC.2.1 dX4_spawn_205 rfl (lv_at hl 2 rfl) ?_
                              refine lv_dup hC.1 hC.2.1 dX4_spawn_206 rfl ?_
                              refine mg4 hC hK hW 3 (v := .int ((kup (kup (kup (kup (kup (kup (kup (kup (kup T 1 (tn (T 0 1)) 1) 3 (tn (T 0 1)) s) 4 (tn (T 0 1)) t) 5 (tn (T 0 1)) a) 6 (tn (T 0 1)) b) 2 (tn (T 0 1)) p) (7 + 0) (tn (T 0 1)) 0) (7 + 1) (tn (T 0 1)) 0) (7 + 2) (tn (T 0 1)) 0) 0 1)) rfl (by decide) rfl tf_X4_84 dX4_spawn_207 ?_
                              refine lv_iconst (v := 1) hC.1 hC.2.1 dX4_spawn_210 (by decide) ?_
                              refine lv_iadd hC.1 hC.2.1 dX4_spawn_211 ?_
                              refine mp4 hC hK hW 3 (by decide) rfl rfl (by decide +kernel) (mw_put_3 (((kup (kup (kup (kup (kup (kup (kup (kup (kup T 1 (tn (T 0 1)) 1) 3 (tn (T 0 1)) s) 4 (tn (T 0 1)) t) 5 (tn (T 0 1)) a) 6 (tn (T 0 1)) b) 2 (tn (T 0 1)) p) (7 + 0) (tn (T 0 1)) 0) (7 + 1) (tn (T 0 1)) 0) (7 + 2) (tn (T 0 1)) 0) 0 1) + 1)) tf_X4_84 dX4_spawn_212 (fun H locs (hW : mWd D G M (mA M) zs.heap (kup (kup (kup (kup (kup (kup (kup (kup (kup (kup T 1 (tn (T 0 1)) 1) 3 (tn (T 0 1)) s) 4 (tn (T 0 1)) t) 5 (tn (T 0 1)) a) 6 (tn (T 0 1)) b) 2 (tn (T 0 1)) p) (7 + 0) (tn (T 0 1)) 0) (7 + 1) (tn (T 0 1)) 0) (7 + 2) (tn (T 0 1)) 0) 0 1 (((kup (kup (kup (kup (kup (kup (kup (kup (kup T 1 (tn (T 0 1)) 1) 3 (tn (T 0 1)) s) 4 (tn (T 0 1)) t) 5 (tn (T 0 1)) a) 6 (tn (T 0 1)) b) 2 (tn (T 0 1)) p) (7 + 0) (tn (T 0 1)) 0) (7 + 1) (tn (T 0 1)) 0) (7 + 2) (tn (T 0 1)) 0) 0 1) + 1)) N r g H locs) => ?_)
                              refine lv_iload hC.1 hC.2.1 dX4_spawn_215 (lv_at hl 1 rfl) ?_
                              exact mkrI hC hr hlk hW (by simp (config := {decide := true}) only [kif_true, kif_false, kb, kup_eq, kup_f, kup_i, not_true_eq_false, not_false_eq_true, and_true, true_and, and_false, false_and, and_self, or_true, true_or, or_false, false_or, a_spawn, t_spawn, kSps, kSpo, kOwn, kWi, c_5, c_16, c_24, c_33, c_42, c_60, c_75, c_89, c_103, c_115, hlt, c_183, c_183, c_183, c_183]) (by rw [ksp_eq]; simp (config := {decide := true}) only [kif_true, kif_false, kb, kup_eq, kup_f, kup_i, not_true_eq_false, not_false_eq_true, and_true, true_and, and_false, false_and, and_self, or_true, true_or, or_false, false_or, t_spawn, kSps, kSpo, kOwn, kWi, c_5, c_16, c_24, c_33, c_42, c_60, c_75, c_89, c_103, c_115, hlt, c_183, c_183, c_183, c_183] <;> rfl) rfl rfl rfl dX4_spawn_217
                            · exact absurd (by decide) c_183
                    · have hlt : ¬ T 0 1 < 24 := keq_nlt (n := 24) c_115
                      refine lv_ldc hC.1 hC.2.1 hC.2.2.2.1 (hC.2.2.2.2 _ (kt_in tk_X4_111 rfl)) dX4_spawn_118 ?_
                      exact mkrI hC hr hlk hW (by simp (config := {decide := true}) only [kif_true, kif_false, kb, kup_eq, kup_f, kup_i, not_true_eq_false, not_false_eq_true, and_true, true_and, and_false, false_and, and_self, or_true, true_or, or_false, false_or, a_spawn, t_spawn, kSps, kSpo, kOwn, kWi, c_5, c_16, c_24, c_33, c_42, c_60, c_75, c_89, c_103, c_115, hlt]) (by simp (config := {decide := true}) only [kif_true, kif_false, kb, kup_eq, kup_f, kup_i, not_true_eq_false, not_false_eq_true, and_true, true_and, and_false, false_and, and_self, or_true, true_or, or_false, false_or, a_spawn, t_spawn, kSps, kSpo, kOwn, kWi, c_5, c_16, c_24, c_33, c_42, c_60, c_75, c_89, c_103, c_115, hlt]) rfl rfl rfl dX4_spawn_120
                  · refine lv_ldc hC.1 hC.2.1 hC.2.2.2.1 (hC.2.2.2.2 _ (kt_in tk_X4_135 rfl)) dX4_spawn_106 ?_
                    exact mkrI hC hr hlk hW (by simp (config := {decide := true}) only [kif_true, kif_false, kb, kup_eq, kup_f, kup_i, not_true_eq_false, not_false_eq_true, and_true, true_and, and_false, false_and, and_self, or_true, true_or, or_false, false_or, a_spawn, t_spawn, kSps, kSpo, kOwn, kWi, c_5, c_16, c_24, c_33, c_42, c_60, c_75, c_89, c_103]) (by simp (config := {decide := true}) only [kif_true, kif_false, kb, kup_eq, kup_f, kup_i, not_true_eq_false, not_false_eq_true, and_true, true_and, and_false, false_and, and_self, or_true, true_or, or_false, false_or, a_spawn, t_spawn, kSps, kSpo, kOwn, kWi, c_5, c_16, c_24, c_33, c_42, c_60, c_75, c_89, c_103]) rfl rfl rfl dX4_spawn_108
          · refine lv_ldc hC.1 hC.2.1 hC.2.2.2.1 (hC.2.2.2.2 _ (kt_in tk_X4_110 rfl)) dX4_spawn_45 ?_
            exact mkrI hC hr hlk hW (by simp (config := {decide := true}) only [kif_true, kif_false, kb, kup_eq, kup_f, kup_i, not_true_eq_false, not_false_eq_true, and_true, true_and, and_false, false_and, and_self, or_true, true_or, or_false, false_or, a_spawn, t_spawn, kSps, kSpo, kOwn, kWi, c_5, c_16, c_24, c_33, c_42]) (by simp (config := {decide := true}) only [kif_true, kif_false, kb, kup_eq, kup_f, kup_i, not_true_eq_false, not_false_eq_true, and_true, true_and, and_false, false_and, and_self, or_true, true_or, or_false, false_or, a_spawn, t_spawn, kSps, kSpo, kOwn, kWi, c_5, c_16, c_24, c_33, c_42]) rfl rfl rfl dX4_spawn_47
  · refine lv_ldc hC.1 hC.2.1 hC.2.2.2.1 (hC.2.2.2.2 _ (kt_in tk_X4_107 rfl)) dX4_spawn_8 ?_
    exact mkrI hC hr hlk hW (by simp (config := {decide := true}) only [kif_true, kif_false, kb, kup_eq, kup_f, kup_i, not_true_eq_false, not_false_eq_true, and_true, true_and, and_false, false_and, and_self, or_true, true_or, or_false, false_or, a_spawn, t_spawn, kSps, kSpo, kOwn, kWi, c_5]) (by simp (config := {decide := true}) only [kif_true, kif_false, kb, kup_eq, kup_f, kup_i, not_true_eq_false, not_false_eq_true, and_true, true_and, and_false, false_and, and_self, or_true, true_or, or_false, false_or, a_spawn, t_spawn, kSps, kSpo, kOwn, kWi, c_5]) rfl rfl rfl dX4_spawn_10
set_option maxHeartbeats 4000000 in
set_option maxRecDepth 100000 in
theorem c_X4_exit (l : Launch) (D : va_G) (G : Nat → ClassId) (M : Nat → Nat) (hL : mL M) (T N : kT) (r g : Nat → Int32) (p : Int32) (hI1 : kI1 T) (hI2 : kI2 T) (hIb : kIb T) : kM l yX4_exit cX4_exit 4 (some .int) 2 46 (mPc D G M T N r g [.ref (M 0), .int p]) (mQi D G M (a_exit T p) (t_exit T p) N r g) (mA M) := by
  refine kBegin (by decide) (Nat.le_of_ble_eq_true rfl) ?_
  intro zp ze zs zm zargs zbelow zmeth zc hC hr hlk hB ls hl
  obtain ⟨hP, hK⟩ := hB
  have hW : mWd D G M (mA M) zs.heap T N r g zs.heap [] := mWd.start hL hP
  have hl : lv_has ls 4 [(0, .ref (M 0)), (1, .int p)] := hl
  refine lv_aload_n hC.1 hC.2.1 dX4_exit_0 rfl (lv_at hl 0 rfl) ?_
  refine lv_iload_n hC.1 hC.2.1 dX4_exit_1 rfl (lv_at hl 1 rfl) ?_
  refine keSi (rest := []) (mcV 0 hC hK hW (c_X4_isProcess l D G M hL T N r g p hI1) (kgoodV tm_X4_103 ti_yX4_isProcess te_yX4_isProcess tz_X4 tc_yX4_isProcess) mw_m rfl ⟨rfl, by decide, by decide, (show Option.map _ (parseMethodDescriptor yX4_isProcess.desc) = some 1 from by decide +kernel)⟩ ⟨Nat.le_of_ble_eq_true rfl, Nat.le_of_ble_eq_true rfl⟩ hl.1 rfl (Nat.le_of_ble_eq_true rfl) ⟨Nat.le_refl _, Nat.le_refl _⟩ dX4_exit_2) ?_
  refine kif_ne (tgt := 11) hC.1 hC.2.1 dX4_exit_5 (by decide) (fun c_5 => ?_) (fun c_5 => ?_)
  · refine lv_iload_n hC.1 hC.2.1 dX4_exit_11 rfl (lv_at hl 1 rfl) ?_
    refine lv_if_ne (tgt := 18) hC.1 hC.2.1 dX4_exit_12 (by decide) (fun c_12 => ?_) (fun c_12 => ?_)
    · refine lv_aload_n hC.1 hC.2.1 dX4_exit_18 rfl (lv_at hl 0 rfl) ?_
      refine lv_iload_n hC.1 hC.2.1 dX4_exit_19 rfl (lv_at hl 1 rfl) ?_
      refine keSi (rest := []) (mcV 0 hC hK hW (c_X4_openOf l D G M hL T N r g p hI2) (kgoodV tm_X4_118 ti_yX4_openOf te_yX4_openOf tz_X4 tc_yX4_openOf) mw_m rfl ⟨rfl, by decide, by decide, (show Option.map _ (parseMethodDescriptor yX4_openOf.desc) = some 1 from by decide +kernel)⟩ ⟨Nat.le_of_ble_eq_true rfl, Nat.le_of_ble_eq_true rfl⟩ hl.1 rfl (Nat.le_of_ble_eq_true rfl) ⟨Nat.le_refl _, Nat.le_refl _⟩ dX4_exit_20) ?_
      refine lv_istore_n (lv' := [(2, .int (kOpn T p 40)), (0, .ref (M 0)), (1, .int p)]) hC.1 hC.2.1 dX4_exit_23 rfl hl (by decide) rfl (fun ls hl => ?_)
      refine lv_aload_n hC.1 hC.2.1 dX4_exit_24 rfl (lv_at hl 1 rfl) ?_
      refine mg4 hC hK hW 4 (v := .ref (M 1)) rfl (by decide) rfl tf_X4_7 dX4_exit_25 ?_
      refine lv_iload_n hC.1 hC.2.1 dX4_exit_28 rfl (lv_at hl 2 rfl) ?_
      refine lv_iconst (v := 0) hC.1 hC.2.1 dX4_exit_29 (by decide) ?_
      refine mab_s hC hK hW 1 (by decide) rfl (i := p) c_5.in (Or.inl rfl) (mw_ar_1 (tn p) 0) dX4_exit_30 (fun H locs (hW : mWd D G M (mA M) zs.heap (kup T 1 (tn p) 0) N r g H locs) => ?_)
      rw [← kCl_0 (kup T 1 (tn p) 0) p] at hW
      refine lv_iconst (v := 0) hC.1 hC.2.1 dX4_exit_31 (by decide) ?_
      refine lv_istore_n (lv' := [(3, .int 0), (2, .int (kOpn T p 40)), (0, .ref (M 0)), (1, .int p)]) hC.1 hC.2.1 dX4_exit_32 rfl hl (by decide) rfl (fun ls hl => ?_)
      have loop_33 : ∀ (zf i : Nat), i + zf = tn (T 0 2) →  ∀ (H : Heap) (locs : List Loc), mWd D G M (mA M) zs.heap (kCl (kup T 1 (tn p) 0) p i) N r g H locs → ∀ ls : Array Slot, lv_has ls 4 [(3, .int (nI i)), (2, .int (kOpn T p 40)), (0, .ref (M 0)), (1, .int p)] → W zp l ze ({ frames := 2, cells := 0, slots := 0, locals := 46 } : Room) zs zm zargs zbelow zmeth zc H locs 0 0 (MQ zbelow (mQi D G M (a_exit T p) (t_exit T p) N r g) zargs zs 0 0 (mA M)) (F0 zm 33 ls []) := by
        intro zf
        induction zf with
        | zero =>
          intro i  hi  H locs hW ls hl
          have hi0 : i = tn (T 0 2) := by omega
          have hb2 := (tn_nat hI2.1).2
          have hb3 := hI2.2.1
          refine lv_iload_n hC.1 hC.2.1 dX4_exit_33 rfl (lv_at hl 0 rfl) ?_
          refine lv_aload_n hC.1 hC.2.1 dX4_exit_34 rfl (lv_at hl 2 rfl) ?_
          refine mg4 hC hK hW 11 (v := .int ((kCl (kup T 1 (tn p) 0) p i) 0 2)) rfl (by decide) rfl tf_X4_100 dX4_exit_35 ?_
          refine lv_icmp_ge (tgt := 77) hC.1 hC.2.1 dX4_exit_38 (by decide) (fun c_38 => ?_) (fun c_38 => ?_)
          · refine lv_iload_n hC.1 hC.2.1 dX4_exit_77 rfl (lv_at hl 1 rfl) ?_
            exact mkrI hC hr hlk hW (by simp (config := {decide := true}) only [kif_true, kif_false, kb, kup_eq, kup_f, kup_i, not_true_eq_false, not_false_eq_true, and_true, true_and, and_false, false_and, and_self, or_true, true_or, or_false, false_or, a_exit, t_exit, c_5, c_12, hi0, c_38]) (by rw [hi0]; rw [show kCl (kup T 1 (tn p) 0) p (tn (T 0 2)) = kCl (kup T 1 (tn p) 0) p 40 from kCl_z (T := kup T 1 (tn p) 0) hI2, ← kCl_f]; simp (config := {decide := true}) only [t_exit, kif_true, c_5, c_12, and_self, not_false_eq_true]) rfl rfl rfl dX4_exit_78
          · exact absurd (show T 0 2 ≤ nI i from by rw [(tn_nat hI2.1).1]; exact nI_le (by omega) (by omega)) c_38
        | succ zf ih =>
          intro i  hi  H locs hW ls hl
          have hlt : i < tn (T 0 2) := by omega
          have hb2 := (tn_nat hI2.1).2
          have hb3 := hI2.2.1
          have hbT : (kup T 1 (tn p) 0) 10 i = 0 ∨ (kup T 1 (tn p) 0) 10 i = 1 := (hIb i).2.1
          refine lv_iload_n hC.1 hC.2.1 dX4_exit_33 rfl (lv_at hl 0 rfl) ?_
          refine lv_aload_n hC.1 hC.2.1 dX4_exit_34 rfl (lv_at hl 2 rfl) ?_
          refine mg4 hC hK hW 11 (v := .int ((kCl (kup T 1 (tn p) 0) p i) 0 2)) rfl (by decide) rfl tf_X4_100 dX4_exit_35 ?_
          refine lv_icmp_ge (tgt := 77) hC.1 hC.2.1 dX4_exit_38 (by decide) (fun c_38 => ?_) (fun c_38 => ?_)
          · exact absurd (show nI (tn (T 0 2)) ≤ nI i from by rw [← (tn_nat hI2.1).1]; exact c_38) (nI_ge (a := i) (b := tn (T 0 2)) (by omega) (by omega))
          · refine lv_aload_n hC.1 hC.2.1 dX4_exit_41 rfl (lv_at hl 2 rfl) ?_
            refine mg4 hC hK hW 12 (v := .ref (M 8)) rfl (by decide) rfl tf_X4_32 dX4_exit_42 ?_
            refine lv_iload_n hC.1 hC.2.1 dX4_exit_45 rfl (lv_at hl 0 rfl) ?_
            refine lv_aload_n hC.1 hC.2.1 dX4_exit_46 rfl (lv_at hl 2 rfl) ?_
            refine mg4 hC hK hW 12 (v := .ref (M 8)) rfl (by decide) rfl tf_X4_32 dX4_exit_47 ?_
            refine lv_iload_n hC.1 hC.2.1 dX4_exit_50 rfl (lv_at hl 0 rfl) ?_
            refine mabN hC hK hW 8 (by decide) rfl (i := i) (by omega) dX4_exit_51 ?_
            refine lv_if_eq (tgt := 69) hC.1 hC.2.1 dX4_exit_52 (by decide) (fun c_52 => ?_) (fun c_52 => ?_)
            · refine lv_iconst (v := 0) hC.1 hC.2.1 dX4_exit_69 (by decide) ?_
              refine mab_sN hC hK hW 8 (by decide) rfl (i := i) (by omega) (Or.inl rfl) (mw_ar_8 i 0) dX4_exit_70 (fun H locs (hW : mWd D G M (mA M) zs.heap (kup (kCl (kup T 1 (tn p) 0) p i) 10 i 0) N r g H locs) => ?_)
              refine lv_iinc (v := nI (i + 1)) (lv' := [(3, .int (nI (i + 1))), (2, .int (kOpn T p 40)), (0, .ref (M 0)), (1, .int p)]) hC.1 hC.2.1 dX4_exit_71 hl (k := 0) rfl (nI_1 i) (by decide) rfl (fun ls hl => ?_)
              refine lv_goto (tgt := 33) hC.1 hC.2.1 dX4_exit_74 (by decide) ?_
              rw [kCl_e0 (T := kup T 1 (tn p) 0) (Or.inl (by simpa [kCl] using c_52))] at hW
              exact ih (i + 1) (by omega) _ _ hW ls (lv_sub hl [0, 1, 2, 3] rfl)
            · refine lv_aload_n hC.1 hC.2.1 dX4_exit_55 rfl (lv_at hl 2 rfl) ?_
              refine mg4 hC hK hW 13 (v := .ref (M 9)) rfl (by decide) rfl tf_X4_35 dX4_exit_56 ?_
              refine lv_iload_n hC.1 hC.2.1 dX4_exit_59 rfl (lv_at hl 0 rfl) ?_
              refine maiN hC hK hW 9 (by decide) rfl (i := i) (by omega) dX4_exit_60 ?_
              refine lv_iload_n hC.1 hC.2.1 dX4_exit_61 rfl (lv_at hl 3 rfl) ?_
              refine lv_icmp_eq (tgt := 69) hC.1 hC.2.1 dX4_exit_62 (by decide) (fun c_62 => ?_) (fun c_62 => ?_)
              · refine lv_iconst (v := 0) hC.1 hC.2.1 dX4_exit_69 (by decide) ?_
                refine mab_sN hC hK hW 8 (by decide) rfl (i := i) (by omega) (Or.inl rfl) (mw_ar_8 i 0) dX4_exit_70 (fun H locs (hW : mWd D G M (mA M) zs.heap (kup (kCl (kup T 1 (tn p) 0) p i) 10 i 0) N r g H locs) => ?_)
                refine lv_iinc (v := nI (i + 1)) (lv' := [(3, .int (nI (i + 1))), (2, .int (kOpn T p 40)), (0, .ref (M 0)), (1, .int p)]) hC.1 hC.2.1 dX4_exit_71 hl (k := 0) rfl (nI_1 i) (by decide) rfl (fun ls hl => ?_)
                refine lv_goto (tgt := 33) hC.1 hC.2.1 dX4_exit_74 (by decide) ?_
                rw [kCl_e0 (T := kup T 1 (tn p) 0) (Or.inr c_62)] at hW
                exact ih (i + 1) (by omega) _ _ hW ls (lv_sub hl [0, 1, 2, 3] rfl)
              · refine lv_iconst (v := 1) hC.1 hC.2.1 dX4_exit_65 (by decide) ?_
                refine lv_goto (tgt := 70) hC.1 hC.2.1 dX4_exit_66 (by decide) ?_
                refine mab_sN hC hK hW 8 (by decide) rfl (i := i) (by omega) (Or.inr rfl) (mw_ar_8 i 1) dX4_exit_70 (fun H locs (hW : mWd D G M (mA M) zs.heap (kup (kCl (kup T 1 (tn p) 0) p i) 10 i 1) N r g H locs) => ?_)
                refine lv_iinc (v := nI (i + 1)) (lv' := [(3, .int (nI (i + 1))), (2, .int (kOpn T p 40)), (0, .ref (M 0)), (1, .int p)]) hC.1 hC.2.1 dX4_exit_71 hl (k := 0) rfl (nI_1 i) (by decide) rfl (fun ls hl => ?_)
                refine lv_goto (tgt := 33) hC.1 hC.2.1 dX4_exit_74 (by decide) ?_
                rw [kCl_e1 (T := kup T 1 (tn p) 0) hbT (by simpa [kCl] using c_52) c_62] at hW
                exact ih (i + 1) (by omega) _ _ hW ls (lv_sub hl [0, 1, 2, 3] rfl)
      exact loop_33 (tn (T 0 2)) 0 (by omega) _ _ hW ls (by rw [nI_0]; exact lv_sub hl [0, 1, 2, 3] rfl)
    · refine lv_ldc hC.1 hC.2.1 hC.2.2.2.1 (hC.2.2.2.2 _ (kt_in tk_X4_135 rfl)) dX4_exit_15 ?_
      exact mkrI hC hr hlk hW (by subst c_12; simp (config := {decide := true}) only [a_exit, kif_true, c_5]) (by subst c_12; simp (config := {decide := true}) only [t_exit, kif_true, kif_false, c_5, and_false, not_true_eq_false]) rfl rfl rfl dX4_exit_17
  · refine lv_ldc hC.1 hC.2.1 hC.2.2.2.1 (hC.2.2.2.2 _ (kt_in tk_X4_107 rfl)) dX4_exit_8 ?_
    exact mkrI hC hr hlk hW (by simp (config := {decide := true}) only [kif_true, kif_false, kb, kup_eq, kup_f, kup_i, not_true_eq_false, not_false_eq_true, and_true, true_and, and_false, false_and, and_self, or_true, true_or, or_false, false_or, a_exit, t_exit, c_5]) (by simp (config := {decide := true}) only [kif_true, kif_false, kb, kup_eq, kup_f, kup_i, not_true_eq_false, not_false_eq_true, and_true, true_and, and_false, false_and, and_self, or_true, true_or, or_false, false_or, a_exit, t_exit, c_5]) rfl rfl rfl dX4_exit_10
set_option maxHeartbeats 4000000 in
set_option maxRecDepth 100000 in
theorem c_X4_endpoint (l : Launch) (D : va_G) (G : Nat → ClassId) (M : Nat → Nat) (hL : mL M) (T N : kT) (r g : Nat → Int32) (p : Int32) (s : Int32) (t : Int32) (hI0 : kI0 T) (hI1 : kI1 T) (hI2 : kI2 T) (hI6 : kI6 T) : kM l yX4_endpoint cX4_endpoint 5 (some .int) 2 46 (mPc D G M T N r g [.ref (M 0), .int p, .int s, .int t]) (mQi D G M (a_endpoint T p s t) (t_endpoint T p s t) N r g) (mA M) := by
  refine kBegin (by decide) (Nat.le_of_ble_eq_true rfl) ?_
  intro zp ze zs zm zargs zbelow zmeth zc hC hr hlk hB ls hl
  obtain ⟨hP, hK⟩ := hB
  have hW : mWd D G M (mA M) zs.heap T N r g zs.heap [] := mWd.start hL hP
  have hl : lv_has ls 5 [(0, .ref (M 0)), (1, .int p), (2, .int s), (3, .int t)] := hl
  refine lv_aload_n hC.1 hC.2.1 dX4_endpoint_0 rfl (lv_at hl 0 rfl) ?_
  refine lv_iload_n hC.1 hC.2.1 dX4_endpoint_1 rfl (lv_at hl 1 rfl) ?_
  refine keSi (rest := []) (mcV 0 hC hK hW (c_X4_isProcess l D G M hL T N r g p hI1) (kgoodV tm_X4_103 ti_yX4_isProcess te_yX4_isProcess tz_X4 tc_yX4_isProcess) mw_m rfl ⟨rfl, by decide, by decide, (show Option.map _ (parseMethodDescriptor yX4_isProcess.desc) = some 1 from by decide +kernel)⟩ ⟨Nat.le_of_ble_eq_true rfl, Nat.le_of_ble_eq_true rfl⟩ hl.1 rfl (Nat.le_of_ble_eq_true rfl) ⟨Nat.le_refl _, Nat.le_refl _⟩ dX4_endpoint_2) ?_
  refine kif_ne (tgt := 11) hC.1 hC.2.1 dX4_endpoint_5 (by decide) (fun c_5 => ?_) (fun c_5 => ?_)
  · refine lv_aload_n hC.1 hC.2.1 dX4_endpoint_11 rfl (lv_at hl 0 rfl) ?_
    refine lv_iload_n hC.1 hC.2.1 dX4_endpoint_12 rfl (lv_at hl 2 rfl) ?_
    refine keSi (rest := []) (mcV 0 hC hK hW (c_X4_isSet l D G M hL T N r g s hI0) (kgoodV tm_X4_129 ti_yX4_isSet te_yX4_isSet tz_X4 tc_yX4_isSet) mw_m rfl ⟨rfl, by decide, by decide, (show Option.map _ (parseMethodDescriptor yX4_isSet.desc) = some 1 from by decide +kernel)⟩ ⟨Nat.le_of_ble_eq_true rfl, Nat.le_of_ble_eq_true rfl⟩ hl.1 rfl (Nat.le_of_ble_eq_true rfl) ⟨Nat.le_refl _, Nat.le_refl _⟩ dX4_endpoint_13) ?_
    refine kif_eq (tgt := 27) hC.1 hC.2.1 dX4_endpoint_16 (by decide) (fun c_16 => ?_) (fun c_16 => ?_)
    · refine lv_ldc hC.1 hC.2.1 hC.2.2.2.1 (hC.2.2.2.2 _ (kt_in tk_X4_110 rfl)) dX4_endpoint_27 ?_
      exact mkrI hC hr hlk hW (by simp (config := {decide := true}) only [kif_true, kif_false, kb, kup_eq, kup_f, kup_i, not_true_eq_false, not_false_eq_true, and_true, true_and, and_false, false_and, and_self, or_true, true_or, or_false, false_or, a_endpoint, t_endpoint, c_5, c_16]) (by simp (config := {decide := true}) only [kif_true, kif_false, kb, kup_eq, kup_f, kup_i, not_true_eq_false, not_false_eq_true, and_true, true_and, and_false, false_and, and_self, or_true, true_or, or_false, false_or, a_endpoint, t_endpoint, c_5, c_16]) rfl rfl rfl dX4_endpoint_29
    · refine lv_aload_n hC.1 hC.2.1 dX4_endpoint_19 rfl (lv_at hl 0 rfl) ?_
      refine lv_iload_n hC.1 hC.2.1 dX4_endpoint_20 rfl (lv_at hl 3 rfl) ?_
      refine keSi (rest := []) (mcV 0 hC hK hW (c_X4_isSet l D G M hL T N r g t hI0) (kgoodV tm_X4_129 ti_yX4_isSet te_yX4_isSet tz_X4 tc_yX4_isSet) mw_m rfl ⟨rfl, by decide, by decide, (show Option.map _ (parseMethodDescriptor yX4_isSet.desc) = some 1 from by decide +kernel)⟩ ⟨Nat.le_of_ble_eq_true rfl, Nat.le_of_ble_eq_true rfl⟩ hl.1 rfl (Nat.le_of_ble_eq_true rfl) ⟨Nat.le_refl _, Nat.le_refl _⟩ dX4_endpoint_21) ?_
      refine kif_ne (tgt := 30) hC.1 hC.2.1 dX4_endpoint_24 (by decide) (fun c_24 => ?_) (fun c_24 => ?_)
      · refine lv_aload_n hC.1 hC.2.1 dX4_endpoint_30 rfl (lv_at hl 0 rfl) ?_
        refine lv_iload_n hC.1 hC.2.1 dX4_endpoint_31 rfl (lv_at hl 1 rfl) ?_
        refine lv_iload_n hC.1 hC.2.1 dX4_endpoint_32 rfl (lv_at hl 2 rfl) ?_
        refine lv_iload_n hC.1 hC.2.1 dX4_endpoint_33 rfl (lv_at hl 3 rfl) ?_
        refine keSi (rest := []) (mcV 0 hC hK hW (c_X4_suits l D G M hL T N r g p s t c_5.in) (kgoodV tm_X4_125 ti_yX4_suits te_yX4_suits tz_X4 tc_yX4_suits) mw_m rfl ⟨rfl, by decide, by decide, (show Option.map _ (parseMethodDescriptor yX4_suits.desc) = some 3 from by decide +kernel)⟩ ⟨Nat.le_of_ble_eq_true rfl, Nat.le_of_ble_eq_true rfl⟩ hl.1 rfl (Nat.le_of_ble_eq_true rfl) ⟨Nat.le_refl _, Nat.le_refl _⟩ dX4_endpoint_34) ?_
        refine kif_ne (tgt := 43) hC.1 hC.2.1 dX4_endpoint_37 (by decide) (fun c_37 => ?_) (fun c_37 => ?_)
        · have hek := kEok_iff.mpr c_37
          refine lv_aload_n hC.1 hC.2.1 dX4_endpoint_43 rfl (lv_at hl 0 rfl) ?_
          refine mg4 hC hK hW 11 (v := .int (T 0 2)) rfl (by decide) rfl tf_X4_100 dX4_endpoint_44 ?_
          refine lv_bipush (v := 40) hC.1 hC.2.1 dX4_endpoint_47 (by decide) ?_
          refine lv_icmp_ne (tgt := 55) hC.1 hC.2.1 dX4_endpoint_49 (by decide) (fun c_49 => ?_) (fun c_49 => ?_)
          · have hlt : T 0 2 < 40 := keq_lt (n := 40) hI2.1 hI2.2.1 (by decide) c_49
            refine lv_aload_n hC.1 hC.2.1 dX4_endpoint_55 rfl (lv_at hl 0 rfl) ?_
            refine mg4 hC hK hW 11 (v := .int (T 0 2)) rfl (by decide) rfl tf_X4_100 dX4_endpoint_56 ?_
            refine lv_istore (lv' := [(4, .int (T 0 2)), (0, .ref (M 0)), (1, .int p), (2, .int s), (3, .int t)]) hC.1 hC.2.1 dX4_endpoint_59 hl (by decide) rfl (fun ls hl => ?_)
            refine lv_aload_n hC.1 hC.2.1 dX4_endpoint_61 rfl (lv_at hl 1 rfl) ?_
            refine mg4 hC hK hW 12 (v := .ref (M 8)) rfl (by decide) rfl tf_X4_32 dX4_endpoint_62 ?_
            refine lv_iload hC.1 hC.2.1 dX4_endpoint_65 (lv_at hl 0 rfl) ?_
            refine lv_iconst (v := 1) hC.1 hC.2.1 dX4_endpoint_67 (by decide) ?_
            refine mab_s hC hK hW 8 (by decide) rfl (i := T 0 2) (kinL40 hI2.1 hlt) (Or.inr rfl) (mw_ar_8 (tn (T 0 2)) 1) dX4_endpoint_68 (fun H locs (hW : mWd D G M (mA M) zs.heap (kup T 10 (tn (T 0 2)) 1) N r g H locs) => ?_)
            refine lv_aload_n hC.1 hC.2.1 dX4_endpoint_69 rfl (lv_at hl 1 rfl) ?_
            refine mg4 hC hK hW 13 (v := .ref (M 9)) rfl (by decide) rfl tf_X4_35 dX4_endpoint_70 ?_
            refine lv_iload hC.1 hC.2.1 dX4_endpoint_73 (lv_at hl 0 rfl) ?_
            refine lv_iload_n hC.1 hC.2.1 dX4_endpoint_75 rfl (lv_at hl 2 rfl) ?_
            refine mai_s hC hK hW 9 (by decide) rfl (i := T 0 2) (kinL40 hI2.1 hlt) (mw_ar_9 (tn (T 0 2)) p) dX4_endpoint_76 (fun H locs (hW : mWd D G M (mA M) zs.heap (kup (kup T 10 (tn (T 0 2)) 1) 11 (tn (T 0 2)) p) N r g H locs) => ?_)
            refine lv_aload_n hC.1 hC.2.1 dX4_endpoint_77 rfl (lv_at hl 1 rfl) ?_
            refine mg4 hC hK hW 14 (v := .ref (M 10)) rfl (by decide) rfl tf_X4_38 dX4_endpoint_78 ?_
            refine lv_iload hC.1 hC.2.1 dX4_endpoint_81 (lv_at hl 0 rfl) ?_
            refine lv_iload_n hC.1 hC.2.1 dX4_endpoint_83 rfl (lv_at hl 3 rfl) ?_
            refine mai_s hC hK hW 10 (by decide) rfl (i := T 0 2) (kinL40 hI2.1 hlt) (mw_ar_10 (tn (T 0 2)) s) dX4_endpoint_84 (fun H locs (hW : mWd D G M (mA M) zs.heap (kup (kup (kup T 10 (tn (T 0 2)) 1) 11 (tn (T 0 2)) p) 12 (tn (T 0 2)) s) N r g H locs) => ?_)
            refine lv_aload_n hC.1 hC.2.1 dX4_endpoint_85 rfl (lv_at hl 1 rfl) ?_
            refine mg4 hC hK hW 15 (v := .ref (M 11)) rfl (by decide) rfl tf_X4_41 dX4_endpoint_86 ?_
            refine lv_iload hC.1 hC.2.1 dX4_endpoint_89 (lv_at hl 0 rfl) ?_
            refine lv_iload_n hC.1 hC.2.1 dX4_endpoint_91 rfl (lv_at hl 4 rfl) ?_
            refine mai_s hC hK hW 11 (by decide) rfl (i := T 0 2) (kinL40 hI2.1 hlt) (mw_ar_11 (tn (T 0 2)) t) dX4_endpoint_92 (fun H locs (hW : mWd D G M (mA M) zs.heap (kup (kup (kup (kup T 10 (tn (T 0 2)) 1) 11 (tn (T 0 2)) p) 12 (tn (T 0 2)) s) 13 (tn (T 0 2)) t) N r g H locs) => ?_)
            refine lv_aload_n hC.1 hC.2.1 dX4_endpoint_93 rfl (lv_at hl 1 rfl) ?_
            refine mg4 hC hK hW 16 (v := .ref (M 12)) rfl (by decide) rfl tf_X4_44 dX4_endpoint_94 ?_
            refine lv_iload hC.1 hC.2.1 dX4_endpoint_97 (lv_at hl 0 rfl) ?_
            refine lv_iconst (v := 0) hC.1 hC.2.1 dX4_endpoint_99 (by decide) ?_
            refine mai_s hC hK hW 12 (by decide) rfl (i := T 0 2) (kinL40 hI2.1 hlt) (mw_ar_12 (tn (T 0 2)) 0) dX4_endpoint_100 (fun H locs (hW : mWd D G M (mA M) zs.heap (kup (kup (kup (kup (kup T 10 (tn (T 0 2)) 1) 11 (tn (T 0 2)) p) 12 (tn (T 0 2)) s) 13 (tn (T 0 2)) t) 14 (tn (T 0 2)) 0) N r g H locs) => ?_)
            refine lv_aload_n hC.1 hC.2.1 dX4_endpoint_101 rfl (lv_at hl 1 rfl) ?_
            refine lv_dup hC.1 hC.2.1 dX4_endpoint_102 rfl ?_
            refine mg4 hC hK hW 11 (v := .int ((kup (kup (kup (kup (kup T 10 (tn (T 0 2)) 1) 11 (tn (T 0 2)) p) 12 (tn (T 0 2)) s) 13 (tn (T 0 2)) t) 14 (tn (T 0 2)) 0) 0 2)) rfl (by decide) rfl tf_X4_100 dX4_endpoint_103 ?_
            refine lv_iconst (v := 1) hC.1 hC.2.1 dX4_endpoint_106 (by decide) ?_
            refine lv_iadd hC.1 hC.2.1 dX4_endpoint_107 ?_
            refine mp4 hC hK hW 11 (by decide) rfl rfl (by decide +kernel) (mw_put_11 (((kup (kup (kup (kup (kup T 10 (tn (T 0 2)) 1) 11 (tn (T 0 2)) p) 12 (tn (T 0 2)) s) 13 (tn (T 0 2)) t) 14 (tn (T 0 2)) 0) 0 2) + 1)) tf_X4_100 dX4_endpoint_108 (fun H locs (hW : mWd D G M (mA M) zs.heap (kup (kup (kup (kup (kup (kup T 10 (tn (T 0 2)) 1) 11 (tn (T 0 2)) p) 12 (tn (T 0 2)) s) 13 (tn (T 0 2)) t) 14 (tn (T 0 2)) 0) 0 2 (((kup (kup (kup (kup (kup T 10 (tn (T 0 2)) 1) 11 (tn (T 0 2)) p) 12 (tn (T 0 2)) s) 13 (tn (T 0 2)) t) 14 (tn (T 0 2)) 0) 0 2) + 1)) N r g H locs) => ?_)
            refine lv_iload hC.1 hC.2.1 dX4_endpoint_111 (lv_at hl 0 rfl) ?_
            exact mkrI hC hr hlk hW (by simp (config := {decide := true}) only [kif_true, kif_false, kb, kup_eq, kup_f, kup_i, not_true_eq_false, not_false_eq_true, and_true, true_and, and_false, false_and, and_self, or_true, true_or, or_false, false_or, a_endpoint, t_endpoint, c_5, c_16, c_24, c_37, hek, c_49, hlt]) (by rw [kup_id (T := kup (kup (kup (kup T 10 (tn (T 0 2)) 1) 11 (tn (T 0 2)) p) 12 (tn (T 0 2)) s) 13 (tn (T 0 2)) t) (f := 14) (hI6 _ (Nat.le_refl _))]; simp (config := {decide := true}) only [kif_true, kif_false, kb, kup_eq, kup_f, kup_i, not_true_eq_false, not_false_eq_true, and_true, true_and, and_false, false_and, and_self, or_true, true_or, or_false, false_or, t_endpoint, c_5, c_16, c_24, c_37, hek, c_49, hlt] <;> rfl) rfl rfl rfl dX4_endpoint_113
          · have hlt : ¬ T 0 2 < 40 := keq_nlt (n := 40) c_49
            refine lv_ldc hC.1 hC.2.1 hC.2.2.2.1 (hC.2.2.2.2 _ (kt_in tk_X4_111 rfl)) dX4_endpoint_52 ?_
            exact mkrI hC hr hlk hW (by simp (config := {decide := true}) only [kif_true, kif_false, kb, kup_eq, kup_f, kup_i, not_true_eq_false, not_false_eq_true, and_true, true_and, and_false, false_and, and_self, or_true, true_or, or_false, false_or, a_endpoint, t_endpoint, c_5, c_16, c_24, c_37, hek, c_49, hlt]) (by simp (config := {decide := true}) only [kif_true, kif_false, kb, kup_eq, kup_f, kup_i, not_true_eq_false, not_false_eq_true, and_true, true_and, and_false, false_and, and_self, or_true, true_or, or_false, false_or, a_endpoint, t_endpoint, c_5, c_16, c_24, c_37, hek, c_49, hlt]) rfl rfl rfl dX4_endpoint_54
        · have hek : ¬ kEok T (tn p) s t := fun z => c_37 (kEok_iff.mp z)
          refine lv_ldc hC.1 hC.2.1 hC.2.2.2.1 (hC.2.2.2.2 _ (kt_in tk_X4_135 rfl)) dX4_endpoint_40 ?_
          exact mkrI hC hr hlk hW (by simp (config := {decide := true}) only [kif_true, kif_false, kb, kup_eq, kup_f, kup_i, not_true_eq_false, not_false_eq_true, and_true, true_and, and_false, false_and, and_self, or_true, true_or, or_false, false_or, a_endpoint, t_endpoint, c_5, c_16, c_24, c_37, hek]) (by simp (config := {decide := true}) only [kif_true, kif_false, kb, kup_eq, kup_f, kup_i, not_true_eq_false, not_false_eq_true, and_true, true_and, and_false, false_and, and_self, or_true, true_or, or_false, false_or, a_endpoint, t_endpoint, c_5, c_16, c_24, c_37, hek]) rfl rfl rfl dX4_endpoint_42
      · refine lv_ldc hC.1 hC.2.1 hC.2.2.2.1 (hC.2.2.2.2 _ (kt_in tk_X4_110 rfl)) dX4_endpoint_27 ?_
        exact mkrI hC hr hlk hW (by simp (config := {decide := true}) only [kif_true, kif_false, kb, kup_eq, kup_f, kup_i, not_true_eq_false, not_false_eq_true, and_true, true_and, and_false, false_and, and_self, or_true, true_or, or_false, false_or, a_endpoint, t_endpoint, c_5, c_16, c_24]) (by simp (config := {decide := true}) only [kif_true, kif_false, kb, kup_eq, kup_f, kup_i, not_true_eq_false, not_false_eq_true, and_true, true_and, and_false, false_and, and_self, or_true, true_or, or_false, false_or, a_endpoint, t_endpoint, c_5, c_16, c_24]) rfl rfl rfl dX4_endpoint_29
  · refine lv_ldc hC.1 hC.2.1 hC.2.2.2.1 (hC.2.2.2.2 _ (kt_in tk_X4_107 rfl)) dX4_endpoint_8 ?_
    exact mkrI hC hr hlk hW (by simp (config := {decide := true}) only [kif_true, kif_false, kb, kup_eq, kup_f, kup_i, not_true_eq_false, not_false_eq_true, and_true, true_and, and_false, false_and, and_self, or_true, true_or, or_false, false_or, a_endpoint, t_endpoint, c_5]) (by simp (config := {decide := true}) only [kif_true, kif_false, kb, kup_eq, kup_f, kup_i, not_true_eq_false, not_false_eq_true, and_true, true_and, and_false, false_and, and_self, or_true, true_or, or_false, false_or, a_endpoint, t_endpoint, c_5]) rfl rfl rfl dX4_endpoint_10
set_option maxHeartbeats 4000000 in
set_option maxRecDepth 100000 in
theorem c_X4_close (l : Launch) (D : va_G) (G : Nat → ClassId) (M : Nat → Nat) (hL : mL M) (T N : kT) (r g : Nat → Int32) (p : Int32) (x : Int32) (hI0 : kI0 T) (hI1 : kI1 T) (hI2 : kI2 T) : kM l yX4_close cX4_close 3 (some .int) 2 46 (mPc D G M T N r g [.ref (M 0), .int p, .int x]) (mQi D G M (a_close T p x) (t_close T p x) N r g) (mA M) := by
  refine kBegin (by decide) (Nat.le_of_ble_eq_true rfl) ?_
  intro zp ze zs zm zargs zbelow zmeth zc hC hr hlk hB ls hl
  obtain ⟨hP, hK⟩ := hB
  have hW : mWd D G M (mA M) zs.heap T N r g zs.heap [] := mWd.start hL hP
  have hl : lv_has ls 3 [(0, .ref (M 0)), (1, .int p), (2, .int x)] := hl
  refine lv_aload_n hC.1 hC.2.1 dX4_close_0 rfl (lv_at hl 0 rfl) ?_
  refine lv_iload_n hC.1 hC.2.1 dX4_close_1 rfl (lv_at hl 1 rfl) ?_
  refine keSi (rest := []) (mcV 0 hC hK hW (c_X4_isProcess l D G M hL T N r g p hI1) (kgoodV tm_X4_103 ti_yX4_isProcess te_yX4_isProcess tz_X4 tc_yX4_isProcess) mw_m rfl ⟨rfl, by decide, by decide, (show Option.map _ (parseMethodDescriptor yX4_isProcess.desc) = some 1 from by decide +kernel)⟩ ⟨Nat.le_of_ble_eq_true rfl, Nat.le_of_ble_eq_true rfl⟩ hl.1 rfl (Nat.le_of_ble_eq_true rfl) ⟨Nat.le_refl _, Nat.le_refl _⟩ dX4_close_2) ?_
  refine kif_eq (tgt := 16) hC.1 hC.2.1 dX4_close_5 (by decide) (fun c_5 => ?_) (fun c_5 => ?_)
  · refine lv_ldc hC.1 hC.2.1 hC.2.2.2.1 (hC.2.2.2.2 _ (kt_in tk_X4_107 rfl)) dX4_close_16 ?_
    exact mkrI hC hr hlk hW (by simp (config := {decide := true}) only [kif_true, kif_false, kb, kup_eq, kup_f, kup_i, not_true_eq_false, not_false_eq_true, and_true, true_and, and_false, false_and, and_self, or_true, true_or, or_false, false_or, a_close, t_close, c_5]) (by simp (config := {decide := true}) only [kif_true, kif_false, kb, kup_eq, kup_f, kup_i, not_true_eq_false, not_false_eq_true, and_true, true_and, and_false, false_and, and_self, or_true, true_or, or_false, false_or, a_close, t_close, c_5]) rfl rfl rfl dX4_close_18
  · refine lv_aload_n hC.1 hC.2.1 dX4_close_8 rfl (lv_at hl 0 rfl) ?_
    refine lv_iload_n hC.1 hC.2.1 dX4_close_9 rfl (lv_at hl 2 rfl) ?_
    refine keSi (rest := []) (mcV 0 hC hK hW (c_X4_isPort l D G M hL T N r g x hI2) (kgoodV tm_X4_143 ti_yX4_isPort te_yX4_isPort tz_X4 tc_yX4_isPort) mw_m rfl ⟨rfl, by decide, by decide, (show Option.map _ (parseMethodDescriptor yX4_isPort.desc) = some 1 from by decide +kernel)⟩ ⟨Nat.le_of_ble_eq_true rfl, Nat.le_of_ble_eq_true rfl⟩ hl.1 rfl (Nat.le_of_ble_eq_true rfl) ⟨Nat.le_refl _, Nat.le_refl _⟩ dX4_close_10) ?_
    refine kif_ne (tgt := 19) hC.1 hC.2.1 dX4_close_13 (by decide) (fun c_13 => ?_) (fun c_13 => ?_)
    · refine lv_aload_n hC.1 hC.2.1 dX4_close_19 rfl (lv_at hl 0 rfl) ?_
      refine mg4 hC hK hW 13 (v := .ref (M 9)) rfl (by decide) rfl tf_X4_35 dX4_close_20 ?_
      refine lv_iload_n hC.1 hC.2.1 dX4_close_23 rfl (lv_at hl 2 rfl) ?_
      refine mai hC hK hW 9 (by decide) rfl (i := x) c_13.in dX4_close_24 ?_
      refine lv_iload_n hC.1 hC.2.1 dX4_close_25 rfl (lv_at hl 1 rfl) ?_
      refine lv_icmp_eq (tgt := 32) hC.1 hC.2.1 dX4_close_26 (by decide) (fun c_26 => ?_) (fun c_26 => ?_)
      · refine lv_aload_n hC.1 hC.2.1 dX4_close_32 rfl (lv_at hl 0 rfl) ?_
        refine mg4 hC hK hW 12 (v := .ref (M 8)) rfl (by decide) rfl tf_X4_32 dX4_close_33 ?_
        refine lv_iload_n hC.1 hC.2.1 dX4_close_36 rfl (lv_at hl 2 rfl) ?_
        refine lv_iconst (v := 0) hC.1 hC.2.1 dX4_close_37 (by decide) ?_
        refine mab_s hC hK hW 8 (by decide) rfl (i := x) c_13.in (Or.inl rfl) (mw_ar_8 (tn x) 0) dX4_close_38 (fun H locs (hW : mWd D G M (mA M) zs.heap (kup T 10 (tn x) 0) N r g H locs) => ?_)
        refine lv_aload_n hC.1 hC.2.1 dX4_close_39 rfl (lv_at hl 0 rfl) ?_
        refine mg4 hC hK hW 16 (v := .ref (M 12)) rfl (by decide) rfl tf_X4_44 dX4_close_40 ?_
        refine lv_iload_n hC.1 hC.2.1 dX4_close_43 rfl (lv_at hl 2 rfl) ?_
        refine mai hC hK hW 12 (by decide) rfl (i := x) c_13.in dX4_close_44 ?_
        exact mkrI hC hr hlk hW (by simp (config := {decide := true}) only [kif_true, kif_false, kb, kup_eq, kup_f, kup_i, not_true_eq_false, not_false_eq_true, and_true, true_and, and_false, false_and, and_self, or_true, true_or, or_false, false_or, a_close, t_close, c_5, c_13, c_26]) (by simp (config := {decide := true}) only [kif_true, kif_false, kb, kup_eq, kup_f, kup_i, not_true_eq_false, not_false_eq_true, and_true, true_and, and_false, false_and, and_self, or_true, true_or, or_false, false_or, a_close, t_close, c_5, c_13, c_26]) rfl rfl rfl dX4_close_45
      · refine lv_ldc hC.1 hC.2.1 hC.2.2.2.1 (hC.2.2.2.2 _ (kt_in tk_X4_135 rfl)) dX4_close_29 ?_
        exact mkrI hC hr hlk hW (by simp (config := {decide := true}) only [kif_true, kif_false, kb, kup_eq, kup_f, kup_i, not_true_eq_false, not_false_eq_true, and_true, true_and, and_false, false_and, and_self, or_true, true_or, or_false, false_or, a_close, t_close, c_5, c_13, c_26]) (by simp (config := {decide := true}) only [kif_true, kif_false, kb, kup_eq, kup_f, kup_i, not_true_eq_false, not_false_eq_true, and_true, true_and, and_false, false_and, and_self, or_true, true_or, or_false, false_or, a_close, t_close, c_5, c_13, c_26]) rfl rfl rfl dX4_close_31
    · refine lv_ldc hC.1 hC.2.1 hC.2.2.2.1 (hC.2.2.2.2 _ (kt_in tk_X4_107 rfl)) dX4_close_16 ?_
      exact mkrI hC hr hlk hW (by simp (config := {decide := true}) only [kif_true, kif_false, kb, kup_eq, kup_f, kup_i, not_true_eq_false, not_false_eq_true, and_true, true_and, and_false, false_and, and_self, or_true, true_or, or_false, false_or, a_close, t_close, c_5, c_13]) (by simp (config := {decide := true}) only [kif_true, kif_false, kb, kup_eq, kup_f, kup_i, not_true_eq_false, not_false_eq_true, and_true, true_and, and_false, false_and, and_self, or_true, true_or, or_false, false_or, a_close, t_close, c_5, c_13]) rfl rfl rfl dX4_close_18
set_option maxHeartbeats 4000000 in
set_option maxRecDepth 100000 in
theorem c_X4_port (l : Launch) (D : va_G) (G : Nat → ClassId) (M : Nat → Nat) (hL : mL M) (T N : kT) (r g : Nat → Int32) (x : Int32) (w : Int32) (hI2 : kI2 T) : kM l yX4_port cX4_port 3 (some .int) 2 46 (mPc D G M T N r g [.ref (M 0), .int x, .int w]) (kSi (a_port T x w)) (fun _ => False) := by
  refine kBegin (by decide) (Nat.le_of_ble_eq_true rfl) ?_
  intro zp ze zs zm zargs zbelow zmeth zc hC hr hlk hB ls hl
  obtain ⟨hP, hK⟩ := hB
  have hW : mWd D G M (mA M) zs.heap T N r g zs.heap [] := mWd.start hL hP
  have hl : lv_has ls 3 [(0, .ref (M 0)), (1, .int x), (2, .int w)] := hl
  refine lv_aload_n hC.1 hC.2.1 dX4_port_0 rfl (lv_at hl 0 rfl) ?_
  refine lv_iload_n hC.1 hC.2.1 dX4_port_1 rfl (lv_at hl 1 rfl) ?_
  refine keSi (rest := []) (mcV 0 hC hK hW (c_X4_isPort l D G M hL T N r g x hI2) (kgoodV tm_X4_143 ti_yX4_isPort te_yX4_isPort tz_X4 tc_yX4_isPort) mw_m rfl ⟨rfl, by decide, by decide, (show Option.map _ (parseMethodDescriptor yX4_isPort.desc) = some 1 from by decide +kernel)⟩ ⟨Nat.le_of_ble_eq_true rfl, Nat.le_of_ble_eq_true rfl⟩ hl.1 rfl (Nat.le_of_ble_eq_true rfl) ⟨Nat.le_refl _, Nat.le_refl _⟩ dX4_port_2) ?_
  refine kif_ne (tgt := 11) hC.1 hC.2.1 dX4_port_5 (by decide) (fun c_5 => ?_) (fun c_5 => ?_)
  · refine lv_iload_n hC.1 hC.2.1 dX4_port_11 rfl (lv_at hl 2 rfl) ?_
    refine lv_if_ne (tgt := 24) hC.1 hC.2.1 dX4_port_12 (by decide) (fun c_12 => ?_) (fun c_12 => ?_)
    · refine lv_iload_n hC.1 hC.2.1 dX4_port_24 rfl (lv_at hl 2 rfl) ?_
      refine lv_iconst (v := 1) hC.1 hC.2.1 dX4_port_25 (by decide) ?_
      refine lv_icmp_ne (tgt := 38) hC.1 hC.2.1 dX4_port_26 (by decide) (fun c_26 => ?_) (fun c_26 => ?_)
      · refine lv_iload_n hC.1 hC.2.1 dX4_port_38 rfl (lv_at hl 2 rfl) ?_
        refine lv_iconst (v := 2) hC.1 hC.2.1 dX4_port_39 (by decide) ?_
        refine lv_icmp_ne (tgt := 52) hC.1 hC.2.1 dX4_port_40 (by decide) (fun c_40 => ?_) (fun c_40 => ?_)
        · refine lv_iload_n hC.1 hC.2.1 dX4_port_52 rfl (lv_at hl 2 rfl) ?_
          refine lv_iconst (v := 3) hC.1 hC.2.1 dX4_port_53 (by decide) ?_
          refine lv_icmp_ne (tgt := 66) hC.1 hC.2.1 dX4_port_54 (by decide) (fun c_54 => ?_) (fun c_54 => ?_)
          · refine lv_ldc hC.1 hC.2.1 hC.2.2.2.1 (hC.2.2.2.2 _ (kt_in tk_X4_110 rfl)) dX4_port_66 ?_
            exact krS hC hr hlk (by simp (config := {decide := true}) only [kif_true, kif_false, kb, kup_eq, kup_f, kup_i, not_true_eq_false, not_false_eq_true, and_true, true_and, and_false, false_and, and_self, or_true, true_or, or_false, false_or, a_port, c_5, c_12, c_26, c_40, c_54]) dX4_port_68
          · refine lv_aload_n hC.1 hC.2.1 dX4_port_57 rfl (lv_at hl 0 rfl) ?_
            refine mg4 hC hK hW 16 (v := .ref (M 12)) rfl (by decide) rfl tf_X4_44 dX4_port_58 ?_
            refine lv_iload_n hC.1 hC.2.1 dX4_port_61 rfl (lv_at hl 1 rfl) ?_
            refine mai hC hK hW 12 (by decide) rfl (i := x) c_5.in dX4_port_62 ?_
            refine lv_goto (tgt := 68) hC.1 hC.2.1 dX4_port_63 (by decide) ?_
            exact krS hC hr hlk (by simp (config := {decide := true}) only [kif_true, kif_false, kb, kup_eq, kup_f, kup_i, not_true_eq_false, not_false_eq_true, and_true, true_and, and_false, false_and, and_self, or_true, true_or, or_false, false_or, a_port, c_5, c_12, c_26, c_40, c_54]) dX4_port_68
        · refine lv_aload_n hC.1 hC.2.1 dX4_port_43 rfl (lv_at hl 0 rfl) ?_
          refine mg4 hC hK hW 15 (v := .ref (M 11)) rfl (by decide) rfl tf_X4_41 dX4_port_44 ?_
          refine lv_iload_n hC.1 hC.2.1 dX4_port_47 rfl (lv_at hl 1 rfl) ?_
          refine mai hC hK hW 11 (by decide) rfl (i := x) c_5.in dX4_port_48 ?_
          refine lv_goto (tgt := 68) hC.1 hC.2.1 dX4_port_49 (by decide) ?_
          exact krS hC hr hlk (by simp (config := {decide := true}) only [kif_true, kif_false, kb, kup_eq, kup_f, kup_i, not_true_eq_false, not_false_eq_true, and_true, true_and, and_false, false_and, and_self, or_true, true_or, or_false, false_or, a_port, c_5, c_12, c_26, c_40]) dX4_port_68
      · refine lv_aload_n hC.1 hC.2.1 dX4_port_29 rfl (lv_at hl 0 rfl) ?_
        refine mg4 hC hK hW 14 (v := .ref (M 10)) rfl (by decide) rfl tf_X4_38 dX4_port_30 ?_
        refine lv_iload_n hC.1 hC.2.1 dX4_port_33 rfl (lv_at hl 1 rfl) ?_
        refine mai hC hK hW 10 (by decide) rfl (i := x) c_5.in dX4_port_34 ?_
        refine lv_goto (tgt := 68) hC.1 hC.2.1 dX4_port_35 (by decide) ?_
        exact krS hC hr hlk (by simp (config := {decide := true}) only [kif_true, kif_false, kb, kup_eq, kup_f, kup_i, not_true_eq_false, not_false_eq_true, and_true, true_and, and_false, false_and, and_self, or_true, true_or, or_false, false_or, a_port, c_5, c_12, c_26]) dX4_port_68
    · refine lv_aload_n hC.1 hC.2.1 dX4_port_15 rfl (lv_at hl 0 rfl) ?_
      refine mg4 hC hK hW 13 (v := .ref (M 9)) rfl (by decide) rfl tf_X4_35 dX4_port_16 ?_
      refine lv_iload_n hC.1 hC.2.1 dX4_port_19 rfl (lv_at hl 1 rfl) ?_
      refine mai hC hK hW 9 (by decide) rfl (i := x) c_5.in dX4_port_20 ?_
      refine lv_goto (tgt := 68) hC.1 hC.2.1 dX4_port_21 (by decide) ?_
      exact krS hC hr hlk (by simp (config := {decide := true}) only [kif_true, kif_false, kb, kup_eq, kup_f, kup_i, not_true_eq_false, not_false_eq_true, and_true, true_and, and_false, false_and, and_self, or_true, true_or, or_false, false_or, a_port, c_5, c_12]) dX4_port_68
  · refine lv_ldc hC.1 hC.2.1 hC.2.2.2.1 (hC.2.2.2.2 _ (kt_in tk_X4_107 rfl)) dX4_port_8 ?_
    exact krS hC hr hlk (by simp (config := {decide := true}) only [kif_true, kif_false, kb, kup_eq, kup_f, kup_i, not_true_eq_false, not_false_eq_true, and_true, true_and, and_false, false_and, and_self, or_true, true_or, or_false, false_or, a_port, c_5]) dX4_port_10
