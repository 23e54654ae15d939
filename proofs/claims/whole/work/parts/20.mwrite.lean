def kIz (T : kT) : Prop := ¬ T 19 0 = 0
theorem kFl.n0 {T : kT} {f : Int32} (hz : kIz T) (h : kFl T f) : 1 ≤ tn f := by
  rcases Nat.eq_zero_or_pos (tn f) with z | z
  · exact absurd (by rw [← z]; exact h.2) hz
  · exact z
theorem kFl.home {T : kT} {f : Int32} (hh : kIh T) (hz : kIz T) (h : kFl T f) : kCn T (T 20 (tn f)) := (hh.2 (tn f) (h.n0 hz) h.1.2.2).1
theorem le_nI {x : Int32} {n : Nat} (h0 : ¬ x < 0) (h : x ≤ nI n) (hn : n < 2 ^ 31) : tn x ≤ n := by
  obtain ⟨j, hj, rfl⟩ := nI_of h0
  rw [tn_nI hj]
  exact (nI_leI hj hn).mp h
theorem kap {n : Int32} : kWt n.toInt64 1 8 ↔ (¬ n < 1 ∧ n ≤ 8) := by
  refine Iff.trans (kwt_c (lo := 1) (hi := 8) rfl rfl) ?_
  exact ⟨fun z => ⟨z.1, hle z.2⟩, fun z => ⟨z.1, fun q => hnle q z.2⟩⟩
theorem k031 {i : Int32} : kWt i.toInt64 0 31 ↔ (¬ i < 0 ∧ i < 32) := by
  refine Iff.trans (kwt_c (lo := 0) (hi := 31) rfl rfl) ?_
  rw [Int32.lt_iff_toInt_lt, Int32.lt_iff_toInt_lt, Int32.lt_iff_toInt_lt]
  have z1 : (31 : Int32).toInt = 31 := rfl
  have z2 : (32 : Int32).toInt = 32 := rfl
  omega
theorem kn18 {n : Int32} (h : ¬ n < 1 ∧ n ≤ 8) : 1 ≤ tn n ∧ tn n ≤ 8 := by
  refine ⟨?_, le_nI (n := 8) (kn1 h.1) h.2 (by decide)⟩
  have h1 := h.1
  rw [Int32.lt_iff_toInt_lt] at h1
  rw [tn_def]
  have z1 : (1 : Int32).toInt = 1 := rfl
  omega
theorem nI_sum {a : Int32} (h : ¬ a < 0) (k : Nat) : a + nI k = nI (tn a + k) := by
  conv => lhs; rw [nI_tn h]
  exact nI_add _ k
theorem nI_sum2 {a n : Int32} (h : ¬ a < 0) (h2 : ¬ n < 0) : a + n = nI (tn a + tn n) := by
  conv => lhs; rw [nI_tn h2]
  exact nI_sum h _
theorem nu_ix3 {f a : Int32} (hf : ¬ f < 0) (ha : ¬ a < 0) (k : Nat) : 32 * f + a + nI k = nI (32 * tn f + (tn a + k)) := by
  rw [nu_ix hf ha, nI_add, Nat.add_assoc]
theorem kap_le {a n : Int32} (ha : ¬ a < 0) (ha2 : a ≤ 32) (hn : ¬ n < 1 ∧ n ≤ 8) (h : a + n ≤ 32) : tn a + tn n ≤ 32 := by
  have b1 := le_nI (n := 32) ha ha2 (by decide)
  have b2 := kn18 hn
  rw [nI_sum2 ha (kn1 hn.1)] at h
  exact (nI_leI (b := 32) (by omega) (by decide)).mp h
theorem k32_n {j : Nat} (h : j < 32) : k32 (nI j) := ⟨nI_pos (by omega), nI_ge (a := j) (b := 32) h (by decide)⟩
theorem kwn_s {o : Nat} {a v : Int32} {N : kT} {k : Nat} (ha : ¬ a < 0) (h : tn a + k < 32) : kuN (kfT (kWn o a v) N k) o (tn a + k) (v + nI k) = kfT (kWn o a v) N (k + 1) := by
  show _ = kWn o a v (kfT (kWn o a v) N k) k
  unfold kWn
  rw [nI_sum ha, kif_t (k32_n h), tn_nI (by omega)]
theorem kmx_n {x y : Nat} (h : x < y) (hy : y < 2 ^ 31) : kmx (nI x) (nI y) = nI y := by
  unfold kmx
  rw [if_pos (nI_lt h hy)]
theorem kwg_n {o j : Nat} : ∀ (m : Nat) (S : kT), S 25 o = nI j → 1 ≤ m → j + m ≤ 32 → kfT (kWg o (nI j)) S m = kup S 25 o (nI (j + m))
  | 0, _, _, h, _ => absurd h (by omega)
  | m + 1, S, hS, _, hm => by
    show kWg o (nI j) (kfT (kWg o (nI j)) S m) m = _
    rcases Nat.eq_zero_or_pos m with z | z
    · subst z
      show kWg o (nI j) S 0 = _
      unfold kWg
      rw [nI_add, kif_t (k32_n (by omega)), hS, nI_1, Nat.add_zero, kmx_n (by omega) (by omega)]
    · rw [kwg_n m S hS z (by omega)]
      unfold kWg
      rw [nI_add, kif_t (k32_n (by omega)), kup_eq, nI_1, kmx_n (by omega) (by omega), kup_up, Nat.add_assoc]
theorem kgoT_25 {T : kT} {x : Int32} {o : Nat} : kGoT T x 25 o = T 25 o := by
  unfold kGoT
  by_cases h : kGo T x
  · rw [kif_t h]; rfl
  · rw [kif_f h]
theorem kap_T {T : kT} {o : Nat} {n : Int32} (h9 : kI9 T) (hn : ¬ n < 1 ∧ n ≤ 8) (h : T 25 o + n ≤ 32) (hgo : kGo T (n + 1)) : kup (kup T 0 7 (T 0 7 + (n + 1))) 25 o (T 25 o + n) = kWT T o (T 25 o) n := by
  unfold kWT
  have e := nI_tn (h9 o).1
  have k := kwg_n (o := o) (j := tn (T 25 o)) (tn n) (kGoT T (n + 1)) (kgoT_25.trans e) (kn18 hn).1 (kap_le (h9 o).1 (h9 o).2 hn h)
  rw [← e] at k
  rw [kif_t hgo, k, nI_sum2 (h9 o).1 (kn1 hn.1)]
  unfold kGoT
  rw [kif_t hgo]
theorem kap_N {T N : kT} {o : Nat} {a n v : Int32} (hgo : kGo T (n + 1)) : kfT (kWn o a v) N (tn n) = kWN T N o a n v := (kif_t hgo).symm
theorem kbf_n : ∀ j : Nat, j < 34 → kBf (nI j) = nI ((j + 3) / 4) := by decide
theorem krem_n : ∀ j : Nat, j < 33 → (nI j - nI j / 4 * 4 = 0 ↔ j % 4 = 0) := by decide
theorem nI_sub {a b : Nat} (h : b ≤ a) : nI a - nI b = nI (a - b) := by
  obtain ⟨k, rfl⟩ := Nat.exists_eq_add_of_le h
  have e : nI (b + k) = nI b + nI k := (nI_add b k).symm
  rw [e, Nat.add_sub_cancel_left, Int32.add_comm, Int32.add_sub_cancel]
theorem kwr_hr {T : kT} {f i : Int32} (h9 : kI9 T) (hi : ¬ i < 0 ∧ i < 32) (hl : i ≤ T 25 (tn f)) (hb : ¬ kBl T (T 20 (tn f)) < 0) (hc : ¬ i = T 25 (tn f) ∨ ¬ i - i / 4 * 4 = 0 ∨ 1 ≤ kBl T (T 20 (tn f))) : kHr T (tn f) (i + 1) := by
  have a1 := (h9 (tn f)).1
  have a2 := le_nI (n := 32) a1 (h9 (tn f)).2 (by decide)
  have e := nI_tn a1
  generalize hm : tn (T 25 (tn f)) = m at a2 e
  have e2 := nI_tn hi.1
  have i1 := keq_tn (n := 32) hi.2 hi.1 (by decide)
  generalize hj : tn i = j at e2 i1
  have hjm : j ≤ m := by
    rw [e, e2] at hl
    exact (nI_leI (by omega) (by omega)).mp hl
  unfold kHr
  rw [e, e2, nI_1, kbf_n (j + 1) (by omega), kbf_n m (by omega)]
  refine ⟨nI_le (b := 32) (by omega) (by decide), fun z => ?_⟩
  generalize kBl T (T 20 (tn f)) = B at hb hc z
  by_cases hle2 : (j + 1 + 3) / 4 ≤ (m + 3) / 4
  · -- not more blocks
    have z2 : nI ((j + 1 + 3) / 4) - nI ((m + 3) / 4) ≤ 0 := by
      have h : ∀ x, x < 10 → ∀ y, y < 10 → x ≤ y → nI x - nI y ≤ 0 := by decide
      exact h _ (by omega) _ (by omega) hle2
    rw [Int32.lt_iff_toInt_lt] at z hb
    rw [Int32.le_iff_toInt_le] at z2
    omega
  · have hjeq : j = m := by omega
    have hm4 : m % 4 = 0 := by omega
    rcases hc with hc | hc | hc
    · exact hc (by rw [e, e2, hjeq])
    · rw [e2] at hc
      exact hc ((krem_n j (by omega)).mpr (by omega))
    · rw [show (j + 1 + 3) / 4 = (m + 3) / 4 + 1 by omega, nI_sub (by omega), Nat.add_sub_cancel_left] at z
      exact hnle z hc
theorem kwr_nhr {T : kT} {f i : Int32} (h9 : kI9 T) (hi : ¬ i < 0 ∧ i < 32) (hc : i = T 25 (tn f)) (hr : i - i / 4 * 4 = 0) (h1 : ¬ 1 ≤ kBl T (T 20 (tn f))) : ¬ kHr T (tn f) (i + 1) := by
  intro z
  have z2 := z.2
  rw [← hc] at z2
  have e2 := nI_tn hi.1
  have i1 := keq_tn (n := 32) hi.2 hi.1 (by decide)
  generalize hj : tn i = j at e2 i1
  rw [e2] at hr
  have hm4 := (krem_n j (by omega)).mp hr
  rw [e2, nI_1, kbf_n (j + 1) (by omega), kbf_n j (by omega), show (j + 1 + 3) / 4 = (j + 3) / 4 + 1 by omega, nI_sub (by omega), Nat.add_sub_cancel_left] at z2
  exact z2 (by
    rw [Int32.le_iff_toInt_le] at h1
    rw [Int32.lt_iff_toInt_lt]
    have q : (nI 1).toInt = 1 := rfl
    have q2 : (1 : Int32).toInt = 1 := rfl
    omega)
theorem i32_one : (1 : Int32) + 1 = 2 := by decide
theorem kwr_T {T : kT} {o : Nat} {i x : Int32} (h9 : kI9 T) (hi : ¬ i < 0 ∧ i < 32) (hl : i ≤ T 25 o) (hx : (i = T 25 o ∧ x = i + 1) ∨ (¬ i = T 25 o ∧ x = T 25 o)) (hgo : kGo T 2) : kup (kup T 0 7 (T 0 7 + 2)) 25 o x = kWT T o i 1 := by
  have a1 := (h9 o).1
  have a2 := le_nI (n := 32) a1 (h9 o).2 (by decide)
  have i1 := keq_tn (n := 32) hi.2 hi.1 (by decide)
  have e := nI_tn a1
  have e2 := nI_tn hi.1
  unfold kWT
  rw [i32_one, kif_t hgo]
  show _ = kWg o i (kGoT T 2) 0
  unfold kWg
  rw [show i + nI 0 = i from by rw [nI_0, Int32.add_zero], kif_t ⟨hi.1, fun z => hnle hi.2 z⟩, kgoT_25]
  unfold kGoT
  rw [kif_t hgo]
  congr 1
  unfold kmx
  have hjm : tn i ≤ tn (T 25 o) := by
    have hl2 := hl
    rw [e, e2] at hl2
    exact (nI_leI (by omega) (by omega)).mp hl2
  rcases hx with ⟨h1, h2⟩ | ⟨h1, h2⟩
  · rw [h2, ← h1, e2, nI_1, if_pos (nI_lt (by omega) (by omega))]
  · have hne : tn i ≠ tn (T 25 o) := fun q => h1 (by rw [e, e2, q])
    rw [h2, if_neg]
    rw [e, e2, nI_1]
    exact nI_nlt (by omega) (by omega)
theorem kwr_N {T N : kT} {o : Nat} {i v : Int32} (hi : ¬ i < 0 ∧ i < 32) (hgo : kGo T 2) : kuN N o (tn i) v = kWN T N o i 1 v := by
  unfold kWN
  rw [i32_one, kif_t hgo]
  show _ = kWn o i v N 0
  unfold kWn
  rw [show i + nI 0 = i from by rw [nI_0, Int32.add_zero], kif_t ⟨hi.1, fun z => hnle hi.2 z⟩, nI_0, Int32.add_zero]
set_option maxHeartbeats 4000000 in
set_option maxRecDepth 100000 in
theorem c_X4_append (l : Launch) (D : va_G) (G : Nat → ClassId) (M : Nat → Nat) (hL : mL M) (T N : kT) (r g : Nat → Int32) (p : Int32) (f : Int32) (n : Int32) (v : Int32) (hI1 : kI1 T) (hI2 : kI2 T) (hI3 : kI3 T) (hIc : kIc T) (hIh : kIh T) (hIz : kIz T) (hI9 : kI9 T) : kM l yX4_append cX4_append 8 (some .int) 3 67 (mPc D G M T N r g [.ref (M 0), .int p, .int f, .int n, .int v]) (mQi D G M (a_append T p f n) (t_append T p f n) (n_append T N p f n v) r g) (mA M) := by
  refine kBegin (by decide) (Nat.le_of_ble_eq_true rfl) ?_
  intro zp ze zs zm zargs zbelow zmeth zc hC hr hlk hB ls hl
  obtain ⟨hP, hK⟩ := hB
  have hW : mWd D G M (mA M) zs.heap T N r g zs.heap [] := mWd.start hL hP
  have hl : lv_has ls 8 [(0, .ref (M 0)), (1, .int p), (2, .int f), (3, .int n), (4, .int v)] := hl
  refine lv_aload_n hC.1 hC.2.1 dX4_append_0 rfl (lv_at hl 0 rfl) ?_
  refine lv_iload_n hC.1 hC.2.1 dX4_append_1 rfl (lv_at hl 1 rfl) ?_
  refine keSi (rest := []) (mcV 0 hC hK hW (c_X4_isProcess l D G M hL T N r g p hI1) (kgoodV tm_X4_103 ti_yX4_isProcess te_yX4_isProcess tz_X4 tc_yX4_isProcess) mw_m rfl ⟨rfl, by decide, by decide, (show Option.map _ (parseMethodDescriptor yX4_isProcess.desc) = some 1 from by decide +kernel)⟩ ⟨Nat.le_of_ble_eq_true rfl, Nat.le_of_ble_eq_true rfl⟩ hl.1 rfl (Nat.le_of_ble_eq_true rfl) ⟨Nat.le_refl _, Nat.le_refl _⟩ dX4_append_2) ?_
  refine kif_eq (tgt := 16) hC.1 hC.2.1 dX4_append_5 (by decide) (fun c_5 => ?_) (fun c_5 => ?_)
  · refine lv_ldc hC.1 hC.2.1 hC.2.2.2.1 (hC.2.2.2.2 _ (kt_in tk_X4_107 rfl)) dX4_append_16 ?_
    exact mkrI hC hr hlk hW (by simp (config := {decide := true}) only [kif_true, kif_false, kb, kup_eq, kup_f, kup_i, not_true_eq_false, not_false_eq_true, and_true, true_and, and_false, false_and, and_self, or_true, true_or, or_false, false_or, a_append, t_append, n_append, kApg, kWra, kWrt, kWrn, c_5]) (by simp (config := {decide := true}) only [kif_true, kif_false, kb, kup_eq, kup_f, kup_i, not_true_eq_false, not_false_eq_true, and_true, true_and, and_false, false_and, and_self, or_true, true_or, or_false, false_or, a_append, t_append, n_append, kApg, kWra, kWrt, kWrn, c_5]) (by simp (config := {decide := true}) only [kif_true, kif_false, kb, kup_eq, kup_f, kup_i, not_true_eq_false, not_false_eq_true, and_true, true_and, and_false, false_and, and_self, or_true, true_or, or_false, false_or, a_append, t_append, n_append, kApg, kWra, kWrt, kWrn, c_5]) rfl rfl dX4_append_18
  · refine lv_aload_n hC.1 hC.2.1 dX4_append_8 rfl (lv_at hl 0 rfl) ?_
    refine lv_iload_n hC.1 hC.2.1 dX4_append_9 rfl (lv_at hl 2 rfl) ?_
    refine keSi (rest := []) (mcV 0 hC hK hW (c_X4_isFile l D G M hL T N r g f hI3) (kgoodV tm_X4_201 ti_yX4_isFile te_yX4_isFile tz_X4 tc_yX4_isFile) mw_m rfl ⟨rfl, by decide, by decide, (show Option.map _ (parseMethodDescriptor yX4_isFile.desc) = some 1 from by decide +kernel)⟩ ⟨Nat.le_of_ble_eq_true rfl, Nat.le_of_ble_eq_true rfl⟩ hl.1 rfl (Nat.le_of_ble_eq_true rfl) ⟨Nat.le_refl _, Nat.le_refl _⟩ dX4_append_10) ?_
    refine kif_ne (tgt := 19) hC.1 hC.2.1 dX4_append_13 (by decide) (fun c_13 => ?_) (fun c_13 => ?_)
    · refine lv_iload_n hC.1 hC.2.1 dX4_append_19 rfl (lv_at hl 3 rfl) ?_
      refine lv_i2l hC.1 hC.2.1 dX4_append_20 rfl ?_
      refine lv_lconst (v := 1) hC.1 hC.2.1 dX4_append_21 (by decide) ?_
      refine lv_ldc2 hC.1 hC.2.1 hC.2.2.2.1 (hC.2.2.2.2 _ (kt_in tk_X4_206 rfl)) dX4_append_22 ?_
      refine keSi (rest := []) (kcS0 hC (c_X4_within l n.toInt64 1 (8)) (kgoodS tm_X4_93 ts_yX4_within tz_X4 tc_yX4_within) ⟨rfl, by decide, by decide, (show Option.map _ (parseMethodDescriptor yX4_within.desc) = some 3 from by decide +kernel)⟩ ⟨Nat.le_of_ble_eq_true rfl, Nat.le_of_ble_eq_true rfl⟩ hl.1 rfl (Nat.le_of_ble_eq_true rfl) ⟨Nat.le_refl _, Nat.le_refl _⟩ dX4_append_25) ?_
      refine kif_ne (tgt := 34) hC.1 hC.2.1 dX4_append_28 (by decide) (fun c_28 => ?_) (fun c_28 => ?_)
      · have hn8 := kap.mp c_28
        refine lv_aload_n hC.1 hC.2.1 dX4_append_34 rfl (lv_at hl 0 rfl) ?_
        refine lv_iload_n hC.1 hC.2.1 dX4_append_35 rfl (lv_at hl 1 rfl) ?_
        refine lv_iload_n hC.1 hC.2.1 dX4_append_36 rfl (lv_at hl 2 rfl) ?_
        refine keSi (rest := []) (mcV 0 hC hK hW (c_X4_canWrite l D G M hL T N r g p f c_5.in c_13.1.in) (kgoodV tm_X4_169 ti_yX4_canWrite te_yX4_canWrite tz_X4 tc_yX4_canWrite) mw_m rfl ⟨rfl, by decide, by decide, (show Option.map _ (parseMethodDescriptor yX4_canWrite.desc) = some 2 from by decide +kernel)⟩ ⟨Nat.le_of_ble_eq_true rfl, Nat.le_of_ble_eq_true rfl⟩ hl.1 rfl (Nat.le_of_ble_eq_true rfl) ⟨Nat.le_refl _, Nat.le_refl _⟩ dX4_append_37) ?_
        refine kif_ne (tgt := 46) hC.1 hC.2.1 dX4_append_40 (by decide) (fun c_40 => ?_) (fun c_40 => ?_)
        · refine lv_aload_n hC.1 hC.2.1 dX4_append_46 rfl (lv_at hl 0 rfl) ?_
          refine lv_iload_n hC.1 hC.2.1 dX4_append_47 rfl (lv_at hl 1 rfl) ?_
          refine lv_iload_n hC.1 hC.2.1 dX4_append_48 rfl (lv_at hl 2 rfl) ?_
          refine keSi (rest := []) (mcV 0 hC hK hW (c_X4_canRead l D G M hL T N r g p f c_5.in c_13.1.in) (kgoodV tm_X4_165 ti_yX4_canRead te_yX4_canRead tz_X4 tc_yX4_canRead) mw_m rfl ⟨rfl, by decide, by decide, (show Option.map _ (parseMethodDescriptor yX4_canRead.desc) = some 2 from by decide +kernel)⟩ ⟨Nat.le_of_ble_eq_true rfl, Nat.le_of_ble_eq_true rfl⟩ hl.1 rfl (Nat.le_of_ble_eq_true rfl) ⟨Nat.le_refl _, Nat.le_refl _⟩ dX4_append_49) ?_
          refine kif_ne (tgt := 59) hC.1 hC.2.1 dX4_append_52 (by decide) (fun c_52 => ?_) (fun c_52 => ?_)
          · refine lv_iconst (v := 0) hC.1 hC.2.1 dX4_append_59 (by decide) ?_
            refine lv_istore (lv' := [(5, .int 0), (0, .ref (M 0)), (1, .int p), (2, .int f), (3, .int n), (4, .int v)]) hC.1 hC.2.1 dX4_append_60 hl (by decide) rfl (fun ls hl => ?_)
            refine lv_aload_n hC.1 hC.2.1 dX4_append_62 rfl (lv_at hl 1 rfl) ?_
            refine mg4 hC hK hW 26 (v := .ref (M 21)) rfl (by decide) rfl tf_X4_71 dX4_append_63 ?_
            refine lv_iload_n hC.1 hC.2.1 dX4_append_66 rfl (lv_at hl 3 rfl) ?_
            refine mai hC hK hW 21 (by decide) rfl (i := f) c_13.1.in dX4_append_67 ?_
            refine lv_iload_n hC.1 hC.2.1 dX4_append_68 rfl (lv_at hl 4 rfl) ?_
            refine lv_iadd hC.1 hC.2.1 dX4_append_69 ?_
            refine lv_istore (lv' := [(6, .int ((T 25 (tn f)) + n)), (5, .int 0), (0, .ref (M 0)), (1, .int p), (2, .int f), (3, .int n), (4, .int v)]) hC.1 hC.2.1 dX4_append_70 hl (by decide) rfl (fun ls hl => ?_)
            refine lv_iload hC.1 hC.2.1 dX4_append_72 (lv_at hl 0 rfl) ?_
            refine lv_bipush (v := 32) hC.1 hC.2.1 dX4_append_74 (by decide) ?_
            refine lv_icmp_gt (tgt := 107) hC.1 hC.2.1 dX4_append_76 (by decide) (fun c_76 => ?_) (fun c_76 => ?_)
            · have hHr : ¬ kHr T (tn f) (T 25 (tn f) + n) := fun z => hnle c_76 z.1
              refine lv_iload hC.1 hC.2.1 dX4_append_107 (lv_at hl 1 rfl) ?_
              refine lv_if_eq (tgt := 116) hC.1 hC.2.1 dX4_append_109 (by decide) (fun c_109 => ?_) (fun c_109 => ?_)
              · refine lv_ldc hC.1 hC.2.1 hC.2.2.2.1 (hC.2.2.2.2 _ (kt_in tk_X4_111 rfl)) dX4_append_116 ?_
                exact mkrI hC hr hlk hW (by simp (config := {decide := true}) only [kif_true, kif_false, kb, kup_eq, kup_f, kup_i, not_true_eq_false, not_false_eq_true, and_true, true_and, and_false, false_and, and_self, or_true, true_or, or_false, false_or, a_append, t_append, n_append, kApg, kWra, kWrt, kWrn, c_5, c_13, c_28, hn8.1, hn8.2, c_40, c_52, hHr, c_109]) (by simp (config := {decide := true}) only [kif_true, kif_false, kb, kup_eq, kup_f, kup_i, not_true_eq_false, not_false_eq_true, and_true, true_and, and_false, false_and, and_self, or_true, true_or, or_false, false_or, a_append, t_append, n_append, kApg, kWra, kWrt, kWrn, c_5, c_13, c_28, hn8.1, hn8.2, c_40, c_52, hHr, c_109]) (by simp (config := {decide := true}) only [kif_true, kif_false, kb, kup_eq, kup_f, kup_i, not_true_eq_false, not_false_eq_true, and_true, true_and, and_false, false_and, and_self, or_true, true_or, or_false, false_or, a_append, t_append, n_append, kApg, kWra, kWrt, kWrn, c_5, c_13, c_28, hn8.1, hn8.2, c_40, c_52, hHr, c_109]) rfl rfl dX4_append_118
              · exact absurd (by decide) c_109
            · refine lv_aload_n hC.1 hC.2.1 dX4_append_79 rfl (lv_at hl 2 rfl) ?_
              refine lv_aload_n hC.1 hC.2.1 dX4_append_80 rfl (lv_at hl 2 rfl) ?_
              refine mg4 hC hK hW 23 (v := .ref (M 18)) rfl (by decide) rfl tf_X4_62 dX4_append_81 ?_
              refine lv_iload_n hC.1 hC.2.1 dX4_append_84 rfl (lv_at hl 4 rfl) ?_
              refine mai hC hK hW 18 (by decide) rfl (i := f) c_13.1.in dX4_append_85 ?_
              refine keSi (rest := []) (mcV 0 hC hK hW (c_X4_blocksLeft l D G M hL T N r g (T 20 (tn f)) hI3 (kFl.home hIh hIz c_13)) (kgoodV tm_X4_191 ti_yX4_blocksLeft te_yX4_blocksLeft tz_X4 tc_yX4_blocksLeft) mw_m rfl ⟨rfl, by decide, by decide, (show Option.map _ (parseMethodDescriptor yX4_blocksLeft.desc) = some 1 from by decide +kernel)⟩ ⟨Nat.le_of_ble_eq_true rfl, Nat.le_of_ble_eq_true rfl⟩ hl.1 rfl (Nat.le_of_ble_eq_true rfl) ⟨Nat.le_refl _, Nat.le_refl _⟩ dX4_append_86) ?_
              refine lv_iload hC.1 hC.2.1 dX4_append_89 (lv_at hl 0 rfl) ?_
              refine keSi (rest := [.int (kBl T (T 20 (tn f)))]) (kcS0 hC (c_X4_blocksOf l ((T 25 (tn f)) + n)) (kgoodS tm_X4_155 ts_yX4_blocksOf tz_X4 tc_yX4_blocksOf) ⟨rfl, by decide, by decide, (show Option.map _ (parseMethodDescriptor yX4_blocksOf.desc) = some 1 from by decide +kernel)⟩ ⟨Nat.le_of_ble_eq_true rfl, Nat.le_of_ble_eq_true rfl⟩ hl.1 rfl (Nat.le_of_ble_eq_true rfl) ⟨Nat.le_refl _, Nat.le_refl _⟩ dX4_append_91) ?_
              refine lv_aload_n hC.1 hC.2.1 dX4_append_94 rfl (lv_at hl 2 rfl) ?_
              refine mg4 hC hK hW 26 (v := .ref (M 21)) rfl (by decide) rfl tf_X4_71 dX4_append_95 ?_
              refine lv_iload_n hC.1 hC.2.1 dX4_append_98 rfl (lv_at hl 4 rfl) ?_
              refine mai hC hK hW 21 (by decide) rfl (i := f) c_13.1.in dX4_append_99 ?_
              refine keSi (rest := [.int (kBf ((T 25 (tn f)) + n)), .int (kBl T (T 20 (tn f)))]) (kcS0 hC (c_X4_blocksOf l (T 25 (tn f))) (kgoodS tm_X4_155 ts_yX4_blocksOf tz_X4 tc_yX4_blocksOf) ⟨rfl, by decide, by decide, (show Option.map _ (parseMethodDescriptor yX4_blocksOf.desc) = some 1 from by decide +kernel)⟩ ⟨Nat.le_of_ble_eq_true rfl, Nat.le_of_ble_eq_true rfl⟩ hl.1 rfl (Nat.le_of_ble_eq_true rfl) ⟨Nat.le_refl _, Nat.le_refl _⟩ dX4_append_100) ?_
              refine lv_isub hC.1 hC.2.1 dX4_append_103 ?_
              refine lv_icmp_ge (tgt := 119) hC.1 hC.2.1 dX4_append_104 (by decide) (fun c_104 => ?_) (fun c_104 => ?_)
              · have hHr : kHr T (tn f) (T 25 (tn f) + n) := ⟨hle c_76, fun z => hnle z c_104⟩
                refine lv_aload_n hC.1 hC.2.1 dX4_append_119 rfl (lv_at hl 2 rfl) ?_
                refine lv_iload_n hC.1 hC.2.1 dX4_append_120 rfl (lv_at hl 5 rfl) ?_
                refine lv_iconst (v := 1) hC.1 hC.2.1 dX4_append_121 (by decide) ?_
                refine lv_iadd hC.1 hC.2.1 dX4_append_122 ?_
                refine meQi (rest := []) (mcV 0 hC hK hW (c_X4_goes l D G M hL T N r g (n + 1) hIc) (kgoodV tm_X4_175 ti_yX4_goes te_yX4_goes tz_X4 tc_yX4_goes) mw_m rfl ⟨rfl, by decide, by decide, (show Option.map _ (parseMethodDescriptor yX4_goes.desc) = some 1 from by decide +kernel)⟩ ⟨Nat.le_of_ble_eq_true rfl, Nat.le_of_ble_eq_true rfl⟩ hl.1 rfl (Nat.le_of_ble_eq_true rfl) ⟨Nat.le_refl _, Nat.le_refl _⟩ dX4_append_123) hW (fun H locs (hW : mWd D G M (mA M) zs.heap (kGoT T (n + 1)) N r g H locs) => ?_)
                refine kif_eq (tgt := 176) hC.1 hC.2.1 dX4_append_126 (by decide) (fun c_126 => ?_) (fun c_126 => ?_)
                · rw [show kGoT T (n + 1) = T from kif_f c_126] at hW
                  refine lv_aload_n hC.1 hC.2.1 dX4_append_176 rfl (lv_at hl 2 rfl) ?_
                  refine lv_iconst (v := 1) hC.1 hC.2.1 dX4_append_177 (by decide) ?_
                  refine meQi (rest := []) (mcV 0 hC hK hW (c_X4_answer l D G M hL T N r g 1 hIc hI1 hI2) (kgoodV tm_X4_178 ti_yX4_answer te_yX4_answer tz_X4 tc_yX4_answer) mw_m rfl ⟨rfl, by decide, by decide, (show Option.map _ (parseMethodDescriptor yX4_answer.desc) = some 1 from by decide +kernel)⟩ ⟨Nat.le_of_ble_eq_true rfl, Nat.le_of_ble_eq_true rfl⟩ hl.1 rfl (Nat.le_of_ble_eq_true rfl) ⟨Nat.le_refl _, Nat.le_refl _⟩ dX4_append_178) hW (fun H locs (hW : mWd D G M (mA M) zs.heap (kOt T) N r g H locs) => ?_)
                  exact mkrI hC hr hlk hW (by simp (config := {decide := true}) only [kif_true, kif_false, kb, kup_eq, kup_f, kup_i, not_true_eq_false, not_false_eq_true, and_true, true_and, and_false, false_and, and_self, or_true, true_or, or_false, false_or, a_append, t_append, n_append, kApg, kWra, kWrt, kWrn, c_5, c_13, c_28, hn8.1, hn8.2, c_40, c_52, hHr, show kWT T (tn f) (T 25 (tn f)) n = T from kif_f c_126]) (by simp (config := {decide := true}) only [kif_true, kif_false, kb, kup_eq, kup_f, kup_i, not_true_eq_false, not_false_eq_true, and_true, true_and, and_false, false_and, and_self, or_true, true_or, or_false, false_or, a_append, t_append, n_append, kApg, kWra, kWrt, kWrn, c_5, c_13, c_28, hn8.1, hn8.2, c_40, c_52, hHr, show kWT T (tn f) (T 25 (tn f)) n = T from kif_f c_126]) (by simp (config := {decide := true}) only [kif_true, kif_false, kb, kup_eq, kup_f, kup_i, not_true_eq_false, not_false_eq_true, and_true, true_and, and_false, false_and, and_self, or_true, true_or, or_false, false_or, a_append, t_append, n_append, kApg, kWra, kWrt, kWrn, c_5, c_13, c_28, hn8.1, hn8.2, c_40, c_52, hHr, show kWN T N (tn f) (T 25 (tn f)) n v = N from kif_f c_126]) rfl rfl dX4_append_181
                · rw [show kGoT T (n + 1) = kup T 0 7 (T 0 7 + (n + 1)) from kif_t c_126] at hW
                  refine lv_iconst (v := 0) hC.1 hC.2.1 dX4_append_129 (by decide) ?_
                  refine lv_istore (lv' := [(7, .int 0), (6, .int ((T 25 (tn f)) + n)), (5, .int 0), (0, .ref (M 0)), (1, .int p), (2, .int f), (3, .int n), (4, .int v)]) hC.1 hC.2.1 dX4_append_130 hl (by decide) rfl (fun ls hl => ?_)
                  have loop_132 : ∀ (zf i : Nat), i + zf = tn n →  ∀ (H : Heap) (locs : List Loc), mWd D G M (mA M) zs.heap (kup T 0 7 (T 0 7 + (n + 1))) (kfT (kWn (tn f) (T 25 (tn f)) v) N i) r g H locs → ∀ ls : Array Slot, lv_has ls 8 [(7, .int (nI i)), (0, .ref (M 0)), (2, .int f), (3, .int n), (4, .int v), (6, .int ((T 25 (tn f)) + n))] → W zp l ze ({ frames := 3, cells := 0, slots := 0, locals := 67 } : Room) zs zm zargs zbelow zmeth zc H locs 0 0 (MQ zbelow (mQi D G M (a_append T p f n) (t_append T p f n) (n_append T N p f n v) r g) zargs zs 0 0 (mA M)) (F0 zm 132 ls []) := by
                    intro zf
                    induction zf with
                    | zero =>
                      intro i  hi  H locs hW ls hl
                      have hi0 : i = tn n := by omega
                      have hb2 := (kn18 hn8).2
                      refine lv_iload hC.1 hC.2.1 dX4_append_132 (lv_at hl 0 rfl) ?_
                      refine lv_iload_n hC.1 hC.2.1 dX4_append_134 rfl (lv_at hl 3 rfl) ?_
                      refine lv_icmp_ge (tgt := 168) hC.1 hC.2.1 dX4_append_135 (by decide) (fun c_135 => ?_) (fun c_135 => ?_)
                      · refine lv_aload_n hC.1 hC.2.1 dX4_append_168 rfl (lv_at hl 1 rfl) ?_
                        refine mg4 hC hK hW 26 (v := .ref (M 21)) rfl (by decide) rfl tf_X4_71 dX4_append_169 ?_
                        refine lv_iload_n hC.1 hC.2.1 dX4_append_172 rfl (lv_at hl 2 rfl) ?_
                        refine lv_iload hC.1 hC.2.1 dX4_append_173 (lv_at hl 5 rfl) ?_
                        refine mai_s hC hK hW 21 (by decide) rfl (i := f) c_13.1.in (mw_ar_21 (tn f) ((T 25 (tn f)) + n)) dX4_append_175 (fun H locs (hW : mWd D G M (mA M) zs.heap (kup (kup T 0 7 (T 0 7 + (n + 1))) 25 (tn f) ((T 25 (tn f)) + n)) (kfT (kWn (tn f) (T 25 (tn f)) v) N i) r g H locs) => ?_)
                        refine lv_aload_n hC.1 hC.2.1 dX4_append_176 rfl (lv_at hl 1 rfl) ?_
                        refine lv_iconst (v := 1) hC.1 hC.2.1 dX4_append_177 (by decide) ?_
                        refine meQi (rest := []) (mcV 0 hC hK hW (c_X4_answer l D G M hL (kup (kup T 0 7 (T 0 7 + (n + 1))) 25 (tn f) ((T 25 (tn f)) + n)) (kfT (kWn (tn f) (T 25 (tn f)) v) N i) r g 1 hIc hI1 hI2) (kgoodV tm_X4_178 ti_yX4_answer te_yX4_answer tz_X4 tc_yX4_answer) mw_m rfl ⟨rfl, by decide, by decide, (show Option.map _ (parseMethodDescriptor yX4_answer.desc) = some 1 from by decide +kernel)⟩ ⟨Nat.le_of_ble_eq_true rfl, Nat.le_of_ble_eq_true rfl⟩ hl.1 rfl (Nat.le_of_ble_eq_true rfl) ⟨Nat.le_refl _, Nat.le_refl _⟩ dX4_append_178) hW (fun H locs (hW : mWd D G M (mA M) zs.heap (kOt (kup (kup T 0 7 (T 0 7 + (n + 1))) 25 (tn f) ((T 25 (tn f)) + n))) (kfT (kWn (tn f) (T 25 (tn f)) v) N i) r g H locs) => ?_)
                        exact mkrI hC hr hlk hW (by rw [kap_T hI9 hn8 hHr.1 c_126]; simp (config := {decide := true}) only [kif_true, kif_false, kb, kup_eq, kup_f, kup_i, not_true_eq_false, not_false_eq_true, and_true, true_and, and_false, false_and, and_self, or_true, true_or, or_false, false_or, a_append, t_append, n_append, kApg, kWra, kWrt, kWrn, c_5, c_13, c_28, hn8.1, hn8.2, c_40, c_52, hHr]) (by rw [kap_T hI9 hn8 hHr.1 c_126]; simp (config := {decide := true}) only [kif_true, kif_false, kb, kup_eq, kup_f, kup_i, not_true_eq_false, not_false_eq_true, and_true, true_and, and_false, false_and, and_self, or_true, true_or, or_false, false_or, a_append, t_append, n_append, kApg, kWra, kWrt, kWrn, c_5, c_13, c_28, hn8.1, hn8.2, c_40, c_52, hHr]) (by rw [hi0, kap_N c_126]; simp (config := {decide := true}) only [kif_true, kif_false, kb, kup_eq, kup_f, kup_i, not_true_eq_false, not_false_eq_true, and_true, true_and, and_false, false_and, and_self, or_true, true_or, or_false, false_or, a_append, t_append, n_append, kApg, kWra, kWrt, kWrn, c_5, c_13, c_28, hn8.1, hn8.2, c_40, c_52, hHr]) rfl rfl dX4_append_181
                      · exact absurd (by rw [nI_tn (kn1 hn8.1)]; exact nI_le (by omega) (by omega)) c_135
                    | succ zf ih =>
                      intro i  hi  H locs hW ls hl
                      have hlt : i < tn n := by omega
                      have hb2 := (kn18 hn8).2
                      refine lv_iload hC.1 hC.2.1 dX4_append_132 (lv_at hl 0 rfl) ?_
                      refine lv_iload_n hC.1 hC.2.1 dX4_append_134 rfl (lv_at hl 3 rfl) ?_
                      refine lv_icmp_ge (tgt := 168) hC.1 hC.2.1 dX4_append_135 (by decide) (fun c_135 => ?_) (fun c_135 => ?_)
                      · exact absurd (by rw [← nI_tn (kn1 hn8.1)]; exact c_135) (nI_ge (a := i) (b := tn n) (by omega) (by omega))
                      · refine lv_aload_n hC.1 hC.2.1 dX4_append_138 rfl (lv_at hl 1 rfl) ?_
                        refine mg4 hC hK hW 27 (v := .ref (M 22)) rfl (by decide) rfl tf_X4_74 dX4_append_139 ?_
                        refine lv_bipush (v := 32) hC.1 hC.2.1 dX4_append_142 (by decide) ?_
                        refine lv_iload_n hC.1 hC.2.1 dX4_append_144 rfl (lv_at hl 2 rfl) ?_
                        refine lv_imul hC.1 hC.2.1 dX4_append_145 ?_
                        refine lv_aload_n hC.1 hC.2.1 dX4_append_146 rfl (lv_at hl 1 rfl) ?_
                        refine mg4 hC hK hW 26 (v := .ref (M 21)) rfl (by decide) rfl tf_X4_71 dX4_append_147 ?_
                        refine lv_iload_n hC.1 hC.2.1 dX4_append_150 rfl (lv_at hl 2 rfl) ?_
                        refine mai hC hK hW 21 (by decide) rfl (i := f) c_13.1.in dX4_append_151 ?_
                        rw [show ((kup T 0 7 (T 0 7 + (n + 1))) 25 (tn f) : Int32) = T 25 (tn f) from rfl]
                        refine lv_iadd hC.1 hC.2.1 dX4_append_152 ?_
                        refine lv_iload hC.1 hC.2.1 dX4_append_153 (lv_at hl 0 rfl) ?_
                        refine lv_iadd hC.1 hC.2.1 dX4_append_155 ?_
                        rw [show ((((32 * f) + (T 25 (tn f))) + (nI i)) : Int32) = nI (32 * tn f + (tn (T 25 (tn f)) + i)) from (nu_ix3 c_13.1.1 (hI9 (tn f)).1 i)]
                        refine lv_iload hC.1 hC.2.1 dX4_append_156 (lv_at hl 4 rfl) ?_
                        refine lv_iload hC.1 hC.2.1 dX4_append_158 (lv_at hl 0 rfl) ?_
                        refine lv_iadd hC.1 hC.2.1 dX4_append_160 ?_
                        refine mai_sN hC hK hW 22 (by decide) rfl (i := (32 * tn f + (tn (T 25 (tn f)) + i))) (by have z1 := c_13.lt; have z2 := kap_le (hI9 (tn f)).1 (hI9 (tn f)).2 hn8 hHr.1; omega) (mw_nu (tn f) (tn (T 25 (tn f)) + i) (by have z2 := kap_le (hI9 (tn f)).1 (hI9 (tn f)).2 hn8 hHr.1; omega) (v + (nI i))) dX4_append_161 (fun H locs (hW : mWd D G M (mA M) zs.heap (kup T 0 7 (T 0 7 + (n + 1))) (kuN (kfT (kWn (tn f) (T 25 (tn f)) v) N i) (tn f) (tn (T 25 (tn f)) + i) (v + (nI i))) r g H locs) => ?_)
                        refine lv_iinc (v := nI (i + 1)) (lv' := [(7, .int (nI (i + 1))), (0, .ref (M 0)), (2, .int f), (3, .int n), (4, .int v), (6, .int ((T 25 (tn f)) + n))]) hC.1 hC.2.1 dX4_append_162 hl (k := 0) rfl (nI_1 i) (by decide) rfl (fun ls hl => ?_)
                        refine lv_goto (tgt := 132) hC.1 hC.2.1 dX4_append_165 (by decide) ?_
                        rw [kwn_s (k := i) (o := tn f) (a := T 25 (tn f)) (v := v) (N := N) (hI9 (tn f)).1 (by have z2 := kap_le (hI9 (tn f)).1 (hI9 (tn f)).2 hn8 hHr.1; omega)] at hW
                        exact ih (i + 1) (by omega) _ _ hW ls (lv_sub hl [0, 1, 2, 3, 4, 5] rfl)
                  exact loop_132 (tn n) 0 (by omega) _ _ hW ls (by rw [nI_0]; exact lv_sub hl [0, 3, 5, 6, 7, 1] rfl)
              · have hHr : ¬ kHr T (tn f) (T 25 (tn f) + n) := fun z => c_104 (hle z.2)
                refine lv_iload hC.1 hC.2.1 dX4_append_107 (lv_at hl 1 rfl) ?_
                refine lv_if_eq (tgt := 116) hC.1 hC.2.1 dX4_append_109 (by decide) (fun c_109 => ?_) (fun c_109 => ?_)
                · refine lv_ldc hC.1 hC.2.1 hC.2.2.2.1 (hC.2.2.2.2 _ (kt_in tk_X4_111 rfl)) dX4_append_116 ?_
                  exact mkrI hC hr hlk hW (by simp (config := {decide := true}) only [kif_true, kif_false, kb, kup_eq, kup_f, kup_i, not_true_eq_false, not_false_eq_true, and_true, true_and, and_false, false_and, and_self, or_true, true_or, or_false, false_or, a_append, t_append, n_append, kApg, kWra, kWrt, kWrn, c_5, c_13, c_28, hn8.1, hn8.2, c_40, c_52, hHr, c_109]) (by simp (config := {decide := true}) only [kif_true, kif_false, kb, kup_eq, kup_f, kup_i, not_true_eq_false, not_false_eq_true, and_true, true_and, and_false, false_and, and_self, or_true, true_or, or_false, false_or, a_append, t_append, n_append, kApg, kWra, kWrt, kWrn, c_5, c_13, c_28, hn8.1, hn8.2, c_40, c_52, hHr, c_109]) (by simp (config := {decide := true}) only [kif_true, kif_false, kb, kup_eq, kup_f, kup_i, not_true_eq_false, not_false_eq_true, and_true, true_and, and_false, false_and, and_self, or_true, true_or, or_false, false_or, a_append, t_append, n_append, kApg, kWra, kWrt, kWrn, c_5, c_13, c_28, hn8.1, hn8.2, c_40, c_52, hHr, c_109]) rfl rfl dX4_append_118
                · exact absurd (by decide) c_109
          · refine lv_iconst (v := 1) hC.1 hC.2.1 dX4_append_55 (by decide) ?_
            refine lv_goto (tgt := 60) hC.1 hC.2.1 dX4_append_56 (by decide) ?_
            refine lv_istore (lv' := [(5, .int 1), (0, .ref (M 0)), (1, .int p), (2, .int f), (3, .int n), (4, .int v)]) hC.1 hC.2.1 dX4_append_60 hl (by decide) rfl (fun ls hl => ?_)
            refine lv_aload_n hC.1 hC.2.1 dX4_append_62 rfl (lv_at hl 1 rfl) ?_
            refine mg4 hC hK hW 26 (v := .ref (M 21)) rfl (by decide) rfl tf_X4_71 dX4_append_63 ?_
            refine lv_iload_n hC.1 hC.2.1 dX4_append_66 rfl (lv_at hl 3 rfl) ?_
            refine mai hC hK hW 21 (by decide) rfl (i := f) c_13.1.in dX4_append_67 ?_
            refine lv_iload_n hC.1 hC.2.1 dX4_append_68 rfl (lv_at hl 4 rfl) ?_
            refine lv_iadd hC.1 hC.2.1 dX4_append_69 ?_
            refine lv_istore (lv' := [(6, .int ((T 25 (tn f)) + n)), (5, .int 1), (0, .ref (M 0)), (1, .int p), (2, .int f), (3, .int n), (4, .int v)]) hC.1 hC.2.1 dX4_append_70 hl (by decide) rfl (fun ls hl => ?_)
            refine lv_iload hC.1 hC.2.1 dX4_append_72 (lv_at hl 0 rfl) ?_
            refine lv_bipush (v := 32) hC.1 hC.2.1 dX4_append_74 (by decide) ?_
            refine lv_icmp_gt (tgt := 107) hC.1 hC.2.1 dX4_append_76 (by decide) (fun c_76 => ?_) (fun c_76 => ?_)
            · have hHr : ¬ kHr T (tn f) (T 25 (tn f) + n) := fun z => hnle c_76 z.1
              refine lv_iload hC.1 hC.2.1 dX4_append_107 (lv_at hl 1 rfl) ?_
              refine lv_if_eq (tgt := 116) hC.1 hC.2.1 dX4_append_109 (by decide) (fun c_109 => ?_) (fun c_109 => ?_)
              · exact absurd c_109 (by decide)
              · refine lv_iconst (v := 1) hC.1 hC.2.1 dX4_append_112 (by decide) ?_
                refine lv_goto (tgt := 118) hC.1 hC.2.1 dX4_append_113 (by decide) ?_
                exact mkrI hC hr hlk hW (by simp (config := {decide := true}) only [kif_true, kif_false, kb, kup_eq, kup_f, kup_i, not_true_eq_false, not_false_eq_true, and_true, true_and, and_false, false_and, and_self, or_true, true_or, or_false, false_or, a_append, t_append, n_append, kApg, kWra, kWrt, kWrn, c_5, c_13, c_28, hn8.1, hn8.2, c_40, c_52, hHr, c_109]) (by simp (config := {decide := true}) only [kif_true, kif_false, kb, kup_eq, kup_f, kup_i, not_true_eq_false, not_false_eq_true, and_true, true_and, and_false, false_and, and_self, or_true, true_or, or_false, false_or, a_append, t_append, n_append, kApg, kWra, kWrt, kWrn, c_5, c_13, c_28, hn8.1, hn8.2, c_40, c_52, hHr, c_109]) (by simp (config := {decide := true}) only [kif_true, kif_false, kb, kup_eq, kup_f, kup_i, not_true_eq_false, not_false_eq_true, and_true, true_and, and_false, false_and, and_self, or_true, true_or, or_false, false_or, a_append, t_append, n_append, kApg, kWra, kWrt, kWrn, c_5, c_13, c_28, hn8.1, hn8.2, c_40, c_52, hHr, c_109]) rfl rfl dX4_append_118
            · refine lv_aload_n hC.1 hC.2.1 dX4_append_79 rfl (lv_at hl 2 rfl) ?_
              refine lv_aload_n hC.1 hC.2.1 dX4_append_80 rfl (lv_at hl 2 rfl) ?_
              refine mg4 hC hK hW 23 (v := .ref (M 18)) rfl (by decide) rfl tf_X4_62 dX4_append_81 ?_
              refine lv_iload_n hC.1 hC.2.1 dX4_append_84 rfl (lv_at hl 4 rfl) ?_
              refine mai hC hK hW 18 (by decide) rfl (i := f) c_13.1.in dX4_append_85 ?_
              refine keSi (rest := []) (mcV 0 hC hK hW (c_X4_blocksLeft l D G M hL T N r g (T 20 (tn f)) hI3 (kFl.home hIh hIz c_13)) (kgoodV tm_X4_191 ti_yX4_blocksLeft te_yX4_blocksLeft tz_X4 tc_yX4_blocksLeft) mw_m rfl ⟨rfl, by decide, by decide, (show Option.map _ (parseMethodDescriptor yX4_blocksLeft.desc) = some 1 from by decide +kernel)⟩ ⟨Nat.le_of_ble_eq_true rfl, Nat.le_of_ble_eq_true rfl⟩ hl.1 rfl (Nat.le_of_ble_eq_true rfl) ⟨Nat.le_refl _, Nat.le_refl _⟩ dX4_append_86) ?_
              refine lv_iload hC.1 hC.2.1 dX4_append_89 (lv_at hl 0 rfl) ?_
              refine keSi (rest := [.int (kBl T (T 20 (tn f)))]) (kcS0 hC (c_X4_blocksOf l ((T 25 (tn f)) + n)) (kgoodS tm_X4_155 ts_yX4_blocksOf tz_X4 tc_yX4_blocksOf) ⟨rfl, by decide, by decide, (show Option.map _ (parseMethodDescriptor yX4_blocksOf.desc) = some 1 from by decide +kernel)⟩ ⟨Nat.le_of_ble_eq_true rfl, Nat.le_of_ble_eq_true rfl⟩ hl.1 rfl (Nat.le_of_ble_eq_true rfl) ⟨Nat.le_refl _, Nat.le_refl _⟩ dX4_append_91) ?_
              refine lv_aload_n hC.1 hC.2.1 dX4_append_94 rfl (lv_at hl 2 rfl) ?_
              refine mg4 hC hK hW 26 (v := .ref (M 21)) rfl (by decide) rfl tf_X4_71 dX4_append_95 ?_
              refine lv_iload_n hC.1 hC.2.1 dX4_append_98 rfl (lv_at hl 4 rfl) ?_
              refine mai hC hK hW 21 (by decide) rfl (i := f) c_13.1.in dX4_append_99 ?_
              refine keSi (rest := [.int (kBf ((T 25 (tn f)) + n)), .int (kBl T (T 20 (tn f)))]) (kcS0 hC (c_X4_blocksOf l (T 25 (tn f))) (kgoodS tm_X4_155 ts_yX4_blocksOf tz_X4 tc_yX4_blocksOf) ⟨rfl, by decide, by decide, (show Option.map _ (parseMethodDescriptor yX4_blocksOf.desc) = some 1 from by decide +kernel)⟩ ⟨Nat.le_of_ble_eq_true rfl, Nat.le_of_ble_eq_true rfl⟩ hl.1 rfl (Nat.le_of_ble_eq_true rfl) ⟨Nat.le_refl _, Nat.le_refl _⟩ dX4_append_100) ?_
              refine lv_isub hC.1 hC.2.1 dX4_append_103 ?_
              refine lv_icmp_ge (tgt := 119) hC.1 hC.2.1 dX4_append_104 (by decide) (fun c_104 => ?_) (fun c_104 => ?_)
              · have hHr : kHr T (tn f) (T 25 (tn f) + n) := ⟨hle c_76, fun z => hnle z c_104⟩
                refine lv_aload_n hC.1 hC.2.1 dX4_append_119 rfl (lv_at hl 2 rfl) ?_
                refine lv_iload_n hC.1 hC.2.1 dX4_append_120 rfl (lv_at hl 5 rfl) ?_
                refine lv_iconst (v := 1) hC.1 hC.2.1 dX4_append_121 (by decide) ?_
                refine lv_iadd hC.1 hC.2.1 dX4_append_122 ?_
                refine meQi (rest := []) (mcV 0 hC hK hW (c_X4_goes l D G M hL T N r g (n + 1) hIc) (kgoodV tm_X4_175 ti_yX4_goes te_yX4_goes tz_X4 tc_yX4_goes) mw_m rfl ⟨rfl, by decide, by decide, (show Option.map _ (parseMethodDescriptor yX4_goes.desc) = some 1 from by decide +kernel)⟩ ⟨Nat.le_of_ble_eq_true rfl, Nat.le_of_ble_eq_true rfl⟩ hl.1 rfl (Nat.le_of_ble_eq_true rfl) ⟨Nat.le_refl _, Nat.le_refl _⟩ dX4_append_123) hW (fun H locs (hW : mWd D G M (mA M) zs.heap (kGoT T (n + 1)) N r g H locs) => ?_)
                refine kif_eq (tgt := 176) hC.1 hC.2.1 dX4_append_126 (by decide) (fun c_126 => ?_) (fun c_126 => ?_)
                · rw [show kGoT T (n + 1) = T from kif_f c_126] at hW
                  refine lv_aload_n hC.1 hC.2.1 dX4_append_176 rfl (lv_at hl 2 rfl) ?_
                  refine lv_iconst (v := 1) hC.1 hC.2.1 dX4_append_177 (by decide) ?_
                  refine meQi (rest := []) (mcV 0 hC hK hW (c_X4_answer l D G M hL T N r g 1 hIc hI1 hI2) (kgoodV tm_X4_178 ti_yX4_answer te_yX4_answer tz_X4 tc_yX4_answer) mw_m rfl ⟨rfl, by decide, by decide, (show Option.map _ (parseMethodDescriptor yX4_answer.desc) = some 1 from by decide +kernel)⟩ ⟨Nat.le_of_ble_eq_true rfl, Nat.le_of_ble_eq_true rfl⟩ hl.1 rfl (Nat.le_of_ble_eq_true rfl) ⟨Nat.le_refl _, Nat.le_refl _⟩ dX4_append_178) hW (fun H locs (hW : mWd D G M (mA M) zs.heap (kOt T) N r g H locs) => ?_)
                  exact mkrI hC hr hlk hW (by simp (config := {decide := true}) only [kif_true, kif_false, kb, kup_eq, kup_f, kup_i, not_true_eq_false, not_false_eq_true, and_true, true_and, and_false, false_and, and_self, or_true, true_or, or_false, false_or, a_append, t_append, n_append, kApg, kWra, kWrt, kWrn, c_5, c_13, c_28, hn8.1, hn8.2, c_40, c_52, hHr, show kWT T (tn f) (T 25 (tn f)) n = T from kif_f c_126]) (by simp (config := {decide := true}) only [kif_true, kif_false, kb, kup_eq, kup_f, kup_i, not_true_eq_false, not_false_eq_true, and_true, true_and, and_false, false_and, and_self, or_true, true_or, or_false, false_or, a_append, t_append, n_append, kApg, kWra, kWrt, kWrn, c_5, c_13, c_28, hn8.1, hn8.2, c_40, c_52, hHr, show kWT T (tn f) (T 25 (tn f)) n = T from kif_f c_126]) (by simp (config := {decide := true}) only [kif_true, kif_false, kb, kup_eq, kup_f, kup_i, not_true_eq_false, not_false_eq_true, and_true, true_and, and_false, false_and, and_self, or_true, true_or, or_false, false_or, a_append, t_append, n_append, kApg, kWra, kWrt, kWrn, c_5, c_13, c_28, hn8.1, hn8.2, c_40, c_52, hHr, show kWN T N (tn f) (T 25 (tn f)) n v = N from kif_f c_126]) rfl rfl dX4_append_181
                · rw [show kGoT T (n + 1) = kup T 0 7 (T 0 7 + (n + 1)) from kif_t c_126] at hW
                  refine lv_iconst (v := 0) hC.1 hC.2.1 dX4_append_129 (by decide) ?_
                  refine lv_istore (lv' := [(7, .int 0), (6, .int ((T 25 (tn f)) + n)), (5, .int 1), (0, .ref (M 0)), (1, .int p), (2, .int f), (3, .int n), (4, .int v)]) hC.1 hC.2.1 dX4_append_130 hl (by decide) rfl (fun ls hl => ?_)
                  have loop_132 : ∀ (zf i : Nat), i + zf = tn n →  ∀ (H : Heap) (locs : List Loc), mWd D G M (mA M) zs.heap (kup T 0 7 (T 0 7 + (n + 1))) (kfT (kWn (tn f) (T 25 (tn f)) v) N i) r g H locs → ∀ ls : Array Slot, lv_has ls 8 [(7, .int (nI i)), (0, .ref (M 0)), (2, .int f), (3, .int n), (4, .int v), (6, .int ((T 25 (tn f)) + n))] → W zp l ze ({ frames := 3, cells := 0, slots := 0, locals := 67 } : Room) zs zm zargs zbelow zmeth zc H locs 0 0 (MQ zbelow (mQi D G M (a_append T p f n) (t_append T p f n) (n_append T N p f n v) r g) zargs zs 0 0 (mA M)) (F0 zm 132 ls []) := by
                    intro zf
                    induction zf with
                    | zero =>
                      intro i  hi  H locs hW ls hl
                      have hi0 : i = tn n := by omega
                      have hb2 := (kn18 hn8).2
                      refine lv_iload hC.1 hC.2.1 dX4_append_132 (lv_at hl 0 rfl) ?_
                      refine lv_iload_n hC.1 hC.2.1 dX4_append_134 rfl (lv_at hl 3 rfl) ?_
                      refine lv_icmp_ge (tgt := 168) hC.1 hC.2.1 dX4_append_135 (by decide) (fun c_135 => ?_) (fun c_135 => ?_)
                      · refine lv_aload_n hC.1 hC.2.1 dX4_append_168 rfl (lv_at hl 1 rfl) ?_
                        refine mg4 hC hK hW 26 (v := .ref (M 21)) rfl (by decide) rfl tf_X4_71 dX4_append_169 ?_
                        refine lv_iload_n hC.1 hC.2.1 dX4_append_172 rfl (lv_at hl 2 rfl) ?_
                        refine lv_iload hC.1 hC.2.1 dX4_append_173 (lv_at hl 5 rfl) ?_
                        refine mai_s hC hK hW 21 (by decide) rfl (i := f) c_13.1.in (mw_ar_21 (tn f) ((T 25 (tn f)) + n)) dX4_append_175 (fun H locs (hW : mWd D G M (mA M) zs.heap (kup (kup T 0 7 (T 0 7 + (n + 1))) 25 (tn f) ((T 25 (tn f)) + n)) (kfT (kWn (tn f) (T 25 (tn f)) v) N i) r g H locs) => ?_)
                        refine lv_aload_n hC.1 hC.2.1 dX4_append_176 rfl (lv_at hl 1 rfl) ?_
                        refine lv_iconst (v := 1) hC.1 hC.2.1 dX4_append_177 (by decide) ?_
                        refine meQi (rest := []) (mcV 0 hC hK hW (c_X4_answer l D G M hL (kup (kup T 0 7 (T 0 7 + (n + 1))) 25 (tn f) ((T 25 (tn f)) + n)) (kfT (kWn (tn f) (T 25 (tn f)) v) N i) r g 1 hIc hI1 hI2) (kgoodV tm_X4_178 ti_yX4_answer te_yX4_answer tz_X4 tc_yX4_answer) mw_m rfl ⟨rfl, by decide, by decide, (show Option.map _ (parseMethodDescriptor yX4_answer.desc) = some 1 from by decide +kernel)⟩ ⟨Nat.le_of_ble_eq_true rfl, Nat.le_of_ble_eq_true rfl⟩ hl.1 rfl (Nat.le_of_ble_eq_true rfl) ⟨Nat.le_refl _, Nat.le_refl _⟩ dX4_append_178) hW (fun H locs (hW : mWd D G M (mA M) zs.heap (kOt (kup (kup T 0 7 (T 0 7 + (n + 1))) 25 (tn f) ((T 25 (tn f)) + n))) (kfT (kWn (tn f) (T 25 (tn f)) v) N i) r g H locs) => ?_)
                        exact mkrI hC hr hlk hW (by rw [kap_T hI9 hn8 hHr.1 c_126]; simp (config := {decide := true}) only [kif_true, kif_false, kb, kup_eq, kup_f, kup_i, not_true_eq_false, not_false_eq_true, and_true, true_and, and_false, false_and, and_self, or_true, true_or, or_false, false_or, a_append, t_append, n_append, kApg, kWra, kWrt, kWrn, c_5, c_13, c_28, hn8.1, hn8.2, c_40, c_52, hHr]) (by rw [kap_T hI9 hn8 hHr.1 c_126]; simp (config := {decide := true}) only [kif_true, kif_false, kb, kup_eq, kup_f, kup_i, not_true_eq_false, not_false_eq_true, and_true, true_and, and_false, false_and, and_self, or_true, true_or, or_false, false_or, a_append, t_append, n_append, kApg, kWra, kWrt, kWrn, c_5, c_13, c_28, hn8.1, hn8.2, c_40, c_52, hHr]) (by rw [hi0, kap_N c_126]; simp (config := {decide := true}) only [kif_true, kif_false, kb, kup_eq, kup_f, kup_i, not_true_eq_false, not_false_eq_true, and_true, true_and, and_false, false_and, and_self, or_true, true_or, or_false, false_or, a_append, t_append, n_append, kApg, kWra, kWrt, kWrn, c_5, c_13, c_28, hn8.1, hn8.2, c_40, c_52, hHr]) rfl rfl dX4_append_181
                      · exact absurd (by rw [nI_tn (kn1 hn8.1)]; exact nI_le (by omega) (by omega)) c_135
                    | succ zf ih =>
                      intro i  hi  H locs hW ls hl
                      have hlt : i < tn n := by omega
                      have hb2 := (kn18 hn8).2
                      refine lv_iload hC.1 hC.2.1 dX4_append_132 (lv_at hl 0 rfl) ?_
                      refine lv_iload_n hC.1 hC.2.1 dX4_append_134 rfl (lv_at hl 3 rfl) ?_
                      refine lv_icmp_ge (tgt := 168) hC.1 hC.2.1 dX4_append_135 (by decide) (fun c_135 => ?_) (fun c_135 => ?_)
                      · exact absurd (by rw [← nI_tn (kn1 hn8.1)]; exact c_135) (nI_ge (a := i) (b := tn n) (by omega) (by omega))
                      · refine lv_aload_n hC.1 hC.2.1 dX4_append_138 rfl (lv_at hl 1 rfl) ?_
                        refine mg4 hC hK hW 27 (v := .ref (M 22)) rfl (by decide) rfl tf_X4_74 dX4_append_139 ?_
                        refine lv_bipush (v := 32) hC.1 hC.2.1 dX4_append_142 (by decide) ?_
                        refine lv_iload_n hC.1 hC.2.1 dX4_append_144 rfl (lv_at hl 2 rfl) ?_
                        refine lv_imul hC.1 hC.2.1 dX4_append_145 ?_
                        refine lv_aload_n hC.1 hC.2.1 dX4_append_146 rfl (lv_at hl 1 rfl) ?_
                        refine mg4 hC hK hW 26 (v := .ref (M 21)) rfl (by decide) rfl tf_X4_71 dX4_append_147 ?_
                        refine lv_iload_n hC.1 hC.2.1 dX4_append_150 rfl (lv_at hl 2 rfl) ?_
                        refine mai hC hK hW 21 (by decide) rfl (i := f) c_13.1.in dX4_append_151 ?_
                        rw [show ((kup T 0 7 (T 0 7 + (n + 1))) 25 (tn f) : Int32) = T 25 (tn f) from rfl]
                        refine lv_iadd hC.1 hC.2.1 dX4_append_152 ?_
                        refine lv_iload hC.1 hC.2.1 dX4_append_153 (lv_at hl 0 rfl) ?_
                        refine lv_iadd hC.1 hC.2.1 dX4_append_155 ?_
                        rw [show ((((32 * f) + (T 25 (tn f))) + (nI i)) : Int32) = nI (32 * tn f + (tn (T 25 (tn f)) + i)) from (nu_ix3 c_13.1.1 (hI9 (tn f)).1 i)]
                        refine lv_iload hC.1 hC.2.1 dX4_append_156 (lv_at hl 4 rfl) ?_
                        refine lv_iload hC.1 hC.2.1 dX4_append_158 (lv_at hl 0 rfl) ?_
                        refine lv_iadd hC.1 hC.2.1 dX4_append_160 ?_
                        refine mai_sN hC hK hW 22 (by decide) rfl (i := (32 * tn f + (tn (T 25 (tn f)) + i))) (by have z1 := c_13.lt; have z2 := kap_le (hI9 (tn f)).1 (hI9 (tn f)).2 hn8 hHr.1; omega) (mw_nu (tn f) (tn (T 25 (tn f)) + i) (by have z2 := kap_le (hI9 (tn f)).1 (hI9 (tn f)).2 hn8 hHr.1; omega) (v + (nI i))) dX4_append_161 (fun H locs (hW : mWd D G M (mA M) zs.heap (kup T 0 7 (T 0 7 + (n + 1))) (kuN (kfT (kWn (tn f) (T 25 (tn f)) v) N i) (tn f) (tn (T 25 (tn f)) + i) (v + (nI i))) r g H locs) => ?_)
                        refine lv_iinc (v := nI (i + 1)) (lv' := [(7, .int (nI (i + 1))), (0, .ref (M 0)), (2, .int f), (3, .int n), (4, .int v), (6, .int ((T 25 (tn f)) + n))]) hC.1 hC.2.1 dX4_append_162 hl (k := 0) rfl (nI_1 i) (by decide) rfl (fun ls hl => ?_)
                        refine lv_goto (tgt := 132) hC.1 hC.2.1 dX4_append_165 (by decide) ?_
                        rw [kwn_s (k := i) (o := tn f) (a := T 25 (tn f)) (v := v) (N := N) (hI9 (tn f)).1 (by have z2 := kap_le (hI9 (tn f)).1 (hI9 (tn f)).2 hn8 hHr.1; omega)] at hW
                        exact ih (i + 1) (by omega) _ _ hW ls (lv_sub hl [0, 1, 2, 3, 4, 5] rfl)
                  exact loop_132 (tn n) 0 (by omega) _ _ hW ls (by rw [nI_0]; exact lv_sub hl [0, 3, 5, 6, 7, 1] rfl)
              · have hHr : ¬ kHr T (tn f) (T 25 (tn f) + n) := fun z => c_104 (hle z.2)
                refine lv_iload hC.1 hC.2.1 dX4_append_107 (lv_at hl 1 rfl) ?_
                refine lv_if_eq (tgt := 116) hC.1 hC.2.1 dX4_append_109 (by decide) (fun c_109 => ?_) (fun c_109 => ?_)
                · exact absurd c_109 (by decide)
                · refine lv_iconst (v := 1) hC.1 hC.2.1 dX4_append_112 (by decide) ?_
                  refine lv_goto (tgt := 118) hC.1 hC.2.1 dX4_append_113 (by decide) ?_
                  exact mkrI hC hr hlk hW (by simp (config := {decide := true}) only [kif_true, kif_false, kb, kup_eq, kup_f, kup_i, not_true_eq_false, not_false_eq_true, and_true, true_and, and_false, false_and, and_self, or_true, true_or, or_false, false_or, a_append, t_append, n_append, kApg, kWra, kWrt, kWrn, c_5, c_13, c_28, hn8.1, hn8.2, c_40, c_52, hHr, c_109]) (by simp (config := {decide := true}) only [kif_true, kif_false, kb, kup_eq, kup_f, kup_i, not_true_eq_false, not_false_eq_true, and_true, true_and, and_false, false_and, and_self, or_true, true_or, or_false, false_or, a_append, t_append, n_append, kApg, kWra, kWrt, kWrn, c_5, c_13, c_28, hn8.1, hn8.2, c_40, c_52, hHr, c_109]) (by simp (config := {decide := true}) only [kif_true, kif_false, kb, kup_eq, kup_f, kup_i, not_true_eq_false, not_false_eq_true, and_true, true_and, and_false, false_and, and_self, or_true, true_or, or_false, false_or, a_append, t_append, n_append, kApg, kWra, kWrt, kWrn, c_5, c_13, c_28, hn8.1, hn8.2, c_40, c_52, hHr, c_109]) rfl rfl dX4_append_118
        · refine lv_ldc hC.1 hC.2.1 hC.2.2.2.1 (hC.2.2.2.2 _ (kt_in tk_X4_135 rfl)) dX4_append_43 ?_
          exact mkrI hC hr hlk hW (by simp (config := {decide := true}) only [kif_true, kif_false, kb, kup_eq, kup_f, kup_i, not_true_eq_false, not_false_eq_true, and_true, true_and, and_false, false_and, and_self, or_true, true_or, or_false, false_or, a_append, t_append, n_append, kApg, kWra, kWrt, kWrn, c_5, c_13, c_28, hn8.1, hn8.2, c_40]) (by simp (config := {decide := true}) only [kif_true, kif_false, kb, kup_eq, kup_f, kup_i, not_true_eq_false, not_false_eq_true, and_true, true_and, and_false, false_and, and_self, or_true, true_or, or_false, false_or, a_append, t_append, n_append, kApg, kWra, kWrt, kWrn, c_5, c_13, c_28, hn8.1, hn8.2, c_40]) (by simp (config := {decide := true}) only [kif_true, kif_false, kb, kup_eq, kup_f, kup_i, not_true_eq_false, not_false_eq_true, and_true, true_and, and_false, false_and, and_self, or_true, true_or, or_false, false_or, a_append, t_append, n_append, kApg, kWra, kWrt, kWrn, c_5, c_13, c_28, hn8.1, hn8.2, c_40]) rfl rfl dX4_append_45
      · have hn8 : ¬ (¬ n < 1 ∧ n ≤ 8) := fun z => c_28 (kap.mpr z)
        refine lv_ldc hC.1 hC.2.1 hC.2.2.2.1 (hC.2.2.2.2 _ (kt_in tk_X4_110 rfl)) dX4_append_31 ?_
        exact mkrI hC hr hlk hW (by simp (config := {decide := true}) only [kif_true, kif_false, kb, kup_eq, kup_f, kup_i, not_true_eq_false, not_false_eq_true, and_true, true_and, and_false, false_and, and_self, or_true, true_or, or_false, false_or, a_append, t_append, n_append, kApg, kWra, kWrt, kWrn, c_5, c_13, c_28, hn8]) (by simp (config := {decide := true}) only [kif_true, kif_false, kb, kup_eq, kup_f, kup_i, not_true_eq_false, not_false_eq_true, and_true, true_and, and_false, false_and, and_self, or_true, true_or, or_false, false_or, a_append, t_append, n_append, kApg, kWra, kWrt, kWrn, c_5, c_13, c_28, hn8]) (by simp (config := {decide := true}) only [kif_true, kif_false, kb, kup_eq, kup_f, kup_i, not_true_eq_false, not_false_eq_true, and_true, true_and, and_false, false_and, and_self, or_true, true_or, or_false, false_or, a_append, t_append, n_append, kApg, kWra, kWrt, kWrn, c_5, c_13, c_28, hn8]) rfl rfl dX4_append_33
    · refine lv_ldc hC.1 hC.2.1 hC.2.2.2.1 (hC.2.2.2.2 _ (kt_in tk_X4_107 rfl)) dX4_append_16 ?_
      exact mkrI hC hr hlk hW (by simp (config := {decide := true}) only [kif_true, kif_false, kb, kup_eq, kup_f, kup_i, not_true_eq_false, not_false_eq_true, and_true, true_and, and_false, false_and, and_self, or_true, true_or, or_false, false_or, a_append, t_append, n_append, kApg, kWra, kWrt, kWrn, c_5, c_13]) (by simp (config := {decide := true}) only [kif_true, kif_false, kb, kup_eq, kup_f, kup_i, not_true_eq_false, not_false_eq_true, and_true, true_and, and_false, false_and, and_self, or_true, true_or, or_false, false_or, a_append, t_append, n_append, kApg, kWra, kWrt, kWrn, c_5, c_13]) (by simp (config := {decide := true}) only [kif_true, kif_false, kb, kup_eq, kup_f, kup_i, not_true_eq_false, not_false_eq_true, and_true, true_and, and_false, false_and, and_self, or_true, true_or, or_false, false_or, a_append, t_append, n_append, kApg, kWra, kWrt, kWrn, c_5, c_13]) rfl rfl dX4_append_18
set_option maxHeartbeats 4000000 in
set_option maxRecDepth 100000 in
theorem c_X4_write (l : Launch) (D : va_G) (G : Nat → ClassId) (M : Nat → Nat) (hL : mL M) (T N : kT) (r g : Nat → Int32) (p : Int32) (f : Int32) (i : Int32) (v : Int32) (hI1 : kI1 T) (hI2 : kI2 T) (hI3 : kI3 T) (hIc : kIc T) (hIh : kIh T) (hIz : kIz T) (hI9 : kI9 T) (hbl : ∀ x, kCn T x → ¬ kBl T x < 0) : kM l yX4_write cX4_write 6 (some .int) 3 67 (mPc D G M T N r g [.ref (M 0), .int p, .int f, .int i, .int v]) (mQi D G M (a_write T p f i) (t_write T p f i) (n_write T N p f i v) r g) (mA M) := by
  refine kBegin (by decide) (Nat.le_of_ble_eq_true rfl) ?_
  intro zp ze zs zm zargs zbelow zmeth zc hC hr hlk hB ls hl
  obtain ⟨hP, hK⟩ := hB
  have hW : mWd D G M (mA M) zs.heap T N r g zs.heap [] := mWd.start hL hP
  have hl : lv_has ls 6 [(0, .ref (M 0)), (1, .int p), (2, .int f), (3, .int i), (4, .int v)] := hl
  refine lv_aload_n hC.1 hC.2.1 dX4_write_0 rfl (lv_at hl 0 rfl) ?_
  refine lv_iload_n hC.1 hC.2.1 dX4_write_1 rfl (lv_at hl 1 rfl) ?_
  refine keSi (rest := []) (mcV 0 hC hK hW (c_X4_isProcess l D G M hL T N r g p hI1) (kgoodV tm_X4_103 ti_yX4_isProcess te_yX4_isProcess tz_X4 tc_yX4_isProcess) mw_m rfl ⟨rfl, by decide, by decide, (show Option.map _ (parseMethodDescriptor yX4_isProcess.desc) = some 1 from by decide +kernel)⟩ ⟨Nat.le_of_ble_eq_true rfl, Nat.le_of_ble_eq_true rfl⟩ hl.1 rfl (Nat.le_of_ble_eq_true rfl) ⟨Nat.le_refl _, Nat.le_refl _⟩ dX4_write_2) ?_
  refine kif_eq (tgt := 16) hC.1 hC.2.1 dX4_write_5 (by decide) (fun c_5 => ?_) (fun c_5 => ?_)
  · refine lv_ldc hC.1 hC.2.1 hC.2.2.2.1 (hC.2.2.2.2 _ (kt_in tk_X4_107 rfl)) dX4_write_16 ?_
    exact mkrI hC hr hlk hW (by simp (config := {decide := true}) only [kif_true, kif_false, kb, kup_eq, kup_f, kup_i, not_true_eq_false, not_false_eq_true, and_true, true_and, and_false, false_and, and_self, or_true, true_or, or_false, false_or, a_write, t_write, n_write, kWrg, kWra, kWrt, kWrn, c_5]) (by simp (config := {decide := true}) only [kif_true, kif_false, kb, kup_eq, kup_f, kup_i, not_true_eq_false, not_false_eq_true, and_true, true_and, and_false, false_and, and_self, or_true, true_or, or_false, false_or, a_write, t_write, n_write, kWrg, kWra, kWrt, kWrn, c_5]) (by simp (config := {decide := true}) only [kif_true, kif_false, kb, kup_eq, kup_f, kup_i, not_true_eq_false, not_false_eq_true, and_true, true_and, and_false, false_and, and_self, or_true, true_or, or_false, false_or, a_write, t_write, n_write, kWrg, kWra, kWrt, kWrn, c_5]) rfl rfl dX4_write_18
  · refine lv_aload_n hC.1 hC.2.1 dX4_write_8 rfl (lv_at hl 0 rfl) ?_
    refine lv_iload_n hC.1 hC.2.1 dX4_write_9 rfl (lv_at hl 2 rfl) ?_
    refine keSi (rest := []) (mcV 0 hC hK hW (c_X4_isFile l D G M hL T N r g f hI3) (kgoodV tm_X4_201 ti_yX4_isFile te_yX4_isFile tz_X4 tc_yX4_isFile) mw_m rfl ⟨rfl, by decide, by decide, (show Option.map _ (parseMethodDescriptor yX4_isFile.desc) = some 1 from by decide +kernel)⟩ ⟨Nat.le_of_ble_eq_true rfl, Nat.le_of_ble_eq_true rfl⟩ hl.1 rfl (Nat.le_of_ble_eq_true rfl) ⟨Nat.le_refl _, Nat.le_refl _⟩ dX4_write_10) ?_
    refine kif_ne (tgt := 19) hC.1 hC.2.1 dX4_write_13 (by decide) (fun c_13 => ?_) (fun c_13 => ?_)
    · refine lv_iload_n hC.1 hC.2.1 dX4_write_19 rfl (lv_at hl 3 rfl) ?_
      refine lv_i2l hC.1 hC.2.1 dX4_write_20 rfl ?_
      refine lv_lconst (v := 0) hC.1 hC.2.1 dX4_write_21 (by decide) ?_
      refine lv_ldc2 hC.1 hC.2.1 hC.2.2.2.1 (hC.2.2.2.2 _ (kt_in tk_X4_204 rfl)) dX4_write_22 ?_
      refine keSi (rest := []) (kcS0 hC (c_X4_within l i.toInt64 0 (31)) (kgoodS tm_X4_93 ts_yX4_within tz_X4 tc_yX4_within) ⟨rfl, by decide, by decide, (show Option.map _ (parseMethodDescriptor yX4_within.desc) = some 3 from by decide +kernel)⟩ ⟨Nat.le_of_ble_eq_true rfl, Nat.le_of_ble_eq_true rfl⟩ hl.1 rfl (Nat.le_of_ble_eq_true rfl) ⟨Nat.le_refl _, Nat.le_refl _⟩ dX4_write_25) ?_
      refine kif_ne (tgt := 34) hC.1 hC.2.1 dX4_write_28 (by decide) (fun c_28 => ?_) (fun c_28 => ?_)
      · have hi32 := k031.mp c_28
        refine lv_aload_n hC.1 hC.2.1 dX4_write_34 rfl (lv_at hl 0 rfl) ?_
        refine lv_iload_n hC.1 hC.2.1 dX4_write_35 rfl (lv_at hl 1 rfl) ?_
        refine lv_iload_n hC.1 hC.2.1 dX4_write_36 rfl (lv_at hl 2 rfl) ?_
        refine keSi (rest := []) (mcV 0 hC hK hW (c_X4_canWrite l D G M hL T N r g p f c_5.in c_13.1.in) (kgoodV tm_X4_169 ti_yX4_canWrite te_yX4_canWrite tz_X4 tc_yX4_canWrite) mw_m rfl ⟨rfl, by decide, by decide, (show Option.map _ (parseMethodDescriptor yX4_canWrite.desc) = some 2 from by decide +kernel)⟩ ⟨Nat.le_of_ble_eq_true rfl, Nat.le_of_ble_eq_true rfl⟩ hl.1 rfl (Nat.le_of_ble_eq_true rfl) ⟨Nat.le_refl _, Nat.le_refl _⟩ dX4_write_37) ?_
        refine kif_ne (tgt := 46) hC.1 hC.2.1 dX4_write_40 (by decide) (fun c_40 => ?_) (fun c_40 => ?_)
        · refine lv_aload_n hC.1 hC.2.1 dX4_write_46 rfl (lv_at hl 0 rfl) ?_
          refine lv_iload_n hC.1 hC.2.1 dX4_write_47 rfl (lv_at hl 1 rfl) ?_
          refine lv_iload_n hC.1 hC.2.1 dX4_write_48 rfl (lv_at hl 2 rfl) ?_
          refine keSi (rest := []) (mcV 0 hC hK hW (c_X4_canRead l D G M hL T N r g p f c_5.in c_13.1.in) (kgoodV tm_X4_165 ti_yX4_canRead te_yX4_canRead tz_X4 tc_yX4_canRead) mw_m rfl ⟨rfl, by decide, by decide, (show Option.map _ (parseMethodDescriptor yX4_canRead.desc) = some 2 from by decide +kernel)⟩ ⟨Nat.le_of_ble_eq_true rfl, Nat.le_of_ble_eq_true rfl⟩ hl.1 rfl (Nat.le_of_ble_eq_true rfl) ⟨Nat.le_refl _, Nat.le_refl _⟩ dX4_write_49) ?_
          refine kif_ne (tgt := 59) hC.1 hC.2.1 dX4_write_52 (by decide) (fun c_52 => ?_) (fun c_52 => ?_)
          · refine lv_iconst (v := 0) hC.1 hC.2.1 dX4_write_59 (by decide) ?_
            refine lv_istore (lv' := [(5, .int 0), (0, .ref (M 0)), (1, .int p), (2, .int f), (3, .int i), (4, .int v)]) hC.1 hC.2.1 dX4_write_60 hl (by decide) rfl (fun ls hl => ?_)
            refine lv_iload_n hC.1 hC.2.1 dX4_write_62 rfl (lv_at hl 4 rfl) ?_
            refine lv_aload_n hC.1 hC.2.1 dX4_write_63 rfl (lv_at hl 1 rfl) ?_
            refine mg4 hC hK hW 26 (v := .ref (M 21)) rfl (by decide) rfl tf_X4_71 dX4_write_64 ?_
            refine lv_iload_n hC.1 hC.2.1 dX4_write_67 rfl (lv_at hl 3 rfl) ?_
            refine mai hC hK hW 21 (by decide) rfl (i := f) c_13.1.in dX4_write_68 ?_
            refine lv_icmp_le (tgt := 84) hC.1 hC.2.1 dX4_write_69 (by decide) (fun c_69 => ?_) (fun c_69 => ?_)
            · refine lv_iload_n hC.1 hC.2.1 dX4_write_84 rfl (lv_at hl 4 rfl) ?_
              refine lv_aload_n hC.1 hC.2.1 dX4_write_85 rfl (lv_at hl 1 rfl) ?_
              refine mg4 hC hK hW 26 (v := .ref (M 21)) rfl (by decide) rfl tf_X4_71 dX4_write_86 ?_
              refine lv_iload_n hC.1 hC.2.1 dX4_write_89 rfl (lv_at hl 3 rfl) ?_
              refine mai hC hK hW 21 (by decide) rfl (i := f) c_13.1.in dX4_write_90 ?_
              refine lv_icmp_ne (tgt := 126) hC.1 hC.2.1 dX4_write_91 (by decide) (fun c_91 => ?_) (fun c_91 => ?_)
              · have hHr : kHr T (tn f) (i + 1) := kwr_hr hI9 hi32 c_69 (hbl _ (kFl.home hIh hIz c_13)) (Or.inl c_91)
                refine lv_aload_n hC.1 hC.2.1 dX4_write_126 rfl (lv_at hl 1 rfl) ?_
                refine lv_iconst (v := 2) hC.1 hC.2.1 dX4_write_127 (by decide) ?_
                refine meQi (rest := []) (mcV 0 hC hK hW (c_X4_goes l D G M hL T N r g 2 hIc) (kgoodV tm_X4_175 ti_yX4_goes te_yX4_goes tz_X4 tc_yX4_goes) mw_m rfl ⟨rfl, by decide, by decide, (show Option.map _ (parseMethodDescriptor yX4_goes.desc) = some 1 from by decide +kernel)⟩ ⟨Nat.le_of_ble_eq_true rfl, Nat.le_of_ble_eq_true rfl⟩ hl.1 rfl (Nat.le_of_ble_eq_true rfl) ⟨Nat.le_refl _, Nat.le_refl _⟩ dX4_write_128) hW (fun H locs (hW : mWd D G M (mA M) zs.heap (kGoT T 2) N r g H locs) => ?_)
                refine kif_eq (tgt := 175) hC.1 hC.2.1 dX4_write_131 (by decide) (fun c_131 => ?_) (fun c_131 => ?_)
                · rw [show kGoT T 2 = T from kif_f c_131] at hW
                  refine lv_aload_n hC.1 hC.2.1 dX4_write_175 rfl (lv_at hl 1 rfl) ?_
                  refine lv_iconst (v := 1) hC.1 hC.2.1 dX4_write_176 (by decide) ?_
                  refine meQi (rest := []) (mcV 0 hC hK hW (c_X4_answer l D G M hL T N r g 1 hIc hI1 hI2) (kgoodV tm_X4_178 ti_yX4_answer te_yX4_answer tz_X4 tc_yX4_answer) mw_m rfl ⟨rfl, by decide, by decide, (show Option.map _ (parseMethodDescriptor yX4_answer.desc) = some 1 from by decide +kernel)⟩ ⟨Nat.le_of_ble_eq_true rfl, Nat.le_of_ble_eq_true rfl⟩ hl.1 rfl (Nat.le_of_ble_eq_true rfl) ⟨Nat.le_refl _, Nat.le_refl _⟩ dX4_write_177) hW (fun H locs (hW : mWd D G M (mA M) zs.heap (kOt T) N r g H locs) => ?_)
                  exact mkrI hC hr hlk hW (by simp (config := {decide := true}) only [kif_true, kif_false, kb, kup_eq, kup_f, kup_i, not_true_eq_false, not_false_eq_true, and_true, true_and, and_false, false_and, and_self, or_true, true_or, or_false, false_or, a_write, t_write, n_write, kWrg, kWra, kWrt, kWrn, c_5, c_13, c_28, hi32.1, hi32.2, c_40, c_52, c_69, hHr, show kWT T (tn f) i 1 = T from kif_f (by rw [i32_one]; exact c_131)]) (by simp (config := {decide := true}) only [kif_true, kif_false, kb, kup_eq, kup_f, kup_i, not_true_eq_false, not_false_eq_true, and_true, true_and, and_false, false_and, and_self, or_true, true_or, or_false, false_or, a_write, t_write, n_write, kWrg, kWra, kWrt, kWrn, c_5, c_13, c_28, hi32.1, hi32.2, c_40, c_52, c_69, hHr, show kWT T (tn f) i 1 = T from kif_f (by rw [i32_one]; exact c_131)]) (by simp (config := {decide := true}) only [kif_true, kif_false, kb, kup_eq, kup_f, kup_i, not_true_eq_false, not_false_eq_true, and_true, true_and, and_false, false_and, and_self, or_true, true_or, or_false, false_or, a_write, t_write, n_write, kWrg, kWra, kWrt, kWrn, c_5, c_13, c_28, hi32.1, hi32.2, c_40, c_52, c_69, hHr, show kWN T N (tn f) i 1 v = N from kif_f (by rw [i32_one]; exact c_131)]) rfl rfl dX4_write_180
                · rw [show kGoT T 2 = kup T 0 7 (T 0 7 + 2) from kif_t c_131] at hW
                  refine lv_aload_n hC.1 hC.2.1 dX4_write_134 rfl (lv_at hl 1 rfl) ?_
                  refine mg4 hC hK hW 27 (v := .ref (M 22)) rfl (by decide) rfl tf_X4_74 dX4_write_135 ?_
                  refine lv_bipush (v := 32) hC.1 hC.2.1 dX4_write_138 (by decide) ?_
                  refine lv_iload_n hC.1 hC.2.1 dX4_write_140 rfl (lv_at hl 3 rfl) ?_
                  refine lv_imul hC.1 hC.2.1 dX4_write_141 ?_
                  refine lv_iload_n hC.1 hC.2.1 dX4_write_142 rfl (lv_at hl 4 rfl) ?_
                  refine lv_iadd hC.1 hC.2.1 dX4_write_143 ?_
                  rw [show (((32 * f) + i) : Int32) = nI (32 * tn f + tn i) from (nu_ix c_13.1.1 hi32.1)]
                  refine lv_iload hC.1 hC.2.1 dX4_write_144 (lv_at hl 5 rfl) ?_
                  refine mai_sN hC hK hW 22 (by decide) rfl (i := (32 * tn f + tn i)) (by have z1 := c_13.lt; have z2 := keq_tn (n := 32) hi32.2 hi32.1 (by decide); omega) (mw_nu (tn f) (tn i) (keq_tn (n := 32) hi32.2 hi32.1 (by decide)) v) dX4_write_146 (fun H locs (hW : mWd D G M (mA M) zs.heap (kup T 0 7 (T 0 7 + 2)) (kuN N (tn f) (tn i) v) r g H locs) => ?_)
                  refine lv_aload_n hC.1 hC.2.1 dX4_write_147 rfl (lv_at hl 1 rfl) ?_
                  refine mg4 hC hK hW 26 (v := .ref (M 21)) rfl (by decide) rfl tf_X4_71 dX4_write_148 ?_
                  refine lv_iload_n hC.1 hC.2.1 dX4_write_151 rfl (lv_at hl 3 rfl) ?_
                  refine lv_iload_n hC.1 hC.2.1 dX4_write_152 rfl (lv_at hl 4 rfl) ?_
                  refine lv_aload_n hC.1 hC.2.1 dX4_write_153 rfl (lv_at hl 1 rfl) ?_
                  refine mg4 hC hK hW 26 (v := .ref (M 21)) rfl (by decide) rfl tf_X4_71 dX4_write_154 ?_
                  refine lv_iload_n hC.1 hC.2.1 dX4_write_157 rfl (lv_at hl 3 rfl) ?_
                  refine mai hC hK hW 21 (by decide) rfl (i := f) c_13.1.in dX4_write_158 ?_
                  rw [show ((kup T 0 7 (T 0 7 + 2)) 25 (tn f) : Int32) = T 25 (tn f) from rfl]
                  refine lv_icmp_ne (tgt := 168) hC.1 hC.2.1 dX4_write_159 (by decide) (fun c_159 => ?_) (fun c_159 => ?_)
                  · refine lv_aload_n hC.1 hC.2.1 dX4_write_168 rfl (lv_at hl 1 rfl) ?_
                    refine mg4 hC hK hW 26 (v := .ref (M 21)) rfl (by decide) rfl tf_X4_71 dX4_write_169 ?_
                    refine lv_iload_n hC.1 hC.2.1 dX4_write_172 rfl (lv_at hl 3 rfl) ?_
                    refine mai hC hK hW 21 (by decide) rfl (i := f) c_13.1.in dX4_write_173 ?_
                    rw [show ((kup T 0 7 (T 0 7 + 2)) 25 (tn f) : Int32) = T 25 (tn f) from rfl]
                    refine mai_s hC hK hW 21 (by decide) rfl (i := f) c_13.1.in (mw_ar_21 (tn f) (T 25 (tn f))) dX4_write_174 (fun H locs (hW : mWd D G M (mA M) zs.heap (kup (kup T 0 7 (T 0 7 + 2)) 25 (tn f) (T 25 (tn f))) (kuN N (tn f) (tn i) v) r g H locs) => ?_)
                    refine lv_aload_n hC.1 hC.2.1 dX4_write_175 rfl (lv_at hl 1 rfl) ?_
                    refine lv_iconst (v := 1) hC.1 hC.2.1 dX4_write_176 (by decide) ?_
                    refine meQi (rest := []) (mcV 0 hC hK hW (c_X4_answer l D G M hL (kup (kup T 0 7 (T 0 7 + 2)) 25 (tn f) (T 25 (tn f))) (kuN N (tn f) (tn i) v) r g 1 hIc hI1 hI2) (kgoodV tm_X4_178 ti_yX4_answer te_yX4_answer tz_X4 tc_yX4_answer) mw_m rfl ⟨rfl, by decide, by decide, (show Option.map _ (parseMethodDescriptor yX4_answer.desc) = some 1 from by decide +kernel)⟩ ⟨Nat.le_of_ble_eq_true rfl, Nat.le_of_ble_eq_true rfl⟩ hl.1 rfl (Nat.le_of_ble_eq_true rfl) ⟨Nat.le_refl _, Nat.le_refl _⟩ dX4_write_177) hW (fun H locs (hW : mWd D G M (mA M) zs.heap (kOt (kup (kup T 0 7 (T 0 7 + 2)) 25 (tn f) (T 25 (tn f)))) (kuN N (tn f) (tn i) v) r g H locs) => ?_)
                    exact mkrI hC hr hlk hW (by rw [kwr_T hI9 hi32 c_69 (Or.inr ⟨c_159, rfl⟩) c_131]; simp (config := {decide := true}) only [kif_true, kif_false, kb, kup_eq, kup_f, kup_i, not_true_eq_false, not_false_eq_true, and_true, true_and, and_false, false_and, and_self, or_true, true_or, or_false, false_or, a_write, t_write, n_write, kWrg, kWra, kWrt, kWrn, c_5, c_13, c_28, hi32.1, hi32.2, c_40, c_52, c_69, hHr]) (by rw [kwr_T hI9 hi32 c_69 (Or.inr ⟨c_159, rfl⟩) c_131]; simp (config := {decide := true}) only [kif_true, kif_false, kb, kup_eq, kup_f, kup_i, not_true_eq_false, not_false_eq_true, and_true, true_and, and_false, false_and, and_self, or_true, true_or, or_false, false_or, a_write, t_write, n_write, kWrg, kWra, kWrt, kWrn, c_5, c_13, c_28, hi32.1, hi32.2, c_40, c_52, c_69, hHr]) (by rw [kwr_N hi32 c_131]; simp (config := {decide := true}) only [kif_true, kif_false, kb, kup_eq, kup_f, kup_i, not_true_eq_false, not_false_eq_true, and_true, true_and, and_false, false_and, and_self, or_true, true_or, or_false, false_or, a_write, t_write, n_write, kWrg, kWra, kWrt, kWrn, c_5, c_13, c_28, hi32.1, hi32.2, c_40, c_52, c_69, hHr]) rfl rfl dX4_write_180
                  · refine lv_iload_n hC.1 hC.2.1 dX4_write_162 rfl (lv_at hl 4 rfl) ?_
                    refine lv_iconst (v := 1) hC.1 hC.2.1 dX4_write_163 (by decide) ?_
                    refine lv_iadd hC.1 hC.2.1 dX4_write_164 ?_
                    refine lv_goto (tgt := 174) hC.1 hC.2.1 dX4_write_165 (by decide) ?_
                    refine mai_s hC hK hW 21 (by decide) rfl (i := f) c_13.1.in (mw_ar_21 (tn f) (i + 1)) dX4_write_174 (fun H locs (hW : mWd D G M (mA M) zs.heap (kup (kup T 0 7 (T 0 7 + 2)) 25 (tn f) (i + 1)) (kuN N (tn f) (tn i) v) r g H locs) => ?_)
                    refine lv_aload_n hC.1 hC.2.1 dX4_write_175 rfl (lv_at hl 1 rfl) ?_
                    refine lv_iconst (v := 1) hC.1 hC.2.1 dX4_write_176 (by decide) ?_
                    refine meQi (rest := []) (mcV 0 hC hK hW (c_X4_answer l D G M hL (kup (kup T 0 7 (T 0 7 + 2)) 25 (tn f) (i + 1)) (kuN N (tn f) (tn i) v) r g 1 hIc hI1 hI2) (kgoodV tm_X4_178 ti_yX4_answer te_yX4_answer tz_X4 tc_yX4_answer) mw_m rfl ⟨rfl, by decide, by decide, (show Option.map _ (parseMethodDescriptor yX4_answer.desc) = some 1 from by decide +kernel)⟩ ⟨Nat.le_of_ble_eq_true rfl, Nat.le_of_ble_eq_true rfl⟩ hl.1 rfl (Nat.le_of_ble_eq_true rfl) ⟨Nat.le_refl _, Nat.le_refl _⟩ dX4_write_177) hW (fun H locs (hW : mWd D G M (mA M) zs.heap (kOt (kup (kup T 0 7 (T 0 7 + 2)) 25 (tn f) (i + 1))) (kuN N (tn f) (tn i) v) r g H locs) => ?_)
                    exact mkrI hC hr hlk hW (by rw [kwr_T hI9 hi32 c_69 (Or.inl ⟨c_159, rfl⟩) c_131]; simp (config := {decide := true}) only [kif_true, kif_false, kb, kup_eq, kup_f, kup_i, not_true_eq_false, not_false_eq_true, and_true, true_and, and_false, false_and, and_self, or_true, true_or, or_false, false_or, a_write, t_write, n_write, kWrg, kWra, kWrt, kWrn, c_5, c_13, c_28, hi32.1, hi32.2, c_40, c_52, c_69, hHr]) (by rw [kwr_T hI9 hi32 c_69 (Or.inl ⟨c_159, rfl⟩) c_131]; simp (config := {decide := true}) only [kif_true, kif_false, kb, kup_eq, kup_f, kup_i, not_true_eq_false, not_false_eq_true, and_true, true_and, and_false, false_and, and_self, or_true, true_or, or_false, false_or, a_write, t_write, n_write, kWrg, kWra, kWrt, kWrn, c_5, c_13, c_28, hi32.1, hi32.2, c_40, c_52, c_69, hHr]) (by rw [kwr_N hi32 c_131]; simp (config := {decide := true}) only [kif_true, kif_false, kb, kup_eq, kup_f, kup_i, not_true_eq_false, not_false_eq_true, and_true, true_and, and_false, false_and, and_self, or_true, true_or, or_false, false_or, a_write, t_write, n_write, kWrg, kWra, kWrt, kWrn, c_5, c_13, c_28, hi32.1, hi32.2, c_40, c_52, c_69, hHr]) rfl rfl dX4_write_180
              · refine lv_iload_n hC.1 hC.2.1 dX4_write_94 rfl (lv_at hl 4 rfl) ?_
                refine lv_iconst (v := 4) hC.1 hC.2.1 dX4_write_95 (by decide) ?_
                refine lv_irem hC.1 hC.2.1 dX4_write_96 (by decide) ?_
                refine lv_if_ne (tgt := 126) hC.1 hC.2.1 dX4_write_97 (by decide) (fun c_97 => ?_) (fun c_97 => ?_)
                · have hHr : kHr T (tn f) (i + 1) := kwr_hr hI9 hi32 c_69 (hbl _ (kFl.home hIh hIz c_13)) (Or.inr (Or.inl c_97))
                  refine lv_aload_n hC.1 hC.2.1 dX4_write_126 rfl (lv_at hl 1 rfl) ?_
                  refine lv_iconst (v := 2) hC.1 hC.2.1 dX4_write_127 (by decide) ?_
                  refine meQi (rest := []) (mcV 0 hC hK hW (c_X4_goes l D G M hL T N r g 2 hIc) (kgoodV tm_X4_175 ti_yX4_goes te_yX4_goes tz_X4 tc_yX4_goes) mw_m rfl ⟨rfl, by decide, by decide, (show Option.map _ (parseMethodDescriptor yX4_goes.desc) = some 1 from by decide +kernel)⟩ ⟨Nat.le_of_ble_eq_true rfl, Nat.le_of_ble_eq_true rfl⟩ hl.1 rfl (Nat.le_of_ble_eq_true rfl) ⟨Nat.le_refl _, Nat.le_refl _⟩ dX4_write_128) hW (fun H locs (hW : mWd D G M (mA M) zs.heap (kGoT T 2) N r g H locs) => ?_)
                  refine kif_eq (tgt := 175) hC.1 hC.2.1 dX4_write_131 (by decide) (fun c_131 => ?_) (fun c_131 => ?_)
                  · rw [show kGoT T 2 = T from kif_f c_131] at hW
                    refine lv_aload_n hC.1 hC.2.1 dX4_write_175 rfl (lv_at hl 1 rfl) ?_
                    refine lv_iconst (v := 1) hC.1 hC.2.1 dX4_write_176 (by decide) ?_
                    refine meQi (rest := []) (mcV 0 hC hK hW (c_X4_answer l D G M hL T N r g 1 hIc hI1 hI2) (kgoodV tm_X4_178 ti_yX4_answer te_yX4_answer tz_X4 tc_yX4_answer) mw_m rfl ⟨rfl, by decide, by decide, (show Option.map _ (parseMethodDescriptor yX4_answer.desc) = some 1 from by decide +kernel)⟩ ⟨Nat.le_of_ble_eq_true rfl, Nat.le_of_ble_eq_true rfl⟩ hl.1 rfl (Nat.le_of_ble_eq_true rfl) ⟨Nat.le_refl _, Nat.le_refl _⟩ dX4_write_177) hW (fun H locs (hW : mWd D G M (mA M) zs.heap (kOt T) N r g H locs) => ?_)
                    exact mkrI hC hr hlk hW (by simp (config := {decide := true}) only [kif_true, kif_false, kb, kup_eq, kup_f, kup_i, not_true_eq_false, not_false_eq_true, and_true, true_and, and_false, false_and, and_self, or_true, true_or, or_false, false_or, a_write, t_write, n_write, kWrg, kWra, kWrt, kWrn, c_5, c_13, c_28, hi32.1, hi32.2, c_40, c_52, c_69, hHr, show kWT T (tn f) i 1 = T from kif_f (by rw [i32_one]; exact c_131)]) (by simp (config := {decide := true}) only [kif_true, kif_false, kb, kup_eq, kup_f, kup_i, not_true_eq_false, not_false_eq_true, and_true, true_and, and_false, false_and, and_self, or_true, true_or, or_false, false_or, a_write, t_write, n_write, kWrg, kWra, kWrt, kWrn, c_5, c_13, c_28, hi32.1, hi32.2, c_40, c_52, c_69, hHr, show kWT T (tn f) i 1 = T from kif_f (by rw [i32_one]; exact c_131)]) (by simp (config := {decide := true}) only [kif_true, kif_false, kb, kup_eq, kup_f, kup_i, not_true_eq_false, not_false_eq_true, and_true, true_and, and_false, false_and, and_self, or_true, true_or, or_false, false_or, a_write, t_write, n_write, kWrg, kWra, kWrt, kWrn, c_5, c_13, c_28, hi32.1, hi32.2, c_40, c_52, c_69, hHr, show kWN T N (tn f) i 1 v = N from kif_f (by rw [i32_one]; exact c_131)]) rfl rfl dX4_write_180
                  · rw [show kGoT T 2 = kup T 0 7 (T 0 7 + 2) from kif_t c_131] at hW
                    refine lv_aload_n hC.1 hC.2.1 dX4_write_134 rfl (lv_at hl 1 rfl) ?_
                    refine mg4 hC hK hW 27 (v := .ref (M 22)) rfl (by decide) rfl tf_X4_74 dX4_write_135 ?_
                    refine lv_bipush (v := 32) hC.1 hC.2.1 dX4_write_138 (by decide) ?_
                    refine lv_iload_n hC.1 hC.2.1 dX4_write_140 rfl (lv_at hl 3 rfl) ?_
                    refine lv_imul hC.1 hC.2.1 dX4_write_141 ?_
                    refine lv_iload_n hC.1 hC.2.1 dX4_write_142 rfl (lv_at hl 4 rfl) ?_
                    refine lv_iadd hC.1 hC.2.1 dX4_write_143 ?_
                    rw [show (((32 * f) + i) : Int32) = nI (32 * tn f + tn i) from (nu_ix c_13.1.1 hi32.1)]
                    refine lv_iload hC.1 hC.2.1 dX4_write_144 (lv_at hl 5 rfl) ?_
                    refine mai_sN hC hK hW 22 (by decide) rfl (i := (32 * tn f + tn i)) (by have z1 := c_13.lt; have z2 := keq_tn (n := 32) hi32.2 hi32.1 (by decide); omega) (mw_nu (tn f) (tn i) (keq_tn (n := 32) hi32.2 hi32.1 (by decide)) v) dX4_write_146 (fun H locs (hW : mWd D G M (mA M) zs.heap (kup T 0 7 (T 0 7 + 2)) (kuN N (tn f) (tn i) v) r g H locs) => ?_)
                    refine lv_aload_n hC.1 hC.2.1 dX4_write_147 rfl (lv_at hl 1 rfl) ?_
                    refine mg4 hC hK hW 26 (v := .ref (M 21)) rfl (by decide) rfl tf_X4_71 dX4_write_148 ?_
                    refine lv_iload_n hC.1 hC.2.1 dX4_write_151 rfl (lv_at hl 3 rfl) ?_
                    refine lv_iload_n hC.1 hC.2.1 dX4_write_152 rfl (lv_at hl 4 rfl) ?_
                    refine lv_aload_n hC.1 hC.2.1 dX4_write_153 rfl (lv_at hl 1 rfl) ?_
                    refine mg4 hC hK hW 26 (v := .ref (M 21)) rfl (by decide) rfl tf_X4_71 dX4_write_154 ?_
                    refine lv_iload_n hC.1 hC.2.1 dX4_write_157 rfl (lv_at hl 3 rfl) ?_
                    refine mai hC hK hW 21 (by decide) rfl (i := f) c_13.1.in dX4_write_158 ?_
                    rw [show ((kup T 0 7 (T 0 7 + 2)) 25 (tn f) : Int32) = T 25 (tn f) from rfl]
                    refine lv_icmp_ne (tgt := 168) hC.1 hC.2.1 dX4_write_159 (by decide) (fun c_159 => ?_) (fun c_159 => ?_)
                    · refine lv_aload_n hC.1 hC.2.1 dX4_write_168 rfl (lv_at hl 1 rfl) ?_
                      refine mg4 hC hK hW 26 (v := .ref (M 21)) rfl (by decide) rfl tf_X4_71 dX4_write_169 ?_
                      refine lv_iload_n hC.1 hC.2.1 dX4_write_172 rfl (lv_at hl 3 rfl) ?_
                      refine mai hC hK hW 21 (by decide) rfl (i := f) c_13.1.in dX4_write_173 ?_
                      rw [show ((kup T 0 7 (T 0 7 + 2)) 25 (tn f) : Int32) = T 25 (tn f) from rfl]
                      refine mai_s hC hK hW 21 (by decide) rfl (i := f) c_13.1.in (mw_ar_21 (tn f) (T 25 (tn f))) dX4_write_174 (fun H locs (hW : mWd D G M (mA M) zs.heap (kup (kup T 0 7 (T 0 7 + 2)) 25 (tn f) (T 25 (tn f))) (kuN N (tn f) (tn i) v) r g H locs) => ?_)
                      refine lv_aload_n hC.1 hC.2.1 dX4_write_175 rfl (lv_at hl 1 rfl) ?_
                      refine lv_iconst (v := 1) hC.1 hC.2.1 dX4_write_176 (by decide) ?_
                      refine meQi (rest := []) (mcV 0 hC hK hW (c_X4_answer l D G M hL (kup (kup T 0 7 (T 0 7 + 2)) 25 (tn f) (T 25 (tn f))) (kuN N (tn f) (tn i) v) r g 1 hIc hI1 hI2) (kgoodV tm_X4_178 ti_yX4_answer te_yX4_answer tz_X4 tc_yX4_answer) mw_m rfl ⟨rfl, by decide, by decide, (show Option.map _ (parseMethodDescriptor yX4_answer.desc) = some 1 from by decide +kernel)⟩ ⟨Nat.le_of_ble_eq_true rfl, Nat.le_of_ble_eq_true rfl⟩ hl.1 rfl (Nat.le_of_ble_eq_true rfl) ⟨Nat.le_refl _, Nat.le_refl _⟩ dX4_write_177) hW (fun H locs (hW : mWd D G M (mA M) zs.heap (kOt (kup (kup T 0 7 (T 0 7 + 2)) 25 (tn f) (T 25 (tn f)))) (kuN N (tn f) (tn i) v) r g H locs) => ?_)
                      exact mkrI hC hr hlk hW (by rw [kwr_T hI9 hi32 c_69 (Or.inr ⟨c_159, rfl⟩) c_131]; simp (config := {decide := true}) only [kif_true, kif_false, kb, kup_eq, kup_f, kup_i, not_true_eq_false, not_false_eq_true, and_true, true_and, and_false, false_and, and_self, or_true, true_or, or_false, false_or, a_write, t_write, n_write, kWrg, kWra, kWrt, kWrn, c_5, c_13, c_28, hi32.1, hi32.2, c_40, c_52, c_69, hHr]) (by rw [kwr_T hI9 hi32 c_69 (Or.inr ⟨c_159, rfl⟩) c_131]; simp (config := {decide := true}) only [kif_true, kif_false, kb, kup_eq, kup_f, kup_i, not_true_eq_false, not_false_eq_true, and_true, true_and, and_false, false_and, and_self, or_true, true_or, or_false, false_or, a_write, t_write, n_write, kWrg, kWra, kWrt, kWrn, c_5, c_13, c_28, hi32.1, hi32.2, c_40, c_52, c_69, hHr]) (by rw [kwr_N hi32 c_131]; simp (config := {decide := true}) only [kif_true, kif_false, kb, kup_eq, kup_f, kup_i, not_true_eq_false, not_false_eq_true, and_true, true_and, and_false, false_and, and_self, or_true, true_or, or_false, false_or, a_write, t_write, n_write, kWrg, kWra, kWrt, kWrn, c_5, c_13, c_28, hi32.1, hi32.2, c_40, c_52, c_69, hHr]) rfl rfl dX4_write_180
                    · refine lv_iload_n hC.1 hC.2.1 dX4_write_162 rfl (lv_at hl 4 rfl) ?_
                      refine lv_iconst (v := 1) hC.1 hC.2.1 dX4_write_163 (by decide) ?_
                      refine lv_iadd hC.1 hC.2.1 dX4_write_164 ?_
                      refine lv_goto (tgt := 174) hC.1 hC.2.1 dX4_write_165 (by decide) ?_
                      refine mai_s hC hK hW 21 (by decide) rfl (i := f) c_13.1.in (mw_ar_21 (tn f) (i + 1)) dX4_write_174 (fun H locs (hW : mWd D G M (mA M) zs.heap (kup (kup T 0 7 (T 0 7 + 2)) 25 (tn f) (i + 1)) (kuN N (tn f) (tn i) v) r g H locs) => ?_)
                      refine lv_aload_n hC.1 hC.2.1 dX4_write_175 rfl (lv_at hl 1 rfl) ?_
                      refine lv_iconst (v := 1) hC.1 hC.2.1 dX4_write_176 (by decide) ?_
                      refine meQi (rest := []) (mcV 0 hC hK hW (c_X4_answer l D G M hL (kup (kup T 0 7 (T 0 7 + 2)) 25 (tn f) (i + 1)) (kuN N (tn f) (tn i) v) r g 1 hIc hI1 hI2) (kgoodV tm_X4_178 ti_yX4_answer te_yX4_answer tz_X4 tc_yX4_answer) mw_m rfl ⟨rfl, by decide, by decide, (show Option.map _ (parseMethodDescriptor yX4_answer.desc) = some 1 from by decide +kernel)⟩ ⟨Nat.le_of_ble_eq_true rfl, Nat.le_of_ble_eq_true rfl⟩ hl.1 rfl (Nat.le_of_ble_eq_true rfl) ⟨Nat.le_refl _, Nat.le_refl _⟩ dX4_write_177) hW (fun H locs (hW : mWd D G M (mA M) zs.heap (kOt (kup (kup T 0 7 (T 0 7 + 2)) 25 (tn f) (i + 1))) (kuN N (tn f) (tn i) v) r g H locs) => ?_)
                      exact mkrI hC hr hlk hW (by rw [kwr_T hI9 hi32 c_69 (Or.inl ⟨c_159, rfl⟩) c_131]; simp (config := {decide := true}) only [kif_true, kif_false, kb, kup_eq, kup_f, kup_i, not_true_eq_false, not_false_eq_true, and_true, true_and, and_false, false_and, and_self, or_true, true_or, or_false, false_or, a_write, t_write, n_write, kWrg, kWra, kWrt, kWrn, c_5, c_13, c_28, hi32.1, hi32.2, c_40, c_52, c_69, hHr]) (by rw [kwr_T hI9 hi32 c_69 (Or.inl ⟨c_159, rfl⟩) c_131]; simp (config := {decide := true}) only [kif_true, kif_false, kb, kup_eq, kup_f, kup_i, not_true_eq_false, not_false_eq_true, and_true, true_and, and_false, false_and, and_self, or_true, true_or, or_false, false_or, a_write, t_write, n_write, kWrg, kWra, kWrt, kWrn, c_5, c_13, c_28, hi32.1, hi32.2, c_40, c_52, c_69, hHr]) (by rw [kwr_N hi32 c_131]; simp (config := {decide := true}) only [kif_true, kif_false, kb, kup_eq, kup_f, kup_i, not_true_eq_false, not_false_eq_true, and_true, true_and, and_false, false_and, and_self, or_true, true_or, or_false, false_or, a_write, t_write, n_write, kWrg, kWra, kWrt, kWrn, c_5, c_13, c_28, hi32.1, hi32.2, c_40, c_52, c_69, hHr]) rfl rfl dX4_write_180
                · refine lv_aload_n hC.1 hC.2.1 dX4_write_100 rfl (lv_at hl 1 rfl) ?_
                  refine lv_aload_n hC.1 hC.2.1 dX4_write_101 rfl (lv_at hl 1 rfl) ?_
                  refine mg4 hC hK hW 23 (v := .ref (M 18)) rfl (by decide) rfl tf_X4_62 dX4_write_102 ?_
                  refine lv_iload_n hC.1 hC.2.1 dX4_write_105 rfl (lv_at hl 3 rfl) ?_
                  refine mai hC hK hW 18 (by decide) rfl (i := f) c_13.1.in dX4_write_106 ?_
                  refine keSi (rest := []) (mcV 0 hC hK hW (c_X4_blocksLeft l D G M hL T N r g (T 20 (tn f)) hI3 (kFl.home hIh hIz c_13)) (kgoodV tm_X4_191 ti_yX4_blocksLeft te_yX4_blocksLeft tz_X4 tc_yX4_blocksLeft) mw_m rfl ⟨rfl, by decide, by decide, (show Option.map _ (parseMethodDescriptor yX4_blocksLeft.desc) = some 1 from by decide +kernel)⟩ ⟨Nat.le_of_ble_eq_true rfl, Nat.le_of_ble_eq_true rfl⟩ hl.1 rfl (Nat.le_of_ble_eq_true rfl) ⟨Nat.le_refl _, Nat.le_refl _⟩ dX4_write_107) ?_
                  refine lv_iconst (v := 1) hC.1 hC.2.1 dX4_write_110 (by decide) ?_
                  refine lv_icmp_ge (tgt := 126) hC.1 hC.2.1 dX4_write_111 (by decide) (fun c_111 => ?_) (fun c_111 => ?_)
                  · have hHr : kHr T (tn f) (i + 1) := kwr_hr hI9 hi32 c_69 (hbl _ (kFl.home hIh hIz c_13)) (Or.inr (Or.inr c_111))
                    refine lv_aload_n hC.1 hC.2.1 dX4_write_126 rfl (lv_at hl 1 rfl) ?_
                    refine lv_iconst (v := 2) hC.1 hC.2.1 dX4_write_127 (by decide) ?_
                    refine meQi (rest := []) (mcV 0 hC hK hW (c_X4_goes l D G M hL T N r g 2 hIc) (kgoodV tm_X4_175 ti_yX4_goes te_yX4_goes tz_X4 tc_yX4_goes) mw_m rfl ⟨rfl, by decide, by decide, (show Option.map _ (parseMethodDescriptor yX4_goes.desc) = some 1 from by decide +kernel)⟩ ⟨Nat.le_of_ble_eq_true rfl, Nat.le_of_ble_eq_true rfl⟩ hl.1 rfl (Nat.le_of_ble_eq_true rfl) ⟨Nat.le_refl _, Nat.le_refl _⟩ dX4_write_128) hW (fun H locs (hW : mWd D G M (mA M) zs.heap (kGoT T 2) N r g H locs) => ?_)
                    refine kif_eq (tgt := 175) hC.1 hC.2.1 dX4_write_131 (by decide) (fun c_131 => ?_) (fun c_131 => ?_)
                    · rw [show kGoT T 2 = T from kif_f c_131] at hW
                      refine lv_aload_n hC.1 hC.2.1 dX4_write_175 rfl (lv_at hl 1 rfl) ?_
                      refine lv_iconst (v := 1) hC.1 hC.2.1 dX4_write_176 (by decide) ?_
                      refine meQi (rest := []) (mcV 0 hC hK hW (c_X4_answer l D G M hL T N r g 1 hIc hI1 hI2) (kgoodV tm_X4_178 ti_yX4_answer te_yX4_answer tz_X4 tc_yX4_answer) mw_m rfl ⟨rfl, by decide, by decide, (show Option.map _ (parseMethodDescriptor yX4_answer.desc) = some 1 from by decide +kernel)⟩ ⟨Nat.le_of_ble_eq_true rfl, Nat.le_of_ble_eq_true rfl⟩ hl.1 rfl (Nat.le_of_ble_eq_true rfl) ⟨Nat.le_refl _, Nat.le_refl _⟩ dX4_write_177) hW (fun H locs (hW : mWd D G M (mA M) zs.heap (kOt T) N r g H locs) => ?_)
                      exact mkrI hC hr hlk hW (by simp (config := {decide := true}) only [kif_true, kif_false, kb, kup_eq, kup_f, kup_i, not_true_eq_false, not_false_eq_true, and_true, true_and, and_false, false_and, and_self, or_true, true_or, or_false, false_or, a_write, t_write, n_write, kWrg, kWra, kWrt, kWrn, c_5, c_13, c_28, hi32.1, hi32.2, c_40, c_52, c_69, hHr, show kWT T (tn f) i 1 = T from kif_f (by rw [i32_one]; exact c_131)]) (by simp (config := {decide := true}) only [kif_true, kif_false, kb, kup_eq, kup_f, kup_i, not_true_eq_false, not_false_eq_true, and_true, true_and, and_false, false_and, and_self, or_true, true_or, or_false, false_or, a_write, t_write, n_write, kWrg, kWra, kWrt, kWrn, c_5, c_13, c_28, hi32.1, hi32.2, c_40, c_52, c_69, hHr, show kWT T (tn f) i 1 = T from kif_f (by rw [i32_one]; exact c_131)]) (by simp (config := {decide := true}) only [kif_true, kif_false, kb, kup_eq, kup_f, kup_i, not_true_eq_false, not_false_eq_true, and_true, true_and, and_false, false_and, and_self, or_true, true_or, or_false, false_or, a_write, t_write, n_write, kWrg, kWra, kWrt, kWrn, c_5, c_13, c_28, hi32.1, hi32.2, c_40, c_52, c_69, hHr, show kWN T N (tn f) i 1 v = N from kif_f (by rw [i32_one]; exact c_131)]) rfl rfl dX4_write_180
                    · rw [show kGoT T 2 = kup T 0 7 (T 0 7 + 2) from kif_t c_131] at hW
                      refine lv_aload_n hC.1 hC.2.1 dX4_write_134 rfl (lv_at hl 1 rfl) ?_
                      refine mg4 hC hK hW 27 (v := .ref (M 22)) rfl (by decide) rfl tf_X4_74 dX4_write_135 ?_
                      refine lv_bipush (v := 32) hC.1 hC.2.1 dX4_write_138 (by decide) ?_
                      refine lv_iload_n hC.1 hC.2.1 dX4_write_140 rfl (lv_at hl 3 rfl) ?_
                      refine lv_imul hC.1 hC.2.1 dX4_write_141 ?_
                      refine lv_iload_n hC.1 hC.2.1 dX4_write_142 rfl (lv_at hl 4 rfl) ?_
                      refine lv_iadd hC.1 hC.2.1 dX4_write_143 ?_
                      rw [show (((32 * f) + i) : Int32) = nI (32 * tn f + tn i) from (nu_ix c_13.1.1 hi32.1)]
                      refine lv_iload hC.1 hC.2.1 dX4_write_144 (lv_at hl 5 rfl) ?_
                      refine mai_sN hC hK hW 22 (by decide) rfl (i := (32 * tn f + tn i)) (by have z1 := c_13.lt; have z2 := keq_tn (n := 32) hi32.2 hi32.1 (by decide); omega) (mw_nu (tn f) (tn i) (keq_tn (n := 32) hi32.2 hi32.1 (by decide)) v) dX4_write_146 (fun H locs (hW : mWd D G M (mA M) zs.heap (kup T 0 7 (T 0 7 + 2)) (kuN N (tn f) (tn i) v) r g H locs) => ?_)
                      refine lv_aload_n hC.1 hC.2.1 dX4_write_147 rfl (lv_at hl 1 rfl) ?_
                      refine mg4 hC hK hW 26 (v := .ref (M 21)) rfl (by decide) rfl tf_X4_71 dX4_write_148 ?_
                      refine lv_iload_n hC.1 hC.2.1 dX4_write_151 rfl (lv_at hl 3 rfl) ?_
                      refine lv_iload_n hC.1 hC.2.1 dX4_write_152 rfl (lv_at hl 4 rfl) ?_
                      refine lv_aload_n hC.1 hC.2.1 dX4_write_153 rfl (lv_at hl 1 rfl) ?_
                      refine mg4 hC hK hW 26 (v := .ref (M 21)) rfl (by decide) rfl tf_X4_71 dX4_write_154 ?_
                      refine lv_iload_n hC.1 hC.2.1 dX4_write_157 rfl (lv_at hl 3 rfl) ?_
                      refine mai hC hK hW 21 (by decide) rfl (i := f) c_13.1.in dX4_write_158 ?_
                      rw [show ((kup T 0 7 (T 0 7 + 2)) 25 (tn f) : Int32) = T 25 (tn f) from rfl]
                      refine lv_icmp_ne (tgt := 168) hC.1 hC.2.1 dX4_write_159 (by decide) (fun c_159 => ?_) (fun c_159 => ?_)
                      · refine lv_aload_n hC.1 hC.2.1 dX4_write_168 rfl (lv_at hl 1 rfl) ?_
                        refine mg4 hC hK hW 26 (v := .ref (M 21)) rfl (by decide) rfl tf_X4_71 dX4_write_169 ?_
                        refine lv_iload_n hC.1 hC.2.1 dX4_write_172 rfl (lv_at hl 3 rfl) ?_
                        refine mai hC hK hW 21 (by decide) rfl (i := f) c_13.1.in dX4_write_173 ?_
                        rw [show ((kup T 0 7 (T 0 7 + 2)) 25 (tn f) : Int32) = T 25 (tn f) from rfl]
                        refine mai_s hC hK hW 21 (by decide) rfl (i := f) c_13.1.in (mw_ar_21 (tn f) (T 25 (tn f))) dX4_write_174 (fun H locs (hW : mWd D G M (mA M) zs.heap (kup (kup T 0 7 (T 0 7 + 2)) 25 (tn f) (T 25 (tn f))) (kuN N (tn f) (tn i) v) r g H locs) => ?_)
                        refine lv_aload_n hC.1 hC.2.1 dX4_write_175 rfl (lv_at hl 1 rfl) ?_
                        refine lv_iconst (v := 1) hC.1 hC.2.1 dX4_write_176 (by decide) ?_
                        refine meQi (rest := []) (mcV 0 hC hK hW (c_X4_answer l D G M hL (kup (kup T 0 7 (T 0 7 + 2)) 25 (tn f) (T 25 (tn f))) (kuN N (tn f) (tn i) v) r g 1 hIc hI1 hI2) (kgoodV tm_X4_178 ti_yX4_answer te_yX4_answer tz_X4 tc_yX4_answer) mw_m rfl ⟨rfl, by decide, by decide, (show Option.map _ (parseMethodDescriptor yX4_answer.desc) = some 1 from by decide +kernel)⟩ ⟨Nat.le_of_ble_eq_true rfl, Nat.le_of_ble_eq_true rfl⟩ hl.1 rfl (Nat.le_of_ble_eq_true rfl) ⟨Nat.le_refl _, Nat.le_refl _⟩ dX4_write_177) hW (fun H locs (hW : mWd D G M (mA M) zs.heap (kOt (kup (kup T 0 7 (T 0 7 + 2)) 25 (tn f) (T 25 (tn f)))) (kuN N (tn f) (tn i) v) r g H locs) => ?_)
                        exact mkrI hC hr hlk hW (by rw [kwr_T hI9 hi32 c_69 (Or.inr ⟨c_159, rfl⟩) c_131]; simp (config := {decide := true}) only [kif_true, kif_false, kb, kup_eq, kup_f, kup_i, not_true_eq_false, not_false_eq_true, and_true, true_and, and_false, false_and, and_self, or_true, true_or, or_false, false_or, a_write, t_write, n_write, kWrg, kWra, kWrt, kWrn, c_5, c_13, c_28, hi32.1, hi32.2, c_40, c_52, c_69, hHr]) (by rw [kwr_T hI9 hi32 c_69 (Or.inr ⟨c_159, rfl⟩) c_131]; simp (config := {decide := true}) only [kif_true, kif_false, kb, kup_eq, kup_f, kup_i, not_true_eq_false, not_false_eq_true, and_true, true_and, and_false, false_and, and_self, or_true, true_or, or_false, false_or, a_write, t_write, n_write, kWrg, kWra, kWrt, kWrn, c_5, c_13, c_28, hi32.1, hi32.2, c_40, c_52, c_69, hHr]) (by rw [kwr_N hi32 c_131]; simp (config := {decide := true}) only [kif_true, kif_false, kb, kup_eq, kup_f, kup_i, not_true_eq_false, not_false_eq_true, and_true, true_and, and_false, false_and, and_self, or_true, true_or, or_false, false_or, a_write, t_write, n_write, kWrg, kWra, kWrt, kWrn, c_5, c_13, c_28, hi32.1, hi32.2, c_40, c_52, c_69, hHr]) rfl rfl dX4_write_180
                      · refine lv_iload_n hC.1 hC.2.1 dX4_write_162 rfl (lv_at hl 4 rfl) ?_
                        refine lv_iconst (v := 1) hC.1 hC.2.1 dX4_write_163 (by decide) ?_
                        refine lv_iadd hC.1 hC.2.1 dX4_write_164 ?_
                        refine lv_goto (tgt := 174) hC.1 hC.2.1 dX4_write_165 (by decide) ?_
                        refine mai_s hC hK hW 21 (by decide) rfl (i := f) c_13.1.in (mw_ar_21 (tn f) (i + 1)) dX4_write_174 (fun H locs (hW : mWd D G M (mA M) zs.heap (kup (kup T 0 7 (T 0 7 + 2)) 25 (tn f) (i + 1)) (kuN N (tn f) (tn i) v) r g H locs) => ?_)
                        refine lv_aload_n hC.1 hC.2.1 dX4_write_175 rfl (lv_at hl 1 rfl) ?_
                        refine lv_iconst (v := 1) hC.1 hC.2.1 dX4_write_176 (by decide) ?_
                        refine meQi (rest := []) (mcV 0 hC hK hW (c_X4_answer l D G M hL (kup (kup T 0 7 (T 0 7 + 2)) 25 (tn f) (i + 1)) (kuN N (tn f) (tn i) v) r g 1 hIc hI1 hI2) (kgoodV tm_X4_178 ti_yX4_answer te_yX4_answer tz_X4 tc_yX4_answer) mw_m rfl ⟨rfl, by decide, by decide, (show Option.map _ (parseMethodDescriptor yX4_answer.desc) = some 1 from by decide +kernel)⟩ ⟨Nat.le_of_ble_eq_true rfl, Nat.le_of_ble_eq_true rfl⟩ hl.1 rfl (Nat.le_of_ble_eq_true rfl) ⟨Nat.le_refl _, Nat.le_refl _⟩ dX4_write_177) hW (fun H locs (hW : mWd D G M (mA M) zs.heap (kOt (kup (kup T 0 7 (T 0 7 + 2)) 25 (tn f) (i + 1))) (kuN N (tn f) (tn i) v) r g H locs) => ?_)
                        exact mkrI hC hr hlk hW (by rw [kwr_T hI9 hi32 c_69 (Or.inl ⟨c_159, rfl⟩) c_131]; simp (config := {decide := true}) only [kif_true, kif_false, kb, kup_eq, kup_f, kup_i, not_true_eq_false, not_false_eq_true, and_true, true_and, and_false, false_and, and_self, or_true, true_or, or_false, false_or, a_write, t_write, n_write, kWrg, kWra, kWrt, kWrn, c_5, c_13, c_28, hi32.1, hi32.2, c_40, c_52, c_69, hHr]) (by rw [kwr_T hI9 hi32 c_69 (Or.inl ⟨c_159, rfl⟩) c_131]; simp (config := {decide := true}) only [kif_true, kif_false, kb, kup_eq, kup_f, kup_i, not_true_eq_false, not_false_eq_true, and_true, true_and, and_false, false_and, and_self, or_true, true_or, or_false, false_or, a_write, t_write, n_write, kWrg, kWra, kWrt, kWrn, c_5, c_13, c_28, hi32.1, hi32.2, c_40, c_52, c_69, hHr]) (by rw [kwr_N hi32 c_131]; simp (config := {decide := true}) only [kif_true, kif_false, kb, kup_eq, kup_f, kup_i, not_true_eq_false, not_false_eq_true, and_true, true_and, and_false, false_and, and_self, or_true, true_or, or_false, false_or, a_write, t_write, n_write, kWrg, kWra, kWrt, kWrn, c_5, c_13, c_28, hi32.1, hi32.2, c_40, c_52, c_69, hHr]) rfl rfl dX4_write_180
                  · have hHr : ¬ kHr T (tn f) (i + 1) := kwr_nhr hI9 hi32 c_91 c_97 c_111
                    refine lv_iload hC.1 hC.2.1 dX4_write_114 (lv_at hl 0 rfl) ?_
                    refine lv_if_eq (tgt := 123) hC.1 hC.2.1 dX4_write_116 (by decide) (fun c_116 => ?_) (fun c_116 => ?_)
                    · refine lv_ldc hC.1 hC.2.1 hC.2.2.2.1 (hC.2.2.2.2 _ (kt_in tk_X4_111 rfl)) dX4_write_123 ?_
                      exact mkrI hC hr hlk hW (by simp (config := {decide := true}) only [kif_true, kif_false, kb, kup_eq, kup_f, kup_i, not_true_eq_false, not_false_eq_true, and_true, true_and, and_false, false_and, and_self, or_true, true_or, or_false, false_or, a_write, t_write, n_write, kWrg, kWra, kWrt, kWrn, c_5, c_13, c_28, hi32.1, hi32.2, c_40, c_52, c_69, hHr, c_116]) (by simp (config := {decide := true}) only [kif_true, kif_false, kb, kup_eq, kup_f, kup_i, not_true_eq_false, not_false_eq_true, and_true, true_and, and_false, false_and, and_self, or_true, true_or, or_false, false_or, a_write, t_write, n_write, kWrg, kWra, kWrt, kWrn, c_5, c_13, c_28, hi32.1, hi32.2, c_40, c_52, c_69, hHr, c_116]) (by simp (config := {decide := true}) only [kif_true, kif_false, kb, kup_eq, kup_f, kup_i, not_true_eq_false, not_false_eq_true, and_true, true_and, and_false, false_and, and_self, or_true, true_or, or_false, false_or, a_write, t_write, n_write, kWrg, kWra, kWrt, kWrn, c_5, c_13, c_28, hi32.1, hi32.2, c_40, c_52, c_69, hHr, c_116]) rfl rfl dX4_write_125
                    · exact absurd (by decide) c_116
            · refine lv_iload hC.1 hC.2.1 dX4_write_72 (lv_at hl 0 rfl) ?_
              refine lv_if_eq (tgt := 81) hC.1 hC.2.1 dX4_write_74 (by decide) (fun c_74 => ?_) (fun c_74 => ?_)
              · refine lv_ldc hC.1 hC.2.1 hC.2.2.2.1 (hC.2.2.2.2 _ (kt_in tk_X4_110 rfl)) dX4_write_81 ?_
                exact mkrI hC hr hlk hW (by simp (config := {decide := true}) only [kif_true, kif_false, kb, kup_eq, kup_f, kup_i, not_true_eq_false, not_false_eq_true, and_true, true_and, and_false, false_and, and_self, or_true, true_or, or_false, false_or, a_write, t_write, n_write, kWrg, kWra, kWrt, kWrn, c_5, c_13, c_28, hi32.1, hi32.2, c_40, c_52, c_69, c_74]) (by simp (config := {decide := true}) only [kif_true, kif_false, kb, kup_eq, kup_f, kup_i, not_true_eq_false, not_false_eq_true, and_true, true_and, and_false, false_and, and_self, or_true, true_or, or_false, false_or, a_write, t_write, n_write, kWrg, kWra, kWrt, kWrn, c_5, c_13, c_28, hi32.1, hi32.2, c_40, c_52, c_69, c_74]) (by simp (config := {decide := true}) only [kif_true, kif_false, kb, kup_eq, kup_f, kup_i, not_true_eq_false, not_false_eq_true, and_true, true_and, and_false, false_and, and_self, or_true, true_or, or_false, false_or, a_write, t_write, n_write, kWrg, kWra, kWrt, kWrn, c_5, c_13, c_28, hi32.1, hi32.2, c_40, c_52, c_69, c_74]) rfl rfl dX4_write_83
              · exact absurd (by decide) c_74
          · refine lv_iconst (v := 1) hC.1 hC.2.1 dX4_write_55 (by decide) ?_
            refine lv_goto (tgt := 60) hC.1 hC.2.1 dX4_write_56 (by decide) ?_
            refine lv_istore (lv' := [(5, .int 1), (0, .ref (M 0)), (1, .int p), (2, .int f), (3, .int i), (4, .int v)]) hC.1 hC.2.1 dX4_write_60 hl (by decide) rfl (fun ls hl => ?_)
            refine lv_iload_n hC.1 hC.2.1 dX4_write_62 rfl (lv_at hl 4 rfl) ?_
            refine lv_aload_n hC.1 hC.2.1 dX4_write_63 rfl (lv_at hl 1 rfl) ?_
            refine mg4 hC hK hW 26 (v := .ref (M 21)) rfl (by decide) rfl tf_X4_71 dX4_write_64 ?_
            refine lv_iload_n hC.1 hC.2.1 dX4_write_67 rfl (lv_at hl 3 rfl) ?_
            refine mai hC hK hW 21 (by decide) rfl (i := f) c_13.1.in dX4_write_68 ?_
            refine lv_icmp_le (tgt := 84) hC.1 hC.2.1 dX4_write_69 (by decide) (fun c_69 => ?_) (fun c_69 => ?_)
            · refine lv_iload_n hC.1 hC.2.1 dX4_write_84 rfl (lv_at hl 4 rfl) ?_
              refine lv_aload_n hC.1 hC.2.1 dX4_write_85 rfl (lv_at hl 1 rfl) ?_
              refine mg4 hC hK hW 26 (v := .ref (M 21)) rfl (by decide) rfl tf_X4_71 dX4_write_86 ?_
              refine lv_iload_n hC.1 hC.2.1 dX4_write_89 rfl (lv_at hl 3 rfl) ?_
              refine mai hC hK hW 21 (by decide) rfl (i := f) c_13.1.in dX4_write_90 ?_
              refine lv_icmp_ne (tgt := 126) hC.1 hC.2.1 dX4_write_91 (by decide) (fun c_91 => ?_) (fun c_91 => ?_)
              · have hHr : kHr T (tn f) (i + 1) := kwr_hr hI9 hi32 c_69 (hbl _ (kFl.home hIh hIz c_13)) (Or.inl c_91)
                refine lv_aload_n hC.1 hC.2.1 dX4_write_126 rfl (lv_at hl 1 rfl) ?_
                refine lv_iconst (v := 2) hC.1 hC.2.1 dX4_write_127 (by decide) ?_
                refine meQi (rest := []) (mcV 0 hC hK hW (c_X4_goes l D G M hL T N r g 2 hIc) (kgoodV tm_X4_175 ti_yX4_goes te_yX4_goes tz_X4 tc_yX4_goes) mw_m rfl ⟨rfl, by decide, by decide, (show Option.map _ (parseMethodDescriptor yX4_goes.desc) = some 1 from by decide +kernel)⟩ ⟨Nat.le_of_ble_eq_true rfl, Nat.le_of_ble_eq_true rfl⟩ hl.1 rfl (Nat.le_of_ble_eq_true rfl) ⟨Nat.le_refl _, Nat.le_refl _⟩ dX4_write_128) hW (fun H locs (hW : mWd D G M (mA M) zs.heap (kGoT T 2) N r g H locs) => ?_)
                refine kif_eq (tgt := 175) hC.1 hC.2.1 dX4_write_131 (by decide) (fun c_131 => ?_) (fun c_131 => ?_)
                · rw [show kGoT T 2 = T from kif_f c_131] at hW
                  refine lv_aload_n hC.1 hC.2.1 dX4_write_175 rfl (lv_at hl 1 rfl) ?_
                  refine lv_iconst (v := 1) hC.1 hC.2.1 dX4_write_176 (by decide) ?_
                  refine meQi (rest := []) (mcV 0 hC hK hW (c_X4_answer l D G M hL T N r g 1 hIc hI1 hI2) (kgoodV tm_X4_178 ti_yX4_answer te_yX4_answer tz_X4 tc_yX4_answer) mw_m rfl ⟨rfl, by decide, by decide, (show Option.map _ (parseMethodDescriptor yX4_answer.desc) = some 1 from by decide +kernel)⟩ ⟨Nat.le_of_ble_eq_true rfl, Nat.le_of_ble_eq_true rfl⟩ hl.1 rfl (Nat.le_of_ble_eq_true rfl) ⟨Nat.le_refl _, Nat.le_refl _⟩ dX4_write_177) hW (fun H locs (hW : mWd D G M (mA M) zs.heap (kOt T) N r g H locs) => ?_)
                  exact mkrI hC hr hlk hW (by simp (config := {decide := true}) only [kif_true, kif_false, kb, kup_eq, kup_f, kup_i, not_true_eq_false, not_false_eq_true, and_true, true_and, and_false, false_and, and_self, or_true, true_or, or_false, false_or, a_write, t_write, n_write, kWrg, kWra, kWrt, kWrn, c_5, c_13, c_28, hi32.1, hi32.2, c_40, c_52, c_69, hHr, show kWT T (tn f) i 1 = T from kif_f (by rw [i32_one]; exact c_131)]) (by simp (config := {decide := true}) only [kif_true, kif_false, kb, kup_eq, kup_f, kup_i, not_true_eq_false, not_false_eq_true, and_true, true_and, and_false, false_and, and_self, or_true, true_or, or_false, false_or, a_write, t_write, n_write, kWrg, kWra, kWrt, kWrn, c_5, c_13, c_28, hi32.1, hi32.2, c_40, c_52, c_69, hHr, show kWT T (tn f) i 1 = T from kif_f (by rw [i32_one]; exact c_131)]) (by simp (config := {decide := true}) only [kif_true, kif_false, kb, kup_eq, kup_f, kup_i, not_true_eq_false, not_false_eq_true, and_true, true_and, and_false, false_and, and_self, or_true, true_or, or_false, false_or, a_write, t_write, n_write, kWrg, kWra, kWrt, kWrn, c_5, c_13, c_28, hi32.1, hi32.2, c_40, c_52, c_69, hHr, show kWN T N (tn f) i 1 v = N from kif_f (by rw [i32_one]; exact c_131)]) rfl rfl dX4_write_180
                · rw [show kGoT T 2 = kup T 0 7 (T 0 7 + 2) from kif_t c_131] at hW
                  refine lv_aload_n hC.1 hC.2.1 dX4_write_134 rfl (lv_at hl 1 rfl) ?_
                  refine mg4 hC hK hW 27 (v := .ref (M 22)) rfl (by decide) rfl tf_X4_74 dX4_write_135 ?_
                  refine lv_bipush (v := 32) hC.1 hC.2.1 dX4_write_138 (by decide) ?_
                  refine lv_iload_n hC.1 hC.2.1 dX4_write_140 rfl (lv_at hl 3 rfl) ?_
                  refine lv_imul hC.1 hC.2.1 dX4_write_141 ?_
                  refine lv_iload_n hC.1 hC.2.1 dX4_write_142 rfl (lv_at hl 4 rfl) ?_
                  refine lv_iadd hC.1 hC.2.1 dX4_write_143 ?_
                  rw [show (((32 * f) + i) : Int32) = nI (32 * tn f + tn i) from (nu_ix c_13.1.1 hi32.1)]
                  refine lv_iload hC.1 hC.2.1 dX4_write_144 (lv_at hl 5 rfl) ?_
                  refine mai_sN hC hK hW 22 (by decide) rfl (i := (32 * tn f + tn i)) (by have z1 := c_13.lt; have z2 := keq_tn (n := 32) hi32.2 hi32.1 (by decide); omega) (mw_nu (tn f) (tn i) (keq_tn (n := 32) hi32.2 hi32.1 (by decide)) v) dX4_write_146 (fun H locs (hW : mWd D G M (mA M) zs.heap (kup T 0 7 (T 0 7 + 2)) (kuN N (tn f) (tn i) v) r g H locs) => ?_)
                  refine lv_aload_n hC.1 hC.2.1 dX4_write_147 rfl (lv_at hl 1 rfl) ?_
                  refine mg4 hC hK hW 26 (v := .ref (M 21)) rfl (by decide) rfl tf_X4_71 dX4_write_148 ?_
                  refine lv_iload_n hC.1 hC.2.1 dX4_write_151 rfl (lv_at hl 3 rfl) ?_
                  refine lv_iload_n hC.1 hC.2.1 dX4_write_152 rfl (lv_at hl 4 rfl) ?_
                  refine lv_aload_n hC.1 hC.2.1 dX4_write_153 rfl (lv_at hl 1 rfl) ?_
                  refine mg4 hC hK hW 26 (v := .ref (M 21)) rfl (by decide) rfl tf_X4_71 dX4_write_154 ?_
                  refine lv_iload_n hC.1 hC.2.1 dX4_write_157 rfl (lv_at hl 3 rfl) ?_
                  refine mai hC hK hW 21 (by decide) rfl (i := f) c_13.1.in dX4_write_158 ?_
                  rw [show ((kup T 0 7 (T 0 7 + 2)) 25 (tn f) : Int32) = T 25 (tn f) from rfl]
                  refine lv_icmp_ne (tgt := 168) hC.1 hC.2.1 dX4_write_159 (by decide) (fun c_159 => ?_) (fun c_159 => ?_)
                  · refine lv_aload_n hC.1 hC.2.1 dX4_write_168 rfl (lv_at hl 1 rfl) ?_
                    refine mg4 hC hK hW 26 (v := .ref (M 21)) rfl (by decide) rfl tf_X4_71 dX4_write_169 ?_
                    refine lv_iload_n hC.1 hC.2.1 dX4_write_172 rfl (lv_at hl 3 rfl) ?_
                    refine mai hC hK hW 21 (by decide) rfl (i := f) c_13.1.in dX4_write_173 ?_
                    rw [show ((kup T 0 7 (T 0 7 + 2)) 25 (tn f) : Int32) = T 25 (tn f) from rfl]
                    refine mai_s hC hK hW 21 (by decide) rfl (i := f) c_13.1.in (mw_ar_21 (tn f) (T 25 (tn f))) dX4_write_174 (fun H locs (hW : mWd D G M (mA M) zs.heap (kup (kup T 0 7 (T 0 7 + 2)) 25 (tn f) (T 25 (tn f))) (kuN N (tn f) (tn i) v) r g H locs) => ?_)
                    refine lv_aload_n hC.1 hC.2.1 dX4_write_175 rfl (lv_at hl 1 rfl) ?_
                    refine lv_iconst (v := 1) hC.1 hC.2.1 dX4_write_176 (by decide) ?_
                    refine meQi (rest := []) (mcV 0 hC hK hW (c_X4_answer l D G M hL (kup (kup T 0 7 (T 0 7 + 2)) 25 (tn f) (T 25 (tn f))) (kuN N (tn f) (tn i) v) r g 1 hIc hI1 hI2) (kgoodV tm_X4_178 ti_yX4_answer te_yX4_answer tz_X4 tc_yX4_answer) mw_m rfl ⟨rfl, by decide, by decide, (show Option.map _ (parseMethodDescriptor yX4_answer.desc) = some 1 from by decide +kernel)⟩ ⟨Nat.le_of_ble_eq_true rfl, Nat.le_of_ble_eq_true rfl⟩ hl.1 rfl (Nat.le_of_ble_eq_true rfl) ⟨Nat.le_refl _, Nat.le_refl _⟩ dX4_write_177) hW (fun H locs (hW : mWd D G M (mA M) zs.heap (kOt (kup (kup T 0 7 (T 0 7 + 2)) 25 (tn f) (T 25 (tn f)))) (kuN N (tn f) (tn i) v) r g H locs) => ?_)
                    exact mkrI hC hr hlk hW (by rw [kwr_T hI9 hi32 c_69 (Or.inr ⟨c_159, rfl⟩) c_131]; simp (config := {decide := true}) only [kif_true, kif_false, kb, kup_eq, kup_f, kup_i, not_true_eq_false, not_false_eq_true, and_true, true_and, and_false, false_and, and_self, or_true, true_or, or_false, false_or, a_write, t_write, n_write, kWrg, kWra, kWrt, kWrn, c_5, c_13, c_28, hi32.1, hi32.2, c_40, c_52, c_69, hHr]) (by rw [kwr_T hI9 hi32 c_69 (Or.inr ⟨c_159, rfl⟩) c_131]; simp (config := {decide := true}) only [kif_true, kif_false, kb, kup_eq, kup_f, kup_i, not_true_eq_false, not_false_eq_true, and_true, true_and, and_false, false_and, and_self, or_true, true_or, or_false, false_or, a_write, t_write, n_write, kWrg, kWra, kWrt, kWrn, c_5, c_13, c_28, hi32.1, hi32.2, c_40, c_52, c_69, hHr]) (by rw [kwr_N hi32 c_131]; simp (config := {decide := true}) only [kif_true, kif_false, kb, kup_eq, kup_f, kup_i, not_true_eq_false, not_false_eq_true, and_true, true_and, and_false, false_and, and_self, or_true, true_or, or_false, false_or, a_write, t_write, n_write, kWrg, kWra, kWrt, kWrn, c_5, c_13, c_28, hi32.1, hi32.2, c_40, c_52, c_69, hHr]) rfl rfl dX4_write_180
                  · refine lv_iload_n hC.1 hC.2.1 dX4_write_162 rfl (lv_at hl 4 rfl) ?_
                    refine lv_iconst (v := 1) hC.1 hC.2.1 dX4_write_163 (by decide) ?_
                    refine lv_iadd hC.1 hC.2.1 dX4_write_164 ?_
                    refine lv_goto (tgt := 174) hC.1 hC.2.1 dX4_write_165 (by decide) ?_
                    refine mai_s hC hK hW 21 (by decide) rfl (i := f) c_13.1.in (mw_ar_21 (tn f) (i + 1)) dX4_write_174 (fun H locs (hW : mWd D G M (mA M) zs.heap (kup (kup T 0 7 (T 0 7 + 2)) 25 (tn f) (i + 1)) (kuN N (tn f) (tn i) v) r g H locs) => ?_)
                    refine lv_aload_n hC.1 hC.2.1 dX4_write_175 rfl (lv_at hl 1 rfl) ?_
                    refine lv_iconst (v := 1) hC.1 hC.2.1 dX4_write_176 (by decide) ?_
                    refine meQi (rest := []) (mcV 0 hC hK hW (c_X4_answer l D G M hL (kup (kup T 0 7 (T 0 7 + 2)) 25 (tn f) (i + 1)) (kuN N (tn f) (tn i) v) r g 1 hIc hI1 hI2) (kgoodV tm_X4_178 ti_yX4_answer te_yX4_answer tz_X4 tc_yX4_answer) mw_m rfl ⟨rfl, by decide, by decide, (show Option.map _ (parseMethodDescriptor yX4_answer.desc) = some 1 from by decide +kernel)⟩ ⟨Nat.le_of_ble_eq_true rfl, Nat.le_of_ble_eq_true rfl⟩ hl.1 rfl (Nat.le_of_ble_eq_true rfl) ⟨Nat.le_refl _, Nat.le_refl _⟩ dX4_write_177) hW (fun H locs (hW : mWd D G M (mA M) zs.heap (kOt (kup (kup T 0 7 (T 0 7 + 2)) 25 (tn f) (i + 1))) (kuN N (tn f) (tn i) v) r g H locs) => ?_)
                    exact mkrI hC hr hlk hW (by rw [kwr_T hI9 hi32 c_69 (Or.inl ⟨c_159, rfl⟩) c_131]; simp (config := {decide := true}) only [kif_true, kif_false, kb, kup_eq, kup_f, kup_i, not_true_eq_false, not_false_eq_true, and_true, true_and, and_false, false_and, and_self, or_true, true_or, or_false, false_or, a_write, t_write, n_write, kWrg, kWra, kWrt, kWrn, c_5, c_13, c_28, hi32.1, hi32.2, c_40, c_52, c_69, hHr]) (by rw [kwr_T hI9 hi32 c_69 (Or.inl ⟨c_159, rfl⟩) c_131]; simp (config := {decide := true}) only [kif_true, kif_false, kb, kup_eq, kup_f, kup_i, not_true_eq_false, not_false_eq_true, and_true, true_and, and_false, false_and, and_self, or_true, true_or, or_false, false_or, a_write, t_write, n_write, kWrg, kWra, kWrt, kWrn, c_5, c_13, c_28, hi32.1, hi32.2, c_40, c_52, c_69, hHr]) (by rw [kwr_N hi32 c_131]; simp (config := {decide := true}) only [kif_true, kif_false, kb, kup_eq, kup_f, kup_i, not_true_eq_false, not_false_eq_true, and_true, true_and, and_false, false_and, and_self, or_true, true_or, or_false, false_or, a_write, t_write, n_write, kWrg, kWra, kWrt, kWrn, c_5, c_13, c_28, hi32.1, hi32.2, c_40, c_52, c_69, hHr]) rfl rfl dX4_write_180
              · refine lv_iload_n hC.1 hC.2.1 dX4_write_94 rfl (lv_at hl 4 rfl) ?_
                refine lv_iconst (v := 4) hC.1 hC.2.1 dX4_write_95 (by decide) ?_
                refine lv_irem hC.1 hC.2.1 dX4_write_96 (by decide) ?_
                refine lv_if_ne (tgt := 126) hC.1 hC.2.1 dX4_write_97 (by decide) (fun c_97 => ?_) (fun c_97 => ?_)
                · have hHr : kHr T (tn f) (i + 1) := kwr_hr hI9 hi32 c_69 (hbl _ (kFl.home hIh hIz c_13)) (Or.inr (Or.inl c_97))
                  refine lv_aload_n hC.1 hC.2.1 dX4_write_126 rfl (lv_at hl 1 rfl) ?_
                  refine lv_iconst (v := 2) hC.1 hC.2.1 dX4_write_127 (by decide) ?_
                  refine meQi (rest := []) (mcV 0 hC hK hW (c_X4_goes l D G M hL T N r g 2 hIc) (kgoodV tm_X4_175 ti_yX4_goes te_yX4_goes tz_X4 tc_yX4_goes) mw_m rfl ⟨rfl, by decide, by decide, (show Option.map _ (parseMethodDescriptor yX4_goes.desc) = some 1 from by decide +kernel)⟩ ⟨Nat.le_of_ble_eq_true rfl, Nat.le_of_ble_eq_true rfl⟩ hl.1 rfl (Nat.le_of_ble_eq_true rfl) ⟨Nat.le_refl _, Nat.le_refl _⟩ dX4_write_128) hW (fun H locs (hW : mWd D G M (mA M) zs.heap (kGoT T 2) N r g H locs) => ?_)
                  refine kif_eq (tgt := 175) hC.1 hC.2.1 dX4_write_131 (by decide) (fun c_131 => ?_) (fun c_131 => ?_)
                  · rw [show kGoT T 2 = T from kif_f c_131] at hW
                    refine lv_aload_n hC.1 hC.2.1 dX4_write_175 rfl (lv_at hl 1 rfl) ?_
                    refine lv_iconst (v := 1) hC.1 hC.2.1 dX4_write_176 (by decide) ?_
                    refine meQi (rest := []) (mcV 0 hC hK hW (c_X4_answer l D G M hL T N r g 1 hIc hI1 hI2) (kgoodV tm_X4_178 ti_yX4_answer te_yX4_answer tz_X4 tc_yX4_answer) mw_m rfl ⟨rfl, by decide, by decide, (show Option.map _ (parseMethodDescriptor yX4_answer.desc) = some 1 from by decide +kernel)⟩ ⟨Nat.le_of_ble_eq_true rfl, Nat.le_of_ble_eq_true rfl⟩ hl.1 rfl (Nat.le_of_ble_eq_true rfl) ⟨Nat.le_refl _, Nat.le_refl _⟩ dX4_write_177) hW (fun H locs (hW : mWd D G M (mA M) zs.heap (kOt T) N r g H locs) => ?_)
                    exact mkrI hC hr hlk hW (by simp (config := {decide := true}) only [kif_true, kif_false, kb, kup_eq, kup_f, kup_i, not_true_eq_false, not_false_eq_true, and_true, true_and, and_false, false_and, and_self, or_true, true_or, or_false, false_or, a_write, t_write, n_write, kWrg, kWra, kWrt, kWrn, c_5, c_13, c_28, hi32.1, hi32.2, c_40, c_52, c_69, hHr, show kWT T (tn f) i 1 = T from kif_f (by rw [i32_one]; exact c_131)]) (by simp (config := {decide := true}) only [kif_true, kif_false, kb, kup_eq, kup_f, kup_i, not_true_eq_false, not_false_eq_true, and_true, true_and, and_false, false_and, and_self, or_true, true_or, or_false, false_or, a_write, t_write, n_write, kWrg, kWra, kWrt, kWrn, c_5, c_13, c_28, hi32.1, hi32.2, c_40, c_52, c_69, hHr, show kWT T (tn f) i 1 = T from kif_f (by rw [i32_one]; exact c_131)]) (by simp (config := {decide := true}) only [kif_true, kif_false, kb, kup_eq, kup_f, kup_i, not_true_eq_false, not_false_eq_true, and_true, true_and, and_false, false_and, and_self, or_true, true_or, or_false, false_or, a_write, t_write, n_write, kWrg, kWra, kWrt, kWrn, c_5, c_13, c_28, hi32.1, hi32.2, c_40, c_52, c_69, hHr, show kWN T N (tn f) i 1 v = N from kif_f (by rw [i32_one]; exact c_131)]) rfl rfl dX4_write_180
                  · rw [show kGoT T 2 = kup T 0 7 (T 0 7 + 2) from kif_t c_131] at hW
                    refine lv_aload_n hC.1 hC.2.1 dX4_write_134 rfl (lv_at hl 1 rfl) ?_
                    refine mg4 hC hK hW 27 (v := .ref (M 22)) rfl (by decide) rfl tf_X4_74 dX4_write_135 ?_
                    refine lv_bipush (v := 32) hC.1 hC.2.1 dX4_write_138 (by decide) ?_
                    refine lv_iload_n hC.1 hC.2.1 dX4_write_140 rfl (lv_at hl 3 rfl) ?_
                    refine lv_imul hC.1 hC.2.1 dX4_write_141 ?_
                    refine lv_iload_n hC.1 hC.2.1 dX4_write_142 rfl (lv_at hl 4 rfl) ?_
                    refine lv_iadd hC.1 hC.2.1 dX4_write_143 ?_
                    rw [show (((32 * f) + i) : Int32) = nI (32 * tn f + tn i) from (nu_ix c_13.1.1 hi32.1)]
                    refine lv_iload hC.1 hC.2.1 dX4_write_144 (lv_at hl 5 rfl) ?_
                    refine mai_sN hC hK hW 22 (by decide) rfl (i := (32 * tn f + tn i)) (by have z1 := c_13.lt; have z2 := keq_tn (n := 32) hi32.2 hi32.1 (by decide); omega) (mw_nu (tn f) (tn i) (keq_tn (n := 32) hi32.2 hi32.1 (by decide)) v) dX4_write_146 (fun H locs (hW : mWd D G M (mA M) zs.heap (kup T 0 7 (T 0 7 + 2)) (kuN N (tn f) (tn i) v) r g H locs) => ?_)
                    refine lv_aload_n hC.1 hC.2.1 dX4_write_147 rfl (lv_at hl 1 rfl) ?_
                    refine mg4 hC hK hW 26 (v := .ref (M 21)) rfl (by decide) rfl tf_X4_71 dX4_write_148 ?_
                    refine lv_iload_n hC.1 hC.2.1 dX4_write_151 rfl (lv_at hl 3 rfl) ?_
                    refine lv_iload_n hC.1 hC.2.1 dX4_write_152 rfl (lv_at hl 4 rfl) ?_
                    refine lv_aload_n hC.1 hC.2.1 dX4_write_153 rfl (lv_at hl 1 rfl) ?_
                    refine mg4 hC hK hW 26 (v := .ref (M 21)) rfl (by decide) rfl tf_X4_71 dX4_write_154 ?_
                    refine lv_iload_n hC.1 hC.2.1 dX4_write_157 rfl (lv_at hl 3 rfl) ?_
                    refine mai hC hK hW 21 (by decide) rfl (i := f) c_13.1.in dX4_write_158 ?_
                    rw [show ((kup T 0 7 (T 0 7 + 2)) 25 (tn f) : Int32) = T 25 (tn f) from rfl]
                    refine lv_icmp_ne (tgt := 168) hC.1 hC.2.1 dX4_write_159 (by decide) (fun c_159 => ?_) (fun c_159 => ?_)
                    · refine lv_aload_n hC.1 hC.2.1 dX4_write_168 rfl (lv_at hl 1 rfl) ?_
                      refine mg4 hC hK hW 26 (v := .ref (M 21)) rfl (by decide) rfl tf_X4_71 dX4_write_169 ?_
                      refine lv_iload_n hC.1 hC.2.1 dX4_write_172 rfl (lv_at hl 3 rfl) ?_
                      refine mai hC hK hW 21 (by decide) rfl (i := f) c_13.1.in dX4_write_173 ?_
                      rw [show ((kup T 0 7 (T 0 7 + 2)) 25 (tn f) : Int32) = T 25 (tn f) from rfl]
                      refine mai_s hC hK hW 21 (by decide) rfl (i := f) c_13.1.in (mw_ar_21 (tn f) (T 25 (tn f))) dX4_write_174 (fun H locs (hW : mWd D G M (mA M) zs.heap (kup (kup T 0 7 (T 0 7 + 2)) 25 (tn f) (T 25 (tn f))) (kuN N (tn f) (tn i) v) r g H locs) => ?_)
                      refine lv_aload_n hC.1 hC.2.1 dX4_write_175 rfl (lv_at hl 1 rfl) ?_
                      refine lv_iconst (v := 1) hC.1 hC.2.1 dX4_write_176 (by decide) ?_
                      refine meQi (rest := []) (mcV 0 hC hK hW (c_X4_answer l D G M hL (kup (kup T 0 7 (T 0 7 + 2)) 25 (tn f) (T 25 (tn f))) (kuN N (tn f) (tn i) v) r g 1 hIc hI1 hI2) (kgoodV tm_X4_178 ti_yX4_answer te_yX4_answer tz_X4 tc_yX4_answer) mw_m rfl ⟨rfl, by decide, by decide, (show Option.map _ (parseMethodDescriptor yX4_answer.desc) = some 1 from by decide +kernel)⟩ ⟨Nat.le_of_ble_eq_true rfl, Nat.le_of_ble_eq_true rfl⟩ hl.1 rfl (Nat.le_of_ble_eq_true rfl) ⟨Nat.le_refl _, Nat.le_refl _⟩ dX4_write_177) hW (fun H locs (hW : mWd D G M (mA M) zs.heap (kOt (kup (kup T 0 7 (T 0 7 + 2)) 25 (tn f) (T 25 (tn f)))) (kuN N (tn f) (tn i) v) r g H locs) => ?_)
                      exact mkrI hC hr hlk hW (by rw [kwr_T hI9 hi32 c_69 (Or.inr ⟨c_159, rfl⟩) c_131]; simp (config := {decide := true}) only [kif_true, kif_false, kb, kup_eq, kup_f, kup_i, not_true_eq_false, not_false_eq_true, and_true, true_and, and_false, false_and, and_self, or_true, true_or, or_false, false_or, a_write, t_write, n_write, kWrg, kWra, kWrt, kWrn, c_5, c_13, c_28, hi32.1, hi32.2, c_40, c_52, c_69, hHr]) (by rw [kwr_T hI9 hi32 c_69 (Or.inr ⟨c_159, rfl⟩) c_131]; simp (config := {decide := true}) only [kif_true, kif_false, kb, kup_eq, kup_f, kup_i, not_true_eq_false, not_false_eq_true, and_true, true_and, and_false, false_and, and_self, or_true, true_or, or_false, false_or, a_write, t_write, n_write, kWrg, kWra, kWrt, kWrn, c_5, c_13, c_28, hi32.1, hi32.2, c_40, c_52, c_69, hHr]) (by rw [kwr_N hi32 c_131]; simp (config := {decide := true}) only [kif_true, kif_false, kb, kup_eq, kup_f, kup_i, not_true_eq_false, not_false_eq_true, and_true, true_and, and_false, false_and, and_self, or_true, true_or, or_false, false_or, a_write, t_write, n_write, kWrg, kWra, kWrt, kWrn, c_5, c_13, c_28, hi32.1, hi32.2, c_40, c_52, c_69, hHr]) rfl rfl dX4_write_180
                    · refine lv_iload_n hC.1 hC.2.1 dX4_write_162 rfl (lv_at hl 4 rfl) ?_
                      refine lv_iconst (v := 1) hC.1 hC.2.1 dX4_write_163 (by decide) ?_
                      refine lv_iadd hC.1 hC.2.1 dX4_write_164 ?_
                      refine lv_goto (tgt := 174) hC.1 hC.2.1 dX4_write_165 (by decide) ?_
                      refine mai_s hC hK hW 21 (by decide) rfl (i := f) c_13.1.in (mw_ar_21 (tn f) (i + 1)) dX4_write_174 (fun H locs (hW : mWd D G M (mA M) zs.heap (kup (kup T 0 7 (T 0 7 + 2)) 25 (tn f) (i + 1)) (kuN N (tn f) (tn i) v) r g H locs) => ?_)
                      refine lv_aload_n hC.1 hC.2.1 dX4_write_175 rfl (lv_at hl 1 rfl) ?_
                      refine lv_iconst (v := 1) hC.1 hC.2.1 dX4_write_176 (by decide) ?_
                      refine meQi (rest := []) (mcV 0 hC hK hW (c_X4_answer l D G M hL (kup (kup T 0 7 (T 0 7 + 2)) 25 (tn f) (i + 1)) (kuN N (tn f) (tn i) v) r g 1 hIc hI1 hI2) (kgoodV tm_X4_178 ti_yX4_answer te_yX4_answer tz_X4 tc_yX4_answer) mw_m rfl ⟨rfl, by decide, by decide, (show Option.map _ (parseMethodDescriptor yX4_answer.desc) = some 1 from by decide +kernel)⟩ ⟨Nat.le_of_ble_eq_true rfl, Nat.le_of_ble_eq_true rfl⟩ hl.1 rfl (Nat.le_of_ble_eq_true rfl) ⟨Nat.le_refl _, Nat.le_refl _⟩ dX4_write_177) hW (fun H locs (hW : mWd D G M (mA M) zs.heap (kOt (kup (kup T 0 7 (T 0 7 + 2)) 25 (tn f) (i + 1))) (kuN N (tn f) (tn i) v) r g H locs) => ?_)
                      exact mkrI hC hr hlk hW (by rw [kwr_T hI9 hi32 c_69 (Or.inl ⟨c_159, rfl⟩) c_131]; simp (config := {decide := true}) only [kif_true, kif_false, kb, kup_eq, kup_f, kup_i, not_true_eq_false, not_false_eq_true, and_true, true_and, and_false, false_and, and_self, or_true, true_or, or_false, false_or, a_write, t_write, n_write, kWrg, kWra, kWrt, kWrn, c_5, c_13, c_28, hi32.1, hi32.2, c_40, c_52, c_69, hHr]) (by rw [kwr_T hI9 hi32 c_69 (Or.inl ⟨c_159, rfl⟩) c_131]; simp (config := {decide := true}) only [kif_true, kif_false, kb, kup_eq, kup_f, kup_i, not_true_eq_false, not_false_eq_true, and_true, true_and, and_false, false_and, and_self, or_true, true_or, or_false, false_or, a_write, t_write, n_write, kWrg, kWra, kWrt, kWrn, c_5, c_13, c_28, hi32.1, hi32.2, c_40, c_52, c_69, hHr]) (by rw [kwr_N hi32 c_131]; simp (config := {decide := true}) only [kif_true, kif_false, kb, kup_eq, kup_f, kup_i, not_true_eq_false, not_false_eq_true, and_true, true_and, and_false, false_and, and_self, or_true, true_or, or_false, false_or, a_write, t_write, n_write, kWrg, kWra, kWrt, kWrn, c_5, c_13, c_28, hi32.1, hi32.2, c_40, c_52, c_69, hHr]) rfl rfl dX4_write_180
                · refine lv_aload_n hC.1 hC.2.1 dX4_write_100 rfl (lv_at hl 1 rfl) ?_
                  refine lv_aload_n hC.1 hC.2.1 dX4_write_101 rfl (lv_at hl 1 rfl) ?_
                  refine mg4 hC hK hW 23 (v := .ref (M 18)) rfl (by decide) rfl tf_X4_62 dX4_write_102 ?_
                  refine lv_iload_n hC.1 hC.2.1 dX4_write_105 rfl (lv_at hl 3 rfl) ?_
                  refine mai hC hK hW 18 (by decide) rfl (i := f) c_13.1.in dX4_write_106 ?_
                  refine keSi (rest := []) (mcV 0 hC hK hW (c_X4_blocksLeft l D G M hL T N r g (T 20 (tn f)) hI3 (kFl.home hIh hIz c_13)) (kgoodV tm_X4_191 ti_yX4_blocksLeft te_yX4_blocksLeft tz_X4 tc_yX4_blocksLeft) mw_m rfl ⟨rfl, by decide, by decide, (show Option.map _ (parseMethodDescriptor yX4_blocksLeft.desc) = some 1 from by decide +kernel)⟩ ⟨Nat.le_of_ble_eq_true rfl, Nat.le_of_ble_eq_true rfl⟩ hl.1 rfl (Nat.le_of_ble_eq_true rfl) ⟨Nat.le_refl _, Nat.le_refl _⟩ dX4_write_107) ?_
                  refine lv_iconst (v := 1) hC.1 hC.2.1 dX4_write_110 (by decide) ?_
                  refine lv_icmp_ge (tgt := 126) hC.1 hC.2.1 dX4_write_111 (by decide) (fun c_111 => ?_) (fun c_111 => ?_)
                  · have hHr : kHr T (tn f) (i + 1) := kwr_hr hI9 hi32 c_69 (hbl _ (kFl.home hIh hIz c_13)) (Or.inr (Or.inr c_111))
                    refine lv_aload_n hC.1 hC.2.1 dX4_write_126 rfl (lv_at hl 1 rfl) ?_
                    refine lv_iconst (v := 2) hC.1 hC.2.1 dX4_write_127 (by decide) ?_
                    refine meQi (rest := []) (mcV 0 hC hK hW (c_X4_goes l D G M hL T N r g 2 hIc) (kgoodV tm_X4_175 ti_yX4_goes te_yX4_goes tz_X4 tc_yX4_goes) mw_m rfl ⟨rfl, by decide, by decide, (show Option.map _ (parseMethodDescriptor yX4_goes.desc) = some 1 from by decide +kernel)⟩ ⟨Nat.le_of_ble_eq_true rfl, Nat.le_of_ble_eq_true rfl⟩ hl.1 rfl (Nat.le_of_ble_eq_true rfl) ⟨Nat.le_refl _, Nat.le_refl _⟩ dX4_write_128) hW (fun H locs (hW : mWd D G M (mA M) zs.heap (kGoT T 2) N r g H locs) => ?_)
                    refine kif_eq (tgt := 175) hC.1 hC.2.1 dX4_write_131 (by decide) (fun c_131 => ?_) (fun c_131 => ?_)
                    · rw [show kGoT T 2 = T from kif_f c_131] at hW
                      refine lv_aload_n hC.1 hC.2.1 dX4_write_175 rfl (lv_at hl 1 rfl) ?_
                      refine lv_iconst (v := 1) hC.1 hC.2.1 dX4_write_176 (by decide) ?_
                      refine meQi (rest := []) (mcV 0 hC hK hW (c_X4_answer l D G M hL T N r g 1 hIc hI1 hI2) (kgoodV tm_X4_178 ti_yX4_answer te_yX4_answer tz_X4 tc_yX4_answer) mw_m rfl ⟨rfl, by decide, by decide, (show Option.map _ (parseMethodDescriptor yX4_answer.desc) = some 1 from by decide +kernel)⟩ ⟨Nat.le_of_ble_eq_true rfl, Nat.le_of_ble_eq_true rfl⟩ hl.1 rfl (Nat.le_of_ble_eq_true rfl) ⟨Nat.le_refl _, Nat.le_refl _⟩ dX4_write_177) hW (fun H locs (hW : mWd D G M (mA M) zs.heap (kOt T) N r g H locs) => ?_)
                      exact mkrI hC hr hlk hW (by simp (config := {decide := true}) only [kif_true, kif_false, kb, kup_eq, kup_f, kup_i, not_true_eq_false, not_false_eq_true, and_true, true_and, and_false, false_and, and_self, or_true, true_or, or_false, false_or, a_write, t_write, n_write, kWrg, kWra, kWrt, kWrn, c_5, c_13, c_28, hi32.1, hi32.2, c_40, c_52, c_69, hHr, show kWT T (tn f) i 1 = T from kif_f (by rw [i32_one]; exact c_131)]) (by simp (config := {decide := true}) only [kif_true, kif_false, kb, kup_eq, kup_f, kup_i, not_true_eq_false, not_false_eq_true, and_true, true_and, and_false, false_and, and_self, or_true, true_or, or_false, false_or, a_write, t_write, n_write, kWrg, kWra, kWrt, kWrn, c_5, c_13, c_28, hi32.1, hi32.2, c_40, c_52, c_69, hHr, show kWT T (tn f) i 1 = T from kif_f (by rw [i32_one]; exact c_131)]) (by simp (config := {decide := true}) only [kif_true, kif_false, kb, kup_eq, kup_f, kup_i, not_true_eq_false, not_false_eq_true, and_true, true_and, and_false, false_and, and_self, or_true, true_or, or_false, false_or, a_write, t_write, n_write, kWrg, kWra, kWrt, kWrn, c_5, c_13, c_28, hi32.1, hi32.2, c_40, c_52, c_69, hHr, show kWN T N (tn f) i 1 v = N from kif_f (by rw [i32_one]; exact c_131)]) rfl rfl dX4_write_180
                    · rw [show kGoT T 2 = kup T 0 7 (T 0 7 + 2) from kif_t c_131] at hW
                      refine lv_aload_n hC.1 hC.2.1 dX4_write_134 rfl (lv_at hl 1 rfl) ?_
                      refine mg4 hC hK hW 27 (v := .ref (M 22)) rfl (by decide) rfl tf_X4_74 dX4_write_135 ?_
                      refine lv_bipush (v := 32) hC.1 hC.2.1 dX4_write_138 (by decide) ?_
                      refine lv_iload_n hC.1 hC.2.1 dX4_write_140 rfl (lv_at hl 3 rfl) ?_
                      refine lv_imul hC.1 hC.2.1 dX4_write_141 ?_
                      refine lv_iload_n hC.1 hC.2.1 dX4_write_142 rfl (lv_at hl 4 rfl) ?_
                      refine lv_iadd hC.1 hC.2.1 dX4_write_143 ?_
                      rw [show (((32 * f) + i) : Int32) = nI (32 * tn f + tn i) from (nu_ix c_13.1.1 hi32.1)]
                      refine lv_iload hC.1 hC.2.1 dX4_write_144 (lv_at hl 5 rfl) ?_
                      refine mai_sN hC hK hW 22 (by decide) rfl (i := (32 * tn f + tn i)) (by have z1 := c_13.lt; have z2 := keq_tn (n := 32) hi32.2 hi32.1 (by decide); omega) (mw_nu (tn f) (tn i) (keq_tn (n := 32) hi32.2 hi32.1 (by decide)) v) dX4_write_146 (fun H locs (hW : mWd D G M (mA M) zs.heap (kup T 0 7 (T 0 7 + 2)) (kuN N (tn f) (tn i) v) r g H locs) => ?_)
                      refine lv_aload_n hC.1 hC.2.1 dX4_write_147 rfl (lv_at hl 1 rfl) ?_
                      refine mg4 hC hK hW 26 (v := .ref (M 21)) rfl (by decide) rfl tf_X4_71 dX4_write_148 ?_
                      refine lv_iload_n hC.1 hC.2.1 dX4_write_151 rfl (lv_at hl 3 rfl) ?_
                      refine lv_iload_n hC.1 hC.2.1 dX4_write_152 rfl (lv_at hl 4 rfl) ?_
                      refine lv_aload_n hC.1 hC.2.1 dX4_write_153 rfl (lv_at hl 1 rfl) ?_
                      refine mg4 hC hK hW 26 (v := .ref (M 21)) rfl (by decide) rfl tf_X4_71 dX4_write_154 ?_
                      refine lv_iload_n hC.1 hC.2.1 dX4_write_157 rfl (lv_at hl 3 rfl) ?_
                      refine mai hC hK hW 21 (by decide) rfl (i := f) c_13.1.in dX4_write_158 ?_
                      rw [show ((kup T 0 7 (T 0 7 + 2)) 25 (tn f) : Int32) = T 25 (tn f) from rfl]
                      refine lv_icmp_ne (tgt := 168) hC.1 hC.2.1 dX4_write_159 (by decide) (fun c_159 => ?_) (fun c_159 => ?_)
                      · refine lv_aload_n hC.1 hC.2.1 dX4_write_168 rfl (lv_at hl 1 rfl) ?_
                        refine mg4 hC hK hW 26 (v := .ref (M 21)) rfl (by decide) rfl tf_X4_71 dX4_write_169 ?_
                        refine lv_iload_n hC.1 hC.2.1 dX4_write_172 rfl (lv_at hl 3 rfl) ?_
                        refine mai hC hK hW 21 (by decide) rfl (i := f) c_13.1.in dX4_write_173 ?_
                        rw [show ((kup T 0 7 (T 0 7 + 2)) 25 (tn f) : Int32) = T 25 (tn f) from rfl]
                        refine mai_s hC hK hW 21 (by decide) rfl (i := f) c_13.1.in (mw_ar_21 (tn f) (T 25 (tn f))) dX4_write_174 (fun H locs (hW : mWd D G M (mA M) zs.heap (kup (kup T 0 7 (T 0 7 + 2)) 25 (tn f) (T 25 (tn f))) (kuN N (tn f) (tn i) v) r g H locs) => ?_)
                        refine lv_aload_n hC.1 hC.2.1 dX4_write_175 rfl (lv_at hl 1 rfl) ?_
                        refine lv_iconst (v := 1) hC.1 hC.2.1 dX4_write_176 (by decide) ?_
                        refine meQi (rest := []) (mcV 0 hC hK hW (c_X4_answer l D G M hL (kup (kup T 0 7 (T 0 7 + 2)) 25 (tn f) (T 25 (tn f))) (kuN N (tn f) (tn i) v) r g 1 hIc hI1 hI2) (kgoodV tm_X4_178 ti_yX4_answer te_yX4_answer tz_X4 tc_yX4_answer) mw_m rfl ⟨rfl, by decide, by decide, (show Option.map _ (parseMethodDescriptor yX4_answer.desc) = some 1 from by decide +kernel)⟩ ⟨Nat.le_of_ble_eq_true rfl, Nat.le_of_ble_eq_true rfl⟩ hl.1 rfl (Nat.le_of_ble_eq_true rfl) ⟨Nat.le_refl _, Nat.le_refl _⟩ dX4_write_177) hW (fun H locs (hW : mWd D G M (mA M) zs.heap (kOt (kup (kup T 0 7 (T 0 7 + 2)) 25 (tn f) (T 25 (tn f)))) (kuN N (tn f) (tn i) v) r g H locs) => ?_)
                        exact mkrI hC hr hlk hW (by rw [kwr_T hI9 hi32 c_69 (Or.inr ⟨c_159, rfl⟩) c_131]; simp (config := {decide := true}) only [kif_true, kif_false, kb, kup_eq, kup_f, kup_i, not_true_eq_false, not_false_eq_true, and_true, true_and, and_false, false_and, and_self, or_true, true_or, or_false, false_or, a_write, t_write, n_write, kWrg, kWra, kWrt, kWrn, c_5, c_13, c_28, hi32.1, hi32.2, c_40, c_52, c_69, hHr]) (by rw [kwr_T hI9 hi32 c_69 (Or.inr ⟨c_159, rfl⟩) c_131]; simp (config := {decide := true}) only [kif_true, kif_false, kb, kup_eq, kup_f, kup_i, not_true_eq_false, not_false_eq_true, and_true, true_and, and_false, false_and, and_self, or_true, true_or, or_false, false_or, a_write, t_write, n_write, kWrg, kWra, kWrt, kWrn, c_5, c_13, c_28, hi32.1, hi32.2, c_40, c_52, c_69, hHr]) (by rw [kwr_N hi32 c_131]; simp (config := {decide := true}) only [kif_true, kif_false, kb, kup_eq, kup_f, kup_i, not_true_eq_false, not_false_eq_true, and_true, true_and, and_false, false_and, and_self, or_true, true_or, or_false, false_or, a_write, t_write, n_write, kWrg, kWra, kWrt, kWrn, c_5, c_13, c_28, hi32.1, hi32.2, c_40, c_52, c_69, hHr]) rfl rfl dX4_write_180
                      · refine lv_iload_n hC.1 hC.2.1 dX4_write_162 rfl (lv_at hl 4 rfl) ?_
                        refine lv_iconst (v := 1) hC.1 hC.2.1 dX4_write_163 (by decide) ?_
                        refine lv_iadd hC.1 hC.2.1 dX4_write_164 ?_
                        refine lv_goto (tgt := 174) hC.1 hC.2.1 dX4_write_165 (by decide) ?_
                        refine mai_s hC hK hW 21 (by decide) rfl (i := f) c_13.1.in (mw_ar_21 (tn f) (i + 1)) dX4_write_174 (fun H locs (hW : mWd D G M (mA M) zs.heap (kup (kup T 0 7 (T 0 7 + 2)) 25 (tn f) (i + 1)) (kuN N (tn f) (tn i) v) r g H locs) => ?_)
                        refine lv_aload_n hC.1 hC.2.1 dX4_write_175 rfl (lv_at hl 1 rfl) ?_
                        refine lv_iconst (v := 1) hC.1 hC.2.1 dX4_write_176 (by decide) ?_
                        refine meQi (rest := []) (mcV 0 hC hK hW (c_X4_answer l D G M hL (kup (kup T 0 7 (T 0 7 + 2)) 25 (tn f) (i + 1)) (kuN N (tn f) (tn i) v) r g 1 hIc hI1 hI2) (kgoodV tm_X4_178 ti_yX4_answer te_yX4_answer tz_X4 tc_yX4_answer) mw_m rfl ⟨rfl, by decide, by decide, (show Option.map _ (parseMethodDescriptor yX4_answer.desc) = some 1 from by decide +kernel)⟩ ⟨Nat.le_of_ble_eq_true rfl, Nat.le_of_ble_eq_true rfl⟩ hl.1 rfl (Nat.le_of_ble_eq_true rfl) ⟨Nat.le_refl _, Nat.le_refl _⟩ dX4_write_177) hW (fun H locs (hW : mWd D G M (mA M) zs.heap (kOt (kup (kup T 0 7 (T 0 7 + 2)) 25 (tn f) (i + 1))) (kuN N (tn f) (tn i) v) r g H locs) => ?_)
                        exact mkrI hC hr hlk hW (by rw [kwr_T hI9 hi32 c_69 (Or.inl ⟨c_159, rfl⟩) c_131]; simp (config := {decide := true}) only [kif_true, kif_false, kb, kup_eq, kup_f, kup_i, not_true_eq_false, not_false_eq_true, and_true, true_and, and_false, false_and, and_self, or_true, true_or, or_false, false_or, a_write, t_write, n_write, kWrg, kWra, kWrt, kWrn, c_5, c_13, c_28, hi32.1, hi32.2, c_40, c_52, c_69, hHr]) (by rw [kwr_T hI9 hi32 c_69 (Or.inl ⟨c_159, rfl⟩) c_131]; simp (config := {decide := true}) only [kif_true, kif_false, kb, kup_eq, kup_f, kup_i, not_true_eq_false, not_false_eq_true, and_true, true_and, and_false, false_and, and_self, or_true, true_or, or_false, false_or, a_write, t_write, n_write, kWrg, kWra, kWrt, kWrn, c_5, c_13, c_28, hi32.1, hi32.2, c_40, c_52, c_69, hHr]) (by rw [kwr_N hi32 c_131]; simp (config := {decide := true}) only [kif_true, kif_false, kb, kup_eq, kup_f, kup_i, not_true_eq_false, not_false_eq_true, and_true, true_and, and_false, false_and, and_self, or_true, true_or, or_false, false_or, a_write, t_write, n_write, kWrg, kWra, kWrt, kWrn, c_5, c_13, c_28, hi32.1, hi32.2, c_40, c_52, c_69, hHr]) rfl rfl dX4_write_180
                  · have hHr : ¬ kHr T (tn f) (i + 1) := kwr_nhr hI9 hi32 c_91 c_97 c_111
                    refine lv_iload hC.1 hC.2.1 dX4_write_114 (lv_at hl 0 rfl) ?_
                    refine lv_if_eq (tgt := 123) hC.1 hC.2.1 dX4_write_116 (by decide) (fun c_116 => ?_) (fun c_116 => ?_)
                    · exact absurd c_116 (by decide)
                    · refine lv_iconst (v := 1) hC.1 hC.2.1 dX4_write_119 (by decide) ?_
                      refine lv_goto (tgt := 125) hC.1 hC.2.1 dX4_write_120 (by decide) ?_
                      exact mkrI hC hr hlk hW (by simp (config := {decide := true}) only [kif_true, kif_false, kb, kup_eq, kup_f, kup_i, not_true_eq_false, not_false_eq_true, and_true, true_and, and_false, false_and, and_self, or_true, true_or, or_false, false_or, a_write, t_write, n_write, kWrg, kWra, kWrt, kWrn, c_5, c_13, c_28, hi32.1, hi32.2, c_40, c_52, c_69, hHr, c_116]) (by simp (config := {decide := true}) only [kif_true, kif_false, kb, kup_eq, kup_f, kup_i, not_true_eq_false, not_false_eq_true, and_true, true_and, and_false, false_and, and_self, or_true, true_or, or_false, false_or, a_write, t_write, n_write, kWrg, kWra, kWrt, kWrn, c_5, c_13, c_28, hi32.1, hi32.2, c_40, c_52, c_69, hHr, c_116]) (by simp (config := {decide := true}) only [kif_true, kif_false, kb, kup_eq, kup_f, kup_i, not_true_eq_false, not_false_eq_true, and_true, true_and, and_false, false_and, and_self, or_true, true_or, or_false, false_or, a_write, t_write, n_write, kWrg, kWra, kWrt, kWrn, c_5, c_13, c_28, hi32.1, hi32.2, c_40, c_52, c_69, hHr, c_116]) rfl rfl dX4_write_125
            · refine lv_iload hC.1 hC.2.1 dX4_write_72 (lv_at hl 0 rfl) ?_
              refine lv_if_eq (tgt := 81) hC.1 hC.2.1 dX4_write_74 (by decide) (fun c_74 => ?_) (fun c_74 => ?_)
              · exact absurd c_74 (by decide)
              · refine lv_iconst (v := 1) hC.1 hC.2.1 dX4_write_77 (by decide) ?_
                refine lv_goto (tgt := 83) hC.1 hC.2.1 dX4_write_78 (by decide) ?_
                exact mkrI hC hr hlk hW (by simp (config := {decide := true}) only [kif_true, kif_false, kb, kup_eq, kup_f, kup_i, not_true_eq_false, not_false_eq_true, and_true, true_and, and_false, false_and, and_self, or_true, true_or, or_false, false_or, a_write, t_write, n_write, kWrg, kWra, kWrt, kWrn, c_5, c_13, c_28, hi32.1, hi32.2, c_40, c_52, c_69, c_74]) (by simp (config := {decide := true}) only [kif_true, kif_false, kb, kup_eq, kup_f, kup_i, not_true_eq_false, not_false_eq_true, and_true, true_and, and_false, false_and, and_self, or_true, true_or, or_false, false_or, a_write, t_write, n_write, kWrg, kWra, kWrt, kWrn, c_5, c_13, c_28, hi32.1, hi32.2, c_40, c_52, c_69, c_74]) (by simp (config := {decide := true}) only [kif_true, kif_false, kb, kup_eq, kup_f, kup_i, not_true_eq_false, not_false_eq_true, and_true, true_and, and_false, false_and, and_self, or_true, true_or, or_false, false_or, a_write, t_write, n_write, kWrg, kWra, kWrt, kWrn, c_5, c_13, c_28, hi32.1, hi32.2, c_40, c_52, c_69, c_74]) rfl rfl dX4_write_83
        · refine lv_ldc hC.1 hC.2.1 hC.2.2.2.1 (hC.2.2.2.2 _ (kt_in tk_X4_135 rfl)) dX4_write_43 ?_
          exact mkrI hC hr hlk hW (by simp (config := {decide := true}) only [kif_true, kif_false, kb, kup_eq, kup_f, kup_i, not_true_eq_false, not_false_eq_true, and_true, true_and, and_false, false_and, and_self, or_true, true_or, or_false, false_or, a_write, t_write, n_write, kWrg, kWra, kWrt, kWrn, c_5, c_13, c_28, hi32.1, hi32.2, c_40]) (by simp (config := {decide := true}) only [kif_true, kif_false, kb, kup_eq, kup_f, kup_i, not_true_eq_false, not_false_eq_true, and_true, true_and, and_false, false_and, and_self, or_true, true_or, or_false, false_or, a_write, t_write, n_write, kWrg, kWra, kWrt, kWrn, c_5, c_13, c_28, hi32.1, hi32.2, c_40]) (by simp (config := {decide := true}) only [kif_true, kif_false, kb, kup_eq, kup_f, kup_i, not_true_eq_false, not_false_eq_true, and_true, true_and, and_false, false_and, and_self, or_true, true_or, or_false, false_or, a_write, t_write, n_write, kWrg, kWra, kWrt, kWrn, c_5, c_13, c_28, hi32.1, hi32.2, c_40]) rfl rfl dX4_write_45
      · have hi32 : ¬ (¬ i < 0 ∧ i < 32) := fun z => c_28 (k031.mpr z)
        refine lv_ldc hC.1 hC.2.1 hC.2.2.2.1 (hC.2.2.2.2 _ (kt_in tk_X4_110 rfl)) dX4_write_31 ?_
        exact mkrI hC hr hlk hW (by simp (config := {decide := true}) only [kif_true, kif_false, kb, kup_eq, kup_f, kup_i, not_true_eq_false, not_false_eq_true, and_true, true_and, and_false, false_and, and_self, or_true, true_or, or_false, false_or, a_write, t_write, n_write, kWrg, kWra, kWrt, kWrn, c_5, c_13, c_28, hi32]) (by simp (config := {decide := true}) only [kif_true, kif_false, kb, kup_eq, kup_f, kup_i, not_true_eq_false, not_false_eq_true, and_true, true_and, and_false, false_and, and_self, or_true, true_or, or_false, false_or, a_write, t_write, n_write, kWrg, kWra, kWrt, kWrn, c_5, c_13, c_28, hi32]) (by simp (config := {decide := true}) only [kif_true, kif_false, kb, kup_eq, kup_f, kup_i, not_true_eq_false, not_false_eq_true, and_true, true_and, and_false, false_and, and_self, or_true, true_or, or_false, false_or, a_write, t_write, n_write, kWrg, kWra, kWrt, kWrn, c_5, c_13, c_28, hi32]) rfl rfl dX4_write_33
    · refine lv_ldc hC.1 hC.2.1 hC.2.2.2.1 (hC.2.2.2.2 _ (kt_in tk_X4_107 rfl)) dX4_write_16 ?_
      exact mkrI hC hr hlk hW (by simp (config := {decide := true}) only [kif_true, kif_false, kb, kup_eq, kup_f, kup_i, not_true_eq_false, not_false_eq_true, and_true, true_and, and_false, false_and, and_self, or_true, true_or, or_false, false_or, a_write, t_write, n_write, kWrg, kWra, kWrt, kWrn, c_5, c_13]) (by simp (config := {decide := true}) only [kif_true, kif_false, kb, kup_eq, kup_f, kup_i, not_true_eq_false, not_false_eq_true, and_true, true_and, and_false, false_and, and_self, or_true, true_or, or_false, false_or, a_write, t_write, n_write, kWrg, kWra, kWrt, kWrn, c_5, c_13]) (by simp (config := {decide := true}) only [kif_true, kif_false, kb, kup_eq, kup_f, kup_i, not_true_eq_false, not_false_eq_true, and_true, true_and, and_false, false_and, and_self, or_true, true_or, or_false, false_or, a_write, t_write, n_write, kWrg, kWra, kWrt, kWrn, c_5, c_13]) rfl rfl dX4_write_18
