def kz (f n : Nat) (T : kT) : kT := fun g j => if g = f ∧ j < n then 0 else T g j
def kr1 (T : kT) (n : Nat) : kT := fun g j => if g = 1 ∧ j < n then (if j = 0 then 1 else 0) else T g j
theorem kz_s (f n : Nat) (T : kT) : kup (kz f n T) f n 0 = kz f (n + 1) T := by
  funext g j
  unfold kup kz
  by_cases hg : g = f
  · by_cases hj : j = n
    · rw [if_pos ⟨hg, hj⟩, if_pos ⟨hg, by omega⟩]
    · rw [if_neg (fun z => hj z.2)]
      by_cases h : j < n
      · rw [if_pos ⟨hg, h⟩, if_pos ⟨hg, by omega⟩]
      · rw [if_neg (fun z => h z.2), if_neg (fun z => by omega)]
  · rw [if_neg (fun z => hg z.1), if_neg (fun z => hg z.1), if_neg (fun z => hg z.1)]
theorem kz_0 (f : Nat) (T : kT) : kz f 0 T = T := by
  funext g j
  unfold kz
  rw [if_neg (fun z => absurd z.2 (Nat.not_lt_zero j))]
theorem kr1_0 (T : kT) : kr1 T 0 = T := by
  funext g j
  unfold kr1
  rw [if_neg (fun z => absurd z.2 (Nat.not_lt_zero j))]
theorem kr1_s (T : kT) (n : Nat) (v : Int32) (hv : v = if n = 0 then 1 else 0) : kup (kr1 T n) 1 n v = kr1 T (n + 1) := by
  subst hv
  funext g j
  unfold kup kr1
  by_cases hg : g = 1
  · subst hg
    by_cases hj : j = n
    · subst hj
      simp
    · by_cases h : j < n
      · simp [hj, h, show j < n + 1 by omega]
      · simp [hj, h, show ¬ j < n + 1 by omega]
  · simp [hg]
theorem kfz (f : Nat) (g : kT → Nat → kT) (hg : ∀ T x, g T x = kup T f x 0) (T : kT) : ∀ n, kfT g T n = kz f n T
  | 0 => (kz_0 f T).symm
  | n + 1 => by
    show g (kfT g T n) n = _
    rw [hg, kfz f g hg T n, kz_s]
theorem kup_id {T : kT} {f i : Nat} {v : Int32} (h : T f i = v) : kup T f i v = T := by
  funext g j
  unfold kup
  by_cases hh : g = f ∧ j = i
  · rw [if_pos hh, hh.1, hh.2, h]
  · rw [if_neg hh]
theorem kup_up {T : kT} {f i : Nat} {v w : Int32} : kup (kup T f i v) f i w = kup T f i w := by
  funext g j
  unfold kup
  by_cases hh : g = f ∧ j = i
  · rw [if_pos hh, if_pos hh]
  · rw [if_neg hh, if_neg hh, if_neg hh]
theorem kup_cm {T : kT} {f i f' i' : Nat} {v w : Int32} (h : f ≠ f' ∨ i ≠ i') : kup (kup T f i v) f' i' w = kup (kup T f' i' w) f i v := by
  funext g j
  unfold kup
  by_cases h1 : g = f' ∧ j = i'
  · rw [if_pos h1, if_neg (fun z => by rcases h with h | h; exact h (z.1.symm.trans h1.1); exact h (z.2.symm.trans h1.2)), if_pos h1]
  · rw [if_neg h1]
    by_cases h2 : g = f ∧ j = i
    · rw [if_pos h2, if_pos h2]
    · rw [if_neg h2, if_neg h2, if_neg h1]
theorem kbeg_eq {T : kT} (h1 : kI1 T) (h2 : kI2 T) : kup (kup (kup (kup (kup (kup (kup (kup (kz 10 (tn (T 0 2)) (kr1 T (tn (T 0 1)))) 3 0 0) 4 0 0) 5 0 0) 6 0 0) 2 0 (-1)) (7 + 0) 0 0) (7 + 1) 0 0) (7 + 2) 0 0 = kSt T := by
  unfold kSt
  rw [kfz 10 kc10 (fun _ _ => rfl), kfz 1 kc1 (fun _ _ => rfl)]
  funext g j
  have a1 := h1.2.2.1
  have a2 := h2.2.1
  have a3 := h1.2.1
  by_cases hg10 : g = 10
  · subst hg10
    simp only [kup, kz, kr1, t_X2_begin]
    by_cases hj : j < tn (T 0 2)
    · simp [hj, show j < 40 by omega]
    · have z := h2.2.2 j (by omega)
      by_cases hj2 : j < 40 <;> simp [hj, hj2, z]
  by_cases hg1 : g = 1
  · subst hg1
    simp only [kup, kz, kr1, t_X2_begin]
    by_cases hj0 : j = 0
    · subst hj0
      simp [show 0 < tn (T 0 1) by omega]
    · by_cases hj : j < tn (T 0 1)
      · simp [hj, hj0, show j < 24 by omega]
      · have z := h1.2.2.2 j (by omega)
        by_cases hj2 : j < 24 <;> simp [hj, hj2, hj0, z]
  · simp only [kup, kz, kr1, t_X2_begin, hg10, hg1, false_and, if_false]
    by_cases hj0 : j = 0
    · subst hj0
      by_cases e2 : g = 2
      · subst e2; simp
      by_cases e3 : g = 3
      · subst e3; simp
      by_cases e4 : g = 4
      · subst e4; simp
      by_cases e5 : g = 5
      · subst e5; simp
      by_cases e6 : g = 6
      · subst e6; simp
      by_cases e7 : g = 7
      · subst e7; simp
      by_cases e8 : g = 8
      · subst e8; simp
      by_cases e9 : g = 9
      · subst e9; simp
      simp [e2, e3, e4, e5, e6, e7, e8, e9]
    · simp [hj0]
theorem hneg {x : Int32} (h : ¬ x < -1) (h2 : x < 0) : x = -1 := by
  rw [Int32.lt_iff_toInt_lt] at h h2
  have z1 : (-1 : Int32).toInt = -1 := rfl
  have z2 : (0 : Int32).toInt = 0 := rfl
  exact Int32.toInt_inj.mp (by omega)
theorem hpos {x : Int32} (h : ¬ x < 0) : ¬ x = -1 := fun z => h (by rw [z]; decide)
theorem hle {x y : Int32} (h : ¬ y < x) : x ≤ y := by
  rw [Int32.lt_iff_toInt_lt] at h
  rw [Int32.le_iff_toInt_le]
  omega
theorem hnle {x y : Int32} (h : y < x) : ¬ x ≤ y := by
  rw [Int32.lt_iff_toInt_lt] at h
  rw [Int32.le_iff_toInt_le]
  omega
def kIc (T : kT) : Prop := ¬ T 0 8 < -1
def kI7 (T : kT) : Prop := ∀ x, tn (T 0 3) ≤ x → T 25 x = 0
theorem kmk_eq {T : kT} {b h s t bl pl : Int32} (h7 : kI7 T) (hgo : kGo T 3) : kup (kup (kup (kup (kup (kup (kup (kup (kup (kup T 0 7 (T 0 7 + 3)) 18 (tn (T 0 3)) 1) 19 (tn (T 0 3)) b) 21 (tn (T 0 3)) s) 22 (tn (T 0 3)) t) 20 (tn (T 0 3)) h) 23 (tn (T 0 3)) bl) 24 (tn (T 0 3)) pl) 25 (tn (T 0 3)) 0) 0 3 (T 0 3 + 1) = kMk T b h s t bl pl := by
  unfold kMk kGoT
  rw [kif_t hgo, kif_t hgo]
  generalize hn : tn (T 0 3) = n
  have z : T 25 n = 0 := h7 n (by omega)
  unfold t_X1_begin
  rw [kup_id (T := kup (kup (kup (kup (kup (kup (kup (kup T 0 7 (T 0 7 + 3)) 18 n 1) 19 n b) 21 n s) 22 n t) 20 n h) 23 n bl) 24 n pl) (f := 25) (i := n) (v := 0) (by simp [kup, z])]
  congr 3
  rw [kup_cm (f := 22) (f' := 20) (Or.inl (by decide)), kup_cm (f := 21) (f' := 20) (Or.inl (by decide))]
set_option maxHeartbeats 4000000 in
set_option maxRecDepth 100000 in
theorem c_X4_begin (l : Launch) (D : va_G) (G : Nat → ClassId) (M : Nat → Nat) (hL : mL M) (T N : kT) (r g : Nat → Int32) (hI1 : kI1 T) (hI2 : kI2 T) : kM l yX4_begin cX4_begin 2 none 0 0 (mPc D G M T N r g [.ref (M 0)]) (mQv D G M (kSt T) N r g) (mA M) := by
  refine kBegin (by decide) (Nat.le_of_ble_eq_true rfl) ?_
  intro zp ze zs zm zargs zbelow zmeth zc hC hr hlk hB ls hl
  obtain ⟨hP, hK⟩ := hB
  have hW : mWd D G M (mA M) zs.heap T N r g zs.heap [] := mWd.start hL hP
  have hl : lv_has ls 2 [(0, .ref (M 0))] := hl
  rw [← kr1_0 T] at hW
  refine lv_iconst (v := 0) hC.1 hC.2.1 dX4_begin_0 (by decide) ?_
  refine lv_istore_n (lv' := [(1, .int 0), (0, .ref (M 0))]) hC.1 hC.2.1 dX4_begin_1 rfl hl (by decide) rfl (fun ls hl => ?_)
  have loop_2 : ∀ (zf i : Nat), i + zf = tn (T 0 1) →  ∀ (H : Heap) (locs : List Loc), mWd D G M (mA M) zs.heap (kr1 T i) N r g H locs → ∀ ls : Array Slot, lv_has ls 2 [(1, .int (nI i)), (0, .ref (M 0))] → W zp l ze ({ frames := 0, cells := 0, slots := 0, locals := 0 } : Room) zs zm zargs zbelow zmeth zc H locs 0 0 (MQ zbelow (mQv D G M (kSt T) N r g) zargs zs 0 0 (mA M)) (F0 zm 2 ls []) := by
    intro zf
    induction zf with
    | zero =>
      intro i  hi  H locs hW ls hl
      have hi0 : i = tn (T 0 1) := by omega
      have hb2 := (tn_nat hI1.1).2
      have hb3 := hI1.2.2.1
      refine lv_iload_n hC.1 hC.2.1 dX4_begin_2 rfl (lv_at hl 0 rfl) ?_
      refine lv_aload_n hC.1 hC.2.1 dX4_begin_3 rfl (lv_at hl 1 rfl) ?_
      refine mg4 hC hK hW 3 (v := .int ((kr1 T i) 0 1)) rfl (by decide) rfl tf_X4_84 dX4_begin_4 ?_
      refine lv_icmp_ge (tgt := 31) hC.1 hC.2.1 dX4_begin_7 (by decide) (fun c_7 => ?_) (fun c_7 => ?_)
      · rw [hi0] at hW
        rw [← kz_0 10 (kr1 T (tn (T 0 1)))] at hW
        refine lv_iconst (v := 0) hC.1 hC.2.1 dX4_begin_31 (by decide) ?_
        refine lv_istore_n (lv' := [(1, .int 0), (0, .ref (M 0))]) hC.1 hC.2.1 dX4_begin_32 rfl hl (by decide) rfl (fun ls hl => ?_)
        have loop_33 : ∀ (zf i : Nat), i + zf = tn (T 0 2) →  ∀ (H : Heap) (locs : List Loc), mWd D G M (mA M) zs.heap (kz 10 i (kr1 T (tn (T 0 1)))) N r g H locs → ∀ ls : Array Slot, lv_has ls 2 [(1, .int (nI i)), (0, .ref (M 0))] → W zp l ze ({ frames := 0, cells := 0, slots := 0, locals := 0 } : Room) zs zm zargs zbelow zmeth zc H locs 0 0 (MQ zbelow (mQv D G M (kSt T) N r g) zargs zs 0 0 (mA M)) (F0 zm 33 ls []) := by
          intro zf
          induction zf with
          | zero =>
            intro i  hi  H locs hW ls hl
            have hi0 : i = tn (T 0 2) := by omega
            have hb2 := (tn_nat hI2.1).2
            have hb3 := hI2.2.1
            refine lv_iload_n hC.1 hC.2.1 dX4_begin_33 rfl (lv_at hl 0 rfl) ?_
            refine lv_aload_n hC.1 hC.2.1 dX4_begin_34 rfl (lv_at hl 1 rfl) ?_
            refine mg4 hC hK hW 11 (v := .int ((kz 10 i (kr1 T (tn (T 0 1)))) 0 2)) rfl (by decide) rfl tf_X4_100 dX4_begin_35 ?_
            refine lv_icmp_ge (tgt := 54) hC.1 hC.2.1 dX4_begin_38 (by decide) (fun c_38 => ?_) (fun c_38 => ?_)
            · rw [hi0] at hW
              refine lv_aload_n hC.1 hC.2.1 dX4_begin_54 rfl (lv_at hl 1 rfl) ?_
              refine mg4 hC hK hW 5 (v := .ref (M 2)) rfl (by decide) rfl tf_X4_13 dX4_begin_55 ?_
              refine lv_iconst (v := 0) hC.1 hC.2.1 dX4_begin_58 (by decide) ?_
              refine lv_iconst (v := 0) hC.1 hC.2.1 dX4_begin_59 (by decide) ?_
              refine mai_sN hC hK hW 2 (by decide) rfl (i := 0) (by decide) (mw_ar_2 0 0) dX4_begin_60 (fun H locs (hW : mWd D G M (mA M) zs.heap (kup (kz 10 (tn (T 0 2)) (kr1 T (tn (T 0 1)))) 3 0 0) N r g H locs) => ?_)
              refine lv_aload_n hC.1 hC.2.1 dX4_begin_61 rfl (lv_at hl 1 rfl) ?_
              refine mg4 hC hK hW 6 (v := .ref (M 3)) rfl (by decide) rfl tf_X4_17 dX4_begin_62 ?_
              refine lv_iconst (v := 0) hC.1 hC.2.1 dX4_begin_65 (by decide) ?_
              refine lv_iconst (v := 0) hC.1 hC.2.1 dX4_begin_66 (by decide) ?_
              refine mai_sN hC hK hW 3 (by decide) rfl (i := 0) (by decide) (mw_ar_3 0 0) dX4_begin_67 (fun H locs (hW : mWd D G M (mA M) zs.heap (kup (kup (kz 10 (tn (T 0 2)) (kr1 T (tn (T 0 1)))) 3 0 0) 4 0 0) N r g H locs) => ?_)
              refine lv_aload_n hC.1 hC.2.1 dX4_begin_68 rfl (lv_at hl 1 rfl) ?_
              refine mg4 hC hK hW 7 (v := .ref (M 4)) rfl (by decide) rfl tf_X4_20 dX4_begin_69 ?_
              refine lv_iconst (v := 0) hC.1 hC.2.1 dX4_begin_72 (by decide) ?_
              refine lv_iconst (v := 0) hC.1 hC.2.1 dX4_begin_73 (by decide) ?_
              refine mai_sN hC hK hW 4 (by decide) rfl (i := 0) (by decide) (mw_ar_4 0 0) dX4_begin_74 (fun H locs (hW : mWd D G M (mA M) zs.heap (kup (kup (kup (kz 10 (tn (T 0 2)) (kr1 T (tn (T 0 1)))) 3 0 0) 4 0 0) 5 0 0) N r g H locs) => ?_)
              refine lv_aload_n hC.1 hC.2.1 dX4_begin_75 rfl (lv_at hl 1 rfl) ?_
              refine mg4 hC hK hW 8 (v := .ref (M 5)) rfl (by decide) rfl tf_X4_23 dX4_begin_76 ?_
              refine lv_iconst (v := 0) hC.1 hC.2.1 dX4_begin_79 (by decide) ?_
              refine lv_iconst (v := 0) hC.1 hC.2.1 dX4_begin_80 (by decide) ?_
              refine mai_sN hC hK hW 5 (by decide) rfl (i := 0) (by decide) (mw_ar_5 0 0) dX4_begin_81 (fun H locs (hW : mWd D G M (mA M) zs.heap (kup (kup (kup (kup (kz 10 (tn (T 0 2)) (kr1 T (tn (T 0 1)))) 3 0 0) 4 0 0) 5 0 0) 6 0 0) N r g H locs) => ?_)
              refine lv_aload_n hC.1 hC.2.1 dX4_begin_82 rfl (lv_at hl 1 rfl) ?_
              refine mg4 hC hK hW 9 (v := .ref (M 6)) rfl (by decide) rfl tf_X4_26 dX4_begin_83 ?_
              refine lv_iconst (v := 0) hC.1 hC.2.1 dX4_begin_86 (by decide) ?_
              refine lv_iconst (v := (-1)) hC.1 hC.2.1 dX4_begin_87 (by decide) ?_
              refine mai_sN hC hK hW 6 (by decide) rfl (i := 0) (by decide) (mw_ar_6 0 (-1)) dX4_begin_88 (fun H locs (hW : mWd D G M (mA M) zs.heap (kup (kup (kup (kup (kup (kz 10 (tn (T 0 2)) (kr1 T (tn (T 0 1)))) 3 0 0) 4 0 0) 5 0 0) 6 0 0) 2 0 (-1)) N r g H locs) => ?_)
              refine lv_iconst (v := 0) hC.1 hC.2.1 dX4_begin_89 (by decide) ?_
              refine lv_istore_n (lv' := [(1, .int 0), (0, .ref (M 0))]) hC.1 hC.2.1 dX4_begin_90 rfl hl (by decide) rfl (fun ls hl => ?_)
              refine lv_iload_n hC.1 hC.2.1 dX4_begin_91 rfl (lv_at hl 0 rfl) ?_
              refine lv_iconst (v := 3) hC.1 hC.2.1 dX4_begin_92 (by decide) ?_
              refine lv_icmp_ge (tgt := 109) hC.1 hC.2.1 dX4_begin_93 (by decide) (fun c_93 => ?_) (fun c_93 => ?_)
              · exact absurd c_93 (by decide)
              · refine lv_aload_n hC.1 hC.2.1 dX4_begin_96 rfl (lv_at hl 1 rfl) ?_
                refine mg4 hC hK hW 10 (v := .ref (M 7)) rfl (by decide) rfl tf_X4_29 dX4_begin_97 ?_
                refine lv_iload_n hC.1 hC.2.1 dX4_begin_100 rfl (lv_at hl 0 rfl) ?_
                refine lv_iconst (v := 0) hC.1 hC.2.1 dX4_begin_101 (by decide) ?_
                refine mai_sN hC hK hW 7 (by decide) rfl (i := 0) (by decide) (mw_tk 0 0 (by omega) 0) dX4_begin_102 (fun H locs (hW : mWd D G M (mA M) zs.heap (kup (kup (kup (kup (kup (kup (kz 10 (tn (T 0 2)) (kr1 T (tn (T 0 1)))) 3 0 0) 4 0 0) 5 0 0) 6 0 0) 2 0 (-1)) (7 + 0) 0 0) N r g H locs) => ?_)
                refine lv_iinc (v := 1) (lv' := [(1, .int 1), (0, .ref (M 0))]) hC.1 hC.2.1 dX4_begin_103 hl (k := 0) rfl rfl (by decide) rfl (fun ls hl => ?_)
                refine lv_goto (tgt := 91) hC.1 hC.2.1 dX4_begin_106 (by decide) ?_
                refine lv_iload_n hC.1 hC.2.1 dX4_begin_91 rfl (lv_at hl 0 rfl) ?_
                refine lv_iconst (v := 3) hC.1 hC.2.1 dX4_begin_92 (by decide) ?_
                refine lv_icmp_ge (tgt := 109) hC.1 hC.2.1 dX4_begin_93 (by decide) (fun c_93 => ?_) (fun c_93 => ?_)
                · exact absurd c_93 (by decide)
                · refine lv_aload_n hC.1 hC.2.1 dX4_begin_96 rfl (lv_at hl 1 rfl) ?_
                  refine mg4 hC hK hW 10 (v := .ref (M 7)) rfl (by decide) rfl tf_X4_29 dX4_begin_97 ?_
                  refine lv_iload_n hC.1 hC.2.1 dX4_begin_100 rfl (lv_at hl 0 rfl) ?_
                  refine lv_iconst (v := 0) hC.1 hC.2.1 dX4_begin_101 (by decide) ?_
                  refine mai_sN hC hK hW 7 (by decide) rfl (i := 1) (by decide) (mw_tk 0 1 (by omega) 0) dX4_begin_102 (fun H locs (hW : mWd D G M (mA M) zs.heap (kup (kup (kup (kup (kup (kup (kup (kz 10 (tn (T 0 2)) (kr1 T (tn (T 0 1)))) 3 0 0) 4 0 0) 5 0 0) 6 0 0) 2 0 (-1)) (7 + 0) 0 0) (7 + 1) 0 0) N r g H locs) => ?_)
                  refine lv_iinc (v := 2) (lv' := [(1, .int 2), (0, .ref (M 0))]) hC.1 hC.2.1 dX4_begin_103 hl (k := 0) rfl rfl (by decide) rfl (fun ls hl => ?_)
                  refine lv_goto (tgt := 91) hC.1 hC.2.1 dX4_begin_106 (by decide) ?_
                  refine lv_iload_n hC.1 hC.2.1 dX4_begin_91 rfl (lv_at hl 0 rfl) ?_
                  refine lv_iconst (v := 3) hC.1 hC.2.1 dX4_begin_92 (by decide) ?_
                  refine lv_icmp_ge (tgt := 109) hC.1 hC.2.1 dX4_begin_93 (by decide) (fun c_93 => ?_) (fun c_93 => ?_)
                  · exact absurd c_93 (by decide)
                  · refine lv_aload_n hC.1 hC.2.1 dX4_begin_96 rfl (lv_at hl 1 rfl) ?_
                    refine mg4 hC hK hW 10 (v := .ref (M 7)) rfl (by decide) rfl tf_X4_29 dX4_begin_97 ?_
                    refine lv_iload_n hC.1 hC.2.1 dX4_begin_100 rfl (lv_at hl 0 rfl) ?_
                    refine lv_iconst (v := 0) hC.1 hC.2.1 dX4_begin_101 (by decide) ?_
                    refine mai_sN hC hK hW 7 (by decide) rfl (i := 2) (by decide) (mw_tk 0 2 (by omega) 0) dX4_begin_102 (fun H locs (hW : mWd D G M (mA M) zs.heap (kup (kup (kup (kup (kup (kup (kup (kup (kz 10 (tn (T 0 2)) (kr1 T (tn (T 0 1)))) 3 0 0) 4 0 0) 5 0 0) 6 0 0) 2 0 (-1)) (7 + 0) 0 0) (7 + 1) 0 0) (7 + 2) 0 0) N r g H locs) => ?_)
                    refine lv_iinc (v := 3) (lv' := [(1, .int 3), (0, .ref (M 0))]) hC.1 hC.2.1 dX4_begin_103 hl (k := 0) rfl rfl (by decide) rfl (fun ls hl => ?_)
                    refine lv_goto (tgt := 91) hC.1 hC.2.1 dX4_begin_106 (by decide) ?_
                    refine lv_iload_n hC.1 hC.2.1 dX4_begin_91 rfl (lv_at hl 0 rfl) ?_
                    refine lv_iconst (v := 3) hC.1 hC.2.1 dX4_begin_92 (by decide) ?_
                    refine lv_icmp_ge (tgt := 109) hC.1 hC.2.1 dX4_begin_93 (by decide) (fun c_93 => ?_) (fun c_93 => ?_)
                    · exact mkrV hC hr hlk hW (by exact kbeg_eq hI1 hI2) rfl rfl rfl dX4_begin_109
                    · exact absurd (by decide) c_93
            · exact absurd (show T 0 2 ≤ nI i from by rw [(tn_nat hI2.1).1]; exact nI_le (by omega) (by omega)) c_38
          | succ zf ih =>
            intro i  hi  H locs hW ls hl
            have hlt : i < tn (T 0 2) := by omega
            have hb2 := (tn_nat hI2.1).2
            have hb3 := hI2.2.1
            refine lv_iload_n hC.1 hC.2.1 dX4_begin_33 rfl (lv_at hl 0 rfl) ?_
            refine lv_aload_n hC.1 hC.2.1 dX4_begin_34 rfl (lv_at hl 1 rfl) ?_
            refine mg4 hC hK hW 11 (v := .int ((kz 10 i (kr1 T (tn (T 0 1)))) 0 2)) rfl (by decide) rfl tf_X4_100 dX4_begin_35 ?_
            refine lv_icmp_ge (tgt := 54) hC.1 hC.2.1 dX4_begin_38 (by decide) (fun c_38 => ?_) (fun c_38 => ?_)
            · exact absurd (show nI (tn (T 0 2)) ≤ nI i from by rw [← (tn_nat hI2.1).1]; exact c_38) (nI_ge (a := i) (b := tn (T 0 2)) (by omega) (by omega))
            · refine lv_aload_n hC.1 hC.2.1 dX4_begin_41 rfl (lv_at hl 1 rfl) ?_
              refine mg4 hC hK hW 12 (v := .ref (M 8)) rfl (by decide) rfl tf_X4_32 dX4_begin_42 ?_
              refine lv_iload_n hC.1 hC.2.1 dX4_begin_45 rfl (lv_at hl 0 rfl) ?_
              refine lv_iconst (v := 0) hC.1 hC.2.1 dX4_begin_46 (by decide) ?_
              refine mab_sN hC hK hW 8 (by decide) rfl (i := i) (by omega) (Or.inl rfl) (mw_ar_8 i 0) dX4_begin_47 (fun H locs (hW : mWd D G M (mA M) zs.heap (kup (kz 10 i (kr1 T (tn (T 0 1)))) 10 i 0) N r g H locs) => ?_)
              refine lv_iinc (v := nI (i + 1)) (lv' := [(1, .int (nI (i + 1))), (0, .ref (M 0))]) hC.1 hC.2.1 dX4_begin_48 hl (k := 0) rfl (nI_1 i) (by decide) rfl (fun ls hl => ?_)
              refine lv_goto (tgt := 33) hC.1 hC.2.1 dX4_begin_51 (by decide) ?_
              rw [kz_s] at hW
              exact ih (i + 1) (by omega) _ _ hW ls (lv_sub hl [0, 1] rfl)
        exact loop_33 (tn (T 0 2)) 0 (by omega) _ _ hW ls (by rw [nI_0]; exact lv_sub hl [0, 1] rfl)
      · exact absurd (show T 0 1 ≤ nI i from by rw [(tn_nat hI1.1).1]; exact nI_le (by omega) (by omega)) c_7
    | succ zf ih =>
      intro i  hi  H locs hW ls hl
      have hlt : i < tn (T 0 1) := by omega
      have hb2 := (tn_nat hI1.1).2
      have hb3 := hI1.2.2.1
      refine lv_iload_n hC.1 hC.2.1 dX4_begin_2 rfl (lv_at hl 0 rfl) ?_
      refine lv_aload_n hC.1 hC.2.1 dX4_begin_3 rfl (lv_at hl 1 rfl) ?_
      refine mg4 hC hK hW 3 (v := .int ((kr1 T i) 0 1)) rfl (by decide) rfl tf_X4_84 dX4_begin_4 ?_
      refine lv_icmp_ge (tgt := 31) hC.1 hC.2.1 dX4_begin_7 (by decide) (fun c_7 => ?_) (fun c_7 => ?_)
      · exact absurd (show nI (tn (T 0 1)) ≤ nI i from by rw [← (tn_nat hI1.1).1]; exact c_7) (nI_ge (a := i) (b := tn (T 0 1)) (by omega) (by omega))
      · refine lv_aload_n hC.1 hC.2.1 dX4_begin_10 rfl (lv_at hl 1 rfl) ?_
        refine mg4 hC hK hW 4 (v := .ref (M 1)) rfl (by decide) rfl tf_X4_7 dX4_begin_11 ?_
        refine lv_iload_n hC.1 hC.2.1 dX4_begin_14 rfl (lv_at hl 0 rfl) ?_
        refine lv_iload_n hC.1 hC.2.1 dX4_begin_15 rfl (lv_at hl 0 rfl) ?_
        refine lv_if_ne (tgt := 23) hC.1 hC.2.1 dX4_begin_16 (by decide) (fun c_16 => ?_) (fun c_16 => ?_)
        · refine lv_iconst (v := 0) hC.1 hC.2.1 dX4_begin_23 (by decide) ?_
          refine mab_sN hC hK hW 1 (by decide) rfl (i := i) (by omega) (Or.inl rfl) (mw_ar_1 i 0) dX4_begin_24 (fun H locs (hW : mWd D G M (mA M) zs.heap (kup (kr1 T i) 1 i 0) N r g H locs) => ?_)
          refine lv_iinc (v := nI (i + 1)) (lv' := [(1, .int (nI (i + 1))), (0, .ref (M 0))]) hC.1 hC.2.1 dX4_begin_25 hl (k := 0) rfl (nI_1 i) (by decide) rfl (fun ls hl => ?_)
          refine lv_goto (tgt := 2) hC.1 hC.2.1 dX4_begin_28 (by decide) ?_
          rw [kr1_s T i _ (by rw [if_neg (fun z => c_16 (by rw [z]; rfl))])] at hW
          exact ih (i + 1) (by omega) _ _ hW ls (lv_sub hl [0, 1] rfl)
        · refine lv_iconst (v := 1) hC.1 hC.2.1 dX4_begin_19 (by decide) ?_
          refine lv_goto (tgt := 24) hC.1 hC.2.1 dX4_begin_20 (by decide) ?_
          refine mab_sN hC hK hW 1 (by decide) rfl (i := i) (by omega) (Or.inr rfl) (mw_ar_1 i 1) dX4_begin_24 (fun H locs (hW : mWd D G M (mA M) zs.heap (kup (kr1 T i) 1 i 1) N r g H locs) => ?_)
          refine lv_iinc (v := nI (i + 1)) (lv' := [(1, .int (nI (i + 1))), (0, .ref (M 0))]) hC.1 hC.2.1 dX4_begin_25 hl (k := 0) rfl (nI_1 i) (by decide) rfl (fun ls hl => ?_)
          refine lv_goto (tgt := 2) hC.1 hC.2.1 dX4_begin_28 (by decide) ?_
          rw [kr1_s T i _ (by rw [if_pos ((nI_eq (by omega) (by decide)).mp c_16)])] at hW
          exact ih (i + 1) (by omega) _ _ hW ls (lv_sub hl [0, 1] rfl)
  exact loop_2 (tn (T 0 1)) 0 (by omega) _ _ hW ls (by rw [nI_0]; exact lv_sub hl [0, 1] rfl)
set_option maxHeartbeats 4000000 in
set_option maxRecDepth 100000 in
theorem c_X4_goes (l : Launch) (D : va_G) (G : Nat → ClassId) (M : Nat → Nat) (hL : mL M) (T N : kT) (r g : Nat → Int32) (n : Int32) (hIc : kIc T) : kM l yX4_goes cX4_goes 3 (some .boolean) 0 0 (mPc D G M T N r g [.ref (M 0), .int n]) (mQi D G M (kb (kGo T n)) (kGoT T n) N r g) (mA M) := by
  refine kBegin (by decide) (Nat.le_of_ble_eq_true rfl) ?_
  intro zp ze zs zm zargs zbelow zmeth zc hC hr hlk hB ls hl
  obtain ⟨hP, hK⟩ := hB
  have hW : mWd D G M (mA M) zs.heap T N r g zs.heap [] := mWd.start hL hP
  have hl : lv_has ls 3 [(0, .ref (M 0)), (1, .int n)] := hl
  refine lv_aload_n hC.1 hC.2.1 dX4_goes_0 rfl (lv_at hl 0 rfl) ?_
  refine mg4 hC hK hW 28 (v := .int (T 0 8)) rfl (by decide) rfl tf_X4_77 dX4_goes_1 ?_
  refine lv_if_lt (tgt := 15) hC.1 hC.2.1 dX4_goes_4 (by decide) (fun c_4 => ?_) (fun c_4 => ?_)
  · refine lv_iconst (v := 1) hC.1 hC.2.1 dX4_goes_15 (by decide) ?_
    refine lv_goto (tgt := 20) hC.1 hC.2.1 dX4_goes_16 (by decide) ?_
    refine lv_istore_n (lv' := [(2, .int 1), (0, .ref (M 0)), (1, .int n)]) hC.1 hC.2.1 dX4_goes_20 rfl hl (by decide) rfl (fun ls hl => ?_)
    refine lv_aload_n hC.1 hC.2.1 dX4_goes_21 rfl (lv_at hl 1 rfl) ?_
    refine lv_dup hC.1 hC.2.1 dX4_goes_22 rfl ?_
    refine mg4 hC hK hW 29 (v := .int (T 0 7)) rfl (by decide) rfl tf_X4_158 dX4_goes_23 ?_
    refine lv_iload_n hC.1 hC.2.1 dX4_goes_26 rfl (lv_at hl 0 rfl) ?_
    refine lv_if_eq (tgt := 34) hC.1 hC.2.1 dX4_goes_27 (by decide) (fun c_27 => ?_) (fun c_27 => ?_)
    · exact absurd c_27 (by decide)
    · refine lv_iload_n hC.1 hC.2.1 dX4_goes_30 rfl (lv_at hl 2 rfl) ?_
      refine lv_goto (tgt := 35) hC.1 hC.2.1 dX4_goes_31 (by decide) ?_
      refine lv_iadd hC.1 hC.2.1 dX4_goes_35 ?_
      refine mp4 hC hK hW 29 (by decide) rfl rfl (by decide +kernel) (mw_put_29 ((T 0 7) + n)) tf_X4_158 dX4_goes_36 (fun H locs (hW : mWd D G M (mA M) zs.heap (kup T 0 7 ((T 0 7) + n)) N r g H locs) => ?_)
      refine lv_iload_n hC.1 hC.2.1 dX4_goes_39 rfl (lv_at hl 0 rfl) ?_
      exact mkrIZ hC hr hlk hW (Or.inr rfl) (kb_t (Or.inl (hneg hIc c_4))).symm (kif_t (Or.inl (hneg hIc c_4))).symm rfl rfl rfl dX4_goes_40
  · refine lv_iload_n hC.1 hC.2.1 dX4_goes_7 rfl (lv_at hl 1 rfl) ?_
    refine lv_aload_n hC.1 hC.2.1 dX4_goes_8 rfl (lv_at hl 0 rfl) ?_
    refine mg4 hC hK hW 28 (v := .int (T 0 8)) rfl (by decide) rfl tf_X4_77 dX4_goes_9 ?_
    refine lv_icmp_gt (tgt := 19) hC.1 hC.2.1 dX4_goes_12 (by decide) (fun c_12 => ?_) (fun c_12 => ?_)
    · refine lv_iconst (v := 0) hC.1 hC.2.1 dX4_goes_19 (by decide) ?_
      refine lv_istore_n (lv' := [(2, .int 0), (0, .ref (M 0)), (1, .int n)]) hC.1 hC.2.1 dX4_goes_20 rfl hl (by decide) rfl (fun ls hl => ?_)
      refine lv_aload_n hC.1 hC.2.1 dX4_goes_21 rfl (lv_at hl 1 rfl) ?_
      refine lv_dup hC.1 hC.2.1 dX4_goes_22 rfl ?_
      refine mg4 hC hK hW 29 (v := .int (T 0 7)) rfl (by decide) rfl tf_X4_158 dX4_goes_23 ?_
      refine lv_iload_n hC.1 hC.2.1 dX4_goes_26 rfl (lv_at hl 0 rfl) ?_
      refine lv_if_eq (tgt := 34) hC.1 hC.2.1 dX4_goes_27 (by decide) (fun c_27 => ?_) (fun c_27 => ?_)
      · refine lv_iconst (v := 0) hC.1 hC.2.1 dX4_goes_34 (by decide) ?_
        refine lv_iadd hC.1 hC.2.1 dX4_goes_35 ?_
        refine mp4 hC hK hW 29 (by decide) rfl rfl (by decide +kernel) (mw_put_29 ((T 0 7) + 0)) tf_X4_158 dX4_goes_36 (fun H locs (hW : mWd D G M (mA M) zs.heap (kup T 0 7 ((T 0 7) + 0)) N r g H locs) => ?_)
        refine lv_iload_n hC.1 hC.2.1 dX4_goes_39 rfl (lv_at hl 0 rfl) ?_
        exact mkrIZ hC hr hlk hW (Or.inl rfl) (kb_f (fun z => z.elim (hpos c_4) (hnle c_12))).symm (by unfold kGoT; rw [kif_f (fun z => z.elim (hpos c_4) (hnle c_12)), Int32.add_zero]; exact kup_id rfl) rfl rfl rfl dX4_goes_40
      · exact absurd (by decide) c_27
    · refine lv_iconst (v := 1) hC.1 hC.2.1 dX4_goes_15 (by decide) ?_
      refine lv_goto (tgt := 20) hC.1 hC.2.1 dX4_goes_16 (by decide) ?_
      refine lv_istore_n (lv' := [(2, .int 1), (0, .ref (M 0)), (1, .int n)]) hC.1 hC.2.1 dX4_goes_20 rfl hl (by decide) rfl (fun ls hl => ?_)
      refine lv_aload_n hC.1 hC.2.1 dX4_goes_21 rfl (lv_at hl 1 rfl) ?_
      refine lv_dup hC.1 hC.2.1 dX4_goes_22 rfl ?_
      refine mg4 hC hK hW 29 (v := .int (T 0 7)) rfl (by decide) rfl tf_X4_158 dX4_goes_23 ?_
      refine lv_iload_n hC.1 hC.2.1 dX4_goes_26 rfl (lv_at hl 0 rfl) ?_
      refine lv_if_eq (tgt := 34) hC.1 hC.2.1 dX4_goes_27 (by decide) (fun c_27 => ?_) (fun c_27 => ?_)
      · exact absurd c_27 (by decide)
      · refine lv_iload_n hC.1 hC.2.1 dX4_goes_30 rfl (lv_at hl 2 rfl) ?_
        refine lv_goto (tgt := 35) hC.1 hC.2.1 dX4_goes_31 (by decide) ?_
        refine lv_iadd hC.1 hC.2.1 dX4_goes_35 ?_
        refine mp4 hC hK hW 29 (by decide) rfl rfl (by decide +kernel) (mw_put_29 ((T 0 7) + n)) tf_X4_158 dX4_goes_36 (fun H locs (hW : mWd D G M (mA M) zs.heap (kup T 0 7 ((T 0 7) + n)) N r g H locs) => ?_)
        refine lv_iload_n hC.1 hC.2.1 dX4_goes_39 rfl (lv_at hl 0 rfl) ?_
        exact mkrIZ hC hr hlk hW (Or.inr rfl) (kb_t (Or.inr (hle c_12))).symm (kif_t (Or.inr (hle c_12))).symm rfl rfl rfl dX4_goes_40
set_option maxHeartbeats 4000000 in
set_option maxRecDepth 100000 in
theorem c_X4_answer (l : Launch) (D : va_G) (G : Nat → ClassId) (M : Nat → Nat) (hL : mL M) (T N : kT) (r g : Nat → Int32) (v : Int32) (hIc : kIc T) (hI1 : kI1 T) (hI2 : kI2 T) : kM l yX4_answer cX4_answer 2 (some .int) 1 21 (mPc D G M T N r g [.ref (M 0), .int v]) (mQi D G M (kOa T v) (kOt T) N r g) (mA M) := by
  refine kBegin (by decide) (Nat.le_of_ble_eq_true rfl) ?_
  intro zp ze zs zm zargs zbelow zmeth zc hC hr hlk hB ls hl
  obtain ⟨hP, hK⟩ := hB
  have hW : mWd D G M (mA M) zs.heap T N r g zs.heap [] := mWd.start hL hP
  have hl : lv_has ls 2 [(0, .ref (M 0)), (1, .int v)] := hl
  refine lv_aload_n hC.1 hC.2.1 dX4_answer_0 rfl (lv_at hl 0 rfl) ?_
  refine mg4 hC hK hW 28 (v := .int (T 0 8)) rfl (by decide) rfl tf_X4_77 dX4_answer_1 ?_
  refine lv_if_ge (tgt := 9) hC.1 hC.2.1 dX4_answer_4 (by decide) (fun c_4 => ?_) (fun c_4 => ?_)
  · refine lv_aload_n hC.1 hC.2.1 dX4_answer_9 rfl (lv_at hl 0 rfl) ?_
    refine lv_iconst (v := (-1)) hC.1 hC.2.1 dX4_answer_10 (by decide) ?_
    refine mp4 hC hK hW 28 (by decide) rfl rfl (by decide +kernel) (mw_put_28 (-1)) tf_X4_77 dX4_answer_11 (fun H locs (hW : mWd D G M (mA M) zs.heap (kup T 0 8 (-1)) N r g H locs) => ?_)
    refine lv_aload_n hC.1 hC.2.1 dX4_answer_14 rfl (lv_at hl 0 rfl) ?_
    refine lv_dup hC.1 hC.2.1 dX4_answer_15 rfl ?_
    refine mg4 hC hK hW 30 (v := .int ((kup T 0 8 (-1)) 0 9)) rfl (by decide) rfl tf_X4_161 dX4_answer_16 ?_
    refine lv_iconst (v := 1) hC.1 hC.2.1 dX4_answer_19 (by decide) ?_
    refine lv_iadd hC.1 hC.2.1 dX4_answer_20 ?_
    refine mp4 hC hK hW 30 (by decide) rfl rfl (by decide +kernel) (mw_put_30 (((kup T 0 8 (-1)) 0 9) + 1)) tf_X4_161 dX4_answer_21 (fun H locs (hW : mWd D G M (mA M) zs.heap (kup (kup T 0 8 (-1)) 0 9 (((kup T 0 8 (-1)) 0 9) + 1)) N r g H locs) => ?_)
    refine lv_aload_n hC.1 hC.2.1 dX4_answer_24 rfl (lv_at hl 0 rfl) ?_
    refine meQv (rest := []) (mcV 0 hC hK hW (c_X4_begin l D G M hL (kup (kup T 0 8 (-1)) 0 9 (((kup T 0 8 (-1)) 0 9) + 1)) N r g hI1 hI2) (kgoodV tm_X4_87 ti_yX4_begin te_yX4_begin tz_X4 tc_yX4_begin) mw_m rfl ⟨rfl, by decide, by decide, (show Option.map _ (parseMethodDescriptor yX4_begin.desc) = some 0 from by decide +kernel)⟩ ⟨Nat.le_of_ble_eq_true rfl, Nat.le_of_ble_eq_true rfl⟩ hl.1 rfl (Nat.le_of_ble_eq_true rfl) ⟨Nat.le_refl _, Nat.le_refl _⟩ dX4_answer_25) hW (fun H locs (hW : mWd D G M (mA M) zs.heap (kSt (kup (kup T 0 8 (-1)) 0 9 (((kup T 0 8 (-1)) 0 9) + 1))) N r g H locs) => ?_)
    refine lv_ldc hC.1 hC.2.1 hC.2.2.2.1 (hC.2.2.2.2 _ (kt_in tk_X4_164 rfl)) dX4_answer_28 ?_
    exact mkrI hC hr hlk hW (kif_f (hpos (fun z => hnle z c_4))).symm (kif_f (hpos (fun z => hnle z c_4))).symm rfl rfl rfl dX4_answer_30
  · refine lv_iload_n hC.1 hC.2.1 dX4_answer_7 rfl (lv_at hl 1 rfl) ?_
    exact mkrI hC hr hlk hW (kif_t (hneg hIc (by have z := hnle (x := 0) (y := T 0 8); exact Classical.byContradiction (fun q => c_4 (hle q))))).symm (kif_t (hneg hIc (Classical.byContradiction (fun q => c_4 (hle q))))).symm rfl rfl rfl dX4_answer_8
set_option maxHeartbeats 4000000 in
set_option maxRecDepth 100000 in
theorem c_X4_make (l : Launch) (D : va_G) (G : Nat → ClassId) (M : Nat → Nat) (hL : mL M) (T N : kT) (r g : Nat → Int32) (x2 : Int32) (x3 : Int32) (x4 : Int32) (x1 : Int32) (w_x1 : x1 = 0 ∨ x1 = 1) (x5 : Int32) (x6 : Int32) (hIc : kIc T) (hI1 : kI1 T) (hI2 : kI2 T) (hI3 : kI3 T) (hI7 : kI7 T) (hlt : tn (T 0 3) < 60) : kM l yX4_make cX4_make 8 (some .int) 2 42 (mPc D G M T N r g [.ref (M 0), .int x2, .int x3, .int x4, .int x1, .int x5, .int x6]) (mQi D G M (kOa (kMk T x1 x2 x3 x4 x5 x6) (T 0 3)) (kOt (kMk T x1 x2 x3 x4 x5 x6)) N r g) (mA M) := by
  refine kBegin (by decide) (Nat.le_of_ble_eq_true rfl) ?_
  intro zp ze zs zm zargs zbelow zmeth zc hC hr hlk hB ls hl
  obtain ⟨hP, hK⟩ := hB
  have hW : mWd D G M (mA M) zs.heap T N r g zs.heap [] := mWd.start hL hP
  have hl : lv_has ls 8 [(0, .ref (M 0)), (1, .int x2), (2, .int x3), (3, .int x4), (4, .int x1), (5, .int x5), (6, .int x6)] := hl
  refine lv_aload_n hC.1 hC.2.1 dX4_make_0 rfl (lv_at hl 0 rfl) ?_
  refine mg4 hC hK hW 18 (v := .int (T 0 3)) rfl (by decide) rfl tf_X4_90 dX4_make_1 ?_
  refine lv_istore (lv' := [(7, .int (T 0 3)), (0, .ref (M 0)), (1, .int x2), (2, .int x3), (3, .int x4), (4, .int x1), (5, .int x5), (6, .int x6)]) hC.1 hC.2.1 dX4_make_4 hl (by decide) rfl (fun ls hl => ?_)
  refine lv_aload_n hC.1 hC.2.1 dX4_make_6 rfl (lv_at hl 1 rfl) ?_
  refine lv_iconst (v := 3) hC.1 hC.2.1 dX4_make_7 (by decide) ?_
  refine meQi (rest := []) (mcV 0 hC hK hW (c_X4_goes l D G M hL T N r g 3 hIc) (kgoodV tm_X4_175 ti_yX4_goes te_yX4_goes tz_X4 tc_yX4_goes) mw_m rfl ⟨rfl, by decide, by decide, (show Option.map _ (parseMethodDescriptor yX4_goes.desc) = some 1 from by decide +kernel)⟩ ⟨Nat.le_of_ble_eq_true rfl, Nat.le_of_ble_eq_true rfl⟩ hl.1 rfl (Nat.le_of_ble_eq_true rfl) ⟨Nat.le_refl _, Nat.le_refl _⟩ dX4_make_8) hW (fun H locs (hW : mWd D G M (mA M) zs.heap (kGoT T 3) N r g H locs) => ?_)
  refine kif_eq (tgt := 91) hC.1 hC.2.1 dX4_make_11 (by decide) (fun c_11 => ?_) (fun c_11 => ?_)
  · rw [show kGoT T 3 = T from kif_f c_11] at hW
    refine lv_aload_n hC.1 hC.2.1 dX4_make_91 rfl (lv_at hl 1 rfl) ?_
    refine lv_iload hC.1 hC.2.1 dX4_make_92 (lv_at hl 0 rfl) ?_
    refine meQi (rest := []) (mcV 0 hC hK hW (c_X4_answer l D G M hL T N r g (T 0 3) hIc hI1 hI2) (kgoodV tm_X4_178 ti_yX4_answer te_yX4_answer tz_X4 tc_yX4_answer) mw_m rfl ⟨rfl, by decide, by decide, (show Option.map _ (parseMethodDescriptor yX4_answer.desc) = some 1 from by decide +kernel)⟩ ⟨Nat.le_of_ble_eq_true rfl, Nat.le_of_ble_eq_true rfl⟩ hl.1 rfl (Nat.le_of_ble_eq_true rfl) ⟨Nat.le_refl _, Nat.le_refl _⟩ dX4_make_94) hW (fun H locs (hW : mWd D G M (mA M) zs.heap (kOt T) N r g H locs) => ?_)
    exact mkrI hC hr hlk hW (by rw [show kMk T x1 x2 x3 x4 x5 x6 = T from kif_f c_11]) (by rw [show kMk T x1 x2 x3 x4 x5 x6 = T from kif_f c_11]) rfl rfl rfl dX4_make_97
  · rw [show kGoT T 3 = kup T 0 7 (T 0 7 + 3) from kif_t c_11] at hW
    refine lv_aload_n hC.1 hC.2.1 dX4_make_14 rfl (lv_at hl 1 rfl) ?_
    refine mg4 hC hK hW 19 (v := .ref (M 14)) rfl (by decide) rfl tf_X4_50 dX4_make_15 ?_
    refine lv_iload hC.1 hC.2.1 dX4_make_18 (lv_at hl 0 rfl) ?_
    refine lv_iconst (v := 1) hC.1 hC.2.1 dX4_make_20 (by decide) ?_
    refine mab_s hC hK hW 14 (by decide) rfl (i := T 0 3) (vp_nat hI3.1 hlt) (Or.inr rfl) (mw_ar_14 (tn (T 0 3)) 1) dX4_make_21 (fun H locs (hW : mWd D G M (mA M) zs.heap (kup (kup T 0 7 (T 0 7 + 3)) 18 (tn (T 0 3)) 1) N r g H locs) => ?_)
    refine lv_aload_n hC.1 hC.2.1 dX4_make_22 rfl (lv_at hl 1 rfl) ?_
    refine mg4 hC hK hW 20 (v := .ref (M 15)) rfl (by decide) rfl tf_X4_53 dX4_make_23 ?_
    refine lv_iload hC.1 hC.2.1 dX4_make_26 (lv_at hl 0 rfl) ?_
    refine lv_iload hC.1 hC.2.1 dX4_make_28 (lv_at hl 5 rfl) ?_
    refine mab_s hC hK hW 15 (by decide) rfl (i := T 0 3) (vp_nat hI3.1 hlt) w_x1 (mw_ar_15 (tn (T 0 3)) x1) dX4_make_30 (fun H locs (hW : mWd D G M (mA M) zs.heap (kup (kup (kup T 0 7 (T 0 7 + 3)) 18 (tn (T 0 3)) 1) 19 (tn (T 0 3)) x1) N r g H locs) => ?_)
    refine lv_aload_n hC.1 hC.2.1 dX4_make_31 rfl (lv_at hl 1 rfl) ?_
    refine mg4 hC hK hW 21 (v := .ref (M 16)) rfl (by decide) rfl tf_X4_56 dX4_make_32 ?_
    refine lv_iload hC.1 hC.2.1 dX4_make_35 (lv_at hl 0 rfl) ?_
    refine lv_iload_n hC.1 hC.2.1 dX4_make_37 rfl (lv_at hl 3 rfl) ?_
    refine mai_s hC hK hW 16 (by decide) rfl (i := T 0 3) (vp_nat hI3.1 hlt) (mw_ar_16 (tn (T 0 3)) x3) dX4_make_38 (fun H locs (hW : mWd D G M (mA M) zs.heap (kup (kup (kup (kup T 0 7 (T 0 7 + 3)) 18 (tn (T 0 3)) 1) 19 (tn (T 0 3)) x1) 21 (tn (T 0 3)) x3) N r g H locs) => ?_)
    refine lv_aload_n hC.1 hC.2.1 dX4_make_39 rfl (lv_at hl 1 rfl) ?_
    refine mg4 hC hK hW 22 (v := .ref (M 17)) rfl (by decide) rfl tf_X4_59 dX4_make_40 ?_
    refine lv_iload hC.1 hC.2.1 dX4_make_43 (lv_at hl 0 rfl) ?_
    refine lv_iload_n hC.1 hC.2.1 dX4_make_45 rfl (lv_at hl 4 rfl) ?_
    refine mai_s hC hK hW 17 (by decide) rfl (i := T 0 3) (vp_nat hI3.1 hlt) (mw_ar_17 (tn (T 0 3)) x4) dX4_make_46 (fun H locs (hW : mWd D G M (mA M) zs.heap (kup (kup (kup (kup (kup T 0 7 (T 0 7 + 3)) 18 (tn (T 0 3)) 1) 19 (tn (T 0 3)) x1) 21 (tn (T 0 3)) x3) 22 (tn (T 0 3)) x4) N r g H locs) => ?_)
    refine lv_aload_n hC.1 hC.2.1 dX4_make_47 rfl (lv_at hl 1 rfl) ?_
    refine mg4 hC hK hW 23 (v := .ref (M 18)) rfl (by decide) rfl tf_X4_62 dX4_make_48 ?_
    refine lv_iload hC.1 hC.2.1 dX4_make_51 (lv_at hl 0 rfl) ?_
    refine lv_iload_n hC.1 hC.2.1 dX4_make_53 rfl (lv_at hl 2 rfl) ?_
    refine mai_s hC hK hW 18 (by decide) rfl (i := T 0 3) (vp_nat hI3.1 hlt) (mw_ar_18 (tn (T 0 3)) x2) dX4_make_54 (fun H locs (hW : mWd D G M (mA M) zs.heap (kup (kup (kup (kup (kup (kup T 0 7 (T 0 7 + 3)) 18 (tn (T 0 3)) 1) 19 (tn (T 0 3)) x1) 21 (tn (T 0 3)) x3) 22 (tn (T 0 3)) x4) 20 (tn (T 0 3)) x2) N r g H locs) => ?_)
    refine lv_aload_n hC.1 hC.2.1 dX4_make_55 rfl (lv_at hl 1 rfl) ?_
    refine mg4 hC hK hW 24 (v := .ref (M 19)) rfl (by decide) rfl tf_X4_65 dX4_make_56 ?_
    refine lv_iload hC.1 hC.2.1 dX4_make_59 (lv_at hl 0 rfl) ?_
    refine lv_iload hC.1 hC.2.1 dX4_make_61 (lv_at hl 6 rfl) ?_
    refine mai_s hC hK hW 19 (by decide) rfl (i := T 0 3) (vp_nat hI3.1 hlt) (mw_ar_19 (tn (T 0 3)) x5) dX4_make_63 (fun H locs (hW : mWd D G M (mA M) zs.heap (kup (kup (kup (kup (kup (kup (kup T 0 7 (T 0 7 + 3)) 18 (tn (T 0 3)) 1) 19 (tn (T 0 3)) x1) 21 (tn (T 0 3)) x3) 22 (tn (T 0 3)) x4) 20 (tn (T 0 3)) x2) 23 (tn (T 0 3)) x5) N r g H locs) => ?_)
    refine lv_aload_n hC.1 hC.2.1 dX4_make_64 rfl (lv_at hl 1 rfl) ?_
    refine mg4 hC hK hW 25 (v := .ref (M 20)) rfl (by decide) rfl tf_X4_68 dX4_make_65 ?_
    refine lv_iload hC.1 hC.2.1 dX4_make_68 (lv_at hl 0 rfl) ?_
    refine lv_iload hC.1 hC.2.1 dX4_make_70 (lv_at hl 7 rfl) ?_
    refine mai_s hC hK hW 20 (by decide) rfl (i := T 0 3) (vp_nat hI3.1 hlt) (mw_ar_20 (tn (T 0 3)) x6) dX4_make_72 (fun H locs (hW : mWd D G M (mA M) zs.heap (kup (kup (kup (kup (kup (kup (kup (kup T 0 7 (T 0 7 + 3)) 18 (tn (T 0 3)) 1) 19 (tn (T 0 3)) x1) 21 (tn (T 0 3)) x3) 22 (tn (T 0 3)) x4) 20 (tn (T 0 3)) x2) 23 (tn (T 0 3)) x5) 24 (tn (T 0 3)) x6) N r g H locs) => ?_)
    refine lv_aload_n hC.1 hC.2.1 dX4_make_73 rfl (lv_at hl 1 rfl) ?_
    refine mg4 hC hK hW 26 (v := .ref (M 21)) rfl (by decide) rfl tf_X4_71 dX4_make_74 ?_
    refine lv_iload hC.1 hC.2.1 dX4_make_77 (lv_at hl 0 rfl) ?_
    refine lv_iconst (v := 0) hC.1 hC.2.1 dX4_make_79 (by decide) ?_
    refine mai_s hC hK hW 21 (by decide) rfl (i := T 0 3) (vp_nat hI3.1 hlt) (mw_ar_21 (tn (T 0 3)) 0) dX4_make_80 (fun H locs (hW : mWd D G M (mA M) zs.heap (kup (kup (kup (kup (kup (kup (kup (kup (kup T 0 7 (T 0 7 + 3)) 18 (tn (T 0 3)) 1) 19 (tn (T 0 3)) x1) 21 (tn (T 0 3)) x3) 22 (tn (T 0 3)) x4) 20 (tn (T 0 3)) x2) 23 (tn (T 0 3)) x5) 24 (tn (T 0 3)) x6) 25 (tn (T 0 3)) 0) N r g H locs) => ?_)
    refine lv_aload_n hC.1 hC.2.1 dX4_make_81 rfl (lv_at hl 1 rfl) ?_
    refine lv_dup hC.1 hC.2.1 dX4_make_82 rfl ?_
    refine mg4 hC hK hW 18 (v := .int ((kup (kup (kup (kup (kup (kup (kup (kup (kup T 0 7 (T 0 7 + 3)) 18 (tn (T 0 3)) 1) 19 (tn (T 0 3)) x1) 21 (tn (T 0 3)) x3) 22 (tn (T 0 3)) x4) 20 (tn (T 0 3)) x2) 23 (tn (T 0 3)) x5) 24 (tn (T 0 3)) x6) 25 (tn (T 0 3)) 0) 0 3)) rfl (by decide) rfl tf_X4_90 dX4_make_83 ?_
    refine lv_iconst (v := 1) hC.1 hC.2.1 dX4_make_86 (by decide) ?_
    refine lv_iadd hC.1 hC.2.1 dX4_make_87 ?_
    refine mp4 hC hK hW 18 (by decide) rfl rfl (by decide +kernel) (mw_put_18 (((kup (kup (kup (kup (kup (kup (kup (kup (kup T 0 7 (T 0 7 + 3)) 18 (tn (T 0 3)) 1) 19 (tn (T 0 3)) x1) 21 (tn (T 0 3)) x3) 22 (tn (T 0 3)) x4) 20 (tn (T 0 3)) x2) 23 (tn (T 0 3)) x5) 24 (tn (T 0 3)) x6) 25 (tn (T 0 3)) 0) 0 3) + 1)) tf_X4_90 dX4_make_88 (fun H locs (hW : mWd D G M (mA M) zs.heap (kup (kup (kup (kup (kup (kup (kup (kup (kup (kup T 0 7 (T 0 7 + 3)) 18 (tn (T 0 3)) 1) 19 (tn (T 0 3)) x1) 21 (tn (T 0 3)) x3) 22 (tn (T 0 3)) x4) 20 (tn (T 0 3)) x2) 23 (tn (T 0 3)) x5) 24 (tn (T 0 3)) x6) 25 (tn (T 0 3)) 0) 0 3 (((kup (kup (kup (kup (kup (kup (kup (kup (kup T 0 7 (T 0 7 + 3)) 18 (tn (T 0 3)) 1) 19 (tn (T 0 3)) x1) 21 (tn (T 0 3)) x3) 22 (tn (T 0 3)) x4) 20 (tn (T 0 3)) x2) 23 (tn (T 0 3)) x5) 24 (tn (T 0 3)) x6) 25 (tn (T 0 3)) 0) 0 3) + 1)) N r g H locs) => ?_)
    refine lv_aload_n hC.1 hC.2.1 dX4_make_91 rfl (lv_at hl 1 rfl) ?_
    refine lv_iload hC.1 hC.2.1 dX4_make_92 (lv_at hl 0 rfl) ?_
    refine meQi (rest := []) (mcV 0 hC hK hW (c_X4_answer l D G M hL (kup (kup (kup (kup (kup (kup (kup (kup (kup (kup T 0 7 (T 0 7 + 3)) 18 (tn (T 0 3)) 1) 19 (tn (T 0 3)) x1) 21 (tn (T 0 3)) x3) 22 (tn (T 0 3)) x4) 20 (tn (T 0 3)) x2) 23 (tn (T 0 3)) x5) 24 (tn (T 0 3)) x6) 25 (tn (T 0 3)) 0) 0 3 (((kup (kup (kup (kup (kup (kup (kup (kup (kup T 0 7 (T 0 7 + 3)) 18 (tn (T 0 3)) 1) 19 (tn (T 0 3)) x1) 21 (tn (T 0 3)) x3) 22 (tn (T 0 3)) x4) 20 (tn (T 0 3)) x2) 23 (tn (T 0 3)) x5) 24 (tn (T 0 3)) x6) 25 (tn (T 0 3)) 0) 0 3) + 1)) N r g (T 0 3) hIc hI1 hI2) (kgoodV tm_X4_178 ti_yX4_answer te_yX4_answer tz_X4 tc_yX4_answer) mw_m rfl ⟨rfl, by decide, by decide, (show Option.map _ (parseMethodDescriptor yX4_answer.desc) = some 1 from by decide +kernel)⟩ ⟨Nat.le_of_ble_eq_true rfl, Nat.le_of_ble_eq_true rfl⟩ hl.1 rfl (Nat.le_of_ble_eq_true rfl) ⟨Nat.le_refl _, Nat.le_refl _⟩ dX4_make_94) hW (fun H locs (hW : mWd D G M (mA M) zs.heap (kOt (kup (kup (kup (kup (kup (kup (kup (kup (kup (kup T 0 7 (T 0 7 + 3)) 18 (tn (T 0 3)) 1) 19 (tn (T 0 3)) x1) 21 (tn (T 0 3)) x3) 22 (tn (T 0 3)) x4) 20 (tn (T 0 3)) x2) 23 (tn (T 0 3)) x5) 24 (tn (T 0 3)) x6) 25 (tn (T 0 3)) 0) 0 3 (((kup (kup (kup (kup (kup (kup (kup (kup (kup T 0 7 (T 0 7 + 3)) 18 (tn (T 0 3)) 1) 19 (tn (T 0 3)) x1) 21 (tn (T 0 3)) x3) 22 (tn (T 0 3)) x4) 20 (tn (T 0 3)) x2) 23 (tn (T 0 3)) x5) 24 (tn (T 0 3)) x6) 25 (tn (T 0 3)) 0) 0 3) + 1))) N r g H locs) => ?_)
    exact mkrI hC hr hlk hW (congrArg (fun z => kOa z (T 0 3)) (kmk_eq hI7 c_11)) (congrArg kOt (kmk_eq hI7 c_11)) rfl rfl rfl dX4_make_97
