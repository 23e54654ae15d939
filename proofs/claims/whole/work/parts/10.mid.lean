def kFit (T : kT) (p s t b : Int32) : Prop := ∀ x, x < 40 → ¬ (¬ T 10 x = 0 ∧ T 11 x = p ∧ ¬ kWi ((T 12 x ^^^ s) ||| (T 13 x ^^^ t)) b)
def kdf (f : Nat → Int32) (x : Int32) : Nat → Int32
  | 0 => x
  | n + 1 => kdf f x n - f n
noncomputable def kbf (T : kT) (c : Int32) (o : Nat) : Int32 := kif (kIn T (nI o) c) (kBt T o) 0
noncomputable def kBl (T : kT) (c : Int32) : Int32 := kif (kCn T c) (kdf (kbf T c) (T 23 (tn c)) 60) 0
noncomputable def kpf (T : kT) (c : Int32) (o : Nat) : Int32 := kif (kIn T (nI o) c) (1 + T 24 o) 0
noncomputable def kPl (T : kT) (c : Int32) : Int32 := kif (kCn T c) (kdf (kpf T c) (T 24 (tn c)) 60) 0
def kMay (T : kT) (r o : Nat) (s t : Int32) : Prop := kRd T r o ∧ kWr T r o ∧ kFw (T 21 o) (T 22 o) s t ∧ kFw (T 3 r) (T 4 r) s t
def kHr (T : kT) (o : Nat) (x : Int32) : Prop := x ≤ 32 ∧ ¬ kBl T (T 20 o) < kBf x - kBf (T 25 o)
def kPo (T : kT) (w : Int32) : Nat → Int32 → Prop
  | 0, a => a = w
  | n + 1, a => a = w ∨ (kO T a ∧ kPo T w n (T 20 (tn a)))
noncomputable def kszf (T : kT) (w : Int32) (o : Nat) : Int32 := kb (¬ T 18 o = 0 ∧ kPo T w 60 (nI o))
noncomputable def krtg (w : Int32) (T : kT) (j : Nat) : kT := kif (¬ T 18 (59 - j) = 0 ∧ kPo T w 60 (nI (59 - j))) (kup T 18 (59 - j) 0) T
def kGo (T : kT) (x : Int32) : Prop := T 0 8 = -1 ∨ x ≤ T 0 8
noncomputable def kGoT (T : kT) (x : Int32) : kT := kif (kGo T x) (kup T 0 7 (T 0 7 + x)) T
def kc10 (T : kT) (x : Nat) : kT := kup T 10 x 0
def kc1 (T : kT) (x : Nat) : kT := kup T 1 x 0
def kSt (T : kT) : kT := t_X2_begin (kfT kc1 (kfT kc10 T 40) 24) 0 (-1) 0 0 0 0
noncomputable def kOa (T : kT) (x : Int32) : Int32 := kif (T 0 8 = -1) x (-1000005)
noncomputable def kOt (T : kT) : kT := kif (T 0 8 = -1) T (kSt (kup (kup T 0 8 (-1)) 0 9 ((kup T 0 8 (-1)) 0 9 + 1)))
noncomputable def kMk (T : kT) (b h s t bl pl : Int32) : kT := kif (kGo T 3) (kup (t_X1_begin (kGoT T 3) (tn (T 0 3)) b h s t bl pl) 0 3 (T 0 3 + 1)) T
noncomputable def kWg (o : Nat) (a : Int32) (T : kT) (k : Nat) : kT := kif (k32 (a + nI k)) (kup T 25 o (kmx (T 25 o) (a + nI k + 1))) T
noncomputable def kWn (o : Nat) (a v : Int32) (N : kT) (k : Nat) : kT := kif (k32 (a + nI k)) (kuN N o (tn (a + nI k)) (v + nI k)) N
noncomputable def kWT (T : kT) (o : Nat) (a n : Int32) : kT := kif (kGo T (n + 1)) (kfT (kWg o a) (kGoT T (n + 1)) (tn n)) T
noncomputable def kWN (T N : kT) (o : Nat) (a n v : Int32) : kT := kif (kGo T (n + 1)) (kfT (kWn o a v) N (tn n)) N
noncomputable def kWra (T : kT) (o : Nat) (b a n : Int32) : Int32 := kif (kHr T o (a + n)) (kOa (kWT T o a n) 1) (kif (b = 0) (-1000004) 1)
theorem kdec (x : Int32) : x + Int32.ofInt (-1) = x - 1 := by
  rw [show Int32.ofInt (-1) = -(1 : Int32) by decide]
  exact (Int32.sub_eq_add_neg x 1).symm
theorem kpred_lt : ∀ k : Nat, k < 61 → nI k - 1 < nI k := by decide
theorem kif_TT {T X : kT} {P : Prop} (h : P) : kif P X T = X := kif_t h
set_option maxHeartbeats 4000000 in
set_option maxRecDepth 100000 in
theorem c_X3_endpointsFit (l : Launch) (D : va_G) (G : Nat → ClassId) (L : Nat → Nat) (hL : kL L) (T N : kT) (q : kQ) (p : Int32) (x2 : Int32) (x3 : Int32) (x4 : Int32) : kM l yX3_endpointsFit cX3_endpointsFit 8 (some .boolean) 1 21 (kPc D G L T N q [.ref (L 0), .int p, .int x2, .int x3, .int x4]) (kSi (kb (kFit T p x2 x3 x4))) (fun _ => False) := by
  refine kBegin (by decide) (Nat.le_of_ble_eq_true rfl) ?_
  intro zp ze zs zm zargs zbelow zmeth zc hC hr hlk hB ls hl
  obtain ⟨hP, hK, hN⟩ := hB
  have hW : kWd D G L (kA L) zs.heap T N q zs.heap [] := kWd.start hL hP
  have hl : lv_has ls 8 [(0, .ref (L 0)), (1, .int p), (2, .int x2), (3, .int x3), (4, .int x4)] := hl
  refine lv_iconst (v := 0) hC.1 hC.2.1 dX3_endpointsFit_0 (by decide) ?_
  refine lv_istore (lv' := [(5, .int 0), (0, .ref (L 0)), (1, .int p), (2, .int x2), (3, .int x3), (4, .int x4)]) hC.1 hC.2.1 dX3_endpointsFit_1 hl (by decide) rfl (fun ls hl => ?_)
  have loop_3 : ∀ (zf i : Nat), i + zf = 40 → (∀ x, x < i → ¬ (¬ T 10 x = 0 ∧ T 11 x = p ∧ ¬ kWi ((T 12 x ^^^ x2) ||| (T 13 x ^^^ x3)) x4)) → ∀ ls : Array Slot, lv_has ls 8 [(5, .int (nI i)), (0, .ref (L 0)), (1, .int p), (2, .int x2), (3, .int x3), (4, .int x4)] → W zp l ze ({ frames := 1, cells := 0, slots := 0, locals := 21 } : Room) zs zm zargs zbelow zmeth zc zs.heap [] 0 0 (MQ zbelow (kSi (kb (kFit T p x2 x3 x4))) zargs zs 0 0 (fun _ => False)) (F0 zm 3 ls []) := by
    intro zf
    induction zf with
    | zero =>
      intro i  hi hok ls hl
      have hi0 : i = 40 := by omega
      refine lv_iload hC.1 hC.2.1 dX3_endpointsFit_3 (lv_at hl 0 rfl) ?_
      refine lv_aload_n hC.1 hC.2.1 dX3_endpointsFit_5 rfl (lv_at hl 1 rfl) ?_
      refine kg3 hC hK hW 1 (v := .ref (L 2)) rfl (by decide) tf_X3_18 dX3_endpointsFit_6 ?_
      refine kal2 hC hK hW dX3_endpointsFit_9 ?_
      refine lv_icmp_ge (tgt := 74) hC.1 hC.2.1 dX3_endpointsFit_10 (by decide) (fun c_10 => ?_) (fun c_10 => ?_)
      · refine lv_iconst (v := 1) hC.1 hC.2.1 dX3_endpointsFit_74 (by decide) ?_
        exact krZ hC hr hlk (Or.inr rfl) (kb_t (fun x hx => hok x (by omega))).symm dX3_endpointsFit_75
      · exact absurd (nI_le (a := 40) (b := i) (by omega) (by omega)) c_10
    | succ zf ih =>
      intro i  hi hok ls hl
      have hlt : i < 40 := by omega
      refine lv_iload hC.1 hC.2.1 dX3_endpointsFit_3 (lv_at hl 0 rfl) ?_
      refine lv_aload_n hC.1 hC.2.1 dX3_endpointsFit_5 rfl (lv_at hl 1 rfl) ?_
      refine kg3 hC hK hW 1 (v := .ref (L 2)) rfl (by decide) tf_X3_18 dX3_endpointsFit_6 ?_
      refine kal2 hC hK hW dX3_endpointsFit_9 ?_
      refine lv_icmp_ge (tgt := 74) hC.1 hC.2.1 dX3_endpointsFit_10 (by decide) (fun c_10 => ?_) (fun c_10 => ?_)
      · exact absurd c_10 (nI_ge (a := i) (b := 40) (by omega) (by decide))
      · refine lv_aload_n hC.1 hC.2.1 dX3_endpointsFit_13 rfl (lv_at hl 1 rfl) ?_
        refine kg3 hC hK hW 1 (v := .ref (L 2)) rfl (by decide) tf_X3_18 dX3_endpointsFit_14 ?_
        refine lv_iload hC.1 hC.2.1 dX3_endpointsFit_17 (lv_at hl 0 rfl) ?_
        refine kar2n hC hK hW (i := i) hlt dX3_endpointsFit_19 ?_
        refine lv_astore (lv' := [(6, .ref (L (28 + i))), (5, .int (nI i)), (0, .ref (L 0)), (1, .int p), (2, .int x2), (3, .int x3), (4, .int x4)]) hC.1 hC.2.1 dX3_endpointsFit_20 hl (by decide) rfl (fun ls hl => ?_)
        refine lv_aload hC.1 hC.2.1 dX3_endpointsFit_22 (lv_at hl 0 rfl) ?_
        refine kg0N hC hK hN hW hlt 5 (v := .int (T 12 i)) rfl (by decide) tf_X3_133 dX3_endpointsFit_24 ?_
        refine lv_iload_n hC.1 hC.2.1 dX3_endpointsFit_27 rfl (lv_at hl 4 rfl) ?_
        refine lv_ixor hC.1 hC.2.1 dX3_endpointsFit_28 ?_
        refine lv_aload hC.1 hC.2.1 dX3_endpointsFit_29 (lv_at hl 0 rfl) ?_
        refine kg0N hC hK hN hW hlt 6 (v := .int (T 13 i)) rfl (by decide) tf_X3_134 dX3_endpointsFit_31 ?_
        refine lv_iload_n hC.1 hC.2.1 dX3_endpointsFit_34 rfl (lv_at hl 5 rfl) ?_
        refine lv_ixor hC.1 hC.2.1 dX3_endpointsFit_35 ?_
        refine lv_ior hC.1 hC.2.1 dX3_endpointsFit_36 ?_
        refine lv_istore (lv' := [(7, .int (((T 12 i) ^^^ x2) ||| ((T 13 i) ^^^ x3))), (6, .ref (L (28 + i))), (5, .int (nI i)), (0, .ref (L 0)), (1, .int p), (2, .int x2), (3, .int x3), (4, .int x4)]) hC.1 hC.2.1 dX3_endpointsFit_37 hl (by decide) rfl (fun ls hl => ?_)
        refine lv_aload hC.1 hC.2.1 dX3_endpointsFit_39 (lv_at hl 1 rfl) ?_
        refine kg0N hC hK hN hW hlt 3 (v := .int (T 10 i)) rfl (by decide) tf_X3_127 dX3_endpointsFit_41 ?_
        refine lv_if_eq (tgt := 68) hC.1 hC.2.1 dX3_endpointsFit_44 (by decide) (fun c_44 => ?_) (fun c_44 => ?_)
        · refine lv_iinc (v := nI (i + 1)) (lv' := [(5, .int (nI (i + 1))), (7, .int (((T 12 i) ^^^ x2) ||| ((T 13 i) ^^^ x3))), (6, .ref (L (28 + i))), (0, .ref (L 0)), (1, .int p), (2, .int x2), (3, .int x3), (4, .int x4)]) hC.1 hC.2.1 dX3_endpointsFit_68 hl (k := 2) rfl (nI_1 i) (by decide) rfl (fun ls hl => ?_)
          refine lv_goto (tgt := 3) hC.1 hC.2.1 dX3_endpointsFit_71 (by decide) ?_
          exact ih (i + 1) (by omega) (fun x hx => by rcases Nat.lt_succ_iff_lt_or_eq.mp hx with q | q; exact hok x q; subst q; intro z; exact z.1 c_44) ls (lv_sub hl [0, 3, 4, 5, 6, 7] rfl)
        · refine lv_aload hC.1 hC.2.1 dX3_endpointsFit_47 (lv_at hl 1 rfl) ?_
          refine kg0N hC hK hN hW hlt 4 (v := .int (T 11 i)) rfl (by decide) tf_X3_124 dX3_endpointsFit_49 ?_
          refine lv_iload_n hC.1 hC.2.1 dX3_endpointsFit_52 rfl (lv_at hl 4 rfl) ?_
          refine lv_icmp_ne (tgt := 68) hC.1 hC.2.1 dX3_endpointsFit_53 (by decide) (fun c_53 => ?_) (fun c_53 => ?_)
          · refine lv_iinc (v := nI (i + 1)) (lv' := [(5, .int (nI (i + 1))), (7, .int (((T 12 i) ^^^ x2) ||| ((T 13 i) ^^^ x3))), (6, .ref (L (28 + i))), (0, .ref (L 0)), (1, .int p), (2, .int x2), (3, .int x3), (4, .int x4)]) hC.1 hC.2.1 dX3_endpointsFit_68 hl (k := 2) rfl (nI_1 i) (by decide) rfl (fun ls hl => ?_)
            refine lv_goto (tgt := 3) hC.1 hC.2.1 dX3_endpointsFit_71 (by decide) ?_
            exact ih (i + 1) (by omega) (fun x hx => by rcases Nat.lt_succ_iff_lt_or_eq.mp hx with q | q; exact hok x q; subst q; intro z; exact c_53 z.2.1) ls (lv_sub hl [0, 3, 4, 5, 6, 7] rfl)
          · refine lv_iload hC.1 hC.2.1 dX3_endpointsFit_56 (lv_at hl 0 rfl) ?_
            refine lv_iload hC.1 hC.2.1 dX3_endpointsFit_58 (lv_at hl 7 rfl) ?_
            refine keSi (rest := []) (kcS0 hC (c_X3_isWithin l (((T 12 i) ^^^ x2) ||| ((T 13 i) ^^^ x3)) x4) (kgoodS tm_X3_110 ts_yX3_isWithin tz_X3 tc_yX3_isWithin) ⟨rfl, by decide, by decide, (show Option.map _ (parseMethodDescriptor yX3_isWithin.desc) = some 2 from by decide +kernel)⟩ ⟨Nat.le_of_ble_eq_true rfl, Nat.le_of_ble_eq_true rfl⟩ hl.1 rfl (Nat.le_of_ble_eq_true rfl) ⟨Nat.le_refl _, Nat.le_refl _⟩ dX3_endpointsFit_60) ?_
            refine kif_ne (tgt := 68) hC.1 hC.2.1 dX3_endpointsFit_63 (by decide) (fun c_63 => ?_) (fun c_63 => ?_)
            · refine lv_iinc (v := nI (i + 1)) (lv' := [(5, .int (nI (i + 1))), (7, .int (((T 12 i) ^^^ x2) ||| ((T 13 i) ^^^ x3))), (6, .ref (L (28 + i))), (0, .ref (L 0)), (1, .int p), (2, .int x2), (3, .int x3), (4, .int x4)]) hC.1 hC.2.1 dX3_endpointsFit_68 hl (k := 2) rfl (nI_1 i) (by decide) rfl (fun ls hl => ?_)
              refine lv_goto (tgt := 3) hC.1 hC.2.1 dX3_endpointsFit_71 (by decide) ?_
              exact ih (i + 1) (by omega) (fun x hx => by rcases Nat.lt_succ_iff_lt_or_eq.mp hx with q | q; exact hok x q; subst q; intro z; exact z.2.2 c_63) ls (lv_sub hl [0, 3, 4, 5, 6, 7] rfl)
            · refine lv_iconst (v := 0) hC.1 hC.2.1 dX3_endpointsFit_66 (by decide) ?_
              exact krZ hC hr hlk (Or.inl rfl) (kb_f (fun h => h i hlt ⟨c_44, knn (fun z => z c_53), c_63⟩)).symm dX3_endpointsFit_67
  exact loop_3 40 0 (by omega) (fun x hx => absurd hx (Nat.not_lt_zero x)) ls (by rw [nI_0]; exact lv_sub hl [0, 1, 2, 3, 4, 5] rfl)
set_option maxHeartbeats 4000000 in
set_option maxRecDepth 100000 in
theorem c_X3_blocksLeft (l : Launch) (D : va_G) (G : Nat → ClassId) (L : Nat → Nat) (hL : kL L) (T N : kT) (q : kQ) (c : Int32) : kM l yX3_blocksLeft cX3_blocksLeft 5 (some .int) 2 44 (kPc D G L T N q [.ref (L 0), .int c]) (kSi (kBl T c)) (fun _ => False) := by
  refine kBegin (by decide) (Nat.le_of_ble_eq_true rfl) ?_
  intro zp ze zs zm zargs zbelow zmeth zc hC hr hlk hB ls hl
  obtain ⟨hP, hK, hN⟩ := hB
  have hW : kWd D G L (kA L) zs.heap T N q zs.heap [] := kWd.start hL hP
  have hl : lv_has ls 5 [(0, .ref (L 0)), (1, .int c)] := hl
  refine lv_aload_n hC.1 hC.2.1 dX3_blocksLeft_0 rfl (lv_at hl 0 rfl) ?_
  refine lv_iload_n hC.1 hC.2.1 dX3_blocksLeft_1 rfl (lv_at hl 1 rfl) ?_
  refine keSq (rest := []) (kcV 0 hC hK hN hW (c_X3_containerAt l D G L hL T N q c) (kgoodV tm_X3_173 ti_yX3_containerAt te_yX3_containerAt tz_X3 tc_yX3_containerAt) kw_m rfl ⟨rfl, by decide, by decide, (show Option.map _ (parseMethodDescriptor yX3_containerAt.desc) = some 1 from by decide +kernel)⟩ ⟨Nat.le_of_ble_eq_true rfl, Nat.le_of_ble_eq_true rfl⟩ hl.1 rfl (Nat.le_of_ble_eq_true rfl) ⟨Nat.le_refl _, Nat.le_refl _⟩ dX3_blocksLeft_2) ?_
  refine kopt (P := kCn T c) (fun c_2 => ?_) (fun c_2 => ?_)
  · refine lv_astore_n (lv' := [(2, .ref (L (188 + (tn c)))), (0, .ref (L 0)), (1, .int c)]) hC.1 hC.2.1 dX3_blocksLeft_5 rfl hl (by decide) rfl (fun ls hl => ?_)
    refine lv_aload_n hC.1 hC.2.1 dX3_blocksLeft_6 rfl (lv_at hl 0 rfl) ?_
    refine lv_ifnonnull (tgt := 12) hC.1 hC.2.1 dX3_blocksLeft_7 (by decide) ?_
    refine lv_aload_n hC.1 hC.2.1 dX3_blocksLeft_12 rfl (lv_at hl 0 rfl) ?_
    refine kg1N hC hK hN hW (kCn.lt c_2) 6 (v := .int (T 23 (tn c))) rfl (by decide) tf_X3_256 dX3_blocksLeft_13 ?_
    refine lv_istore_n (lv' := [(3, .int (T 23 (tn c))), (2, .ref (L (188 + (tn c)))), (0, .ref (L 0)), (1, .int c)]) hC.1 hC.2.1 dX3_blocksLeft_16 rfl hl (by decide) rfl (fun ls hl => ?_)
    refine lv_iconst (v := 0) hC.1 hC.2.1 dX3_blocksLeft_17 (by decide) ?_
    refine lv_istore (lv' := [(4, .int 0), (3, .int (T 23 (tn c))), (2, .ref (L (188 + (tn c)))), (0, .ref (L 0)), (1, .int c)]) hC.1 hC.2.1 dX3_blocksLeft_18 hl (by decide) rfl (fun ls hl => ?_)
    have loop_20 : ∀ (zf i : Nat), i + zf = 60 →  ∀ ls : Array Slot, lv_has ls 5 [(4, .int (nI i)), (3, .int (kdf (kbf T c) (T 23 (tn c)) i)), (0, .ref (L 0)), (1, .int c)] → W zp l ze ({ frames := 2, cells := 0, slots := 0, locals := 44 } : Room) zs zm zargs zbelow zmeth zc zs.heap [] 0 0 (MQ zbelow (kSi (kBl T c)) zargs zs 0 0 (fun _ => False)) (F0 zm 20 ls []) := by
      intro zf
      induction zf with
      | zero =>
        intro i  hi  ls hl
        have hi0 : i = 60 := by omega
        refine lv_iload hC.1 hC.2.1 dX3_blocksLeft_20 (lv_at hl 0 rfl) ?_
        refine lv_aload_n hC.1 hC.2.1 dX3_blocksLeft_22 rfl (lv_at hl 2 rfl) ?_
        refine kg3 hC hK hW 2 (v := .ref (L 3)) rfl (by decide) tf_X3_25 dX3_blocksLeft_23 ?_
        refine kal3 hC hK hW dX3_blocksLeft_26 ?_
        refine lv_icmp_ge (tgt := 59) hC.1 hC.2.1 dX3_blocksLeft_27 (by decide) (fun c_27 => ?_) (fun c_27 => ?_)
        · refine lv_iload_n hC.1 hC.2.1 dX3_blocksLeft_59 rfl (lv_at hl 1 rfl) ?_
          exact krS hC hr hlk (by simp only [kif_true, kif_false, kb, kup_eq, kup_f, kup_i, not_true_eq_false, not_false_eq_true, and_true, true_and, and_false, false_and, and_self, or_true, true_or, or_false, false_or, kBl, c_2, hi0, c_27]) dX3_blocksLeft_60
        · exact absurd (nI_le (a := 60) (b := i) (by omega) (by omega)) c_27
      | succ zf ih =>
        intro i  hi  ls hl
        have hlt : i < 60 := by omega
        refine lv_iload hC.1 hC.2.1 dX3_blocksLeft_20 (lv_at hl 0 rfl) ?_
        refine lv_aload_n hC.1 hC.2.1 dX3_blocksLeft_22 rfl (lv_at hl 2 rfl) ?_
        refine kg3 hC hK hW 2 (v := .ref (L 3)) rfl (by decide) tf_X3_25 dX3_blocksLeft_23 ?_
        refine kal3 hC hK hW dX3_blocksLeft_26 ?_
        refine lv_icmp_ge (tgt := 59) hC.1 hC.2.1 dX3_blocksLeft_27 (by decide) (fun c_27 => ?_) (fun c_27 => ?_)
        · exact absurd c_27 (nI_ge (a := i) (b := 60) (by omega) (by decide))
        · refine lv_aload_n hC.1 hC.2.1 dX3_blocksLeft_30 rfl (lv_at hl 2 rfl) ?_
          refine lv_iload hC.1 hC.2.1 dX3_blocksLeft_31 (lv_at hl 0 rfl) ?_
          refine lv_iload_n hC.1 hC.2.1 dX3_blocksLeft_33 rfl (lv_at hl 3 rfl) ?_
          refine keSi (rest := []) (kcV 0 hC hK hN hW (c_X3_standsIn l D G L hL T N q (nI i) c) (kgoodV tm_X3_234 ti_yX3_standsIn te_yX3_standsIn tz_X3 tc_yX3_standsIn) kw_m rfl ⟨rfl, by decide, by decide, (show Option.map _ (parseMethodDescriptor yX3_standsIn.desc) = some 2 from by decide +kernel)⟩ ⟨Nat.le_of_ble_eq_true rfl, Nat.le_of_ble_eq_true rfl⟩ hl.1 rfl (Nat.le_of_ble_eq_true rfl) ⟨Nat.le_refl _, Nat.le_refl _⟩ dX3_blocksLeft_34) ?_
          refine kif_eq (tgt := 53) hC.1 hC.2.1 dX3_blocksLeft_37 (by decide) (fun c_37 => ?_) (fun c_37 => ?_)
          · refine lv_iinc (v := nI (i + 1)) (lv' := [(4, .int (nI (i + 1))), (3, .int (kdf (kbf T c) (T 23 (tn c)) i)), (0, .ref (L 0)), (1, .int c)]) hC.1 hC.2.1 dX3_blocksLeft_53 hl (k := 0) rfl (nI_1 i) (by decide) rfl (fun ls hl => ?_)
            refine lv_goto (tgt := 20) hC.1 hC.2.1 dX3_blocksLeft_56 (by decide) ?_
            have e_3 : kdf (kbf T c) (T 23 (tn c)) i = kdf (kbf T c) (T 23 (tn c)) (i + 1) := by simp only [kif_true, kif_false, kb, not_true_eq_false, not_false_eq_true, and_true, true_and, and_false, false_and, and_self, or_true, true_or, or_false, false_or, Int32.add_zero, Int32.sub_zero, kdf, kbf, c_2, c_27, c_37]
            rw [e_3] at hl
            exact ih (i + 1) (by omega) ls (lv_sub hl [0, 1, 2, 3] rfl)
          · refine lv_iload_n hC.1 hC.2.1 dX3_blocksLeft_40 rfl (lv_at hl 1 rfl) ?_
            refine lv_aload_n hC.1 hC.2.1 dX3_blocksLeft_41 rfl (lv_at hl 2 rfl) ?_
            refine kg3 hC hK hW 2 (v := .ref (L 3)) rfl (by decide) tf_X3_25 dX3_blocksLeft_42 ?_
            refine lv_iload hC.1 hC.2.1 dX3_blocksLeft_45 (lv_at hl 0 rfl) ?_
            refine kar3n hC hK hW (i := i) hlt dX3_blocksLeft_47 ?_
            refine keSi (rest := [.int (kdf (kbf T c) (T 23 (tn c)) i)]) (kcVN (188 + i) hC hK hN hW (c_X1_blocksTaken l D G L hL T N q i hlt) tm_X3_259 ti_yX1_blocksTaken te_yX1_blocksTaken tz_X1 tc_yX1_blocksTaken (kw_o hlt) rfl ⟨by decide, by decide, (show Option.map _ (parseMethodDescriptor yX1_blocksTaken.desc) = some 0 from by decide +kernel)⟩ ⟨Nat.le_of_ble_eq_true rfl, Nat.le_of_ble_eq_true rfl⟩ hl.1 rfl (Nat.le_of_ble_eq_true rfl) ⟨Nat.le_refl _, Nat.le_refl _⟩ dX3_blocksLeft_48) ?_
            refine lv_isub hC.1 hC.2.1 dX3_blocksLeft_51 ?_
            refine lv_istore_n (lv' := [(3, .int ((kdf (kbf T c) (T 23 (tn c)) i) - (kBt T i))), (4, .int (nI i)), (0, .ref (L 0)), (1, .int c)]) hC.1 hC.2.1 dX3_blocksLeft_52 rfl hl (by decide) rfl (fun ls hl => ?_)
            refine lv_iinc (v := nI (i + 1)) (lv' := [(4, .int (nI (i + 1))), (3, .int ((kdf (kbf T c) (T 23 (tn c)) i) - (kBt T i))), (0, .ref (L 0)), (1, .int c)]) hC.1 hC.2.1 dX3_blocksLeft_53 hl (k := 1) rfl (nI_1 i) (by decide) rfl (fun ls hl => ?_)
            refine lv_goto (tgt := 20) hC.1 hC.2.1 dX3_blocksLeft_56 (by decide) ?_
            have e_3 : ((kdf (kbf T c) (T 23 (tn c)) i) - (kBt T i)) = kdf (kbf T c) (T 23 (tn c)) (i + 1) := by simp only [kif_true, kif_false, kb, not_true_eq_false, not_false_eq_true, and_true, true_and, and_false, false_and, and_self, or_true, true_or, or_false, false_or, Int32.add_zero, Int32.sub_zero, kdf, kbf, c_2, c_27, c_37]
            rw [e_3] at hl
            exact ih (i + 1) (by omega) ls (lv_sub hl [0, 1, 2, 3] rfl)
    exact loop_20 60 0 (by omega) ls (by rw [nI_0]; exact lv_sub hl [0, 1, 3, 4] rfl)
  · refine lv_astore_nN (lv' := [(2, .null), (0, .ref (L 0)), (1, .int c)]) hC.1 hC.2.1 dX3_blocksLeft_5 rfl hl (by decide) rfl (fun ls hl => ?_)
    refine lv_aload_nN hC.1 hC.2.1 dX3_blocksLeft_6 rfl (lv_at hl 0 rfl) ?_
    refine lv_ifnonnullN hC.1 hC.2.1 dX3_blocksLeft_7 ?_
    refine lv_iconst (v := 0) hC.1 hC.2.1 dX3_blocksLeft_10 (by decide) ?_
    exact krS hC hr hlk (by simp only [kif_true, kif_false, kb, kup_eq, kup_f, kup_i, not_true_eq_false, not_false_eq_true, and_true, true_and, and_false, false_and, and_self, or_true, true_or, or_false, false_or, kBl, c_2]) dX3_blocksLeft_11
set_option maxHeartbeats 4000000 in
set_option maxRecDepth 100000 in
theorem c_X3_placesLeft (l : Launch) (D : va_G) (G : Nat → ClassId) (L : Nat → Nat) (hL : kL L) (T N : kT) (q : kQ) (c : Int32) : kM l yX3_placesLeft cX3_placesLeft 5 (some .int) 2 44 (kPc D G L T N q [.ref (L 0), .int c]) (kSi (kPl T c)) (fun _ => False) := by
  refine kBegin (by decide) (Nat.le_of_ble_eq_true rfl) ?_
  intro zp ze zs zm zargs zbelow zmeth zc hC hr hlk hB ls hl
  obtain ⟨hP, hK, hN⟩ := hB
  have hW : kWd D G L (kA L) zs.heap T N q zs.heap [] := kWd.start hL hP
  have hl : lv_has ls 5 [(0, .ref (L 0)), (1, .int c)] := hl
  refine lv_aload_n hC.1 hC.2.1 dX3_placesLeft_0 rfl (lv_at hl 0 rfl) ?_
  refine lv_iload_n hC.1 hC.2.1 dX3_placesLeft_1 rfl (lv_at hl 1 rfl) ?_
  refine keSq (rest := []) (kcV 0 hC hK hN hW (c_X3_containerAt l D G L hL T N q c) (kgoodV tm_X3_173 ti_yX3_containerAt te_yX3_containerAt tz_X3 tc_yX3_containerAt) kw_m rfl ⟨rfl, by decide, by decide, (show Option.map _ (parseMethodDescriptor yX3_containerAt.desc) = some 1 from by decide +kernel)⟩ ⟨Nat.le_of_ble_eq_true rfl, Nat.le_of_ble_eq_true rfl⟩ hl.1 rfl (Nat.le_of_ble_eq_true rfl) ⟨Nat.le_refl _, Nat.le_refl _⟩ dX3_placesLeft_2) ?_
  refine kopt (P := kCn T c) (fun c_2 => ?_) (fun c_2 => ?_)
  · refine lv_astore_n (lv' := [(2, .ref (L (188 + (tn c)))), (0, .ref (L 0)), (1, .int c)]) hC.1 hC.2.1 dX3_placesLeft_5 rfl hl (by decide) rfl (fun ls hl => ?_)
    refine lv_aload_n hC.1 hC.2.1 dX3_placesLeft_6 rfl (lv_at hl 0 rfl) ?_
    refine lv_ifnonnull (tgt := 12) hC.1 hC.2.1 dX3_placesLeft_7 (by decide) ?_
    refine lv_aload_n hC.1 hC.2.1 dX3_placesLeft_12 rfl (lv_at hl 0 rfl) ?_
    refine kg1N hC hK hN hW (kCn.lt c_2) 7 (v := .int (T 24 (tn c))) rfl (by decide) tf_X3_262 dX3_placesLeft_13 ?_
    refine lv_istore_n (lv' := [(3, .int (T 24 (tn c))), (2, .ref (L (188 + (tn c)))), (0, .ref (L 0)), (1, .int c)]) hC.1 hC.2.1 dX3_placesLeft_16 rfl hl (by decide) rfl (fun ls hl => ?_)
    refine lv_iconst (v := 0) hC.1 hC.2.1 dX3_placesLeft_17 (by decide) ?_
    refine lv_istore (lv' := [(4, .int 0), (3, .int (T 24 (tn c))), (2, .ref (L (188 + (tn c)))), (0, .ref (L 0)), (1, .int c)]) hC.1 hC.2.1 dX3_placesLeft_18 hl (by decide) rfl (fun ls hl => ?_)
    have loop_20 : ∀ (zf i : Nat), i + zf = 60 →  ∀ ls : Array Slot, lv_has ls 5 [(4, .int (nI i)), (3, .int (kdf (kpf T c) (T 24 (tn c)) i)), (0, .ref (L 0)), (1, .int c)] → W zp l ze ({ frames := 2, cells := 0, slots := 0, locals := 44 } : Room) zs zm zargs zbelow zmeth zc zs.heap [] 0 0 (MQ zbelow (kSi (kPl T c)) zargs zs 0 0 (fun _ => False)) (F0 zm 20 ls []) := by
      intro zf
      induction zf with
      | zero =>
        intro i  hi  ls hl
        have hi0 : i = 60 := by omega
        refine lv_iload hC.1 hC.2.1 dX3_placesLeft_20 (lv_at hl 0 rfl) ?_
        refine lv_aload_n hC.1 hC.2.1 dX3_placesLeft_22 rfl (lv_at hl 2 rfl) ?_
        refine kg3 hC hK hW 2 (v := .ref (L 3)) rfl (by decide) tf_X3_25 dX3_placesLeft_23 ?_
        refine kal3 hC hK hW dX3_placesLeft_26 ?_
        refine lv_icmp_ge (tgt := 61) hC.1 hC.2.1 dX3_placesLeft_27 (by decide) (fun c_27 => ?_) (fun c_27 => ?_)
        · refine lv_iload_n hC.1 hC.2.1 dX3_placesLeft_61 rfl (lv_at hl 1 rfl) ?_
          exact krS hC hr hlk (by simp only [kif_true, kif_false, kb, kup_eq, kup_f, kup_i, not_true_eq_false, not_false_eq_true, and_true, true_and, and_false, false_and, and_self, or_true, true_or, or_false, false_or, kPl, c_2, hi0, c_27]) dX3_placesLeft_62
        · exact absurd (nI_le (a := 60) (b := i) (by omega) (by omega)) c_27
      | succ zf ih =>
        intro i  hi  ls hl
        have hlt : i < 60 := by omega
        refine lv_iload hC.1 hC.2.1 dX3_placesLeft_20 (lv_at hl 0 rfl) ?_
        refine lv_aload_n hC.1 hC.2.1 dX3_placesLeft_22 rfl (lv_at hl 2 rfl) ?_
        refine kg3 hC hK hW 2 (v := .ref (L 3)) rfl (by decide) tf_X3_25 dX3_placesLeft_23 ?_
        refine kal3 hC hK hW dX3_placesLeft_26 ?_
        refine lv_icmp_ge (tgt := 61) hC.1 hC.2.1 dX3_placesLeft_27 (by decide) (fun c_27 => ?_) (fun c_27 => ?_)
        · exact absurd c_27 (nI_ge (a := i) (b := 60) (by omega) (by decide))
        · refine lv_aload_n hC.1 hC.2.1 dX3_placesLeft_30 rfl (lv_at hl 2 rfl) ?_
          refine lv_iload hC.1 hC.2.1 dX3_placesLeft_31 (lv_at hl 0 rfl) ?_
          refine lv_iload_n hC.1 hC.2.1 dX3_placesLeft_33 rfl (lv_at hl 3 rfl) ?_
          refine keSi (rest := []) (kcV 0 hC hK hN hW (c_X3_standsIn l D G L hL T N q (nI i) c) (kgoodV tm_X3_234 ti_yX3_standsIn te_yX3_standsIn tz_X3 tc_yX3_standsIn) kw_m rfl ⟨rfl, by decide, by decide, (show Option.map _ (parseMethodDescriptor yX3_standsIn.desc) = some 2 from by decide +kernel)⟩ ⟨Nat.le_of_ble_eq_true rfl, Nat.le_of_ble_eq_true rfl⟩ hl.1 rfl (Nat.le_of_ble_eq_true rfl) ⟨Nat.le_refl _, Nat.le_refl _⟩ dX3_placesLeft_34) ?_
          refine kif_eq (tgt := 55) hC.1 hC.2.1 dX3_placesLeft_37 (by decide) (fun c_37 => ?_) (fun c_37 => ?_)
          · refine lv_iinc (v := nI (i + 1)) (lv' := [(4, .int (nI (i + 1))), (3, .int (kdf (kpf T c) (T 24 (tn c)) i)), (0, .ref (L 0)), (1, .int c)]) hC.1 hC.2.1 dX3_placesLeft_55 hl (k := 0) rfl (nI_1 i) (by decide) rfl (fun ls hl => ?_)
            refine lv_goto (tgt := 20) hC.1 hC.2.1 dX3_placesLeft_58 (by decide) ?_
            have e_3 : kdf (kpf T c) (T 24 (tn c)) i = kdf (kpf T c) (T 24 (tn c)) (i + 1) := by simp only [kif_true, kif_false, kb, not_true_eq_false, not_false_eq_true, and_true, true_and, and_false, false_and, and_self, or_true, true_or, or_false, false_or, Int32.add_zero, Int32.sub_zero, kdf, kpf, c_2, c_27, c_37]
            rw [e_3] at hl
            exact ih (i + 1) (by omega) ls (lv_sub hl [0, 1, 2, 3] rfl)
          · refine lv_iload_n hC.1 hC.2.1 dX3_placesLeft_40 rfl (lv_at hl 1 rfl) ?_
            refine lv_iconst (v := 1) hC.1 hC.2.1 dX3_placesLeft_41 (by decide) ?_
            refine lv_aload_n hC.1 hC.2.1 dX3_placesLeft_42 rfl (lv_at hl 2 rfl) ?_
            refine kg3 hC hK hW 2 (v := .ref (L 3)) rfl (by decide) tf_X3_25 dX3_placesLeft_43 ?_
            refine lv_iload hC.1 hC.2.1 dX3_placesLeft_46 (lv_at hl 0 rfl) ?_
            refine kar3n hC hK hW (i := i) hlt dX3_placesLeft_48 ?_
            refine kg1N hC hK hN hW hlt 7 (v := .int (T 24 i)) rfl (by decide) tf_X3_262 dX3_placesLeft_49 ?_
            refine lv_iadd hC.1 hC.2.1 dX3_placesLeft_52 ?_
            refine lv_isub hC.1 hC.2.1 dX3_placesLeft_53 ?_
            refine lv_istore_n (lv' := [(3, .int ((kdf (kpf T c) (T 24 (tn c)) i) - (1 + (T 24 i)))), (4, .int (nI i)), (0, .ref (L 0)), (1, .int c)]) hC.1 hC.2.1 dX3_placesLeft_54 rfl hl (by decide) rfl (fun ls hl => ?_)
            refine lv_iinc (v := nI (i + 1)) (lv' := [(4, .int (nI (i + 1))), (3, .int ((kdf (kpf T c) (T 24 (tn c)) i) - (1 + (T 24 i)))), (0, .ref (L 0)), (1, .int c)]) hC.1 hC.2.1 dX3_placesLeft_55 hl (k := 1) rfl (nI_1 i) (by decide) rfl (fun ls hl => ?_)
            refine lv_goto (tgt := 20) hC.1 hC.2.1 dX3_placesLeft_58 (by decide) ?_
            have e_3 : ((kdf (kpf T c) (T 24 (tn c)) i) - (1 + (T 24 i))) = kdf (kpf T c) (T 24 (tn c)) (i + 1) := by simp only [kif_true, kif_false, kb, not_true_eq_false, not_false_eq_true, and_true, true_and, and_false, false_and, and_self, or_true, true_or, or_false, false_or, Int32.add_zero, Int32.sub_zero, kdf, kpf, c_2, c_27, c_37]
            rw [e_3] at hl
            exact ih (i + 1) (by omega) ls (lv_sub hl [0, 1, 2, 3] rfl)
    exact loop_20 60 0 (by omega) ls (by rw [nI_0]; exact lv_sub hl [0, 1, 3, 4] rfl)
  · refine lv_astore_nN (lv' := [(2, .null), (0, .ref (L 0)), (1, .int c)]) hC.1 hC.2.1 dX3_placesLeft_5 rfl hl (by decide) rfl (fun ls hl => ?_)
    refine lv_aload_nN hC.1 hC.2.1 dX3_placesLeft_6 rfl (lv_at hl 0 rfl) ?_
    refine lv_ifnonnullN hC.1 hC.2.1 dX3_placesLeft_7 ?_
    refine lv_iconst (v := 0) hC.1 hC.2.1 dX3_placesLeft_10 (by decide) ?_
    exact krS hC hr hlk (by simp only [kif_true, kif_false, kb, kup_eq, kup_f, kup_i, not_true_eq_false, not_false_eq_true, and_true, true_and, and_false, false_and, and_self, or_true, true_or, or_false, false_or, kPl, c_2]) dX3_placesLeft_11
set_option maxHeartbeats 4000000 in
set_option maxRecDepth 100000 in
theorem c_X3_mayMake (l : Launch) (D : va_G) (G : Nat → ClassId) (L : Nat → Nat) (hL : kL L) (T N : kT) (q : kQ) (r : Nat) (w_r : r < 24) (o : Nat) (w_o : o < 60) (x3 : Int32) (x4 : Int32) : kM l yX3_mayMake cX3_mayMake 4 (some .boolean) 3 65 (kPc D G L T N q [.ref (L (4 + r)), .ref (L (188 + o)), .int x3, .int x4]) (kSi (kb (kMay T r o x3 x4))) (fun _ => False) := by
  refine kBegin (by decide) (Nat.le_of_ble_eq_true rfl) ?_
  intro zp ze zs zm zargs zbelow zmeth zc hC hr hlk hB ls hl
  obtain ⟨hP, hK, hN⟩ := hB
  have hW : kWd D G L (kA L) zs.heap T N q zs.heap [] := kWd.start hL hP
  have hl : lv_has ls 4 [(0, .ref (L (4 + r))), (1, .ref (L (188 + o))), (2, .int x3), (3, .int x4)] := hl
  refine lv_aload_n hC.1 hC.2.1 dX3_mayMake_0 rfl (lv_at hl 0 rfl) ?_
  refine lv_aload_n hC.1 hC.2.1 dX3_mayMake_1 rfl (lv_at hl 1 rfl) ?_
  refine keSi (rest := []) (kcS hC hK hN hW (c_X3_canRead l D G L hL T N q r w_r o w_o) (kgoodS tm_X3_197 ts_yX3_canRead tz_X3 tc_yX3_canRead) ⟨rfl, by decide, by decide, (show Option.map _ (parseMethodDescriptor yX3_canRead.desc) = some 2 from by decide +kernel)⟩ ⟨Nat.le_of_ble_eq_true rfl, Nat.le_of_ble_eq_true rfl⟩ hl.1 rfl (Nat.le_of_ble_eq_true rfl) ⟨Nat.le_refl _, Nat.le_refl _⟩ dX3_mayMake_2) ?_
  refine kif_eq (tgt := 52) hC.1 hC.2.1 dX3_mayMake_5 (by decide) (fun c_5 => ?_) (fun c_5 => ?_)
  · refine lv_iconst (v := 0) hC.1 hC.2.1 dX3_mayMake_52 (by decide) ?_
    exact krZ hC hr hlk (Or.inl rfl) (by simp only [kif_true, kif_false, kb, kup_eq, kup_f, kup_i, not_true_eq_false, not_false_eq_true, and_true, true_and, and_false, false_and, and_self, or_true, true_or, or_false, false_or, kMay, c_5]) dX3_mayMake_53
  · refine lv_aload_n hC.1 hC.2.1 dX3_mayMake_8 rfl (lv_at hl 0 rfl) ?_
    refine lv_aload_n hC.1 hC.2.1 dX3_mayMake_9 rfl (lv_at hl 1 rfl) ?_
    refine keSi (rest := []) (kcS hC hK hN hW (c_X3_canWrite l D G L hL T N q r w_r o w_o) (kgoodS tm_X3_201 ts_yX3_canWrite tz_X3 tc_yX3_canWrite) ⟨rfl, by decide, by decide, (show Option.map _ (parseMethodDescriptor yX3_canWrite.desc) = some 2 from by decide +kernel)⟩ ⟨Nat.le_of_ble_eq_true rfl, Nat.le_of_ble_eq_true rfl⟩ hl.1 rfl (Nat.le_of_ble_eq_true rfl) ⟨Nat.le_refl _, Nat.le_refl _⟩ dX3_mayMake_10) ?_
    refine kif_eq (tgt := 52) hC.1 hC.2.1 dX3_mayMake_13 (by decide) (fun c_13 => ?_) (fun c_13 => ?_)
    · refine lv_iconst (v := 0) hC.1 hC.2.1 dX3_mayMake_52 (by decide) ?_
      exact krZ hC hr hlk (Or.inl rfl) (by simp only [kif_true, kif_false, kb, kup_eq, kup_f, kup_i, not_true_eq_false, not_false_eq_true, and_true, true_and, and_false, false_and, and_self, or_true, true_or, or_false, false_or, kMay, c_5, c_13]) dX3_mayMake_53
    · refine lv_aload_n hC.1 hC.2.1 dX3_mayMake_16 rfl (lv_at hl 1 rfl) ?_
      refine kg1N hC hK hN hW w_o 4 (v := .int (T 21 o)) rfl (by decide) tf_X3_232 dX3_mayMake_17 ?_
      refine lv_aload_n hC.1 hC.2.1 dX3_mayMake_20 rfl (lv_at hl 1 rfl) ?_
      refine kg1N hC hK hN hW w_o 5 (v := .int (T 22 o)) rfl (by decide) tf_X3_233 dX3_mayMake_21 ?_
      refine lv_iload_n hC.1 hC.2.1 dX3_mayMake_24 rfl (lv_at hl 2 rfl) ?_
      refine lv_iload_n hC.1 hC.2.1 dX3_mayMake_25 rfl (lv_at hl 3 rfl) ?_
      refine keSi (rest := []) (kcS0 hC (c_X3_flows l (T 21 o) (T 22 o) x3 x4) (kgoodS tm_X3_139 ts_yX3_flows tz_X3 tc_yX3_flows) ⟨rfl, by decide, by decide, (show Option.map _ (parseMethodDescriptor yX3_flows.desc) = some 4 from by decide +kernel)⟩ ⟨Nat.le_of_ble_eq_true rfl, Nat.le_of_ble_eq_true rfl⟩ hl.1 rfl (Nat.le_of_ble_eq_true rfl) ⟨Nat.le_refl _, Nat.le_refl _⟩ dX3_mayMake_26) ?_
      refine kif_eq (tgt := 52) hC.1 hC.2.1 dX3_mayMake_29 (by decide) (fun c_29 => ?_) (fun c_29 => ?_)
      · refine lv_iconst (v := 0) hC.1 hC.2.1 dX3_mayMake_52 (by decide) ?_
        exact krZ hC hr hlk (Or.inl rfl) (by simp only [kif_true, kif_false, kb, kup_eq, kup_f, kup_i, not_true_eq_false, not_false_eq_true, and_true, true_and, and_false, false_and, and_self, or_true, true_or, or_false, false_or, kMay, c_5, c_13, c_29]) dX3_mayMake_53
      · refine lv_aload_n hC.1 hC.2.1 dX3_mayMake_32 rfl (lv_at hl 0 rfl) ?_
        refine kg2N hC hK hN hW w_r 2 (v := .int (T 3 r)) rfl (by decide) tf_X3_69 dX3_mayMake_33 ?_
        refine lv_aload_n hC.1 hC.2.1 dX3_mayMake_36 rfl (lv_at hl 0 rfl) ?_
        refine kg2N hC hK hN hW w_r 3 (v := .int (T 4 r)) rfl (by decide) tf_X3_72 dX3_mayMake_37 ?_
        refine lv_iload_n hC.1 hC.2.1 dX3_mayMake_40 rfl (lv_at hl 2 rfl) ?_
        refine lv_iload_n hC.1 hC.2.1 dX3_mayMake_41 rfl (lv_at hl 3 rfl) ?_
        refine keSi (rest := []) (kcS0 hC (c_X3_flows l (T 3 r) (T 4 r) x3 x4) (kgoodS tm_X3_139 ts_yX3_flows tz_X3 tc_yX3_flows) ⟨rfl, by decide, by decide, (show Option.map _ (parseMethodDescriptor yX3_flows.desc) = some 4 from by decide +kernel)⟩ ⟨Nat.le_of_ble_eq_true rfl, Nat.le_of_ble_eq_true rfl⟩ hl.1 rfl (Nat.le_of_ble_eq_true rfl) ⟨Nat.le_refl _, Nat.le_refl _⟩ dX3_mayMake_42) ?_
        refine kif_eq (tgt := 52) hC.1 hC.2.1 dX3_mayMake_45 (by decide) (fun c_45 => ?_) (fun c_45 => ?_)
        · refine lv_iconst (v := 0) hC.1 hC.2.1 dX3_mayMake_52 (by decide) ?_
          exact krZ hC hr hlk (Or.inl rfl) (by simp only [kif_true, kif_false, kb, kup_eq, kup_f, kup_i, not_true_eq_false, not_false_eq_true, and_true, true_and, and_false, false_and, and_self, or_true, true_or, or_false, false_or, kMay, c_5, c_13, c_29, c_45]) dX3_mayMake_53
        · refine lv_iconst (v := 1) hC.1 hC.2.1 dX3_mayMake_48 (by decide) ?_
          refine lv_goto (tgt := 53) hC.1 hC.2.1 dX3_mayMake_49 (by decide) ?_
          exact krZ hC hr hlk (Or.inr rfl) (by simp only [kif_true, kif_false, kb, kup_eq, kup_f, kup_i, not_true_eq_false, not_false_eq_true, and_true, true_and, and_false, false_and, and_self, or_true, true_or, or_false, false_or, kMay, c_5, c_13, c_29, c_45]) dX3_mayMake_53
set_option maxHeartbeats 4000000 in
set_option maxRecDepth 100000 in
theorem c_X3_hasRoomUpTo (l : Launch) (D : va_G) (G : Nat → ClassId) (L : Nat → Nat) (hL : kL L) (T N : kT) (q : kQ) (o : Nat) (w_o : o < 60) (x : Int32) : kM l yX3_hasRoomUpTo cX3_hasRoomUpTo 3 (some .boolean) 3 68 (kPc D G L T N q [.ref (L 0), .ref (L (188 + o)), .int x]) (kSi (kb (kHr T o x))) (fun _ => False) := by
  refine kBegin (by decide) (Nat.le_of_ble_eq_true rfl) ?_
  intro zp ze zs zm zargs zbelow zmeth zc hC hr hlk hB ls hl
  obtain ⟨hP, hK, hN⟩ := hB
  have hW : kWd D G L (kA L) zs.heap T N q zs.heap [] := kWd.start hL hP
  have hl : lv_has ls 3 [(0, .ref (L 0)), (1, .ref (L (188 + o))), (2, .int x)] := hl
  refine lv_iload_n hC.1 hC.2.1 dX3_hasRoomUpTo_0 rfl (lv_at hl 2 rfl) ?_
  refine lv_bipush (v := 32) hC.1 hC.2.1 dX3_hasRoomUpTo_1 (by decide) ?_
  refine lv_icmp_le (tgt := 8) hC.1 hC.2.1 dX3_hasRoomUpTo_3 (by decide) (fun c_3 => ?_) (fun c_3 => ?_)
  · refine lv_iload_n hC.1 hC.2.1 dX3_hasRoomUpTo_8 rfl (lv_at hl 2 rfl) ?_
    refine keSi (rest := []) (kcS0 hC (c_X3_blocksFor l x) (kgoodS tm_X3_272 ts_yX3_blocksFor tz_X3 tc_yX3_blocksFor) ⟨rfl, by decide, by decide, (show Option.map _ (parseMethodDescriptor yX3_blocksFor.desc) = some 1 from by decide +kernel)⟩ ⟨Nat.le_of_ble_eq_true rfl, Nat.le_of_ble_eq_true rfl⟩ hl.1 rfl (Nat.le_of_ble_eq_true rfl) ⟨Nat.le_refl _, Nat.le_refl _⟩ dX3_hasRoomUpTo_9) ?_
    refine lv_aload_n hC.1 hC.2.1 dX3_hasRoomUpTo_12 rfl (lv_at hl 1 rfl) ?_
    refine kg1N hC hK hN hW w_o 8 (v := .int (T 25 o)) rfl (by decide) tf_X3_219 dX3_hasRoomUpTo_13 ?_
    refine keSi (rest := [.int (kBf x)]) (kcS0 hC (c_X3_blocksFor l (T 25 o)) (kgoodS tm_X3_272 ts_yX3_blocksFor tz_X3 tc_yX3_blocksFor) ⟨rfl, by decide, by decide, (show Option.map _ (parseMethodDescriptor yX3_blocksFor.desc) = some 1 from by decide +kernel)⟩ ⟨Nat.le_of_ble_eq_true rfl, Nat.le_of_ble_eq_true rfl⟩ hl.1 rfl (Nat.le_of_ble_eq_true rfl) ⟨Nat.le_refl _, Nat.le_refl _⟩ dX3_hasRoomUpTo_16) ?_
    refine lv_isub hC.1 hC.2.1 dX3_hasRoomUpTo_19 ?_
    refine lv_aload_n hC.1 hC.2.1 dX3_hasRoomUpTo_20 rfl (lv_at hl 0 rfl) ?_
    refine lv_aload_n hC.1 hC.2.1 dX3_hasRoomUpTo_21 rfl (lv_at hl 1 rfl) ?_
    refine kg1N hC hK hN hW w_o 3 (v := .int (T 20 o)) rfl (by decide) tf_X3_194 dX3_hasRoomUpTo_22 ?_
    refine keSi (rest := [.int ((kBf x) - (kBf (T 25 o)))]) (kcV 0 hC hK hN hW (c_X3_blocksLeft l D G L hL T N q (T 20 o)) (kgoodV tm_X3_181 ti_yX3_blocksLeft te_yX3_blocksLeft tz_X3 tc_yX3_blocksLeft) kw_m rfl ⟨rfl, by decide, by decide, (show Option.map _ (parseMethodDescriptor yX3_blocksLeft.desc) = some 1 from by decide +kernel)⟩ ⟨Nat.le_of_ble_eq_true rfl, Nat.le_of_ble_eq_true rfl⟩ hl.1 rfl (Nat.le_of_ble_eq_true rfl) ⟨Nat.le_refl _, Nat.le_refl _⟩ dX3_hasRoomUpTo_25) ?_
    refine lv_icmp_gt (tgt := 35) hC.1 hC.2.1 dX3_hasRoomUpTo_28 (by decide) (fun c_28 => ?_) (fun c_28 => ?_)
    · refine lv_iconst (v := 0) hC.1 hC.2.1 dX3_hasRoomUpTo_35 (by decide) ?_
      exact krZ hC hr hlk (Or.inl rfl) (by simp only [kif_true, kif_false, kb, kup_eq, kup_f, kup_i, not_true_eq_false, not_false_eq_true, and_true, true_and, and_false, false_and, and_self, or_true, true_or, or_false, false_or, kHr, c_3, c_28]) dX3_hasRoomUpTo_36
    · refine lv_iconst (v := 1) hC.1 hC.2.1 dX3_hasRoomUpTo_31 (by decide) ?_
      refine lv_goto (tgt := 36) hC.1 hC.2.1 dX3_hasRoomUpTo_32 (by decide) ?_
      exact krZ hC hr hlk (Or.inr rfl) (by simp only [kif_true, kif_false, kb, kup_eq, kup_f, kup_i, not_true_eq_false, not_false_eq_true, and_true, true_and, and_false, false_and, and_self, or_true, true_or, or_false, false_or, kHr, c_3, c_28]) dX3_hasRoomUpTo_36
  · refine lv_iconst (v := 0) hC.1 hC.2.1 dX3_hasRoomUpTo_6 (by decide) ?_
    exact krZ hC hr hlk (Or.inl rfl) (by simp only [kif_true, kif_false, kb, kup_eq, kup_f, kup_i, not_true_eq_false, not_false_eq_true, and_true, true_and, and_false, false_and, and_self, or_true, true_or, or_false, false_or, kHr, c_3]) dX3_hasRoomUpTo_7
set_option maxHeartbeats 4000000 in
set_option maxRecDepth 100000 in
theorem c_X3_isPartOf (l : Launch) (D : va_G) (G : Nat → ClassId) (L : Nat → Nat) (hL : kL L) (T N : kT) (q : kQ) (o : Int32) (w : Int32) : kM l yX3_isPartOf cX3_isPartOf 6 (some .boolean) 1 21 (kPc D G L T N q [.ref (L 0), .int o, .int w]) (kSi (kb (kPo T w 60 o))) (fun _ => False) := by
  refine kBegin (by decide) (Nat.le_of_ble_eq_true rfl) ?_
  intro zp ze zs zm zargs zbelow zmeth zc hC hr hlk hB ls hl
  obtain ⟨hP, hK, hN⟩ := hB
  have hW : kWd D G L (kA L) zs.heap T N q zs.heap [] := kWd.start hL hP
  have hl : lv_has ls 6 [(0, .ref (L 0)), (1, .int o), (2, .int w)] := hl
  refine lv_iload_n hC.1 hC.2.1 dX3_isPartOf_0 rfl (lv_at hl 1 rfl) ?_
  refine lv_istore_n (lv' := [(3, .int o), (0, .ref (L 0)), (1, .int o), (2, .int w)]) hC.1 hC.2.1 dX3_isPartOf_1 rfl hl (by decide) rfl (fun ls hl => ?_)
  refine lv_iconst (v := 0) hC.1 hC.2.1 dX3_isPartOf_2 (by decide) ?_
  refine lv_istore (lv' := [(4, .int 0), (3, .int o), (0, .ref (L 0)), (1, .int o), (2, .int w)]) hC.1 hC.2.1 dX3_isPartOf_3 hl (by decide) rfl (fun ls hl => ?_)
  have loop_5 : ∀ (zf i : Nat) (a : Int32), i + zf = 60 → (kPo T w zf a ↔ kPo T w 60 o) → ∀ ls : Array Slot, lv_has ls 6 [(4, .int (nI i)), (3, .int a), (0, .ref (L 0)), (1, .int o), (2, .int w)] → W zp l ze ({ frames := 1, cells := 0, slots := 0, locals := 21 } : Room) zs zm zargs zbelow zmeth zc zs.heap [] 0 0 (MQ zbelow (kSi (kb (kPo T w 60 o))) zargs zs 0 0 (fun _ => False)) (F0 zm 5 ls []) := by
    intro zf
    induction zf with
    | zero =>
      intro i a hi hA ls hl
      have hi0 : i = 60 := by omega
      refine lv_iload hC.1 hC.2.1 dX3_isPartOf_5 (lv_at hl 0 rfl) ?_
      refine lv_bipush (v := 60) hC.1 hC.2.1 dX3_isPartOf_7 (by decide) ?_
      refine lv_icmp_ge (tgt := 43) hC.1 hC.2.1 dX3_isPartOf_9 (by decide) (fun c_9 => ?_) (fun c_9 => ?_)
      · refine lv_iload_n hC.1 hC.2.1 dX3_isPartOf_43 rfl (lv_at hl 1 rfl) ?_
        refine lv_iload_n hC.1 hC.2.1 dX3_isPartOf_44 rfl (lv_at hl 4 rfl) ?_
        refine lv_icmp_ne (tgt := 52) hC.1 hC.2.1 dX3_isPartOf_45 (by decide) (fun c_45 => ?_) (fun c_45 => ?_)
        · refine lv_iconst (v := 0) hC.1 hC.2.1 dX3_isPartOf_52 (by decide) ?_
          exact krZ hC hr hlk (Or.inl rfl) (kb_f (fun z => by have z2 := hA.mpr z; simp only [kPo, kif_true, kif_false, kb, not_true_eq_false, not_false_eq_true, and_true, true_and, and_false, false_and, and_self, or_true, true_or, or_false, false_or, Int32.add_zero, Int32.sub_zero, hi0, c_9, c_45] at z2)).symm dX3_isPartOf_53
        · refine lv_iconst (v := 1) hC.1 hC.2.1 dX3_isPartOf_48 (by decide) ?_
          refine lv_goto (tgt := 53) hC.1 hC.2.1 dX3_isPartOf_49 (by decide) ?_
          exact krZ hC hr hlk (Or.inr rfl) (kb_t (hA.mp (by simp only [kPo, kif_true, kif_false, kb, not_true_eq_false, not_false_eq_true, and_true, true_and, and_false, false_and, and_self, or_true, true_or, or_false, false_or, Int32.add_zero, Int32.sub_zero, hi0, c_9, c_45]))).symm dX3_isPartOf_53
      · exact absurd (nI_le (a := 60) (b := i) (by omega) (by omega)) c_9
    | succ zf ih =>
      intro i a hi hA ls hl
      have hlt : i < 60 := by omega
      refine lv_iload hC.1 hC.2.1 dX3_isPartOf_5 (lv_at hl 0 rfl) ?_
      refine lv_bipush (v := 60) hC.1 hC.2.1 dX3_isPartOf_7 (by decide) ?_
      refine lv_icmp_ge (tgt := 43) hC.1 hC.2.1 dX3_isPartOf_9 (by decide) (fun c_9 => ?_) (fun c_9 => ?_)
      · exact absurd c_9 (nI_ge (a := i) (b := 60) (by omega) (by decide))
      · refine lv_iload_n hC.1 hC.2.1 dX3_isPartOf_12 rfl (lv_at hl 1 rfl) ?_
        refine lv_iload_n hC.1 hC.2.1 dX3_isPartOf_13 rfl (lv_at hl 4 rfl) ?_
        refine lv_icmp_eq (tgt := 43) hC.1 hC.2.1 dX3_isPartOf_14 (by decide) (fun c_14 => ?_) (fun c_14 => ?_)
        · refine lv_iload_n hC.1 hC.2.1 dX3_isPartOf_43 rfl (lv_at hl 1 rfl) ?_
          refine lv_iload_n hC.1 hC.2.1 dX3_isPartOf_44 rfl (lv_at hl 4 rfl) ?_
          refine lv_icmp_ne (tgt := 52) hC.1 hC.2.1 dX3_isPartOf_45 (by decide) (fun c_45 => ?_) (fun c_45 => ?_)
          · refine lv_iconst (v := 0) hC.1 hC.2.1 dX3_isPartOf_52 (by decide) ?_
            exact krZ hC hr hlk (Or.inl rfl) (absurd c_14 c_45) dX3_isPartOf_53
          · refine lv_iconst (v := 1) hC.1 hC.2.1 dX3_isPartOf_48 (by decide) ?_
            refine lv_goto (tgt := 53) hC.1 hC.2.1 dX3_isPartOf_49 (by decide) ?_
            exact krZ hC hr hlk (Or.inr rfl) (kb_t (hA.mp (by simp only [kPo, kif_true, kif_false, kb, not_true_eq_false, not_false_eq_true, and_true, true_and, and_false, false_and, and_self, or_true, true_or, or_false, false_or, Int32.add_zero, Int32.sub_zero, c_9, c_14]))).symm dX3_isPartOf_53
        · refine lv_aload_n hC.1 hC.2.1 dX3_isPartOf_17 rfl (lv_at hl 2 rfl) ?_
          refine lv_iload_n hC.1 hC.2.1 dX3_isPartOf_18 rfl (lv_at hl 1 rfl) ?_
          refine keSq (rest := []) (kcV 0 hC hK hN hW (c_X3_objectAt l D G L hL T N q a) (kgoodV tm_X3_191 ti_yX3_objectAt te_yX3_objectAt tz_X3 tc_yX3_objectAt) kw_m rfl ⟨rfl, by decide, by decide, (show Option.map _ (parseMethodDescriptor yX3_objectAt.desc) = some 1 from by decide +kernel)⟩ ⟨Nat.le_of_ble_eq_true rfl, Nat.le_of_ble_eq_true rfl⟩ hl.1 rfl (Nat.le_of_ble_eq_true rfl) ⟨Nat.le_refl _, Nat.le_refl _⟩ dX3_isPartOf_19) ?_
          refine kopt (P := kO T a) (fun c_19 => ?_) (fun c_19 => ?_)
          · refine lv_astore (lv' := [(5, .ref (L (188 + (tn a)))), (4, .int (nI i)), (3, .int a), (0, .ref (L 0)), (1, .int o), (2, .int w)]) hC.1 hC.2.1 dX3_isPartOf_22 hl (by decide) rfl (fun ls hl => ?_)
            refine lv_aload hC.1 hC.2.1 dX3_isPartOf_24 (lv_at hl 0 rfl) ?_
            refine lv_ifnonnull (tgt := 31) hC.1 hC.2.1 dX3_isPartOf_26 (by decide) ?_
            refine lv_aload hC.1 hC.2.1 dX3_isPartOf_31 (lv_at hl 0 rfl) ?_
            refine kg1N hC hK hN hW (kO.lt c_19) 3 (v := .int (T 20 (tn a))) rfl (by decide) tf_X3_194 dX3_isPartOf_33 ?_
            refine lv_istore_n (lv' := [(3, .int (T 20 (tn a))), (5, .ref (L (188 + (tn a)))), (4, .int (nI i)), (0, .ref (L 0)), (1, .int o), (2, .int w)]) hC.1 hC.2.1 dX3_isPartOf_36 rfl hl (by decide) rfl (fun ls hl => ?_)
            refine lv_iinc (v := nI (i + 1)) (lv' := [(4, .int (nI (i + 1))), (3, .int (T 20 (tn a))), (5, .ref (L (188 + (tn a)))), (0, .ref (L 0)), (1, .int o), (2, .int w)]) hC.1 hC.2.1 dX3_isPartOf_37 hl (k := 2) rfl (nI_1 i) (by decide) rfl (fun ls hl => ?_)
            refine lv_goto (tgt := 5) hC.1 hC.2.1 dX3_isPartOf_40 (by decide) ?_
            exact ih (i + 1) (T 20 (tn a)) (by omega) (Iff.trans (by simp only [kPo, kif_true, kif_false, kb, not_true_eq_false, not_false_eq_true, and_true, true_and, and_false, false_and, and_self, or_true, true_or, or_false, false_or, Int32.add_zero, Int32.sub_zero, c_9, c_14, c_19]) hA) ls (lv_sub hl [0, 1, 3, 4, 5] rfl)
          · refine lv_astoreN (lv' := [(5, .null), (4, .int (nI i)), (3, .int a), (0, .ref (L 0)), (1, .int o), (2, .int w)]) hC.1 hC.2.1 dX3_isPartOf_22 hl (by decide) rfl (fun ls hl => ?_)
            refine lv_aloadN hC.1 hC.2.1 dX3_isPartOf_24 (lv_at hl 0 rfl) ?_
            refine lv_ifnonnullN hC.1 hC.2.1 dX3_isPartOf_26 ?_
            refine lv_iconst (v := 0) hC.1 hC.2.1 dX3_isPartOf_29 (by decide) ?_
            exact krZ hC hr hlk (Or.inl rfl) (kb_f (fun z => by have z2 := hA.mpr z; simp only [kPo, kif_true, kif_false, kb, not_true_eq_false, not_false_eq_true, and_true, true_and, and_false, false_and, and_self, or_true, true_or, or_false, false_or, Int32.add_zero, Int32.sub_zero, c_9, c_14, c_19] at z2)).symm dX3_isPartOf_30
  exact loop_5 60 0 o (by omega) (Iff.rfl) ls (by rw [nI_0]; exact lv_sub hl [0, 1, 2, 3, 4] rfl)
set_option maxHeartbeats 4000000 in
set_option maxRecDepth 100000 in
theorem c_X3_sizeOfTree (l : Launch) (D : va_G) (G : Nat → ClassId) (L : Nat → Nat) (hL : kL L) (T N : kT) (q : kQ) (w : Int32) : kM l yX3_sizeOfTree cX3_sizeOfTree 4 (some .int) 2 46 (kPc D G L T N q [.ref (L 0), .int w]) (kSi (ksum (kszf T w) 60)) (fun _ => False) := by
  refine kBegin (by decide) (Nat.le_of_ble_eq_true rfl) ?_
  intro zp ze zs zm zargs zbelow zmeth zc hC hr hlk hB ls hl
  obtain ⟨hP, hK, hN⟩ := hB
  have hW : kWd D G L (kA L) zs.heap T N q zs.heap [] := kWd.start hL hP
  have hl : lv_has ls 4 [(0, .ref (L 0)), (1, .int w)] := hl
  refine lv_iconst (v := 0) hC.1 hC.2.1 dX3_sizeOfTree_0 (by decide) ?_
  refine lv_istore_n (lv' := [(2, .int 0), (0, .ref (L 0)), (1, .int w)]) hC.1 hC.2.1 dX3_sizeOfTree_1 rfl hl (by decide) rfl (fun ls hl => ?_)
  refine lv_iconst (v := 0) hC.1 hC.2.1 dX3_sizeOfTree_2 (by decide) ?_
  refine lv_istore_n (lv' := [(3, .int 0), (2, .int 0), (0, .ref (L 0)), (1, .int w)]) hC.1 hC.2.1 dX3_sizeOfTree_3 rfl hl (by decide) rfl (fun ls hl => ?_)
  have loop_4 : ∀ (zf i : Nat), i + zf = 60 →  ∀ ls : Array Slot, lv_has ls 4 [(3, .int (nI i)), (2, .int (ksum (kszf T w) i)), (0, .ref (L 0)), (1, .int w)] → W zp l ze ({ frames := 2, cells := 0, slots := 0, locals := 46 } : Room) zs zm zargs zbelow zmeth zc zs.heap [] 0 0 (MQ zbelow (kSi (ksum (kszf T w) 60)) zargs zs 0 0 (fun _ => False)) (F0 zm 4 ls []) := by
    intro zf
    induction zf with
    | zero =>
      intro i  hi  ls hl
      have hi0 : i = 60 := by omega
      refine lv_iload_n hC.1 hC.2.1 dX3_sizeOfTree_4 rfl (lv_at hl 0 rfl) ?_
      refine lv_aload_n hC.1 hC.2.1 dX3_sizeOfTree_5 rfl (lv_at hl 2 rfl) ?_
      refine kg3 hC hK hW 2 (v := .ref (L 3)) rfl (by decide) tf_X3_25 dX3_sizeOfTree_6 ?_
      refine kal3 hC hK hW dX3_sizeOfTree_9 ?_
      refine lv_icmp_ge (tgt := 43) hC.1 hC.2.1 dX3_sizeOfTree_10 (by decide) (fun c_10 => ?_) (fun c_10 => ?_)
      · refine lv_iload_n hC.1 hC.2.1 dX3_sizeOfTree_43 rfl (lv_at hl 1 rfl) ?_
        exact krS hC hr hlk (by simp only [kif_true, kif_false, kb, kup_eq, kup_f, kup_i, not_true_eq_false, not_false_eq_true, and_true, true_and, and_false, false_and, and_self, or_true, true_or, or_false, false_or, hi0, c_10]) dX3_sizeOfTree_44
      · exact absurd (nI_le (a := 60) (b := i) (by omega) (by omega)) c_10
    | succ zf ih =>
      intro i  hi  ls hl
      have hlt : i < 60 := by omega
      refine lv_iload_n hC.1 hC.2.1 dX3_sizeOfTree_4 rfl (lv_at hl 0 rfl) ?_
      refine lv_aload_n hC.1 hC.2.1 dX3_sizeOfTree_5 rfl (lv_at hl 2 rfl) ?_
      refine kg3 hC hK hW 2 (v := .ref (L 3)) rfl (by decide) tf_X3_25 dX3_sizeOfTree_6 ?_
      refine kal3 hC hK hW dX3_sizeOfTree_9 ?_
      refine lv_icmp_ge (tgt := 43) hC.1 hC.2.1 dX3_sizeOfTree_10 (by decide) (fun c_10 => ?_) (fun c_10 => ?_)
      · exact absurd c_10 (nI_ge (a := i) (b := 60) (by omega) (by decide))
      · refine lv_aload_n hC.1 hC.2.1 dX3_sizeOfTree_13 rfl (lv_at hl 2 rfl) ?_
        refine kg3 hC hK hW 2 (v := .ref (L 3)) rfl (by decide) tf_X3_25 dX3_sizeOfTree_14 ?_
        refine lv_iload_n hC.1 hC.2.1 dX3_sizeOfTree_17 rfl (lv_at hl 0 rfl) ?_
        refine kar3n hC hK hW (i := i) hlt dX3_sizeOfTree_18 ?_
        refine kg1N hC hK hN hW hlt 1 (v := .int (T 18 i)) rfl (by decide) tf_X3_253 dX3_sizeOfTree_19 ?_
        refine lv_if_eq (tgt := 37) hC.1 hC.2.1 dX3_sizeOfTree_22 (by decide) (fun c_22 => ?_) (fun c_22 => ?_)
        · refine lv_iinc (v := nI (i + 1)) (lv' := [(3, .int (nI (i + 1))), (2, .int (ksum (kszf T w) i)), (0, .ref (L 0)), (1, .int w)]) hC.1 hC.2.1 dX3_sizeOfTree_37 hl (k := 0) rfl (nI_1 i) (by decide) rfl (fun ls hl => ?_)
          refine lv_goto (tgt := 4) hC.1 hC.2.1 dX3_sizeOfTree_40 (by decide) ?_
          have e_2 : ksum (kszf T w) i = ksum (kszf T w) (i + 1) := by simp only [kif_true, kif_false, kb, not_true_eq_false, not_false_eq_true, and_true, true_and, and_false, false_and, and_self, or_true, true_or, or_false, false_or, Int32.add_zero, Int32.sub_zero, ksum, kszf, c_10, c_22]
          rw [e_2] at hl
          exact ih (i + 1) (by omega) ls (lv_sub hl [0, 1, 2, 3] rfl)
        · refine lv_aload_n hC.1 hC.2.1 dX3_sizeOfTree_25 rfl (lv_at hl 2 rfl) ?_
          refine lv_iload_n hC.1 hC.2.1 dX3_sizeOfTree_26 rfl (lv_at hl 0 rfl) ?_
          refine lv_iload_n hC.1 hC.2.1 dX3_sizeOfTree_27 rfl (lv_at hl 3 rfl) ?_
          refine keSi (rest := []) (kcV 0 hC hK hN hW (c_X3_isPartOf l D G L hL T N q (nI i) w) (kgoodV tm_X3_275 ti_yX3_isPartOf te_yX3_isPartOf tz_X3 tc_yX3_isPartOf) kw_m rfl ⟨rfl, by decide, by decide, (show Option.map _ (parseMethodDescriptor yX3_isPartOf.desc) = some 2 from by decide +kernel)⟩ ⟨Nat.le_of_ble_eq_true rfl, Nat.le_of_ble_eq_true rfl⟩ hl.1 rfl (Nat.le_of_ble_eq_true rfl) ⟨Nat.le_refl _, Nat.le_refl _⟩ dX3_sizeOfTree_28) ?_
          refine kif_eq (tgt := 37) hC.1 hC.2.1 dX3_sizeOfTree_31 (by decide) (fun c_31 => ?_) (fun c_31 => ?_)
          · refine lv_iinc (v := nI (i + 1)) (lv' := [(3, .int (nI (i + 1))), (2, .int (ksum (kszf T w) i)), (0, .ref (L 0)), (1, .int w)]) hC.1 hC.2.1 dX3_sizeOfTree_37 hl (k := 0) rfl (nI_1 i) (by decide) rfl (fun ls hl => ?_)
            refine lv_goto (tgt := 4) hC.1 hC.2.1 dX3_sizeOfTree_40 (by decide) ?_
            have e_2 : ksum (kszf T w) i = ksum (kszf T w) (i + 1) := by simp only [kif_true, kif_false, kb, not_true_eq_false, not_false_eq_true, and_true, true_and, and_false, false_and, and_self, or_true, true_or, or_false, false_or, Int32.add_zero, Int32.sub_zero, ksum, kszf, c_10, c_22, c_31]
            rw [e_2] at hl
            exact ih (i + 1) (by omega) ls (lv_sub hl [0, 1, 2, 3] rfl)
          · refine lv_iinc (v := (ksum (kszf T w) i) + 1) (lv' := [(2, .int ((ksum (kszf T w) i) + 1)), (3, .int (nI i)), (0, .ref (L 0)), (1, .int w)]) hC.1 hC.2.1 dX3_sizeOfTree_34 hl (k := 1) rfl rfl (by decide) rfl (fun ls hl => ?_)
            refine lv_iinc (v := nI (i + 1)) (lv' := [(3, .int (nI (i + 1))), (2, .int ((ksum (kszf T w) i) + 1)), (0, .ref (L 0)), (1, .int w)]) hC.1 hC.2.1 dX3_sizeOfTree_37 hl (k := 1) rfl (nI_1 i) (by decide) rfl (fun ls hl => ?_)
            refine lv_goto (tgt := 4) hC.1 hC.2.1 dX3_sizeOfTree_40 (by decide) ?_
            have e_2 : (ksum (kszf T w) i) + 1 = ksum (kszf T w) (i + 1) := by simp only [kif_true, kif_false, kb, not_true_eq_false, not_false_eq_true, and_true, true_and, and_false, false_and, and_self, or_true, true_or, or_false, false_or, Int32.add_zero, Int32.sub_zero, ksum, kszf, c_10, c_22, c_31]
            rw [e_2] at hl
            exact ih (i + 1) (by omega) ls (lv_sub hl [0, 1, 2, 3] rfl)
  exact loop_4 60 0 (by omega) ls (by rw [nI_0]; exact lv_sub hl [0, 1, 2, 3] rfl)
set_option maxHeartbeats 4000000 in
set_option maxRecDepth 100000 in
theorem c_X3_removeTree (l : Launch) (D : va_G) (G : Nat → ClassId) (L : Nat → Nat) (hL : kL L) (T N : kT) (q : kQ) (w : Int32) (hw0 : ¬ w < 0) (hw1 : tn w < 60) : kM l yX3_removeTree cX3_removeTree 3 none 2 46 (kPc D G L T N q [.ref (L 0), .int w]) (kQv D G L (kfT (krtg w) T (60 - tn w)) N q) (kA L) := by
  refine kBegin (by decide) (Nat.le_of_ble_eq_true rfl) ?_
  intro zp ze zs zm zargs zbelow zmeth zc hC hr hlk hB ls hl
  obtain ⟨hP, hK, hN⟩ := hB
  have hW : kWd D G L (kA L) zs.heap T N q zs.heap [] := kWd.start hL hP
  have hl : lv_has ls 3 [(0, .ref (L 0)), (1, .int w)] := hl
  refine lv_aload_n hC.1 hC.2.1 dX3_removeTree_0 rfl (lv_at hl 0 rfl) ?_
  refine kg3 hC hK hW 2 (v := .ref (L 3)) rfl (by decide) tf_X3_25 dX3_removeTree_1 ?_
  refine kal3 hC hK hW dX3_removeTree_4 ?_
  refine lv_iconst (v := 1) hC.1 hC.2.1 dX3_removeTree_5 (by decide) ?_
  refine lv_isub hC.1 hC.2.1 dX3_removeTree_6 ?_
  refine lv_istore_n (lv' := [(2, .int (60 - 1)), (0, .ref (L 0)), (1, .int w)]) hC.1 hC.2.1 dX3_removeTree_7 rfl hl (by decide) rfl (fun ls hl => ?_)
  have loop_8 : ∀ (zf i : Nat), i + zf = 60 - tn w →  ∀ (H : Heap) (locs : List Loc), kWd D G L (kA L) zs.heap (kfT (krtg w) T i) N q H locs → ∀ ls : Array Slot, lv_has ls 3 [(2, .int (nI (60 - i) - 1)), (0, .ref (L 0)), (1, .int w)] → W zp l ze ({ frames := 2, cells := 0, slots := 0, locals := 46 } : Room) zs zm zargs zbelow zmeth zc H locs 0 0 (MQ zbelow (kQv D G L (kfT (krtg w) T (60 - tn w)) N q) zargs zs 0 0 (kA L)) (F0 zm 8 ls []) := by
    intro zf
    induction zf with
    | zero =>
      intro i  hi  H locs hW ls hl
      have hi0 : i = 60 - tn w := by omega
      refine lv_iload_n hC.1 hC.2.1 dX3_removeTree_8 rfl (lv_at hl 0 rfl) ?_
      refine lv_iload_n hC.1 hC.2.1 dX3_removeTree_9 rfl (lv_at hl 2 rfl) ?_
      refine lv_icmp_lt (tgt := 50) hC.1 hC.2.1 dX3_removeTree_10 (by decide) (fun c_10 => ?_) (fun c_10 => ?_)
      · exact krV hC hr hlk hW (by simp only [kif_true, kif_false, kb, kup_eq, kup_f, kup_i, not_true_eq_false, not_false_eq_true, and_true, true_and, and_false, false_and, and_self, or_true, true_or, or_false, false_or, hi0, c_10]) rfl rfl dX3_removeTree_50
      · exact absurd (by rw [show 60 - i = tn w by omega]; have z := kpred_lt (tn w) (by omega); rw [← (tn_nat hw0).1] at z ⊢; exact z) c_10
    | succ zf ih =>
      intro i  hi  H locs hW ls hl
      have hlt : i < 60 - tn w := by omega
      rw [show nI (60 - i) - 1 = nI (59 - i) from by rw [show 60 - i = (59 - i) + 1 by omega, nI_pred]] at hl
      refine lv_iload_n hC.1 hC.2.1 dX3_removeTree_8 rfl (lv_at hl 0 rfl) ?_
      refine lv_iload_n hC.1 hC.2.1 dX3_removeTree_9 rfl (lv_at hl 2 rfl) ?_
      refine lv_icmp_lt (tgt := 50) hC.1 hC.2.1 dX3_removeTree_10 (by decide) (fun c_10 => ?_) (fun c_10 => ?_)
      · exact absurd (by rw [← (tn_nat hw0).1]; exact c_10) (nI_nlt (a := 59 - i) (b := tn w) (by omega) (by omega))
      · refine lv_aload_n hC.1 hC.2.1 dX3_removeTree_13 rfl (lv_at hl 1 rfl) ?_
        refine kg3 hC hK hW 2 (v := .ref (L 3)) rfl (by decide) tf_X3_25 dX3_removeTree_14 ?_
        refine lv_iload_n hC.1 hC.2.1 dX3_removeTree_17 rfl (lv_at hl 0 rfl) ?_
        refine kar3n hC hK hW (i := (59 - i)) (by omega) dX3_removeTree_18 ?_
        refine kg1N hC hK hN hW (by omega) 1 (v := .int ((kfT (krtg w) T i) 18 (59 - i))) rfl (by decide) tf_X3_253 dX3_removeTree_19 ?_
        refine lv_if_eq (tgt := 44) hC.1 hC.2.1 dX3_removeTree_22 (by decide) (fun c_22 => ?_) (fun c_22 => ?_)
        · refine lv_iinc (v := nI (60 - (i + 1)) - 1) (lv' := [(2, .int (nI (60 - (i + 1)) - 1)), (0, .ref (L 0)), (1, .int w)]) hC.1 hC.2.1 dX3_removeTree_44 hl (k := 0) rfl (by rw [show 60 - (i + 1) = 59 - i by omega]; exact kdec _) (by decide) rfl (fun ls hl => ?_)
          refine lv_goto (tgt := 8) hC.1 hC.2.1 dX3_removeTree_47 (by decide) ?_
          have e_T : kfT (krtg w) T i = kfT (krtg w) T (i + 1) := by simp only [kif_true, kif_false, kb, not_true_eq_false, not_false_eq_true, and_true, true_and, and_false, false_and, and_self, or_true, true_or, or_false, false_or, Int32.add_zero, Int32.sub_zero, kfT, krtg, c_10, c_22]
          rw [e_T] at hW
          exact ih (i + 1) (by omega) _ _ hW ls (lv_sub hl [0, 1, 2] rfl)
        · refine lv_aload_n hC.1 hC.2.1 dX3_removeTree_25 rfl (lv_at hl 1 rfl) ?_
          refine lv_iload_n hC.1 hC.2.1 dX3_removeTree_26 rfl (lv_at hl 0 rfl) ?_
          refine lv_iload_n hC.1 hC.2.1 dX3_removeTree_27 rfl (lv_at hl 2 rfl) ?_
          refine keSi (rest := []) (kcV 0 hC hK hN hW (c_X3_isPartOf l D G L hL (kfT (krtg w) T i) N q (nI (59 - i)) w) (kgoodV tm_X3_275 ti_yX3_isPartOf te_yX3_isPartOf tz_X3 tc_yX3_isPartOf) kw_m rfl ⟨rfl, by decide, by decide, (show Option.map _ (parseMethodDescriptor yX3_isPartOf.desc) = some 2 from by decide +kernel)⟩ ⟨Nat.le_of_ble_eq_true rfl, Nat.le_of_ble_eq_true rfl⟩ hl.1 rfl (Nat.le_of_ble_eq_true rfl) ⟨Nat.le_refl _, Nat.le_refl _⟩ dX3_removeTree_28) ?_
          refine kif_eq (tgt := 44) hC.1 hC.2.1 dX3_removeTree_31 (by decide) (fun c_31 => ?_) (fun c_31 => ?_)
          · refine lv_iinc (v := nI (60 - (i + 1)) - 1) (lv' := [(2, .int (nI (60 - (i + 1)) - 1)), (0, .ref (L 0)), (1, .int w)]) hC.1 hC.2.1 dX3_removeTree_44 hl (k := 0) rfl (by rw [show 60 - (i + 1) = 59 - i by omega]; exact kdec _) (by decide) rfl (fun ls hl => ?_)
            refine lv_goto (tgt := 8) hC.1 hC.2.1 dX3_removeTree_47 (by decide) ?_
            have e_T : kfT (krtg w) T i = kfT (krtg w) T (i + 1) := by simp only [kif_true, kif_false, kb, not_true_eq_false, not_false_eq_true, and_true, true_and, and_false, false_and, and_self, or_true, true_or, or_false, false_or, Int32.add_zero, Int32.sub_zero, kfT, krtg, c_10, c_22, c_31]
            rw [e_T] at hW
            exact ih (i + 1) (by omega) _ _ hW ls (lv_sub hl [0, 1, 2] rfl)
          · refine lv_aload_n hC.1 hC.2.1 dX3_removeTree_34 rfl (lv_at hl 1 rfl) ?_
            refine kg3 hC hK hW 2 (v := .ref (L 3)) rfl (by decide) tf_X3_25 dX3_removeTree_35 ?_
            refine lv_iload_n hC.1 hC.2.1 dX3_removeTree_38 rfl (lv_at hl 0 rfl) ?_
            refine kar3n hC hK hW (i := (59 - i)) (by omega) dX3_removeTree_39 ?_
            refine lv_iconst (v := 0) hC.1 hC.2.1 dX3_removeTree_40 (by decide) ?_
            refine kp1N hC hK hN hW (by omega) 1 (by decide) (by decide) .boolean tf_X3_253 (by decide +kernel) rfl rfl dX3_removeTree_41 (fun H locs (hW : kWd D G L (kA L) zs.heap (kup (kfT (krtg w) T i) 18 (59 - i) 0) N q H locs) => ?_)
            refine lv_iinc (v := nI (60 - (i + 1)) - 1) (lv' := [(2, .int (nI (60 - (i + 1)) - 1)), (0, .ref (L 0)), (1, .int w)]) hC.1 hC.2.1 dX3_removeTree_44 hl (k := 0) rfl (by rw [show 60 - (i + 1) = 59 - i by omega]; exact kdec _) (by decide) rfl (fun ls hl => ?_)
            refine lv_goto (tgt := 8) hC.1 hC.2.1 dX3_removeTree_47 (by decide) ?_
            have e_T : (kup (kfT (krtg w) T i) 18 (59 - i) 0) = kfT (krtg w) T (i + 1) := by simp only [kif_true, kif_false, kb, not_true_eq_false, not_false_eq_true, and_true, true_and, and_false, false_and, and_self, or_true, true_or, or_false, false_or, Int32.add_zero, Int32.sub_zero, kfT, krtg, c_10, c_22, c_31]
            rw [e_T] at hW
            exact ih (i + 1) (by omega) _ _ hW ls (lv_sub hl [0, 1, 2] rfl)
  exact loop_8 (60 - tn w) 0 (by omega) _ _ hW ls (by skip; exact lv_sub hl [0, 1, 2] rfl)
set_option maxHeartbeats 4000000 in
set_option maxRecDepth 100000 in
theorem c_X3_enter (l : Launch) (D : va_G) (G : Nat → ClassId) (L : Nat → Nat) (hL : kL L) (T N : kT) (q : kQ) (x : Int32) : kM l yX3_enter cX3_enter 2 (some .boolean) 0 0 (kPc D G L T N q [.ref (L 0), .int x]) (kQi D G L (kb (kGo T x)) (kGoT T x) N q) (kA L) := by
  refine kBegin (by decide) (Nat.le_of_ble_eq_true rfl) ?_
  intro zp ze zs zm zargs zbelow zmeth zc hC hr hlk hB ls hl
  obtain ⟨hP, hK, hN⟩ := hB
  have hW : kWd D G L (kA L) zs.heap T N q zs.heap [] := kWd.start hL hP
  have hl : lv_has ls 2 [(0, .ref (L 0)), (1, .int x)] := hl
  refine lv_aload_n hC.1 hC.2.1 dX3_enter_0 rfl (lv_at hl 0 rfl) ?_
  refine kg3 hC hK hW 11 (v := .int (T 0 8)) rfl (by decide) tf_X3_44 dX3_enter_1 ?_
  refine lv_iconst (v := (-1)) hC.1 hC.2.1 dX3_enter_4 (by decide) ?_
  refine lv_icmp_eq (tgt := 18) hC.1 hC.2.1 dX3_enter_5 (by decide) (fun c_5 => ?_) (fun c_5 => ?_)
  · refine lv_aload_n hC.1 hC.2.1 dX3_enter_18 rfl (lv_at hl 0 rfl) ?_
    refine lv_dup hC.1 hC.2.1 dX3_enter_19 rfl ?_
    refine kg3 hC hK hW 10 (v := .int (T 0 7)) rfl (by decide) tf_X3_247 dX3_enter_20 ?_
    refine lv_iload_n hC.1 hC.2.1 dX3_enter_23 rfl (lv_at hl 1 rfl) ?_
    refine lv_iadd hC.1 hC.2.1 dX3_enter_24 ?_
    refine kp3 hC hK hW 10 (by decide) (by decide) tf_X3_247 dX3_enter_25 (fun H locs (hW : kWd D G L (kA L) zs.heap (kup T 0 7 ((T 0 7) + x)) N q H locs) => ?_)
    refine lv_iconst (v := 1) hC.1 hC.2.1 dX3_enter_28 (by decide) ?_
    exact krIZ hC hr hlk hW (Or.inr rfl) (by simp only [kif_true, kif_false, kb, kup_eq, kup_f, kup_i, not_true_eq_false, not_false_eq_true, and_true, true_and, and_false, false_and, and_self, or_true, true_or, or_false, false_or, kGo, kGoT, c_5]) (by simp only [kif_true, kif_false, kb, kup_eq, kup_f, kup_i, not_true_eq_false, not_false_eq_true, and_true, true_and, and_false, false_and, and_self, or_true, true_or, or_false, false_or, kGo, kGoT, c_5]) rfl rfl dX3_enter_29
  · refine lv_iload_n hC.1 hC.2.1 dX3_enter_8 rfl (lv_at hl 1 rfl) ?_
    refine lv_aload_n hC.1 hC.2.1 dX3_enter_9 rfl (lv_at hl 0 rfl) ?_
    refine kg3 hC hK hW 11 (v := .int (T 0 8)) rfl (by decide) tf_X3_44 dX3_enter_10 ?_
    refine lv_icmp_le (tgt := 18) hC.1 hC.2.1 dX3_enter_13 (by decide) (fun c_13 => ?_) (fun c_13 => ?_)
    · refine lv_aload_n hC.1 hC.2.1 dX3_enter_18 rfl (lv_at hl 0 rfl) ?_
      refine lv_dup hC.1 hC.2.1 dX3_enter_19 rfl ?_
      refine kg3 hC hK hW 10 (v := .int (T 0 7)) rfl (by decide) tf_X3_247 dX3_enter_20 ?_
      refine lv_iload_n hC.1 hC.2.1 dX3_enter_23 rfl (lv_at hl 1 rfl) ?_
      refine lv_iadd hC.1 hC.2.1 dX3_enter_24 ?_
      refine kp3 hC hK hW 10 (by decide) (by decide) tf_X3_247 dX3_enter_25 (fun H locs (hW : kWd D G L (kA L) zs.heap (kup T 0 7 ((T 0 7) + x)) N q H locs) => ?_)
      refine lv_iconst (v := 1) hC.1 hC.2.1 dX3_enter_28 (by decide) ?_
      exact krIZ hC hr hlk hW (Or.inr rfl) (by simp only [kif_true, kif_false, kb, kup_eq, kup_f, kup_i, not_true_eq_false, not_false_eq_true, and_true, true_and, and_false, false_and, and_self, or_true, true_or, or_false, false_or, kGo, kGoT, c_5, c_13]) (by simp only [kif_true, kif_false, kb, kup_eq, kup_f, kup_i, not_true_eq_false, not_false_eq_true, and_true, true_and, and_false, false_and, and_self, or_true, true_or, or_false, false_or, kGo, kGoT, c_5, c_13]) rfl rfl dX3_enter_29
    · refine lv_iconst (v := 0) hC.1 hC.2.1 dX3_enter_16 (by decide) ?_
      exact krIZ hC hr hlk hW (Or.inl rfl) (by simp only [kif_true, kif_false, kb, kup_eq, kup_f, kup_i, not_true_eq_false, not_false_eq_true, and_true, true_and, and_false, false_and, and_self, or_true, true_or, or_false, false_or, kGo, kGoT, c_5, c_13]) (by simp only [kif_true, kif_false, kb, kup_eq, kup_f, kup_i, not_true_eq_false, not_false_eq_true, and_true, true_and, and_false, false_and, and_self, or_true, true_or, or_false, false_or, kGo, kGoT, c_5, c_13]) rfl rfl dX3_enter_17
set_option maxHeartbeats 4000000 in
set_option maxRecDepth 100000 in
theorem c_X3_startAnew (l : Launch) (D : va_G) (G : Nat → ClassId) (L : Nat → Nat) (hL : kL L) (T N : kT) (q : kQ) : kM l yX3_startAnew cX3_startAnew 2 none 1 25 (kPc D G L T N q [.ref (L 0)]) (kQv D G L (kSt T) N q) (kA L) := by
  refine kBegin (by decide) (Nat.le_of_ble_eq_true rfl) ?_
  intro zp ze zs zm zargs zbelow zmeth zc hC hr hlk hB ls hl
  obtain ⟨hP, hK, hN⟩ := hB
  have hW : kWd D G L (kA L) zs.heap T N q zs.heap [] := kWd.start hL hP
  have hl : lv_has ls 2 [(0, .ref (L 0))] := hl
  refine lv_iconst (v := 0) hC.1 hC.2.1 dX3_startAnew_0 (by decide) ?_
  refine lv_istore_n (lv' := [(1, .int 0), (0, .ref (L 0))]) hC.1 hC.2.1 dX3_startAnew_1 rfl hl (by decide) rfl (fun ls hl => ?_)
  have loop_2 : ∀ (zf i : Nat), i + zf = 40 →  ∀ (H : Heap) (locs : List Loc), kWd D G L (kA L) zs.heap (kfT kc10 T i) N q H locs → ∀ ls : Array Slot, lv_has ls 2 [(1, .int (nI i)), (0, .ref (L 0))] → W zp l ze ({ frames := 1, cells := 0, slots := 0, locals := 25 } : Room) zs zm zargs zbelow zmeth zc H locs 0 0 (MQ zbelow (kQv D G L (kSt T) N q) zargs zs 0 0 (kA L)) (F0 zm 2 ls []) := by
    intro zf
    induction zf with
    | zero =>
      intro i  hi  H locs hW ls hl
      have hi0 : i = 40 := by omega
      refine lv_iload_n hC.1 hC.2.1 dX3_startAnew_2 rfl (lv_at hl 0 rfl) ?_
      refine lv_aload_n hC.1 hC.2.1 dX3_startAnew_3 rfl (lv_at hl 1 rfl) ?_
      refine kg3 hC hK hW 1 (v := .ref (L 2)) rfl (by decide) tf_X3_18 dX3_startAnew_4 ?_
      refine kal2 hC hK hW dX3_startAnew_7 ?_
      refine lv_icmp_ge (tgt := 27) hC.1 hC.2.1 dX3_startAnew_8 (by decide) (fun c_8 => ?_) (fun c_8 => ?_)
      · rw [hi0] at hW
        refine lv_iconst (v := 0) hC.1 hC.2.1 dX3_startAnew_27 (by decide) ?_
        refine lv_istore_n (lv' := [(1, .int 0), (0, .ref (L 0))]) hC.1 hC.2.1 dX3_startAnew_28 rfl hl (by decide) rfl (fun ls hl => ?_)
        have loop_29 : ∀ (zf i : Nat), i + zf = 24 →  ∀ (H : Heap) (locs : List Loc), kWd D G L (kA L) zs.heap (kfT kc1 (kfT kc10 T 40) i) N q H locs → ∀ ls : Array Slot, lv_has ls 2 [(1, .int (nI i)), (0, .ref (L 0))] → W zp l ze ({ frames := 1, cells := 0, slots := 0, locals := 25 } : Room) zs zm zargs zbelow zmeth zc H locs 0 0 (MQ zbelow (kQv D G L (kSt T) N q) zargs zs 0 0 (kA L)) (F0 zm 29 ls []) := by
          intro zf
          induction zf with
          | zero =>
            intro i  hi  H locs hW ls hl
            have hi0 : i = 24 := by omega
            refine lv_iload_n hC.1 hC.2.1 dX3_startAnew_29 rfl (lv_at hl 0 rfl) ?_
            refine lv_aload_n hC.1 hC.2.1 dX3_startAnew_30 rfl (lv_at hl 1 rfl) ?_
            refine kg3 hC hK hW 0 (v := .ref (L 1)) rfl (by decide) tf_X3_11 dX3_startAnew_31 ?_
            refine kal1 hC hK hW dX3_startAnew_34 ?_
            refine lv_icmp_ge (tgt := 54) hC.1 hC.2.1 dX3_startAnew_35 (by decide) (fun c_35 => ?_) (fun c_35 => ?_)
            · refine lv_aload_n hC.1 hC.2.1 dX3_startAnew_54 rfl (lv_at hl 1 rfl) ?_
              refine kg3 hC hK hW 0 (v := .ref (L 1)) rfl (by decide) tf_X3_11 dX3_startAnew_55 ?_
              refine lv_iconst (v := 0) hC.1 hC.2.1 dX3_startAnew_58 (by decide) ?_
              refine kar1n hC hK hW (i := 0) (by decide) dX3_startAnew_59 ?_
              refine lv_iconst (v := (-1)) hC.1 hC.2.1 dX3_startAnew_60 (by decide) ?_
              refine lv_iconst (v := 0) hC.1 hC.2.1 dX3_startAnew_61 (by decide) ?_
              refine lv_iconst (v := 0) hC.1 hC.2.1 dX3_startAnew_62 (by decide) ?_
              refine lv_iconst (v := 0) hC.1 hC.2.1 dX3_startAnew_63 (by decide) ?_
              refine lv_iconst (v := 0) hC.1 hC.2.1 dX3_startAnew_64 (by decide) ?_
              refine keQv (rest := []) (kcVN (4 + 0) hC hK hN hW (c_X2_begin l D G L hL (kfT kc1 (kfT kc10 T 40) i) N q 0 (by decide) (-1) 0 0 0 0) tm_X3_30 ti_yX2_begin te_yX2_begin tz_X2 tc_yX2_begin (kw_p (by decide)) rfl ⟨by decide, by decide, (show Option.map _ (parseMethodDescriptor yX2_begin.desc) = some 5 from by decide +kernel)⟩ ⟨Nat.le_of_ble_eq_true rfl, Nat.le_of_ble_eq_true rfl⟩ hl.1 rfl (Nat.le_of_ble_eq_true rfl) ⟨Nat.le_refl _, Nat.le_refl _⟩ dX3_startAnew_65) hW (fun H locs (hW : kWd D G L (kA L) zs.heap (t_X2_begin (kfT kc1 (kfT kc10 T 40) i) 0 (-1) 0 0 0 0) N q H locs) => ?_)
              exact krV hC hr hlk hW (by simp only [kSt, hi0]) rfl rfl dX3_startAnew_68
            · exact absurd (nI_le (a := 24) (b := i) (by omega) (by omega)) c_35
          | succ zf ih =>
            intro i  hi  H locs hW ls hl
            have hlt : i < 24 := by omega
            refine lv_iload_n hC.1 hC.2.1 dX3_startAnew_29 rfl (lv_at hl 0 rfl) ?_
            refine lv_aload_n hC.1 hC.2.1 dX3_startAnew_30 rfl (lv_at hl 1 rfl) ?_
            refine kg3 hC hK hW 0 (v := .ref (L 1)) rfl (by decide) tf_X3_11 dX3_startAnew_31 ?_
            refine kal1 hC hK hW dX3_startAnew_34 ?_
            refine lv_icmp_ge (tgt := 54) hC.1 hC.2.1 dX3_startAnew_35 (by decide) (fun c_35 => ?_) (fun c_35 => ?_)
            · exact absurd c_35 (nI_ge (a := i) (b := 24) (by omega) (by decide))
            · refine lv_aload_n hC.1 hC.2.1 dX3_startAnew_38 rfl (lv_at hl 1 rfl) ?_
              refine kg3 hC hK hW 0 (v := .ref (L 1)) rfl (by decide) tf_X3_11 dX3_startAnew_39 ?_
              refine lv_iload_n hC.1 hC.2.1 dX3_startAnew_42 rfl (lv_at hl 0 rfl) ?_
              refine kar1n hC hK hW (i := i) hlt dX3_startAnew_43 ?_
              refine lv_iconst (v := 0) hC.1 hC.2.1 dX3_startAnew_44 (by decide) ?_
              refine kp2N hC hK hN hW hlt 0 (by decide) .boolean tf_X3_102 (by decide +kernel) rfl rfl dX3_startAnew_45 (fun H locs (hW : kWd D G L (kA L) zs.heap (kup (kfT kc1 (kfT kc10 T 40) i) 1 i 0) N q H locs) => ?_)
              refine lv_iinc (v := nI (i + 1)) (lv' := [(1, .int (nI (i + 1))), (0, .ref (L 0))]) hC.1 hC.2.1 dX3_startAnew_48 hl (k := 0) rfl (nI_1 i) (by decide) rfl (fun ls hl => ?_)
              refine lv_goto (tgt := 29) hC.1 hC.2.1 dX3_startAnew_51 (by decide) ?_
              have e_T : (kup (kfT kc1 (kfT kc10 T 40) i) 1 i 0) = kfT kc1 (kfT kc10 T 40) (i + 1) := by simp only [kif_true, kif_false, kb, not_true_eq_false, not_false_eq_true, and_true, true_and, and_false, false_and, and_self, or_true, true_or, or_false, false_or, Int32.add_zero, Int32.sub_zero, kfT, kc1, hi0, c_8, c_35]
              rw [e_T] at hW
              exact ih (i + 1) (by omega) _ _ hW ls (lv_sub hl [0, 1] rfl)
        exact loop_29 24 0 (by omega) _ _ hW ls (by rw [nI_0]; exact lv_sub hl [0, 1] rfl)
      · exact absurd (nI_le (a := 40) (b := i) (by omega) (by omega)) c_8
    | succ zf ih =>
      intro i  hi  H locs hW ls hl
      have hlt : i < 40 := by omega
      refine lv_iload_n hC.1 hC.2.1 dX3_startAnew_2 rfl (lv_at hl 0 rfl) ?_
      refine lv_aload_n hC.1 hC.2.1 dX3_startAnew_3 rfl (lv_at hl 1 rfl) ?_
      refine kg3 hC hK hW 1 (v := .ref (L 2)) rfl (by decide) tf_X3_18 dX3_startAnew_4 ?_
      refine kal2 hC hK hW dX3_startAnew_7 ?_
      refine lv_icmp_ge (tgt := 27) hC.1 hC.2.1 dX3_startAnew_8 (by decide) (fun c_8 => ?_) (fun c_8 => ?_)
      · exact absurd c_8 (nI_ge (a := i) (b := 40) (by omega) (by decide))
      · refine lv_aload_n hC.1 hC.2.1 dX3_startAnew_11 rfl (lv_at hl 1 rfl) ?_
        refine kg3 hC hK hW 1 (v := .ref (L 2)) rfl (by decide) tf_X3_18 dX3_startAnew_12 ?_
        refine lv_iload_n hC.1 hC.2.1 dX3_startAnew_15 rfl (lv_at hl 0 rfl) ?_
        refine kar2n hC hK hW (i := i) hlt dX3_startAnew_16 ?_
        refine lv_iconst (v := 0) hC.1 hC.2.1 dX3_startAnew_17 (by decide) ?_
        refine kp0N hC hK hN hW hlt 3 (by decide) (by decide) .boolean tf_X3_127 (by decide +kernel) rfl rfl dX3_startAnew_18 (fun H locs (hW : kWd D G L (kA L) zs.heap (kup (kfT kc10 T i) 10 i 0) N q H locs) => ?_)
        refine lv_iinc (v := nI (i + 1)) (lv' := [(1, .int (nI (i + 1))), (0, .ref (L 0))]) hC.1 hC.2.1 dX3_startAnew_21 hl (k := 0) rfl (nI_1 i) (by decide) rfl (fun ls hl => ?_)
        refine lv_goto (tgt := 2) hC.1 hC.2.1 dX3_startAnew_24 (by decide) ?_
        have e_T : (kup (kfT kc10 T i) 10 i 0) = kfT kc10 T (i + 1) := by simp only [kif_true, kif_false, kb, not_true_eq_false, not_false_eq_true, and_true, true_and, and_false, false_and, and_self, or_true, true_or, or_false, false_or, Int32.add_zero, Int32.sub_zero, kfT, kc10, c_8]
        rw [e_T] at hW
        exact ih (i + 1) (by omega) _ _ hW ls (lv_sub hl [0, 1] rfl)
  exact loop_2 40 0 (by omega) _ _ hW ls (by rw [nI_0]; exact lv_sub hl [0, 1] rfl)
set_option maxHeartbeats 4000000 in
set_option maxRecDepth 100000 in
theorem c_X3_outcome (l : Launch) (D : va_G) (G : Nat → ClassId) (L : Nat → Nat) (hL : kL L) (T N : kT) (q : kQ) (x : Int32) : kM l yX3_outcome cX3_outcome 2 (some .int) 2 46 (kPc D G L T N q [.ref (L 0), .int x]) (kQi D G L (kOa T x) (kOt T) N q) (kA L) := by
  refine kBegin (by decide) (Nat.le_of_ble_eq_true rfl) ?_
  intro zp ze zs zm zargs zbelow zmeth zc hC hr hlk hB ls hl
  obtain ⟨hP, hK, hN⟩ := hB
  have hW : kWd D G L (kA L) zs.heap T N q zs.heap [] := kWd.start hL hP
  have hl : lv_has ls 2 [(0, .ref (L 0)), (1, .int x)] := hl
  refine lv_aload_n hC.1 hC.2.1 dX3_outcome_0 rfl (lv_at hl 0 rfl) ?_
  refine kg3 hC hK hW 11 (v := .int (T 0 8)) rfl (by decide) tf_X3_44 dX3_outcome_1 ?_
  refine lv_iconst (v := (-1)) hC.1 hC.2.1 dX3_outcome_4 (by decide) ?_
  refine lv_icmp_ne (tgt := 10) hC.1 hC.2.1 dX3_outcome_5 (by decide) (fun c_5 => ?_) (fun c_5 => ?_)
  · refine lv_aload_n hC.1 hC.2.1 dX3_outcome_10 rfl (lv_at hl 0 rfl) ?_
    refine lv_iconst (v := (-1)) hC.1 hC.2.1 dX3_outcome_11 (by decide) ?_
    refine kp3 hC hK hW 11 (by decide) (by decide) tf_X3_44 dX3_outcome_12 (fun H locs (hW : kWd D G L (kA L) zs.heap (kup T 0 8 (-1)) N q H locs) => ?_)
    refine lv_aload_n hC.1 hC.2.1 dX3_outcome_15 rfl (lv_at hl 0 rfl) ?_
    refine lv_dup hC.1 hC.2.1 dX3_outcome_16 rfl ?_
    refine kg3 hC hK hW 12 (v := .int ((kup T 0 8 (-1)) 0 9)) rfl (by decide) tf_X3_250 dX3_outcome_17 ?_
    refine lv_iconst (v := 1) hC.1 hC.2.1 dX3_outcome_20 (by decide) ?_
    refine lv_iadd hC.1 hC.2.1 dX3_outcome_21 ?_
    refine kp3 hC hK hW 12 (by decide) (by decide) tf_X3_250 dX3_outcome_22 (fun H locs (hW : kWd D G L (kA L) zs.heap (kup (kup T 0 8 (-1)) 0 9 (((kup T 0 8 (-1)) 0 9) + 1)) N q H locs) => ?_)
    refine lv_aload_n hC.1 hC.2.1 dX3_outcome_25 rfl (lv_at hl 0 rfl) ?_
    refine keQv (rest := []) (kcV 0 hC hK hN hW (c_X3_startAnew l D G L hL (kup (kup T 0 8 (-1)) 0 9 (((kup T 0 8 (-1)) 0 9) + 1)) N q ) (kgoodV tm_X3_278 ti_yX3_startAnew te_yX3_startAnew tz_X3 tc_yX3_startAnew) kw_m rfl ⟨rfl, by decide, by decide, (show Option.map _ (parseMethodDescriptor yX3_startAnew.desc) = some 0 from by decide +kernel)⟩ ⟨Nat.le_of_ble_eq_true rfl, Nat.le_of_ble_eq_true rfl⟩ hl.1 rfl (Nat.le_of_ble_eq_true rfl) ⟨Nat.le_refl _, Nat.le_refl _⟩ dX3_outcome_26) hW (fun H locs (hW : kWd D G L (kA L) zs.heap (kSt (kup (kup T 0 8 (-1)) 0 9 (((kup T 0 8 (-1)) 0 9) + 1))) N q H locs) => ?_)
    refine lv_ldcw hC.1 hC.2.1 hC.2.2.2.1 (hC.2.2.2.2 _ (kt_in tk_X3_281 rfl)) dX3_outcome_29 ?_
    exact krI hC hr hlk hW (by simp only [kif_true, kif_false, kb, kup_eq, kup_f, kup_i, not_true_eq_false, not_false_eq_true, and_true, true_and, and_false, false_and, and_self, or_true, true_or, or_false, false_or, kOa, kOt, c_5]) (by simp only [kif_true, kif_false, kb, kup_eq, kup_f, kup_i, not_true_eq_false, not_false_eq_true, and_true, true_and, and_false, false_and, and_self, or_true, true_or, or_false, false_or, kOa, kOt, c_5]) rfl rfl dX3_outcome_32
  · refine lv_iload_n hC.1 hC.2.1 dX3_outcome_8 rfl (lv_at hl 1 rfl) ?_
    exact krI hC hr hlk hW (by simp only [kif_true, kif_false, kb, kup_eq, kup_f, kup_i, not_true_eq_false, not_false_eq_true, and_true, true_and, and_false, false_and, and_self, or_true, true_or, or_false, false_or, kOa, kOt, c_5]) (by simp only [kif_true, kif_false, kb, kup_eq, kup_f, kup_i, not_true_eq_false, not_false_eq_true, and_true, true_and, and_false, false_and, and_self, or_true, true_or, or_false, false_or, kOa, kOt, c_5]) rfl rfl dX3_outcome_9
set_option maxHeartbeats 4000000 in
set_option maxRecDepth 100000 in
theorem c_X3_make (l : Launch) (D : va_G) (G : Nat → ClassId) (L : Nat → Nat) (hL : kL L) (T N : kT) (q : kQ) (x1 : Int32) (w_x1 : x1 = 0 ∨ x1 = 1) (x2 : Int32) (x3 : Int32) (x4 : Int32) (x5 : Int32) (x6 : Int32) (hno : ¬ T 0 3 < 0) : kM l yX3_make cX3_make 8 (some .int) 3 67 (kPc D G L T N q [.ref (L 0), .int x1, .int x2, .int x3, .int x4, .int x5, .int x6]) (kQi D G L (kif (T 0 3 < 60) (kOa (kMk T x1 x2 x3 x4 x5 x6) (T 0 3)) (-1000004)) (kif (T 0 3 < 60) (kOt (kMk T x1 x2 x3 x4 x5 x6)) T) N q) (kA L) := by
  refine kBegin (by decide) (Nat.le_of_ble_eq_true rfl) ?_
  intro zp ze zs zm zargs zbelow zmeth zc hC hr hlk hB ls hl
  obtain ⟨hP, hK, hN⟩ := hB
  have hW : kWd D G L (kA L) zs.heap T N q zs.heap [] := kWd.start hL hP
  have hl : lv_has ls 8 [(0, .ref (L 0)), (1, .int x1), (2, .int x2), (3, .int x3), (4, .int x4), (5, .int x5), (6, .int x6)] := hl
  refine lv_aload_n hC.1 hC.2.1 dX3_make_0 rfl (lv_at hl 0 rfl) ?_
  refine kg3 hC hK hW 6 (v := .int (T 0 3)) rfl (by decide) tf_X3_41 dX3_make_1 ?_
  refine lv_istore (lv' := [(7, .int (T 0 3)), (0, .ref (L 0)), (1, .int x1), (2, .int x2), (3, .int x3), (4, .int x4), (5, .int x5), (6, .int x6)]) hC.1 hC.2.1 dX3_make_4 hl (by decide) rfl (fun ls hl => ?_)
  refine lv_iload hC.1 hC.2.1 dX3_make_6 (lv_at hl 0 rfl) ?_
  refine lv_aload_n hC.1 hC.2.1 dX3_make_8 rfl (lv_at hl 1 rfl) ?_
  refine kg3 hC hK hW 2 (v := .ref (L 3)) rfl (by decide) tf_X3_25 dX3_make_9 ?_
  refine kal3 hC hK hW dX3_make_12 ?_
  refine lv_icmp_lt (tgt := 19) hC.1 hC.2.1 dX3_make_13 (by decide) (fun c_13 => ?_) (fun c_13 => ?_)
  · refine lv_aload_n hC.1 hC.2.1 dX3_make_19 rfl (lv_at hl 1 rfl) ?_
    refine lv_iconst (v := 3) hC.1 hC.2.1 dX3_make_20 (by decide) ?_
    refine keQi (rest := []) (kcV 0 hC hK hN hW (c_X3_enter l D G L hL T N q 3) (kgoodV tm_X3_207 ti_yX3_enter te_yX3_enter tz_X3 tc_yX3_enter) kw_m rfl ⟨rfl, by decide, by decide, (show Option.map _ (parseMethodDescriptor yX3_enter.desc) = some 1 from by decide +kernel)⟩ ⟨Nat.le_of_ble_eq_true rfl, Nat.le_of_ble_eq_true rfl⟩ hl.1 rfl (Nat.le_of_ble_eq_true rfl) ⟨Nat.le_refl _, Nat.le_refl _⟩ dX3_make_21) hW (fun H locs (hW : kWd D G L (kA L) zs.heap (kGoT T 3) N q H locs) => ?_)
    refine kif_eq (tgt := 54) hC.1 hC.2.1 dX3_make_24 (by decide) (fun c_24 => ?_) (fun c_24 => ?_)
    · refine lv_aload_n hC.1 hC.2.1 dX3_make_54 rfl (lv_at hl 1 rfl) ?_
      refine lv_iload hC.1 hC.2.1 dX3_make_55 (lv_at hl 0 rfl) ?_
      refine keQi (rest := []) (kcV 0 hC hK hN hW (c_X3_outcome l D G L hL (kGoT T 3) N q (T 0 3)) (kgoodV tm_X3_213 ti_yX3_outcome te_yX3_outcome tz_X3 tc_yX3_outcome) kw_m rfl ⟨rfl, by decide, by decide, (show Option.map _ (parseMethodDescriptor yX3_outcome.desc) = some 1 from by decide +kernel)⟩ ⟨Nat.le_of_ble_eq_true rfl, Nat.le_of_ble_eq_true rfl⟩ hl.1 rfl (Nat.le_of_ble_eq_true rfl) ⟨Nat.le_refl _, Nat.le_refl _⟩ dX3_make_57) hW (fun H locs (hW : kWd D G L (kA L) zs.heap (kOt (kGoT T 3)) N q H locs) => ?_)
      exact krI hC hr hlk hW (by simp only [kif_true, kif_false, kb, kup_eq, kup_f, kup_i, not_true_eq_false, not_false_eq_true, and_true, true_and, and_false, false_and, and_self, or_true, true_or, or_false, false_or, kMk, kGoT, c_13, c_24]) (by simp only [kif_true, kif_false, kb, kup_eq, kup_f, kup_i, not_true_eq_false, not_false_eq_true, and_true, true_and, and_false, false_and, and_self, or_true, true_or, or_false, false_or, kMk, kGoT, c_13, c_24]) rfl rfl dX3_make_60
    · refine lv_aload_n hC.1 hC.2.1 dX3_make_27 rfl (lv_at hl 1 rfl) ?_
      refine kg3 hC hK hW 2 (v := .ref (L 3)) rfl (by decide) tf_X3_25 dX3_make_28 ?_
      refine lv_iload hC.1 hC.2.1 dX3_make_31 (lv_at hl 0 rfl) ?_
      refine kar3 hC hK hW (kin60 hno (fun z => by rw [Int32.lt_iff_toInt_lt] at c_13; rw [Int32.le_iff_toInt_le] at z; omega)) dX3_make_33 ?_
      refine lv_iload_n hC.1 hC.2.1 dX3_make_34 rfl (lv_at hl 2 rfl) ?_
      refine lv_iload_n hC.1 hC.2.1 dX3_make_35 rfl (lv_at hl 3 rfl) ?_
      refine lv_iload_n hC.1 hC.2.1 dX3_make_36 rfl (lv_at hl 4 rfl) ?_
      refine lv_iload hC.1 hC.2.1 dX3_make_37 (lv_at hl 5 rfl) ?_
      refine lv_iload hC.1 hC.2.1 dX3_make_39 (lv_at hl 6 rfl) ?_
      refine lv_iload hC.1 hC.2.1 dX3_make_41 (lv_at hl 7 rfl) ?_
      refine keQv (rest := []) (kcVN (188 + (tn (T 0 3))) hC hK hN hW (c_X1_begin l D G L hL (kGoT T 3) N q (tn (T 0 3)) (kin_lt (kin60 hno (fun z => by rw [Int32.lt_iff_toInt_lt] at c_13; rw [Int32.le_iff_toInt_le] at z; omega))) x1 w_x1 x2 x3 x4 x5 x6) tm_X3_38 ti_yX1_begin te_yX1_begin tz_X1 tc_yX1_begin (kw_o (kin_lt (kin60 hno (fun z => by rw [Int32.lt_iff_toInt_lt] at c_13; rw [Int32.le_iff_toInt_le] at z; omega)))) rfl ⟨by decide, by decide, (show Option.map _ (parseMethodDescriptor yX1_begin.desc) = some 6 from by decide +kernel)⟩ ⟨Nat.le_of_ble_eq_true rfl, Nat.le_of_ble_eq_true rfl⟩ hl.1 rfl (Nat.le_of_ble_eq_true rfl) ⟨Nat.le_refl _, Nat.le_refl _⟩ dX3_make_43) hW (fun H locs (hW : kWd D G L (kA L) zs.heap (t_X1_begin (kGoT T 3) (tn (T 0 3)) x1 x2 x3 x4 x5 x6) N q H locs) => ?_)
      refine lv_aload_n hC.1 hC.2.1 dX3_make_46 rfl (lv_at hl 1 rfl) ?_
      refine lv_iload hC.1 hC.2.1 dX3_make_47 (lv_at hl 0 rfl) ?_
      refine lv_iconst (v := 1) hC.1 hC.2.1 dX3_make_49 (by decide) ?_
      refine lv_iadd hC.1 hC.2.1 dX3_make_50 ?_
      refine kp3 hC hK hW 6 (by decide) (by decide) tf_X3_41 dX3_make_51 (fun H locs (hW : kWd D G L (kA L) zs.heap (kup (t_X1_begin (kGoT T 3) (tn (T 0 3)) x1 x2 x3 x4 x5 x6) 0 3 ((T 0 3) + 1)) N q H locs) => ?_)
      refine lv_aload_n hC.1 hC.2.1 dX3_make_54 rfl (lv_at hl 1 rfl) ?_
      refine lv_iload hC.1 hC.2.1 dX3_make_55 (lv_at hl 0 rfl) ?_
      refine keQi (rest := []) (kcV 0 hC hK hN hW (c_X3_outcome l D G L hL (kup (t_X1_begin (kGoT T 3) (tn (T 0 3)) x1 x2 x3 x4 x5 x6) 0 3 ((T 0 3) + 1)) N q (T 0 3)) (kgoodV tm_X3_213 ti_yX3_outcome te_yX3_outcome tz_X3 tc_yX3_outcome) kw_m rfl ⟨rfl, by decide, by decide, (show Option.map _ (parseMethodDescriptor yX3_outcome.desc) = some 1 from by decide +kernel)⟩ ⟨Nat.le_of_ble_eq_true rfl, Nat.le_of_ble_eq_true rfl⟩ hl.1 rfl (Nat.le_of_ble_eq_true rfl) ⟨Nat.le_refl _, Nat.le_refl _⟩ dX3_make_57) hW (fun H locs (hW : kWd D G L (kA L) zs.heap (kOt (kup (t_X1_begin (kGoT T 3) (tn (T 0 3)) x1 x2 x3 x4 x5 x6) 0 3 ((T 0 3) + 1))) N q H locs) => ?_)
      exact krI hC hr hlk hW (by simp only [kif_true, kif_false, kb, kup_eq, kup_f, kup_i, not_true_eq_false, not_false_eq_true, and_true, true_and, and_false, false_and, and_self, or_true, true_or, or_false, false_or, kMk, kGoT, c_13, c_24]) (by simp only [kif_true, kif_false, kb, kup_eq, kup_f, kup_i, not_true_eq_false, not_false_eq_true, and_true, true_and, and_false, false_and, and_self, or_true, true_or, or_false, false_or, kMk, kGoT, c_13, c_24]) rfl rfl dX3_make_60
  · refine lv_ldc hC.1 hC.2.1 hC.2.2.2.1 (hC.2.2.2.2 _ (kt_in tk_X3_56 rfl)) dX3_make_16 ?_
    exact krI hC hr hlk hW (by simp only [kif_true, kif_false, kb, kup_eq, kup_f, kup_i, not_true_eq_false, not_false_eq_true, and_true, true_and, and_false, false_and, and_self, or_true, true_or, or_false, false_or, kMk, kGoT, c_13]) (by simp only [kif_true, kif_false, kb, kup_eq, kup_f, kup_i, not_true_eq_false, not_false_eq_true, and_true, true_and, and_false, false_and, and_self, or_true, true_or, or_false, false_or, kMk, kGoT, c_13]) rfl rfl dX3_make_18
