theorem kn1 {n : Int32} (h : ¬ n < 1) : ¬ n < 0 := fun z => h (by rw [Int32.lt_iff_toInt_lt] at z ⊢; have z2 : (1 : Int32).toInt = 1 := rfl; have z3 : (0 : Int32).toInt = 0 := rfl; omega)
set_option maxHeartbeats 4000000 in
set_option maxRecDepth 100000 in
theorem c_X3_send (l : Launch) (D : va_G) (G : Nat → ClassId) (L : Nat → Nat) (hL : kL L) (T N : kT) (q : kQ) (p : Int32) (x : Int32) (f : Int32) (v : Int32) (a : Int32) (b : Int32) : kM l yX3_send cX3_send 10 (some .int) 2 44 (kPc D G L T N q [.ref (L 0), .int p, .int x, .int f, .int v, .int a, .int b]) (kQi D G L (a_send T p x f a b) (t_send T p x f v a b) N (q_send T q p x f v a b)) (kA L) := by
  refine kBegin (by decide) (Nat.le_of_ble_eq_true rfl) ?_
  intro zp ze zs zm zargs zbelow zmeth zc hC hr hlk hB ls hl
  obtain ⟨hP, hK, hN⟩ := hB
  have hW : kWd D G L (kA L) zs.heap T N q zs.heap [] := kWd.start hL hP
  have hl : lv_has ls 10 [(0, .ref (L 0)), (1, .int p), (2, .int x), (3, .int f), (4, .int v), (5, .int a), (6, .int b)] := hl
  refine lv_aload_n hC.1 hC.2.1 dX3_send_0 rfl (lv_at hl 0 rfl) ?_
  refine lv_iload_n hC.1 hC.2.1 dX3_send_1 rfl (lv_at hl 1 rfl) ?_
  refine keSq (rest := []) (kcV 0 hC hK hN hW (c_X3_processAt l D G L hL T N q p) (kgoodV tm_X3_47 ti_yX3_processAt te_yX3_processAt tz_X3 tc_yX3_processAt) kw_m rfl ⟨rfl, by decide, by decide, (show Option.map _ (parseMethodDescriptor yX3_processAt.desc) = some 1 from by decide +kernel)⟩ ⟨Nat.le_of_ble_eq_true rfl, Nat.le_of_ble_eq_true rfl⟩ hl.1 rfl (Nat.le_of_ble_eq_true rfl) ⟨Nat.le_refl _, Nat.le_refl _⟩ dX3_send_2) ?_
  refine kopt (P := kP T p) (fun c_2 => ?_) (fun c_2 => ?_)
  · refine lv_astore (lv' := [(7, .ref (L (4 + (tn p)))), (0, .ref (L 0)), (1, .int p), (2, .int x), (3, .int f), (4, .int v), (5, .int a), (6, .int b)]) hC.1 hC.2.1 dX3_send_5 hl (by decide) rfl (fun ls hl => ?_)
    refine lv_aload_n hC.1 hC.2.1 dX3_send_7 rfl (lv_at hl 1 rfl) ?_
    refine lv_iload_n hC.1 hC.2.1 dX3_send_8 rfl (lv_at hl 3 rfl) ?_
    refine keSq (rest := []) (kcV 0 hC hK hN hW (c_X3_endpointAt l D G L hL T N q x) (kgoodV tm_X3_120 ti_yX3_endpointAt te_yX3_endpointAt tz_X3 tc_yX3_endpointAt) kw_m rfl ⟨rfl, by decide, by decide, (show Option.map _ (parseMethodDescriptor yX3_endpointAt.desc) = some 1 from by decide +kernel)⟩ ⟨Nat.le_of_ble_eq_true rfl, Nat.le_of_ble_eq_true rfl⟩ hl.1 rfl (Nat.le_of_ble_eq_true rfl) ⟨Nat.le_refl _, Nat.le_refl _⟩ dX3_send_9) ?_
    refine kopt (P := kEo T x) (fun c_9 => ?_) (fun c_9 => ?_)
    · refine lv_astore (lv' := [(8, .ref (L (28 + (tn x)))), (7, .ref (L (4 + (tn p)))), (0, .ref (L 0)), (1, .int p), (2, .int x), (3, .int f), (4, .int v), (5, .int a), (6, .int b)]) hC.1 hC.2.1 dX3_send_12 hl (by decide) rfl (fun ls hl => ?_)
      refine lv_aload hC.1 hC.2.1 dX3_send_14 (lv_at hl 1 rfl) ?_
      refine lv_ifnull hC.1 hC.2.1 dX3_send_16 ?_
      refine lv_aload hC.1 hC.2.1 dX3_send_19 (lv_at hl 0 rfl) ?_
      refine lv_ifnonnull (tgt := 27) hC.1 hC.2.1 dX3_send_21 (by decide) ?_
      refine lv_iload_n hC.1 hC.2.1 dX3_send_27 rfl (lv_at hl 5 rfl) ?_
      refine lv_if_lt (tgt := 55) hC.1 hC.2.1 dX3_send_28 (by decide) (fun c_28 => ?_) (fun c_28 => ?_)
      · refine lv_ldc hC.1 hC.2.1 hC.2.2.2.1 (hC.2.2.2.2 _ (kt_in tk_X3_52 rfl)) dX3_send_55 ?_
        exact krI hC hr hlk hW (by simp (config := {decide := true}) only [kif_true, kif_false, kb, kup_eq, kup_f, kup_i, not_true_eq_false, not_false_eq_true, and_true, true_and, and_false, false_and, and_self, or_true, true_or, or_false, false_or, a_send, t_send, q_send, kSdg, kSdo, kSdd, kSdl, c_2, c_9, c_28]) (by simp (config := {decide := true}) only [kif_true, kif_false, kb, kup_eq, kup_f, kup_i, not_true_eq_false, not_false_eq_true, and_true, true_and, and_false, false_and, and_self, or_true, true_or, or_false, false_or, a_send, t_send, q_send, kSdg, kSdo, kSdd, kSdl, c_2, c_9, c_28]) rfl (by simp (config := {decide := true}) only [kif_true, kif_false, kb, kup_eq, kup_f, kup_i, not_true_eq_false, not_false_eq_true, and_true, true_and, and_false, false_and, and_self, or_true, true_or, or_false, false_or, a_send, t_send, q_send, kSdg, kSdo, kSdd, kSdl, c_2, c_9, c_28]) dX3_send_57
      · refine lv_iload_n hC.1 hC.2.1 dX3_send_31 rfl (lv_at hl 5 rfl) ?_
        refine lv_bipush (v := 40) hC.1 hC.2.1 dX3_send_32 (by decide) ?_
        refine lv_icmp_ge (tgt := 55) hC.1 hC.2.1 dX3_send_34 (by decide) (fun c_34 => ?_) (fun c_34 => ?_)
        · refine lv_ldc hC.1 hC.2.1 hC.2.2.2.1 (hC.2.2.2.2 _ (kt_in tk_X3_52 rfl)) dX3_send_55 ?_
          exact krI hC hr hlk hW (by simp (config := {decide := true}) only [kif_true, kif_false, kb, kup_eq, kup_f, kup_i, not_true_eq_false, not_false_eq_true, and_true, true_and, and_false, false_and, and_self, or_true, true_or, or_false, false_or, a_send, t_send, q_send, kSdg, kSdo, kSdd, kSdl, c_2, c_9, c_28, c_34]) (by simp (config := {decide := true}) only [kif_true, kif_false, kb, kup_eq, kup_f, kup_i, not_true_eq_false, not_false_eq_true, and_true, true_and, and_false, false_and, and_self, or_true, true_or, or_false, false_or, a_send, t_send, q_send, kSdg, kSdo, kSdd, kSdl, c_2, c_9, c_28, c_34]) rfl (by simp (config := {decide := true}) only [kif_true, kif_false, kb, kup_eq, kup_f, kup_i, not_true_eq_false, not_false_eq_true, and_true, true_and, and_false, false_and, and_self, or_true, true_or, or_false, false_or, a_send, t_send, q_send, kSdg, kSdo, kSdd, kSdl, c_2, c_9, c_28, c_34]) dX3_send_57
        · refine lv_aload_n hC.1 hC.2.1 dX3_send_37 rfl (lv_at hl 2 rfl) ?_
          refine lv_iload hC.1 hC.2.1 dX3_send_38 (lv_at hl 7 rfl) ?_
          refine keSi (rest := []) (kcV 0 hC hK hN hW (c_X3_isSet l D G L hL T N q a) (kgoodV tm_X3_86 ti_yX3_isSet te_yX3_isSet tz_X3 tc_yX3_isSet) kw_m rfl ⟨rfl, by decide, by decide, (show Option.map _ (parseMethodDescriptor yX3_isSet.desc) = some 1 from by decide +kernel)⟩ ⟨Nat.le_of_ble_eq_true rfl, Nat.le_of_ble_eq_true rfl⟩ hl.1 rfl (Nat.le_of_ble_eq_true rfl) ⟨Nat.le_refl _, Nat.le_refl _⟩ dX3_send_40) ?_
          refine kif_eq (tgt := 55) hC.1 hC.2.1 dX3_send_43 (by decide) (fun c_43 => ?_) (fun c_43 => ?_)
          · refine lv_ldc hC.1 hC.2.1 hC.2.2.2.1 (hC.2.2.2.2 _ (kt_in tk_X3_52 rfl)) dX3_send_55 ?_
            exact krI hC hr hlk hW (by simp (config := {decide := true}) only [kif_true, kif_false, kb, kup_eq, kup_f, kup_i, not_true_eq_false, not_false_eq_true, and_true, true_and, and_false, false_and, and_self, or_true, true_or, or_false, false_or, a_send, t_send, q_send, kSdg, kSdo, kSdd, kSdl, c_2, c_9, c_28, c_34, c_43]) (by simp (config := {decide := true}) only [kif_true, kif_false, kb, kup_eq, kup_f, kup_i, not_true_eq_false, not_false_eq_true, and_true, true_and, and_false, false_and, and_self, or_true, true_or, or_false, false_or, a_send, t_send, q_send, kSdg, kSdo, kSdd, kSdl, c_2, c_9, c_28, c_34, c_43]) rfl (by simp (config := {decide := true}) only [kif_true, kif_false, kb, kup_eq, kup_f, kup_i, not_true_eq_false, not_false_eq_true, and_true, true_and, and_false, false_and, and_self, or_true, true_or, or_false, false_or, a_send, t_send, q_send, kSdg, kSdo, kSdd, kSdl, c_2, c_9, c_28, c_34, c_43]) dX3_send_57
          · refine lv_aload_n hC.1 hC.2.1 dX3_send_46 rfl (lv_at hl 2 rfl) ?_
            refine lv_iload hC.1 hC.2.1 dX3_send_47 (lv_at hl 8 rfl) ?_
            refine keSi (rest := []) (kcV 0 hC hK hN hW (c_X3_isSet l D G L hL T N q b) (kgoodV tm_X3_86 ti_yX3_isSet te_yX3_isSet tz_X3 tc_yX3_isSet) kw_m rfl ⟨rfl, by decide, by decide, (show Option.map _ (parseMethodDescriptor yX3_isSet.desc) = some 1 from by decide +kernel)⟩ ⟨Nat.le_of_ble_eq_true rfl, Nat.le_of_ble_eq_true rfl⟩ hl.1 rfl (Nat.le_of_ble_eq_true rfl) ⟨Nat.le_refl _, Nat.le_refl _⟩ dX3_send_49) ?_
            refine kif_ne (tgt := 58) hC.1 hC.2.1 dX3_send_52 (by decide) (fun c_52 => ?_) (fun c_52 => ?_)
            · refine lv_aload hC.1 hC.2.1 dX3_send_58 (lv_at hl 0 rfl) ?_
              refine kg0N hC hK hN hW (kEo.lt c_9) 4 (v := .int (T 11 (tn x))) rfl (by decide) tf_X3_124 dX3_send_60 ?_
              refine lv_iload_n hC.1 hC.2.1 dX3_send_63 rfl (lv_at hl 3 rfl) ?_
              refine lv_icmp_ne (tgt := 79) hC.1 hC.2.1 dX3_send_64 (by decide) (fun c_64 => ?_) (fun c_64 => ?_)
              · refine lv_ldc hC.1 hC.2.1 hC.2.2.2.1 (hC.2.2.2.2 _ (kt_in tk_X3_98 rfl)) dX3_send_79 ?_
                exact krI hC hr hlk hW (by simp (config := {decide := true}) only [kif_true, kif_false, kb, kup_eq, kup_f, kup_i, not_true_eq_false, not_false_eq_true, and_true, true_and, and_false, false_and, and_self, or_true, true_or, or_false, false_or, a_send, t_send, q_send, kSdg, kSdo, kSdd, kSdl, c_2, c_9, c_28, c_34, c_43, c_52, c_64]) (by simp (config := {decide := true}) only [kif_true, kif_false, kb, kup_eq, kup_f, kup_i, not_true_eq_false, not_false_eq_true, and_true, true_and, and_false, false_and, and_self, or_true, true_or, or_false, false_or, a_send, t_send, q_send, kSdg, kSdo, kSdd, kSdl, c_2, c_9, c_28, c_34, c_43, c_52, c_64]) rfl (by simp (config := {decide := true}) only [kif_true, kif_false, kb, kup_eq, kup_f, kup_i, not_true_eq_false, not_false_eq_true, and_true, true_and, and_false, false_and, and_self, or_true, true_or, or_false, false_or, a_send, t_send, q_send, kSdg, kSdo, kSdd, kSdl, c_2, c_9, c_28, c_34, c_43, c_52, c_64]) dX3_send_81
              · refine lv_aload hC.1 hC.2.1 dX3_send_67 (lv_at hl 1 rfl) ?_
                refine lv_iload hC.1 hC.2.1 dX3_send_69 (lv_at hl 7 rfl) ?_
                refine lv_iload hC.1 hC.2.1 dX3_send_71 (lv_at hl 8 rfl) ?_
                refine keSi (rest := []) (kcS hC hK hN hW (c_X3_owns l D G L hL T N q (tn p) (kP.lt c_2) a b) (kgoodS tm_X3_99 ts_yX3_owns tz_X3 tc_yX3_owns) ⟨rfl, by decide, by decide, (show Option.map _ (parseMethodDescriptor yX3_owns.desc) = some 3 from by decide +kernel)⟩ ⟨Nat.le_of_ble_eq_true rfl, Nat.le_of_ble_eq_true rfl⟩ hl.1 rfl (Nat.le_of_ble_eq_true rfl) ⟨Nat.le_refl _, Nat.le_refl _⟩ dX3_send_73) ?_
                refine kif_ne (tgt := 82) hC.1 hC.2.1 dX3_send_76 (by decide) (fun c_76 => ?_) (fun c_76 => ?_)
                · refine lv_aload_n hC.1 hC.2.1 dX3_send_82 rfl (lv_at hl 2 rfl) ?_
                  refine lv_iload_n hC.1 hC.2.1 dX3_send_83 rfl (lv_at hl 5 rfl) ?_
                  refine keSq (rest := []) (kcV 0 hC hK hN hW (c_X3_endpointAt l D G L hL T N q f) (kgoodV tm_X3_120 ti_yX3_endpointAt te_yX3_endpointAt tz_X3 tc_yX3_endpointAt) kw_m rfl ⟨rfl, by decide, by decide, (show Option.map _ (parseMethodDescriptor yX3_endpointAt.desc) = some 1 from by decide +kernel)⟩ ⟨Nat.le_of_ble_eq_true rfl, Nat.le_of_ble_eq_true rfl⟩ hl.1 rfl (Nat.le_of_ble_eq_true rfl) ⟨Nat.le_refl _, Nat.le_refl _⟩ dX3_send_84) ?_
                  refine kopt (P := kEo T f) (fun c_84 => ?_) (fun c_84 => ?_)
                  · refine lv_astore (lv' := [(9, .ref (L (28 + (tn f)))), (8, .ref (L (28 + (tn x)))), (7, .ref (L (4 + (tn p)))), (0, .ref (L 0)), (1, .int p), (2, .int x), (3, .int f), (4, .int v), (5, .int a), (6, .int b)]) hC.1 hC.2.1 dX3_send_87 hl (by decide) rfl (fun ls hl => ?_)
                    refine lv_aload hC.1 hC.2.1 dX3_send_89 (lv_at hl 0 rfl) ?_
                    refine lv_ifnull hC.1 hC.2.1 dX3_send_91 ?_
                    refine lv_aload hC.1 hC.2.1 dX3_send_94 (lv_at hl 0 rfl) ?_
                    refine keSi (rest := []) (kcVN (28 + (tn f)) hC hK hN hW (c_X0_hasRoom l D G L hL T N q (tn f) (kEo.lt c_84)) tm_X3_135 ti_yX0_hasRoom te_yX0_hasRoom tz_X0 tc_yX0_hasRoom (kw_e (kEo.lt c_84)) rfl ⟨by decide, by decide, (show Option.map _ (parseMethodDescriptor yX0_hasRoom.desc) = some 0 from by decide +kernel)⟩ ⟨Nat.le_of_ble_eq_true rfl, Nat.le_of_ble_eq_true rfl⟩ hl.1 rfl (Nat.le_of_ble_eq_true rfl) ⟨Nat.le_refl _, Nat.le_refl _⟩ dX3_send_96) ?_
                    refine kif_eq (tgt := 142) hC.1 hC.2.1 dX3_send_99 (by decide) (fun c_99 => ?_) (fun c_99 => ?_)
                    · refine lv_aload_n hC.1 hC.2.1 dX3_send_142 rfl (lv_at hl 3 rfl) ?_
                      refine lv_dup hC.1 hC.2.1 dX3_send_143 rfl ?_
                      refine kg3 hC hK hW 9 (v := .int (T 0 6)) rfl (by decide) tf_X3_145 dX3_send_144 ?_
                      refine lv_iconst (v := 1) hC.1 hC.2.1 dX3_send_147 (by decide) ?_
                      refine lv_iadd hC.1 hC.2.1 dX3_send_148 ?_
                      refine kp3 hC hK hW 9 (by decide) (by decide) tf_X3_145 dX3_send_149 (fun H locs (hW : kWd D G L (kA L) zs.heap (kup T 0 6 ((T 0 6) + 1)) N q H locs) => ?_)
                      refine lv_iconst (v := 1) hC.1 hC.2.1 dX3_send_152 (by decide) ?_
                      exact krI hC hr hlk hW (by simp (config := {decide := true}) only [kif_true, kif_false, kb, kup_eq, kup_f, kup_i, not_true_eq_false, not_false_eq_true, and_true, true_and, and_false, false_and, and_self, or_true, true_or, or_false, false_or, a_send, t_send, q_send, kSdg, kSdo, kSdd, kSdl, c_2, c_9, c_28, c_34, c_43, c_52, c_64, c_76, c_84, c_99]) (by simp (config := {decide := true}) only [kif_true, kif_false, kb, kup_eq, kup_f, kup_i, not_true_eq_false, not_false_eq_true, and_true, true_and, and_false, false_and, and_self, or_true, true_or, or_false, false_or, a_send, t_send, q_send, kSdg, kSdo, kSdd, kSdl, c_2, c_9, c_28, c_34, c_43, c_52, c_64, c_76, c_84, c_99]) rfl (by simp (config := {decide := true}) only [kif_true, kif_false, kb, kup_eq, kup_f, kup_i, not_true_eq_false, not_false_eq_true, and_true, true_and, and_false, false_and, and_self, or_true, true_or, or_false, false_or, a_send, t_send, q_send, kSdg, kSdo, kSdd, kSdl, c_2, c_9, c_28, c_34, c_43, c_52, c_64, c_76, c_84, c_99]) dX3_send_153
                    · refine lv_aload hC.1 hC.2.1 dX3_send_102 (lv_at hl 1 rfl) ?_
                      refine kg0N hC hK hN hW (kEo.lt c_9) 5 (v := .int (T 12 (tn x))) rfl (by decide) tf_X3_133 dX3_send_104 ?_
                      refine lv_aload hC.1 hC.2.1 dX3_send_107 (lv_at hl 1 rfl) ?_
                      refine kg0N hC hK hN hW (kEo.lt c_9) 6 (v := .int (T 13 (tn x))) rfl (by decide) tf_X3_134 dX3_send_109 ?_
                      refine lv_aload hC.1 hC.2.1 dX3_send_112 (lv_at hl 0 rfl) ?_
                      refine kg0N hC hK hN hW (kEo.lt c_84) 5 (v := .int (T 12 (tn f))) rfl (by decide) tf_X3_133 dX3_send_114 ?_
                      refine lv_aload hC.1 hC.2.1 dX3_send_117 (lv_at hl 0 rfl) ?_
                      refine kg0N hC hK hN hW (kEo.lt c_84) 6 (v := .int (T 13 (tn f))) rfl (by decide) tf_X3_134 dX3_send_119 ?_
                      refine keSi (rest := []) (kcS0 hC (c_X3_flows l (T 12 (tn x)) (T 13 (tn x)) (T 12 (tn f)) (T 13 (tn f))) (kgoodS tm_X3_139 ts_yX3_flows tz_X3 tc_yX3_flows) ⟨rfl, by decide, by decide, (show Option.map _ (parseMethodDescriptor yX3_flows.desc) = some 4 from by decide +kernel)⟩ ⟨Nat.le_of_ble_eq_true rfl, Nat.le_of_ble_eq_true rfl⟩ hl.1 rfl (Nat.le_of_ble_eq_true rfl) ⟨Nat.le_refl _, Nat.le_refl _⟩ dX3_send_122) ?_
                      refine kif_eq (tgt := 142) hC.1 hC.2.1 dX3_send_125 (by decide) (fun c_125 => ?_) (fun c_125 => ?_)
                      · refine lv_aload_n hC.1 hC.2.1 dX3_send_142 rfl (lv_at hl 3 rfl) ?_
                        refine lv_dup hC.1 hC.2.1 dX3_send_143 rfl ?_
                        refine kg3 hC hK hW 9 (v := .int (T 0 6)) rfl (by decide) tf_X3_145 dX3_send_144 ?_
                        refine lv_iconst (v := 1) hC.1 hC.2.1 dX3_send_147 (by decide) ?_
                        refine lv_iadd hC.1 hC.2.1 dX3_send_148 ?_
                        refine kp3 hC hK hW 9 (by decide) (by decide) tf_X3_145 dX3_send_149 (fun H locs (hW : kWd D G L (kA L) zs.heap (kup T 0 6 ((T 0 6) + 1)) N q H locs) => ?_)
                        refine lv_iconst (v := 1) hC.1 hC.2.1 dX3_send_152 (by decide) ?_
                        exact krI hC hr hlk hW (by simp (config := {decide := true}) only [kif_true, kif_false, kb, kup_eq, kup_f, kup_i, not_true_eq_false, not_false_eq_true, and_true, true_and, and_false, false_and, and_self, or_true, true_or, or_false, false_or, a_send, t_send, q_send, kSdg, kSdo, kSdd, kSdl, c_2, c_9, c_28, c_34, c_43, c_52, c_64, c_76, c_84, c_99, c_125]) (by simp (config := {decide := true}) only [kif_true, kif_false, kb, kup_eq, kup_f, kup_i, not_true_eq_false, not_false_eq_true, and_true, true_and, and_false, false_and, and_self, or_true, true_or, or_false, false_or, a_send, t_send, q_send, kSdg, kSdo, kSdd, kSdl, c_2, c_9, c_28, c_34, c_43, c_52, c_64, c_76, c_84, c_99, c_125]) rfl (by simp (config := {decide := true}) only [kif_true, kif_false, kb, kup_eq, kup_f, kup_i, not_true_eq_false, not_false_eq_true, and_true, true_and, and_false, false_and, and_self, or_true, true_or, or_false, false_or, a_send, t_send, q_send, kSdg, kSdo, kSdd, kSdl, c_2, c_9, c_28, c_34, c_43, c_52, c_64, c_76, c_84, c_99, c_125]) dX3_send_153
                      · refine lv_aload hC.1 hC.2.1 dX3_send_128 (lv_at hl 0 rfl) ?_
                        refine lv_iload hC.1 hC.2.1 dX3_send_130 (lv_at hl 7 rfl) ?_
                        refine lv_iload hC.1 hC.2.1 dX3_send_132 (lv_at hl 8 rfl) ?_
                        refine lv_iload hC.1 hC.2.1 dX3_send_134 (lv_at hl 9 rfl) ?_
                        refine keQv (rest := []) (kcVN (28 + (tn f)) hC hK hN hW (c_X0_put l D G L hL T N q (tn f) (kEo.lt c_84) v a b c_99) tm_X3_142 ti_yX0_put te_yX0_put tz_X0 tc_yX0_put (kw_e (kEo.lt c_84)) rfl ⟨by decide, by decide, (show Option.map _ (parseMethodDescriptor yX0_put.desc) = some 3 from by decide +kernel)⟩ ⟨Nat.le_of_ble_eq_true rfl, Nat.le_of_ble_eq_true rfl⟩ hl.1 rfl (Nat.le_of_ble_eq_true rfl) ⟨Nat.le_refl _, Nat.le_refl _⟩ dX3_send_136) hW (fun H locs (hW : kWd D G L (kA L) zs.heap (t_X0_put T (tn f) v a b) N (q_X0_put T q (tn f) v a b) H locs) => ?_)
                        refine lv_goto (tgt := 152) hC.1 hC.2.1 dX3_send_139 (by decide) ?_
                        refine lv_iconst (v := 1) hC.1 hC.2.1 dX3_send_152 (by decide) ?_
                        exact krI hC hr hlk hW (by simp (config := {decide := true}) only [kif_true, kif_false, kb, kup_eq, kup_f, kup_i, not_true_eq_false, not_false_eq_true, and_true, true_and, and_false, false_and, and_self, or_true, true_or, or_false, false_or, a_send, t_send, q_send, kSdg, kSdo, kSdd, kSdl, c_2, c_9, c_28, c_34, c_43, c_52, c_64, c_76, c_84, c_99, c_125]) (by simp (config := {decide := true}) only [kif_true, kif_false, kb, kup_eq, kup_f, kup_i, not_true_eq_false, not_false_eq_true, and_true, true_and, and_false, false_and, and_self, or_true, true_or, or_false, false_or, a_send, t_send, q_send, kSdg, kSdo, kSdd, kSdl, c_2, c_9, c_28, c_34, c_43, c_52, c_64, c_76, c_84, c_99, c_125]) rfl (by simp (config := {decide := true}) only [kif_true, kif_false, kb, kup_eq, kup_f, kup_i, not_true_eq_false, not_false_eq_true, and_true, true_and, and_false, false_and, and_self, or_true, true_or, or_false, false_or, a_send, t_send, q_send, kSdg, kSdo, kSdd, kSdl, c_2, c_9, c_28, c_34, c_43, c_52, c_64, c_76, c_84, c_99, c_125]) dX3_send_153
                  · refine lv_astoreN (lv' := [(9, .null), (8, .ref (L (28 + (tn x)))), (7, .ref (L (4 + (tn p)))), (0, .ref (L 0)), (1, .int p), (2, .int x), (3, .int f), (4, .int v), (5, .int a), (6, .int b)]) hC.1 hC.2.1 dX3_send_87 hl (by decide) rfl (fun ls hl => ?_)
                    refine lv_aloadN hC.1 hC.2.1 dX3_send_89 (lv_at hl 0 rfl) ?_
                    refine lv_ifnullN (tgt := 142) hC.1 hC.2.1 dX3_send_91 (by decide) ?_
                    refine lv_aload_n hC.1 hC.2.1 dX3_send_142 rfl (lv_at hl 3 rfl) ?_
                    refine lv_dup hC.1 hC.2.1 dX3_send_143 rfl ?_
                    refine kg3 hC hK hW 9 (v := .int (T 0 6)) rfl (by decide) tf_X3_145 dX3_send_144 ?_
                    refine lv_iconst (v := 1) hC.1 hC.2.1 dX3_send_147 (by decide) ?_
                    refine lv_iadd hC.1 hC.2.1 dX3_send_148 ?_
                    refine kp3 hC hK hW 9 (by decide) (by decide) tf_X3_145 dX3_send_149 (fun H locs (hW : kWd D G L (kA L) zs.heap (kup T 0 6 ((T 0 6) + 1)) N q H locs) => ?_)
                    refine lv_iconst (v := 1) hC.1 hC.2.1 dX3_send_152 (by decide) ?_
                    exact krI hC hr hlk hW (by simp (config := {decide := true}) only [kif_true, kif_false, kb, kup_eq, kup_f, kup_i, not_true_eq_false, not_false_eq_true, and_true, true_and, and_false, false_and, and_self, or_true, true_or, or_false, false_or, a_send, t_send, q_send, kSdg, kSdo, kSdd, kSdl, c_2, c_9, c_28, c_34, c_43, c_52, c_64, c_76, c_84]) (by simp (config := {decide := true}) only [kif_true, kif_false, kb, kup_eq, kup_f, kup_i, not_true_eq_false, not_false_eq_true, and_true, true_and, and_false, false_and, and_self, or_true, true_or, or_false, false_or, a_send, t_send, q_send, kSdg, kSdo, kSdd, kSdl, c_2, c_9, c_28, c_34, c_43, c_52, c_64, c_76, c_84]) rfl (by simp (config := {decide := true}) only [kif_true, kif_false, kb, kup_eq, kup_f, kup_i, not_true_eq_false, not_false_eq_true, and_true, true_and, and_false, false_and, and_self, or_true, true_or, or_false, false_or, a_send, t_send, q_send, kSdg, kSdo, kSdd, kSdl, c_2, c_9, c_28, c_34, c_43, c_52, c_64, c_76, c_84]) dX3_send_153
                · refine lv_ldc hC.1 hC.2.1 hC.2.2.2.1 (hC.2.2.2.2 _ (kt_in tk_X3_98 rfl)) dX3_send_79 ?_
                  exact krI hC hr hlk hW (by simp (config := {decide := true}) only [kif_true, kif_false, kb, kup_eq, kup_f, kup_i, not_true_eq_false, not_false_eq_true, and_true, true_and, and_false, false_and, and_self, or_true, true_or, or_false, false_or, a_send, t_send, q_send, kSdg, kSdo, kSdd, kSdl, c_2, c_9, c_28, c_34, c_43, c_52, c_64, c_76]) (by simp (config := {decide := true}) only [kif_true, kif_false, kb, kup_eq, kup_f, kup_i, not_true_eq_false, not_false_eq_true, and_true, true_and, and_false, false_and, and_self, or_true, true_or, or_false, false_or, a_send, t_send, q_send, kSdg, kSdo, kSdd, kSdl, c_2, c_9, c_28, c_34, c_43, c_52, c_64, c_76]) rfl (by simp (config := {decide := true}) only [kif_true, kif_false, kb, kup_eq, kup_f, kup_i, not_true_eq_false, not_false_eq_true, and_true, true_and, and_false, false_and, and_self, or_true, true_or, or_false, false_or, a_send, t_send, q_send, kSdg, kSdo, kSdd, kSdl, c_2, c_9, c_28, c_34, c_43, c_52, c_64, c_76]) dX3_send_81
            · refine lv_ldc hC.1 hC.2.1 hC.2.2.2.1 (hC.2.2.2.2 _ (kt_in tk_X3_52 rfl)) dX3_send_55 ?_
              exact krI hC hr hlk hW (by simp (config := {decide := true}) only [kif_true, kif_false, kb, kup_eq, kup_f, kup_i, not_true_eq_false, not_false_eq_true, and_true, true_and, and_false, false_and, and_self, or_true, true_or, or_false, false_or, a_send, t_send, q_send, kSdg, kSdo, kSdd, kSdl, c_2, c_9, c_28, c_34, c_43, c_52]) (by simp (config := {decide := true}) only [kif_true, kif_false, kb, kup_eq, kup_f, kup_i, not_true_eq_false, not_false_eq_true, and_true, true_and, and_false, false_and, and_self, or_true, true_or, or_false, false_or, a_send, t_send, q_send, kSdg, kSdo, kSdd, kSdl, c_2, c_9, c_28, c_34, c_43, c_52]) rfl (by simp (config := {decide := true}) only [kif_true, kif_false, kb, kup_eq, kup_f, kup_i, not_true_eq_false, not_false_eq_true, and_true, true_and, and_false, false_and, and_self, or_true, true_or, or_false, false_or, a_send, t_send, q_send, kSdg, kSdo, kSdd, kSdl, c_2, c_9, c_28, c_34, c_43, c_52]) dX3_send_57
    · refine lv_astoreN (lv' := [(8, .null), (7, .ref (L (4 + (tn p)))), (0, .ref (L 0)), (1, .int p), (2, .int x), (3, .int f), (4, .int v), (5, .int a), (6, .int b)]) hC.1 hC.2.1 dX3_send_12 hl (by decide) rfl (fun ls hl => ?_)
      refine lv_aload hC.1 hC.2.1 dX3_send_14 (lv_at hl 1 rfl) ?_
      refine lv_ifnull hC.1 hC.2.1 dX3_send_16 ?_
      refine lv_aloadN hC.1 hC.2.1 dX3_send_19 (lv_at hl 0 rfl) ?_
      refine lv_ifnonnullN hC.1 hC.2.1 dX3_send_21 ?_
      refine lv_ldc hC.1 hC.2.1 hC.2.2.2.1 (hC.2.2.2.2 _ (kt_in tk_X3_51 rfl)) dX3_send_24 ?_
      exact krI hC hr hlk hW (by simp (config := {decide := true}) only [kif_true, kif_false, kb, kup_eq, kup_f, kup_i, not_true_eq_false, not_false_eq_true, and_true, true_and, and_false, false_and, and_self, or_true, true_or, or_false, false_or, a_send, t_send, q_send, kSdg, kSdo, kSdd, kSdl, c_2, c_9]) (by simp (config := {decide := true}) only [kif_true, kif_false, kb, kup_eq, kup_f, kup_i, not_true_eq_false, not_false_eq_true, and_true, true_and, and_false, false_and, and_self, or_true, true_or, or_false, false_or, a_send, t_send, q_send, kSdg, kSdo, kSdd, kSdl, c_2, c_9]) rfl (by simp (config := {decide := true}) only [kif_true, kif_false, kb, kup_eq, kup_f, kup_i, not_true_eq_false, not_false_eq_true, and_true, true_and, and_false, false_and, and_self, or_true, true_or, or_false, false_or, a_send, t_send, q_send, kSdg, kSdo, kSdd, kSdl, c_2, c_9]) dX3_send_26
  · refine lv_astoreN (lv' := [(7, .null), (0, .ref (L 0)), (1, .int p), (2, .int x), (3, .int f), (4, .int v), (5, .int a), (6, .int b)]) hC.1 hC.2.1 dX3_send_5 hl (by decide) rfl (fun ls hl => ?_)
    refine lv_aload_n hC.1 hC.2.1 dX3_send_7 rfl (lv_at hl 1 rfl) ?_
    refine lv_iload_n hC.1 hC.2.1 dX3_send_8 rfl (lv_at hl 3 rfl) ?_
    refine keSq (rest := []) (kcV 0 hC hK hN hW (c_X3_endpointAt l D G L hL T N q x) (kgoodV tm_X3_120 ti_yX3_endpointAt te_yX3_endpointAt tz_X3 tc_yX3_endpointAt) kw_m rfl ⟨rfl, by decide, by decide, (show Option.map _ (parseMethodDescriptor yX3_endpointAt.desc) = some 1 from by decide +kernel)⟩ ⟨Nat.le_of_ble_eq_true rfl, Nat.le_of_ble_eq_true rfl⟩ hl.1 rfl (Nat.le_of_ble_eq_true rfl) ⟨Nat.le_refl _, Nat.le_refl _⟩ dX3_send_9) ?_
    refine kopt (P := kEo T x) (fun c_9 => ?_) (fun c_9 => ?_)
    · refine lv_astore (lv' := [(8, .ref (L (28 + (tn x)))), (7, .null), (0, .ref (L 0)), (1, .int p), (2, .int x), (3, .int f), (4, .int v), (5, .int a), (6, .int b)]) hC.1 hC.2.1 dX3_send_12 hl (by decide) rfl (fun ls hl => ?_)
      refine lv_aloadN hC.1 hC.2.1 dX3_send_14 (lv_at hl 1 rfl) ?_
      refine lv_ifnullN (tgt := 24) hC.1 hC.2.1 dX3_send_16 (by decide) ?_
      refine lv_ldc hC.1 hC.2.1 hC.2.2.2.1 (hC.2.2.2.2 _ (kt_in tk_X3_51 rfl)) dX3_send_24 ?_
      exact krI hC hr hlk hW (by simp (config := {decide := true}) only [kif_true, kif_false, kb, kup_eq, kup_f, kup_i, not_true_eq_false, not_false_eq_true, and_true, true_and, and_false, false_and, and_self, or_true, true_or, or_false, false_or, a_send, t_send, q_send, kSdg, kSdo, kSdd, kSdl, c_2, c_9]) (by simp (config := {decide := true}) only [kif_true, kif_false, kb, kup_eq, kup_f, kup_i, not_true_eq_false, not_false_eq_true, and_true, true_and, and_false, false_and, and_self, or_true, true_or, or_false, false_or, a_send, t_send, q_send, kSdg, kSdo, kSdd, kSdl, c_2, c_9]) rfl (by simp (config := {decide := true}) only [kif_true, kif_false, kb, kup_eq, kup_f, kup_i, not_true_eq_false, not_false_eq_true, and_true, true_and, and_false, false_and, and_self, or_true, true_or, or_false, false_or, a_send, t_send, q_send, kSdg, kSdo, kSdd, kSdl, c_2, c_9]) dX3_send_26
    · refine lv_astoreN (lv' := [(8, .null), (7, .null), (0, .ref (L 0)), (1, .int p), (2, .int x), (3, .int f), (4, .int v), (5, .int a), (6, .int b)]) hC.1 hC.2.1 dX3_send_12 hl (by decide) rfl (fun ls hl => ?_)
      refine lv_aloadN hC.1 hC.2.1 dX3_send_14 (lv_at hl 1 rfl) ?_
      refine lv_ifnullN (tgt := 24) hC.1 hC.2.1 dX3_send_16 (by decide) ?_
      refine lv_ldc hC.1 hC.2.1 hC.2.2.2.1 (hC.2.2.2.2 _ (kt_in tk_X3_51 rfl)) dX3_send_24 ?_
      exact krI hC hr hlk hW (by simp (config := {decide := true}) only [kif_true, kif_false, kb, kup_eq, kup_f, kup_i, not_true_eq_false, not_false_eq_true, and_true, true_and, and_false, false_and, and_self, or_true, true_or, or_false, false_or, a_send, t_send, q_send, kSdg, kSdo, kSdd, kSdl, c_2, c_9]) (by simp (config := {decide := true}) only [kif_true, kif_false, kb, kup_eq, kup_f, kup_i, not_true_eq_false, not_false_eq_true, and_true, true_and, and_false, false_and, and_self, or_true, true_or, or_false, false_or, a_send, t_send, q_send, kSdg, kSdo, kSdd, kSdl, c_2, c_9]) rfl (by simp (config := {decide := true}) only [kif_true, kif_false, kb, kup_eq, kup_f, kup_i, not_true_eq_false, not_false_eq_true, and_true, true_and, and_false, false_and, and_self, or_true, true_or, or_false, false_or, a_send, t_send, q_send, kSdg, kSdo, kSdd, kSdl, c_2, c_9]) dX3_send_26
set_option maxHeartbeats 4000000 in
set_option maxRecDepth 100000 in
theorem c_X3_receive (l : Launch) (D : va_G) (G : Nat → ClassId) (L : Nat → Nat) (hL : kL L) (T N : kT) (q : kQ) (p : Int32) (x : Int32) : kM l yX3_receive cX3_receive 5 (some .int) 1 23 (kPc D G L T N q [.ref (L 0), .int p, .int x]) (kQi D G L (a_receive T p x) (t_receive T p x (q 0 (tn x) (tn 0)) (q 1 (tn x) (tn 0)) (q 2 (tn x) (tn 0))) N (q_receive T q p x)) (kA L) := by
  refine kBegin (by decide) (Nat.le_of_ble_eq_true rfl) ?_
  intro zp ze zs zm zargs zbelow zmeth zc hC hr hlk hB ls hl
  obtain ⟨hP, hK, hN⟩ := hB
  have hW : kWd D G L (kA L) zs.heap T N q zs.heap [] := kWd.start hL hP
  have hl : lv_has ls 5 [(0, .ref (L 0)), (1, .int p), (2, .int x)] := hl
  refine lv_aload_n hC.1 hC.2.1 dX3_receive_0 rfl (lv_at hl 0 rfl) ?_
  refine lv_iload_n hC.1 hC.2.1 dX3_receive_1 rfl (lv_at hl 1 rfl) ?_
  refine keSq (rest := []) (kcV 0 hC hK hN hW (c_X3_processAt l D G L hL T N q p) (kgoodV tm_X3_47 ti_yX3_processAt te_yX3_processAt tz_X3 tc_yX3_processAt) kw_m rfl ⟨rfl, by decide, by decide, (show Option.map _ (parseMethodDescriptor yX3_processAt.desc) = some 1 from by decide +kernel)⟩ ⟨Nat.le_of_ble_eq_true rfl, Nat.le_of_ble_eq_true rfl⟩ hl.1 rfl (Nat.le_of_ble_eq_true rfl) ⟨Nat.le_refl _, Nat.le_refl _⟩ dX3_receive_2) ?_
  refine kopt (P := kP T p) (fun c_2 => ?_) (fun c_2 => ?_)
  · refine lv_astore_n (lv' := [(3, .ref (L (4 + (tn p)))), (0, .ref (L 0)), (1, .int p), (2, .int x)]) hC.1 hC.2.1 dX3_receive_5 rfl hl (by decide) rfl (fun ls hl => ?_)
    refine lv_aload_n hC.1 hC.2.1 dX3_receive_6 rfl (lv_at hl 1 rfl) ?_
    refine lv_iload_n hC.1 hC.2.1 dX3_receive_7 rfl (lv_at hl 3 rfl) ?_
    refine keSq (rest := []) (kcV 0 hC hK hN hW (c_X3_endpointAt l D G L hL T N q x) (kgoodV tm_X3_120 ti_yX3_endpointAt te_yX3_endpointAt tz_X3 tc_yX3_endpointAt) kw_m rfl ⟨rfl, by decide, by decide, (show Option.map _ (parseMethodDescriptor yX3_endpointAt.desc) = some 1 from by decide +kernel)⟩ ⟨Nat.le_of_ble_eq_true rfl, Nat.le_of_ble_eq_true rfl⟩ hl.1 rfl (Nat.le_of_ble_eq_true rfl) ⟨Nat.le_refl _, Nat.le_refl _⟩ dX3_receive_8) ?_
    refine kopt (P := kEo T x) (fun c_8 => ?_) (fun c_8 => ?_)
    · refine lv_astore (lv' := [(4, .ref (L (28 + (tn x)))), (3, .ref (L (4 + (tn p)))), (0, .ref (L 0)), (1, .int p), (2, .int x)]) hC.1 hC.2.1 dX3_receive_11 hl (by decide) rfl (fun ls hl => ?_)
      refine lv_aload_n hC.1 hC.2.1 dX3_receive_13 rfl (lv_at hl 1 rfl) ?_
      refine lv_ifnull hC.1 hC.2.1 dX3_receive_14 ?_
      refine lv_aload hC.1 hC.2.1 dX3_receive_17 (lv_at hl 0 rfl) ?_
      refine lv_ifnonnull (tgt := 25) hC.1 hC.2.1 dX3_receive_19 (by decide) ?_
      refine lv_aload hC.1 hC.2.1 dX3_receive_25 (lv_at hl 0 rfl) ?_
      refine kg0N hC hK hN hW (kEo.lt c_8) 4 (v := .int (T 11 (tn x))) rfl (by decide) tf_X3_124 dX3_receive_27 ?_
      refine lv_iload_n hC.1 hC.2.1 dX3_receive_30 rfl (lv_at hl 3 rfl) ?_
      refine lv_icmp_eq (tgt := 37) hC.1 hC.2.1 dX3_receive_31 (by decide) (fun c_31 => ?_) (fun c_31 => ?_)
      · refine lv_aload hC.1 hC.2.1 dX3_receive_37 (lv_at hl 0 rfl) ?_
        refine kg0N hC hK hN hW (kEo.lt c_8) 7 (v := .int (T 14 (tn x))) rfl (by decide) tf_X3_130 dX3_receive_39 ?_
        refine lv_if_ne (tgt := 47) hC.1 hC.2.1 dX3_receive_42 (by decide) (fun c_42 => ?_) (fun c_42 => ?_)
        · refine lv_aload_n hC.1 hC.2.1 dX3_receive_47 rfl (lv_at hl 1 rfl) ?_
          refine lv_aload hC.1 hC.2.1 dX3_receive_48 (lv_at hl 0 rfl) ?_
          refine kg0N hC hK hN hW (kEo.lt c_8) 0 (v := .ref (L (68 + (tn x)))) rfl (by decide) tf_X3_148 dX3_receive_50 ?_
          refine lv_iconst (v := 0) hC.1 hC.2.1 dX3_receive_53 (by decide) ?_
          refine kai0 hC hK hW (kEo.lt c_8) (i := 0) (by unfold vp_in; decide) dX3_receive_54 ?_
          refine lv_aload hC.1 hC.2.1 dX3_receive_55 (lv_at hl 0 rfl) ?_
          refine kg0N hC hK hN hW (kEo.lt c_8) 1 (v := .ref (L (108 + (tn x)))) rfl (by decide) tf_X3_152 dX3_receive_57 ?_
          refine lv_iconst (v := 0) hC.1 hC.2.1 dX3_receive_60 (by decide) ?_
          refine kai1 hC hK hW (kEo.lt c_8) (i := 0) (by unfold vp_in; decide) dX3_receive_61 ?_
          refine lv_aload hC.1 hC.2.1 dX3_receive_62 (lv_at hl 0 rfl) ?_
          refine kg0N hC hK hN hW (kEo.lt c_8) 2 (v := .ref (L (148 + (tn x)))) rfl (by decide) tf_X3_155 dX3_receive_64 ?_
          refine lv_iconst (v := 0) hC.1 hC.2.1 dX3_receive_67 (by decide) ?_
          refine kai2 hC hK hW (kEo.lt c_8) (i := 0) (by unfold vp_in; decide) dX3_receive_68 ?_
          refine keQv (rest := []) (kcVN (4 + (tn p)) hC hK hN hW (c_X2_take l D G L hL T N q (tn p) (kP.lt c_2) (q 0 (tn x) (tn 0)) (q 1 (tn x) (tn 0)) (q 2 (tn x) (tn 0))) tm_X3_158 ti_yX2_take te_yX2_take tz_X2 tc_yX2_take (kw_p (kP.lt c_2)) rfl ⟨by decide, by decide, (show Option.map _ (parseMethodDescriptor yX2_take.desc) = some 3 from by decide +kernel)⟩ ⟨Nat.le_of_ble_eq_true rfl, Nat.le_of_ble_eq_true rfl⟩ hl.1 rfl (Nat.le_of_ble_eq_true rfl) ⟨Nat.le_refl _, Nat.le_refl _⟩ dX3_receive_69) hW (fun H locs (hW : kWd D G L (kA L) zs.heap (t_X2_take T (tn p) (q 0 (tn x) (tn 0)) (q 1 (tn x) (tn 0)) (q 2 (tn x) (tn 0))) N q H locs) => ?_)
          refine lv_aload hC.1 hC.2.1 dX3_receive_72 (lv_at hl 0 rfl) ?_
          refine keQv (rest := []) (kcVN (28 + (tn x)) hC hK hN hW (c_X0_moveUp l D G L hL (t_X2_take T (tn p) (q 0 (tn x) (tn 0)) (q 1 (tn x) (tn 0)) (q 2 (tn x) (tn 0))) N q (tn x) (kEo.lt c_8)) tm_X3_161 ti_yX0_moveUp te_yX0_moveUp tz_X0 tc_yX0_moveUp (kw_e (kEo.lt c_8)) rfl ⟨by decide, by decide, (show Option.map _ (parseMethodDescriptor yX0_moveUp.desc) = some 0 from by decide +kernel)⟩ ⟨Nat.le_of_ble_eq_true rfl, Nat.le_of_ble_eq_true rfl⟩ hl.1 rfl (Nat.le_of_ble_eq_true rfl) ⟨Nat.le_refl _, Nat.le_refl _⟩ dX3_receive_74) hW (fun H locs (hW : kWd D G L (kA L) zs.heap (t_X0_moveUp (t_X2_take T (tn p) (q 0 (tn x) (tn 0)) (q 1 (tn x) (tn 0)) (q 2 (tn x) (tn 0))) (tn x)) N (q_X0_moveUp (t_X2_take T (tn p) (q 0 (tn x) (tn 0)) (q 1 (tn x) (tn 0)) (q 2 (tn x) (tn 0))) q (tn x)) H locs) => ?_)
          refine lv_iconst (v := 1) hC.1 hC.2.1 dX3_receive_77 (by decide) ?_
          exact krI hC hr hlk hW (by simp (config := {decide := true}) only [kif_true, kif_false, kb, kup_eq, kup_f, kup_i, not_true_eq_false, not_false_eq_true, and_true, true_and, and_false, false_and, and_self, or_true, true_or, or_false, false_or, a_receive, t_receive, q_receive, kRcg, c_2, c_8, c_31, c_42]) (by simp (config := {decide := true}) only [kif_true, kif_false, kb, kup_eq, kup_f, kup_i, not_true_eq_false, not_false_eq_true, and_true, true_and, and_false, false_and, and_self, or_true, true_or, or_false, false_or, a_receive, t_receive, q_receive, kRcg, c_2, c_8, c_31, c_42]) rfl (by simp (config := {decide := true}) only [q_receive, kRcg, kif_true, and_true, not_false_eq_true, c_2, c_8, c_31, c_42] <;> rfl) dX3_receive_78
        · refine lv_iconst (v := 0) hC.1 hC.2.1 dX3_receive_45 (by decide) ?_
          exact krI hC hr hlk hW (by simp (config := {decide := true}) only [kif_true, kif_false, kb, kup_eq, kup_f, kup_i, not_true_eq_false, not_false_eq_true, and_true, true_and, and_false, false_and, and_self, or_true, true_or, or_false, false_or, a_receive, t_receive, q_receive, kRcg, c_2, c_8, c_31, c_42]) (by simp (config := {decide := true}) only [kif_true, kif_false, kb, kup_eq, kup_f, kup_i, not_true_eq_false, not_false_eq_true, and_true, true_and, and_false, false_and, and_self, or_true, true_or, or_false, false_or, a_receive, t_receive, q_receive, kRcg, c_2, c_8, c_31, c_42]) rfl (by simp (config := {decide := true}) only [kif_true, kif_false, kb, kup_eq, kup_f, kup_i, not_true_eq_false, not_false_eq_true, and_true, true_and, and_false, false_and, and_self, or_true, true_or, or_false, false_or, a_receive, t_receive, q_receive, kRcg, c_2, c_8, c_31, c_42]) dX3_receive_46
      · refine lv_ldc hC.1 hC.2.1 hC.2.2.2.1 (hC.2.2.2.2 _ (kt_in tk_X3_98 rfl)) dX3_receive_34 ?_
        exact krI hC hr hlk hW (by simp (config := {decide := true}) only [kif_true, kif_false, kb, kup_eq, kup_f, kup_i, not_true_eq_false, not_false_eq_true, and_true, true_and, and_false, false_and, and_self, or_true, true_or, or_false, false_or, a_receive, t_receive, q_receive, kRcg, c_2, c_8, c_31]) (by simp (config := {decide := true}) only [kif_true, kif_false, kb, kup_eq, kup_f, kup_i, not_true_eq_false, not_false_eq_true, and_true, true_and, and_false, false_and, and_self, or_true, true_or, or_false, false_or, a_receive, t_receive, q_receive, kRcg, c_2, c_8, c_31]) rfl (by simp (config := {decide := true}) only [kif_true, kif_false, kb, kup_eq, kup_f, kup_i, not_true_eq_false, not_false_eq_true, and_true, true_and, and_false, false_and, and_self, or_true, true_or, or_false, false_or, a_receive, t_receive, q_receive, kRcg, c_2, c_8, c_31]) dX3_receive_36
    · refine lv_astoreN (lv' := [(4, .null), (3, .ref (L (4 + (tn p)))), (0, .ref (L 0)), (1, .int p), (2, .int x)]) hC.1 hC.2.1 dX3_receive_11 hl (by decide) rfl (fun ls hl => ?_)
      refine lv_aload_n hC.1 hC.2.1 dX3_receive_13 rfl (lv_at hl 1 rfl) ?_
      refine lv_ifnull hC.1 hC.2.1 dX3_receive_14 ?_
      refine lv_aloadN hC.1 hC.2.1 dX3_receive_17 (lv_at hl 0 rfl) ?_
      refine lv_ifnonnullN hC.1 hC.2.1 dX3_receive_19 ?_
      refine lv_ldc hC.1 hC.2.1 hC.2.2.2.1 (hC.2.2.2.2 _ (kt_in tk_X3_51 rfl)) dX3_receive_22 ?_
      exact krI hC hr hlk hW (by simp (config := {decide := true}) only [kif_true, kif_false, kb, kup_eq, kup_f, kup_i, not_true_eq_false, not_false_eq_true, and_true, true_and, and_false, false_and, and_self, or_true, true_or, or_false, false_or, a_receive, t_receive, q_receive, kRcg, c_2, c_8]) (by simp (config := {decide := true}) only [kif_true, kif_false, kb, kup_eq, kup_f, kup_i, not_true_eq_false, not_false_eq_true, and_true, true_and, and_false, false_and, and_self, or_true, true_or, or_false, false_or, a_receive, t_receive, q_receive, kRcg, c_2, c_8]) rfl (by simp (config := {decide := true}) only [kif_true, kif_false, kb, kup_eq, kup_f, kup_i, not_true_eq_false, not_false_eq_true, and_true, true_and, and_false, false_and, and_self, or_true, true_or, or_false, false_or, a_receive, t_receive, q_receive, kRcg, c_2, c_8]) dX3_receive_24
  · refine lv_astore_nN (lv' := [(3, .null), (0, .ref (L 0)), (1, .int p), (2, .int x)]) hC.1 hC.2.1 dX3_receive_5 rfl hl (by decide) rfl (fun ls hl => ?_)
    refine lv_aload_n hC.1 hC.2.1 dX3_receive_6 rfl (lv_at hl 1 rfl) ?_
    refine lv_iload_n hC.1 hC.2.1 dX3_receive_7 rfl (lv_at hl 3 rfl) ?_
    refine keSq (rest := []) (kcV 0 hC hK hN hW (c_X3_endpointAt l D G L hL T N q x) (kgoodV tm_X3_120 ti_yX3_endpointAt te_yX3_endpointAt tz_X3 tc_yX3_endpointAt) kw_m rfl ⟨rfl, by decide, by decide, (show Option.map _ (parseMethodDescriptor yX3_endpointAt.desc) = some 1 from by decide +kernel)⟩ ⟨Nat.le_of_ble_eq_true rfl, Nat.le_of_ble_eq_true rfl⟩ hl.1 rfl (Nat.le_of_ble_eq_true rfl) ⟨Nat.le_refl _, Nat.le_refl _⟩ dX3_receive_8) ?_
    refine kopt (P := kEo T x) (fun c_8 => ?_) (fun c_8 => ?_)
    · refine lv_astore (lv' := [(4, .ref (L (28 + (tn x)))), (3, .null), (0, .ref (L 0)), (1, .int p), (2, .int x)]) hC.1 hC.2.1 dX3_receive_11 hl (by decide) rfl (fun ls hl => ?_)
      refine lv_aload_nN hC.1 hC.2.1 dX3_receive_13 rfl (lv_at hl 1 rfl) ?_
      refine lv_ifnullN (tgt := 22) hC.1 hC.2.1 dX3_receive_14 (by decide) ?_
      refine lv_ldc hC.1 hC.2.1 hC.2.2.2.1 (hC.2.2.2.2 _ (kt_in tk_X3_51 rfl)) dX3_receive_22 ?_
      exact krI hC hr hlk hW (by simp (config := {decide := true}) only [kif_true, kif_false, kb, kup_eq, kup_f, kup_i, not_true_eq_false, not_false_eq_true, and_true, true_and, and_false, false_and, and_self, or_true, true_or, or_false, false_or, a_receive, t_receive, q_receive, kRcg, c_2, c_8]) (by simp (config := {decide := true}) only [kif_true, kif_false, kb, kup_eq, kup_f, kup_i, not_true_eq_false, not_false_eq_true, and_true, true_and, and_false, false_and, and_self, or_true, true_or, or_false, false_or, a_receive, t_receive, q_receive, kRcg, c_2, c_8]) rfl (by simp (config := {decide := true}) only [kif_true, kif_false, kb, kup_eq, kup_f, kup_i, not_true_eq_false, not_false_eq_true, and_true, true_and, and_false, false_and, and_self, or_true, true_or, or_false, false_or, a_receive, t_receive, q_receive, kRcg, c_2, c_8]) dX3_receive_24
    · refine lv_astoreN (lv' := [(4, .null), (3, .null), (0, .ref (L 0)), (1, .int p), (2, .int x)]) hC.1 hC.2.1 dX3_receive_11 hl (by decide) rfl (fun ls hl => ?_)
      refine lv_aload_nN hC.1 hC.2.1 dX3_receive_13 rfl (lv_at hl 1 rfl) ?_
      refine lv_ifnullN (tgt := 22) hC.1 hC.2.1 dX3_receive_14 (by decide) ?_
      refine lv_ldc hC.1 hC.2.1 hC.2.2.2.1 (hC.2.2.2.2 _ (kt_in tk_X3_51 rfl)) dX3_receive_22 ?_
      exact krI hC hr hlk hW (by simp (config := {decide := true}) only [kif_true, kif_false, kb, kup_eq, kup_f, kup_i, not_true_eq_false, not_false_eq_true, and_true, true_and, and_false, false_and, and_self, or_true, true_or, or_false, false_or, a_receive, t_receive, q_receive, kRcg, c_2, c_8]) (by simp (config := {decide := true}) only [kif_true, kif_false, kb, kup_eq, kup_f, kup_i, not_true_eq_false, not_false_eq_true, and_true, true_and, and_false, false_and, and_self, or_true, true_or, or_false, false_or, a_receive, t_receive, q_receive, kRcg, c_2, c_8]) rfl (by simp (config := {decide := true}) only [kif_true, kif_false, kb, kup_eq, kup_f, kup_i, not_true_eq_false, not_false_eq_true, and_true, true_and, and_false, false_and, and_self, or_true, true_or, or_false, false_or, a_receive, t_receive, q_receive, kRcg, c_2, c_8]) dX3_receive_24
set_option maxHeartbeats 4000000 in
set_option maxRecDepth 100000 in
theorem c_X3_message (l : Launch) (D : va_G) (G : Nat → ClassId) (L : Nat → Nat) (hL : kL L) (T N : kT) (q : kQ) (p : Int32) (w : Int32) : kM l yX3_message cX3_message 4 (some .int) 1 21 (kPc D G L T N q [.ref (L 0), .int p, .int w]) (kSi (a_message T p w)) (fun _ => False) := by
  refine kBegin (by decide) (Nat.le_of_ble_eq_true rfl) ?_
  intro zp ze zs zm zargs zbelow zmeth zc hC hr hlk hB ls hl
  obtain ⟨hP, hK, hN⟩ := hB
  have hW : kWd D G L (kA L) zs.heap T N q zs.heap [] := kWd.start hL hP
  have hl : lv_has ls 4 [(0, .ref (L 0)), (1, .int p), (2, .int w)] := hl
  refine lv_aload_n hC.1 hC.2.1 dX3_message_0 rfl (lv_at hl 0 rfl) ?_
  refine lv_iload_n hC.1 hC.2.1 dX3_message_1 rfl (lv_at hl 1 rfl) ?_
  refine keSq (rest := []) (kcV 0 hC hK hN hW (c_X3_processAt l D G L hL T N q p) (kgoodV tm_X3_47 ti_yX3_processAt te_yX3_processAt tz_X3 tc_yX3_processAt) kw_m rfl ⟨rfl, by decide, by decide, (show Option.map _ (parseMethodDescriptor yX3_processAt.desc) = some 1 from by decide +kernel)⟩ ⟨Nat.le_of_ble_eq_true rfl, Nat.le_of_ble_eq_true rfl⟩ hl.1 rfl (Nat.le_of_ble_eq_true rfl) ⟨Nat.le_refl _, Nat.le_refl _⟩ dX3_message_2) ?_
  refine kopt (P := kP T p) (fun c_2 => ?_) (fun c_2 => ?_)
  · refine lv_astore_n (lv' := [(3, .ref (L (4 + (tn p)))), (0, .ref (L 0)), (1, .int p), (2, .int w)]) hC.1 hC.2.1 dX3_message_5 rfl hl (by decide) rfl (fun ls hl => ?_)
    refine lv_aload_n hC.1 hC.2.1 dX3_message_6 rfl (lv_at hl 0 rfl) ?_
    refine lv_ifnonnull (tgt := 13) hC.1 hC.2.1 dX3_message_7 (by decide) ?_
    refine lv_iload_n hC.1 hC.2.1 dX3_message_13 rfl (lv_at hl 3 rfl) ?_
    rcases ksw3 w with c_14 | c_14 | c_14 | c_14
    · refine lv_tableIn (tgt := 40) (off := 26) hC.1 hC.2.1 dX3_message_14 (by rw [c_14]; decide) (by rw [c_14]; decide) (by rw [c_14]; rfl) (by decide) ?_
      refine lv_aload_n hC.1 hC.2.1 dX3_message_40 rfl (lv_at hl 0 rfl) ?_
      refine kg2N hC hK hN hW (kP.lt c_2) 6 (v := .int (T 7 (tn p))) rfl (by decide) tf_X3_164 dX3_message_41 ?_
      exact krS hC hr hlk (by simp (config := {decide := true}) only [kif_true, kif_false, kb, kup_eq, kup_f, kup_i, not_true_eq_false, not_false_eq_true, and_true, true_and, and_false, false_and, and_self, or_true, true_or, or_false, false_or, a_message, c_2, c_14]) dX3_message_44
    · refine lv_tableIn (tgt := 45) (off := 31) hC.1 hC.2.1 dX3_message_14 (by rw [c_14]; decide) (by rw [c_14]; decide) (by rw [c_14]; rfl) (by decide) ?_
      refine lv_aload_n hC.1 hC.2.1 dX3_message_45 rfl (lv_at hl 0 rfl) ?_
      refine kg2N hC hK hN hW (kP.lt c_2) 7 (v := .int (T 8 (tn p))) rfl (by decide) tf_X3_167 dX3_message_46 ?_
      exact krS hC hr hlk (by simp (config := {decide := true}) only [kif_true, kif_false, kb, kup_eq, kup_f, kup_i, not_true_eq_false, not_false_eq_true, and_true, true_and, and_false, false_and, and_self, or_true, true_or, or_false, false_or, a_message, c_2, c_14]) dX3_message_49
    · refine lv_tableIn (tgt := 50) (off := 36) hC.1 hC.2.1 dX3_message_14 (by rw [c_14]; decide) (by rw [c_14]; decide) (by rw [c_14]; rfl) (by decide) ?_
      refine lv_aload_n hC.1 hC.2.1 dX3_message_50 rfl (lv_at hl 0 rfl) ?_
      refine kg2N hC hK hN hW (kP.lt c_2) 8 (v := .int (T 9 (tn p))) rfl (by decide) tf_X3_170 dX3_message_51 ?_
      exact krS hC hr hlk (by simp (config := {decide := true}) only [kif_true, kif_false, kb, kup_eq, kup_f, kup_i, not_true_eq_false, not_false_eq_true, and_true, true_and, and_false, false_and, and_self, or_true, true_or, or_false, false_or, a_message, c_2, c_14]) dX3_message_54
    · refine lv_tableOut (tgt := 55) hC.1 hC.2.1 dX3_message_14 c_14.1 (by decide) ?_
      refine lv_ldc hC.1 hC.2.1 hC.2.2.2.1 (hC.2.2.2.2 _ (kt_in tk_X3_52 rfl)) dX3_message_55 ?_
      exact krS hC hr hlk (by simp (config := {decide := true}) only [kif_true, kif_false, kb, kup_eq, kup_f, kup_i, not_true_eq_false, not_false_eq_true, and_true, true_and, and_false, false_and, and_self, or_true, true_or, or_false, false_or, a_message, c_2, c_14.2.1, c_14.2.2.1, c_14.2.2.2]) dX3_message_57
  · refine lv_astore_nN (lv' := [(3, .null), (0, .ref (L 0)), (1, .int p), (2, .int w)]) hC.1 hC.2.1 dX3_message_5 rfl hl (by decide) rfl (fun ls hl => ?_)
    refine lv_aload_nN hC.1 hC.2.1 dX3_message_6 rfl (lv_at hl 0 rfl) ?_
    refine lv_ifnonnullN hC.1 hC.2.1 dX3_message_7 ?_
    refine lv_ldc hC.1 hC.2.1 hC.2.2.2.1 (hC.2.2.2.2 _ (kt_in tk_X3_51 rfl)) dX3_message_10 ?_
    exact krS hC hr hlk (by simp (config := {decide := true}) only [kif_true, kif_false, kb, kup_eq, kup_f, kup_i, not_true_eq_false, not_false_eq_true, and_true, true_and, and_false, false_and, and_self, or_true, true_or, or_false, false_or, a_message, c_2]) dX3_message_12
set_option maxHeartbeats 4000000 in
set_option maxRecDepth 100000 in
theorem c_X3_crash (l : Launch) (D : va_G) (G : Nat → ClassId) (L : Nat → Nat) (hL : kL L) (T N : kT) (q : kQ) (n : Int32) : kM l yX3_crash cX3_crash 2 (some .int) 0 0 (kPc D G L T N q [.ref (L 0), .int n]) (kQi D G L (a_crash n) (t_crash T n) N q) (kA L) := by
  refine kBegin (by decide) (Nat.le_of_ble_eq_true rfl) ?_
  intro zp ze zs zm zargs zbelow zmeth zc hC hr hlk hB ls hl
  obtain ⟨hP, hK, hN⟩ := hB
  have hW : kWd D G L (kA L) zs.heap T N q zs.heap [] := kWd.start hL hP
  have hl : lv_has ls 2 [(0, .ref (L 0)), (1, .int n)] := hl
  refine lv_iload_n hC.1 hC.2.1 dX3_crash_0 rfl (lv_at hl 1 rfl) ?_
  refine lv_iconst (v := (-1)) hC.1 hC.2.1 dX3_crash_1 (by decide) ?_
  refine lv_icmp_lt (tgt := 11) hC.1 hC.2.1 dX3_crash_2 (by decide) (fun c_2 => ?_) (fun c_2 => ?_)
  · refine lv_ldc hC.1 hC.2.1 hC.2.2.2.1 (hC.2.2.2.2 _ (kt_in tk_X3_52 rfl)) dX3_crash_11 ?_
    exact krI hC hr hlk hW (by simp (config := {decide := true}) only [kif_true, kif_false, kb, kup_eq, kup_f, kup_i, not_true_eq_false, not_false_eq_true, and_true, true_and, and_false, false_and, and_self, or_true, true_or, or_false, false_or, a_crash, t_crash, kCr, c_2]) (by simp (config := {decide := true}) only [kif_true, kif_false, kb, kup_eq, kup_f, kup_i, not_true_eq_false, not_false_eq_true, and_true, true_and, and_false, false_and, and_self, or_true, true_or, or_false, false_or, a_crash, t_crash, kCr, c_2]) rfl rfl dX3_crash_13
  · refine lv_iload_n hC.1 hC.2.1 dX3_crash_5 rfl (lv_at hl 1 rfl) ?_
    refine lv_bipush (v := 100) hC.1 hC.2.1 dX3_crash_6 (by decide) ?_
    refine lv_icmp_le (tgt := 14) hC.1 hC.2.1 dX3_crash_8 (by decide) (fun c_8 => ?_) (fun c_8 => ?_)
    · refine lv_aload_n hC.1 hC.2.1 dX3_crash_14 rfl (lv_at hl 0 rfl) ?_
      refine lv_iload_n hC.1 hC.2.1 dX3_crash_15 rfl (lv_at hl 1 rfl) ?_
      refine kp3 hC hK hW 11 (by decide) (by decide) tf_X3_44 dX3_crash_16 (fun H locs (hW : kWd D G L (kA L) zs.heap (kup T 0 8 n) N q H locs) => ?_)
      refine lv_iconst (v := 1) hC.1 hC.2.1 dX3_crash_19 (by decide) ?_
      exact krI hC hr hlk hW (by simp (config := {decide := true}) only [kif_true, kif_false, kb, kup_eq, kup_f, kup_i, not_true_eq_false, not_false_eq_true, and_true, true_and, and_false, false_and, and_self, or_true, true_or, or_false, false_or, a_crash, t_crash, kCr, c_2, c_8]) (by simp (config := {decide := true}) only [kif_true, kif_false, kb, kup_eq, kup_f, kup_i, not_true_eq_false, not_false_eq_true, and_true, true_and, and_false, false_and, and_self, or_true, true_or, or_false, false_or, a_crash, t_crash, kCr, c_2, c_8]) rfl rfl dX3_crash_20
    · refine lv_ldc hC.1 hC.2.1 hC.2.2.2.1 (hC.2.2.2.2 _ (kt_in tk_X3_52 rfl)) dX3_crash_11 ?_
      exact krI hC hr hlk hW (by simp (config := {decide := true}) only [kif_true, kif_false, kb, kup_eq, kup_f, kup_i, not_true_eq_false, not_false_eq_true, and_true, true_and, and_false, false_and, and_self, or_true, true_or, or_false, false_or, a_crash, t_crash, kCr, c_2, c_8]) (by simp (config := {decide := true}) only [kif_true, kif_false, kb, kup_eq, kup_f, kup_i, not_true_eq_false, not_false_eq_true, and_true, true_and, and_false, false_and, and_self, or_true, true_or, or_false, false_or, a_crash, t_crash, kCr, c_2, c_8]) rfl rfl dX3_crash_13
set_option maxHeartbeats 4000000 in
set_option maxRecDepth 100000 in
theorem c_X3_count (l : Launch) (D : va_G) (G : Nat → ClassId) (L : Nat → Nat) (hL : kL L) (T N : kT) (q : kQ) (w : Int32) : kM l yX3_count cX3_count 2 (some .int) 1 22 (kPc D G L T N q [.ref (L 0), .int w]) (kSi (a_count T w)) (fun _ => False) := by
  refine kBegin (by decide) (Nat.le_of_ble_eq_true rfl) ?_
  intro zp ze zs zm zargs zbelow zmeth zc hC hr hlk hB ls hl
  obtain ⟨hP, hK, hN⟩ := hB
  have hW : kWd D G L (kA L) zs.heap T N q zs.heap [] := kWd.start hL hP
  have hl : lv_has ls 2 [(0, .ref (L 0)), (1, .int w)] := hl
  refine lv_iload_n hC.1 hC.2.1 dX3_count_0 rfl (lv_at hl 1 rfl) ?_
  rcases ksw7 w with c_1 | c_1 | c_1 | c_1 | c_1 | c_1 | c_1 | c_1
  · refine lv_tableIn (tgt := 44) (off := 43) hC.1 hC.2.1 dX3_count_1 (by rw [c_1]; decide) (by rw [c_1]; decide) (by rw [c_1]; rfl) (by decide) ?_
    refine lv_aload_n hC.1 hC.2.1 dX3_count_44 rfl (lv_at hl 0 rfl) ?_
    refine kg3 hC hK hW 3 (v := .int (T 0 0)) rfl (by decide) tf_X3_53 dX3_count_45 ?_
    exact krS hC hr hlk (by simp (config := {decide := true}) only [kif_true, kif_false, kb, kup_eq, kup_f, kup_i, not_true_eq_false, not_false_eq_true, and_true, true_and, and_false, false_and, and_self, or_true, true_or, or_false, false_or, a_count, c_1]) dX3_count_48
  · refine lv_tableIn (tgt := 49) (off := 48) hC.1 hC.2.1 dX3_count_1 (by rw [c_1]; decide) (by rw [c_1]; decide) (by rw [c_1]; rfl) (by decide) ?_
    refine lv_aload_n hC.1 hC.2.1 dX3_count_49 rfl (lv_at hl 0 rfl) ?_
    refine keSi (rest := []) (kcV 0 hC hK hN hW (c_X3_livingProcesses l D G L hL T N q ) (kgoodV tm_X3_237 ti_yX3_livingProcesses te_yX3_livingProcesses tz_X3 tc_yX3_livingProcesses) kw_m rfl ⟨rfl, by decide, by decide, (show Option.map _ (parseMethodDescriptor yX3_livingProcesses.desc) = some 0 from by decide +kernel)⟩ ⟨Nat.le_of_ble_eq_true rfl, Nat.le_of_ble_eq_true rfl⟩ hl.1 rfl (Nat.le_of_ble_eq_true rfl) ⟨Nat.le_refl _, Nat.le_refl _⟩ dX3_count_50) ?_
    exact krS hC hr hlk (by simp (config := {decide := true}) only [kif_true, kif_false, kb, kup_eq, kup_f, kup_i, not_true_eq_false, not_false_eq_true, and_true, true_and, and_false, false_and, and_self, or_true, true_or, or_false, false_or, a_count, c_1]) dX3_count_53
  · refine lv_tableIn (tgt := 54) (off := 53) hC.1 hC.2.1 dX3_count_1 (by rw [c_1]; decide) (by rw [c_1]; decide) (by rw [c_1]; rfl) (by decide) ?_
    refine lv_aload_n hC.1 hC.2.1 dX3_count_54 rfl (lv_at hl 0 rfl) ?_
    refine keSi (rest := []) (kcV 0 hC hK hN hW (c_X3_openEndpoints l D G L hL T N q ) (kgoodV tm_X3_241 ti_yX3_openEndpoints te_yX3_openEndpoints tz_X3 tc_yX3_openEndpoints) kw_m rfl ⟨rfl, by decide, by decide, (show Option.map _ (parseMethodDescriptor yX3_openEndpoints.desc) = some 0 from by decide +kernel)⟩ ⟨Nat.le_of_ble_eq_true rfl, Nat.le_of_ble_eq_true rfl⟩ hl.1 rfl (Nat.le_of_ble_eq_true rfl) ⟨Nat.le_refl _, Nat.le_refl _⟩ dX3_count_55) ?_
    exact krS hC hr hlk (by simp (config := {decide := true}) only [kif_true, kif_false, kb, kup_eq, kup_f, kup_i, not_true_eq_false, not_false_eq_true, and_true, true_and, and_false, false_and, and_self, or_true, true_or, or_false, false_or, a_count, c_1]) dX3_count_58
  · refine lv_tableIn (tgt := 59) (off := 58) hC.1 hC.2.1 dX3_count_1 (by rw [c_1]; decide) (by rw [c_1]; decide) (by rw [c_1]; rfl) (by decide) ?_
    refine lv_aload_n hC.1 hC.2.1 dX3_count_59 rfl (lv_at hl 0 rfl) ?_
    refine keSi (rest := []) (kcV 0 hC hK hN hW (c_X3_objectsThere l D G L hL T N q ) (kgoodV tm_X3_244 ti_yX3_objectsThere te_yX3_objectsThere tz_X3 tc_yX3_objectsThere) kw_m rfl ⟨rfl, by decide, by decide, (show Option.map _ (parseMethodDescriptor yX3_objectsThere.desc) = some 0 from by decide +kernel)⟩ ⟨Nat.le_of_ble_eq_true rfl, Nat.le_of_ble_eq_true rfl⟩ hl.1 rfl (Nat.le_of_ble_eq_true rfl) ⟨Nat.le_refl _, Nat.le_refl _⟩ dX3_count_60) ?_
    exact krS hC hr hlk (by simp (config := {decide := true}) only [kif_true, kif_false, kb, kup_eq, kup_f, kup_i, not_true_eq_false, not_false_eq_true, and_true, true_and, and_false, false_and, and_self, or_true, true_or, or_false, false_or, a_count, c_1]) dX3_count_63
  · refine lv_tableIn (tgt := 64) (off := 63) hC.1 hC.2.1 dX3_count_1 (by rw [c_1]; decide) (by rw [c_1]; decide) (by rw [c_1]; rfl) (by decide) ?_
    refine lv_aload_n hC.1 hC.2.1 dX3_count_64 rfl (lv_at hl 0 rfl) ?_
    refine kg3 hC hK hW 10 (v := .int (T 0 7)) rfl (by decide) tf_X3_247 dX3_count_65 ?_
    exact krS hC hr hlk (by simp (config := {decide := true}) only [kif_true, kif_false, kb, kup_eq, kup_f, kup_i, not_true_eq_false, not_false_eq_true, and_true, true_and, and_false, false_and, and_self, or_true, true_or, or_false, false_or, a_count, c_1]) dX3_count_68
  · refine lv_tableIn (tgt := 69) (off := 68) hC.1 hC.2.1 dX3_count_1 (by rw [c_1]; decide) (by rw [c_1]; decide) (by rw [c_1]; rfl) (by decide) ?_
    refine lv_aload_n hC.1 hC.2.1 dX3_count_69 rfl (lv_at hl 0 rfl) ?_
    refine kg3 hC hK hW 12 (v := .int (T 0 9)) rfl (by decide) tf_X3_250 dX3_count_70 ?_
    exact krS hC hr hlk (by simp (config := {decide := true}) only [kif_true, kif_false, kb, kup_eq, kup_f, kup_i, not_true_eq_false, not_false_eq_true, and_true, true_and, and_false, false_and, and_self, or_true, true_or, or_false, false_or, a_count, c_1]) dX3_count_73
  · refine lv_tableIn (tgt := 74) (off := 73) hC.1 hC.2.1 dX3_count_1 (by rw [c_1]; decide) (by rw [c_1]; decide) (by rw [c_1]; rfl) (by decide) ?_
    refine lv_aload_n hC.1 hC.2.1 dX3_count_74 rfl (lv_at hl 0 rfl) ?_
    refine kg3 hC hK hW 9 (v := .int (T 0 6)) rfl (by decide) tf_X3_145 dX3_count_75 ?_
    exact krS hC hr hlk (by simp (config := {decide := true}) only [kif_true, kif_false, kb, kup_eq, kup_f, kup_i, not_true_eq_false, not_false_eq_true, and_true, true_and, and_false, false_and, and_self, or_true, true_or, or_false, false_or, a_count, c_1]) dX3_count_78
  · refine lv_tableOut (tgt := 79) hC.1 hC.2.1 dX3_count_1 c_1.1 (by decide) ?_
    refine lv_ldc hC.1 hC.2.1 hC.2.2.2.1 (hC.2.2.2.2 _ (kt_in tk_X3_52 rfl)) dX3_count_79 ?_
    exact krS hC hr hlk (by simp (config := {decide := true}) only [kif_true, kif_false, kb, kup_eq, kup_f, kup_i, not_true_eq_false, not_false_eq_true, and_true, true_and, and_false, false_and, and_self, or_true, true_or, or_false, false_or, a_count, c_1.2.1, c_1.2.2.1, c_1.2.2.2.1, c_1.2.2.2.2.1, c_1.2.2.2.2.2.1, c_1.2.2.2.2.2.2.1, c_1.2.2.2.2.2.2.2]) dX3_count_81
set_option maxHeartbeats 4000000 in
set_option maxRecDepth 100000 in
theorem c_X3_container (l : Launch) (D : va_G) (G : Nat → ClassId) (L : Nat → Nat) (hL : kL L) (T N : kT) (q : kQ) (p : Int32) (c : Int32) (s : Int32) (t : Int32) (b : Int32) (n : Int32) (hno : ¬ T 0 3 < 0) : kM l yX3_container cX3_container 10 (some .int) 4 94 (kPc D G L T N q [.ref (L 0), .int p, .int c, .int s, .int t, .int b, .int n]) (kQi D G L (a_container T p c s t b n) (t_container T p c s t b n) N q) (kA L) := by
  refine kBegin (by decide) (Nat.le_of_ble_eq_true rfl) ?_
  intro zp ze zs zm zargs zbelow zmeth zc hC hr hlk hB ls hl
  obtain ⟨hP, hK, hN⟩ := hB
  have hW : kWd D G L (kA L) zs.heap T N q zs.heap [] := kWd.start hL hP
  have hl : lv_has ls 10 [(0, .ref (L 0)), (1, .int p), (2, .int c), (3, .int s), (4, .int t), (5, .int b), (6, .int n)] := hl
  refine lv_aload_n hC.1 hC.2.1 dX3_container_0 rfl (lv_at hl 0 rfl) ?_
  refine lv_iload_n hC.1 hC.2.1 dX3_container_1 rfl (lv_at hl 1 rfl) ?_
  refine keSq (rest := []) (kcV 0 hC hK hN hW (c_X3_processAt l D G L hL T N q p) (kgoodV tm_X3_47 ti_yX3_processAt te_yX3_processAt tz_X3 tc_yX3_processAt) kw_m rfl ⟨rfl, by decide, by decide, (show Option.map _ (parseMethodDescriptor yX3_processAt.desc) = some 1 from by decide +kernel)⟩ ⟨Nat.le_of_ble_eq_true rfl, Nat.le_of_ble_eq_true rfl⟩ hl.1 rfl (Nat.le_of_ble_eq_true rfl) ⟨Nat.le_refl _, Nat.le_refl _⟩ dX3_container_2) ?_
  refine kopt (P := kP T p) (fun c_2 => ?_) (fun c_2 => ?_)
  · refine lv_astore (lv' := [(7, .ref (L (4 + (tn p)))), (0, .ref (L 0)), (1, .int p), (2, .int c), (3, .int s), (4, .int t), (5, .int b), (6, .int n)]) hC.1 hC.2.1 dX3_container_5 hl (by decide) rfl (fun ls hl => ?_)
    refine lv_aload_n hC.1 hC.2.1 dX3_container_7 rfl (lv_at hl 1 rfl) ?_
    refine lv_iload_n hC.1 hC.2.1 dX3_container_8 rfl (lv_at hl 3 rfl) ?_
    refine keSq (rest := []) (kcV 0 hC hK hN hW (c_X3_containerAt l D G L hL T N q c) (kgoodV tm_X3_173 ti_yX3_containerAt te_yX3_containerAt tz_X3 tc_yX3_containerAt) kw_m rfl ⟨rfl, by decide, by decide, (show Option.map _ (parseMethodDescriptor yX3_containerAt.desc) = some 1 from by decide +kernel)⟩ ⟨Nat.le_of_ble_eq_true rfl, Nat.le_of_ble_eq_true rfl⟩ hl.1 rfl (Nat.le_of_ble_eq_true rfl) ⟨Nat.le_refl _, Nat.le_refl _⟩ dX3_container_9) ?_
    refine kopt (P := kCn T c) (fun c_9 => ?_) (fun c_9 => ?_)
    · refine lv_astore (lv' := [(8, .ref (L (188 + (tn c)))), (7, .ref (L (4 + (tn p)))), (0, .ref (L 0)), (1, .int p), (2, .int c), (3, .int s), (4, .int t), (5, .int b), (6, .int n)]) hC.1 hC.2.1 dX3_container_12 hl (by decide) rfl (fun ls hl => ?_)
      refine lv_aload hC.1 hC.2.1 dX3_container_14 (lv_at hl 1 rfl) ?_
      refine lv_ifnull hC.1 hC.2.1 dX3_container_16 ?_
      refine lv_aload hC.1 hC.2.1 dX3_container_19 (lv_at hl 0 rfl) ?_
      refine lv_ifnonnull (tgt := 27) hC.1 hC.2.1 dX3_container_21 (by decide) ?_
      refine lv_iload hC.1 hC.2.1 dX3_container_27 (lv_at hl 7 rfl) ?_
      refine lv_if_lt (tgt := 56) hC.1 hC.2.1 dX3_container_29 (by decide) (fun c_29 => ?_) (fun c_29 => ?_)
      · refine lv_iconst (v := 0) hC.1 hC.2.1 dX3_container_56 (by decide) ?_
        refine lv_istore (lv' := [(9, .int 0), (8, .ref (L (188 + (tn c)))), (7, .ref (L (4 + (tn p)))), (0, .ref (L 0)), (1, .int p), (2, .int c), (3, .int s), (4, .int t), (5, .int b), (6, .int n)]) hC.1 hC.2.1 dX3_container_57 hl (by decide) rfl (fun ls hl => ?_)
        refine lv_aload_n hC.1 hC.2.1 dX3_container_59 rfl (lv_at hl 3 rfl) ?_
        refine lv_iload_n hC.1 hC.2.1 dX3_container_60 rfl (lv_at hl 6 rfl) ?_
        refine keSi (rest := []) (kcV 0 hC hK hN hW (c_X3_isSet l D G L hL T N q s) (kgoodV tm_X3_86 ti_yX3_isSet te_yX3_isSet tz_X3 tc_yX3_isSet) kw_m rfl ⟨rfl, by decide, by decide, (show Option.map _ (parseMethodDescriptor yX3_isSet.desc) = some 1 from by decide +kernel)⟩ ⟨Nat.le_of_ble_eq_true rfl, Nat.le_of_ble_eq_true rfl⟩ hl.1 rfl (Nat.le_of_ble_eq_true rfl) ⟨Nat.le_refl _, Nat.le_refl _⟩ dX3_container_61) ?_
        refine kif_eq (tgt := 81) hC.1 hC.2.1 dX3_container_64 (by decide) (fun c_64 => ?_) (fun c_64 => ?_)
        · refine lv_ldc hC.1 hC.2.1 hC.2.2.2.1 (hC.2.2.2.2 _ (kt_in tk_X3_52 rfl)) dX3_container_81 ?_
          exact krI hC hr hlk hW (by simp (config := {decide := true}) only [kif_true, kif_false, kb, kup_eq, kup_f, kup_i, not_true_eq_false, not_false_eq_true, and_true, true_and, and_false, false_and, and_self, or_true, true_or, or_false, false_or, a_container, t_container, kBd, kCnl, kMka, kMkt, c_2, c_9, c_29, c_64]) (by simp (config := {decide := true}) only [kif_true, kif_false, kb, kup_eq, kup_f, kup_i, not_true_eq_false, not_false_eq_true, and_true, true_and, and_false, false_and, and_self, or_true, true_or, or_false, false_or, a_container, t_container, kBd, kCnl, kMka, kMkt, c_2, c_9, c_29, c_64]) rfl rfl dX3_container_83
        · refine lv_aload_n hC.1 hC.2.1 dX3_container_67 rfl (lv_at hl 3 rfl) ?_
          refine lv_iload hC.1 hC.2.1 dX3_container_68 (lv_at hl 7 rfl) ?_
          refine keSi (rest := []) (kcV 0 hC hK hN hW (c_X3_isSet l D G L hL T N q t) (kgoodV tm_X3_86 ti_yX3_isSet te_yX3_isSet tz_X3 tc_yX3_isSet) kw_m rfl ⟨rfl, by decide, by decide, (show Option.map _ (parseMethodDescriptor yX3_isSet.desc) = some 1 from by decide +kernel)⟩ ⟨Nat.le_of_ble_eq_true rfl, Nat.le_of_ble_eq_true rfl⟩ hl.1 rfl (Nat.le_of_ble_eq_true rfl) ⟨Nat.le_refl _, Nat.le_refl _⟩ dX3_container_70) ?_
          refine kif_eq (tgt := 81) hC.1 hC.2.1 dX3_container_73 (by decide) (fun c_73 => ?_) (fun c_73 => ?_)
          · refine lv_ldc hC.1 hC.2.1 hC.2.2.2.1 (hC.2.2.2.2 _ (kt_in tk_X3_52 rfl)) dX3_container_81 ?_
            exact krI hC hr hlk hW (by simp (config := {decide := true}) only [kif_true, kif_false, kb, kup_eq, kup_f, kup_i, not_true_eq_false, not_false_eq_true, and_true, true_and, and_false, false_and, and_self, or_true, true_or, or_false, false_or, a_container, t_container, kBd, kCnl, kMka, kMkt, c_2, c_9, c_29, c_64, c_73]) (by simp (config := {decide := true}) only [kif_true, kif_false, kb, kup_eq, kup_f, kup_i, not_true_eq_false, not_false_eq_true, and_true, true_and, and_false, false_and, and_self, or_true, true_or, or_false, false_or, a_container, t_container, kBd, kCnl, kMka, kMkt, c_2, c_9, c_29, c_64, c_73]) rfl rfl dX3_container_83
          · refine lv_iload hC.1 hC.2.1 dX3_container_76 (lv_at hl 0 rfl) ?_
            refine lv_if_ne (tgt := 84) hC.1 hC.2.1 dX3_container_78 (by decide) (fun c_78 => ?_) (fun c_78 => ?_)
            · exact absurd (by decide) c_78
            · refine lv_ldc hC.1 hC.2.1 hC.2.2.2.1 (hC.2.2.2.2 _ (kt_in tk_X3_52 rfl)) dX3_container_81 ?_
              exact krI hC hr hlk hW (by simp (config := {decide := true}) only [kif_true, kif_false, kb, kup_eq, kup_f, kup_i, not_true_eq_false, not_false_eq_true, and_true, true_and, and_false, false_and, and_self, or_true, true_or, or_false, false_or, a_container, t_container, kBd, kCnl, kMka, kMkt, c_2, c_9, c_29, c_64, c_73, c_78]) (by simp (config := {decide := true}) only [kif_true, kif_false, kb, kup_eq, kup_f, kup_i, not_true_eq_false, not_false_eq_true, and_true, true_and, and_false, false_and, and_self, or_true, true_or, or_false, false_or, a_container, t_container, kBd, kCnl, kMka, kMkt, c_2, c_9, c_29, c_64, c_73, c_78]) rfl rfl dX3_container_83
      · refine lv_iload hC.1 hC.2.1 dX3_container_32 (lv_at hl 7 rfl) ?_
        refine lv_sipush (v := 200) hC.1 hC.2.1 dX3_container_34 (by decide) ?_
        refine lv_icmp_gt (tgt := 56) hC.1 hC.2.1 dX3_container_37 (by decide) (fun c_37 => ?_) (fun c_37 => ?_)
        · refine lv_iconst (v := 0) hC.1 hC.2.1 dX3_container_56 (by decide) ?_
          refine lv_istore (lv' := [(9, .int 0), (8, .ref (L (188 + (tn c)))), (7, .ref (L (4 + (tn p)))), (0, .ref (L 0)), (1, .int p), (2, .int c), (3, .int s), (4, .int t), (5, .int b), (6, .int n)]) hC.1 hC.2.1 dX3_container_57 hl (by decide) rfl (fun ls hl => ?_)
          refine lv_aload_n hC.1 hC.2.1 dX3_container_59 rfl (lv_at hl 3 rfl) ?_
          refine lv_iload_n hC.1 hC.2.1 dX3_container_60 rfl (lv_at hl 6 rfl) ?_
          refine keSi (rest := []) (kcV 0 hC hK hN hW (c_X3_isSet l D G L hL T N q s) (kgoodV tm_X3_86 ti_yX3_isSet te_yX3_isSet tz_X3 tc_yX3_isSet) kw_m rfl ⟨rfl, by decide, by decide, (show Option.map _ (parseMethodDescriptor yX3_isSet.desc) = some 1 from by decide +kernel)⟩ ⟨Nat.le_of_ble_eq_true rfl, Nat.le_of_ble_eq_true rfl⟩ hl.1 rfl (Nat.le_of_ble_eq_true rfl) ⟨Nat.le_refl _, Nat.le_refl _⟩ dX3_container_61) ?_
          refine kif_eq (tgt := 81) hC.1 hC.2.1 dX3_container_64 (by decide) (fun c_64 => ?_) (fun c_64 => ?_)
          · refine lv_ldc hC.1 hC.2.1 hC.2.2.2.1 (hC.2.2.2.2 _ (kt_in tk_X3_52 rfl)) dX3_container_81 ?_
            exact krI hC hr hlk hW (by simp (config := {decide := true}) only [kif_true, kif_false, kb, kup_eq, kup_f, kup_i, not_true_eq_false, not_false_eq_true, and_true, true_and, and_false, false_and, and_self, or_true, true_or, or_false, false_or, a_container, t_container, kBd, kCnl, kMka, kMkt, c_2, c_9, c_29, c_37, c_64]) (by simp (config := {decide := true}) only [kif_true, kif_false, kb, kup_eq, kup_f, kup_i, not_true_eq_false, not_false_eq_true, and_true, true_and, and_false, false_and, and_self, or_true, true_or, or_false, false_or, a_container, t_container, kBd, kCnl, kMka, kMkt, c_2, c_9, c_29, c_37, c_64]) rfl rfl dX3_container_83
          · refine lv_aload_n hC.1 hC.2.1 dX3_container_67 rfl (lv_at hl 3 rfl) ?_
            refine lv_iload hC.1 hC.2.1 dX3_container_68 (lv_at hl 7 rfl) ?_
            refine keSi (rest := []) (kcV 0 hC hK hN hW (c_X3_isSet l D G L hL T N q t) (kgoodV tm_X3_86 ti_yX3_isSet te_yX3_isSet tz_X3 tc_yX3_isSet) kw_m rfl ⟨rfl, by decide, by decide, (show Option.map _ (parseMethodDescriptor yX3_isSet.desc) = some 1 from by decide +kernel)⟩ ⟨Nat.le_of_ble_eq_true rfl, Nat.le_of_ble_eq_true rfl⟩ hl.1 rfl (Nat.le_of_ble_eq_true rfl) ⟨Nat.le_refl _, Nat.le_refl _⟩ dX3_container_70) ?_
            refine kif_eq (tgt := 81) hC.1 hC.2.1 dX3_container_73 (by decide) (fun c_73 => ?_) (fun c_73 => ?_)
            · refine lv_ldc hC.1 hC.2.1 hC.2.2.2.1 (hC.2.2.2.2 _ (kt_in tk_X3_52 rfl)) dX3_container_81 ?_
              exact krI hC hr hlk hW (by simp (config := {decide := true}) only [kif_true, kif_false, kb, kup_eq, kup_f, kup_i, not_true_eq_false, not_false_eq_true, and_true, true_and, and_false, false_and, and_self, or_true, true_or, or_false, false_or, a_container, t_container, kBd, kCnl, kMka, kMkt, c_2, c_9, c_29, c_37, c_64, c_73]) (by simp (config := {decide := true}) only [kif_true, kif_false, kb, kup_eq, kup_f, kup_i, not_true_eq_false, not_false_eq_true, and_true, true_and, and_false, false_and, and_self, or_true, true_or, or_false, false_or, a_container, t_container, kBd, kCnl, kMka, kMkt, c_2, c_9, c_29, c_37, c_64, c_73]) rfl rfl dX3_container_83
            · refine lv_iload hC.1 hC.2.1 dX3_container_76 (lv_at hl 0 rfl) ?_
              refine lv_if_ne (tgt := 84) hC.1 hC.2.1 dX3_container_78 (by decide) (fun c_78 => ?_) (fun c_78 => ?_)
              · exact absurd (by decide) c_78
              · refine lv_ldc hC.1 hC.2.1 hC.2.2.2.1 (hC.2.2.2.2 _ (kt_in tk_X3_52 rfl)) dX3_container_81 ?_
                exact krI hC hr hlk hW (by simp (config := {decide := true}) only [kif_true, kif_false, kb, kup_eq, kup_f, kup_i, not_true_eq_false, not_false_eq_true, and_true, true_and, and_false, false_and, and_self, or_true, true_or, or_false, false_or, a_container, t_container, kBd, kCnl, kMka, kMkt, c_2, c_9, c_29, c_37, c_64, c_73, c_78]) (by simp (config := {decide := true}) only [kif_true, kif_false, kb, kup_eq, kup_f, kup_i, not_true_eq_false, not_false_eq_true, and_true, true_and, and_false, false_and, and_self, or_true, true_or, or_false, false_or, a_container, t_container, kBd, kCnl, kMka, kMkt, c_2, c_9, c_29, c_37, c_64, c_73, c_78]) rfl rfl dX3_container_83
        · refine lv_iload hC.1 hC.2.1 dX3_container_40 (lv_at hl 8 rfl) ?_
          refine lv_if_lt (tgt := 56) hC.1 hC.2.1 dX3_container_42 (by decide) (fun c_42 => ?_) (fun c_42 => ?_)
          · refine lv_iconst (v := 0) hC.1 hC.2.1 dX3_container_56 (by decide) ?_
            refine lv_istore (lv' := [(9, .int 0), (8, .ref (L (188 + (tn c)))), (7, .ref (L (4 + (tn p)))), (0, .ref (L 0)), (1, .int p), (2, .int c), (3, .int s), (4, .int t), (5, .int b), (6, .int n)]) hC.1 hC.2.1 dX3_container_57 hl (by decide) rfl (fun ls hl => ?_)
            refine lv_aload_n hC.1 hC.2.1 dX3_container_59 rfl (lv_at hl 3 rfl) ?_
            refine lv_iload_n hC.1 hC.2.1 dX3_container_60 rfl (lv_at hl 6 rfl) ?_
            refine keSi (rest := []) (kcV 0 hC hK hN hW (c_X3_isSet l D G L hL T N q s) (kgoodV tm_X3_86 ti_yX3_isSet te_yX3_isSet tz_X3 tc_yX3_isSet) kw_m rfl ⟨rfl, by decide, by decide, (show Option.map _ (parseMethodDescriptor yX3_isSet.desc) = some 1 from by decide +kernel)⟩ ⟨Nat.le_of_ble_eq_true rfl, Nat.le_of_ble_eq_true rfl⟩ hl.1 rfl (Nat.le_of_ble_eq_true rfl) ⟨Nat.le_refl _, Nat.le_refl _⟩ dX3_container_61) ?_
            refine kif_eq (tgt := 81) hC.1 hC.2.1 dX3_container_64 (by decide) (fun c_64 => ?_) (fun c_64 => ?_)
            · refine lv_ldc hC.1 hC.2.1 hC.2.2.2.1 (hC.2.2.2.2 _ (kt_in tk_X3_52 rfl)) dX3_container_81 ?_
              exact krI hC hr hlk hW (by simp (config := {decide := true}) only [kif_true, kif_false, kb, kup_eq, kup_f, kup_i, not_true_eq_false, not_false_eq_true, and_true, true_and, and_false, false_and, and_self, or_true, true_or, or_false, false_or, a_container, t_container, kBd, kCnl, kMka, kMkt, c_2, c_9, c_29, c_37, c_42, c_64]) (by simp (config := {decide := true}) only [kif_true, kif_false, kb, kup_eq, kup_f, kup_i, not_true_eq_false, not_false_eq_true, and_true, true_and, and_false, false_and, and_self, or_true, true_or, or_false, false_or, a_container, t_container, kBd, kCnl, kMka, kMkt, c_2, c_9, c_29, c_37, c_42, c_64]) rfl rfl dX3_container_83
            · refine lv_aload_n hC.1 hC.2.1 dX3_container_67 rfl (lv_at hl 3 rfl) ?_
              refine lv_iload hC.1 hC.2.1 dX3_container_68 (lv_at hl 7 rfl) ?_
              refine keSi (rest := []) (kcV 0 hC hK hN hW (c_X3_isSet l D G L hL T N q t) (kgoodV tm_X3_86 ti_yX3_isSet te_yX3_isSet tz_X3 tc_yX3_isSet) kw_m rfl ⟨rfl, by decide, by decide, (show Option.map _ (parseMethodDescriptor yX3_isSet.desc) = some 1 from by decide +kernel)⟩ ⟨Nat.le_of_ble_eq_true rfl, Nat.le_of_ble_eq_true rfl⟩ hl.1 rfl (Nat.le_of_ble_eq_true rfl) ⟨Nat.le_refl _, Nat.le_refl _⟩ dX3_container_70) ?_
              refine kif_eq (tgt := 81) hC.1 hC.2.1 dX3_container_73 (by decide) (fun c_73 => ?_) (fun c_73 => ?_)
              · refine lv_ldc hC.1 hC.2.1 hC.2.2.2.1 (hC.2.2.2.2 _ (kt_in tk_X3_52 rfl)) dX3_container_81 ?_
                exact krI hC hr hlk hW (by simp (config := {decide := true}) only [kif_true, kif_false, kb, kup_eq, kup_f, kup_i, not_true_eq_false, not_false_eq_true, and_true, true_and, and_false, false_and, and_self, or_true, true_or, or_false, false_or, a_container, t_container, kBd, kCnl, kMka, kMkt, c_2, c_9, c_29, c_37, c_42, c_64, c_73]) (by simp (config := {decide := true}) only [kif_true, kif_false, kb, kup_eq, kup_f, kup_i, not_true_eq_false, not_false_eq_true, and_true, true_and, and_false, false_and, and_self, or_true, true_or, or_false, false_or, a_container, t_container, kBd, kCnl, kMka, kMkt, c_2, c_9, c_29, c_37, c_42, c_64, c_73]) rfl rfl dX3_container_83
              · refine lv_iload hC.1 hC.2.1 dX3_container_76 (lv_at hl 0 rfl) ?_
                refine lv_if_ne (tgt := 84) hC.1 hC.2.1 dX3_container_78 (by decide) (fun c_78 => ?_) (fun c_78 => ?_)
                · exact absurd (by decide) c_78
                · refine lv_ldc hC.1 hC.2.1 hC.2.2.2.1 (hC.2.2.2.2 _ (kt_in tk_X3_52 rfl)) dX3_container_81 ?_
                  exact krI hC hr hlk hW (by simp (config := {decide := true}) only [kif_true, kif_false, kb, kup_eq, kup_f, kup_i, not_true_eq_false, not_false_eq_true, and_true, true_and, and_false, false_and, and_self, or_true, true_or, or_false, false_or, a_container, t_container, kBd, kCnl, kMka, kMkt, c_2, c_9, c_29, c_37, c_42, c_64, c_73, c_78]) (by simp (config := {decide := true}) only [kif_true, kif_false, kb, kup_eq, kup_f, kup_i, not_true_eq_false, not_false_eq_true, and_true, true_and, and_false, false_and, and_self, or_true, true_or, or_false, false_or, a_container, t_container, kBd, kCnl, kMka, kMkt, c_2, c_9, c_29, c_37, c_42, c_64, c_73, c_78]) rfl rfl dX3_container_83
          · refine lv_iload hC.1 hC.2.1 dX3_container_45 (lv_at hl 8 rfl) ?_
            refine lv_bipush (v := 50) hC.1 hC.2.1 dX3_container_47 (by decide) ?_
            refine lv_icmp_gt (tgt := 56) hC.1 hC.2.1 dX3_container_49 (by decide) (fun c_49 => ?_) (fun c_49 => ?_)
            · refine lv_iconst (v := 0) hC.1 hC.2.1 dX3_container_56 (by decide) ?_
              refine lv_istore (lv' := [(9, .int 0), (8, .ref (L (188 + (tn c)))), (7, .ref (L (4 + (tn p)))), (0, .ref (L 0)), (1, .int p), (2, .int c), (3, .int s), (4, .int t), (5, .int b), (6, .int n)]) hC.1 hC.2.1 dX3_container_57 hl (by decide) rfl (fun ls hl => ?_)
              refine lv_aload_n hC.1 hC.2.1 dX3_container_59 rfl (lv_at hl 3 rfl) ?_
              refine lv_iload_n hC.1 hC.2.1 dX3_container_60 rfl (lv_at hl 6 rfl) ?_
              refine keSi (rest := []) (kcV 0 hC hK hN hW (c_X3_isSet l D G L hL T N q s) (kgoodV tm_X3_86 ti_yX3_isSet te_yX3_isSet tz_X3 tc_yX3_isSet) kw_m rfl ⟨rfl, by decide, by decide, (show Option.map _ (parseMethodDescriptor yX3_isSet.desc) = some 1 from by decide +kernel)⟩ ⟨Nat.le_of_ble_eq_true rfl, Nat.le_of_ble_eq_true rfl⟩ hl.1 rfl (Nat.le_of_ble_eq_true rfl) ⟨Nat.le_refl _, Nat.le_refl _⟩ dX3_container_61) ?_
              refine kif_eq (tgt := 81) hC.1 hC.2.1 dX3_container_64 (by decide) (fun c_64 => ?_) (fun c_64 => ?_)
              · refine lv_ldc hC.1 hC.2.1 hC.2.2.2.1 (hC.2.2.2.2 _ (kt_in tk_X3_52 rfl)) dX3_container_81 ?_
                exact krI hC hr hlk hW (by simp (config := {decide := true}) only [kif_true, kif_false, kb, kup_eq, kup_f, kup_i, not_true_eq_false, not_false_eq_true, and_true, true_and, and_false, false_and, and_self, or_true, true_or, or_false, false_or, a_container, t_container, kBd, kCnl, kMka, kMkt, c_2, c_9, c_29, c_37, c_42, c_49, c_64]) (by simp (config := {decide := true}) only [kif_true, kif_false, kb, kup_eq, kup_f, kup_i, not_true_eq_false, not_false_eq_true, and_true, true_and, and_false, false_and, and_self, or_true, true_or, or_false, false_or, a_container, t_container, kBd, kCnl, kMka, kMkt, c_2, c_9, c_29, c_37, c_42, c_49, c_64]) rfl rfl dX3_container_83
              · refine lv_aload_n hC.1 hC.2.1 dX3_container_67 rfl (lv_at hl 3 rfl) ?_
                refine lv_iload hC.1 hC.2.1 dX3_container_68 (lv_at hl 7 rfl) ?_
                refine keSi (rest := []) (kcV 0 hC hK hN hW (c_X3_isSet l D G L hL T N q t) (kgoodV tm_X3_86 ti_yX3_isSet te_yX3_isSet tz_X3 tc_yX3_isSet) kw_m rfl ⟨rfl, by decide, by decide, (show Option.map _ (parseMethodDescriptor yX3_isSet.desc) = some 1 from by decide +kernel)⟩ ⟨Nat.le_of_ble_eq_true rfl, Nat.le_of_ble_eq_true rfl⟩ hl.1 rfl (Nat.le_of_ble_eq_true rfl) ⟨Nat.le_refl _, Nat.le_refl _⟩ dX3_container_70) ?_
                refine kif_eq (tgt := 81) hC.1 hC.2.1 dX3_container_73 (by decide) (fun c_73 => ?_) (fun c_73 => ?_)
                · refine lv_ldc hC.1 hC.2.1 hC.2.2.2.1 (hC.2.2.2.2 _ (kt_in tk_X3_52 rfl)) dX3_container_81 ?_
                  exact krI hC hr hlk hW (by simp (config := {decide := true}) only [kif_true, kif_false, kb, kup_eq, kup_f, kup_i, not_true_eq_false, not_false_eq_true, and_true, true_and, and_false, false_and, and_self, or_true, true_or, or_false, false_or, a_container, t_container, kBd, kCnl, kMka, kMkt, c_2, c_9, c_29, c_37, c_42, c_49, c_64, c_73]) (by simp (config := {decide := true}) only [kif_true, kif_false, kb, kup_eq, kup_f, kup_i, not_true_eq_false, not_false_eq_true, and_true, true_and, and_false, false_and, and_self, or_true, true_or, or_false, false_or, a_container, t_container, kBd, kCnl, kMka, kMkt, c_2, c_9, c_29, c_37, c_42, c_49, c_64, c_73]) rfl rfl dX3_container_83
                · refine lv_iload hC.1 hC.2.1 dX3_container_76 (lv_at hl 0 rfl) ?_
                  refine lv_if_ne (tgt := 84) hC.1 hC.2.1 dX3_container_78 (by decide) (fun c_78 => ?_) (fun c_78 => ?_)
                  · exact absurd (by decide) c_78
                  · refine lv_ldc hC.1 hC.2.1 hC.2.2.2.1 (hC.2.2.2.2 _ (kt_in tk_X3_52 rfl)) dX3_container_81 ?_
                    exact krI hC hr hlk hW (by simp (config := {decide := true}) only [kif_true, kif_false, kb, kup_eq, kup_f, kup_i, not_true_eq_false, not_false_eq_true, and_true, true_and, and_false, false_and, and_self, or_true, true_or, or_false, false_or, a_container, t_container, kBd, kCnl, kMka, kMkt, c_2, c_9, c_29, c_37, c_42, c_49, c_64, c_73, c_78]) (by simp (config := {decide := true}) only [kif_true, kif_false, kb, kup_eq, kup_f, kup_i, not_true_eq_false, not_false_eq_true, and_true, true_and, and_false, false_and, and_self, or_true, true_or, or_false, false_or, a_container, t_container, kBd, kCnl, kMka, kMkt, c_2, c_9, c_29, c_37, c_42, c_49, c_64, c_73, c_78]) rfl rfl dX3_container_83
            · refine lv_iconst (v := 1) hC.1 hC.2.1 dX3_container_52 (by decide) ?_
              refine lv_goto (tgt := 57) hC.1 hC.2.1 dX3_container_53 (by decide) ?_
              refine lv_istore (lv' := [(9, .int 1), (8, .ref (L (188 + (tn c)))), (7, .ref (L (4 + (tn p)))), (0, .ref (L 0)), (1, .int p), (2, .int c), (3, .int s), (4, .int t), (5, .int b), (6, .int n)]) hC.1 hC.2.1 dX3_container_57 hl (by decide) rfl (fun ls hl => ?_)
              refine lv_aload_n hC.1 hC.2.1 dX3_container_59 rfl (lv_at hl 3 rfl) ?_
              refine lv_iload_n hC.1 hC.2.1 dX3_container_60 rfl (lv_at hl 6 rfl) ?_
              refine keSi (rest := []) (kcV 0 hC hK hN hW (c_X3_isSet l D G L hL T N q s) (kgoodV tm_X3_86 ti_yX3_isSet te_yX3_isSet tz_X3 tc_yX3_isSet) kw_m rfl ⟨rfl, by decide, by decide, (show Option.map _ (parseMethodDescriptor yX3_isSet.desc) = some 1 from by decide +kernel)⟩ ⟨Nat.le_of_ble_eq_true rfl, Nat.le_of_ble_eq_true rfl⟩ hl.1 rfl (Nat.le_of_ble_eq_true rfl) ⟨Nat.le_refl _, Nat.le_refl _⟩ dX3_container_61) ?_
              refine kif_eq (tgt := 81) hC.1 hC.2.1 dX3_container_64 (by decide) (fun c_64 => ?_) (fun c_64 => ?_)
              · refine lv_ldc hC.1 hC.2.1 hC.2.2.2.1 (hC.2.2.2.2 _ (kt_in tk_X3_52 rfl)) dX3_container_81 ?_
                exact krI hC hr hlk hW (by simp (config := {decide := true}) only [kif_true, kif_false, kb, kup_eq, kup_f, kup_i, not_true_eq_false, not_false_eq_true, and_true, true_and, and_false, false_and, and_self, or_true, true_or, or_false, false_or, a_container, t_container, kBd, kCnl, kMka, kMkt, c_2, c_9, c_29, c_37, c_42, c_49, c_64]) (by simp (config := {decide := true}) only [kif_true, kif_false, kb, kup_eq, kup_f, kup_i, not_true_eq_false, not_false_eq_true, and_true, true_and, and_false, false_and, and_self, or_true, true_or, or_false, false_or, a_container, t_container, kBd, kCnl, kMka, kMkt, c_2, c_9, c_29, c_37, c_42, c_49, c_64]) rfl rfl dX3_container_83
              · refine lv_aload_n hC.1 hC.2.1 dX3_container_67 rfl (lv_at hl 3 rfl) ?_
                refine lv_iload hC.1 hC.2.1 dX3_container_68 (lv_at hl 7 rfl) ?_
                refine keSi (rest := []) (kcV 0 hC hK hN hW (c_X3_isSet l D G L hL T N q t) (kgoodV tm_X3_86 ti_yX3_isSet te_yX3_isSet tz_X3 tc_yX3_isSet) kw_m rfl ⟨rfl, by decide, by decide, (show Option.map _ (parseMethodDescriptor yX3_isSet.desc) = some 1 from by decide +kernel)⟩ ⟨Nat.le_of_ble_eq_true rfl, Nat.le_of_ble_eq_true rfl⟩ hl.1 rfl (Nat.le_of_ble_eq_true rfl) ⟨Nat.le_refl _, Nat.le_refl _⟩ dX3_container_70) ?_
                refine kif_eq (tgt := 81) hC.1 hC.2.1 dX3_container_73 (by decide) (fun c_73 => ?_) (fun c_73 => ?_)
                · refine lv_ldc hC.1 hC.2.1 hC.2.2.2.1 (hC.2.2.2.2 _ (kt_in tk_X3_52 rfl)) dX3_container_81 ?_
                  exact krI hC hr hlk hW (by simp (config := {decide := true}) only [kif_true, kif_false, kb, kup_eq, kup_f, kup_i, not_true_eq_false, not_false_eq_true, and_true, true_and, and_false, false_and, and_self, or_true, true_or, or_false, false_or, a_container, t_container, kBd, kCnl, kMka, kMkt, c_2, c_9, c_29, c_37, c_42, c_49, c_64, c_73]) (by simp (config := {decide := true}) only [kif_true, kif_false, kb, kup_eq, kup_f, kup_i, not_true_eq_false, not_false_eq_true, and_true, true_and, and_false, false_and, and_self, or_true, true_or, or_false, false_or, a_container, t_container, kBd, kCnl, kMka, kMkt, c_2, c_9, c_29, c_37, c_42, c_49, c_64, c_73]) rfl rfl dX3_container_83
                · refine lv_iload hC.1 hC.2.1 dX3_container_76 (lv_at hl 0 rfl) ?_
                  refine lv_if_ne (tgt := 84) hC.1 hC.2.1 dX3_container_78 (by decide) (fun c_78 => ?_) (fun c_78 => ?_)
                  · refine lv_aload hC.1 hC.2.1 dX3_container_84 (lv_at hl 2 rfl) ?_
                    refine lv_aload hC.1 hC.2.1 dX3_container_86 (lv_at hl 1 rfl) ?_
                    refine lv_iload_n hC.1 hC.2.1 dX3_container_88 rfl (lv_at hl 6 rfl) ?_
                    refine lv_iload hC.1 hC.2.1 dX3_container_89 (lv_at hl 7 rfl) ?_
                    refine keSi (rest := []) (kcS hC hK hN hW (c_X3_mayMake l D G L hL T N q (tn p) (kP.lt c_2) (tn c) (kCn.lt c_9) s t) (kgoodS tm_X3_177 ts_yX3_mayMake tz_X3 tc_yX3_mayMake) ⟨rfl, by decide, by decide, (show Option.map _ (parseMethodDescriptor yX3_mayMake.desc) = some 4 from by decide +kernel)⟩ ⟨Nat.le_of_ble_eq_true rfl, Nat.le_of_ble_eq_true rfl⟩ hl.1 rfl (Nat.le_of_ble_eq_true rfl) ⟨Nat.le_refl _, Nat.le_refl _⟩ dX3_container_91) ?_
                    refine kif_ne (tgt := 100) hC.1 hC.2.1 dX3_container_94 (by decide) (fun c_94 => ?_) (fun c_94 => ?_)
                    · refine lv_iload hC.1 hC.2.1 dX3_container_100 (lv_at hl 8 rfl) ?_
                      refine lv_aload_n hC.1 hC.2.1 dX3_container_102 rfl (lv_at hl 3 rfl) ?_
                      refine lv_iload_n hC.1 hC.2.1 dX3_container_103 rfl (lv_at hl 5 rfl) ?_
                      refine keSi (rest := [.int b]) (kcV 0 hC hK hN hW (c_X3_blocksLeft l D G L hL T N q c) (kgoodV tm_X3_181 ti_yX3_blocksLeft te_yX3_blocksLeft tz_X3 tc_yX3_blocksLeft) kw_m rfl ⟨rfl, by decide, by decide, (show Option.map _ (parseMethodDescriptor yX3_blocksLeft.desc) = some 1 from by decide +kernel)⟩ ⟨Nat.le_of_ble_eq_true rfl, Nat.le_of_ble_eq_true rfl⟩ hl.1 rfl (Nat.le_of_ble_eq_true rfl) ⟨Nat.le_refl _, Nat.le_refl _⟩ dX3_container_104) ?_
                      refine lv_icmp_gt (tgt := 122) hC.1 hC.2.1 dX3_container_107 (by decide) (fun c_107 => ?_) (fun c_107 => ?_)
                      · refine lv_ldc hC.1 hC.2.1 hC.2.2.2.1 (hC.2.2.2.2 _ (kt_in tk_X3_56 rfl)) dX3_container_122 ?_
                        exact krI hC hr hlk hW (by simp (config := {decide := true}) only [kif_true, kif_false, kb, kup_eq, kup_f, kup_i, not_true_eq_false, not_false_eq_true, and_true, true_and, and_false, false_and, and_self, or_true, true_or, or_false, false_or, a_container, t_container, kBd, kCnl, kMka, kMkt, c_2, c_9, c_29, c_37, c_42, c_49, c_64, c_73, c_78, c_94, c_107]) (by simp (config := {decide := true}) only [kif_true, kif_false, kb, kup_eq, kup_f, kup_i, not_true_eq_false, not_false_eq_true, and_true, true_and, and_false, false_and, and_self, or_true, true_or, or_false, false_or, a_container, t_container, kBd, kCnl, kMka, kMkt, c_2, c_9, c_29, c_37, c_42, c_49, c_64, c_73, c_78, c_94, c_107]) rfl rfl dX3_container_124
                      · refine lv_iconst (v := 1) hC.1 hC.2.1 dX3_container_110 (by decide) ?_
                        refine lv_iload hC.1 hC.2.1 dX3_container_111 (lv_at hl 9 rfl) ?_
                        refine lv_iadd hC.1 hC.2.1 dX3_container_113 ?_
                        refine lv_aload_n hC.1 hC.2.1 dX3_container_114 rfl (lv_at hl 3 rfl) ?_
                        refine lv_iload_n hC.1 hC.2.1 dX3_container_115 rfl (lv_at hl 5 rfl) ?_
                        refine keSi (rest := [.int (1 + n)]) (kcV 0 hC hK hN hW (c_X3_placesLeft l D G L hL T N q c) (kgoodV tm_X3_184 ti_yX3_placesLeft te_yX3_placesLeft tz_X3 tc_yX3_placesLeft) kw_m rfl ⟨rfl, by decide, by decide, (show Option.map _ (parseMethodDescriptor yX3_placesLeft.desc) = some 1 from by decide +kernel)⟩ ⟨Nat.le_of_ble_eq_true rfl, Nat.le_of_ble_eq_true rfl⟩ hl.1 rfl (Nat.le_of_ble_eq_true rfl) ⟨Nat.le_refl _, Nat.le_refl _⟩ dX3_container_116) ?_
                        refine lv_icmp_le (tgt := 125) hC.1 hC.2.1 dX3_container_119 (by decide) (fun c_119 => ?_) (fun c_119 => ?_)
                        · refine lv_aload_n hC.1 hC.2.1 dX3_container_125 rfl (lv_at hl 3 rfl) ?_
                          refine lv_iconst (v := 1) hC.1 hC.2.1 dX3_container_126 (by decide) ?_
                          refine lv_iload_n hC.1 hC.2.1 dX3_container_127 rfl (lv_at hl 5 rfl) ?_
                          refine lv_iload_n hC.1 hC.2.1 dX3_container_128 rfl (lv_at hl 6 rfl) ?_
                          refine lv_iload hC.1 hC.2.1 dX3_container_129 (lv_at hl 7 rfl) ?_
                          refine lv_iload hC.1 hC.2.1 dX3_container_131 (lv_at hl 8 rfl) ?_
                          refine lv_iload hC.1 hC.2.1 dX3_container_133 (lv_at hl 9 rfl) ?_
                          refine keQi (rest := []) (kcV 0 hC hK hN hW (c_X3_make l D G L hL T N q 1 (Or.inr rfl) c s t b n hno) (kgoodV tm_X3_187 ti_yX3_make te_yX3_make tz_X3 tc_yX3_make) kw_m rfl ⟨rfl, by decide, by decide, (show Option.map _ (parseMethodDescriptor yX3_make.desc) = some 6 from by decide +kernel)⟩ ⟨Nat.le_of_ble_eq_true rfl, Nat.le_of_ble_eq_true rfl⟩ hl.1 rfl (Nat.le_of_ble_eq_true rfl) ⟨Nat.le_refl _, Nat.le_refl _⟩ dX3_container_135) hW (fun H locs (hW : kWd D G L (kA L) zs.heap (kif (T 0 3 < 60) (kOt (kMk T 1 c s t b n)) T) N q H locs) => ?_)
                          exact krI hC hr hlk hW (by simp (config := {decide := true}) only [kif_true, kif_false, kb, kup_eq, kup_f, kup_i, not_true_eq_false, not_false_eq_true, and_true, true_and, and_false, false_and, and_self, or_true, true_or, or_false, false_or, a_container, t_container, kBd, kCnl, kMka, kMkt, c_2, c_9, c_29, c_37, c_42, c_49, c_64, c_73, c_78, c_94, c_107, c_119]) (by simp (config := {decide := true}) only [kif_true, kif_false, kb, kup_eq, kup_f, kup_i, not_true_eq_false, not_false_eq_true, and_true, true_and, and_false, false_and, and_self, or_true, true_or, or_false, false_or, a_container, t_container, kBd, kCnl, kMka, kMkt, c_2, c_9, c_29, c_37, c_42, c_49, c_64, c_73, c_78, c_94, c_107, c_119]) rfl rfl dX3_container_138
                        · refine lv_ldc hC.1 hC.2.1 hC.2.2.2.1 (hC.2.2.2.2 _ (kt_in tk_X3_56 rfl)) dX3_container_122 ?_
                          exact krI hC hr hlk hW (by simp (config := {decide := true}) only [kif_true, kif_false, kb, kup_eq, kup_f, kup_i, not_true_eq_false, not_false_eq_true, and_true, true_and, and_false, false_and, and_self, or_true, true_or, or_false, false_or, a_container, t_container, kBd, kCnl, kMka, kMkt, c_2, c_9, c_29, c_37, c_42, c_49, c_64, c_73, c_78, c_94, c_107, c_119]) (by simp (config := {decide := true}) only [kif_true, kif_false, kb, kup_eq, kup_f, kup_i, not_true_eq_false, not_false_eq_true, and_true, true_and, and_false, false_and, and_self, or_true, true_or, or_false, false_or, a_container, t_container, kBd, kCnl, kMka, kMkt, c_2, c_9, c_29, c_37, c_42, c_49, c_64, c_73, c_78, c_94, c_107, c_119]) rfl rfl dX3_container_124
                    · refine lv_ldc hC.1 hC.2.1 hC.2.2.2.1 (hC.2.2.2.2 _ (kt_in tk_X3_98 rfl)) dX3_container_97 ?_
                      exact krI hC hr hlk hW (by simp (config := {decide := true}) only [kif_true, kif_false, kb, kup_eq, kup_f, kup_i, not_true_eq_false, not_false_eq_true, and_true, true_and, and_false, false_and, and_self, or_true, true_or, or_false, false_or, a_container, t_container, kBd, kCnl, kMka, kMkt, c_2, c_9, c_29, c_37, c_42, c_49, c_64, c_73, c_78, c_94]) (by simp (config := {decide := true}) only [kif_true, kif_false, kb, kup_eq, kup_f, kup_i, not_true_eq_false, not_false_eq_true, and_true, true_and, and_false, false_and, and_self, or_true, true_or, or_false, false_or, a_container, t_container, kBd, kCnl, kMka, kMkt, c_2, c_9, c_29, c_37, c_42, c_49, c_64, c_73, c_78, c_94]) rfl rfl dX3_container_99
                  · exact absurd c_78 (by decide)
    · refine lv_astoreN (lv' := [(8, .null), (7, .ref (L (4 + (tn p)))), (0, .ref (L 0)), (1, .int p), (2, .int c), (3, .int s), (4, .int t), (5, .int b), (6, .int n)]) hC.1 hC.2.1 dX3_container_12 hl (by decide) rfl (fun ls hl => ?_)
      refine lv_aload hC.1 hC.2.1 dX3_container_14 (lv_at hl 1 rfl) ?_
      refine lv_ifnull hC.1 hC.2.1 dX3_container_16 ?_
      refine lv_aloadN hC.1 hC.2.1 dX3_container_19 (lv_at hl 0 rfl) ?_
      refine lv_ifnonnullN hC.1 hC.2.1 dX3_container_21 ?_
      refine lv_ldc hC.1 hC.2.1 hC.2.2.2.1 (hC.2.2.2.2 _ (kt_in tk_X3_51 rfl)) dX3_container_24 ?_
      exact krI hC hr hlk hW (by simp (config := {decide := true}) only [kif_true, kif_false, kb, kup_eq, kup_f, kup_i, not_true_eq_false, not_false_eq_true, and_true, true_and, and_false, false_and, and_self, or_true, true_or, or_false, false_or, a_container, t_container, kBd, kCnl, kMka, kMkt, c_2, c_9]) (by simp (config := {decide := true}) only [kif_true, kif_false, kb, kup_eq, kup_f, kup_i, not_true_eq_false, not_false_eq_true, and_true, true_and, and_false, false_and, and_self, or_true, true_or, or_false, false_or, a_container, t_container, kBd, kCnl, kMka, kMkt, c_2, c_9]) rfl rfl dX3_container_26
  · refine lv_astoreN (lv' := [(7, .null), (0, .ref (L 0)), (1, .int p), (2, .int c), (3, .int s), (4, .int t), (5, .int b), (6, .int n)]) hC.1 hC.2.1 dX3_container_5 hl (by decide) rfl (fun ls hl => ?_)
    refine lv_aload_n hC.1 hC.2.1 dX3_container_7 rfl (lv_at hl 1 rfl) ?_
    refine lv_iload_n hC.1 hC.2.1 dX3_container_8 rfl (lv_at hl 3 rfl) ?_
    refine keSq (rest := []) (kcV 0 hC hK hN hW (c_X3_containerAt l D G L hL T N q c) (kgoodV tm_X3_173 ti_yX3_containerAt te_yX3_containerAt tz_X3 tc_yX3_containerAt) kw_m rfl ⟨rfl, by decide, by decide, (show Option.map _ (parseMethodDescriptor yX3_containerAt.desc) = some 1 from by decide +kernel)⟩ ⟨Nat.le_of_ble_eq_true rfl, Nat.le_of_ble_eq_true rfl⟩ hl.1 rfl (Nat.le_of_ble_eq_true rfl) ⟨Nat.le_refl _, Nat.le_refl _⟩ dX3_container_9) ?_
    refine kopt (P := kCn T c) (fun c_9 => ?_) (fun c_9 => ?_)
    · refine lv_astore (lv' := [(8, .ref (L (188 + (tn c)))), (7, .null), (0, .ref (L 0)), (1, .int p), (2, .int c), (3, .int s), (4, .int t), (5, .int b), (6, .int n)]) hC.1 hC.2.1 dX3_container_12 hl (by decide) rfl (fun ls hl => ?_)
      refine lv_aloadN hC.1 hC.2.1 dX3_container_14 (lv_at hl 1 rfl) ?_
      refine lv_ifnullN (tgt := 24) hC.1 hC.2.1 dX3_container_16 (by decide) ?_
      refine lv_ldc hC.1 hC.2.1 hC.2.2.2.1 (hC.2.2.2.2 _ (kt_in tk_X3_51 rfl)) dX3_container_24 ?_
      exact krI hC hr hlk hW (by simp (config := {decide := true}) only [kif_true, kif_false, kb, kup_eq, kup_f, kup_i, not_true_eq_false, not_false_eq_true, and_true, true_and, and_false, false_and, and_self, or_true, true_or, or_false, false_or, a_container, t_container, kBd, kCnl, kMka, kMkt, c_2, c_9]) (by simp (config := {decide := true}) only [kif_true, kif_false, kb, kup_eq, kup_f, kup_i, not_true_eq_false, not_false_eq_true, and_true, true_and, and_false, false_and, and_self, or_true, true_or, or_false, false_or, a_container, t_container, kBd, kCnl, kMka, kMkt, c_2, c_9]) rfl rfl dX3_container_26
    · refine lv_astoreN (lv' := [(8, .null), (7, .null), (0, .ref (L 0)), (1, .int p), (2, .int c), (3, .int s), (4, .int t), (5, .int b), (6, .int n)]) hC.1 hC.2.1 dX3_container_12 hl (by decide) rfl (fun ls hl => ?_)
      refine lv_aloadN hC.1 hC.2.1 dX3_container_14 (lv_at hl 1 rfl) ?_
      refine lv_ifnullN (tgt := 24) hC.1 hC.2.1 dX3_container_16 (by decide) ?_
      refine lv_ldc hC.1 hC.2.1 hC.2.2.2.1 (hC.2.2.2.2 _ (kt_in tk_X3_51 rfl)) dX3_container_24 ?_
      exact krI hC hr hlk hW (by simp (config := {decide := true}) only [kif_true, kif_false, kb, kup_eq, kup_f, kup_i, not_true_eq_false, not_false_eq_true, and_true, true_and, and_false, false_and, and_self, or_true, true_or, or_false, false_or, a_container, t_container, kBd, kCnl, kMka, kMkt, c_2, c_9]) (by simp (config := {decide := true}) only [kif_true, kif_false, kb, kup_eq, kup_f, kup_i, not_true_eq_false, not_false_eq_true, and_true, true_and, and_false, false_and, and_self, or_true, true_or, or_false, false_or, a_container, t_container, kBd, kCnl, kMka, kMkt, c_2, c_9]) rfl rfl dX3_container_26
set_option maxHeartbeats 4000000 in
set_option maxRecDepth 100000 in
theorem c_X3_file (l : Launch) (D : va_G) (G : Nat → ClassId) (L : Nat → Nat) (hL : kL L) (T N : kT) (q : kQ) (p : Int32) (c : Int32) (s : Int32) (t : Int32) (hno : ¬ T 0 3 < 0) : kM l yX3_file cX3_file 7 (some .int) 4 94 (kPc D G L T N q [.ref (L 0), .int p, .int c, .int s, .int t]) (kQi D G L (a_file T p c s t) (t_file T p c s t) N q) (kA L) := by
  refine kBegin (by decide) (Nat.le_of_ble_eq_true rfl) ?_
  intro zp ze zs zm zargs zbelow zmeth zc hC hr hlk hB ls hl
  obtain ⟨hP, hK, hN⟩ := hB
  have hW : kWd D G L (kA L) zs.heap T N q zs.heap [] := kWd.start hL hP
  have hl : lv_has ls 7 [(0, .ref (L 0)), (1, .int p), (2, .int c), (3, .int s), (4, .int t)] := hl
  refine lv_aload_n hC.1 hC.2.1 dX3_file_0 rfl (lv_at hl 0 rfl) ?_
  refine lv_iload_n hC.1 hC.2.1 dX3_file_1 rfl (lv_at hl 1 rfl) ?_
  refine keSq (rest := []) (kcV 0 hC hK hN hW (c_X3_processAt l D G L hL T N q p) (kgoodV tm_X3_47 ti_yX3_processAt te_yX3_processAt tz_X3 tc_yX3_processAt) kw_m rfl ⟨rfl, by decide, by decide, (show Option.map _ (parseMethodDescriptor yX3_processAt.desc) = some 1 from by decide +kernel)⟩ ⟨Nat.le_of_ble_eq_true rfl, Nat.le_of_ble_eq_true rfl⟩ hl.1 rfl (Nat.le_of_ble_eq_true rfl) ⟨Nat.le_refl _, Nat.le_refl _⟩ dX3_file_2) ?_
  refine kopt (P := kP T p) (fun c_2 => ?_) (fun c_2 => ?_)
  · refine lv_astore (lv' := [(5, .ref (L (4 + (tn p)))), (0, .ref (L 0)), (1, .int p), (2, .int c), (3, .int s), (4, .int t)]) hC.1 hC.2.1 dX3_file_5 hl (by decide) rfl (fun ls hl => ?_)
    refine lv_aload_n hC.1 hC.2.1 dX3_file_7 rfl (lv_at hl 1 rfl) ?_
    refine lv_iload_n hC.1 hC.2.1 dX3_file_8 rfl (lv_at hl 3 rfl) ?_
    refine keSq (rest := []) (kcV 0 hC hK hN hW (c_X3_containerAt l D G L hL T N q c) (kgoodV tm_X3_173 ti_yX3_containerAt te_yX3_containerAt tz_X3 tc_yX3_containerAt) kw_m rfl ⟨rfl, by decide, by decide, (show Option.map _ (parseMethodDescriptor yX3_containerAt.desc) = some 1 from by decide +kernel)⟩ ⟨Nat.le_of_ble_eq_true rfl, Nat.le_of_ble_eq_true rfl⟩ hl.1 rfl (Nat.le_of_ble_eq_true rfl) ⟨Nat.le_refl _, Nat.le_refl _⟩ dX3_file_9) ?_
    refine kopt (P := kCn T c) (fun c_9 => ?_) (fun c_9 => ?_)
    · refine lv_astore (lv' := [(6, .ref (L (188 + (tn c)))), (5, .ref (L (4 + (tn p)))), (0, .ref (L 0)), (1, .int p), (2, .int c), (3, .int s), (4, .int t)]) hC.1 hC.2.1 dX3_file_12 hl (by decide) rfl (fun ls hl => ?_)
      refine lv_aload hC.1 hC.2.1 dX3_file_14 (lv_at hl 1 rfl) ?_
      refine lv_ifnull hC.1 hC.2.1 dX3_file_16 ?_
      refine lv_aload hC.1 hC.2.1 dX3_file_19 (lv_at hl 0 rfl) ?_
      refine lv_ifnonnull (tgt := 27) hC.1 hC.2.1 dX3_file_21 (by decide) ?_
      refine lv_aload_n hC.1 hC.2.1 dX3_file_27 rfl (lv_at hl 2 rfl) ?_
      refine lv_iload_n hC.1 hC.2.1 dX3_file_28 rfl (lv_at hl 5 rfl) ?_
      refine keSi (rest := []) (kcV 0 hC hK hN hW (c_X3_isSet l D G L hL T N q s) (kgoodV tm_X3_86 ti_yX3_isSet te_yX3_isSet tz_X3 tc_yX3_isSet) kw_m rfl ⟨rfl, by decide, by decide, (show Option.map _ (parseMethodDescriptor yX3_isSet.desc) = some 1 from by decide +kernel)⟩ ⟨Nat.le_of_ble_eq_true rfl, Nat.le_of_ble_eq_true rfl⟩ hl.1 rfl (Nat.le_of_ble_eq_true rfl) ⟨Nat.le_refl _, Nat.le_refl _⟩ dX3_file_29) ?_
      refine kif_eq (tgt := 44) hC.1 hC.2.1 dX3_file_32 (by decide) (fun c_32 => ?_) (fun c_32 => ?_)
      · refine lv_ldc hC.1 hC.2.1 hC.2.2.2.1 (hC.2.2.2.2 _ (kt_in tk_X3_52 rfl)) dX3_file_44 ?_
        exact krI hC hr hlk hW (by simp (config := {decide := true}) only [kif_true, kif_false, kb, kup_eq, kup_f, kup_i, not_true_eq_false, not_false_eq_true, and_true, true_and, and_false, false_and, and_self, or_true, true_or, or_false, false_or, a_file, t_file, kMka, kMkt, c_2, c_9, c_32]) (by simp (config := {decide := true}) only [kif_true, kif_false, kb, kup_eq, kup_f, kup_i, not_true_eq_false, not_false_eq_true, and_true, true_and, and_false, false_and, and_self, or_true, true_or, or_false, false_or, a_file, t_file, kMka, kMkt, c_2, c_9, c_32]) rfl rfl dX3_file_46
      · refine lv_aload_n hC.1 hC.2.1 dX3_file_35 rfl (lv_at hl 2 rfl) ?_
        refine lv_iload hC.1 hC.2.1 dX3_file_36 (lv_at hl 6 rfl) ?_
        refine keSi (rest := []) (kcV 0 hC hK hN hW (c_X3_isSet l D G L hL T N q t) (kgoodV tm_X3_86 ti_yX3_isSet te_yX3_isSet tz_X3 tc_yX3_isSet) kw_m rfl ⟨rfl, by decide, by decide, (show Option.map _ (parseMethodDescriptor yX3_isSet.desc) = some 1 from by decide +kernel)⟩ ⟨Nat.le_of_ble_eq_true rfl, Nat.le_of_ble_eq_true rfl⟩ hl.1 rfl (Nat.le_of_ble_eq_true rfl) ⟨Nat.le_refl _, Nat.le_refl _⟩ dX3_file_38) ?_
        refine kif_ne (tgt := 47) hC.1 hC.2.1 dX3_file_41 (by decide) (fun c_41 => ?_) (fun c_41 => ?_)
        · refine lv_aload hC.1 hC.2.1 dX3_file_47 (lv_at hl 1 rfl) ?_
          refine lv_aload hC.1 hC.2.1 dX3_file_49 (lv_at hl 0 rfl) ?_
          refine lv_iload_n hC.1 hC.2.1 dX3_file_51 rfl (lv_at hl 5 rfl) ?_
          refine lv_iload hC.1 hC.2.1 dX3_file_52 (lv_at hl 6 rfl) ?_
          refine keSi (rest := []) (kcS hC hK hN hW (c_X3_mayMake l D G L hL T N q (tn p) (kP.lt c_2) (tn c) (kCn.lt c_9) s t) (kgoodS tm_X3_177 ts_yX3_mayMake tz_X3 tc_yX3_mayMake) ⟨rfl, by decide, by decide, (show Option.map _ (parseMethodDescriptor yX3_mayMake.desc) = some 4 from by decide +kernel)⟩ ⟨Nat.le_of_ble_eq_true rfl, Nat.le_of_ble_eq_true rfl⟩ hl.1 rfl (Nat.le_of_ble_eq_true rfl) ⟨Nat.le_refl _, Nat.le_refl _⟩ dX3_file_54) ?_
          refine kif_ne (tgt := 63) hC.1 hC.2.1 dX3_file_57 (by decide) (fun c_57 => ?_) (fun c_57 => ?_)
          · refine lv_aload_n hC.1 hC.2.1 dX3_file_63 rfl (lv_at hl 2 rfl) ?_
            refine lv_iload_n hC.1 hC.2.1 dX3_file_64 rfl (lv_at hl 4 rfl) ?_
            refine keSi (rest := []) (kcV 0 hC hK hN hW (c_X3_placesLeft l D G L hL T N q c) (kgoodV tm_X3_184 ti_yX3_placesLeft te_yX3_placesLeft tz_X3 tc_yX3_placesLeft) kw_m rfl ⟨rfl, by decide, by decide, (show Option.map _ (parseMethodDescriptor yX3_placesLeft.desc) = some 1 from by decide +kernel)⟩ ⟨Nat.le_of_ble_eq_true rfl, Nat.le_of_ble_eq_true rfl⟩ hl.1 rfl (Nat.le_of_ble_eq_true rfl) ⟨Nat.le_refl _, Nat.le_refl _⟩ dX3_file_65) ?_
            refine lv_iconst (v := 1) hC.1 hC.2.1 dX3_file_68 (by decide) ?_
            refine lv_icmp_ge (tgt := 75) hC.1 hC.2.1 dX3_file_69 (by decide) (fun c_69 => ?_) (fun c_69 => ?_)
            · refine lv_aload_n hC.1 hC.2.1 dX3_file_75 rfl (lv_at hl 2 rfl) ?_
              refine lv_iconst (v := 0) hC.1 hC.2.1 dX3_file_76 (by decide) ?_
              refine lv_iload_n hC.1 hC.2.1 dX3_file_77 rfl (lv_at hl 4 rfl) ?_
              refine lv_iload_n hC.1 hC.2.1 dX3_file_78 rfl (lv_at hl 5 rfl) ?_
              refine lv_iload hC.1 hC.2.1 dX3_file_79 (lv_at hl 6 rfl) ?_
              refine lv_iconst (v := 0) hC.1 hC.2.1 dX3_file_81 (by decide) ?_
              refine lv_iconst (v := 0) hC.1 hC.2.1 dX3_file_82 (by decide) ?_
              refine keQi (rest := []) (kcV 0 hC hK hN hW (c_X3_make l D G L hL T N q 0 (Or.inl rfl) c s t 0 0 hno) (kgoodV tm_X3_187 ti_yX3_make te_yX3_make tz_X3 tc_yX3_make) kw_m rfl ⟨rfl, by decide, by decide, (show Option.map _ (parseMethodDescriptor yX3_make.desc) = some 6 from by decide +kernel)⟩ ⟨Nat.le_of_ble_eq_true rfl, Nat.le_of_ble_eq_true rfl⟩ hl.1 rfl (Nat.le_of_ble_eq_true rfl) ⟨Nat.le_refl _, Nat.le_refl _⟩ dX3_file_83) hW (fun H locs (hW : kWd D G L (kA L) zs.heap (kif (T 0 3 < 60) (kOt (kMk T 0 c s t 0 0)) T) N q H locs) => ?_)
              exact krI hC hr hlk hW (by simp (config := {decide := true}) only [kif_true, kif_false, kb, kup_eq, kup_f, kup_i, not_true_eq_false, not_false_eq_true, and_true, true_and, and_false, false_and, and_self, or_true, true_or, or_false, false_or, a_file, t_file, kMka, kMkt, c_2, c_9, c_32, c_41, c_57, c_69]) (by simp (config := {decide := true}) only [kif_true, kif_false, kb, kup_eq, kup_f, kup_i, not_true_eq_false, not_false_eq_true, and_true, true_and, and_false, false_and, and_self, or_true, true_or, or_false, false_or, a_file, t_file, kMka, kMkt, c_2, c_9, c_32, c_41, c_57, c_69]) rfl rfl dX3_file_86
            · refine lv_ldc hC.1 hC.2.1 hC.2.2.2.1 (hC.2.2.2.2 _ (kt_in tk_X3_56 rfl)) dX3_file_72 ?_
              exact krI hC hr hlk hW (by simp (config := {decide := true}) only [kif_true, kif_false, kb, kup_eq, kup_f, kup_i, not_true_eq_false, not_false_eq_true, and_true, true_and, and_false, false_and, and_self, or_true, true_or, or_false, false_or, a_file, t_file, kMka, kMkt, c_2, c_9, c_32, c_41, c_57, c_69]) (by simp (config := {decide := true}) only [kif_true, kif_false, kb, kup_eq, kup_f, kup_i, not_true_eq_false, not_false_eq_true, and_true, true_and, and_false, false_and, and_self, or_true, true_or, or_false, false_or, a_file, t_file, kMka, kMkt, c_2, c_9, c_32, c_41, c_57, c_69]) rfl rfl dX3_file_74
          · refine lv_ldc hC.1 hC.2.1 hC.2.2.2.1 (hC.2.2.2.2 _ (kt_in tk_X3_98 rfl)) dX3_file_60 ?_
            exact krI hC hr hlk hW (by simp (config := {decide := true}) only [kif_true, kif_false, kb, kup_eq, kup_f, kup_i, not_true_eq_false, not_false_eq_true, and_true, true_and, and_false, false_and, and_self, or_true, true_or, or_false, false_or, a_file, t_file, kMka, kMkt, c_2, c_9, c_32, c_41, c_57]) (by simp (config := {decide := true}) only [kif_true, kif_false, kb, kup_eq, kup_f, kup_i, not_true_eq_false, not_false_eq_true, and_true, true_and, and_false, false_and, and_self, or_true, true_or, or_false, false_or, a_file, t_file, kMka, kMkt, c_2, c_9, c_32, c_41, c_57]) rfl rfl dX3_file_62
        · refine lv_ldc hC.1 hC.2.1 hC.2.2.2.1 (hC.2.2.2.2 _ (kt_in tk_X3_52 rfl)) dX3_file_44 ?_
          exact krI hC hr hlk hW (by simp (config := {decide := true}) only [kif_true, kif_false, kb, kup_eq, kup_f, kup_i, not_true_eq_false, not_false_eq_true, and_true, true_and, and_false, false_and, and_self, or_true, true_or, or_false, false_or, a_file, t_file, kMka, kMkt, c_2, c_9, c_32, c_41]) (by simp (config := {decide := true}) only [kif_true, kif_false, kb, kup_eq, kup_f, kup_i, not_true_eq_false, not_false_eq_true, and_true, true_and, and_false, false_and, and_self, or_true, true_or, or_false, false_or, a_file, t_file, kMka, kMkt, c_2, c_9, c_32, c_41]) rfl rfl dX3_file_46
    · refine lv_astoreN (lv' := [(6, .null), (5, .ref (L (4 + (tn p)))), (0, .ref (L 0)), (1, .int p), (2, .int c), (3, .int s), (4, .int t)]) hC.1 hC.2.1 dX3_file_12 hl (by decide) rfl (fun ls hl => ?_)
      refine lv_aload hC.1 hC.2.1 dX3_file_14 (lv_at hl 1 rfl) ?_
      refine lv_ifnull hC.1 hC.2.1 dX3_file_16 ?_
      refine lv_aloadN hC.1 hC.2.1 dX3_file_19 (lv_at hl 0 rfl) ?_
      refine lv_ifnonnullN hC.1 hC.2.1 dX3_file_21 ?_
      refine lv_ldc hC.1 hC.2.1 hC.2.2.2.1 (hC.2.2.2.2 _ (kt_in tk_X3_51 rfl)) dX3_file_24 ?_
      exact krI hC hr hlk hW (by simp (config := {decide := true}) only [kif_true, kif_false, kb, kup_eq, kup_f, kup_i, not_true_eq_false, not_false_eq_true, and_true, true_and, and_false, false_and, and_self, or_true, true_or, or_false, false_or, a_file, t_file, kMka, kMkt, c_2, c_9]) (by simp (config := {decide := true}) only [kif_true, kif_false, kb, kup_eq, kup_f, kup_i, not_true_eq_false, not_false_eq_true, and_true, true_and, and_false, false_and, and_self, or_true, true_or, or_false, false_or, a_file, t_file, kMka, kMkt, c_2, c_9]) rfl rfl dX3_file_26
  · refine lv_astoreN (lv' := [(5, .null), (0, .ref (L 0)), (1, .int p), (2, .int c), (3, .int s), (4, .int t)]) hC.1 hC.2.1 dX3_file_5 hl (by decide) rfl (fun ls hl => ?_)
    refine lv_aload_n hC.1 hC.2.1 dX3_file_7 rfl (lv_at hl 1 rfl) ?_
    refine lv_iload_n hC.1 hC.2.1 dX3_file_8 rfl (lv_at hl 3 rfl) ?_
    refine keSq (rest := []) (kcV 0 hC hK hN hW (c_X3_containerAt l D G L hL T N q c) (kgoodV tm_X3_173 ti_yX3_containerAt te_yX3_containerAt tz_X3 tc_yX3_containerAt) kw_m rfl ⟨rfl, by decide, by decide, (show Option.map _ (parseMethodDescriptor yX3_containerAt.desc) = some 1 from by decide +kernel)⟩ ⟨Nat.le_of_ble_eq_true rfl, Nat.le_of_ble_eq_true rfl⟩ hl.1 rfl (Nat.le_of_ble_eq_true rfl) ⟨Nat.le_refl _, Nat.le_refl _⟩ dX3_file_9) ?_
    refine kopt (P := kCn T c) (fun c_9 => ?_) (fun c_9 => ?_)
    · refine lv_astore (lv' := [(6, .ref (L (188 + (tn c)))), (5, .null), (0, .ref (L 0)), (1, .int p), (2, .int c), (3, .int s), (4, .int t)]) hC.1 hC.2.1 dX3_file_12 hl (by decide) rfl (fun ls hl => ?_)
      refine lv_aloadN hC.1 hC.2.1 dX3_file_14 (lv_at hl 1 rfl) ?_
      refine lv_ifnullN (tgt := 24) hC.1 hC.2.1 dX3_file_16 (by decide) ?_
      refine lv_ldc hC.1 hC.2.1 hC.2.2.2.1 (hC.2.2.2.2 _ (kt_in tk_X3_51 rfl)) dX3_file_24 ?_
      exact krI hC hr hlk hW (by simp (config := {decide := true}) only [kif_true, kif_false, kb, kup_eq, kup_f, kup_i, not_true_eq_false, not_false_eq_true, and_true, true_and, and_false, false_and, and_self, or_true, true_or, or_false, false_or, a_file, t_file, kMka, kMkt, c_2, c_9]) (by simp (config := {decide := true}) only [kif_true, kif_false, kb, kup_eq, kup_f, kup_i, not_true_eq_false, not_false_eq_true, and_true, true_and, and_false, false_and, and_self, or_true, true_or, or_false, false_or, a_file, t_file, kMka, kMkt, c_2, c_9]) rfl rfl dX3_file_26
    · refine lv_astoreN (lv' := [(6, .null), (5, .null), (0, .ref (L 0)), (1, .int p), (2, .int c), (3, .int s), (4, .int t)]) hC.1 hC.2.1 dX3_file_12 hl (by decide) rfl (fun ls hl => ?_)
      refine lv_aloadN hC.1 hC.2.1 dX3_file_14 (lv_at hl 1 rfl) ?_
      refine lv_ifnullN (tgt := 24) hC.1 hC.2.1 dX3_file_16 (by decide) ?_
      refine lv_ldc hC.1 hC.2.1 hC.2.2.2.1 (hC.2.2.2.2 _ (kt_in tk_X3_51 rfl)) dX3_file_24 ?_
      exact krI hC hr hlk hW (by simp (config := {decide := true}) only [kif_true, kif_false, kb, kup_eq, kup_f, kup_i, not_true_eq_false, not_false_eq_true, and_true, true_and, and_false, false_and, and_self, or_true, true_or, or_false, false_or, a_file, t_file, kMka, kMkt, c_2, c_9]) (by simp (config := {decide := true}) only [kif_true, kif_false, kb, kup_eq, kup_f, kup_i, not_true_eq_false, not_false_eq_true, and_true, true_and, and_false, false_and, and_self, or_true, true_or, or_false, false_or, a_file, t_file, kMka, kMkt, c_2, c_9]) rfl rfl dX3_file_26
set_option maxHeartbeats 4000000 in
set_option maxRecDepth 100000 in
theorem c_X3_remove (l : Launch) (D : va_G) (G : Nat → ClassId) (L : Nat → Nat) (hL : kL L) (T N : kT) (q : kQ) (p : Int32) (o : Int32) : kM l yX3_remove cX3_remove 6 (some .int) 3 69 (kPc D G L T N q [.ref (L 0), .int p, .int o]) (kQi D G L (a_remove T p o) (t_remove T p o) N q) (kA L) := by
  refine kBegin (by decide) (Nat.le_of_ble_eq_true rfl) ?_
  intro zp ze zs zm zargs zbelow zmeth zc hC hr hlk hB ls hl
  obtain ⟨hP, hK, hN⟩ := hB
  have hW : kWd D G L (kA L) zs.heap T N q zs.heap [] := kWd.start hL hP
  have hl : lv_has ls 6 [(0, .ref (L 0)), (1, .int p), (2, .int o)] := hl
  refine lv_aload_n hC.1 hC.2.1 dX3_remove_0 rfl (lv_at hl 0 rfl) ?_
  refine lv_iload_n hC.1 hC.2.1 dX3_remove_1 rfl (lv_at hl 1 rfl) ?_
  refine keSq (rest := []) (kcV 0 hC hK hN hW (c_X3_processAt l D G L hL T N q p) (kgoodV tm_X3_47 ti_yX3_processAt te_yX3_processAt tz_X3 tc_yX3_processAt) kw_m rfl ⟨rfl, by decide, by decide, (show Option.map _ (parseMethodDescriptor yX3_processAt.desc) = some 1 from by decide +kernel)⟩ ⟨Nat.le_of_ble_eq_true rfl, Nat.le_of_ble_eq_true rfl⟩ hl.1 rfl (Nat.le_of_ble_eq_true rfl) ⟨Nat.le_refl _, Nat.le_refl _⟩ dX3_remove_2) ?_
  refine kopt (P := kP T p) (fun c_2 => ?_) (fun c_2 => ?_)
  · refine lv_astore_n (lv' := [(3, .ref (L (4 + (tn p)))), (0, .ref (L 0)), (1, .int p), (2, .int o)]) hC.1 hC.2.1 dX3_remove_5 rfl hl (by decide) rfl (fun ls hl => ?_)
    refine lv_aload_n hC.1 hC.2.1 dX3_remove_6 rfl (lv_at hl 1 rfl) ?_
    refine lv_iload_n hC.1 hC.2.1 dX3_remove_7 rfl (lv_at hl 3 rfl) ?_
    refine keSq (rest := []) (kcV 0 hC hK hN hW (c_X3_objectAt l D G L hL T N q o) (kgoodV tm_X3_191 ti_yX3_objectAt te_yX3_objectAt tz_X3 tc_yX3_objectAt) kw_m rfl ⟨rfl, by decide, by decide, (show Option.map _ (parseMethodDescriptor yX3_objectAt.desc) = some 1 from by decide +kernel)⟩ ⟨Nat.le_of_ble_eq_true rfl, Nat.le_of_ble_eq_true rfl⟩ hl.1 rfl (Nat.le_of_ble_eq_true rfl) ⟨Nat.le_refl _, Nat.le_refl _⟩ dX3_remove_8) ?_
    refine kopt (P := kO T o) (fun c_8 => ?_) (fun c_8 => ?_)
    · refine lv_astore (lv' := [(4, .ref (L (188 + (tn o)))), (3, .ref (L (4 + (tn p)))), (0, .ref (L 0)), (1, .int p), (2, .int o)]) hC.1 hC.2.1 dX3_remove_11 hl (by decide) rfl (fun ls hl => ?_)
      refine lv_aload_n hC.1 hC.2.1 dX3_remove_13 rfl (lv_at hl 1 rfl) ?_
      refine lv_ifnull hC.1 hC.2.1 dX3_remove_14 ?_
      refine lv_aload hC.1 hC.2.1 dX3_remove_17 (lv_at hl 0 rfl) ?_
      refine lv_ifnonnull (tgt := 25) hC.1 hC.2.1 dX3_remove_19 (by decide) ?_
      refine lv_aload_n hC.1 hC.2.1 dX3_remove_25 rfl (lv_at hl 2 rfl) ?_
      refine lv_aload hC.1 hC.2.1 dX3_remove_26 (lv_at hl 0 rfl) ?_
      refine kg1N hC hK hN hW (kO.lt c_8) 3 (v := .int (T 20 (tn o))) rfl (by decide) tf_X3_194 dX3_remove_28 ?_
      refine keSq (rest := []) (kcV 0 hC hK hN hW (c_X3_objectAt l D G L hL T N q (T 20 (tn o))) (kgoodV tm_X3_191 ti_yX3_objectAt te_yX3_objectAt tz_X3 tc_yX3_objectAt) kw_m rfl ⟨rfl, by decide, by decide, (show Option.map _ (parseMethodDescriptor yX3_objectAt.desc) = some 1 from by decide +kernel)⟩ ⟨Nat.le_of_ble_eq_true rfl, Nat.le_of_ble_eq_true rfl⟩ hl.1 rfl (Nat.le_of_ble_eq_true rfl) ⟨Nat.le_refl _, Nat.le_refl _⟩ dX3_remove_31) ?_
      refine kopt (P := kO T (T 20 (tn o))) (fun c_31 => ?_) (fun c_31 => ?_)
      · refine lv_astore (lv' := [(5, .ref (L (188 + (tn (T 20 (tn o)))))), (4, .ref (L (188 + (tn o)))), (3, .ref (L (4 + (tn p)))), (0, .ref (L 0)), (1, .int p), (2, .int o)]) hC.1 hC.2.1 dX3_remove_34 hl (by decide) rfl (fun ls hl => ?_)
        refine lv_aload hC.1 hC.2.1 dX3_remove_36 (lv_at hl 0 rfl) ?_
        refine lv_ifnull hC.1 hC.2.1 dX3_remove_38 ?_
        refine lv_aload_n hC.1 hC.2.1 dX3_remove_41 rfl (lv_at hl 2 rfl) ?_
        refine lv_aload hC.1 hC.2.1 dX3_remove_42 (lv_at hl 0 rfl) ?_
        refine keSi (rest := []) (kcS hC hK hN hW (c_X3_canRead l D G L hL T N q (tn p) (kP.lt c_2) (tn (T 20 (tn o))) (kO.lt c_31)) (kgoodS tm_X3_197 ts_yX3_canRead tz_X3 tc_yX3_canRead) ⟨rfl, by decide, by decide, (show Option.map _ (parseMethodDescriptor yX3_canRead.desc) = some 2 from by decide +kernel)⟩ ⟨Nat.le_of_ble_eq_true rfl, Nat.le_of_ble_eq_true rfl⟩ hl.1 rfl (Nat.le_of_ble_eq_true rfl) ⟨Nat.le_refl _, Nat.le_refl _⟩ dX3_remove_44) ?_
        refine kif_eq (tgt := 59) hC.1 hC.2.1 dX3_remove_47 (by decide) (fun c_47 => ?_) (fun c_47 => ?_)
        · refine lv_ldc hC.1 hC.2.1 hC.2.2.2.1 (hC.2.2.2.2 _ (kt_in tk_X3_98 rfl)) dX3_remove_59 ?_
          exact krI hC hr hlk hW (by simp (config := {decide := true}) only [kif_true, kif_false, kb, kup_eq, kup_f, kup_i, not_true_eq_false, not_false_eq_true, and_true, true_and, and_false, false_and, and_self, or_true, true_or, or_false, false_or, a_remove, t_remove, kRmd, kRmn, kRmT, kGoT, c_2, c_8, c_31, c_47]) (by simp (config := {decide := true}) only [kif_true, kif_false, kb, kup_eq, kup_f, kup_i, not_true_eq_false, not_false_eq_true, and_true, true_and, and_false, false_and, and_self, or_true, true_or, or_false, false_or, a_remove, t_remove, kRmd, kRmn, kRmT, kGoT, c_2, c_8, c_31, c_47]) rfl rfl dX3_remove_61
        · refine lv_aload_n hC.1 hC.2.1 dX3_remove_50 rfl (lv_at hl 2 rfl) ?_
          refine lv_aload hC.1 hC.2.1 dX3_remove_51 (lv_at hl 0 rfl) ?_
          refine keSi (rest := []) (kcS hC hK hN hW (c_X3_canWrite l D G L hL T N q (tn p) (kP.lt c_2) (tn (T 20 (tn o))) (kO.lt c_31)) (kgoodS tm_X3_201 ts_yX3_canWrite tz_X3 tc_yX3_canWrite) ⟨rfl, by decide, by decide, (show Option.map _ (parseMethodDescriptor yX3_canWrite.desc) = some 2 from by decide +kernel)⟩ ⟨Nat.le_of_ble_eq_true rfl, Nat.le_of_ble_eq_true rfl⟩ hl.1 rfl (Nat.le_of_ble_eq_true rfl) ⟨Nat.le_refl _, Nat.le_refl _⟩ dX3_remove_53) ?_
          refine kif_ne (tgt := 62) hC.1 hC.2.1 dX3_remove_56 (by decide) (fun c_56 => ?_) (fun c_56 => ?_)
          · refine lv_aload_n hC.1 hC.2.1 dX3_remove_62 rfl (lv_at hl 3 rfl) ?_
            refine lv_aload_n hC.1 hC.2.1 dX3_remove_63 rfl (lv_at hl 3 rfl) ?_
            refine lv_iload_n hC.1 hC.2.1 dX3_remove_64 rfl (lv_at hl 5 rfl) ?_
            refine keSi (rest := [.ref (L 0)]) (kcV 0 hC hK hN hW (c_X3_sizeOfTree l D G L hL T N q o) (kgoodV tm_X3_204 ti_yX3_sizeOfTree te_yX3_sizeOfTree tz_X3 tc_yX3_sizeOfTree) kw_m rfl ⟨rfl, by decide, by decide, (show Option.map _ (parseMethodDescriptor yX3_sizeOfTree.desc) = some 1 from by decide +kernel)⟩ ⟨Nat.le_of_ble_eq_true rfl, Nat.le_of_ble_eq_true rfl⟩ hl.1 rfl (Nat.le_of_ble_eq_true rfl) ⟨Nat.le_refl _, Nat.le_refl _⟩ dX3_remove_65) ?_
            refine lv_iconst (v := 1) hC.1 hC.2.1 dX3_remove_68 (by decide) ?_
            refine lv_iadd hC.1 hC.2.1 dX3_remove_69 ?_
            refine keQi (rest := []) (kcV 0 hC hK hN hW (c_X3_enter l D G L hL T N q ((ksum (kszf T o) 60) + 1)) (kgoodV tm_X3_207 ti_yX3_enter te_yX3_enter tz_X3 tc_yX3_enter) kw_m rfl ⟨rfl, by decide, by decide, (show Option.map _ (parseMethodDescriptor yX3_enter.desc) = some 1 from by decide +kernel)⟩ ⟨Nat.le_of_ble_eq_true rfl, Nat.le_of_ble_eq_true rfl⟩ hl.1 rfl (Nat.le_of_ble_eq_true rfl) ⟨Nat.le_refl _, Nat.le_refl _⟩ dX3_remove_70) hW (fun H locs (hW : kWd D G L (kA L) zs.heap (kGoT T ((ksum (kszf T o) 60) + 1)) N q H locs) => ?_)
            refine kif_eq (tgt := 81) hC.1 hC.2.1 dX3_remove_73 (by decide) (fun c_73 => ?_) (fun c_73 => ?_)
            · refine lv_aload_n hC.1 hC.2.1 dX3_remove_81 rfl (lv_at hl 3 rfl) ?_
              refine lv_iconst (v := 1) hC.1 hC.2.1 dX3_remove_82 (by decide) ?_
              refine keQi (rest := []) (kcV 0 hC hK hN hW (c_X3_outcome l D G L hL (kGoT T ((ksum (kszf T o) 60) + 1)) N q 1) (kgoodV tm_X3_213 ti_yX3_outcome te_yX3_outcome tz_X3 tc_yX3_outcome) kw_m rfl ⟨rfl, by decide, by decide, (show Option.map _ (parseMethodDescriptor yX3_outcome.desc) = some 1 from by decide +kernel)⟩ ⟨Nat.le_of_ble_eq_true rfl, Nat.le_of_ble_eq_true rfl⟩ hl.1 rfl (Nat.le_of_ble_eq_true rfl) ⟨Nat.le_refl _, Nat.le_refl _⟩ dX3_remove_83) hW (fun H locs (hW : kWd D G L (kA L) zs.heap (kOt (kGoT T ((ksum (kszf T o) 60) + 1))) N q H locs) => ?_)
              exact krI hC hr hlk hW (by simp (config := {decide := true}) only [kif_true, kif_false, kb, kup_eq, kup_f, kup_i, not_true_eq_false, not_false_eq_true, and_true, true_and, and_false, false_and, and_self, or_true, true_or, or_false, false_or, a_remove, t_remove, kRmd, kRmn, kRmT, kGoT, c_2, c_8, c_31, c_47, c_56, c_73]) (by simp (config := {decide := true}) only [kif_true, kif_false, kb, kup_eq, kup_f, kup_i, not_true_eq_false, not_false_eq_true, and_true, true_and, and_false, false_and, and_self, or_true, true_or, or_false, false_or, a_remove, t_remove, kRmd, kRmn, kRmT, kGoT, c_2, c_8, c_31, c_47, c_56, c_73]) rfl rfl dX3_remove_86
            · refine lv_aload_n hC.1 hC.2.1 dX3_remove_76 rfl (lv_at hl 3 rfl) ?_
              refine lv_iload_n hC.1 hC.2.1 dX3_remove_77 rfl (lv_at hl 5 rfl) ?_
              refine keQv (rest := []) (kcV 0 hC hK hN hW (c_X3_removeTree l D G L hL (kGoT T ((ksum (kszf T o) 60) + 1)) N q o c_8.1 (kO.lt c_8)) (kgoodV tm_X3_210 ti_yX3_removeTree te_yX3_removeTree tz_X3 tc_yX3_removeTree) kw_m rfl ⟨rfl, by decide, by decide, (show Option.map _ (parseMethodDescriptor yX3_removeTree.desc) = some 1 from by decide +kernel)⟩ ⟨Nat.le_of_ble_eq_true rfl, Nat.le_of_ble_eq_true rfl⟩ hl.1 rfl (Nat.le_of_ble_eq_true rfl) ⟨Nat.le_refl _, Nat.le_refl _⟩ dX3_remove_78) hW (fun H locs (hW : kWd D G L (kA L) zs.heap (kfT (krtg o) (kGoT T ((ksum (kszf T o) 60) + 1)) (60 - tn o)) N q H locs) => ?_)
              refine lv_aload_n hC.1 hC.2.1 dX3_remove_81 rfl (lv_at hl 3 rfl) ?_
              refine lv_iconst (v := 1) hC.1 hC.2.1 dX3_remove_82 (by decide) ?_
              refine keQi (rest := []) (kcV 0 hC hK hN hW (c_X3_outcome l D G L hL (kfT (krtg o) (kGoT T ((ksum (kszf T o) 60) + 1)) (60 - tn o)) N q 1) (kgoodV tm_X3_213 ti_yX3_outcome te_yX3_outcome tz_X3 tc_yX3_outcome) kw_m rfl ⟨rfl, by decide, by decide, (show Option.map _ (parseMethodDescriptor yX3_outcome.desc) = some 1 from by decide +kernel)⟩ ⟨Nat.le_of_ble_eq_true rfl, Nat.le_of_ble_eq_true rfl⟩ hl.1 rfl (Nat.le_of_ble_eq_true rfl) ⟨Nat.le_refl _, Nat.le_refl _⟩ dX3_remove_83) hW (fun H locs (hW : kWd D G L (kA L) zs.heap (kOt (kfT (krtg o) (kGoT T ((ksum (kszf T o) 60) + 1)) (60 - tn o))) N q H locs) => ?_)
              exact krI hC hr hlk hW (by simp (config := {decide := true}) only [kif_true, kif_false, kb, kup_eq, kup_f, kup_i, not_true_eq_false, not_false_eq_true, and_true, true_and, and_false, false_and, and_self, or_true, true_or, or_false, false_or, a_remove, t_remove, kRmd, kRmn, kRmT, kGoT, c_2, c_8, c_31, c_47, c_56, c_73]) (by simp (config := {decide := true}) only [kif_true, kif_false, kb, kup_eq, kup_f, kup_i, not_true_eq_false, not_false_eq_true, and_true, true_and, and_false, false_and, and_self, or_true, true_or, or_false, false_or, a_remove, t_remove, kRmd, kRmn, kRmT, kGoT, c_2, c_8, c_31, c_47, c_56, c_73]) rfl rfl dX3_remove_86
          · refine lv_ldc hC.1 hC.2.1 hC.2.2.2.1 (hC.2.2.2.2 _ (kt_in tk_X3_98 rfl)) dX3_remove_59 ?_
            exact krI hC hr hlk hW (by simp (config := {decide := true}) only [kif_true, kif_false, kb, kup_eq, kup_f, kup_i, not_true_eq_false, not_false_eq_true, and_true, true_and, and_false, false_and, and_self, or_true, true_or, or_false, false_or, a_remove, t_remove, kRmd, kRmn, kRmT, kGoT, c_2, c_8, c_31, c_47, c_56]) (by simp (config := {decide := true}) only [kif_true, kif_false, kb, kup_eq, kup_f, kup_i, not_true_eq_false, not_false_eq_true, and_true, true_and, and_false, false_and, and_self, or_true, true_or, or_false, false_or, a_remove, t_remove, kRmd, kRmn, kRmT, kGoT, c_2, c_8, c_31, c_47, c_56]) rfl rfl dX3_remove_61
      · refine lv_astoreN (lv' := [(5, .null), (4, .ref (L (188 + (tn o)))), (3, .ref (L (4 + (tn p)))), (0, .ref (L 0)), (1, .int p), (2, .int o)]) hC.1 hC.2.1 dX3_remove_34 hl (by decide) rfl (fun ls hl => ?_)
        refine lv_aloadN hC.1 hC.2.1 dX3_remove_36 (lv_at hl 0 rfl) ?_
        refine lv_ifnullN (tgt := 59) hC.1 hC.2.1 dX3_remove_38 (by decide) ?_
        refine lv_ldc hC.1 hC.2.1 hC.2.2.2.1 (hC.2.2.2.2 _ (kt_in tk_X3_98 rfl)) dX3_remove_59 ?_
        exact krI hC hr hlk hW (by simp (config := {decide := true}) only [kif_true, kif_false, kb, kup_eq, kup_f, kup_i, not_true_eq_false, not_false_eq_true, and_true, true_and, and_false, false_and, and_self, or_true, true_or, or_false, false_or, a_remove, t_remove, kRmd, kRmn, kRmT, kGoT, c_2, c_8, c_31]) (by simp (config := {decide := true}) only [kif_true, kif_false, kb, kup_eq, kup_f, kup_i, not_true_eq_false, not_false_eq_true, and_true, true_and, and_false, false_and, and_self, or_true, true_or, or_false, false_or, a_remove, t_remove, kRmd, kRmn, kRmT, kGoT, c_2, c_8, c_31]) rfl rfl dX3_remove_61
    · refine lv_astoreN (lv' := [(4, .null), (3, .ref (L (4 + (tn p)))), (0, .ref (L 0)), (1, .int p), (2, .int o)]) hC.1 hC.2.1 dX3_remove_11 hl (by decide) rfl (fun ls hl => ?_)
      refine lv_aload_n hC.1 hC.2.1 dX3_remove_13 rfl (lv_at hl 1 rfl) ?_
      refine lv_ifnull hC.1 hC.2.1 dX3_remove_14 ?_
      refine lv_aloadN hC.1 hC.2.1 dX3_remove_17 (lv_at hl 0 rfl) ?_
      refine lv_ifnonnullN hC.1 hC.2.1 dX3_remove_19 ?_
      refine lv_ldc hC.1 hC.2.1 hC.2.2.2.1 (hC.2.2.2.2 _ (kt_in tk_X3_51 rfl)) dX3_remove_22 ?_
      exact krI hC hr hlk hW (by simp (config := {decide := true}) only [kif_true, kif_false, kb, kup_eq, kup_f, kup_i, not_true_eq_false, not_false_eq_true, and_true, true_and, and_false, false_and, and_self, or_true, true_or, or_false, false_or, a_remove, t_remove, kRmd, kRmn, kRmT, kGoT, c_2, c_8]) (by simp (config := {decide := true}) only [kif_true, kif_false, kb, kup_eq, kup_f, kup_i, not_true_eq_false, not_false_eq_true, and_true, true_and, and_false, false_and, and_self, or_true, true_or, or_false, false_or, a_remove, t_remove, kRmd, kRmn, kRmT, kGoT, c_2, c_8]) rfl rfl dX3_remove_24
  · refine lv_astore_nN (lv' := [(3, .null), (0, .ref (L 0)), (1, .int p), (2, .int o)]) hC.1 hC.2.1 dX3_remove_5 rfl hl (by decide) rfl (fun ls hl => ?_)
    refine lv_aload_n hC.1 hC.2.1 dX3_remove_6 rfl (lv_at hl 1 rfl) ?_
    refine lv_iload_n hC.1 hC.2.1 dX3_remove_7 rfl (lv_at hl 3 rfl) ?_
    refine keSq (rest := []) (kcV 0 hC hK hN hW (c_X3_objectAt l D G L hL T N q o) (kgoodV tm_X3_191 ti_yX3_objectAt te_yX3_objectAt tz_X3 tc_yX3_objectAt) kw_m rfl ⟨rfl, by decide, by decide, (show Option.map _ (parseMethodDescriptor yX3_objectAt.desc) = some 1 from by decide +kernel)⟩ ⟨Nat.le_of_ble_eq_true rfl, Nat.le_of_ble_eq_true rfl⟩ hl.1 rfl (Nat.le_of_ble_eq_true rfl) ⟨Nat.le_refl _, Nat.le_refl _⟩ dX3_remove_8) ?_
    refine kopt (P := kO T o) (fun c_8 => ?_) (fun c_8 => ?_)
    · refine lv_astore (lv' := [(4, .ref (L (188 + (tn o)))), (3, .null), (0, .ref (L 0)), (1, .int p), (2, .int o)]) hC.1 hC.2.1 dX3_remove_11 hl (by decide) rfl (fun ls hl => ?_)
      refine lv_aload_nN hC.1 hC.2.1 dX3_remove_13 rfl (lv_at hl 1 rfl) ?_
      refine lv_ifnullN (tgt := 22) hC.1 hC.2.1 dX3_remove_14 (by decide) ?_
      refine lv_ldc hC.1 hC.2.1 hC.2.2.2.1 (hC.2.2.2.2 _ (kt_in tk_X3_51 rfl)) dX3_remove_22 ?_
      exact krI hC hr hlk hW (by simp (config := {decide := true}) only [kif_true, kif_false, kb, kup_eq, kup_f, kup_i, not_true_eq_false, not_false_eq_true, and_true, true_and, and_false, false_and, and_self, or_true, true_or, or_false, false_or, a_remove, t_remove, kRmd, kRmn, kRmT, kGoT, c_2, c_8]) (by simp (config := {decide := true}) only [kif_true, kif_false, kb, kup_eq, kup_f, kup_i, not_true_eq_false, not_false_eq_true, and_true, true_and, and_false, false_and, and_self, or_true, true_or, or_false, false_or, a_remove, t_remove, kRmd, kRmn, kRmT, kGoT, c_2, c_8]) rfl rfl dX3_remove_24
    · refine lv_astoreN (lv' := [(4, .null), (3, .null), (0, .ref (L 0)), (1, .int p), (2, .int o)]) hC.1 hC.2.1 dX3_remove_11 hl (by decide) rfl (fun ls hl => ?_)
      refine lv_aload_nN hC.1 hC.2.1 dX3_remove_13 rfl (lv_at hl 1 rfl) ?_
      refine lv_ifnullN (tgt := 22) hC.1 hC.2.1 dX3_remove_14 (by decide) ?_
      refine lv_ldc hC.1 hC.2.1 hC.2.2.2.1 (hC.2.2.2.2 _ (kt_in tk_X3_51 rfl)) dX3_remove_22 ?_
      exact krI hC hr hlk hW (by simp (config := {decide := true}) only [kif_true, kif_false, kb, kup_eq, kup_f, kup_i, not_true_eq_false, not_false_eq_true, and_true, true_and, and_false, false_and, and_self, or_true, true_or, or_false, false_or, a_remove, t_remove, kRmd, kRmn, kRmT, kGoT, c_2, c_8]) (by simp (config := {decide := true}) only [kif_true, kif_false, kb, kup_eq, kup_f, kup_i, not_true_eq_false, not_false_eq_true, and_true, true_and, and_false, false_and, and_self, or_true, true_or, or_false, false_or, a_remove, t_remove, kRmd, kRmn, kRmT, kGoT, c_2, c_8]) rfl rfl dX3_remove_24
set_option maxHeartbeats 4000000 in
set_option maxRecDepth 100000 in
theorem c_X3_write (l : Launch) (D : va_G) (G : Nat → ClassId) (L : Nat → Nat) (hL : kL L) (T N : kT) (q : kQ) (p : Int32) (f : Int32) (i : Int32) (v : Int32) : kM l yX3_write cX3_write 8 (some .int) 5 116 (kPc D G L T N q [.ref (L 0), .int p, .int f, .int i, .int v]) (kQi D G L (a_write T p f i) (t_write T p f i) (n_write T N p f i v) q) (kA L) := by
  refine kBegin (by decide) (Nat.le_of_ble_eq_true rfl) ?_
  intro zp ze zs zm zargs zbelow zmeth zc hC hr hlk hB ls hl
  obtain ⟨hP, hK, hN⟩ := hB
  have hW : kWd D G L (kA L) zs.heap T N q zs.heap [] := kWd.start hL hP
  have hl : lv_has ls 8 [(0, .ref (L 0)), (1, .int p), (2, .int f), (3, .int i), (4, .int v)] := hl
  refine lv_aload_n hC.1 hC.2.1 dX3_write_0 rfl (lv_at hl 0 rfl) ?_
  refine lv_iload_n hC.1 hC.2.1 dX3_write_1 rfl (lv_at hl 1 rfl) ?_
  refine keSq (rest := []) (kcV 0 hC hK hN hW (c_X3_processAt l D G L hL T N q p) (kgoodV tm_X3_47 ti_yX3_processAt te_yX3_processAt tz_X3 tc_yX3_processAt) kw_m rfl ⟨rfl, by decide, by decide, (show Option.map _ (parseMethodDescriptor yX3_processAt.desc) = some 1 from by decide +kernel)⟩ ⟨Nat.le_of_ble_eq_true rfl, Nat.le_of_ble_eq_true rfl⟩ hl.1 rfl (Nat.le_of_ble_eq_true rfl) ⟨Nat.le_refl _, Nat.le_refl _⟩ dX3_write_2) ?_
  refine kopt (P := kP T p) (fun c_2 => ?_) (fun c_2 => ?_)
  · refine lv_astore (lv' := [(5, .ref (L (4 + (tn p)))), (0, .ref (L 0)), (1, .int p), (2, .int f), (3, .int i), (4, .int v)]) hC.1 hC.2.1 dX3_write_5 hl (by decide) rfl (fun ls hl => ?_)
    refine lv_aload_n hC.1 hC.2.1 dX3_write_7 rfl (lv_at hl 1 rfl) ?_
    refine lv_iload_n hC.1 hC.2.1 dX3_write_8 rfl (lv_at hl 3 rfl) ?_
    refine keSq (rest := []) (kcV 0 hC hK hN hW (c_X3_fileAt l D G L hL T N q f) (kgoodV tm_X3_216 ti_yX3_fileAt te_yX3_fileAt tz_X3 tc_yX3_fileAt) kw_m rfl ⟨rfl, by decide, by decide, (show Option.map _ (parseMethodDescriptor yX3_fileAt.desc) = some 1 from by decide +kernel)⟩ ⟨Nat.le_of_ble_eq_true rfl, Nat.le_of_ble_eq_true rfl⟩ hl.1 rfl (Nat.le_of_ble_eq_true rfl) ⟨Nat.le_refl _, Nat.le_refl _⟩ dX3_write_9) ?_
    refine kopt (P := kFl T f) (fun c_9 => ?_) (fun c_9 => ?_)
    · refine lv_astore (lv' := [(6, .ref (L (188 + (tn f)))), (5, .ref (L (4 + (tn p)))), (0, .ref (L 0)), (1, .int p), (2, .int f), (3, .int i), (4, .int v)]) hC.1 hC.2.1 dX3_write_12 hl (by decide) rfl (fun ls hl => ?_)
      refine lv_aload hC.1 hC.2.1 dX3_write_14 (lv_at hl 1 rfl) ?_
      refine lv_ifnull hC.1 hC.2.1 dX3_write_16 ?_
      refine lv_aload hC.1 hC.2.1 dX3_write_19 (lv_at hl 0 rfl) ?_
      refine lv_ifnonnull (tgt := 27) hC.1 hC.2.1 dX3_write_21 (by decide) ?_
      refine lv_iload_n hC.1 hC.2.1 dX3_write_27 rfl (lv_at hl 5 rfl) ?_
      refine lv_if_lt (tgt := 37) hC.1 hC.2.1 dX3_write_28 (by decide) (fun c_28 => ?_) (fun c_28 => ?_)
      · refine lv_ldc hC.1 hC.2.1 hC.2.2.2.1 (hC.2.2.2.2 _ (kt_in tk_X3_52 rfl)) dX3_write_37 ?_
        exact krI hC hr hlk hW (by simp (config := {decide := true}) only [kif_true, kif_false, kb, kup_eq, kup_f, kup_i, not_true_eq_false, not_false_eq_true, and_true, true_and, and_false, false_and, and_self, or_true, true_or, or_false, false_or, a_write, t_write, n_write, kWrg, c_2, c_9, c_28]) (by simp (config := {decide := true}) only [kif_true, kif_false, kb, kup_eq, kup_f, kup_i, not_true_eq_false, not_false_eq_true, and_true, true_and, and_false, false_and, and_self, or_true, true_or, or_false, false_or, a_write, t_write, n_write, kWrg, c_2, c_9, c_28]) (by simp (config := {decide := true}) only [kif_true, kif_false, kb, kup_eq, kup_f, kup_i, not_true_eq_false, not_false_eq_true, and_true, true_and, and_false, false_and, and_self, or_true, true_or, or_false, false_or, a_write, t_write, n_write, kWrg, c_2, c_9, c_28]) rfl dX3_write_39
      · refine lv_iload_n hC.1 hC.2.1 dX3_write_31 rfl (lv_at hl 5 rfl) ?_
        refine lv_bipush (v := 32) hC.1 hC.2.1 dX3_write_32 (by decide) ?_
        refine lv_icmp_lt (tgt := 40) hC.1 hC.2.1 dX3_write_34 (by decide) (fun c_34 => ?_) (fun c_34 => ?_)
        · refine lv_aload hC.1 hC.2.1 dX3_write_40 (lv_at hl 1 rfl) ?_
          refine lv_aload hC.1 hC.2.1 dX3_write_42 (lv_at hl 0 rfl) ?_
          refine keSi (rest := []) (kcS hC hK hN hW (c_X3_canWrite l D G L hL T N q (tn p) (kP.lt c_2) (tn f) (kFl.lt c_9)) (kgoodS tm_X3_201 ts_yX3_canWrite tz_X3 tc_yX3_canWrite) ⟨rfl, by decide, by decide, (show Option.map _ (parseMethodDescriptor yX3_canWrite.desc) = some 2 from by decide +kernel)⟩ ⟨Nat.le_of_ble_eq_true rfl, Nat.le_of_ble_eq_true rfl⟩ hl.1 rfl (Nat.le_of_ble_eq_true rfl) ⟨Nat.le_refl _, Nat.le_refl _⟩ dX3_write_44) ?_
          refine kif_ne (tgt := 53) hC.1 hC.2.1 dX3_write_47 (by decide) (fun c_47 => ?_) (fun c_47 => ?_)
          · refine lv_aload hC.1 hC.2.1 dX3_write_53 (lv_at hl 1 rfl) ?_
            refine lv_aload hC.1 hC.2.1 dX3_write_55 (lv_at hl 0 rfl) ?_
            refine keSi (rest := []) (kcS hC hK hN hW (c_X3_canRead l D G L hL T N q (tn p) (kP.lt c_2) (tn f) (kFl.lt c_9)) (kgoodS tm_X3_197 ts_yX3_canRead tz_X3 tc_yX3_canRead) ⟨rfl, by decide, by decide, (show Option.map _ (parseMethodDescriptor yX3_canRead.desc) = some 2 from by decide +kernel)⟩ ⟨Nat.le_of_ble_eq_true rfl, Nat.le_of_ble_eq_true rfl⟩ hl.1 rfl (Nat.le_of_ble_eq_true rfl) ⟨Nat.le_refl _, Nat.le_refl _⟩ dX3_write_57) ?_
            refine kif_ne (tgt := 67) hC.1 hC.2.1 dX3_write_60 (by decide) (fun c_60 => ?_) (fun c_60 => ?_)
            · refine lv_iconst (v := 0) hC.1 hC.2.1 dX3_write_67 (by decide) ?_
              refine lv_istore (lv' := [(7, .int 0), (6, .ref (L (188 + (tn f)))), (5, .ref (L (4 + (tn p)))), (0, .ref (L 0)), (1, .int p), (2, .int f), (3, .int i), (4, .int v)]) hC.1 hC.2.1 dX3_write_68 hl (by decide) rfl (fun ls hl => ?_)
              refine lv_iload_n hC.1 hC.2.1 dX3_write_70 rfl (lv_at hl 6 rfl) ?_
              refine lv_aload hC.1 hC.2.1 dX3_write_71 (lv_at hl 1 rfl) ?_
              refine kg1N hC hK hN hW (kFl.lt c_9) 8 (v := .int (T 25 (tn f))) rfl (by decide) tf_X3_219 dX3_write_73 ?_
              refine lv_icmp_le (tgt := 91) hC.1 hC.2.1 dX3_write_76 (by decide) (fun c_76 => ?_) (fun c_76 => ?_)
              · refine lv_aload_n hC.1 hC.2.1 dX3_write_91 rfl (lv_at hl 3 rfl) ?_
                refine lv_aload hC.1 hC.2.1 dX3_write_92 (lv_at hl 1 rfl) ?_
                refine lv_iload hC.1 hC.2.1 dX3_write_94 (lv_at hl 0 rfl) ?_
                refine lv_iload_n hC.1 hC.2.1 dX3_write_96 rfl (lv_at hl 6 rfl) ?_
                refine lv_iconst (v := 1) hC.1 hC.2.1 dX3_write_97 (by decide) ?_
                refine lv_iload hC.1 hC.2.1 dX3_write_98 (lv_at hl 7 rfl) ?_
                refine keQi (rest := []) (kcV 0 hC hK hN hW (c_X3_writeRun l D G L hL T N q (tn f) (kFl.lt c_9) 0 (Or.inl rfl) i 1 v (by decide)) (kgoodV tm_X3_222 ti_yX3_writeRun te_yX3_writeRun tz_X3 tc_yX3_writeRun) kw_m rfl ⟨rfl, by decide, by decide, (show Option.map _ (parseMethodDescriptor yX3_writeRun.desc) = some 5 from by decide +kernel)⟩ ⟨Nat.le_of_ble_eq_true rfl, Nat.le_of_ble_eq_true rfl⟩ hl.1 rfl (Nat.le_of_ble_eq_true rfl) ⟨Nat.le_refl _, Nat.le_refl _⟩ dX3_write_100) hW (fun H locs (hW : kWd D G L (kA L) zs.heap (kWrt T (tn f) i 1) (kWrn T N (tn f) i 1 v) q H locs) => ?_)
                exact krI hC hr hlk hW (by simp (config := {decide := true}) only [kif_true, kif_false, kb, kup_eq, kup_f, kup_i, not_true_eq_false, not_false_eq_true, and_true, true_and, and_false, false_and, and_self, or_true, true_or, or_false, false_or, a_write, t_write, n_write, kWrg, c_2, c_9, c_28, c_34, c_47, c_60, c_76]) (by simp (config := {decide := true}) only [kif_true, kif_false, kb, kup_eq, kup_f, kup_i, not_true_eq_false, not_false_eq_true, and_true, true_and, and_false, false_and, and_self, or_true, true_or, or_false, false_or, a_write, t_write, n_write, kWrg, c_2, c_9, c_28, c_34, c_47, c_60, c_76]) (by simp (config := {decide := true}) only [kif_true, kif_false, kb, kup_eq, kup_f, kup_i, not_true_eq_false, not_false_eq_true, and_true, true_and, and_false, false_and, and_self, or_true, true_or, or_false, false_or, a_write, t_write, n_write, kWrg, c_2, c_9, c_28, c_34, c_47, c_60, c_76]) rfl dX3_write_103
              · refine lv_iload hC.1 hC.2.1 dX3_write_79 (lv_at hl 0 rfl) ?_
                refine lv_if_eq (tgt := 88) hC.1 hC.2.1 dX3_write_81 (by decide) (fun c_81 => ?_) (fun c_81 => ?_)
                · refine lv_ldc hC.1 hC.2.1 hC.2.2.2.1 (hC.2.2.2.2 _ (kt_in tk_X3_52 rfl)) dX3_write_88 ?_
                  exact krI hC hr hlk hW (by simp (config := {decide := true}) only [kif_true, kif_false, kb, kup_eq, kup_f, kup_i, not_true_eq_false, not_false_eq_true, and_true, true_and, and_false, false_and, and_self, or_true, true_or, or_false, false_or, a_write, t_write, n_write, kWrg, c_2, c_9, c_28, c_34, c_47, c_60, c_76, c_81]) (by simp (config := {decide := true}) only [kif_true, kif_false, kb, kup_eq, kup_f, kup_i, not_true_eq_false, not_false_eq_true, and_true, true_and, and_false, false_and, and_self, or_true, true_or, or_false, false_or, a_write, t_write, n_write, kWrg, c_2, c_9, c_28, c_34, c_47, c_60, c_76, c_81]) (by simp (config := {decide := true}) only [kif_true, kif_false, kb, kup_eq, kup_f, kup_i, not_true_eq_false, not_false_eq_true, and_true, true_and, and_false, false_and, and_self, or_true, true_or, or_false, false_or, a_write, t_write, n_write, kWrg, c_2, c_9, c_28, c_34, c_47, c_60, c_76, c_81]) rfl dX3_write_90
                · exact absurd (by decide) c_81
            · refine lv_iconst (v := 1) hC.1 hC.2.1 dX3_write_63 (by decide) ?_
              refine lv_goto (tgt := 68) hC.1 hC.2.1 dX3_write_64 (by decide) ?_
              refine lv_istore (lv' := [(7, .int 1), (6, .ref (L (188 + (tn f)))), (5, .ref (L (4 + (tn p)))), (0, .ref (L 0)), (1, .int p), (2, .int f), (3, .int i), (4, .int v)]) hC.1 hC.2.1 dX3_write_68 hl (by decide) rfl (fun ls hl => ?_)
              refine lv_iload_n hC.1 hC.2.1 dX3_write_70 rfl (lv_at hl 6 rfl) ?_
              refine lv_aload hC.1 hC.2.1 dX3_write_71 (lv_at hl 1 rfl) ?_
              refine kg1N hC hK hN hW (kFl.lt c_9) 8 (v := .int (T 25 (tn f))) rfl (by decide) tf_X3_219 dX3_write_73 ?_
              refine lv_icmp_le (tgt := 91) hC.1 hC.2.1 dX3_write_76 (by decide) (fun c_76 => ?_) (fun c_76 => ?_)
              · refine lv_aload_n hC.1 hC.2.1 dX3_write_91 rfl (lv_at hl 3 rfl) ?_
                refine lv_aload hC.1 hC.2.1 dX3_write_92 (lv_at hl 1 rfl) ?_
                refine lv_iload hC.1 hC.2.1 dX3_write_94 (lv_at hl 0 rfl) ?_
                refine lv_iload_n hC.1 hC.2.1 dX3_write_96 rfl (lv_at hl 6 rfl) ?_
                refine lv_iconst (v := 1) hC.1 hC.2.1 dX3_write_97 (by decide) ?_
                refine lv_iload hC.1 hC.2.1 dX3_write_98 (lv_at hl 7 rfl) ?_
                refine keQi (rest := []) (kcV 0 hC hK hN hW (c_X3_writeRun l D G L hL T N q (tn f) (kFl.lt c_9) 1 (Or.inr rfl) i 1 v (by decide)) (kgoodV tm_X3_222 ti_yX3_writeRun te_yX3_writeRun tz_X3 tc_yX3_writeRun) kw_m rfl ⟨rfl, by decide, by decide, (show Option.map _ (parseMethodDescriptor yX3_writeRun.desc) = some 5 from by decide +kernel)⟩ ⟨Nat.le_of_ble_eq_true rfl, Nat.le_of_ble_eq_true rfl⟩ hl.1 rfl (Nat.le_of_ble_eq_true rfl) ⟨Nat.le_refl _, Nat.le_refl _⟩ dX3_write_100) hW (fun H locs (hW : kWd D G L (kA L) zs.heap (kWrt T (tn f) i 1) (kWrn T N (tn f) i 1 v) q H locs) => ?_)
                exact krI hC hr hlk hW (by simp (config := {decide := true}) only [kif_true, kif_false, kb, kup_eq, kup_f, kup_i, not_true_eq_false, not_false_eq_true, and_true, true_and, and_false, false_and, and_self, or_true, true_or, or_false, false_or, a_write, t_write, n_write, kWrg, c_2, c_9, c_28, c_34, c_47, c_60, c_76]) (by simp (config := {decide := true}) only [kif_true, kif_false, kb, kup_eq, kup_f, kup_i, not_true_eq_false, not_false_eq_true, and_true, true_and, and_false, false_and, and_self, or_true, true_or, or_false, false_or, a_write, t_write, n_write, kWrg, c_2, c_9, c_28, c_34, c_47, c_60, c_76]) (by simp (config := {decide := true}) only [kif_true, kif_false, kb, kup_eq, kup_f, kup_i, not_true_eq_false, not_false_eq_true, and_true, true_and, and_false, false_and, and_self, or_true, true_or, or_false, false_or, a_write, t_write, n_write, kWrg, c_2, c_9, c_28, c_34, c_47, c_60, c_76]) rfl dX3_write_103
              · refine lv_iload hC.1 hC.2.1 dX3_write_79 (lv_at hl 0 rfl) ?_
                refine lv_if_eq (tgt := 88) hC.1 hC.2.1 dX3_write_81 (by decide) (fun c_81 => ?_) (fun c_81 => ?_)
                · exact absurd c_81 (by decide)
                · refine lv_iconst (v := 1) hC.1 hC.2.1 dX3_write_84 (by decide) ?_
                  refine lv_goto (tgt := 90) hC.1 hC.2.1 dX3_write_85 (by decide) ?_
                  exact krI hC hr hlk hW (by simp (config := {decide := true}) only [kif_true, kif_false, kb, kup_eq, kup_f, kup_i, not_true_eq_false, not_false_eq_true, and_true, true_and, and_false, false_and, and_self, or_true, true_or, or_false, false_or, a_write, t_write, n_write, kWrg, c_2, c_9, c_28, c_34, c_47, c_60, c_76, c_81]) (by simp (config := {decide := true}) only [kif_true, kif_false, kb, kup_eq, kup_f, kup_i, not_true_eq_false, not_false_eq_true, and_true, true_and, and_false, false_and, and_self, or_true, true_or, or_false, false_or, a_write, t_write, n_write, kWrg, c_2, c_9, c_28, c_34, c_47, c_60, c_76, c_81]) (by simp (config := {decide := true}) only [kif_true, kif_false, kb, kup_eq, kup_f, kup_i, not_true_eq_false, not_false_eq_true, and_true, true_and, and_false, false_and, and_self, or_true, true_or, or_false, false_or, a_write, t_write, n_write, kWrg, c_2, c_9, c_28, c_34, c_47, c_60, c_76, c_81]) rfl dX3_write_90
          · refine lv_ldc hC.1 hC.2.1 hC.2.2.2.1 (hC.2.2.2.2 _ (kt_in tk_X3_98 rfl)) dX3_write_50 ?_
            exact krI hC hr hlk hW (by simp (config := {decide := true}) only [kif_true, kif_false, kb, kup_eq, kup_f, kup_i, not_true_eq_false, not_false_eq_true, and_true, true_and, and_false, false_and, and_self, or_true, true_or, or_false, false_or, a_write, t_write, n_write, kWrg, c_2, c_9, c_28, c_34, c_47]) (by simp (config := {decide := true}) only [kif_true, kif_false, kb, kup_eq, kup_f, kup_i, not_true_eq_false, not_false_eq_true, and_true, true_and, and_false, false_and, and_self, or_true, true_or, or_false, false_or, a_write, t_write, n_write, kWrg, c_2, c_9, c_28, c_34, c_47]) (by simp (config := {decide := true}) only [kif_true, kif_false, kb, kup_eq, kup_f, kup_i, not_true_eq_false, not_false_eq_true, and_true, true_and, and_false, false_and, and_self, or_true, true_or, or_false, false_or, a_write, t_write, n_write, kWrg, c_2, c_9, c_28, c_34, c_47]) rfl dX3_write_52
        · refine lv_ldc hC.1 hC.2.1 hC.2.2.2.1 (hC.2.2.2.2 _ (kt_in tk_X3_52 rfl)) dX3_write_37 ?_
          exact krI hC hr hlk hW (by simp (config := {decide := true}) only [kif_true, kif_false, kb, kup_eq, kup_f, kup_i, not_true_eq_false, not_false_eq_true, and_true, true_and, and_false, false_and, and_self, or_true, true_or, or_false, false_or, a_write, t_write, n_write, kWrg, c_2, c_9, c_28, c_34]) (by simp (config := {decide := true}) only [kif_true, kif_false, kb, kup_eq, kup_f, kup_i, not_true_eq_false, not_false_eq_true, and_true, true_and, and_false, false_and, and_self, or_true, true_or, or_false, false_or, a_write, t_write, n_write, kWrg, c_2, c_9, c_28, c_34]) (by simp (config := {decide := true}) only [kif_true, kif_false, kb, kup_eq, kup_f, kup_i, not_true_eq_false, not_false_eq_true, and_true, true_and, and_false, false_and, and_self, or_true, true_or, or_false, false_or, a_write, t_write, n_write, kWrg, c_2, c_9, c_28, c_34]) rfl dX3_write_39
    · refine lv_astoreN (lv' := [(6, .null), (5, .ref (L (4 + (tn p)))), (0, .ref (L 0)), (1, .int p), (2, .int f), (3, .int i), (4, .int v)]) hC.1 hC.2.1 dX3_write_12 hl (by decide) rfl (fun ls hl => ?_)
      refine lv_aload hC.1 hC.2.1 dX3_write_14 (lv_at hl 1 rfl) ?_
      refine lv_ifnull hC.1 hC.2.1 dX3_write_16 ?_
      refine lv_aloadN hC.1 hC.2.1 dX3_write_19 (lv_at hl 0 rfl) ?_
      refine lv_ifnonnullN hC.1 hC.2.1 dX3_write_21 ?_
      refine lv_ldc hC.1 hC.2.1 hC.2.2.2.1 (hC.2.2.2.2 _ (kt_in tk_X3_51 rfl)) dX3_write_24 ?_
      exact krI hC hr hlk hW (by simp (config := {decide := true}) only [kif_true, kif_false, kb, kup_eq, kup_f, kup_i, not_true_eq_false, not_false_eq_true, and_true, true_and, and_false, false_and, and_self, or_true, true_or, or_false, false_or, a_write, t_write, n_write, kWrg, c_2, c_9]) (by simp (config := {decide := true}) only [kif_true, kif_false, kb, kup_eq, kup_f, kup_i, not_true_eq_false, not_false_eq_true, and_true, true_and, and_false, false_and, and_self, or_true, true_or, or_false, false_or, a_write, t_write, n_write, kWrg, c_2, c_9]) (by simp (config := {decide := true}) only [kif_true, kif_false, kb, kup_eq, kup_f, kup_i, not_true_eq_false, not_false_eq_true, and_true, true_and, and_false, false_and, and_self, or_true, true_or, or_false, false_or, a_write, t_write, n_write, kWrg, c_2, c_9]) rfl dX3_write_26
  · refine lv_astoreN (lv' := [(5, .null), (0, .ref (L 0)), (1, .int p), (2, .int f), (3, .int i), (4, .int v)]) hC.1 hC.2.1 dX3_write_5 hl (by decide) rfl (fun ls hl => ?_)
    refine lv_aload_n hC.1 hC.2.1 dX3_write_7 rfl (lv_at hl 1 rfl) ?_
    refine lv_iload_n hC.1 hC.2.1 dX3_write_8 rfl (lv_at hl 3 rfl) ?_
    refine keSq (rest := []) (kcV 0 hC hK hN hW (c_X3_fileAt l D G L hL T N q f) (kgoodV tm_X3_216 ti_yX3_fileAt te_yX3_fileAt tz_X3 tc_yX3_fileAt) kw_m rfl ⟨rfl, by decide, by decide, (show Option.map _ (parseMethodDescriptor yX3_fileAt.desc) = some 1 from by decide +kernel)⟩ ⟨Nat.le_of_ble_eq_true rfl, Nat.le_of_ble_eq_true rfl⟩ hl.1 rfl (Nat.le_of_ble_eq_true rfl) ⟨Nat.le_refl _, Nat.le_refl _⟩ dX3_write_9) ?_
    refine kopt (P := kFl T f) (fun c_9 => ?_) (fun c_9 => ?_)
    · refine lv_astore (lv' := [(6, .ref (L (188 + (tn f)))), (5, .null), (0, .ref (L 0)), (1, .int p), (2, .int f), (3, .int i), (4, .int v)]) hC.1 hC.2.1 dX3_write_12 hl (by decide) rfl (fun ls hl => ?_)
      refine lv_aloadN hC.1 hC.2.1 dX3_write_14 (lv_at hl 1 rfl) ?_
      refine lv_ifnullN (tgt := 24) hC.1 hC.2.1 dX3_write_16 (by decide) ?_
      refine lv_ldc hC.1 hC.2.1 hC.2.2.2.1 (hC.2.2.2.2 _ (kt_in tk_X3_51 rfl)) dX3_write_24 ?_
      exact krI hC hr hlk hW (by simp (config := {decide := true}) only [kif_true, kif_false, kb, kup_eq, kup_f, kup_i, not_true_eq_false, not_false_eq_true, and_true, true_and, and_false, false_and, and_self, or_true, true_or, or_false, false_or, a_write, t_write, n_write, kWrg, c_2, c_9]) (by simp (config := {decide := true}) only [kif_true, kif_false, kb, kup_eq, kup_f, kup_i, not_true_eq_false, not_false_eq_true, and_true, true_and, and_false, false_and, and_self, or_true, true_or, or_false, false_or, a_write, t_write, n_write, kWrg, c_2, c_9]) (by simp (config := {decide := true}) only [kif_true, kif_false, kb, kup_eq, kup_f, kup_i, not_true_eq_false, not_false_eq_true, and_true, true_and, and_false, false_and, and_self, or_true, true_or, or_false, false_or, a_write, t_write, n_write, kWrg, c_2, c_9]) rfl dX3_write_26
    · refine lv_astoreN (lv' := [(6, .null), (5, .null), (0, .ref (L 0)), (1, .int p), (2, .int f), (3, .int i), (4, .int v)]) hC.1 hC.2.1 dX3_write_12 hl (by decide) rfl (fun ls hl => ?_)
      refine lv_aloadN hC.1 hC.2.1 dX3_write_14 (lv_at hl 1 rfl) ?_
      refine lv_ifnullN (tgt := 24) hC.1 hC.2.1 dX3_write_16 (by decide) ?_
      refine lv_ldc hC.1 hC.2.1 hC.2.2.2.1 (hC.2.2.2.2 _ (kt_in tk_X3_51 rfl)) dX3_write_24 ?_
      exact krI hC hr hlk hW (by simp (config := {decide := true}) only [kif_true, kif_false, kb, kup_eq, kup_f, kup_i, not_true_eq_false, not_false_eq_true, and_true, true_and, and_false, false_and, and_self, or_true, true_or, or_false, false_or, a_write, t_write, n_write, kWrg, c_2, c_9]) (by simp (config := {decide := true}) only [kif_true, kif_false, kb, kup_eq, kup_f, kup_i, not_true_eq_false, not_false_eq_true, and_true, true_and, and_false, false_and, and_self, or_true, true_or, or_false, false_or, a_write, t_write, n_write, kWrg, c_2, c_9]) (by simp (config := {decide := true}) only [kif_true, kif_false, kb, kup_eq, kup_f, kup_i, not_true_eq_false, not_false_eq_true, and_true, true_and, and_false, false_and, and_self, or_true, true_or, or_false, false_or, a_write, t_write, n_write, kWrg, c_2, c_9]) rfl dX3_write_26
set_option maxHeartbeats 4000000 in
set_option maxRecDepth 100000 in
theorem c_X3_append (l : Launch) (D : va_G) (G : Nat → ClassId) (L : Nat → Nat) (hL : kL L) (T N : kT) (q : kQ) (p : Int32) (f : Int32) (n : Int32) (v : Int32) : kM l yX3_append cX3_append 7 (some .int) 5 116 (kPc D G L T N q [.ref (L 0), .int p, .int f, .int n, .int v]) (kQi D G L (a_append T p f n) (t_append T p f n) (n_append T N p f n v) q) (kA L) := by
  refine kBegin (by decide) (Nat.le_of_ble_eq_true rfl) ?_
  intro zp ze zs zm zargs zbelow zmeth zc hC hr hlk hB ls hl
  obtain ⟨hP, hK, hN⟩ := hB
  have hW : kWd D G L (kA L) zs.heap T N q zs.heap [] := kWd.start hL hP
  have hl : lv_has ls 7 [(0, .ref (L 0)), (1, .int p), (2, .int f), (3, .int n), (4, .int v)] := hl
  refine lv_aload_n hC.1 hC.2.1 dX3_append_0 rfl (lv_at hl 0 rfl) ?_
  refine lv_iload_n hC.1 hC.2.1 dX3_append_1 rfl (lv_at hl 1 rfl) ?_
  refine keSq (rest := []) (kcV 0 hC hK hN hW (c_X3_processAt l D G L hL T N q p) (kgoodV tm_X3_47 ti_yX3_processAt te_yX3_processAt tz_X3 tc_yX3_processAt) kw_m rfl ⟨rfl, by decide, by decide, (show Option.map _ (parseMethodDescriptor yX3_processAt.desc) = some 1 from by decide +kernel)⟩ ⟨Nat.le_of_ble_eq_true rfl, Nat.le_of_ble_eq_true rfl⟩ hl.1 rfl (Nat.le_of_ble_eq_true rfl) ⟨Nat.le_refl _, Nat.le_refl _⟩ dX3_append_2) ?_
  refine kopt (P := kP T p) (fun c_2 => ?_) (fun c_2 => ?_)
  · refine lv_astore (lv' := [(5, .ref (L (4 + (tn p)))), (0, .ref (L 0)), (1, .int p), (2, .int f), (3, .int n), (4, .int v)]) hC.1 hC.2.1 dX3_append_5 hl (by decide) rfl (fun ls hl => ?_)
    refine lv_aload_n hC.1 hC.2.1 dX3_append_7 rfl (lv_at hl 1 rfl) ?_
    refine lv_iload_n hC.1 hC.2.1 dX3_append_8 rfl (lv_at hl 3 rfl) ?_
    refine keSq (rest := []) (kcV 0 hC hK hN hW (c_X3_fileAt l D G L hL T N q f) (kgoodV tm_X3_216 ti_yX3_fileAt te_yX3_fileAt tz_X3 tc_yX3_fileAt) kw_m rfl ⟨rfl, by decide, by decide, (show Option.map _ (parseMethodDescriptor yX3_fileAt.desc) = some 1 from by decide +kernel)⟩ ⟨Nat.le_of_ble_eq_true rfl, Nat.le_of_ble_eq_true rfl⟩ hl.1 rfl (Nat.le_of_ble_eq_true rfl) ⟨Nat.le_refl _, Nat.le_refl _⟩ dX3_append_9) ?_
    refine kopt (P := kFl T f) (fun c_9 => ?_) (fun c_9 => ?_)
    · refine lv_astore (lv' := [(6, .ref (L (188 + (tn f)))), (5, .ref (L (4 + (tn p)))), (0, .ref (L 0)), (1, .int p), (2, .int f), (3, .int n), (4, .int v)]) hC.1 hC.2.1 dX3_append_12 hl (by decide) rfl (fun ls hl => ?_)
      refine lv_aload hC.1 hC.2.1 dX3_append_14 (lv_at hl 1 rfl) ?_
      refine lv_ifnull hC.1 hC.2.1 dX3_append_16 ?_
      refine lv_aload hC.1 hC.2.1 dX3_append_19 (lv_at hl 0 rfl) ?_
      refine lv_ifnonnull (tgt := 27) hC.1 hC.2.1 dX3_append_21 (by decide) ?_
      refine lv_iload_n hC.1 hC.2.1 dX3_append_27 rfl (lv_at hl 5 rfl) ?_
      refine lv_iconst (v := 1) hC.1 hC.2.1 dX3_append_28 (by decide) ?_
      refine lv_icmp_lt (tgt := 38) hC.1 hC.2.1 dX3_append_29 (by decide) (fun c_29 => ?_) (fun c_29 => ?_)
      · refine lv_ldc hC.1 hC.2.1 hC.2.2.2.1 (hC.2.2.2.2 _ (kt_in tk_X3_52 rfl)) dX3_append_38 ?_
        exact krI hC hr hlk hW (by simp (config := {decide := true}) only [kif_true, kif_false, kb, kup_eq, kup_f, kup_i, not_true_eq_false, not_false_eq_true, and_true, true_and, and_false, false_and, and_self, or_true, true_or, or_false, false_or, a_append, t_append, n_append, kApg, c_2, c_9, c_29]) (by simp (config := {decide := true}) only [kif_true, kif_false, kb, kup_eq, kup_f, kup_i, not_true_eq_false, not_false_eq_true, and_true, true_and, and_false, false_and, and_self, or_true, true_or, or_false, false_or, a_append, t_append, n_append, kApg, c_2, c_9, c_29]) (by simp (config := {decide := true}) only [kif_true, kif_false, kb, kup_eq, kup_f, kup_i, not_true_eq_false, not_false_eq_true, and_true, true_and, and_false, false_and, and_self, or_true, true_or, or_false, false_or, a_append, t_append, n_append, kApg, c_2, c_9, c_29]) rfl dX3_append_40
      · refine lv_iload_n hC.1 hC.2.1 dX3_append_32 rfl (lv_at hl 5 rfl) ?_
        refine lv_bipush (v := 8) hC.1 hC.2.1 dX3_append_33 (by decide) ?_
        refine lv_icmp_le (tgt := 41) hC.1 hC.2.1 dX3_append_35 (by decide) (fun c_35 => ?_) (fun c_35 => ?_)
        · refine lv_aload hC.1 hC.2.1 dX3_append_41 (lv_at hl 1 rfl) ?_
          refine lv_aload hC.1 hC.2.1 dX3_append_43 (lv_at hl 0 rfl) ?_
          refine keSi (rest := []) (kcS hC hK hN hW (c_X3_canWrite l D G L hL T N q (tn p) (kP.lt c_2) (tn f) (kFl.lt c_9)) (kgoodS tm_X3_201 ts_yX3_canWrite tz_X3 tc_yX3_canWrite) ⟨rfl, by decide, by decide, (show Option.map _ (parseMethodDescriptor yX3_canWrite.desc) = some 2 from by decide +kernel)⟩ ⟨Nat.le_of_ble_eq_true rfl, Nat.le_of_ble_eq_true rfl⟩ hl.1 rfl (Nat.le_of_ble_eq_true rfl) ⟨Nat.le_refl _, Nat.le_refl _⟩ dX3_append_45) ?_
          refine kif_ne (tgt := 54) hC.1 hC.2.1 dX3_append_48 (by decide) (fun c_48 => ?_) (fun c_48 => ?_)
          · refine lv_aload_n hC.1 hC.2.1 dX3_append_54 rfl (lv_at hl 2 rfl) ?_
            refine lv_aload hC.1 hC.2.1 dX3_append_55 (lv_at hl 0 rfl) ?_
            refine lv_aload hC.1 hC.2.1 dX3_append_57 (lv_at hl 1 rfl) ?_
            refine lv_aload hC.1 hC.2.1 dX3_append_59 (lv_at hl 0 rfl) ?_
            refine keSi (rest := [.ref (L (188 + (tn f))), .ref (L 0)]) (kcS hC hK hN hW (c_X3_canRead l D G L hL T N q (tn p) (kP.lt c_2) (tn f) (kFl.lt c_9)) (kgoodS tm_X3_197 ts_yX3_canRead tz_X3 tc_yX3_canRead) ⟨rfl, by decide, by decide, (show Option.map _ (parseMethodDescriptor yX3_canRead.desc) = some 2 from by decide +kernel)⟩ ⟨Nat.le_of_ble_eq_true rfl, Nat.le_of_ble_eq_true rfl⟩ hl.1 rfl (Nat.le_of_ble_eq_true rfl) ⟨Nat.le_refl _, Nat.le_refl _⟩ dX3_append_61) ?_
            refine kif_ne (tgt := 71) hC.1 hC.2.1 dX3_append_64 (by decide) (fun c_64 => ?_) (fun c_64 => ?_)
            · refine lv_iconst (v := 0) hC.1 hC.2.1 dX3_append_71 (by decide) ?_
              refine lv_aload hC.1 hC.2.1 dX3_append_72 (lv_at hl 0 rfl) ?_
              refine kg1N hC hK hN hW (kFl.lt c_9) 8 (v := .int (T 25 (tn f))) rfl (by decide) tf_X3_219 dX3_append_74 ?_
              refine lv_iload_n hC.1 hC.2.1 dX3_append_77 rfl (lv_at hl 5 rfl) ?_
              refine lv_iload hC.1 hC.2.1 dX3_append_78 (lv_at hl 6 rfl) ?_
              refine keQi (rest := []) (kcV 0 hC hK hN hW (c_X3_writeRun l D G L hL T N q (tn f) (kFl.lt c_9) 0 (Or.inl rfl) (T 25 (tn f)) n v (kn1 c_29)) (kgoodV tm_X3_222 ti_yX3_writeRun te_yX3_writeRun tz_X3 tc_yX3_writeRun) kw_m rfl ⟨rfl, by decide, by decide, (show Option.map _ (parseMethodDescriptor yX3_writeRun.desc) = some 5 from by decide +kernel)⟩ ⟨Nat.le_of_ble_eq_true rfl, Nat.le_of_ble_eq_true rfl⟩ hl.1 rfl (Nat.le_of_ble_eq_true rfl) ⟨Nat.le_refl _, Nat.le_refl _⟩ dX3_append_80) hW (fun H locs (hW : kWd D G L (kA L) zs.heap (kWrt T (tn f) (T 25 (tn f)) n) (kWrn T N (tn f) (T 25 (tn f)) n v) q H locs) => ?_)
              exact krI hC hr hlk hW (by simp (config := {decide := true}) only [kif_true, kif_false, kb, kup_eq, kup_f, kup_i, not_true_eq_false, not_false_eq_true, and_true, true_and, and_false, false_and, and_self, or_true, true_or, or_false, false_or, a_append, t_append, n_append, kApg, c_2, c_9, c_29, c_35, c_48, c_64]) (by simp (config := {decide := true}) only [kif_true, kif_false, kb, kup_eq, kup_f, kup_i, not_true_eq_false, not_false_eq_true, and_true, true_and, and_false, false_and, and_self, or_true, true_or, or_false, false_or, a_append, t_append, n_append, kApg, c_2, c_9, c_29, c_35, c_48, c_64]) (by simp (config := {decide := true}) only [kif_true, kif_false, kb, kup_eq, kup_f, kup_i, not_true_eq_false, not_false_eq_true, and_true, true_and, and_false, false_and, and_self, or_true, true_or, or_false, false_or, a_append, t_append, n_append, kApg, c_2, c_9, c_29, c_35, c_48, c_64]) rfl dX3_append_83
            · refine lv_iconst (v := 1) hC.1 hC.2.1 dX3_append_67 (by decide) ?_
              refine lv_goto (tgt := 72) hC.1 hC.2.1 dX3_append_68 (by decide) ?_
              refine lv_aload hC.1 hC.2.1 dX3_append_72 (lv_at hl 0 rfl) ?_
              refine kg1N hC hK hN hW (kFl.lt c_9) 8 (v := .int (T 25 (tn f))) rfl (by decide) tf_X3_219 dX3_append_74 ?_
              refine lv_iload_n hC.1 hC.2.1 dX3_append_77 rfl (lv_at hl 5 rfl) ?_
              refine lv_iload hC.1 hC.2.1 dX3_append_78 (lv_at hl 6 rfl) ?_
              refine keQi (rest := []) (kcV 0 hC hK hN hW (c_X3_writeRun l D G L hL T N q (tn f) (kFl.lt c_9) 1 (Or.inr rfl) (T 25 (tn f)) n v (kn1 c_29)) (kgoodV tm_X3_222 ti_yX3_writeRun te_yX3_writeRun tz_X3 tc_yX3_writeRun) kw_m rfl ⟨rfl, by decide, by decide, (show Option.map _ (parseMethodDescriptor yX3_writeRun.desc) = some 5 from by decide +kernel)⟩ ⟨Nat.le_of_ble_eq_true rfl, Nat.le_of_ble_eq_true rfl⟩ hl.1 rfl (Nat.le_of_ble_eq_true rfl) ⟨Nat.le_refl _, Nat.le_refl _⟩ dX3_append_80) hW (fun H locs (hW : kWd D G L (kA L) zs.heap (kWrt T (tn f) (T 25 (tn f)) n) (kWrn T N (tn f) (T 25 (tn f)) n v) q H locs) => ?_)
              exact krI hC hr hlk hW (by simp (config := {decide := true}) only [kif_true, kif_false, kb, kup_eq, kup_f, kup_i, not_true_eq_false, not_false_eq_true, and_true, true_and, and_false, false_and, and_self, or_true, true_or, or_false, false_or, a_append, t_append, n_append, kApg, c_2, c_9, c_29, c_35, c_48, c_64]) (by simp (config := {decide := true}) only [kif_true, kif_false, kb, kup_eq, kup_f, kup_i, not_true_eq_false, not_false_eq_true, and_true, true_and, and_false, false_and, and_self, or_true, true_or, or_false, false_or, a_append, t_append, n_append, kApg, c_2, c_9, c_29, c_35, c_48, c_64]) (by simp (config := {decide := true}) only [kif_true, kif_false, kb, kup_eq, kup_f, kup_i, not_true_eq_false, not_false_eq_true, and_true, true_and, and_false, false_and, and_self, or_true, true_or, or_false, false_or, a_append, t_append, n_append, kApg, c_2, c_9, c_29, c_35, c_48, c_64]) rfl dX3_append_83
          · refine lv_ldc hC.1 hC.2.1 hC.2.2.2.1 (hC.2.2.2.2 _ (kt_in tk_X3_98 rfl)) dX3_append_51 ?_
            exact krI hC hr hlk hW (by simp (config := {decide := true}) only [kif_true, kif_false, kb, kup_eq, kup_f, kup_i, not_true_eq_false, not_false_eq_true, and_true, true_and, and_false, false_and, and_self, or_true, true_or, or_false, false_or, a_append, t_append, n_append, kApg, c_2, c_9, c_29, c_35, c_48]) (by simp (config := {decide := true}) only [kif_true, kif_false, kb, kup_eq, kup_f, kup_i, not_true_eq_false, not_false_eq_true, and_true, true_and, and_false, false_and, and_self, or_true, true_or, or_false, false_or, a_append, t_append, n_append, kApg, c_2, c_9, c_29, c_35, c_48]) (by simp (config := {decide := true}) only [kif_true, kif_false, kb, kup_eq, kup_f, kup_i, not_true_eq_false, not_false_eq_true, and_true, true_and, and_false, false_and, and_self, or_true, true_or, or_false, false_or, a_append, t_append, n_append, kApg, c_2, c_9, c_29, c_35, c_48]) rfl dX3_append_53
        · refine lv_ldc hC.1 hC.2.1 hC.2.2.2.1 (hC.2.2.2.2 _ (kt_in tk_X3_52 rfl)) dX3_append_38 ?_
          exact krI hC hr hlk hW (by simp (config := {decide := true}) only [kif_true, kif_false, kb, kup_eq, kup_f, kup_i, not_true_eq_false, not_false_eq_true, and_true, true_and, and_false, false_and, and_self, or_true, true_or, or_false, false_or, a_append, t_append, n_append, kApg, c_2, c_9, c_29, c_35]) (by simp (config := {decide := true}) only [kif_true, kif_false, kb, kup_eq, kup_f, kup_i, not_true_eq_false, not_false_eq_true, and_true, true_and, and_false, false_and, and_self, or_true, true_or, or_false, false_or, a_append, t_append, n_append, kApg, c_2, c_9, c_29, c_35]) (by simp (config := {decide := true}) only [kif_true, kif_false, kb, kup_eq, kup_f, kup_i, not_true_eq_false, not_false_eq_true, and_true, true_and, and_false, false_and, and_self, or_true, true_or, or_false, false_or, a_append, t_append, n_append, kApg, c_2, c_9, c_29, c_35]) rfl dX3_append_40
    · refine lv_astoreN (lv' := [(6, .null), (5, .ref (L (4 + (tn p)))), (0, .ref (L 0)), (1, .int p), (2, .int f), (3, .int n), (4, .int v)]) hC.1 hC.2.1 dX3_append_12 hl (by decide) rfl (fun ls hl => ?_)
      refine lv_aload hC.1 hC.2.1 dX3_append_14 (lv_at hl 1 rfl) ?_
      refine lv_ifnull hC.1 hC.2.1 dX3_append_16 ?_
      refine lv_aloadN hC.1 hC.2.1 dX3_append_19 (lv_at hl 0 rfl) ?_
      refine lv_ifnonnullN hC.1 hC.2.1 dX3_append_21 ?_
      refine lv_ldc hC.1 hC.2.1 hC.2.2.2.1 (hC.2.2.2.2 _ (kt_in tk_X3_51 rfl)) dX3_append_24 ?_
      exact krI hC hr hlk hW (by simp (config := {decide := true}) only [kif_true, kif_false, kb, kup_eq, kup_f, kup_i, not_true_eq_false, not_false_eq_true, and_true, true_and, and_false, false_and, and_self, or_true, true_or, or_false, false_or, a_append, t_append, n_append, kApg, c_2, c_9]) (by simp (config := {decide := true}) only [kif_true, kif_false, kb, kup_eq, kup_f, kup_i, not_true_eq_false, not_false_eq_true, and_true, true_and, and_false, false_and, and_self, or_true, true_or, or_false, false_or, a_append, t_append, n_append, kApg, c_2, c_9]) (by simp (config := {decide := true}) only [kif_true, kif_false, kb, kup_eq, kup_f, kup_i, not_true_eq_false, not_false_eq_true, and_true, true_and, and_false, false_and, and_self, or_true, true_or, or_false, false_or, a_append, t_append, n_append, kApg, c_2, c_9]) rfl dX3_append_26
  · refine lv_astoreN (lv' := [(5, .null), (0, .ref (L 0)), (1, .int p), (2, .int f), (3, .int n), (4, .int v)]) hC.1 hC.2.1 dX3_append_5 hl (by decide) rfl (fun ls hl => ?_)
    refine lv_aload_n hC.1 hC.2.1 dX3_append_7 rfl (lv_at hl 1 rfl) ?_
    refine lv_iload_n hC.1 hC.2.1 dX3_append_8 rfl (lv_at hl 3 rfl) ?_
    refine keSq (rest := []) (kcV 0 hC hK hN hW (c_X3_fileAt l D G L hL T N q f) (kgoodV tm_X3_216 ti_yX3_fileAt te_yX3_fileAt tz_X3 tc_yX3_fileAt) kw_m rfl ⟨rfl, by decide, by decide, (show Option.map _ (parseMethodDescriptor yX3_fileAt.desc) = some 1 from by decide +kernel)⟩ ⟨Nat.le_of_ble_eq_true rfl, Nat.le_of_ble_eq_true rfl⟩ hl.1 rfl (Nat.le_of_ble_eq_true rfl) ⟨Nat.le_refl _, Nat.le_refl _⟩ dX3_append_9) ?_
    refine kopt (P := kFl T f) (fun c_9 => ?_) (fun c_9 => ?_)
    · refine lv_astore (lv' := [(6, .ref (L (188 + (tn f)))), (5, .null), (0, .ref (L 0)), (1, .int p), (2, .int f), (3, .int n), (4, .int v)]) hC.1 hC.2.1 dX3_append_12 hl (by decide) rfl (fun ls hl => ?_)
      refine lv_aloadN hC.1 hC.2.1 dX3_append_14 (lv_at hl 1 rfl) ?_
      refine lv_ifnullN (tgt := 24) hC.1 hC.2.1 dX3_append_16 (by decide) ?_
      refine lv_ldc hC.1 hC.2.1 hC.2.2.2.1 (hC.2.2.2.2 _ (kt_in tk_X3_51 rfl)) dX3_append_24 ?_
      exact krI hC hr hlk hW (by simp (config := {decide := true}) only [kif_true, kif_false, kb, kup_eq, kup_f, kup_i, not_true_eq_false, not_false_eq_true, and_true, true_and, and_false, false_and, and_self, or_true, true_or, or_false, false_or, a_append, t_append, n_append, kApg, c_2, c_9]) (by simp (config := {decide := true}) only [kif_true, kif_false, kb, kup_eq, kup_f, kup_i, not_true_eq_false, not_false_eq_true, and_true, true_and, and_false, false_and, and_self, or_true, true_or, or_false, false_or, a_append, t_append, n_append, kApg, c_2, c_9]) (by simp (config := {decide := true}) only [kif_true, kif_false, kb, kup_eq, kup_f, kup_i, not_true_eq_false, not_false_eq_true, and_true, true_and, and_false, false_and, and_self, or_true, true_or, or_false, false_or, a_append, t_append, n_append, kApg, c_2, c_9]) rfl dX3_append_26
    · refine lv_astoreN (lv' := [(6, .null), (5, .null), (0, .ref (L 0)), (1, .int p), (2, .int f), (3, .int n), (4, .int v)]) hC.1 hC.2.1 dX3_append_12 hl (by decide) rfl (fun ls hl => ?_)
      refine lv_aloadN hC.1 hC.2.1 dX3_append_14 (lv_at hl 1 rfl) ?_
      refine lv_ifnullN (tgt := 24) hC.1 hC.2.1 dX3_append_16 (by decide) ?_
      refine lv_ldc hC.1 hC.2.1 hC.2.2.2.1 (hC.2.2.2.2 _ (kt_in tk_X3_51 rfl)) dX3_append_24 ?_
      exact krI hC hr hlk hW (by simp (config := {decide := true}) only [kif_true, kif_false, kb, kup_eq, kup_f, kup_i, not_true_eq_false, not_false_eq_true, and_true, true_and, and_false, false_and, and_self, or_true, true_or, or_false, false_or, a_append, t_append, n_append, kApg, c_2, c_9]) (by simp (config := {decide := true}) only [kif_true, kif_false, kb, kup_eq, kup_f, kup_i, not_true_eq_false, not_false_eq_true, and_true, true_and, and_false, false_and, and_self, or_true, true_or, or_false, false_or, a_append, t_append, n_append, kApg, c_2, c_9]) (by simp (config := {decide := true}) only [kif_true, kif_false, kb, kup_eq, kup_f, kup_i, not_true_eq_false, not_false_eq_true, and_true, true_and, and_false, false_and, and_self, or_true, true_or, or_false, false_or, a_append, t_append, n_append, kApg, c_2, c_9]) rfl dX3_append_26
set_option maxHeartbeats 4000000 in
set_option maxRecDepth 100000 in
theorem c_X3_read (l : Launch) (D : va_G) (G : Nat → ClassId) (L : Nat → Nat) (hL : kL L) (T N : kT) (q : kQ) (p : Int32) (f : Int32) (i : Int32) : kM l yX3_read cX3_read 6 (some .int) 3 65 (kPc D G L T N q [.ref (L 0), .int p, .int f, .int i]) (kSi (a_read T N p f i)) (fun _ => False) := by
  refine kBegin (by decide) (Nat.le_of_ble_eq_true rfl) ?_
  intro zp ze zs zm zargs zbelow zmeth zc hC hr hlk hB ls hl
  obtain ⟨hP, hK, hN⟩ := hB
  have hW : kWd D G L (kA L) zs.heap T N q zs.heap [] := kWd.start hL hP
  have hl : lv_has ls 6 [(0, .ref (L 0)), (1, .int p), (2, .int f), (3, .int i)] := hl
  refine lv_aload_n hC.1 hC.2.1 dX3_read_0 rfl (lv_at hl 0 rfl) ?_
  refine lv_iload_n hC.1 hC.2.1 dX3_read_1 rfl (lv_at hl 1 rfl) ?_
  refine keSq (rest := []) (kcV 0 hC hK hN hW (c_X3_processAt l D G L hL T N q p) (kgoodV tm_X3_47 ti_yX3_processAt te_yX3_processAt tz_X3 tc_yX3_processAt) kw_m rfl ⟨rfl, by decide, by decide, (show Option.map _ (parseMethodDescriptor yX3_processAt.desc) = some 1 from by decide +kernel)⟩ ⟨Nat.le_of_ble_eq_true rfl, Nat.le_of_ble_eq_true rfl⟩ hl.1 rfl (Nat.le_of_ble_eq_true rfl) ⟨Nat.le_refl _, Nat.le_refl _⟩ dX3_read_2) ?_
  refine kopt (P := kP T p) (fun c_2 => ?_) (fun c_2 => ?_)
  · refine lv_astore (lv' := [(4, .ref (L (4 + (tn p)))), (0, .ref (L 0)), (1, .int p), (2, .int f), (3, .int i)]) hC.1 hC.2.1 dX3_read_5 hl (by decide) rfl (fun ls hl => ?_)
    refine lv_aload_n hC.1 hC.2.1 dX3_read_7 rfl (lv_at hl 1 rfl) ?_
    refine lv_iload_n hC.1 hC.2.1 dX3_read_8 rfl (lv_at hl 3 rfl) ?_
    refine keSq (rest := []) (kcV 0 hC hK hN hW (c_X3_fileAt l D G L hL T N q f) (kgoodV tm_X3_216 ti_yX3_fileAt te_yX3_fileAt tz_X3 tc_yX3_fileAt) kw_m rfl ⟨rfl, by decide, by decide, (show Option.map _ (parseMethodDescriptor yX3_fileAt.desc) = some 1 from by decide +kernel)⟩ ⟨Nat.le_of_ble_eq_true rfl, Nat.le_of_ble_eq_true rfl⟩ hl.1 rfl (Nat.le_of_ble_eq_true rfl) ⟨Nat.le_refl _, Nat.le_refl _⟩ dX3_read_9) ?_
    refine kopt (P := kFl T f) (fun c_9 => ?_) (fun c_9 => ?_)
    · refine lv_astore (lv' := [(5, .ref (L (188 + (tn f)))), (4, .ref (L (4 + (tn p)))), (0, .ref (L 0)), (1, .int p), (2, .int f), (3, .int i)]) hC.1 hC.2.1 dX3_read_12 hl (by decide) rfl (fun ls hl => ?_)
      refine lv_aload hC.1 hC.2.1 dX3_read_14 (lv_at hl 1 rfl) ?_
      refine lv_ifnull hC.1 hC.2.1 dX3_read_16 ?_
      refine lv_aload hC.1 hC.2.1 dX3_read_19 (lv_at hl 0 rfl) ?_
      refine lv_ifnonnull (tgt := 27) hC.1 hC.2.1 dX3_read_21 (by decide) ?_
      refine lv_aload hC.1 hC.2.1 dX3_read_27 (lv_at hl 1 rfl) ?_
      refine lv_aload hC.1 hC.2.1 dX3_read_29 (lv_at hl 0 rfl) ?_
      refine keSi (rest := []) (kcS hC hK hN hW (c_X3_canRead l D G L hL T N q (tn p) (kP.lt c_2) (tn f) (kFl.lt c_9)) (kgoodS tm_X3_197 ts_yX3_canRead tz_X3 tc_yX3_canRead) ⟨rfl, by decide, by decide, (show Option.map _ (parseMethodDescriptor yX3_canRead.desc) = some 2 from by decide +kernel)⟩ ⟨Nat.le_of_ble_eq_true rfl, Nat.le_of_ble_eq_true rfl⟩ hl.1 rfl (Nat.le_of_ble_eq_true rfl) ⟨Nat.le_refl _, Nat.le_refl _⟩ dX3_read_31) ?_
      refine kif_ne (tgt := 40) hC.1 hC.2.1 dX3_read_34 (by decide) (fun c_34 => ?_) (fun c_34 => ?_)
      · refine lv_iload_n hC.1 hC.2.1 dX3_read_40 rfl (lv_at hl 5 rfl) ?_
        refine lv_if_lt (tgt := 63) hC.1 hC.2.1 dX3_read_41 (by decide) (fun c_41 => ?_) (fun c_41 => ?_)
        · refine lv_ldc hC.1 hC.2.1 hC.2.2.2.1 (hC.2.2.2.2 _ (kt_in tk_X3_52 rfl)) dX3_read_63 ?_
          exact krS hC hr hlk (by simp (config := {decide := true}) only [kif_true, kif_false, kb, kup_eq, kup_f, kup_i, not_true_eq_false, not_false_eq_true, and_true, true_and, and_false, false_and, and_self, or_true, true_or, or_false, false_or, a_read, c_2, c_9, c_34, c_41]) dX3_read_65
        · refine lv_iload_n hC.1 hC.2.1 dX3_read_44 rfl (lv_at hl 5 rfl) ?_
          refine lv_aload hC.1 hC.2.1 dX3_read_45 (lv_at hl 0 rfl) ?_
          refine kg1N hC hK hN hW (kFl.lt c_9) 8 (v := .int (T 25 (tn f))) rfl (by decide) tf_X3_219 dX3_read_47 ?_
          refine lv_icmp_ge (tgt := 63) hC.1 hC.2.1 dX3_read_50 (by decide) (fun c_50 => ?_) (fun c_50 => ?_)
          · refine lv_ldc hC.1 hC.2.1 hC.2.2.2.1 (hC.2.2.2.2 _ (kt_in tk_X3_52 rfl)) dX3_read_63 ?_
            exact krS hC hr hlk (by simp (config := {decide := true}) only [kif_true, kif_false, kb, kup_eq, kup_f, kup_i, not_true_eq_false, not_false_eq_true, and_true, true_and, and_false, false_and, and_self, or_true, true_or, or_false, false_or, a_read, c_2, c_9, c_34, c_41, c_50]) dX3_read_65
          · refine lv_iload_n hC.1 hC.2.1 dX3_read_53 rfl (lv_at hl 5 rfl) ?_
            refine lv_aload hC.1 hC.2.1 dX3_read_54 (lv_at hl 0 rfl) ?_
            refine kg1N hC hK hN hW (kFl.lt c_9) 0 (v := .ref (L (248 + (tn f)))) rfl (by decide) tf_X3_226 dX3_read_56 ?_
            refine kaln hC hK hW (kFl.lt c_9) dX3_read_59 ?_
            refine lv_icmp_lt (tgt := 66) hC.1 hC.2.1 dX3_read_60 (by decide) (fun c_60 => ?_) (fun c_60 => ?_)
            · refine lv_aload hC.1 hC.2.1 dX3_read_66 (lv_at hl 0 rfl) ?_
              refine kg1N hC hK hN hW (kFl.lt c_9) 0 (v := .ref (L (248 + (tn f)))) rfl (by decide) tf_X3_226 dX3_read_68 ?_
              refine lv_iload_n hC.1 hC.2.1 dX3_read_71 rfl (lv_at hl 5 rfl) ?_
              refine kain hC hK hW (kFl.lt c_9) (i := i) (kinL32 c_41 c_60) dX3_read_72 ?_
              exact krS hC hr hlk (by simp (config := {decide := true}) only [kif_true, kif_false, kb, kup_eq, kup_f, kup_i, not_true_eq_false, not_false_eq_true, and_true, true_and, and_false, false_and, and_self, or_true, true_or, or_false, false_or, a_read, c_2, c_9, c_34, c_41, c_50, c_60]) dX3_read_73
            · refine lv_ldc hC.1 hC.2.1 hC.2.2.2.1 (hC.2.2.2.2 _ (kt_in tk_X3_52 rfl)) dX3_read_63 ?_
              exact krS hC hr hlk (by simp (config := {decide := true}) only [kif_true, kif_false, kb, kup_eq, kup_f, kup_i, not_true_eq_false, not_false_eq_true, and_true, true_and, and_false, false_and, and_self, or_true, true_or, or_false, false_or, a_read, c_2, c_9, c_34, c_41, c_50, c_60]) dX3_read_65
      · refine lv_ldc hC.1 hC.2.1 hC.2.2.2.1 (hC.2.2.2.2 _ (kt_in tk_X3_98 rfl)) dX3_read_37 ?_
        exact krS hC hr hlk (by simp (config := {decide := true}) only [kif_true, kif_false, kb, kup_eq, kup_f, kup_i, not_true_eq_false, not_false_eq_true, and_true, true_and, and_false, false_and, and_self, or_true, true_or, or_false, false_or, a_read, c_2, c_9, c_34]) dX3_read_39
    · refine lv_astoreN (lv' := [(5, .null), (4, .ref (L (4 + (tn p)))), (0, .ref (L 0)), (1, .int p), (2, .int f), (3, .int i)]) hC.1 hC.2.1 dX3_read_12 hl (by decide) rfl (fun ls hl => ?_)
      refine lv_aload hC.1 hC.2.1 dX3_read_14 (lv_at hl 1 rfl) ?_
      refine lv_ifnull hC.1 hC.2.1 dX3_read_16 ?_
      refine lv_aloadN hC.1 hC.2.1 dX3_read_19 (lv_at hl 0 rfl) ?_
      refine lv_ifnonnullN hC.1 hC.2.1 dX3_read_21 ?_
      refine lv_ldc hC.1 hC.2.1 hC.2.2.2.1 (hC.2.2.2.2 _ (kt_in tk_X3_51 rfl)) dX3_read_24 ?_
      exact krS hC hr hlk (by simp (config := {decide := true}) only [kif_true, kif_false, kb, kup_eq, kup_f, kup_i, not_true_eq_false, not_false_eq_true, and_true, true_and, and_false, false_and, and_self, or_true, true_or, or_false, false_or, a_read, c_2, c_9]) dX3_read_26
  · refine lv_astoreN (lv' := [(4, .null), (0, .ref (L 0)), (1, .int p), (2, .int f), (3, .int i)]) hC.1 hC.2.1 dX3_read_5 hl (by decide) rfl (fun ls hl => ?_)
    refine lv_aload_n hC.1 hC.2.1 dX3_read_7 rfl (lv_at hl 1 rfl) ?_
    refine lv_iload_n hC.1 hC.2.1 dX3_read_8 rfl (lv_at hl 3 rfl) ?_
    refine keSq (rest := []) (kcV 0 hC hK hN hW (c_X3_fileAt l D G L hL T N q f) (kgoodV tm_X3_216 ti_yX3_fileAt te_yX3_fileAt tz_X3 tc_yX3_fileAt) kw_m rfl ⟨rfl, by decide, by decide, (show Option.map _ (parseMethodDescriptor yX3_fileAt.desc) = some 1 from by decide +kernel)⟩ ⟨Nat.le_of_ble_eq_true rfl, Nat.le_of_ble_eq_true rfl⟩ hl.1 rfl (Nat.le_of_ble_eq_true rfl) ⟨Nat.le_refl _, Nat.le_refl _⟩ dX3_read_9) ?_
    refine kopt (P := kFl T f) (fun c_9 => ?_) (fun c_9 => ?_)
    · refine lv_astore (lv' := [(5, .ref (L (188 + (tn f)))), (4, .null), (0, .ref (L 0)), (1, .int p), (2, .int f), (3, .int i)]) hC.1 hC.2.1 dX3_read_12 hl (by decide) rfl (fun ls hl => ?_)
      refine lv_aloadN hC.1 hC.2.1 dX3_read_14 (lv_at hl 1 rfl) ?_
      refine lv_ifnullN (tgt := 24) hC.1 hC.2.1 dX3_read_16 (by decide) ?_
      refine lv_ldc hC.1 hC.2.1 hC.2.2.2.1 (hC.2.2.2.2 _ (kt_in tk_X3_51 rfl)) dX3_read_24 ?_
      exact krS hC hr hlk (by simp (config := {decide := true}) only [kif_true, kif_false, kb, kup_eq, kup_f, kup_i, not_true_eq_false, not_false_eq_true, and_true, true_and, and_false, false_and, and_self, or_true, true_or, or_false, false_or, a_read, c_2, c_9]) dX3_read_26
    · refine lv_astoreN (lv' := [(5, .null), (4, .null), (0, .ref (L 0)), (1, .int p), (2, .int f), (3, .int i)]) hC.1 hC.2.1 dX3_read_12 hl (by decide) rfl (fun ls hl => ?_)
      refine lv_aloadN hC.1 hC.2.1 dX3_read_14 (lv_at hl 1 rfl) ?_
      refine lv_ifnullN (tgt := 24) hC.1 hC.2.1 dX3_read_16 (by decide) ?_
      refine lv_ldc hC.1 hC.2.1 hC.2.2.2.1 (hC.2.2.2.2 _ (kt_in tk_X3_51 rfl)) dX3_read_24 ?_
      exact krS hC hr hlk (by simp (config := {decide := true}) only [kif_true, kif_false, kb, kup_eq, kup_f, kup_i, not_true_eq_false, not_false_eq_true, and_true, true_and, and_false, false_and, and_self, or_true, true_or, or_false, false_or, a_read, c_2, c_9]) dX3_read_26
set_option maxHeartbeats 4000000 in
set_option maxRecDepth 100000 in
theorem c_X3_object (l : Launch) (D : va_G) (G : Nat → ClassId) (L : Nat → Nat) (hL : kL L) (T N : kT) (q : kQ) (p : Int32) (o : Int32) (w : Int32) : kM l yX3_object cX3_object 7 (some .int) 3 68 (kPc D G L T N q [.ref (L 0), .int p, .int o, .int w]) (kSi (a_object T p o w)) (fun _ => False) := by
  refine kBegin (by decide) (Nat.le_of_ble_eq_true rfl) ?_
  intro zp ze zs zm zargs zbelow zmeth zc hC hr hlk hB ls hl
  obtain ⟨hP, hK, hN⟩ := hB
  have hW : kWd D G L (kA L) zs.heap T N q zs.heap [] := kWd.start hL hP
  have hl : lv_has ls 7 [(0, .ref (L 0)), (1, .int p), (2, .int o), (3, .int w)] := hl
  refine lv_aload_n hC.1 hC.2.1 dX3_object_0 rfl (lv_at hl 0 rfl) ?_
  refine lv_iload_n hC.1 hC.2.1 dX3_object_1 rfl (lv_at hl 1 rfl) ?_
  refine keSq (rest := []) (kcV 0 hC hK hN hW (c_X3_processAt l D G L hL T N q p) (kgoodV tm_X3_47 ti_yX3_processAt te_yX3_processAt tz_X3 tc_yX3_processAt) kw_m rfl ⟨rfl, by decide, by decide, (show Option.map _ (parseMethodDescriptor yX3_processAt.desc) = some 1 from by decide +kernel)⟩ ⟨Nat.le_of_ble_eq_true rfl, Nat.le_of_ble_eq_true rfl⟩ hl.1 rfl (Nat.le_of_ble_eq_true rfl) ⟨Nat.le_refl _, Nat.le_refl _⟩ dX3_object_2) ?_
  refine kopt (P := kP T p) (fun c_2 => ?_) (fun c_2 => ?_)
  · refine lv_astore (lv' := [(4, .ref (L (4 + (tn p)))), (0, .ref (L 0)), (1, .int p), (2, .int o), (3, .int w)]) hC.1 hC.2.1 dX3_object_5 hl (by decide) rfl (fun ls hl => ?_)
    refine lv_aload_n hC.1 hC.2.1 dX3_object_7 rfl (lv_at hl 1 rfl) ?_
    refine lv_iload_n hC.1 hC.2.1 dX3_object_8 rfl (lv_at hl 3 rfl) ?_
    refine keSq (rest := []) (kcV 0 hC hK hN hW (c_X3_objectAt l D G L hL T N q o) (kgoodV tm_X3_191 ti_yX3_objectAt te_yX3_objectAt tz_X3 tc_yX3_objectAt) kw_m rfl ⟨rfl, by decide, by decide, (show Option.map _ (parseMethodDescriptor yX3_objectAt.desc) = some 1 from by decide +kernel)⟩ ⟨Nat.le_of_ble_eq_true rfl, Nat.le_of_ble_eq_true rfl⟩ hl.1 rfl (Nat.le_of_ble_eq_true rfl) ⟨Nat.le_refl _, Nat.le_refl _⟩ dX3_object_9) ?_
    refine kopt (P := kO T o) (fun c_9 => ?_) (fun c_9 => ?_)
    · refine lv_astore (lv' := [(5, .ref (L (188 + (tn o)))), (4, .ref (L (4 + (tn p)))), (0, .ref (L 0)), (1, .int p), (2, .int o), (3, .int w)]) hC.1 hC.2.1 dX3_object_12 hl (by decide) rfl (fun ls hl => ?_)
      refine lv_aload hC.1 hC.2.1 dX3_object_14 (lv_at hl 1 rfl) ?_
      refine lv_ifnull hC.1 hC.2.1 dX3_object_16 ?_
      refine lv_aload hC.1 hC.2.1 dX3_object_19 (lv_at hl 0 rfl) ?_
      refine lv_ifnonnull (tgt := 27) hC.1 hC.2.1 dX3_object_21 (by decide) ?_
      refine lv_iload_n hC.1 hC.2.1 dX3_object_27 rfl (lv_at hl 5 rfl) ?_
      refine lv_if_lt (tgt := 37) hC.1 hC.2.1 dX3_object_28 (by decide) (fun c_28 => ?_) (fun c_28 => ?_)
      · refine lv_ldc hC.1 hC.2.1 hC.2.2.2.1 (hC.2.2.2.2 _ (kt_in tk_X3_52 rfl)) dX3_object_37 ?_
        exact krS hC hr hlk (by (simp (config := {decide := true}) only [kif_true, kif_false, kb, not_true_eq_false, not_false_eq_true, and_true, true_and, and_false, false_and, and_self, or_true, true_or, or_false, false_or, a_object, kHid, c_2, c_9, c_28])) dX3_object_39
      · refine lv_iload_n hC.1 hC.2.1 dX3_object_31 rfl (lv_at hl 5 rfl) ?_
        refine lv_bipush (v := 6) hC.1 hC.2.1 dX3_object_32 (by decide) ?_
        refine lv_icmp_le (tgt := 40) hC.1 hC.2.1 dX3_object_34 (by decide) (fun c_34 => ?_) (fun c_34 => ?_)
        · refine lv_iload_n hC.1 hC.2.1 dX3_object_40 rfl (lv_at hl 5 rfl) ?_
          refine lv_iconst (v := 4) hC.1 hC.2.1 dX3_object_41 (by decide) ?_
          refine lv_icmp_lt (tgt := 50) hC.1 hC.2.1 dX3_object_42 (by decide) (fun c_42 => ?_) (fun c_42 => ?_)
          · refine lv_aload_n hC.1 hC.2.1 dX3_object_50 rfl (lv_at hl 2 rfl) ?_
            refine lv_aload hC.1 hC.2.1 dX3_object_51 (lv_at hl 0 rfl) ?_
            refine kg1N hC hK hN hW (kO.lt c_9) 3 (v := .int (T 20 (tn o))) rfl (by decide) tf_X3_194 dX3_object_53 ?_
            refine keSq (rest := []) (kcV 0 hC hK hN hW (c_X3_objectAt l D G L hL T N q (T 20 (tn o))) (kgoodV tm_X3_191 ti_yX3_objectAt te_yX3_objectAt tz_X3 tc_yX3_objectAt) kw_m rfl ⟨rfl, by decide, by decide, (show Option.map _ (parseMethodDescriptor yX3_objectAt.desc) = some 1 from by decide +kernel)⟩ ⟨Nat.le_of_ble_eq_true rfl, Nat.le_of_ble_eq_true rfl⟩ hl.1 rfl (Nat.le_of_ble_eq_true rfl) ⟨Nat.le_refl _, Nat.le_refl _⟩ dX3_object_56) ?_
            refine kopt (P := kO T (T 20 (tn o))) (fun c_56 => ?_) (fun c_56 => ?_)
            · refine lv_astore (lv' := [(6, .ref (L (188 + (tn (T 20 (tn o)))))), (5, .ref (L (188 + (tn o)))), (4, .ref (L (4 + (tn p)))), (0, .ref (L 0)), (1, .int p), (2, .int o), (3, .int w)]) hC.1 hC.2.1 dX3_object_59 hl (by decide) rfl (fun ls hl => ?_)
              refine lv_aload hC.1 hC.2.1 dX3_object_61 (lv_at hl 0 rfl) ?_
              refine lv_ifnull hC.1 hC.2.1 dX3_object_63 ?_
              refine lv_aload hC.1 hC.2.1 dX3_object_66 (lv_at hl 2 rfl) ?_
              refine lv_aload hC.1 hC.2.1 dX3_object_68 (lv_at hl 0 rfl) ?_
              refine keSi (rest := []) (kcS hC hK hN hW (c_X3_canRead l D G L hL T N q (tn p) (kP.lt c_2) (tn (T 20 (tn o))) (kO.lt c_56)) (kgoodS tm_X3_197 ts_yX3_canRead tz_X3 tc_yX3_canRead) ⟨rfl, by decide, by decide, (show Option.map _ (parseMethodDescriptor yX3_canRead.desc) = some 2 from by decide +kernel)⟩ ⟨Nat.le_of_ble_eq_true rfl, Nat.le_of_ble_eq_true rfl⟩ hl.1 rfl (Nat.le_of_ble_eq_true rfl) ⟨Nat.le_refl _, Nat.le_refl _⟩ dX3_object_70) ?_
              refine kif_ne (tgt := 79) hC.1 hC.2.1 dX3_object_73 (by decide) (fun c_73 => ?_) (fun c_73 => ?_)
              · refine lv_iload_n hC.1 hC.2.1 dX3_object_79 rfl (lv_at hl 6 rfl) ?_
                rcases ksw6 w with c_80 | c_80 | c_80 | c_80 | c_80 | c_80 | c_80
                · refine lv_tableIn (tgt := 120) (off := 40) hC.1 hC.2.1 dX3_object_80 (by rw [c_80]; decide) (by rw [c_80]; decide) (by rw [c_80]; rfl) (by decide) ?_
                  refine lv_aload hC.1 hC.2.1 dX3_object_120 (lv_at hl 1 rfl) ?_
                  refine kg1N hC hK hN hW (kO.lt c_9) 2 (v := .int (T 19 (tn o))) rfl (by decide) tf_X3_229 dX3_object_122 ?_
                  refine lv_if_eq (tgt := 132) hC.1 hC.2.1 dX3_object_125 (by decide) (fun c_125 => ?_) (fun c_125 => ?_)
                  · refine lv_iconst (v := 0) hC.1 hC.2.1 dX3_object_132 (by decide) ?_
                    exact krS hC hr hlk (by (simp (config := {decide := true}) only [kif_true, kif_false, kb, not_true_eq_false, not_false_eq_true, and_true, true_and, and_false, false_and, and_self, or_true, true_or, or_false, false_or, a_object, kHid, c_2, c_9, c_28, c_34, c_42, c_56, c_73, c_80, c_125])) dX3_object_133
                  · refine lv_iconst (v := 1) hC.1 hC.2.1 dX3_object_128 (by decide) ?_
                    refine lv_goto (tgt := 133) hC.1 hC.2.1 dX3_object_129 (by decide) ?_
                    exact krS hC hr hlk (by (simp (config := {decide := true}) only [kif_true, kif_false, kb, not_true_eq_false, not_false_eq_true, and_true, true_and, and_false, false_and, and_self, or_true, true_or, or_false, false_or, a_object, kHid, c_2, c_9, c_28, c_34, c_42, c_56, c_73, c_80, c_125])) dX3_object_133
                · refine lv_tableIn (tgt := 134) (off := 54) hC.1 hC.2.1 dX3_object_80 (by rw [c_80]; decide) (by rw [c_80]; decide) (by rw [c_80]; rfl) (by decide) ?_
                  refine lv_aload hC.1 hC.2.1 dX3_object_134 (lv_at hl 1 rfl) ?_
                  refine kg1N hC hK hN hW (kO.lt c_9) 4 (v := .int (T 21 (tn o))) rfl (by decide) tf_X3_232 dX3_object_136 ?_
                  exact krS hC hr hlk (by (simp (config := {decide := true}) only [kif_true, kif_false, kb, not_true_eq_false, not_false_eq_true, and_true, true_and, and_false, false_and, and_self, or_true, true_or, or_false, false_or, a_object, kHid, c_2, c_9, c_28, c_34, c_42, c_56, c_73, c_80])) dX3_object_139
                · refine lv_tableIn (tgt := 140) (off := 60) hC.1 hC.2.1 dX3_object_80 (by rw [c_80]; decide) (by rw [c_80]; decide) (by rw [c_80]; rfl) (by decide) ?_
                  refine lv_aload hC.1 hC.2.1 dX3_object_140 (lv_at hl 1 rfl) ?_
                  refine kg1N hC hK hN hW (kO.lt c_9) 5 (v := .int (T 22 (tn o))) rfl (by decide) tf_X3_233 dX3_object_142 ?_
                  exact krS hC hr hlk (by (simp (config := {decide := true}) only [kif_true, kif_false, kb, not_true_eq_false, not_false_eq_true, and_true, true_and, and_false, false_and, and_self, or_true, true_or, or_false, false_or, a_object, kHid, c_2, c_9, c_28, c_34, c_42, c_56, c_73, c_80])) dX3_object_145
                · refine lv_tableIn (tgt := 146) (off := 66) hC.1 hC.2.1 dX3_object_80 (by rw [c_80]; decide) (by rw [c_80]; decide) (by rw [c_80]; rfl) (by decide) ?_
                  refine lv_aload hC.1 hC.2.1 dX3_object_146 (lv_at hl 1 rfl) ?_
                  refine kg1N hC hK hN hW (kO.lt c_9) 3 (v := .int (T 20 (tn o))) rfl (by decide) tf_X3_194 dX3_object_148 ?_
                  exact krS hC hr hlk (by (simp (config := {decide := true}) only [kif_true, kif_false, kb, not_true_eq_false, not_false_eq_true, and_true, true_and, and_false, false_and, and_self, or_true, true_or, or_false, false_or, a_object, kHid, c_2, c_9, c_28, c_34, c_42, c_56, c_73, c_80])) dX3_object_151
                · refine lv_tableIn (tgt := 152) (off := 72) hC.1 hC.2.1 dX3_object_80 (by rw [c_80]; decide) (by rw [c_80]; decide) (by rw [c_80]; rfl) (by decide) ?_
                  refine lv_aload hC.1 hC.2.1 dX3_object_152 (lv_at hl 1 rfl) ?_
                  refine kg1N hC hK hN hW (kO.lt c_9) 8 (v := .int (T 25 (tn o))) rfl (by decide) tf_X3_219 dX3_object_154 ?_
                  exact krS hC hr hlk (by rw [c_80] at c_42; exact absurd c_42 (by decide)) dX3_object_157
                · refine lv_tableIn (tgt := 158) (off := 78) hC.1 hC.2.1 dX3_object_80 (by rw [c_80]; decide) (by rw [c_80]; decide) (by rw [c_80]; rfl) (by decide) ?_
                  refine lv_aload_n hC.1 hC.2.1 dX3_object_158 rfl (lv_at hl 3 rfl) ?_
                  refine lv_iload_n hC.1 hC.2.1 dX3_object_159 rfl (lv_at hl 5 rfl) ?_
                  refine keSi (rest := []) (kcV 0 hC hK hN hW (c_X3_blocksLeft l D G L hL T N q o) (kgoodV tm_X3_181 ti_yX3_blocksLeft te_yX3_blocksLeft tz_X3 tc_yX3_blocksLeft) kw_m rfl ⟨rfl, by decide, by decide, (show Option.map _ (parseMethodDescriptor yX3_blocksLeft.desc) = some 1 from by decide +kernel)⟩ ⟨Nat.le_of_ble_eq_true rfl, Nat.le_of_ble_eq_true rfl⟩ hl.1 rfl (Nat.le_of_ble_eq_true rfl) ⟨Nat.le_refl _, Nat.le_refl _⟩ dX3_object_160) ?_
                  exact krS hC hr hlk (by rw [c_80] at c_42; exact absurd c_42 (by decide)) dX3_object_163
                · refine lv_tableOut (tgt := 164) hC.1 hC.2.1 dX3_object_80 c_80.1 (by decide) ?_
                  refine lv_aload_n hC.1 hC.2.1 dX3_object_164 rfl (lv_at hl 3 rfl) ?_
                  refine lv_iload_n hC.1 hC.2.1 dX3_object_165 rfl (lv_at hl 5 rfl) ?_
                  refine keSi (rest := []) (kcV 0 hC hK hN hW (c_X3_placesLeft l D G L hL T N q o) (kgoodV tm_X3_184 ti_yX3_placesLeft te_yX3_placesLeft tz_X3 tc_yX3_placesLeft) kw_m rfl ⟨rfl, by decide, by decide, (show Option.map _ (parseMethodDescriptor yX3_placesLeft.desc) = some 1 from by decide +kernel)⟩ ⟨Nat.le_of_ble_eq_true rfl, Nat.le_of_ble_eq_true rfl⟩ hl.1 rfl (Nat.le_of_ble_eq_true rfl) ⟨Nat.le_refl _, Nat.le_refl _⟩ dX3_object_166) ?_
                  exact krS hC hr hlk (by exfalso; have z1 := c_80.1; rw [Int32.lt_iff_toInt_lt] at c_28 c_42; have z2 : (4 : Int32).toInt = 4 := rfl; have z3 : (0 : Int32).toInt = 0 := rfl; omega) dX3_object_169
              · refine lv_ldc hC.1 hC.2.1 hC.2.2.2.1 (hC.2.2.2.2 _ (kt_in tk_X3_98 rfl)) dX3_object_76 ?_
                exact krS hC hr hlk (by (simp (config := {decide := true}) only [kif_true, kif_false, kb, not_true_eq_false, not_false_eq_true, and_true, true_and, and_false, false_and, and_self, or_true, true_or, or_false, false_or, a_object, kHid, c_2, c_9, c_28, c_34, c_42, c_56, c_73])) dX3_object_78
            · refine lv_astoreN (lv' := [(6, .null), (5, .ref (L (188 + (tn o)))), (4, .ref (L (4 + (tn p)))), (0, .ref (L 0)), (1, .int p), (2, .int o), (3, .int w)]) hC.1 hC.2.1 dX3_object_59 hl (by decide) rfl (fun ls hl => ?_)
              refine lv_aloadN hC.1 hC.2.1 dX3_object_61 (lv_at hl 0 rfl) ?_
              refine lv_ifnullN (tgt := 79) hC.1 hC.2.1 dX3_object_63 (by decide) ?_
              refine lv_iload_n hC.1 hC.2.1 dX3_object_79 rfl (lv_at hl 6 rfl) ?_
              rcases ksw6 w with c_80 | c_80 | c_80 | c_80 | c_80 | c_80 | c_80
              · refine lv_tableIn (tgt := 120) (off := 40) hC.1 hC.2.1 dX3_object_80 (by rw [c_80]; decide) (by rw [c_80]; decide) (by rw [c_80]; rfl) (by decide) ?_
                refine lv_aload hC.1 hC.2.1 dX3_object_120 (lv_at hl 1 rfl) ?_
                refine kg1N hC hK hN hW (kO.lt c_9) 2 (v := .int (T 19 (tn o))) rfl (by decide) tf_X3_229 dX3_object_122 ?_
                refine lv_if_eq (tgt := 132) hC.1 hC.2.1 dX3_object_125 (by decide) (fun c_125 => ?_) (fun c_125 => ?_)
                · refine lv_iconst (v := 0) hC.1 hC.2.1 dX3_object_132 (by decide) ?_
                  exact krS hC hr hlk (by (simp (config := {decide := true}) only [kif_true, kif_false, kb, not_true_eq_false, not_false_eq_true, and_true, true_and, and_false, false_and, and_self, or_true, true_or, or_false, false_or, a_object, kHid, c_2, c_9, c_28, c_34, c_42, c_56, c_80, c_125])) dX3_object_133
                · refine lv_iconst (v := 1) hC.1 hC.2.1 dX3_object_128 (by decide) ?_
                  refine lv_goto (tgt := 133) hC.1 hC.2.1 dX3_object_129 (by decide) ?_
                  exact krS hC hr hlk (by (simp (config := {decide := true}) only [kif_true, kif_false, kb, not_true_eq_false, not_false_eq_true, and_true, true_and, and_false, false_and, and_self, or_true, true_or, or_false, false_or, a_object, kHid, c_2, c_9, c_28, c_34, c_42, c_56, c_80, c_125])) dX3_object_133
              · refine lv_tableIn (tgt := 134) (off := 54) hC.1 hC.2.1 dX3_object_80 (by rw [c_80]; decide) (by rw [c_80]; decide) (by rw [c_80]; rfl) (by decide) ?_
                refine lv_aload hC.1 hC.2.1 dX3_object_134 (lv_at hl 1 rfl) ?_
                refine kg1N hC hK hN hW (kO.lt c_9) 4 (v := .int (T 21 (tn o))) rfl (by decide) tf_X3_232 dX3_object_136 ?_
                exact krS hC hr hlk (by (simp (config := {decide := true}) only [kif_true, kif_false, kb, not_true_eq_false, not_false_eq_true, and_true, true_and, and_false, false_and, and_self, or_true, true_or, or_false, false_or, a_object, kHid, c_2, c_9, c_28, c_34, c_42, c_56, c_80])) dX3_object_139
              · refine lv_tableIn (tgt := 140) (off := 60) hC.1 hC.2.1 dX3_object_80 (by rw [c_80]; decide) (by rw [c_80]; decide) (by rw [c_80]; rfl) (by decide) ?_
                refine lv_aload hC.1 hC.2.1 dX3_object_140 (lv_at hl 1 rfl) ?_
                refine kg1N hC hK hN hW (kO.lt c_9) 5 (v := .int (T 22 (tn o))) rfl (by decide) tf_X3_233 dX3_object_142 ?_
                exact krS hC hr hlk (by (simp (config := {decide := true}) only [kif_true, kif_false, kb, not_true_eq_false, not_false_eq_true, and_true, true_and, and_false, false_and, and_self, or_true, true_or, or_false, false_or, a_object, kHid, c_2, c_9, c_28, c_34, c_42, c_56, c_80])) dX3_object_145
              · refine lv_tableIn (tgt := 146) (off := 66) hC.1 hC.2.1 dX3_object_80 (by rw [c_80]; decide) (by rw [c_80]; decide) (by rw [c_80]; rfl) (by decide) ?_
                refine lv_aload hC.1 hC.2.1 dX3_object_146 (lv_at hl 1 rfl) ?_
                refine kg1N hC hK hN hW (kO.lt c_9) 3 (v := .int (T 20 (tn o))) rfl (by decide) tf_X3_194 dX3_object_148 ?_
                exact krS hC hr hlk (by (simp (config := {decide := true}) only [kif_true, kif_false, kb, not_true_eq_false, not_false_eq_true, and_true, true_and, and_false, false_and, and_self, or_true, true_or, or_false, false_or, a_object, kHid, c_2, c_9, c_28, c_34, c_42, c_56, c_80])) dX3_object_151
              · refine lv_tableIn (tgt := 152) (off := 72) hC.1 hC.2.1 dX3_object_80 (by rw [c_80]; decide) (by rw [c_80]; decide) (by rw [c_80]; rfl) (by decide) ?_
                refine lv_aload hC.1 hC.2.1 dX3_object_152 (lv_at hl 1 rfl) ?_
                refine kg1N hC hK hN hW (kO.lt c_9) 8 (v := .int (T 25 (tn o))) rfl (by decide) tf_X3_219 dX3_object_154 ?_
                exact krS hC hr hlk (by rw [c_80] at c_42; exact absurd c_42 (by decide)) dX3_object_157
              · refine lv_tableIn (tgt := 158) (off := 78) hC.1 hC.2.1 dX3_object_80 (by rw [c_80]; decide) (by rw [c_80]; decide) (by rw [c_80]; rfl) (by decide) ?_
                refine lv_aload_n hC.1 hC.2.1 dX3_object_158 rfl (lv_at hl 3 rfl) ?_
                refine lv_iload_n hC.1 hC.2.1 dX3_object_159 rfl (lv_at hl 5 rfl) ?_
                refine keSi (rest := []) (kcV 0 hC hK hN hW (c_X3_blocksLeft l D G L hL T N q o) (kgoodV tm_X3_181 ti_yX3_blocksLeft te_yX3_blocksLeft tz_X3 tc_yX3_blocksLeft) kw_m rfl ⟨rfl, by decide, by decide, (show Option.map _ (parseMethodDescriptor yX3_blocksLeft.desc) = some 1 from by decide +kernel)⟩ ⟨Nat.le_of_ble_eq_true rfl, Nat.le_of_ble_eq_true rfl⟩ hl.1 rfl (Nat.le_of_ble_eq_true rfl) ⟨Nat.le_refl _, Nat.le_refl _⟩ dX3_object_160) ?_
                exact krS hC hr hlk (by rw [c_80] at c_42; exact absurd c_42 (by decide)) dX3_object_163
              · refine lv_tableOut (tgt := 164) hC.1 hC.2.1 dX3_object_80 c_80.1 (by decide) ?_
                refine lv_aload_n hC.1 hC.2.1 dX3_object_164 rfl (lv_at hl 3 rfl) ?_
                refine lv_iload_n hC.1 hC.2.1 dX3_object_165 rfl (lv_at hl 5 rfl) ?_
                refine keSi (rest := []) (kcV 0 hC hK hN hW (c_X3_placesLeft l D G L hL T N q o) (kgoodV tm_X3_184 ti_yX3_placesLeft te_yX3_placesLeft tz_X3 tc_yX3_placesLeft) kw_m rfl ⟨rfl, by decide, by decide, (show Option.map _ (parseMethodDescriptor yX3_placesLeft.desc) = some 1 from by decide +kernel)⟩ ⟨Nat.le_of_ble_eq_true rfl, Nat.le_of_ble_eq_true rfl⟩ hl.1 rfl (Nat.le_of_ble_eq_true rfl) ⟨Nat.le_refl _, Nat.le_refl _⟩ dX3_object_166) ?_
                exact krS hC hr hlk (by exfalso; have z1 := c_80.1; rw [Int32.lt_iff_toInt_lt] at c_28 c_42; have z2 : (4 : Int32).toInt = 4 := rfl; have z3 : (0 : Int32).toInt = 0 := rfl; omega) dX3_object_169
          · refine lv_aload hC.1 hC.2.1 dX3_object_45 (lv_at hl 0 rfl) ?_
            refine lv_goto (tgt := 59) hC.1 hC.2.1 dX3_object_47 (by decide) ?_
            refine lv_astore (lv' := [(6, .ref (L (188 + (tn o)))), (5, .ref (L (188 + (tn o)))), (4, .ref (L (4 + (tn p)))), (0, .ref (L 0)), (1, .int p), (2, .int o), (3, .int w)]) hC.1 hC.2.1 dX3_object_59 hl (by decide) rfl (fun ls hl => ?_)
            refine lv_aload hC.1 hC.2.1 dX3_object_61 (lv_at hl 0 rfl) ?_
            refine lv_ifnull hC.1 hC.2.1 dX3_object_63 ?_
            refine lv_aload hC.1 hC.2.1 dX3_object_66 (lv_at hl 2 rfl) ?_
            refine lv_aload hC.1 hC.2.1 dX3_object_68 (lv_at hl 0 rfl) ?_
            refine keSi (rest := []) (kcS hC hK hN hW (c_X3_canRead l D G L hL T N q (tn p) (kP.lt c_2) (tn o) (kO.lt c_9)) (kgoodS tm_X3_197 ts_yX3_canRead tz_X3 tc_yX3_canRead) ⟨rfl, by decide, by decide, (show Option.map _ (parseMethodDescriptor yX3_canRead.desc) = some 2 from by decide +kernel)⟩ ⟨Nat.le_of_ble_eq_true rfl, Nat.le_of_ble_eq_true rfl⟩ hl.1 rfl (Nat.le_of_ble_eq_true rfl) ⟨Nat.le_refl _, Nat.le_refl _⟩ dX3_object_70) ?_
            refine kif_ne (tgt := 79) hC.1 hC.2.1 dX3_object_73 (by decide) (fun c_73 => ?_) (fun c_73 => ?_)
            · refine lv_iload_n hC.1 hC.2.1 dX3_object_79 rfl (lv_at hl 6 rfl) ?_
              rcases ksw6 w with c_80 | c_80 | c_80 | c_80 | c_80 | c_80 | c_80
              · refine lv_tableIn (tgt := 120) (off := 40) hC.1 hC.2.1 dX3_object_80 (by rw [c_80]; decide) (by rw [c_80]; decide) (by rw [c_80]; rfl) (by decide) ?_
                refine lv_aload hC.1 hC.2.1 dX3_object_120 (lv_at hl 1 rfl) ?_
                refine kg1N hC hK hN hW (kO.lt c_9) 2 (v := .int (T 19 (tn o))) rfl (by decide) tf_X3_229 dX3_object_122 ?_
                refine lv_if_eq (tgt := 132) hC.1 hC.2.1 dX3_object_125 (by decide) (fun c_125 => ?_) (fun c_125 => ?_)
                · refine lv_iconst (v := 0) hC.1 hC.2.1 dX3_object_132 (by decide) ?_
                  exact krS hC hr hlk (absurd (by rw [c_80]; decide) c_42) dX3_object_133
                · refine lv_iconst (v := 1) hC.1 hC.2.1 dX3_object_128 (by decide) ?_
                  refine lv_goto (tgt := 133) hC.1 hC.2.1 dX3_object_129 (by decide) ?_
                  exact krS hC hr hlk (absurd (by rw [c_80]; decide) c_42) dX3_object_133
              · refine lv_tableIn (tgt := 134) (off := 54) hC.1 hC.2.1 dX3_object_80 (by rw [c_80]; decide) (by rw [c_80]; decide) (by rw [c_80]; rfl) (by decide) ?_
                refine lv_aload hC.1 hC.2.1 dX3_object_134 (lv_at hl 1 rfl) ?_
                refine kg1N hC hK hN hW (kO.lt c_9) 4 (v := .int (T 21 (tn o))) rfl (by decide) tf_X3_232 dX3_object_136 ?_
                exact krS hC hr hlk (absurd (by rw [c_80]; decide) c_42) dX3_object_139
              · refine lv_tableIn (tgt := 140) (off := 60) hC.1 hC.2.1 dX3_object_80 (by rw [c_80]; decide) (by rw [c_80]; decide) (by rw [c_80]; rfl) (by decide) ?_
                refine lv_aload hC.1 hC.2.1 dX3_object_140 (lv_at hl 1 rfl) ?_
                refine kg1N hC hK hN hW (kO.lt c_9) 5 (v := .int (T 22 (tn o))) rfl (by decide) tf_X3_233 dX3_object_142 ?_
                exact krS hC hr hlk (absurd (by rw [c_80]; decide) c_42) dX3_object_145
              · refine lv_tableIn (tgt := 146) (off := 66) hC.1 hC.2.1 dX3_object_80 (by rw [c_80]; decide) (by rw [c_80]; decide) (by rw [c_80]; rfl) (by decide) ?_
                refine lv_aload hC.1 hC.2.1 dX3_object_146 (lv_at hl 1 rfl) ?_
                refine kg1N hC hK hN hW (kO.lt c_9) 3 (v := .int (T 20 (tn o))) rfl (by decide) tf_X3_194 dX3_object_148 ?_
                exact krS hC hr hlk (absurd (by rw [c_80]; decide) c_42) dX3_object_151
              · refine lv_tableIn (tgt := 152) (off := 72) hC.1 hC.2.1 dX3_object_80 (by rw [c_80]; decide) (by rw [c_80]; decide) (by rw [c_80]; rfl) (by decide) ?_
                refine lv_aload hC.1 hC.2.1 dX3_object_152 (lv_at hl 1 rfl) ?_
                refine kg1N hC hK hN hW (kO.lt c_9) 8 (v := .int (T 25 (tn o))) rfl (by decide) tf_X3_219 dX3_object_154 ?_
                exact krS hC hr hlk (by (simp (config := {decide := true}) only [kif_true, kif_false, kb, not_true_eq_false, not_false_eq_true, and_true, true_and, and_false, false_and, and_self, or_true, true_or, or_false, false_or, a_object, kHid, c_2, c_9, c_28, c_34, c_42, c_73, c_80])) dX3_object_157
              · refine lv_tableIn (tgt := 158) (off := 78) hC.1 hC.2.1 dX3_object_80 (by rw [c_80]; decide) (by rw [c_80]; decide) (by rw [c_80]; rfl) (by decide) ?_
                refine lv_aload_n hC.1 hC.2.1 dX3_object_158 rfl (lv_at hl 3 rfl) ?_
                refine lv_iload_n hC.1 hC.2.1 dX3_object_159 rfl (lv_at hl 5 rfl) ?_
                refine keSi (rest := []) (kcV 0 hC hK hN hW (c_X3_blocksLeft l D G L hL T N q o) (kgoodV tm_X3_181 ti_yX3_blocksLeft te_yX3_blocksLeft tz_X3 tc_yX3_blocksLeft) kw_m rfl ⟨rfl, by decide, by decide, (show Option.map _ (parseMethodDescriptor yX3_blocksLeft.desc) = some 1 from by decide +kernel)⟩ ⟨Nat.le_of_ble_eq_true rfl, Nat.le_of_ble_eq_true rfl⟩ hl.1 rfl (Nat.le_of_ble_eq_true rfl) ⟨Nat.le_refl _, Nat.le_refl _⟩ dX3_object_160) ?_
                exact krS hC hr hlk (by (simp (config := {decide := true}) only [kif_true, kif_false, kb, not_true_eq_false, not_false_eq_true, and_true, true_and, and_false, false_and, and_self, or_true, true_or, or_false, false_or, a_object, kHid, c_2, c_9, c_28, c_34, c_42, c_73, c_80])) dX3_object_163
              · refine lv_tableOut (tgt := 164) hC.1 hC.2.1 dX3_object_80 c_80.1 (by decide) ?_
                refine lv_aload_n hC.1 hC.2.1 dX3_object_164 rfl (lv_at hl 3 rfl) ?_
                refine lv_iload_n hC.1 hC.2.1 dX3_object_165 rfl (lv_at hl 5 rfl) ?_
                refine keSi (rest := []) (kcV 0 hC hK hN hW (c_X3_placesLeft l D G L hL T N q o) (kgoodV tm_X3_184 ti_yX3_placesLeft te_yX3_placesLeft tz_X3 tc_yX3_placesLeft) kw_m rfl ⟨rfl, by decide, by decide, (show Option.map _ (parseMethodDescriptor yX3_placesLeft.desc) = some 1 from by decide +kernel)⟩ ⟨Nat.le_of_ble_eq_true rfl, Nat.le_of_ble_eq_true rfl⟩ hl.1 rfl (Nat.le_of_ble_eq_true rfl) ⟨Nat.le_refl _, Nat.le_refl _⟩ dX3_object_166) ?_
                exact krS hC hr hlk (by (simp (config := {decide := true}) only [kif_true, kif_false, kb, not_true_eq_false, not_false_eq_true, and_true, true_and, and_false, false_and, and_self, or_true, true_or, or_false, false_or, a_object, kHid, c_2, c_9, c_28, c_34, c_42, c_73, c_80.2.1, c_80.2.2.1, c_80.2.2.2.1, c_80.2.2.2.2.1, c_80.2.2.2.2.2.1, c_80.2.2.2.2.2.2])) dX3_object_169
            · refine lv_ldc hC.1 hC.2.1 hC.2.2.2.1 (hC.2.2.2.2 _ (kt_in tk_X3_98 rfl)) dX3_object_76 ?_
              exact krS hC hr hlk (by (simp (config := {decide := true}) only [kif_true, kif_false, kb, not_true_eq_false, not_false_eq_true, and_true, true_and, and_false, false_and, and_self, or_true, true_or, or_false, false_or, a_object, kHid, c_2, c_9, c_28, c_34, c_42, c_73])) dX3_object_78
        · refine lv_ldc hC.1 hC.2.1 hC.2.2.2.1 (hC.2.2.2.2 _ (kt_in tk_X3_52 rfl)) dX3_object_37 ?_
          exact krS hC hr hlk (by (simp (config := {decide := true}) only [kif_true, kif_false, kb, not_true_eq_false, not_false_eq_true, and_true, true_and, and_false, false_and, and_self, or_true, true_or, or_false, false_or, a_object, kHid, c_2, c_9, c_28, c_34])) dX3_object_39
    · refine lv_astoreN (lv' := [(5, .null), (4, .ref (L (4 + (tn p)))), (0, .ref (L 0)), (1, .int p), (2, .int o), (3, .int w)]) hC.1 hC.2.1 dX3_object_12 hl (by decide) rfl (fun ls hl => ?_)
      refine lv_aload hC.1 hC.2.1 dX3_object_14 (lv_at hl 1 rfl) ?_
      refine lv_ifnull hC.1 hC.2.1 dX3_object_16 ?_
      refine lv_aloadN hC.1 hC.2.1 dX3_object_19 (lv_at hl 0 rfl) ?_
      refine lv_ifnonnullN hC.1 hC.2.1 dX3_object_21 ?_
      refine lv_ldc hC.1 hC.2.1 hC.2.2.2.1 (hC.2.2.2.2 _ (kt_in tk_X3_51 rfl)) dX3_object_24 ?_
      exact krS hC hr hlk (by (simp (config := {decide := true}) only [kif_true, kif_false, kb, not_true_eq_false, not_false_eq_true, and_true, true_and, and_false, false_and, and_self, or_true, true_or, or_false, false_or, a_object, kHid, c_2, c_9])) dX3_object_26
  · refine lv_astoreN (lv' := [(4, .null), (0, .ref (L 0)), (1, .int p), (2, .int o), (3, .int w)]) hC.1 hC.2.1 dX3_object_5 hl (by decide) rfl (fun ls hl => ?_)
    refine lv_aload_n hC.1 hC.2.1 dX3_object_7 rfl (lv_at hl 1 rfl) ?_
    refine lv_iload_n hC.1 hC.2.1 dX3_object_8 rfl (lv_at hl 3 rfl) ?_
    refine keSq (rest := []) (kcV 0 hC hK hN hW (c_X3_objectAt l D G L hL T N q o) (kgoodV tm_X3_191 ti_yX3_objectAt te_yX3_objectAt tz_X3 tc_yX3_objectAt) kw_m rfl ⟨rfl, by decide, by decide, (show Option.map _ (parseMethodDescriptor yX3_objectAt.desc) = some 1 from by decide +kernel)⟩ ⟨Nat.le_of_ble_eq_true rfl, Nat.le_of_ble_eq_true rfl⟩ hl.1 rfl (Nat.le_of_ble_eq_true rfl) ⟨Nat.le_refl _, Nat.le_refl _⟩ dX3_object_9) ?_
    refine kopt (P := kO T o) (fun c_9 => ?_) (fun c_9 => ?_)
    · refine lv_astore (lv' := [(5, .ref (L (188 + (tn o)))), (4, .null), (0, .ref (L 0)), (1, .int p), (2, .int o), (3, .int w)]) hC.1 hC.2.1 dX3_object_12 hl (by decide) rfl (fun ls hl => ?_)
      refine lv_aloadN hC.1 hC.2.1 dX3_object_14 (lv_at hl 1 rfl) ?_
      refine lv_ifnullN (tgt := 24) hC.1 hC.2.1 dX3_object_16 (by decide) ?_
      refine lv_ldc hC.1 hC.2.1 hC.2.2.2.1 (hC.2.2.2.2 _ (kt_in tk_X3_51 rfl)) dX3_object_24 ?_
      exact krS hC hr hlk (by (simp (config := {decide := true}) only [kif_true, kif_false, kb, not_true_eq_false, not_false_eq_true, and_true, true_and, and_false, false_and, and_self, or_true, true_or, or_false, false_or, a_object, kHid, c_2, c_9])) dX3_object_26
    · refine lv_astoreN (lv' := [(5, .null), (4, .null), (0, .ref (L 0)), (1, .int p), (2, .int o), (3, .int w)]) hC.1 hC.2.1 dX3_object_12 hl (by decide) rfl (fun ls hl => ?_)
      refine lv_aloadN hC.1 hC.2.1 dX3_object_14 (lv_at hl 1 rfl) ?_
      refine lv_ifnullN (tgt := 24) hC.1 hC.2.1 dX3_object_16 (by decide) ?_
      refine lv_ldc hC.1 hC.2.1 hC.2.2.2.1 (hC.2.2.2.2 _ (kt_in tk_X3_51 rfl)) dX3_object_24 ?_
      exact krS hC hr hlk (by (simp (config := {decide := true}) only [kif_true, kif_false, kb, not_true_eq_false, not_false_eq_true, and_true, true_and, and_false, false_and, and_self, or_true, true_or, or_false, false_or, a_object, kHid, c_2, c_9])) dX3_object_26
set_option maxHeartbeats 4000000 in
set_option maxRecDepth 100000 in
theorem c_X3_list (l : Launch) (D : va_G) (G : Nat → ClassId) (L : Nat → Nat) (hL : kL L) (T N : kT) (q : kQ) (p : Int32) (c : Int32) (x : Int32) (hno : ¬ T 0 3 < 0) : kM l yX3_list cX3_list 8 (some .int) 3 65 (kPc D G L T N q [.ref (L 0), .int p, .int c, .int x]) (kSi (a_list T p c x)) (fun _ => False) := by
  refine kBegin (by decide) (Nat.le_of_ble_eq_true rfl) ?_
  intro zp ze zs zm zargs zbelow zmeth zc hC hr hlk hB ls hl
  obtain ⟨hP, hK, hN⟩ := hB
  have hW : kWd D G L (kA L) zs.heap T N q zs.heap [] := kWd.start hL hP
  have hl : lv_has ls 8 [(0, .ref (L 0)), (1, .int p), (2, .int c), (3, .int x)] := hl
  refine lv_aload_n hC.1 hC.2.1 dX3_list_0 rfl (lv_at hl 0 rfl) ?_
  refine lv_iload_n hC.1 hC.2.1 dX3_list_1 rfl (lv_at hl 1 rfl) ?_
  refine keSq (rest := []) (kcV 0 hC hK hN hW (c_X3_processAt l D G L hL T N q p) (kgoodV tm_X3_47 ti_yX3_processAt te_yX3_processAt tz_X3 tc_yX3_processAt) kw_m rfl ⟨rfl, by decide, by decide, (show Option.map _ (parseMethodDescriptor yX3_processAt.desc) = some 1 from by decide +kernel)⟩ ⟨Nat.le_of_ble_eq_true rfl, Nat.le_of_ble_eq_true rfl⟩ hl.1 rfl (Nat.le_of_ble_eq_true rfl) ⟨Nat.le_refl _, Nat.le_refl _⟩ dX3_list_2) ?_
  refine kopt (P := kP T p) (fun c_2 => ?_) (fun c_2 => ?_)
  · refine lv_astore (lv' := [(4, .ref (L (4 + (tn p)))), (0, .ref (L 0)), (1, .int p), (2, .int c), (3, .int x)]) hC.1 hC.2.1 dX3_list_5 hl (by decide) rfl (fun ls hl => ?_)
    refine lv_aload_n hC.1 hC.2.1 dX3_list_7 rfl (lv_at hl 1 rfl) ?_
    refine lv_iload_n hC.1 hC.2.1 dX3_list_8 rfl (lv_at hl 3 rfl) ?_
    refine keSq (rest := []) (kcV 0 hC hK hN hW (c_X3_containerAt l D G L hL T N q c) (kgoodV tm_X3_173 ti_yX3_containerAt te_yX3_containerAt tz_X3 tc_yX3_containerAt) kw_m rfl ⟨rfl, by decide, by decide, (show Option.map _ (parseMethodDescriptor yX3_containerAt.desc) = some 1 from by decide +kernel)⟩ ⟨Nat.le_of_ble_eq_true rfl, Nat.le_of_ble_eq_true rfl⟩ hl.1 rfl (Nat.le_of_ble_eq_true rfl) ⟨Nat.le_refl _, Nat.le_refl _⟩ dX3_list_9) ?_
    refine kopt (P := kCn T c) (fun c_9 => ?_) (fun c_9 => ?_)
    · refine lv_astore (lv' := [(5, .ref (L (188 + (tn c)))), (4, .ref (L (4 + (tn p)))), (0, .ref (L 0)), (1, .int p), (2, .int c), (3, .int x)]) hC.1 hC.2.1 dX3_list_12 hl (by decide) rfl (fun ls hl => ?_)
      refine lv_aload hC.1 hC.2.1 dX3_list_14 (lv_at hl 1 rfl) ?_
      refine lv_ifnull hC.1 hC.2.1 dX3_list_16 ?_
      refine lv_aload hC.1 hC.2.1 dX3_list_19 (lv_at hl 0 rfl) ?_
      refine lv_ifnonnull (tgt := 27) hC.1 hC.2.1 dX3_list_21 (by decide) ?_
      refine lv_aload hC.1 hC.2.1 dX3_list_27 (lv_at hl 1 rfl) ?_
      refine lv_aload hC.1 hC.2.1 dX3_list_29 (lv_at hl 0 rfl) ?_
      refine keSi (rest := []) (kcS hC hK hN hW (c_X3_canRead l D G L hL T N q (tn p) (kP.lt c_2) (tn c) (kCn.lt c_9)) (kgoodS tm_X3_197 ts_yX3_canRead tz_X3 tc_yX3_canRead) ⟨rfl, by decide, by decide, (show Option.map _ (parseMethodDescriptor yX3_canRead.desc) = some 2 from by decide +kernel)⟩ ⟨Nat.le_of_ble_eq_true rfl, Nat.le_of_ble_eq_true rfl⟩ hl.1 rfl (Nat.le_of_ble_eq_true rfl) ⟨Nat.le_refl _, Nat.le_refl _⟩ dX3_list_31) ?_
      refine kif_ne (tgt := 40) hC.1 hC.2.1 dX3_list_34 (by decide) (fun c_34 => ?_) (fun c_34 => ?_)
      · refine lv_iconst (v := 0) hC.1 hC.2.1 dX3_list_40 (by decide) ?_
        refine lv_istore (lv' := [(6, .int 0), (5, .ref (L (188 + (tn c)))), (4, .ref (L (4 + (tn p)))), (0, .ref (L 0)), (1, .int p), (2, .int c), (3, .int x)]) hC.1 hC.2.1 dX3_list_41 hl (by decide) rfl (fun ls hl => ?_)
        refine lv_iconst (v := 0) hC.1 hC.2.1 dX3_list_43 (by decide) ?_
        refine lv_istore (lv' := [(7, .int 0), (6, .int 0), (5, .ref (L (188 + (tn c)))), (4, .ref (L (4 + (tn p)))), (0, .ref (L 0)), (1, .int p), (2, .int c), (3, .int x)]) hC.1 hC.2.1 dX3_list_44 hl (by decide) rfl (fun ls hl => ?_)
        have loop_46 : ∀ (zf i : Nat) (k : Int32), i + zf = tn (T 0 3) → (klist T c x zf i k = klist T c x (tn (T 0 3)) 0 0) → ∀ ls : Array Slot, lv_has ls 8 [(7, .int (nI i)), (6, .int k), (0, .ref (L 0)), (2, .int c), (3, .int x)] → W zp l ze ({ frames := 3, cells := 0, slots := 0, locals := 65 } : Room) zs zm zargs zbelow zmeth zc zs.heap [] 0 0 (MQ zbelow (kSi (a_list T p c x)) zargs zs 0 0 (fun _ => False)) (F0 zm 46 ls []) := by
          intro zf
          induction zf with
          | zero =>
            intro i k hi hA ls hl
            have hi0 : i = tn (T 0 3) := by omega
            have hb2 := (tn_nat hno).2
            refine lv_iload hC.1 hC.2.1 dX3_list_46 (lv_at hl 0 rfl) ?_
            refine lv_aload_n hC.1 hC.2.1 dX3_list_48 rfl (lv_at hl 2 rfl) ?_
            refine kg3 hC hK hW 6 (v := .int (T 0 3)) rfl (by decide) tf_X3_41 dX3_list_49 ?_
            refine lv_icmp_ge (tgt := 83) hC.1 hC.2.1 dX3_list_52 (by decide) (fun c_52 => ?_) (fun c_52 => ?_)
            · refine lv_iconst (v := (-1)) hC.1 hC.2.1 dX3_list_83 (by decide) ?_
              exact krS hC hr hlk (by simp only [a_list, kif_true, c_2, c_9, c_34, and_self]; rw [← hA]; simp only [klist, kif_true, kif_false, kb, not_true_eq_false, not_false_eq_true, and_true, true_and, and_false, false_and, and_self, or_true, true_or, or_false, false_or, Int32.add_zero, Int32.sub_zero, c_2, c_9, c_34, hi0, c_52]) dX3_list_84
            · exact absurd (by rw [(tn_nat hno).1]; exact nI_le (by omega) (by omega)) c_52
          | succ zf ih =>
            intro i k hi hA ls hl
            have hlt : i < tn (T 0 3) := by omega
            have hb2 := (tn_nat hno).2
            refine lv_iload hC.1 hC.2.1 dX3_list_46 (lv_at hl 0 rfl) ?_
            refine lv_aload_n hC.1 hC.2.1 dX3_list_48 rfl (lv_at hl 2 rfl) ?_
            refine kg3 hC hK hW 6 (v := .int (T 0 3)) rfl (by decide) tf_X3_41 dX3_list_49 ?_
            refine lv_icmp_ge (tgt := 83) hC.1 hC.2.1 dX3_list_52 (by decide) (fun c_52 => ?_) (fun c_52 => ?_)
            · exact absurd (by rw [← (tn_nat hno).1]; exact c_52) (nI_ge (a := i) (b := tn (T 0 3)) (by omega) (by omega))
            · refine lv_aload_n hC.1 hC.2.1 dX3_list_55 rfl (lv_at hl 2 rfl) ?_
              refine lv_iload hC.1 hC.2.1 dX3_list_56 (lv_at hl 0 rfl) ?_
              refine lv_iload_n hC.1 hC.2.1 dX3_list_58 rfl (lv_at hl 3 rfl) ?_
              refine keSi (rest := []) (kcV 0 hC hK hN hW (c_X3_standsIn l D G L hL T N q (nI i) c) (kgoodV tm_X3_234 ti_yX3_standsIn te_yX3_standsIn tz_X3 tc_yX3_standsIn) kw_m rfl ⟨rfl, by decide, by decide, (show Option.map _ (parseMethodDescriptor yX3_standsIn.desc) = some 2 from by decide +kernel)⟩ ⟨Nat.le_of_ble_eq_true rfl, Nat.le_of_ble_eq_true rfl⟩ hl.1 rfl (Nat.le_of_ble_eq_true rfl) ⟨Nat.le_refl _, Nat.le_refl _⟩ dX3_list_59) ?_
              refine kif_eq (tgt := 77) hC.1 hC.2.1 dX3_list_62 (by decide) (fun c_62 => ?_) (fun c_62 => ?_)
              · refine lv_iinc (v := nI (i + 1)) (lv' := [(7, .int (nI (i + 1))), (6, .int k), (0, .ref (L 0)), (2, .int c), (3, .int x)]) hC.1 hC.2.1 dX3_list_77 hl (k := 0) rfl (nI_1 i) (by decide) rfl (fun ls hl => ?_)
                refine lv_goto (tgt := 46) hC.1 hC.2.1 dX3_list_80 (by decide) ?_
                exact ih (i + 1) k (by omega) (Eq.trans (by simp only [klist, kif_true, kif_false, kb, not_true_eq_false, not_false_eq_true, and_true, true_and, and_false, false_and, and_self, or_true, true_or, or_false, false_or, Int32.add_zero, Int32.sub_zero, c_2, c_9, c_34, c_52, c_62]) hA) ls (lv_sub hl [0, 1, 2, 3, 4] rfl)
              · refine lv_iload hC.1 hC.2.1 dX3_list_65 (lv_at hl 1 rfl) ?_
                refine lv_iload_n hC.1 hC.2.1 dX3_list_67 rfl (lv_at hl 4 rfl) ?_
                refine lv_icmp_ne (tgt := 74) hC.1 hC.2.1 dX3_list_68 (by decide) (fun c_68 => ?_) (fun c_68 => ?_)
                · refine lv_iinc (v := k + 1) (lv' := [(6, .int (k + 1)), (7, .int (nI i)), (0, .ref (L 0)), (2, .int c), (3, .int x)]) hC.1 hC.2.1 dX3_list_74 hl (k := 1) rfl rfl (by decide) rfl (fun ls hl => ?_)
                  refine lv_iinc (v := nI (i + 1)) (lv' := [(7, .int (nI (i + 1))), (6, .int (k + 1)), (0, .ref (L 0)), (2, .int c), (3, .int x)]) hC.1 hC.2.1 dX3_list_77 hl (k := 1) rfl (nI_1 i) (by decide) rfl (fun ls hl => ?_)
                  refine lv_goto (tgt := 46) hC.1 hC.2.1 dX3_list_80 (by decide) ?_
                  exact ih (i + 1) (k + 1) (by omega) (Eq.trans (by simp only [klist, kif_true, kif_false, kb, not_true_eq_false, not_false_eq_true, and_true, true_and, and_false, false_and, and_self, or_true, true_or, or_false, false_or, Int32.add_zero, Int32.sub_zero, c_2, c_9, c_34, c_52, c_62, c_68]) hA) ls (lv_sub hl [0, 1, 2, 3, 4] rfl)
                · refine lv_iload hC.1 hC.2.1 dX3_list_71 (lv_at hl 0 rfl) ?_
                  exact krS hC hr hlk (by simp only [a_list, kif_true, c_2, c_9, c_34, and_self]; rw [← hA]; simp only [klist, kif_true, kif_false, kb, not_true_eq_false, not_false_eq_true, and_true, true_and, and_false, false_and, and_self, or_true, true_or, or_false, false_or, Int32.add_zero, Int32.sub_zero, c_2, c_9, c_34, c_52, c_62, c_68]) dX3_list_73
        exact loop_46 (tn (T 0 3)) 0 0 (by omega) (rfl) ls (by rw [nI_0]; exact lv_sub hl [0, 1, 4, 6, 7] rfl)
      · refine lv_ldc hC.1 hC.2.1 hC.2.2.2.1 (hC.2.2.2.2 _ (kt_in tk_X3_98 rfl)) dX3_list_37 ?_
        exact krS hC hr hlk (by simp (config := {decide := true}) only [kif_true, kif_false, kb, kup_eq, kup_f, kup_i, not_true_eq_false, not_false_eq_true, and_true, true_and, and_false, false_and, and_self, or_true, true_or, or_false, false_or, a_list, c_2, c_9, c_34]) dX3_list_39
    · refine lv_astoreN (lv' := [(5, .null), (4, .ref (L (4 + (tn p)))), (0, .ref (L 0)), (1, .int p), (2, .int c), (3, .int x)]) hC.1 hC.2.1 dX3_list_12 hl (by decide) rfl (fun ls hl => ?_)
      refine lv_aload hC.1 hC.2.1 dX3_list_14 (lv_at hl 1 rfl) ?_
      refine lv_ifnull hC.1 hC.2.1 dX3_list_16 ?_
      refine lv_aloadN hC.1 hC.2.1 dX3_list_19 (lv_at hl 0 rfl) ?_
      refine lv_ifnonnullN hC.1 hC.2.1 dX3_list_21 ?_
      refine lv_ldc hC.1 hC.2.1 hC.2.2.2.1 (hC.2.2.2.2 _ (kt_in tk_X3_51 rfl)) dX3_list_24 ?_
      exact krS hC hr hlk (by simp (config := {decide := true}) only [kif_true, kif_false, kb, kup_eq, kup_f, kup_i, not_true_eq_false, not_false_eq_true, and_true, true_and, and_false, false_and, and_self, or_true, true_or, or_false, false_or, a_list, c_2, c_9]) dX3_list_26
  · refine lv_astoreN (lv' := [(4, .null), (0, .ref (L 0)), (1, .int p), (2, .int c), (3, .int x)]) hC.1 hC.2.1 dX3_list_5 hl (by decide) rfl (fun ls hl => ?_)
    refine lv_aload_n hC.1 hC.2.1 dX3_list_7 rfl (lv_at hl 1 rfl) ?_
    refine lv_iload_n hC.1 hC.2.1 dX3_list_8 rfl (lv_at hl 3 rfl) ?_
    refine keSq (rest := []) (kcV 0 hC hK hN hW (c_X3_containerAt l D G L hL T N q c) (kgoodV tm_X3_173 ti_yX3_containerAt te_yX3_containerAt tz_X3 tc_yX3_containerAt) kw_m rfl ⟨rfl, by decide, by decide, (show Option.map _ (parseMethodDescriptor yX3_containerAt.desc) = some 1 from by decide +kernel)⟩ ⟨Nat.le_of_ble_eq_true rfl, Nat.le_of_ble_eq_true rfl⟩ hl.1 rfl (Nat.le_of_ble_eq_true rfl) ⟨Nat.le_refl _, Nat.le_refl _⟩ dX3_list_9) ?_
    refine kopt (P := kCn T c) (fun c_9 => ?_) (fun c_9 => ?_)
    · refine lv_astore (lv' := [(5, .ref (L (188 + (tn c)))), (4, .null), (0, .ref (L 0)), (1, .int p), (2, .int c), (3, .int x)]) hC.1 hC.2.1 dX3_list_12 hl (by decide) rfl (fun ls hl => ?_)
      refine lv_aloadN hC.1 hC.2.1 dX3_list_14 (lv_at hl 1 rfl) ?_
      refine lv_ifnullN (tgt := 24) hC.1 hC.2.1 dX3_list_16 (by decide) ?_
      refine lv_ldc hC.1 hC.2.1 hC.2.2.2.1 (hC.2.2.2.2 _ (kt_in tk_X3_51 rfl)) dX3_list_24 ?_
      exact krS hC hr hlk (by simp (config := {decide := true}) only [kif_true, kif_false, kb, kup_eq, kup_f, kup_i, not_true_eq_false, not_false_eq_true, and_true, true_and, and_false, false_and, and_self, or_true, true_or, or_false, false_or, a_list, c_2, c_9]) dX3_list_26
    · refine lv_astoreN (lv' := [(5, .null), (4, .null), (0, .ref (L 0)), (1, .int p), (2, .int c), (3, .int x)]) hC.1 hC.2.1 dX3_list_12 hl (by decide) rfl (fun ls hl => ?_)
      refine lv_aloadN hC.1 hC.2.1 dX3_list_14 (lv_at hl 1 rfl) ?_
      refine lv_ifnullN (tgt := 24) hC.1 hC.2.1 dX3_list_16 (by decide) ?_
      refine lv_ldc hC.1 hC.2.1 hC.2.2.2.1 (hC.2.2.2.2 _ (kt_in tk_X3_51 rfl)) dX3_list_24 ?_
      exact krS hC hr hlk (by simp (config := {decide := true}) only [kif_true, kif_false, kb, kup_eq, kup_f, kup_i, not_true_eq_false, not_false_eq_true, and_true, true_and, and_false, false_and, and_self, or_true, true_or, or_false, false_or, a_list, c_2, c_9]) dX3_list_26
