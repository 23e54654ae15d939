/-! THE LAW'S LOOP -/
theorem ksw23 (x : Int32) : (∃ j, j < 23 ∧ x = nI j) ∨ (x.toInt < 0 ∨ 22 < x.toInt) := by
  by_cases h : x.toInt < 0 ∨ 22 < x.toInt
  · exact Or.inr h
  · have h0 : ¬ x < 0 := fun q => by
      rw [Int32.lt_iff_toInt_lt] at q
      have e0 : (0 : Int32).toInt = 0 := by decide
      omega
    obtain ⟨j, hj, e⟩ := nI_of h0
    refine Or.inl ⟨j, ?_, e⟩
    rw [e, nI_toInt hj] at h
    omega
theorem law_more {Ln i : Nat} (hLn : Ln ≤ 3584) (hi : i ≤ Ln) (h : ¬ nI Ln - 7 < nI i) : i + 7 ≤ Ln := by
  rw [Int32.lt_iff_toInt_lt, nI_toInt (by omega)] at h
  have e7 : (7 : Int32).toInt = 7 := by decide
  have e : (nI Ln - 7).toInt = (Ln : Int) - 7 := by
    rw [Int32.toInt_sub, e7, nI_toInt (by omega)]
    exact Int.bmod_eq_of_le (by omega) (by omega)
  omega
section LP
variable {p : Program} {l : Launch} {e : Env} {s : State} {m : MethodId} {args : Array Value} {below : List Frame} {meth : Method} {c : Code} {Q : State → Prop} {b Ln : Nat} {xs : Nat → Int32} {D : va_G} {G : Nat → ClassId} {A : Nat → Prop} {L M : Nat → Nat}
set_option maxHeartbeats 4000000 in
set_option maxRecDepth 100000 in
theorem law_loop (hC : kCx p s m args c cL_law 4 RL) (hK : va_K D vwCl (kty G) s) (hN : kNs s) (hX : va_X b Ln xs s s.heap) (hbl : b < s.heap.size) (hbA : ¬ A b) (hL : kL L) (hM0 : mL M) (hap : kApart L M) (hLn : Ln ≤ 3584) (fin : ∀ (H : Heap) (locs : List Loc) (ls : Array Slot), va_S A s.heap H locs → W p l e room_1 s m args below meth c H locs 332 7002 Q (F0 m 1099 ls [])) : ∀ (n i : Nat), i ≤ Ln → Ln + 1 ≤ i + n → ∀ (T N : kT) (q : kQ) (r g : Nat → Int32) (H : Heap) (locs : List Loc) (ls : Array Slot), kInv T → kRel T q r → kWd D G L A s.heap T N q H locs → mWd D G M A s.heap T N r g H locs → lv_has ls 4 [(3, .int (nI i)), (2, .ref (M 0)), (1, .ref (L 0)), (0, .ref b)] → W p l e room_1 s m args below meth c H locs 332 7002 Q (F0 m 18 ls []) := by
  intro n
  induction n with
  | zero =>
    intro i h1 h2
    exact absurd h2 (by omega)
  | succ n ih =>
    intro i hiL hin T N q r g H locs ls hI hQ hW hM hl
    refine lv_iload_n hC.1 hC.2.1 dL_law_18 rfl (lv_at hl 0 rfl) ?_
    refine lv_aload_n hC.1 hC.2.1 dL_law_19 rfl (lv_at hl 3 rfl) ?_
    refine va_slen hC.1 hC.2.1 hX hbl hbA hW.2.2 dL_law_20 ?_
    refine lv_bipush (v := 7) hC.1 hC.2.1 dL_law_21 (by decide) ?_
    refine lv_isub hC.1 hC.2.1 dL_law_23 ?_
    refine lv_icmp_gt (tgt := 1099) hC.1 hC.2.1 dL_law_24 (by decide) (fun _ => fin H locs ls hW.2.2) (fun c_24 => ?_)
    have hi : i + 7 ≤ Ln := law_more hLn hiL c_24
    have back : ∀ (T N : kT) (q : kQ) (r g : Nat → Int32) (H : Heap) (locs : List Loc), kInv T → kRel T q r → kWd D G L A s.heap T N q H locs → mWd D G M A s.heap T N r g H locs → W p l e room_1 s m args below meth c H locs 332 7002 Q (F0 m 1093 ls []) := by
      intro T N q r g H locs hI hQ hW hM
      refine lv_iinc (v := nI (i + 7)) (lv' := [(3, .int (nI (i + 7))), (2, .ref (M 0)), (1, .ref (L 0)), (0, .ref b)]) hC.1 hC.2.1 dL_law_1093 hl (k := 0) rfl (by rw [show Int32.ofInt 7 = nI 7 from by decide, nI_add]) (by decide) rfl (fun ls hl => ?_)
      refine lv_goto (tgt := 18) hC.1 hC.2.1 dL_law_1096 (by decide) ?_
      exact ih (i + 7) hi (by omega) T N q r g H locs ls hI hQ hW hM hl
    refine lv_aload_n hC.1 hC.2.1 dL_law_27 rfl (lv_at hl 3 rfl) ?_
    refine lv_iload_n hC.1 hC.2.1 dL_law_28 rfl (lv_at hl 0 rfl) ?_
    refine va_sld hC.1 hC.2.1 hX hbl hbA hW.2.2 (vp_in_nI (by omega) (by omega)) dL_law_29 ?_
    refine lv_bipush (v := 31) hC.1 hC.2.1 dL_law_30 (by decide) ?_
    refine lv_iand hC.1 hC.2.1 dL_law_32 ?_
    refine lv_topi (fun x _ => ?_)
    rcases ksw23 x with ⟨j, hj, rfl⟩ | hx
    · rcases (show j = 0 ∨ j = 1 ∨ j = 2 ∨ j = 3 ∨ j = 4 ∨ j = 5 ∨ j = 6 ∨ j = 7 ∨ j = 8 ∨ j = 9 ∨ j = 10 ∨ j = 11 ∨ j = 12 ∨ j = 13 ∨ j = 14 ∨ j = 15 ∨ j = 16 ∨ j = 17 ∨ j = 18 ∨ j = 19 ∨ j = 20 ∨ j = 21 ∨ j = 22 by omega) with rfl | rfl | rfl | rfl | rfl | rfl | rfl | rfl | rfl | rfl | rfl | rfl | rfl | rfl | rfl | rfl | rfl | rfl | rfl | rfl | rfl | rfl | rfl
      · exact lv_tableIn (tgt := 140) (off := 107) hC.1 hC.2.1 dL_law_33 (by decide) (by decide) rfl (by decide) (law_tag hC hK hN hX hbl hbA hL hM0 hap hi hLn hI hQ hW hM hl back)
      · exact lv_tableIn (tgt := 173) (off := 140) hC.1 hC.2.1 dL_law_33 (by decide) (by decide) rfl (by decide) (law_everybody hC hK hN hX hbl hbA hL hM0 hap hi hLn hI hQ hW hM hl back)
      · exact lv_tableIn (tgt := 196) (off := 163) hC.1 hC.2.1 dL_law_33 (by decide) (by decide) rfl (by decide) (law_told hC hK hN hX hbl hbA hL hM0 hap hi hLn hI hQ hW hM hl back)
      · exact lv_tableIn (tgt := 229) (off := 196) hC.1 hC.2.1 dL_law_33 (by decide) (by decide) rfl (by decide) (law_label hC hK hN hX hbl hbA hL hM0 hap hi hLn hI hQ hW hM hl back)
      · exact lv_tableIn (tgt := 272) (off := 239) hC.1 hC.2.1 dL_law_33 (by decide) (by decide) rfl (by decide) (law_drop hC hK hN hX hbl hbA hL hM0 hap hi hLn hI hQ hW hM hl back)
      · exact lv_tableIn (tgt := 315) (off := 282) hC.1 hC.2.1 dL_law_33 (by decide) (by decide) rfl (by decide) (law_spawn hC hK hN hX hbl hbA hL hM0 hap hi hLn hI hQ hW hM hl back)
      · exact lv_tableIn (tgt := 378) (off := 345) hC.1 hC.2.1 dL_law_33 (by decide) (by decide) rfl (by decide) (law_exit hC hK hN hX hbl hbA hL hM0 hap hi hLn hI hQ hW hM hl back)
      · exact lv_tableIn (tgt := 401) (off := 368) hC.1 hC.2.1 dL_law_33 (by decide) (by decide) rfl (by decide) (law_endpoint hC hK hN hX hbl hbA hL hM0 hap hi hLn hI hQ hW hM hl back)
      · exact lv_tableIn (tgt := 444) (off := 411) hC.1 hC.2.1 dL_law_33 (by decide) (by decide) rfl (by decide) (law_close hC hK hN hX hbl hbA hL hM0 hap hi hLn hI hQ hW hM hl back)
      · exact lv_tableIn (tgt := 477) (off := 444) hC.1 hC.2.1 dL_law_33 (by decide) (by decide) rfl (by decide) (law_port hC hK hN hX hbl hbA hL hM0 hap hi hLn hI hQ hW hM hl back)
      · exact lv_tableIn (tgt := 510) (off := 477) hC.1 hC.2.1 dL_law_33 (by decide) (by decide) rfl (by decide) (law_send hC hK hN hX hbl hbA hL hM0 hap hi hLn hI hQ hW hM hl back)
      · exact lv_tableIn (tgt := 585) (off := 552) hC.1 hC.2.1 dL_law_33 (by decide) (by decide) rfl (by decide) (law_receive hC hK hN hX hbl hbA hL hM0 hap hi hLn hI hQ hW hM hl back)
      · exact lv_tableIn (tgt := 618) (off := 585) hC.1 hC.2.1 dL_law_33 (by decide) (by decide) rfl (by decide) (law_message hC hK hN hX hbl hbA hL hM0 hap hi hLn hI hQ hW hM hl back)
      · exact lv_tableIn (tgt := 651) (off := 618) hC.1 hC.2.1 dL_law_33 (by decide) (by decide) rfl (by decide) (law_container hC hK hN hX hbl hbA hL hM0 hap hi hLn hI hQ hW hM hl back)
      · exact lv_tableIn (tgt := 726) (off := 693) hC.1 hC.2.1 dL_law_33 (by decide) (by decide) rfl (by decide) (law_file hC hK hN hX hbl hbA hL hM0 hap hi hLn hI hQ hW hM hl back)
      · exact lv_tableIn (tgt := 779) (off := 746) hC.1 hC.2.1 dL_law_33 (by decide) (by decide) rfl (by decide) (law_remove hC hK hN hX hbl hbA hL hM0 hap hi hLn hI hQ hW hM hl back)
      · exact lv_tableIn (tgt := 812) (off := 779) hC.1 hC.2.1 dL_law_33 (by decide) (by decide) rfl (by decide) (law_write hC hK hN hX hbl hbA hL hM0 hap hi hLn hI hQ hW hM hl back)
      · exact lv_tableIn (tgt := 865) (off := 832) hC.1 hC.2.1 dL_law_33 (by decide) (by decide) rfl (by decide) (law_append hC hK hN hX hbl hbA hL hM0 hap hi hLn hI hQ hW hM hl back)
      · exact lv_tableIn (tgt := 918) (off := 885) hC.1 hC.2.1 dL_law_33 (by decide) (by decide) rfl (by decide) (law_read hC hK hN hX hbl hbA hL hM0 hap hi hLn hI hQ hW hM hl back)
      · exact lv_tableIn (tgt := 961) (off := 928) hC.1 hC.2.1 dL_law_33 (by decide) (by decide) rfl (by decide) (law_object hC hK hN hX hbl hbA hL hM0 hap hi hLn hI hQ hW hM hl back)
      · exact lv_tableIn (tgt := 1004) (off := 971) hC.1 hC.2.1 dL_law_33 (by decide) (by decide) rfl (by decide) (law_list hC hK hN hX hbl hbA hL hM0 hap hi hLn hI hQ hW hM hl back)
      · exact lv_tableIn (tgt := 1047) (off := 1014) hC.1 hC.2.1 dL_law_33 (by decide) (by decide) rfl (by decide) (law_crash hC hK hN hX hbl hbA hL hM0 hap hi hLn hI hQ hW hM hl back)
      · exact lv_tableIn (tgt := 1070) (off := 1037) hC.1 hC.2.1 dL_law_33 (by decide) (by decide) rfl (by decide) (law_count hC hK hN hX hbl hbA hL hM0 hap hi hLn hI hQ hW hM hl back)
    · exact lv_tableOut (tgt := 1093) hC.1 hC.2.1 dL_law_33 hx (by decide) (back T N q r g H locs hI hQ hW hM)
end LP
