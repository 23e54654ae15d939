/-! THE LAW MAKES BOTH OBJECTS -/
theorem dv4 : ∀ (j : Nat), j < 33 → defaultValue (tyX4 j) = vp_V [.int 0, .int 0, .int 0, .int 0, .null, .null, .null, .null, .null, .null, .null, .int 0, .null, .null, .null, .null, .null, .null, .int 0, .null, .null, .null, .null, .null, .null, .null, .null, .null, .int 0, .int 0, .int 0, .int 0, .null] j
  | 0, _ => rfl
  | 1, _ => rfl
  | 2, _ => rfl
  | 3, _ => rfl
  | 4, _ => rfl
  | 5, _ => rfl
  | 6, _ => rfl
  | 7, _ => rfl
  | 8, _ => rfl
  | 9, _ => rfl
  | 10, _ => rfl
  | 11, _ => rfl
  | 12, _ => rfl
  | 13, _ => rfl
  | 14, _ => rfl
  | 15, _ => rfl
  | 16, _ => rfl
  | 17, _ => rfl
  | 18, _ => rfl
  | 19, _ => rfl
  | 20, _ => rfl
  | 21, _ => rfl
  | 22, _ => rfl
  | 23, _ => rfl
  | 24, _ => rfl
  | 25, _ => rfl
  | 26, _ => rfl
  | 27, _ => rfl
  | 28, _ => rfl
  | 29, _ => rfl
  | 30, _ => rfl
  | 31, _ => rfl
  | 32, _ => rfl
  | n + 33, hj => absurd hj (by omega)
theorem law_made {p : Program} {l : Launch} {e : Env} {s : State} {m : MethodId} {args : Array Value} {below : List Frame} {meth : Method} {c : Code} {Q : State → Prop} {b : Nat} {D : va_G} {G : Nat → ClassId} {R : Room} {A : Nat → Prop} {ls : Array Slot} (hC : kCx p s m args c cL_law 4 RL) (hts : ∀ w ∈ lw_tbl, w.before args s = true) (hK : va_K D vwCl (kty G) s) (hA : ∀ q, s.heap.size ≤ q → A q) (hRc : 332 ≤ R.cells) (hRs : 7002 ≤ R.slots) (hRf : 4 ≤ R.frames) (hRl : 120 ≤ R.locals) (hl : lv_has ls 4 [(0, .ref b)])
    (kk : ∀ (L M : Nat → Nat) (H : Heap) (locs : List Loc) (ls : Array Slot), kL L → mL M → kApart L M → kWd D G L A s.heap kT0 zT zq H locs → mWd D G M A s.heap kT0 zT zf zf H locs → lv_has ls 4 [(2, .ref (M 0)), (1, .ref (L 0)), (0, .ref b)] → W p l e R s m args below meth c H locs 332 7002 Q (F0 m 16 ls [])) : W p l e R s m args below meth c s.heap [] 0 0 Q (F0 m 0 ls []) := by
  have hN := kNs_of hts
  have hP : va_P D vwCl [] s.heap := fun k q h => by simp at h
  have hD : va_D A [] := ⟨fun i j x y h => by simp at h, fun k q h => by simp at h⟩
  have hS : va_S A s.heap s.heap [] := va_S.rf
  refine va_new (C := RX3) (T := TX3) (N := 13) (ci := 3) (fs := [.null, .null, .null, .int 0, .int 0, .int 0, .int 0, .int 0, .int 0, .int 0, .int 0, .int 0, .int 0]) hC.1 hC.2.1 hC.2.2.2.2 inT3 tyX3 tyX3_ok hC.2.2.2.1 (hts _ tl_L_7) (hts _ tn_X3) (hts _ tz_X3) hK hP hD hS hA rfl (fun j hj => by match j, hj with | 0, _ | 1, _ | 2, _ | 3, _ | 4, _ | 5, _ | 6, _ | 7, _ | 8, _ | 9, _ | 10, _ | 11, _ | 12, _ => rfl) (by omega) (by omega) dL_law_0 (fun x H hP hD hS => ?_)
  refine lv_dup hC.1 hC.2.1 dL_law_3 rfl ?_
  refine va_callv (mc := 307) (ms := 3600) (rest := [.ref x]) (va_runI ⟨hC.1, hC.2.1, hC.2.2.1, hC.2.2.2.1, hC.2.2.2.2⟩ (c_X3_init l D G x H.size) ⟨callB_of 0 hC.2.2.2.2 (kgoodC tc_yX3_init) rfl rfl rfl (hts _ tz_X3) (hts _ tm_L_9) ⟨by decide, by decide, by decide +kernel⟩ ⟨by show 2 + 1 ≤ _; omega, by show 8 + (2 + 11) + 40 ≤ _; omega⟩, rfl, hts _ ti_yX3_init⟩ ⟨fun a U g mk h => ⟨h.1, h.2.1, h.2.2.1, va_K.moved (u := U) (U := U.calling g mk a) (Vm.Alike.refl U.vm) h.2.2.2.1, h.2.2.2.2.1.call, va_AO.moved (u := U) (U := U.calling g mk a) (Vm.Alike.refl U.vm) h.2.2.2.2.2.1, va_AO.moved (u := U) (U := U.calling g mk a) (Vm.Alike.refl U.vm) h.2.2.2.2.2.2.1, va_AO.moved (u := U) (U := U.calling g mk a) (Vm.Alike.refl U.vm) h.2.2.2.2.2.2.2⟩, fun U hU hw => ⟨rfl, by rw [hU], by rw [hU]; exact hP, va_K.moved hw.alike hK, hN.warm hw, (va_AO.of (hts _ to_X0)).moved hw.alike, (va_AO.of (hts _ to_X1)).moved hw.alike, (va_AO.of (hts _ to_X2)).moved hw.alike⟩⟩ rfl rfl hl.1 rfl (Nat.le_of_ble_eq_true rfl) dL_law_4 ⟨by omega, by omega⟩) hS (fun y _ h => kfree hD hS hA y h) (kfree hD hS hA) (fun L t H1 locs1 e1 _ hM hP1 hz hkk hS1 => ?_)
  subst e1
  have hDk : va_D (va_A (zX3 x) H.size) (kw G L kT0 zT zq) := ⟨fun i j a b ha hb h => hM.2.1 i j (kw_is ha).1 (kw_is hb).1 (by rw [← (kw_is ha).2, ← (kw_is hb).2]; exact h), fun k y hy => by rw [(kw_is hy).2]; exact hM.2.2 k (kw_is hy).1⟩
  have hj := kjoin (w0 := []) hP hD hkk (kfree hD hS hA) hP1 hDk
  have hP : va_P D vwCl (kw G L kT0 zT zq) t.heap := hj.1
  have hD : va_D A (kw G L kT0 zT zq) := hj.2
  refine lv_astore_n (lv' := [(1, .ref x), (0, .ref b)]) hC.1 hC.2.1 dL_law_7 rfl hl (by decide) rfl (fun ls hl => ?_)
  refine va_new (C := RX4) (T := TX4) (N := 33) (ci := 4) (fs := [.int 0, .int 0, .int 0, .int 0, .null, .null, .null, .null, .null, .null, .null, .int 0, .null, .null, .null, .null, .null, .null, .int 0, .null, .null, .null, .null, .null, .null, .null, .null, .null, .int 0, .int 0, .int 0, .int 0, .null]) hC.1 hC.2.1 hC.2.2.2.2 inT4 tyX4 tyX4_ok hC.2.2.2.1 (hts _ tl_L_10) (hts _ tn_X4) (hts _ tz_X4) hK hP hD hS1 hA rfl dv4 (by omega) (by omega) dL_law_8 (fun y H hP hD hS => ?_)
  refine lv_dup hC.1 hC.2.1 dL_law_11 rfl ?_
  refine va_callv (mc := 23) (ms := 3356) (rest := [.ref y]) (va_runI ⟨hC.1, hC.2.1, hC.2.2.1, hC.2.2.2.1, hC.2.2.2.2⟩ (c_X4_init l D G y H.size) ⟨callB_of 0 hC.2.2.2.2 (kgoodC tc_yX4_init) rfl rfl rfl (hts _ tz_X4) (hts _ tm_L_12) ⟨by decide, by decide, by decide +kernel⟩ ⟨Nat.le_trans (Nat.le_of_ble_eq_true rfl) hRf, Nat.le_trans (Nat.le_of_ble_eq_true rfl) hRl⟩, rfl, hts _ ti_yX4_init⟩ ⟨fun a U g mk h => ⟨h.1, h.2.1, h.2.2.1, va_K.moved (u := U) (U := U.calling g mk a) (Vm.Alike.refl U.vm) h.2.2.2⟩, fun U hU hw => ⟨rfl, by rw [hU], by rw [hU]; exact klast hP, va_K.moved hw.alike hK⟩⟩ rfl rfl hl.1 rfl (Nat.le_of_ble_eq_true rfl) dL_law_12 ⟨by omega, by omega⟩) hS (fun y _ h => kfree hD hS hA y h) (kfree hD hS hA) (fun M t2 H2 locs2 e2 _ hM2 hP2 hz2 hkk2 hS2 => ?_)
  subst e2
  have hDm : va_D (va_A [(y, .inr (4, [.int 0, .int 0, .int 0, .int 0, .null, .null, .null, .null, .null, .null, .null, .int 0, .null, .null, .null, .null, .null, .null, .int 0, .null, .null, .null, .null, .null, .null, .null, .null, .null, .int 0, .int 0, .int 0, .int 0, .null]))] H.size) (mw G M mT0 zT zf zf) := ⟨fun i j a b ha hb h => hM2.2.1 i j (mw_is ha).1 (mw_is hb).1 (by rw [← (mw_is ha).2, ← (mw_is hb).2]; exact h), fun k z hy => by rw [(mw_is hy).2]; exact hM2.2.2 k (mw_is hy).1⟩
  have hj2 := kjoin hP hD hkk2 (kfree hD hS hA) hP2 hDm
  have hlen : (kw G L kT0 zT zq).length = 308 := by simp [kw]
  have gl : ∀ (k : Nat) (z : Nat × va_E), (kw G L kT0 zT zq)[k]? = some z → (kw G L kT0 zT zq ++ mw G M mT0 zT zf zf)[k]? = some z := fun k z h => by rw [List.getElem?_append_left (List.getElem?_eq_some_iff.mp h).1]; exact h
  have gr : ∀ (k : Nat) (z : Nat × va_E), (mw G M mT0 zT zf zf)[k]? = some z → (kw G L kT0 zT zq ++ mw G M mT0 zT zf zf)[308 + k]? = some z := fun k z h => by rw [List.getElem?_append_right (by omega), hlen, Nat.add_sub_cancel_left]; exact h
  refine lv_astore_n (lv' := [(2, .ref y), (1, .ref x), (0, .ref b)]) hC.1 hC.2.1 dL_law_15 rfl hl (by decide) rfl (fun ls hl => ?_)
  rw [← hM.1, ← hM2.1] at hl
  refine W.widen (k := 332) (n := 7002) (by omega) (by omega) (kk L M _ _ ls hM.2.1 hM2.2.1 (fun i j hi hj h => ?_) ⟨fun k z h => hj2.1 k z (gl k z h), ⟨fun i j a b ha hb h => hj2.2.1 i j a b (gl i a ha) (gl j b hb) h, fun k z h => hj2.2.2 k z (gl k z h)⟩, hS2⟩ (by rw [T0_eq]; exact ⟨fun k z h => hj2.1 _ z (gr k z h), ⟨fun i j a b ha hb h => by have := hj2.2.1 _ _ a b (gr i a ha) (gr j b hb) h; omega, fun k z h => hj2.2.2 _ z (gr k z h)⟩, hS2⟩) hl)
  have := hj2.2.1 _ _ _ _ (gl i _ (kw_get hi)) (gr j _ (mw_get hj)) h
  omega
