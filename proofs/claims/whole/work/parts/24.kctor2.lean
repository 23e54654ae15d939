/-! THE CLASS'S CONSTRUCTOR -/
def zq : kQ := fun _ _ _ => 0
def kF (L : Nat → Nat) (ph : Nat) : List Value := [if ph = 0 then .null else .ref (L 1), if ph < 2 then .null else .ref (L 2), if ph < 3 then .null else .ref (L 3), .int 0, .int 0, .int 0, .int 0, .int 0, .int 0, .int 0, .int 0, .int 0, .int 0]
def kB (G : Nat → ClassId) (L : Nat → Nat) (ph a b c : Nat) (k : Nat) : va_E :=
  if k = 0 then .inr (3, kF L ph)
  else if k = 1 then .inl (G 4, 24, .inr (.inr (.inr (.inr (fun j => if j < a then some (L (4 + j)) else none)))))
  else if k = 2 then .inl (G 2, 40, .inr (.inr (.inr (.inr (fun j => if j < b then some (L (28 + j)) else none)))))
  else if k = 3 then .inl (G 3, 60, .inr (.inr (.inr (.inr (fun j => if j < c then some (L (188 + j)) else none)))))
  else kE G L zT zT zq k
section KB
variable {G : Nat → ClassId} {L L' : Nat → Nat} {ph a b c a' b' c' ph' : Nat}
theorem kB_k {k : Nat} (h : 4 ≤ k) : kB G L ph a b c k = kE G L zT zT zq k := by
  unfold kB
  rw [if_neg (by omega), if_neg (by omega), if_neg (by omega), if_neg (by omega)]
theorem kZ_p {i : Nat} (h : i < 24) : kE G L zT zT zq (4 + i) = .inr (2, [.int 0, .int 0, .int 0, .int 0, .int 0, .int 0, .int 0, .int 0, .int 0]) := by
  unfold kE
  rw [if_neg (by omega), if_neg (by omega), if_neg (by omega), if_neg (by omega), if_pos (by omega)]
  rfl
theorem kZ_e {i : Nat} (h : i < 40) : kE G L zT zT zq (28 + i) = .inr (0, [.ref (L (68 + i)), .ref (L (108 + i)), .ref (L (148 + i)), .int 0, .int 0, .int 0, .int 0, .int 0]) := by
  unfold kE
  rw [if_neg (by omega), if_neg (by omega), if_neg (by omega), if_neg (by omega), if_neg (by omega), if_pos (by omega), show 28 + i - 28 = i by omega]
  rfl
theorem kZ_v {i : Nat} (h1 : 68 ≤ i) (h2 : i < 188) : kE G L zT zT zq i = .inl (G 0, 4, .inl (fun _ => 0)) := by
  unfold kE
  rw [if_neg (by omega), if_neg (by omega), if_neg (by omega), if_neg (by omega), if_neg (by omega), if_neg (by omega)]
  by_cases h : i < 108
  · rw [if_pos h]; rfl
  · rw [if_neg h]
    by_cases h : i < 148
    · rw [if_pos h]; rfl
    · rw [if_neg h, if_pos h2]; rfl
theorem kZ_o {i : Nat} (h : i < 60) : kE G L zT zT zq (188 + i) = .inr (1, [.ref (L (248 + i)), .int 0, .int 0, .int 0, .int 0, .int 0, .int 0, .int 0, .int 0]) := by
  unfold kE
  rw [if_neg (by omega), if_neg (by omega), if_neg (by omega), if_neg (by omega), if_neg (by omega), if_neg (by omega), if_neg (by omega), if_neg (by omega), if_neg (by omega), if_pos (by omega), show 188 + i - 188 = i by omega]
  rfl
theorem kZ_n {i : Nat} (h : 248 ≤ i) : kE G L zT zT zq i = .inl (G 0, 32, .inl (fun _ => 0)) := by
  unfold kE
  rw [if_neg (by omega), if_neg (by omega), if_neg (by omega), if_neg (by omega), if_neg (by omega), if_neg (by omega), if_neg (by omega), if_neg (by omega), if_neg (by omega), if_neg (by omega)]
  rfl
end KB
def iP (k : Nat) : List Nat := (List.range k).flatMap (fun i => [4 + i])
def iE (k : Nat) : List Nat := (List.range k).flatMap (fun i => [28 + i, 68 + i, 108 + i, 148 + i])
def iO (k : Nat) : List Nat := (List.range k).flatMap (fun i => [188 + i, 248 + i])
theorem iP_s (k : Nat) : iP (k + 1) = iP k ++ [4 + k] := by simp [iP, List.range_succ]
theorem iE_s (k : Nat) : iE (k + 1) = iE k ++ [28 + k, 68 + k, 108 + k, 148 + k] := by simp [iE, List.range_succ]
theorem iO_s (k : Nat) : iO (k + 1) = iO k ++ [188 + k, 248 + k] := by simp [iO, List.range_succ]
theorem iP_m {k z : Nat} (h : z ∈ iP k) : ∃ i, i < k ∧ z = 4 + i := by simpa [iP] using h
theorem iE_m {k z : Nat} (h : z ∈ iE k) : ∃ i, i < k ∧ (z = 28 + i ∨ z = 68 + i ∨ z = 108 + i ∨ z = 148 + i) := by simpa [iE] using h
theorem iO_m {k z : Nat} (h : z ∈ iO k) : ∃ i, i < k ∧ (z = 188 + i ∨ z = 248 + i) := by simpa [iO] using h
theorem klast {D : va_G} {w0 : va_W} {x : Nat × va_E} {H : Heap} (h : va_P D vwCl (w0 ++ [x]) H) : va_P D vwCl [x] H := fun k y hk => by
  have hz : k = 0 := by have := (List.getElem?_eq_some_iff.mp hk).1; simp at this; omega
  subst hz
  have e : x = y := by simpa using hk
  subst e
  exact h w0.length x (by simp)
theorem kat {w0 : va_W} {x : Nat × va_E} {r : va_W} : (w0 ++ (x :: r))[w0.length]? = some x := by simp
theorem kfree {A : Nat → Prop} {w0 : va_W} {x : Nat × va_E} {H0 H : Heap} {locs : List Loc} (hD : va_D A (w0 ++ [x])) (hS : va_S A H0 H locs) (hA : ∀ q, H0.size ≤ q → A q) : ∀ q, va_A [x] H.size q → A q := fun q h => by
  rcases h with ⟨k, e, h⟩ | h
  · have hz : k = 0 := by have := (List.getElem?_eq_some_iff.mp h).1; simp at this; omega
    subst hz
    have e : x = (q, e) := by simpa using h
    have z := hD.2 w0.length x (by simp)
    rw [e] at z
    exact z
  · exact hA q (Nat.le_trans hS.1 h)
set_option maxHeartbeats 4000000 in
set_option maxRecDepth 100000 in
theorem kloop_X2 {p : Program} {l : Launch} {e : Env} {R : Room} {s : State} {m : MethodId} {args : Array Value} {below : List Frame} {meth : Method} {c : Code} {Q : State → Prop} {A : Nat → Prop} {H0 : Heap} {D : va_G} {G : Nat → ClassId} {h0 : Nat} (hC : kCx p s m args c cX3_init 2 yX3_init.cls) (hK : va_K D vwCl (kty G) s) (hN : kNs s) (hA : ∀ q, H0.size ≤ q → A q) (hRc : 25 ≤ R.cells) (hRs : 240 ≤ R.slots) (hRf : 2 ≤ R.frames) (hRl : 32 ≤ R.locals)
    (kk : ∀ (L : Nat → Nat) (H : Heap) (locs : List Loc) (ls : Array Slot), L 0 = h0 → va_P D vwCl (kxs (0 :: 1 :: ([] ++ iP 24)) L (kB G L 1 24 0 0)) H → va_D A (kxs (0 :: 1 :: ([] ++ iP 24)) L (kB G L 1 24 0 0)) → va_S A H0 H locs → lv_has ls 2 [(1, .int (nI 24)), (0, .ref (L 0))] → W p l e R s m args below meth c H locs (1 + 1 * 24) (24 + 9 * 24) Q (F0 m 43 ls [])) :
    ∀ (d k : Nat), k + d = 24 → ∀ (L : Nat → Nat) (H : Heap) (locs : List Loc) (ls : Array Slot), L 0 = h0 → va_P D vwCl (kxs (0 :: 1 :: ([] ++ iP k)) L (kB G L 1 k 0 0)) H → va_D A (kxs (0 :: 1 :: ([] ++ iP k)) L (kB G L 1 k 0 0)) → va_S A H0 H locs → lv_has ls 2 [(1, .int (nI k)), (0, .ref (L 0))] → W p l e R s m args below meth c H locs (1 + 1 * k) (24 + 9 * k) Q (F0 m 15 ls []) := by
  intro d
  induction d with
  | zero =>
    intro k hk L H locs ls h0e hP hD hS hl
    have hk : k = 24 := by omega
    subst hk
    refine lv_iload_n hC.1 hC.2.1 dX3_init_15 rfl (lv_at hl 0 rfl) ?_
    refine lv_aload_n hC.1 hC.2.1 dX3_init_16 rfl (lv_at hl 1 rfl) ?_
    refine va_get (T := TX3) (N := 13) (v := .ref (L 1)) hC.1 hC.2.1 hC.2.2.2.2 inT3 hC.2.2.2.1 hK hP 0 rfl rfl 0 (by decide) (hC.2.2.2.2 _ (kt_in tf_X3_11 rfl)) (fun _ h => h) rfl dX3_init_17 ?_
    refine va_alen (v := 24) hC.1 hC.2.1 hK hP 1 4 rfl rfl (show Int32.ofNat 24 = 24 from by decide) dX3_init_20 ?_
    refine lv_icmp_ge (tgt := 43) hC.1 hC.2.1 dX3_init_21 (by decide) (fun c_1 => ?_) (fun c_1 => ?_)
    · exact kk L H locs ls h0e hP hD hS hl
    · exact absurd (nI_le (a := 24) (b := 24) (by omega) (by omega)) c_1
  | succ d ih =>
    intro k hk L H locs ls h0e hP hD hS hl
    have hlt : k < 24 := by omega
    refine lv_iload_n hC.1 hC.2.1 dX3_init_15 rfl (lv_at hl 0 rfl) ?_
    refine lv_aload_n hC.1 hC.2.1 dX3_init_16 rfl (lv_at hl 1 rfl) ?_
    refine va_get (T := TX3) (N := 13) (v := .ref (L 1)) hC.1 hC.2.1 hC.2.2.2.2 inT3 hC.2.2.2.1 hK hP 0 rfl rfl 0 (by decide) (hC.2.2.2.2 _ (kt_in tf_X3_11 rfl)) (fun _ h => h) rfl dX3_init_17 ?_
    refine va_alen (v := 24) hC.1 hC.2.1 hK hP 1 4 rfl rfl (show Int32.ofNat 24 = 24 from by decide) dX3_init_20 ?_
    refine lv_icmp_ge (tgt := 43) hC.1 hC.2.1 dX3_init_21 (by decide) (fun c_1 => ?_) (fun c_1 => ?_)
    · exact absurd c_1 (nI_ge (a := k) (b := 24) (by omega) (by decide))
    refine lv_aload_n hC.1 hC.2.1 dX3_init_24 rfl (lv_at hl 1 rfl) ?_
    refine va_get (T := TX3) (N := 13) (v := .ref (L 1)) hC.1 hC.2.1 hC.2.2.2.2 inT3 hC.2.2.2.1 hK hP 0 rfl rfl 0 (by decide) (hC.2.2.2.2 _ (kt_in tf_X3_11 rfl)) (fun _ h => h) rfl dX3_init_25 ?_
    refine lv_iload_n hC.1 hC.2.1 dX3_init_28 rfl (lv_at hl 0 rfl) ?_
    refine va_new (C := RX2) (T := TX2) (N := 9) (ci := 2) (fs := [.int 0, .int 0, .int 0, .int 0, .int 0, .int 0, .int 0, .int 0, .int 0]) hC.1 hC.2.1 hC.2.2.2.2 inT2 tyX2 tyX2_ok hC.2.2.2.1 (hC.2.2.2.2 _ (kt_in tl_X3_9 rfl)) (hC.2.2.2.2 _ (kt_in tn_X2 rfl)) (hC.2.2.2.2 _ (kt_in tz_X2 rfl)) hK hP hD hS hA rfl (fun j hj => by match j, hj with | 0, _ | 1, _ | 2, _ | 3, _ | 4, _ | 5, _ | 6, _ | 7, _ | 8, _ => rfl) (by omega) (by omega) dX3_init_29 (fun q H hP hD hS => ?_)
    refine lv_dup hC.1 hC.2.1 dX3_init_32 rfl ?_
    refine va_callv (mc := 0) (ms := 0) (rest := [.ref q, .int (nI k), .ref (L 1)]) (va_runIN ⟨hC.1, hC.2.1, hC.2.2.1, hC.2.2.2.1, hC.2.2.2.2⟩ (c_X2_init l D G q H.size) ⟨va_cnB 0 hC.2.2.2.2 (kgoodC tc_yX2_init) rfl rfl rfl (hN _ tm_X3_15 rfl) (hC.2.2.2.2 _ (kt_in tz_X2 rfl)) ⟨by decide, by decide, by decide +kernel⟩ ⟨hRf, hRl⟩, rfl, hC.2.2.2.2 _ (kt_in ti_yX2_init rfl)⟩ ⟨fun a U g mk h => ⟨h.1, h.2.1, h.2.2.1, va_K.moved (u := U) (U := U.calling g mk a) (Vm.Alike.refl U.vm) h.2.2.2⟩, fun U hU hw => ⟨rfl, by rw [hU], by rw [hU]; exact klast hP, va_K.moved hw.alike hK⟩⟩ rfl rfl hl.1 rfl (Nat.le_of_ble_eq_true rfl) dX3_init_33 ⟨by omega, by omega⟩) hS (fun x _ h => kfree hD hS hA x h) (kfree hD hS hA) (fun M t H1 locs1 e1 _ hM hP1 hz hkk hS1 => ?_)
    subst e1
    have hj := kjoin hP hD hkk (kfree hD hS hA) hP1 hM
    refine va_astq (cA := G 4) (r := (RX2, TX2, 9)) (v := q) (n := 24) (f := fun j => if j < k then some (L (4 + j)) else none) hC.1 hC.2.1 hK hj.1 hj.2 hS1 1 4 (kxs (0 :: 1 :: ([] ++ iP k)) L (kB G L 1 k 0 0)).length 2 rfl rfl kat rfl (nI_in hlt (by decide)) dX3_init_36 (fun H locs hP hD hS => ?_)
    obtain ⟨L', hL'⟩ : ∃ L' : Nat → Nat, L' = fun j => if j = 4 + k then q else L j := ⟨_, rfl⟩
    have hLo : ∀ z, z ≠ 4 + k → L' z = L z := fun z hz => by rw [hL']; simp only []; rw [if_neg (by omega)]
    have hL0 : L' (4 + k) = q := by rw [hL']; simp only []; rw [if_pos trivial]
    have h0' : L' 0 = L 0 := hLo 0 (by omega)
    have hc' : L' 1 = L 1 := hLo 1 (by omega)
    have e_w := kxs_step (c := 1) (zs := [] ++ iP k) (js := [4 + k]) (L := L) (L' := L') (E := (kB G L 1 k 0 0)) (E' := (kB G L' 1 (k + 1) 0 0)) (e := .inl (G 4, 24, .inr (.inr (.inr (.inr (va_up (fun j => if j < k then some (L (4 + j)) else none) (nI k).toNatClampNeg (some q))))))) (rX := rX2 G q M)
      ⟨h0', by show (Sum.inr (3, kF L' 1) : va_E) = .inr (3, kF L 1); simp [kF, hc']⟩
      ⟨hc', by
        show (Sum.inl (G 4, 24, .inr (.inr (.inr (.inr (fun j => if j < k + 1 then some (L' (4 + j)) else none))))) : va_E) = _
        rw [nI_clamp (by omega)]
        have e1 : (fun j => if j < k + 1 then some (L' (4 + j)) else none) = va_up (fun j => if j < k then some (L (4 + j)) else none) k (some q) := by
          funext j
          by_cases h : j = k
          · rw [h, va_up_self, if_pos (by omega), hL0]
          · rw [va_up_ne _ _ h]
            by_cases h2 : j < k
            · rw [if_pos h2, if_pos (by omega), hLo _ (by omega)]
            · rw [if_neg h2, if_neg (by omega)]
        rw [e1]⟩
      (fun z hz => by
        obtain ⟨i, hi, rfl⟩ := iP_m hz
        exact ⟨hLo _ (by omega), by rw [kB_k (by omega), kB_k (by omega), kZ_p (by omega), kZ_p (by omega)]⟩)
      (by
        show [(L' (4 + k), (kB G L' 1 (k + 1) 0 0) (4 + k))] = rX2 G q M
        rw [kB_k (show 4 ≤ 4 + k by omega), kZ_p hlt, hL0]
        rfl)
    have hP : va_P D vwCl (kxs (0 :: 1 :: (([] ++ iP k) ++ [4 + k])) L' (kB G L' 1 (k + 1) 0 0)) H := by rw [← e_w]; exact hP
    have hD : va_D A (kxs (0 :: 1 :: (([] ++ iP k) ++ [4 + k])) L' (kB G L' 1 (k + 1) 0 0)) := by rw [← e_w]; exact hD
    rw [List.append_assoc, ← iP_s] at hP hD
    refine lv_iinc (v := nI (k + 1)) (lv' := [(1, .int (nI (k + 1))), (0, .ref (L 0))]) hC.1 hC.2.1 dX3_init_37 hl (k := 0) rfl (nI_1 k) (by decide) rfl (fun ls hl => ?_)
    refine lv_goto (tgt := 15) hC.1 hC.2.1 dX3_init_40 (by decide) ?_
    rw [← h0'] at hl
    refine W.widen (k := 1 + 1 * (k + 1)) (n := 24 + 9 * (k + 1)) (by omega) (by omega) ?_
    exact ih (k + 1) (by omega) L' H locs ls (h0'.trans h0e) hP hD hS hl
set_option maxHeartbeats 4000000 in
set_option maxRecDepth 100000 in
theorem kloop_X0 {p : Program} {l : Launch} {e : Env} {R : Room} {s : State} {m : MethodId} {args : Array Value} {below : List Frame} {meth : Method} {c : Code} {Q : State → Prop} {A : Nat → Prop} {H0 : Heap} {D : va_G} {G : Nat → ClassId} {h0 : Nat} (hC : kCx p s m args c cX3_init 2 yX3_init.cls) (hK : va_K D vwCl (kty G) s) (hN : kNs s) (hA : ∀ q, H0.size ≤ q → A q) (hRc : 186 ≤ R.cells) (hRs : 1080 ≤ R.slots) (hRf : 2 ≤ R.frames) (hRl : 32 ≤ R.locals)
    (kk : ∀ (L : Nat → Nat) (H : Heap) (locs : List Loc) (ls : Array Slot), L 0 = h0 → va_P D vwCl (kxs (0 :: 2 :: ((1 :: iP 24) ++ iE 40)) L (kB G L 2 24 40 0)) H → va_D A (kxs (0 :: 2 :: ((1 :: iP 24) ++ iE 40)) L (kB G L 2 24 40 0)) → va_S A H0 H locs → lv_has ls 2 [(1, .int (nI 40)), (0, .ref (L 0))] → W p l e R s m args below meth c H locs (26 + 4 * 40) (280 + 20 * 40) Q (F0 m 82 ls [])) :
    ∀ (d k : Nat), k + d = 40 → ∀ (L : Nat → Nat) (H : Heap) (locs : List Loc) (ls : Array Slot), L 0 = h0 → va_P D vwCl (kxs (0 :: 2 :: ((1 :: iP 24) ++ iE k)) L (kB G L 2 24 k 0)) H → va_D A (kxs (0 :: 2 :: ((1 :: iP 24) ++ iE k)) L (kB G L 2 24 k 0)) → va_S A H0 H locs → lv_has ls 2 [(1, .int (nI k)), (0, .ref (L 0))] → W p l e R s m args below meth c H locs (26 + 4 * k) (280 + 20 * k) Q (F0 m 54 ls []) := by
  intro d
  induction d with
  | zero =>
    intro k hk L H locs ls h0e hP hD hS hl
    have hk : k = 40 := by omega
    subst hk
    refine lv_iload_n hC.1 hC.2.1 dX3_init_54 rfl (lv_at hl 0 rfl) ?_
    refine lv_aload_n hC.1 hC.2.1 dX3_init_55 rfl (lv_at hl 1 rfl) ?_
    refine va_get (T := TX3) (N := 13) (v := .ref (L 2)) hC.1 hC.2.1 hC.2.2.2.2 inT3 hC.2.2.2.1 hK hP 0 rfl rfl 1 (by decide) (hC.2.2.2.2 _ (kt_in tf_X3_18 rfl)) (fun _ h => h) rfl dX3_init_56 ?_
    refine va_alen (v := 40) hC.1 hC.2.1 hK hP 1 2 rfl rfl (show Int32.ofNat 40 = 40 from by decide) dX3_init_59 ?_
    refine lv_icmp_ge (tgt := 82) hC.1 hC.2.1 dX3_init_60 (by decide) (fun c_1 => ?_) (fun c_1 => ?_)
    · exact kk L H locs ls h0e hP hD hS hl
    · exact absurd (nI_le (a := 40) (b := 40) (by omega) (by omega)) c_1
  | succ d ih =>
    intro k hk L H locs ls h0e hP hD hS hl
    have hlt : k < 40 := by omega
    refine lv_iload_n hC.1 hC.2.1 dX3_init_54 rfl (lv_at hl 0 rfl) ?_
    refine lv_aload_n hC.1 hC.2.1 dX3_init_55 rfl (lv_at hl 1 rfl) ?_
    refine va_get (T := TX3) (N := 13) (v := .ref (L 2)) hC.1 hC.2.1 hC.2.2.2.2 inT3 hC.2.2.2.1 hK hP 0 rfl rfl 1 (by decide) (hC.2.2.2.2 _ (kt_in tf_X3_18 rfl)) (fun _ h => h) rfl dX3_init_56 ?_
    refine va_alen (v := 40) hC.1 hC.2.1 hK hP 1 2 rfl rfl (show Int32.ofNat 40 = 40 from by decide) dX3_init_59 ?_
    refine lv_icmp_ge (tgt := 82) hC.1 hC.2.1 dX3_init_60 (by decide) (fun c_1 => ?_) (fun c_1 => ?_)
    · exact absurd c_1 (nI_ge (a := k) (b := 40) (by omega) (by decide))
    refine lv_aload_n hC.1 hC.2.1 dX3_init_63 rfl (lv_at hl 1 rfl) ?_
    refine va_get (T := TX3) (N := 13) (v := .ref (L 2)) hC.1 hC.2.1 hC.2.2.2.2 inT3 hC.2.2.2.1 hK hP 0 rfl rfl 1 (by decide) (hC.2.2.2.2 _ (kt_in tf_X3_18 rfl)) (fun _ h => h) rfl dX3_init_64 ?_
    refine lv_iload_n hC.1 hC.2.1 dX3_init_67 rfl (lv_at hl 0 rfl) ?_
    refine va_new (C := RX0) (T := TX0) (N := 8) (ci := 0) (fs := [.null, .null, .null, .int 0, .int 0, .int 0, .int 0, .int 0]) hC.1 hC.2.1 hC.2.2.2.2 inT0 tyX0 tyX0_ok hC.2.2.2.1 (hC.2.2.2.2 _ (kt_in tl_X3_16 rfl)) (hC.2.2.2.2 _ (kt_in tn_X0 rfl)) (hC.2.2.2.2 _ (kt_in tz_X0 rfl)) hK hP hD hS hA rfl (fun j hj => by match j, hj with | 0, _ | 1, _ | 2, _ | 3, _ | 4, _ | 5, _ | 6, _ | 7, _ => rfl) (by omega) (by omega) dX3_init_68 (fun q H hP hD hS => ?_)
    refine lv_dup hC.1 hC.2.1 dX3_init_71 rfl ?_
    refine va_callv (mc := 3) (ms := 12) (rest := [.ref q, .int (nI k), .ref (L 2)]) (va_runIN ⟨hC.1, hC.2.1, hC.2.2.1, hC.2.2.2.1, hC.2.2.2.2⟩ (c_X0_init l D G q H.size) ⟨va_cnB 0 hC.2.2.2.2 (kgoodC tc_yX0_init) rfl rfl rfl (hN _ tm_X3_22 rfl) (hC.2.2.2.2 _ (kt_in tz_X0 rfl)) ⟨by decide, by decide, by decide +kernel⟩ ⟨hRf, hRl⟩, rfl, hC.2.2.2.2 _ (kt_in ti_yX0_init rfl)⟩ ⟨fun a U g mk h => ⟨h.1, h.2.1, h.2.2.1, va_K.moved (u := U) (U := U.calling g mk a) (Vm.Alike.refl U.vm) h.2.2.2⟩, fun U hU hw => ⟨rfl, by rw [hU], by rw [hU]; exact klast hP, va_K.moved hw.alike hK⟩⟩ rfl rfl hl.1 rfl (Nat.le_of_ble_eq_true rfl) dX3_init_72 ⟨by omega, by omega⟩) hS (fun x _ h => kfree hD hS hA x h) (kfree hD hS hA) (fun M t H1 locs1 e1 _ hM hP1 hz hkk hS1 => ?_)
    subst e1
    have hj := kjoin hP hD hkk (kfree hD hS hA) hP1 hM
    refine va_astq (cA := G 2) (r := (RX0, TX0, 8)) (v := q) (n := 40) (f := fun j => if j < k then some (L (28 + j)) else none) hC.1 hC.2.1 hK hj.1 hj.2 hS1 1 2 (kxs (0 :: 2 :: ((1 :: iP 24) ++ iE k)) L (kB G L 2 24 k 0)).length 0 rfl rfl kat rfl (nI_in hlt (by decide)) dX3_init_75 (fun H locs hP hD hS => ?_)
    obtain ⟨L', hL'⟩ : ∃ L' : Nat → Nat, L' = fun j => if j = 28 + k then q else if j = 68 + k then M 0 else if j = 108 + k then M 1 else if j = 148 + k then M 2 else L j := ⟨_, rfl⟩
    have hLo : ∀ z, z ≠ 28 + k ∧ z ≠ 68 + k ∧ z ≠ 108 + k ∧ z ≠ 148 + k → L' z = L z := fun z hz => by rw [hL']; simp only []; rw [if_neg (by omega), if_neg (by omega), if_neg (by omega), if_neg (by omega)]
    have hL0 : L' (28 + k) = q := by rw [hL']; simp only []; rw [if_pos trivial]
    have hL1 : L' (68 + k) = M 0 := by rw [hL']; simp only []; rw [if_neg (by omega), if_pos trivial]
    have hL2 : L' (108 + k) = M 1 := by rw [hL']; simp only []; rw [if_neg (by omega), if_neg (by omega), if_pos trivial]
    have hL3 : L' (148 + k) = M 2 := by rw [hL']; simp only []; rw [if_neg (by omega), if_neg (by omega), if_neg (by omega), if_pos trivial]
    have h0' : L' 0 = L 0 := hLo 0 (by omega)
    have hc' : L' 2 = L 2 := hLo 2 (by omega)
    have hd1 : L' 1 = L 1 := hLo 1 (by omega)
    have e_w := kxs_step (c := 2) (zs := (1 :: iP 24) ++ iE k) (js := [28 + k, 68 + k, 108 + k, 148 + k]) (L := L) (L' := L') (E := (kB G L 2 24 k 0)) (E' := (kB G L' 2 24 (k + 1) 0)) (e := .inl (G 2, 40, .inr (.inr (.inr (.inr (va_up (fun j => if j < k then some (L (28 + j)) else none) (nI k).toNatClampNeg (some q))))))) (rX := rX0 G q M)
      ⟨h0', by show (Sum.inr (3, kF L' 2) : va_E) = .inr (3, kF L 2); simp [kF, hc', hd1]⟩
      ⟨hc', by
        show (Sum.inl (G 2, 40, .inr (.inr (.inr (.inr (fun j => if j < k + 1 then some (L' (28 + j)) else none))))) : va_E) = _
        rw [nI_clamp (by omega)]
        have e1 : (fun j => if j < k + 1 then some (L' (28 + j)) else none) = va_up (fun j => if j < k then some (L (28 + j)) else none) k (some q) := by
          funext j
          by_cases h : j = k
          · rw [h, va_up_self, if_pos (by omega), hL0]
          · rw [va_up_ne _ _ h]
            by_cases h2 : j < k
            · rw [if_pos h2, if_pos (by omega), hLo _ (by omega)]
            · rw [if_neg h2, if_neg (by omega)]
        rw [e1]⟩
      (fun z hz => by
        rcases List.mem_cons.mp hz with rfl | hz
        · refine ⟨hd1, ?_⟩
          show (Sum.inl (G 4, 24, .inr (.inr (.inr (.inr (fun j => if j < 24 then some (L' (4 + j)) else none))))) : va_E) = .inl (G 4, 24, .inr (.inr (.inr (.inr (fun j => if j < 24 then some (L (4 + j)) else none)))))
          rw [show (fun j => if j < 24 then some (L' (4 + j)) else none) = (fun j => if j < 24 then some (L (4 + j)) else none) from by funext j; by_cases h : j < 24 <;> simp only [h, if_true, if_false]; rw [hLo _ (by omega)]]
        rcases List.mem_append.mp hz with hz | hz
        · obtain ⟨i, hi, rfl⟩ := iP_m hz
          exact ⟨hLo _ (by omega), by rw [kB_k (by omega), kB_k (by omega), kZ_p (by omega), kZ_p (by omega)]⟩
        · obtain ⟨i, hi, h⟩ := iE_m hz
          rcases h with rfl | rfl | rfl | rfl
          · exact ⟨hLo _ (by omega), by rw [kB_k (by omega), kB_k (by omega), kZ_e (by omega), kZ_e (by omega), hLo _ (by omega), hLo _ (by omega), hLo _ (by omega)]⟩
          · exact ⟨hLo _ (by omega), by rw [kB_k (by omega), kB_k (by omega), kZ_v (by omega) (by omega), kZ_v (by omega) (by omega)]⟩
          · exact ⟨hLo _ (by omega), by rw [kB_k (by omega), kB_k (by omega), kZ_v (by omega) (by omega), kZ_v (by omega) (by omega)]⟩
          · exact ⟨hLo _ (by omega), by rw [kB_k (by omega), kB_k (by omega), kZ_v (by omega) (by omega), kZ_v (by omega) (by omega)]⟩)
      (by
        show [(L' (28 + k), (kB G L' 2 24 (k + 1) 0) (28 + k)), (L' (68 + k), (kB G L' 2 24 (k + 1) 0) (68 + k)), (L' (108 + k), (kB G L' 2 24 (k + 1) 0) (108 + k)), (L' (148 + k), (kB G L' 2 24 (k + 1) 0) (148 + k))] = rX0 G q M
        rw [kB_k (show 4 ≤ 28 + k by omega), kB_k (show 4 ≤ 68 + k by omega), kB_k (show 4 ≤ 108 + k by omega), kB_k (show 4 ≤ 148 + k by omega), kZ_e hlt, kZ_v (by omega) (by omega), kZ_v (by omega) (by omega), kZ_v (by omega) (by omega), hL0, hL1, hL2, hL3]
        rfl)
    have hP : va_P D vwCl (kxs (0 :: 2 :: (((1 :: iP 24) ++ iE k) ++ [28 + k, 68 + k, 108 + k, 148 + k])) L' (kB G L' 2 24 (k + 1) 0)) H := by rw [← e_w]; exact hP
    have hD : va_D A (kxs (0 :: 2 :: (((1 :: iP 24) ++ iE k) ++ [28 + k, 68 + k, 108 + k, 148 + k])) L' (kB G L' 2 24 (k + 1) 0)) := by rw [← e_w]; exact hD
    rw [List.append_assoc, ← iE_s] at hP hD
    refine lv_iinc (v := nI (k + 1)) (lv' := [(1, .int (nI (k + 1))), (0, .ref (L 0))]) hC.1 hC.2.1 dX3_init_76 hl (k := 0) rfl (nI_1 k) (by decide) rfl (fun ls hl => ?_)
    refine lv_goto (tgt := 54) hC.1 hC.2.1 dX3_init_79 (by decide) ?_
    rw [← h0'] at hl
    refine W.widen (k := 26 + 4 * (k + 1)) (n := 280 + 20 * (k + 1)) (by omega) (by omega) ?_
    exact ih (k + 1) (by omega) L' H locs ls (h0'.trans h0e) hP hD hS hl
set_option maxHeartbeats 4000000 in
set_option maxRecDepth 100000 in
theorem kloop_X1 {p : Program} {l : Launch} {e : Env} {R : Room} {s : State} {m : MethodId} {args : Array Value} {below : List Frame} {meth : Method} {c : Code} {Q : State → Prop} {A : Nat → Prop} {H0 : Heap} {D : va_G} {G : Nat → ClassId} {h0 : Nat} (hC : kCx p s m args c cX3_init 2 yX3_init.cls) (hK : va_K D vwCl (kty G) s) (hN : kNs s) (hA : ∀ q, H0.size ≤ q → A q) (hRc : 307 ≤ R.cells) (hRs : 3600 ≤ R.slots) (hRf : 2 ≤ R.frames) (hRl : 32 ≤ R.locals)
    (kk : ∀ (L : Nat → Nat) (H : Heap) (locs : List Loc) (ls : Array Slot), L 0 = h0 → va_P D vwCl (kxs (0 :: 3 :: ((1 :: 2 :: (iP 24 ++ iE 40)) ++ iO 60)) L (kB G L 3 24 40 60)) H → va_D A (kxs (0 :: 3 :: ((1 :: 2 :: (iP 24 ++ iE 40)) ++ iO 60)) L (kB G L 3 24 40 60)) → va_S A H0 H locs → lv_has ls 2 [(1, .int (nI 60)), (0, .ref (L 0))] → W p l e R s m args below meth c H locs (187 + 2 * 60) (1140 + 41 * 60) Q (F0 m 121 ls [])) :
    ∀ (d k : Nat), k + d = 60 → ∀ (L : Nat → Nat) (H : Heap) (locs : List Loc) (ls : Array Slot), L 0 = h0 → va_P D vwCl (kxs (0 :: 3 :: ((1 :: 2 :: (iP 24 ++ iE 40)) ++ iO k)) L (kB G L 3 24 40 k)) H → va_D A (kxs (0 :: 3 :: ((1 :: 2 :: (iP 24 ++ iE 40)) ++ iO k)) L (kB G L 3 24 40 k)) → va_S A H0 H locs → lv_has ls 2 [(1, .int (nI k)), (0, .ref (L 0))] → W p l e R s m args below meth c H locs (187 + 2 * k) (1140 + 41 * k) Q (F0 m 93 ls []) := by
  intro d
  induction d with
  | zero =>
    intro k hk L H locs ls h0e hP hD hS hl
    have hk : k = 60 := by omega
    subst hk
    refine lv_iload_n hC.1 hC.2.1 dX3_init_93 rfl (lv_at hl 0 rfl) ?_
    refine lv_aload_n hC.1 hC.2.1 dX3_init_94 rfl (lv_at hl 1 rfl) ?_
    refine va_get (T := TX3) (N := 13) (v := .ref (L 3)) hC.1 hC.2.1 hC.2.2.2.2 inT3 hC.2.2.2.1 hK hP 0 rfl rfl 2 (by decide) (hC.2.2.2.2 _ (kt_in tf_X3_25 rfl)) (fun _ h => h) rfl dX3_init_95 ?_
    refine va_alen (v := 60) hC.1 hC.2.1 hK hP 1 3 rfl rfl (show Int32.ofNat 60 = 60 from by decide) dX3_init_98 ?_
    refine lv_icmp_ge (tgt := 121) hC.1 hC.2.1 dX3_init_99 (by decide) (fun c_1 => ?_) (fun c_1 => ?_)
    · exact kk L H locs ls h0e hP hD hS hl
    · exact absurd (nI_le (a := 60) (b := 60) (by omega) (by omega)) c_1
  | succ d ih =>
    intro k hk L H locs ls h0e hP hD hS hl
    have hlt : k < 60 := by omega
    refine lv_iload_n hC.1 hC.2.1 dX3_init_93 rfl (lv_at hl 0 rfl) ?_
    refine lv_aload_n hC.1 hC.2.1 dX3_init_94 rfl (lv_at hl 1 rfl) ?_
    refine va_get (T := TX3) (N := 13) (v := .ref (L 3)) hC.1 hC.2.1 hC.2.2.2.2 inT3 hC.2.2.2.1 hK hP 0 rfl rfl 2 (by decide) (hC.2.2.2.2 _ (kt_in tf_X3_25 rfl)) (fun _ h => h) rfl dX3_init_95 ?_
    refine va_alen (v := 60) hC.1 hC.2.1 hK hP 1 3 rfl rfl (show Int32.ofNat 60 = 60 from by decide) dX3_init_98 ?_
    refine lv_icmp_ge (tgt := 121) hC.1 hC.2.1 dX3_init_99 (by decide) (fun c_1 => ?_) (fun c_1 => ?_)
    · exact absurd c_1 (nI_ge (a := k) (b := 60) (by omega) (by decide))
    refine lv_aload_n hC.1 hC.2.1 dX3_init_102 rfl (lv_at hl 1 rfl) ?_
    refine va_get (T := TX3) (N := 13) (v := .ref (L 3)) hC.1 hC.2.1 hC.2.2.2.2 inT3 hC.2.2.2.1 hK hP 0 rfl rfl 2 (by decide) (hC.2.2.2.2 _ (kt_in tf_X3_25 rfl)) (fun _ h => h) rfl dX3_init_103 ?_
    refine lv_iload_n hC.1 hC.2.1 dX3_init_106 rfl (lv_at hl 0 rfl) ?_
    refine va_new (C := RX1) (T := TX1) (N := 9) (ci := 1) (fs := [.null, .int 0, .int 0, .int 0, .int 0, .int 0, .int 0, .int 0, .int 0]) hC.1 hC.2.1 hC.2.2.2.2 inT1 tyX1 tyX1_ok hC.2.2.2.1 (hC.2.2.2.2 _ (kt_in tl_X3_23 rfl)) (hC.2.2.2.2 _ (kt_in tn_X1 rfl)) (hC.2.2.2.2 _ (kt_in tz_X1 rfl)) hK hP hD hS hA rfl (fun j hj => by match j, hj with | 0, _ | 1, _ | 2, _ | 3, _ | 4, _ | 5, _ | 6, _ | 7, _ | 8, _ => rfl) (by omega) (by omega) dX3_init_107 (fun q H hP hD hS => ?_)
    refine lv_dup hC.1 hC.2.1 dX3_init_110 rfl ?_
    refine va_callv (mc := 1) (ms := 32) (rest := [.ref q, .int (nI k), .ref (L 3)]) (va_runIN ⟨hC.1, hC.2.1, hC.2.2.1, hC.2.2.2.1, hC.2.2.2.2⟩ (c_X1_init l D G q H.size) ⟨va_cnB 0 hC.2.2.2.2 (kgoodC tc_yX1_init) rfl rfl rfl (hN _ tm_X3_29 rfl) (hC.2.2.2.2 _ (kt_in tz_X1 rfl)) ⟨by decide, by decide, by decide +kernel⟩ ⟨hRf, hRl⟩, rfl, hC.2.2.2.2 _ (kt_in ti_yX1_init rfl)⟩ ⟨fun a U g mk h => ⟨h.1, h.2.1, h.2.2.1, va_K.moved (u := U) (U := U.calling g mk a) (Vm.Alike.refl U.vm) h.2.2.2⟩, fun U hU hw => ⟨rfl, by rw [hU], by rw [hU]; exact klast hP, va_K.moved hw.alike hK⟩⟩ rfl rfl hl.1 rfl (Nat.le_of_ble_eq_true rfl) dX3_init_111 ⟨by omega, by omega⟩) hS (fun x _ h => kfree hD hS hA x h) (kfree hD hS hA) (fun M t H1 locs1 e1 _ hM hP1 hz hkk hS1 => ?_)
    subst e1
    have hj := kjoin hP hD hkk (kfree hD hS hA) hP1 hM
    refine va_astq (cA := G 3) (r := (RX1, TX1, 9)) (v := q) (n := 60) (f := fun j => if j < k then some (L (188 + j)) else none) hC.1 hC.2.1 hK hj.1 hj.2 hS1 1 3 (kxs (0 :: 3 :: ((1 :: 2 :: (iP 24 ++ iE 40)) ++ iO k)) L (kB G L 3 24 40 k)).length 1 rfl rfl kat rfl (nI_in hlt (by decide)) dX3_init_114 (fun H locs hP hD hS => ?_)
    obtain ⟨L', hL'⟩ : ∃ L' : Nat → Nat, L' = fun j => if j = 188 + k then q else if j = 248 + k then M 0 else L j := ⟨_, rfl⟩
    have hLo : ∀ z, z ≠ 188 + k ∧ z ≠ 248 + k → L' z = L z := fun z hz => by rw [hL']; simp only []; rw [if_neg (by omega), if_neg (by omega)]
    have hL0 : L' (188 + k) = q := by rw [hL']; simp only []; rw [if_pos trivial]
    have hL1 : L' (248 + k) = M 0 := by rw [hL']; simp only []; rw [if_neg (by omega), if_pos trivial]
    have h0' : L' 0 = L 0 := hLo 0 (by omega)
    have hc' : L' 3 = L 3 := hLo 3 (by omega)
    have hd1 : L' 1 = L 1 := hLo 1 (by omega)
    have hd2 : L' 2 = L 2 := hLo 2 (by omega)
    have e_w := kxs_step (c := 3) (zs := (1 :: 2 :: (iP 24 ++ iE 40)) ++ iO k) (js := [188 + k, 248 + k]) (L := L) (L' := L') (E := (kB G L 3 24 40 k)) (E' := (kB G L' 3 24 40 (k + 1))) (e := .inl (G 3, 60, .inr (.inr (.inr (.inr (va_up (fun j => if j < k then some (L (188 + j)) else none) (nI k).toNatClampNeg (some q))))))) (rX := rX1 G q M)
      ⟨h0', by show (Sum.inr (3, kF L' 3) : va_E) = .inr (3, kF L 3); simp [kF, hc', hd1, hd2]⟩
      ⟨hc', by
        show (Sum.inl (G 3, 60, .inr (.inr (.inr (.inr (fun j => if j < k + 1 then some (L' (188 + j)) else none))))) : va_E) = _
        rw [nI_clamp (by omega)]
        have e1 : (fun j => if j < k + 1 then some (L' (188 + j)) else none) = va_up (fun j => if j < k then some (L (188 + j)) else none) k (some q) := by
          funext j
          by_cases h : j = k
          · rw [h, va_up_self, if_pos (by omega), hL0]
          · rw [va_up_ne _ _ h]
            by_cases h2 : j < k
            · rw [if_pos h2, if_pos (by omega), hLo _ (by omega)]
            · rw [if_neg h2, if_neg (by omega)]
        rw [e1]⟩
      (fun z hz => by
        rcases List.mem_cons.mp hz with rfl | hz
        · refine ⟨hd1, ?_⟩
          show (Sum.inl (G 4, 24, .inr (.inr (.inr (.inr (fun j => if j < 24 then some (L' (4 + j)) else none))))) : va_E) = .inl (G 4, 24, .inr (.inr (.inr (.inr (fun j => if j < 24 then some (L (4 + j)) else none)))))
          rw [show (fun j => if j < 24 then some (L' (4 + j)) else none) = (fun j => if j < 24 then some (L (4 + j)) else none) from by funext j; by_cases h : j < 24 <;> simp only [h, if_true, if_false]; rw [hLo _ (by omega)]]
        rcases List.mem_cons.mp hz with rfl | hz
        · refine ⟨hd2, ?_⟩
          show (Sum.inl (G 2, 40, .inr (.inr (.inr (.inr (fun j => if j < 40 then some (L' (28 + j)) else none))))) : va_E) = .inl (G 2, 40, .inr (.inr (.inr (.inr (fun j => if j < 40 then some (L (28 + j)) else none)))))
          rw [show (fun j => if j < 40 then some (L' (28 + j)) else none) = (fun j => if j < 40 then some (L (28 + j)) else none) from by funext j; by_cases h : j < 40 <;> simp only [h, if_true, if_false]; rw [hLo _ (by omega)]]
        rcases List.mem_append.mp hz with hz | hz
        · rcases List.mem_append.mp hz with hz | hz
          · obtain ⟨i, hi, rfl⟩ := iP_m hz
            exact ⟨hLo _ (by omega), by rw [kB_k (by omega), kB_k (by omega), kZ_p (by omega), kZ_p (by omega)]⟩
          · obtain ⟨i, hi, h⟩ := iE_m hz
            rcases h with rfl | rfl | rfl | rfl
            · exact ⟨hLo _ (by omega), by rw [kB_k (by omega), kB_k (by omega), kZ_e (by omega), kZ_e (by omega), hLo _ (by omega), hLo _ (by omega), hLo _ (by omega)]⟩
            · exact ⟨hLo _ (by omega), by rw [kB_k (by omega), kB_k (by omega), kZ_v (by omega) (by omega), kZ_v (by omega) (by omega)]⟩
            · exact ⟨hLo _ (by omega), by rw [kB_k (by omega), kB_k (by omega), kZ_v (by omega) (by omega), kZ_v (by omega) (by omega)]⟩
            · exact ⟨hLo _ (by omega), by rw [kB_k (by omega), kB_k (by omega), kZ_v (by omega) (by omega), kZ_v (by omega) (by omega)]⟩
        · obtain ⟨i, hi, h⟩ := iO_m hz
          rcases h with rfl | rfl
          · exact ⟨hLo _ (by omega), by rw [kB_k (by omega), kB_k (by omega), kZ_o (by omega), kZ_o (by omega), hLo _ (by omega)]⟩
          · exact ⟨hLo _ (by omega), by rw [kB_k (by omega), kB_k (by omega), kZ_n (by omega), kZ_n (by omega)]⟩)
      (by
        show [(L' (188 + k), (kB G L' 3 24 40 (k + 1)) (188 + k)), (L' (248 + k), (kB G L' 3 24 40 (k + 1)) (248 + k))] = rX1 G q M
        rw [kB_k (show 4 ≤ 188 + k by omega), kB_k (show 4 ≤ 248 + k by omega), kZ_o hlt, kZ_n (by omega), hL0, hL1]
        rfl)
    have hP : va_P D vwCl (kxs (0 :: 3 :: (((1 :: 2 :: (iP 24 ++ iE 40)) ++ iO k) ++ [188 + k, 248 + k])) L' (kB G L' 3 24 40 (k + 1))) H := by rw [← e_w]; exact hP
    have hD : va_D A (kxs (0 :: 3 :: (((1 :: 2 :: (iP 24 ++ iE 40)) ++ iO k) ++ [188 + k, 248 + k])) L' (kB G L' 3 24 40 (k + 1))) := by rw [← e_w]; exact hD
    rw [List.append_assoc, ← iO_s] at hP hD
    refine lv_iinc (v := nI (k + 1)) (lv' := [(1, .int (nI (k + 1))), (0, .ref (L 0))]) hC.1 hC.2.1 dX3_init_115 hl (k := 0) rfl (nI_1 k) (by decide) rfl (fun ls hl => ?_)
    refine lv_goto (tgt := 93) hC.1 hC.2.1 dX3_init_118 (by decide) ?_
    rw [← h0'] at hl
    refine W.widen (k := 187 + 2 * (k + 1)) (n := 1140 + 41 * (k + 1)) (by omega) (by omega) ?_
    exact ih (k + 1) (by omega) L' H locs ls (h0'.trans h0e) hP hD hS hl
