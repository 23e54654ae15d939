/-! THE CLASS'S CONSTRUCTORS -/
def rX0 (G : Nat → ClassId) (h0 : Nat) (M : Nat → Nat) : va_W := [(h0, .inr (0, [.ref (M 0), .ref (M 1), .ref (M 2), .int 0, .int 0, .int 0, .int 0, .int 0])), (M 0, .inl (G 0, 4, .inl (fun _ => 0))), (M 1, .inl (G 0, 4, .inl (fun _ => 0))), (M 2, .inl (G 0, 4, .inl (fun _ => 0)))]
def rX1 (G : Nat → ClassId) (h0 : Nat) (M : Nat → Nat) : va_W := [(h0, .inr (1, [.ref (M 0), .int 0, .int 0, .int 0, .int 0, .int 0, .int 0, .int 0, .int 0])), (M 0, .inl (G 0, 32, .inl (fun _ => 0)))]
def rX2 (_G : Nat → ClassId) (h0 : Nat) (_M : Nat → Nat) : va_W := [(h0, .inr (2, [.int 0, .int 0, .int 0, .int 0, .int 0, .int 0, .int 0, .int 0, .int 0]))]
def zX0 (h0 : Nat) : va_W := [(h0, .inr (0, [.null, .null, .null, .int 0, .int 0, .int 0, .int 0, .int 0]))]
def zX1 (h0 : Nat) : va_W := [(h0, .inr (1, [.null, .int 0, .int 0, .int 0, .int 0, .int 0, .int 0, .int 0, .int 0]))]
def zX2 (h0 : Nat) : va_W := [(h0, .inr (2, [.int 0, .int 0, .int 0, .int 0, .int 0, .int 0, .int 0, .int 0, .int 0]))]
theorem kjoin {D : va_G} {A : Nat → Prop} {w0 w1 : va_W} {x : Nat × va_E} {H H1 : Heap} (hP : va_P D vwCl (w0 ++ [x]) H) (hD : va_D A (w0 ++ [x])) (hk : ∀ q : Nat, q < H.size → ¬ va_A [x] H.size q → H1[q]? = H[q]?) (hF : ∀ q, va_A [x] H.size q → A q) (hP1 : va_P D vwCl w1 H1) (hD1 : va_D (va_A [x] H.size) w1) : va_P D vwCl (w0 ++ w1) H1 ∧ va_D A (w0 ++ w1) := by
  have hx : (w0 ++ [x])[w0.length]? = some x := by simp
  have hg : ∀ (k : Nat) (y : Nat × va_E), w0[k]? = some y → (w0 ++ [x])[k]? = some y ∧ k < w0.length := fun k y h => by
    have hk := (List.getElem?_eq_some_iff.mp h).1
    exact ⟨by rw [List.getElem?_append_left hk]; exact h, hk⟩
  have hn : ∀ (k : Nat) (y : Nat × va_E), w0[k]? = some y → y.1 < H.size ∧ ¬ va_A [x] H.size y.1 := fun k y h => by
    obtain ⟨a, b⟩ := hg k y h
    have hl := (hP k y a).lt
    refine ⟨hl, fun z => ?_⟩
    rcases z with ⟨j, e, z⟩ | z
    · have hj : j = 0 := by have := (List.getElem?_eq_some_iff.mp z).1; simp at this; omega
      subst hj
      have z' : x = (y.1, e) := by simpa using z
      have := hD.1 k w0.length y x a hx (by rw [z'])
      omega
    · omega
  refine ⟨va_P.app (fun k y h => (hP k y (hg k y h).1).kept (hk _ (hn k y h).1 (hn k y h).2)) hP1, va_D.app ⟨fun i j a b ha hb h => hD.1 i j a b (hg i a ha).1 (hg j b hb).1 h, fun k y h => hD.2 k y (hg k y h).1⟩ (hD1.weaken (fun _ _ _ h => hF _ h)) (fun i j a b ha hb h => ?_)⟩
  exact (hn i a ha).2 (by rw [h]; exact hD1.2 j b hb)
/-- cells by their numbers -/
def kxs (xs : List Nat) (L : Nat → Nat) (E : Nat → va_E) : va_W := xs.map (fun j => (L j, E j))
theorem kxs_step {c : Nat} {zs js : List Nat} {L L' : Nat → Nat} {E E' : Nat → va_E} {e : va_E} {rX : va_W} (h0 : L' 0 = L 0 ∧ E' 0 = E 0) (hc : L' c = L c ∧ E' c = e) (hz : ∀ z, z ∈ zs → L' z = L z ∧ E' z = E z) (hj : js.map (fun j => (L' j, E' j)) = rX) : ((kxs (0 :: c :: zs) L E) ++ rX).set 1 (L c, e) = kxs (0 :: c :: (zs ++ js)) L' E' := by
  have e1 : zs.map (fun j => (L j, E j)) = zs.map (fun j => (L' j, E' j)) := List.map_congr_left (fun z hz' => by rw [(hz z hz').1, (hz z hz').2])
  show (L 0, E 0) :: (L c, e) :: (zs.map (fun j => (L j, E j)) ++ rX) = (L' 0, E' 0) :: (L' c, E' c) :: (zs ++ js).map (fun j => (L' j, E' j))
  rw [h0.1, h0.2, hc.1, hc.2, e1, List.map_append, hj]
theorem kxs_perm {D : va_G} {A : Nat → Prop} {xs ys : List Nat} {L : Nat → Nat} {E E' : Nat → va_E} {H : Heap} (hP : va_P D vwCl (kxs xs L E) H) (hD : va_D A (kxs xs L E)) (hy : ∀ y, y ∈ ys → y ∈ xs) (hn : ys.Nodup) (hE : ∀ y, y ∈ ys → va_at D vwCl (L y, E y) H → va_at D vwCl (L y, E' y) H) : va_P D vwCl (kxs ys L E') H ∧ va_D A (kxs ys L E') := by
  have hg : ∀ (k : Nat) (y : Nat × va_E), (kxs ys L E')[k]? = some y → ∃ (h : k < ys.length) (i : Nat), (kxs xs L E)[i]? = some (L ys[k], E ys[k]) ∧ xs[i]? = some ys[k] ∧ y = (L ys[k], E' ys[k]) := fun k y h => by
    have hk : k < ys.length := by have := (List.getElem?_eq_some_iff.mp h).1; simpa [kxs] using this
    have hm := hy ys[k] (List.getElem_mem hk)
    obtain ⟨i, hi⟩ := List.getElem?_of_mem hm
    refine ⟨hk, i, ?_, hi, ?_⟩
    · simp [kxs, hi]
    · have : (kxs ys L E')[k]? = some (L ys[k], E' ys[k]) := by simp [kxs, hk]
      exact Option.some.inj (h.symm.trans this)
  refine ⟨fun k y h => ?_, fun i j a b ha hb h => ?_, fun k y h => ?_⟩
  · obtain ⟨hk, i, h1, -, rfl⟩ := hg k y h
    exact hE _ (List.getElem_mem hk) (hP i _ h1)
  · obtain ⟨hi, i', h1, h2, rfl⟩ := hg i a ha
    obtain ⟨hj, j', h3, h4, rfl⟩ := hg j b hb
    have e := hD.1 i' j' _ _ h1 h3 h
    rw [e, h4] at h2
    have h2 := Option.some.inj h2
    have hpw := List.pairwise_iff_getElem.mp hn
    rcases Nat.lt_trichotomy i j with z | z | z
    · exact absurd h2.symm (hpw i j hi hj z)
    · exact z
    · exact absurd h2 (hpw j i hj hi z)
  · obtain ⟨hk, i, h1, -, rfl⟩ := hg k y h
    have z : A (L ys[k]) := hD.2 i _ h1
    exact z
set_option maxHeartbeats 4000000 in
set_option maxRecDepth 100000 in
theorem c_X0_init (l : Launch) (D : va_G) (G : Nat → ClassId) (h0 sz : Nat) : Met l yX0_init (Cond.code yX0_init cX0_init 1 none :: kt) ({ frames := 1, cells := 3, slots := 12, locals := 12 } : Room) (va_Pc [.ref h0] (fun U => U.heap.size = sz ∧ va_P D vwCl (zX0 h0) U.heap ∧ va_K D vwCl (kty G) U)) (va_Qv (fun M : Nat → Nat => va_D (va_A (zX0 h0) sz) (rX0 G h0 M)) (fun M t => va_P D vwCl (rX0 G h0 M) t.heap) (va_A (zX0 h0) sz)) 3 12 (va_A (zX0 h0) sz) := by
  refine Met.ofW (cc := cX0_init) (maxL := 1) (ret := none) (by decide) rfl ?_
  intro zp ze zs zm zargs zbelow zmeth zc s₁ B hml hv
  obtain ⟨ha, hsz, hP, hK⟩ := hv
  have hts := atoms_spec (ws := Cond.code yX0_init cX0_init 1 none :: kt) B.pre
  have hC : kCx zp zs zm zargs zc cX0_init 1 yX0_init.cls := ⟨B.exec, B.bytes, hml, findClass_of_methodNamed B.named, fun w hw => hts w (List.mem_cons_of_mem _ hw)⟩
  have hr := B.returns
  have hin : zmeth.name = "<init>" := (name_of_methodNamed B.named B.method).1
  subst hsz
  have hl := lv_entry ([.ref h0]) (n := 1) (Nat.le_of_ble_eq_true rfl)
  rw [ha, lg_entry_eq]
  rw [← ha]
  generalize (lg_sl ([.ref h0]) ++ List.replicate (1 - (lg_sl ([.ref h0])).length) Slot.unset).toArray = ls at hl ⊢
  have hl : lv_has ls 1 [(0, .ref h0)] := hl
  have hD : va_D (va_A (zX0 h0) zs.heap.size) (zX0 h0) := ⟨fun i j x y hx hy _ => by have a := (List.getElem?_eq_some_iff.mp hx).1; have b := (List.getElem?_eq_some_iff.mp hy).1; simp [zX0] at a b; omega, fun k x hx => va_A.in hx⟩
  generalize hAe : va_A (zX0 h0) zs.heap.size = A at hD ⊢
  have hA : ∀ q : Nat, zs.heap.size ≤ q → A q := fun q h => by rw [← hAe]; exact Or.inr h
  have hS : va_S A zs.heap zs.heap [] := va_S.rf
  refine lv_aload_n hC.1 hC.2.1 dX0_init_0 rfl (lv_at hl 0 rfl) ?_
  refine W.objInit hC.1 hC.2.1 hC.2.2.2.1 (hC.2.2.2.2 _ (kt_in tm_X0_3 rfl)) (hC.2.2.2.2 _ (kt_in ti_objectInit rfl)) (hC.2.2.2.2 _ (kt_in tc_objectInit rfl)) rfl (by rw [hC.2.2.1]; exact hl.1) rfl dX0_init_1 (Nat.le_of_ble_eq_true rfl) (Nat.le_of_ble_eq_true rfl) ?_
  refine W.eq (g2 := F0 zm 4 ls []) rfl ?_
  refine lv_aload_n hC.1 hC.2.1 dX0_init_4 rfl (lv_at hl 0 rfl) ?_
  refine lv_iconst (v := 4) hC.1 hC.2.1 dX0_init_5 (by decide) ?_
  refine knewa 0 (t := 0) (atype := .int) (ty := .int) (N' := 4) hC hK hP hD hS hA ta_int rfl rfl rfl (by decide) (by decide) (by decide) (Nat.le_of_ble_eq_true rfl) (Nat.le_of_ble_eq_true rfl) dX0_init_6 (fun q0 H hP hD hS => ?_)
  have hP : va_P D vwCl ([(h0, .inr (0, [.null, .null, .null, .int 0, .int 0, .int 0, .int 0, .int 0])), (q0, .inl (G 0, 4, .inl (fun _ => 0)))] : va_W) H := hP
  have hD : va_D A ([(h0, .inr (0, [.null, .null, .null, .int 0, .int 0, .int 0, .int 0, .int 0])), (q0, .inl (G 0, 4, .inl (fun _ => 0)))] : va_W) := hD
  refine W.widen (k := 1) (n := 4) (Nat.le_of_ble_eq_true rfl) (Nat.le_of_ble_eq_true rfl) ?_
  refine va_putF (T := TX0) (N := 8) (D := D) (ci := 0) (v := .ref q0) (ty := .array .int) hC.1 hC.2.1 hC.2.2.2.2 inT0 tyX0 tyX0_ok nmX0 hC.2.2.2.1 hK hP hD hS 0 rfl rfl 0 (by decide) (hC.2.2.2.2 _ (kt_in tf_X0_9 rfl)) (fun _ h => h) rfl hin rfl (by decide +kernel) rfl rfl (Nat.le_of_ble_eq_true rfl) dX0_init_8 (fun H locs hP hD hS => ?_)
  have hP : va_P D vwCl ([(h0, .inr (0, [.ref q0, .null, .null, .int 0, .int 0, .int 0, .int 0, .int 0])), (q0, .inl (G 0, 4, .inl (fun _ => 0)))] : va_W) H := hP
  have hD : va_D A ([(h0, .inr (0, [.ref q0, .null, .null, .int 0, .int 0, .int 0, .int 0, .int 0])), (q0, .inl (G 0, 4, .inl (fun _ => 0)))] : va_W) := hD
  refine lv_aload_n hC.1 hC.2.1 dX0_init_11 rfl (lv_at hl 0 rfl) ?_
  refine lv_iconst (v := 4) hC.1 hC.2.1 dX0_init_12 (by decide) ?_
  refine knewa 0 (t := 0) (atype := .int) (ty := .int) (N' := 4) hC hK hP hD hS hA ta_int rfl rfl rfl (by decide) (by decide) (by decide) (Nat.le_of_ble_eq_true rfl) (Nat.le_of_ble_eq_true rfl) dX0_init_13 (fun q1 H hP hD hS => ?_)
  have hP : va_P D vwCl ([(h0, .inr (0, [.ref q0, .null, .null, .int 0, .int 0, .int 0, .int 0, .int 0])), (q0, .inl (G 0, 4, .inl (fun _ => 0))), (q1, .inl (G 0, 4, .inl (fun _ => 0)))] : va_W) H := hP
  have hD : va_D A ([(h0, .inr (0, [.ref q0, .null, .null, .int 0, .int 0, .int 0, .int 0, .int 0])), (q0, .inl (G 0, 4, .inl (fun _ => 0))), (q1, .inl (G 0, 4, .inl (fun _ => 0)))] : va_W) := hD
  refine W.widen (k := 2) (n := 8) (Nat.le_of_ble_eq_true rfl) (Nat.le_of_ble_eq_true rfl) ?_
  refine va_putF (T := TX0) (N := 8) (D := D) (ci := 0) (v := .ref q1) (ty := .array .int) hC.1 hC.2.1 hC.2.2.2.2 inT0 tyX0 tyX0_ok nmX0 hC.2.2.2.1 hK hP hD hS 0 rfl rfl 1 (by decide) (hC.2.2.2.2 _ (kt_in tf_X0_15 rfl)) (fun _ h => h) rfl hin rfl (by decide +kernel) rfl rfl (Nat.le_of_ble_eq_true rfl) dX0_init_15 (fun H locs hP hD hS => ?_)
  have hP : va_P D vwCl ([(h0, .inr (0, [.ref q0, .ref q1, .null, .int 0, .int 0, .int 0, .int 0, .int 0])), (q0, .inl (G 0, 4, .inl (fun _ => 0))), (q1, .inl (G 0, 4, .inl (fun _ => 0)))] : va_W) H := hP
  have hD : va_D A ([(h0, .inr (0, [.ref q0, .ref q1, .null, .int 0, .int 0, .int 0, .int 0, .int 0])), (q0, .inl (G 0, 4, .inl (fun _ => 0))), (q1, .inl (G 0, 4, .inl (fun _ => 0)))] : va_W) := hD
  refine lv_aload_n hC.1 hC.2.1 dX0_init_18 rfl (lv_at hl 0 rfl) ?_
  refine lv_iconst (v := 4) hC.1 hC.2.1 dX0_init_19 (by decide) ?_
  refine knewa 0 (t := 0) (atype := .int) (ty := .int) (N' := 4) hC hK hP hD hS hA ta_int rfl rfl rfl (by decide) (by decide) (by decide) (Nat.le_of_ble_eq_true rfl) (Nat.le_of_ble_eq_true rfl) dX0_init_20 (fun q2 H hP hD hS => ?_)
  have hP : va_P D vwCl ([(h0, .inr (0, [.ref q0, .ref q1, .null, .int 0, .int 0, .int 0, .int 0, .int 0])), (q0, .inl (G 0, 4, .inl (fun _ => 0))), (q1, .inl (G 0, 4, .inl (fun _ => 0))), (q2, .inl (G 0, 4, .inl (fun _ => 0)))] : va_W) H := hP
  have hD : va_D A ([(h0, .inr (0, [.ref q0, .ref q1, .null, .int 0, .int 0, .int 0, .int 0, .int 0])), (q0, .inl (G 0, 4, .inl (fun _ => 0))), (q1, .inl (G 0, 4, .inl (fun _ => 0))), (q2, .inl (G 0, 4, .inl (fun _ => 0)))] : va_W) := hD
  refine W.widen (k := 3) (n := 12) (Nat.le_of_ble_eq_true rfl) (Nat.le_of_ble_eq_true rfl) ?_
  refine va_putF (T := TX0) (N := 8) (D := D) (ci := 0) (v := .ref q2) (ty := .array .int) hC.1 hC.2.1 hC.2.2.2.2 inT0 tyX0 tyX0_ok nmX0 hC.2.2.2.1 hK hP hD hS 0 rfl rfl 2 (by decide) (hC.2.2.2.2 _ (kt_in tf_X0_18 rfl)) (fun _ h => h) rfl hin rfl (by decide +kernel) rfl rfl (Nat.le_of_ble_eq_true rfl) dX0_init_22 (fun H locs hP hD hS => ?_)
  have hP : va_P D vwCl ([(h0, .inr (0, [.ref q0, .ref q1, .ref q2, .int 0, .int 0, .int 0, .int 0, .int 0])), (q0, .inl (G 0, 4, .inl (fun _ => 0))), (q1, .inl (G 0, 4, .inl (fun _ => 0))), (q2, .inl (G 0, 4, .inl (fun _ => 0)))] : va_W) H := hP
  have hD : va_D A ([(h0, .inr (0, [.ref q0, .ref q1, .ref q2, .int 0, .int 0, .int 0, .int 0, .int 0])), (q0, .inl (G 0, 4, .inl (fun _ => 0))), (q1, .inl (G 0, 4, .inl (fun _ => 0))), (q2, .inl (G 0, 4, .inl (fun _ => 0)))] : va_W) := hD
  refine W.vret hC.1 hC.2.1 hr (fun t ht _ => ⟨⟨fun k => [q0, q1, q2].getD k 0, rfl, hD, by show va_P D vwCl _ t.heap; rw [ht]; exact hP⟩, hS.F ht⟩) hS.2.2 dX0_init_25
set_option maxHeartbeats 4000000 in
set_option maxRecDepth 100000 in
theorem c_X1_init (l : Launch) (D : va_G) (G : Nat → ClassId) (h0 sz : Nat) : Met l yX1_init (Cond.code yX1_init cX1_init 1 none :: kt) ({ frames := 1, cells := 1, slots := 32, locals := 12 } : Room) (va_Pc [.ref h0] (fun U => U.heap.size = sz ∧ va_P D vwCl (zX1 h0) U.heap ∧ va_K D vwCl (kty G) U)) (va_Qv (fun M : Nat → Nat => va_D (va_A (zX1 h0) sz) (rX1 G h0 M)) (fun M t => va_P D vwCl (rX1 G h0 M) t.heap) (va_A (zX1 h0) sz)) 1 32 (va_A (zX1 h0) sz) := by
  refine Met.ofW (cc := cX1_init) (maxL := 1) (ret := none) (by decide) rfl ?_
  intro zp ze zs zm zargs zbelow zmeth zc s₁ B hml hv
  obtain ⟨ha, hsz, hP, hK⟩ := hv
  have hts := atoms_spec (ws := Cond.code yX1_init cX1_init 1 none :: kt) B.pre
  have hC : kCx zp zs zm zargs zc cX1_init 1 yX1_init.cls := ⟨B.exec, B.bytes, hml, findClass_of_methodNamed B.named, fun w hw => hts w (List.mem_cons_of_mem _ hw)⟩
  have hr := B.returns
  have hin : zmeth.name = "<init>" := (name_of_methodNamed B.named B.method).1
  subst hsz
  have hl := lv_entry ([.ref h0]) (n := 1) (Nat.le_of_ble_eq_true rfl)
  rw [ha, lg_entry_eq]
  rw [← ha]
  generalize (lg_sl ([.ref h0]) ++ List.replicate (1 - (lg_sl ([.ref h0])).length) Slot.unset).toArray = ls at hl ⊢
  have hl : lv_has ls 1 [(0, .ref h0)] := hl
  have hD : va_D (va_A (zX1 h0) zs.heap.size) (zX1 h0) := ⟨fun i j x y hx hy _ => by have a := (List.getElem?_eq_some_iff.mp hx).1; have b := (List.getElem?_eq_some_iff.mp hy).1; simp [zX1] at a b; omega, fun k x hx => va_A.in hx⟩
  generalize hAe : va_A (zX1 h0) zs.heap.size = A at hD ⊢
  have hA : ∀ q : Nat, zs.heap.size ≤ q → A q := fun q h => by rw [← hAe]; exact Or.inr h
  have hS : va_S A zs.heap zs.heap [] := va_S.rf
  refine lv_aload_n hC.1 hC.2.1 dX1_init_0 rfl (lv_at hl 0 rfl) ?_
  refine W.objInit hC.1 hC.2.1 hC.2.2.2.1 (hC.2.2.2.2 _ (kt_in tm_X1_3 rfl)) (hC.2.2.2.2 _ (kt_in ti_objectInit rfl)) (hC.2.2.2.2 _ (kt_in tc_objectInit rfl)) rfl (by rw [hC.2.2.1]; exact hl.1) rfl dX1_init_1 (Nat.le_of_ble_eq_true rfl) (Nat.le_of_ble_eq_true rfl) ?_
  refine W.eq (g2 := F0 zm 4 ls []) rfl ?_
  refine lv_aload_n hC.1 hC.2.1 dX1_init_4 rfl (lv_at hl 0 rfl) ?_
  refine lv_bipush (v := 32) hC.1 hC.2.1 dX1_init_5 (by decide) ?_
  refine knewa 0 (t := 0) (atype := .int) (ty := .int) (N' := 32) hC hK hP hD hS hA ta_int rfl rfl rfl (by decide) (by decide) (by decide) (Nat.le_of_ble_eq_true rfl) (Nat.le_of_ble_eq_true rfl) dX1_init_7 (fun q0 H hP hD hS => ?_)
  have hP : va_P D vwCl ([(h0, .inr (1, [.null, .int 0, .int 0, .int 0, .int 0, .int 0, .int 0, .int 0, .int 0])), (q0, .inl (G 0, 32, .inl (fun _ => 0)))] : va_W) H := hP
  have hD : va_D A ([(h0, .inr (1, [.null, .int 0, .int 0, .int 0, .int 0, .int 0, .int 0, .int 0, .int 0])), (q0, .inl (G 0, 32, .inl (fun _ => 0)))] : va_W) := hD
  refine W.widen (k := 1) (n := 32) (Nat.le_of_ble_eq_true rfl) (Nat.le_of_ble_eq_true rfl) ?_
  refine va_putF (T := TX1) (N := 9) (D := D) (ci := 1) (v := .ref q0) (ty := .array .int) hC.1 hC.2.1 hC.2.2.2.2 inT1 tyX1 tyX1_ok nmX1 hC.2.2.2.1 hK hP hD hS 0 rfl rfl 0 (by decide) (hC.2.2.2.2 _ (kt_in tf_X1_9 rfl)) (fun _ h => h) rfl hin rfl (by decide +kernel) rfl rfl (Nat.le_of_ble_eq_true rfl) dX1_init_9 (fun H locs hP hD hS => ?_)
  have hP : va_P D vwCl ([(h0, .inr (1, [.ref q0, .int 0, .int 0, .int 0, .int 0, .int 0, .int 0, .int 0, .int 0])), (q0, .inl (G 0, 32, .inl (fun _ => 0)))] : va_W) H := hP
  have hD : va_D A ([(h0, .inr (1, [.ref q0, .int 0, .int 0, .int 0, .int 0, .int 0, .int 0, .int 0, .int 0])), (q0, .inl (G 0, 32, .inl (fun _ => 0)))] : va_W) := hD
  refine W.vret hC.1 hC.2.1 hr (fun t ht _ => ⟨⟨fun k => [q0].getD k 0, rfl, hD, by show va_P D vwCl _ t.heap; rw [ht]; exact hP⟩, hS.F ht⟩) hS.2.2 dX1_init_12
set_option maxHeartbeats 4000000 in
set_option maxRecDepth 100000 in
theorem c_X2_init (l : Launch) (D : va_G) (G : Nat → ClassId) (h0 sz : Nat) : Met l yX2_init (Cond.code yX2_init cX2_init 1 none :: kt) ({ frames := 1, cells := 0, slots := 0, locals := 12 } : Room) (va_Pc [.ref h0] (fun U => U.heap.size = sz ∧ va_P D vwCl (zX2 h0) U.heap ∧ va_K D vwCl (kty G) U)) (va_Qv (fun M : Nat → Nat => va_D (va_A (zX2 h0) sz) (rX2 G h0 M)) (fun M t => va_P D vwCl (rX2 G h0 M) t.heap) (va_A (zX2 h0) sz)) 0 0 (va_A (zX2 h0) sz) := by
  refine Met.ofW (cc := cX2_init) (maxL := 1) (ret := none) (by decide) rfl ?_
  intro zp ze zs zm zargs zbelow zmeth zc s₁ B hml hv
  obtain ⟨ha, hsz, hP, hK⟩ := hv
  have hts := atoms_spec (ws := Cond.code yX2_init cX2_init 1 none :: kt) B.pre
  have hC : kCx zp zs zm zargs zc cX2_init 1 yX2_init.cls := ⟨B.exec, B.bytes, hml, findClass_of_methodNamed B.named, fun w hw => hts w (List.mem_cons_of_mem _ hw)⟩
  have hr := B.returns
  have hin : zmeth.name = "<init>" := (name_of_methodNamed B.named B.method).1
  subst hsz
  have hl := lv_entry ([.ref h0]) (n := 1) (Nat.le_of_ble_eq_true rfl)
  rw [ha, lg_entry_eq]
  rw [← ha]
  generalize (lg_sl ([.ref h0]) ++ List.replicate (1 - (lg_sl ([.ref h0])).length) Slot.unset).toArray = ls at hl ⊢
  have hl : lv_has ls 1 [(0, .ref h0)] := hl
  have hD : va_D (va_A (zX2 h0) zs.heap.size) (zX2 h0) := ⟨fun i j x y hx hy _ => by have a := (List.getElem?_eq_some_iff.mp hx).1; have b := (List.getElem?_eq_some_iff.mp hy).1; simp [zX2] at a b; omega, fun k x hx => va_A.in hx⟩
  generalize hAe : va_A (zX2 h0) zs.heap.size = A at hD ⊢
  have hA : ∀ q : Nat, zs.heap.size ≤ q → A q := fun q h => by rw [← hAe]; exact Or.inr h
  have hS : va_S A zs.heap zs.heap [] := va_S.rf
  refine lv_aload_n hC.1 hC.2.1 dX2_init_0 rfl (lv_at hl 0 rfl) ?_
  refine W.objInit hC.1 hC.2.1 hC.2.2.2.1 (hC.2.2.2.2 _ (kt_in tm_X2_1 rfl)) (hC.2.2.2.2 _ (kt_in ti_objectInit rfl)) (hC.2.2.2.2 _ (kt_in tc_objectInit rfl)) rfl (by rw [hC.2.2.1]; exact hl.1) rfl dX2_init_1 (Nat.le_of_ble_eq_true rfl) (Nat.le_of_ble_eq_true rfl) ?_
  refine W.eq (g2 := F0 zm 4 ls []) rfl ?_
  refine W.vret hC.1 hC.2.1 hr (fun t ht _ => ⟨⟨fun k => [].getD k 0, rfl, hD, by show va_P D vwCl _ t.heap; rw [ht]; exact hP⟩, hS.F ht⟩) hS.2.2 dX2_init_4
