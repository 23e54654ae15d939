/-! THE CLASS'S CONSTRUCTOR, WHOLE -/
def zX3 (h0 : Nat) : va_W := [(h0, .inr (3, [.null, .null, .null, .int 0, .int 0, .int 0, .int 0, .int 0, .int 0, .int 0, .int 0, .int 0, .int 0]))]
theorem kxs_step0 {zs js : List Nat} {L L' : Nat → Nat} {E E' : Nat → va_E} {e : va_E} {rX : va_W} (h0 : L' 0 = L 0 ∧ E' 0 = e) (hz : ∀ z, z ∈ zs → L' z = L z ∧ E' z = E z) (hj : js.map (fun j => (L' j, E' j)) = rX) : ((kxs (0 :: zs) L E) ++ rX).set 0 (L 0, e) = kxs (0 :: (zs ++ js)) L' E' := by
  have e1 : zs.map (fun j => (L j, E j)) = zs.map (fun j => (L' j, E' j)) := List.map_congr_left (fun z hz' => by rw [(hz z hz').1, (hz z hz').2])
  show (L 0, e) :: (zs.map (fun j => (L j, E j)) ++ rX) = (L' 0, E' 0) :: (zs ++ js).map (fun j => (L' j, E' j))
  rw [h0.1, h0.2, e1, List.map_append, hj]
theorem karr {cA : ClassId} {n : Nat} {f g : Nat → Option Nat} (h : ∀ j, j < n → f j = g j) : vp_cell cA (n, .inr (.inr (.inr (.inr f)))) = vp_cell cA (n, .inr (.inr (.inr (.inr g)))) := by
  rw [vp_cell_q, vp_cell_q]
  unfold arrV
  have e : Array.ofFn (fun i : Fin n => va_rf (f i)) = Array.ofFn (fun i : Fin n => va_rf (g i)) := by
    congr 1
    funext i
    rw [h i i.2]
  simp only [e]
section KQ
variable {p : Program} {l : Launch} {e : Env} {R : Room} {s : State} {m : MethodId} {args : Array Value} {below : List Frame} {meth : Method} {c : Code} {H : Heap} {locs : List Loc} {cells slots : Nat} {Q : State → Prop}
variable {cc : ByteArray} {pc : Nat} {ls : Array Slot} {rest : List Value} {A : Nat → Prop} {H0 : Heap} {nL index : Nat} {own : String}
variable {D : va_G} {G : Nat → ClassId} {ws : va_W}
theorem knewq (t0 : Nat) {C : String} (hC : kCx p s m args c cc nL own) (hK : va_K D vwCl (kty G) s) (hP : va_P D vwCl ws H) (hD : va_D A ws) (hS : va_S A H0 H locs) (hA : ∀ q, H0.size ≤ q → A q) (hcl : Cond.classLink own index C ∈ lw_tbl) (hover : va_AO C s) (ht : (kty G)[t0]? = some (G t0, .object C)) {n : Int32} {N' : Nat} (hn : ¬ n < 0) (hN : n.toNatClampNeg = N') (hbytes : N' * 4 ≤ 536870912) (hcells : cells + 1 ≤ R.cells) (hslots : slots + N' ≤ R.slots) (hdg : decode cc pc = .ok (.anewarray index, 3))
    (kk : ∀ (q : Nat) (H1 : Heap), va_P D vwCl (ws ++ [(q, .inl (G t0, N', .inr (.inr (.inr (.inr (fun _ => none))))))]) H1 → va_D A (ws ++ [(q, .inl (G t0, N', .inr (.inr (.inr (.inr (fun _ => none))))))]) → va_S A H0 H1 locs → W p l e R s m args below meth c H1 locs (cells + 1) (slots + N') Q (F0 m (pc + 3) ls (.ref q :: rest))) : W p l e R s m args below meth c H locs cells slots Q (F0 m pc ls (.int n :: rest)) := by
  refine va_newq hC.1 hC.2.1 hC.2.2.2.1 (hC.2.2.2.2 _ (kt_in hcl rfl)) hover hK hP hD hS hA hn hN hbytes hcells hslots hdg (fun q cA H1 hK1 hP1 hD1 hS1 => ?_)
  have e1 : cA = G t0 := by
    have z := (hK1.2 (kty G).length (cA, .object C) (by rw [List.getElem?_append_right (Nat.le_refl _), Nat.sub_self]; rfl)).2
    exact kRA_eq z (hK.2 t0 _ ht).2
  subst e1
  exact kk q H1 hP1 hD1 hS1
theorem keQiA {L : Nat → Nat} {T N T' N' : kT} {q q' : kQ} {st0 : List Value} {a : Array Value} {ans : Int32} (hA : ∀ x, kA L x → A x) (hr : va_Run p l e R s m args below meth c H locs cells slots 0 0 (F0 m pc ls st0) rest (kQi D G L ans T' N' q' a) (kA L)) (hW : kWd D G L A H0 T N q H locs) (kk : ∀ (H1 : Heap) (locs1 : List Loc), kWd D G L A H0 T' N' q' H1 locs1 → W p l e R s m args below meth c H1 locs1 cells slots Q (F0 m (pc + 3) ls (.int ans :: rest))) : W p l e R s m args below meth c H locs cells slots Q (F0 m pc ls st0) :=
  va_calli hr hW.2.2 (fun x _ h => hA x h) hA (fun r u t H1 locs1 e1 _ e2 hP _ _ hS => by subst e1; subst e2; exact kk _ _ ⟨hP, kD.same hW.2.1, hS⟩)
theorem keQvA {L : Nat → Nat} {T N T' N' : kT} {q q' : kQ} {st0 : List Value} {a : Array Value} (hA : ∀ x, kA L x → A x) (hr : va_Run p l e R s m args below meth c H locs cells slots 0 0 (F0 m pc ls st0) rest (kQv D G L T' N' q' a) (kA L)) (hW : kWd D G L A H0 T N q H locs) (kk : ∀ (H1 : Heap) (locs1 : List Loc), kWd D G L A H0 T' N' q' H1 locs1 → W p l e R s m args below meth c H1 locs1 cells slots Q (F0 m (pc + 3) ls rest)) : W p l e R s m args below meth c H locs cells slots Q (F0 m pc ls st0) :=
  va_callv hr hW.2.2 (fun x _ h => hA x h) hA (fun u t H1 locs1 e1 _ _ hP _ _ hS => by subst e1; exact kk _ _ ⟨hP, kD.same hW.2.1, hS⟩)
end KQ
def kT0 : kT := (kup (kup (t_X1_begin (kup (t_X2_begin zT 0 (-1) 0 0 0 0) 0 1 1) 0 1 (-1) 0 0 200 50) 0 3 1) 0 8 (-1))
set_option maxHeartbeats 8000000 in
set_option maxRecDepth 100000 in
theorem c_X3_init (l : Launch) (D : va_G) (G : Nat → ClassId) (h0 sz : Nat) : Met l yX3_init (Cond.code yX3_init cX3_init 2 none :: kt) ({ frames := 2, cells := 307, slots := 3600, locals := 40 } : Room) (va_Pc [.ref h0] (fun U => U.heap.size = sz ∧ va_P D vwCl (zX3 h0) U.heap ∧ va_K D vwCl (kty G) U ∧ kNs U ∧ va_AO RX0 U ∧ va_AO RX1 U ∧ va_AO RX2 U)) (va_Qv (fun L : Nat → Nat => L 0 = h0 ∧ kL L ∧ ∀ k, k < 308 → va_A (zX3 h0) sz (L k)) (fun L t => va_P D vwCl (kw G L kT0 zT zq) t.heap) (va_A (zX3 h0) sz)) 307 3600 (va_A (zX3 h0) sz) := by
  refine Met.ofW (cc := cX3_init) (maxL := 2) (ret := none) (by decide) rfl ?_
  intro zp ze zs zm zargs zbelow zmeth zc s₁ B hml hv
  obtain ⟨ha, hsz, hP, hK, hN, hO0, hO1, hO2⟩ := hv
  have hts := atoms_spec (ws := Cond.code yX3_init cX3_init 2 none :: kt) B.pre
  have hC : kCx zp zs zm zargs zc cX3_init 2 yX3_init.cls := ⟨B.exec, B.bytes, hml, findClass_of_methodNamed B.named, fun w hw => hts w (List.mem_cons_of_mem _ hw)⟩
  have hr := B.returns
  have hin : zmeth.name = "<init>" := (name_of_methodNamed B.named B.method).1
  subst hsz
  have hl := lv_entry ([.ref h0]) (n := 2) (Nat.le_of_ble_eq_true rfl)
  rw [ha, lg_entry_eq]
  rw [← ha]
  generalize (lg_sl ([.ref h0]) ++ List.replicate (2 - (lg_sl ([.ref h0])).length) Slot.unset).toArray = ls at hl ⊢
  have hl : lv_has ls 2 [(0, .ref h0)] := hl
  have hD : va_D (va_A (zX3 h0) zs.heap.size) (zX3 h0) := ⟨fun i j x y hx hy _ => by have a := (List.getElem?_eq_some_iff.mp hx).1; have b := (List.getElem?_eq_some_iff.mp hy).1; simp [zX3] at a b; omega, fun k x hx => va_A.in hx⟩
  generalize hAe : va_A (zX3 h0) zs.heap.size = A at hD ⊢
  have hA : ∀ q : Nat, zs.heap.size ≤ q → A q := fun q h => by rw [← hAe]; exact Or.inr h
  have hS : va_S A zs.heap zs.heap [] := va_S.rf
  refine lv_aload_n hC.1 hC.2.1 dX3_init_0 rfl (lv_at hl 0 rfl) ?_
  refine W.objInit hC.1 hC.2.1 hC.2.2.2.1 (hC.2.2.2.2 _ (kt_in tm_X3_1 rfl)) (hC.2.2.2.2 _ (kt_in ti_objectInit rfl)) (hC.2.2.2.2 _ (kt_in tc_objectInit rfl)) rfl (by rw [hC.2.2.1]; exact hl.1) rfl dX3_init_1 (Nat.le_of_ble_eq_true rfl) (Nat.le_of_ble_eq_true rfl) ?_
  refine W.eq (g2 := F0 zm 4 ls []) rfl ?_
  obtain ⟨L, hL0⟩ : ∃ L : Nat → Nat, L = fun _ => h0 := ⟨_, rfl⟩
  have h0e : L 0 = h0 := by rw [hL0]
  have hP : va_P D vwCl (kxs (0 :: []) L (kB G L 0 0 0 0)) zs.heap := by rw [hL0]; exact hP
  have hD : va_D A (kxs (0 :: []) L (kB G L 0 0 0 0)) := by rw [hL0]; exact hD
  rw [← h0e] at hl
  -- X2
  refine lv_aload_n hC.1 hC.2.1 dX3_init_4 rfl (lv_at hl 0 rfl) ?_
  refine lv_bipush (v := 24) hC.1 hC.2.1 dX3_init_5 (by decide) ?_
  refine knewq 4 (C := RX2) (N' := 24) hC hK hP hD hS hA tl_X3_9 hO2 rfl (by decide) (by decide) (by decide) (Nat.le_of_ble_eq_true rfl) (Nat.le_of_ble_eq_true rfl) dX3_init_7 (fun q H hP hD hS => ?_)
  refine va_putF (T := TX3) (N := 13) (D := D) (ci := 3) (fs := kF L 0) (a := L 0) (v := .ref q) (ty := .array (.object RX2)) hC.1 hC.2.1 hC.2.2.2.2 inT3 tyX3 tyX3_ok nmX3 hC.2.2.2.1 hK hP hD hS 0 rfl rfl 0 (by decide) (hC.2.2.2.2 _ (kt_in tf_X3_11 rfl)) (fun _ h => h) rfl hin rfl (by decide +kernel) rfl rfl (Nat.le_of_ble_eq_true rfl) dX3_init_10 (fun H locs hP hD hS => ?_)
  obtain ⟨L', hL'⟩ : ∃ L' : Nat → Nat, L' = fun j => if j = 1 then q else L j := ⟨_, rfl⟩
  have hLo : ∀ z, z ≠ 1 → L' z = L z := fun z hz => by rw [hL']; simp only []; rw [if_neg (by omega)]
  have hLn : L' 1 = q := by rw [hL']; rfl
  have e_w := kxs_step0 (zs := []) (js := [1]) (L := L) (L' := L') (E := (kB G L 0 0 0 0)) (E' := (kB G L' 1 0 0 0)) (e := .inr (3, (kF L 0).set 0 (.ref q))) (rX := [(q, .inl (G 4, 24, .inr (.inr (.inr (.inr (fun _ => none))))))])
    ⟨hLo 0 (by omega), by show (Sum.inr (3, kF L' 1) : va_E) = _; simp [kF, hLn]⟩
    (fun z hz => by
      exact absurd hz (by simp))
    (by show [(L' 1, (kB G L' 1 0 0 0) 1)] = _; rw [hLn]; show [(q, (Sum.inl (G 4, 24, .inr (.inr (.inr (.inr (fun j => if j < 0 then some (L' (4 + j)) else none))))) : va_E))] = _; rw [show (fun j => if j < 0 then some (L' (4 + j)) else none) = (fun _ => none) from by funext j; rw [if_neg (by omega)]])
  have hP : va_P D vwCl (kxs (0 :: ([] ++ [1])) L' (kB G L' 1 0 0 0)) H := by rw [← e_w]; exact hP
  have hD : va_D A (kxs (0 :: ([] ++ [1])) L' (kB G L' 1 0 0 0)) := by rw [← e_w]; exact hD
  obtain ⟨hP, hD⟩ := kxs_perm (ys := (0 :: 1 :: ([] ++ iP 0))) (E' := (kB G L' 1 0 0 0)) hP hD (by decide +kernel) (by decide +kernel) (fun _ _ h => h)
  have h0e : L' 0 = h0 := (hLo 0 (by omega)).trans h0e
  rw [← hLo 0 (by omega)] at hl
  refine lv_iconst (v := 0) hC.1 hC.2.1 dX3_init_13 (by decide) ?_
  refine lv_istore_n (lv' := [(1, .int 0), (0, .ref (L' 0))]) hC.1 hC.2.1 dX3_init_14 rfl hl (by decide) rfl (fun ls hl => ?_)
  have hl : lv_has ls 2 [(1, .int (nI 0)), (0, .ref (L' 0))] := by rw [nI_0]; exact hl
  refine kloop_X2 (R := { frames := 2, cells := 307, slots := 3600, locals := 40 }) hC hK hN hA (by decide) (by decide) (by decide) (by decide) ?_ 24 0 (by decide) L' H locs ls h0e hP hD hS hl
  intro L1 H locs ls h0e hP hD hS hl
  have hl : lv_has ls 2 [(1, .int (nI 24)), (0, .ref (L1 0))] := hl
  obtain ⟨L, hLL⟩ : ∃ L, L = L1 := ⟨_, rfl⟩
  rw [← hLL] at h0e hP hD hl
  -- X0
  refine lv_aload_n hC.1 hC.2.1 dX3_init_43 rfl (lv_at hl 1 rfl) ?_
  refine lv_bipush (v := 40) hC.1 hC.2.1 dX3_init_44 (by decide) ?_
  refine knewq 2 (C := RX0) (N' := 40) hC hK hP hD hS hA tl_X3_16 hO0 rfl (by decide) (by decide) (by decide) (Nat.le_of_ble_eq_true rfl) (Nat.le_of_ble_eq_true rfl) dX3_init_46 (fun q H hP hD hS => ?_)
  refine va_putF (T := TX3) (N := 13) (D := D) (ci := 3) (fs := kF L 1) (a := L 0) (v := .ref q) (ty := .array (.object RX0)) hC.1 hC.2.1 hC.2.2.2.2 inT3 tyX3 tyX3_ok nmX3 hC.2.2.2.1 hK hP hD hS 0 rfl rfl 1 (by decide) (hC.2.2.2.2 _ (kt_in tf_X3_18 rfl)) (fun _ h => h) rfl hin rfl (by decide +kernel) rfl rfl (Nat.le_of_ble_eq_true rfl) dX3_init_49 (fun H locs hP hD hS => ?_)
  obtain ⟨L', hL'⟩ : ∃ L' : Nat → Nat, L' = fun j => if j = 2 then q else L j := ⟨_, rfl⟩
  have hLo : ∀ z, z ≠ 2 → L' z = L z := fun z hz => by rw [hL']; simp only []; rw [if_neg (by omega)]
  have hLn : L' 2 = q := by rw [hL']; rfl
  have e_w := kxs_step0 (zs := (1 :: ([] ++ iP 24))) (js := [2]) (L := L) (L' := L') (E := (kB G L 1 24 0 0)) (E' := (kB G L' 2 24 0 0)) (e := .inr (3, (kF L 1).set 1 (.ref q))) (rX := [(q, .inl (G 2, 40, .inr (.inr (.inr (.inr (fun _ => none))))))])
    ⟨hLo 0 (by omega), by show (Sum.inr (3, kF L' 2) : va_E) = _; simp [kF, hLn, hLo 1 (by omega)]⟩
    (fun z hz => by
      rcases List.mem_cons.mp hz with rfl | hz
      · refine ⟨hLo _ (by omega), ?_⟩
        show (Sum.inl (G 4, 24, .inr (.inr (.inr (.inr (fun j => if j < 24 then some (L' (4 + j)) else none))))) : va_E) = .inl (G 4, 24, .inr (.inr (.inr (.inr (fun j => if j < 24 then some (L (4 + j)) else none)))))
        rw [show (fun j => if j < 24 then some (L' (4 + j)) else none) = (fun j => if j < 24 then some (L (4 + j)) else none) from by funext j; by_cases h : j < 24 <;> simp only [h, if_true, if_false]; rw [hLo _ (by omega)]]
      have hz : z ∈ iP 24 := hz
      obtain ⟨i, hi, rfl⟩ := iP_m hz
      exact ⟨hLo _ (by omega), by rw [kB_k (by omega), kB_k (by omega), kZ_p (by omega), kZ_p (by omega)]⟩)
    (by show [(L' 2, (kB G L' 2 24 0 0) 2)] = _; rw [hLn]; show [(q, (Sum.inl (G 2, 40, .inr (.inr (.inr (.inr (fun j => if j < 0 then some (L' (28 + j)) else none))))) : va_E))] = _; rw [show (fun j => if j < 0 then some (L' (28 + j)) else none) = (fun _ => none) from by funext j; rw [if_neg (by omega)]])
  have hP : va_P D vwCl (kxs (0 :: ((1 :: ([] ++ iP 24)) ++ [2])) L' (kB G L' 2 24 0 0)) H := by rw [← e_w]; exact hP
  have hD : va_D A (kxs (0 :: ((1 :: ([] ++ iP 24)) ++ [2])) L' (kB G L' 2 24 0 0)) := by rw [← e_w]; exact hD
  obtain ⟨hP, hD⟩ := kxs_perm (ys := (0 :: 2 :: ((1 :: iP 24) ++ iE 0))) (E' := (kB G L' 2 24 0 0)) hP hD (by decide +kernel) (by decide +kernel) (fun _ _ h => h)
  have h0e : L' 0 = h0 := (hLo 0 (by omega)).trans h0e
  rw [← hLo 0 (by omega)] at hl
  refine lv_iconst (v := 0) hC.1 hC.2.1 dX3_init_52 (by decide) ?_
  refine lv_istore_n (lv' := [(1, .int 0), (0, .ref (L' 0))]) hC.1 hC.2.1 dX3_init_53 rfl hl (by decide) rfl (fun ls hl => ?_)
  have hl : lv_has ls 2 [(1, .int (nI 0)), (0, .ref (L' 0))] := by rw [nI_0]; exact hl
  refine kloop_X0 (R := { frames := 2, cells := 307, slots := 3600, locals := 40 }) hC hK hN hA (by decide) (by decide) (by decide) (by decide) ?_ 40 0 (by decide) L' H locs ls h0e hP hD hS hl
  intro L1 H locs ls h0e hP hD hS hl
  have hl : lv_has ls 2 [(1, .int (nI 40)), (0, .ref (L1 0))] := hl
  obtain ⟨L, hLL⟩ : ∃ L, L = L1 := ⟨_, rfl⟩
  rw [← hLL] at h0e hP hD hl
  -- X1
  refine lv_aload_n hC.1 hC.2.1 dX3_init_82 rfl (lv_at hl 1 rfl) ?_
  refine lv_bipush (v := 60) hC.1 hC.2.1 dX3_init_83 (by decide) ?_
  refine knewq 3 (C := RX1) (N' := 60) hC hK hP hD hS hA tl_X3_23 hO1 rfl (by decide) (by decide) (by decide) (Nat.le_of_ble_eq_true rfl) (Nat.le_of_ble_eq_true rfl) dX3_init_85 (fun q H hP hD hS => ?_)
  refine va_putF (T := TX3) (N := 13) (D := D) (ci := 3) (fs := kF L 2) (a := L 0) (v := .ref q) (ty := .array (.object RX1)) hC.1 hC.2.1 hC.2.2.2.2 inT3 tyX3 tyX3_ok nmX3 hC.2.2.2.1 hK hP hD hS 0 rfl rfl 2 (by decide) (hC.2.2.2.2 _ (kt_in tf_X3_25 rfl)) (fun _ h => h) rfl hin rfl (by decide +kernel) rfl rfl (Nat.le_of_ble_eq_true rfl) dX3_init_88 (fun H locs hP hD hS => ?_)
  obtain ⟨L', hL'⟩ : ∃ L' : Nat → Nat, L' = fun j => if j = 3 then q else L j := ⟨_, rfl⟩
  have hLo : ∀ z, z ≠ 3 → L' z = L z := fun z hz => by rw [hL']; simp only []; rw [if_neg (by omega)]
  have hLn : L' 3 = q := by rw [hL']; rfl
  have e_w := kxs_step0 (zs := (2 :: ((1 :: iP 24) ++ iE 40))) (js := [3]) (L := L) (L' := L') (E := (kB G L 2 24 40 0)) (E' := (kB G L' 3 24 40 0)) (e := .inr (3, (kF L 2).set 2 (.ref q))) (rX := [(q, .inl (G 3, 60, .inr (.inr (.inr (.inr (fun _ => none))))))])
    ⟨hLo 0 (by omega), by show (Sum.inr (3, kF L' 3) : va_E) = _; simp [kF, hLn, hLo 1 (by omega), hLo 2 (by omega)]⟩
    (fun z hz => by
      rcases List.mem_cons.mp hz with rfl | hz
      · refine ⟨hLo _ (by omega), ?_⟩
        show (Sum.inl (G 2, 40, .inr (.inr (.inr (.inr (fun j => if j < 40 then some (L' (28 + j)) else none))))) : va_E) = .inl (G 2, 40, .inr (.inr (.inr (.inr (fun j => if j < 40 then some (L (28 + j)) else none)))))
        rw [show (fun j => if j < 40 then some (L' (28 + j)) else none) = (fun j => if j < 40 then some (L (28 + j)) else none) from by funext j; by_cases h : j < 40 <;> simp only [h, if_true, if_false]; rw [hLo _ (by omega)]]
      have hz : z ∈ 1 :: (iP 24 ++ iE 40) := hz
      rcases List.mem_cons.mp hz with rfl | hz
      · refine ⟨hLo _ (by omega), ?_⟩
        show (Sum.inl (G 4, 24, .inr (.inr (.inr (.inr (fun j => if j < 24 then some (L' (4 + j)) else none))))) : va_E) = .inl (G 4, 24, .inr (.inr (.inr (.inr (fun j => if j < 24 then some (L (4 + j)) else none)))))
        rw [show (fun j => if j < 24 then some (L' (4 + j)) else none) = (fun j => if j < 24 then some (L (4 + j)) else none) from by funext j; by_cases h : j < 24 <;> simp only [h, if_true, if_false]; rw [hLo _ (by omega)]]
      rcases List.mem_append.mp hz with hz | hz
      · obtain ⟨i, hi, rfl⟩ := iP_m hz
        exact ⟨hLo _ (by omega), by rw [kB_k (by omega), kB_k (by omega), kZ_p (by omega), kZ_p (by omega)]⟩
      · obtain ⟨i, hi, h⟩ := iE_m hz
        rcases h with rfl | rfl | rfl | rfl
        · exact ⟨hLo _ (by omega), by rw [kB_k (by omega), kB_k (by omega), kZ_e (by omega), kZ_e (by omega), hLo _ (by omega), hLo _ (by omega), hLo _ (by omega)]⟩
        · exact ⟨hLo _ (by omega), by rw [kB_k (by omega), kB_k (by omega), kZ_v (by omega) (by omega), kZ_v (by omega) (by omega)]⟩
        · exact ⟨hLo _ (by omega), by rw [kB_k (by omega), kB_k (by omega), kZ_v (by omega) (by omega), kZ_v (by omega) (by omega)]⟩
        · exact ⟨hLo _ (by omega), by rw [kB_k (by omega), kB_k (by omega), kZ_v (by omega) (by omega), kZ_v (by omega) (by omega)]⟩)
    (by show [(L' 3, (kB G L' 3 24 40 0) 3)] = _; rw [hLn]; show [(q, (Sum.inl (G 3, 60, .inr (.inr (.inr (.inr (fun j => if j < 0 then some (L' (188 + j)) else none))))) : va_E))] = _; rw [show (fun j => if j < 0 then some (L' (188 + j)) else none) = (fun _ => none) from by funext j; rw [if_neg (by omega)]])
  have hP : va_P D vwCl (kxs (0 :: ((2 :: ((1 :: iP 24) ++ iE 40)) ++ [3])) L' (kB G L' 3 24 40 0)) H := by rw [← e_w]; exact hP
  have hD : va_D A (kxs (0 :: ((2 :: ((1 :: iP 24) ++ iE 40)) ++ [3])) L' (kB G L' 3 24 40 0)) := by rw [← e_w]; exact hD
  obtain ⟨hP, hD⟩ := kxs_perm (ys := (0 :: 3 :: ((1 :: 2 :: (iP 24 ++ iE 40)) ++ iO 0))) (E' := (kB G L' 3 24 40 0)) hP hD (by decide +kernel) (by decide +kernel) (fun _ _ h => h)
  have h0e : L' 0 = h0 := (hLo 0 (by omega)).trans h0e
  rw [← hLo 0 (by omega)] at hl
  refine lv_iconst (v := 0) hC.1 hC.2.1 dX3_init_91 (by decide) ?_
  refine lv_istore_n (lv' := [(1, .int 0), (0, .ref (L' 0))]) hC.1 hC.2.1 dX3_init_92 rfl hl (by decide) rfl (fun ls hl => ?_)
  have hl : lv_has ls 2 [(1, .int (nI 0)), (0, .ref (L' 0))] := by rw [nI_0]; exact hl
  refine kloop_X1 (R := { frames := 2, cells := 307, slots := 3600, locals := 40 }) hC hK hN hA (by decide) (by decide) (by decide) (by decide) ?_ 60 0 (by decide) L' H locs ls h0e hP hD hS hl
  intro L1 H locs ls h0e hP hD hS hl
  have hl : lv_has ls 2 [(1, .int (nI 60)), (0, .ref (L1 0))] := hl
  obtain ⟨L, hLL⟩ : ∃ L, L = L1 := ⟨_, rfl⟩
  rw [← hLL] at h0e hP hD hl
  obtain ⟨hP, hD⟩ := kxs_perm (ys := List.range 308) (E' := kE G L zT zT zq) hP hD (by decide +kernel) (by decide +kernel) (fun y hy h => by
    have hy := List.mem_range.mp hy
    match y, hy with
    | 0, _ => exact h
    | 1, _ => have h : H[L 1]? = some (vp_cell (G 4) (24, .inr (.inr (.inr (.inr (fun j => if j < 24 then some (L (4 + j)) else none)))))) := h; rw [karr (g := fun j => some (L (4 + j))) (fun j hj => by rw [if_pos hj])] at h; exact h
    | 2, _ => have h : H[L 2]? = some (vp_cell (G 2) (40, .inr (.inr (.inr (.inr (fun j => if j < 40 then some (L (28 + j)) else none)))))) := h; rw [karr (g := fun j => some (L (28 + j))) (fun j hj => by rw [if_pos hj])] at h; exact h
    | 3, _ => have h : H[L 3]? = some (vp_cell (G 3) (60, .inr (.inr (.inr (.inr (fun j => if j < 60 then some (L (188 + j)) else none)))))) := h; rw [karr (g := fun j => some (L (188 + j))) (fun j hj => by rw [if_pos hj])] at h; exact h
    | k + 4, _ => rw [kB_k (by omega)] at h; exact h)
  have hW : kWd D G L A zs.heap zT zT zq H locs := ⟨hP, hD, hS⟩
  have hL : kL L := fun i j hi hj h => hW.2.1.1 i j _ _ (kw_get hi) (kw_get hj) h
  have hAM : ∀ q, kA L q → A q := fun q h => by obtain ⟨k, hk, e⟩ := h; rw [e]; exact hW.2.1.2 k _ (kw_get hk)
  clear hP hD hS
  refine lv_aload_n hC.1 hC.2.1 dX3_init_121 rfl (lv_at hl 1 rfl) ?_
  refine kg3 hC hK hW 0 (v := .ref (L 1)) rfl (by decide) tf_X3_11 dX3_init_122 ?_
  refine lv_iconst (v := 0) hC.1 hC.2.1 dX3_init_125 (by decide) ?_
  refine kar1n hC hK hW (i := 0) (by decide) dX3_init_126 ?_
  refine lv_iconst (v := (-1)) hC.1 hC.2.1 dX3_init_127 (by decide) ?_
  refine lv_iconst (v := 0) hC.1 hC.2.1 dX3_init_128 (by decide) ?_
  refine lv_iconst (v := 0) hC.1 hC.2.1 dX3_init_129 (by decide) ?_
  refine lv_iconst (v := 0) hC.1 hC.2.1 dX3_init_130 (by decide) ?_
  refine lv_iconst (v := 0) hC.1 hC.2.1 dX3_init_131 (by decide) ?_
  refine keQvA hAM (rest := []) (kcVN (4 + 0) hC hK hN hW (c_X2_begin l D G L hL zT zT zq 0 (by decide) (-1) 0 0 0 0) tm_X3_30 ti_yX2_begin te_yX2_begin tz_X2 tc_yX2_begin (kw_p (by decide)) rfl ⟨by decide, by decide, (show Option.map _ (parseMethodDescriptor yX2_begin.desc) = some 5 from by decide +kernel)⟩ ⟨Nat.le_of_ble_eq_true rfl, Nat.le_of_ble_eq_true rfl⟩ hl.1 rfl (Nat.le_of_ble_eq_true rfl) ⟨Nat.le_refl _, Nat.le_refl _⟩ dX3_init_132) hW (fun H locs (hW : kWd D G L A zs.heap (t_X2_begin zT 0 (-1) 0 0 0 0) zT zq H locs) => ?_)
  refine lv_aload_n hC.1 hC.2.1 dX3_init_135 rfl (lv_at hl 1 rfl) ?_
  refine lv_iconst (v := 1) hC.1 hC.2.1 dX3_init_136 (by decide) ?_
  refine kp3 hC hK hW 4 (by decide) (by decide) tf_X3_34 dX3_init_137 (fun H locs (hW : kWd D G L A zs.heap (kup (t_X2_begin zT 0 (-1) 0 0 0 0) 0 1 1) zT zq H locs) => ?_)
  refine lv_aload_n hC.1 hC.2.1 dX3_init_140 rfl (lv_at hl 1 rfl) ?_
  refine kg3 hC hK hW 2 (v := .ref (L 3)) rfl (by decide) tf_X3_25 dX3_init_141 ?_
  refine lv_iconst (v := 0) hC.1 hC.2.1 dX3_init_144 (by decide) ?_
  refine kar3n hC hK hW (i := 0) (by decide) dX3_init_145 ?_
  refine lv_iconst (v := 1) hC.1 hC.2.1 dX3_init_146 (by decide) ?_
  refine lv_iconst (v := (-1)) hC.1 hC.2.1 dX3_init_147 (by decide) ?_
  refine lv_iconst (v := 0) hC.1 hC.2.1 dX3_init_148 (by decide) ?_
  refine lv_iconst (v := 0) hC.1 hC.2.1 dX3_init_149 (by decide) ?_
  refine lv_sipush (v := 200) hC.1 hC.2.1 dX3_init_150 (by decide) ?_
  refine lv_bipush (v := 50) hC.1 hC.2.1 dX3_init_153 (by decide) ?_
  refine keQvA hAM (rest := []) (kcVN (188 + 0) hC hK hN hW (c_X1_begin l D G L hL (kup (t_X2_begin zT 0 (-1) 0 0 0 0) 0 1 1) zT zq 0 (by decide) 1 (Or.inr rfl) (-1) 0 0 200 50) tm_X3_38 ti_yX1_begin te_yX1_begin tz_X1 tc_yX1_begin (kw_o (by decide)) rfl ⟨by decide, by decide, (show Option.map _ (parseMethodDescriptor yX1_begin.desc) = some 6 from by decide +kernel)⟩ ⟨Nat.le_of_ble_eq_true rfl, Nat.le_of_ble_eq_true rfl⟩ hl.1 rfl (Nat.le_of_ble_eq_true rfl) ⟨Nat.le_refl _, Nat.le_refl _⟩ dX3_init_155) hW (fun H locs (hW : kWd D G L A zs.heap (t_X1_begin (kup (t_X2_begin zT 0 (-1) 0 0 0 0) 0 1 1) 0 1 (-1) 0 0 200 50) zT zq H locs) => ?_)
  refine lv_aload_n hC.1 hC.2.1 dX3_init_158 rfl (lv_at hl 1 rfl) ?_
  refine lv_iconst (v := 1) hC.1 hC.2.1 dX3_init_159 (by decide) ?_
  refine kp3 hC hK hW 6 (by decide) (by decide) tf_X3_41 dX3_init_160 (fun H locs (hW : kWd D G L A zs.heap (kup (t_X1_begin (kup (t_X2_begin zT 0 (-1) 0 0 0 0) 0 1 1) 0 1 (-1) 0 0 200 50) 0 3 1) zT zq H locs) => ?_)
  refine lv_aload_n hC.1 hC.2.1 dX3_init_163 rfl (lv_at hl 1 rfl) ?_
  refine lv_iconst (v := (-1)) hC.1 hC.2.1 dX3_init_164 (by decide) ?_
  refine kp3 hC hK hW 11 (by decide) (by decide) tf_X3_44 dX3_init_165 (fun H locs (hW : kWd D G L A zs.heap (kup (kup (t_X1_begin (kup (t_X2_begin zT 0 (-1) 0 0 0 0) 0 1 1) 0 1 (-1) 0 0 200 50) 0 3 1) 0 8 (-1)) zT zq H locs) => ?_)
  refine W.vret hC.1 hC.2.1 hr (fun t ht _ => ⟨⟨L, rfl, ⟨h0e, hL, fun k hk => hAM _ ⟨k, hk, rfl⟩⟩, by show va_P D vwCl (kw G L kT0 zT zq) t.heap; rw [ht]; exact hW.1⟩, hW.2.2.F ht⟩) hW.2.2.2.2 dX3_init_168
