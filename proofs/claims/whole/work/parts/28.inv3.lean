/-! WHAT IS MADE AND WRITTEN -/
theorem inle {a b : Int32} (h : ¬ b < a) : a ≤ b := by
  rw [Int32.lt_iff_toInt_lt] at h
  rw [Int32.le_iff_toInt_le]
  omega
theorem tn_kmx {x y : Int32} (hx : ¬ x < 0) (hy : ¬ y < 0) : ¬ kmx x y < 0 ∧ tn (kmx x y) = max (tn x) (tn y) := by
  have e0 : (0 : Int32).toInt = 0 := by decide
  have e1 : tn x = x.toInt.toNat := rfl
  have e2 : tn y = y.toInt.toNat := rfl
  unfold kmx
  by_cases c : x < y
  · rw [if_pos c]
    refine ⟨hy, ?_⟩
    rw [Int32.lt_iff_toInt_lt] at c hx hy
    omega
  · rw [if_neg c]
    refine ⟨hx, ?_⟩
    rw [Int32.lt_iff_toInt_lt] at c hx hy
    omega
theorem kup_kup {S : kT} {f i : Nat} {v w : Int32} : kup (kup S f i v) f i w = kup S f i w := by
  funext g j
  unfold kup
  by_cases h : g = f ∧ j = i
  · rw [if_pos h, if_pos h]
  · rw [if_neg h, if_neg h, if_neg h]
theorem kupid {S : kT} {f i : Nat} : kup S f i (S f i) = S := by
  funext g j
  unfold kup
  by_cases h : g = f ∧ j = i
  · rw [if_pos h, h.1, h.2]
  · rw [if_neg h]
theorem kWg_f {S : kT} {o : Nat} {a : Int32} (ha : ¬ a < 0) (hs : ¬ S 25 o < 0) : ∀ m, tn a + m ≤ 32 → ∃ v, kfT (kWg o a) S m = kup S 25 o v ∧ ¬ v < 0 ∧ tn v = if m = 0 then tn (S 25 o) else max (tn (S 25 o)) (tn a + m)
  | 0, _ => ⟨S 25 o, kupid.symm, hs, by rw [if_pos rfl]⟩
  | m + 1, hm => by
    obtain ⟨v, e, hv, ev⟩ := kWg_f ha hs m (by omega)
    have es : a + nI m = nI (tn a + m) := nI_sum ha m
    have hy : ¬ nI (tn a + m + 1) < 0 := nI_pos (by omega)
    obtain ⟨k1, k2⟩ := tn_kmx hv hy
    refine ⟨kmx v (nI (tn a + m + 1)), ?_, k1, ?_⟩
    · show kWg o a (kfT (kWg o a) S m) m = _
      rw [e]
      unfold kWg
      rw [es, nI_1, kif_t ⟨nI_pos (by omega), nI_ge (a := tn a + m) (b := 32) (by omega) (by decide)⟩, kup_eq, kup_kup]
    · rw [k2, ev, tn_nI (by omega), if_neg (show ¬ m + 1 = 0 by omega)]
      by_cases c : m = 0
      · rw [if_pos c]; omega
      · rw [if_neg c]; omega
section INV
variable {T T' : kT}
theorem i_mkt {b hh s t bl pl : Int32} (h : kInv T) (hb : b = 0 ∨ b = 1) (hhc : kCn T hh) (hbl : ¬ bl < 0 ∧ bl ≤ 200) (hpl : b = 0 → pl = 0) (hfit : b = 1 → ¬ kBl T hh < bl) : kInv (kMkt T b hh s t bl pl) := by
  unfold kMkt
  by_cases c : T 0 3 < 60
  · rw [kif_t c]; exact i_kOt (i_mk h c hb hhc hbl hpl hfit)
  · rw [kif_f c]; exact h
theorem i_container {p x s t b n : Int32} (h : kInv T) : kInv (t_container T p x s t b n) := by
  unfold t_container
  by_cases c : (kP T p ∧ kCn T x) ∧ (kBd b n ∧ kSet T s ∧ kSet T t) ∧ kMay T (tn p) (tn x) s t ∧ kCnl T x b n
  · rw [kif_t c]
    exact i_mkt h (Or.inr rfl) c.1.2 ⟨c.2.1.1.1, inle c.2.1.1.2.1⟩ (fun q => absurd q (by decide)) (fun _ => c.2.2.2.1)
  · rw [kif_f c]; exact h
theorem i_file {p x s t : Int32} (h : kInv T) : kInv (t_file T p x s t) := by
  unfold t_file
  by_cases c : (kP T p ∧ kCn T x) ∧ (kSet T s ∧ kSet T t) ∧ kMay T (tn p) (tn x) s t ∧ 1 ≤ kPl T x
  · rw [kif_t c]
    exact i_mkt h (Or.inl rfl) c.1.2 ⟨by decide, by decide⟩ (fun _ => rfl) (fun q => absurd q (by decide))
  · rw [kif_f c]; exact h
theorem i_wt {o : Nat} {a n : Int32} (h : kInv T) (ho : o < 60) (h18 : ¬ T 18 o = 0) (h19 : T 19 o = 0) (ha : ¬ a < 0) (hn : ¬ n < 0) (hn1 : 1 ≤ tn n) (hs : tn a + tn n ≤ 64) (hr : kHr T o (a + n)) : kInv (kWT T o a n) := by
  unfold kWT
  by_cases c : kGo T (n + 1)
  · rw [kif_t c]
    unfold kGoT
    rw [kif_t c]
    obtain ⟨h0, hc, hp, he, hO, hL⟩ := h
    have e_an : a + n = nI (tn a + tn n) := nI_sum2 ha hn
    have h32 : tn a + tn n ≤ 32 := by
      have z := hr.1
      rw [e_an, Int32.le_iff_toInt_le, nI_toInt (by omega)] at z
      have e : (32 : Int32).toInt = 32 := by decide
      omega
    have s25 : ¬ kup T 0 7 (T 0 7 + (n + 1)) 25 o < 0 := (hO.2.2.2.1 o).1
    obtain ⟨v, ev, hv, tv⟩ := kWg_f (S := kup T 0 7 (T 0 7 + (n + 1))) ha s25 (tn n) h32
    rw [ev]
    rw [if_neg (by omega)] at tv
    have tv : tn v = max (tn (T 25 o)) (tn a + tn n) := tv
    have k9 := j9 hO o
    obtain ⟨X, hX⟩ : ∃ X, X = kup (kup T 0 7 (T 0 7 + (n + 1))) 25 o v := ⟨_, rfl⟩
    have x25 : ∀ j, X 25 j = if j = o then v else T 25 j := fun j => by rw [hX]; show kup T 25 o v 25 j = _; simp [kup]
    have o1 : 1 ≤ o := by
      rcases Nat.eq_zero_or_pos o with q | q
      · rw [q] at h19; exact absurd h19 hO.2.2.2.2.2.1
      · exact q
    have oc : o < tn (T 0 3) := Nat.not_le.mp fun q => h18 (hO.1.2.2.2 o q)
    have hOX : jO X := by
      have a1 : X 0 3 = T 0 3 := by rw [hX]; rfl
      have a2 : X 18 = T 18 := by rw [hX]; rfl
      have a3 : X 19 = T 19 := by rw [hX]; rfl
      have a4 : X 20 = T 20 := by rw [hX]; rfl
      have a5 : X 23 = T 23 := by rw [hX]; rfl
      have a6 : X 24 = T 24 := by rw [hX]; rfl
      unfold jO kI3 kI5 kI7 kI9 kIh kIz kCn kO at *
      simp only [a1, a2, a3, a4, a5, a6, x25]
      refine ⟨hO.1, fun x => ⟨(hO.2.1 x).1, fun hx => ?_⟩, fun x hx => ?_, fun x => ?_, hO.2.2.2.2.1, hO.2.2.2.2.2.1, hO.2.2.2.2.2.2.1, hO.2.2.2.2.2.2.2⟩
      · rw [if_neg (fun q => hx (by rw [q]; exact h19))]; exact (hO.2.1 x).2 hx
      · rw [if_neg (by omega)]; exact hO.2.2.1 x hx
      · by_cases q : x = o
        · rw [if_pos q]
          refine ⟨hv, ?_⟩
          rw [Int32.le_iff_toInt_le, nI_tn hv, nI_toInt (by omega)]
          have e : (32 : Int32).toInt = 32 := by decide
          omega
        · rw [if_neg q]; exact hO.2.2.2.1 x
    have hLX : jL X := by
      rw [jL_iff hOX]
      rw [jL_iff hO] at hL
      intro x hx
      have a2 : X 18 = T 18 := by rw [hX]; rfl
      have a3 : X 19 = T 19 := by rw [hX]; rfl
      have a4 : X 20 = T 20 := by rw [hX]; rfl
      have a5 : X 23 = T 23 := by rw [hX]; rfl
      have hx' : kCn T x := by unfold kCn kO at hx ⊢; rw [a2, a3] at hx; exact hx
      have hl := hL x hx'
      rw [a5]
      have hk : ∀ j, j < 60 → j ≠ o → kbf X x j = kbf T x j := fun j h60 hj => by
        unfold kbf kIn kO kBt
        rw [a2, a3, a4, a5, x25, if_neg hj]
      have e := isum_upd (f := fun j => (kbf T x j).toInt) (g := fun j => (kbf X x j).toInt) (o := o) (fun j h60 hj => by show (kbf X x j).toInt = _; rw [hk j h60 hj]) (n := 60) ho
      show isum (fun j => (kbf X x j).toInt) 60 ≤ _
      rw [e]
      show lb T x + ((kbf X x o).toInt - (kbf T x o).toInt) ≤ _
      by_cases hi : kIn T (nI o) x
      · have hiX : kIn X (nI o) x := by unfold kIn kO at hi ⊢; rw [a2, a4]; exact hi
        have ex : (kbf X x o).toInt = ((tn v + 3) / 4 : Nat) := by
          unfold kbf
          rw [kif_t hiX]
          unfold kBt
          rw [a3, kif_t h19, jBf hOX, x25, if_pos rfl]
        have et : (kbf T x o).toInt = ((tn (T 25 o) + 3) / 4 : Nat) := by
          unfold kbf
          rw [kif_t hi]
          unfold kBt
          rw [kif_t h19, jBf hO]
        rw [ex, et]
        have h2 := hi.2
        rw [tn60 ho] at h2
        have f := hr.2
        rw [h2, Int32.lt_iff_toInt_lt, jbl hO hx', Int32.toInt_sub, jBf hO, e_an, kBf_nI _ (by omega), nI_toInt (by omega), Int.bmod_eq_of_le (by omega) (by omega)] at f
        omega
      · have hiX : ¬ kIn X (nI o) x := by unfold kIn kO at hi ⊢; rw [a2, a4]; exact hi
        have ex : kbf X x o = kbf T x o := by unfold kbf; rw [kif_f hi, kif_f hiX]
        rw [ex]
        omega
    have hrr : kInv X := ⟨h0.c (by rw [hX]; rfl), hc.c (by rw [hX]; rfl), hp.c (by rw [hX]; rfl) (by rw [hX]; rfl), he.c (by rw [hX]; rfl) (by rw [hX]; rfl) (by rw [hX]; rfl), hOX, hLX⟩
    rw [hX] at hrr
    exact hrr
  · rw [kif_f c]; exact h
theorem i_write {p f i : Int32} (h : kInv T) : kInv (t_write T p f i) := by
  unfold t_write
  by_cases c : kWrg T p f i
  · rw [kif_t c]
    unfold kWrt
    by_cases c2 : kHr T (tn f) (i + 1)
    · rw [kif_t c2]
      have hf := c.1.2
      have h60 : tn f < 60 := by have := kCn_lt h.2.2.2.2.1 hf.1; have := h.2.2.2.2.1.1.2.2.1; omega
      have e1 : tn (1 : Int32) = 1 := by decide
      have e32 : tn (32 : Int32) = 32 := by decide
      have hi := kinc c.2.1.1 c.2.1.2
      exact i_kOt (i_wt h h60 hf.1.2.2 hf.2 c.2.1.1 (by decide) (by rw [e1]; exact Nat.le_refl _) (by omega) c2)
    · rw [kif_f c2]; exact h
  · rw [kif_f c]; exact h
theorem i_append {p f n : Int32} (h : kInv T) : kInv (t_append T p f n) := by
  unfold t_append
  by_cases c : kApg T p f n
  · rw [kif_t c]
    unfold kWrt
    by_cases c2 : kHr T (tn f) (T 25 (tn f) + n)
    · rw [kif_t c2]
      have hf := c.1.2
      have h60 : tn f < 60 := by have := kCn_lt h.2.2.2.2.1 hf.1; have := h.2.2.2.2.1.1.2.2.1; omega
      have k9 := j9 h.2.2.2.2.1 (tn f)
      have hn1 : ¬ n < 0 ∧ 1 ≤ tn n ∧ tn n ≤ 8 := by
        have a := c.2.1.1
        have b := c.2.1.2
        have e0 : (0 : Int32).toInt = 0 := by decide
        have e1 : (1 : Int32).toInt = 1 := by decide
        have e8 : (8 : Int32).toInt = 8 := by decide
        have et : tn n = n.toInt.toNat := rfl
        rw [Int32.lt_iff_toInt_lt] at a ⊢
        rw [Int32.le_iff_toInt_le] at b
        omega
      exact i_kOt (i_wt h h60 hf.1.2.2 hf.2 (h.2.2.2.2.1.2.2.2.1 _).1 hn1.1 hn1.2.1 (by omega) c2)
    · rw [kif_f c2]; exact h
  · rw [kif_f c]; exact h
end INV
