/-! THE QUEUES OF BOTH HOLD THE SAME -/
def kRel (T : kT) (q : kQ) (r : Nat → Int32) : Prop := ∀ e, e < 40 → ∀ k, k < tn (T 14 e) → ∀ j, j < 3 → q j e k = r (12 * e + 3 * k + j)
theorem kRel.c {T T' : kT} {q : kQ} {r : Nat → Int32} (h : kRel T q r) (h1 : T' 14 = T 14) : kRel T' q r := by
  unfold kRel at *
  rw [h1]
  exact h
theorem kuq_o {S : kQ} {f i k g j m : Nat} {v : Int32} (h : ¬ (g = f ∧ j = i ∧ m = k)) : kuq S f i k v g j m = S g j m := by
  unfold kuq
  by_cases q : g = f ∧ j = i
  · rw [if_pos q, q.1, q.2]
    have : ¬ m = k := fun z => h ⟨q.1, q.2, z⟩
    simp [upd, this]
  · rw [if_neg q]
theorem kuq_e {S : kQ} {f i k : Nat} {v : Int32} : kuq S f i k v f i k = v := by simp [kuq, upd]
theorem upd_o {r : Nat → Int32} {k m : Nat} {v : Int32} (h : ¬ m = k) : upd r k v m = r m := by simp [upd, h]
theorem upd_e {r : Nat → Int32} {k : Nat} {v : Int32} : upd r k v k = v := by simp [upd]
theorem rel_send {T : kT} {q : kQ} {r : Nat → Int32} {p x f v a b : Int32} (hI : kInv T) (h : kRel T q r) : kRel (t_send T p x f v a b) (q_send T q p x f v a b) (r_send T r p x f v a b) := by
  unfold t_send q_send r_send
  by_cases c : kSdg T p x f a b
  · by_cases c2 : kSdl T x f
    · rw [kif_t c, kif_t c2, kif_t ⟨c, c2⟩, kif_t ⟨c, c2⟩]
      have hr := c2.2.1
      have hlt : T 14 (tn f) < 4 := by
        rw [Int32.lt_iff_toInt_lt]; have := hr.2; rw [Int32.le_iff_toInt_le] at this; omega
      obtain ⟨i1, i2, i3⟩ := kinc hr.1 hlt
      have e4 : tn (4 : Int32) = 4 := by decide
      have hq : ∀ e, tn (T 14 e) ≤ 4 := fun e => (i32b (hI.2.2.2.1.2.2.1 e).1 (b := 4) (by decide) (hI.2.2.2.1.2.2.1 e).2).2.2.1
      intro e he k hk j hj
      generalize hk0 : tn (T 14 (tn f)) = k0 at *
      have e14 : t_X0_put T (tn f) v a b 14 e = if e = tn f then T 14 (tn f) + 1 else T 14 e := by
        show kup T 14 (tn f) (T 14 (tn f) + 1) 14 e = _
        simp [kup]
      rw [e14] at hk
      unfold q_X0_put
      rw [hk0]
      by_cases q0 : e = tn f
      · rw [if_pos q0] at hk
        by_cases q1 : k = k0
        · have hj' : j = 0 ∨ j = 1 ∨ j = 2 := by omega
          subst q1
          rw [q0]
          rcases hj' with rfl | rfl | rfl
          · rw [kuq_o (by omega), kuq_o (by omega), kuq_e, upd_o (by omega), upd_o (by omega)]; exact upd_e.symm
          · rw [kuq_o (by omega), kuq_e, upd_o (by omega), upd_e]
          · rw [kuq_e, upd_e]
        · rw [kuq_o (by omega), kuq_o (by omega), kuq_o (by omega), upd_o (by omega), upd_o (by omega), upd_o (by omega)]
          exact h e he k (by rw [q0, hk0]; omega) j hj
      · rw [if_neg q0] at hk
        have := hq e
        rw [kuq_o (by omega), kuq_o (by omega), kuq_o (by omega), upd_o (by omega), upd_o (by omega), upd_o (by omega)]
        exact h e he k hk j hj
    · rw [kif_t c, kif_f c2, kif_f (fun z => c2 z.2), kif_f (fun z => c2 z.2)]
      exact h.c rfl
  · rw [kif_f c, kif_f (fun z => c z.1), kif_f (fun z => c z.1)]
    exact h
theorem mvUp_o {T : kT} {q : kQ} {r e j k : Nat} (h : e ≠ r) : q_X0_moveUp T q r j e k = q j e k := by
  unfold q_X0_moveUp
  simp only [kuq_o (fun z => h z.2.1)]
theorem mvUp_e {T : kT} {q : kQ} {r j k : Nat} (hj : j < 3) (hk : k < 3) : q_X0_moveUp T q r j r k = q j r (k + 1) := by
  have t0 : tn ((1 : Int32) - 1) = 0 := by decide
  have t1 : tn ((2 : Int32) - 1) = 1 := by decide
  have t2 : tn ((3 : Int32) - 1) = 2 := by decide
  have u1 : tn (1 : Int32) = 1 := by decide
  have u2 : tn (2 : Int32) = 2 := by decide
  have u3 : tn (3 : Int32) = 3 := by decide
  have hj' : j = 0 ∨ j = 1 ∨ j = 2 := by omega
  have hk' : k = 0 ∨ k = 1 ∨ k = 2 := by omega
  unfold q_X0_moveUp
  rw [t0, t1, t2, u1, u2, u3]
  rcases hj' with rfl | rfl | rfl <;> rcases hk' with rfl | rfl | rfl <;> simp [kuq, upd]
theorem rel_receive {T : kT} {q : kQ} {r : Nat → Int32} {p x x0 x1 x2 : Int32} (hI : kInv T) (h : kRel T q r) : kRel (t_receive T p x x0 x1 x2) (q_receive T q p x) (r_receive T r p x) := by
  unfold t_receive q_receive r_receive
  by_cases c : kRcg T p x
  · rw [kif_t c, kif_t c, kif_t c]
    have hq : ∀ e, tn (T 14 e) ≤ 4 := fun e => (i32b (hI.2.2.2.1.2.2.1 e).1 (b := 4) (by decide) (hI.2.2.2.1.2.2.1 e).2).2.2.1
    have hn := (hI.2.2.2.1.2.2.1 (tn x)).1
    have e14 : ∀ e, t_X0_moveUp (t_X2_take T (tn p) x0 x1 x2) (tn x) 14 e = if e = tn x then T 14 (tn x) - 1 else T 14 e := fun e => by
      show kup T 14 (tn x) (T 14 (tn x) - 1) 14 e = _
      simp [kup]
    have hz : tn (T 14 (tn x)) ≠ 0 := fun z => c.2.2 (by rw [nI_tn hn, z]; decide)
    have hm : tn (T 14 (tn x) - 1) = tn (T 14 (tn x)) - 1 := by
      have e : T 14 (tn x) - 1 = nI (tn (T 14 (tn x)) - 1) := by
        conv => lhs; rw [nI_tn hn, show tn (T 14 (tn x)) = (tn (T 14 (tn x)) - 1) + 1 by omega]
        exact nI_pred _
      have := hq (tn x)
      rw [e, tn_nI (by omega)]
    intro e he k hk j hj
    rw [e14] at hk
    unfold kshr
    by_cases q0 : e = tn x
    · rw [if_pos q0, hm] at hk
      have := hq (tn x)
      rw [q0, mvUp_e hj (by omega), if_pos (by omega)]
      have z := h (tn x) (by omega) (k + 1) (by omega) j hj
      rw [z]
      congr 1
      omega
    · rw [if_neg q0] at hk
      have := hq e
      have := hq (tn x)
      rw [mvUp_o q0, if_neg (by omega)]
      exact h e he k hk j hj
  · rw [kif_f c, kif_f c, kif_f c]
    exact h
