/-! THE REST LEAVES THE QUEUES ALONE -/
section E14
variable {T : kT}
theorem u14_kOt : kOt T 14 = T 14 := by
  unfold kOt
  by_cases c : T 0 8 = -1
  · rw [kif_t c]
  · rw [kif_f c]
    unfold kSt
    rw [kc10_f, kc1_f]
    rfl
theorem u14_mk {b hh s t bl pl : Int32} : kMk T b hh s t bl pl 14 = T 14 := by
  unfold kMk
  by_cases c : kGo T 3
  · rw [kif_t c]; unfold kGoT; rw [kif_t c]; rfl
  · rw [kif_f c]
theorem u14_mkt {b hh s t bl pl : Int32} : kMkt T b hh s t bl pl 14 = T 14 := by
  unfold kMkt
  by_cases c : T 0 3 < 60
  · rw [kif_t c, u14_kOt, u14_mk]
  · rw [kif_f c]
theorem u14_fT {g : kT → Nat → kT} (h : ∀ S n, g S n 14 = S 14) : ∀ (S : kT) n, kfT g S n 14 = S 14
  | _, 0 => rfl
  | S, n + 1 => by
    show g (kfT g S n) n 14 = S 14
    rw [h, u14_fT h]
theorem u14_wg (o : Nat) (a : Int32) (S : kT) (m : Nat) : kWg o a S m 14 = S 14 := by
  unfold kWg
  by_cases c3 : k32 (a + nI m)
  · rw [kif_t c3]; rfl
  · rw [kif_f c3]
theorem u14_rt (o : Int32) (S : kT) (m : Nat) : krtg o S m 14 = S 14 := by
  unfold krtg
  by_cases c3 : ¬ S 18 (59 - m) = 0 ∧ kPo S o 60 (nI (59 - m))
  · rw [kif_t c3]; rfl
  · rw [kif_f c3]
theorem u14_wt {o : Nat} {a n : Int32} : kWrt T o a n 14 = T 14 := by
  unfold kWrt
  by_cases c : kHr T o (a + n)
  · rw [kif_t c, u14_kOt]
    unfold kWT
    by_cases c2 : kGo T (n + 1)
    · rw [kif_t c2, u14_fT (u14_wg o a)]
      unfold kGoT
      rw [kif_t c2]
      rfl
    · rw [kif_f c2]
  · rw [kif_f c]
theorem u14_rm {o : Int32} : kRmT T o 14 = T 14 := by
  unfold kRmT
  by_cases c : kGo T (kRmn T o)
  · rw [kif_t c, u14_fT (u14_rt o)]
    unfold kGoT
    rw [kif_t c]
    rfl
  · rw [kif_f c]
theorem u14_label {p w x : Int32} : t_label T p w x 14 = T 14 := by
  unfold t_label
  by_cases c : kP T p ∧ (kLb w ∧ kSet T x) ∧ kLok T p w x
  · rw [kif_t c]; rfl
  · rw [kif_f c]
theorem u14_drop {p w x : Int32} : t_drop T p w x 14 = T 14 := by
  unfold t_drop
  by_cases c : kP T p ∧ (kLb w ∧ kSet T x) ∧ kDok T p w x
  · rw [kif_t c]; rfl
  · rw [kif_f c]
theorem u14_close {p x : Int32} : t_close T p x 14 = T 14 := by
  unfold t_close
  by_cases c : (kP T p ∧ kEo T x) ∧ T 11 (tn x) = p
  · rw [kif_t c]; rfl
  · rw [kif_f c]
theorem u14_spawn {p s t a b : Int32} : t_spawn T p s t a b 14 = T 14 := by
  unfold t_spawn
  by_cases c : kP T p ∧ kSps T s t a b ∧ kSpo T (tn p) s t a b ∧ T 0 1 < 24
  · rw [kif_t c]; rfl
  · rw [kif_f c]
theorem u14_endpoint {p s t : Int32} : t_endpoint T p s t 14 = T 14 := by
  unfold t_endpoint
  by_cases c : kP T p ∧ (kSet T s ∧ kSet T t) ∧ kEok T (tn p) s t ∧ T 0 2 < 40
  · rw [kif_t c]; rfl
  · rw [kif_f c]
theorem u14_exit {p : Int32} : t_exit T p 14 = T 14 := by
  unfold t_exit
  by_cases c : kP T p ∧ ¬ p = 0
  · rw [kif_t c, kCl_f]; rfl
  · rw [kif_f c]
theorem u14_crash {n : Int32} : t_crash T n 14 = T 14 := by
  unfold t_crash
  by_cases c : kCr n
  · rw [kif_t c]; rfl
  · rw [kif_f c]
theorem u14_tag {p k : Int32} : t_tag T p k 14 = T 14 := by
  unfold t_tag
  by_cases c : kP T p ∧ kKd k ∧ T 0 0 < 24
  · rw [kif_t c]
    unfold kTg
    by_cases c0 : k = 0
    · rw [kif_t c0]; rfl
    · rw [kif_f c0]
      by_cases c1 : k = 1
      · rw [kif_t c1]; rfl
      · rw [kif_f c1]; rfl
  · rw [kif_f c]
theorem u14_container {p x s t b n : Int32} : t_container T p x s t b n 14 = T 14 := by
  unfold t_container
  by_cases c : (kP T p ∧ kCn T x) ∧ (kBd b n ∧ kSet T s ∧ kSet T t) ∧ kMay T (tn p) (tn x) s t ∧ kCnl T x b n
  · rw [kif_t c]; exact u14_mkt
  · rw [kif_f c]
theorem u14_file {p x s t : Int32} : t_file T p x s t 14 = T 14 := by
  unfold t_file
  by_cases c : (kP T p ∧ kCn T x) ∧ (kSet T s ∧ kSet T t) ∧ kMay T (tn p) (tn x) s t ∧ 1 ≤ kPl T x
  · rw [kif_t c]; exact u14_mkt
  · rw [kif_f c]
theorem u14_write {p f i : Int32} : t_write T p f i 14 = T 14 := by
  unfold t_write
  by_cases c : kWrg T p f i
  · rw [kif_t c]; exact u14_wt
  · rw [kif_f c]
theorem u14_append {p f n : Int32} : t_append T p f n 14 = T 14 := by
  unfold t_append
  by_cases c : kApg T p f n
  · rw [kif_t c]; exact u14_wt
  · rw [kif_f c]
theorem u14_remove {p o : Int32} : t_remove T p o 14 = T 14 := by
  unfold t_remove
  by_cases c : (kP T p ∧ kO T o) ∧ kRmd T p o
  · rw [kif_t c, u14_kOt, u14_rm]
  · rw [kif_f c]
end E14
/-- what is taken is the same in both -/
theorem rel_take {T : kT} {q : kQ} {r : Nat → Int32} {p x : Int32} (hI : kInv T) (h : kRel T q r) : t_receive T p x (q 0 (tn x) (tn 0)) (q 1 (tn x) (tn 0)) (q 2 (tn x) (tn 0)) = t_receive T p x (r (12 * tn x + 0)) (r (12 * tn x + 1)) (r (12 * tn x + 2)) := by
  by_cases c : kRcg T p x
  · have hx : tn x < 40 := kin_lt (n := 40) (by
      have := c.1.2
      exact kin40 this.1 this.2.1)
    have e0 : tn (0 : Int32) = 0 := by decide
    have hz : 0 < tn (T 14 (tn x)) := by
      rcases Nat.eq_zero_or_pos (tn (T 14 (tn x))) with z | z
      · exfalso
        exact c.2.2 (by rw [nI_tn (hI.2.2.2.1.2.2.1 (tn x)).1, z]; decide)
      · exact z
    rw [e0, h _ hx 0 hz 0 (by omega), h _ hx 0 hz 1 (by omega), h _ hx 0 hz 2 (by omega)]
  · unfold t_receive
    rw [kif_f c, kif_f c]
