theorem kinL {i : Int32} {n : Nat} (h1 : ¬ i < 0) (h2 : i < nI n) (hn : n < 2 ^ 31) : vp_in i n := kin_mk h1 (fun z => by rw [Int32.lt_iff_toInt_lt] at h2; rw [Int32.le_iff_toInt_le] at z; omega) hn
theorem kinL24 {i : Int32} (h1 : ¬ i < 0) (h2 : i < 24) : vp_in i 24 := kinL h1 h2 (by decide)
theorem kinL40 {i : Int32} (h1 : ¬ i < 0) (h2 : i < 40) : vp_in i 40 := kinL h1 h2 (by decide)
theorem kinL32 {i : Int32} (h1 : ¬ i < 0) (h2 : i < 32) : vp_in i 32 := kinL h1 h2 (by decide)
theorem ksw2 (x : Int32) : x = 0 ∨ x = 1 ∨ ((x.toInt ≠ 0 ∧ x.toInt ≠ 1) ∧ x ≠ 0 ∧ x ≠ 1) := by
  by_cases h0 : x = 0
  · exact Or.inl h0
  by_cases h1 : x = 1
  · exact Or.inr (Or.inl h1)
  exact Or.inr (Or.inr ⟨⟨fun h => h0 (Int32.toInt_inj.mp h), fun h => h1 (Int32.toInt_inj.mp h)⟩, h0, h1⟩)
theorem ksw6 (x : Int32) : x = 0 ∨ x = 1 ∨ x = 2 ∨ x = 3 ∨ x = 4 ∨ x = 5 ∨ ((x.toInt < 0 ∨ 5 < x.toInt) ∧ x ≠ 0 ∧ x ≠ 1 ∧ x ≠ 2 ∧ x ≠ 3 ∧ x ≠ 4 ∧ x ≠ 5) := by
  have e : ∀ n : Int32, x.toInt = n.toInt → x = n := fun n h => Int32.toInt_inj.mp h
  by_cases h : x.toInt < 0 ∨ 5 < x.toInt
  · refine Or.inr (Or.inr (Or.inr (Or.inr (Or.inr (Or.inr ⟨h, ?_, ?_, ?_, ?_, ?_, ?_⟩))))) <;> (rintro rfl; revert h; decide)
  · have h2 : x.toInt = 0 ∨ x.toInt = 1 ∨ x.toInt = 2 ∨ x.toInt = 3 ∨ x.toInt = 4 ∨ x.toInt = 5 := by omega
    rcases h2 with q | q | q | q | q | q
    · exact Or.inl (e 0 q)
    · exact Or.inr (Or.inl (e 1 q))
    · exact Or.inr (Or.inr (Or.inl (e 2 q)))
    · exact Or.inr (Or.inr (Or.inr (Or.inl (e 3 q))))
    · exact Or.inr (Or.inr (Or.inr (Or.inr (Or.inl (e 4 q)))))
    · exact Or.inr (Or.inr (Or.inr (Or.inr (Or.inr (Or.inl (e 5 q))))))
theorem klk2 {x : Int32} {d a b : Int} (h : x.toInt ≠ 0 ∧ x.toInt ≠ 1) : Op.lookupswitch.offset (#[((0 : Int), a), (1, b)] : Array (Int × Int)).toList d x.toInt = d := by
  have h0 : ¬ (0 : Int) = x.toInt := fun z => h.1 z.symm
  have h1 : ¬ (1 : Int) = x.toInt := fun z => h.2 z.symm
  simp [Op.lookupswitch.offset, h.1, h.2, h0, h1]
/-! what the calls answer and do, in words of T -/
def kbit (T : kT) : Int32 := 1 <<< (T 0 0 &&& 31)
def kKd (k : Int32) : Prop := ¬ k < 0 ∧ k ≤ 2
noncomputable def kTg (T : kT) (r : Nat) (k : Int32) : kT := kif (k = 0) (kup (kup T 0 4 (T 0 4 ||| kbit T)) 6 r (T 6 r ||| kbit T)) (kif (k = 1) (kup (kup T 5 r (T 5 r ||| kbit T)) 0 5 (T 0 5 ||| kbit T)) (kup (kup T 5 r (T 5 r ||| kbit T)) 6 r (T 6 r ||| kbit T)))
noncomputable def a_tag (T : kT) (p k : Int32) : Int32 := kif (kP T p) (kif (kKd k) (kif (T 0 0 < 24) (T 0 0 + 1 - 1) (-1000004)) (-1000002)) (-1000001)
noncomputable def t_tag (T : kT) (p k : Int32) : kT := kif (kP T p ∧ kKd k ∧ T 0 0 < 24) (kup (kTg T (tn p) k) 0 0 (T 0 0 + 1)) T
noncomputable def a_everybody (T : kT) (w : Int32) : Int32 := kif (w = 0) (T 0 4) (kif (w = 1) (T 0 5) (-1000002))
noncomputable def a_told (T : kT) (p w : Int32) : Int32 := kif (kP T p) (kif (w = 0) (T 3 (tn p)) (kif (w = 1) (T 4 (tn p)) (kif (w = 2) (T 5 (tn p)) (kif (w = 3) (T 6 (tn p)) (kif (w = 4) (T 2 (tn p)) (kif (w = 5) (kOpn T p 40) (kif (w = 6) (kBoth T (T 5 (tn p)) (T 6 (tn p))) (-1000002)))))))) (-1000001)
def kLb (w : Int32) : Prop := ¬ w < 0 ∧ ¬ 1 < w
noncomputable def kLs (T : kT) (r : Nat) (w x : Int32) : Int32 := kif (w = 0) x (T 3 r)
noncomputable def kLt (T : kT) (r : Nat) (w x : Int32) : Int32 := kif (w = 0) (T 4 r) x
noncomputable def kLw (T : kT) (r : Nat) (w : Int32) : Int32 := kif (w = 0) (T 3 r) (T 4 r)
def kLok (T : kT) (p w x : Int32) : Prop := kSafe T (tn p) (kLw T (tn p) w) x ∧ kFit T p (kLs T (tn p) w x) (kLt T (tn p) w x) (kBoth T (T 5 (tn p)) (T 6 (tn p)))
noncomputable def a_label (T : kT) (p w x : Int32) : Int32 := kif (kP T p) (kif (kLb w ∧ kSet T x) (kif (kLok T p w x) (kLw T (tn p) w) (-1000003)) (-1000002)) (-1000001)
noncomputable def t_label (T : kT) (p w x : Int32) : kT := kif (kP T p ∧ (kLb w ∧ kSet T x) ∧ kLok T p w x) (kup (kup T 3 (tn p) (kLs T (tn p) w x)) 4 (tn p) (kLt T (tn p) w x)) T
noncomputable def kDp (T : kT) (r : Nat) (w x : Int32) : Int32 := kif (w = 0) (T 5 r &&& (x ^^^ (-1))) (T 5 r)
noncomputable def kDm (T : kT) (r : Nat) (w x : Int32) : Int32 := kif (w = 0) (T 6 r) (T 6 r &&& (x ^^^ (-1)))
def kDok (T : kT) (p w x : Int32) : Prop := kFit T p (T 3 (tn p)) (T 4 (tn p)) (kBoth T (kDp T (tn p) w x) (kDm T (tn p) w x))
noncomputable def a_drop (T : kT) (p w x : Int32) : Int32 := kif (kP T p) (kif (kLb w ∧ kSet T x) (kif (kDok T p w x) (kif (w = 0) (kDp T (tn p) w x) (kDm T (tn p) w x)) (-1000003)) (-1000002)) (-1000001)
noncomputable def t_drop (T : kT) (p w x : Int32) : kT := kif (kP T p ∧ (kLb w ∧ kSet T x) ∧ kDok T p w x) (kup (kup T 5 (tn p) (kDp T (tn p) w x)) 6 (tn p) (kDm T (tn p) w x)) T
def kSps (T : kT) (s t a b : Int32) : Prop := kSet T s ∧ kSet T t ∧ kSet T a ∧ kSet T b
def kSpo (T : kT) (r : Nat) (s t a b : Int32) : Prop := kSafe T r (T 3 r) s ∧ kSafe T r (T 4 r) t ∧ kOwn T r a b
noncomputable def a_spawn (T : kT) (p s t a b : Int32) : Int32 := kif (kP T p) (kif (kSps T s t a b) (kif (kSpo T (tn p) s t a b) (kif (T 0 1 < 24) (T 0 1) (-1000004)) (-1000003)) (-1000002)) (-1000001)
noncomputable def t_spawn (T : kT) (p s t a b : Int32) : kT := kif (kP T p ∧ kSps T s t a b ∧ kSpo T (tn p) s t a b ∧ T 0 1 < 24) (kup (t_X2_begin T (tn (T 0 1)) p s t a b) 0 1 (T 0 1 + 1)) T
noncomputable def a_exit (T : kT) (p : Int32) : Int32 := kif (kP T p) (kif (p = 0) (-1000003) (kOpn T p 40)) (-1000001)
noncomputable def t_exit (T : kT) (p : Int32) : kT := kif (kP T p ∧ ¬ p = 0) (kfT (kClg p) (kup T 1 (tn p) 0) 40) T
def kEok (T : kT) (r : Nat) (s t : Int32) : Prop := kWi ((s ^^^ T 3 r) ||| (t ^^^ T 4 r)) (kBoth T (T 5 r) (T 6 r))
noncomputable def a_endpoint (T : kT) (p s t : Int32) : Int32 := kif (kP T p) (kif (kSet T s ∧ kSet T t) (kif (kEok T (tn p) s t) (kif (T 0 2 < 40) (T 0 2) (-1000004)) (-1000003)) (-1000002)) (-1000001)
noncomputable def t_endpoint (T : kT) (p s t : Int32) : kT := kif (kP T p ∧ (kSet T s ∧ kSet T t) ∧ kEok T (tn p) s t ∧ T 0 2 < 40) (kup (t_X0_begin T (tn (T 0 2)) p s t) 0 2 (T 0 2 + 1)) T
noncomputable def a_close (T : kT) (p x : Int32) : Int32 := kif (kP T p ∧ kEo T x) (kif (T 11 (tn x) = p) (T 14 (tn x)) (-1000003)) (-1000001)
noncomputable def t_close (T : kT) (p x : Int32) : kT := kif ((kP T p ∧ kEo T x) ∧ T 11 (tn x) = p) (kup T 10 (tn x) 0) T
noncomputable def a_port (T : kT) (x w : Int32) : Int32 := kif (kEo T x) (kif (w = 0) (T 11 (tn x)) (kif (w = 1) (T 12 (tn x)) (kif (w = 2) (T 13 (tn x)) (kif (w = 3) (T 14 (tn x)) (-1000002))))) (-1000001)
def kSdo (T : kT) (f a b : Int32) : Prop := (¬ f < 0 ∧ ¬ 40 ≤ f) ∧ kSet T a ∧ kSet T b
def kSdd (T : kT) (p x a b : Int32) : Prop := T 11 (tn x) = p ∧ kOwn T (tn p) a b
def kSdl (T : kT) (x f : Int32) : Prop := kEo T f ∧ kRm T (tn f) ∧ kFw (T 12 (tn x)) (T 13 (tn x)) (T 12 (tn f)) (T 13 (tn f))
noncomputable def a_send (T : kT) (p x f a b : Int32) : Int32 := kif (kP T p ∧ kEo T x) (kif (kSdo T f a b) (kif (kSdd T p x a b) 1 (-1000003)) (-1000002)) (-1000001)
def kSdg (T : kT) (p x f a b : Int32) : Prop := (kP T p ∧ kEo T x) ∧ kSdo T f a b ∧ kSdd T p x a b
noncomputable def t_send (T : kT) (p x f v a b : Int32) : kT := kif (kSdg T p x f a b) (kif (kSdl T x f) (t_X0_put T (tn f) v a b) (kup T 0 6 (T 0 6 + 1))) T
noncomputable def q_send (T : kT) (q : kQ) (p x f v a b : Int32) : kQ := kif (kSdg T p x f a b ∧ kSdl T x f) (q_X0_put T q (tn f) v a b) q
noncomputable def a_receive (T : kT) (p x : Int32) : Int32 := kif (kP T p ∧ kEo T x) (kif (T 11 (tn x) = p) (kif (T 14 (tn x) = 0) 0 1) (-1000003)) (-1000001)
def kRcg (T : kT) (p x : Int32) : Prop := (kP T p ∧ kEo T x) ∧ T 11 (tn x) = p ∧ ¬ T 14 (tn x) = 0
noncomputable def t_receive (T : kT) (p x x0 x1 x2 : Int32) : kT := kif (kRcg T p x) (t_X0_moveUp (t_X2_take T (tn p) x0 x1 x2) (tn x)) T
noncomputable def q_receive (T : kT) (q : kQ) (p x : Int32) : kQ := kif (kRcg T p x) (q_X0_moveUp T q (tn x)) q
noncomputable def a_message (T : kT) (p w : Int32) : Int32 := kif (kP T p) (kif (w = 0) (T 7 (tn p)) (kif (w = 1) (T 8 (tn p)) (kif (w = 2) (T 9 (tn p)) (-1000002)))) (-1000001)
def kBd (b n : Int32) : Prop := ¬ b < 0 ∧ ¬ 200 < b ∧ ¬ n < 0 ∧ ¬ 50 < n
noncomputable def kMka (T : kT) (b h s t bl pl : Int32) : Int32 := kif (T 0 3 < 60) (kOa (kMk T b h s t bl pl) (T 0 3)) (-1000004)
noncomputable def kMkt (T : kT) (b h s t bl pl : Int32) : kT := kif (T 0 3 < 60) (kOt (kMk T b h s t bl pl)) T
def kCnl (T : kT) (c b n : Int32) : Prop := ¬ kBl T c < b ∧ 1 + n ≤ kPl T c
noncomputable def a_container (T : kT) (p c s t b n : Int32) : Int32 := kif (kP T p ∧ kCn T c) (kif (kBd b n ∧ kSet T s ∧ kSet T t) (kif (kMay T (tn p) (tn c) s t) (kif (kCnl T c b n) (kMka T 1 c s t b n) (-1000004)) (-1000003)) (-1000002)) (-1000001)
noncomputable def t_container (T : kT) (p c s t b n : Int32) : kT := kif ((kP T p ∧ kCn T c) ∧ (kBd b n ∧ kSet T s ∧ kSet T t) ∧ kMay T (tn p) (tn c) s t ∧ kCnl T c b n) (kMkt T 1 c s t b n) T
noncomputable def a_file (T : kT) (p c s t : Int32) : Int32 := kif (kP T p ∧ kCn T c) (kif (kSet T s ∧ kSet T t) (kif (kMay T (tn p) (tn c) s t) (kif (1 ≤ kPl T c) (kMka T 0 c s t 0 0) (-1000004)) (-1000003)) (-1000002)) (-1000001)
noncomputable def t_file (T : kT) (p c s t : Int32) : kT := kif ((kP T p ∧ kCn T c) ∧ (kSet T s ∧ kSet T t) ∧ kMay T (tn p) (tn c) s t ∧ 1 ≤ kPl T c) (kMkt T 0 c s t 0 0) T
def kRmd (T : kT) (p o : Int32) : Prop := kO T (T 20 (tn o)) ∧ kRd T (tn p) (tn (T 20 (tn o))) ∧ kWr T (tn p) (tn (T 20 (tn o)))
noncomputable def kRmn (T : kT) (o : Int32) : Int32 := ksum (kszf T o) 60 + 1
noncomputable def kRmT (T : kT) (o : Int32) : kT := kif (kGo T (kRmn T o)) (kfT (krtg o) (kGoT T (kRmn T o)) (60 - tn o)) T
noncomputable def a_remove (T : kT) (p o : Int32) : Int32 := kif (kP T p ∧ kO T o) (kif (kRmd T p o) (kOa (kRmT T o) 1) (-1000003)) (-1000001)
noncomputable def t_remove (T : kT) (p o : Int32) : kT := kif ((kP T p ∧ kO T o) ∧ kRmd T p o) (kOt (kRmT T o)) T
noncomputable def kWrt (T : kT) (o : Nat) (a n : Int32) : kT := kif (kHr T o (a + n)) (kOt (kWT T o a n)) T
noncomputable def kWrn (T N : kT) (o : Nat) (a n v : Int32) : kT := kif (kHr T o (a + n)) (kWN T N o a n v) N
noncomputable def a_write (T : kT) (p f i : Int32) : Int32 := kif (kP T p ∧ kFl T f) (kif (¬ i < 0 ∧ i < 32) (kif (kWr T (tn p) (tn f)) (kif (i ≤ T 25 (tn f)) (kWra T (tn f) (kb (¬ kRd T (tn p) (tn f))) i 1) (kif (kRd T (tn p) (tn f)) (-1000002) 1)) (-1000003)) (-1000002)) (-1000001)
def kWrg (T : kT) (p f i : Int32) : Prop := (kP T p ∧ kFl T f) ∧ (¬ i < 0 ∧ i < 32) ∧ kWr T (tn p) (tn f) ∧ i ≤ T 25 (tn f)
noncomputable def t_write (T : kT) (p f i : Int32) : kT := kif (kWrg T p f i) (kWrt T (tn f) i 1) T
noncomputable def n_write (T N : kT) (p f i v : Int32) : kT := kif (kWrg T p f i) (kWrn T N (tn f) i 1 v) N
noncomputable def a_append (T : kT) (p f n : Int32) : Int32 := kif (kP T p ∧ kFl T f) (kif (¬ n < 1 ∧ n ≤ 8) (kif (kWr T (tn p) (tn f)) (kWra T (tn f) (kb (¬ kRd T (tn p) (tn f))) (T 25 (tn f)) n) (-1000003)) (-1000002)) (-1000001)
def kApg (T : kT) (p f n : Int32) : Prop := (kP T p ∧ kFl T f) ∧ (¬ n < 1 ∧ n ≤ 8) ∧ kWr T (tn p) (tn f)
noncomputable def t_append (T : kT) (p f n : Int32) : kT := kif (kApg T p f n) (kWrt T (tn f) (T 25 (tn f)) n) T
noncomputable def n_append (T N : kT) (p f n v : Int32) : kT := kif (kApg T p f n) (kWrn T N (tn f) (T 25 (tn f)) n v) N
noncomputable def a_read (T N : kT) (p f i : Int32) : Int32 := kif (kP T p ∧ kFl T f) (kif (kRd T (tn p) (tn f)) (kif (¬ i < 0 ∧ ¬ T 25 (tn f) ≤ i ∧ i < 32) (N (tn f) (tn i)) (-1000002)) (-1000003)) (-1000001)
def kHid (T : kT) (p o w : Int32) : Prop := (w < 4 ∧ (¬ kO T (T 20 (tn o)) ∨ kRd T (tn p) (tn (T 20 (tn o))))) ∨ (¬ w < 4 ∧ kRd T (tn p) (tn o))
noncomputable def a_object (T : kT) (p o w : Int32) : Int32 := kif (kP T p ∧ kO T o) (kif (¬ w < 0 ∧ w ≤ 6) (kif (kHid T p o w) (kif (w = 0) (kif (T 19 (tn o) = 0) 0 1) (kif (w = 1) (T 21 (tn o)) (kif (w = 2) (T 22 (tn o)) (kif (w = 3) (T 20 (tn o)) (kif (w = 4) (T 25 (tn o)) (kif (w = 5) (kBl T o) (kPl T o))))))) (-1000003)) (-1000002)) (-1000001)
noncomputable def klist (T : kT) (c x : Int32) : Nat → Nat → Int32 → Int32
  | 0, _, _ => -1
  | n + 1, i, k => kif (kIn T (nI i) c) (kif (k = x) (nI i) (klist T c x n (i + 1) (k + 1))) (klist T c x n (i + 1) k)
noncomputable def a_list (T : kT) (p c x : Int32) : Int32 := kif (kP T p ∧ kCn T c) (kif (kRd T (tn p) (tn c)) (klist T c x (tn (T 0 3)) 0 0) (-1000003)) (-1000001)
def kCr (n : Int32) : Prop := ¬ n < -1 ∧ n ≤ 100
noncomputable def a_crash (n : Int32) : Int32 := kif (kCr n) 1 (-1000002)
noncomputable def t_crash (T : kT) (n : Int32) : kT := kif (kCr n) (kup T 0 8 n) T
noncomputable def a_count (T : kT) (w : Int32) : Int32 := kif (w = 0) (T 0 0) (kif (w = 1) (kLiv T 24) (kif (w = 2) (kOps T 40) (kif (w = 3) (kThr T 60) (kif (w = 4) (T 0 7) (kif (w = 5) (T 0 9) (kif (w = 6) (T 0 6) (-1000002)))))))
set_option maxHeartbeats 4000000 in
set_option maxRecDepth 100000 in
theorem c_X3_writeRun (l : Launch) (D : va_G) (G : Nat → ClassId) (L : Nat → Nat) (hL : kL L) (T N : kT) (q : kQ) (o : Nat) (w_o : o < 60) (x1 : Int32) (w_x1 : x1 = 0 ∨ x1 = 1) (x2 : Int32) (n : Int32) (v : Int32) (hn : ¬ n < 0) : kM l yX3_writeRun cX3_writeRun 7 (some .int) 4 90 (kPc D G L T N q [.ref (L 0), .ref (L (188 + o)), .int x1, .int x2, .int n, .int v]) (kQi D G L (kWra T o x1 x2 n) (kWrt T o x2 n) (kWrn T N o x2 n v) q) (kA L) := by
  refine kBegin (by decide) (Nat.le_of_ble_eq_true rfl) ?_
  intro zp ze zs zm zargs zbelow zmeth zc hC hr hlk hB ls hl
  obtain ⟨hP, hK, hN⟩ := hB
  have hW : kWd D G L (kA L) zs.heap T N q zs.heap [] := kWd.start hL hP
  have hl : lv_has ls 7 [(0, .ref (L 0)), (1, .ref (L (188 + o))), (2, .int x1), (3, .int x2), (4, .int n), (5, .int v)] := hl
  refine lv_aload_n hC.1 hC.2.1 dX3_writeRun_0 rfl (lv_at hl 0 rfl) ?_
  refine lv_aload_n hC.1 hC.2.1 dX3_writeRun_1 rfl (lv_at hl 1 rfl) ?_
  refine lv_iload_n hC.1 hC.2.1 dX3_writeRun_2 rfl (lv_at hl 3 rfl) ?_
  refine lv_iload hC.1 hC.2.1 dX3_writeRun_3 (lv_at hl 4 rfl) ?_
  refine lv_iadd hC.1 hC.2.1 dX3_writeRun_5 ?_
  refine keSi (rest := []) (kcV 0 hC hK hN hW (c_X3_hasRoomUpTo l D G L hL T N q o w_o (x2 + n)) (kgoodV tm_X3_265 ti_yX3_hasRoomUpTo te_yX3_hasRoomUpTo tz_X3 tc_yX3_hasRoomUpTo) kw_m rfl ⟨rfl, by decide, by decide, (show Option.map _ (parseMethodDescriptor yX3_hasRoomUpTo.desc) = some 2 from by decide +kernel)⟩ ⟨Nat.le_of_ble_eq_true rfl, Nat.le_of_ble_eq_true rfl⟩ hl.1 rfl (Nat.le_of_ble_eq_true rfl) ⟨Nat.le_refl _, Nat.le_refl _⟩ dX3_writeRun_6) ?_
  refine kif_ne (tgt := 23) hC.1 hC.2.1 dX3_writeRun_9 (by decide) (fun c_9 => ?_) (fun c_9 => ?_)
  · refine lv_aload_n hC.1 hC.2.1 dX3_writeRun_23 rfl (lv_at hl 0 rfl) ?_
    refine lv_iload hC.1 hC.2.1 dX3_writeRun_24 (lv_at hl 4 rfl) ?_
    refine lv_iconst (v := 1) hC.1 hC.2.1 dX3_writeRun_26 (by decide) ?_
    refine lv_iadd hC.1 hC.2.1 dX3_writeRun_27 ?_
    refine keQi (rest := []) (kcV 0 hC hK hN hW (c_X3_enter l D G L hL T N q (n + 1)) (kgoodV tm_X3_207 ti_yX3_enter te_yX3_enter tz_X3 tc_yX3_enter) kw_m rfl ⟨rfl, by decide, by decide, (show Option.map _ (parseMethodDescriptor yX3_enter.desc) = some 1 from by decide +kernel)⟩ ⟨Nat.le_of_ble_eq_true rfl, Nat.le_of_ble_eq_true rfl⟩ hl.1 rfl (Nat.le_of_ble_eq_true rfl) ⟨Nat.le_refl _, Nat.le_refl _⟩ dX3_writeRun_28) hW (fun H locs (hW : kWd D G L (kA L) zs.heap (kGoT T (n + 1)) N q H locs) => ?_)
    refine kif_eq (tgt := 63) hC.1 hC.2.1 dX3_writeRun_31 (by decide) (fun c_31 => ?_) (fun c_31 => ?_)
    · refine lv_aload_n hC.1 hC.2.1 dX3_writeRun_63 rfl (lv_at hl 0 rfl) ?_
      refine lv_iconst (v := 1) hC.1 hC.2.1 dX3_writeRun_64 (by decide) ?_
      refine keQi (rest := []) (kcV 0 hC hK hN hW (c_X3_outcome l D G L hL (kGoT T (n + 1)) N q 1) (kgoodV tm_X3_213 ti_yX3_outcome te_yX3_outcome tz_X3 tc_yX3_outcome) kw_m rfl ⟨rfl, by decide, by decide, (show Option.map _ (parseMethodDescriptor yX3_outcome.desc) = some 1 from by decide +kernel)⟩ ⟨Nat.le_of_ble_eq_true rfl, Nat.le_of_ble_eq_true rfl⟩ hl.1 rfl (Nat.le_of_ble_eq_true rfl) ⟨Nat.le_refl _, Nat.le_refl _⟩ dX3_writeRun_65) hW (fun H locs (hW : kWd D G L (kA L) zs.heap (kOt (kGoT T (n + 1))) N q H locs) => ?_)
      exact krI hC hr hlk hW (by simp (config := {decide := true}) only [kif_true, kif_false, kb, kup_eq, kup_f, kup_i, not_true_eq_false, not_false_eq_true, and_true, true_and, and_false, false_and, and_self, or_true, true_or, or_false, false_or, kWra, kWrt, kWrn, kWT, kWN, kGoT, c_9, c_31]) (by simp (config := {decide := true}) only [kif_true, kif_false, kb, kup_eq, kup_f, kup_i, not_true_eq_false, not_false_eq_true, and_true, true_and, and_false, false_and, and_self, or_true, true_or, or_false, false_or, kWra, kWrt, kWrn, kWT, kWN, kGoT, c_9, c_31]) (by simp (config := {decide := true}) only [kif_true, kif_false, kb, kup_eq, kup_f, kup_i, not_true_eq_false, not_false_eq_true, and_true, true_and, and_false, false_and, and_self, or_true, true_or, or_false, false_or, kWra, kWrt, kWrn, kWT, kWN, kGoT, c_9, c_31]) rfl dX3_writeRun_68
    · refine lv_iconst (v := 0) hC.1 hC.2.1 dX3_writeRun_34 (by decide) ?_
      refine lv_istore (lv' := [(6, .int 0), (0, .ref (L 0)), (1, .ref (L (188 + o))), (2, .int x1), (3, .int x2), (4, .int n), (5, .int v)]) hC.1 hC.2.1 dX3_writeRun_35 hl (by decide) rfl (fun ls hl => ?_)
      have loop_37 : ∀ (zf i : Nat), i + zf = tn n →  ∀ (H : Heap) (locs : List Loc), kWd D G L (kA L) zs.heap (kfT (kWg o x2) (kGoT T (n + 1)) i) (kfT (kWn o x2 v) N i) q H locs → ∀ ls : Array Slot, lv_has ls 7 [(6, .int (nI i)), (0, .ref (L 0)), (1, .ref (L (188 + o))), (3, .int x2), (4, .int n), (5, .int v)] → W zp l ze ({ frames := 4, cells := 0, slots := 0, locals := 90 } : Room) zs zm zargs zbelow zmeth zc H locs 0 0 (MQ zbelow (kQi D G L (kWra T o x1 x2 n) (kWrt T o x2 n) (kWrn T N o x2 n v) q) zargs zs 0 0 (kA L)) (F0 zm 37 ls []) := by
        intro zf
        induction zf with
        | zero =>
          intro i  hi  H locs hW ls hl
          have hi0 : i = tn n := by omega
          have hb2 := (tn_nat hn).2
          refine lv_iload hC.1 hC.2.1 dX3_writeRun_37 (lv_at hl 0 rfl) ?_
          refine lv_iload hC.1 hC.2.1 dX3_writeRun_39 (lv_at hl 4 rfl) ?_
          refine lv_icmp_ge (tgt := 63) hC.1 hC.2.1 dX3_writeRun_41 (by decide) (fun c_41 => ?_) (fun c_41 => ?_)
          · refine lv_aload_n hC.1 hC.2.1 dX3_writeRun_63 rfl (lv_at hl 1 rfl) ?_
            refine lv_iconst (v := 1) hC.1 hC.2.1 dX3_writeRun_64 (by decide) ?_
            refine keQi (rest := []) (kcV 0 hC hK hN hW (c_X3_outcome l D G L hL (kfT (kWg o x2) (kGoT T (n + 1)) i) (kfT (kWn o x2 v) N i) q 1) (kgoodV tm_X3_213 ti_yX3_outcome te_yX3_outcome tz_X3 tc_yX3_outcome) kw_m rfl ⟨rfl, by decide, by decide, (show Option.map _ (parseMethodDescriptor yX3_outcome.desc) = some 1 from by decide +kernel)⟩ ⟨Nat.le_of_ble_eq_true rfl, Nat.le_of_ble_eq_true rfl⟩ hl.1 rfl (Nat.le_of_ble_eq_true rfl) ⟨Nat.le_refl _, Nat.le_refl _⟩ dX3_writeRun_65) hW (fun H locs (hW : kWd D G L (kA L) zs.heap (kOt (kfT (kWg o x2) (kGoT T (n + 1)) i)) (kfT (kWn o x2 v) N i) q H locs) => ?_)
            exact krI hC hr hlk hW (by simp (config := {decide := true}) only [kif_true, kif_false, kb, kup_eq, kup_f, kup_i, not_true_eq_false, not_false_eq_true, and_true, true_and, and_false, false_and, and_self, or_true, true_or, or_false, false_or, kWra, kWrt, kWrn, kWT, kWN, kGoT, c_9, c_31, hi0, c_41]) (by simp (config := {decide := true}) only [kif_true, kif_false, kb, kup_eq, kup_f, kup_i, not_true_eq_false, not_false_eq_true, and_true, true_and, and_false, false_and, and_self, or_true, true_or, or_false, false_or, kWra, kWrt, kWrn, kWT, kWN, kGoT, c_9, c_31, hi0, c_41]) (by simp (config := {decide := true}) only [kif_true, kif_false, kb, kup_eq, kup_f, kup_i, not_true_eq_false, not_false_eq_true, and_true, true_and, and_false, false_and, and_self, or_true, true_or, or_false, false_or, kWra, kWrt, kWrn, kWT, kWN, kGoT, c_9, c_31, hi0, c_41]) rfl dX3_writeRun_68
          · exact absurd (by rw [(tn_nat hn).1]; exact nI_le (by omega) (by omega)) c_41
        | succ zf ih =>
          intro i  hi  H locs hW ls hl
          have hlt : i < tn n := by omega
          have hb2 := (tn_nat hn).2
          refine lv_iload hC.1 hC.2.1 dX3_writeRun_37 (lv_at hl 0 rfl) ?_
          refine lv_iload hC.1 hC.2.1 dX3_writeRun_39 (lv_at hl 4 rfl) ?_
          refine lv_icmp_ge (tgt := 63) hC.1 hC.2.1 dX3_writeRun_41 (by decide) (fun c_41 => ?_) (fun c_41 => ?_)
          · exact absurd (by rw [← (tn_nat hn).1]; exact c_41) (nI_ge (a := i) (b := tn n) (by omega) (by omega))
          · refine lv_aload_n hC.1 hC.2.1 dX3_writeRun_44 rfl (lv_at hl 2 rfl) ?_
            refine lv_iload_n hC.1 hC.2.1 dX3_writeRun_45 rfl (lv_at hl 3 rfl) ?_
            refine lv_iload hC.1 hC.2.1 dX3_writeRun_46 (lv_at hl 0 rfl) ?_
            refine lv_iadd hC.1 hC.2.1 dX3_writeRun_48 ?_
            refine lv_iload hC.1 hC.2.1 dX3_writeRun_49 (lv_at hl 5 rfl) ?_
            refine lv_iload hC.1 hC.2.1 dX3_writeRun_51 (lv_at hl 0 rfl) ?_
            refine lv_iadd hC.1 hC.2.1 dX3_writeRun_53 ?_
            refine keQv (rest := []) (kcVN (188 + o) hC hK hN hW (c_X1_put l D G L hL (kfT (kWg o x2) (kGoT T (n + 1)) i) (kfT (kWn o x2 v) N i) q o w_o (x2 + (nI i)) (v + (nI i))) tm_X3_269 ti_yX1_put te_yX1_put tz_X1 tc_yX1_put (kw_o w_o) rfl ⟨by decide, by decide, (show Option.map _ (parseMethodDescriptor yX1_put.desc) = some 2 from by decide +kernel)⟩ ⟨Nat.le_of_ble_eq_true rfl, Nat.le_of_ble_eq_true rfl⟩ hl.1 rfl (Nat.le_of_ble_eq_true rfl) ⟨Nat.le_refl _, Nat.le_refl _⟩ dX3_writeRun_54) hW (fun H locs (hW : kWd D G L (kA L) zs.heap (kif (k32 (x2 + (nI i))) (kup (kfT (kWg o x2) (kGoT T (n + 1)) i) 25 o (kmx ((kfT (kWg o x2) (kGoT T (n + 1)) i) 25 o) ((x2 + (nI i)) + 1))) (kfT (kWg o x2) (kGoT T (n + 1)) i)) (kif (k32 (x2 + (nI i))) (kuN (kfT (kWn o x2 v) N i) o (tn (x2 + (nI i))) (v + (nI i))) (kfT (kWn o x2 v) N i)) q H locs) => ?_)
            refine lv_iinc (v := nI (i + 1)) (lv' := [(6, .int (nI (i + 1))), (0, .ref (L 0)), (1, .ref (L (188 + o))), (3, .int x2), (4, .int n), (5, .int v)]) hC.1 hC.2.1 dX3_writeRun_57 hl (k := 0) rfl (nI_1 i) (by decide) rfl (fun ls hl => ?_)
            refine lv_goto (tgt := 37) hC.1 hC.2.1 dX3_writeRun_60 (by decide) ?_
            have e_T : kif (k32 (x2 + (nI i))) (kup (kfT (kWg o x2) (kGoT T (n + 1)) i) 25 o (kmx ((kfT (kWg o x2) (kGoT T (n + 1)) i) 25 o) ((x2 + (nI i)) + 1))) (kfT (kWg o x2) (kGoT T (n + 1)) i) = kfT (kWg o x2) (kGoT T (n + 1)) (i + 1) := by simp only [kif_true, kif_false, kb, not_true_eq_false, not_false_eq_true, and_true, true_and, and_false, false_and, and_self, or_true, true_or, or_false, false_or, Int32.add_zero, Int32.sub_zero, kfT, kWg, kWn, c_9, c_31, c_41]
            rw [e_T] at hW
            have e_N : kif (k32 (x2 + (nI i))) (kuN (kfT (kWn o x2 v) N i) o (tn (x2 + (nI i))) (v + (nI i))) (kfT (kWn o x2 v) N i) = kfT (kWn o x2 v) N (i + 1) := by simp only [kif_true, kif_false, kb, not_true_eq_false, not_false_eq_true, and_true, true_and, and_false, false_and, and_self, or_true, true_or, or_false, false_or, Int32.add_zero, Int32.sub_zero, kfT, kWg, kWn, c_9, c_31, c_41]
            rw [e_N] at hW
            exact ih (i + 1) (by omega) _ _ hW ls (lv_sub hl [0, 1, 2, 3, 4, 5] rfl)
      exact loop_37 (tn n) 0 (by omega) _ _ hW ls (by rw [nI_0]; exact lv_sub hl [0, 1, 2, 4, 5, 6] rfl)
  · refine lv_iload_n hC.1 hC.2.1 dX3_writeRun_12 rfl (lv_at hl 2 rfl) ?_
    refine lv_if_eq (tgt := 20) hC.1 hC.2.1 dX3_writeRun_13 (by decide) (fun c_13 => ?_) (fun c_13 => ?_)
    · refine lv_ldc hC.1 hC.2.1 hC.2.2.2.1 (hC.2.2.2.2 _ (kt_in tk_X3_56 rfl)) dX3_writeRun_20 ?_
      exact krI hC hr hlk hW (by simp (config := {decide := true}) only [kif_true, kif_false, kb, kup_eq, kup_f, kup_i, not_true_eq_false, not_false_eq_true, and_true, true_and, and_false, false_and, and_self, or_true, true_or, or_false, false_or, kWra, kWrt, kWrn, kWT, kWN, kGoT, c_9, c_13]) (by simp (config := {decide := true}) only [kif_true, kif_false, kb, kup_eq, kup_f, kup_i, not_true_eq_false, not_false_eq_true, and_true, true_and, and_false, false_and, and_self, or_true, true_or, or_false, false_or, kWra, kWrt, kWrn, kWT, kWN, kGoT, c_9, c_13]) (by simp (config := {decide := true}) only [kif_true, kif_false, kb, kup_eq, kup_f, kup_i, not_true_eq_false, not_false_eq_true, and_true, true_and, and_false, false_and, and_self, or_true, true_or, or_false, false_or, kWra, kWrt, kWrn, kWT, kWN, kGoT, c_9, c_13]) rfl dX3_writeRun_22
    · refine lv_iconst (v := 1) hC.1 hC.2.1 dX3_writeRun_16 (by decide) ?_
      refine lv_goto (tgt := 22) hC.1 hC.2.1 dX3_writeRun_17 (by decide) ?_
      exact krI hC hr hlk hW (by simp (config := {decide := true}) only [kif_true, kif_false, kb, kup_eq, kup_f, kup_i, not_true_eq_false, not_false_eq_true, and_true, true_and, and_false, false_and, and_self, or_true, true_or, or_false, false_or, kWra, kWrt, kWrn, kWT, kWN, kGoT, c_9, c_13]) (by simp (config := {decide := true}) only [kif_true, kif_false, kb, kup_eq, kup_f, kup_i, not_true_eq_false, not_false_eq_true, and_true, true_and, and_false, false_and, and_self, or_true, true_or, or_false, false_or, kWra, kWrt, kWrn, kWT, kWN, kGoT, c_9, c_13]) (by simp (config := {decide := true}) only [kif_true, kif_false, kb, kup_eq, kup_f, kup_i, not_true_eq_false, not_false_eq_true, and_true, true_and, and_false, false_and, and_self, or_true, true_or, or_false, false_or, kWra, kWrt, kWrn, kWT, kWN, kGoT, c_9, c_13]) rfl dX3_writeRun_22
set_option maxHeartbeats 4000000 in
set_option maxRecDepth 100000 in
theorem c_X3_tag (l : Launch) (D : va_G) (G : Nat → ClassId) (L : Nat → Nat) (hL : kL L) (T N : kT) (q : kQ) (p : Int32) (k : Int32) : kM l yX3_tag cX3_tag 5 (some .int) 1 21 (kPc D G L T N q [.ref (L 0), .int p, .int k]) (kQi D G L (a_tag T p k) (t_tag T p k) N q) (kA L) := by
  refine kBegin (by decide) (Nat.le_of_ble_eq_true rfl) ?_
  intro zp ze zs zm zargs zbelow zmeth zc hC hr hlk hB ls hl
  obtain ⟨hP, hK, hN⟩ := hB
  have hW : kWd D G L (kA L) zs.heap T N q zs.heap [] := kWd.start hL hP
  have hl : lv_has ls 5 [(0, .ref (L 0)), (1, .int p), (2, .int k)] := hl
  refine lv_aload_n hC.1 hC.2.1 dX3_tag_0 rfl (lv_at hl 0 rfl) ?_
  refine lv_iload_n hC.1 hC.2.1 dX3_tag_1 rfl (lv_at hl 1 rfl) ?_
  refine keSq (rest := []) (kcV 0 hC hK hN hW (c_X3_processAt l D G L hL T N q p) (kgoodV tm_X3_47 ti_yX3_processAt te_yX3_processAt tz_X3 tc_yX3_processAt) kw_m rfl ⟨rfl, by decide, by decide, (show Option.map _ (parseMethodDescriptor yX3_processAt.desc) = some 1 from by decide +kernel)⟩ ⟨Nat.le_of_ble_eq_true rfl, Nat.le_of_ble_eq_true rfl⟩ hl.1 rfl (Nat.le_of_ble_eq_true rfl) ⟨Nat.le_refl _, Nat.le_refl _⟩ dX3_tag_2) ?_
  refine kopt (P := kP T p) (fun c_2 => ?_) (fun c_2 => ?_)
  · refine lv_astore_n (lv' := [(3, .ref (L (4 + (tn p)))), (0, .ref (L 0)), (1, .int p), (2, .int k)]) hC.1 hC.2.1 dX3_tag_5 rfl hl (by decide) rfl (fun ls hl => ?_)
    refine lv_aload_n hC.1 hC.2.1 dX3_tag_6 rfl (lv_at hl 0 rfl) ?_
    refine lv_ifnonnull (tgt := 13) hC.1 hC.2.1 dX3_tag_7 (by decide) ?_
    refine lv_iload_n hC.1 hC.2.1 dX3_tag_13 rfl (lv_at hl 3 rfl) ?_
    refine lv_if_lt (tgt := 22) hC.1 hC.2.1 dX3_tag_14 (by decide) (fun c_14 => ?_) (fun c_14 => ?_)
    · refine lv_ldc hC.1 hC.2.1 hC.2.2.2.1 (hC.2.2.2.2 _ (kt_in tk_X3_52 rfl)) dX3_tag_22 ?_
      exact krI hC hr hlk hW (by simp (config := {decide := true}) only [kif_true, kif_false, kb, kup_eq, kup_f, kup_i, not_true_eq_false, not_false_eq_true, and_true, true_and, and_false, false_and, and_self, or_true, true_or, or_false, false_or, a_tag, t_tag, kTg, kKd, kbit, c_2, c_14]) (by simp (config := {decide := true}) only [kif_true, kif_false, kb, kup_eq, kup_f, kup_i, not_true_eq_false, not_false_eq_true, and_true, true_and, and_false, false_and, and_self, or_true, true_or, or_false, false_or, a_tag, t_tag, kTg, kKd, kbit, c_2, c_14]) rfl rfl dX3_tag_24
    · refine lv_iload_n hC.1 hC.2.1 dX3_tag_17 rfl (lv_at hl 3 rfl) ?_
      refine lv_iconst (v := 2) hC.1 hC.2.1 dX3_tag_18 (by decide) ?_
      refine lv_icmp_le (tgt := 25) hC.1 hC.2.1 dX3_tag_19 (by decide) (fun c_19 => ?_) (fun c_19 => ?_)
      · refine lv_aload_n hC.1 hC.2.1 dX3_tag_25 rfl (lv_at hl 1 rfl) ?_
        refine kg3 hC hK hW 3 (v := .int (T 0 0)) rfl (by decide) tf_X3_53 dX3_tag_26 ?_
        refine lv_bipush (v := 24) hC.1 hC.2.1 dX3_tag_29 (by decide) ?_
        refine lv_icmp_lt (tgt := 37) hC.1 hC.2.1 dX3_tag_31 (by decide) (fun c_31 => ?_) (fun c_31 => ?_)
        · refine lv_iconst (v := 1) hC.1 hC.2.1 dX3_tag_37 (by decide) ?_
          refine lv_aload_n hC.1 hC.2.1 dX3_tag_38 rfl (lv_at hl 1 rfl) ?_
          refine kg3 hC hK hW 3 (v := .int (T 0 0)) rfl (by decide) tf_X3_53 dX3_tag_39 ?_
          refine lv_ishl hC.1 hC.2.1 dX3_tag_42 ?_
          refine lv_istore (lv' := [(4, .int (1 <<< ((T 0 0) &&& 31))), (3, .ref (L (4 + (tn p)))), (0, .ref (L 0)), (1, .int p), (2, .int k)]) hC.1 hC.2.1 dX3_tag_43 hl (by decide) rfl (fun ls hl => ?_)
          refine lv_iload_n hC.1 hC.2.1 dX3_tag_45 rfl (lv_at hl 4 rfl) ?_
          refine lv_if_ne (tgt := 63) hC.1 hC.2.1 dX3_tag_46 (by decide) (fun c_46 => ?_) (fun c_46 => ?_)
          · refine lv_aload_n hC.1 hC.2.1 dX3_tag_63 rfl (lv_at hl 1 rfl) ?_
            refine lv_dup hC.1 hC.2.1 dX3_tag_64 rfl ?_
            refine kg2N hC hK hN hW (kP.lt c_2) 4 (v := .int (T 5 (tn p))) rfl (by decide) tf_X3_60 dX3_tag_65 ?_
            refine lv_iload hC.1 hC.2.1 dX3_tag_68 (lv_at hl 0 rfl) ?_
            refine lv_ior hC.1 hC.2.1 dX3_tag_70 ?_
            refine kp2N hC hK hN hW (kP.lt c_2) 4 (by decide) .int tf_X3_60 (by decide +kernel) rfl rfl dX3_tag_71 (fun H locs (hW : kWd D G L (kA L) zs.heap (kup T 5 (tn p) ((T 5 (tn p)) ||| (1 <<< ((T 0 0) &&& 31)))) N q H locs) => ?_)
            refine lv_iload_n hC.1 hC.2.1 dX3_tag_74 rfl (lv_at hl 4 rfl) ?_
            refine lv_iconst (v := 1) hC.1 hC.2.1 dX3_tag_75 (by decide) ?_
            refine lv_icmp_ne (tgt := 93) hC.1 hC.2.1 dX3_tag_76 (by decide) (fun c_76 => ?_) (fun c_76 => ?_)
            · refine lv_aload_n hC.1 hC.2.1 dX3_tag_93 rfl (lv_at hl 1 rfl) ?_
              refine lv_dup hC.1 hC.2.1 dX3_tag_94 rfl ?_
              refine kg2N hC hK hN hW (kP.lt c_2) 5 (v := .int ((kup T 5 (tn p) ((T 5 (tn p)) ||| (1 <<< ((T 0 0) &&& 31)))) 6 (tn p))) rfl (by decide) tf_X3_66 dX3_tag_95 ?_
              refine lv_iload hC.1 hC.2.1 dX3_tag_98 (lv_at hl 0 rfl) ?_
              refine lv_ior hC.1 hC.2.1 dX3_tag_100 ?_
              refine kp2N hC hK hN hW (kP.lt c_2) 5 (by decide) .int tf_X3_66 (by decide +kernel) rfl rfl dX3_tag_101 (fun H locs (hW : kWd D G L (kA L) zs.heap (kup (kup T 5 (tn p) ((T 5 (tn p)) ||| (1 <<< ((T 0 0) &&& 31)))) 6 (tn p) (((kup T 5 (tn p) ((T 5 (tn p)) ||| (1 <<< ((T 0 0) &&& 31)))) 6 (tn p)) ||| (1 <<< ((T 0 0) &&& 31)))) N q H locs) => ?_)
              refine lv_aload_n hC.1 hC.2.1 dX3_tag_104 rfl (lv_at hl 2 rfl) ?_
              refine lv_dup hC.1 hC.2.1 dX3_tag_105 rfl ?_
              refine kg3 hC hK hW 3 (v := .int ((kup (kup T 5 (tn p) ((T 5 (tn p)) ||| (1 <<< ((T 0 0) &&& 31)))) 6 (tn p) (((kup T 5 (tn p) ((T 5 (tn p)) ||| (1 <<< ((T 0 0) &&& 31)))) 6 (tn p)) ||| (1 <<< ((T 0 0) &&& 31)))) 0 0)) rfl (by decide) tf_X3_53 dX3_tag_106 ?_
              refine lv_iconst (v := 1) hC.1 hC.2.1 dX3_tag_109 (by decide) ?_
              refine lv_iadd hC.1 hC.2.1 dX3_tag_110 ?_
              refine kp3 hC hK hW 3 (by decide) (by decide) tf_X3_53 dX3_tag_111 (fun H locs (hW : kWd D G L (kA L) zs.heap (kup (kup (kup T 5 (tn p) ((T 5 (tn p)) ||| (1 <<< ((T 0 0) &&& 31)))) 6 (tn p) (((kup T 5 (tn p) ((T 5 (tn p)) ||| (1 <<< ((T 0 0) &&& 31)))) 6 (tn p)) ||| (1 <<< ((T 0 0) &&& 31)))) 0 0 (((kup (kup T 5 (tn p) ((T 5 (tn p)) ||| (1 <<< ((T 0 0) &&& 31)))) 6 (tn p) (((kup T 5 (tn p) ((T 5 (tn p)) ||| (1 <<< ((T 0 0) &&& 31)))) 6 (tn p)) ||| (1 <<< ((T 0 0) &&& 31)))) 0 0) + 1)) N q H locs) => ?_)
              refine lv_aload_n hC.1 hC.2.1 dX3_tag_114 rfl (lv_at hl 2 rfl) ?_
              refine kg3 hC hK hW 3 (v := .int ((kup (kup (kup T 5 (tn p) ((T 5 (tn p)) ||| (1 <<< ((T 0 0) &&& 31)))) 6 (tn p) (((kup T 5 (tn p) ((T 5 (tn p)) ||| (1 <<< ((T 0 0) &&& 31)))) 6 (tn p)) ||| (1 <<< ((T 0 0) &&& 31)))) 0 0 (((kup (kup T 5 (tn p) ((T 5 (tn p)) ||| (1 <<< ((T 0 0) &&& 31)))) 6 (tn p) (((kup T 5 (tn p) ((T 5 (tn p)) ||| (1 <<< ((T 0 0) &&& 31)))) 6 (tn p)) ||| (1 <<< ((T 0 0) &&& 31)))) 0 0) + 1)) 0 0)) rfl (by decide) tf_X3_53 dX3_tag_115 ?_
              refine lv_iconst (v := 1) hC.1 hC.2.1 dX3_tag_118 (by decide) ?_
              refine lv_isub hC.1 hC.2.1 dX3_tag_119 ?_
              exact krI hC hr hlk hW (by simp (config := {decide := true}) only [kif_true, kif_false, kb, kup_eq, kup_f, kup_i, not_true_eq_false, not_false_eq_true, and_true, true_and, and_false, false_and, and_self, or_true, true_or, or_false, false_or, a_tag, t_tag, kTg, kKd, kbit, c_2, c_14, c_19, c_31, c_46, c_76]) (by simp (config := {decide := true}) only [kif_true, kif_false, kb, kup_eq, kup_f, kup_i, not_true_eq_false, not_false_eq_true, and_true, true_and, and_false, false_and, and_self, or_true, true_or, or_false, false_or, a_tag, t_tag, kTg, kKd, kbit, c_2, c_14, c_19, c_31, c_46, c_76]) rfl rfl dX3_tag_120
            · refine lv_aload_n hC.1 hC.2.1 dX3_tag_79 rfl (lv_at hl 2 rfl) ?_
              refine lv_dup hC.1 hC.2.1 dX3_tag_80 rfl ?_
              refine kg3 hC hK hW 8 (v := .int ((kup T 5 (tn p) ((T 5 (tn p)) ||| (1 <<< ((T 0 0) &&& 31)))) 0 5)) rfl (by decide) tf_X3_63 dX3_tag_81 ?_
              refine lv_iload hC.1 hC.2.1 dX3_tag_84 (lv_at hl 0 rfl) ?_
              refine lv_ior hC.1 hC.2.1 dX3_tag_86 ?_
              refine kp3 hC hK hW 8 (by decide) (by decide) tf_X3_63 dX3_tag_87 (fun H locs (hW : kWd D G L (kA L) zs.heap (kup (kup T 5 (tn p) ((T 5 (tn p)) ||| (1 <<< ((T 0 0) &&& 31)))) 0 5 (((kup T 5 (tn p) ((T 5 (tn p)) ||| (1 <<< ((T 0 0) &&& 31)))) 0 5) ||| (1 <<< ((T 0 0) &&& 31)))) N q H locs) => ?_)
              refine lv_goto (tgt := 104) hC.1 hC.2.1 dX3_tag_90 (by decide) ?_
              refine lv_aload_n hC.1 hC.2.1 dX3_tag_104 rfl (lv_at hl 2 rfl) ?_
              refine lv_dup hC.1 hC.2.1 dX3_tag_105 rfl ?_
              refine kg3 hC hK hW 3 (v := .int ((kup (kup T 5 (tn p) ((T 5 (tn p)) ||| (1 <<< ((T 0 0) &&& 31)))) 0 5 (((kup T 5 (tn p) ((T 5 (tn p)) ||| (1 <<< ((T 0 0) &&& 31)))) 0 5) ||| (1 <<< ((T 0 0) &&& 31)))) 0 0)) rfl (by decide) tf_X3_53 dX3_tag_106 ?_
              refine lv_iconst (v := 1) hC.1 hC.2.1 dX3_tag_109 (by decide) ?_
              refine lv_iadd hC.1 hC.2.1 dX3_tag_110 ?_
              refine kp3 hC hK hW 3 (by decide) (by decide) tf_X3_53 dX3_tag_111 (fun H locs (hW : kWd D G L (kA L) zs.heap (kup (kup (kup T 5 (tn p) ((T 5 (tn p)) ||| (1 <<< ((T 0 0) &&& 31)))) 0 5 (((kup T 5 (tn p) ((T 5 (tn p)) ||| (1 <<< ((T 0 0) &&& 31)))) 0 5) ||| (1 <<< ((T 0 0) &&& 31)))) 0 0 (((kup (kup T 5 (tn p) ((T 5 (tn p)) ||| (1 <<< ((T 0 0) &&& 31)))) 0 5 (((kup T 5 (tn p) ((T 5 (tn p)) ||| (1 <<< ((T 0 0) &&& 31)))) 0 5) ||| (1 <<< ((T 0 0) &&& 31)))) 0 0) + 1)) N q H locs) => ?_)
              refine lv_aload_n hC.1 hC.2.1 dX3_tag_114 rfl (lv_at hl 2 rfl) ?_
              refine kg3 hC hK hW 3 (v := .int ((kup (kup (kup T 5 (tn p) ((T 5 (tn p)) ||| (1 <<< ((T 0 0) &&& 31)))) 0 5 (((kup T 5 (tn p) ((T 5 (tn p)) ||| (1 <<< ((T 0 0) &&& 31)))) 0 5) ||| (1 <<< ((T 0 0) &&& 31)))) 0 0 (((kup (kup T 5 (tn p) ((T 5 (tn p)) ||| (1 <<< ((T 0 0) &&& 31)))) 0 5 (((kup T 5 (tn p) ((T 5 (tn p)) ||| (1 <<< ((T 0 0) &&& 31)))) 0 5) ||| (1 <<< ((T 0 0) &&& 31)))) 0 0) + 1)) 0 0)) rfl (by decide) tf_X3_53 dX3_tag_115 ?_
              refine lv_iconst (v := 1) hC.1 hC.2.1 dX3_tag_118 (by decide) ?_
              refine lv_isub hC.1 hC.2.1 dX3_tag_119 ?_
              exact krI hC hr hlk hW (by simp (config := {decide := true}) only [kif_true, kif_false, kb, kup_eq, kup_f, kup_i, not_true_eq_false, not_false_eq_true, and_true, true_and, and_false, false_and, and_self, or_true, true_or, or_false, false_or, a_tag, t_tag, kTg, kKd, kbit, c_2, c_14, c_19, c_31, c_46, c_76]) (by simp (config := {decide := true}) only [kif_true, kif_false, kb, kup_eq, kup_f, kup_i, not_true_eq_false, not_false_eq_true, and_true, true_and, and_false, false_and, and_self, or_true, true_or, or_false, false_or, a_tag, t_tag, kTg, kKd, kbit, c_2, c_14, c_19, c_31, c_46, c_76]) rfl rfl dX3_tag_120
          · refine lv_aload_n hC.1 hC.2.1 dX3_tag_49 rfl (lv_at hl 2 rfl) ?_
            refine lv_dup hC.1 hC.2.1 dX3_tag_50 rfl ?_
            refine kg3 hC hK hW 7 (v := .int (T 0 4)) rfl (by decide) tf_X3_57 dX3_tag_51 ?_
            refine lv_iload hC.1 hC.2.1 dX3_tag_54 (lv_at hl 0 rfl) ?_
            refine lv_ior hC.1 hC.2.1 dX3_tag_56 ?_
            refine kp3 hC hK hW 7 (by decide) (by decide) tf_X3_57 dX3_tag_57 (fun H locs (hW : kWd D G L (kA L) zs.heap (kup T 0 4 ((T 0 4) ||| (1 <<< ((T 0 0) &&& 31)))) N q H locs) => ?_)
            refine lv_goto (tgt := 74) hC.1 hC.2.1 dX3_tag_60 (by decide) ?_
            refine lv_iload_n hC.1 hC.2.1 dX3_tag_74 rfl (lv_at hl 4 rfl) ?_
            refine lv_iconst (v := 1) hC.1 hC.2.1 dX3_tag_75 (by decide) ?_
            refine lv_icmp_ne (tgt := 93) hC.1 hC.2.1 dX3_tag_76 (by decide) (fun c_76 => ?_) (fun c_76 => ?_)
            · refine lv_aload_n hC.1 hC.2.1 dX3_tag_93 rfl (lv_at hl 1 rfl) ?_
              refine lv_dup hC.1 hC.2.1 dX3_tag_94 rfl ?_
              refine kg2N hC hK hN hW (kP.lt c_2) 5 (v := .int ((kup T 0 4 ((T 0 4) ||| (1 <<< ((T 0 0) &&& 31)))) 6 (tn p))) rfl (by decide) tf_X3_66 dX3_tag_95 ?_
              refine lv_iload hC.1 hC.2.1 dX3_tag_98 (lv_at hl 0 rfl) ?_
              refine lv_ior hC.1 hC.2.1 dX3_tag_100 ?_
              refine kp2N hC hK hN hW (kP.lt c_2) 5 (by decide) .int tf_X3_66 (by decide +kernel) rfl rfl dX3_tag_101 (fun H locs (hW : kWd D G L (kA L) zs.heap (kup (kup T 0 4 ((T 0 4) ||| (1 <<< ((T 0 0) &&& 31)))) 6 (tn p) (((kup T 0 4 ((T 0 4) ||| (1 <<< ((T 0 0) &&& 31)))) 6 (tn p)) ||| (1 <<< ((T 0 0) &&& 31)))) N q H locs) => ?_)
              refine lv_aload_n hC.1 hC.2.1 dX3_tag_104 rfl (lv_at hl 2 rfl) ?_
              refine lv_dup hC.1 hC.2.1 dX3_tag_105 rfl ?_
              refine kg3 hC hK hW 3 (v := .int ((kup (kup T 0 4 ((T 0 4) ||| (1 <<< ((T 0 0) &&& 31)))) 6 (tn p) (((kup T 0 4 ((T 0 4) ||| (1 <<< ((T 0 0) &&& 31)))) 6 (tn p)) ||| (1 <<< ((T 0 0) &&& 31)))) 0 0)) rfl (by decide) tf_X3_53 dX3_tag_106 ?_
              refine lv_iconst (v := 1) hC.1 hC.2.1 dX3_tag_109 (by decide) ?_
              refine lv_iadd hC.1 hC.2.1 dX3_tag_110 ?_
              refine kp3 hC hK hW 3 (by decide) (by decide) tf_X3_53 dX3_tag_111 (fun H locs (hW : kWd D G L (kA L) zs.heap (kup (kup (kup T 0 4 ((T 0 4) ||| (1 <<< ((T 0 0) &&& 31)))) 6 (tn p) (((kup T 0 4 ((T 0 4) ||| (1 <<< ((T 0 0) &&& 31)))) 6 (tn p)) ||| (1 <<< ((T 0 0) &&& 31)))) 0 0 (((kup (kup T 0 4 ((T 0 4) ||| (1 <<< ((T 0 0) &&& 31)))) 6 (tn p) (((kup T 0 4 ((T 0 4) ||| (1 <<< ((T 0 0) &&& 31)))) 6 (tn p)) ||| (1 <<< ((T 0 0) &&& 31)))) 0 0) + 1)) N q H locs) => ?_)
              refine lv_aload_n hC.1 hC.2.1 dX3_tag_114 rfl (lv_at hl 2 rfl) ?_
              refine kg3 hC hK hW 3 (v := .int ((kup (kup (kup T 0 4 ((T 0 4) ||| (1 <<< ((T 0 0) &&& 31)))) 6 (tn p) (((kup T 0 4 ((T 0 4) ||| (1 <<< ((T 0 0) &&& 31)))) 6 (tn p)) ||| (1 <<< ((T 0 0) &&& 31)))) 0 0 (((kup (kup T 0 4 ((T 0 4) ||| (1 <<< ((T 0 0) &&& 31)))) 6 (tn p) (((kup T 0 4 ((T 0 4) ||| (1 <<< ((T 0 0) &&& 31)))) 6 (tn p)) ||| (1 <<< ((T 0 0) &&& 31)))) 0 0) + 1)) 0 0)) rfl (by decide) tf_X3_53 dX3_tag_115 ?_
              refine lv_iconst (v := 1) hC.1 hC.2.1 dX3_tag_118 (by decide) ?_
              refine lv_isub hC.1 hC.2.1 dX3_tag_119 ?_
              exact krI hC hr hlk hW (by simp (config := {decide := true}) only [kif_true, kif_false, kb, kup_eq, kup_f, kup_i, not_true_eq_false, not_false_eq_true, and_true, true_and, and_false, false_and, and_self, or_true, true_or, or_false, false_or, a_tag, t_tag, kTg, kKd, kbit, c_2, c_14, c_19, c_31, c_46, c_76]) (by simp (config := {decide := true}) only [kif_true, kif_false, kb, kup_eq, kup_f, kup_i, not_true_eq_false, not_false_eq_true, and_true, true_and, and_false, false_and, and_self, or_true, true_or, or_false, false_or, a_tag, t_tag, kTg, kKd, kbit, c_2, c_14, c_19, c_31, c_46, c_76]) rfl rfl dX3_tag_120
            · exact absurd (c_46.symm.trans c_76) (by decide)
        · refine lv_ldc hC.1 hC.2.1 hC.2.2.2.1 (hC.2.2.2.2 _ (kt_in tk_X3_56 rfl)) dX3_tag_34 ?_
          exact krI hC hr hlk hW (by simp (config := {decide := true}) only [kif_true, kif_false, kb, kup_eq, kup_f, kup_i, not_true_eq_false, not_false_eq_true, and_true, true_and, and_false, false_and, and_self, or_true, true_or, or_false, false_or, a_tag, t_tag, kTg, kKd, kbit, c_2, c_14, c_19, c_31]) (by simp (config := {decide := true}) only [kif_true, kif_false, kb, kup_eq, kup_f, kup_i, not_true_eq_false, not_false_eq_true, and_true, true_and, and_false, false_and, and_self, or_true, true_or, or_false, false_or, a_tag, t_tag, kTg, kKd, kbit, c_2, c_14, c_19, c_31]) rfl rfl dX3_tag_36
      · refine lv_ldc hC.1 hC.2.1 hC.2.2.2.1 (hC.2.2.2.2 _ (kt_in tk_X3_52 rfl)) dX3_tag_22 ?_
        exact krI hC hr hlk hW (by simp (config := {decide := true}) only [kif_true, kif_false, kb, kup_eq, kup_f, kup_i, not_true_eq_false, not_false_eq_true, and_true, true_and, and_false, false_and, and_self, or_true, true_or, or_false, false_or, a_tag, t_tag, kTg, kKd, kbit, c_2, c_14, c_19]) (by simp (config := {decide := true}) only [kif_true, kif_false, kb, kup_eq, kup_f, kup_i, not_true_eq_false, not_false_eq_true, and_true, true_and, and_false, false_and, and_self, or_true, true_or, or_false, false_or, a_tag, t_tag, kTg, kKd, kbit, c_2, c_14, c_19]) rfl rfl dX3_tag_24
  · refine lv_astore_nN (lv' := [(3, .null), (0, .ref (L 0)), (1, .int p), (2, .int k)]) hC.1 hC.2.1 dX3_tag_5 rfl hl (by decide) rfl (fun ls hl => ?_)
    refine lv_aload_nN hC.1 hC.2.1 dX3_tag_6 rfl (lv_at hl 0 rfl) ?_
    refine lv_ifnonnullN hC.1 hC.2.1 dX3_tag_7 ?_
    refine lv_ldc hC.1 hC.2.1 hC.2.2.2.1 (hC.2.2.2.2 _ (kt_in tk_X3_51 rfl)) dX3_tag_10 ?_
    exact krI hC hr hlk hW (by simp (config := {decide := true}) only [kif_true, kif_false, kb, kup_eq, kup_f, kup_i, not_true_eq_false, not_false_eq_true, and_true, true_and, and_false, false_and, and_self, or_true, true_or, or_false, false_or, a_tag, t_tag, kTg, kKd, kbit, c_2]) (by simp (config := {decide := true}) only [kif_true, kif_false, kb, kup_eq, kup_f, kup_i, not_true_eq_false, not_false_eq_true, and_true, true_and, and_false, false_and, and_self, or_true, true_or, or_false, false_or, a_tag, t_tag, kTg, kKd, kbit, c_2]) rfl rfl dX3_tag_12
set_option maxHeartbeats 4000000 in
set_option maxRecDepth 100000 in
theorem c_X3_everybody (l : Launch) (D : va_G) (G : Nat → ClassId) (L : Nat → Nat) (hL : kL L) (T N : kT) (q : kQ) (w : Int32) : kM l yX3_everybody cX3_everybody 2 (some .int) 0 0 (kPc D G L T N q [.ref (L 0), .int w]) (kSi (a_everybody T w)) (fun _ => False) := by
  refine kBegin (by decide) (Nat.le_of_ble_eq_true rfl) ?_
  intro zp ze zs zm zargs zbelow zmeth zc hC hr hlk hB ls hl
  obtain ⟨hP, hK, hN⟩ := hB
  have hW : kWd D G L (kA L) zs.heap T N q zs.heap [] := kWd.start hL hP
  have hl : lv_has ls 2 [(0, .ref (L 0)), (1, .int w)] := hl
  refine lv_iload_n hC.1 hC.2.1 dX3_everybody_0 rfl (lv_at hl 1 rfl) ?_
  rcases ksw2 w with c_1 | c_1 | c_1
  · refine lv_lookup (tgt := 28) (off := 27) hC.1 hC.2.1 dX3_everybody_1 (by decide) (by rw [c_1]; rfl) (by decide) ?_
    refine lv_aload_n hC.1 hC.2.1 dX3_everybody_28 rfl (lv_at hl 0 rfl) ?_
    refine kg3 hC hK hW 7 (v := .int (T 0 4)) rfl (by decide) tf_X3_57 dX3_everybody_29 ?_
    exact krS hC hr hlk (by simp (config := {decide := true}) only [kif_true, kif_false, kb, kup_eq, kup_f, kup_i, not_true_eq_false, not_false_eq_true, and_true, true_and, and_false, false_and, and_self, or_true, true_or, or_false, false_or, a_everybody, c_1]) dX3_everybody_32
  · refine lv_lookup (tgt := 33) (off := 32) hC.1 hC.2.1 dX3_everybody_1 (by decide) (by rw [c_1]; rfl) (by decide) ?_
    refine lv_aload_n hC.1 hC.2.1 dX3_everybody_33 rfl (lv_at hl 0 rfl) ?_
    refine kg3 hC hK hW 8 (v := .int (T 0 5)) rfl (by decide) tf_X3_63 dX3_everybody_34 ?_
    exact krS hC hr hlk (by simp (config := {decide := true}) only [kif_true, kif_false, kb, kup_eq, kup_f, kup_i, not_true_eq_false, not_false_eq_true, and_true, true_and, and_false, false_and, and_self, or_true, true_or, or_false, false_or, a_everybody, c_1]) dX3_everybody_37
  · refine lv_lookup (tgt := 38) (off := 37) hC.1 hC.2.1 dX3_everybody_1 (by decide) (klk2 c_1.1) (by decide) ?_
    refine lv_ldc hC.1 hC.2.1 hC.2.2.2.1 (hC.2.2.2.2 _ (kt_in tk_X3_52 rfl)) dX3_everybody_38 ?_
    exact krS hC hr hlk (by simp (config := {decide := true}) only [kif_true, kif_false, kb, kup_eq, kup_f, kup_i, not_true_eq_false, not_false_eq_true, and_true, true_and, and_false, false_and, and_self, or_true, true_or, or_false, false_or, a_everybody, c_1.2.1, c_1.2.2]) dX3_everybody_40
set_option maxHeartbeats 4000000 in
set_option maxRecDepth 100000 in
theorem c_X3_told (l : Launch) (D : va_G) (G : Nat → ClassId) (L : Nat → Nat) (hL : kL L) (T N : kT) (q : kQ) (p : Int32) (w : Int32) : kM l yX3_told cX3_told 4 (some .int) 1 23 (kPc D G L T N q [.ref (L 0), .int p, .int w]) (kSi (a_told T p w)) (fun _ => False) := by
  refine kBegin (by decide) (Nat.le_of_ble_eq_true rfl) ?_
  intro zp ze zs zm zargs zbelow zmeth zc hC hr hlk hB ls hl
  obtain ⟨hP, hK, hN⟩ := hB
  have hW : kWd D G L (kA L) zs.heap T N q zs.heap [] := kWd.start hL hP
  have hl : lv_has ls 4 [(0, .ref (L 0)), (1, .int p), (2, .int w)] := hl
  refine lv_aload_n hC.1 hC.2.1 dX3_told_0 rfl (lv_at hl 0 rfl) ?_
  refine lv_iload_n hC.1 hC.2.1 dX3_told_1 rfl (lv_at hl 1 rfl) ?_
  refine keSq (rest := []) (kcV 0 hC hK hN hW (c_X3_processAt l D G L hL T N q p) (kgoodV tm_X3_47 ti_yX3_processAt te_yX3_processAt tz_X3 tc_yX3_processAt) kw_m rfl ⟨rfl, by decide, by decide, (show Option.map _ (parseMethodDescriptor yX3_processAt.desc) = some 1 from by decide +kernel)⟩ ⟨Nat.le_of_ble_eq_true rfl, Nat.le_of_ble_eq_true rfl⟩ hl.1 rfl (Nat.le_of_ble_eq_true rfl) ⟨Nat.le_refl _, Nat.le_refl _⟩ dX3_told_2) ?_
  refine kopt (P := kP T p) (fun c_2 => ?_) (fun c_2 => ?_)
  · refine lv_astore_n (lv' := [(3, .ref (L (4 + (tn p)))), (0, .ref (L 0)), (1, .int p), (2, .int w)]) hC.1 hC.2.1 dX3_told_5 rfl hl (by decide) rfl (fun ls hl => ?_)
    refine lv_aload_n hC.1 hC.2.1 dX3_told_6 rfl (lv_at hl 0 rfl) ?_
    refine lv_ifnonnull (tgt := 13) hC.1 hC.2.1 dX3_told_7 (by decide) ?_
    refine lv_iload_n hC.1 hC.2.1 dX3_told_13 rfl (lv_at hl 3 rfl) ?_
    rcases ksw7 w with c_14 | c_14 | c_14 | c_14 | c_14 | c_14 | c_14 | c_14
    · refine lv_tableIn (tgt := 56) (off := 42) hC.1 hC.2.1 dX3_told_14 (by rw [c_14]; decide) (by rw [c_14]; decide) (by rw [c_14]; rfl) (by decide) ?_
      refine lv_aload_n hC.1 hC.2.1 dX3_told_56 rfl (lv_at hl 0 rfl) ?_
      refine kg2N hC hK hN hW (kP.lt c_2) 2 (v := .int (T 3 (tn p))) rfl (by decide) tf_X3_69 dX3_told_57 ?_
      exact krS hC hr hlk (by simp (config := {decide := true}) only [kif_true, kif_false, kb, kup_eq, kup_f, kup_i, not_true_eq_false, not_false_eq_true, and_true, true_and, and_false, false_and, and_self, or_true, true_or, or_false, false_or, a_told, c_2, c_14]) dX3_told_60
    · refine lv_tableIn (tgt := 61) (off := 47) hC.1 hC.2.1 dX3_told_14 (by rw [c_14]; decide) (by rw [c_14]; decide) (by rw [c_14]; rfl) (by decide) ?_
      refine lv_aload_n hC.1 hC.2.1 dX3_told_61 rfl (lv_at hl 0 rfl) ?_
      refine kg2N hC hK hN hW (kP.lt c_2) 3 (v := .int (T 4 (tn p))) rfl (by decide) tf_X3_72 dX3_told_62 ?_
      exact krS hC hr hlk (by simp (config := {decide := true}) only [kif_true, kif_false, kb, kup_eq, kup_f, kup_i, not_true_eq_false, not_false_eq_true, and_true, true_and, and_false, false_and, and_self, or_true, true_or, or_false, false_or, a_told, c_2, c_14]) dX3_told_65
    · refine lv_tableIn (tgt := 66) (off := 52) hC.1 hC.2.1 dX3_told_14 (by rw [c_14]; decide) (by rw [c_14]; decide) (by rw [c_14]; rfl) (by decide) ?_
      refine lv_aload_n hC.1 hC.2.1 dX3_told_66 rfl (lv_at hl 0 rfl) ?_
      refine kg2N hC hK hN hW (kP.lt c_2) 4 (v := .int (T 5 (tn p))) rfl (by decide) tf_X3_60 dX3_told_67 ?_
      exact krS hC hr hlk (by simp (config := {decide := true}) only [kif_true, kif_false, kb, kup_eq, kup_f, kup_i, not_true_eq_false, not_false_eq_true, and_true, true_and, and_false, false_and, and_self, or_true, true_or, or_false, false_or, a_told, c_2, c_14]) dX3_told_70
    · refine lv_tableIn (tgt := 71) (off := 57) hC.1 hC.2.1 dX3_told_14 (by rw [c_14]; decide) (by rw [c_14]; decide) (by rw [c_14]; rfl) (by decide) ?_
      refine lv_aload_n hC.1 hC.2.1 dX3_told_71 rfl (lv_at hl 0 rfl) ?_
      refine kg2N hC hK hN hW (kP.lt c_2) 5 (v := .int (T 6 (tn p))) rfl (by decide) tf_X3_66 dX3_told_72 ?_
      exact krS hC hr hlk (by simp (config := {decide := true}) only [kif_true, kif_false, kb, kup_eq, kup_f, kup_i, not_true_eq_false, not_false_eq_true, and_true, true_and, and_false, false_and, and_self, or_true, true_or, or_false, false_or, a_told, c_2, c_14]) dX3_told_75
    · refine lv_tableIn (tgt := 76) (off := 62) hC.1 hC.2.1 dX3_told_14 (by rw [c_14]; decide) (by rw [c_14]; decide) (by rw [c_14]; rfl) (by decide) ?_
      refine lv_aload_n hC.1 hC.2.1 dX3_told_76 rfl (lv_at hl 0 rfl) ?_
      refine kg2N hC hK hN hW (kP.lt c_2) 1 (v := .int (T 2 (tn p))) rfl (by decide) tf_X3_75 dX3_told_77 ?_
      exact krS hC hr hlk (by simp (config := {decide := true}) only [kif_true, kif_false, kb, kup_eq, kup_f, kup_i, not_true_eq_false, not_false_eq_true, and_true, true_and, and_false, false_and, and_self, or_true, true_or, or_false, false_or, a_told, c_2, c_14]) dX3_told_80
    · refine lv_tableIn (tgt := 81) (off := 67) hC.1 hC.2.1 dX3_told_14 (by rw [c_14]; decide) (by rw [c_14]; decide) (by rw [c_14]; rfl) (by decide) ?_
      refine lv_aload_n hC.1 hC.2.1 dX3_told_81 rfl (lv_at hl 1 rfl) ?_
      refine lv_iload_n hC.1 hC.2.1 dX3_told_82 rfl (lv_at hl 2 rfl) ?_
      refine keSi (rest := []) (kcV 0 hC hK hN hW (c_X3_openEndpointsOf l D G L hL T N q p) (kgoodV tm_X3_78 ti_yX3_openEndpointsOf te_yX3_openEndpointsOf tz_X3 tc_yX3_openEndpointsOf) kw_m rfl ⟨rfl, by decide, by decide, (show Option.map _ (parseMethodDescriptor yX3_openEndpointsOf.desc) = some 1 from by decide +kernel)⟩ ⟨Nat.le_of_ble_eq_true rfl, Nat.le_of_ble_eq_true rfl⟩ hl.1 rfl (Nat.le_of_ble_eq_true rfl) ⟨Nat.le_refl _, Nat.le_refl _⟩ dX3_told_83) ?_
      exact krS hC hr hlk (by simp (config := {decide := true}) only [kif_true, kif_false, kb, kup_eq, kup_f, kup_i, not_true_eq_false, not_false_eq_true, and_true, true_and, and_false, false_and, and_self, or_true, true_or, or_false, false_or, a_told, c_2, c_14]) dX3_told_86
    · refine lv_tableIn (tgt := 87) (off := 73) hC.1 hC.2.1 dX3_told_14 (by rw [c_14]; decide) (by rw [c_14]; decide) (by rw [c_14]; rfl) (by decide) ?_
      refine lv_aload_n hC.1 hC.2.1 dX3_told_87 rfl (lv_at hl 1 rfl) ?_
      refine lv_aload_n hC.1 hC.2.1 dX3_told_88 rfl (lv_at hl 0 rfl) ?_
      refine kg2N hC hK hN hW (kP.lt c_2) 4 (v := .int (T 5 (tn p))) rfl (by decide) tf_X3_60 dX3_told_89 ?_
      refine lv_aload_n hC.1 hC.2.1 dX3_told_92 rfl (lv_at hl 0 rfl) ?_
      refine kg2N hC hK hN hW (kP.lt c_2) 5 (v := .int (T 6 (tn p))) rfl (by decide) tf_X3_66 dX3_told_93 ?_
      refine keSi (rest := []) (kcV 0 hC hK hN hW (c_X3_both l D G L hL T N q (T 5 (tn p)) (T 6 (tn p))) (kgoodV tm_X3_82 ti_yX3_both te_yX3_both tz_X3 tc_yX3_both) kw_m rfl ⟨rfl, by decide, by decide, (show Option.map _ (parseMethodDescriptor yX3_both.desc) = some 2 from by decide +kernel)⟩ ⟨Nat.le_of_ble_eq_true rfl, Nat.le_of_ble_eq_true rfl⟩ hl.1 rfl (Nat.le_of_ble_eq_true rfl) ⟨Nat.le_refl _, Nat.le_refl _⟩ dX3_told_96) ?_
      exact krS hC hr hlk (by simp (config := {decide := true}) only [kif_true, kif_false, kb, kup_eq, kup_f, kup_i, not_true_eq_false, not_false_eq_true, and_true, true_and, and_false, false_and, and_self, or_true, true_or, or_false, false_or, a_told, c_2, c_14]) dX3_told_99
    · refine lv_tableOut (tgt := 100) hC.1 hC.2.1 dX3_told_14 c_14.1 (by decide) ?_
      refine lv_ldc hC.1 hC.2.1 hC.2.2.2.1 (hC.2.2.2.2 _ (kt_in tk_X3_52 rfl)) dX3_told_100 ?_
      exact krS hC hr hlk (by simp (config := {decide := true}) only [kif_true, kif_false, kb, kup_eq, kup_f, kup_i, not_true_eq_false, not_false_eq_true, and_true, true_and, and_false, false_and, and_self, or_true, true_or, or_false, false_or, a_told, c_2, c_14.2.1, c_14.2.2.1, c_14.2.2.2.1, c_14.2.2.2.2.1, c_14.2.2.2.2.2.1, c_14.2.2.2.2.2.2.1, c_14.2.2.2.2.2.2.2]) dX3_told_102
  · refine lv_astore_nN (lv' := [(3, .null), (0, .ref (L 0)), (1, .int p), (2, .int w)]) hC.1 hC.2.1 dX3_told_5 rfl hl (by decide) rfl (fun ls hl => ?_)
    refine lv_aload_nN hC.1 hC.2.1 dX3_told_6 rfl (lv_at hl 0 rfl) ?_
    refine lv_ifnonnullN hC.1 hC.2.1 dX3_told_7 ?_
    refine lv_ldc hC.1 hC.2.1 hC.2.2.2.1 (hC.2.2.2.2 _ (kt_in tk_X3_51 rfl)) dX3_told_10 ?_
    exact krS hC hr hlk (by simp (config := {decide := true}) only [kif_true, kif_false, kb, kup_eq, kup_f, kup_i, not_true_eq_false, not_false_eq_true, and_true, true_and, and_false, false_and, and_self, or_true, true_or, or_false, false_or, a_told, c_2]) dX3_told_12
set_option maxHeartbeats 4000000 in
set_option maxRecDepth 100000 in
theorem c_X3_label (l : Launch) (D : va_G) (G : Nat → ClassId) (L : Nat → Nat) (hL : kL L) (T N : kT) (q : kQ) (p : Int32) (w : Int32) (x : Int32) : kM l yX3_label cX3_label 8 (some .int) 2 48 (kPc D G L T N q [.ref (L 0), .int p, .int w, .int x]) (kQi D G L (a_label T p w x) (t_label T p w x) N q) (kA L) := by
  refine kBegin (by decide) (Nat.le_of_ble_eq_true rfl) ?_
  intro zp ze zs zm zargs zbelow zmeth zc hC hr hlk hB ls hl
  obtain ⟨hP, hK, hN⟩ := hB
  have hW : kWd D G L (kA L) zs.heap T N q zs.heap [] := kWd.start hL hP
  have hl : lv_has ls 8 [(0, .ref (L 0)), (1, .int p), (2, .int w), (3, .int x)] := hl
  refine lv_aload_n hC.1 hC.2.1 dX3_label_0 rfl (lv_at hl 0 rfl) ?_
  refine lv_iload_n hC.1 hC.2.1 dX3_label_1 rfl (lv_at hl 1 rfl) ?_
  refine keSq (rest := []) (kcV 0 hC hK hN hW (c_X3_processAt l D G L hL T N q p) (kgoodV tm_X3_47 ti_yX3_processAt te_yX3_processAt tz_X3 tc_yX3_processAt) kw_m rfl ⟨rfl, by decide, by decide, (show Option.map _ (parseMethodDescriptor yX3_processAt.desc) = some 1 from by decide +kernel)⟩ ⟨Nat.le_of_ble_eq_true rfl, Nat.le_of_ble_eq_true rfl⟩ hl.1 rfl (Nat.le_of_ble_eq_true rfl) ⟨Nat.le_refl _, Nat.le_refl _⟩ dX3_label_2) ?_
  refine kopt (P := kP T p) (fun c_2 => ?_) (fun c_2 => ?_)
  · refine lv_astore (lv' := [(4, .ref (L (4 + (tn p)))), (0, .ref (L 0)), (1, .int p), (2, .int w), (3, .int x)]) hC.1 hC.2.1 dX3_label_5 hl (by decide) rfl (fun ls hl => ?_)
    refine lv_aload hC.1 hC.2.1 dX3_label_7 (lv_at hl 0 rfl) ?_
    refine lv_ifnonnull (tgt := 15) hC.1 hC.2.1 dX3_label_9 (by decide) ?_
    refine lv_iload_n hC.1 hC.2.1 dX3_label_15 rfl (lv_at hl 3 rfl) ?_
    refine lv_if_lt (tgt := 32) hC.1 hC.2.1 dX3_label_16 (by decide) (fun c_16 => ?_) (fun c_16 => ?_)
    · refine lv_ldc hC.1 hC.2.1 hC.2.2.2.1 (hC.2.2.2.2 _ (kt_in tk_X3_52 rfl)) dX3_label_32 ?_
      exact krI hC hr hlk hW (by simp (config := {decide := true}) only [kif_true, kif_false, kb, kup_eq, kup_f, kup_i, not_true_eq_false, not_false_eq_true, and_true, true_and, and_false, false_and, and_self, or_true, true_or, or_false, false_or, a_label, t_label, kLb, kLok, kLs, kLt, kLw, c_2, c_16]) (by simp (config := {decide := true}) only [kif_true, kif_false, kb, kup_eq, kup_f, kup_i, not_true_eq_false, not_false_eq_true, and_true, true_and, and_false, false_and, and_self, or_true, true_or, or_false, false_or, a_label, t_label, kLb, kLok, kLs, kLt, kLw, c_2, c_16]) rfl rfl dX3_label_34
    · refine lv_iload_n hC.1 hC.2.1 dX3_label_19 rfl (lv_at hl 3 rfl) ?_
      refine lv_iconst (v := 1) hC.1 hC.2.1 dX3_label_20 (by decide) ?_
      refine lv_icmp_gt (tgt := 32) hC.1 hC.2.1 dX3_label_21 (by decide) (fun c_21 => ?_) (fun c_21 => ?_)
      · refine lv_ldc hC.1 hC.2.1 hC.2.2.2.1 (hC.2.2.2.2 _ (kt_in tk_X3_52 rfl)) dX3_label_32 ?_
        exact krI hC hr hlk hW (by simp (config := {decide := true}) only [kif_true, kif_false, kb, kup_eq, kup_f, kup_i, not_true_eq_false, not_false_eq_true, and_true, true_and, and_false, false_and, and_self, or_true, true_or, or_false, false_or, a_label, t_label, kLb, kLok, kLs, kLt, kLw, c_2, c_16, c_21]) (by simp (config := {decide := true}) only [kif_true, kif_false, kb, kup_eq, kup_f, kup_i, not_true_eq_false, not_false_eq_true, and_true, true_and, and_false, false_and, and_self, or_true, true_or, or_false, false_or, a_label, t_label, kLb, kLok, kLs, kLt, kLw, c_2, c_16, c_21]) rfl rfl dX3_label_34
      · refine lv_aload_n hC.1 hC.2.1 dX3_label_24 rfl (lv_at hl 1 rfl) ?_
        refine lv_iload_n hC.1 hC.2.1 dX3_label_25 rfl (lv_at hl 4 rfl) ?_
        refine keSi (rest := []) (kcV 0 hC hK hN hW (c_X3_isSet l D G L hL T N q x) (kgoodV tm_X3_86 ti_yX3_isSet te_yX3_isSet tz_X3 tc_yX3_isSet) kw_m rfl ⟨rfl, by decide, by decide, (show Option.map _ (parseMethodDescriptor yX3_isSet.desc) = some 1 from by decide +kernel)⟩ ⟨Nat.le_of_ble_eq_true rfl, Nat.le_of_ble_eq_true rfl⟩ hl.1 rfl (Nat.le_of_ble_eq_true rfl) ⟨Nat.le_refl _, Nat.le_refl _⟩ dX3_label_26) ?_
        refine kif_ne (tgt := 35) hC.1 hC.2.1 dX3_label_29 (by decide) (fun c_29 => ?_) (fun c_29 => ?_)
        · refine lv_iload_n hC.1 hC.2.1 dX3_label_35 rfl (lv_at hl 3 rfl) ?_
          refine lv_if_ne (tgt := 47) hC.1 hC.2.1 dX3_label_36 (by decide) (fun c_36 => ?_) (fun c_36 => ?_)
          · refine lv_aload hC.1 hC.2.1 dX3_label_47 (lv_at hl 0 rfl) ?_
            refine kg2N hC hK hN hW (kP.lt c_2) 3 (v := .int (T 4 (tn p))) rfl (by decide) tf_X3_72 dX3_label_49 ?_
            refine lv_istore (lv' := [(5, .int (T 4 (tn p))), (4, .ref (L (4 + (tn p)))), (0, .ref (L 0)), (1, .int p), (2, .int w), (3, .int x)]) hC.1 hC.2.1 dX3_label_52 hl (by decide) rfl (fun ls hl => ?_)
            refine lv_iload_n hC.1 hC.2.1 dX3_label_54 rfl (lv_at hl 4 rfl) ?_
            refine lv_if_ne (tgt := 62) hC.1 hC.2.1 dX3_label_55 (by decide) (fun c_55 => ?_) (fun c_55 => ?_)
            · refine lv_aload hC.1 hC.2.1 dX3_label_62 (lv_at hl 1 rfl) ?_
              refine kg2N hC hK hN hW (kP.lt c_2) 2 (v := .int (T 3 (tn p))) rfl (by decide) tf_X3_69 dX3_label_64 ?_
              refine lv_istore (lv' := [(6, .int (T 3 (tn p))), (5, .int (T 4 (tn p))), (4, .ref (L (4 + (tn p)))), (0, .ref (L 0)), (1, .int p), (2, .int w), (3, .int x)]) hC.1 hC.2.1 dX3_label_67 hl (by decide) rfl (fun ls hl => ?_)
              refine lv_iload_n hC.1 hC.2.1 dX3_label_69 rfl (lv_at hl 5 rfl) ?_
              refine lv_if_ne (tgt := 81) hC.1 hC.2.1 dX3_label_70 (by decide) (fun c_70 => ?_) (fun c_70 => ?_)
              · refine lv_iload_n hC.1 hC.2.1 dX3_label_81 rfl (lv_at hl 6 rfl) ?_
                refine lv_istore (lv' := [(7, .int x), (6, .int (T 3 (tn p))), (5, .int (T 4 (tn p))), (4, .ref (L (4 + (tn p)))), (0, .ref (L 0)), (1, .int p), (2, .int w), (3, .int x)]) hC.1 hC.2.1 dX3_label_82 hl (by decide) rfl (fun ls hl => ?_)
                refine lv_aload_n hC.1 hC.2.1 dX3_label_84 rfl (lv_at hl 4 rfl) ?_
                refine lv_aload hC.1 hC.2.1 dX3_label_85 (lv_at hl 3 rfl) ?_
                refine lv_iload hC.1 hC.2.1 dX3_label_87 (lv_at hl 2 rfl) ?_
                refine lv_iload_n hC.1 hC.2.1 dX3_label_89 rfl (lv_at hl 7 rfl) ?_
                refine keSi (rest := []) (kcV 0 hC hK hN hW (c_X3_isSafe l D G L hL T N q (tn p) (kP.lt c_2) (T 4 (tn p)) x) (kgoodV tm_X3_90 ti_yX3_isSafe te_yX3_isSafe tz_X3 tc_yX3_isSafe) kw_m rfl ⟨rfl, by decide, by decide, (show Option.map _ (parseMethodDescriptor yX3_isSafe.desc) = some 3 from by decide +kernel)⟩ ⟨Nat.le_of_ble_eq_true rfl, Nat.le_of_ble_eq_true rfl⟩ hl.1 rfl (Nat.le_of_ble_eq_true rfl) ⟨Nat.le_refl _, Nat.le_refl _⟩ dX3_label_90) ?_
                refine kif_eq (tgt := 122) hC.1 hC.2.1 dX3_label_93 (by decide) (fun c_93 => ?_) (fun c_93 => ?_)
                · refine lv_ldc hC.1 hC.2.1 hC.2.2.2.1 (hC.2.2.2.2 _ (kt_in tk_X3_98 rfl)) dX3_label_122 ?_
                  exact krI hC hr hlk hW (by simp (config := {decide := true}) only [kif_true, kif_false, kb, kup_eq, kup_f, kup_i, not_true_eq_false, not_false_eq_true, and_true, true_and, and_false, false_and, and_self, or_true, true_or, or_false, false_or, a_label, t_label, kLb, kLok, kLs, kLt, kLw, c_2, c_16, c_21, c_29, c_36, c_55, c_70, c_93]) (by simp (config := {decide := true}) only [kif_true, kif_false, kb, kup_eq, kup_f, kup_i, not_true_eq_false, not_false_eq_true, and_true, true_and, and_false, false_and, and_self, or_true, true_or, or_false, false_or, a_label, t_label, kLb, kLok, kLs, kLt, kLw, c_2, c_16, c_21, c_29, c_36, c_55, c_70, c_93]) rfl rfl dX3_label_124
                · refine lv_aload_n hC.1 hC.2.1 dX3_label_96 rfl (lv_at hl 4 rfl) ?_
                  refine lv_iload_n hC.1 hC.2.1 dX3_label_97 rfl (lv_at hl 5 rfl) ?_
                  refine lv_iload hC.1 hC.2.1 dX3_label_98 (lv_at hl 1 rfl) ?_
                  refine lv_iload hC.1 hC.2.1 dX3_label_100 (lv_at hl 0 rfl) ?_
                  refine lv_aload_n hC.1 hC.2.1 dX3_label_102 rfl (lv_at hl 4 rfl) ?_
                  refine lv_aload hC.1 hC.2.1 dX3_label_103 (lv_at hl 3 rfl) ?_
                  refine kg2N hC hK hN hW (kP.lt c_2) 4 (v := .int (T 5 (tn p))) rfl (by decide) tf_X3_60 dX3_label_105 ?_
                  refine lv_aload hC.1 hC.2.1 dX3_label_108 (lv_at hl 3 rfl) ?_
                  refine kg2N hC hK hN hW (kP.lt c_2) 5 (v := .int (T 6 (tn p))) rfl (by decide) tf_X3_66 dX3_label_110 ?_
                  refine keSi (rest := [.int x, .int (T 3 (tn p)), .int p, .ref (L 0)]) (kcV 0 hC hK hN hW (c_X3_both l D G L hL T N q (T 5 (tn p)) (T 6 (tn p))) (kgoodV tm_X3_82 ti_yX3_both te_yX3_both tz_X3 tc_yX3_both) kw_m rfl ⟨rfl, by decide, by decide, (show Option.map _ (parseMethodDescriptor yX3_both.desc) = some 2 from by decide +kernel)⟩ ⟨Nat.le_of_ble_eq_true rfl, Nat.le_of_ble_eq_true rfl⟩ hl.1 rfl (Nat.le_of_ble_eq_true rfl) ⟨Nat.le_refl _, Nat.le_refl _⟩ dX3_label_113) ?_
                  refine keSi (rest := []) (kcV 0 hC hK hN hW (c_X3_endpointsFit l D G L hL T N q p (T 3 (tn p)) x (kBoth T (T 5 (tn p)) (T 6 (tn p)))) (kgoodV tm_X3_94 ti_yX3_endpointsFit te_yX3_endpointsFit tz_X3 tc_yX3_endpointsFit) kw_m rfl ⟨rfl, by decide, by decide, (show Option.map _ (parseMethodDescriptor yX3_endpointsFit.desc) = some 4 from by decide +kernel)⟩ ⟨Nat.le_of_ble_eq_true rfl, Nat.le_of_ble_eq_true rfl⟩ hl.1 rfl (Nat.le_of_ble_eq_true rfl) ⟨Nat.le_refl _, Nat.le_refl _⟩ dX3_label_116) ?_
                  refine kif_ne (tgt := 125) hC.1 hC.2.1 dX3_label_119 (by decide) (fun c_119 => ?_) (fun c_119 => ?_)
                  · refine lv_aload hC.1 hC.2.1 dX3_label_125 (lv_at hl 3 rfl) ?_
                    refine lv_iload hC.1 hC.2.1 dX3_label_127 (lv_at hl 1 rfl) ?_
                    refine kp2N hC hK hN hW (kP.lt c_2) 2 (by decide) .int tf_X3_69 (by decide +kernel) rfl rfl dX3_label_129 (fun H locs (hW : kWd D G L (kA L) zs.heap (kup T 3 (tn p) (T 3 (tn p))) N q H locs) => ?_)
                    refine lv_aload hC.1 hC.2.1 dX3_label_132 (lv_at hl 3 rfl) ?_
                    refine lv_iload hC.1 hC.2.1 dX3_label_134 (lv_at hl 0 rfl) ?_
                    refine kp2N hC hK hN hW (kP.lt c_2) 3 (by decide) .int tf_X3_72 (by decide +kernel) rfl rfl dX3_label_136 (fun H locs (hW : kWd D G L (kA L) zs.heap (kup (kup T 3 (tn p) (T 3 (tn p))) 4 (tn p) x) N q H locs) => ?_)
                    refine lv_iload hC.1 hC.2.1 dX3_label_139 (lv_at hl 2 rfl) ?_
                    exact krI hC hr hlk hW (by simp (config := {decide := true}) only [kif_true, kif_false, kb, kup_eq, kup_f, kup_i, not_true_eq_false, not_false_eq_true, and_true, true_and, and_false, false_and, and_self, or_true, true_or, or_false, false_or, a_label, t_label, kLb, kLok, kLs, kLt, kLw, c_2, c_16, c_21, c_29, c_36, c_55, c_70, c_93, c_119]) (by simp (config := {decide := true}) only [kif_true, kif_false, kb, kup_eq, kup_f, kup_i, not_true_eq_false, not_false_eq_true, and_true, true_and, and_false, false_and, and_self, or_true, true_or, or_false, false_or, a_label, t_label, kLb, kLok, kLs, kLt, kLw, c_2, c_16, c_21, c_29, c_36, c_55, c_70, c_93, c_119]) rfl rfl dX3_label_141
                  · refine lv_ldc hC.1 hC.2.1 hC.2.2.2.1 (hC.2.2.2.2 _ (kt_in tk_X3_98 rfl)) dX3_label_122 ?_
                    exact krI hC hr hlk hW (by simp (config := {decide := true}) only [kif_true, kif_false, kb, kup_eq, kup_f, kup_i, not_true_eq_false, not_false_eq_true, and_true, true_and, and_false, false_and, and_self, or_true, true_or, or_false, false_or, a_label, t_label, kLb, kLok, kLs, kLt, kLw, c_2, c_16, c_21, c_29, c_36, c_55, c_70, c_93, c_119]) (by simp (config := {decide := true}) only [kif_true, kif_false, kb, kup_eq, kup_f, kup_i, not_true_eq_false, not_false_eq_true, and_true, true_and, and_false, false_and, and_self, or_true, true_or, or_false, false_or, a_label, t_label, kLb, kLok, kLs, kLt, kLw, c_2, c_16, c_21, c_29, c_36, c_55, c_70, c_93, c_119]) rfl rfl dX3_label_124
              · exact absurd c_70 c_36
            · exact absurd c_55 c_36
          · refine lv_aload hC.1 hC.2.1 dX3_label_39 (lv_at hl 0 rfl) ?_
            refine kg2N hC hK hN hW (kP.lt c_2) 2 (v := .int (T 3 (tn p))) rfl (by decide) tf_X3_69 dX3_label_41 ?_
            refine lv_goto (tgt := 52) hC.1 hC.2.1 dX3_label_44 (by decide) ?_
            refine lv_istore (lv' := [(5, .int (T 3 (tn p))), (4, .ref (L (4 + (tn p)))), (0, .ref (L 0)), (1, .int p), (2, .int w), (3, .int x)]) hC.1 hC.2.1 dX3_label_52 hl (by decide) rfl (fun ls hl => ?_)
            refine lv_iload_n hC.1 hC.2.1 dX3_label_54 rfl (lv_at hl 4 rfl) ?_
            refine lv_if_ne (tgt := 62) hC.1 hC.2.1 dX3_label_55 (by decide) (fun c_55 => ?_) (fun c_55 => ?_)
            · exact absurd c_36 c_55
            · refine lv_iload_n hC.1 hC.2.1 dX3_label_58 rfl (lv_at hl 5 rfl) ?_
              refine lv_goto (tgt := 67) hC.1 hC.2.1 dX3_label_59 (by decide) ?_
              refine lv_istore (lv' := [(6, .int x), (5, .int (T 3 (tn p))), (4, .ref (L (4 + (tn p)))), (0, .ref (L 0)), (1, .int p), (2, .int w), (3, .int x)]) hC.1 hC.2.1 dX3_label_67 hl (by decide) rfl (fun ls hl => ?_)
              refine lv_iload_n hC.1 hC.2.1 dX3_label_69 rfl (lv_at hl 5 rfl) ?_
              refine lv_if_ne (tgt := 81) hC.1 hC.2.1 dX3_label_70 (by decide) (fun c_70 => ?_) (fun c_70 => ?_)
              · exact absurd c_36 c_70
              · refine lv_aload hC.1 hC.2.1 dX3_label_73 (lv_at hl 2 rfl) ?_
                refine kg2N hC hK hN hW (kP.lt c_2) 3 (v := .int (T 4 (tn p))) rfl (by decide) tf_X3_72 dX3_label_75 ?_
                refine lv_goto (tgt := 82) hC.1 hC.2.1 dX3_label_78 (by decide) ?_
                refine lv_istore (lv' := [(7, .int (T 4 (tn p))), (6, .int x), (5, .int (T 3 (tn p))), (4, .ref (L (4 + (tn p)))), (0, .ref (L 0)), (1, .int p), (2, .int w), (3, .int x)]) hC.1 hC.2.1 dX3_label_82 hl (by decide) rfl (fun ls hl => ?_)
                refine lv_aload_n hC.1 hC.2.1 dX3_label_84 rfl (lv_at hl 4 rfl) ?_
                refine lv_aload hC.1 hC.2.1 dX3_label_85 (lv_at hl 3 rfl) ?_
                refine lv_iload hC.1 hC.2.1 dX3_label_87 (lv_at hl 2 rfl) ?_
                refine lv_iload_n hC.1 hC.2.1 dX3_label_89 rfl (lv_at hl 7 rfl) ?_
                refine keSi (rest := []) (kcV 0 hC hK hN hW (c_X3_isSafe l D G L hL T N q (tn p) (kP.lt c_2) (T 3 (tn p)) x) (kgoodV tm_X3_90 ti_yX3_isSafe te_yX3_isSafe tz_X3 tc_yX3_isSafe) kw_m rfl ⟨rfl, by decide, by decide, (show Option.map _ (parseMethodDescriptor yX3_isSafe.desc) = some 3 from by decide +kernel)⟩ ⟨Nat.le_of_ble_eq_true rfl, Nat.le_of_ble_eq_true rfl⟩ hl.1 rfl (Nat.le_of_ble_eq_true rfl) ⟨Nat.le_refl _, Nat.le_refl _⟩ dX3_label_90) ?_
                refine kif_eq (tgt := 122) hC.1 hC.2.1 dX3_label_93 (by decide) (fun c_93 => ?_) (fun c_93 => ?_)
                · refine lv_ldc hC.1 hC.2.1 hC.2.2.2.1 (hC.2.2.2.2 _ (kt_in tk_X3_98 rfl)) dX3_label_122 ?_
                  exact krI hC hr hlk hW (by simp (config := {decide := true}) only [kif_true, kif_false, kb, kup_eq, kup_f, kup_i, not_true_eq_false, not_false_eq_true, and_true, true_and, and_false, false_and, and_self, or_true, true_or, or_false, false_or, a_label, t_label, kLb, kLok, kLs, kLt, kLw, c_2, c_16, c_21, c_29, c_36, c_55, c_70, c_93]) (by simp (config := {decide := true}) only [kif_true, kif_false, kb, kup_eq, kup_f, kup_i, not_true_eq_false, not_false_eq_true, and_true, true_and, and_false, false_and, and_self, or_true, true_or, or_false, false_or, a_label, t_label, kLb, kLok, kLs, kLt, kLw, c_2, c_16, c_21, c_29, c_36, c_55, c_70, c_93]) rfl rfl dX3_label_124
                · refine lv_aload_n hC.1 hC.2.1 dX3_label_96 rfl (lv_at hl 4 rfl) ?_
                  refine lv_iload_n hC.1 hC.2.1 dX3_label_97 rfl (lv_at hl 5 rfl) ?_
                  refine lv_iload hC.1 hC.2.1 dX3_label_98 (lv_at hl 1 rfl) ?_
                  refine lv_iload hC.1 hC.2.1 dX3_label_100 (lv_at hl 0 rfl) ?_
                  refine lv_aload_n hC.1 hC.2.1 dX3_label_102 rfl (lv_at hl 4 rfl) ?_
                  refine lv_aload hC.1 hC.2.1 dX3_label_103 (lv_at hl 3 rfl) ?_
                  refine kg2N hC hK hN hW (kP.lt c_2) 4 (v := .int (T 5 (tn p))) rfl (by decide) tf_X3_60 dX3_label_105 ?_
                  refine lv_aload hC.1 hC.2.1 dX3_label_108 (lv_at hl 3 rfl) ?_
                  refine kg2N hC hK hN hW (kP.lt c_2) 5 (v := .int (T 6 (tn p))) rfl (by decide) tf_X3_66 dX3_label_110 ?_
                  refine keSi (rest := [.int (T 4 (tn p)), .int x, .int p, .ref (L 0)]) (kcV 0 hC hK hN hW (c_X3_both l D G L hL T N q (T 5 (tn p)) (T 6 (tn p))) (kgoodV tm_X3_82 ti_yX3_both te_yX3_both tz_X3 tc_yX3_both) kw_m rfl ⟨rfl, by decide, by decide, (show Option.map _ (parseMethodDescriptor yX3_both.desc) = some 2 from by decide +kernel)⟩ ⟨Nat.le_of_ble_eq_true rfl, Nat.le_of_ble_eq_true rfl⟩ hl.1 rfl (Nat.le_of_ble_eq_true rfl) ⟨Nat.le_refl _, Nat.le_refl _⟩ dX3_label_113) ?_
                  refine keSi (rest := []) (kcV 0 hC hK hN hW (c_X3_endpointsFit l D G L hL T N q p x (T 4 (tn p)) (kBoth T (T 5 (tn p)) (T 6 (tn p)))) (kgoodV tm_X3_94 ti_yX3_endpointsFit te_yX3_endpointsFit tz_X3 tc_yX3_endpointsFit) kw_m rfl ⟨rfl, by decide, by decide, (show Option.map _ (parseMethodDescriptor yX3_endpointsFit.desc) = some 4 from by decide +kernel)⟩ ⟨Nat.le_of_ble_eq_true rfl, Nat.le_of_ble_eq_true rfl⟩ hl.1 rfl (Nat.le_of_ble_eq_true rfl) ⟨Nat.le_refl _, Nat.le_refl _⟩ dX3_label_116) ?_
                  refine kif_ne (tgt := 125) hC.1 hC.2.1 dX3_label_119 (by decide) (fun c_119 => ?_) (fun c_119 => ?_)
                  · refine lv_aload hC.1 hC.2.1 dX3_label_125 (lv_at hl 3 rfl) ?_
                    refine lv_iload hC.1 hC.2.1 dX3_label_127 (lv_at hl 1 rfl) ?_
                    refine kp2N hC hK hN hW (kP.lt c_2) 2 (by decide) .int tf_X3_69 (by decide +kernel) rfl rfl dX3_label_129 (fun H locs (hW : kWd D G L (kA L) zs.heap (kup T 3 (tn p) x) N q H locs) => ?_)
                    refine lv_aload hC.1 hC.2.1 dX3_label_132 (lv_at hl 3 rfl) ?_
                    refine lv_iload hC.1 hC.2.1 dX3_label_134 (lv_at hl 0 rfl) ?_
                    refine kp2N hC hK hN hW (kP.lt c_2) 3 (by decide) .int tf_X3_72 (by decide +kernel) rfl rfl dX3_label_136 (fun H locs (hW : kWd D G L (kA L) zs.heap (kup (kup T 3 (tn p) x) 4 (tn p) (T 4 (tn p))) N q H locs) => ?_)
                    refine lv_iload hC.1 hC.2.1 dX3_label_139 (lv_at hl 2 rfl) ?_
                    exact krI hC hr hlk hW (by simp (config := {decide := true}) only [kif_true, kif_false, kb, kup_eq, kup_f, kup_i, not_true_eq_false, not_false_eq_true, and_true, true_and, and_false, false_and, and_self, or_true, true_or, or_false, false_or, a_label, t_label, kLb, kLok, kLs, kLt, kLw, c_2, c_16, c_21, c_29, c_36, c_55, c_70, c_93, c_119]) (by simp (config := {decide := true}) only [kif_true, kif_false, kb, kup_eq, kup_f, kup_i, not_true_eq_false, not_false_eq_true, and_true, true_and, and_false, false_and, and_self, or_true, true_or, or_false, false_or, a_label, t_label, kLb, kLok, kLs, kLt, kLw, c_2, c_16, c_21, c_29, c_36, c_55, c_70, c_93, c_119]) rfl rfl dX3_label_141
                  · refine lv_ldc hC.1 hC.2.1 hC.2.2.2.1 (hC.2.2.2.2 _ (kt_in tk_X3_98 rfl)) dX3_label_122 ?_
                    exact krI hC hr hlk hW (by simp (config := {decide := true}) only [kif_true, kif_false, kb, kup_eq, kup_f, kup_i, not_true_eq_false, not_false_eq_true, and_true, true_and, and_false, false_and, and_self, or_true, true_or, or_false, false_or, a_label, t_label, kLb, kLok, kLs, kLt, kLw, c_2, c_16, c_21, c_29, c_36, c_55, c_70, c_93, c_119]) (by simp (config := {decide := true}) only [kif_true, kif_false, kb, kup_eq, kup_f, kup_i, not_true_eq_false, not_false_eq_true, and_true, true_and, and_false, false_and, and_self, or_true, true_or, or_false, false_or, a_label, t_label, kLb, kLok, kLs, kLt, kLw, c_2, c_16, c_21, c_29, c_36, c_55, c_70, c_93, c_119]) rfl rfl dX3_label_124
        · refine lv_ldc hC.1 hC.2.1 hC.2.2.2.1 (hC.2.2.2.2 _ (kt_in tk_X3_52 rfl)) dX3_label_32 ?_
          exact krI hC hr hlk hW (by simp (config := {decide := true}) only [kif_true, kif_false, kb, kup_eq, kup_f, kup_i, not_true_eq_false, not_false_eq_true, and_true, true_and, and_false, false_and, and_self, or_true, true_or, or_false, false_or, a_label, t_label, kLb, kLok, kLs, kLt, kLw, c_2, c_16, c_21, c_29]) (by simp (config := {decide := true}) only [kif_true, kif_false, kb, kup_eq, kup_f, kup_i, not_true_eq_false, not_false_eq_true, and_true, true_and, and_false, false_and, and_self, or_true, true_or, or_false, false_or, a_label, t_label, kLb, kLok, kLs, kLt, kLw, c_2, c_16, c_21, c_29]) rfl rfl dX3_label_34
  · refine lv_astoreN (lv' := [(4, .null), (0, .ref (L 0)), (1, .int p), (2, .int w), (3, .int x)]) hC.1 hC.2.1 dX3_label_5 hl (by decide) rfl (fun ls hl => ?_)
    refine lv_aloadN hC.1 hC.2.1 dX3_label_7 (lv_at hl 0 rfl) ?_
    refine lv_ifnonnullN hC.1 hC.2.1 dX3_label_9 ?_
    refine lv_ldc hC.1 hC.2.1 hC.2.2.2.1 (hC.2.2.2.2 _ (kt_in tk_X3_51 rfl)) dX3_label_12 ?_
    exact krI hC hr hlk hW (by simp (config := {decide := true}) only [kif_true, kif_false, kb, kup_eq, kup_f, kup_i, not_true_eq_false, not_false_eq_true, and_true, true_and, and_false, false_and, and_self, or_true, true_or, or_false, false_or, a_label, t_label, kLb, kLok, kLs, kLt, kLw, c_2]) (by simp (config := {decide := true}) only [kif_true, kif_false, kb, kup_eq, kup_f, kup_i, not_true_eq_false, not_false_eq_true, and_true, true_and, and_false, false_and, and_self, or_true, true_or, or_false, false_or, a_label, t_label, kLb, kLok, kLs, kLt, kLw, c_2]) rfl rfl dX3_label_14
set_option maxHeartbeats 4000000 in
set_option maxRecDepth 100000 in
theorem c_X3_drop (l : Launch) (D : va_G) (G : Nat → ClassId) (L : Nat → Nat) (hL : kL L) (T N : kT) (q : kQ) (p : Int32) (w : Int32) (x : Int32) : kM l yX3_drop cX3_drop 7 (some .int) 2 48 (kPc D G L T N q [.ref (L 0), .int p, .int w, .int x]) (kQi D G L (a_drop T p w x) (t_drop T p w x) N q) (kA L) := by
  refine kBegin (by decide) (Nat.le_of_ble_eq_true rfl) ?_
  intro zp ze zs zm zargs zbelow zmeth zc hC hr hlk hB ls hl
  obtain ⟨hP, hK, hN⟩ := hB
  have hW : kWd D G L (kA L) zs.heap T N q zs.heap [] := kWd.start hL hP
  have hl : lv_has ls 7 [(0, .ref (L 0)), (1, .int p), (2, .int w), (3, .int x)] := hl
  refine lv_aload_n hC.1 hC.2.1 dX3_drop_0 rfl (lv_at hl 0 rfl) ?_
  refine lv_iload_n hC.1 hC.2.1 dX3_drop_1 rfl (lv_at hl 1 rfl) ?_
  refine keSq (rest := []) (kcV 0 hC hK hN hW (c_X3_processAt l D G L hL T N q p) (kgoodV tm_X3_47 ti_yX3_processAt te_yX3_processAt tz_X3 tc_yX3_processAt) kw_m rfl ⟨rfl, by decide, by decide, (show Option.map _ (parseMethodDescriptor yX3_processAt.desc) = some 1 from by decide +kernel)⟩ ⟨Nat.le_of_ble_eq_true rfl, Nat.le_of_ble_eq_true rfl⟩ hl.1 rfl (Nat.le_of_ble_eq_true rfl) ⟨Nat.le_refl _, Nat.le_refl _⟩ dX3_drop_2) ?_
  refine kopt (P := kP T p) (fun c_2 => ?_) (fun c_2 => ?_)
  · refine lv_astore (lv' := [(4, .ref (L (4 + (tn p)))), (0, .ref (L 0)), (1, .int p), (2, .int w), (3, .int x)]) hC.1 hC.2.1 dX3_drop_5 hl (by decide) rfl (fun ls hl => ?_)
    refine lv_aload hC.1 hC.2.1 dX3_drop_7 (lv_at hl 0 rfl) ?_
    refine lv_ifnonnull (tgt := 15) hC.1 hC.2.1 dX3_drop_9 (by decide) ?_
    refine lv_iload_n hC.1 hC.2.1 dX3_drop_15 rfl (lv_at hl 3 rfl) ?_
    refine lv_if_lt (tgt := 32) hC.1 hC.2.1 dX3_drop_16 (by decide) (fun c_16 => ?_) (fun c_16 => ?_)
    · refine lv_ldc hC.1 hC.2.1 hC.2.2.2.1 (hC.2.2.2.2 _ (kt_in tk_X3_52 rfl)) dX3_drop_32 ?_
      exact krI hC hr hlk hW (by simp (config := {decide := true}) only [kif_true, kif_false, kb, kup_eq, kup_f, kup_i, not_true_eq_false, not_false_eq_true, and_true, true_and, and_false, false_and, and_self, or_true, true_or, or_false, false_or, a_drop, t_drop, kLb, kDok, kDp, kDm, c_2, c_16]) (by simp (config := {decide := true}) only [kif_true, kif_false, kb, kup_eq, kup_f, kup_i, not_true_eq_false, not_false_eq_true, and_true, true_and, and_false, false_and, and_self, or_true, true_or, or_false, false_or, a_drop, t_drop, kLb, kDok, kDp, kDm, c_2, c_16]) rfl rfl dX3_drop_34
    · refine lv_iload_n hC.1 hC.2.1 dX3_drop_19 rfl (lv_at hl 3 rfl) ?_
      refine lv_iconst (v := 1) hC.1 hC.2.1 dX3_drop_20 (by decide) ?_
      refine lv_icmp_gt (tgt := 32) hC.1 hC.2.1 dX3_drop_21 (by decide) (fun c_21 => ?_) (fun c_21 => ?_)
      · refine lv_ldc hC.1 hC.2.1 hC.2.2.2.1 (hC.2.2.2.2 _ (kt_in tk_X3_52 rfl)) dX3_drop_32 ?_
        exact krI hC hr hlk hW (by simp (config := {decide := true}) only [kif_true, kif_false, kb, kup_eq, kup_f, kup_i, not_true_eq_false, not_false_eq_true, and_true, true_and, and_false, false_and, and_self, or_true, true_or, or_false, false_or, a_drop, t_drop, kLb, kDok, kDp, kDm, c_2, c_16, c_21]) (by simp (config := {decide := true}) only [kif_true, kif_false, kb, kup_eq, kup_f, kup_i, not_true_eq_false, not_false_eq_true, and_true, true_and, and_false, false_and, and_self, or_true, true_or, or_false, false_or, a_drop, t_drop, kLb, kDok, kDp, kDm, c_2, c_16, c_21]) rfl rfl dX3_drop_34
      · refine lv_aload_n hC.1 hC.2.1 dX3_drop_24 rfl (lv_at hl 1 rfl) ?_
        refine lv_iload_n hC.1 hC.2.1 dX3_drop_25 rfl (lv_at hl 4 rfl) ?_
        refine keSi (rest := []) (kcV 0 hC hK hN hW (c_X3_isSet l D G L hL T N q x) (kgoodV tm_X3_86 ti_yX3_isSet te_yX3_isSet tz_X3 tc_yX3_isSet) kw_m rfl ⟨rfl, by decide, by decide, (show Option.map _ (parseMethodDescriptor yX3_isSet.desc) = some 1 from by decide +kernel)⟩ ⟨Nat.le_of_ble_eq_true rfl, Nat.le_of_ble_eq_true rfl⟩ hl.1 rfl (Nat.le_of_ble_eq_true rfl) ⟨Nat.le_refl _, Nat.le_refl _⟩ dX3_drop_26) ?_
        refine kif_ne (tgt := 35) hC.1 hC.2.1 dX3_drop_29 (by decide) (fun c_29 => ?_) (fun c_29 => ?_)
        · refine lv_iload_n hC.1 hC.2.1 dX3_drop_35 rfl (lv_at hl 3 rfl) ?_
          refine lv_if_ne (tgt := 51) hC.1 hC.2.1 dX3_drop_36 (by decide) (fun c_36 => ?_) (fun c_36 => ?_)
          · refine lv_aload hC.1 hC.2.1 dX3_drop_51 (lv_at hl 0 rfl) ?_
            refine kg2N hC hK hN hW (kP.lt c_2) 4 (v := .int (T 5 (tn p))) rfl (by decide) tf_X3_60 dX3_drop_53 ?_
            refine lv_istore (lv' := [(5, .int (T 5 (tn p))), (4, .ref (L (4 + (tn p)))), (0, .ref (L 0)), (1, .int p), (2, .int w), (3, .int x)]) hC.1 hC.2.1 dX3_drop_56 hl (by decide) rfl (fun ls hl => ?_)
            refine lv_iload_n hC.1 hC.2.1 dX3_drop_58 rfl (lv_at hl 4 rfl) ?_
            refine lv_if_ne (tgt := 70) hC.1 hC.2.1 dX3_drop_59 (by decide) (fun c_59 => ?_) (fun c_59 => ?_)
            · refine lv_aload hC.1 hC.2.1 dX3_drop_70 (lv_at hl 1 rfl) ?_
              refine kg2N hC hK hN hW (kP.lt c_2) 5 (v := .int (T 6 (tn p))) rfl (by decide) tf_X3_66 dX3_drop_72 ?_
              refine lv_iload_n hC.1 hC.2.1 dX3_drop_75 rfl (lv_at hl 5 rfl) ?_
              refine lv_iconst (v := (-1)) hC.1 hC.2.1 dX3_drop_76 (by decide) ?_
              refine lv_ixor hC.1 hC.2.1 dX3_drop_77 ?_
              refine lv_iand hC.1 hC.2.1 dX3_drop_78 ?_
              refine lv_istore (lv' := [(6, .int ((T 6 (tn p)) &&& (x ^^^ (-1)))), (5, .int (T 5 (tn p))), (4, .ref (L (4 + (tn p)))), (0, .ref (L 0)), (1, .int p), (2, .int w), (3, .int x)]) hC.1 hC.2.1 dX3_drop_79 hl (by decide) rfl (fun ls hl => ?_)
              refine lv_aload_n hC.1 hC.2.1 dX3_drop_81 rfl (lv_at hl 3 rfl) ?_
              refine lv_iload_n hC.1 hC.2.1 dX3_drop_82 rfl (lv_at hl 4 rfl) ?_
              refine lv_aload hC.1 hC.2.1 dX3_drop_83 (lv_at hl 2 rfl) ?_
              refine kg2N hC hK hN hW (kP.lt c_2) 2 (v := .int (T 3 (tn p))) rfl (by decide) tf_X3_69 dX3_drop_85 ?_
              refine lv_aload hC.1 hC.2.1 dX3_drop_88 (lv_at hl 2 rfl) ?_
              refine kg2N hC hK hN hW (kP.lt c_2) 3 (v := .int (T 4 (tn p))) rfl (by decide) tf_X3_72 dX3_drop_90 ?_
              refine lv_aload_n hC.1 hC.2.1 dX3_drop_93 rfl (lv_at hl 3 rfl) ?_
              refine lv_iload hC.1 hC.2.1 dX3_drop_94 (lv_at hl 1 rfl) ?_
              refine lv_iload hC.1 hC.2.1 dX3_drop_96 (lv_at hl 0 rfl) ?_
              refine keSi (rest := [.int (T 4 (tn p)), .int (T 3 (tn p)), .int p, .ref (L 0)]) (kcV 0 hC hK hN hW (c_X3_both l D G L hL T N q (T 5 (tn p)) ((T 6 (tn p)) &&& (x ^^^ (-1)))) (kgoodV tm_X3_82 ti_yX3_both te_yX3_both tz_X3 tc_yX3_both) kw_m rfl ⟨rfl, by decide, by decide, (show Option.map _ (parseMethodDescriptor yX3_both.desc) = some 2 from by decide +kernel)⟩ ⟨Nat.le_of_ble_eq_true rfl, Nat.le_of_ble_eq_true rfl⟩ hl.1 rfl (Nat.le_of_ble_eq_true rfl) ⟨Nat.le_refl _, Nat.le_refl _⟩ dX3_drop_98) ?_
              refine keSi (rest := []) (kcV 0 hC hK hN hW (c_X3_endpointsFit l D G L hL T N q p (T 3 (tn p)) (T 4 (tn p)) (kBoth T (T 5 (tn p)) ((T 6 (tn p)) &&& (x ^^^ (-1))))) (kgoodV tm_X3_94 ti_yX3_endpointsFit te_yX3_endpointsFit tz_X3 tc_yX3_endpointsFit) kw_m rfl ⟨rfl, by decide, by decide, (show Option.map _ (parseMethodDescriptor yX3_endpointsFit.desc) = some 4 from by decide +kernel)⟩ ⟨Nat.le_of_ble_eq_true rfl, Nat.le_of_ble_eq_true rfl⟩ hl.1 rfl (Nat.le_of_ble_eq_true rfl) ⟨Nat.le_refl _, Nat.le_refl _⟩ dX3_drop_101) ?_
              refine kif_ne (tgt := 110) hC.1 hC.2.1 dX3_drop_104 (by decide) (fun c_104 => ?_) (fun c_104 => ?_)
              · refine lv_aload hC.1 hC.2.1 dX3_drop_110 (lv_at hl 2 rfl) ?_
                refine lv_iload hC.1 hC.2.1 dX3_drop_112 (lv_at hl 1 rfl) ?_
                refine kp2N hC hK hN hW (kP.lt c_2) 4 (by decide) .int tf_X3_60 (by decide +kernel) rfl rfl dX3_drop_114 (fun H locs (hW : kWd D G L (kA L) zs.heap (kup T 5 (tn p) (T 5 (tn p))) N q H locs) => ?_)
                refine lv_aload hC.1 hC.2.1 dX3_drop_117 (lv_at hl 2 rfl) ?_
                refine lv_iload hC.1 hC.2.1 dX3_drop_119 (lv_at hl 0 rfl) ?_
                refine kp2N hC hK hN hW (kP.lt c_2) 5 (by decide) .int tf_X3_66 (by decide +kernel) rfl rfl dX3_drop_121 (fun H locs (hW : kWd D G L (kA L) zs.heap (kup (kup T 5 (tn p) (T 5 (tn p))) 6 (tn p) ((T 6 (tn p)) &&& (x ^^^ (-1)))) N q H locs) => ?_)
                refine lv_iload_n hC.1 hC.2.1 dX3_drop_124 rfl (lv_at hl 5 rfl) ?_
                refine lv_if_ne (tgt := 133) hC.1 hC.2.1 dX3_drop_125 (by decide) (fun c_125 => ?_) (fun c_125 => ?_)
                · refine lv_iload hC.1 hC.2.1 dX3_drop_133 (lv_at hl 0 rfl) ?_
                  exact krI hC hr hlk hW (by simp (config := {decide := true}) only [kif_true, kif_false, kb, kup_eq, kup_f, kup_i, not_true_eq_false, not_false_eq_true, and_true, true_and, and_false, false_and, and_self, or_true, true_or, or_false, false_or, a_drop, t_drop, kLb, kDok, kDp, kDm, c_2, c_16, c_21, c_29, c_36, c_59, c_104, c_125]) (by simp (config := {decide := true}) only [kif_true, kif_false, kb, kup_eq, kup_f, kup_i, not_true_eq_false, not_false_eq_true, and_true, true_and, and_false, false_and, and_self, or_true, true_or, or_false, false_or, a_drop, t_drop, kLb, kDok, kDp, kDm, c_2, c_16, c_21, c_29, c_36, c_59, c_104, c_125]) rfl rfl dX3_drop_135
                · exact absurd c_125 c_36
              · refine lv_ldc hC.1 hC.2.1 hC.2.2.2.1 (hC.2.2.2.2 _ (kt_in tk_X3_98 rfl)) dX3_drop_107 ?_
                exact krI hC hr hlk hW (by simp (config := {decide := true}) only [kif_true, kif_false, kb, kup_eq, kup_f, kup_i, not_true_eq_false, not_false_eq_true, and_true, true_and, and_false, false_and, and_self, or_true, true_or, or_false, false_or, a_drop, t_drop, kLb, kDok, kDp, kDm, c_2, c_16, c_21, c_29, c_36, c_59, c_104]) (by simp (config := {decide := true}) only [kif_true, kif_false, kb, kup_eq, kup_f, kup_i, not_true_eq_false, not_false_eq_true, and_true, true_and, and_false, false_and, and_self, or_true, true_or, or_false, false_or, a_drop, t_drop, kLb, kDok, kDp, kDm, c_2, c_16, c_21, c_29, c_36, c_59, c_104]) rfl rfl dX3_drop_109
            · exact absurd c_59 c_36
          · refine lv_aload hC.1 hC.2.1 dX3_drop_39 (lv_at hl 0 rfl) ?_
            refine kg2N hC hK hN hW (kP.lt c_2) 4 (v := .int (T 5 (tn p))) rfl (by decide) tf_X3_60 dX3_drop_41 ?_
            refine lv_iload_n hC.1 hC.2.1 dX3_drop_44 rfl (lv_at hl 4 rfl) ?_
            refine lv_iconst (v := (-1)) hC.1 hC.2.1 dX3_drop_45 (by decide) ?_
            refine lv_ixor hC.1 hC.2.1 dX3_drop_46 ?_
            refine lv_iand hC.1 hC.2.1 dX3_drop_47 ?_
            refine lv_goto (tgt := 56) hC.1 hC.2.1 dX3_drop_48 (by decide) ?_
            refine lv_istore (lv' := [(5, .int ((T 5 (tn p)) &&& (x ^^^ (-1)))), (4, .ref (L (4 + (tn p)))), (0, .ref (L 0)), (1, .int p), (2, .int w), (3, .int x)]) hC.1 hC.2.1 dX3_drop_56 hl (by decide) rfl (fun ls hl => ?_)
            refine lv_iload_n hC.1 hC.2.1 dX3_drop_58 rfl (lv_at hl 4 rfl) ?_
            refine lv_if_ne (tgt := 70) hC.1 hC.2.1 dX3_drop_59 (by decide) (fun c_59 => ?_) (fun c_59 => ?_)
            · exact absurd c_36 c_59
            · refine lv_aload hC.1 hC.2.1 dX3_drop_62 (lv_at hl 1 rfl) ?_
              refine kg2N hC hK hN hW (kP.lt c_2) 5 (v := .int (T 6 (tn p))) rfl (by decide) tf_X3_66 dX3_drop_64 ?_
              refine lv_goto (tgt := 79) hC.1 hC.2.1 dX3_drop_67 (by decide) ?_
              refine lv_istore (lv' := [(6, .int (T 6 (tn p))), (5, .int ((T 5 (tn p)) &&& (x ^^^ (-1)))), (4, .ref (L (4 + (tn p)))), (0, .ref (L 0)), (1, .int p), (2, .int w), (3, .int x)]) hC.1 hC.2.1 dX3_drop_79 hl (by decide) rfl (fun ls hl => ?_)
              refine lv_aload_n hC.1 hC.2.1 dX3_drop_81 rfl (lv_at hl 3 rfl) ?_
              refine lv_iload_n hC.1 hC.2.1 dX3_drop_82 rfl (lv_at hl 4 rfl) ?_
              refine lv_aload hC.1 hC.2.1 dX3_drop_83 (lv_at hl 2 rfl) ?_
              refine kg2N hC hK hN hW (kP.lt c_2) 2 (v := .int (T 3 (tn p))) rfl (by decide) tf_X3_69 dX3_drop_85 ?_
              refine lv_aload hC.1 hC.2.1 dX3_drop_88 (lv_at hl 2 rfl) ?_
              refine kg2N hC hK hN hW (kP.lt c_2) 3 (v := .int (T 4 (tn p))) rfl (by decide) tf_X3_72 dX3_drop_90 ?_
              refine lv_aload_n hC.1 hC.2.1 dX3_drop_93 rfl (lv_at hl 3 rfl) ?_
              refine lv_iload hC.1 hC.2.1 dX3_drop_94 (lv_at hl 1 rfl) ?_
              refine lv_iload hC.1 hC.2.1 dX3_drop_96 (lv_at hl 0 rfl) ?_
              refine keSi (rest := [.int (T 4 (tn p)), .int (T 3 (tn p)), .int p, .ref (L 0)]) (kcV 0 hC hK hN hW (c_X3_both l D G L hL T N q ((T 5 (tn p)) &&& (x ^^^ (-1))) (T 6 (tn p))) (kgoodV tm_X3_82 ti_yX3_both te_yX3_both tz_X3 tc_yX3_both) kw_m rfl ⟨rfl, by decide, by decide, (show Option.map _ (parseMethodDescriptor yX3_both.desc) = some 2 from by decide +kernel)⟩ ⟨Nat.le_of_ble_eq_true rfl, Nat.le_of_ble_eq_true rfl⟩ hl.1 rfl (Nat.le_of_ble_eq_true rfl) ⟨Nat.le_refl _, Nat.le_refl _⟩ dX3_drop_98) ?_
              refine keSi (rest := []) (kcV 0 hC hK hN hW (c_X3_endpointsFit l D G L hL T N q p (T 3 (tn p)) (T 4 (tn p)) (kBoth T ((T 5 (tn p)) &&& (x ^^^ (-1))) (T 6 (tn p)))) (kgoodV tm_X3_94 ti_yX3_endpointsFit te_yX3_endpointsFit tz_X3 tc_yX3_endpointsFit) kw_m rfl ⟨rfl, by decide, by decide, (show Option.map _ (parseMethodDescriptor yX3_endpointsFit.desc) = some 4 from by decide +kernel)⟩ ⟨Nat.le_of_ble_eq_true rfl, Nat.le_of_ble_eq_true rfl⟩ hl.1 rfl (Nat.le_of_ble_eq_true rfl) ⟨Nat.le_refl _, Nat.le_refl _⟩ dX3_drop_101) ?_
              refine kif_ne (tgt := 110) hC.1 hC.2.1 dX3_drop_104 (by decide) (fun c_104 => ?_) (fun c_104 => ?_)
              · refine lv_aload hC.1 hC.2.1 dX3_drop_110 (lv_at hl 2 rfl) ?_
                refine lv_iload hC.1 hC.2.1 dX3_drop_112 (lv_at hl 1 rfl) ?_
                refine kp2N hC hK hN hW (kP.lt c_2) 4 (by decide) .int tf_X3_60 (by decide +kernel) rfl rfl dX3_drop_114 (fun H locs (hW : kWd D G L (kA L) zs.heap (kup T 5 (tn p) ((T 5 (tn p)) &&& (x ^^^ (-1)))) N q H locs) => ?_)
                refine lv_aload hC.1 hC.2.1 dX3_drop_117 (lv_at hl 2 rfl) ?_
                refine lv_iload hC.1 hC.2.1 dX3_drop_119 (lv_at hl 0 rfl) ?_
                refine kp2N hC hK hN hW (kP.lt c_2) 5 (by decide) .int tf_X3_66 (by decide +kernel) rfl rfl dX3_drop_121 (fun H locs (hW : kWd D G L (kA L) zs.heap (kup (kup T 5 (tn p) ((T 5 (tn p)) &&& (x ^^^ (-1)))) 6 (tn p) (T 6 (tn p))) N q H locs) => ?_)
                refine lv_iload_n hC.1 hC.2.1 dX3_drop_124 rfl (lv_at hl 5 rfl) ?_
                refine lv_if_ne (tgt := 133) hC.1 hC.2.1 dX3_drop_125 (by decide) (fun c_125 => ?_) (fun c_125 => ?_)
                · exact absurd c_36 c_125
                · refine lv_iload hC.1 hC.2.1 dX3_drop_128 (lv_at hl 1 rfl) ?_
                  refine lv_goto (tgt := 135) hC.1 hC.2.1 dX3_drop_130 (by decide) ?_
                  exact krI hC hr hlk hW (by simp (config := {decide := true}) only [kif_true, kif_false, kb, kup_eq, kup_f, kup_i, not_true_eq_false, not_false_eq_true, and_true, true_and, and_false, false_and, and_self, or_true, true_or, or_false, false_or, a_drop, t_drop, kLb, kDok, kDp, kDm, c_2, c_16, c_21, c_29, c_36, c_59, c_104, c_125]) (by simp (config := {decide := true}) only [kif_true, kif_false, kb, kup_eq, kup_f, kup_i, not_true_eq_false, not_false_eq_true, and_true, true_and, and_false, false_and, and_self, or_true, true_or, or_false, false_or, a_drop, t_drop, kLb, kDok, kDp, kDm, c_2, c_16, c_21, c_29, c_36, c_59, c_104, c_125]) rfl rfl dX3_drop_135
              · refine lv_ldc hC.1 hC.2.1 hC.2.2.2.1 (hC.2.2.2.2 _ (kt_in tk_X3_98 rfl)) dX3_drop_107 ?_
                exact krI hC hr hlk hW (by simp (config := {decide := true}) only [kif_true, kif_false, kb, kup_eq, kup_f, kup_i, not_true_eq_false, not_false_eq_true, and_true, true_and, and_false, false_and, and_self, or_true, true_or, or_false, false_or, a_drop, t_drop, kLb, kDok, kDp, kDm, c_2, c_16, c_21, c_29, c_36, c_59, c_104]) (by simp (config := {decide := true}) only [kif_true, kif_false, kb, kup_eq, kup_f, kup_i, not_true_eq_false, not_false_eq_true, and_true, true_and, and_false, false_and, and_self, or_true, true_or, or_false, false_or, a_drop, t_drop, kLb, kDok, kDp, kDm, c_2, c_16, c_21, c_29, c_36, c_59, c_104]) rfl rfl dX3_drop_109
        · refine lv_ldc hC.1 hC.2.1 hC.2.2.2.1 (hC.2.2.2.2 _ (kt_in tk_X3_52 rfl)) dX3_drop_32 ?_
          exact krI hC hr hlk hW (by simp (config := {decide := true}) only [kif_true, kif_false, kb, kup_eq, kup_f, kup_i, not_true_eq_false, not_false_eq_true, and_true, true_and, and_false, false_and, and_self, or_true, true_or, or_false, false_or, a_drop, t_drop, kLb, kDok, kDp, kDm, c_2, c_16, c_21, c_29]) (by simp (config := {decide := true}) only [kif_true, kif_false, kb, kup_eq, kup_f, kup_i, not_true_eq_false, not_false_eq_true, and_true, true_and, and_false, false_and, and_self, or_true, true_or, or_false, false_or, a_drop, t_drop, kLb, kDok, kDp, kDm, c_2, c_16, c_21, c_29]) rfl rfl dX3_drop_34
  · refine lv_astoreN (lv' := [(4, .null), (0, .ref (L 0)), (1, .int p), (2, .int w), (3, .int x)]) hC.1 hC.2.1 dX3_drop_5 hl (by decide) rfl (fun ls hl => ?_)
    refine lv_aloadN hC.1 hC.2.1 dX3_drop_7 (lv_at hl 0 rfl) ?_
    refine lv_ifnonnullN hC.1 hC.2.1 dX3_drop_9 ?_
    refine lv_ldc hC.1 hC.2.1 hC.2.2.2.1 (hC.2.2.2.2 _ (kt_in tk_X3_51 rfl)) dX3_drop_12 ?_
    exact krI hC hr hlk hW (by simp (config := {decide := true}) only [kif_true, kif_false, kb, kup_eq, kup_f, kup_i, not_true_eq_false, not_false_eq_true, and_true, true_and, and_false, false_and, and_self, or_true, true_or, or_false, false_or, a_drop, t_drop, kLb, kDok, kDp, kDm, c_2]) (by simp (config := {decide := true}) only [kif_true, kif_false, kb, kup_eq, kup_f, kup_i, not_true_eq_false, not_false_eq_true, and_true, true_and, and_false, false_and, and_self, or_true, true_or, or_false, false_or, a_drop, t_drop, kLb, kDok, kDp, kDm, c_2]) rfl rfl dX3_drop_14
set_option maxHeartbeats 4000000 in
set_option maxRecDepth 100000 in
theorem c_X3_spawn (l : Launch) (D : va_G) (G : Nat → ClassId) (L : Nat → Nat) (hL : kL L) (T N : kT) (q : kQ) (p : Int32) (s : Int32) (t : Int32) (a : Int32) (b : Int32) (hno : ¬ T 0 1 < 0) : kM l yX3_spawn cX3_spawn 9 (some .int) 2 44 (kPc D G L T N q [.ref (L 0), .int p, .int s, .int t, .int a, .int b]) (kQi D G L (a_spawn T p s t a b) (t_spawn T p s t a b) N q) (kA L) := by
  refine kBegin (by decide) (Nat.le_of_ble_eq_true rfl) ?_
  intro zp ze zs zm zargs zbelow zmeth zc hC hr hlk hB ls hl
  obtain ⟨hP, hK, hN⟩ := hB
  have hW : kWd D G L (kA L) zs.heap T N q zs.heap [] := kWd.start hL hP
  have hl : lv_has ls 9 [(0, .ref (L 0)), (1, .int p), (2, .int s), (3, .int t), (4, .int a), (5, .int b)] := hl
  refine lv_aload_n hC.1 hC.2.1 dX3_spawn_0 rfl (lv_at hl 0 rfl) ?_
  refine lv_iload_n hC.1 hC.2.1 dX3_spawn_1 rfl (lv_at hl 1 rfl) ?_
  refine keSq (rest := []) (kcV 0 hC hK hN hW (c_X3_processAt l D G L hL T N q p) (kgoodV tm_X3_47 ti_yX3_processAt te_yX3_processAt tz_X3 tc_yX3_processAt) kw_m rfl ⟨rfl, by decide, by decide, (show Option.map _ (parseMethodDescriptor yX3_processAt.desc) = some 1 from by decide +kernel)⟩ ⟨Nat.le_of_ble_eq_true rfl, Nat.le_of_ble_eq_true rfl⟩ hl.1 rfl (Nat.le_of_ble_eq_true rfl) ⟨Nat.le_refl _, Nat.le_refl _⟩ dX3_spawn_2) ?_
  refine kopt (P := kP T p) (fun c_2 => ?_) (fun c_2 => ?_)
  · refine lv_astore (lv' := [(6, .ref (L (4 + (tn p)))), (0, .ref (L 0)), (1, .int p), (2, .int s), (3, .int t), (4, .int a), (5, .int b)]) hC.1 hC.2.1 dX3_spawn_5 hl (by decide) rfl (fun ls hl => ?_)
    refine lv_aload hC.1 hC.2.1 dX3_spawn_7 (lv_at hl 0 rfl) ?_
    refine lv_ifnonnull (tgt := 15) hC.1 hC.2.1 dX3_spawn_9 (by decide) ?_
    refine lv_aload_n hC.1 hC.2.1 dX3_spawn_15 rfl (lv_at hl 1 rfl) ?_
    refine lv_iload_n hC.1 hC.2.1 dX3_spawn_16 rfl (lv_at hl 3 rfl) ?_
    refine keSi (rest := []) (kcV 0 hC hK hN hW (c_X3_isSet l D G L hL T N q s) (kgoodV tm_X3_86 ti_yX3_isSet te_yX3_isSet tz_X3 tc_yX3_isSet) kw_m rfl ⟨rfl, by decide, by decide, (show Option.map _ (parseMethodDescriptor yX3_isSet.desc) = some 1 from by decide +kernel)⟩ ⟨Nat.le_of_ble_eq_true rfl, Nat.le_of_ble_eq_true rfl⟩ hl.1 rfl (Nat.le_of_ble_eq_true rfl) ⟨Nat.le_refl _, Nat.le_refl _⟩ dX3_spawn_17) ?_
    refine kif_eq (tgt := 49) hC.1 hC.2.1 dX3_spawn_20 (by decide) (fun c_20 => ?_) (fun c_20 => ?_)
    · refine lv_ldc hC.1 hC.2.1 hC.2.2.2.1 (hC.2.2.2.2 _ (kt_in tk_X3_52 rfl)) dX3_spawn_49 ?_
      exact krI hC hr hlk hW (by simp (config := {decide := true}) only [kif_true, kif_false, kb, kup_eq, kup_f, kup_i, not_true_eq_false, not_false_eq_true, and_true, true_and, and_false, false_and, and_self, or_true, true_or, or_false, false_or, a_spawn, t_spawn, kSps, kSpo, c_2, c_20]) (by simp (config := {decide := true}) only [kif_true, kif_false, kb, kup_eq, kup_f, kup_i, not_true_eq_false, not_false_eq_true, and_true, true_and, and_false, false_and, and_self, or_true, true_or, or_false, false_or, a_spawn, t_spawn, kSps, kSpo, c_2, c_20]) rfl rfl dX3_spawn_51
    · refine lv_aload_n hC.1 hC.2.1 dX3_spawn_23 rfl (lv_at hl 1 rfl) ?_
      refine lv_iload_n hC.1 hC.2.1 dX3_spawn_24 rfl (lv_at hl 4 rfl) ?_
      refine keSi (rest := []) (kcV 0 hC hK hN hW (c_X3_isSet l D G L hL T N q t) (kgoodV tm_X3_86 ti_yX3_isSet te_yX3_isSet tz_X3 tc_yX3_isSet) kw_m rfl ⟨rfl, by decide, by decide, (show Option.map _ (parseMethodDescriptor yX3_isSet.desc) = some 1 from by decide +kernel)⟩ ⟨Nat.le_of_ble_eq_true rfl, Nat.le_of_ble_eq_true rfl⟩ hl.1 rfl (Nat.le_of_ble_eq_true rfl) ⟨Nat.le_refl _, Nat.le_refl _⟩ dX3_spawn_25) ?_
      refine kif_eq (tgt := 49) hC.1 hC.2.1 dX3_spawn_28 (by decide) (fun c_28 => ?_) (fun c_28 => ?_)
      · refine lv_ldc hC.1 hC.2.1 hC.2.2.2.1 (hC.2.2.2.2 _ (kt_in tk_X3_52 rfl)) dX3_spawn_49 ?_
        exact krI hC hr hlk hW (by simp (config := {decide := true}) only [kif_true, kif_false, kb, kup_eq, kup_f, kup_i, not_true_eq_false, not_false_eq_true, and_true, true_and, and_false, false_and, and_self, or_true, true_or, or_false, false_or, a_spawn, t_spawn, kSps, kSpo, c_2, c_20, c_28]) (by simp (config := {decide := true}) only [kif_true, kif_false, kb, kup_eq, kup_f, kup_i, not_true_eq_false, not_false_eq_true, and_true, true_and, and_false, false_and, and_self, or_true, true_or, or_false, false_or, a_spawn, t_spawn, kSps, kSpo, c_2, c_20, c_28]) rfl rfl dX3_spawn_51
      · refine lv_aload_n hC.1 hC.2.1 dX3_spawn_31 rfl (lv_at hl 1 rfl) ?_
        refine lv_iload hC.1 hC.2.1 dX3_spawn_32 (lv_at hl 5 rfl) ?_
        refine keSi (rest := []) (kcV 0 hC hK hN hW (c_X3_isSet l D G L hL T N q a) (kgoodV tm_X3_86 ti_yX3_isSet te_yX3_isSet tz_X3 tc_yX3_isSet) kw_m rfl ⟨rfl, by decide, by decide, (show Option.map _ (parseMethodDescriptor yX3_isSet.desc) = some 1 from by decide +kernel)⟩ ⟨Nat.le_of_ble_eq_true rfl, Nat.le_of_ble_eq_true rfl⟩ hl.1 rfl (Nat.le_of_ble_eq_true rfl) ⟨Nat.le_refl _, Nat.le_refl _⟩ dX3_spawn_34) ?_
        refine kif_eq (tgt := 49) hC.1 hC.2.1 dX3_spawn_37 (by decide) (fun c_37 => ?_) (fun c_37 => ?_)
        · refine lv_ldc hC.1 hC.2.1 hC.2.2.2.1 (hC.2.2.2.2 _ (kt_in tk_X3_52 rfl)) dX3_spawn_49 ?_
          exact krI hC hr hlk hW (by simp (config := {decide := true}) only [kif_true, kif_false, kb, kup_eq, kup_f, kup_i, not_true_eq_false, not_false_eq_true, and_true, true_and, and_false, false_and, and_self, or_true, true_or, or_false, false_or, a_spawn, t_spawn, kSps, kSpo, c_2, c_20, c_28, c_37]) (by simp (config := {decide := true}) only [kif_true, kif_false, kb, kup_eq, kup_f, kup_i, not_true_eq_false, not_false_eq_true, and_true, true_and, and_false, false_and, and_self, or_true, true_or, or_false, false_or, a_spawn, t_spawn, kSps, kSpo, c_2, c_20, c_28, c_37]) rfl rfl dX3_spawn_51
        · refine lv_aload_n hC.1 hC.2.1 dX3_spawn_40 rfl (lv_at hl 1 rfl) ?_
          refine lv_iload hC.1 hC.2.1 dX3_spawn_41 (lv_at hl 6 rfl) ?_
          refine keSi (rest := []) (kcV 0 hC hK hN hW (c_X3_isSet l D G L hL T N q b) (kgoodV tm_X3_86 ti_yX3_isSet te_yX3_isSet tz_X3 tc_yX3_isSet) kw_m rfl ⟨rfl, by decide, by decide, (show Option.map _ (parseMethodDescriptor yX3_isSet.desc) = some 1 from by decide +kernel)⟩ ⟨Nat.le_of_ble_eq_true rfl, Nat.le_of_ble_eq_true rfl⟩ hl.1 rfl (Nat.le_of_ble_eq_true rfl) ⟨Nat.le_refl _, Nat.le_refl _⟩ dX3_spawn_43) ?_
          refine kif_ne (tgt := 52) hC.1 hC.2.1 dX3_spawn_46 (by decide) (fun c_46 => ?_) (fun c_46 => ?_)
          · refine lv_aload_n hC.1 hC.2.1 dX3_spawn_52 rfl (lv_at hl 1 rfl) ?_
            refine lv_aload hC.1 hC.2.1 dX3_spawn_53 (lv_at hl 0 rfl) ?_
            refine lv_aload hC.1 hC.2.1 dX3_spawn_55 (lv_at hl 0 rfl) ?_
            refine kg2N hC hK hN hW (kP.lt c_2) 2 (v := .int (T 3 (tn p))) rfl (by decide) tf_X3_69 dX3_spawn_57 ?_
            refine lv_iload_n hC.1 hC.2.1 dX3_spawn_60 rfl (lv_at hl 3 rfl) ?_
            refine keSi (rest := []) (kcV 0 hC hK hN hW (c_X3_isSafe l D G L hL T N q (tn p) (kP.lt c_2) (T 3 (tn p)) s) (kgoodV tm_X3_90 ti_yX3_isSafe te_yX3_isSafe tz_X3 tc_yX3_isSafe) kw_m rfl ⟨rfl, by decide, by decide, (show Option.map _ (parseMethodDescriptor yX3_isSafe.desc) = some 3 from by decide +kernel)⟩ ⟨Nat.le_of_ble_eq_true rfl, Nat.le_of_ble_eq_true rfl⟩ hl.1 rfl (Nat.le_of_ble_eq_true rfl) ⟨Nat.le_refl _, Nat.le_refl _⟩ dX3_spawn_61) ?_
            refine kif_eq (tgt := 86) hC.1 hC.2.1 dX3_spawn_64 (by decide) (fun c_64 => ?_) (fun c_64 => ?_)
            · refine lv_iconst (v := 0) hC.1 hC.2.1 dX3_spawn_86 (by decide) ?_
              refine lv_istore (lv' := [(7, .int 0), (6, .ref (L (4 + (tn p)))), (0, .ref (L 0)), (1, .int p), (2, .int s), (3, .int t), (4, .int a), (5, .int b)]) hC.1 hC.2.1 dX3_spawn_87 hl (by decide) rfl (fun ls hl => ?_)
              refine lv_iload hC.1 hC.2.1 dX3_spawn_89 (lv_at hl 0 rfl) ?_
              refine lv_if_eq (tgt := 106) hC.1 hC.2.1 dX3_spawn_91 (by decide) (fun c_91 => ?_) (fun c_91 => ?_)
              · refine lv_ldc hC.1 hC.2.1 hC.2.2.2.1 (hC.2.2.2.2 _ (kt_in tk_X3_98 rfl)) dX3_spawn_106 ?_
                exact krI hC hr hlk hW (by simp (config := {decide := true}) only [kif_true, kif_false, kb, kup_eq, kup_f, kup_i, not_true_eq_false, not_false_eq_true, and_true, true_and, and_false, false_and, and_self, or_true, true_or, or_false, false_or, a_spawn, t_spawn, kSps, kSpo, c_2, c_20, c_28, c_37, c_46, c_64, c_91]) (by simp (config := {decide := true}) only [kif_true, kif_false, kb, kup_eq, kup_f, kup_i, not_true_eq_false, not_false_eq_true, and_true, true_and, and_false, false_and, and_self, or_true, true_or, or_false, false_or, a_spawn, t_spawn, kSps, kSpo, c_2, c_20, c_28, c_37, c_46, c_64, c_91]) rfl rfl dX3_spawn_108
              · exact absurd (by decide) c_91
            · refine lv_aload_n hC.1 hC.2.1 dX3_spawn_67 rfl (lv_at hl 1 rfl) ?_
              refine lv_aload hC.1 hC.2.1 dX3_spawn_68 (lv_at hl 0 rfl) ?_
              refine lv_aload hC.1 hC.2.1 dX3_spawn_70 (lv_at hl 0 rfl) ?_
              refine kg2N hC hK hN hW (kP.lt c_2) 3 (v := .int (T 4 (tn p))) rfl (by decide) tf_X3_72 dX3_spawn_72 ?_
              refine lv_iload_n hC.1 hC.2.1 dX3_spawn_75 rfl (lv_at hl 4 rfl) ?_
              refine keSi (rest := []) (kcV 0 hC hK hN hW (c_X3_isSafe l D G L hL T N q (tn p) (kP.lt c_2) (T 4 (tn p)) t) (kgoodV tm_X3_90 ti_yX3_isSafe te_yX3_isSafe tz_X3 tc_yX3_isSafe) kw_m rfl ⟨rfl, by decide, by decide, (show Option.map _ (parseMethodDescriptor yX3_isSafe.desc) = some 3 from by decide +kernel)⟩ ⟨Nat.le_of_ble_eq_true rfl, Nat.le_of_ble_eq_true rfl⟩ hl.1 rfl (Nat.le_of_ble_eq_true rfl) ⟨Nat.le_refl _, Nat.le_refl _⟩ dX3_spawn_76) ?_
              refine kif_eq (tgt := 86) hC.1 hC.2.1 dX3_spawn_79 (by decide) (fun c_79 => ?_) (fun c_79 => ?_)
              · refine lv_iconst (v := 0) hC.1 hC.2.1 dX3_spawn_86 (by decide) ?_
                refine lv_istore (lv' := [(7, .int 0), (6, .ref (L (4 + (tn p)))), (0, .ref (L 0)), (1, .int p), (2, .int s), (3, .int t), (4, .int a), (5, .int b)]) hC.1 hC.2.1 dX3_spawn_87 hl (by decide) rfl (fun ls hl => ?_)
                refine lv_iload hC.1 hC.2.1 dX3_spawn_89 (lv_at hl 0 rfl) ?_
                refine lv_if_eq (tgt := 106) hC.1 hC.2.1 dX3_spawn_91 (by decide) (fun c_91 => ?_) (fun c_91 => ?_)
                · refine lv_ldc hC.1 hC.2.1 hC.2.2.2.1 (hC.2.2.2.2 _ (kt_in tk_X3_98 rfl)) dX3_spawn_106 ?_
                  exact krI hC hr hlk hW (by simp (config := {decide := true}) only [kif_true, kif_false, kb, kup_eq, kup_f, kup_i, not_true_eq_false, not_false_eq_true, and_true, true_and, and_false, false_and, and_self, or_true, true_or, or_false, false_or, a_spawn, t_spawn, kSps, kSpo, c_2, c_20, c_28, c_37, c_46, c_64, c_79, c_91]) (by simp (config := {decide := true}) only [kif_true, kif_false, kb, kup_eq, kup_f, kup_i, not_true_eq_false, not_false_eq_true, and_true, true_and, and_false, false_and, and_self, or_true, true_or, or_false, false_or, a_spawn, t_spawn, kSps, kSpo, c_2, c_20, c_28, c_37, c_46, c_64, c_79, c_91]) rfl rfl dX3_spawn_108
                · exact absurd (by decide) c_91
              · refine lv_iconst (v := 1) hC.1 hC.2.1 dX3_spawn_82 (by decide) ?_
                refine lv_goto (tgt := 87) hC.1 hC.2.1 dX3_spawn_83 (by decide) ?_
                refine lv_istore (lv' := [(7, .int 1), (6, .ref (L (4 + (tn p)))), (0, .ref (L 0)), (1, .int p), (2, .int s), (3, .int t), (4, .int a), (5, .int b)]) hC.1 hC.2.1 dX3_spawn_87 hl (by decide) rfl (fun ls hl => ?_)
                refine lv_iload hC.1 hC.2.1 dX3_spawn_89 (lv_at hl 0 rfl) ?_
                refine lv_if_eq (tgt := 106) hC.1 hC.2.1 dX3_spawn_91 (by decide) (fun c_91 => ?_) (fun c_91 => ?_)
                · exact absurd c_91 (by decide)
                · refine lv_aload hC.1 hC.2.1 dX3_spawn_94 (lv_at hl 1 rfl) ?_
                  refine lv_iload hC.1 hC.2.1 dX3_spawn_96 (lv_at hl 6 rfl) ?_
                  refine lv_iload hC.1 hC.2.1 dX3_spawn_98 (lv_at hl 7 rfl) ?_
                  refine keSi (rest := []) (kcS hC hK hN hW (c_X3_owns l D G L hL T N q (tn p) (kP.lt c_2) a b) (kgoodS tm_X3_99 ts_yX3_owns tz_X3 tc_yX3_owns) ⟨rfl, by decide, by decide, (show Option.map _ (parseMethodDescriptor yX3_owns.desc) = some 3 from by decide +kernel)⟩ ⟨Nat.le_of_ble_eq_true rfl, Nat.le_of_ble_eq_true rfl⟩ hl.1 rfl (Nat.le_of_ble_eq_true rfl) ⟨Nat.le_refl _, Nat.le_refl _⟩ dX3_spawn_100) ?_
                  refine kif_ne (tgt := 109) hC.1 hC.2.1 dX3_spawn_103 (by decide) (fun c_103 => ?_) (fun c_103 => ?_)
                  · refine lv_aload_n hC.1 hC.2.1 dX3_spawn_109 rfl (lv_at hl 2 rfl) ?_
                    refine kg3 hC hK hW 4 (v := .int (T 0 1)) rfl (by decide) tf_X3_34 dX3_spawn_110 ?_
                    refine lv_istore (lv' := [(8, .int (T 0 1)), (7, .int 1), (6, .ref (L (4 + (tn p)))), (0, .ref (L 0)), (1, .int p), (2, .int s), (3, .int t), (4, .int a), (5, .int b)]) hC.1 hC.2.1 dX3_spawn_113 hl (by decide) rfl (fun ls hl => ?_)
                    refine lv_iload hC.1 hC.2.1 dX3_spawn_115 (lv_at hl 0 rfl) ?_
                    refine lv_aload_n hC.1 hC.2.1 dX3_spawn_117 rfl (lv_at hl 3 rfl) ?_
                    refine kg3 hC hK hW 0 (v := .ref (L 1)) rfl (by decide) tf_X3_11 dX3_spawn_118 ?_
                    refine kal1 hC hK hW dX3_spawn_121 ?_
                    refine lv_icmp_lt (tgt := 128) hC.1 hC.2.1 dX3_spawn_122 (by decide) (fun c_122 => ?_) (fun c_122 => ?_)
                    · refine lv_aload_n hC.1 hC.2.1 dX3_spawn_128 rfl (lv_at hl 3 rfl) ?_
                      refine kg3 hC hK hW 0 (v := .ref (L 1)) rfl (by decide) tf_X3_11 dX3_spawn_129 ?_
                      refine lv_iload hC.1 hC.2.1 dX3_spawn_132 (lv_at hl 0 rfl) ?_
                      refine kar1 hC hK hW (kinL24 hno c_122) dX3_spawn_134 ?_
                      refine lv_iload_n hC.1 hC.2.1 dX3_spawn_135 rfl (lv_at hl 4 rfl) ?_
                      refine lv_iload_n hC.1 hC.2.1 dX3_spawn_136 rfl (lv_at hl 5 rfl) ?_
                      refine lv_iload_n hC.1 hC.2.1 dX3_spawn_137 rfl (lv_at hl 6 rfl) ?_
                      refine lv_iload hC.1 hC.2.1 dX3_spawn_138 (lv_at hl 7 rfl) ?_
                      refine lv_iload hC.1 hC.2.1 dX3_spawn_140 (lv_at hl 8 rfl) ?_
                      refine keQv (rest := []) (kcVN (4 + (tn (T 0 1))) hC hK hN hW (c_X2_begin l D G L hL T N q (tn (T 0 1)) (kin_lt (kinL24 hno c_122)) p s t a b) tm_X3_30 ti_yX2_begin te_yX2_begin tz_X2 tc_yX2_begin (kw_p (kin_lt (kinL24 hno c_122))) rfl ⟨by decide, by decide, (show Option.map _ (parseMethodDescriptor yX2_begin.desc) = some 5 from by decide +kernel)⟩ ⟨Nat.le_of_ble_eq_true rfl, Nat.le_of_ble_eq_true rfl⟩ hl.1 rfl (Nat.le_of_ble_eq_true rfl) ⟨Nat.le_refl _, Nat.le_refl _⟩ dX3_spawn_142) hW (fun H locs (hW : kWd D G L (kA L) zs.heap (t_X2_begin T (tn (T 0 1)) p s t a b) N q H locs) => ?_)
                      refine lv_aload_n hC.1 hC.2.1 dX3_spawn_145 rfl (lv_at hl 3 rfl) ?_
                      refine lv_iload hC.1 hC.2.1 dX3_spawn_146 (lv_at hl 0 rfl) ?_
                      refine lv_iconst (v := 1) hC.1 hC.2.1 dX3_spawn_148 (by decide) ?_
                      refine lv_iadd hC.1 hC.2.1 dX3_spawn_149 ?_
                      refine kp3 hC hK hW 4 (by decide) (by decide) tf_X3_34 dX3_spawn_150 (fun H locs (hW : kWd D G L (kA L) zs.heap (kup (t_X2_begin T (tn (T 0 1)) p s t a b) 0 1 ((T 0 1) + 1)) N q H locs) => ?_)
                      refine lv_iload hC.1 hC.2.1 dX3_spawn_153 (lv_at hl 0 rfl) ?_
                      exact krI hC hr hlk hW (by simp (config := {decide := true}) only [kif_true, kif_false, kb, kup_eq, kup_f, kup_i, not_true_eq_false, not_false_eq_true, and_true, true_and, and_false, false_and, and_self, or_true, true_or, or_false, false_or, a_spawn, t_spawn, kSps, kSpo, c_2, c_20, c_28, c_37, c_46, c_64, c_79, c_91, c_103, c_122]) (by simp (config := {decide := true}) only [kif_true, kif_false, kb, kup_eq, kup_f, kup_i, not_true_eq_false, not_false_eq_true, and_true, true_and, and_false, false_and, and_self, or_true, true_or, or_false, false_or, a_spawn, t_spawn, kSps, kSpo, c_2, c_20, c_28, c_37, c_46, c_64, c_79, c_91, c_103, c_122]) rfl rfl dX3_spawn_155
                    · refine lv_ldc hC.1 hC.2.1 hC.2.2.2.1 (hC.2.2.2.2 _ (kt_in tk_X3_56 rfl)) dX3_spawn_125 ?_
                      exact krI hC hr hlk hW (by simp (config := {decide := true}) only [kif_true, kif_false, kb, kup_eq, kup_f, kup_i, not_true_eq_false, not_false_eq_true, and_true, true_and, and_false, false_and, and_self, or_true, true_or, or_false, false_or, a_spawn, t_spawn, kSps, kSpo, c_2, c_20, c_28, c_37, c_46, c_64, c_79, c_91, c_103, c_122]) (by simp (config := {decide := true}) only [kif_true, kif_false, kb, kup_eq, kup_f, kup_i, not_true_eq_false, not_false_eq_true, and_true, true_and, and_false, false_and, and_self, or_true, true_or, or_false, false_or, a_spawn, t_spawn, kSps, kSpo, c_2, c_20, c_28, c_37, c_46, c_64, c_79, c_91, c_103, c_122]) rfl rfl dX3_spawn_127
                  · refine lv_ldc hC.1 hC.2.1 hC.2.2.2.1 (hC.2.2.2.2 _ (kt_in tk_X3_98 rfl)) dX3_spawn_106 ?_
                    exact krI hC hr hlk hW (by simp (config := {decide := true}) only [kif_true, kif_false, kb, kup_eq, kup_f, kup_i, not_true_eq_false, not_false_eq_true, and_true, true_and, and_false, false_and, and_self, or_true, true_or, or_false, false_or, a_spawn, t_spawn, kSps, kSpo, c_2, c_20, c_28, c_37, c_46, c_64, c_79, c_91, c_103]) (by simp (config := {decide := true}) only [kif_true, kif_false, kb, kup_eq, kup_f, kup_i, not_true_eq_false, not_false_eq_true, and_true, true_and, and_false, false_and, and_self, or_true, true_or, or_false, false_or, a_spawn, t_spawn, kSps, kSpo, c_2, c_20, c_28, c_37, c_46, c_64, c_79, c_91, c_103]) rfl rfl dX3_spawn_108
          · refine lv_ldc hC.1 hC.2.1 hC.2.2.2.1 (hC.2.2.2.2 _ (kt_in tk_X3_52 rfl)) dX3_spawn_49 ?_
            exact krI hC hr hlk hW (by simp (config := {decide := true}) only [kif_true, kif_false, kb, kup_eq, kup_f, kup_i, not_true_eq_false, not_false_eq_true, and_true, true_and, and_false, false_and, and_self, or_true, true_or, or_false, false_or, a_spawn, t_spawn, kSps, kSpo, c_2, c_20, c_28, c_37, c_46]) (by simp (config := {decide := true}) only [kif_true, kif_false, kb, kup_eq, kup_f, kup_i, not_true_eq_false, not_false_eq_true, and_true, true_and, and_false, false_and, and_self, or_true, true_or, or_false, false_or, a_spawn, t_spawn, kSps, kSpo, c_2, c_20, c_28, c_37, c_46]) rfl rfl dX3_spawn_51
  · refine lv_astoreN (lv' := [(6, .null), (0, .ref (L 0)), (1, .int p), (2, .int s), (3, .int t), (4, .int a), (5, .int b)]) hC.1 hC.2.1 dX3_spawn_5 hl (by decide) rfl (fun ls hl => ?_)
    refine lv_aloadN hC.1 hC.2.1 dX3_spawn_7 (lv_at hl 0 rfl) ?_
    refine lv_ifnonnullN hC.1 hC.2.1 dX3_spawn_9 ?_
    refine lv_ldc hC.1 hC.2.1 hC.2.2.2.1 (hC.2.2.2.2 _ (kt_in tk_X3_51 rfl)) dX3_spawn_12 ?_
    exact krI hC hr hlk hW (by simp (config := {decide := true}) only [kif_true, kif_false, kb, kup_eq, kup_f, kup_i, not_true_eq_false, not_false_eq_true, and_true, true_and, and_false, false_and, and_self, or_true, true_or, or_false, false_or, a_spawn, t_spawn, kSps, kSpo, c_2]) (by simp (config := {decide := true}) only [kif_true, kif_false, kb, kup_eq, kup_f, kup_i, not_true_eq_false, not_false_eq_true, and_true, true_and, and_false, false_and, and_self, or_true, true_or, or_false, false_or, a_spawn, t_spawn, kSps, kSpo, c_2]) rfl rfl dX3_spawn_14
set_option maxHeartbeats 4000000 in
set_option maxRecDepth 100000 in
theorem c_X3_exit (l : Launch) (D : va_G) (G : Nat → ClassId) (L : Nat → Nat) (hL : kL L) (T N : kT) (q : kQ) (p : Int32) : kM l yX3_exit cX3_exit 4 (some .int) 1 23 (kPc D G L T N q [.ref (L 0), .int p]) (kQi D G L (a_exit T p) (t_exit T p) N q) (kA L) := by
  refine kBegin (by decide) (Nat.le_of_ble_eq_true rfl) ?_
  intro zp ze zs zm zargs zbelow zmeth zc hC hr hlk hB ls hl
  obtain ⟨hP, hK, hN⟩ := hB
  have hW : kWd D G L (kA L) zs.heap T N q zs.heap [] := kWd.start hL hP
  have hl : lv_has ls 4 [(0, .ref (L 0)), (1, .int p)] := hl
  refine lv_aload_n hC.1 hC.2.1 dX3_exit_0 rfl (lv_at hl 0 rfl) ?_
  refine lv_iload_n hC.1 hC.2.1 dX3_exit_1 rfl (lv_at hl 1 rfl) ?_
  refine keSq (rest := []) (kcV 0 hC hK hN hW (c_X3_processAt l D G L hL T N q p) (kgoodV tm_X3_47 ti_yX3_processAt te_yX3_processAt tz_X3 tc_yX3_processAt) kw_m rfl ⟨rfl, by decide, by decide, (show Option.map _ (parseMethodDescriptor yX3_processAt.desc) = some 1 from by decide +kernel)⟩ ⟨Nat.le_of_ble_eq_true rfl, Nat.le_of_ble_eq_true rfl⟩ hl.1 rfl (Nat.le_of_ble_eq_true rfl) ⟨Nat.le_refl _, Nat.le_refl _⟩ dX3_exit_2) ?_
  refine kopt (P := kP T p) (fun c_2 => ?_) (fun c_2 => ?_)
  · refine lv_astore_n (lv' := [(2, .ref (L (4 + (tn p)))), (0, .ref (L 0)), (1, .int p)]) hC.1 hC.2.1 dX3_exit_5 rfl hl (by decide) rfl (fun ls hl => ?_)
    refine lv_aload_n hC.1 hC.2.1 dX3_exit_6 rfl (lv_at hl 0 rfl) ?_
    refine lv_ifnonnull (tgt := 13) hC.1 hC.2.1 dX3_exit_7 (by decide) ?_
    refine lv_iload_n hC.1 hC.2.1 dX3_exit_13 rfl (lv_at hl 2 rfl) ?_
    refine lv_if_ne (tgt := 20) hC.1 hC.2.1 dX3_exit_14 (by decide) (fun c_14 => ?_) (fun c_14 => ?_)
    · refine lv_aload_n hC.1 hC.2.1 dX3_exit_20 rfl (lv_at hl 1 rfl) ?_
      refine lv_iload_n hC.1 hC.2.1 dX3_exit_21 rfl (lv_at hl 2 rfl) ?_
      refine keSi (rest := []) (kcV 0 hC hK hN hW (c_X3_openEndpointsOf l D G L hL T N q p) (kgoodV tm_X3_78 ti_yX3_openEndpointsOf te_yX3_openEndpointsOf tz_X3 tc_yX3_openEndpointsOf) kw_m rfl ⟨rfl, by decide, by decide, (show Option.map _ (parseMethodDescriptor yX3_openEndpointsOf.desc) = some 1 from by decide +kernel)⟩ ⟨Nat.le_of_ble_eq_true rfl, Nat.le_of_ble_eq_true rfl⟩ hl.1 rfl (Nat.le_of_ble_eq_true rfl) ⟨Nat.le_refl _, Nat.le_refl _⟩ dX3_exit_22) ?_
      refine lv_istore_n (lv' := [(3, .int (kOpn T p 40)), (2, .ref (L (4 + (tn p)))), (0, .ref (L 0)), (1, .int p)]) hC.1 hC.2.1 dX3_exit_25 rfl hl (by decide) rfl (fun ls hl => ?_)
      refine lv_aload_n hC.1 hC.2.1 dX3_exit_26 rfl (lv_at hl 1 rfl) ?_
      refine lv_iconst (v := 0) hC.1 hC.2.1 dX3_exit_27 (by decide) ?_
      refine kp2N hC hK hN hW (kP.lt c_2) 0 (by decide) .boolean tf_X3_102 (by decide +kernel) rfl rfl dX3_exit_28 (fun H locs (hW : kWd D G L (kA L) zs.heap (kup T 1 (tn p) 0) N q H locs) => ?_)
      refine lv_aload_n hC.1 hC.2.1 dX3_exit_31 rfl (lv_at hl 2 rfl) ?_
      refine lv_iload_n hC.1 hC.2.1 dX3_exit_32 rfl (lv_at hl 3 rfl) ?_
      refine keQv (rest := []) (kcV 0 hC hK hN hW (c_X3_closeEndpointsOf l D G L hL (kup T 1 (tn p) 0) N q p) (kgoodV tm_X3_106 ti_yX3_closeEndpointsOf te_yX3_closeEndpointsOf tz_X3 tc_yX3_closeEndpointsOf) kw_m rfl ⟨rfl, by decide, by decide, (show Option.map _ (parseMethodDescriptor yX3_closeEndpointsOf.desc) = some 1 from by decide +kernel)⟩ ⟨Nat.le_of_ble_eq_true rfl, Nat.le_of_ble_eq_true rfl⟩ hl.1 rfl (Nat.le_of_ble_eq_true rfl) ⟨Nat.le_refl _, Nat.le_refl _⟩ dX3_exit_33) hW (fun H locs (hW : kWd D G L (kA L) zs.heap (kfT (kClg p) (kup T 1 (tn p) 0) 40) N q H locs) => ?_)
      refine lv_iload_n hC.1 hC.2.1 dX3_exit_36 rfl (lv_at hl 0 rfl) ?_
      exact krI hC hr hlk hW (by simp (config := {decide := true}) only [kif_true, kif_false, kb, kup_eq, kup_f, kup_i, not_true_eq_false, not_false_eq_true, and_true, true_and, and_false, false_and, and_self, or_true, true_or, or_false, false_or, a_exit, t_exit, c_2, c_14]) (by simp (config := {decide := true}) only [kif_true, kif_false, kb, kup_eq, kup_f, kup_i, not_true_eq_false, not_false_eq_true, and_true, true_and, and_false, false_and, and_self, or_true, true_or, or_false, false_or, a_exit, t_exit, c_2, c_14]) rfl rfl dX3_exit_37
    · refine lv_ldc hC.1 hC.2.1 hC.2.2.2.1 (hC.2.2.2.2 _ (kt_in tk_X3_98 rfl)) dX3_exit_17 ?_
      exact krI hC hr hlk hW (by subst c_14; simp (config := {decide := true}) only [a_exit, kif_true, c_2]) (by subst c_14; simp (config := {decide := true}) only [t_exit, kif_true, kif_false, c_2, and_false, not_true_eq_false]) rfl rfl dX3_exit_19
  · refine lv_astore_nN (lv' := [(2, .null), (0, .ref (L 0)), (1, .int p)]) hC.1 hC.2.1 dX3_exit_5 rfl hl (by decide) rfl (fun ls hl => ?_)
    refine lv_aload_nN hC.1 hC.2.1 dX3_exit_6 rfl (lv_at hl 0 rfl) ?_
    refine lv_ifnonnullN hC.1 hC.2.1 dX3_exit_7 ?_
    refine lv_ldc hC.1 hC.2.1 hC.2.2.2.1 (hC.2.2.2.2 _ (kt_in tk_X3_51 rfl)) dX3_exit_10 ?_
    exact krI hC hr hlk hW (by simp (config := {decide := true}) only [kif_true, kif_false, kb, kup_eq, kup_f, kup_i, not_true_eq_false, not_false_eq_true, and_true, true_and, and_false, false_and, and_self, or_true, true_or, or_false, false_or, a_exit, t_exit, c_2]) (by simp (config := {decide := true}) only [kif_true, kif_false, kb, kup_eq, kup_f, kup_i, not_true_eq_false, not_false_eq_true, and_true, true_and, and_false, false_and, and_self, or_true, true_or, or_false, false_or, a_exit, t_exit, c_2]) rfl rfl dX3_exit_12
set_option maxHeartbeats 4000000 in
set_option maxRecDepth 100000 in
theorem c_X3_endpoint (l : Launch) (D : va_G) (G : Nat → ClassId) (L : Nat → Nat) (hL : kL L) (T N : kT) (q : kQ) (p : Int32) (s : Int32) (t : Int32) (hno : ¬ T 0 2 < 0) : kM l yX3_endpoint cX3_endpoint 7 (some .int) 1 23 (kPc D G L T N q [.ref (L 0), .int p, .int s, .int t]) (kQi D G L (a_endpoint T p s t) (t_endpoint T p s t) N q) (kA L) := by
  refine kBegin (by decide) (Nat.le_of_ble_eq_true rfl) ?_
  intro zp ze zs zm zargs zbelow zmeth zc hC hr hlk hB ls hl
  obtain ⟨hP, hK, hN⟩ := hB
  have hW : kWd D G L (kA L) zs.heap T N q zs.heap [] := kWd.start hL hP
  have hl : lv_has ls 7 [(0, .ref (L 0)), (1, .int p), (2, .int s), (3, .int t)] := hl
  refine lv_aload_n hC.1 hC.2.1 dX3_endpoint_0 rfl (lv_at hl 0 rfl) ?_
  refine lv_iload_n hC.1 hC.2.1 dX3_endpoint_1 rfl (lv_at hl 1 rfl) ?_
  refine keSq (rest := []) (kcV 0 hC hK hN hW (c_X3_processAt l D G L hL T N q p) (kgoodV tm_X3_47 ti_yX3_processAt te_yX3_processAt tz_X3 tc_yX3_processAt) kw_m rfl ⟨rfl, by decide, by decide, (show Option.map _ (parseMethodDescriptor yX3_processAt.desc) = some 1 from by decide +kernel)⟩ ⟨Nat.le_of_ble_eq_true rfl, Nat.le_of_ble_eq_true rfl⟩ hl.1 rfl (Nat.le_of_ble_eq_true rfl) ⟨Nat.le_refl _, Nat.le_refl _⟩ dX3_endpoint_2) ?_
  refine kopt (P := kP T p) (fun c_2 => ?_) (fun c_2 => ?_)
  · refine lv_astore (lv' := [(4, .ref (L (4 + (tn p)))), (0, .ref (L 0)), (1, .int p), (2, .int s), (3, .int t)]) hC.1 hC.2.1 dX3_endpoint_5 hl (by decide) rfl (fun ls hl => ?_)
    refine lv_aload hC.1 hC.2.1 dX3_endpoint_7 (lv_at hl 0 rfl) ?_
    refine lv_ifnonnull (tgt := 15) hC.1 hC.2.1 dX3_endpoint_9 (by decide) ?_
    refine lv_aload_n hC.1 hC.2.1 dX3_endpoint_15 rfl (lv_at hl 1 rfl) ?_
    refine lv_iload_n hC.1 hC.2.1 dX3_endpoint_16 rfl (lv_at hl 3 rfl) ?_
    refine keSi (rest := []) (kcV 0 hC hK hN hW (c_X3_isSet l D G L hL T N q s) (kgoodV tm_X3_86 ti_yX3_isSet te_yX3_isSet tz_X3 tc_yX3_isSet) kw_m rfl ⟨rfl, by decide, by decide, (show Option.map _ (parseMethodDescriptor yX3_isSet.desc) = some 1 from by decide +kernel)⟩ ⟨Nat.le_of_ble_eq_true rfl, Nat.le_of_ble_eq_true rfl⟩ hl.1 rfl (Nat.le_of_ble_eq_true rfl) ⟨Nat.le_refl _, Nat.le_refl _⟩ dX3_endpoint_17) ?_
    refine kif_eq (tgt := 31) hC.1 hC.2.1 dX3_endpoint_20 (by decide) (fun c_20 => ?_) (fun c_20 => ?_)
    · refine lv_ldc hC.1 hC.2.1 hC.2.2.2.1 (hC.2.2.2.2 _ (kt_in tk_X3_52 rfl)) dX3_endpoint_31 ?_
      exact krI hC hr hlk hW (by simp (config := {decide := true}) only [kif_true, kif_false, kb, kup_eq, kup_f, kup_i, not_true_eq_false, not_false_eq_true, and_true, true_and, and_false, false_and, and_self, or_true, true_or, or_false, false_or, a_endpoint, t_endpoint, kEok, c_2, c_20]) (by simp (config := {decide := true}) only [kif_true, kif_false, kb, kup_eq, kup_f, kup_i, not_true_eq_false, not_false_eq_true, and_true, true_and, and_false, false_and, and_self, or_true, true_or, or_false, false_or, a_endpoint, t_endpoint, kEok, c_2, c_20]) rfl rfl dX3_endpoint_33
    · refine lv_aload_n hC.1 hC.2.1 dX3_endpoint_23 rfl (lv_at hl 1 rfl) ?_
      refine lv_iload_n hC.1 hC.2.1 dX3_endpoint_24 rfl (lv_at hl 4 rfl) ?_
      refine keSi (rest := []) (kcV 0 hC hK hN hW (c_X3_isSet l D G L hL T N q t) (kgoodV tm_X3_86 ti_yX3_isSet te_yX3_isSet tz_X3 tc_yX3_isSet) kw_m rfl ⟨rfl, by decide, by decide, (show Option.map _ (parseMethodDescriptor yX3_isSet.desc) = some 1 from by decide +kernel)⟩ ⟨Nat.le_of_ble_eq_true rfl, Nat.le_of_ble_eq_true rfl⟩ hl.1 rfl (Nat.le_of_ble_eq_true rfl) ⟨Nat.le_refl _, Nat.le_refl _⟩ dX3_endpoint_25) ?_
      refine kif_ne (tgt := 34) hC.1 hC.2.1 dX3_endpoint_28 (by decide) (fun c_28 => ?_) (fun c_28 => ?_)
      · refine lv_iload_n hC.1 hC.2.1 dX3_endpoint_34 rfl (lv_at hl 3 rfl) ?_
        refine lv_aload hC.1 hC.2.1 dX3_endpoint_35 (lv_at hl 0 rfl) ?_
        refine kg2N hC hK hN hW (kP.lt c_2) 2 (v := .int (T 3 (tn p))) rfl (by decide) tf_X3_69 dX3_endpoint_37 ?_
        refine lv_ixor hC.1 hC.2.1 dX3_endpoint_40 ?_
        refine lv_iload_n hC.1 hC.2.1 dX3_endpoint_41 rfl (lv_at hl 4 rfl) ?_
        refine lv_aload hC.1 hC.2.1 dX3_endpoint_42 (lv_at hl 0 rfl) ?_
        refine kg2N hC hK hN hW (kP.lt c_2) 3 (v := .int (T 4 (tn p))) rfl (by decide) tf_X3_72 dX3_endpoint_44 ?_
        refine lv_ixor hC.1 hC.2.1 dX3_endpoint_47 ?_
        refine lv_ior hC.1 hC.2.1 dX3_endpoint_48 ?_
        refine lv_istore (lv' := [(5, .int ((s ^^^ (T 3 (tn p))) ||| (t ^^^ (T 4 (tn p))))), (4, .ref (L (4 + (tn p)))), (0, .ref (L 0)), (1, .int p), (2, .int s), (3, .int t)]) hC.1 hC.2.1 dX3_endpoint_49 hl (by decide) rfl (fun ls hl => ?_)
        refine lv_iload hC.1 hC.2.1 dX3_endpoint_51 (lv_at hl 0 rfl) ?_
        refine lv_aload_n hC.1 hC.2.1 dX3_endpoint_53 rfl (lv_at hl 2 rfl) ?_
        refine lv_aload hC.1 hC.2.1 dX3_endpoint_54 (lv_at hl 1 rfl) ?_
        refine kg2N hC hK hN hW (kP.lt c_2) 4 (v := .int (T 5 (tn p))) rfl (by decide) tf_X3_60 dX3_endpoint_56 ?_
        refine lv_aload hC.1 hC.2.1 dX3_endpoint_59 (lv_at hl 1 rfl) ?_
        refine kg2N hC hK hN hW (kP.lt c_2) 5 (v := .int (T 6 (tn p))) rfl (by decide) tf_X3_66 dX3_endpoint_61 ?_
        refine keSi (rest := [.int ((s ^^^ (T 3 (tn p))) ||| (t ^^^ (T 4 (tn p))))]) (kcV 0 hC hK hN hW (c_X3_both l D G L hL T N q (T 5 (tn p)) (T 6 (tn p))) (kgoodV tm_X3_82 ti_yX3_both te_yX3_both tz_X3 tc_yX3_both) kw_m rfl ⟨rfl, by decide, by decide, (show Option.map _ (parseMethodDescriptor yX3_both.desc) = some 2 from by decide +kernel)⟩ ⟨Nat.le_of_ble_eq_true rfl, Nat.le_of_ble_eq_true rfl⟩ hl.1 rfl (Nat.le_of_ble_eq_true rfl) ⟨Nat.le_refl _, Nat.le_refl _⟩ dX3_endpoint_64) ?_
        refine keSi (rest := []) (kcS0 hC (c_X3_isWithin l ((s ^^^ (T 3 (tn p))) ||| (t ^^^ (T 4 (tn p)))) (kBoth T (T 5 (tn p)) (T 6 (tn p)))) (kgoodS tm_X3_110 ts_yX3_isWithin tz_X3 tc_yX3_isWithin) ⟨rfl, by decide, by decide, (show Option.map _ (parseMethodDescriptor yX3_isWithin.desc) = some 2 from by decide +kernel)⟩ ⟨Nat.le_of_ble_eq_true rfl, Nat.le_of_ble_eq_true rfl⟩ hl.1 rfl (Nat.le_of_ble_eq_true rfl) ⟨Nat.le_refl _, Nat.le_refl _⟩ dX3_endpoint_67) ?_
        refine kif_ne (tgt := 76) hC.1 hC.2.1 dX3_endpoint_70 (by decide) (fun c_70 => ?_) (fun c_70 => ?_)
        · refine lv_aload_n hC.1 hC.2.1 dX3_endpoint_76 rfl (lv_at hl 2 rfl) ?_
          refine kg3 hC hK hW 5 (v := .int (T 0 2)) rfl (by decide) tf_X3_114 dX3_endpoint_77 ?_
          refine lv_istore (lv' := [(6, .int (T 0 2)), (5, .int ((s ^^^ (T 3 (tn p))) ||| (t ^^^ (T 4 (tn p))))), (4, .ref (L (4 + (tn p)))), (0, .ref (L 0)), (1, .int p), (2, .int s), (3, .int t)]) hC.1 hC.2.1 dX3_endpoint_80 hl (by decide) rfl (fun ls hl => ?_)
          refine lv_iload hC.1 hC.2.1 dX3_endpoint_82 (lv_at hl 0 rfl) ?_
          refine lv_aload_n hC.1 hC.2.1 dX3_endpoint_84 rfl (lv_at hl 3 rfl) ?_
          refine kg3 hC hK hW 1 (v := .ref (L 2)) rfl (by decide) tf_X3_18 dX3_endpoint_85 ?_
          refine kal2 hC hK hW dX3_endpoint_88 ?_
          refine lv_icmp_lt (tgt := 95) hC.1 hC.2.1 dX3_endpoint_89 (by decide) (fun c_89 => ?_) (fun c_89 => ?_)
          · refine lv_aload_n hC.1 hC.2.1 dX3_endpoint_95 rfl (lv_at hl 3 rfl) ?_
            refine kg3 hC hK hW 1 (v := .ref (L 2)) rfl (by decide) tf_X3_18 dX3_endpoint_96 ?_
            refine lv_iload hC.1 hC.2.1 dX3_endpoint_99 (lv_at hl 0 rfl) ?_
            refine kar2 hC hK hW (kinL40 hno c_89) dX3_endpoint_101 ?_
            refine lv_iload_n hC.1 hC.2.1 dX3_endpoint_102 rfl (lv_at hl 4 rfl) ?_
            refine lv_iload_n hC.1 hC.2.1 dX3_endpoint_103 rfl (lv_at hl 5 rfl) ?_
            refine lv_iload_n hC.1 hC.2.1 dX3_endpoint_104 rfl (lv_at hl 6 rfl) ?_
            refine keQv (rest := []) (kcVN (28 + (tn (T 0 2))) hC hK hN hW (c_X0_begin l D G L hL T N q (tn (T 0 2)) (kin_lt (kinL40 hno c_89)) p s t) tm_X3_117 ti_yX0_begin te_yX0_begin tz_X0 tc_yX0_begin (kw_e (kin_lt (kinL40 hno c_89))) rfl ⟨by decide, by decide, (show Option.map _ (parseMethodDescriptor yX0_begin.desc) = some 3 from by decide +kernel)⟩ ⟨Nat.le_of_ble_eq_true rfl, Nat.le_of_ble_eq_true rfl⟩ hl.1 rfl (Nat.le_of_ble_eq_true rfl) ⟨Nat.le_refl _, Nat.le_refl _⟩ dX3_endpoint_105) hW (fun H locs (hW : kWd D G L (kA L) zs.heap (t_X0_begin T (tn (T 0 2)) p s t) N q H locs) => ?_)
            refine lv_aload_n hC.1 hC.2.1 dX3_endpoint_108 rfl (lv_at hl 3 rfl) ?_
            refine lv_iload hC.1 hC.2.1 dX3_endpoint_109 (lv_at hl 0 rfl) ?_
            refine lv_iconst (v := 1) hC.1 hC.2.1 dX3_endpoint_111 (by decide) ?_
            refine lv_iadd hC.1 hC.2.1 dX3_endpoint_112 ?_
            refine kp3 hC hK hW 5 (by decide) (by decide) tf_X3_114 dX3_endpoint_113 (fun H locs (hW : kWd D G L (kA L) zs.heap (kup (t_X0_begin T (tn (T 0 2)) p s t) 0 2 ((T 0 2) + 1)) N q H locs) => ?_)
            refine lv_iload hC.1 hC.2.1 dX3_endpoint_116 (lv_at hl 0 rfl) ?_
            exact krI hC hr hlk hW (by simp (config := {decide := true}) only [kif_true, kif_false, kb, kup_eq, kup_f, kup_i, not_true_eq_false, not_false_eq_true, and_true, true_and, and_false, false_and, and_self, or_true, true_or, or_false, false_or, a_endpoint, t_endpoint, kEok, c_2, c_20, c_28, c_70, c_89]) (by simp (config := {decide := true}) only [kif_true, kif_false, kb, kup_eq, kup_f, kup_i, not_true_eq_false, not_false_eq_true, and_true, true_and, and_false, false_and, and_self, or_true, true_or, or_false, false_or, a_endpoint, t_endpoint, kEok, c_2, c_20, c_28, c_70, c_89]) rfl rfl dX3_endpoint_118
          · refine lv_ldc hC.1 hC.2.1 hC.2.2.2.1 (hC.2.2.2.2 _ (kt_in tk_X3_56 rfl)) dX3_endpoint_92 ?_
            exact krI hC hr hlk hW (by simp (config := {decide := true}) only [kif_true, kif_false, kb, kup_eq, kup_f, kup_i, not_true_eq_false, not_false_eq_true, and_true, true_and, and_false, false_and, and_self, or_true, true_or, or_false, false_or, a_endpoint, t_endpoint, kEok, c_2, c_20, c_28, c_70, c_89]) (by simp (config := {decide := true}) only [kif_true, kif_false, kb, kup_eq, kup_f, kup_i, not_true_eq_false, not_false_eq_true, and_true, true_and, and_false, false_and, and_self, or_true, true_or, or_false, false_or, a_endpoint, t_endpoint, kEok, c_2, c_20, c_28, c_70, c_89]) rfl rfl dX3_endpoint_94
        · refine lv_ldc hC.1 hC.2.1 hC.2.2.2.1 (hC.2.2.2.2 _ (kt_in tk_X3_98 rfl)) dX3_endpoint_73 ?_
          exact krI hC hr hlk hW (by simp (config := {decide := true}) only [kif_true, kif_false, kb, kup_eq, kup_f, kup_i, not_true_eq_false, not_false_eq_true, and_true, true_and, and_false, false_and, and_self, or_true, true_or, or_false, false_or, a_endpoint, t_endpoint, kEok, c_2, c_20, c_28, c_70]) (by simp (config := {decide := true}) only [kif_true, kif_false, kb, kup_eq, kup_f, kup_i, not_true_eq_false, not_false_eq_true, and_true, true_and, and_false, false_and, and_self, or_true, true_or, or_false, false_or, a_endpoint, t_endpoint, kEok, c_2, c_20, c_28, c_70]) rfl rfl dX3_endpoint_75
      · refine lv_ldc hC.1 hC.2.1 hC.2.2.2.1 (hC.2.2.2.2 _ (kt_in tk_X3_52 rfl)) dX3_endpoint_31 ?_
        exact krI hC hr hlk hW (by simp (config := {decide := true}) only [kif_true, kif_false, kb, kup_eq, kup_f, kup_i, not_true_eq_false, not_false_eq_true, and_true, true_and, and_false, false_and, and_self, or_true, true_or, or_false, false_or, a_endpoint, t_endpoint, kEok, c_2, c_20, c_28]) (by simp (config := {decide := true}) only [kif_true, kif_false, kb, kup_eq, kup_f, kup_i, not_true_eq_false, not_false_eq_true, and_true, true_and, and_false, false_and, and_self, or_true, true_or, or_false, false_or, a_endpoint, t_endpoint, kEok, c_2, c_20, c_28]) rfl rfl dX3_endpoint_33
  · refine lv_astoreN (lv' := [(4, .null), (0, .ref (L 0)), (1, .int p), (2, .int s), (3, .int t)]) hC.1 hC.2.1 dX3_endpoint_5 hl (by decide) rfl (fun ls hl => ?_)
    refine lv_aloadN hC.1 hC.2.1 dX3_endpoint_7 (lv_at hl 0 rfl) ?_
    refine lv_ifnonnullN hC.1 hC.2.1 dX3_endpoint_9 ?_
    refine lv_ldc hC.1 hC.2.1 hC.2.2.2.1 (hC.2.2.2.2 _ (kt_in tk_X3_51 rfl)) dX3_endpoint_12 ?_
    exact krI hC hr hlk hW (by simp (config := {decide := true}) only [kif_true, kif_false, kb, kup_eq, kup_f, kup_i, not_true_eq_false, not_false_eq_true, and_true, true_and, and_false, false_and, and_self, or_true, true_or, or_false, false_or, a_endpoint, t_endpoint, kEok, c_2]) (by simp (config := {decide := true}) only [kif_true, kif_false, kb, kup_eq, kup_f, kup_i, not_true_eq_false, not_false_eq_true, and_true, true_and, and_false, false_and, and_self, or_true, true_or, or_false, false_or, a_endpoint, t_endpoint, kEok, c_2]) rfl rfl dX3_endpoint_14
set_option maxHeartbeats 4000000 in
set_option maxRecDepth 100000 in
theorem c_X3_close (l : Launch) (D : va_G) (G : Nat → ClassId) (L : Nat → Nat) (hL : kL L) (T N : kT) (q : kQ) (p : Int32) (x : Int32) : kM l yX3_close cX3_close 4 (some .int) 1 21 (kPc D G L T N q [.ref (L 0), .int p, .int x]) (kQi D G L (a_close T p x) (t_close T p x) N q) (kA L) := by
  refine kBegin (by decide) (Nat.le_of_ble_eq_true rfl) ?_
  intro zp ze zs zm zargs zbelow zmeth zc hC hr hlk hB ls hl
  obtain ⟨hP, hK, hN⟩ := hB
  have hW : kWd D G L (kA L) zs.heap T N q zs.heap [] := kWd.start hL hP
  have hl : lv_has ls 4 [(0, .ref (L 0)), (1, .int p), (2, .int x)] := hl
  refine lv_aload_n hC.1 hC.2.1 dX3_close_0 rfl (lv_at hl 0 rfl) ?_
  refine lv_iload_n hC.1 hC.2.1 dX3_close_1 rfl (lv_at hl 2 rfl) ?_
  refine keSq (rest := []) (kcV 0 hC hK hN hW (c_X3_endpointAt l D G L hL T N q x) (kgoodV tm_X3_120 ti_yX3_endpointAt te_yX3_endpointAt tz_X3 tc_yX3_endpointAt) kw_m rfl ⟨rfl, by decide, by decide, (show Option.map _ (parseMethodDescriptor yX3_endpointAt.desc) = some 1 from by decide +kernel)⟩ ⟨Nat.le_of_ble_eq_true rfl, Nat.le_of_ble_eq_true rfl⟩ hl.1 rfl (Nat.le_of_ble_eq_true rfl) ⟨Nat.le_refl _, Nat.le_refl _⟩ dX3_close_2) ?_
  refine kopt (P := kEo T x) (fun c_2 => ?_) (fun c_2 => ?_)
  · refine lv_astore_n (lv' := [(3, .ref (L (28 + (tn x)))), (0, .ref (L 0)), (1, .int p), (2, .int x)]) hC.1 hC.2.1 dX3_close_5 rfl hl (by decide) rfl (fun ls hl => ?_)
    refine lv_aload_n hC.1 hC.2.1 dX3_close_6 rfl (lv_at hl 1 rfl) ?_
    refine lv_iload_n hC.1 hC.2.1 dX3_close_7 rfl (lv_at hl 2 rfl) ?_
    refine keSq (rest := []) (kcV 0 hC hK hN hW (c_X3_processAt l D G L hL T N q p) (kgoodV tm_X3_47 ti_yX3_processAt te_yX3_processAt tz_X3 tc_yX3_processAt) kw_m rfl ⟨rfl, by decide, by decide, (show Option.map _ (parseMethodDescriptor yX3_processAt.desc) = some 1 from by decide +kernel)⟩ ⟨Nat.le_of_ble_eq_true rfl, Nat.le_of_ble_eq_true rfl⟩ hl.1 rfl (Nat.le_of_ble_eq_true rfl) ⟨Nat.le_refl _, Nat.le_refl _⟩ dX3_close_8) ?_
    refine kopt (P := kP T p) (fun c_8 => ?_) (fun c_8 => ?_)
    · refine lv_ifnull hC.1 hC.2.1 dX3_close_11 ?_
      refine lv_aload_n hC.1 hC.2.1 dX3_close_14 rfl (lv_at hl 0 rfl) ?_
      refine lv_ifnonnull (tgt := 21) hC.1 hC.2.1 dX3_close_15 (by decide) ?_
      refine lv_aload_n hC.1 hC.2.1 dX3_close_21 rfl (lv_at hl 0 rfl) ?_
      refine kg0N hC hK hN hW (kEo.lt c_2) 4 (v := .int (T 11 (tn x))) rfl (by decide) tf_X3_124 dX3_close_22 ?_
      refine lv_iload_n hC.1 hC.2.1 dX3_close_25 rfl (lv_at hl 2 rfl) ?_
      refine lv_icmp_eq (tgt := 32) hC.1 hC.2.1 dX3_close_26 (by decide) (fun c_26 => ?_) (fun c_26 => ?_)
      · refine lv_aload_n hC.1 hC.2.1 dX3_close_32 rfl (lv_at hl 0 rfl) ?_
        refine lv_iconst (v := 0) hC.1 hC.2.1 dX3_close_33 (by decide) ?_
        refine kp0N hC hK hN hW (kEo.lt c_2) 3 (by decide) (by decide) .boolean tf_X3_127 (by decide +kernel) rfl rfl dX3_close_34 (fun H locs (hW : kWd D G L (kA L) zs.heap (kup T 10 (tn x) 0) N q H locs) => ?_)
        refine lv_aload_n hC.1 hC.2.1 dX3_close_37 rfl (lv_at hl 0 rfl) ?_
        refine kg0N hC hK hN hW (kEo.lt c_2) 7 (v := .int ((kup T 10 (tn x) 0) 14 (tn x))) rfl (by decide) tf_X3_130 dX3_close_38 ?_
        exact krI hC hr hlk hW (by simp (config := {decide := true}) only [kif_true, kif_false, kb, kup_eq, kup_f, kup_i, not_true_eq_false, not_false_eq_true, and_true, true_and, and_false, false_and, and_self, or_true, true_or, or_false, false_or, a_close, t_close, c_2, c_8, c_26]) (by simp (config := {decide := true}) only [kif_true, kif_false, kb, kup_eq, kup_f, kup_i, not_true_eq_false, not_false_eq_true, and_true, true_and, and_false, false_and, and_self, or_true, true_or, or_false, false_or, a_close, t_close, c_2, c_8, c_26]) rfl rfl dX3_close_41
      · refine lv_ldc hC.1 hC.2.1 hC.2.2.2.1 (hC.2.2.2.2 _ (kt_in tk_X3_98 rfl)) dX3_close_29 ?_
        exact krI hC hr hlk hW (by simp (config := {decide := true}) only [kif_true, kif_false, kb, kup_eq, kup_f, kup_i, not_true_eq_false, not_false_eq_true, and_true, true_and, and_false, false_and, and_self, or_true, true_or, or_false, false_or, a_close, t_close, c_2, c_8, c_26]) (by simp (config := {decide := true}) only [kif_true, kif_false, kb, kup_eq, kup_f, kup_i, not_true_eq_false, not_false_eq_true, and_true, true_and, and_false, false_and, and_self, or_true, true_or, or_false, false_or, a_close, t_close, c_2, c_8, c_26]) rfl rfl dX3_close_31
    · refine lv_ifnullN (tgt := 18) hC.1 hC.2.1 dX3_close_11 (by decide) ?_
      refine lv_ldc hC.1 hC.2.1 hC.2.2.2.1 (hC.2.2.2.2 _ (kt_in tk_X3_51 rfl)) dX3_close_18 ?_
      exact krI hC hr hlk hW (by simp (config := {decide := true}) only [kif_true, kif_false, kb, kup_eq, kup_f, kup_i, not_true_eq_false, not_false_eq_true, and_true, true_and, and_false, false_and, and_self, or_true, true_or, or_false, false_or, a_close, t_close, c_2, c_8]) (by simp (config := {decide := true}) only [kif_true, kif_false, kb, kup_eq, kup_f, kup_i, not_true_eq_false, not_false_eq_true, and_true, true_and, and_false, false_and, and_self, or_true, true_or, or_false, false_or, a_close, t_close, c_2, c_8]) rfl rfl dX3_close_20
  · refine lv_astore_nN (lv' := [(3, .null), (0, .ref (L 0)), (1, .int p), (2, .int x)]) hC.1 hC.2.1 dX3_close_5 rfl hl (by decide) rfl (fun ls hl => ?_)
    refine lv_aload_n hC.1 hC.2.1 dX3_close_6 rfl (lv_at hl 1 rfl) ?_
    refine lv_iload_n hC.1 hC.2.1 dX3_close_7 rfl (lv_at hl 2 rfl) ?_
    refine keSq (rest := []) (kcV 0 hC hK hN hW (c_X3_processAt l D G L hL T N q p) (kgoodV tm_X3_47 ti_yX3_processAt te_yX3_processAt tz_X3 tc_yX3_processAt) kw_m rfl ⟨rfl, by decide, by decide, (show Option.map _ (parseMethodDescriptor yX3_processAt.desc) = some 1 from by decide +kernel)⟩ ⟨Nat.le_of_ble_eq_true rfl, Nat.le_of_ble_eq_true rfl⟩ hl.1 rfl (Nat.le_of_ble_eq_true rfl) ⟨Nat.le_refl _, Nat.le_refl _⟩ dX3_close_8) ?_
    refine kopt (P := kP T p) (fun c_8 => ?_) (fun c_8 => ?_)
    · refine lv_ifnull hC.1 hC.2.1 dX3_close_11 ?_
      refine lv_aload_nN hC.1 hC.2.1 dX3_close_14 rfl (lv_at hl 0 rfl) ?_
      refine lv_ifnonnullN hC.1 hC.2.1 dX3_close_15 ?_
      refine lv_ldc hC.1 hC.2.1 hC.2.2.2.1 (hC.2.2.2.2 _ (kt_in tk_X3_51 rfl)) dX3_close_18 ?_
      exact krI hC hr hlk hW (by simp (config := {decide := true}) only [kif_true, kif_false, kb, kup_eq, kup_f, kup_i, not_true_eq_false, not_false_eq_true, and_true, true_and, and_false, false_and, and_self, or_true, true_or, or_false, false_or, a_close, t_close, c_2, c_8]) (by simp (config := {decide := true}) only [kif_true, kif_false, kb, kup_eq, kup_f, kup_i, not_true_eq_false, not_false_eq_true, and_true, true_and, and_false, false_and, and_self, or_true, true_or, or_false, false_or, a_close, t_close, c_2, c_8]) rfl rfl dX3_close_20
    · refine lv_ifnullN (tgt := 18) hC.1 hC.2.1 dX3_close_11 (by decide) ?_
      refine lv_ldc hC.1 hC.2.1 hC.2.2.2.1 (hC.2.2.2.2 _ (kt_in tk_X3_51 rfl)) dX3_close_18 ?_
      exact krI hC hr hlk hW (by simp (config := {decide := true}) only [kif_true, kif_false, kb, kup_eq, kup_f, kup_i, not_true_eq_false, not_false_eq_true, and_true, true_and, and_false, false_and, and_self, or_true, true_or, or_false, false_or, a_close, t_close, c_2, c_8]) (by simp (config := {decide := true}) only [kif_true, kif_false, kb, kup_eq, kup_f, kup_i, not_true_eq_false, not_false_eq_true, and_true, true_and, and_false, false_and, and_self, or_true, true_or, or_false, false_or, a_close, t_close, c_2, c_8]) rfl rfl dX3_close_20
set_option maxHeartbeats 4000000 in
set_option maxRecDepth 100000 in
theorem c_X3_port (l : Launch) (D : va_G) (G : Nat → ClassId) (L : Nat → Nat) (hL : kL L) (T N : kT) (q : kQ) (x : Int32) (w : Int32) : kM l yX3_port cX3_port 4 (some .int) 1 21 (kPc D G L T N q [.ref (L 0), .int x, .int w]) (kSi (a_port T x w)) (fun _ => False) := by
  refine kBegin (by decide) (Nat.le_of_ble_eq_true rfl) ?_
  intro zp ze zs zm zargs zbelow zmeth zc hC hr hlk hB ls hl
  obtain ⟨hP, hK, hN⟩ := hB
  have hW : kWd D G L (kA L) zs.heap T N q zs.heap [] := kWd.start hL hP
  have hl : lv_has ls 4 [(0, .ref (L 0)), (1, .int x), (2, .int w)] := hl
  refine lv_aload_n hC.1 hC.2.1 dX3_port_0 rfl (lv_at hl 0 rfl) ?_
  refine lv_iload_n hC.1 hC.2.1 dX3_port_1 rfl (lv_at hl 1 rfl) ?_
  refine keSq (rest := []) (kcV 0 hC hK hN hW (c_X3_endpointAt l D G L hL T N q x) (kgoodV tm_X3_120 ti_yX3_endpointAt te_yX3_endpointAt tz_X3 tc_yX3_endpointAt) kw_m rfl ⟨rfl, by decide, by decide, (show Option.map _ (parseMethodDescriptor yX3_endpointAt.desc) = some 1 from by decide +kernel)⟩ ⟨Nat.le_of_ble_eq_true rfl, Nat.le_of_ble_eq_true rfl⟩ hl.1 rfl (Nat.le_of_ble_eq_true rfl) ⟨Nat.le_refl _, Nat.le_refl _⟩ dX3_port_2) ?_
  refine kopt (P := kEo T x) (fun c_2 => ?_) (fun c_2 => ?_)
  · refine lv_astore_n (lv' := [(3, .ref (L (28 + (tn x)))), (0, .ref (L 0)), (1, .int x), (2, .int w)]) hC.1 hC.2.1 dX3_port_5 rfl hl (by decide) rfl (fun ls hl => ?_)
    refine lv_aload_n hC.1 hC.2.1 dX3_port_6 rfl (lv_at hl 0 rfl) ?_
    refine lv_ifnonnull (tgt := 13) hC.1 hC.2.1 dX3_port_7 (by decide) ?_
    refine lv_iload_n hC.1 hC.2.1 dX3_port_13 rfl (lv_at hl 3 rfl) ?_
    rcases ksw4 w with c_14 | c_14 | c_14 | c_14 | c_14
    · refine lv_tableIn (tgt := 44) (off := 30) hC.1 hC.2.1 dX3_port_14 (by rw [c_14]; decide) (by rw [c_14]; decide) (by rw [c_14]; rfl) (by decide) ?_
      refine lv_aload_n hC.1 hC.2.1 dX3_port_44 rfl (lv_at hl 0 rfl) ?_
      refine kg0N hC hK hN hW (kEo.lt c_2) 4 (v := .int (T 11 (tn x))) rfl (by decide) tf_X3_124 dX3_port_45 ?_
      exact krS hC hr hlk (by simp (config := {decide := true}) only [kif_true, kif_false, kb, kup_eq, kup_f, kup_i, not_true_eq_false, not_false_eq_true, and_true, true_and, and_false, false_and, and_self, or_true, true_or, or_false, false_or, a_port, c_2, c_14]) dX3_port_48
    · refine lv_tableIn (tgt := 49) (off := 35) hC.1 hC.2.1 dX3_port_14 (by rw [c_14]; decide) (by rw [c_14]; decide) (by rw [c_14]; rfl) (by decide) ?_
      refine lv_aload_n hC.1 hC.2.1 dX3_port_49 rfl (lv_at hl 0 rfl) ?_
      refine kg0N hC hK hN hW (kEo.lt c_2) 5 (v := .int (T 12 (tn x))) rfl (by decide) tf_X3_133 dX3_port_50 ?_
      exact krS hC hr hlk (by simp (config := {decide := true}) only [kif_true, kif_false, kb, kup_eq, kup_f, kup_i, not_true_eq_false, not_false_eq_true, and_true, true_and, and_false, false_and, and_self, or_true, true_or, or_false, false_or, a_port, c_2, c_14]) dX3_port_53
    · refine lv_tableIn (tgt := 54) (off := 40) hC.1 hC.2.1 dX3_port_14 (by rw [c_14]; decide) (by rw [c_14]; decide) (by rw [c_14]; rfl) (by decide) ?_
      refine lv_aload_n hC.1 hC.2.1 dX3_port_54 rfl (lv_at hl 0 rfl) ?_
      refine kg0N hC hK hN hW (kEo.lt c_2) 6 (v := .int (T 13 (tn x))) rfl (by decide) tf_X3_134 dX3_port_55 ?_
      exact krS hC hr hlk (by simp (config := {decide := true}) only [kif_true, kif_false, kb, kup_eq, kup_f, kup_i, not_true_eq_false, not_false_eq_true, and_true, true_and, and_false, false_and, and_self, or_true, true_or, or_false, false_or, a_port, c_2, c_14]) dX3_port_58
    · refine lv_tableIn (tgt := 59) (off := 45) hC.1 hC.2.1 dX3_port_14 (by rw [c_14]; decide) (by rw [c_14]; decide) (by rw [c_14]; rfl) (by decide) ?_
      refine lv_aload_n hC.1 hC.2.1 dX3_port_59 rfl (lv_at hl 0 rfl) ?_
      refine kg0N hC hK hN hW (kEo.lt c_2) 7 (v := .int (T 14 (tn x))) rfl (by decide) tf_X3_130 dX3_port_60 ?_
      exact krS hC hr hlk (by simp (config := {decide := true}) only [kif_true, kif_false, kb, kup_eq, kup_f, kup_i, not_true_eq_false, not_false_eq_true, and_true, true_and, and_false, false_and, and_self, or_true, true_or, or_false, false_or, a_port, c_2, c_14]) dX3_port_63
    · refine lv_tableOut (tgt := 64) hC.1 hC.2.1 dX3_port_14 c_14.1 (by decide) ?_
      refine lv_ldc hC.1 hC.2.1 hC.2.2.2.1 (hC.2.2.2.2 _ (kt_in tk_X3_52 rfl)) dX3_port_64 ?_
      exact krS hC hr hlk (by simp (config := {decide := true}) only [kif_true, kif_false, kb, kup_eq, kup_f, kup_i, not_true_eq_false, not_false_eq_true, and_true, true_and, and_false, false_and, and_self, or_true, true_or, or_false, false_or, a_port, c_2, c_14.2.1, c_14.2.2.1, c_14.2.2.2.1, c_14.2.2.2.2]) dX3_port_66
  · refine lv_astore_nN (lv' := [(3, .null), (0, .ref (L 0)), (1, .int x), (2, .int w)]) hC.1 hC.2.1 dX3_port_5 rfl hl (by decide) rfl (fun ls hl => ?_)
    refine lv_aload_nN hC.1 hC.2.1 dX3_port_6 rfl (lv_at hl 0 rfl) ?_
    refine lv_ifnonnullN hC.1 hC.2.1 dX3_port_7 ?_
    refine lv_ldc hC.1 hC.2.1 hC.2.2.2.1 (hC.2.2.2.2 _ (kt_in tk_X3_51 rfl)) dX3_port_10 ?_
    exact krS hC hr hlk (by simp (config := {decide := true}) only [kif_true, kif_false, kb, kup_eq, kup_f, kup_i, not_true_eq_false, not_false_eq_true, and_true, true_and, and_false, false_and, and_self, or_true, true_or, or_false, false_or, a_port, c_2]) dX3_port_12
