-- BITS AND NUMBERS; THE MODEL'S FIRST LOOPS
theorem sm_of (c : Nat) : (OfNat.ofNat c : Int32) = nI c := rfl
theorem sm_ofl (c : Nat) : (OfNat.ofNat c : Int64) = lN c := rfl
theorem sm_cx2 {m : Nat} (h : m < 10000) : ((2 : Int32) + nI m).toNatClampNeg = 2 + m := by rw [show (2 : Int32) = nI 2 from rfl, nI_add, nI_clamp (by omega)]
theorem sm_ci2 {m N : Nat} (h : 2 + m < N) (hN : N < 2 ^ 31) : vp_in ((2 : Int32) + nI m) N := by rw [show (2 : Int32) = nI 2 from rfl, nI_add]; exact vp_in_nI h hN
theorem sm_cx4 {m : Nat} (h : m < 10000) : ((4 : Int32) + nI m).toNatClampNeg = 4 + m := by rw [show (4 : Int32) = nI 4 from rfl, nI_add, nI_clamp (by omega)]
theorem sm_ci4 {m N : Nat} (h : 4 + m < N) (hN : N < 2 ^ 31) : vp_in ((4 : Int32) + nI m) N := by rw [show (4 : Int32) = nI 4 from rfl, nI_add]; exact vp_in_nI h hN
theorem sm_cx8 {m : Nat} (h : m < 10000) : ((8 : Int32) + nI m).toNatClampNeg = 8 + m := by rw [show (8 : Int32) = nI 8 from rfl, nI_add, nI_clamp (by omega)]
theorem sm_ci8 {m N : Nat} (h : 8 + m < N) (hN : N < 2 ^ 31) : vp_in ((8 : Int32) + nI m) N := by rw [show (8 : Int32) = nI 8 from rfl, nI_add]; exact vp_in_nI h hN
theorem sm_cx10 {m : Nat} (h : m < 10000) : ((10 : Int32) + nI m).toNatClampNeg = 10 + m := by rw [show (10 : Int32) = nI 10 from rfl, nI_add, nI_clamp (by omega)]
theorem sm_ci10 {m N : Nat} (h : 10 + m < N) (hN : N < 2 ^ 31) : vp_in ((10 : Int32) + nI m) N := by rw [show (10 : Int32) = nI 10 from rfl, nI_add]; exact vp_in_nI h hN
theorem sm_cx17 {m : Nat} (h : m < 10000) : ((17 : Int32) + nI m).toNatClampNeg = 17 + m := by rw [show (17 : Int32) = nI 17 from rfl, nI_add, nI_clamp (by omega)]
theorem sm_ci17 {m N : Nat} (h : 17 + m < N) (hN : N < 2 ^ 31) : vp_in ((17 : Int32) + nI m) N := by rw [show (17 : Int32) = nI 17 from rfl, nI_add]; exact vp_in_nI h hN
theorem sm_cx24 {m : Nat} (h : m < 10000) : ((24 : Int32) + nI m).toNatClampNeg = 24 + m := by rw [show (24 : Int32) = nI 24 from rfl, nI_add, nI_clamp (by omega)]
theorem sm_ci24 {m N : Nat} (h : 24 + m < N) (hN : N < 2 ^ 31) : vp_in ((24 : Int32) + nI m) N := by rw [show (24 : Int32) = nI 24 from rfl, nI_add]; exact vp_in_nI h hN
theorem sm_cx31 {m : Nat} (h : m < 10000) : ((31 : Int32) + nI m).toNatClampNeg = 31 + m := by rw [show (31 : Int32) = nI 31 from rfl, nI_add, nI_clamp (by omega)]
theorem sm_ci31 {m N : Nat} (h : 31 + m < N) (hN : N < 2 ^ 31) : vp_in ((31 : Int32) + nI m) N := by rw [show (31 : Int32) = nI 31 from rfl, nI_add]; exact vp_in_nI h hN
theorem sm_cx38 {m : Nat} (h : m < 10000) : ((38 : Int32) + nI m).toNatClampNeg = 38 + m := by rw [show (38 : Int32) = nI 38 from rfl, nI_add, nI_clamp (by omega)]
theorem sm_ci38 {m N : Nat} (h : 38 + m < N) (hN : N < 2 ^ 31) : vp_in ((38 : Int32) + nI m) N := by rw [show (38 : Int32) = nI 38 from rfl, nI_add]; exact vp_in_nI h hN

theorem sm_n1 (m : Nat) : nI m + 1 = nI (m + 1) := nI_1 m
/-- bits of a set -/
def sp_bits (p : Nat → Bool) : Nat → Nat
  | 0 => 0
  | n + 1 => sp_bits p n + if p n then 2 ^ n else 0
theorem sp_bits_lt (p : Nat → Bool) : ∀ n, sp_bits p n < 2 ^ n
  | 0 => by simp [sp_bits]
  | n + 1 => by
    have := sp_bits_lt p n
    simp only [sp_bits, Nat.pow_succ]
    split <;> omega
theorem sp_bits_tb (p : Nat → Bool) : ∀ n i, (sp_bits p n).testBit i = (decide (i < n) && p i)
  | 0, i => by simp [sp_bits]
  | n + 1, i => by
    have hl := sp_bits_lt p n
    have ih := sp_bits_tb p n i
    simp only [sp_bits]
    by_cases hp : p n
    · rw [if_pos hp, Nat.add_comm]
      rcases Nat.lt_trichotomy i n with h | h | h
      · rw [Nat.testBit_two_pow_add_gt h, ih]
        simp [h, Nat.lt_succ_of_lt h]
      · subst h
        rw [Nat.testBit_two_pow_add_eq, ih]
        simp [hp]
      · have h2 : 2 ^ n + sp_bits p n < 2 ^ i := by
          have : 2 ^ (n + 1) ≤ 2 ^ i := Nat.pow_le_pow_right (by decide) h
          rw [Nat.pow_succ] at this
          omega
        rw [Nat.testBit_lt_two_pow h2]
        simp; omega
    · rw [if_neg hp, Nat.add_zero, ih]
      by_cases h : i = n
      · subst h
        simp [hp]
      · have : (i < n + 1) = (i < n) := by
          apply propext
          omega
        simp [this]
def sp_pop (p : Nat → Bool) : Nat → Nat
  | 0 => 0
  | n + 1 => sp_pop p n + if p n then 1 else 0
theorem sp_pop_le (p : Nat → Bool) : ∀ n, sp_pop p n ≤ n
  | 0 => Nat.le_refl 0
  | n + 1 => by
    have := sp_pop_le p n
    simp only [sp_pop]
    split <;> omega
theorem sm_bit7 : ∀ s, s < 128 → ∀ k, k < 7 → ((nI s >>> (nI k &&& 31)) &&& 1) = if s.testBit k then 1 else 0 := by decide +kernel
theorem sm_or7 : ∀ s, s < 128 → ∀ t, t < 128 → nI s ||| nI t = nI (s ||| t) := by decide +kernel
theorem sm_shl7 : ∀ k, k < 7 → (1 : Int32) <<< (nI k &&& 31) = nI (2 ^ k) := by decide +kernel
theorem sm_bit64 : ∀ s, s < 64 → ∀ k, k < 6 → ((nI s >>> (nI k &&& 31)) &&& 1) = if s.testBit k then 1 else 0 := by decide +kernel
theorem sp_bits_or (p : Nat → Bool) (n : Nat) : sp_bits p n ||| (if p n then 2 ^ n else 0) = sp_bits p (n + 1) := by
  simp only [sp_bits]
  split
  · have := sp_bits_lt p n
    have q := Nat.two_pow_add_eq_or_of_lt this 1
    rw [Nat.mul_one] at q
    rw [Nat.or_comm, ← q, Nat.add_comm]
  · simp

set_option maxRecDepth 10000 in
theorem w_X11_many_0 {ex : sm_O} {d n : Nat} {y : sm_Y} {I : Nat → Nat → Int32} {L : Nat → Nat → Int64} {R : Nat → Nat → Option Nat} {Q : sm_Q} {w1 : Option Value} {w2 : Option Value} {a0 : Int32} (k : sm_W ex d 0 0 127 4 [some (.int a0), some (.int 0), some (.int 0)] [] (n, y, I, L, R) Q) : sm_W ex d 0 0 127 0 [some (.int a0), w1, w2] [] (n, y, I, L, R) Q := sm_in (sm_in (And.intro (Nat.le_of_ble_eq_true rfl) (sm_in (sm_in (And.intro (Nat.le_of_ble_eq_true rfl) (k))))))
set_option maxRecDepth 10000 in
theorem w_X11_many_4 {ex : sm_O} {d n : Nat} {y : sm_Y} {I : Nat → Nat → Int32} {L : Nat → Nat → Int64} {R : Nat → Nat → Option Nat} {Q : sm_Q} {a0 : Int32} {a1 : Int32} {a2 : Int32} (k : if 7 ≤ a2 then (Q (some (.int a1)) (n, y, I, L, R)) else (sm_W ex d 0 0 127 4 [some (.int a0), some (.int (a1 + ((a0 >>> (a2 &&& 31)) &&& 1))), some (.int (a2 + 1))] [] (n, y, I, L, R) Q)) : sm_W ex d 0 0 127 4 [some (.int a0), some (.int a1), some (.int a2)] [] (n, y, I, L, R) Q := sm_in (sm_in (sm_in (And.intro (fun c1 => have k1t := Eq.mp (if_pos c1) k; sm_in (sm_in (And.intro rfl k1t))) (fun c1 => have k1f := Eq.mp (if_neg c1) k; sm_in (sm_in (sm_in (sm_in (sm_in (sm_in (sm_in (sm_in (And.intro (Nat.le_of_ble_eq_true rfl) (sm_in (And.intro (Nat.le_of_ble_eq_true rfl) (sm_in (k1f))))))))))))))))
theorem c_X11_many {ex : sm_O} {n : Nat} {y : sm_Y} {I : Nat → Nat → Int32} {L : Nat → Nat → Int64} {R : Nat → Nat → Option Nat} {Q : sm_Q} {d : Nat} {w1 w2 : Option Value} {p : Nat → Bool} {m : Nat} (hm : m ≤ 7) (k : Q (some (.int (nI (sp_pop p m)))) (n, y, I, L, R)) : sm_W ex d 0 0 127 0 [some (.int (nI (sp_bits p m))), w1, w2] [] (n, y, I, L, R) Q := by
  have hl : sp_bits p m < 128 := Nat.lt_of_lt_of_le (sp_bits_lt p m) (Nat.pow_le_pow_right (by decide) hm)
  have key : ∀ (q j : Nat), j + q = 7 → sm_W ex d 0 0 127 4 [some (.int (nI (sp_bits p m))), some (.int (nI (sp_pop (fun i => decide (i < m) && p i) j))), some (.int (nI j))] [] (n, y, I, L, R) Q := by
    intro q
    induction q with
    | zero =>
      intro j hj
      obtain rfl : j = 7 := by omega
      refine w_X11_many_4 ?_
      rw [if_pos (by decide)]
      have e : ∀ j, m ≤ j → sp_pop (fun i => decide (i < m) && p i) j = sp_pop p m := by
        intro j hj
        have e1 : ∀ i, i ≤ m → sp_pop (fun i => decide (i < m) && p i) i = sp_pop p i := by
          intro i
          induction i with
          | zero => intro _; rfl
          | succ i ih =>
            intro hi
            simp only [sp_pop, ih (by omega)]
            have : i < m := by omega
            simp [this]
        induction j with
        | zero =>
          obtain rfl : m = 0 := by omega
          rfl
        | succ j ih =>
          by_cases h : m = j + 1
          · rw [← h]
            exact e1 m (Nat.le_refl m)
          · simp only [sp_pop, ih (by omega)]
            have : ¬ j < m := by omega
            simp [this]
      rw [e 7 hm]
      exact k
    | succ q ih =>
      intro j hj
      refine w_X11_many_4 ?_
      rw [if_neg (by rw [sm_of 7, nI_leI (by decide) (by omega)]; omega), sm_bit7 _ hl j (by omega), sp_bits_tb, sm_n1]
      have e : nI (sp_pop (fun i => decide (i < m) && p i) j) + (if (decide (j < m) && p j) = true then 1 else 0) = nI (sp_pop (fun i => decide (i < m) && p i) (j + 1)) := by
        simp only [sp_pop]
        split
        · rw [sm_n1]
        · rw [Nat.add_zero, show (0 : Int32) = nI 0 from rfl, nI_add, Nat.add_zero]
      rw [e]
      exact ih (j + 1) (by omega)
  refine w_X11_many_0 ?_
  exact key 7 0 rfl

set_option maxRecDepth 10000 in
theorem w_X11_isFit {ex : sm_O} {d n : Nat} {y : sm_Y} {I : Nat → Nat → Int32} {L : Nat → Nat → Int64} {R : Nat → Nat → Option Nat} {Q : sm_Q} {a1 : Int32} (hG : sm_G y R) (k : vp_in (17 + a1) 5450 ∧ (if (I 125 (17 + a1).toNatClampNeg) = 0 then (Q (some (.int 1)) (n, y, I, L, R)) else (Q (some (.int 0)) (n, y, I, L, R)))) : sm_W ex d 0 0 138 0 [some (.ref 123), some (.int a1)] [] (n, y, I, L, R) Q := sm_in (sm_in (And.intro (hG.1 123 (Nat.le_of_ble_eq_true rfl)) (sm_gfr rfl (hG.2 123 3 rfl) (sm_in (sm_in (sm_in ((have e1 := k.1; have k1 := k.2; sm_in (Exists.intro 5450 (And.intro (hG.1 125 (Nat.le_of_ble_eq_true rfl)) (And.intro e1 (sm_in (And.intro (fun c2 => have k2f := Eq.mp (if_neg c2) k1; sm_in (sm_in (And.intro rfl (And.intro (Or.inl rfl) k2f)))) (fun c2 => have k2t := Eq.mp (if_pos c2) k1; sm_in (sm_in (sm_in (And.intro rfl (And.intro (Or.inr rfl) k2t))))))))))))))))))
theorem c_X11_isFit {ex : sm_O} {n : Nat} {y : sm_Y} {I : Nat → Nat → Int32} {L : Nat → Nat → Int64} {R : Nat → Nat → Option Nat} {Q : sm_Q} {d : Nat} {m : Nat} (hG : sm_G y R) (hm : m < 7) (k : Q (some (.int (sm_b (I 125 (17 + m) = 0)))) (n, y, I, L, R)) : sm_W ex d 0 0 138 0 [some (.ref 123), some (.int (nI m))] [] (n, y, I, L, R) Q := by
  refine w_X11_isFit hG ?_
  refine ⟨sm_ci17 (by omega) (by decide), ?_⟩
  rw [sm_cx17 (by omega)]
  split
  · rename_i h
    rw [sm_b_t h] at k
    exact k
  · rename_i h
    rw [sm_b_f h] at k
    exact k

