-- THE MODEL'S SUMS AND TESTS
def rk_val (op : Int32) (a b : Int64) : Int64 := if op = 20 then a + b else if op = 21 then a - b else if op = 22 then a * b else if op = 23 then (if b = 0 then 0 else a / b) else if op = 24 then (if b = 0 then 0 else a - a / b * b) else if op = 25 then (if a < b then 1 else 0) else if op = 26 then (if b < a then 1 else 0) else if a = b then 1 else 0
def rk_mem (op : Int32) (b : Int64) (I : Nat → Nat → Int32) : Nat → Nat → Int32 := if op = 23 ∨ op = 24 then sm_st I 123 38 (if b = 0 then 1 else 0) else I
theorem sm_i32 {x : Int32} {c : Int} (y : Int32) (hy : y.toInt = c) : x.toInt = c ↔ x = y := by rw [← hy]; exact ⟨fun h => Int32.toInt_inj.mp h, fun h => by rw [h]⟩
theorem sm_i32n {x : Int32} {c : Int} (y : Int32) (hy : y.toInt = c) (h : x.toInt ≠ c) : ¬ x = y := fun e => h ((sm_i32 y hy).mpr e)

set_option maxRecDepth 100000 in
theorem w_X11_reckon {ex : sm_O} {d n : Nat} {y : sm_Y} {I : Nat → Nat → Int32} {L : Nat → Nat → Int64} {R : Nat → Nat → Option Nat} {Q : sm_Q} {w3 : Option Value} {w5 : Option Value} {a1 : Int32} {a2 : Int64} {a4 : Int64} (hG : sm_G y R) (k : ((a1.toInt < 20 ∨ 26 < a1.toInt) → (if (lg_cmp a2 a4) = 0 then (Q (some (.long 1)) (n, y, I, L, R)) else (Q (some (.long 0)) (n, y, I, L, R)))) ∧ (a1.toInt = 20 → (Q (some (.long (a2 + a4))) (n, y, I, L, R))) ∧ (a1.toInt = 21 → (Q (some (.long (a2 - a4))) (n, y, I, L, R))) ∧ (a1.toInt = 22 → (Q (some (.long (a2 * a4))) (n, y, I, L, R))) ∧ (a1.toInt = 23 → (if (lg_cmp a4 0) = 0 then (Q (some (.long 0)) (n, y, sm_st I 123 38 1, L, R)) else (¬ a4 = 0 ∧ Q (some (.long (a2 / a4))) (n, y, sm_st I 123 38 0, L, R)))) ∧ (a1.toInt = 24 → (if (lg_cmp a4 0) = 0 then (Q (some (.long 0)) (n, y, sm_st I 123 38 1, L, R)) else (¬ a4 = 0 ∧ Q (some (.long (a2 - a2 / a4 * a4))) (n, y, sm_st I 123 38 0, L, R)))) ∧ (a1.toInt = 25 → (if 0 ≤ (lg_cmp a2 a4) then (Q (some (.long 0)) (n, y, I, L, R)) else (Q (some (.long 1)) (n, y, I, L, R)))) ∧ (a1.toInt = 26 → (if (lg_cmp a2 a4) ≤ 0 then (Q (some (.long 0)) (n, y, I, L, R)) else (Q (some (.long 1)) (n, y, I, L, R))))) : sm_W ex d 0 0 181 0 [some (.ref 123), some (.int a1), some (.long a2), w3, some (.long a4), w5] [] (n, y, I, L, R) Q := sm_in (sm_in (And.intro (fun hd => have kds1_ := k.1 hd; sm_in (sm_in (sm_in (sm_in (And.intro (fun c2 => have k2f := Eq.mp (if_neg c2) kds1_; sm_in (sm_in (And.intro rfl k2f))) (fun c2 => have k2t := Eq.mp (if_pos c2) kds1_; sm_in (sm_in (sm_in (And.intro rfl k2t))))))))) (fun j off ho hj => match j, ho, hj with | 0, ho, hj => by cases ho; exact (have ks1_0 := k.2.1 hj; sm_in (sm_in (sm_in (sm_in (And.intro rfl ks1_0))))) | 1, ho, hj => by cases ho; exact (have ks1_1 := k.2.2.1 hj; sm_in (sm_in (sm_in (sm_in (And.intro rfl ks1_1))))) | 2, ho, hj => by cases ho; exact (have ks1_2 := k.2.2.2.1 hj; sm_in (sm_in (sm_in (sm_in (And.intro rfl ks1_2))))) | 3, ho, hj => by cases ho; exact (have ks1_3 := k.2.2.2.2.1 hj; sm_in (sm_in (sm_in (sm_in (sm_in (And.intro (fun c3 => have k3f := Eq.mp (if_neg c3) ks1_3; sm_in (sm_in (And.intro (hG.1 123 (Nat.le_of_ble_eq_true rfl)) (And.intro (Or.inl rfl) (sm_in (sm_in (And.intro (hG.1 123 (Nat.le_of_ble_eq_true rfl)) (sm_in (And.intro (fun _ => sm_in (sm_in ((have e4 := k3f.1; have k4 := k3f.2; sm_in (And.intro e4 (sm_in (And.intro rfl k4))))))) (fun c => absurd (by decide : (0 : Int32) = 0) c)))))))))) (fun c3 => have k3t := Eq.mp (if_pos c3) ks1_3; sm_in (sm_in (sm_in (And.intro (hG.1 123 (Nat.le_of_ble_eq_true rfl)) (And.intro (Or.inr rfl) (sm_in (sm_in (And.intro (hG.1 123 (Nat.le_of_ble_eq_true rfl)) (sm_in (And.intro (fun c => absurd c (by decide : ¬ (1 : Int32) = 0)) (fun _ => sm_in (sm_in (sm_in (And.intro rfl k3t)))))))))))))))))))) | 4, ho, hj => by cases ho; exact (have ks1_4 := k.2.2.2.2.2.1 hj; sm_in (sm_in (sm_in (sm_in (sm_in (And.intro (fun c5 => have k5f := Eq.mp (if_neg c5) ks1_4; sm_in (sm_in (And.intro (hG.1 123 (Nat.le_of_ble_eq_true rfl)) (And.intro (Or.inl rfl) (sm_in (sm_in (And.intro (hG.1 123 (Nat.le_of_ble_eq_true rfl)) (sm_in (And.intro (fun _ => sm_in (sm_in ((have e6 := k5f.1; have k6 := k5f.2; sm_in (And.intro e6 (sm_in (And.intro rfl k6))))))) (fun c => absurd (by decide : (0 : Int32) = 0) c)))))))))) (fun c5 => have k5t := Eq.mp (if_pos c5) ks1_4; sm_in (sm_in (sm_in (And.intro (hG.1 123 (Nat.le_of_ble_eq_true rfl)) (And.intro (Or.inr rfl) (sm_in (sm_in (And.intro (hG.1 123 (Nat.le_of_ble_eq_true rfl)) (sm_in (And.intro (fun c => absurd c (by decide : ¬ (1 : Int32) = 0)) (fun _ => sm_in (sm_in (sm_in (And.intro rfl k5t)))))))))))))))))))) | 5, ho, hj => by cases ho; exact (have ks1_5 := k.2.2.2.2.2.2.1 hj; sm_in (sm_in (sm_in (sm_in (And.intro (fun c7 => have k7t := Eq.mp (if_pos c7) ks1_5; sm_in (sm_in (And.intro rfl k7t))) (fun c7 => have k7f := Eq.mp (if_neg c7) ks1_5; sm_in (sm_in (sm_in (And.intro rfl k7f))))))))) | 6, ho, hj => by cases ho; exact (have ks1_6 := k.2.2.2.2.2.2.2 hj; sm_in (sm_in (sm_in (sm_in (And.intro (fun c8 => have k8t := Eq.mp (if_pos c8) ks1_6; sm_in (sm_in (And.intro rfl k8t))) (fun c8 => have k8f := Eq.mp (if_neg c8) ks1_6; sm_in (sm_in (sm_in (And.intro rfl k8f))))))))) | j + 7, ho, _ => by cases ho)))
theorem c_X11_reckon {ex : sm_O} {n : Nat} {y : sm_Y} {I : Nat → Nat → Int32} {L : Nat → Nat → Int64} {R : Nat → Nat → Option Nat} {Q : sm_Q} {w3 w5 : Option Value} {a1 : Int32} {a2 a4 : Int64} (hG : sm_G y R) (k : Q (some (.long (rk_val a1 a2 a4))) (n, y, rk_mem a1 a4 I, L, R)) : sm_W ex 0 0 0 181 0 [some (.ref 123), some (.int a1), some (.long a2), w3, some (.long a4), w5] [] (n, y, I, L, R) Q := by
  refine w_X11_reckon hG ⟨fun h => ?_, fun h => ?_, fun h => ?_, fun h => ?_, fun h => ?_, fun h => ?_, fun h => ?_, fun h => ?_⟩
  · have n0 : ¬ a1 = 20 := fun e => by subst e; revert h; decide
    have n1 : ¬ a1 = 21 := fun e => by subst e; revert h; decide
    have n2 : ¬ a1 = 22 := fun e => by subst e; revert h; decide
    have n3 : ¬ a1 = 23 := fun e => by subst e; revert h; decide
    have n4 : ¬ a1 = 24 := fun e => by subst e; revert h; decide
    have n5 : ¬ a1 = 25 := fun e => by subst e; revert h; decide
    have n6 : ¬ a1 = 26 := fun e => by subst e; revert h; decide
    simp only [rk_val, rk_mem, n0, n1, n2, n3, n4, n5, n6, if_false, or_self] at k
    simp only [sm_cmp_eq]
    split
    · rename_i h1
      rw [if_pos h1] at k
      exact k
    · rename_i h1
      rw [if_neg h1] at k
      exact k
  · obtain rfl := (sm_i32 20 rfl).mp h
    exact k
  · obtain rfl := (sm_i32 21 rfl).mp h
    exact k
  · obtain rfl := (sm_i32 22 rfl).mp h
    exact k
  · obtain rfl := (sm_i32 23 rfl).mp h
    have k : Q (some (.long (if a4 = 0 then 0 else a2 / a4))) (n, y, sm_st I 123 38 (if a4 = 0 then 1 else 0), L, R) := k
    simp only [sm_cmp_eq]
    split
    · rename_i h1
      rw [if_pos h1, if_pos h1] at k
      exact k
    · rename_i h1
      rw [if_neg h1, if_neg h1] at k
      exact ⟨h1, k⟩
  · obtain rfl := (sm_i32 24 rfl).mp h
    have k : Q (some (.long (if a4 = 0 then 0 else a2 - a2 / a4 * a4))) (n, y, sm_st I 123 38 (if a4 = 0 then 1 else 0), L, R) := k
    simp only [sm_cmp_eq]
    split
    · rename_i h1
      rw [if_pos h1, if_pos h1] at k
      exact k
    · rename_i h1
      rw [if_neg h1, if_neg h1] at k
      exact ⟨h1, k⟩
  · obtain rfl := (sm_i32 25 rfl).mp h
    have k : Q (some (.long (if a2 < a4 then 1 else 0))) (n, y, I, L, R) := k
    split
    · rename_i h1
      rw [if_neg (fun q => absurd (sm_cmp_lt.mpr q) (Int32.not_lt.mpr h1))] at k
      exact k
    · rename_i h1
      rw [if_pos (sm_cmp_lt.mp (Int32.not_le.mp h1))] at k
      exact k
  · obtain rfl := (sm_i32 26 rfl).mp h
    have k : Q (some (.long (if a4 < a2 then 1 else 0))) (n, y, I, L, R) := k
    split
    · rename_i h1
      rw [if_neg (fun q => absurd (sm_cmp_gt.mpr q) (Int32.not_lt.mpr h1))] at k
      exact k
    · rename_i h1
      rw [if_pos (sm_cmp_gt.mp (Int32.not_le.mp h1))] at k
      exact k

set_option maxRecDepth 100000 in
theorem w_X11_reckonAll_0 {ex : sm_O} {d n : Nat} {y : sm_Y} {I : Nat → Nat → Int32} {L : Nat → Nat → Int64} {R : Nat → Nat → Option Nat} {Q : sm_Q} {w3 : Option Value} {w4 : Option Value} {w5 : Option Value} {w6 : Option Value} {a1 : Int32} {a2 : Int32} (hG : sm_G y R) (k : sm_W ex d 0 0 182 10 [some (.ref 123), some (.int a1), some (.int a2), some (.int 0), some (.int a1), w5, w6] [] (n, y, sm_st I 123 38 0, L, R) Q) : sm_W ex d 0 0 182 0 [some (.ref 123), some (.int a1), some (.int a2), w3, w4, w5, w6] [] (n, y, I, L, R) Q := sm_in (sm_in (sm_in (And.intro (hG.1 123 (Nat.le_of_ble_eq_true rfl)) (And.intro (Or.inl rfl) (sm_in (sm_in (And.intro (Nat.le_of_ble_eq_true rfl) (sm_in (sm_in (And.intro (Nat.le_of_ble_eq_true rfl) (k)))))))))))
set_option maxRecDepth 100000 in
theorem w_X11_reckonAll_10 {ex : sm_O} {d n : Nat} {y : sm_Y} {I : Nat → Nat → Int32} {L : Nat → Nat → Int64} {R : Nat → Nat → Option Nat} {Q : sm_Q} {w1 : Option Value} {w3 : Option Value} {w5 : Option Value} {w6 : Option Value} {a2 : Int32} {a4 : Int32} (hG : sm_G y R) (k : if a2 ≤ a4 then (sm_W ex d 0 0 182 332 [some (.ref 123), w1, some (.int a2), w3, some (.int a4), w5, w6] [] (n, y, I, L, R) Q) else (if (I 123 38) = 0 then (if (I 123 20) = 0 then (vp_in (((I 123 34) + 98) + (2 * a4)) 5450 ∧ sm_W ex d 0 0 182 57 [some (.ref 123), w1, some (.int a2), w3, some (.int a4), w5, w6] [.int (I 125 (((I 123 34) + 98) + (2 * a4)).toNatClampNeg)] (n, y, I, L, R) Q) else (vp_in a4 400 ∧ sm_W ex d 0 0 182 57 [some (.ref 123), w1, some (.int a2), w3, some (.int a4), w5, w6] [.int (I 134 a4.toNatClampNeg)] (n, y, I, L, R) Q)) else (sm_W ex d 0 0 182 332 [some (.ref 123), w1, some (.int a2), w3, some (.int a4), w5, w6] [] (n, y, I, L, R) Q))) : sm_W ex d 0 0 182 10 [some (.ref 123), w1, some (.int a2), w3, some (.int a4), w5, w6] [] (n, y, I, L, R) Q := sm_in (sm_in (sm_in (And.intro (fun c1 => have k1t := Eq.mp (if_pos c1) k; k1t) (fun c1 => have k1f := Eq.mp (if_neg c1) k; sm_in (sm_in (And.intro (hG.1 123 (Nat.le_of_ble_eq_true rfl)) (sm_in (And.intro (fun c2 => have k2f := Eq.mp (if_neg c2) k1f; k2f) (fun c2 => have k2t := Eq.mp (if_pos c2) k1f; sm_in (sm_in (And.intro (hG.1 123 (Nat.le_of_ble_eq_true rfl)) (sm_in (And.intro (fun c3 => have k3t := Eq.mp (if_pos c3) k2t; sm_in (sm_in (And.intro (hG.1 123 (Nat.le_of_ble_eq_true rfl)) (sm_gfr rfl (hG.2 123 3 rfl) (sm_in (sm_in (And.intro (hG.1 123 (Nat.le_of_ble_eq_true rfl)) (sm_in (sm_in (sm_in (sm_in (sm_in (sm_in ((have e4 := k3t.1; have k4 := k3t.2; sm_in (Exists.intro 5450 (And.intro (hG.1 125 (Nat.le_of_ble_eq_true rfl)) (And.intro e4 (k4))))))))))))))))))) (fun c3 => have k3f := Eq.mp (if_neg c3) k2t; sm_in (sm_in (And.intro (hG.1 123 (Nat.le_of_ble_eq_true rfl)) (sm_gfr rfl (hG.2 123 24 rfl) (sm_in ((have e5 := k3f.1; have k5 := k3f.2; sm_in (Exists.intro 400 (And.intro (hG.1 134 (Nat.le_of_ble_eq_true rfl)) (And.intro e5 (sm_in (k5)))))))))))))))))))))))))
set_option maxRecDepth 100000 in
theorem w_X11_reckonAll_57 {ex : sm_O} {d n : Nat} {y : sm_Y} {I : Nat → Nat → Int32} {L : Nat → Nat → Int64} {R : Nat → Nat → Option Nat} {Q : sm_Q} {w1 : Option Value} {w2 : Option Value} {w3 : Option Value} {w5 : Option Value} {w6 : Option Value} {a4 : Int32} {s0 : Int32} (hG : sm_G y R) (k : if (I 123 20) = 0 then (vp_in ((((I 123 34) + 98) + (2 * a4)) + 1) 5450 ∧ sm_W ex d 0 0 182 95 [some (.ref 123), w1, w2, w3, some (.int a4), some (.int s0), w6] [.int (I 125 ((((I 123 34) + 98) + (2 * a4)) + 1).toNatClampNeg)] (n, y, I, L, R) Q) else (vp_in a4 400 ∧ sm_W ex d 0 0 182 95 [some (.ref 123), w1, w2, w3, some (.int a4), some (.int s0), w6] [.int (I 135 a4.toNatClampNeg)] (n, y, I, L, R) Q)) : sm_W ex d 0 0 182 57 [some (.ref 123), w1, w2, w3, some (.int a4), w5, w6] [.int s0] (n, y, I, L, R) Q := sm_in (And.intro (Nat.le_of_ble_eq_true rfl) (sm_in (sm_in (And.intro (hG.1 123 (Nat.le_of_ble_eq_true rfl)) (sm_in (And.intro (fun c1 => have k1t := Eq.mp (if_pos c1) k; sm_in (sm_in (And.intro (hG.1 123 (Nat.le_of_ble_eq_true rfl)) (sm_gfr rfl (hG.2 123 3 rfl) (sm_in (sm_in (And.intro (hG.1 123 (Nat.le_of_ble_eq_true rfl)) (sm_in (sm_in (sm_in (sm_in (sm_in (sm_in (sm_in (sm_in ((have e2 := k1t.1; have k2 := k1t.2; sm_in (Exists.intro 5450 (And.intro (hG.1 125 (Nat.le_of_ble_eq_true rfl)) (And.intro e2 (k2))))))))))))))))))))) (fun c1 => have k1f := Eq.mp (if_neg c1) k; sm_in (sm_in (And.intro (hG.1 123 (Nat.le_of_ble_eq_true rfl)) (sm_gfr rfl (hG.2 123 25 rfl) (sm_in ((have e3 := k1f.1; have k3 := k1f.2; sm_in (Exists.intro 400 (And.intro (hG.1 135 (Nat.le_of_ble_eq_true rfl)) (And.intro e3 (sm_in (k3))))))))))))))))))
set_option maxRecDepth 100000 in
theorem w_X11_reckonAll_95 {ex : sm_O} {d n : Nat} {y : sm_Y} {I : Nat → Nat → Int32} {L : Nat → Nat → Int64} {R : Nat → Nat → Option Nat} {Q : sm_Q} {w1 : Option Value} {w6 : Option Value} {a2 : Int32} {a3 : Int32} {a4 : Int32} {a5 : Int32} {s0 : Int32} {d1 : Nat} (hG : sm_G y R) (hdep : 2 ≤ d) (h1 : d1 < d) (k : if 20 ≤ a5 then (if 28 ≤ a5 then (if a5 = 28 then (vp_in (a3 - 1) 400 ∧ sm_W ex d 0 0 182 10 [some (.ref 123), w1, some (.int a2), some (.int a3), some (.int (a4 + 1)), some (.int a5), some (.int s0)] [] (n, y, I, sm_st L 143 ((a3 - 1).toNatClampNeg) (1 - (L 143 (a3 - 1).toNatClampNeg)), R) Q) else (vp_in (a3 - 1) 400 ∧ (if a5 = 29 then (if (lg_cmp (L 143 (a3 - 1).toNatClampNeg) 0) = 0 then (sm_W ex d 0 0 182 10 [some (.ref 123), w1, some (.int a2), some (.int a3), some (.int s0), some (.int a5), some (.int s0)] [] (n, y, I, L, R) Q) else (sm_W ex d 0 0 182 10 [some (.ref 123), w1, some (.int a2), some (.int (a3 + (-1))), some (.int (a4 + 1)), some (.int a5), some (.int s0)] [] (n, y, I, L, R) Q)) else (if (lg_cmp (L 143 (a3 - 1).toNatClampNeg) 1) = 0 then (sm_W ex d 0 0 182 10 [some (.ref 123), w1, some (.int a2), some (.int a3), some (.int s0), some (.int a5), some (.int s0)] [] (n, y, I, L, R) Q) else (sm_W ex d 0 0 182 10 [some (.ref 123), w1, some (.int a2), some (.int (a3 + (-1))), some (.int (a4 + 1)), some (.int a5), some (.int s0)] [] (n, y, I, L, R) Q))))) else (vp_in ((a3 + (-1)) - 1) 400 ∧ vp_in (a3 + (-1)) 400 ∧ sm_W ex d1 0 0 181 0 [some (.ref 123), some (.int a5), some (.long (L 143 ((a3 + (-1)) - 1).toNatClampNeg)), none, some (.long (L 143 (a3 + (-1)).toNatClampNeg)), none] [] (n, y, I, L, R) (fun r μ1 => sm_W ex d 0 0 182 227 [some (.ref 123), w1, some (.int a2), some (.int (a3 + (-1))), some (.int (a4 + 1)), some (.int a5), some (.int s0)] (r.toList ++ [.int ((a3 + (-1)) - 1), .ref 143]) μ1 Q))) else (if a5 = 0 then (vp_in a3 400 ∧ sm_W ex d 0 0 182 10 [some (.ref 123), w1, some (.int a2), some (.int (a3 + 1)), some (.int (a4 + 1)), some (.int a5), some (.int s0)] [] (n, y, I, sm_st L 143 a3.toNatClampNeg s0.toInt64, R) Q) else (if (I 123 20) = 0 then (vp_in a5 13 ∧ vp_in a3 400 ∧ sm_W ex d 0 0 182 10 [some (.ref 123), w1, some (.int a2), some (.int (a3 + 1)), some (.int (a4 + 1)), some (.int a5), some (.int s0)] [] (n, y, I, sm_st L 143 a3.toNatClampNeg (L 141 a5.toNatClampNeg), R) Q) else (if 7 ≤ a5 then (if 0 ≤ s0 ∧ s0 < I 125 0 then (vp_in (10 + s0) 5450 ∧ vp_in a3 400 ∧ sm_W ex d 0 0 182 10 [some (.ref 123), w1, some (.int a2), some (.int (a3 + 1)), some (.int (a4 + 1)), some (.int a5), some (.int s0)] [] (n, y, I, sm_st L 143 a3.toNatClampNeg ((I 125 (10 + s0).toNatClampNeg).toInt64), R) Q) else (vp_in a3 400 ∧ sm_W ex d 0 0 182 10 [some (.ref 123), w1, some (.int a2), some (.int (a3 + 1)), some (.int (a4 + 1)), some (.int a5), some (.int s0)] [] (n, y, I, sm_st L 143 a3.toNatClampNeg (-1), R) Q)) else (vp_in a5 13 ∧ vp_in a3 400 ∧ sm_W ex d 0 0 182 10 [some (.ref 123), w1, some (.int a2), some (.int (a3 + 1)), some (.int (a4 + 1)), some (.int a5), some (.int s0)] [] (n, y, I, sm_st L 143 a3.toNatClampNeg (L 142 a5.toNatClampNeg), R) Q))))) : sm_W ex d 0 0 182 95 [some (.ref 123), w1, some (.int a2), some (.int a3), some (.int a4), some (.int a5), w6] [.int s0] (n, y, I, L, R) Q := sm_in (And.intro (Nat.le_of_ble_eq_true rfl) (sm_in (And.intro (Nat.le_of_ble_eq_true rfl) (sm_in (sm_in (sm_in (And.intro (fun c1 => have k1t := Eq.mp (if_pos c1) k; sm_in (sm_in (sm_in (And.intro (fun c2 => have k2t := Eq.mp (if_pos c2) k1t; sm_in (sm_in (sm_in (And.intro (fun c3 => have k3f := Eq.mp (if_neg c3) k2t; sm_in (sm_in (And.intro (hG.1 123 (Nat.le_of_ble_eq_true rfl)) (sm_gfr rfl (hG.2 123 37 rfl) (sm_in (sm_in (sm_in ((have e5 := k3f.1; have k5 := k3f.2; sm_in (Exists.intro 400 (And.intro (hG.1 143 (Nat.le_of_ble_eq_true rfl)) (And.intro e5 (sm_in (sm_in (sm_in (And.intro (fun c6 => have k6f := Eq.mp (if_neg c6) k5; sm_in (sm_in (sm_in (And.intro (fun c8 => have k8f := Eq.mp (if_neg c8) k6f; sm_in (And.intro (Nat.le_of_ble_eq_true rfl) (sm_in (k8f)))) (fun c8 => have k8t := Eq.mp (if_pos c8) k6f; sm_in (sm_in (And.intro (Nat.le_of_ble_eq_true rfl) (sm_in (sm_in (k8t)))))))))) (fun c6 => have k6t := Eq.mp (if_pos c6) k5; sm_in (sm_in (sm_in (sm_in (And.intro (fun c7 => have k7f := Eq.mp (if_neg c7) k6t; sm_in (And.intro (Nat.le_of_ble_eq_true rfl) (sm_in (k7f)))) (fun c7 => have k7t := Eq.mp (if_pos c7) k6t; sm_in (sm_in (And.intro (Nat.le_of_ble_eq_true rfl) (sm_in (sm_in (k7t))))))))))))))))))))))))))) (fun c3 => have k3t := Eq.mp (if_pos c3) k2t; sm_in (sm_in (And.intro (hG.1 123 (Nat.le_of_ble_eq_true rfl)) (sm_gfr rfl (hG.2 123 37 rfl) (sm_in (sm_in (sm_in (sm_in (sm_in (sm_in (And.intro (hG.1 123 (Nat.le_of_ble_eq_true rfl)) (sm_gfr rfl (hG.2 123 37 rfl) (sm_in (sm_in (sm_in ((have e4 := k3t.1; have k4 := k3t.2; sm_in (Exists.intro 400 (And.intro (hG.1 143 (Nat.le_of_ble_eq_true rfl)) (And.intro e4 (sm_in (sm_in (Exists.intro 400 (And.intro (hG.1 143 (Nat.le_of_ble_eq_true rfl)) (And.intro e4 (sm_in (sm_in (k4)))))))))))))))))))))))))))))))) (fun c2 => have k2f := Eq.mp (if_neg c2) k1t; sm_in (And.intro (Nat.le_of_ble_eq_true rfl) (sm_in (sm_in (And.intro (hG.1 123 (Nat.le_of_ble_eq_true rfl)) (sm_gfr rfl (hG.2 123 37 rfl) (sm_in (sm_in (sm_in (sm_in (sm_in (sm_in (sm_in (And.intro (hG.1 123 (Nat.le_of_ble_eq_true rfl)) (sm_gfr rfl (hG.2 123 37 rfl) (sm_in (sm_in (sm_in ((have e9 := k2f.1; have k9 := k2f.2; sm_in (Exists.intro 400 (And.intro (hG.1 143 (Nat.le_of_ble_eq_true rfl)) (And.intro e9 (sm_in (sm_in (And.intro (hG.1 123 (Nat.le_of_ble_eq_true rfl)) (sm_gfr rfl (hG.2 123 37 rfl) (sm_in ((have e10 := k9.1; have k10 := k9.2; sm_in (Exists.intro 400 (And.intro (hG.1 143 (Nat.le_of_ble_eq_true rfl)) (And.intro e10 (sm_in (Exists.intro 11 (And.intro (hG.1 123 (Nat.le_of_ble_eq_true rfl)) (And.intro rfl (sm_calln h1 (Nat.le_of_ble_eq_true rfl) (Nat.le_of_ble_eq_true rfl) k10)))))))))))))))))))))))))))))))))))))))))) (fun c1 => have k1f := Eq.mp (if_neg c1) k; sm_in (sm_in (And.intro (hG.1 123 (Nat.le_of_ble_eq_true rfl)) (sm_gfr rfl (hG.2 123 37 rfl) (sm_in (sm_in (sm_in (And.intro (fun c11 => have k11f := Eq.mp (if_neg c11) k1f; sm_in (sm_in (And.intro (hG.1 123 (Nat.le_of_ble_eq_true rfl)) (sm_in (And.intro (fun c13 => have k13f := Eq.mp (if_neg c13) k11f; sm_in (sm_in (sm_in (And.intro (fun c16 => have k16t := Eq.mp (if_pos c16) k13f; sm_in (sm_in (sm_in (Exists.intro 11 (And.intro (hG.1 123 (Nat.le_of_ble_eq_true rfl)) (And.intro rfl (sm_calln (d1 := 1) (Nat.lt_of_lt_of_le (Nat.lt_succ_self 1) (Nat.le_trans (Nat.le_of_ble_eq_true rfl) hdep)) (Nat.le_of_ble_eq_true rfl) (Nat.le_of_ble_eq_true rfl) (c_X11_isMan hG (sm_in (And.intro (fun c17 => have k17f := Eq.mp (if_neg (sm_b_0.mp c17)) k16t; sm_in ((have e20 := k17f.1; have k20 := k17f.2; sm_in (Exists.intro 400 (And.intro (hG.1 143 (Nat.le_of_ble_eq_true rfl)) (And.intro e20 (sm_in (And.intro (Nat.le_of_ble_eq_true rfl) (sm_in (sm_in (k20))))))))))) (fun c17 => have k17t := Eq.mp (if_pos (sm_b_n.mp c17)) k16t; sm_in (sm_in (And.intro (hG.1 123 (Nat.le_of_ble_eq_true rfl)) (sm_gfr rfl (hG.2 123 3 rfl) (sm_in (sm_in (sm_in ((have e18 := k17t.1; have k18 := k17t.2; sm_in (Exists.intro 5450 (And.intro (hG.1 125 (Nat.le_of_ble_eq_true rfl)) (And.intro e18 (sm_in (sm_in ((have e19 := k18.1; have k19 := k18.2; sm_in (Exists.intro 400 (And.intro (hG.1 143 (Nat.le_of_ble_eq_true rfl)) (And.intro e19 (sm_in (And.intro (Nat.le_of_ble_eq_true rfl) (sm_in (sm_in (k19)))))))))))))))))))))))))))))))))) (fun c16 => have k16f := Eq.mp (if_neg c16) k13f; sm_in (sm_in (And.intro (hG.1 123 (Nat.le_of_ble_eq_true rfl)) (sm_gfr rfl (hG.2 123 36 rfl) (sm_in ((have e21 := k16f.1; have k21 := k16f.2; sm_in (Exists.intro 13 (And.intro (hG.1 142 (Nat.le_of_ble_eq_true rfl)) (And.intro e21 (sm_in ((have e22 := k21.1; have k22 := k21.2; sm_in (Exists.intro 400 (And.intro (hG.1 143 (Nat.le_of_ble_eq_true rfl)) (And.intro e22 (sm_in (And.intro (Nat.le_of_ble_eq_true rfl) (sm_in (sm_in (k22))))))))))))))))))))))))) (fun c13 => have k13t := Eq.mp (if_pos c13) k11f; sm_in (sm_in (And.intro (hG.1 123 (Nat.le_of_ble_eq_true rfl)) (sm_gfr rfl (hG.2 123 35 rfl) (sm_in ((have e14 := k13t.1; have k14 := k13t.2; sm_in (Exists.intro 13 (And.intro (hG.1 141 (Nat.le_of_ble_eq_true rfl)) (And.intro e14 (sm_in ((have e15 := k14.1; have k15 := k14.2; sm_in (Exists.intro 400 (And.intro (hG.1 143 (Nat.le_of_ble_eq_true rfl)) (And.intro e15 (sm_in (And.intro (Nat.le_of_ble_eq_true rfl) (sm_in (sm_in (k15)))))))))))))))))))))))))) (fun c11 => have k11t := Eq.mp (if_pos c11) k1f; sm_in (sm_in (sm_in ((have e12 := k11t.1; have k12 := k11t.2; sm_in (Exists.intro 400 (And.intro (hG.1 143 (Nat.le_of_ble_eq_true rfl)) (And.intro e12 (sm_in (And.intro (Nat.le_of_ble_eq_true rfl) (sm_in (sm_in (k12))))))))))))))))))))))))))))
set_option maxRecDepth 100000 in
theorem w_X11_reckonAll_227 {ex : sm_O} {d n : Nat} {y : sm_Y} {I : Nat → Nat → Int32} {L : Nat → Nat → Int64} {R : Nat → Nat → Option Nat} {Q : sm_Q} {w1 : Option Value} {w2 : Option Value} {w4 : Option Value} {w5 : Option Value} {w6 : Option Value} {a3 : Int32} {s0 : Int64} {s1 : Int32} (hG : sm_G y R) (hdep : 1 ≤ d) (k : vp_in s1 400 ∧ (if (I 123 38) = 0 then (vp_in (a3 - 1) 400 ∧ (if (-1000000000 : Int64) ≤ ((sm_st L 143 s1.toNatClampNeg s0) 143 (a3 - 1).toNatClampNeg) ∧ ((sm_st L 143 s1.toNatClampNeg s0) 143 (a3 - 1).toNatClampNeg) ≤ (1000000000 : Int64) then (sm_W ex d 0 0 182 10 [some (.ref 123), w1, w2, some (.int a3), w4, w5, w6] [] (n, y, sm_st I 123 38 0, sm_st L 143 s1.toNatClampNeg s0, R) Q) else (sm_W ex d 0 0 182 10 [some (.ref 123), w1, w2, some (.int a3), w4, w5, w6] [] (n, y, sm_st I 123 38 1, sm_st L 143 s1.toNatClampNeg s0, R) Q))) else (sm_W ex d 0 0 182 10 [some (.ref 123), w1, w2, some (.int a3), w4, w5, w6] [] (n, y, sm_st I 123 38 1, sm_st L 143 s1.toNatClampNeg s0, R) Q))) : sm_W ex d 0 0 182 227 [some (.ref 123), w1, w2, some (.int a3), w4, w5, w6] [.long s0, .int s1, .ref 143] (n, y, I, L, R) Q := (have e1 := k.1; have k1 := k.2; sm_in (Exists.intro 400 (And.intro (hG.1 143 (Nat.le_of_ble_eq_true rfl)) (And.intro e1 (sm_in (sm_in (sm_in (And.intro (hG.1 123 (Nat.le_of_ble_eq_true rfl)) (sm_in (And.intro (fun c2 => have k2f := Eq.mp (if_neg c2) k1; sm_in (sm_in (sm_in (And.intro (hG.1 123 (Nat.le_of_ble_eq_true rfl)) (And.intro (Or.inr rfl) (sm_in (sm_in (k2f)))))))) (fun c2 => have k2t := Eq.mp (if_pos c2) k1; sm_in (sm_in (And.intro (hG.1 123 (Nat.le_of_ble_eq_true rfl)) (sm_gfr rfl (hG.2 123 37 rfl) (sm_in (sm_in (sm_in ((have e3 := k2t.1; have k3 := k2t.2; sm_in (Exists.intro 400 (And.intro (hG.1 143 (Nat.le_of_ble_eq_true rfl)) (And.intro e3 (sm_in (sm_in (sm_in (And.intro (Nat.le_of_ble_eq_true rfl) (sm_calln (d1 := 0) (Nat.lt_of_lt_of_le (Nat.lt_succ_self 0) (Nat.le_trans (Nat.le_of_ble_eq_true rfl) hdep)) (Nat.le_of_ble_eq_true rfl) (Nat.le_of_ble_eq_true rfl) (c_X11_in  (sm_in (And.intro (fun c4 => have k4t := Eq.mp (if_pos (sm_b_n.mp c4)) k3; sm_in (sm_in (And.intro (hG.1 123 (Nat.le_of_ble_eq_true rfl)) (And.intro (Or.inl rfl) (sm_in (sm_in (k4t))))))) (fun c4 => have k4f := Eq.mp (if_neg (sm_b_0.mp c4)) k3; sm_in (sm_in (sm_in (And.intro (hG.1 123 (Nat.le_of_ble_eq_true rfl)) (And.intro (Or.inr rfl) (sm_in (sm_in (k4f))))))))))))))))))))))))))))))))))))))
set_option maxRecDepth 100000 in
theorem w_X11_reckonAll_332 {ex : sm_O} {d n : Nat} {y : sm_Y} {I : Nat → Nat → Int32} {L : Nat → Nat → Int64} {R : Nat → Nat → Option Nat} {Q : sm_Q} {w1 : Option Value} {w2 : Option Value} {w4 : Option Value} {w5 : Option Value} {w6 : Option Value} {a3 : Int32} (hG : sm_G y R) (k : if a3 ≤ 0 then (Q none (n, y, I, sm_st L 123 39 0, R)) else (Q none (n, y, I, sm_st L 123 39 (L 143 0), R))) : sm_W ex d 0 0 182 332 [some (.ref 123), w1, w2, some (.int a3), w4, w5, w6] [] (n, y, I, L, R) Q := sm_in (sm_in (sm_in (And.intro (fun c1 => have k1t := Eq.mp (if_pos c1) k; sm_in (sm_in (And.intro (hG.1 123 (Nat.le_of_ble_eq_true rfl)) (sm_in (And.intro rfl (And.intro rfl k1t)))))) (fun c1 => have k1f := Eq.mp (if_neg c1) k; sm_in (sm_in (And.intro (hG.1 123 (Nat.le_of_ble_eq_true rfl)) (sm_gfr rfl (hG.2 123 37 rfl) (sm_in (sm_in (Exists.intro 400 (And.intro (hG.1 143 (Nat.le_of_ble_eq_true rfl)) (And.intro (sm_lin (by decide)) (sm_in (sm_in (And.intro (hG.1 123 (Nat.le_of_ble_eq_true rfl)) (sm_in (And.intro rfl (And.intro rfl k1f))))))))))))))))))
/-- a part of a sum that is two, joined; none: broken -/
def sp_rk (op : Int32) (a b : Int64) : Option Int64 := if (op = 23 ∨ op = 24) ∧ b = 0 then none else if -1000000000 ≤ rk_val op a b ∧ rk_val op a b ≤ 1000000000 then some (rk_val op a b) else none
/-- the model's code from k on up to e, on a pile (the top first): P of the pile, or of none (broken) -/
def mEv (cd : Nat → Int32 × Int32) (lf : Int32 → Int32 → Int64) (e : Nat) : Nat → Nat → List Int64 → (Option (List Int64) → Prop) → Prop
  | 0, _, _, _ => False
  | f + 1, k, st, P => if k = e then P (some st) else k < e ∧ (if 20 ≤ (cd k).1 then (if 28 ≤ (cd k).1 then (match st with
      | [] => False
      | a :: t => if (cd k).1 = 28 then mEv cd lf e f (k + 1) ((1 - a) :: t) P else if a = (if (cd k).1 = 29 then 0 else 1) then ∃ j, (cd k).2 = nI j ∧ k < j ∧ j ≤ e ∧ mEv cd lf e f j (a :: t) P else mEv cd lf e f (k + 1) t P)
      else (match st with
      | b :: a :: t => (match sp_rk (cd k).1 a b with
        | some v => mEv cd lf e f (k + 1) (v :: t) P
        | none => P none)
      | _ => False))
      else 0 ≤ (cd k).1 ∧ (cd k).1 < 9 ∧ mEv cd lf e f (k + 1) ((if (cd k).1 = 0 then (cd k).2.toInt64 else lf (cd k).1 (cd k).2) :: st) P)
/-- a pile in an array, the top first -/
def stR (g : Nat → Int64) : List Int64 → Prop
  | [] => True
  | a :: t => g t.length = a ∧ stR g t
theorem stR_kept {g g' : Nat → Int64} : ∀ (t : List Int64), (∀ i, i < t.length → g' i = g i) → stR g t → stR g' t
  | [], _, _ => trivial
  | a :: t, h, hs => ⟨by rw [h _ (by simp)]; exact hs.1, stR_kept t (fun i hi => h i (by simp; omega)) hs.2⟩
theorem stR_push {L : Nat → Nat → Int64} {t : List Int64} (v : Int64) (h : stR (L 143) t) : stR (sm_st L 143 t.length v 143) (v :: t) := ⟨sm_st_s _ _ _ _, stR_kept t (fun i hi => sm_st_j _ _ (by omega)) h⟩
/-- what the model's code is, by its memory -/
def mCd (I : Nat → Nat → Int32) (k : Nat) : Int32 × Int32 := if I 123 20 = 0 then (I 125 ((I 123 34).toNatClampNeg + 98 + 2 * k), I 125 ((I 123 34).toNatClampNeg + 98 + 2 * k + 1)) else (I 134 k, I 135 k)
def mLf (I : Nat → Nat → Int32) (L : Nat → Nat → Int64) (op arg : Int32) : Int64 := if I 123 20 = 0 then L 141 op.toNatClampNeg else if 7 ≤ op then (if 0 ≤ arg ∧ arg < I 125 0 then (I 125 (10 + arg).toNatClampNeg).toInt64 else -1) else L 142 op.toNatClampNeg

theorem sm_i98 (B k : Nat) : (nI B + 98) + 2 * nI k = nI (B + 98 + 2 * k) := by
  rw [show (98 : Int32) = nI 98 from rfl, show (2 : Int32) = nI 2 from rfl, pk_mul, nI_add, nI_add]
/-- what the loop of sums leaves: nothing else is touched -/
def mFr (I I' : Nat → Nat → Int32) (L L' : Nat → Nat → Int64) : Prop := (∀ a j, ¬ (a = 123 ∧ j = 38) → I' a j = I a j) ∧ ∀ a j, a ≠ 143 → L' a j = L a j
theorem mFr.rfl' (I : Nat → Nat → Int32) (L : Nat → Nat → Int64) : mFr I I L L := ⟨fun _ _ _ => rfl, fun _ _ _ => rfl⟩
theorem mFr.trans {I I' I2 : Nat → Nat → Int32} {L L' L2 : Nat → Nat → Int64} (h1 : mFr I I' L L') (h2 : mFr I' I2 L' L2) : mFr I I2 L L2 := ⟨fun a j h => (h2.1 a j h).trans (h1.1 a j h), fun a j h => (h2.2 a j h).trans (h1.2 a j h)⟩
theorem mFr.L1 (I : Nat → Nat → Int32) (L : Nat → Nat → Int64) (i : Nat) (v : Int64) : mFr I I L (sm_st L 143 i v) := ⟨fun _ _ _ => rfl, fun _ _ h => sm_st_o _ _ h⟩
theorem mFr.I1 (I : Nat → Nat → Int32) (L : Nat → Nat → Int64) (v : Int32) : mFr I (sm_st I 123 38 v) L L := ⟨fun a j h => by
  by_cases ha : a = 123
  · exact sm_st_j _ _ (fun hj => h ⟨ha, hj⟩)
  · exact sm_st_o _ _ ha, fun _ _ _ => rfl⟩
theorem mFr.rk (I : Nat → Nat → Int32) (L : Nat → Nat → Int64) (op : Int32) (b : Int64) : mFr I (rk_mem op b I) L L := by
  unfold rk_mem
  split
  · exact mFr.I1 I L _
  · exact mFr.rfl' I L
theorem mCd_kept {I I' : Nat → Nat → Int32} {L L' : Nat → Nat → Int64} (h : mFr I I' L L') (k : Nat) : mCd I' k = mCd I k := by
  unfold mCd
  rw [h.1 123 20 (by simp), h.1 123 34 (by simp), h.1 125 _ (by simp), h.1 125 _ (by simp), h.1 134 _ (by simp), h.1 135 _ (by simp)]
theorem mLf_kept {I I' : Nat → Nat → Int32} {L L' : Nat → Nat → Int64} (h : mFr I I' L L') (op arg : Int32) : mLf I' L' op arg = mLf I L op arg := by
  unfold mLf
  rw [h.1 123 20 (by simp), h.1 125 _ (by simp), h.1 125 _ (by simp), h.2 141 _ (by simp), h.2 142 _ (by simp)]
def mOut (o : Option (List Int64)) (I' : Nat → Nat → Int32) (L' : Nat → Nat → Int64) (nn : Int32) : Prop := match o with
  | some st' => I' 123 38 = 0 ∧ stR (L' 143) st' ∧ nn = nI st'.length
  | none => I' 123 38 = 1
set_option maxHeartbeats 1000000 in
theorem lp_reckonAll {ex : sm_O} {d n e B : Nat} {y : sm_Y} {R : Nat → Nat → Option Nat} {Q : sm_Q} {cd : Nat → Int32 × Int32} {lf : Int32 → Int32 → Int64} {P : Option (List Int64) → Prop} (hd : 2 ≤ d) (hG : sm_G y R) (he : e ≤ 400) (hB : B + 98 + 2 * 400 + 1 < 5450) :
    ∀ (f k : Nat) (st : List Int64) (I : Nat → Nat → Int32) (L : Nat → Nat → Int64) (w1 w5 w6 : Option Value), (∀ j, cd j = mCd I j) → (∀ op arg, lf op arg = mLf I L op arg) → (I 123 20 = 0 → I 123 34 = nI B) → (∃ m, m ≤ 7 ∧ I 125 0 = nI m) → I 123 38 = 0 → stR (L 143) st → st.length ≤ k → mEv cd lf e f k st P →
    (∀ (o : Option (List Int64)) (I' : Nat → Nat → Int32) (L' : Nat → Nat → Int64) (nn kk : Int32) (v1 v5 v6 : Option Value), P o → mFr I I' L L' → mOut o I' L' nn → sm_W ex d 0 0 182 332 [some (.ref 123), v1, some (.int (nI e)), some (.int nn), some (.int kk), v5, v6] [] (n, y, I', L', R) Q) →
    sm_W ex d 0 0 182 10 [some (.ref 123), w1, some (.int (nI e)), some (.int (nI st.length)), some (.int (nI k)), w5, w6] [] (n, y, I, L, R) Q := by
  intro f
  induction f with
  | zero => intro k st I L w1 w5 w6 _ _ _ _ _ _ _ h; exact h.elim
  | succ f ih =>
    intro k st I L w1 w5 w6 hcd hlf hb hm h38 hst hl h kk
    unfold mEv at h
    by_cases hke : k = e
    · rw [if_pos hke] at h
      subst hke
      refine w_X11_reckonAll_10 hG ?_
      rw [if_pos (Int32.le_refl _)]
      exact kk _ I L _ _ _ _ _ h (mFr.rfl' I L) ⟨h38, hst, rfl⟩
    · rw [if_neg hke] at h
      obtain ⟨hlt, h⟩ := h
      have hk4 : k < 400 := by omega
      have hsl : st.length < 400 := by omega
      -- the op and its argument
      have hop : ∀ (w : Option Value), sm_W ex d 0 0 182 95 [some (.ref 123), w1, some (.int (nI e)), some (.int (nI st.length)), some (.int (nI k)), some (.int (cd k).1), w6] [.int (cd k).2] (n, y, I, L, R) Q → sm_W ex d 0 0 182 10 [some (.ref 123), w1, some (.int (nI e)), some (.int (nI st.length)), some (.int (nI k)), w5, w6] [] (n, y, I, L, R) Q := by
        intro w hw
        refine w_X11_reckonAll_10 hG ?_
        rw [if_neg (by rw [nI_leI (by omega) (by omega)]; omega), if_pos h38]
        by_cases h20 : I 123 20 = 0
        · rw [if_pos h20, hb h20, sm_i98]
          refine ⟨vp_in_nI (by omega) (by decide), ?_⟩
          refine w_X11_reckonAll_57 hG ?_
          rw [if_pos h20, hb h20, sm_i98, nI_1]
          refine ⟨vp_in_nI (by omega) (by decide), ?_⟩
          rw [nI_clamp (by omega), nI_clamp (by omega)]
          rw [hcd k, mCd, if_pos h20, hb h20, nI_clamp (by omega)] at hw
          exact hw
        · rw [if_neg h20]
          refine ⟨vp_in_nI (by omega) (by decide), ?_⟩
          refine w_X11_reckonAll_57 hG ?_
          rw [if_neg h20]
          refine ⟨vp_in_nI (by omega) (by decide), ?_⟩
          rw [nI_clamp (by omega)]
          rw [hcd k, mCd, if_neg h20] at hw
          exact hw
      refine hop none ?_
      -- one more step, with what is kept
      have more : ∀ (k' : Nat) (st' : List Int64) (I' : Nat → Nat → Int32) (L' : Nat → Nat → Int64) (v1 v5 v6 : Option Value), mFr I I' L L' → I' 123 38 = 0 → stR (L' 143) st' → st'.length ≤ k' → mEv cd lf e f k' st' P → sm_W ex d 0 0 182 10 [some (.ref 123), v1, some (.int (nI e)), some (.int (nI st'.length)), some (.int (nI k')), v5, v6] [] (n, y, I', L', R) Q := by
        intro k' st' I' L' v1 v5 v6 hf h38' hst' hl' h'
        refine ih k' st' I' L' v1 v5 v6 (fun j => by rw [hcd j, mCd_kept hf]) (fun op arg => by rw [hlf, mLf_kept hf]) (fun h20 => by rw [hf.1 123 34 (by simp)]; exact hb (by rw [← hf.1 123 20 (by simp)]; exact h20)) (by rw [hf.1 125 0 (by simp)]; exact hm) h38' hst' hl' h' ?_
        intro o I2 L2 nn kx u1 u5 u6 hP hf2 ho
        exact kk o I2 L2 nn kx u1 u5 u6 hP (hf.trans hf2) ho
      refine w_X11_reckonAll_95 (d1 := 0) hG hd (by omega) ?_
      by_cases h20 : 20 ≤ (cd k).1
      · rw [if_pos h20] at h ⊢
        by_cases h28 : 28 ≤ (cd k).1
        · rw [if_pos h28] at h ⊢
          match st, h, hst, hl, hsl with
          | a :: t, h, hst, hl, hsl =>
            dsimp only at h
            have e1 : nI (a :: t).length - 1 = nI t.length := nI_pred t.length
            have hin : vp_in (nI t.length) 400 := vp_in_nI (by simp at hsl; omega) (by decide)
            have hct : (nI t.length).toNatClampNeg = t.length := nI_clamp (by simp at hsl; omega)
            by_cases h0 : (cd k).1 = 28
            · rw [if_pos h0] at h ⊢
              rw [e1]
              refine ⟨hin, ?_⟩
              rw [hct, hst.1, sm_n1]
              have := more (k + 1) ((1 - a) :: t) I (sm_st L 143 t.length (1 - a)) w1 (some (.int (cd k).1)) (some (.int (cd k).2)) (mFr.L1 I L _ _) h38 (stR_push _ hst.2) (by simp at hl ⊢; omega) h
              exact this
            · rw [if_neg h0] at h ⊢
              rw [e1]
              refine ⟨hin, ?_⟩
              rw [hct, hst.1]
              simp only [sm_cmp_eq]
              have hjump : ∀ (c : Int64), (a = c → ∃ j, (cd k).2 = nI j ∧ k < j ∧ j ≤ e ∧ mEv cd lf e f j (a :: t) P) → (¬ a = c → mEv cd lf e f (k + 1) t P) → (if a = c then sm_W ex d 0 0 182 10 [some (.ref 123), w1, some (.int (nI e)), some (.int (nI (a :: t).length)), some (.int (cd k).2), some (.int (cd k).1), some (.int (cd k).2)] [] (n, y, I, L, R) Q else sm_W ex d 0 0 182 10 [some (.ref 123), w1, some (.int (nI e)), some (.int (nI (a :: t).length + (-1))), some (.int (nI k + 1)), some (.int (cd k).1), some (.int (cd k).2)] [] (n, y, I, L, R) Q) := by
                intro c hj1 hj2
                split
                · rename_i hac
                  obtain ⟨j, q1, q2, q3, q4⟩ := hj1 hac
                  have := more j (a :: t) I L w1 (some (.int (cd k).1)) (some (.int (cd k).2)) (mFr.rfl' I L) h38 hst (by omega) q4
                  rw [← q1] at this
                  exact this
                · rename_i hac
                  have := more (k + 1) t I L w1 (some (.int (cd k).1)) (some (.int (cd k).2)) (mFr.rfl' I L) h38 hst.2 (by simp at hl; omega) (hj2 hac)
                  rw [show nI (a :: t).length + (-1) = nI t.length from pk_m1 t.length, sm_n1]
                  exact this
              by_cases h29 : (cd k).1 = 29
              · rw [if_pos h29] at h ⊢
                refine hjump 0 (fun q => ?_) (fun q => ?_)
                · rw [if_pos q] at h
                  exact h
                · rw [if_neg q] at h
                  exact h
              · rw [if_neg h29] at h ⊢
                refine hjump 1 (fun q => ?_) (fun q => ?_)
                · rw [if_pos q] at h
                  exact h
                · rw [if_neg q] at h
                  exact h
        · rw [if_neg h28] at h ⊢
          match st, h, hst, hl, hsl with
          | b :: a :: t, h, hst, hl, hsl =>
            dsimp only at h
            have e1 : nI (b :: a :: t).length + (-1) = nI (a :: t).length := pk_m1 (a :: t).length
            have e2 : nI (a :: t).length - 1 = nI t.length := nI_pred t.length
            simp only [List.length_cons] at hsl
            have c1 : (nI (a :: t).length).toNatClampNeg = t.length + 1 := nI_clamp (by simp; omega)
            have c2 : (nI t.length).toNatClampNeg = t.length := nI_clamp (by omega)
            rw [e1, e2]
            refine ⟨vp_in_nI (by omega) (by decide), vp_in_nI (by simp; omega) (by decide), ?_⟩
            rw [c1, c2, show L 143 (t.length + 1) = b from hst.1, show L 143 t.length = a from hst.2.1]
            refine c_X11_reckon hG ?_
            refine w_X11_reckonAll_227 hG (by omega) ?_
            rw [e2]
            refine ⟨vp_in_nI (by omega) (by decide), ?_⟩
            rw [c2, sm_st_s, sm_n1]
            have stop : ∀ (I' : Nat → Nat → Int32) (L' : Nat → Nat → Int64) (v1 v5 v6 : Option Value) (nn kx : Int32), mFr I I' L L' → I' 123 38 = 1 → P none → sm_W ex d 0 0 182 10 [some (.ref 123), v1, some (.int (nI e)), some (.int nn), some (.int kx), v5, v6] [] (n, y, I', L', R) Q := by
              intro I' L' v1 v5 v6 nn kx hf h1 hP
              refine w_X11_reckonAll_10 hG ?_
              split
              · exact kk none I' L' _ _ _ _ _ hP hf h1
              · rw [if_neg (by rw [h1]; decide)]
                exact kk none I' L' _ _ _ _ _ hP hf h1
            have hfr : ∀ (x : Int32) (v : Int64), mFr I (sm_st (rk_mem (cd k).1 b I) 123 38 x) L (sm_st L 143 t.length v) := fun x v => (mFr.rk I L (cd k).1 b).trans ((mFr.I1 _ L x).trans (mFr.L1 _ L _ _))
            have hbr : ((rk_mem (cd k).1 b I) 123 38 = 0) ↔ ¬ (((cd k).1 = 23 ∨ (cd k).1 = 24) ∧ b = 0) := by
              unfold rk_mem
              by_cases q1 : (cd k).1 = 23 ∨ (cd k).1 = 24
              · rw [if_pos q1, sm_st_s]
                by_cases q2 : b = 0
                · simp [q1, q2]
                · simp [q2]
              · rw [if_neg q1]
                simp [q1, h38]
            by_cases q : ((cd k).1 = 23 ∨ (cd k).1 = 24) ∧ b = 0
            · have hrk : sp_rk (cd k).1 a b = none := by unfold sp_rk; rw [if_pos q]
              simp only [hrk] at h
              rw [if_neg (fun z => (hbr.mp z) q)]
              exact stop _ _ _ _ _ _ _ (hfr 1 _) (sm_st_s _ _ _ _) h
            · rw [if_pos (hbr.mpr q)]
              refine ⟨vp_in_nI (by omega) (by decide), ?_⟩
              by_cases q2 : -1000000000 ≤ rk_val (cd k).1 a b ∧ rk_val (cd k).1 a b ≤ 1000000000
              · have hrk : sp_rk (cd k).1 a b = some (rk_val (cd k).1 a b) := by unfold sp_rk; rw [if_neg q, if_pos q2]
                simp only [hrk] at h
                rw [if_pos q2]
                exact more (k + 1) (rk_val (cd k).1 a b :: t) _ _ w1 (some (.int (cd k).1)) (some (.int (cd k).2)) (hfr 0 _) (sm_st_s _ _ _ _) (stR_push _ hst.2.2) (by simp at hl ⊢; omega) h
              · have hrk : sp_rk (cd k).1 a b = none := by unfold sp_rk; rw [if_neg q, if_neg q2]
                simp only [hrk] at h
                rw [if_neg q2]
                exact stop _ _ _ _ _ _ _ (hfr 1 _) (sm_st_s _ _ _ _) h
      · rw [if_neg h20] at h ⊢
        obtain ⟨g0, g9, h⟩ := h
        have hin : vp_in (nI st.length) 400 := vp_in_nI hsl (by decide)
        have hct : (nI st.length).toNatClampNeg = st.length := nI_clamp (by omega)
        have h13 : vp_in (cd k).1 13 := by
          rw [vp_in_iff]
          rw [Int32.le_iff_toInt_le] at g0
          rw [Int32.lt_iff_toInt_lt] at g9
          have z0 : (0 : Int32).toInt = 0 := rfl
          have z9 : (9 : Int32).toInt = 9 := rfl
          omega
        have push : ∀ v : Int64, mEv cd lf e f (k + 1) (v :: st) P → sm_W ex d 0 0 182 10 [some (.ref 123), w1, some (.int (nI e)), some (.int (nI st.length + 1)), some (.int (nI k + 1)), some (.int (cd k).1), some (.int (cd k).2)] [] (n, y, I, sm_st L 143 st.length v, R) Q := by
          intro v hv
          rw [sm_n1, sm_n1]
          exact more (k + 1) (v :: st) I _ w1 (some (.int (cd k).1)) (some (.int (cd k).2)) (mFr.L1 I L _ _) h38 (stR_push v hst) (by simp; omega) hv
        rw [hct]
        by_cases h0 : (cd k).1 = 0
        · rw [if_pos h0] at h ⊢
          exact ⟨hin, push _ h⟩
        · rw [if_neg h0] at h ⊢
          rw [hlf, mLf] at h
          by_cases hm20 : I 123 20 = 0
          · rw [if_pos hm20] at h ⊢
            exact ⟨h13, hin, push _ h⟩
          · rw [if_neg hm20] at h ⊢
            by_cases h7 : 7 ≤ (cd k).1
            · rw [if_pos h7] at h ⊢
              by_cases hman : 0 ≤ (cd k).2 ∧ (cd k).2 < I 125 0
              · rw [if_pos hman] at h ⊢
                obtain ⟨m, hm7, hm0⟩ := hm
                refine ⟨?_, hin, push _ h⟩
                obtain ⟨q, hq, hq2⟩ := nI_of (Int32.not_lt.mpr hman.1)
                rw [hq2] at hman ⊢
                have : q < m := (nI_ltI hq (by omega)).mp (by rw [← hm0]; exact hman.2)
                exact sm_ci10 (by omega) (by decide)
              · rw [if_neg hman] at h ⊢
                exact ⟨hin, push _ h⟩
            · rw [if_neg h7] at h ⊢
              exact ⟨h13, hin, push _ h⟩

