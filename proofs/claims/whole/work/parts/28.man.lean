set_option maxRecDepth 100000 in
theorem w_X10_man_0 {ex : sm_O} {d n : Nat} {y : sm_Y} {I : Nat → Nat → Int32} {L : Nat → Nat → Int64} {R : Nat → Nat → Option Nat} {Q : sm_Q} {a1 : Int32} {a2 : Int32} {d1 : Nat} (hG : sm_G y R) (hdep : 1 ≤ d) (h1 : d1 < d) (k : if a1 < 1 then (sm_W ex d1 0 0 122 0 [some (.ref 0), some (.int (-1))] [] (n, y, I, L, R) (fun r μ1 => sm_W ex d 0 0 75 13 [some (.ref 0), some (.int a1), some (.int a2)] (r.toList ++ []) μ1 Q)) else (if 9 < a1 then (sm_W ex d1 0 0 122 0 [some (.ref 0), some (.int (-1))] [] (n, y, I, L, R) (fun r μ1 => sm_W ex d 0 0 75 13 [some (.ref 0), some (.int a1), some (.int a2)] (r.toList ++ []) μ1 Q)) else (if a2 < 0 then (sm_W ex d1 0 0 122 0 [some (.ref 0), some (.int (-1))] [] (n, y, I, L, R) (fun r μ1 => sm_W ex d 0 0 75 13 [some (.ref 0), some (.int a1), some (.int a2)] (r.toList ++ []) μ1 Q)) else (if 63 < a2 then (sm_W ex d1 0 0 122 0 [some (.ref 0), some (.int (-1))] [] (n, y, I, L, R) (fun r μ1 => sm_W ex d 0 0 75 13 [some (.ref 0), some (.int a1), some (.int a2)] (r.toList ++ []) μ1 Q)) else (if (I 1 4) < 7 then (sm_W ex d1 0 0 67 0 [some (.ref 1), some (.int a1), some (.int a2)] [] (n, y, sm_st I 65 1 0, L, R) (fun r μ1 => sm_W ex d 0 0 75 53 [some (.ref 0), some (.int a1), some (.int a2)] (r.toList ++ [.ref 0]) μ1 Q)) else (sm_W ex d1 0 0 122 0 [some (.ref 0), some (.int (-5))] [] (n, y, I, L, R) (fun r μ1 => sm_W ex d 0 0 75 32 [some (.ref 0), some (.int a1), some (.int a2)] (r.toList ++ []) μ1 Q))))))) : sm_W ex d 0 0 75 0 [some (.ref 0), some (.int a1), some (.int a2)] [] (n, y, I, L, R) Q := sm_in (sm_in (sm_in (And.intro (Nat.le_of_ble_eq_true rfl) (sm_calln (d1 := 0) (Nat.lt_of_lt_of_le (Nat.le_of_ble_eq_true rfl : 0 < 1) hdep) (Nat.le_of_ble_eq_true rfl) (Nat.le_of_ble_eq_true rfl) (sm_in (sm_in (sm_in (And.intro (fun c1 => have k1t := Eq.mp (if_pos c1) k; sm_in (sm_in (And.intro rfl (And.intro (Or.inl rfl) (sm_in (And.intro (fun c => absurd (by decide : (0 : Int32) = 0) c) (fun _ => sm_in (sm_in (sm_in (Exists.intro 10 (And.intro (hG.1 0 (Nat.le_of_ble_eq_true rfl)) (And.intro rfl (sm_calln h1 (Nat.le_of_ble_eq_true rfl) (Nat.le_of_ble_eq_true rfl) k1t))))))))))))) (fun c1 => have k1f := Eq.mp (if_neg c1) k; sm_in (sm_in (sm_in (And.intro (fun c2 => have k2t := Eq.mp (if_pos c2) k1f; sm_in (sm_in (And.intro rfl (And.intro (Or.inl rfl) (sm_in (And.intro (fun c => absurd (by decide : (0 : Int32) = 0) c) (fun _ => sm_in (sm_in (sm_in (Exists.intro 10 (And.intro (hG.1 0 (Nat.le_of_ble_eq_true rfl)) (And.intro rfl (sm_calln h1 (Nat.le_of_ble_eq_true rfl) (Nat.le_of_ble_eq_true rfl) k2t))))))))))))) (fun c2 => have k2f := Eq.mp (if_neg c2) k1f; sm_in (sm_in (And.intro (fun c3 => have k3t := Eq.mp (if_pos c3) k2f; sm_in (sm_in (And.intro rfl (And.intro (Or.inl rfl) (sm_in (And.intro (fun c => absurd (by decide : (0 : Int32) = 0) c) (fun _ => sm_in (sm_in (sm_in (Exists.intro 10 (And.intro (hG.1 0 (Nat.le_of_ble_eq_true rfl)) (And.intro rfl (sm_calln h1 (Nat.le_of_ble_eq_true rfl) (Nat.le_of_ble_eq_true rfl) k3t))))))))))))) (fun c3 => have k3f := Eq.mp (if_neg c3) k2f; sm_in (sm_in (sm_in (And.intro (fun c4 => have k4t := Eq.mp (if_pos c4) k3f; sm_in (sm_in (And.intro rfl (And.intro (Or.inl rfl) (sm_in (And.intro (fun c => absurd (by decide : (0 : Int32) = 0) c) (fun _ => sm_in (sm_in (sm_in (Exists.intro 10 (And.intro (hG.1 0 (Nat.le_of_ble_eq_true rfl)) (And.intro rfl (sm_calln h1 (Nat.le_of_ble_eq_true rfl) (Nat.le_of_ble_eq_true rfl) k4t))))))))))))) (fun c4 => have k4f := Eq.mp (if_neg c4) k3f; sm_in (sm_in (sm_in (And.intro rfl (And.intro (Or.inr rfl) (sm_in (And.intro (fun _ => sm_in (sm_in (And.intro (hG.1 0 (Nat.le_of_ble_eq_true rfl)) (sm_gfr rfl (hG.2 0 0 rfl) (sm_in (And.intro (hG.1 1 (Nat.le_of_ble_eq_true rfl)) (sm_in (sm_in (And.intro (fun c5 => have k5t := Eq.mp (if_pos c5) k4f; sm_in (sm_in (And.intro (hG.1 0 (Nat.le_of_ble_eq_true rfl)) (sm_gfr rfl (hG.2 0 3 rfl) (sm_in (And.intro (hG.1 54 (Nat.le_of_ble_eq_true rfl)) (sm_gfr rfl (hG.2 54 5 rfl) (sm_in (Exists.intro 4 (And.intro (hG.1 65 (Nat.le_of_ble_eq_true rfl)) (And.intro rfl (sm_calln (d1 := 0) (Nat.lt_of_lt_of_le (Nat.le_of_ble_eq_true rfl : 0 < 1) hdep) (Nat.le_of_ble_eq_true rfl) (Nat.le_of_ble_eq_true rfl) (sm_in (sm_in (sm_in (And.intro (hG.1 65 (Nat.le_of_ble_eq_true rfl)) (sm_in (And.intro rfl (And.intro rfl (sm_in (sm_in (sm_in (And.intro (hG.1 0 (Nat.le_of_ble_eq_true rfl)) (sm_gfr rfl (hG.2 0 0 rfl) (sm_in (sm_in (sm_in (Exists.intro 9 (And.intro (hG.1 1 (Nat.le_of_ble_eq_true rfl)) (And.intro rfl (sm_calln h1 (Nat.le_of_ble_eq_true rfl) (Nat.le_of_ble_eq_true rfl) k5t))))))))))))))))))))))))))))))) (fun c5 => have k5f := Eq.mp (if_neg c5) k4f; sm_in (sm_in (sm_in (Exists.intro 10 (And.intro (hG.1 0 (Nat.le_of_ble_eq_true rfl)) (And.intro rfl (sm_calln h1 (Nat.le_of_ble_eq_true rfl) (Nat.le_of_ble_eq_true rfl) k5f)))))))))))))))) (fun c => absurd c (by decide : ¬ (1 : Int32) = 0))))))))))))))))))))))))))))
set_option maxRecDepth 100000 in
theorem w_X10_man_13 {ex : sm_O} {d n : Nat} {y : sm_Y} {I : Nat → Nat → Int32} {L : Nat → Nat → Int64} {R : Nat → Nat → Option Nat} {Q : sm_Q} {w0 : Option Value} {w1 : Option Value} {w2 : Option Value} {s0 : Int32} (k : Q (some (.int s0)) (n, y, I, L, R)) : sm_W ex d 0 0 75 13 [w0, w1, w2] [.int s0] (n, y, I, L, R) Q := sm_in (And.intro rfl k)
set_option maxRecDepth 100000 in
theorem w_X10_man_32 {ex : sm_O} {d n : Nat} {y : sm_Y} {I : Nat → Nat → Int32} {L : Nat → Nat → Int64} {R : Nat → Nat → Option Nat} {Q : sm_Q} {w0 : Option Value} {w1 : Option Value} {w2 : Option Value} {s0 : Int32} (k : Q (some (.int s0)) (n, y, I, L, R)) : sm_W ex d 0 0 75 32 [w0, w1, w2] [.int s0] (n, y, I, L, R) Q := sm_in (And.intro rfl k)
set_option maxRecDepth 100000 in
theorem w_X10_man_53 {ex : sm_O} {d n : Nat} {y : sm_Y} {I : Nat → Nat → Int32} {L : Nat → Nat → Int64} {R : Nat → Nat → Option Nat} {Q : sm_Q} {w0 : Option Value} {w1 : Option Value} {w2 : Option Value} {s0 : Int32} {d1 : Nat} (hG : sm_G y R) (h1 : d1 < d) (k : sm_W ex d1 0 0 121 0 [some (.ref 0), some (.int s0)] [] (n, y, I, L, R) (fun r μ1 => sm_W ex d 0 0 75 56 [w0, w1, w2] (r.toList ++ []) μ1 Q)) : sm_W ex d 0 0 75 53 [w0, w1, w2] [.int s0, .ref 0] (n, y, I, L, R) Q := sm_in (Exists.intro 10 (And.intro (hG.1 0 (Nat.le_of_ble_eq_true rfl)) (And.intro rfl (sm_calln h1 (Nat.le_of_ble_eq_true rfl) (Nat.le_of_ble_eq_true rfl) k))))
set_option maxRecDepth 100000 in
theorem w_X10_man_56 {ex : sm_O} {d n : Nat} {y : sm_Y} {I : Nat → Nat → Int32} {L : Nat → Nat → Int64} {R : Nat → Nat → Option Nat} {Q : sm_Q} {w0 : Option Value} {w1 : Option Value} {w2 : Option Value} {s0 : Int32} (k : Q (some (.int s0)) (n, y, I, L, R)) : sm_W ex d 0 0 75 56 [w0, w1, w2] [.int s0] (n, y, I, L, R) Q := sm_in (And.intro rfl k)
set_option maxRecDepth 100000 in
theorem w_X10_of_0 {ex : sm_O} {d n : Nat} {y : sm_Y} {I : Nat → Nat → Int32} {L : Nat → Nat → Int64} {R : Nat → Nat → Option Nat} {Q : sm_Q} {a1 : Int32} {a2 : Int32} {d1 : Nat} (hG : sm_G y R) (hdep : 1 ≤ d) (h1 : d1 < d) (k : if a1 < 0 then (Q (some (.int (-1))) (n, y, I, L, R)) else (if (I 1 4) ≤ a1 then (Q (some (.int (-1))) (n, y, I, L, R)) else (((a2.toInt < 0 ∨ 8 < a2.toInt) → (Q (some (.int (-1))) (n, y, I, L, R))) ∧ (a2.toInt = 0 → (vp_in a1 7 ∧ Q (some (.int (I 2 a1.toNatClampNeg))) (n, y, I, L, R))) ∧ (a2.toInt = 1 → (vp_in a1 7 ∧ Q (some (.int (I 3 a1.toNatClampNeg))) (n, y, I, L, R))) ∧ (a2.toInt = 2 → (vp_in a1 7 ∧ Q (some (.int (I 4 a1.toNatClampNeg))) (n, y, I, L, R))) ∧ (a2.toInt = 3 → (sm_W ex d1 0 0 65 0 [some (.ref 1), some (.int a1)] [] (n, y, I, L, R) (fun r μ1 => sm_W ex d 0 0 76 102 [some (.ref 0), some (.int a1), some (.int a2)] (r.toList ++ []) μ1 Q))) ∧ (a2.toInt = 4 → (if (I 1 6) = a1 then (sm_W ex d1 0 0 114 0 [some (.int 1)] [] (n, y, I, L, R) (fun r μ1 => sm_W ex d 0 0 76 125 [some (.ref 0), some (.int a1), some (.int a2)] (r.toList ++ []) μ1 Q)) else (sm_W ex d1 0 0 114 0 [some (.int 0)] [] (n, y, I, L, R) (fun r μ1 => sm_W ex d 0 0 76 125 [some (.ref 0), some (.int a1), some (.int a2)] (r.toList ++ []) μ1 Q)))) ∧ (a2.toInt = 5 → (sm_W ex d1 0 0 4 0 [some (.ref 6)] [] (n, y, I, L, R) (fun r μ1 => sm_W ex d 0 0 76 137 [some (.ref 0), some (.int a1), some (.int a2)] (r.toList ++ [.ref 50]) μ1 Q))) ∧ (a2.toInt = 6 → (sm_W ex d1 0 0 4 0 [some (.ref 6)] [] (n, y, I, L, R) (fun r μ1 => sm_W ex d 0 0 76 159 [some (.ref 0), some (.int a1), some (.int a2)] (r.toList ++ [.ref 50]) μ1 Q))) ∧ (a2.toInt = 7 → (sm_W ex d1 0 0 4 0 [some (.ref 6)] [] (n, y, I, L, R) (fun r μ1 => sm_W ex d 0 0 76 181 [some (.ref 0), some (.int a1), some (.int a2)] (r.toList ++ [.ref 50]) μ1 Q))) ∧ (a2.toInt = 8 → (sm_W ex d1 0 0 28 0 [some (.ref 50), some (.int 0), some (.ref 1), some (.int a1)] [] (n, y, I, L, R) (fun r μ1 => sm_W ex d 0 0 76 205 [some (.ref 0), some (.int a1), some (.int a2)] (r.toList ++ []) μ1 Q)))))) : sm_W ex d 0 0 76 0 [some (.ref 0), some (.int a1), some (.int a2)] [] (n, y, I, L, R) Q := sm_in (sm_in (And.intro (hG.1 0 (Nat.le_of_ble_eq_true rfl)) (sm_gfr rfl (hG.2 0 0 rfl) (sm_in (sm_in (Exists.intro 9 (And.intro (hG.1 1 (Nat.le_of_ble_eq_true rfl)) (And.intro rfl (sm_calln (d1 := 0) (Nat.lt_of_lt_of_le (Nat.le_of_ble_eq_true rfl : 0 < 1) hdep) (Nat.le_of_ble_eq_true rfl) (Nat.le_of_ble_eq_true rfl) (sm_in (sm_in (And.intro (fun c1 => have k1t := Eq.mp (if_pos c1) k; sm_in (sm_in (And.intro rfl (And.intro (Or.inl rfl) (sm_in (And.intro (fun c => absurd (by decide : (0 : Int32) = 0) c) (fun _ => sm_in (sm_in (And.intro rfl k1t))))))))) (fun c1 => have k1f := Eq.mp (if_neg c1) k; sm_in (sm_in (sm_in (And.intro (hG.1 1 (Nat.le_of_ble_eq_true rfl)) (sm_in (And.intro (fun c2 => have k2t := Eq.mp (if_pos c2) k1f; sm_in (sm_in (And.intro rfl (And.intro (Or.inl rfl) (sm_in (And.intro (fun c => absurd (by decide : (0 : Int32) = 0) c) (fun _ => sm_in (sm_in (And.intro rfl k2t))))))))) (fun c2 => have k2f := Eq.mp (if_neg c2) k1f; sm_in (sm_in (sm_in (And.intro rfl (And.intro (Or.inr rfl) (sm_in (And.intro (fun _ => sm_in (sm_in (And.intro (fun hd => have kds3_ := k2f.1 hd; sm_in (sm_in (And.intro rfl kds3_))) (fun j off ho hj => match j, ho, hj with | 0, ho, hj => by cases ho; exact (have ks3_0 := k2f.2.1 hj; sm_in (sm_in (And.intro (hG.1 0 (Nat.le_of_ble_eq_true rfl)) (sm_gfr rfl (hG.2 0 0 rfl) (sm_in (And.intro (hG.1 1 (Nat.le_of_ble_eq_true rfl)) (sm_gfr rfl (hG.2 1 0 rfl) (sm_in ((have e4 := ks3_0.1; have k4 := ks3_0.2; sm_in (Exists.intro 7 (And.intro (hG.1 2 (Nat.le_of_ble_eq_true rfl)) (And.intro e4 (sm_in (And.intro rfl k4))))))))))))))) | 1, ho, hj => by cases ho; exact (have ks3_1 := k2f.2.2.1 hj; sm_in (sm_in (And.intro (hG.1 0 (Nat.le_of_ble_eq_true rfl)) (sm_gfr rfl (hG.2 0 0 rfl) (sm_in (And.intro (hG.1 1 (Nat.le_of_ble_eq_true rfl)) (sm_gfr rfl (hG.2 1 1 rfl) (sm_in ((have e5 := ks3_1.1; have k5 := ks3_1.2; sm_in (Exists.intro 7 (And.intro (hG.1 3 (Nat.le_of_ble_eq_true rfl)) (And.intro e5 (sm_in (And.intro rfl k5))))))))))))))) | 2, ho, hj => by cases ho; exact (have ks3_2 := k2f.2.2.2.1 hj; sm_in (sm_in (And.intro (hG.1 0 (Nat.le_of_ble_eq_true rfl)) (sm_gfr rfl (hG.2 0 0 rfl) (sm_in (And.intro (hG.1 1 (Nat.le_of_ble_eq_true rfl)) (sm_gfr rfl (hG.2 1 2 rfl) (sm_in ((have e6 := ks3_2.1; have k6 := ks3_2.2; sm_in (Exists.intro 7 (And.intro (hG.1 4 (Nat.le_of_ble_eq_true rfl)) (And.intro e6 (sm_in (And.intro rfl k6))))))))))))))) | 3, ho, hj => by cases ho; exact (have ks3_3 := k2f.2.2.2.2.1 hj; sm_in (sm_in (And.intro (hG.1 0 (Nat.le_of_ble_eq_true rfl)) (sm_gfr rfl (hG.2 0 0 rfl) (sm_in (sm_in (Exists.intro 9 (And.intro (hG.1 1 (Nat.le_of_ble_eq_true rfl)) (And.intro rfl (sm_calln h1 (Nat.le_of_ble_eq_true rfl) (Nat.le_of_ble_eq_true rfl) ks3_3)))))))))) | 4, ho, hj => by cases ho; exact (have ks3_4 := k2f.2.2.2.2.2.1 hj; sm_in (sm_in (And.intro (hG.1 0 (Nat.le_of_ble_eq_true rfl)) (sm_gfr rfl (hG.2 0 0 rfl) (sm_in (And.intro (hG.1 1 (Nat.le_of_ble_eq_true rfl)) (sm_in (sm_in (And.intro (fun c7 => have k7f := Eq.mp (if_neg c7) ks3_4; sm_in (sm_in (And.intro (Nat.le_of_ble_eq_true rfl) (sm_calln h1 (Nat.le_of_ble_eq_true rfl) (Nat.le_of_ble_eq_true rfl) k7f)))) (fun c7 => have k7t := Eq.mp (if_pos c7) ks3_4; sm_in (sm_in (sm_in (And.intro (Nat.le_of_ble_eq_true rfl) (sm_calln h1 (Nat.le_of_ble_eq_true rfl) (Nat.le_of_ble_eq_true rfl) k7t)))))))))))))) | 5, ho, hj => by cases ho; exact (have ks3_5 := k2f.2.2.2.2.2.2.1 hj; sm_in (sm_in (And.intro (hG.1 0 (Nat.le_of_ble_eq_true rfl)) (sm_gfr rfl (hG.2 0 2 rfl) (sm_in (sm_in (And.intro (hG.1 0 (Nat.le_of_ble_eq_true rfl)) (sm_gfr rfl (hG.2 0 1 rfl) (sm_in (Exists.intro 0 (And.intro (hG.1 6 (Nat.le_of_ble_eq_true rfl)) (And.intro rfl (sm_calln h1 (Nat.le_of_ble_eq_true rfl) (Nat.le_of_ble_eq_true rfl) ks3_5))))))))))))) | 6, ho, hj => by cases ho; exact (have ks3_6 := k2f.2.2.2.2.2.2.2.1 hj; sm_in (sm_in (And.intro (hG.1 0 (Nat.le_of_ble_eq_true rfl)) (sm_gfr rfl (hG.2 0 2 rfl) (sm_in (sm_in (And.intro (hG.1 0 (Nat.le_of_ble_eq_true rfl)) (sm_gfr rfl (hG.2 0 1 rfl) (sm_in (Exists.intro 0 (And.intro (hG.1 6 (Nat.le_of_ble_eq_true rfl)) (And.intro rfl (sm_calln h1 (Nat.le_of_ble_eq_true rfl) (Nat.le_of_ble_eq_true rfl) ks3_6))))))))))))) | 7, ho, hj => by cases ho; exact (have ks3_7 := k2f.2.2.2.2.2.2.2.2.1 hj; sm_in (sm_in (And.intro (hG.1 0 (Nat.le_of_ble_eq_true rfl)) (sm_gfr rfl (hG.2 0 2 rfl) (sm_in (sm_in (And.intro (hG.1 0 (Nat.le_of_ble_eq_true rfl)) (sm_gfr rfl (hG.2 0 1 rfl) (sm_in (Exists.intro 0 (And.intro (hG.1 6 (Nat.le_of_ble_eq_true rfl)) (And.intro rfl (sm_calln h1 (Nat.le_of_ble_eq_true rfl) (Nat.le_of_ble_eq_true rfl) ks3_7))))))))))))) | 8, ho, hj => by cases ho; exact (have ks3_8 := k2f.2.2.2.2.2.2.2.2.2 hj; sm_in (sm_in (And.intro (hG.1 0 (Nat.le_of_ble_eq_true rfl)) (sm_gfr rfl (hG.2 0 2 rfl) (sm_in (sm_in (sm_in (And.intro (hG.1 0 (Nat.le_of_ble_eq_true rfl)) (sm_gfr rfl (hG.2 0 0 rfl) (sm_in (sm_in (Exists.intro 5 (And.intro (hG.1 50 (Nat.le_of_ble_eq_true rfl)) (And.intro rfl (sm_calln h1 (Nat.le_of_ble_eq_true rfl) (Nat.le_of_ble_eq_true rfl) ks3_8))))))))))))))) | j + 9, ho, _ => by cases ho)))) (fun c => absurd c (by decide : ¬ (1 : Int32) = 0)))))))))))))))))))))))))))
set_option maxRecDepth 100000 in
theorem w_X10_of_102 {ex : sm_O} {d n : Nat} {y : sm_Y} {I : Nat → Nat → Int32} {L : Nat → Nat → Int64} {R : Nat → Nat → Option Nat} {Q : sm_Q} {w0 : Option Value} {w1 : Option Value} {w2 : Option Value} {s0 : Int32} {d1 : Nat} (h1 : d1 < d) (k : sm_W ex d1 0 0 114 0 [some (.int s0)] [] (n, y, I, L, R) (fun r μ1 => sm_W ex d 0 0 76 105 [w0, w1, w2] (r.toList ++ []) μ1 Q)) : sm_W ex d 0 0 76 102 [w0, w1, w2] [.int s0] (n, y, I, L, R) Q := sm_in (And.intro (Nat.le_of_ble_eq_true rfl) (sm_calln h1 (Nat.le_of_ble_eq_true rfl) (Nat.le_of_ble_eq_true rfl) k))
set_option maxRecDepth 100000 in
theorem w_X10_of_105 {ex : sm_O} {d n : Nat} {y : sm_Y} {I : Nat → Nat → Int32} {L : Nat → Nat → Int64} {R : Nat → Nat → Option Nat} {Q : sm_Q} {w0 : Option Value} {w1 : Option Value} {w2 : Option Value} {s0 : Int32} (k : Q (some (.int s0)) (n, y, I, L, R)) : sm_W ex d 0 0 76 105 [w0, w1, w2] [.int s0] (n, y, I, L, R) Q := sm_in (And.intro rfl k)
set_option maxRecDepth 100000 in
theorem w_X10_of_125 {ex : sm_O} {d n : Nat} {y : sm_Y} {I : Nat → Nat → Int32} {L : Nat → Nat → Int64} {R : Nat → Nat → Option Nat} {Q : sm_Q} {w0 : Option Value} {w1 : Option Value} {w2 : Option Value} {s0 : Int32} (k : Q (some (.int s0)) (n, y, I, L, R)) : sm_W ex d 0 0 76 125 [w0, w1, w2] [.int s0] (n, y, I, L, R) Q := sm_in (And.intro rfl k)
set_option maxRecDepth 100000 in
theorem w_X10_of_137 {ex : sm_O} {d n : Nat} {y : sm_Y} {I : Nat → Nat → Int32} {L : Nat → Nat → Int64} {R : Nat → Nat → Option Nat} {Q : sm_Q} {w2 : Option Value} {a1 : Int32} {s0 : Nat} {d1 : Nat} (hG : sm_G y R) (h1 : d1 < d) (k : sm_W ex d1 0 0 26 0 [some (.ref 50), some (.ref s0), some (.int 0), some (.ref 1), some (.int a1), some (.int (-1)), none, none] [] (n, y, I, L, R) (fun r μ1 => sm_W ex d 0 0 76 147 [some (.ref 0), some (.int a1), w2] (r.toList ++ []) μ1 Q)) : sm_W ex d 0 0 76 137 [some (.ref 0), some (.int a1), w2] [.ref s0, .ref 50] (n, y, I, L, R) Q := sm_in (sm_in (sm_in (And.intro (hG.1 0 (Nat.le_of_ble_eq_true rfl)) (sm_gfr rfl (hG.2 0 0 rfl) (sm_in (sm_in (sm_in (Exists.intro 5 (And.intro (hG.1 50 (Nat.le_of_ble_eq_true rfl)) (And.intro rfl (sm_calln h1 (Nat.le_of_ble_eq_true rfl) (Nat.le_of_ble_eq_true rfl) k)))))))))))
set_option maxRecDepth 100000 in
theorem w_X10_of_147 {ex : sm_O} {d n : Nat} {y : sm_Y} {I : Nat → Nat → Int32} {L : Nat → Nat → Int64} {R : Nat → Nat → Option Nat} {Q : sm_Q} {w0 : Option Value} {w1 : Option Value} {w2 : Option Value} {s0 : Int32} (k : Q (some (.int s0)) (n, y, I, L, R)) : sm_W ex d 0 0 76 147 [w0, w1, w2] [.int s0] (n, y, I, L, R) Q := sm_in (And.intro rfl k)
set_option maxRecDepth 100000 in
theorem w_X10_of_159 {ex : sm_O} {d n : Nat} {y : sm_Y} {I : Nat → Nat → Int32} {L : Nat → Nat → Int64} {R : Nat → Nat → Option Nat} {Q : sm_Q} {w2 : Option Value} {a1 : Int32} {s0 : Nat} {d1 : Nat} (hG : sm_G y R) (h1 : d1 < d) (k : sm_W ex d1 0 0 26 0 [some (.ref 50), some (.ref s0), some (.int 1), some (.ref 1), some (.int a1), some (.int (-1)), none, none] [] (n, y, I, L, R) (fun r μ1 => sm_W ex d 0 0 76 169 [some (.ref 0), some (.int a1), w2] (r.toList ++ []) μ1 Q)) : sm_W ex d 0 0 76 159 [some (.ref 0), some (.int a1), w2] [.ref s0, .ref 50] (n, y, I, L, R) Q := sm_in (sm_in (sm_in (And.intro (hG.1 0 (Nat.le_of_ble_eq_true rfl)) (sm_gfr rfl (hG.2 0 0 rfl) (sm_in (sm_in (sm_in (Exists.intro 5 (And.intro (hG.1 50 (Nat.le_of_ble_eq_true rfl)) (And.intro rfl (sm_calln h1 (Nat.le_of_ble_eq_true rfl) (Nat.le_of_ble_eq_true rfl) k)))))))))))
set_option maxRecDepth 100000 in
theorem w_X10_of_169 {ex : sm_O} {d n : Nat} {y : sm_Y} {I : Nat → Nat → Int32} {L : Nat → Nat → Int64} {R : Nat → Nat → Option Nat} {Q : sm_Q} {w0 : Option Value} {w1 : Option Value} {w2 : Option Value} {s0 : Int32} (k : Q (some (.int s0)) (n, y, I, L, R)) : sm_W ex d 0 0 76 169 [w0, w1, w2] [.int s0] (n, y, I, L, R) Q := sm_in (And.intro rfl k)
set_option maxRecDepth 100000 in
theorem w_X10_of_181 {ex : sm_O} {d n : Nat} {y : sm_Y} {I : Nat → Nat → Int32} {L : Nat → Nat → Int64} {R : Nat → Nat → Option Nat} {Q : sm_Q} {w2 : Option Value} {a1 : Int32} {s0 : Nat} {d1 : Nat} (hG : sm_G y R) (h1 : d1 < d) (k : sm_W ex d1 0 0 26 0 [some (.ref 50), some (.ref s0), some (.int 3), some (.ref 1), some (.int a1), some (.int (-1)), none, none] [] (n, y, I, L, R) (fun r μ1 => sm_W ex d 0 0 76 191 [some (.ref 0), some (.int a1), w2] (r.toList ++ []) μ1 Q)) : sm_W ex d 0 0 76 181 [some (.ref 0), some (.int a1), w2] [.ref s0, .ref 50] (n, y, I, L, R) Q := sm_in (sm_in (sm_in (And.intro (hG.1 0 (Nat.le_of_ble_eq_true rfl)) (sm_gfr rfl (hG.2 0 0 rfl) (sm_in (sm_in (sm_in (Exists.intro 5 (And.intro (hG.1 50 (Nat.le_of_ble_eq_true rfl)) (And.intro rfl (sm_calln h1 (Nat.le_of_ble_eq_true rfl) (Nat.le_of_ble_eq_true rfl) k)))))))))))
set_option maxRecDepth 100000 in
theorem w_X10_of_191 {ex : sm_O} {d n : Nat} {y : sm_Y} {I : Nat → Nat → Int32} {L : Nat → Nat → Int64} {R : Nat → Nat → Option Nat} {Q : sm_Q} {w0 : Option Value} {w1 : Option Value} {w2 : Option Value} {s0 : Int32} (k : Q (some (.int s0)) (n, y, I, L, R)) : sm_W ex d 0 0 76 191 [w0, w1, w2] [.int s0] (n, y, I, L, R) Q := sm_in (And.intro rfl k)
set_option maxRecDepth 100000 in
theorem w_X10_of_205 {ex : sm_O} {d n : Nat} {y : sm_Y} {I : Nat → Nat → Int32} {L : Nat → Nat → Int64} {R : Nat → Nat → Option Nat} {Q : sm_Q} {w0 : Option Value} {w1 : Option Value} {w2 : Option Value} {s0 : Int32} {d1 : Nat} (h1 : d1 < d) (k : sm_W ex d1 0 0 114 0 [some (.int s0)] [] (n, y, I, L, R) (fun r μ1 => sm_W ex d 0 0 76 208 [w0, w1, w2] (r.toList ++ []) μ1 Q)) : sm_W ex d 0 0 76 205 [w0, w1, w2] [.int s0] (n, y, I, L, R) Q := sm_in (And.intro (Nat.le_of_ble_eq_true rfl) (sm_calln h1 (Nat.le_of_ble_eq_true rfl) (Nat.le_of_ble_eq_true rfl) k))
set_option maxRecDepth 100000 in
theorem w_X10_of_208 {ex : sm_O} {d n : Nat} {y : sm_Y} {I : Nat → Nat → Int32} {L : Nat → Nat → Int64} {R : Nat → Nat → Option Nat} {Q : sm_Q} {w0 : Option Value} {w1 : Option Value} {w2 : Option Value} {s0 : Int32} (k : Q (some (.int s0)) (n, y, I, L, R)) : sm_W ex d 0 0 76 208 [w0, w1, w2] [.int s0] (n, y, I, L, R) Q := sm_in (And.intro rfl k)
set_option maxRecDepth 100000 in
theorem w_X10_bit {ex : sm_O} {d n : Nat} {y : sm_Y} {I : Nat → Nat → Int32} {L : Nat → Nat → Int64} {R : Nat → Nat → Option Nat} {Q : sm_Q} {a0 : Int32} (k : if a0 = 0 then (Q (some (.int 0)) (n, y, I, L, R)) else (Q (some (.int 1)) (n, y, I, L, R))) : sm_W ex d 0 0 114 0 [some (.int a0)] [] (n, y, I, L, R) Q := sm_in (sm_in (And.intro (fun c1 => have k1t := Eq.mp (if_pos c1) k; sm_in (sm_in (And.intro rfl k1t))) (fun c1 => have k1f := Eq.mp (if_neg c1) k; sm_in (sm_in (sm_in (And.intro rfl k1f))))))
set_option maxRecDepth 100000 in
theorem w_X11_of_0 {ex : sm_O} {d n : Nat} {y : sm_Y} {I : Nat → Nat → Int32} {L : Nat → Nat → Int64} {R : Nat → Nat → Option Nat} {Q : sm_Q} {a1 : Int32} {a2 : Int32} {d1 : Nat} (hG : sm_G y R) (hdep : 2 ≤ d) (h1 : d1 < d) (k : if 0 ≤ a1 ∧ a1 < I 125 0 then (((a2.toInt < 0 ∨ 8 < a2.toInt) → (Q (some (.int (-1))) (n, y, sm_st I 123 0 0, L, R))) ∧ (a2.toInt = 0 → (vp_in (24 + a1) 5450 ∧ Q (some (.int (I 125 (24 + a1).toNatClampNeg))) (n, y, sm_st I 123 0 0, L, R))) ∧ (a2.toInt = 1 → (vp_in (31 + a1) 5450 ∧ Q (some (.int (I 125 (31 + a1).toNatClampNeg))) (n, y, sm_st I 123 0 0, L, R))) ∧ (a2.toInt = 2 → (vp_in (10 + a1) 5450 ∧ Q (some (.int (I 125 (10 + a1).toNatClampNeg))) (n, y, sm_st I 123 0 0, L, R))) ∧ (a2.toInt = 3 → (vp_in (17 + a1) 5450 ∧ Q (some (.int (I 125 (17 + a1).toNatClampNeg))) (n, y, sm_st I 123 0 0, L, R))) ∧ (a2.toInt = 4 → (if (I 125 8) = a1 then (Q (some (.int 1)) (n, y, sm_st I 123 0 0, L, R)) else (Q (some (.int 0)) (n, y, sm_st I 123 0 0, L, R)))) ∧ (a2.toInt = 5 → (sm_W ex d1 0 0 185 0 [some (.ref 123), some (.int a1)] [] (n, y, sm_st I 123 0 0, L, R) (fun r μ1 => sm_W ex d 0 0 143 130 [some (.ref 123), some (.int a1), some (.int a2)] (r.toList ++ []) μ1 Q))) ∧ (a2.toInt = 6 → (sm_W ex d1 0 0 186 0 [some (.ref 123), some (.int a1)] [] (n, y, sm_st I 123 0 0, L, R) (fun r μ1 => sm_W ex d 0 0 143 136 [some (.ref 123), some (.int a1), some (.int a2)] (r.toList ++ []) μ1 Q))) ∧ (a2.toInt = 7 → (sm_W ex d1 0 0 187 0 [some (.ref 123), some (.int a1)] [] (n, y, sm_st I 123 0 0, L, R) (fun r μ1 => sm_W ex d 0 0 143 142 [some (.ref 123), some (.int a1), some (.int a2)] (r.toList ++ []) μ1 Q))) ∧ (a2.toInt = 8 → (sm_W ex d1 0 0 189 0 [some (.ref 123), some (.int a1)] [] (n, y, sm_st I 123 0 0, L, R) (fun r μ1 => sm_W ex d 0 0 143 156 [some (.ref 123), some (.int a1), some (.int a2)] (r.toList ++ []) μ1 Q)))) else (Q (some (.int (-1))) (n, y, sm_st I 123 0 0, L, R))) : sm_W ex d 0 0 143 0 [some (.ref 123), some (.int a1), some (.int a2)] [] (n, y, I, L, R) Q := sm_in (sm_in (sm_in (And.intro (hG.1 123 (Nat.le_of_ble_eq_true rfl)) (sm_in (sm_in (sm_in (Exists.intro 11 (And.intro (hG.1 123 (Nat.le_of_ble_eq_true rfl)) (And.intro rfl (sm_calln (d1 := 1) (Nat.lt_of_lt_of_le (Nat.lt_succ_self 1) (Nat.le_trans (Nat.le_of_ble_eq_true rfl) hdep)) (Nat.le_of_ble_eq_true rfl) (Nat.le_of_ble_eq_true rfl) (c_X11_isMan hG (sm_in (And.intro (fun c1 => have k1t := Eq.mp (if_pos (sm_b_n.mp c1)) k; sm_in (sm_in (And.intro (fun hd => have kds2_ := k1t.1 hd; sm_in (sm_in (And.intro rfl kds2_))) (fun j off ho hj => match j, ho, hj with | 0, ho, hj => by cases ho; exact (have ks2_0 := k1t.2.1 hj; sm_in (sm_in (And.intro (hG.1 123 (Nat.le_of_ble_eq_true rfl)) (sm_gfr rfl (hG.2 123 3 rfl) (sm_in (sm_in (sm_in ((have e3 := ks2_0.1; have k3 := ks2_0.2; sm_in (Exists.intro 5450 (And.intro (hG.1 125 (Nat.le_of_ble_eq_true rfl)) (And.intro e3 (sm_in (And.intro rfl k3)))))))))))))) | 1, ho, hj => by cases ho; exact (have ks2_1 := k1t.2.2.1 hj; sm_in (sm_in (And.intro (hG.1 123 (Nat.le_of_ble_eq_true rfl)) (sm_gfr rfl (hG.2 123 3 rfl) (sm_in (sm_in (sm_in ((have e4 := ks2_1.1; have k4 := ks2_1.2; sm_in (Exists.intro 5450 (And.intro (hG.1 125 (Nat.le_of_ble_eq_true rfl)) (And.intro e4 (sm_in (And.intro rfl k4)))))))))))))) | 2, ho, hj => by cases ho; exact (have ks2_2 := k1t.2.2.2.1 hj; sm_in (sm_in (And.intro (hG.1 123 (Nat.le_of_ble_eq_true rfl)) (sm_gfr rfl (hG.2 123 3 rfl) (sm_in (sm_in (sm_in ((have e5 := ks2_2.1; have k5 := ks2_2.2; sm_in (Exists.intro 5450 (And.intro (hG.1 125 (Nat.le_of_ble_eq_true rfl)) (And.intro e5 (sm_in (And.intro rfl k5)))))))))))))) | 3, ho, hj => by cases ho; exact (have ks2_3 := k1t.2.2.2.2.1 hj; sm_in (sm_in (And.intro (hG.1 123 (Nat.le_of_ble_eq_true rfl)) (sm_gfr rfl (hG.2 123 3 rfl) (sm_in (sm_in (sm_in ((have e6 := ks2_3.1; have k6 := ks2_3.2; sm_in (Exists.intro 5450 (And.intro (hG.1 125 (Nat.le_of_ble_eq_true rfl)) (And.intro e6 (sm_in (And.intro rfl k6)))))))))))))) | 4, ho, hj => by cases ho; exact (have ks2_4 := k1t.2.2.2.2.2.1 hj; sm_in (sm_in (And.intro (hG.1 123 (Nat.le_of_ble_eq_true rfl)) (sm_gfr rfl (hG.2 123 3 rfl) (sm_in (sm_in (Exists.intro 5450 (And.intro (hG.1 125 (Nat.le_of_ble_eq_true rfl)) (And.intro (sm_lin (by decide)) (sm_in (sm_in (And.intro (fun c7 => have k7f := Eq.mp (if_neg c7) ks2_4; sm_in (sm_in (And.intro rfl k7f))) (fun c7 => have k7t := Eq.mp (if_pos c7) ks2_4; sm_in (sm_in (sm_in (And.intro rfl k7t)))))))))))))))) | 5, ho, hj => by cases ho; exact (have ks2_5 := k1t.2.2.2.2.2.2.1 hj; sm_in (sm_in (sm_in (Exists.intro 11 (And.intro (hG.1 123 (Nat.le_of_ble_eq_true rfl)) (And.intro rfl (sm_calln h1 (Nat.le_of_ble_eq_true rfl) (Nat.le_of_ble_eq_true rfl) ks2_5))))))) | 6, ho, hj => by cases ho; exact (have ks2_6 := k1t.2.2.2.2.2.2.2.1 hj; sm_in (sm_in (sm_in (Exists.intro 11 (And.intro (hG.1 123 (Nat.le_of_ble_eq_true rfl)) (And.intro rfl (sm_calln h1 (Nat.le_of_ble_eq_true rfl) (Nat.le_of_ble_eq_true rfl) ks2_6))))))) | 7, ho, hj => by cases ho; exact (have ks2_7 := k1t.2.2.2.2.2.2.2.2.1 hj; sm_in (sm_in (sm_in (Exists.intro 11 (And.intro (hG.1 123 (Nat.le_of_ble_eq_true rfl)) (And.intro rfl (sm_calln h1 (Nat.le_of_ble_eq_true rfl) (Nat.le_of_ble_eq_true rfl) ks2_7))))))) | 8, ho, hj => by cases ho; exact (have ks2_8 := k1t.2.2.2.2.2.2.2.2.2 hj; sm_in (sm_in (sm_in (Exists.intro 11 (And.intro (hG.1 123 (Nat.le_of_ble_eq_true rfl)) (And.intro rfl (sm_calln h1 (Nat.le_of_ble_eq_true rfl) (Nat.le_of_ble_eq_true rfl) ks2_8))))))) | j + 9, ho, _ => by cases ho)))) (fun c1 => have k1f := Eq.mp (if_neg (sm_b_0.mp c1)) k; sm_in (sm_in (And.intro rfl k1f))))))))))))))))
set_option maxRecDepth 100000 in
theorem w_X11_of_130 {ex : sm_O} {d n : Nat} {y : sm_Y} {I : Nat → Nat → Int32} {L : Nat → Nat → Int64} {R : Nat → Nat → Option Nat} {Q : sm_Q} {w0 : Option Value} {w1 : Option Value} {w2 : Option Value} {s0 : Int32} (k : Q (some (.int s0)) (n, y, I, L, R)) : sm_W ex d 0 0 143 130 [w0, w1, w2] [.int s0] (n, y, I, L, R) Q := sm_in (And.intro rfl k)
set_option maxRecDepth 100000 in
theorem w_X11_of_136 {ex : sm_O} {d n : Nat} {y : sm_Y} {I : Nat → Nat → Int32} {L : Nat → Nat → Int64} {R : Nat → Nat → Option Nat} {Q : sm_Q} {w0 : Option Value} {w1 : Option Value} {w2 : Option Value} {s0 : Int32} (k : Q (some (.int s0)) (n, y, I, L, R)) : sm_W ex d 0 0 143 136 [w0, w1, w2] [.int s0] (n, y, I, L, R) Q := sm_in (And.intro rfl k)
set_option maxRecDepth 100000 in
theorem w_X11_of_142 {ex : sm_O} {d n : Nat} {y : sm_Y} {I : Nat → Nat → Int32} {L : Nat → Nat → Int64} {R : Nat → Nat → Option Nat} {Q : sm_Q} {w0 : Option Value} {w1 : Option Value} {w2 : Option Value} {s0 : Int32} (k : if s0 = 0 then (Q (some (.int 0)) (n, y, I, L, R)) else (Q (some (.int 1)) (n, y, I, L, R))) : sm_W ex d 0 0 143 142 [w0, w1, w2] [.int s0] (n, y, I, L, R) Q := sm_in (And.intro (fun c1 => have k1t := Eq.mp (if_pos c1) k; sm_in (sm_in (And.intro rfl k1t))) (fun c1 => have k1f := Eq.mp (if_neg c1) k; sm_in (sm_in (sm_in (And.intro rfl k1f)))))
set_option maxRecDepth 100000 in
theorem w_X11_of_156 {ex : sm_O} {d n : Nat} {y : sm_Y} {I : Nat → Nat → Int32} {L : Nat → Nat → Int64} {R : Nat → Nat → Option Nat} {Q : sm_Q} {w0 : Option Value} {w1 : Option Value} {w2 : Option Value} {s0 : Int32} (k : if s0 = 0 then (Q (some (.int 0)) (n, y, I, L, R)) else (Q (some (.int 1)) (n, y, I, L, R))) : sm_W ex d 0 0 143 156 [w0, w1, w2] [.int s0] (n, y, I, L, R) Q := sm_in (And.intro (fun c1 => have k1t := Eq.mp (if_pos c1) k; sm_in (sm_in (And.intro rfl k1t))) (fun c1 => have k1f := Eq.mp (if_neg c1) k; sm_in (sm_in (sm_in (And.intro rfl k1f)))))
set_option maxRecDepth 100000 in
theorem w_X10_two_0 {ex : sm_O} {d n : Nat} {y : sm_Y} {I : Nat → Nat → Int32} {L : Nat → Nat → Int64} {R : Nat → Nat → Option Nat} {Q : sm_Q} {a1 : Int32} {a2 : Int32} {a3 : Int32} {d1 : Nat} (hG : sm_G y R) (hdep : 2 ≤ d) (h1 : d1 < d) (k : if a1 < 0 then (Q (some (.int (-1))) (n, y, I, L, R)) else (if (I 1 4) ≤ a1 then (Q (some (.int (-1))) (n, y, I, L, R)) else (if a2 < 0 then (Q (some (.int (-1))) (n, y, I, L, R)) else (if (I 1 4) ≤ a2 then (Q (some (.int (-1))) (n, y, I, L, R)) else (if a1 = a2 then (Q (some (.int (-1))) (n, y, I, L, R)) else (if a3 = 0 then (sm_W ex d1 0 0 68 0 [some (.ref 1), some (.int a1), some (.int a2)] [] (n, y, I, L, R) (fun r μ1 => sm_W ex d 0 0 77 24 [some (.ref 0), some (.int a1), some (.int a2), some (.int a3)] (r.toList ++ []) μ1 Q)) else (if a3 = 1 then (sm_W ex d1 0 0 4 0 [some (.ref 6)] [] (n, y, I, L, R) (fun r μ1 => sm_W ex d 0 0 77 41 [some (.ref 0), some (.int a1), some (.int a2), some (.int a3)] (r.toList ++ [.ref 50]) μ1 Q)) else (Q (some (.int (-1))) (n, y, I, L, R))))))))) : sm_W ex d 0 0 77 0 [some (.ref 0), some (.int a1), some (.int a2), some (.int a3)] [] (n, y, I, L, R) Q := sm_in (sm_in (sm_in (sm_in (Exists.intro 10 (And.intro (hG.1 0 (Nat.le_of_ble_eq_true rfl)) (And.intro rfl (sm_calln (d1 := 1) (Nat.lt_of_lt_of_le (Nat.le_of_ble_eq_true rfl : 1 < 2) hdep) (Nat.le_of_ble_eq_true rfl) (Nat.le_of_ble_eq_true rfl) (sm_in (sm_in (And.intro (hG.1 0 (Nat.le_of_ble_eq_true rfl)) (sm_gfr rfl (hG.2 0 0 rfl) (sm_in (sm_in (Exists.intro 9 (And.intro (hG.1 1 (Nat.le_of_ble_eq_true rfl)) (And.intro rfl (sm_calln (d1 := 0) (Nat.le_of_ble_eq_true rfl : 0 < 1) (Nat.le_of_ble_eq_true rfl) (Nat.le_of_ble_eq_true rfl) (sm_in (sm_in (And.intro (fun c1 => have k1t := Eq.mp (if_pos c1) k; sm_in (sm_in (And.intro rfl (And.intro (Or.inl rfl) (sm_in (And.intro (fun _ => sm_in (sm_in (And.intro rfl (And.intro (Or.inl rfl) (sm_in (And.intro (fun c => absurd (by decide : (0 : Int32) = 0) c) (fun _ => sm_in (sm_in (And.intro rfl k1t))))))))) (fun c => absurd (by decide : (0 : Int32) = 0) c))))))) (fun c1 => have k1f := Eq.mp (if_neg c1) k; sm_in (sm_in (sm_in (And.intro (hG.1 1 (Nat.le_of_ble_eq_true rfl)) (sm_in (And.intro (fun c2 => have k2t := Eq.mp (if_pos c2) k1f; sm_in (sm_in (And.intro rfl (And.intro (Or.inl rfl) (sm_in (And.intro (fun _ => sm_in (sm_in (And.intro rfl (And.intro (Or.inl rfl) (sm_in (And.intro (fun c => absurd (by decide : (0 : Int32) = 0) c) (fun _ => sm_in (sm_in (And.intro rfl k2t))))))))) (fun c => absurd (by decide : (0 : Int32) = 0) c))))))) (fun c2 => have k2f := Eq.mp (if_neg c2) k1f; sm_in (sm_in (sm_in (And.intro rfl (And.intro (Or.inr rfl) (sm_in (And.intro (fun c => absurd c (by decide : ¬ (1 : Int32) = 0)) (fun _ => sm_in (sm_in (And.intro (hG.1 0 (Nat.le_of_ble_eq_true rfl)) (sm_gfr rfl (hG.2 0 0 rfl) (sm_in (sm_in (Exists.intro 9 (And.intro (hG.1 1 (Nat.le_of_ble_eq_true rfl)) (And.intro rfl (sm_calln (d1 := 0) (Nat.le_of_ble_eq_true rfl : 0 < 1) (Nat.le_of_ble_eq_true rfl) (Nat.le_of_ble_eq_true rfl) (sm_in (sm_in (And.intro (fun c3 => have k3t := Eq.mp (if_pos c3) k2f; sm_in (sm_in (And.intro rfl (And.intro (Or.inl rfl) (sm_in (And.intro (fun _ => sm_in (sm_in (And.intro rfl (And.intro (Or.inl rfl) (sm_in (And.intro (fun c => absurd (by decide : (0 : Int32) = 0) c) (fun _ => sm_in (sm_in (And.intro rfl k3t))))))))) (fun c => absurd (by decide : (0 : Int32) = 0) c))))))) (fun c3 => have k3f := Eq.mp (if_neg c3) k2f; sm_in (sm_in (sm_in (And.intro (hG.1 1 (Nat.le_of_ble_eq_true rfl)) (sm_in (And.intro (fun c4 => have k4t := Eq.mp (if_pos c4) k3f; sm_in (sm_in (And.intro rfl (And.intro (Or.inl rfl) (sm_in (And.intro (fun _ => sm_in (sm_in (And.intro rfl (And.intro (Or.inl rfl) (sm_in (And.intro (fun c => absurd (by decide : (0 : Int32) = 0) c) (fun _ => sm_in (sm_in (And.intro rfl k4t))))))))) (fun c => absurd (by decide : (0 : Int32) = 0) c))))))) (fun c4 => have k4f := Eq.mp (if_neg c4) k3f; sm_in (sm_in (sm_in (And.intro rfl (And.intro (Or.inr rfl) (sm_in (And.intro (fun c => absurd c (by decide : ¬ (1 : Int32) = 0)) (fun _ => sm_in (sm_in (sm_in (And.intro (fun c5 => have k5t := Eq.mp (if_pos c5) k4f; sm_in (sm_in (And.intro rfl (And.intro (Or.inl rfl) (sm_in (And.intro (fun c => absurd (by decide : (0 : Int32) = 0) c) (fun _ => sm_in (sm_in (And.intro rfl k5t))))))))) (fun c5 => have k5f := Eq.mp (if_neg c5) k4f; sm_in (sm_in (sm_in (And.intro rfl (And.intro (Or.inr rfl) (sm_in (And.intro (fun _ => sm_in (sm_in (And.intro (fun c6 => have k6f := Eq.mp (if_neg c6) k5f; sm_in (sm_in (sm_in (And.intro (fun c7 => have k7f := Eq.mp (if_neg c7) k6f; sm_in (sm_in (And.intro rfl k7f))) (fun c7 => have k7t := Eq.mp (if_pos c7) k6f; sm_in (sm_in (And.intro (hG.1 0 (Nat.le_of_ble_eq_true rfl)) (sm_gfr rfl (hG.2 0 2 rfl) (sm_in (sm_in (And.intro (hG.1 0 (Nat.le_of_ble_eq_true rfl)) (sm_gfr rfl (hG.2 0 1 rfl) (sm_in (Exists.intro 0 (And.intro (hG.1 6 (Nat.le_of_ble_eq_true rfl)) (And.intro rfl (sm_calln h1 (Nat.le_of_ble_eq_true rfl) (Nat.le_of_ble_eq_true rfl) k7t))))))))))))))))) (fun c6 => have k6t := Eq.mp (if_pos c6) k5f; sm_in (sm_in (And.intro (hG.1 0 (Nat.le_of_ble_eq_true rfl)) (sm_gfr rfl (hG.2 0 0 rfl) (sm_in (sm_in (sm_in (Exists.intro 9 (And.intro (hG.1 1 (Nat.le_of_ble_eq_true rfl)) (And.intro rfl (sm_calln h1 (Nat.le_of_ble_eq_true rfl) (Nat.le_of_ble_eq_true rfl) k6t)))))))))))))) (fun c => absurd c (by decide : ¬ (1 : Int32) = 0))))))))))))))))))))))))))))))))))))))))))))))))))))))))))))))))))))))))
set_option maxRecDepth 100000 in
theorem w_X10_two_24 {ex : sm_O} {d n : Nat} {y : sm_Y} {I : Nat → Nat → Int32} {L : Nat → Nat → Int64} {R : Nat → Nat → Option Nat} {Q : sm_Q} {w0 : Option Value} {w1 : Option Value} {w2 : Option Value} {w3 : Option Value} {s0 : Int32} (k : Q (some (.int s0)) (n, y, I, L, R)) : sm_W ex d 0 0 77 24 [w0, w1, w2, w3] [.int s0] (n, y, I, L, R) Q := sm_in (And.intro rfl k)
set_option maxRecDepth 100000 in
theorem w_X10_two_41 {ex : sm_O} {d n : Nat} {y : sm_Y} {I : Nat → Nat → Int32} {L : Nat → Nat → Int64} {R : Nat → Nat → Option Nat} {Q : sm_Q} {w3 : Option Value} {a1 : Int32} {a2 : Int32} {s0 : Nat} {d1 : Nat} (hG : sm_G y R) (h1 : d1 < d) (k : sm_W ex d1 0 0 26 0 [some (.ref 50), some (.ref s0), some (.int 2), some (.ref 1), some (.int a1), some (.int a2), none, none] [] (n, y, I, L, R) (fun r μ1 => sm_W ex d 0 0 77 51 [some (.ref 0), some (.int a1), some (.int a2), w3] (r.toList ++ []) μ1 Q)) : sm_W ex d 0 0 77 41 [some (.ref 0), some (.int a1), some (.int a2), w3] [.ref s0, .ref 50] (n, y, I, L, R) Q := sm_in (sm_in (sm_in (And.intro (hG.1 0 (Nat.le_of_ble_eq_true rfl)) (sm_gfr rfl (hG.2 0 0 rfl) (sm_in (sm_in (sm_in (Exists.intro 5 (And.intro (hG.1 50 (Nat.le_of_ble_eq_true rfl)) (And.intro rfl (sm_calln h1 (Nat.le_of_ble_eq_true rfl) (Nat.le_of_ble_eq_true rfl) k)))))))))))
set_option maxRecDepth 100000 in
theorem w_X10_two_51 {ex : sm_O} {d n : Nat} {y : sm_Y} {I : Nat → Nat → Int32} {L : Nat → Nat → Int64} {R : Nat → Nat → Option Nat} {Q : sm_Q} {w0 : Option Value} {w1 : Option Value} {w2 : Option Value} {w3 : Option Value} {s0 : Int32} (k : Q (some (.int s0)) (n, y, I, L, R)) : sm_W ex d 0 0 77 51 [w0, w1, w2, w3] [.int s0] (n, y, I, L, R) Q := sm_in (sm_in (And.intro rfl k))
set_option maxRecDepth 100000 in
theorem w_X11_two_0 {ex : sm_O} {d n : Nat} {y : sm_Y} {I : Nat → Nat → Int32} {L : Nat → Nat → Int64} {R : Nat → Nat → Option Nat} {Q : sm_Q} {a1 : Int32} {a2 : Int32} {a3 : Int32} {d1 : Nat} (hG : sm_G y R) (hdep : 2 ≤ d) (h1 : d1 < d) (k : if 0 ≤ a1 ∧ a1 < I 125 0 then (if 0 ≤ a2 ∧ a2 < I 125 0 then (if a1 = a2 then (Q (some (.int (-1))) (n, y, sm_st I 123 0 0, L, R)) else (if a3 = 0 then (sm_W ex d1 0 0 140 0 [some (.ref 123), some (.int a1), some (.int a2), none, none] [] (n, y, sm_st I 123 0 0, L, R) (fun r μ1 => sm_W ex d 0 0 144 38 [some (.ref 123), some (.int a1), some (.int a2), some (.int a3)] (r.toList ++ []) μ1 Q)) else (if a3 = 1 then (sm_W ex d1 0 0 188 0 [some (.ref 123), some (.int a1), some (.int a2)] [] (n, y, sm_st I 123 0 0, L, R) (fun r μ1 => sm_W ex d 0 0 144 52 [some (.ref 123), some (.int a1), some (.int a2), some (.int a3)] (r.toList ++ []) μ1 Q)) else (Q (some (.int (-1))) (n, y, sm_st I 123 0 0, L, R))))) else (Q (some (.int (-1))) (n, y, sm_st I 123 0 0, L, R))) else (Q (some (.int (-1))) (n, y, sm_st I 123 0 0, L, R))) : sm_W ex d 0 0 144 0 [some (.ref 123), some (.int a1), some (.int a2), some (.int a3)] [] (n, y, I, L, R) Q := sm_in (sm_in (sm_in (And.intro (hG.1 123 (Nat.le_of_ble_eq_true rfl)) (sm_in (sm_in (sm_in (Exists.intro 11 (And.intro (hG.1 123 (Nat.le_of_ble_eq_true rfl)) (And.intro rfl (sm_calln (d1 := 1) (Nat.lt_of_lt_of_le (Nat.lt_succ_self 1) (Nat.le_trans (Nat.le_of_ble_eq_true rfl) hdep)) (Nat.le_of_ble_eq_true rfl) (Nat.le_of_ble_eq_true rfl) (c_X11_isMan hG (sm_in (And.intro (fun c1 => have k1f := Eq.mp (if_neg (sm_b_0.mp c1)) k; sm_in (sm_in (And.intro rfl k1f))) (fun c1 => have k1t := Eq.mp (if_pos (sm_b_n.mp c1)) k; sm_in (sm_in (sm_in (Exists.intro 11 (And.intro (hG.1 123 (Nat.le_of_ble_eq_true rfl)) (And.intro rfl (sm_calln (d1 := 1) (Nat.lt_of_lt_of_le (Nat.lt_succ_self 1) (Nat.le_trans (Nat.le_of_ble_eq_true rfl) hdep)) (Nat.le_of_ble_eq_true rfl) (Nat.le_of_ble_eq_true rfl) (c_X11_isMan hG (sm_in (And.intro (fun c2 => have k2f := Eq.mp (if_neg (sm_b_0.mp c2)) k1t; sm_in (sm_in (And.intro rfl k2f))) (fun c2 => have k2t := Eq.mp (if_pos (sm_b_n.mp c2)) k1t; sm_in (sm_in (sm_in (And.intro (fun c3 => have k3f := Eq.mp (if_neg c3) k2t; sm_in (sm_in (And.intro (fun c4 => have k4f := Eq.mp (if_neg c4) k3f; sm_in (sm_in (sm_in (And.intro (fun c5 => have k5f := Eq.mp (if_neg c5) k4f; sm_in (sm_in (And.intro rfl k5f))) (fun c5 => have k5t := Eq.mp (if_pos c5) k4f; sm_in (sm_in (sm_in (sm_in (Exists.intro 11 (And.intro (hG.1 123 (Nat.le_of_ble_eq_true rfl)) (And.intro rfl (sm_calln h1 (Nat.le_of_ble_eq_true rfl) (Nat.le_of_ble_eq_true rfl) k5t)))))))))))) (fun c4 => have k4t := Eq.mp (if_pos c4) k3f; sm_in (sm_in (sm_in (sm_in (Exists.intro 11 (And.intro (hG.1 123 (Nat.le_of_ble_eq_true rfl)) (And.intro rfl (sm_calln h1 (Nat.le_of_ble_eq_true rfl) (Nat.le_of_ble_eq_true rfl) k4t))))))))))) (fun c3 => have k3t := Eq.mp (if_pos c3) k2t; sm_in (sm_in (And.intro rfl k3t))))))))))))))))))))))))))))))
set_option maxRecDepth 100000 in
theorem w_X11_two_38 {ex : sm_O} {d n : Nat} {y : sm_Y} {I : Nat → Nat → Int32} {L : Nat → Nat → Int64} {R : Nat → Nat → Option Nat} {Q : sm_Q} {w0 : Option Value} {w1 : Option Value} {w2 : Option Value} {w3 : Option Value} {s0 : Int32} (k : Q (some (.int s0)) (n, y, I, L, R)) : sm_W ex d 0 0 144 38 [w0, w1, w2, w3] [.int s0] (n, y, I, L, R) Q := sm_in (sm_in (And.intro rfl k))
set_option maxRecDepth 100000 in
theorem w_X11_two_52 {ex : sm_O} {d n : Nat} {y : sm_Y} {I : Nat → Nat → Int32} {L : Nat → Nat → Int64} {R : Nat → Nat → Option Nat} {Q : sm_Q} {w0 : Option Value} {w1 : Option Value} {w2 : Option Value} {w3 : Option Value} {s0 : Int32} (k : Q (some (.int s0)) (n, y, I, L, R)) : sm_W ex d 0 0 144 52 [w0, w1, w2, w3] [.int s0] (n, y, I, L, R) Q := sm_in (sm_in (And.intro rfl k))
set_option maxRecDepth 100000 in
theorem w_X10_compare_0 {ex : sm_O} {d n : Nat} {y : sm_Y} {I : Nat → Nat → Int32} {L : Nat → Nat → Int64} {R : Nat → Nat → Option Nat} {Q : sm_Q} {a1 : Int32} {a2 : Int32} {a3 : Int32} (hG : sm_G y R) (hdep : 2 ≤ d) (k : if a1 < (-1) then (Q (some (.int (-1))) (n, y, I, L, R)) else (if (I 6 2) ≤ a1 then (Q (some (.int (-1))) (n, y, I, L, R)) else (if a2 < 0 then (Q (some (.int (-1))) (n, y, I, L, R)) else (if (I 1 4) ≤ a2 then (Q (some (.int (-1))) (n, y, I, L, R)) else (if a3 < 0 then (Q (some (.int (-1))) (n, y, I, L, R)) else (if (I 1 4) ≤ a3 then (Q (some (.int (-1))) (n, y, I, L, R)) else (if a2 = a3 then (Q (some (.int (-1))) (n, y, I, L, R)) else (if a1 < 0 then (sm_W ex d 0 0 106 34 [some (.ref 0), some (.int a1), some (.int a2), some (.int a3)] [.ref 8, .ref 50] (n, y, I, L, R) Q) else (vp_in a1 6 ∧ sm_W ex d 0 0 106 34 [some (.ref 0), some (.int a1), some (.int a2), some (.int a3)] [.ref (14 + 6 * a1.toNatClampNeg), .ref 50] (n, y, I, L, R) Q))))))))) : sm_W ex d 0 0 106 0 [some (.ref 0), some (.int a1), some (.int a2), some (.int a3)] [] (n, y, I, L, R) Q := sm_in (sm_in (And.intro (hG.1 0 (Nat.le_of_ble_eq_true rfl)) (sm_gfr rfl (hG.2 0 1 rfl) (sm_in (sm_in (Exists.intro 0 (And.intro (hG.1 6 (Nat.le_of_ble_eq_true rfl)) (And.intro rfl (sm_calln (d1 := 1) (Nat.lt_of_lt_of_le (Nat.le_of_ble_eq_true rfl : 1 < 2) hdep) (Nat.le_of_ble_eq_true rfl) (Nat.le_of_ble_eq_true rfl) (sm_in (sm_in (sm_in (And.intro (fun c1 => have k1t := Eq.mp (if_pos c1) k; sm_in (sm_in (And.intro rfl (And.intro (Or.inl rfl) (sm_in (And.intro (fun _ => sm_in (sm_in (And.intro rfl k1t))) (fun c => absurd (by decide : (0 : Int32) = 0) c))))))) (fun c1 => have k1f := Eq.mp (if_neg c1) k; sm_in (sm_in (sm_in (And.intro (hG.1 6 (Nat.le_of_ble_eq_true rfl)) (sm_in (And.intro (fun c2 => have k2t := Eq.mp (if_pos c2) k1f; sm_in (sm_in (And.intro rfl (And.intro (Or.inl rfl) (sm_in (And.intro (fun _ => sm_in (sm_in (And.intro rfl k2t))) (fun c => absurd (by decide : (0 : Int32) = 0) c))))))) (fun c2 => have k2f := Eq.mp (if_neg c2) k1f; sm_in (sm_in (sm_in (And.intro rfl (And.intro (Or.inr rfl) (sm_in (And.intro (fun c => absurd c (by decide : ¬ (1 : Int32) = 0)) (fun _ => sm_in (sm_in (sm_in (sm_in (Exists.intro 10 (And.intro (hG.1 0 (Nat.le_of_ble_eq_true rfl)) (And.intro rfl (sm_calln (d1 := 1) (Nat.lt_of_lt_of_le (Nat.le_of_ble_eq_true rfl : 1 < 2) hdep) (Nat.le_of_ble_eq_true rfl) (Nat.le_of_ble_eq_true rfl) (sm_in (sm_in (And.intro (hG.1 0 (Nat.le_of_ble_eq_true rfl)) (sm_gfr rfl (hG.2 0 0 rfl) (sm_in (sm_in (Exists.intro 9 (And.intro (hG.1 1 (Nat.le_of_ble_eq_true rfl)) (And.intro rfl (sm_calln (d1 := 0) (Nat.le_of_ble_eq_true rfl : 0 < 1) (Nat.le_of_ble_eq_true rfl) (Nat.le_of_ble_eq_true rfl) (sm_in (sm_in (And.intro (fun c3 => have k3t := Eq.mp (if_pos c3) k2f; sm_in (sm_in (And.intro rfl (And.intro (Or.inl rfl) (sm_in (And.intro (fun _ => sm_in (sm_in (And.intro rfl (And.intro (Or.inl rfl) (sm_in (And.intro (fun c => absurd (by decide : (0 : Int32) = 0) c) (fun _ => sm_in (sm_in (And.intro rfl k3t))))))))) (fun c => absurd (by decide : (0 : Int32) = 0) c))))))) (fun c3 => have k3f := Eq.mp (if_neg c3) k2f; sm_in (sm_in (sm_in (And.intro (hG.1 1 (Nat.le_of_ble_eq_true rfl)) (sm_in (And.intro (fun c4 => have k4t := Eq.mp (if_pos c4) k3f; sm_in (sm_in (And.intro rfl (And.intro (Or.inl rfl) (sm_in (And.intro (fun _ => sm_in (sm_in (And.intro rfl (And.intro (Or.inl rfl) (sm_in (And.intro (fun c => absurd (by decide : (0 : Int32) = 0) c) (fun _ => sm_in (sm_in (And.intro rfl k4t))))))))) (fun c => absurd (by decide : (0 : Int32) = 0) c))))))) (fun c4 => have k4f := Eq.mp (if_neg c4) k3f; sm_in (sm_in (sm_in (And.intro rfl (And.intro (Or.inr rfl) (sm_in (And.intro (fun c => absurd c (by decide : ¬ (1 : Int32) = 0)) (fun _ => sm_in (sm_in (And.intro (hG.1 0 (Nat.le_of_ble_eq_true rfl)) (sm_gfr rfl (hG.2 0 0 rfl) (sm_in (sm_in (Exists.intro 9 (And.intro (hG.1 1 (Nat.le_of_ble_eq_true rfl)) (And.intro rfl (sm_calln (d1 := 0) (Nat.le_of_ble_eq_true rfl : 0 < 1) (Nat.le_of_ble_eq_true rfl) (Nat.le_of_ble_eq_true rfl) (sm_in (sm_in (And.intro (fun c5 => have k5t := Eq.mp (if_pos c5) k4f; sm_in (sm_in (And.intro rfl (And.intro (Or.inl rfl) (sm_in (And.intro (fun _ => sm_in (sm_in (And.intro rfl (And.intro (Or.inl rfl) (sm_in (And.intro (fun c => absurd (by decide : (0 : Int32) = 0) c) (fun _ => sm_in (sm_in (And.intro rfl k5t))))))))) (fun c => absurd (by decide : (0 : Int32) = 0) c))))))) (fun c5 => have k5f := Eq.mp (if_neg c5) k4f; sm_in (sm_in (sm_in (And.intro (hG.1 1 (Nat.le_of_ble_eq_true rfl)) (sm_in (And.intro (fun c6 => have k6t := Eq.mp (if_pos c6) k5f; sm_in (sm_in (And.intro rfl (And.intro (Or.inl rfl) (sm_in (And.intro (fun _ => sm_in (sm_in (And.intro rfl (And.intro (Or.inl rfl) (sm_in (And.intro (fun c => absurd (by decide : (0 : Int32) = 0) c) (fun _ => sm_in (sm_in (And.intro rfl k6t))))))))) (fun c => absurd (by decide : (0 : Int32) = 0) c))))))) (fun c6 => have k6f := Eq.mp (if_neg c6) k5f; sm_in (sm_in (sm_in (And.intro rfl (And.intro (Or.inr rfl) (sm_in (And.intro (fun c => absurd c (by decide : ¬ (1 : Int32) = 0)) (fun _ => sm_in (sm_in (sm_in (And.intro (fun c7 => have k7t := Eq.mp (if_pos c7) k6f; sm_in (sm_in (And.intro rfl (And.intro (Or.inl rfl) (sm_in (And.intro (fun c => absurd (by decide : (0 : Int32) = 0) c) (fun _ => sm_in (sm_in (And.intro rfl k7t))))))))) (fun c7 => have k7f := Eq.mp (if_neg c7) k6f; sm_in (sm_in (sm_in (And.intro rfl (And.intro (Or.inr rfl) (sm_in (And.intro (fun _ => sm_in (sm_in (And.intro (hG.1 0 (Nat.le_of_ble_eq_true rfl)) (sm_gfr rfl (hG.2 0 2 rfl) (sm_in (sm_in (And.intro (hG.1 0 (Nat.le_of_ble_eq_true rfl)) (sm_gfr rfl (hG.2 0 1 rfl) (sm_in (sm_in (Exists.intro 0 (And.intro (hG.1 6 (Nat.le_of_ble_eq_true rfl)) (And.intro rfl (sm_calln (d1 := 1) (Nat.lt_of_lt_of_le (Nat.le_of_ble_eq_true rfl : 1 < 2) hdep) (Nat.le_of_ble_eq_true rfl) (Nat.le_of_ble_eq_true rfl) (sm_in (sm_in (And.intro (fun c8 => have k8t := Eq.mp (if_pos c8) k7f; sm_in (sm_in (And.intro (hG.1 6 (Nat.le_of_ble_eq_true rfl)) (sm_gfr rfl (hG.2 6 1 rfl) (sm_in (And.intro rfl (k8t))))))) (fun c8 => have k8f := Eq.mp (if_neg c8) k7f; sm_in (sm_in (sm_in (And.intro (hG.1 6 (Nat.le_of_ble_eq_true rfl)) (sm_in (And.intro (fun c => absurd c c2) (fun _ => sm_in (sm_in (And.intro (hG.1 6 (Nat.le_of_ble_eq_true rfl)) (sm_gfr rfl (hG.2 6 0 rfl) (sm_in ((have e9 := k8f.1; have k9 := k8f.2; sm_in (Exists.intro 6 (Exists.intro 6 (And.intro (hG.1 7 (Nat.le_of_ble_eq_true rfl)) (And.intro e9 (sm_rrs (sm_G7 hG e9) (sm_in (sm_in (And.intro rfl (k9))))))))))))))))))))))))))))))))))))))) (fun c => absurd c (by decide : ¬ (1 : Int32) = 0)))))))))))))))))))))))))))))))))))))))))))))))))))))))))))))))))))))))))))))))))))))))))))))))))))
set_option maxRecDepth 100000 in
theorem w_X10_compare_34 {ex : sm_O} {d n : Nat} {y : sm_Y} {I : Nat → Nat → Int32} {L : Nat → Nat → Int64} {R : Nat → Nat → Option Nat} {Q : sm_Q} {w1 : Option Value} {a2 : Int32} {a3 : Int32} {s0 : Nat} {d1 : Nat} (hG : sm_G y R) (h1 : d1 < d) (k : sm_W ex d1 0 0 26 0 [some (.ref 50), some (.ref s0), some (.int 2), some (.ref 1), some (.int a2), some (.int a3), none, none] [] (n, y, I, L, R) (fun r μ1 => sm_W ex d 0 0 106 44 [some (.ref 0), w1, some (.int a2), some (.int a3)] (r.toList ++ []) μ1 Q)) : sm_W ex d 0 0 106 34 [some (.ref 0), w1, some (.int a2), some (.int a3)] [.ref s0, .ref 50] (n, y, I, L, R) Q := sm_in (sm_in (sm_in (And.intro (hG.1 0 (Nat.le_of_ble_eq_true rfl)) (sm_gfr rfl (hG.2 0 0 rfl) (sm_in (sm_in (sm_in (Exists.intro 5 (And.intro (hG.1 50 (Nat.le_of_ble_eq_true rfl)) (And.intro rfl (sm_calln h1 (Nat.le_of_ble_eq_true rfl) (Nat.le_of_ble_eq_true rfl) k)))))))))))
set_option maxRecDepth 100000 in
theorem w_X10_compare_44 {ex : sm_O} {d n : Nat} {y : sm_Y} {I : Nat → Nat → Int32} {L : Nat → Nat → Int64} {R : Nat → Nat → Option Nat} {Q : sm_Q} {w0 : Option Value} {w1 : Option Value} {w2 : Option Value} {w3 : Option Value} {s0 : Int32} (k : Q (some (.int s0)) (n, y, I, L, R)) : sm_W ex d 0 0 106 44 [w0, w1, w2, w3] [.int s0] (n, y, I, L, R) Q := sm_in (And.intro rfl k)
set_option maxRecDepth 100000 in
theorem w_X11_compare_0 {ex : sm_O} {d n : Nat} {y : sm_Y} {I : Nat → Nat → Int32} {L : Nat → Nat → Int64} {R : Nat → Nat → Option Nat} {Q : sm_Q} {w4 : Option Value} {w5 : Option Value} {a1 : Int32} {a2 : Int32} {a3 : Int32} {d1 : Nat} (hG : sm_G y R) (hdep : 3 ≤ d) (h1 : d1 < d) (k : if a1 = (-1) then (if 0 ≤ a2 ∧ a2 < I 125 0 then (if 0 ≤ a3 ∧ a3 < I 125 0 then (if a2 = a3 then (Q (some (.int (-1))) (n, y, sm_st I 123 0 0, L, R)) else (sm_W ex d1 0 0 188 0 [some (.ref 123), some (.int a2), some (.int a3)] [] (n, y, sm_st (sm_st I 123 0 0) 125 3 a1, L, R) (fun r μ1 => sm_W ex d 0 0 220 57 [some (.ref 123), some (.int a1), some (.int a2), some (.int a3), some (.int (I 125 3)), w5] (r.toList ++ []) μ1 Q))) else (Q (some (.int (-1))) (n, y, sm_st I 123 0 0, L, R))) else (Q (some (.int (-1))) (n, y, sm_st I 123 0 0, L, R))) else (if (0 : Int64) ≤ a1.toInt64 ∧ a1.toInt64 ≤ (((I 125 2).toInt64) - 1) then (if 0 ≤ a2 ∧ a2 < I 125 0 then (if 0 ≤ a3 ∧ a3 < I 125 0 then (if a2 = a3 then (Q (some (.int (-1))) (n, y, sm_st I 123 0 0, L, R)) else (sm_W ex d1 0 0 188 0 [some (.ref 123), some (.int a2), some (.int a3)] [] (n, y, sm_st (sm_st I 123 0 0) 125 3 a1, L, R) (fun r μ1 => sm_W ex d 0 0 220 57 [some (.ref 123), some (.int a1), some (.int a2), some (.int a3), some (.int (I 125 3)), w5] (r.toList ++ []) μ1 Q))) else (Q (some (.int (-1))) (n, y, sm_st I 123 0 0, L, R))) else (Q (some (.int (-1))) (n, y, sm_st I 123 0 0, L, R))) else (Q (some (.int (-1))) (n, y, sm_st I 123 0 0, L, R)))) : sm_W ex d 0 0 220 0 [some (.ref 123), some (.int a1), some (.int a2), some (.int a3), w4, w5] [] (n, y, I, L, R) Q := sm_in (sm_in (sm_in (And.intro (hG.1 123 (Nat.le_of_ble_eq_true rfl)) (sm_in (sm_in (sm_in (Exists.intro 11 (And.intro (hG.1 123 (Nat.le_of_ble_eq_true rfl)) (And.intro rfl (sm_calln (d1 := 2) (Nat.lt_of_lt_of_le (Nat.le_of_ble_eq_true rfl : 2 < 3) hdep) (Nat.le_of_ble_eq_true rfl) (Nat.le_of_ble_eq_true rfl) (sm_in (sm_in (sm_in (And.intro (fun c1 => have k1t := Eq.mp (if_pos c1) k; sm_in (sm_in (sm_in (And.intro rfl (And.intro (Or.inr rfl) (sm_in (And.intro (fun c => absurd c (by decide : ¬ (1 : Int32) = 0)) (fun _ => sm_in (sm_in (sm_in (Exists.intro 11 (And.intro (hG.1 123 (Nat.le_of_ble_eq_true rfl)) (And.intro rfl (sm_calln (d1 := 1) (Nat.lt_of_lt_of_le (Nat.lt_succ_self 1) (Nat.le_trans (Nat.le_of_ble_eq_true rfl) hdep)) (Nat.le_of_ble_eq_true rfl) (Nat.le_of_ble_eq_true rfl) (c_X11_isMan hG (sm_in (And.intro (fun c2 => have k2f := Eq.mp (if_neg (sm_b_0.mp c2)) k1t; sm_in (sm_in (And.intro rfl k2f))) (fun c2 => have k2t := Eq.mp (if_pos (sm_b_n.mp c2)) k1t; sm_in (sm_in (sm_in (Exists.intro 11 (And.intro (hG.1 123 (Nat.le_of_ble_eq_true rfl)) (And.intro rfl (sm_calln (d1 := 1) (Nat.lt_of_lt_of_le (Nat.lt_succ_self 1) (Nat.le_trans (Nat.le_of_ble_eq_true rfl) hdep)) (Nat.le_of_ble_eq_true rfl) (Nat.le_of_ble_eq_true rfl) (c_X11_isMan hG (sm_in (And.intro (fun c3 => have k3f := Eq.mp (if_neg (sm_b_0.mp c3)) k2t; sm_in (sm_in (And.intro rfl k3f))) (fun c3 => have k3t := Eq.mp (if_pos (sm_b_n.mp c3)) k2t; sm_in (sm_in (sm_in (And.intro (fun c4 => have k4f := Eq.mp (if_neg c4) k3t; sm_in (sm_in (And.intro (hG.1 123 (Nat.le_of_ble_eq_true rfl)) (sm_gfr rfl (hG.2 123 3 rfl) (sm_in (sm_in (Exists.intro 5450 (And.intro (hG.1 125 (Nat.le_of_ble_eq_true rfl)) (And.intro (sm_lin (by decide)) (sm_in (And.intro (Nat.le_of_ble_eq_true rfl) (sm_in (sm_in (And.intro (hG.1 123 (Nat.le_of_ble_eq_true rfl)) (sm_gfr rfl (hG.2 123 3 rfl) (sm_in (sm_in (sm_in (Exists.intro 5450 (And.intro (hG.1 125 (Nat.le_of_ble_eq_true rfl)) (And.intro (sm_lin (by decide)) (sm_in (sm_in (sm_in (sm_in (Exists.intro 11 (And.intro (hG.1 123 (Nat.le_of_ble_eq_true rfl)) (And.intro rfl (sm_calln h1 (Nat.le_of_ble_eq_true rfl) (Nat.le_of_ble_eq_true rfl) k4f))))))))))))))))))))))))))))) (fun c4 => have k4t := Eq.mp (if_pos c4) k3t; sm_in (sm_in (And.intro rfl k4t)))))))))))))))))))))))))))))))))) (fun c1 => have k1f := Eq.mp (if_neg c1) k; sm_in (sm_in (sm_in (sm_in (sm_in (And.intro (hG.1 123 (Nat.le_of_ble_eq_true rfl)) (sm_gfr rfl (hG.2 123 3 rfl) (sm_in (sm_in (Exists.intro 5450 (And.intro (hG.1 125 (Nat.le_of_ble_eq_true rfl)) (And.intro (sm_lin (by decide)) (sm_in (sm_in (sm_in (sm_in (And.intro (Nat.le_of_ble_eq_true rfl) (sm_calln (d1 := 0) (Nat.le_of_ble_eq_true rfl) (Nat.le_of_ble_eq_true rfl) (Nat.le_of_ble_eq_true rfl) (c_X11_in  (sm_in (And.intro (fun c5 => have k5f := Eq.mp (if_neg (sm_b_0.mp c5)) k1f; sm_in (sm_in (And.intro rfl (And.intro (Or.inl rfl) (sm_in (And.intro (fun _ => sm_in (sm_in (And.intro rfl k5f))) (fun c => absurd (by decide : (0 : Int32) = 0) c))))))) (fun c5 => have k5t := Eq.mp (if_pos (sm_b_n.mp c5)) k1f; sm_in (sm_in (sm_in (And.intro rfl (And.intro (Or.inr rfl) (sm_in (And.intro (fun c => absurd c (by decide : ¬ (1 : Int32) = 0)) (fun _ => sm_in (sm_in (sm_in (Exists.intro 11 (And.intro (hG.1 123 (Nat.le_of_ble_eq_true rfl)) (And.intro rfl (sm_calln (d1 := 1) (Nat.lt_of_lt_of_le (Nat.lt_succ_self 1) (Nat.le_trans (Nat.le_of_ble_eq_true rfl) hdep)) (Nat.le_of_ble_eq_true rfl) (Nat.le_of_ble_eq_true rfl) (c_X11_isMan hG (sm_in (And.intro (fun c6 => have k6f := Eq.mp (if_neg (sm_b_0.mp c6)) k5t; sm_in (sm_in (And.intro rfl k6f))) (fun c6 => have k6t := Eq.mp (if_pos (sm_b_n.mp c6)) k5t; sm_in (sm_in (sm_in (Exists.intro 11 (And.intro (hG.1 123 (Nat.le_of_ble_eq_true rfl)) (And.intro rfl (sm_calln (d1 := 1) (Nat.lt_of_lt_of_le (Nat.lt_succ_self 1) (Nat.le_trans (Nat.le_of_ble_eq_true rfl) hdep)) (Nat.le_of_ble_eq_true rfl) (Nat.le_of_ble_eq_true rfl) (c_X11_isMan hG (sm_in (And.intro (fun c7 => have k7f := Eq.mp (if_neg (sm_b_0.mp c7)) k6t; sm_in (sm_in (And.intro rfl k7f))) (fun c7 => have k7t := Eq.mp (if_pos (sm_b_n.mp c7)) k6t; sm_in (sm_in (sm_in (And.intro (fun c8 => have k8f := Eq.mp (if_neg c8) k7t; sm_in (sm_in (And.intro (hG.1 123 (Nat.le_of_ble_eq_true rfl)) (sm_gfr rfl (hG.2 123 3 rfl) (sm_in (sm_in (Exists.intro 5450 (And.intro (hG.1 125 (Nat.le_of_ble_eq_true rfl)) (And.intro (sm_lin (by decide)) (sm_in (And.intro (Nat.le_of_ble_eq_true rfl) (sm_in (sm_in (And.intro (hG.1 123 (Nat.le_of_ble_eq_true rfl)) (sm_gfr rfl (hG.2 123 3 rfl) (sm_in (sm_in (sm_in (Exists.intro 5450 (And.intro (hG.1 125 (Nat.le_of_ble_eq_true rfl)) (And.intro (sm_lin (by decide)) (sm_in (sm_in (sm_in (sm_in (Exists.intro 11 (And.intro (hG.1 123 (Nat.le_of_ble_eq_true rfl)) (And.intro rfl (sm_calln h1 (Nat.le_of_ble_eq_true rfl) (Nat.le_of_ble_eq_true rfl) k8f))))))))))))))))))))))))))))) (fun c8 => have k8t := Eq.mp (if_pos c8) k7t; sm_in (sm_in (And.intro rfl k8t)))))))))))))))))))))))))))))))))))))))))))))))))))))))))))))))))))))
set_option maxRecDepth 100000 in
theorem w_X11_compare_57 {ex : sm_O} {d n : Nat} {y : sm_Y} {I : Nat → Nat → Int32} {L : Nat → Nat → Int64} {R : Nat → Nat → Option Nat} {Q : sm_Q} {w1 : Option Value} {w2 : Option Value} {w3 : Option Value} {w5 : Option Value} {a4 : Int32} {s0 : Int32} (hG : sm_G y R) (k : Q (some (.int s0)) (n, y, sm_st I 125 3 a4, L, R)) : sm_W ex d 0 0 220 57 [some (.ref 123), w1, w2, w3, some (.int a4), w5] [.int s0] (n, y, I, L, R) Q := sm_in (And.intro (Nat.le_of_ble_eq_true rfl) (sm_in (sm_in (And.intro (hG.1 123 (Nat.le_of_ble_eq_true rfl)) (sm_gfr rfl (hG.2 123 3 rfl) (sm_in (sm_in (sm_in (Exists.intro 5450 (And.intro (hG.1 125 (Nat.le_of_ble_eq_true rfl)) (And.intro (sm_lin (by decide)) (sm_in (sm_in (And.intro rfl k))))))))))))))
-- MAN, OF, TWO, COMPARE
def cscr (a j : Nat) : Prop := (51 ≤ a ∧ a ≤ 53) ∨ (55 ≤ a ∧ a ≤ 64) ∨ (67 ≤ a ∧ a ≤ 72) ∨ (a = 54 ∧ j ≠ 9) ∨ a = 75 ∨ (77 ≤ a ∧ a ≤ 101) ∨ a = 104 ∨ a = 106 ∨ (107 ≤ a ∧ a ≤ 111) ∨ a = 120 ∨ a = 121 ∨ (123 ≤ a ∧ a < 156)
theorem CI_scr {g : GG} {n : Nat} {y : sm_Y} {I I' : Nat → Nat → Int32} {R : Nat → Nat → Option Nat} (hw : Wf g) (h : ∀ a j, ¬ cscr a j → I' a j = I a j) (hc : CI g n y I R) : CI g n y I' R := by
  unfold cscr at h
  exact ⟨hc.1, hc.2.1, cS_kept2 (fun a j q => h a j (by omega)) hc.2.2.1, cP_kept (fun a j q => h a j (by omega)) hc.2.2.2.1, cB_kept hw.1.2.2.1 (fun a j q => h a j (by omega)) hc.2.2.2.2.1, cU_kept (fun a j q => h a j (by omega)) hc.2.2.2.2.2.1, cT_kept (fun a j q => h a j (by omega)) hc.2.2.2.2.2.2.1, cN_kept (fun a j q => h a j (by omega)) hc.2.2.2.2.2.2.2.1, cDr_kept (fun a j q => h a j (by omega)) hc.2.2.2.2.2.2.2.2.1, cIm_kept hw.2.2.2.1 (fun a j q => h a j (by omega)) hc.2.2.2.2.2.2.2.2.2.1, cCa_kept (fun a j q => h a j (by omega)) hc.2.2.2.2.2.2.2.2.2.2⟩
theorem cKeep_c {I I' : Nat → Nat → Int32} {L : Nat → Nat → Int64} (h : ∀ a j, 123 ≤ a ∧ a < 156 → I' a j = I a j) : cKeep I I' L L := ⟨fun a j h1 h2 => h a j ⟨h1, h2⟩, fun _ _ _ => rfl⟩
def mscr (a j : Nat) : Prop := a < 123 ∨ 156 ≤ a ∨ a = 130 ∨ a = 131 ∨ (133 ≤ a ∧ a ≤ 154) ∨ (a = 128 ∧ 320 ≤ j) ∨ (a = 123 ∧ j ≠ 1 ∧ j ≠ 8 ∧ j ≠ 11 ∧ j ≠ 13 ∧ j ≠ 18 ∧ j ≠ 20 ∧ j ≠ 55 ∧ j ≠ 59)
theorem MI_scr {g : GG} {I I' : Nat → Nat → Int32} {L L' : Nat → Nat → Int64} (hw : Wf g) (h : ∀ a j, ¬ mscr a j → I' a j = I a j) (hl : ∀ a j, a = 138 ∨ a = 139 ∨ a = 140 ∨ a = 153 → L' a j = L a j) (hm : MI g I L) : MI g I' L' := by
  unfold mscr at h
  obtain ⟨h1, h2, h3, h4, h5, h6, h7, h8, h9⟩ := hm
  have hu : (gU g).length ≤ 16 := hw.2.1.1
  refine ⟨mS_ext (fun j _ => h 125 j (by omega)) hw.1.1.1.1 h1, mP_ext (fun j _ => h 125 j (by omega)) hw.1.2.1.1 h2, mB_ext (fun j _ => h 125 j (by omega)) hw.1.2.2.1 h3, ⟨?_, fun i x hx => ?_⟩, ⟨?_, fun j hj => ?_⟩, ⟨?_, ?_, ?_, ?_, ?_, fun j hj => ?_⟩, ?_, fun k hk => ?_, ?_⟩
  · rw [h 123 8 (by omega)]; exact h4.1
  · have hi : i < (gU g).length := (List.getElem?_eq_some_iff.mp hx).1
    have h7 : sMen x.2 ≤ 7 := (hw.2.1.2 x (List.mem_of_getElem? hx)).2.1.1.1
    obtain ⟨q1, q2, q3, q4, q5⟩ := h4.2 i x hx
    refine ⟨by rw [h 129 i (by omega)]; exact q1, fun j hj => ?_, ?_, ?_, fun j hj => ?_⟩
    · show I' 128 _ = _; rw [h 128 _ (by omega)]; exact q2 j hj
    · show I' 128 _ = _; rw [h 128 _ (by omega)]; exact q3
    · show I' 128 _ = _; rw [h 128 _ (by omega)]; exact q4
    · show I' 128 _ = _ ∧ I' 128 _ = _; rw [h 128 _ (by omega), h 128 _ (by omega)]; exact q5 j hj
  · rw [h 123 13 (by omega)]; exact h5.1
  · rw [h 132 j (by omega)]; exact h5.2 j hj
  · rw [h 123 11 (by omega)]; exact h6.1
  · rw [h 123 18 (by omega)]; exact h6.2.1
  · rw [h 123 55 (by omega)]; exact h6.2.2.1
  · rw [h 123 1 (by omega)]; exact h6.2.2.2.1
  · rw [h 123 20 (by omega)]; exact h6.2.2.2.2.1
  · rw [h 124 j (by omega)]; exact h6.2.2.2.2.2 j hj
  · have e : I' 155 = I 155 := funext fun j => h 155 j (by omega)
    unfold mDr
    rw [e, h 123 59 (by omega)]
    exact h7
  · have e : I' 126 = I 126 := funext fun j => h 126 j (by omega)
    have e2 : I' 127 = I 127 := funext fun j => h 127 j (by omega)
    have := h8 k hk
    rw [e, e2]
    exact this
  · unfold mWs
    rw [funext fun j => hl 138 j (by omega), funext fun j => hl 139 j (by omega), funext fun j => hl 140 j (by omega), funext fun j => hl 153 j (by omega)]
    exact h9
theorem CI_ft {g : GG} {n : Nat} {y : sm_Y} {I I' : Nat → Nat → Int32} {R : Nat → Nat → Option Nat} (hw : Wf g) (h : cFt I I') (hc : CI g n y I R) : CI g n y I' R := CI_scr hw (fun a j q => h a j (fun z => q (Or.inl z))) hc
theorem cKeep_ft {I I' : Nat → Nat → Int32} {L : Nat → Nat → Int64} (h : cFt I I') : cKeep I I' L L := cKeep_c (fun a j q => h a j (by omega))
theorem MI_ft {g : GG} {I I' : Nat → Nat → Int32} {L L' : Nat → Nat → Int64} (hw : Wf g) (h : mFt I I' L L') (hm : MI g I L) : MI g I' L' := MI_scr hw (fun a j q => h.1 a j (fun z => q (by unfold mscr; omega))) (fun a j q => h.2 a j (by omega) (by omega) (by omega)) hm
theorem mKeep_ft {I I' : Nat → Nat → Int32} {L L' : Nat → Nat → Int64} (h : mFt I I' L L') : mKeep I I' := fun a j q => h.1 a j (by omega)
theorem CI.F {g : GG} {n : Nat} {y : sm_Y} {I : Nat → Nat → Int32} {R : Nat → Nat → Option Nat} (hw : Wf g) (hc : CI g n y I R) : cForce I (bF (gB g)) := cB_F hw.1.2.2.1 hw.1.2.2.2 hc.2.2.2.2.1
theorem MI.F {g : GG} {I : Nat → Nat → Int32} {L : Nat → Nat → Int64} (hw : Wf g) (hm : MI g I L) : mForce I (bF (gB g)) := mB_F hw.1.2.2.1 hw.1.2.2.2 hm.2.2.1
theorem mk1 {y : sm_Y} {R : Nat → Nat → Option Nat} (hG : sm_G y R) : cSt y R 1 := ⟨⟨hG.1 1 (by decide), hG.2 1 0 rfl, hG.2 1 1 rfl, hG.2 1 2 rfl, hG.2 1 3 rfl, hG.1 2 (by decide), hG.1 3 (by decide), hG.1 4 (by decide), hG.1 5 (by decide)⟩, by omega⟩
theorem mk107 {y : sm_Y} {R : Nat → Nat → Option Nat} (hG : sm_G y R) : cSt y R 107 := ⟨⟨hG.1 107 (by decide), hG.2 107 0 rfl, hG.2 107 1 rfl, hG.2 107 2 rfl, hG.2 107 3 rfl, hG.1 108 (by decide), hG.1 109 (by decide), hG.1 110 (by decide), hG.1 111 (by decide)⟩, by omega⟩
theorem mk112 {y : sm_Y} {R : Nat → Nat → Option Nat} (hG : sm_G y R) : cSt y R 112 := ⟨⟨hG.1 112 (by decide), hG.2 112 0 rfl, hG.2 112 1 rfl, hG.2 112 2 rfl, hG.2 112 3 rfl, hG.1 113 (by decide), hG.1 114 (by decide), hG.1 115 (by decide), hG.1 116 (by decide)⟩, by omega⟩
theorem mk58 {y : sm_Y} {R : Nat → Nat → Option Nat} (hG : sm_G y R) : cSt y R 58 := ⟨⟨hG.1 58 (by decide), hG.2 58 0 rfl, hG.2 58 1 rfl, hG.2 58 2 rfl, hG.2 58 3 rfl, hG.1 59 (by decide), hG.1 60 (by decide), hG.1 61 (by decide), hG.1 62 (by decide)⟩, by omega⟩
/-- a number that names a man -/
theorem nat_man {s : St} {a : Int32} (h7 : sMen s ≤ 7) (h : 0 ≤ a ∧ a < nI (sMen s)) : ∃ m, a = nI m ∧ m < sMen s := by
  obtain ⟨m, hm, rfl⟩ := nI_of (Int32.not_lt.mpr h.1)
  exact ⟨m, rfl, (nI_ltI hm (by omega)).mp h.2⟩
-- man
def sp_add (s : St) (h l : Nat) : St := (sMen s + 1, sm_up (sHold s) (sMen s) h, sm_up (sLook s) (sMen s) l, sm_up (sTired s) (sMen s) 0, sm_up (sCash s) (sMen s) false, sUp s, sHeld s, sTerm s)
theorem wS_add {s : St} {h l : Nat} (hw : wS s) (h7 : sMen s < 7) (hh : 1 ≤ h ∧ h ≤ 9) (hl : l ≤ 63) : wS (sp_add s h l) := by
  obtain ⟨⟨h1, h2, h3, h4, h5, h6⟩, h9, h10⟩ := hw
  refine ⟨⟨?_, fun i hi => ?_, fun u hu => ?_, h4, h5, h6⟩, h9, fun u hu => ?_⟩
  · show sMen s + 1 ≤ 7; omega
  · have hi : i < sMen s + 1 := hi
    show 1 ≤ sm_up (sHold s) (sMen s) h i ∧ sm_up (sHold s) (sMen s) h i ≤ 9 ∧ sm_up (sLook s) (sMen s) l i < 64 ∧ sm_up (sTired s) (sMen s) 0 i ≤ 99
    unfold sm_up
    by_cases q : i = sMen s
    · simp only [if_pos q]; omega
    · simp only [if_neg q]; exact h2 i (by omega)
  · have := h3 u hu
    show u < sMen s + 1
    omega
  · have := h3 u hu
    show sm_up (sCash s) (sMen s) false u = false
    unfold sm_up
    rw [if_neg (by omega)]
    exact h10 u hu
theorem c_X9_add {ex : sm_O} {n : Nat} {y : sm_Y} {I : Nat → Nat → Int32} {L : Nat → Nat → Int64} {R : Nat → Nat → Option Nat} {Q : sm_Q} {d o h l : Nat} {s : St} (ho : ok9 y R o) (hs : cS s o I) (h7 : sMen s < 7)
    (k : ∀ (I' : Nat → Nat → Int32), (∀ a j, ¬ (a = o ∧ j = 4) → ¬ (o + 1 ≤ a ∧ a ≤ o + 3) → I' a j = I a j) → cS (sp_add s h l) o I' → Q (some (.int (nI (sMen s)))) (n, y, I', L, R)) : sm_W ex d 0 0 67 0 [some (.ref o), some (.int (nI h)), some (.int (nI l))] [] (n, y, I, L, R) Q := by
  refine w_X9_add ho ?_
  have hc : (nI (sMen s)).toNatClampNeg = sMen s := nI_clamp (by omega)
  have e1 : ∀ v, (sm_st I (o + 1) (sMen s) v) o 4 = nI (sMen s) := fun v => (sm_st_o _ _ (by omega)).trans hs.1
  have e2 : ∀ v w, (sm_st (sm_st I (o + 1) (sMen s) v) (o + 2) (sMen s) w) o 4 = nI (sMen s) := fun v w => (sm_st_o _ _ (by omega)).trans (e1 v)
  have e3 : ∀ v w x, (sm_st (sm_st (sm_st I (o + 1) (sMen s) v) (o + 2) (sMen s) w) (o + 3) (sMen s) x) o 4 = nI (sMen s) := fun v w x => (sm_st_o _ _ (by omega)).trans (e2 v w)
  rw [hs.1, hc, e1, hc, e2, hc, e3, sm_n1, sm_st_s, nI_pred]
  rw [if_pos (show nI (sMen s) < 7 from (nI_ltI (b := 7) (by omega) (by decide)).mpr h7)]
  refine ⟨vp_in_nI h7 (by decide), vp_in_nI h7 (by decide), vp_in_nI h7 (by decide), ?_⟩
  refine k _ (fun a j q1 q2 => by (repeat (refine (sm_st_or _ _ (by omega)).trans ?_)); rfl) ?_
  refine ⟨sm_st_s _ _ _ _, fun i hi => ?_, ?_, ?_, ?_, fun j hj => ?_⟩
  · have hi : i < sMen s + 1 := hi
    show _ = nI (if i = sMen s then h else sHold s i) ∧ _ = nI (if i = sMen s then l else sLook s i) ∧ _ = nI (if i = sMen s then 0 else sTired s i)
    by_cases q : i = sMen s
    · subst q
      simp only [if_true]
      refine ⟨?_, ?_, ?_⟩
      · rw [sm_st_o _ _ (by omega), sm_st_o _ _ (by omega), sm_st_o _ _ (by omega), sm_st_s]
      · rw [sm_st_o _ _ (by omega), sm_st_o _ _ (by omega), sm_st_s]
      · rw [sm_st_o _ _ (by omega), sm_st_s]; rfl
    · simp only [if_neg q]
      have hq := hs.2.1 i (by omega)
      refine ⟨?_, ?_, ?_⟩
      · refine Eq.trans ?_ hq.1
        (repeat (refine (sm_st_or _ _ (by omega)).trans ?_)); rfl
      · refine Eq.trans ?_ hq.2.1
        (repeat (refine (sm_st_or _ _ (by omega)).trans ?_)); rfl
      · refine Eq.trans ?_ hq.2.2
        (repeat (refine (sm_st_or _ _ (by omega)).trans ?_)); rfl
  · refine Eq.trans ?_ (hs.2.2.1.trans ?_)
    · (repeat (refine (sm_st_or _ _ (by omega)).trans ?_)); rfl
    · show _ = nI (sp_bits (sm_up (sCash s) (sMen s) false) (sMen s) + if sm_up (sCash s) (sMen s) false (sMen s) = true then 2 ^ sMen s else 0)
      have e : sm_up (sCash s) (sMen s) false (sMen s) = false := by unfold sm_up; rw [if_pos rfl]
      rw [e, sp_bits_ext (p := sm_up (sCash s) (sMen s) false) (q := sCash s) (sMen s) (fun i hi => by unfold sm_up; rw [if_neg (by omega)])]
      rfl
  · refine Eq.trans ?_ hs.2.2.2.1
    (repeat (refine (sm_st_or _ _ (by omega)).trans ?_)); rfl
  · refine Eq.trans ?_ hs.2.2.2.2.1
    (repeat (refine (sm_st_or _ _ (by omega)).trans ?_)); rfl
  · refine Eq.trans ?_ (hs.2.2.2.2.2 j hj)
    (repeat (refine (sm_st_or _ _ (by omega)).trans ?_)); rfl
def g_man (g : GG) (h l : Nat) : GG := gUn (gKe g (sp_add (gS g) h l, gP g, gB g)) []
def f_man (g : GG) (a b : Int32) : Int32 × GG := if (1 ≤ a ∧ a ≤ 9) ∧ 0 ≤ b ∧ b ≤ 63 then (if sMen (gS g) = 7 then (-5, gRe g 5) else (nI (sMen (gS g)), gSt (g_man g a.toNatClampNeg b.toNatClampNeg) 0)) else (-1, gRe g 1)
theorem nat_man2 {a b : Int32} (h : (1 ≤ a ∧ a ≤ 9) ∧ 0 ≤ b ∧ b ≤ 63) : ∃ f x : Nat, a = nI f ∧ (1 ≤ f ∧ f ≤ 9) ∧ b = nI x ∧ x ≤ 63 := by
  obtain ⟨j, rfl, hj0, hj⟩ := sm_nat (lo := 1) (hi := 9) (by decide) h.1 (by decide)
  obtain ⟨u, rfl, -, hu⟩ := sm_nat (lo := 0) (hi := 63) (by decide) h.2 (by decide)
  exact ⟨j, u, rfl, ⟨hj0, hj⟩, rfl, hu⟩
theorem Wf_gman {g : GG} (hw : Wf g) {h l : Nat} (h7 : sMen (gS g) ≠ 7) (hh : 1 ≤ h ∧ h ≤ 9) (hl : l ≤ 63) : Wf (g_man g h l) := by
  have : sMen (gS g) ≤ 7 := hw.1.1.1.1
  exact ⟨⟨wS_add hw.1.1 (by omega) hh hl, hw.1.2⟩, ⟨Nat.zero_le _, fun _ q => by cases q⟩, hw.2.2⟩
theorem Wf_man {g : GG} (hw : Wf g) (a b : Int32) : Wf (f_man g a b).2 := by
  unfold f_man
  split
  · rename_i q
    split
    · exact hw
    · rename_i q2
      obtain ⟨j, u, rfl, hj, rfl, hu⟩ := nat_man2 q
      rw [nI_clamp (by omega), nI_clamp (by omega)]
      exact Wf_gman hw q2 hj hu
  · exact hw
theorem CI_man {g : GG} {n h l : Nat} {y : sm_Y} {I I' : Nat → Nat → Int32} {R : Nat → Nat → Option Nat} (hw : Wf g) (hc : CI g n y I R) (hf : ∀ a j, ¬ (a = 1 ∧ j = 4) → ¬ (2 ≤ a ∧ a ≤ 4) → ¬ (a = 65 ∧ j = 1) → I' a j = I a j) (hu : I' 65 1 = 0) (hs : cS (sp_add (gS g) h l) 1 I') : CIb (g_man g h l) n y I' R := by
  exact ⟨hc.1, hc.2.1, hs, cP_kept (fun a j q => hf a j (by omega) (by omega) (by omega)) hc.2.2.2.1, cB_kept hw.1.2.2.1 (fun a j q => hf a j (by omega) (by omega) (by omega)) hc.2.2.2.2.1, ⟨hu, fun i x q => by cases q⟩, cT_kept (fun a j q => hf a j (by omega) (by omega) (by omega)) hc.2.2.2.2.2.2.1, cN_kept (fun a j q => hf a j (by omega) (by omega) (by omega)) hc.2.2.2.2.2.2.2.1, cDr_kept (fun a j q => hf a j (by omega) (by omega) (by omega)) hc.2.2.2.2.2.2.2.2.1, cIm_kept hw.2.2.2.1 (fun a j q => hf a j (by omega) (by omega) (by omega)) hc.2.2.2.2.2.2.2.2.2.1⟩
theorem C_man {ex : sm_O} {d : Nat} {g : GG} {a b : Int32} (hd : 2 ≤ d) (hw : Wf g) : CM ex d 75 [some (.ref 0), some (.int a), some (.int b)] g (f_man g a b).1 (f_man g a b).2 := by
  intro n y I L R Q hc k
  unfold f_man at k
  have hs := hc.2.2.1
  have h7 : sMen (gS g) ≤ 7 := hw.1.1.1.1
  have no : ¬ ((1 ≤ a ∧ a ≤ 9) ∧ 0 ≤ b ∧ b ≤ 63) → sm_W ex 1 0 0 122 0 [some (.ref 0), some (.int (-1))] [] (n, y, I, L, R) (fun r μ1 => sm_W ex d 0 0 75 13 [some (.ref 0), some (.int a), some (.int b)] (r.toList ++ []) μ1 Q) := by
    intro q
    rw [if_neg q] at k
    refine c_X10_refused (j := 1) hc.2.1 (by omega) (by decide) ?_
    exact w_X10_man_13 (k _ L (CI_ref hw hc (by omega)) (cKeep_ref 1 I L))
  refine w_X10_man_0 (d1 := 1) hc.2.1 (by omega) (by omega) ?_
  by_cases q1 : a < 1
  · rw [if_pos q1]
    exact no (fun z => absurd q1 (Int32.not_lt.mpr z.1.1))
  rw [if_neg q1]
  by_cases q2 : 9 < a
  · rw [if_pos q2]
    exact no (fun z => absurd q2 (Int32.not_lt.mpr z.1.2))
  rw [if_neg q2]
  by_cases q3 : b < 0
  · rw [if_pos q3]
    exact no (fun z => absurd q3 (Int32.not_lt.mpr z.2.1))
  rw [if_neg q3]
  by_cases q4 : 63 < b
  · rw [if_pos q4]
    exact no (fun z => absurd q4 (Int32.not_lt.mpr z.2.2))
  rw [if_neg q4]
  have hall : (1 ≤ a ∧ a ≤ 9) ∧ 0 ≤ b ∧ b ≤ 63 := ⟨⟨Int32.not_lt.mp q1, Int32.not_lt.mp q2⟩, Int32.not_lt.mp q3, Int32.not_lt.mp q4⟩
  rw [if_pos hall] at k
  obtain ⟨f, x, rfl, hf, rfl, hx⟩ := nat_man2 hall
  have hlt : nI (sMen (gS g)) < 7 ↔ sMen (gS g) < 7 := nI_ltI (b := 7) (by omega) (by decide)
  rw [hs.1]
  simp only [hlt]
  by_cases hl : sMen (gS g) = 7
  · rw [if_pos hl] at k
    rw [if_neg (by omega)]
    refine c_X10_refused (j := 5) hc.2.1 (by omega) (by decide) ?_
    exact w_X10_man_32 (k _ L (CI_ref hw hc (by omega)) (cKeep_ref 5 I L))
  · rw [if_neg hl, nI_clamp (by omega), nI_clamp (by omega)] at k
    rw [if_pos (by omega)]
    have hs1 : cS (gS g) 1 (sm_st I 65 1 0) := cS_kept2 (fun a j q => sm_st_o _ _ (by omega)) hs
    refine c_X9_add (mk1 hc.2.1).1 hs1 (by omega) ?_
    intro I1 hf1 hs2
    refine w_X10_man_53 (d1 := 1) hc.2.1 (by omega) ?_
    refine c_X10_accepted hc.2.1 ?_
    refine w_X10_man_56 ?_
    refine k _ L (CI_acc (Wf_gman hw hl hf hx) (CI_man hw hc (fun a j q1 q2 q3 => ?_) ?_ hs2)) (cKeep.trans ?_ (cKeep_acc _ L))
    · rw [hf1 a j q1 (by omega)]
      exact sm_st_or _ _ (by omega)
    · rw [hf1 65 1 (by omega) (by omega)]
      exact sm_st_s _ _ _ _
    · refine cKeep_c (fun a j q => ?_)
      rw [hf1 a j (by omega) (by omega)]
      exact sm_st_o _ _ (by omega)
theorem mS_add {s : St} {r r' : Nat → Int32} {h l : Nat} (hs : mS s r) (h7 : sMen s < 7) (e0 : r' 0 = nI (sMen s + 1)) (e1 : r' (24 + sMen s) = nI h) (e2 : r' (31 + sMen s) = nI l) (e3 : r' (10 + sMen s) = 0) (e4 : r' (17 + sMen s) = 0) (ho : ∀ j, j ≠ 0 → j ≠ 24 + sMen s → j ≠ 31 + sMen s → j ≠ 10 + sMen s → j ≠ 17 + sMen s → r' j = r j) : mS (sp_add s h l) r' := by
  refine ⟨e0, fun i hi => ?_, ?_, ?_, fun j hj => ?_⟩
  · have hi : i < sMen s + 1 := hi
    show _ = nI (if i = sMen s then h else sHold s i) ∧ _ = nI (if i = sMen s then l else sLook s i) ∧ _ = nI (if i = sMen s then 0 else sTired s i) ∧ _ = if (if i = sMen s then false else sCash s i) = true then 1 else 0
    by_cases q : i = sMen s
    · subst q
      simp only [if_true]
      exact ⟨e1, e2, e3, e4⟩
    · simp only [if_neg q]
      rw [ho _ (by omega) (by omega) (by omega) (by omega) (by omega), ho _ (by omega) (by omega) (by omega) (by omega) (by omega), ho _ (by omega) (by omega) (by omega) (by omega) (by omega), ho _ (by omega) (by omega) (by omega) (by omega) (by omega)]
      exact hs.2.1 i (by omega)
  · rw [ho 8 (by omega) (by omega) (by omega) (by omega) (by omega)]; exact hs.2.2.1
  · rw [ho 9 (by omega) (by omega) (by omega) (by omega) (by omega)]; exact hs.2.2.2.1
  · rw [ho (4 + j) (by omega) (by omega) (by omega) (by omega) (by omega)]; exact hs.2.2.2.2 j hj
/-- who comes; -1, -5: he doesn't -/
theorem c_X11_comes {ex : sm_O} {n : Nat} {y : sm_Y} {I : Nat → Nat → Int32} {L : Nat → Nat → Int64} {R : Nat → Nat → Option Nat} {Q : sm_Q} {d : Nat} {a b : Int32} {w3 : Option Value} {s : St} (hd : 1 ≤ d) (hG : sm_G y R) (hs : mS s (I 125)) (h7 : sMen s ≤ 7)
    (k1 : ¬ ((1 ≤ a ∧ a ≤ 9) ∧ 0 ≤ b ∧ b ≤ 63) → Q (some (.int (-1))) (n, y, I, L, R))
    (k5 : ((1 ≤ a ∧ a ≤ 9) ∧ 0 ≤ b ∧ b ≤ 63) → sMen s = 7 → Q (some (.int (-5))) (n, y, I, L, R))
    (k : ∀ (I' : Nat → Nat → Int32) (h l : Nat), a = nI h → (1 ≤ h ∧ h ≤ 9) → b = nI l → l ≤ 63 → sMen s < 7 → (∀ a j, ¬ (a = 125 ∧ (j = 0 ∨ (10 ≤ j ∧ j < 38))) → I' a j = I a j) → mS (sp_add s h l) (I' 125) → Q (some (.int (nI (sMen s)))) (n, y, I', L, R)) : sm_W ex d 0 0 141 0 [some (.ref 123), some (.int a), some (.int b), w3] [] (n, y, I, L, R) Q := by
  refine w_X11_comes_0 hG hd ?_
  have e0 : ((1 : Int64) ≤ a.toInt64 ∧ a.toInt64 ≤ (9 : Int64)) ↔ (1 ≤ a ∧ a ≤ 9) := sm_in64 (lo := 1) (hi := 9)
  have e1 : ((0 : Int64) ≤ b.toInt64 ∧ b.toInt64 ≤ (63 : Int64)) ↔ (0 ≤ b ∧ b ≤ 63) := sm_in64 (lo := 0) (hi := 63)
  simp only [e0, e1]
  by_cases q1 : 1 ≤ a ∧ a ≤ 9
  · rw [if_pos q1]
    by_cases q2 : 0 ≤ b ∧ b ≤ 63
    · rw [if_pos q2, hs.1]
      have e7 : nI (sMen s) = 7 ↔ sMen s = 7 := nI_eq (b := 7) (by omega) (by decide)
      simp only [e7]
      by_cases q3 : sMen s = 7
      · rw [if_pos q3]
        exact k5 ⟨q1, q2⟩ q3
      · rw [if_neg q3]
        obtain ⟨h, l, rfl, hh, rfl, hl⟩ := nat_man2 ⟨q1, q2⟩
        refine ⟨sm_ci24 (by omega) (by decide), sm_ci31 (by omega) (by decide), sm_ci10 (by omega) (by decide), sm_ci17 (by omega) (by decide), ?_⟩
        rw [sm_cx24 (by omega), sm_cx31 (by omega), sm_cx10 (by omega), sm_cx17 (by omega)]
        have ez : (sm_st (sm_st (sm_st (sm_st I 125 (24 + sMen s) (nI h)) 125 (31 + sMen s) (nI l)) 125 (10 + sMen s) 0) 125 (17 + sMen s) 0) 125 0 = nI (sMen s) := by
          refine Eq.trans ?_ hs.1
          (repeat (refine (sm_st_or _ _ (by omega)).trans ?_)); rfl
        rw [ez, sm_n1]
        refine k _ h l rfl hh rfl hl (by omega) (fun a j q => by (repeat (refine (sm_st_or _ _ (by omega)).trans ?_)); rfl) ?_
        refine mS_add hs (by omega) (sm_st_s _ _ _ _) ?_ ?_ ?_ ?_ (fun j _ _ _ _ _ => by (repeat (refine (sm_st_or _ _ (by omega)).trans ?_)); rfl)
        · rw [sm_st_j _ _ (by omega), sm_st_j _ _ (by omega), sm_st_j _ _ (by omega), sm_st_j _ _ (by omega), sm_st_s]
        · rw [sm_st_j _ _ (by omega), sm_st_j _ _ (by omega), sm_st_j _ _ (by omega), sm_st_s]
        · rw [sm_st_j _ _ (by omega), sm_st_j _ _ (by omega), sm_st_s]
        · rw [sm_st_j _ _ (by omega), sm_st_s]
    · rw [if_neg q2]
      exact k1 (fun z => q2 z.2)
  · rw [if_neg q1]
    exact k1 (fun z => q1 z.1)
theorem c_X11_lastP {ex : sm_O} {n : Nat} {y : sm_Y} {I : Nat → Nat → Int32} {L : Nat → Nat → Int64} {R : Nat → Nat → Option Nat} {Q : sm_Q} {d : Nat} {a : Int32} (hd : 1 ≤ d) (hG : sm_G y R) (ha : 0 ≤ a) (k : Q (some (.int a)) (n, y, telI (sm_st I 123 8 0), L, R)) : sm_W ex d 0 0 130 0 [some (.ref 123), some (.int a)] [] (n, y, I, L, R) Q := by
  refine w_X11_lasting_0 (d1 := 0) hG (by omega) ?_
  rw [if_pos ha]
  exact c_X11_tellP hG ha (w_X11_lasting_21 k)
theorem sm_st_id {α : Type} (I : Nat → Nat → α) (o j : Nat) : sm_st I o j (I o j) = I := by
  funext a i
  unfold sm_st
  split
  · rename_i q
    rw [q.1, q.2]
  · rfl
theorem neg_nI_lt {j : Nat} (hj : 1 ≤ j ∧ j < 7) : ¬ 0 ≤ -(nI j) := by
  rw [Int32.le_iff_toInt_le, Int32.toInt_neg, nI_toInt (by omega)]
  have : ((-(j : Int)).bmod (2 ^ 32)) = -(j : Int) := by apply Int.bmod_eq_of_le <;> omega
  rw [this]
  show ¬ (0 : Int) ≤ _
  omega
theorem c_X11_lastN {ex : sm_O} {n : Nat} {y : sm_Y} {I : Nat → Nat → Int32} {L : Nat → Nat → Int64} {R : Nat → Nat → Option Nat} {Q : sm_Q} {d j : Nat} {a : Int32} (hd : 1 ≤ d) (hG : sm_G y R) (hj : 1 ≤ j ∧ j < 7) (ha : a = -(nI j)) (k : Q (some (.int a)) (n, y, rfuI j I, L, R)) : sm_W ex d 0 0 130 0 [some (.ref 123), some (.int a)] [] (n, y, I, L, R) Q := by
  refine w_X11_lasting_0 (d1 := 0) hG (by omega) ?_
  rw [if_neg (by rw [ha]; exact neg_nI_lt hj), sm_st_id]
  exact c_X11_tellN hG hj ha (w_X11_lasting_21 k)
theorem MI_man {g : GG} {h l : Nat} {I I' : Nat → Nat → Int32} {L : Nat → Nat → Int64} (hw : Wf g) (hm : MI g I L) (hf : ∀ a j, ¬ (a = 125 ∧ (j = 0 ∨ (10 ≤ j ∧ j < 38))) → I' a j = I a j) (hs : mS (sp_add (gS g) h l) (I' 125)) : MI (g_man g h l) (sm_st I' 123 8 0) L := by
  obtain ⟨h1, h2, h3, h4, h5, h6, h7, h8, h9⟩ := hm
  have e : ∀ a, a ≠ 125 → I' a = I a := fun a h => funext fun j => hf a j (by omega)
  refine ⟨hs, mP_ext (fun j q => hf 125 j (by omega)) hw.1.2.1.1 h2, mB_ext (fun j q => hf 125 j (by omega)) hw.1.2.2.1 h3, ⟨rfl, fun i x q => by cases q⟩, ?_, ?_, ?_, ?_, h9⟩
  · show I' 123 13 = _ ∧ ∀ j, j < (gT g).1 → I' 132 j = _
    rw [e 123 (by decide), e 132 (by decide)]
    exact h5
  · show I' 123 11 = _ ∧ I' 123 18 = _ ∧ I' 123 55 = _ ∧ I' 123 1 = _ ∧ I' 123 20 = 0 ∧ ∀ j, j < 7 → I' 124 j = _
    rw [e 123 (by decide), e 124 (by decide)]
    exact h6
  · have h7 : mDr (gD g) I := h7
    show mDr (gD g) _
    unfold mDr at h7 ⊢
    have e1 : (sm_st I' 123 8 0) 123 59 = I 123 59 := by rw [sm_st_j _ _ (by decide), e 123 (by decide)]
    have e2 : (sm_st I' 123 8 0) 155 = I 155 := by
      funext j
      rw [sm_st_o _ _ (by decide), e 155 (by decide)]
    rw [e1, e2]
    exact h7
  · intro k hk
    have := h8 k hk
    have e1 : (sm_st I' 123 8 0) 127 = I 127 := by
      funext j
      rw [sm_st_o _ _ (by decide), e 127 (by decide)]
    have e2 : (sm_st I' 123 8 0) 126 = I 126 := by
      funext j
      rw [sm_st_o _ _ (by decide), e 126 (by decide)]
    rw [e1, e2]
    exact this
theorem M_man {ex : sm_O} {d : Nat} {g : GG} {a b : Int32} (hd : 2 ≤ d) (hw : Wf g) : MM ex d 142 [some (.ref 123), some (.int a), some (.int b)] g (f_man g a b).1 (f_man g a b).2 := by
  intro n y I L R Q hG hm k
  unfold f_man at k
  have h7 : sMen (gS g) ≤ 7 := hw.1.1.1.1
  refine w_X11_man_0 (d1 := 1) hG (by omega) ?_
  refine c_X11_comes (s := gS g) (Nat.le_refl 1) hG hm.1 h7 (fun q => ?_) (fun q q2 => ?_) ?_
  · rw [if_neg q] at k
    refine w_X11_man_12 (d1 := 1) hG (by omega) ?_
    refine c_X11_lastN (j := 1) (Nat.le_refl 1) hG (by omega) (by decide) ?_
    exact w_X11_man_15 (k _ L (MI_ref (MI_thr hm)) ((mKeep_thr I).trans (mKeep_rfu 1 _)))
  · rw [if_pos q, if_pos q2] at k
    refine w_X11_man_12 (d1 := 1) hG (by omega) ?_
    refine c_X11_lastN (j := 5) (Nat.le_refl 1) hG (by omega) (by decide) ?_
    exact w_X11_man_15 (k _ L (MI_ref (MI_thr hm)) ((mKeep_thr I).trans (mKeep_rfu 5 _)))
  · intro I1 h l ha hh hb hl hm7 hf1 hs1
    have hall : (1 ≤ a ∧ a ≤ 9) ∧ 0 ≤ b ∧ b ≤ 63 := by
      rw [ha, hb]
      exact ⟨⟨(nI_leI (a := 1) (by decide) (by omega)).mpr hh.1, (nI_leI (b := 9) (by omega) (by decide)).mpr hh.2⟩, nI_pos' (by omega), (nI_leI (b := 63) (by omega) (by decide)).mpr hl⟩
    rw [if_pos hall, if_neg (by omega), ha, hb, nI_clamp (by omega), nI_clamp (by omega)] at k
    refine w_X11_man_12 (d1 := 1) hG (by omega) ?_
    refine c_X11_lastP (Nat.le_refl 1) hG (nI_pos' (by omega)) ?_
    refine w_X11_man_15 (k _ L (MI_acc (MI_man hw (MI_thr hm) hf1 hs1)) ?_)
    intro a j q
    refine (mKeep_tel _ a j q).trans ((mKeep.s _ (by omega) 8 0 a j q).trans ?_)
    rw [hf1 a j (by omega)]
    exact mKeep_thr I a j q
-- of
def sp_canb (F : Option (Nat × Law)) (s : St) (m : Nat) : Bool := decide (sUp s ≠ some m) && !sCash s m && decide (sTired s m < sHold s m) && !sp_bars F s m
theorem sp_canb_iff (F : Option (Nat × Law)) (s : St) (m : Nat) : sp_canb F s m = true ↔ sp_can F s m := by
  unfold sp_canb sp_can
  simp only [Bool.and_eq_true, decide_eq_true_eq, Bool.not_eq_true', and_assoc]
theorem sp_canx {F : Option (Nat × Law)} {s : St} {m : Nat} {x : Int32} (h : sp_can F s m ∧ x = 1 ∨ ¬ sp_can F s m ∧ x = 0) : x = if sp_canb F s m = true then 1 else 0 := by
  rcases h with ⟨h, rfl⟩ | ⟨h, rfl⟩
  · rw [if_pos ((sp_canb_iff F s m).mpr h)]
  · rw [if_neg (fun q => h ((sp_canb_iff F s m).mp q))]
def sp_of (F : Option (Nat × Law)) (s : St) (m : Nat) (w : Int) : Int32 := if w = 0 then nI (sHold s m) else if w = 1 then nI (sLook s m) else if w = 2 then nI (sTired s m) else if w = 3 then (if sCash s m = true then 1 else 0) else if w = 4 then (if sUp s = some m then 1 else 0) else if w = 5 then nI (sp_tires F s m) else if w = 6 then nI (sp_rests F s m) else if w = 7 then (if sp_bars F s m = true then 1 else 0) else if w = 8 then (if sp_canb F s m = true then 1 else 0) else -1
theorem sp_of_no (F : Option (Nat × Law)) (s : St) (m : Nat) {w : Int} (h : w < 0 ∨ 8 < w) : sp_of F s m w = -1 := by
  unfold sp_of
  iterate 9 rw [if_neg (by omega)]
def f_of (g : GG) (a : Int32) (w : Int) : Int32 := if 0 ≤ a ∧ a < nI (sMen (gS g)) then sp_of (bF (gB g)) (gS g) a.toNatClampNeg w else -1
theorem w_bit01 {x : Int32} {p : Prop} [Decidable p] (h : x = if p then 1 else 0) : (if x = 0 then (0 : Int32) else 1) = if p then 1 else 0 := by
  rw [h]
  by_cases q : p
  · rw [if_pos q]; rfl
  · rw [if_neg q]; rfl
theorem c_X10_bit {ex : sm_O} {n : Nat} {y : sm_Y} {I : Nat → Nat → Int32} {L : Nat → Nat → Int64} {R : Nat → Nat → Option Nat} {Q : sm_Q} {d : Nat} {p : Prop} [Decidable p] (k : Q (some (.int (if p then 1 else 0))) (n, y, I, L, R)) : sm_W ex d 0 0 114 0 [some (.int (if p then 1 else 0))] [] (n, y, I, L, R) Q := by
  refine w_X10_bit ?_
  by_cases q : p
  · rw [if_pos q] at k
    rw [if_pos q, if_neg (by decide)]
    exact k
  · rw [if_neg q] at k
    rw [if_neg q, if_pos rfl]
    exact k
theorem C_of {ex : sm_O} {d : Nat} {g : GG} {a b : Int32} (hd : 4 ≤ d) (hw : Wf g) : CM ex d 76 [some (.ref 0), some (.int a), some (.int b)] g (f_of g a b.toInt) g := by
  intro n y I L R Q hc k
  have hs := hc.2.2.1
  have hG := hc.2.1
  have hok : sp_ok (gS g) := hw.1.1.1
  have h7 : sMen (gS g) ≤ 7 := hok.1
  have hF := hc.F hw
  unfold f_of at k
  have k0 := k I L hc (cKeep.rfl' I L)
  refine w_X10_of_0 (d1 := 3) hG (by omega) (by omega) ?_
  rw [hs.1]
  by_cases q1 : a < 0
  · rw [if_pos q1]
    rw [if_neg (fun z => absurd q1 (Int32.not_lt.mpr z.1))] at k0
    exact k0
  rw [if_neg q1]
  by_cases q2 : nI (sMen (gS g)) ≤ a
  · rw [if_pos q2]
    rw [if_neg (fun z => absurd z.2 (Int32.not_lt.mpr q2))] at k0
    exact k0
  rw [if_neg q2]
  have hall : 0 ≤ a ∧ a < nI (sMen (gS g)) := ⟨Int32.not_lt.mp q1, Int32.not_le.mp q2⟩
  rw [if_pos hall] at k0
  simp only [if_pos hall] at k
  obtain ⟨m, rfl, hm⟩ := nat_man h7 hall
  rw [nI_clamp (by omega)] at k0
  rw [nI_clamp (by omega)] at k ⊢
  have hin : vp_in (nI m) 7 := vp_in_nI (by omega) (by decide)
  have hman := hs.2.1 m hm
  -- asking
  have ask : ∀ (kd : Nat) (Q2 : sm_Q), kd ≤ 3 → (∀ (I' : Nat → Nat → Int32), cFt I I' → Q2 (some (.int (nI (sp_asked (lawOf (bF (gB g))) kd (gS g) m none)))) (n, y, I', L, R)) → sm_W ex 3 0 0 26 0 [some (.ref 50), some (.ref (lawAt (bF (gB g)))), some (.int (nI kd)), some (.ref 1), some (.int (nI m)), some (.int (sp_up none)), none, none] [] (n, y, I, L, R) Q2 := fun kd Q2 hkd hk => c_told (by omega) hG (mk1 hG) hs hok hm (fun _ z => by cases z) hF hkd hk
  refine ⟨fun h => ?_, fun h => ?_, fun h => ?_, fun h => ?_, fun h => ?_, fun h => ?_, fun h => ?_, fun h => ?_, fun h => ?_, fun h => ?_⟩
  · rw [sp_of_no _ _ _ h] at k0; exact k0
  · rw [h] at k0; rw [show I 2 m = _ from hman.1]; exact ⟨hin, k0⟩
  · rw [h] at k0; rw [show I 3 m = _ from hman.2.1]; exact ⟨hin, k0⟩
  · rw [h] at k0; rw [show I 4 m = _ from hman.2.2]; exact ⟨hin, k0⟩
  · rw [h] at k0
    refine c_X9_isCashiered (mk1 hG).1 hs h7 hm ?_
    refine w_X10_of_102 (d1 := 1) (by omega) ?_
    exact c_X10_bit (w_X10_of_105 k0)
  · rw [h] at k0
    rw [hs.2.2.2.1]
    have k0 : Q (some (.int (if sUp (gS g) = some m then 1 else 0))) (n, y, I, L, R) := k0
    simp only [sp_up_eq hok.2.2.1 (by omega) hm]
    have go := c_X10_bit (ex := ex) (d := 3) (p := sUp (gS g) = some m) (Q := fun r μ1 => sm_W ex d 0 0 76 125 [some (.ref 0), some (.int (nI m)), some (.int b)] (r.toList ++ []) μ1 Q) (w_X10_of_125 k0)
    by_cases q : sUp (gS g) = some m
    · rw [if_pos q] at go ⊢; exact go
    · rw [if_neg q] at go ⊢; exact go
  · refine c_X0_inForce (by omega) hG hF ?_
    refine w_X10_of_137 (d1 := 3) hG (by omega) ?_
    refine ask 0 _ (by decide) (fun I1 hf1 => ?_)
    have k1 := k I1 L (CI_ft hw hf1 hc) (cKeep_ft hf1)
    rw [h] at k1
    rw [sp_asked_t]
    exact w_X10_of_147 k1
  · refine c_X0_inForce (by omega) hG hF ?_
    refine w_X10_of_159 (d1 := 3) hG (by omega) ?_
    refine ask 1 _ (by decide) (fun I1 hf1 => ?_)
    have k1 := k I1 L (CI_ft hw hf1 hc) (cKeep_ft hf1)
    rw [h] at k1
    rw [sp_asked_r]
    exact w_X10_of_169 k1
  · refine c_X0_inForce (by omega) hG hF ?_
    refine w_X10_of_181 (d1 := 3) hG (by omega) ?_
    refine ask 3 _ (by decide) (fun I1 hf1 => ?_)
    have k1 := k I1 L (CI_ft hw hf1 hc) (cKeep_ft hf1)
    rw [h] at k1
    rw [sp_asked_b]
    refine w_X10_of_191 ?_
    have e : nI (if sp_bars (bF (gB g)) (gS g) m = true then 1 else 0) = if sp_bars (bF (gB g)) (gS g) m = true then 1 else 0 := by split <;> rfl
    rw [e]
    exact k1
  · refine c_X5_can0 (by omega) hG (mk1 hG) hs hok hm hF ?_
    intro I1 x hf1 hx
    have k1 := k I1 L (CI_ft hw hf1 hc) (cKeep_ft hf1)
    rw [h] at k1
    rw [sp_canx hx]
    refine w_X10_of_205 (d1 := 1) (by omega) ?_
    exact c_X10_bit (w_X10_of_208 k1)
theorem M_of {ex : sm_O} {d : Nat} {g : GG} {a b : Int32} (hd : 8 ≤ d) (hw : Wf g) : MM ex d 143 [some (.ref 123), some (.int a), some (.int b)] g (f_of g a b.toInt) g := by
  intro n y I L R Q hG hm k
  have hs := hm.1
  have hok : sp_ok (gS g) := hw.1.1.1
  have h7 : sMen (gS g) ≤ 7 := hok.1
  have hF : mForce (sm_st I 123 0 0) (bF (gB g)) := (MI_thr hm).F hw
  have h20 : (sm_st I 123 0 0) 123 20 = 0 := hm.2.2.2.2.2.1.2.2.2.2.1
  have hs0 : mS (gS g) ((sm_st I 123 0 0) 125) := hs
  unfold f_of at k
  have k0 := k _ L (MI_thr hm) (mKeep_thr I)
  refine w_X11_of_0 (d1 := 7) hG (by omega) (by omega) ?_
  rw [hs.1]
  by_cases q1 : 0 ≤ a ∧ a < nI (sMen (gS g))
  · rw [if_pos q1] at k0 ⊢
    simp only [if_pos q1] at k
    obtain ⟨m, rfl, hmm⟩ := nat_man h7 q1
    rw [nI_clamp (by omega)] at k0
    rw [nI_clamp (by omega)] at k
    have hman := hs.2.1 m hmm
    refine ⟨fun h => ?_, fun h => ?_, fun h => ?_, fun h => ?_, fun h => ?_, fun h => ?_, fun h => ?_, fun h => ?_, fun h => ?_, fun h => ?_⟩
    · rw [sp_of_no _ _ _ h] at k0; exact k0
    · rw [h] at k0; rw [sm_cx24 (by omega), hman.1]; exact ⟨sm_ci24 (by omega) (by decide), k0⟩
    · rw [h] at k0; rw [sm_cx31 (by omega), hman.2.1]; exact ⟨sm_ci31 (by omega) (by decide), k0⟩
    · rw [h] at k0; rw [sm_cx10 (by omega), hman.2.2.1]; exact ⟨sm_ci10 (by omega) (by decide), k0⟩
    · rw [h] at k0; rw [sm_cx17 (by omega), hman.2.2.2]; exact ⟨sm_ci17 (by omega) (by decide), k0⟩
    · rw [h] at k0
      have k0 : Q (some (.int (if sUp (gS g) = some m then 1 else 0))) (n, y, sm_st I 123 0 0, L, R) := k0
      rw [hs.2.2.1]
      simp only [sp_up_eq hok.2.2.1 (by omega) hmm]
      by_cases q : sUp (gS g) = some m
      · rw [if_pos q] at k0 ⊢; exact k0
      · rw [if_neg q] at k0 ⊢; exact k0
    · refine c_X11_tires (s := gS g) (F := bF (gB g)) (by omega) hG hs0 hok hmm h20 hF ?_
      intro I1 L1 hf1
      have k1 := k I1 L1 (MI_ft hw hf1 (MI_thr hm)) ((mKeep_thr I).trans (mKeep_ft hf1))
      rw [h] at k1
      exact w_X11_of_130 k1
    · refine c_X11_rests (s := gS g) (F := bF (gB g)) (by omega) hG hs0 hok hmm h20 hF ?_
      intro I1 L1 hf1
      have k1 := k I1 L1 (MI_ft hw hf1 (MI_thr hm)) ((mKeep_thr I).trans (mKeep_ft hf1))
      rw [h] at k1
      exact w_X11_of_136 k1
    · refine c_X11_isBarred (s := gS g) (F := bF (gB g)) (by omega) hG hs0 hok hmm h20 hF ?_
      intro I1 L1 hf1
      have k1 := k I1 L1 (MI_ft hw hf1 (MI_thr hm)) ((mKeep_thr I).trans (mKeep_ft hf1))
      rw [h] at k1
      have k1 : Q (some (.int (if sp_bars (bF (gB g)) (gS g) m = true then 1 else 0))) (n, y, I1, L1, R) := k1
      refine w_X11_of_142 ?_
      unfold sm_b
      by_cases q : sp_bars (bF (gB g)) (gS g) m = true
      · rw [if_pos q] at k1 ⊢; exact k1
      · rw [if_neg q] at k1 ⊢; exact k1
    · refine c_X11_canRelieve (s := gS g) (F := bF (gB g)) (by omega) hG hs0 hok hmm h20 hF ?_
      intro I1 L1 x hf1 hx
      have k1 := k I1 L1 (MI_ft hw hf1 (MI_thr hm)) ((mKeep_thr I).trans (mKeep_ft hf1))
      rw [h] at k1
      have k1 : Q (some (.int (if sp_canb (bF (gB g)) (gS g) m = true then 1 else 0))) (n, y, I1, L1, R) := k1
      rw [sp_canx hx]
      refine w_X11_of_156 ?_
      by_cases q : sp_canb (bF (gB g)) (gS g) m = true
      · rw [if_pos q] at k1 ⊢; exact k1
      · rw [if_neg q] at k1 ⊢; exact k1
  · rw [if_neg q1] at k0 ⊢
    exact k0
-- two
def f_two (g : GG) (a b c : Int32) : Int32 := if (0 ≤ a ∧ a < nI (sMen (gS g))) ∧ (0 ≤ b ∧ b < nI (sMen (gS g))) ∧ a ≠ b then (if c = 0 then nI (sp_unlike (gS g) a.toNatClampNeg b.toNatClampNeg) else if c = 1 then nI (sp_notice (bF (gB g)) (gS g) a.toNatClampNeg (some b.toNatClampNeg)) else -1) else -1
theorem C_two {ex : sm_O} {d : Nat} {g : GG} {a b c : Int32} (hd : 4 ≤ d) (hw : Wf g) : CM ex d 77 [some (.ref 0), some (.int a), some (.int b), some (.int c)] g (f_two g a b c) g := by
  intro n y I L R Q hc k
  have hs := hc.2.2.1
  have hG := hc.2.1
  have hok : sp_ok (gS g) := hw.1.1.1
  have h7 : sMen (gS g) ≤ 7 := hok.1
  have hF := hc.F hw
  unfold f_two at k
  have no : ¬ ((0 ≤ a ∧ a < nI (sMen (gS g))) ∧ (0 ≤ b ∧ b < nI (sMen (gS g))) ∧ a ≠ b) → Q (some (.int (-1))) (n, y, I, L, R) := by
    intro q
    have k0 := k I L hc (cKeep.rfl' I L)
    rw [if_neg q] at k0
    exact k0
  refine w_X10_two_0 (d1 := 3) hG (by omega) (by omega) ?_
  rw [hs.1]
  by_cases q1 : a < 0
  · rw [if_pos q1]
    exact no (fun z => absurd q1 (Int32.not_lt.mpr z.1.1))
  rw [if_neg q1]
  by_cases q2 : nI (sMen (gS g)) ≤ a
  · rw [if_pos q2]
    exact no (fun z => absurd z.1.2 (Int32.not_lt.mpr q2))
  rw [if_neg q2]
  by_cases q3 : b < 0
  · rw [if_pos q3]
    exact no (fun z => absurd q3 (Int32.not_lt.mpr z.2.1.1))
  rw [if_neg q3]
  by_cases q4 : nI (sMen (gS g)) ≤ b
  · rw [if_pos q4]
    exact no (fun z => absurd z.2.1.2 (Int32.not_lt.mpr q4))
  rw [if_neg q4]
  by_cases q5 : a = b
  · rw [if_pos q5]
    exact no (fun z => z.2.2 q5)
  rw [if_neg q5]
  have hall : (0 ≤ a ∧ a < nI (sMen (gS g))) ∧ (0 ≤ b ∧ b < nI (sMen (gS g))) ∧ a ≠ b := ⟨⟨Int32.not_lt.mp q1, Int32.not_le.mp q2⟩, ⟨Int32.not_lt.mp q3, Int32.not_le.mp q4⟩, q5⟩
  simp only [if_pos hall] at k
  obtain ⟨m, rfl, hm⟩ := nat_man h7 hall.1
  obtain ⟨o, rfl, ho⟩ := nat_man h7 hall.2.1
  rw [nI_clamp (by omega), nI_clamp (by omega)] at k
  by_cases q6 : c = 0
  · simp only [if_pos q6] at k ⊢
    refine c_X9_unlike (s := gS g) (by omega) (mk1 hG).1 hs hok hm ho ?_
    exact w_X10_two_24 (k I L hc (cKeep.rfl' I L))
  simp only [if_neg q6] at k ⊢
  by_cases q7 : c = 1
  · simp only [if_pos q7] at k ⊢
    refine c_X0_inForce (by omega) hG hF ?_
    refine w_X10_two_41 (d1 := 3) hG (by omega) ?_
    refine c_told (kd := 2) (other := some o) (by omega) hG (mk1 hG) hs hok hm (fun _ z => by cases z; exact ho) hF (by decide) ?_
    intro I1 hf1
    rw [sp_asked_n]
    exact w_X10_two_51 (k I1 L (CI_ft hw hf1 hc) (cKeep_ft hf1))
  · simp only [if_neg q7] at k ⊢
    exact k I L hc (cKeep.rfl' I L)
theorem M_two {ex : sm_O} {d : Nat} {g : GG} {a b c : Int32} (hd : 8 ≤ d) (hw : Wf g) : MM ex d 144 [some (.ref 123), some (.int a), some (.int b), some (.int c)] g (f_two g a b c) g := by
  intro n y I L R Q hG hm k
  have hs := hm.1
  have hok : sp_ok (gS g) := hw.1.1.1
  have h7 : sMen (gS g) ≤ 7 := hok.1
  have hF : mForce (sm_st I 123 0 0) (bF (gB g)) := (MI_thr hm).F hw
  have h20 : (sm_st I 123 0 0) 123 20 = 0 := hm.2.2.2.2.2.1.2.2.2.2.1
  have hs0 : mS (gS g) ((sm_st I 123 0 0) 125) := hs
  unfold f_two at k
  have no : ¬ ((0 ≤ a ∧ a < nI (sMen (gS g))) ∧ (0 ≤ b ∧ b < nI (sMen (gS g))) ∧ a ≠ b) → Q (some (.int (-1))) (n, y, sm_st I 123 0 0, L, R) := by
    intro q
    have k0 := k _ L (MI_thr hm) (mKeep_thr I)
    rw [if_neg q] at k0
    exact k0
  refine w_X11_two_0 (d1 := 7) hG (by omega) (by omega) ?_
  rw [hs.1]
  by_cases q1 : 0 ≤ a ∧ a < nI (sMen (gS g))
  · rw [if_pos q1]
    by_cases q2 : 0 ≤ b ∧ b < nI (sMen (gS g))
    · rw [if_pos q2]
      by_cases q5 : a = b
      · rw [if_pos q5]
        exact no (fun z => z.2.2 q5)
      rw [if_neg q5]
      have hall : (0 ≤ a ∧ a < nI (sMen (gS g))) ∧ (0 ≤ b ∧ b < nI (sMen (gS g))) ∧ a ≠ b := ⟨q1, q2, q5⟩
      simp only [if_pos hall] at k
      obtain ⟨m, rfl, hmm⟩ := nat_man h7 q1
      obtain ⟨o, rfl, ho⟩ := nat_man h7 q2
      rw [nI_clamp (by omega), nI_clamp (by omega)] at k
      by_cases q6 : c = 0
      · simp only [if_pos q6] at k ⊢
        refine c_X11_unlike (s := gS g) (by omega) hG hs0 hok hmm ho ?_
        exact w_X11_two_38 (k _ L (MI_thr hm) (mKeep_thr I))
      simp only [if_neg q6] at k ⊢
      by_cases q7 : c = 1
      · simp only [if_pos q7] at k ⊢
        refine c_X11_noticed (s := gS g) (F := bF (gB g)) (other := some o) (by omega) hG hs0 hok hmm (fun _ z => by cases z; exact ho) h20 hF ?_
        intro I1 L1 hf1
        exact w_X11_two_52 (k I1 L1 (MI_ft hw hf1 (MI_thr hm)) ((mKeep_thr I).trans (mKeep_ft hf1)))
      · simp only [if_neg q7] at k ⊢
        exact k _ L (MI_thr hm) (mKeep_thr I)
    · rw [if_neg q2]
      exact no (fun z => q2 z.2.1)
  · rw [if_neg q1]
    exact no (fun z => q1 z.1)
-- compare
def f_compare (g : GG) (l a b : Int32) : Int32 := if (l = -1 ∨ (0 ≤ l ∧ l < nI (gB g).1.length)) ∧ (0 ≤ a ∧ a < nI (sMen (gS g))) ∧ (0 ≤ b ∧ b < nI (sMen (gS g))) ∧ a ≠ b then nI (sp_notice (bF ((gB g).1, if l = -1 then none else some l.toNatClampNeg)) (gS g) a.toNatClampNeg (some b.toNatClampNeg)) else -1
theorem C_compare {ex : sm_O} {d : Nat} {g : GG} {l a b : Int32} (hd : 4 ≤ d) (hw : Wf g) : CM ex d 106 [some (.ref 0), some (.int l), some (.int a), some (.int b)] g (f_compare g l a b) g := by
  intro n y I L R Q hc k
  have hs := hc.2.2.1
  have hG := hc.2.1
  have hok : sp_ok (gS g) := hw.1.1.1
  have h7 : sMen (gS g) ≤ 7 := hok.1
  have hb := hc.2.2.2.2.1
  have h6 : (gB g).1.length ≤ 6 := hw.1.2.2.1
  unfold f_compare at k
  have no : ¬ ((l = -1 ∨ (0 ≤ l ∧ l < nI (gB g).1.length)) ∧ (0 ≤ a ∧ a < nI (sMen (gS g))) ∧ (0 ≤ b ∧ b < nI (sMen (gS g))) ∧ a ≠ b) → Q (some (.int (-1))) (n, y, I, L, R) := by
    intro q
    have k0 := k I L hc (cKeep.rfl' I L)
    rw [if_neg q] at k0
    exact k0
  refine w_X10_compare_0 hG (by omega) ?_
  rw [hs.1, hb.1]
  by_cases q1 : l < -1
  · rw [if_pos q1]
    refine no (fun z => ?_)
    rcases z.1 with z | z
    · rw [z] at q1; exact absurd q1 (by decide)
    · exact absurd (Int32.lt_of_le_of_lt z.1 q1) (by decide)
  rw [if_neg q1]
  by_cases q2 : nI (gB g).1.length ≤ l
  · rw [if_pos q2]
    refine no (fun z => ?_)
    rcases z.1 with z | z
    · rw [z] at q2; exact absurd (Int32.le_trans (nI_pos' (by omega)) q2) (by decide)
    · exact absurd z.2 (Int32.not_lt.mpr q2)
  rw [if_neg q2]
  by_cases q3 : a < 0
  · rw [if_pos q3]
    exact no (fun z => absurd q3 (Int32.not_lt.mpr z.2.1.1))
  rw [if_neg q3]
  by_cases q4 : nI (sMen (gS g)) ≤ a
  · rw [if_pos q4]
    exact no (fun z => absurd z.2.1.2 (Int32.not_lt.mpr q4))
  rw [if_neg q4]
  by_cases q5 : b < 0
  · rw [if_pos q5]
    exact no (fun z => absurd q5 (Int32.not_lt.mpr z.2.2.1.1))
  rw [if_neg q5]
  by_cases q6 : nI (sMen (gS g)) ≤ b
  · rw [if_pos q6]
    exact no (fun z => absurd z.2.2.1.2 (Int32.not_lt.mpr q6))
  rw [if_neg q6]
  by_cases q7 : a = b
  · rw [if_pos q7]
    exact no (fun z => z.2.2.2 q7)
  rw [if_neg q7]
  have ha : 0 ≤ a ∧ a < nI (sMen (gS g)) := ⟨Int32.not_lt.mp q3, Int32.not_le.mp q4⟩
  have hbb : 0 ≤ b ∧ b < nI (sMen (gS g)) := ⟨Int32.not_lt.mp q5, Int32.not_le.mp q6⟩
  obtain ⟨m, rfl, hm⟩ := nat_man h7 ha
  obtain ⟨o, rfl, ho⟩ := nat_man h7 hbb
  by_cases q8 : l < 0
  · rw [if_pos q8]
    have q9 : l = -1 := by
      have z1 := Int32.not_lt.mp q1
      rw [Int32.le_iff_toInt_le] at z1
      rw [Int32.lt_iff_toInt_lt] at q8
      have z2 : (-1 : Int32).toInt = -1 := rfl
      have z3 : (0 : Int32).toInt = 0 := rfl
      exact Int32.toInt_inj.mp (by omega)
    rw [if_pos ⟨Or.inl q9, ha, hbb, q7⟩, nI_clamp (by omega), nI_clamp (by omega), if_pos q9] at k
    refine w_X10_compare_34 (d1 := 3) hG (by omega) ?_
    refine c_X5_told (kd := 2) (other := some o) (l := []) (by omega) hG (mk1 hG) hs hok hm (fun _ z => by cases z; exact ho) (mk8 hG) (by decide) (fun q => absurd rfl q) hb.2.2.1 (by decide) ?_
    intro I1 hf1
    have e := sp_asked_n (bF ((gB g).1, none)) (gS g) m (some o)
    have e2 : lawOf (bF ((gB g).1, none)) = [] := rfl
    rw [e2] at e
    rw [e]
    exact w_X10_compare_44 (k I1 L (CI_ft hw hf1 hc) (cKeep_ft hf1))
  · rw [if_neg q8]
    obtain ⟨i, hi, rfl⟩ := nI_of q8
    have hil : i < (gB g).1.length := by
      have : ¬ (gB g).1.length ≤ i := fun z => q2 ((nI_leI (by omega) hi).mpr z)
      omega
    have q9 : ¬ nI i = -1 := by
      intro z
      have := congrArg Int32.toInt z
      rw [nI_toInt hi] at this
      have z2 : (-1 : Int32).toInt = -1 := rfl
      omega
    rw [if_pos ⟨Or.inr ⟨nI_pos' hi, (nI_ltI hi (by omega)).mpr hil⟩, ha, hbb, q7⟩, if_neg q9, nI_clamp hi, nI_clamp (by omega), nI_clamp (by omega)] at k
    rw [nI_clamp hi]
    refine ⟨vp_in_nI (by omega) (by decide), ?_⟩
    refine w_X10_compare_34 (d1 := 3) hG (by omega) ?_
    have el : (gB g).1[i]? = some (gB g).1[i] := List.getElem?_eq_getElem hil
    have hl := hb.2.2.2 i _ el
    rw [show 6 + (8 + 6 * i) = 14 + 6 * i by omega] at hl
    refine c_X5_told (kd := 2) (other := some o) (by omega) hG (mk1 hG) hs hok hm (fun _ z => by cases z; exact ho) (mk6 hG i (by omega)) (by omega) (fun _ => ⟨rfl, rfl⟩) hl (by decide) ?_
    intro I1 hf1
    have e := sp_asked_n (bF ((gB g).1, some i)) (gS g) m (some o)
    have e2 : lawOf (bF ((gB g).1, some i)) = (gB g).1[i] := by
      unfold bF
      simp only [el]
      rfl
    rw [e2] at e
    rw [e]
    exact w_X10_compare_44 (k I1 L (CI_ft hw hf1 hc) (cKeep_ft hf1))
theorem M_compare {ex : sm_O} {d : Nat} {w4 w5 : Option Value} {g : GG} {l a b : Int32} (hd : 8 ≤ d) (hw : Wf g) : MM ex d 220 [some (.ref 123), some (.int l), some (.int a), some (.int b), w4, w5] g (f_compare g l a b) g := by
  intro n y I L R Q hG hm k
  have hs := hm.1
  have hok : sp_ok (gS g) := hw.1.1.1
  have h7 : sMen (gS g) ≤ 7 := hok.1
  have h6 : (gB g).1.length ≤ 6 := hw.1.2.2.1
  unfold f_compare at k
  have no : ¬ ((l = -1 ∨ (0 ≤ l ∧ l < nI (gB g).1.length)) ∧ (0 ≤ a ∧ a < nI (sMen (gS g))) ∧ (0 ≤ b ∧ b < nI (sMen (gS g))) ∧ a ≠ b) → Q (some (.int (-1))) (n, y, sm_st I 123 0 0, L, R) := by
    intro q
    have k0 := k _ L (MI_thr hm) (mKeep_thr I)
    rw [if_neg q] at k0
    exact k0
  -- with a law that is one
  have rest : ∀ f : Option Nat, l = fI f → (∀ j, f = some j → j < (gB g).1.length) → (l = -1 ∨ (0 ≤ l ∧ l < nI (gB g).1.length)) → f = (if l = -1 then none else some l.toNatClampNeg) → (if 0 ≤ a ∧ a < nI (sMen (gS g)) then (if 0 ≤ b ∧ b < nI (sMen (gS g)) then (if a = b then (Q (some (.int (-1))) (n, y, sm_st I 123 0 0, L, R)) else (sm_W ex 7 0 0 188 0 [some (.ref 123), some (.int a), some (.int b)] [] (n, y, sm_st (sm_st I 123 0 0) 125 3 l, L, R) (fun r μ1 => sm_W ex d 0 0 220 57 [some (.ref 123), some (.int l), some (.int a), some (.int b), some (.int (I 125 3)), w5] (r.toList ++ []) μ1 Q))) else (Q (some (.int (-1))) (n, y, sm_st I 123 0 0, L, R))) else (Q (some (.int (-1))) (n, y, sm_st I 123 0 0, L, R))) := by
    intro f hf hfl hl hfe
    by_cases q1 : 0 ≤ a ∧ a < nI (sMen (gS g))
    · rw [if_pos q1]
      by_cases q2 : 0 ≤ b ∧ b < nI (sMen (gS g))
      · rw [if_pos q2]
        by_cases q5 : a = b
        · rw [if_pos q5]
          exact no (fun z => z.2.2.2 q5)
        rw [if_neg q5]
        rw [if_pos ⟨hl, q1, q2, q5⟩, ← hfe] at k
        obtain ⟨m, rfl, hmm⟩ := nat_man h7 q1
        obtain ⟨o, rfl, ho⟩ := nat_man h7 q2
        rw [nI_clamp (by omega), nI_clamp (by omega)] at k
        have hw2 : Wf (gKe g (gS g, gP g, (gB g).1, f)) := ⟨⟨hw.1.1, hw.1.2.1, h6, hfl⟩, hw.2⟩
        have hm2 := MI_force hw (MI_thr hm) hf
        have hF := MI.F hw2 hm2
        refine c_X11_noticed (s := gS g) (F := bF ((gB g).1, f)) (other := some o) (by omega) hG hm2.1 hok hmm (fun _ z => by cases z; exact ho) hm.2.2.2.2.2.1.2.2.2.2.1 hF ?_
        intro I1 L1 hf1
        refine w_X11_compare_57 hG ?_
        refine k _ L1 (MI_scr hw (fun x j q => ?_) (fun x j q => hf1.2 x j (by omega) (by omega) (by omega)) hm) (fun x j q => ?_)
        · unfold mscr at q
          by_cases h3 : x = 125 ∧ j = 3
          · rw [h3.1, h3.2, sm_st_s]
          · rw [sm_st_or _ _ (by omega), hf1.1 x j (by omega), sm_st_or _ _ (by omega), sm_st_or _ _ (by omega)]
        · rw [sm_st_o _ _ (by omega), hf1.1 x j (by omega), sm_st_o _ _ (by omega), sm_st_o _ _ (by omega)]
      · rw [if_neg q2]
        exact no (fun z => q2 z.2.2.1)
    · rw [if_neg q1]
      exact no (fun z => q1 z.2.1)
  refine w_X11_compare_0 (d1 := 7) hG (by omega) (by omega) ?_
  rw [hs.1, hm.2.2.1.1]
  simp only [sm_l64]
  by_cases q1 : l = -1
  · rw [if_pos q1]
    exact rest none (by rw [q1]; rfl) (fun _ z => by cases z) (Or.inl q1) (by rw [if_pos q1])
  · rw [if_neg q1]
    by_cases q2 : 0 ≤ l ∧ l < nI (gB g).1.length
    · rw [if_pos q2]
      obtain ⟨i, hi, e⟩ := nI_of (Int32.not_lt.mpr q2.1)
      refine rest (some i) e (fun j z => by cases z; rw [e] at q2; exact (nI_ltI hi (by omega)).mp q2.2) (Or.inr q2) (by rw [if_neg q1, e, nI_clamp hi])
    · rw [if_neg q2]
      exact no (fun z => z.1.elim q1 q2)

