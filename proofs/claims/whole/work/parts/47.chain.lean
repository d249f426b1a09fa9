set_option maxRecDepth 100000 in
theorem w_X3_measure_0 {ex : sm_O} {d n : Nat} {y : sm_Y} {I : Nat → Nat → Int32} {L : Nat → Nat → Int64} {R : Nat → Nat → Option Nat} {Q : sm_Q} {w2 : Option Value} {w3 : Option Value} {w4 : Option Value} {a1 : Nat} {d1 : Nat} (hG : sm_G y R) (h1 : d1 < d) (k : sm_W ex d1 0 0 14 0 [some (.ref 102), some (.ref a1), none, none] [] (n, y, I, L, R) (fun r μ1 => sm_W ex d 0 0 17 5 [some (.ref 102), some (.ref a1), w2, w3, w4] (r.toList ++ []) μ1 Q)) : sm_W ex d 0 0 17 0 [some (.ref 102), some (.ref a1), w2, w3, w4] [] (n, y, I, L, R) Q := sm_in (sm_in (sm_in (Exists.intro 3 (And.intro (hG.1 102 (Nat.le_of_ble_eq_true rfl)) (And.intro rfl (sm_calln h1 (Nat.le_of_ble_eq_true rfl) (Nat.le_of_ble_eq_true rfl) k))))))
set_option maxRecDepth 100000 in
theorem w_X3_measure_5 {ex : sm_O} {d n : Nat} {y : sm_Y} {I : Nat → Nat → Int32} {L : Nat → Nat → Int64} {R : Nat → Nat → Option Nat} {Q : sm_Q} {w0 : Option Value} {w1 : Option Value} {w3 : Option Value} {w4 : Option Value} {a2 : Int32} (k : sm_W ex d 0 0 17 7 [w0, w1, some (.int a2), some (.int 0), w4] [] (n, y, I, L, R) Q) : sm_W ex d 0 0 17 5 [w0, w1, some (.int a2), w3, w4] [] (n, y, I, L, R) Q := sm_in (sm_in (And.intro (Nat.le_of_ble_eq_true rfl) (k)))
set_option maxRecDepth 100000 in
theorem w_X3_measure_7 {ex : sm_O} {d n : Nat} {y : sm_Y} {I : Nat → Nat → Int32} {L : Nat → Nat → Int64} {R : Nat → Nat → Option Nat} {Q : sm_Q} {w1 : Option Value} {w4 : Option Value} {a2 : Int32} {a3 : Int32} (hG : sm_G y R) (k : if 7 ≤ a3 then (sm_W ex d 0 0 17 37 [some (.ref 102), w1, some (.int a2), some (.int 1), w4] [] (n, y, I, L, R) Q) else (if a3 = a2 then (vp_in a3 7 ∧ sm_W ex d 0 0 17 7 [some (.ref 102), w1, some (.int a2), some (.int (a3 + 1)), w4] [] (n, y, sm_st I 106 a3.toNatClampNeg 0, L, R) Q) else (vp_in a3 7 ∧ sm_W ex d 0 0 17 7 [some (.ref 102), w1, some (.int a2), some (.int (a3 + 1)), w4] [] (n, y, sm_st I 106 a3.toNatClampNeg (-1), L, R) Q))) : sm_W ex d 0 0 17 7 [some (.ref 102), w1, some (.int a2), some (.int a3), w4] [] (n, y, I, L, R) Q := sm_in (sm_in (sm_in (And.intro (fun c1 => have k1t := Eq.mp (if_pos c1) k; sm_in (sm_in (And.intro (Nat.le_of_ble_eq_true rfl) (k1t)))) (fun c1 => have k1f := Eq.mp (if_neg c1) k; sm_in (sm_in (And.intro (hG.1 102 (Nat.le_of_ble_eq_true rfl)) (sm_gfr rfl (hG.2 102 7 rfl) (sm_in (sm_in (sm_in (sm_in (And.intro (fun c2 => have k2f := Eq.mp (if_neg c2) k1f; sm_in ((have e4 := k2f.1; have k4 := k2f.2; sm_in (Exists.intro 7 (And.intro (hG.1 106 (Nat.le_of_ble_eq_true rfl)) (And.intro e4 (sm_in (And.intro (Nat.le_of_ble_eq_true rfl) (sm_in (k4)))))))))) (fun c2 => have k2t := Eq.mp (if_pos c2) k1f; sm_in (sm_in ((have e3 := k2t.1; have k3 := k2t.2; sm_in (Exists.intro 7 (And.intro (hG.1 106 (Nat.le_of_ble_eq_true rfl)) (And.intro e3 (sm_in (And.intro (Nat.le_of_ble_eq_true rfl) (sm_in (k3)))))))))))))))))))))))
set_option maxRecDepth 100000 in
theorem w_X3_measure_37 {ex : sm_O} {d n : Nat} {y : sm_Y} {I : Nat → Nat → Int32} {L : Nat → Nat → Int64} {R : Nat → Nat → Option Nat} {Q : sm_Q} {w0 : Option Value} {w2 : Option Value} {w4 : Option Value} {a1 : Nat} {a3 : Int32} (ho0 : ok9 y R a1) (k : if (I a1 4) ≤ a3 then (Q none (n, y, I, L, R)) else (sm_W ex d 0 0 17 48 [w0, some (.ref a1), w2, some (.int a3), some (.int 0)] [] (n, y, I, L, R) Q)) : sm_W ex d 0 0 17 37 [w0, some (.ref a1), w2, some (.int a3), w4] [] (n, y, I, L, R) Q := sm_in (sm_in (sm_in (And.intro (ok9_y0 ho0) (sm_in (And.intro (fun c1 => have k1t := Eq.mp (if_pos c1) k; sm_in (And.intro rfl (And.intro rfl k1t))) (fun c1 => have k1f := Eq.mp (if_neg c1) k; sm_in (sm_in (And.intro (Nat.le_of_ble_eq_true rfl) (k1f)))))))))
set_option maxRecDepth 100000 in
theorem w_X3_measure_48 {ex : sm_O} {d n : Nat} {y : sm_Y} {I : Nat → Nat → Int32} {L : Nat → Nat → Int64} {R : Nat → Nat → Option Nat} {Q : sm_Q} {a1 : Nat} {a2 : Int32} {a3 : Int32} {a4 : Int32} {d1 : Nat} (hG : sm_G y R) (ho0 : ok9 y R a1) (h1 : d1 < d) (k : if (I a1 4) ≤ a4 then (sm_W ex d 0 0 17 37 [some (.ref 102), some (.ref a1), some (.int a2), some (.int (a3 + 1)), some (.int a4)] [] (n, y, I, L, R) Q) else (vp_in a4 7 ∧ (if (I 106 a4.toNatClampNeg) = (-1) then (sm_W ex d1 0 0 18 0 [some (.ref 102), some (.ref a1), some (.int a4), some (.int (a3 - 1)), none] [] (n, y, I, L, R) (fun r μ1 => sm_W ex d 0 0 17 78 [some (.ref 102), some (.ref a1), some (.int a2), some (.int a3), some (.int a4)] (r.toList ++ []) μ1 Q)) else (sm_W ex d 0 0 17 48 [some (.ref 102), some (.ref a1), some (.int a2), some (.int a3), some (.int (a4 + 1))] [] (n, y, I, L, R) Q)))) : sm_W ex d 0 0 17 48 [some (.ref 102), some (.ref a1), some (.int a2), some (.int a3), some (.int a4)] [] (n, y, I, L, R) Q := sm_in (sm_in (sm_in (And.intro (ok9_y0 ho0) (sm_in (And.intro (fun c1 => have k1t := Eq.mp (if_pos c1) k; sm_in (And.intro (Nat.le_of_ble_eq_true rfl) (sm_in (k1t)))) (fun c1 => have k1f := Eq.mp (if_neg c1) k; sm_in (sm_in (And.intro (hG.1 102 (Nat.le_of_ble_eq_true rfl)) (sm_gfr rfl (hG.2 102 7 rfl) (sm_in ((have e2 := k1f.1; have k2 := k1f.2; sm_in (Exists.intro 7 (And.intro (hG.1 106 (Nat.le_of_ble_eq_true rfl)) (And.intro e2 (sm_in (sm_in (And.intro (fun c3 => have k3f := Eq.mp (if_neg c3) k2; sm_in (And.intro (Nat.le_of_ble_eq_true rfl) (sm_in (k3f)))) (fun c3 => have k3t := Eq.mp (if_pos c3) k2; sm_in (sm_in (sm_in (sm_in (sm_in (sm_in (sm_in (Exists.intro 3 (And.intro (hG.1 102 (Nat.le_of_ble_eq_true rfl)) (And.intro rfl (sm_calln h1 (Nat.le_of_ble_eq_true rfl) (Nat.le_of_ble_eq_true rfl) k3t)))))))))))))))))))))))))))))
set_option maxRecDepth 100000 in
theorem w_X3_measure_78 {ex : sm_O} {d n : Nat} {y : sm_Y} {I : Nat → Nat → Int32} {L : Nat → Nat → Int64} {R : Nat → Nat → Option Nat} {Q : sm_Q} {w1 : Option Value} {w2 : Option Value} {a3 : Int32} {a4 : Int32} {s0 : Int32} (hG : sm_G y R) (k : if s0 = (-1) then (sm_W ex d 0 0 17 48 [some (.ref 102), w1, w2, some (.int a3), some (.int (a4 + 1))] [] (n, y, I, L, R) Q) else (vp_in a4 7 ∧ sm_W ex d 0 0 17 48 [some (.ref 102), w1, w2, some (.int a3), some (.int (a4 + 1))] [] (n, y, sm_st I 106 a4.toNatClampNeg a3, L, R) Q)) : sm_W ex d 0 0 17 78 [some (.ref 102), w1, w2, some (.int a3), some (.int a4)] [.int s0] (n, y, I, L, R) Q := sm_in (sm_in (And.intro (fun c1 => have k1t := Eq.mp (if_pos c1) k; sm_in (And.intro (Nat.le_of_ble_eq_true rfl) (sm_in (k1t)))) (fun c1 => have k1f := Eq.mp (if_neg c1) k; sm_in (sm_in (And.intro (hG.1 102 (Nat.le_of_ble_eq_true rfl)) (sm_gfr rfl (hG.2 102 7 rfl) (sm_in (sm_in ((have e2 := k1f.1; have k2 := k1f.2; sm_in (Exists.intro 7 (And.intro (hG.1 106 (Nat.le_of_ble_eq_true rfl)) (And.intro e2 (sm_in (And.intro (Nat.le_of_ble_eq_true rfl) (sm_in (k2)))))))))))))))))
set_option maxRecDepth 100000 in
theorem w_X3_nextTo_0 {ex : sm_O} {d n : Nat} {y : sm_Y} {I : Nat → Nat → Int32} {L : Nat → Nat → Int64} {R : Nat → Nat → Option Nat} {Q : sm_Q} {w0 : Option Value} {w1 : Option Value} {w2 : Option Value} {w4 : Option Value} {a3 : Int32} (k : sm_W ex d 0 0 18 3 [w0, w1, w2, some (.int a3), some (.int 0)] [] (n, y, I, L, R) Q) : sm_W ex d 0 0 18 0 [w0, w1, w2, some (.int a3), w4] [] (n, y, I, L, R) Q := sm_in (sm_in (And.intro (Nat.le_of_ble_eq_true rfl) (k)))
set_option maxRecDepth 100000 in
theorem w_X3_nextTo_3 {ex : sm_O} {d n : Nat} {y : sm_Y} {I : Nat → Nat → Int32} {L : Nat → Nat → Int64} {R : Nat → Nat → Option Nat} {Q : sm_Q} {a1 : Nat} {a2 : Int32} {a3 : Int32} {a4 : Int32} (hG : sm_G y R) (ho0 : ok9 y R a1) (k : if (I a1 4) ≤ a4 then (Q (some (.int (-1))) (n, y, I, L, R)) else (vp_in a4 7 ∧ (if (I 106 a4.toNatClampNeg) = a3 then (vp_in ((a2 * 7) + a4) 49 ∧ (if (I (a1 + 4) 3) < (I 103 ((a2 * 7) + a4).toNatClampNeg) then (sm_W ex d 0 0 18 3 [some (.ref 102), some (.ref a1), some (.int a2), some (.int a3), some (.int (a4 + 1))] [] (n, y, I, L, R) Q) else (Q (some (.int a4)) (n, y, I, L, R)))) else (sm_W ex d 0 0 18 3 [some (.ref 102), some (.ref a1), some (.int a2), some (.int a3), some (.int (a4 + 1))] [] (n, y, I, L, R) Q)))) : sm_W ex d 0 0 18 3 [some (.ref 102), some (.ref a1), some (.int a2), some (.int a3), some (.int a4)] [] (n, y, I, L, R) Q := sm_in (sm_in (sm_in (And.intro (ok9_y0 ho0) (sm_in (And.intro (fun c1 => have k1t := Eq.mp (if_pos c1) k; sm_in (sm_in (And.intro rfl k1t))) (fun c1 => have k1f := Eq.mp (if_neg c1) k; sm_in (sm_in (And.intro (hG.1 102 (Nat.le_of_ble_eq_true rfl)) (sm_gfr rfl (hG.2 102 7 rfl) (sm_in ((have e2 := k1f.1; have k2 := k1f.2; sm_in (Exists.intro 7 (And.intro (hG.1 106 (Nat.le_of_ble_eq_true rfl)) (And.intro e2 (sm_in (sm_in (And.intro (fun c3 => have k3f := Eq.mp (if_neg c3) k2; sm_in (And.intro (Nat.le_of_ble_eq_true rfl) (sm_in (k3f)))) (fun c3 => have k3t := Eq.mp (if_pos c3) k2; sm_in (sm_in (And.intro (hG.1 102 (Nat.le_of_ble_eq_true rfl)) (sm_gfr rfl (hG.2 102 1 rfl) (sm_in (sm_in (sm_in (sm_in (sm_in ((have e4 := k3t.1; have k4 := k3t.2; sm_in (Exists.intro 49 (And.intro (hG.1 103 (Nat.le_of_ble_eq_true rfl)) (And.intro e4 (sm_in (sm_in (And.intro (ok9_y0 ho0) (sm_gfr rfl (ok9_r3 ho0) (sm_in (sm_in (Exists.intro 4 (And.intro (ok9_a4 ho0) (And.intro (sm_lin (by decide)) (sm_in (And.intro (fun c5 => have k5t := Eq.mp (if_pos c5) k4; sm_in (And.intro (Nat.le_of_ble_eq_true rfl) (sm_in (k5t)))) (fun c5 => have k5f := Eq.mp (if_neg c5) k4; sm_in (sm_in (And.intro rfl k5f))))))))))))))))))))))))))))))))))))))))))))))
set_option maxRecDepth 100000 in
theorem w_X3_along_0 {ex : sm_O} {d n : Nat} {y : sm_Y} {I : Nat → Nat → Int32} {L : Nat → Nat → Int64} {R : Nat → Nat → Option Nat} {Q : sm_Q} {w0 : Option Value} {w1 : Option Value} {w4 : Option Value} {w5 : Option Value} {a2 : Int32} {a3 : Int32} (k : sm_W ex d 0 0 19 6 [w0, w1, some (.int a2), some (.int a3), some (.int a2), some (.int 0)] [] (n, y, I, L, R) Q) : sm_W ex d 0 0 19 0 [w0, w1, some (.int a2), some (.int a3), w4, w5] [] (n, y, I, L, R) Q := sm_in (sm_in (And.intro (Nat.le_of_ble_eq_true rfl) (sm_in (sm_in (And.intro (Nat.le_of_ble_eq_true rfl) (k))))))
set_option maxRecDepth 100000 in
theorem w_X3_along_6 {ex : sm_O} {d n : Nat} {y : sm_Y} {I : Nat → Nat → Int32} {L : Nat → Nat → Int64} {R : Nat → Nat → Option Nat} {Q : sm_Q} {w2 : Option Value} {a1 : Nat} {a3 : Int32} {a4 : Int32} {a5 : Int32} {d1 : Nat} (hG : sm_G y R) (ho0 : ok9 y R a1) (hdep : 1 ≤ d) (h1 : d1 < d) (k : if a3 < a5 then (Q (some (.int a4)) (n, y, I, L, R)) else (if a4 < 0 then (Q (some (.int a4)) (n, y, I, L, R)) else (if (I a1 4) ≤ a4 then (Q (some (.int a4)) (n, y, I, L, R)) else (vp_in a4 7 ∧ sm_W ex d1 0 0 18 0 [some (.ref 102), some (.ref a1), some (.int a4), some (.int ((I 106 a4.toNatClampNeg) - 1)), none] [] (n, y, I, L, R) (fun r μ1 => sm_W ex d 0 0 19 37 [some (.ref 102), some (.ref a1), w2, some (.int a3), some (.int a4), some (.int a5)] (r.toList ++ []) μ1 Q))))) : sm_W ex d 0 0 19 6 [some (.ref 102), some (.ref a1), w2, some (.int a3), some (.int a4), some (.int a5)] [] (n, y, I, L, R) Q := sm_in (sm_in (sm_in (And.intro (fun c1 => have k1t := Eq.mp (if_pos c1) k; sm_in (sm_in (And.intro rfl k1t))) (fun c1 => have k1f := Eq.mp (if_neg c1) k; sm_in (sm_in (sm_in (Exists.intro 9 (And.intro (ok9_y0 ho0) (And.intro rfl (sm_calln (d1 := 0) (Nat.lt_of_lt_of_le (Nat.le_of_ble_eq_true rfl : 0 < 1) hdep) (Nat.le_of_ble_eq_true rfl) (Nat.le_of_ble_eq_true rfl) (sm_in (sm_in (And.intro (fun c2 => have k2t := Eq.mp (if_pos c2) k1f; sm_in (sm_in (And.intro rfl (And.intro (Or.inl rfl) (sm_in (And.intro (fun _ => sm_in (sm_in (And.intro rfl k2t))) (fun c => absurd (by decide : (0 : Int32) = 0) c))))))) (fun c2 => have k2f := Eq.mp (if_neg c2) k1f; sm_in (sm_in (sm_in (And.intro (ok9_y0 ho0) (sm_in (And.intro (fun c3 => have k3t := Eq.mp (if_pos c3) k2f; sm_in (sm_in (And.intro rfl (And.intro (Or.inl rfl) (sm_in (And.intro (fun _ => sm_in (sm_in (And.intro rfl k3t))) (fun c => absurd (by decide : (0 : Int32) = 0) c))))))) (fun c3 => have k3f := Eq.mp (if_neg c3) k2f; sm_in (sm_in (sm_in (And.intro rfl (And.intro (Or.inr rfl) (sm_in (And.intro (fun c => absurd c (by decide : ¬ (1 : Int32) = 0)) (fun _ => sm_in (sm_in (sm_in (sm_in (sm_in (And.intro (hG.1 102 (Nat.le_of_ble_eq_true rfl)) (sm_gfr rfl (hG.2 102 7 rfl) (sm_in ((have e4 := k3f.1; have k4 := k3f.2; sm_in (Exists.intro 7 (And.intro (hG.1 106 (Nat.le_of_ble_eq_true rfl)) (And.intro e4 (sm_in (sm_in (sm_in (Exists.intro 3 (And.intro (hG.1 102 (Nat.le_of_ble_eq_true rfl)) (And.intro rfl (sm_calln h1 (Nat.le_of_ble_eq_true rfl) (Nat.le_of_ble_eq_true rfl) k4))))))))))))))))))))))))))))))))))))))))))))))
set_option maxRecDepth 100000 in
theorem w_X3_along_37 {ex : sm_O} {d n : Nat} {y : sm_Y} {I : Nat → Nat → Int32} {L : Nat → Nat → Int64} {R : Nat → Nat → Option Nat} {Q : sm_Q} {w0 : Option Value} {w1 : Option Value} {w2 : Option Value} {w4 : Option Value} {a3 : Int32} {a5 : Int32} {s0 : Int32} (k : sm_W ex d 0 0 19 6 [w0, w1, w2, some (.int a3), some (.int s0), some (.int (a5 + 1))] [] (n, y, I, L, R) Q) : sm_W ex d 0 0 19 37 [w0, w1, w2, some (.int a3), w4, some (.int a5)] [.int s0] (n, y, I, L, R) Q := sm_in (And.intro (Nat.le_of_ble_eq_true rfl) (sm_in (And.intro (Nat.le_of_ble_eq_true rfl) (sm_in (k)))))
set_option maxRecDepth 100000 in
theorem w_X10_chain_0 {ex : sm_O} {d n : Nat} {y : sm_Y} {I : Nat → Nat → Int32} {L : Nat → Nat → Int64} {R : Nat → Nat → Option Nat} {Q : sm_Q} {w4 : Option Value} {a1 : Int32} {a2 : Int32} {a3 : Int32} {d1 : Nat} (hG : sm_G y R) (hdep : 1 ≤ d) (h1 : d1 < d) (k : if a1 < 0 then (Q (some (.int (-1))) (n, y, I, L, R)) else (if (I 1 4) ≤ a1 then (Q (some (.int (-1))) (n, y, I, L, R)) else (if a2 < 0 then (Q (some (.int (-1))) (n, y, I, L, R)) else (if (I 1 4) ≤ a2 then (Q (some (.int (-1))) (n, y, I, L, R)) else (if (-1) ≤ a3 then (sm_W ex d1 0 0 17 0 [some (.ref 102), some (.ref 1), some (.int a2), none, none] [] (n, y, I, L, R) (fun r μ1 => sm_W ex d 0 0 98 41 [some (.ref 0), some (.int a1), some (.int a2), some (.int a3), w4] (r.toList ++ []) μ1 Q)) else (Q (some (.int (-1))) (n, y, I, L, R))))))) : sm_W ex d 0 0 98 0 [some (.ref 0), some (.int a1), some (.int a2), some (.int a3), w4] [] (n, y, I, L, R) Q := sm_in (sm_in (And.intro (hG.1 0 (Nat.le_of_ble_eq_true rfl)) (sm_gfr rfl (hG.2 0 0 rfl) (sm_in (sm_in (Exists.intro 9 (And.intro (hG.1 1 (Nat.le_of_ble_eq_true rfl)) (And.intro rfl (sm_calln (d1 := 0) (Nat.lt_of_lt_of_le (Nat.le_of_ble_eq_true rfl : 0 < 1) hdep) (Nat.le_of_ble_eq_true rfl) (Nat.le_of_ble_eq_true rfl) (sm_in (sm_in (And.intro (fun c1 => have k1t := Eq.mp (if_pos c1) k; sm_in (sm_in (And.intro rfl (And.intro (Or.inl rfl) (sm_in (And.intro (fun _ => sm_in (sm_in (And.intro rfl k1t))) (fun c => absurd (by decide : (0 : Int32) = 0) c))))))) (fun c1 => have k1f := Eq.mp (if_neg c1) k; sm_in (sm_in (sm_in (And.intro (hG.1 1 (Nat.le_of_ble_eq_true rfl)) (sm_in (And.intro (fun c2 => have k2t := Eq.mp (if_pos c2) k1f; sm_in (sm_in (And.intro rfl (And.intro (Or.inl rfl) (sm_in (And.intro (fun _ => sm_in (sm_in (And.intro rfl k2t))) (fun c => absurd (by decide : (0 : Int32) = 0) c))))))) (fun c2 => have k2f := Eq.mp (if_neg c2) k1f; sm_in (sm_in (sm_in (And.intro rfl (And.intro (Or.inr rfl) (sm_in (And.intro (fun c => absurd c (by decide : ¬ (1 : Int32) = 0)) (fun _ => sm_in (sm_in (And.intro (hG.1 0 (Nat.le_of_ble_eq_true rfl)) (sm_gfr rfl (hG.2 0 0 rfl) (sm_in (sm_in (Exists.intro 9 (And.intro (hG.1 1 (Nat.le_of_ble_eq_true rfl)) (And.intro rfl (sm_calln (d1 := 0) (Nat.lt_of_lt_of_le (Nat.le_of_ble_eq_true rfl : 0 < 1) hdep) (Nat.le_of_ble_eq_true rfl) (Nat.le_of_ble_eq_true rfl) (sm_in (sm_in (And.intro (fun c3 => have k3t := Eq.mp (if_pos c3) k2f; sm_in (sm_in (And.intro rfl (And.intro (Or.inl rfl) (sm_in (And.intro (fun _ => sm_in (sm_in (And.intro rfl k3t))) (fun c => absurd (by decide : (0 : Int32) = 0) c))))))) (fun c3 => have k3f := Eq.mp (if_neg c3) k2f; sm_in (sm_in (sm_in (And.intro (hG.1 1 (Nat.le_of_ble_eq_true rfl)) (sm_in (And.intro (fun c4 => have k4t := Eq.mp (if_pos c4) k3f; sm_in (sm_in (And.intro rfl (And.intro (Or.inl rfl) (sm_in (And.intro (fun _ => sm_in (sm_in (And.intro rfl k4t))) (fun c => absurd (by decide : (0 : Int32) = 0) c))))))) (fun c4 => have k4f := Eq.mp (if_neg c4) k3f; sm_in (sm_in (sm_in (And.intro rfl (And.intro (Or.inr rfl) (sm_in (And.intro (fun c => absurd c (by decide : ¬ (1 : Int32) = 0)) (fun _ => sm_in (sm_in (sm_in (And.intro (fun c5 => have k5t := Eq.mp (if_pos c5) k4f; sm_in (sm_in (And.intro (hG.1 0 (Nat.le_of_ble_eq_true rfl)) (sm_gfr rfl (hG.2 0 5 rfl) (sm_in (sm_in (And.intro (hG.1 0 (Nat.le_of_ble_eq_true rfl)) (sm_gfr rfl (hG.2 0 0 rfl) (sm_in (sm_in (Exists.intro 3 (And.intro (hG.1 102 (Nat.le_of_ble_eq_true rfl)) (And.intro rfl (sm_calln h1 (Nat.le_of_ble_eq_true rfl) (Nat.le_of_ble_eq_true rfl) k5t)))))))))))))) (fun c5 => have k5f := Eq.mp (if_neg c5) k4f; sm_in (sm_in (And.intro rfl k5f))))))))))))))))))))))))))))))))))))))))))))))))))))))))))
set_option maxRecDepth 100000 in
theorem w_X10_chain_41 {ex : sm_O} {d n : Nat} {y : sm_Y} {I : Nat → Nat → Int32} {L : Nat → Nat → Int64} {R : Nat → Nat → Option Nat} {Q : sm_Q} {w2 : Option Value} {w4 : Option Value} {a1 : Int32} {a3 : Int32} {d1 : Nat} (hG : sm_G y R) (h1 : d1 < d) (k : vp_in a1 7 ∧ (if a3 = (-1) then (Q (some (.int (I 106 a1.toNatClampNeg))) (n, y, I, L, R)) else (if (I 106 a1.toNatClampNeg) ≤ a3 then (Q (some (.int (-1))) (n, y, I, L, R)) else (sm_W ex d1 0 0 19 0 [some (.ref 102), some (.ref 1), some (.int a1), some (.int a3), none, none] [] (n, y, I, L, R) (fun r μ1 => sm_W ex d 0 0 98 79 [some (.ref 0), some (.int a1), w2, some (.int a3), some (.int (I 106 a1.toNatClampNeg))] (r.toList ++ []) μ1 Q))))) : sm_W ex d 0 0 98 41 [some (.ref 0), some (.int a1), w2, some (.int a3), w4] [] (n, y, I, L, R) Q := sm_in (sm_in (And.intro (hG.1 0 (Nat.le_of_ble_eq_true rfl)) (sm_gfr rfl (hG.2 0 5 rfl) (sm_in (And.intro (hG.1 102 (Nat.le_of_ble_eq_true rfl)) (sm_gfr rfl (hG.2 102 7 rfl) (sm_in ((have e1 := k.1; have k1 := k.2; sm_in (Exists.intro 7 (And.intro (hG.1 106 (Nat.le_of_ble_eq_true rfl)) (And.intro e1 (sm_in (And.intro (Nat.le_of_ble_eq_true rfl) (sm_in (sm_in (sm_in (And.intro (fun c2 => have k2f := Eq.mp (if_neg c2) k1; sm_in (sm_in (sm_in (And.intro (fun c3 => have k3t := Eq.mp (if_pos c3) k2f; sm_in (sm_in (And.intro rfl k3t))) (fun c3 => have k3f := Eq.mp (if_neg c3) k2f; sm_in (sm_in (And.intro (hG.1 0 (Nat.le_of_ble_eq_true rfl)) (sm_gfr rfl (hG.2 0 5 rfl) (sm_in (sm_in (And.intro (hG.1 0 (Nat.le_of_ble_eq_true rfl)) (sm_gfr rfl (hG.2 0 0 rfl) (sm_in (sm_in (sm_in (Exists.intro 3 (And.intro (hG.1 102 (Nat.le_of_ble_eq_true rfl)) (And.intro rfl (sm_calln h1 (Nat.le_of_ble_eq_true rfl) (Nat.le_of_ble_eq_true rfl) k3f))))))))))))))))))) (fun c2 => have k2t := Eq.mp (if_pos c2) k1; sm_in (sm_in (And.intro rfl k2t)))))))))))))))))))))
set_option maxRecDepth 100000 in
theorem w_X10_chain_79 {ex : sm_O} {d n : Nat} {y : sm_Y} {I : Nat → Nat → Int32} {L : Nat → Nat → Int64} {R : Nat → Nat → Option Nat} {Q : sm_Q} {w0 : Option Value} {w1 : Option Value} {w2 : Option Value} {w3 : Option Value} {w4 : Option Value} {s0 : Int32} (k : Q (some (.int s0)) (n, y, I, L, R)) : sm_W ex d 0 0 98 79 [w0, w1, w2, w3, w4] [.int s0] (n, y, I, L, R) Q := sm_in (sm_in (And.intro rfl k))
set_option maxRecDepth 100000 in
theorem w_X11_links_0 {ex : sm_O} {d n : Nat} {y : sm_Y} {I : Nat → Nat → Int32} {L : Nat → Nat → Int64} {R : Nat → Nat → Option Nat} {Q : sm_Q} {a1 : Int32} {a2 : Int32} (hG : sm_G y R) (k : if a1 = a2 then (Q (some (.int 0)) (n, y, I, L, R)) else (vp_in ((7 * a1) + a2) 49 ∧ (if (I 125 7) < (I 149 ((7 * a1) + a2).toNatClampNeg) then (Q (some (.int 0)) (n, y, I, L, R)) else (Q (some (.int 1)) (n, y, I, L, R))))) : sm_W ex d 0 0 214 0 [some (.ref 123), some (.int a1), some (.int a2)] [] (n, y, I, L, R) Q := sm_in (sm_in (sm_in (And.intro (fun c1 => have k1t := Eq.mp (if_pos c1) k; sm_in (sm_in (And.intro rfl (And.intro (Or.inl rfl) k1t)))) (fun c1 => have k1f := Eq.mp (if_neg c1) k; sm_in (sm_in (And.intro (hG.1 123 (Nat.le_of_ble_eq_true rfl)) (sm_gfr rfl (hG.2 123 47 rfl) (sm_in (sm_in (sm_in (sm_in (sm_in ((have e2 := k1f.1; have k2 := k1f.2; sm_in (Exists.intro 49 (And.intro (hG.1 149 (Nat.le_of_ble_eq_true rfl)) (And.intro e2 (sm_in (sm_in (And.intro (hG.1 123 (Nat.le_of_ble_eq_true rfl)) (sm_gfr rfl (hG.2 123 3 rfl) (sm_in (sm_in (Exists.intro 5450 (And.intro (hG.1 125 (Nat.le_of_ble_eq_true rfl)) (And.intro (sm_lin (by decide)) (sm_in (And.intro (fun c3 => have k3t := Eq.mp (if_pos c3) k2; sm_in (sm_in (And.intro rfl (And.intro (Or.inl rfl) k3t)))) (fun c3 => have k3f := Eq.mp (if_neg c3) k2; sm_in (sm_in (sm_in (And.intro rfl (And.intro (Or.inr rfl) k3f)))))))))))))))))))))))))))))))))
set_option maxRecDepth 100000 in
theorem w_X11_layAway_0 {ex : sm_O} {d n : Nat} {y : sm_Y} {I : Nat → Nat → Int32} {L : Nat → Nat → Int64} {R : Nat → Nat → Option Nat} {Q : sm_Q} {w1 : Option Value} {w2 : Option Value} {w3 : Option Value} {w4 : Option Value} {d1 : Nat} (hG : sm_G y R) (h1 : d1 < d) (k : sm_W ex d1 0 0 210 0 [some (.ref 123), none, none] [] (n, y, I, L, R) (fun r μ1 => sm_W ex d 0 0 215 4 [some (.ref 123), w1, w2, w3, w4] (r.toList ++ []) μ1 Q)) : sm_W ex d 0 0 215 0 [some (.ref 123), w1, w2, w3, w4] [] (n, y, I, L, R) Q := sm_in (sm_in (Exists.intro 11 (And.intro (hG.1 123 (Nat.le_of_ble_eq_true rfl)) (And.intro rfl (sm_calln h1 (Nat.le_of_ble_eq_true rfl) (Nat.le_of_ble_eq_true rfl) k)))))
set_option maxRecDepth 100000 in
theorem w_X11_layAway_4 {ex : sm_O} {d n : Nat} {y : sm_Y} {I : Nat → Nat → Int32} {L : Nat → Nat → Int64} {R : Nat → Nat → Option Nat} {Q : sm_Q} {w0 : Option Value} {w2 : Option Value} {w3 : Option Value} {w4 : Option Value} {a1 : Int32} (k : sm_W ex d 0 0 215 6 [w0, some (.int a1), some (.int 0), w3, w4] [] (n, y, I, L, R) Q) : sm_W ex d 0 0 215 4 [w0, some (.int a1), w2, w3, w4] [] (n, y, I, L, R) Q := sm_in (sm_in (And.intro (Nat.le_of_ble_eq_true rfl) (k)))
set_option maxRecDepth 100000 in
theorem w_X11_layAway_6 {ex : sm_O} {d n : Nat} {y : sm_Y} {I : Nat → Nat → Int32} {L : Nat → Nat → Int64} {R : Nat → Nat → Option Nat} {Q : sm_Q} {w3 : Option Value} {w4 : Option Value} {a1 : Int32} {a2 : Int32} (hG : sm_G y R) (k : if (I 125 0) ≤ a2 then (sm_W ex d 0 0 215 42 [some (.ref 123), some (.int a1), some (.int 0), w3, w4] [] (n, y, I, L, R) Q) else (if a2 = a1 then (vp_in a2 7 ∧ sm_W ex d 0 0 215 6 [some (.ref 123), some (.int a1), some (.int (a2 + 1)), w3, w4] [] (n, y, sm_st I 151 a2.toNatClampNeg 0, L, R) Q) else (vp_in a2 7 ∧ sm_W ex d 0 0 215 6 [some (.ref 123), some (.int a1), some (.int (a2 + 1)), w3, w4] [] (n, y, sm_st I 151 a2.toNatClampNeg 100000000, L, R) Q))) : sm_W ex d 0 0 215 6 [some (.ref 123), some (.int a1), some (.int a2), w3, w4] [] (n, y, I, L, R) Q := sm_in (sm_in (sm_in (And.intro (hG.1 123 (Nat.le_of_ble_eq_true rfl)) (sm_gfr rfl (hG.2 123 3 rfl) (sm_in (sm_in (Exists.intro 5450 (And.intro (hG.1 125 (Nat.le_of_ble_eq_true rfl)) (And.intro (sm_lin (by decide)) (sm_in (And.intro (fun c1 => have k1t := Eq.mp (if_pos c1) k; sm_in (sm_in (And.intro (Nat.le_of_ble_eq_true rfl) (k1t)))) (fun c1 => have k1f := Eq.mp (if_neg c1) k; sm_in (sm_in (And.intro (hG.1 123 (Nat.le_of_ble_eq_true rfl)) (sm_gfr rfl (hG.2 123 49 rfl) (sm_in (sm_in (sm_in (sm_in (And.intro (fun c2 => have k2f := Eq.mp (if_neg c2) k1f; sm_in ((have e4 := k2f.1; have k4 := k2f.2; sm_in (Exists.intro 7 (And.intro (hG.1 151 (Nat.le_of_ble_eq_true rfl)) (And.intro e4 (sm_in (And.intro (Nat.le_of_ble_eq_true rfl) (sm_in (k4)))))))))) (fun c2 => have k2t := Eq.mp (if_pos c2) k1f; sm_in (sm_in ((have e3 := k2t.1; have k3 := k2t.2; sm_in (Exists.intro 7 (And.intro (hG.1 151 (Nat.le_of_ble_eq_true rfl)) (And.intro e3 (sm_in (And.intro (Nat.le_of_ble_eq_true rfl) (sm_in (k3)))))))))))))))))))))))))))))))
set_option maxRecDepth 100000 in
theorem w_X11_layAway_42 {ex : sm_O} {d n : Nat} {y : sm_Y} {I : Nat → Nat → Int32} {L : Nat → Nat → Int64} {R : Nat → Nat → Option Nat} {Q : sm_Q} {w1 : Option Value} {w3 : Option Value} {w4 : Option Value} {a2 : Int32} (hG : sm_G y R) (k : if (I 125 0) ≤ a2 then (Q none (n, y, I, L, R)) else (sm_W ex d 0 0 215 54 [some (.ref 123), w1, some (.int a2), some (.int 0), w4] [] (n, y, I, L, R) Q)) : sm_W ex d 0 0 215 42 [some (.ref 123), w1, some (.int a2), w3, w4] [] (n, y, I, L, R) Q := sm_in (sm_in (sm_in (And.intro (hG.1 123 (Nat.le_of_ble_eq_true rfl)) (sm_gfr rfl (hG.2 123 3 rfl) (sm_in (sm_in (Exists.intro 5450 (And.intro (hG.1 125 (Nat.le_of_ble_eq_true rfl)) (And.intro (sm_lin (by decide)) (sm_in (And.intro (fun c1 => have k1t := Eq.mp (if_pos c1) k; sm_in (And.intro rfl (And.intro rfl k1t))) (fun c1 => have k1f := Eq.mp (if_neg c1) k; sm_in (sm_in (And.intro (Nat.le_of_ble_eq_true rfl) (k1f)))))))))))))))
set_option maxRecDepth 100000 in
theorem w_X11_layAway_54 {ex : sm_O} {d n : Nat} {y : sm_Y} {I : Nat → Nat → Int32} {L : Nat → Nat → Int64} {R : Nat → Nat → Option Nat} {Q : sm_Q} {w4 : Option Value} {a1 : Int32} {a2 : Int32} {a3 : Int32} (hG : sm_G y R) (k : if (I 125 0) ≤ a3 then (sm_W ex d 0 0 215 42 [some (.ref 123), some (.int a1), some (.int (a2 + 1)), some (.int a3), w4] [] (n, y, I, L, R) Q) else (sm_W ex d 0 0 215 67 [some (.ref 123), some (.int a1), some (.int a2), some (.int a3), some (.int 0)] [] (n, y, I, L, R) Q)) : sm_W ex d 0 0 215 54 [some (.ref 123), some (.int a1), some (.int a2), some (.int a3), w4] [] (n, y, I, L, R) Q := sm_in (sm_in (sm_in (And.intro (hG.1 123 (Nat.le_of_ble_eq_true rfl)) (sm_gfr rfl (hG.2 123 3 rfl) (sm_in (sm_in (Exists.intro 5450 (And.intro (hG.1 125 (Nat.le_of_ble_eq_true rfl)) (And.intro (sm_lin (by decide)) (sm_in (And.intro (fun c1 => have k1t := Eq.mp (if_pos c1) k; sm_in (And.intro (Nat.le_of_ble_eq_true rfl) (sm_in (k1t)))) (fun c1 => have k1f := Eq.mp (if_neg c1) k; sm_in (sm_in (And.intro (Nat.le_of_ble_eq_true rfl) (k1f)))))))))))))))
set_option maxRecDepth 100000 in
theorem w_X11_layAway_67 {ex : sm_O} {d n : Nat} {y : sm_Y} {I : Nat → Nat → Int32} {L : Nat → Nat → Int64} {R : Nat → Nat → Option Nat} {Q : sm_Q} {w1 : Option Value} {a2 : Int32} {a3 : Int32} {a4 : Int32} {d1 : Nat} (hG : sm_G y R) (h1 : d1 < d) (k : if (I 125 0) ≤ a4 then (sm_W ex d 0 0 215 54 [some (.ref 123), w1, some (.int a2), some (.int (a3 + 1)), some (.int a4)] [] (n, y, I, L, R) Q) else (sm_W ex d1 0 0 214 0 [some (.ref 123), some (.int a4), some (.int a3)] [] (n, y, I, L, R) (fun r μ1 => sm_W ex d 0 0 215 85 [some (.ref 123), w1, some (.int a2), some (.int a3), some (.int a4)] (r.toList ++ []) μ1 Q))) : sm_W ex d 0 0 215 67 [some (.ref 123), w1, some (.int a2), some (.int a3), some (.int a4)] [] (n, y, I, L, R) Q := sm_in (sm_in (sm_in (And.intro (hG.1 123 (Nat.le_of_ble_eq_true rfl)) (sm_gfr rfl (hG.2 123 3 rfl) (sm_in (sm_in (Exists.intro 5450 (And.intro (hG.1 125 (Nat.le_of_ble_eq_true rfl)) (And.intro (sm_lin (by decide)) (sm_in (And.intro (fun c1 => have k1t := Eq.mp (if_pos c1) k; sm_in (And.intro (Nat.le_of_ble_eq_true rfl) (sm_in (k1t)))) (fun c1 => have k1f := Eq.mp (if_neg c1) k; sm_in (sm_in (sm_in (sm_in (Exists.intro 11 (And.intro (hG.1 123 (Nat.le_of_ble_eq_true rfl)) (And.intro rfl (sm_calln h1 (Nat.le_of_ble_eq_true rfl) (Nat.le_of_ble_eq_true rfl) k1f)))))))))))))))))))
set_option maxRecDepth 100000 in
theorem w_X11_layAway_85 {ex : sm_O} {d n : Nat} {y : sm_Y} {I : Nat → Nat → Int32} {L : Nat → Nat → Int64} {R : Nat → Nat → Option Nat} {Q : sm_Q} {w1 : Option Value} {w2 : Option Value} {a3 : Int32} {a4 : Int32} {s0 : Int32} (hG : sm_G y R) (k : if s0 = 0 then (sm_W ex d 0 0 215 67 [some (.ref 123), w1, w2, some (.int a3), some (.int (a4 + 1))] [] (n, y, I, L, R) Q) else (vp_in a4 7 ∧ vp_in a3 7 ∧ (if (I 151 a3.toNatClampNeg) ≤ ((I 151 a4.toNatClampNeg) + 1) then (sm_W ex d 0 0 215 67 [some (.ref 123), w1, w2, some (.int a3), some (.int (a4 + 1))] [] (n, y, I, L, R) Q) else (sm_W ex d 0 0 215 67 [some (.ref 123), w1, w2, some (.int a3), some (.int (a4 + 1))] [] (n, y, sm_st I 151 a3.toNatClampNeg ((I 151 a4.toNatClampNeg) + 1), L, R) Q)))) : sm_W ex d 0 0 215 85 [some (.ref 123), w1, w2, some (.int a3), some (.int a4)] [.int s0] (n, y, I, L, R) Q := sm_in (And.intro (fun c1 => have k1t := Eq.mp (if_pos c1) k; sm_in (And.intro (Nat.le_of_ble_eq_true rfl) (sm_in (k1t)))) (fun c1 => have k1f := Eq.mp (if_neg c1) k; sm_in (sm_in (And.intro (hG.1 123 (Nat.le_of_ble_eq_true rfl)) (sm_gfr rfl (hG.2 123 49 rfl) (sm_in ((have e2 := k1f.1; have k2 := k1f.2; sm_in (Exists.intro 7 (And.intro (hG.1 151 (Nat.le_of_ble_eq_true rfl)) (And.intro e2 (sm_in (sm_in (sm_in (sm_in (And.intro (hG.1 123 (Nat.le_of_ble_eq_true rfl)) (sm_gfr rfl (hG.2 123 49 rfl) (sm_in ((have e3 := k2.1; have k3 := k2.2; sm_in (Exists.intro 7 (And.intro (hG.1 151 (Nat.le_of_ble_eq_true rfl)) (And.intro e3 (sm_in (And.intro (fun c4 => have k4t := Eq.mp (if_pos c4) k3; sm_in (And.intro (Nat.le_of_ble_eq_true rfl) (sm_in (k4t)))) (fun c4 => have k4f := Eq.mp (if_neg c4) k3; sm_in (sm_in (And.intro (hG.1 123 (Nat.le_of_ble_eq_true rfl)) (sm_gfr rfl (hG.2 123 49 rfl) (sm_in (sm_in (sm_in (And.intro (hG.1 123 (Nat.le_of_ble_eq_true rfl)) (sm_gfr rfl (hG.2 123 49 rfl) (sm_in (sm_in (Exists.intro 7 (And.intro (hG.1 151 (Nat.le_of_ble_eq_true rfl)) (And.intro e2 (sm_in (sm_in (sm_in (Exists.intro 7 (And.intro (hG.1 151 (Nat.le_of_ble_eq_true rfl)) (And.intro e3 (sm_in (And.intro (Nat.le_of_ble_eq_true rfl) (sm_in (k4f)))))))))))))))))))))))))))))))))))))))))))))))))
set_option maxRecDepth 100000 in
theorem w_X11_chain_0 {ex : sm_O} {d n : Nat} {y : sm_Y} {I : Nat → Nat → Int32} {L : Nat → Nat → Int64} {R : Nat → Nat → Option Nat} {Q : sm_Q} {w4 : Option Value} {w5 : Option Value} {w6 : Option Value} {a1 : Int32} {a2 : Int32} {a3 : Int32} {d1 : Nat} (hG : sm_G y R) (hdep : 2 ≤ d) (h1 : d1 < d) (k : if 0 ≤ a1 ∧ a1 < I 125 0 then (if 0 ≤ a2 ∧ a2 < I 125 0 then (if (-1) ≤ a3 then (sm_W ex d1 0 0 215 0 [some (.ref 123), some (.int a2), none, none, none] [] (n, y, sm_st I 123 0 0, L, R) (fun r μ1 => sm_W ex d 0 0 216 33 [some (.ref 123), some (.int a1), some (.int a2), some (.int a3), w4, w5, w6] (r.toList ++ []) μ1 Q)) else (Q (some (.int (-1))) (n, y, sm_st I 123 0 0, L, R))) else (Q (some (.int (-1))) (n, y, sm_st I 123 0 0, L, R))) else (Q (some (.int (-1))) (n, y, sm_st I 123 0 0, L, R))) : sm_W ex d 0 0 216 0 [some (.ref 123), some (.int a1), some (.int a2), some (.int a3), w4, w5, w6] [] (n, y, I, L, R) Q := sm_in (sm_in (sm_in (And.intro (hG.1 123 (Nat.le_of_ble_eq_true rfl)) (sm_in (sm_in (sm_in (Exists.intro 11 (And.intro (hG.1 123 (Nat.le_of_ble_eq_true rfl)) (And.intro rfl (sm_calln (d1 := 1) (Nat.lt_of_lt_of_le (Nat.lt_succ_self 1) (Nat.le_trans (Nat.le_of_ble_eq_true rfl) hdep)) (Nat.le_of_ble_eq_true rfl) (Nat.le_of_ble_eq_true rfl) (c_X11_isMan hG (sm_in (And.intro (fun c1 => have k1f := Eq.mp (if_neg (sm_b_0.mp c1)) k; sm_in (sm_in (And.intro rfl k1f))) (fun c1 => have k1t := Eq.mp (if_pos (sm_b_n.mp c1)) k; sm_in (sm_in (sm_in (Exists.intro 11 (And.intro (hG.1 123 (Nat.le_of_ble_eq_true rfl)) (And.intro rfl (sm_calln (d1 := 1) (Nat.lt_of_lt_of_le (Nat.lt_succ_self 1) (Nat.le_trans (Nat.le_of_ble_eq_true rfl) hdep)) (Nat.le_of_ble_eq_true rfl) (Nat.le_of_ble_eq_true rfl) (c_X11_isMan hG (sm_in (And.intro (fun c2 => have k2f := Eq.mp (if_neg (sm_b_0.mp c2)) k1t; sm_in (sm_in (And.intro rfl k2f))) (fun c2 => have k2t := Eq.mp (if_pos (sm_b_n.mp c2)) k1t; sm_in (sm_in (sm_in (And.intro (fun c3 => have k3t := Eq.mp (if_pos c3) k2t; sm_in (sm_in (sm_in (Exists.intro 11 (And.intro (hG.1 123 (Nat.le_of_ble_eq_true rfl)) (And.intro rfl (sm_calln h1 (Nat.le_of_ble_eq_true rfl) (Nat.le_of_ble_eq_true rfl) k3t))))))) (fun c3 => have k3f := Eq.mp (if_neg c3) k2t; sm_in (sm_in (And.intro rfl k3f))))))))))))))))))))))))))))))
set_option maxRecDepth 100000 in
theorem w_X11_chain_33 {ex : sm_O} {d n : Nat} {y : sm_Y} {I : Nat → Nat → Int32} {L : Nat → Nat → Int64} {R : Nat → Nat → Option Nat} {Q : sm_Q} {w2 : Option Value} {w4 : Option Value} {w5 : Option Value} {w6 : Option Value} {a1 : Int32} {a3 : Int32} (hG : sm_G y R) (k : vp_in a1 7 ∧ (if 100000000 ≤ (I 151 a1.toNatClampNeg) then (Q (some (.int (-1))) (n, y, I, L, R)) else (if a3 < (I 151 a1.toNatClampNeg) then (if a3 = (-1) then (Q (some (.int (I 151 a1.toNatClampNeg))) (n, y, I, L, R)) else (sm_W ex d 0 0 216 75 [some (.ref 123), some (.int a1), w2, some (.int a3), some (.int a1), some (.int 0), w6] [] (n, y, I, L, R) Q)) else (Q (some (.int (-1))) (n, y, I, L, R))))) : sm_W ex d 0 0 216 33 [some (.ref 123), some (.int a1), w2, some (.int a3), w4, w5, w6] [] (n, y, I, L, R) Q := sm_in (sm_in (And.intro (hG.1 123 (Nat.le_of_ble_eq_true rfl)) (sm_gfr rfl (hG.2 123 49 rfl) (sm_in ((have e1 := k.1; have k1 := k.2; sm_in (Exists.intro 7 (And.intro (hG.1 151 (Nat.le_of_ble_eq_true rfl)) (And.intro e1 (sm_in (sm_in (And.intro (fun c2 => have k2t := Eq.mp (if_pos c2) k1; sm_in (sm_in (And.intro rfl k2t))) (fun c2 => have k2f := Eq.mp (if_neg c2) k1; sm_in (sm_in (sm_in (And.intro (hG.1 123 (Nat.le_of_ble_eq_true rfl)) (sm_gfr rfl (hG.2 123 49 rfl) (sm_in (sm_in (Exists.intro 7 (And.intro (hG.1 151 (Nat.le_of_ble_eq_true rfl)) (And.intro e1 (sm_in (And.intro (fun c3 => have k3t := Eq.mp (if_pos c3) k2f; sm_in (sm_in (sm_in (And.intro (fun c4 => have k4f := Eq.mp (if_neg c4) k3t; sm_in (sm_in (And.intro (Nat.le_of_ble_eq_true rfl) (sm_in (sm_in (And.intro (Nat.le_of_ble_eq_true rfl) (k4f))))))) (fun c4 => have k4t := Eq.mp (if_pos c4) k3t; sm_in (sm_in (And.intro (hG.1 123 (Nat.le_of_ble_eq_true rfl)) (sm_gfr rfl (hG.2 123 49 rfl) (sm_in (sm_in (Exists.intro 7 (And.intro (hG.1 151 (Nat.le_of_ble_eq_true rfl)) (And.intro e1 (sm_in (And.intro rfl k4t))))))))))))))) (fun c3 => have k3f := Eq.mp (if_neg c3) k2f; sm_in (sm_in (And.intro rfl k3f)))))))))))))))))))))))))))
set_option maxRecDepth 100000 in
theorem w_X11_chain_75 {ex : sm_O} {d n : Nat} {y : sm_Y} {I : Nat → Nat → Int32} {L : Nat → Nat → Int64} {R : Nat → Nat → Option Nat} {Q : sm_Q} {w0 : Option Value} {w1 : Option Value} {w2 : Option Value} {w6 : Option Value} {a3 : Int32} {a4 : Int32} {a5 : Int32} (k : if a3 < a5 then (Q (some (.int a4)) (n, y, I, L, R)) else (sm_W ex d 0 0 216 84 [w0, w1, w2, some (.int a3), some (.int a4), some (.int a5), some (.int 0)] [] (n, y, I, L, R) Q)) : sm_W ex d 0 0 216 75 [w0, w1, w2, some (.int a3), some (.int a4), some (.int a5), w6] [] (n, y, I, L, R) Q := sm_in (sm_in (sm_in (And.intro (fun c1 => have k1t := Eq.mp (if_pos c1) k; sm_in (sm_in (And.intro rfl k1t))) (fun c1 => have k1f := Eq.mp (if_neg c1) k; sm_in (sm_in (And.intro (Nat.le_of_ble_eq_true rfl) (k1f)))))))
set_option maxRecDepth 100000 in
theorem w_X11_chain_84 {ex : sm_O} {d n : Nat} {y : sm_Y} {I : Nat → Nat → Int32} {L : Nat → Nat → Int64} {R : Nat → Nat → Option Nat} {Q : sm_Q} {w1 : Option Value} {w2 : Option Value} {w3 : Option Value} {w5 : Option Value} {a4 : Int32} {a6 : Int32} {d1 : Nat} (hG : sm_G y R) (h1 : d1 < d) (k : sm_W ex d1 0 0 214 0 [some (.ref 123), some (.int a6), some (.int a4)] [] (n, y, I, L, R) (fun r μ1 => sm_W ex d 0 0 216 92 [some (.ref 123), w1, w2, w3, some (.int a4), w5, some (.int a6)] (r.toList ++ []) μ1 Q)) : sm_W ex d 0 0 216 84 [some (.ref 123), w1, w2, w3, some (.int a4), w5, some (.int a6)] [] (n, y, I, L, R) Q := sm_in (sm_in (sm_in (sm_in (Exists.intro 11 (And.intro (hG.1 123 (Nat.le_of_ble_eq_true rfl)) (And.intro rfl (sm_calln h1 (Nat.le_of_ble_eq_true rfl) (Nat.le_of_ble_eq_true rfl) k)))))))
set_option maxRecDepth 100000 in
theorem w_X11_chain_92 {ex : sm_O} {d n : Nat} {y : sm_Y} {I : Nat → Nat → Int32} {L : Nat → Nat → Int64} {R : Nat → Nat → Option Nat} {Q : sm_Q} {w1 : Option Value} {w2 : Option Value} {a3 : Int32} {a4 : Int32} {a5 : Int32} {a6 : Int32} {s0 : Int32} (hG : sm_G y R) (k : if s0 = 0 then (sm_W ex d 0 0 216 84 [some (.ref 123), w1, w2, some (.int a3), some (.int a4), some (.int a5), some (.int (a6 + 1))] [] (n, y, I, L, R) Q) else (vp_in a6 7 ∧ vp_in a4 7 ∧ (if (I 151 a6.toNatClampNeg) = ((I 151 a4.toNatClampNeg) - 1) then (sm_W ex d 0 0 216 75 [some (.ref 123), w1, w2, some (.int a3), some (.int a6), some (.int (a5 + 1)), some (.int a6)] [] (n, y, I, L, R) Q) else (sm_W ex d 0 0 216 84 [some (.ref 123), w1, w2, some (.int a3), some (.int a4), some (.int a5), some (.int (a6 + 1))] [] (n, y, I, L, R) Q)))) : sm_W ex d 0 0 216 92 [some (.ref 123), w1, w2, some (.int a3), some (.int a4), some (.int a5), some (.int a6)] [.int s0] (n, y, I, L, R) Q := sm_in (And.intro (fun c1 => have k1t := Eq.mp (if_pos c1) k; sm_in (And.intro (Nat.le_of_ble_eq_true rfl) (sm_in (k1t)))) (fun c1 => have k1f := Eq.mp (if_neg c1) k; sm_in (sm_in (And.intro (hG.1 123 (Nat.le_of_ble_eq_true rfl)) (sm_gfr rfl (hG.2 123 49 rfl) (sm_in ((have e2 := k1f.1; have k2 := k1f.2; sm_in (Exists.intro 7 (And.intro (hG.1 151 (Nat.le_of_ble_eq_true rfl)) (And.intro e2 (sm_in (sm_in (And.intro (hG.1 123 (Nat.le_of_ble_eq_true rfl)) (sm_gfr rfl (hG.2 123 49 rfl) (sm_in ((have e3 := k2.1; have k3 := k2.2; sm_in (Exists.intro 7 (And.intro (hG.1 151 (Nat.le_of_ble_eq_true rfl)) (And.intro e3 (sm_in (sm_in (sm_in (And.intro (fun c4 => have k4t := Eq.mp (if_pos c4) k3; sm_in (sm_in (And.intro (Nat.le_of_ble_eq_true rfl) (sm_in (And.intro (Nat.le_of_ble_eq_true rfl) (sm_in (k4t))))))) (fun c4 => have k4f := Eq.mp (if_neg c4) k3; sm_in (And.intro (Nat.le_of_ble_eq_true rfl) (sm_in (k4f)))))))))))))))))))))))))))))
-- CHAINS: how far
/-- who comes there in k steps at most -/
def chS (lk : Nat → Nat → Bool) (men to : Nat) : Nat → Nat → Bool
  | 0, m => decide (m = to)
  | k + 1, m => chS lk men to k m || (List.range men).any (fun o => chS lk men to k o && lk m o)
theorem chS_s {lk : Nat → Nat → Bool} {men to k m : Nat} : chS lk men to (k + 1) m = true ↔ chS lk men to k m = true ∨ ∃ o, o < men ∧ chS lk men to k o = true ∧ lk m o = true := by
  show (chS lk men to k m || (List.range men).any (fun o => chS lk men to k o && lk m o)) = true ↔ _
  rw [Bool.or_eq_true, List.any_eq_true]
  constructor
  · rintro (h | ⟨o, h1, h2⟩)
    · exact Or.inl h
    · rw [Bool.and_eq_true] at h2
      exact Or.inr ⟨o, List.mem_range.mp h1, h2.1, h2.2⟩
  · rintro (h | ⟨o, h1, h2, h3⟩)
    · exact Or.inl h
    · exact Or.inr ⟨o, List.mem_range.mpr h1, by rw [h2, h3]; rfl⟩
theorem chS_mono {lk : Nat → Nat → Bool} {men to m : Nat} : ∀ k k', k ≤ k' → chS lk men to k m = true → chS lk men to k' m = true := by
  intro k k' h hk
  induction k' with
  | zero =>
    obtain rfl : k = 0 := by omega
    exact hk
  | succ k' ih =>
    by_cases e : k = k' + 1
    · rw [← e]; exact hk
    · exact chS_s.mpr (Or.inl (ih (by omega)))
/-- the steps come to rest -/
theorem chS_rest {lk : Nat → Nat → Bool} {men to : Nat} (hto : to < men) : ∀ k m, m < men → chS lk men to k m = true → chS lk men to (men - 1) m = true := by
  have hstay : ∀ r, (∀ m, m < men → chS lk men to (r + 1) m = true → chS lk men to r m = true) → ∀ k m, m < men → chS lk men to (r + k) m = true → chS lk men to r m = true := by
    intro r hr k
    induction k with
    | zero => intro m _ h; exact h
    | succ k ih =>
      intro m hm h
      rcases chS_s.mp (show chS lk men to (r + k + 1) m = true from h) with q | ⟨o, h1, h2, h3⟩
      · exact ih m hm q
      · exact hr m hm (chS_s.mpr (Or.inr ⟨o, h1, ih o h1 h2, h3⟩))
  have hcnt : ∀ r, (∃ r', r' < r ∧ ∀ m, m < men → chS lk men to (r' + 1) m = true → chS lk men to r' m = true) ∨ r + 1 ≤ sp_pop (chS lk men to r) men := by
    intro r
    induction r with
    | zero =>
      right
      have : ∀ n, to < n → 1 ≤ sp_pop (chS lk men to 0) n := by
        intro n
        induction n with
        | zero => intro q; omega
        | succ n ihn =>
          intro q
          simp only [sp_pop]
          by_cases e : to = n
          · subst e
            rw [if_pos (show chS lk men to 0 to = true from decide_eq_true rfl)]
            omega
          · have := ihn (by omega)
            omega
      exact this men hto
    | succ r ih =>
      rcases ih with ⟨r', h1, h2⟩ | ih
      · exact Or.inl ⟨r', by omega, h2⟩
      · have hp := sp_pop_mono (p := chS lk men to r) (q := chS lk men to (r + 1)) men (fun i _ h => chS_mono r (r + 1) (by omega) h)
        by_cases e : sp_pop (chS lk men to r) men = sp_pop (chS lk men to (r + 1)) men
        · exact Or.inl ⟨r, by omega, fun m hm h => hp.2 e m hm h⟩
        · right
          omega
  intro k m hm h
  by_cases hk : k ≤ men - 1
  · exact chS_mono k (men - 1) hk h
  · rcases hcnt (men - 1) with ⟨r', h1, h2⟩ | h1
    · have := hstay r' h2 (k - r') m hm (by rw [show r' + (k - r') = k by omega]; exact h)
      exact chS_mono r' (men - 1) (by omega) this
    · -- all are there
      have hle := sp_pop_le (chS lk men to (men - 1)) men
      have hfull := (sp_pop_mono (p := chS lk men to (men - 1)) (q := fun _ => true) men (fun _ _ _ => rfl)).2
      have hall : ∀ n, sp_pop (fun _ => true) n = n := by
        intro n
        induction n with
        | zero => rfl
        | succ n ih => simp only [sp_pop, ih, if_true]
      exact hfull (by rw [hall]; omega) m hm rfl
/-- how many it takes -/
def chD (lk : Nat → Nat → Bool) (men to m : Nat) : Option Nat := (List.range men).find? (fun k => chS lk men to k m)
theorem find_range {p : Nat → Bool} {n k : Nat} : (List.range n).find? p = some k ↔ k < n ∧ p k = true ∧ ∀ j, j < k → p j = false := by
  induction n with
  | zero => simp
  | succ n ih =>
    rw [List.range_succ, List.find?_append]
    cases hf : (List.range n).find? p with
    | some x =>
      rw [hf] at ih
      constructor
      · intro h
        cases h
        obtain ⟨h1, h2, h3⟩ := ih.mp rfl
        exact ⟨by omega, h2, h3⟩
      · rintro ⟨h1, h2, h3⟩
        have hx : (List.range n).find? p = some x := hf
        have hxm := List.mem_of_find?_eq_some hf
        have hxp := List.find?_some hf
        have hxn := List.mem_range.mp hxm
        by_cases e : k < n
        · exact ih.mpr ⟨e, h2, h3⟩
        · have : k = n := by omega
          have h4 := h3 x (by omega)
          rw [h4] at hxp
          cases hxp
    | none =>
      have hno : ∀ j, j < n → p j = false := fun j hj => by
        have := List.find?_eq_none.mp hf j (List.mem_range.mpr hj)
        simpa using this
      show (none.or (List.find? p [n])) = some k ↔ _
      rw [Option.none_or]
      constructor
      · intro h
        have hm := List.mem_of_find?_eq_some h
        have hp := List.find?_some h
        have : k = n := by simpa using hm
        subst this
        exact ⟨by omega, hp, hno⟩
      · rintro ⟨h1, h2, h3⟩
        have : k = n := by
          by_cases e : k < n
          · rw [hno k e] at h2; cases h2
          · omega
        subst this
        rw [List.find?_singleton, if_pos h2]
theorem chD_iff {lk : Nat → Nat → Bool} {men to m k : Nat} : chD lk men to m = some k ↔ k < men ∧ chS lk men to k m = true ∧ ∀ j, j < k → chS lk men to j m = false := find_range
theorem chD_none {lk : Nat → Nat → Bool} {men to m : Nat} (hto : to < men) (hm : m < men) (h : chD lk men to m = none) : ∀ k, chS lk men to k m = false := by
  intro k
  cases hk : chS lk men to k m with
  | false => rfl
  | true =>
    have := chS_rest hto k m hm hk
    have h2 := List.find?_eq_none.mp h (men - 1) (List.mem_range.mpr (by omega))
    simp [this] at h2
/-- whoever is there by k is no further than that -/
theorem chD_le {lk : Nat → Nat → Bool} {men to m k : Nat} (hto : to < men) (hm : m < men) (h : chS lk men to k m = true) : ∃ j, j ≤ k ∧ chD lk men to m = some j := by
  cases hd : chD lk men to m with
  | none => rw [chD_none hto hm hd k] at h; cases h
  | some j =>
    obtain ⟨h1, h2, h3⟩ := chD_iff.mp hd
    refine ⟨j, ?_, rfl⟩
    by_cases e : j ≤ k
    · exact e
    · rw [h3 k (by omega)] at h; cases h
theorem chD_0 {lk : Nat → Nat → Bool} {men to : Nat} (hto : to < men) : chD lk men to to = some 0 := chD_iff.mpr ⟨by omega, decide_eq_true rfl, fun j hj => by omega⟩
theorem chD_z {lk : Nat → Nat → Bool} {men to m : Nat} (h : chD lk men to m = some 0) : m = to := of_decide_eq_true (chD_iff.mp h).2.1
/-- the next one -/
theorem chD_step {lk : Nat → Nat → Bool} {men to m k : Nat} (hto : to < men) (h : chD lk men to m = some (k + 1)) : ∃ o, o < men ∧ lk m o = true ∧ chD lk men to o = some k := by
  obtain ⟨h1, h2, h3⟩ := chD_iff.mp h
  rcases chS_s.mp h2 with q | ⟨o, q1, q2, q3⟩
  · rw [h3 k (by omega)] at q; cases q
  · obtain ⟨j, hj, hd⟩ := chD_le hto q1 q2
    refine ⟨o, q1, q3, ?_⟩
    by_cases e : j = k
    · rw [← e]; exact hd
    · have hs := (chD_iff.mp hd).2.1
      have : chS lk men to (j + 1) m = true := chS_s.mpr (Or.inr ⟨o, q1, hs, q3⟩)
      rw [h3 (j + 1) (by omega)] at this
      cases this
theorem chD_back {lk : Nat → Nat → Bool} {men to m o k : Nat} (hto : to < men) (hm : m < men) (ho : o < men) (hl : lk m o = true) (h : chD lk men to o = some k) : ∃ j, j ≤ k + 1 ∧ chD lk men to m = some j := chD_le hto hm (chS_s.mpr (Or.inr ⟨o, ho, (chD_iff.mp h).2.1, hl⟩))
def chN (lk : Nat → Nat → Bool) (men to m k : Nat) : Nat := ((List.range men).find? (fun o => decide (chD lk men to o = some k) && lk m o)).getD 0
theorem chN_spec {lk : Nat → Nat → Bool} {men to m k : Nat} (hto : to < men) (h : chD lk men to m = some (k + 1)) : chN lk men to m k < men ∧ chD lk men to (chN lk men to m k) = some k ∧ lk m (chN lk men to m k) = true ∧ ∀ j, j < chN lk men to m k → ¬ (chD lk men to j = some k ∧ lk m j = true) := by
  unfold chN
  cases hf : (List.range men).find? (fun o => decide (chD lk men to o = some k) && lk m o) with
  | none =>
    obtain ⟨o, h1, h2, h3⟩ := chD_step hto h
    have := List.find?_eq_none.mp hf o (List.mem_range.mpr h1)
    simp [h2, h3] at this
  | some x =>
    obtain ⟨h1, h2, h3⟩ := find_range.mp hf
    rw [Bool.and_eq_true] at h2
    refine ⟨h1, of_decide_eq_true h2.1, h2.2, fun j hj z => ?_⟩
    have := h3 j hj
    rw [decide_eq_true z.1, z.2] at this
    cases this
def chW (lk : Nat → Nat → Bool) (men to : Nat) : Nat → Nat → Nat
  | 0, m => m
  | t + 1, m => match chD lk men to m with
    | some (k + 1) => chW lk men to t (chN lk men to m k)
    | _ => m
theorem chW_s {lk : Nat → Nat → Bool} {men to t m k : Nat} (h : chD lk men to m = some (k + 1)) : chW lk men to (t + 1) m = chW lk men to t (chN lk men to m k) := by
  show (match chD lk men to m with | some (k + 1) => chW lk men to t (chN lk men to m k) | _ => m) = _
  rw [h]
-- of men
def chL (F : Option (Nat × Law)) (s : St) (m o : Nat) : Bool := decide (m ≠ o) && decide (sp_ey F s m o ≤ sTerm s 3)
def dI (o : Option Nat) : Int32 := sp_up o
/-- as far as lengths below len are known -/
def dL (len : Nat) (o : Option Nat) : Option Nat := match o with
  | none => none
  | some k => if k < len then some k else none
def f_chain (g : GG) (a b c : Int32) : Int32 := if (0 ≤ a ∧ a < nI (sMen (gS g))) ∧ (0 ≤ b ∧ b < nI (sMen (gS g))) ∧ -1 ≤ c then (match chD (chL (bF (gB g)) (gS g)) (sMen (gS g)) b.toNatClampNeg a.toNatClampNeg with
    | none => -1
    | some l => if c = -1 then nI l else if c < nI l then nI (chW (chL (bF (gB g)) (gS g)) (sMen (gS g)) b.toNatClampNeg (c.toNatClampNeg + 1) a.toNatClampNeg) else -1) else -1
/-- the next one, in the class -/
theorem c_X3_nextTo {ex : sm_O} {n : Nat} {y : sm_Y} {I : Nat → Nat → Int32} {L : Nat → Nat → Int64} {R : Nat → Nat → Option Nat} {Q : sm_Q} {d m k to len : Nat} {w4 : Option Value} {s : St} {F : Option (Nat × Law)} (hG : sm_G y R) (hs : cS s 1 I) (hok : sp_ok s) (hey : eyOk F s I) (hto : to < sMen s) (hm : m < sMen s) (hk : k < len) (hlen : len ≤ 7) (hmk : dL len (chD (chL F s) (sMen s) to m) ≠ some k) (h106 : ∀ o, o < sMen s → I 106 o = sp_up (dL len (chD (chL F s) (sMen s) to o)))
    (k1 : ∀ o, o < sMen s → chD (chL F s) (sMen s) to o = some k → chL F s m o = true → (∀ j, j < o → ¬ (chD (chL F s) (sMen s) to j = some k ∧ chL F s m j = true)) → Q (some (.int (nI o))) (n, y, I, L, R))
    (k0 : (∀ j, j < sMen s → ¬ (chD (chL F s) (sMen s) to j = some k ∧ chL F s m j = true)) → Q (some (.int (-1))) (n, y, I, L, R)) : sm_W ex d 0 0 18 0 [some (.ref 102), some (.ref 1), some (.int (nI m)), some (.int (nI k)), w4] [] (n, y, I, L, R) Q := by
  have h7 := hok.1
  have ht3 : sTerm s 3 ≤ 99 := hok.2.2.2.2.2.2.2
  have key : ∀ (q j : Nat), j + q = sMen s → (∀ i, i < j → ¬ (chD (chL F s) (sMen s) to i = some k ∧ chL F s m i = true)) → sm_W ex d 0 0 18 3 [some (.ref 102), some (.ref 1), some (.int (nI m)), some (.int (nI k)), some (.int (nI j))] [] (n, y, I, L, R) Q := by
    intro q
    induction q with
    | zero =>
      intro j hj hn
      obtain rfl : j = sMen s := by omega
      refine w_X3_nextTo_3 hG (mk1 hG).1 ?_
      rw [hs.1, if_pos (Int32.le_refl _)]
      exact k0 hn
    | succ q ih =>
      intro j hj hn
      have hjm : j < sMen s := by omega
      have nx : ¬ (chD (chL F s) (sMen s) to j = some k ∧ chL F s m j = true) → sm_W ex d 0 0 18 3 [some (.ref 102), some (.ref 1), some (.int (nI m)), some (.int (nI k)), some (.int (nI (j + 1)))] [] (n, y, I, L, R) Q := fun hz => ih (j + 1) (by omega) (fun i hi => by
        by_cases e : i = j
        · rw [e]; exact hz
        · exact hn i (by omega))
      refine w_X3_nextTo_3 hG (mk1 hG).1 ?_
      rw [hs.1, if_neg (by rw [nI_leI (by omega) (by omega)]; omega), nI_clamp (by omega), h106 j hjm, sm_n1]
      refine ⟨vp_in_nI (by omega) (by decide), ?_⟩
      have hdl : sp_up (dL len (chD (chL F s) (sMen s) to j)) = nI k ↔ chD (chL F s) (sMen s) to j = some k := by
        cases hd : chD (chL F s) (sMen s) to j with
        | none =>
          refine ⟨fun z => absurd z.symm (nI_m1 (by omega)), fun z => by cases z⟩
        | some x =>
          unfold dL
          dsimp only
          by_cases hx : x < len
          · rw [if_pos hx]
            show nI x = nI k ↔ _
            rw [nI_eq (by omega) (by omega)]
            exact ⟨fun z => by rw [z], fun z => Option.some.inj z⟩
          · rw [if_neg hx]
            refine ⟨fun z => absurd z.symm (nI_m1 (by omega)), fun z => ?_⟩
            cases z
            omega
      simp only [hdl]
      by_cases hd : chD (chL F s) (sMen s) to j = some k
      · rw [if_pos hd]
        have hne : m ≠ j := fun z => by
          subst z
          rw [hd] at hmk
          exact hmk (by unfold dL; dsimp only; rw [if_pos hk])
        have e7 : nI m * 7 + nI j = nI (7 * m + j) := by rw [show (7 : Int32) = nI 7 from rfl, pk_mul, nI_add, Nat.mul_comm]
        have ht := hs.2.2.2.2.2 3 (by decide)
        have hle := sp_ey_le F s m j
        rw [e7, nI_clamp (by omega), hey m j hm hjm, show I (1 + 4) 3 = nI (sTerm s 3) from ht]
        refine ⟨vp_in_nI (by omega) (by decide), ?_⟩
        by_cases hc : sp_ey F s m j ≤ sTerm s 3
        · rw [if_neg (by rw [nI_ltI (by omega) (by omega)]; omega)]
          exact k1 j hjm hd (by unfold chL; rw [decide_eq_true hne, decide_eq_true hc]; rfl) hn
        · rw [if_pos (by rw [nI_ltI (by omega) (by omega)]; omega)]
          refine nx (fun z => ?_)
          have := z.2
          unfold chL at this
          rw [decide_eq_false hc, Bool.and_false] at this
          cases this
      · rw [if_neg hd]
        exact nx (fun z => hd z.1)
  refine w_X3_nextTo_0 ?_
  exact key (sMen s) 0 (by omega) (fun i hi => absurd hi (by omega))
def meFr (I I' : Nat → Nat → Int32) : Prop := ∀ a j, ¬ (51 ≤ a ∧ a ≤ 53) → ¬ (a = 102 ∧ j = 2) → a ≠ 103 → a ≠ 106 → I' a j = I a j
set_option maxHeartbeats 1000000 in
theorem c_X3_measure {ex : sm_O} {n : Nat} {y : sm_Y} {I : Nat → Nat → Int32} {L : Nat → Nat → Int64} {R : Nat → Nat → Option Nat} {Q : sm_Q} {d to : Nat} {w3 w4 : Option Value} {s : St} {F : Option (Nat × Law)} (hd : 4 ≤ d) (hG : sm_G y R) (hs : cS s 1 I) (hok : sp_ok s) (hF : cForce I F) (hca : cCa F s I) (hto : to < sMen s)
    (k : ∀ (I' : Nat → Nat → Int32), meFr I I' → cCa F s I' → eyOk F s I' → (∀ o, o < sMen s → I' 106 o = sp_up (chD (chL F s) (sMen s) to o)) → Q none (n, y, I', L, R)) : sm_W ex d 0 0 17 0 [some (.ref 102), some (.ref 1), some (.int (nI to)), w3, w4] [] (n, y, I, L, R) Q := by
  have h7 := hok.1
  refine w_X3_measure_0 (d1 := 3) hG (by omega) ?_
  refine c_X3_look (Nat.le_refl 3) hG hs hok hF hca ?_
  intro I1 f1 ca1 ey1
  refine w_X3_measure_5 ?_
  have hs1 : cS s 1 I1 := cS_kept2 (fun a j q => f1 a j (by omega) (by omega) (by omega)) hs
  have keepS : ∀ I2 : Nat → Nat → Int32, (∀ a j, a ≠ 106 → I2 a j = I1 a j) → cS s 1 I2 := fun I2 f2 => cS_kept2 (fun a j q => f2 a j (by omega)) hs1
  have keepE : ∀ I2 : Nat → Nat → Int32, (∀ a j, a ≠ 106 → I2 a j = I1 a j) → eyOk F s I2 := fun I2 f2 a b ha hb => (f2 103 _ (by decide)).trans (ey1 a b ha hb)
  -- the lengths
  have lens : ∀ (q len : Nat) (I2 : Nat → Nat → Int32) (w4 : Option Value), 1 ≤ len → len + q = max (sMen s) 1 → (∀ a j, a ≠ 106 → I2 a j = I1 a j) → (∀ o, o < sMen s → I2 106 o = sp_up (dL len (chD (chL F s) (sMen s) to o))) → sm_W ex d 0 0 17 37 [some (.ref 102), some (.ref 1), some (.int (nI to)), some (.int (nI len)), w4] [] (n, y, I2, L, R) Q := by
    intro q
    induction q with
    | zero =>
      intro len I2 w4 hl1 hlq f2 h2
      have hlen : len = sMen s := by omega
      subst hlen
      refine w_X3_measure_37 (mk1 hG).1 ?_
      rw [(keepS I2 f2).1, if_pos (Int32.le_refl _)]
      refine k I2 (fun a j q1 q2 q3 q4 => (f2 a j q4).trans (f1 a j q1 q2 q3)) (cCa_kept (fun a j q => f2 a j (by omega)) ca1) (keepE I2 f2) (fun o ho => ?_)
      rw [h2 o ho]
      cases hd : chD (chL F s) (sMen s) to o with
      | none => rfl
      | some x =>
        unfold dL
        dsimp only
        rw [if_pos (chD_iff.mp hd).1]
    | succ q ih =>
      intro len I2 w4 hl1 hlq f2 h2
      have hlm : len < sMen s := by omega
      have inner : ∀ (p j : Nat) (I3 : Nat → Nat → Int32), j + p = sMen s → (∀ a j, a ≠ 106 → I3 a j = I1 a j) → (∀ o, o < sMen s → I3 106 o = sp_up (dL (if o < j then len + 1 else len) (chD (chL F s) (sMen s) to o))) → sm_W ex d 0 0 17 48 [some (.ref 102), some (.ref 1), some (.int (nI to)), some (.int (nI len)), some (.int (nI j))] [] (n, y, I3, L, R) Q := by
        intro p
        induction p with
        | zero =>
          intro j I3 hj f3 h3
          obtain rfl : j = sMen s := by omega
          refine w_X3_measure_48 (d1 := 3) hG (mk1 hG).1 (by omega) ?_
          rw [(keepS I3 f3).1, if_pos (Int32.le_refl _), sm_n1]
          refine ih (len + 1) I3 _ (by omega) (by omega) f3 (fun o ho => ?_)
          have := h3 o ho
          rw [if_pos ho] at this
          exact this
        | succ p ihp =>
          intro j I3 hj f3 h3
          have hjm : j < sMen s := by omega
          -- he goes on as he is
          have stay : dL (len + 1) (chD (chL F s) (sMen s) to j) = dL len (chD (chL F s) (sMen s) to j) → sm_W ex d 0 0 17 48 [some (.ref 102), some (.ref 1), some (.int (nI to)), some (.int (nI len)), some (.int (nI (j + 1)))] [] (n, y, I3, L, R) Q := fun he => ihp (j + 1) I3 (by omega) f3 (fun o ho => by
            rw [h3 o ho]
            by_cases e : o = j
            · subst e
              rw [if_neg (by omega), if_pos (by omega), he]
            · by_cases e2 : o < j
              · rw [if_pos e2, if_pos (by omega)]
              · rw [if_neg e2, if_neg (by omega)])
          refine w_X3_measure_48 (d1 := 3) hG (mk1 hG).1 (by omega) ?_
          have h3j := h3 j hjm
          rw [if_neg (by omega)] at h3j
          rw [(keepS I3 f3).1, if_neg (by rw [nI_leI (by omega) (by omega)]; omega), nI_clamp (by omega), h3j]
          refine ⟨vp_in_nI (by omega) (by decide), ?_⟩
          have hin : ∀ x, dL len (chD (chL F s) (sMen s) to j) = some x → x < len := fun x hx => by
            cases hd : chD (chL F s) (sMen s) to j with
            | none => rw [hd] at hx; cases hx
            | some z =>
              rw [hd] at hx
              unfold dL at hx
              dsimp only at hx
              split at hx
              · cases hx; assumption
              · cases hx
          cases hdl : dL len (chD (chL F s) (sMen s) to j) with
          | some x =>
            have hx := hin x hdl
            rw [if_neg (show ¬ sp_up (some x) = -1 from nI_m1 (by omega)), sm_n1]
            refine stay ?_
            cases hd : chD (chL F s) (sMen s) to j with
            | none => rw [hd] at hdl; cases hdl
            | some z =>
              rw [hd] at hdl
              unfold dL at hdl ⊢
              dsimp only at hdl ⊢
              by_cases hz : z < len
              · rw [if_pos hz, if_pos (by omega)]
              · rw [if_neg hz] at hdl; cases hdl
          | none =>
            rw [if_pos (show sp_up none = -1 from rfl)]
            obtain ⟨l1, rfl⟩ : ∃ l1, len = l1 + 1 := ⟨len - 1, by omega⟩
            rw [nI_pred]
            -- those that are asked for have not changed in this round
            have hsame : ∀ o, o < sMen s → (I3 106 o = nI l1 ↔ chD (chL F s) (sMen s) to o = some l1) := fun o ho => by
              rw [h3 o ho]
              cases hd : chD (chL F s) (sMen s) to o with
              | none => exact ⟨fun z => absurd z.symm (nI_m1 (by omega)), fun z => by cases z⟩
              | some z =>
                unfold dL
                dsimp only
                by_cases hz : z < (if o < j then l1 + 1 + 1 else l1 + 1)
                · rw [if_pos hz]
                  have hz7 : z < 100 := by split at hz <;> omega
                  show nI z = nI l1 ↔ _
                  rw [nI_eq (by omega) (by omega)]
                  exact ⟨fun w => by rw [w], fun w => Option.some.inj w⟩
                · rw [if_neg hz]
                  refine ⟨fun w => absurd w.symm (nI_m1 (by omega)), fun w => ?_⟩
                  cases w
                  split at hz <;> omega
            have hdnone : ∀ x, chD (chL F s) (sMen s) to j = some x → l1 + 1 ≤ x := fun x hx => by
              rw [hx] at hdl
              unfold dL at hdl
              dsimp only at hdl
              split at hdl
              · cases hdl
              · omega
            have ht3 : sTerm s 3 ≤ 99 := hok.2.2.2.2.2.2.2
            -- the search
            have scan : ∀ (r i : Nat), i + r = sMen s → (∀ u, u < i → ¬ (chD (chL F s) (sMen s) to u = some l1 ∧ chL F s j u = true)) → sm_W ex 3 0 0 18 3 [some (.ref 102), some (.ref 1), some (.int (nI j)), some (.int (nI l1)), some (.int (nI i))] [] (n, y, I3, L, R) (fun r μ1 => sm_W ex d 0 0 17 78 [some (.ref 102), some (.ref 1), some (.int (nI to)), some (.int (nI (l1 + 1))), some (.int (nI j))] (r.toList ++ []) μ1 Q) := by
              intro r
              induction r with
              | zero =>
                intro i hi hn
                obtain rfl : i = sMen s := by omega
                refine w_X3_nextTo_3 hG (mk1 hG).1 ?_
                rw [(keepS I3 f3).1, if_pos (Int32.le_refl _)]
                refine w_X3_measure_78 hG ?_
                rw [if_pos rfl, sm_n1]
                refine stay ?_
                cases hd : chD (chL F s) (sMen s) to j with
                | none => rfl
                | some z =>
                  have hz := hdnone z hd
                  unfold dL
                  dsimp only
                  rw [if_neg (show ¬ z < l1 + 1 by omega)]
                  by_cases e : z = l1 + 1
                  · subst e
                    obtain ⟨o, o1, o2, o3⟩ := chD_step hto hd
                    exact absurd ⟨o3, o2⟩ (hn o o1)
                  · rw [if_neg (by omega)]
              | succ r ihr =>
                intro i hi hn
                have him : i < sMen s := by omega
                have nx : ¬ (chD (chL F s) (sMen s) to i = some l1 ∧ chL F s j i = true) → _ := fun hz => ihr (i + 1) (by omega) (fun u hu => by
                  by_cases e : u = i
                  · rw [e]; exact hz
                  · exact hn u (by omega))
                refine w_X3_nextTo_3 hG (mk1 hG).1 ?_
                rw [(keepS I3 f3).1, if_neg (by rw [nI_leI (by omega) (by omega)]; omega), nI_clamp (by omega), sm_n1]
                refine ⟨vp_in_nI (by omega) (by decide), ?_⟩
                simp only [hsame i him]
                by_cases hd : chD (chL F s) (sMen s) to i = some l1
                · rw [if_pos hd]
                  have hne : j ≠ i := fun z => by
                    subst z
                    have := hdnone l1 hd
                    omega
                  have e7 : nI j * 7 + nI i = nI (7 * j + i) := by rw [show (7 : Int32) = nI 7 from rfl, pk_mul, nI_add, Nat.mul_comm]
                  have ht := (keepS I3 f3).2.2.2.2.2 3 (by decide)
                  have hle := sp_ey_le F s j i
                  rw [e7, nI_clamp (by omega), keepE I3 f3 j i hjm him, show I3 (1 + 4) 3 = nI (sTerm s 3) from ht]
                  refine ⟨vp_in_nI (by omega) (by decide), ?_⟩
                  by_cases hc : sp_ey F s j i ≤ sTerm s 3
                  · rw [if_neg (by rw [nI_ltI (by omega) (by omega)]; omega)]
                    refine w_X3_measure_78 hG ?_
                    rw [if_neg (nI_m1 (by omega)), nI_clamp (by omega), sm_n1 j]
                    refine ⟨vp_in_nI (by omega) (by decide), ihp (j + 1) _ (by omega) (fun a u q => by rw [sm_st_o _ _ q]; exact f3 a u q) (fun o ho => ?_)⟩
                    by_cases e : o = j
                    · subst e
                      rw [sm_st_s, if_pos (by omega)]
                      obtain ⟨z, hz1, hz2⟩ := chD_back hto hjm him (by unfold chL; rw [decide_eq_true hne, decide_eq_true hc]; rfl) hd
                      have := hdnone z hz2
                      obtain rfl : z = l1 + 1 := by omega
                      rw [hz2]
                      unfold dL
                      dsimp only
                      rw [if_pos (by omega)]
                      rfl
                    · rw [sm_st_j _ _ e, h3 o ho]
                      by_cases e2 : o < j
                      · rw [if_pos e2, if_pos (by omega)]
                      · rw [if_neg e2, if_neg (by omega)]
                  · rw [if_pos (by rw [nI_ltI (by omega) (by omega)]; omega)]
                    refine nx (fun z => ?_)
                    have := z.2
                    unfold chL at this
                    rw [decide_eq_false hc, Bool.and_false] at this
                    cases this
                · rw [if_neg hd]
                  exact nx (fun z => hd z.1)
            refine w_X3_nextTo_0 ?_
            exact scan (sMen s) 0 (by omega) (fun u hu => absurd hu (by omega))
      refine w_X3_measure_37 (mk1 hG).1 ?_
      rw [(keepS I2 f2).1, if_neg (by rw [nI_leI (by omega) (by omega)]; omega)]
      exact inner (sMen s) 0 I2 (by omega) f2 (fun o ho => by rw [if_neg (by omega)]; exact h2 o ho)
  have start : ∀ (q j : Nat) (I2 : Nat → Nat → Int32) (w4 : Option Value), j + q = 7 → (∀ a j, a ≠ 106 → I2 a j = I1 a j) → (∀ o, o < j → I2 106 o = if o = to then 0 else -1) → sm_W ex d 0 0 17 7 [some (.ref 102), some (.ref 1), some (.int (nI to)), some (.int (nI j)), w4] [] (n, y, I2, L, R) Q := by
    intro q
    induction q with
    | zero =>
      intro j I2 w4 hj f2 h2
      obtain rfl : j = 7 := by omega
      refine w_X3_measure_7 hG ?_
      rw [if_pos (by decide)]
      refine lens (max (sMen s) 1 - 1) 1 I2 _ (by omega) (by omega) f2 (fun o ho => ?_)
      rw [h2 o (by omega)]
      by_cases e : o = to
      · subst e
        rw [if_pos rfl, chD_0 hto]
        rfl
      · rw [if_neg e]
        cases hd : chD (chL F s) (sMen s) to o with
        | none => rfl
        | some z =>
          unfold dL
          dsimp only
          by_cases hz : z < 1
          · obtain rfl : z = 0 := by omega
            exact absurd (chD_z hd) e
          · rw [if_neg hz]
            rfl
    | succ q ih =>
      intro j I2 w4 hj f2 h2
      refine w_X3_measure_7 hG ?_
      have fj : nI j = nI to ↔ j = to := nI_eq (by omega) (by omega)
      rw [if_neg (by rw [sm_of 7, nI_leI (by decide) (by omega)]; omega), nI_clamp (by omega), sm_n1]
      simp only [fj]
      have nx : ∀ v, v = (if j = to then 0 else -1) → sm_W ex d 0 0 17 7 [some (.ref 102), some (.ref 1), some (.int (nI to)), some (.int (nI (j + 1))), w4] [] (n, y, sm_st I2 106 j v, L, R) Q := fun v hv => ih (j + 1) _ _ (by omega) (fun a u q => by rw [sm_st_o _ _ q]; exact f2 a u q) (fun o ho => by
        by_cases e : o = j
        · subst e
          rw [sm_st_s, hv]
        · rw [sm_st_j _ _ e]
          exact h2 o (by omega))
      by_cases e : j = to
      · rw [if_pos e]
        exact ⟨vp_in_nI (by omega) (by decide), nx 0 (by rw [if_pos e])⟩
      · rw [if_neg e]
        exact ⟨vp_in_nI (by omega) (by decide), nx (-1) (by rw [if_neg e])⟩
  exact start 7 0 I1 _ (by omega) (fun _ _ _ => rfl) (fun o ho => absurd ho (by omega))

