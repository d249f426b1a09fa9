set_option maxRecDepth 100000 in
theorem w_X10_likest_0 {ex : sm_O} {d n : Nat} {y : sm_Y} {I : Nat → Nat → Int32} {L : Nat → Nat → Int64} {R : Nat → Nat → Option Nat} {Q : sm_Q} {w2 : Option Value} {w3 : Option Value} {a1 : Int32} (hG : sm_G y R) (hdep : 1 ≤ d) (k : if a1 < 0 then (Q (some (.int (-1))) (n, y, I, L, R)) else (if (I 1 4) ≤ a1 then (Q (some (.int (-1))) (n, y, I, L, R)) else (sm_W ex d 0 0 100 17 [some (.ref 0), some (.int a1), some (.int (-1)), some (.int 0)] [] (n, y, I, L, R) Q))) : sm_W ex d 0 0 100 0 [some (.ref 0), some (.int a1), w2, w3] [] (n, y, I, L, R) Q := sm_in (sm_in (And.intro (hG.1 0 (Nat.le_of_ble_eq_true rfl)) (sm_gfr rfl (hG.2 0 0 rfl) (sm_in (sm_in (Exists.intro 9 (And.intro (hG.1 1 (Nat.le_of_ble_eq_true rfl)) (And.intro rfl (sm_calln (d1 := 0) (Nat.lt_of_lt_of_le (Nat.le_of_ble_eq_true rfl : 0 < 1) hdep) (Nat.le_of_ble_eq_true rfl) (Nat.le_of_ble_eq_true rfl) (sm_in (sm_in (And.intro (fun c1 => have k1t := Eq.mp (if_pos c1) k; sm_in (sm_in (And.intro rfl (And.intro (Or.inl rfl) (sm_in (And.intro (fun c => absurd (by decide : (0 : Int32) = 0) c) (fun _ => sm_in (sm_in (And.intro rfl k1t))))))))) (fun c1 => have k1f := Eq.mp (if_neg c1) k; sm_in (sm_in (sm_in (And.intro (hG.1 1 (Nat.le_of_ble_eq_true rfl)) (sm_in (And.intro (fun c2 => have k2t := Eq.mp (if_pos c2) k1f; sm_in (sm_in (And.intro rfl (And.intro (Or.inl rfl) (sm_in (And.intro (fun c => absurd (by decide : (0 : Int32) = 0) c) (fun _ => sm_in (sm_in (And.intro rfl k2t))))))))) (fun c2 => have k2f := Eq.mp (if_neg c2) k1f; sm_in (sm_in (sm_in (And.intro rfl (And.intro (Or.inr rfl) (sm_in (And.intro (fun _ => sm_in (sm_in (And.intro (Nat.le_of_ble_eq_true rfl) (sm_in (sm_in (And.intro (Nat.le_of_ble_eq_true rfl) (k2f))))))) (fun c => absurd c (by decide : ¬ (1 : Int32) = 0)))))))))))))))))))))))))))
set_option maxRecDepth 100000 in
theorem w_X10_likest_17 {ex : sm_O} {d n : Nat} {y : sm_Y} {I : Nat → Nat → Int32} {L : Nat → Nat → Int64} {R : Nat → Nat → Option Nat} {Q : sm_Q} {a1 : Int32} {a2 : Int32} {a3 : Int32} {d1 : Nat} (hG : sm_G y R) (h1 : d1 < d) (k : if (I 1 4) ≤ a3 then (Q (some (.int a2)) (n, y, I, L, R)) else (if a3 = a1 then (sm_W ex d 0 0 100 17 [some (.ref 0), some (.int a1), some (.int a2), some (.int (a3 + 1))] [] (n, y, I, L, R) Q) else (if a2 = (-1) then (sm_W ex d 0 0 100 17 [some (.ref 0), some (.int a1), some (.int a3), some (.int (a3 + 1))] [] (n, y, I, L, R) Q) else (sm_W ex d1 0 0 68 0 [some (.ref 1), some (.int a1), some (.int a3)] [] (n, y, I, L, R) (fun r μ1 => sm_W ex d 0 0 100 47 [some (.ref 0), some (.int a1), some (.int a2), some (.int a3)] (r.toList ++ []) μ1 Q))))) : sm_W ex d 0 0 100 17 [some (.ref 0), some (.int a1), some (.int a2), some (.int a3)] [] (n, y, I, L, R) Q := sm_in (sm_in (sm_in (And.intro (hG.1 0 (Nat.le_of_ble_eq_true rfl)) (sm_gfr rfl (hG.2 0 0 rfl) (sm_in (And.intro (hG.1 1 (Nat.le_of_ble_eq_true rfl)) (sm_in (And.intro (fun c1 => have k1t := Eq.mp (if_pos c1) k; sm_in (sm_in (And.intro rfl k1t))) (fun c1 => have k1f := Eq.mp (if_neg c1) k; sm_in (sm_in (sm_in (And.intro (fun c2 => have k2t := Eq.mp (if_pos c2) k1f; sm_in (And.intro (Nat.le_of_ble_eq_true rfl) (sm_in (k2t)))) (fun c2 => have k2f := Eq.mp (if_neg c2) k1f; sm_in (sm_in (sm_in (And.intro (fun c3 => have k3t := Eq.mp (if_pos c3) k2f; sm_in (sm_in (And.intro (Nat.le_of_ble_eq_true rfl) (sm_in (And.intro (Nat.le_of_ble_eq_true rfl) (sm_in (k3t))))))) (fun c3 => have k3f := Eq.mp (if_neg c3) k2f; sm_in (sm_in (And.intro (hG.1 0 (Nat.le_of_ble_eq_true rfl)) (sm_gfr rfl (hG.2 0 0 rfl) (sm_in (sm_in (sm_in (Exists.intro 9 (And.intro (hG.1 1 (Nat.le_of_ble_eq_true rfl)) (And.intro rfl (sm_calln h1 (Nat.le_of_ble_eq_true rfl) (Nat.le_of_ble_eq_true rfl) k3f)))))))))))))))))))))))))))
set_option maxRecDepth 100000 in
theorem w_X10_likest_47 {ex : sm_O} {d n : Nat} {y : sm_Y} {I : Nat → Nat → Int32} {L : Nat → Nat → Int64} {R : Nat → Nat → Option Nat} {Q : sm_Q} {w3 : Option Value} {a1 : Int32} {a2 : Int32} {s0 : Int32} {d1 : Nat} (hG : sm_G y R) (h1 : d1 < d) (k : sm_W ex d1 0 0 68 0 [some (.ref 1), some (.int a1), some (.int a2)] [] (n, y, I, L, R) (fun r μ1 => sm_W ex d 0 0 100 56 [some (.ref 0), some (.int a1), some (.int a2), w3] (r.toList ++ [.int s0]) μ1 Q)) : sm_W ex d 0 0 100 47 [some (.ref 0), some (.int a1), some (.int a2), w3] [.int s0] (n, y, I, L, R) Q := sm_in (sm_in (And.intro (hG.1 0 (Nat.le_of_ble_eq_true rfl)) (sm_gfr rfl (hG.2 0 0 rfl) (sm_in (sm_in (sm_in (Exists.intro 9 (And.intro (hG.1 1 (Nat.le_of_ble_eq_true rfl)) (And.intro rfl (sm_calln h1 (Nat.le_of_ble_eq_true rfl) (Nat.le_of_ble_eq_true rfl) k))))))))))
set_option maxRecDepth 100000 in
theorem w_X10_likest_56 {ex : sm_O} {d n : Nat} {y : sm_Y} {I : Nat → Nat → Int32} {L : Nat → Nat → Int64} {R : Nat → Nat → Option Nat} {Q : sm_Q} {w0 : Option Value} {a1 : Int32} {a2 : Int32} {a3 : Int32} {s0 : Int32} {s1 : Int32} (k : if s0 ≤ s1 then (sm_W ex d 0 0 100 17 [w0, some (.int a1), some (.int a2), some (.int (a3 + 1))] [] (n, y, I, L, R) Q) else (sm_W ex d 0 0 100 17 [w0, some (.int a1), some (.int a3), some (.int (a3 + 1))] [] (n, y, I, L, R) Q)) : sm_W ex d 0 0 100 56 [w0, some (.int a1), some (.int a2), some (.int a3)] [.int s0, .int s1] (n, y, I, L, R) Q := sm_in (And.intro (fun c1 => have k1t := Eq.mp (if_pos c1) k; sm_in (And.intro (Nat.le_of_ble_eq_true rfl) (sm_in (k1t)))) (fun c1 => have k1f := Eq.mp (if_neg c1) k; sm_in (sm_in (And.intro (Nat.le_of_ble_eq_true rfl) (sm_in (And.intro (Nat.le_of_ble_eq_true rfl) (sm_in (k1f))))))))
set_option maxRecDepth 100000 in
theorem w_X11_likest_0 {ex : sm_O} {d n : Nat} {y : sm_Y} {I : Nat → Nat → Int32} {L : Nat → Nat → Int64} {R : Nat → Nat → Option Nat} {Q : sm_Q} {w2 : Option Value} {w3 : Option Value} {w4 : Option Value} {w5 : Option Value} {a1 : Int32} (hG : sm_G y R) (hdep : 2 ≤ d) (k : if 0 ≤ a1 ∧ a1 < I 125 0 then (sm_W ex d 0 0 219 24 [some (.ref 123), some (.int a1), some (.int 100000000), some (.int (-1)), some (.int 0), w5] [] (n, y, sm_st I 123 0 0, L, R) Q) else (Q (some (.int (-1))) (n, y, sm_st I 123 0 0, L, R))) : sm_W ex d 0 0 219 0 [some (.ref 123), some (.int a1), w2, w3, w4, w5] [] (n, y, I, L, R) Q := sm_in (sm_in (sm_in (And.intro (hG.1 123 (Nat.le_of_ble_eq_true rfl)) (sm_in (sm_in (sm_in (Exists.intro 11 (And.intro (hG.1 123 (Nat.le_of_ble_eq_true rfl)) (And.intro rfl (sm_calln (d1 := 1) (Nat.lt_of_lt_of_le (Nat.lt_succ_self 1) (Nat.le_trans (Nat.le_of_ble_eq_true rfl) hdep)) (Nat.le_of_ble_eq_true rfl) (Nat.le_of_ble_eq_true rfl) (c_X11_isMan hG (sm_in (And.intro (fun c1 => have k1t := Eq.mp (if_pos (sm_b_n.mp c1)) k; sm_in (sm_in (And.intro (Nat.le_of_ble_eq_true rfl) (sm_in (sm_in (And.intro (Nat.le_of_ble_eq_true rfl) (sm_in (sm_in (And.intro (Nat.le_of_ble_eq_true rfl) (k1t)))))))))) (fun c1 => have k1f := Eq.mp (if_neg (sm_b_0.mp c1)) k; sm_in (sm_in (And.intro rfl k1f))))))))))))))))
set_option maxRecDepth 100000 in
theorem w_X11_likest_24 {ex : sm_O} {d n : Nat} {y : sm_Y} {I : Nat → Nat → Int32} {L : Nat → Nat → Int64} {R : Nat → Nat → Option Nat} {Q : sm_Q} {w2 : Option Value} {w5 : Option Value} {a1 : Int32} {a3 : Int32} {a4 : Int32} {d1 : Nat} (hG : sm_G y R) (h1 : d1 < d) (k : if (I 125 0) ≤ a4 then (Q (some (.int a3)) (n, y, I, L, R)) else (if a4 = a1 then (sm_W ex d 0 0 219 54 [some (.ref 123), some (.int a1), w2, some (.int a3), some (.int a4), w5] [.int 100000000] (n, y, I, L, R) Q) else (sm_W ex d1 0 0 140 0 [some (.ref 123), some (.int a4), some (.int a1), none, none] [] (n, y, I, L, R) (fun r μ1 => sm_W ex d 0 0 219 54 [some (.ref 123), some (.int a1), w2, some (.int a3), some (.int a4), w5] (r.toList ++ []) μ1 Q)))) : sm_W ex d 0 0 219 24 [some (.ref 123), some (.int a1), w2, some (.int a3), some (.int a4), w5] [] (n, y, I, L, R) Q := sm_in (sm_in (sm_in (And.intro (hG.1 123 (Nat.le_of_ble_eq_true rfl)) (sm_gfr rfl (hG.2 123 3 rfl) (sm_in (sm_in (Exists.intro 5450 (And.intro (hG.1 125 (Nat.le_of_ble_eq_true rfl)) (And.intro (sm_lin (by decide)) (sm_in (And.intro (fun c1 => have k1t := Eq.mp (if_pos c1) k; sm_in (sm_in (And.intro rfl k1t))) (fun c1 => have k1f := Eq.mp (if_neg c1) k; sm_in (sm_in (sm_in (And.intro (fun c2 => have k2f := Eq.mp (if_neg c2) k1f; sm_in (sm_in (sm_in (sm_in (Exists.intro 11 (And.intro (hG.1 123 (Nat.le_of_ble_eq_true rfl)) (And.intro rfl (sm_calln h1 (Nat.le_of_ble_eq_true rfl) (Nat.le_of_ble_eq_true rfl) k2f)))))))) (fun c2 => have k2t := Eq.mp (if_pos c2) k1f; sm_in (sm_in (k2t))))))))))))))))))
set_option maxRecDepth 100000 in
theorem w_X11_likest_54 {ex : sm_O} {d n : Nat} {y : sm_Y} {I : Nat → Nat → Int32} {L : Nat → Nat → Int64} {R : Nat → Nat → Option Nat} {Q : sm_Q} {w0 : Option Value} {w5 : Option Value} {a1 : Int32} {a2 : Int32} {a3 : Int32} {a4 : Int32} {s0 : Int32} (k : if a2 ≤ s0 then (sm_W ex d 0 0 219 24 [w0, some (.int a1), some (.int a2), some (.int a3), some (.int (a4 + 1)), some (.int s0)] [] (n, y, I, L, R) Q) else (sm_W ex d 0 0 219 24 [w0, some (.int a1), some (.int s0), some (.int a4), some (.int (a4 + 1)), some (.int s0)] [] (n, y, I, L, R) Q)) : sm_W ex d 0 0 219 54 [w0, some (.int a1), some (.int a2), some (.int a3), some (.int a4), w5] [.int s0] (n, y, I, L, R) Q := sm_in (And.intro (Nat.le_of_ble_eq_true rfl) (sm_in (sm_in (sm_in (And.intro (fun c1 => have k1t := Eq.mp (if_pos c1) k; sm_in (sm_in (And.intro (Nat.le_of_ble_eq_true rfl) (sm_in (sm_in (sm_in (And.intro (fun _ => sm_in (sm_in (And.intro (Nat.le_of_ble_eq_true rfl) (sm_in (And.intro (Nat.le_of_ble_eq_true rfl) (sm_in (k1t))))))) (fun c => absurd c1 c)))))))) (fun c1 => have k1f := Eq.mp (if_neg c1) k; sm_in (sm_in (sm_in (And.intro (Nat.le_of_ble_eq_true rfl) (sm_in (sm_in (sm_in (And.intro (fun c => absurd c c1) (fun _ => sm_in (sm_in (sm_in (And.intro (Nat.le_of_ble_eq_true rfl) (sm_in (And.intro (Nat.le_of_ble_eq_true rfl) (sm_in (k1f)))))))))))))))))))))
set_option maxRecDepth 100000 in
theorem w_X9_groupOf_0 {ex : sm_O} {d n : Nat} {y : sm_Y} {I : Nat → Nat → Int32} {L : Nat → Nat → Int64} {R : Nat → Nat → Option Nat} {Q : sm_Q} {w0 : Option Value} {w1 : Option Value} {w3 : Option Value} {w4 : Option Value} {w5 : Option Value} {a2 : Int32} (k : sm_W ex d 0 0 69 7 [w0, w1, some (.int a2), some (.int ((1 : Int32) <<< (a2 &&& 31))), some (.int 0), w5] [] (n, y, I, L, R) Q) : sm_W ex d 0 0 69 0 [w0, w1, some (.int a2), w3, w4, w5] [] (n, y, I, L, R) Q := sm_in (sm_in (sm_in (sm_in (And.intro (Nat.le_of_ble_eq_true rfl) (sm_in (sm_in (And.intro (Nat.le_of_ble_eq_true rfl) (k))))))))
set_option maxRecDepth 100000 in
theorem w_X9_groupOf_7 {ex : sm_O} {d n : Nat} {y : sm_Y} {I : Nat → Nat → Int32} {L : Nat → Nat → Int64} {R : Nat → Nat → Option Nat} {Q : sm_Q} {w1 : Option Value} {w2 : Option Value} {w5 : Option Value} {a0 : Nat} {a3 : Int32} {a4 : Int32} (ho0 : ok9 y R a0) (k : if (I a0 4) ≤ a4 then (Q (some (.int a3)) (n, y, I, L, R)) else (sm_W ex d 0 0 69 19 [some (.ref a0), w1, w2, some (.int a3), some (.int a4), some (.int 0)] [] (n, y, I, L, R) Q)) : sm_W ex d 0 0 69 7 [some (.ref a0), w1, w2, some (.int a3), some (.int a4), w5] [] (n, y, I, L, R) Q := sm_in (sm_in (sm_in (And.intro (ok9_y0 ho0) (sm_in (And.intro (fun c1 => have k1t := Eq.mp (if_pos c1) k; sm_in (sm_in (And.intro rfl k1t))) (fun c1 => have k1f := Eq.mp (if_neg c1) k; sm_in (sm_in (And.intro (Nat.le_of_ble_eq_true rfl) (k1f)))))))))
set_option maxRecDepth 100000 in
theorem w_X9_groupOf_19 {ex : sm_O} {d n : Nat} {y : sm_Y} {I : Nat → Nat → Int32} {L : Nat → Nat → Int64} {R : Nat → Nat → Option Nat} {Q : sm_Q} {a0 : Nat} {a1 : Int32} {a2 : Int32} {a3 : Int32} {a4 : Int32} {a5 : Int32} {d1 : Nat} (ho0 : ok9 y R a0) (h1 : d1 < d) (k : if (I a0 4) ≤ a5 then (sm_W ex d 0 0 69 7 [some (.ref a0), some (.int a1), some (.int a2), some (.int a3), some (.int (a4 + 1)), some (.int a5)] [] (n, y, I, L, R) Q) else (if ((a3 >>> (a5 &&& 31)) &&& 1) = 1 then (sm_W ex d1 0 0 70 0 [some (.ref a0), some (.int a1), some (.int a5), none, none] [] (n, y, I, L, R) (fun r μ1 => sm_W ex d 0 0 69 46 [some (.ref a0), some (.int a1), some (.int a2), some (.int a3), some (.int a4), some (.int a5)] (r.toList ++ [.int a3]) μ1 Q)) else (sm_W ex d 0 0 69 19 [some (.ref a0), some (.int a1), some (.int a2), some (.int (a3 ||| 0)), some (.int a4), some (.int (a5 + 1))] [] (n, y, I, L, R) Q))) : sm_W ex d 0 0 69 19 [some (.ref a0), some (.int a1), some (.int a2), some (.int a3), some (.int a4), some (.int a5)] [] (n, y, I, L, R) Q := sm_in (sm_in (sm_in (And.intro (ok9_y0 ho0) (sm_in (And.intro (fun c1 => have k1t := Eq.mp (if_pos c1) k; sm_in (And.intro (Nat.le_of_ble_eq_true rfl) (sm_in (k1t)))) (fun c1 => have k1f := Eq.mp (if_neg c1) k; sm_in (sm_in (sm_in (sm_in (sm_in (sm_in (sm_in (sm_in (And.intro (fun c2 => have k2f := Eq.mp (if_neg c2) k1f; sm_in (sm_in (sm_in (And.intro (Nat.le_of_ble_eq_true rfl) (sm_in (And.intro (Nat.le_of_ble_eq_true rfl) (sm_in (k2f)))))))) (fun c2 => have k2t := Eq.mp (if_pos c2) k1f; sm_in (sm_in (sm_in (sm_in (Exists.intro 9 (And.intro (ok9_y0 ho0) (And.intro rfl (sm_calln h1 (Nat.le_of_ble_eq_true rfl) (Nat.le_of_ble_eq_true rfl) k2t))))))))))))))))))))))
set_option maxRecDepth 100000 in
theorem w_X9_groupOf_46 {ex : sm_O} {d n : Nat} {y : sm_Y} {I : Nat → Nat → Int32} {L : Nat → Nat → Int64} {R : Nat → Nat → Option Nat} {Q : sm_Q} {w0 : Option Value} {w1 : Option Value} {w3 : Option Value} {a2 : Int32} {a4 : Int32} {a5 : Int32} {s0 : Int32} {s1 : Int32} (k : sm_W ex d 0 0 69 19 [w0, w1, some (.int a2), some (.int (s1 ||| s0)), some (.int a4), some (.int (a5 + 1))] [] (n, y, I, L, R) Q) : sm_W ex d 0 0 69 46 [w0, w1, some (.int a2), w3, some (.int a4), some (.int a5)] [.int s0, .int s1] (n, y, I, L, R) Q := sm_in (sm_in (sm_in (And.intro (Nat.le_of_ble_eq_true rfl) (sm_in (And.intro (Nat.le_of_ble_eq_true rfl) (sm_in (k)))))))
set_option maxRecDepth 100000 in
theorem w_X9_alike_0 {ex : sm_O} {d n : Nat} {y : sm_Y} {I : Nat → Nat → Int32} {L : Nat → Nat → Int64} {R : Nat → Nat → Option Nat} {Q : sm_Q} {w0 : Option Value} {w1 : Option Value} {w3 : Option Value} {w4 : Option Value} {a2 : Int32} (k : sm_W ex d 0 0 70 5 [w0, w1, some (.int a2), some (.int 0), some (.int 0)] [] (n, y, I, L, R) Q) : sm_W ex d 0 0 70 0 [w0, w1, some (.int a2), w3, w4] [] (n, y, I, L, R) Q := sm_in (sm_in (And.intro (Nat.le_of_ble_eq_true rfl) (sm_in (sm_in (And.intro (Nat.le_of_ble_eq_true rfl) (k))))))
set_option maxRecDepth 100000 in
theorem w_X9_alike_5 {ex : sm_O} {d n : Nat} {y : sm_Y} {I : Nat → Nat → Int32} {L : Nat → Nat → Int64} {R : Nat → Nat → Option Nat} {Q : sm_Q} {w1 : Option Value} {a0 : Nat} {a2 : Int32} {a3 : Int32} {a4 : Int32} {d1 : Nat} (ho0 : ok9 y R a0) (h1 : d1 < d) (k : if (I a0 4) ≤ a4 then (Q (some (.int a3)) (n, y, I, L, R)) else (sm_W ex d1 0 0 68 0 [some (.ref a0), some (.int a2), some (.int a4)] [] (n, y, I, L, R) (fun r μ1 => sm_W ex d 0 0 70 22 [some (.ref a0), w1, some (.int a2), some (.int a3), some (.int a4)] (r.toList ++ [.int a3]) μ1 Q))) : sm_W ex d 0 0 70 5 [some (.ref a0), w1, some (.int a2), some (.int a3), some (.int a4)] [] (n, y, I, L, R) Q := sm_in (sm_in (sm_in (And.intro (ok9_y0 ho0) (sm_in (And.intro (fun c1 => have k1t := Eq.mp (if_pos c1) k; sm_in (sm_in (And.intro rfl k1t))) (fun c1 => have k1f := Eq.mp (if_neg c1) k; sm_in (sm_in (sm_in (sm_in (sm_in (Exists.intro 9 (And.intro (ok9_y0 ho0) (And.intro rfl (sm_calln h1 (Nat.le_of_ble_eq_true rfl) (Nat.le_of_ble_eq_true rfl) k1f))))))))))))))
set_option maxRecDepth 100000 in
theorem w_X9_alike_22 {ex : sm_O} {d n : Nat} {y : sm_Y} {I : Nat → Nat → Int32} {L : Nat → Nat → Int64} {R : Nat → Nat → Option Nat} {Q : sm_Q} {w0 : Option Value} {w3 : Option Value} {a1 : Int32} {a2 : Int32} {a4 : Int32} {s0 : Int32} {s1 : Int32} (k : if a1 < s0 then (sm_W ex d 0 0 70 5 [w0, some (.int a1), some (.int a2), some (.int (s1 ||| 0)), some (.int (a4 + 1))] [] (n, y, I, L, R) Q) else (sm_W ex d 0 0 70 5 [w0, some (.int a1), some (.int a2), some (.int (s1 ||| ((1 : Int32) <<< (a4 &&& 31)))), some (.int (a4 + 1))] [] (n, y, I, L, R) Q)) : sm_W ex d 0 0 70 22 [w0, some (.int a1), some (.int a2), w3, some (.int a4)] [.int s0, .int s1] (n, y, I, L, R) Q := sm_in (sm_in (And.intro (fun c1 => have k1t := Eq.mp (if_pos c1) k; sm_in (sm_in (sm_in (And.intro (Nat.le_of_ble_eq_true rfl) (sm_in (And.intro (Nat.le_of_ble_eq_true rfl) (sm_in (k1t)))))))) (fun c1 => have k1f := Eq.mp (if_neg c1) k; sm_in (sm_in (sm_in (sm_in (sm_in (sm_in (And.intro (Nat.le_of_ble_eq_true rfl) (sm_in (And.intro (Nat.le_of_ble_eq_true rfl) (sm_in (k1f)))))))))))))
set_option maxRecDepth 100000 in
theorem w_X9_groupCount_0 {ex : sm_O} {d n : Nat} {y : sm_Y} {I : Nat → Nat → Int32} {L : Nat → Nat → Int64} {R : Nat → Nat → Option Nat} {Q : sm_Q} {w0 : Option Value} {w2 : Option Value} {w3 : Option Value} {w4 : Option Value} {a1 : Int32} (k : sm_W ex d 0 0 71 4 [w0, some (.int a1), some (.int 0), some (.int 0), w4] [] (n, y, I, L, R) Q) : sm_W ex d 0 0 71 0 [w0, some (.int a1), w2, w3, w4] [] (n, y, I, L, R) Q := sm_in (sm_in (And.intro (Nat.le_of_ble_eq_true rfl) (sm_in (sm_in (And.intro (Nat.le_of_ble_eq_true rfl) (k))))))
set_option maxRecDepth 100000 in
theorem w_X9_groupCount_4 {ex : sm_O} {d n : Nat} {y : sm_Y} {I : Nat → Nat → Int32} {L : Nat → Nat → Int64} {R : Nat → Nat → Option Nat} {Q : sm_Q} {w4 : Option Value} {a0 : Nat} {a1 : Int32} {a2 : Int32} {a3 : Int32} {d1 : Nat} (ho0 : ok9 y R a0) (h1 : d1 < d) (k : if (I a0 4) ≤ a3 then (Q (some (.int a2)) (n, y, I, L, R)) else (sm_W ex d1 0 0 69 0 [some (.ref a0), some (.int a1), some (.int a3), none, none, none] [] (n, y, I, L, R) (fun r μ1 => sm_W ex d 0 0 71 18 [some (.ref a0), some (.int a1), some (.int a2), some (.int a3), w4] (r.toList ++ []) μ1 Q))) : sm_W ex d 0 0 71 4 [some (.ref a0), some (.int a1), some (.int a2), some (.int a3), w4] [] (n, y, I, L, R) Q := sm_in (sm_in (sm_in (And.intro (ok9_y0 ho0) (sm_in (And.intro (fun c1 => have k1t := Eq.mp (if_pos c1) k; sm_in (sm_in (And.intro rfl k1t))) (fun c1 => have k1f := Eq.mp (if_neg c1) k; sm_in (sm_in (sm_in (sm_in (Exists.intro 9 (And.intro (ok9_y0 ho0) (And.intro rfl (sm_calln h1 (Nat.le_of_ble_eq_true rfl) (Nat.le_of_ble_eq_true rfl) k1f)))))))))))))
set_option maxRecDepth 100000 in
theorem w_X9_groupCount_18 {ex : sm_O} {d n : Nat} {y : sm_Y} {I : Nat → Nat → Int32} {L : Nat → Nat → Int64} {R : Nat → Nat → Option Nat} {Q : sm_Q} {w0 : Option Value} {w4 : Option Value} {a1 : Int32} {a2 : Int32} {a3 : Int32} {s0 : Int32} (k : if (s0 &&& (((1 : Int32) <<< (a3 &&& 31)) - 1)) = 0 then (sm_W ex d 0 0 71 4 [w0, some (.int a1), some (.int (a2 + 1)), some (.int (a3 + 1)), some (.int (s0 &&& (((1 : Int32) <<< (a3 &&& 31)) - 1)))] [] (n, y, I, L, R) Q) else (sm_W ex d 0 0 71 4 [w0, some (.int a1), some (.int (a2 + 0)), some (.int (a3 + 1)), some (.int (s0 &&& (((1 : Int32) <<< (a3 &&& 31)) - 1)))] [] (n, y, I, L, R) Q)) : sm_W ex d 0 0 71 18 [w0, some (.int a1), some (.int a2), some (.int a3), w4] [.int s0] (n, y, I, L, R) Q := sm_in (sm_in (sm_in (sm_in (sm_in (sm_in (sm_in (And.intro (Nat.le_of_ble_eq_true rfl) (sm_in (sm_in (sm_in (And.intro (fun c1 => have k1f := Eq.mp (if_neg c1) k; sm_in (sm_in (sm_in (And.intro (Nat.le_of_ble_eq_true rfl) (sm_in (And.intro (Nat.le_of_ble_eq_true rfl) (sm_in (k1f)))))))) (fun c1 => have k1t := Eq.mp (if_pos c1) k; sm_in (sm_in (sm_in (sm_in (And.intro (Nat.le_of_ble_eq_true rfl) (sm_in (And.intro (Nat.le_of_ble_eq_true rfl) (sm_in (k1t))))))))))))))))))))
set_option maxRecDepth 100000 in
theorem w_X10_groups_0 {ex : sm_O} {d n : Nat} {y : sm_Y} {I : Nat → Nat → Int32} {L : Nat → Nat → Int64} {R : Nat → Nat → Option Nat} {Q : sm_Q} {a1 : Int32} {a2 : Int32} {d1 : Nat} (hG : sm_G y R) (hdep : 1 ≤ d) (h1 : d1 < d) (k : if a1 < 0 then (Q (some (.int (-1))) (n, y, I, L, R)) else (if a1 ≤ 6 then (if a2 = (-1) then (sm_W ex d1 0 0 71 0 [some (.ref 1), some (.int a1), none, none, none] [] (n, y, I, L, R) (fun r μ1 => sm_W ex d 0 0 99 25 [some (.ref 0), some (.int a1), some (.int a2)] (r.toList ++ []) μ1 Q)) else (if a2 < 0 then (Q (some (.int (-1))) (n, y, I, L, R)) else (if (I 1 4) ≤ a2 then (Q (some (.int (-1))) (n, y, I, L, R)) else (sm_W ex d1 0 0 69 0 [some (.ref 1), some (.int a1), some (.int a2), none, none, none] [] (n, y, I, L, R) (fun r μ1 => sm_W ex d 0 0 99 46 [some (.ref 0), some (.int a1), some (.int a2)] (r.toList ++ []) μ1 Q))))) else (Q (some (.int (-1))) (n, y, I, L, R)))) : sm_W ex d 0 0 99 0 [some (.ref 0), some (.int a1), some (.int a2)] [] (n, y, I, L, R) Q := sm_in (sm_in (And.intro (fun c1 => have k1t := Eq.mp (if_pos c1) k; sm_in (sm_in (And.intro rfl k1t))) (fun c1 => have k1f := Eq.mp (if_neg c1) k; sm_in (sm_in (sm_in (And.intro (fun c2 => have k2t := Eq.mp (if_pos c2) k1f; sm_in (sm_in (sm_in (And.intro (fun c3 => have k3f := Eq.mp (if_neg c3) k2t; sm_in (sm_in (And.intro (hG.1 0 (Nat.le_of_ble_eq_true rfl)) (sm_gfr rfl (hG.2 0 0 rfl) (sm_in (sm_in (Exists.intro 9 (And.intro (hG.1 1 (Nat.le_of_ble_eq_true rfl)) (And.intro rfl (sm_calln (d1 := 0) (Nat.lt_of_lt_of_le (Nat.le_of_ble_eq_true rfl : 0 < 1) hdep) (Nat.le_of_ble_eq_true rfl) (Nat.le_of_ble_eq_true rfl) (sm_in (sm_in (And.intro (fun c4 => have k4t := Eq.mp (if_pos c4) k3f; sm_in (sm_in (And.intro rfl (And.intro (Or.inl rfl) (sm_in (And.intro (fun _ => sm_in (sm_in (And.intro rfl k4t))) (fun c => absurd (by decide : (0 : Int32) = 0) c))))))) (fun c4 => have k4f := Eq.mp (if_neg c4) k3f; sm_in (sm_in (sm_in (And.intro (hG.1 1 (Nat.le_of_ble_eq_true rfl)) (sm_in (And.intro (fun c5 => have k5t := Eq.mp (if_pos c5) k4f; sm_in (sm_in (And.intro rfl (And.intro (Or.inl rfl) (sm_in (And.intro (fun _ => sm_in (sm_in (And.intro rfl k5t))) (fun c => absurd (by decide : (0 : Int32) = 0) c))))))) (fun c5 => have k5f := Eq.mp (if_neg c5) k4f; sm_in (sm_in (sm_in (And.intro rfl (And.intro (Or.inr rfl) (sm_in (And.intro (fun c => absurd c (by decide : ¬ (1 : Int32) = 0)) (fun _ => sm_in (sm_in (And.intro (hG.1 0 (Nat.le_of_ble_eq_true rfl)) (sm_gfr rfl (hG.2 0 0 rfl) (sm_in (sm_in (sm_in (Exists.intro 9 (And.intro (hG.1 1 (Nat.le_of_ble_eq_true rfl)) (And.intro rfl (sm_calln h1 (Nat.le_of_ble_eq_true rfl) (Nat.le_of_ble_eq_true rfl) k5f))))))))))))))))))))))))))))))))))))) (fun c3 => have k3t := Eq.mp (if_pos c3) k2t; sm_in (sm_in (And.intro (hG.1 0 (Nat.le_of_ble_eq_true rfl)) (sm_gfr rfl (hG.2 0 0 rfl) (sm_in (sm_in (Exists.intro 9 (And.intro (hG.1 1 (Nat.le_of_ble_eq_true rfl)) (And.intro rfl (sm_calln h1 (Nat.le_of_ble_eq_true rfl) (Nat.le_of_ble_eq_true rfl) k3t)))))))))))))) (fun c2 => have k2f := Eq.mp (if_neg c2) k1f; sm_in (sm_in (And.intro rfl k2f)))))))))
set_option maxRecDepth 100000 in
theorem w_X10_groups_25 {ex : sm_O} {d n : Nat} {y : sm_Y} {I : Nat → Nat → Int32} {L : Nat → Nat → Int64} {R : Nat → Nat → Option Nat} {Q : sm_Q} {w0 : Option Value} {w1 : Option Value} {w2 : Option Value} {s0 : Int32} (k : Q (some (.int s0)) (n, y, I, L, R)) : sm_W ex d 0 0 99 25 [w0, w1, w2] [.int s0] (n, y, I, L, R) Q := sm_in (And.intro rfl k)
set_option maxRecDepth 100000 in
theorem w_X10_groups_46 {ex : sm_O} {d n : Nat} {y : sm_Y} {I : Nat → Nat → Int32} {L : Nat → Nat → Int64} {R : Nat → Nat → Option Nat} {Q : sm_Q} {w0 : Option Value} {w1 : Option Value} {w2 : Option Value} {s0 : Int32} (k : Q (some (.int s0)) (n, y, I, L, R)) : sm_W ex d 0 0 99 46 [w0, w1, w2] [.int s0] (n, y, I, L, R) Q := sm_in (sm_in (And.intro rfl k))
set_option maxRecDepth 100000 in
theorem w_X11_groupOf_0 {ex : sm_O} {d n : Nat} {y : sm_Y} {I : Nat → Nat → Int32} {L : Nat → Nat → Int64} {R : Nat → Nat → Option Nat} {Q : sm_Q} {w0 : Option Value} {w1 : Option Value} {w3 : Option Value} {w4 : Option Value} {w5 : Option Value} {w6 : Option Value} {a2 : Int32} (k : sm_W ex d 0 0 217 7 [w0, w1, some (.int a2), some (.int ((1 : Int32) <<< (a2 &&& 31))), some (.int 0), w5, w6] [] (n, y, I, L, R) Q) : sm_W ex d 0 0 217 0 [w0, w1, some (.int a2), w3, w4, w5, w6] [] (n, y, I, L, R) Q := sm_in (sm_in (sm_in (sm_in (And.intro (Nat.le_of_ble_eq_true rfl) (sm_in (sm_in (And.intro (Nat.le_of_ble_eq_true rfl) (k))))))))
set_option maxRecDepth 100000 in
theorem w_X11_groupOf_7 {ex : sm_O} {d n : Nat} {y : sm_Y} {I : Nat → Nat → Int32} {L : Nat → Nat → Int64} {R : Nat → Nat → Option Nat} {Q : sm_Q} {w1 : Option Value} {w2 : Option Value} {w5 : Option Value} {w6 : Option Value} {a3 : Int32} {a4 : Int32} (hG : sm_G y R) (k : if (I 125 0) ≤ a4 then (Q (some (.int a3)) (n, y, I, L, R)) else (sm_W ex d 0 0 217 21 [some (.ref 123), w1, w2, some (.int a3), some (.int a4), some (.int 0), w6] [] (n, y, I, L, R) Q)) : sm_W ex d 0 0 217 7 [some (.ref 123), w1, w2, some (.int a3), some (.int a4), w5, w6] [] (n, y, I, L, R) Q := sm_in (sm_in (sm_in (And.intro (hG.1 123 (Nat.le_of_ble_eq_true rfl)) (sm_gfr rfl (hG.2 123 3 rfl) (sm_in (sm_in (Exists.intro 5450 (And.intro (hG.1 125 (Nat.le_of_ble_eq_true rfl)) (And.intro (sm_lin (by decide)) (sm_in (And.intro (fun c1 => have k1t := Eq.mp (if_pos c1) k; sm_in (sm_in (And.intro rfl k1t))) (fun c1 => have k1f := Eq.mp (if_neg c1) k; sm_in (sm_in (And.intro (Nat.le_of_ble_eq_true rfl) (k1f)))))))))))))))
set_option maxRecDepth 100000 in
theorem w_X11_groupOf_21 {ex : sm_O} {d n : Nat} {y : sm_Y} {I : Nat → Nat → Int32} {L : Nat → Nat → Int64} {R : Nat → Nat → Option Nat} {Q : sm_Q} {w1 : Option Value} {w2 : Option Value} {w6 : Option Value} {a3 : Int32} {a4 : Int32} {a5 : Int32} (hG : sm_G y R) (k : if (I 125 0) ≤ a5 then (sm_W ex d 0 0 217 7 [some (.ref 123), w1, w2, some (.int a3), some (.int (a4 + 1)), some (.int a5), w6] [] (n, y, I, L, R) Q) else (sm_W ex d 0 0 217 35 [some (.ref 123), w1, w2, some (.int a3), some (.int a4), some (.int a5), some (.int 0)] [] (n, y, I, L, R) Q)) : sm_W ex d 0 0 217 21 [some (.ref 123), w1, w2, some (.int a3), some (.int a4), some (.int a5), w6] [] (n, y, I, L, R) Q := sm_in (sm_in (sm_in (And.intro (hG.1 123 (Nat.le_of_ble_eq_true rfl)) (sm_gfr rfl (hG.2 123 3 rfl) (sm_in (sm_in (Exists.intro 5450 (And.intro (hG.1 125 (Nat.le_of_ble_eq_true rfl)) (And.intro (sm_lin (by decide)) (sm_in (And.intro (fun c1 => have k1t := Eq.mp (if_pos c1) k; sm_in (And.intro (Nat.le_of_ble_eq_true rfl) (sm_in (k1t)))) (fun c1 => have k1f := Eq.mp (if_neg c1) k; sm_in (sm_in (And.intro (Nat.le_of_ble_eq_true rfl) (k1f)))))))))))))))
set_option maxRecDepth 100000 in
theorem w_X11_groupOf_35 {ex : sm_O} {d n : Nat} {y : sm_Y} {I : Nat → Nat → Int32} {L : Nat → Nat → Int64} {R : Nat → Nat → Option Nat} {Q : sm_Q} {w1 : Option Value} {a2 : Int32} {a3 : Int32} {a4 : Int32} {a5 : Int32} {a6 : Int32} {d1 : Nat} (hG : sm_G y R) (hdep : 1 ≤ d) (h1 : d1 < d) (k : if (I 125 0) ≤ a6 then (sm_W ex d 0 0 217 21 [some (.ref 123), w1, some (.int a2), some (.int a3), some (.int a4), some (.int (a5 + 1)), some (.int a6)] [] (n, y, I, L, R) Q) else (if (a3 >>> (a5 &&& 31)) &&& 1 = 1 then (sm_W ex d1 0 0 140 0 [some (.ref 123), some (.int a5), some (.int a6), none, none] [] (n, y, I, L, R) (fun r μ1 => sm_W ex d 0 0 217 64 [some (.ref 123), w1, some (.int a2), some (.int a3), some (.int a4), some (.int a5), some (.int a6)] (r.toList ++ [.int a3]) μ1 Q)) else (sm_W ex d 0 0 217 35 [some (.ref 123), w1, some (.int a2), some (.int (a3 ||| 0)), some (.int a4), some (.int a5), some (.int (a6 + 1))] [] (n, y, I, L, R) Q))) : sm_W ex d 0 0 217 35 [some (.ref 123), w1, some (.int a2), some (.int a3), some (.int a4), some (.int a5), some (.int a6)] [] (n, y, I, L, R) Q := sm_in (sm_in (sm_in (And.intro (hG.1 123 (Nat.le_of_ble_eq_true rfl)) (sm_gfr rfl (hG.2 123 3 rfl) (sm_in (sm_in (Exists.intro 5450 (And.intro (hG.1 125 (Nat.le_of_ble_eq_true rfl)) (And.intro (sm_lin (by decide)) (sm_in (And.intro (fun c1 => have k1t := Eq.mp (if_pos c1) k; sm_in (And.intro (Nat.le_of_ble_eq_true rfl) (sm_in (k1t)))) (fun c1 => have k1f := Eq.mp (if_neg c1) k; sm_in (sm_in (sm_in (sm_in (And.intro (Nat.le_of_ble_eq_true rfl) (sm_calln (d1 := 0) (Nat.lt_of_lt_of_le (Nat.lt_succ_self 0) (Nat.le_trans (Nat.le_of_ble_eq_true rfl) hdep)) (Nat.le_of_ble_eq_true rfl) (Nat.le_of_ble_eq_true rfl) (c_X11_is  (sm_in (And.intro (fun c2 => have k2f := Eq.mp (if_neg (sm_b_0.mp c2)) k1f; sm_in (sm_in (sm_in (And.intro (Nat.le_of_ble_eq_true rfl) (sm_in (And.intro (Nat.le_of_ble_eq_true rfl) (sm_in (k2f)))))))) (fun c2 => have k2t := Eq.mp (if_pos (sm_b_n.mp c2)) k1f; sm_in (sm_in (sm_in (sm_in (Exists.intro 11 (And.intro (hG.1 123 (Nat.le_of_ble_eq_true rfl)) (And.intro rfl (sm_calln h1 (Nat.le_of_ble_eq_true rfl) (Nat.le_of_ble_eq_true rfl) k2t))))))))))))))))))))))))))))
set_option maxRecDepth 100000 in
theorem w_X11_groupOf_64 {ex : sm_O} {d n : Nat} {y : sm_Y} {I : Nat → Nat → Int32} {L : Nat → Nat → Int64} {R : Nat → Nat → Option Nat} {Q : sm_Q} {w0 : Option Value} {w3 : Option Value} {w4 : Option Value} {a1 : Int32} {a2 : Int32} {a5 : Int32} {a6 : Int32} {s0 : Int32} {s1 : Int32} (k : if a1 < s0 then (sm_W ex d 0 0 217 35 [w0, some (.int a1), some (.int a2), some (.int (s1 ||| 0)), w4, some (.int a5), some (.int (a6 + 1))] [] (n, y, I, L, R) Q) else (sm_W ex d 0 0 217 35 [w0, some (.int a1), some (.int a2), some (.int (s1 ||| ((1 : Int32) <<< (a6 &&& 31)))), w4, some (.int a5), some (.int (a6 + 1))] [] (n, y, I, L, R) Q)) : sm_W ex d 0 0 217 64 [w0, some (.int a1), some (.int a2), w3, w4, some (.int a5), some (.int a6)] [.int s0, .int s1] (n, y, I, L, R) Q := sm_in (sm_in (And.intro (fun c1 => have k1t := Eq.mp (if_pos c1) k; sm_in (sm_in (sm_in (And.intro (Nat.le_of_ble_eq_true rfl) (sm_in (And.intro (Nat.le_of_ble_eq_true rfl) (sm_in (k1t)))))))) (fun c1 => have k1f := Eq.mp (if_neg c1) k; sm_in (sm_in (sm_in (sm_in (sm_in (sm_in (And.intro (Nat.le_of_ble_eq_true rfl) (sm_in (And.intro (Nat.le_of_ble_eq_true rfl) (sm_in (k1f)))))))))))))
set_option maxRecDepth 100000 in
theorem w_X11_groups_0 {ex : sm_O} {d n : Nat} {y : sm_Y} {I : Nat → Nat → Int32} {L : Nat → Nat → Int64} {R : Nat → Nat → Option Nat} {Q : sm_Q} {w3 : Option Value} {w4 : Option Value} {w5 : Option Value} {a1 : Int32} {a2 : Int32} {d1 : Nat} (hG : sm_G y R) (hdep : 2 ≤ d) (h1 : d1 < d) (k : if (0 : Int64) ≤ a1.toInt64 ∧ a1.toInt64 ≤ (6 : Int64) then (if a2 = (-1) then (sm_W ex d 0 0 218 52 [some (.ref 123), some (.int a1), some (.int a2), some (.int 0), some (.int 0), some (.int 0)] [] (n, y, sm_st I 123 0 0, L, R) Q) else (if 0 ≤ a2 ∧ a2 < I 125 0 then (sm_W ex d1 0 0 217 0 [some (.ref 123), some (.int a1), some (.int a2), none, none, none, none] [] (n, y, sm_st I 123 0 0, L, R) (fun r μ1 => sm_W ex d 0 0 218 43 [some (.ref 123), some (.int a1), some (.int a2), w3, w4, w5] (r.toList ++ []) μ1 Q)) else (Q (some (.int (-1))) (n, y, sm_st I 123 0 0, L, R)))) else (Q (some (.int (-1))) (n, y, sm_st I 123 0 0, L, R))) : sm_W ex d 0 0 218 0 [some (.ref 123), some (.int a1), some (.int a2), w3, w4, w5] [] (n, y, I, L, R) Q := sm_in (sm_in (sm_in (And.intro (hG.1 123 (Nat.le_of_ble_eq_true rfl)) (sm_in (sm_in (sm_in (sm_in (sm_in (And.intro (Nat.le_of_ble_eq_true rfl) (sm_calln (d1 := 0) (Nat.lt_of_lt_of_le (Nat.lt_succ_self 0) (Nat.le_trans (Nat.le_of_ble_eq_true rfl) hdep)) (Nat.le_of_ble_eq_true rfl) (Nat.le_of_ble_eq_true rfl) (c_X11_in  (sm_in (And.intro (fun c1 => have k1f := Eq.mp (if_neg (sm_b_0.mp c1)) k; sm_in (sm_in (And.intro rfl k1f))) (fun c1 => have k1t := Eq.mp (if_pos (sm_b_n.mp c1)) k; sm_in (sm_in (sm_in (And.intro (fun c2 => have k2t := Eq.mp (if_pos c2) k1t; sm_in (sm_in (sm_in (And.intro (fun _ => sm_in (sm_in (And.intro (Nat.le_of_ble_eq_true rfl) (sm_in (sm_in (And.intro (Nat.le_of_ble_eq_true rfl) (sm_in (sm_in (And.intro (Nat.le_of_ble_eq_true rfl) (k2t)))))))))) (fun c => absurd c2 c))))) (fun c2 => have k2f := Eq.mp (if_neg c2) k1t; sm_in (sm_in (sm_in (Exists.intro 11 (And.intro (hG.1 123 (Nat.le_of_ble_eq_true rfl)) (And.intro rfl (sm_calln (d1 := 1) (Nat.lt_of_lt_of_le (Nat.lt_succ_self 1) (Nat.le_trans (Nat.le_of_ble_eq_true rfl) hdep)) (Nat.le_of_ble_eq_true rfl) (Nat.le_of_ble_eq_true rfl) (c_X11_isMan hG (sm_in (And.intro (fun c3 => have k3t := Eq.mp (if_pos (sm_b_n.mp c3)) k2f; sm_in (sm_in (sm_in (And.intro (fun c => absurd c c2) (fun _ => sm_in (sm_in (sm_in (sm_in (Exists.intro 11 (And.intro (hG.1 123 (Nat.le_of_ble_eq_true rfl)) (And.intro rfl (sm_calln h1 (Nat.le_of_ble_eq_true rfl) (Nat.le_of_ble_eq_true rfl) k3t)))))))))))) (fun c3 => have k3f := Eq.mp (if_neg (sm_b_0.mp c3)) k2f; sm_in (sm_in (And.intro rfl k3f))))))))))))))))))))))))))))))
set_option maxRecDepth 100000 in
theorem w_X11_groups_43 {ex : sm_O} {d n : Nat} {y : sm_Y} {I : Nat → Nat → Int32} {L : Nat → Nat → Int64} {R : Nat → Nat → Option Nat} {Q : sm_Q} {w0 : Option Value} {w1 : Option Value} {w2 : Option Value} {w3 : Option Value} {w4 : Option Value} {w5 : Option Value} {s0 : Int32} (k : Q (some (.int s0)) (n, y, I, L, R)) : sm_W ex d 0 0 218 43 [w0, w1, w2, w3, w4, w5] [.int s0] (n, y, I, L, R) Q := sm_in (And.intro rfl k)
set_option maxRecDepth 100000 in
theorem w_X11_groups_52 {ex : sm_O} {d n : Nat} {y : sm_Y} {I : Nat → Nat → Int32} {L : Nat → Nat → Int64} {R : Nat → Nat → Option Nat} {Q : sm_Q} {a1 : Int32} {a2 : Int32} {a3 : Int32} {a4 : Int32} {a5 : Int32} {d1 : Nat} (hG : sm_G y R) (hdep : 1 ≤ d) (h1 : d1 < d) (k : if (I 125 0) ≤ a5 then (Q (some (.int a3)) (n, y, I, L, R)) else (if (a4 >>> (a5 &&& 31)) &&& 1 = 1 then (sm_W ex d1 0 0 217 0 [some (.ref 123), some (.int a1), some (.int a5), none, none, none, none] [] (n, y, I, L, R) (fun r μ1 => sm_W ex d 0 0 218 90 [some (.ref 123), some (.int a1), some (.int a2), some (.int (a3 + 0)), some (.int a4), some (.int a5)] (r.toList ++ [.int a4]) μ1 Q)) else (sm_W ex d1 0 0 217 0 [some (.ref 123), some (.int a1), some (.int a5), none, none, none, none] [] (n, y, I, L, R) (fun r μ1 => sm_W ex d 0 0 218 90 [some (.ref 123), some (.int a1), some (.int a2), some (.int (a3 + 1)), some (.int a4), some (.int a5)] (r.toList ++ [.int a4]) μ1 Q)))) : sm_W ex d 0 0 218 52 [some (.ref 123), some (.int a1), some (.int a2), some (.int a3), some (.int a4), some (.int a5)] [] (n, y, I, L, R) Q := sm_in (sm_in (sm_in (And.intro (hG.1 123 (Nat.le_of_ble_eq_true rfl)) (sm_gfr rfl (hG.2 123 3 rfl) (sm_in (sm_in (Exists.intro 5450 (And.intro (hG.1 125 (Nat.le_of_ble_eq_true rfl)) (And.intro (sm_lin (by decide)) (sm_in (And.intro (fun c1 => have k1t := Eq.mp (if_pos c1) k; sm_in (sm_in (And.intro rfl k1t))) (fun c1 => have k1f := Eq.mp (if_neg c1) k; sm_in (sm_in (sm_in (sm_in (And.intro (Nat.le_of_ble_eq_true rfl) (sm_calln (d1 := 0) (Nat.lt_of_lt_of_le (Nat.lt_succ_self 0) (Nat.le_trans (Nat.le_of_ble_eq_true rfl) hdep)) (Nat.le_of_ble_eq_true rfl) (Nat.le_of_ble_eq_true rfl) (c_X11_is  (sm_in (And.intro (fun c2 => have k2f := Eq.mp (if_neg (sm_b_0.mp c2)) k1f; sm_in (sm_in (sm_in (And.intro (Nat.le_of_ble_eq_true rfl) (sm_in (sm_in (sm_in (sm_in (sm_in (Exists.intro 11 (And.intro (hG.1 123 (Nat.le_of_ble_eq_true rfl)) (And.intro rfl (sm_calln h1 (Nat.le_of_ble_eq_true rfl) (Nat.le_of_ble_eq_true rfl) k2f))))))))))))) (fun c2 => have k2t := Eq.mp (if_pos (sm_b_n.mp c2)) k1f; sm_in (sm_in (sm_in (sm_in (And.intro (Nat.le_of_ble_eq_true rfl) (sm_in (sm_in (sm_in (sm_in (sm_in (Exists.intro 11 (And.intro (hG.1 123 (Nat.le_of_ble_eq_true rfl)) (And.intro rfl (sm_calln h1 (Nat.le_of_ble_eq_true rfl) (Nat.le_of_ble_eq_true rfl) k2t))))))))))))))))))))))))))))))))))
set_option maxRecDepth 100000 in
theorem w_X11_groups_90 {ex : sm_O} {d n : Nat} {y : sm_Y} {I : Nat → Nat → Int32} {L : Nat → Nat → Int64} {R : Nat → Nat → Option Nat} {Q : sm_Q} {w0 : Option Value} {w1 : Option Value} {w2 : Option Value} {w4 : Option Value} {a3 : Int32} {a5 : Int32} {s0 : Int32} {s1 : Int32} (k : sm_W ex d 0 0 218 52 [w0, w1, w2, some (.int a3), some (.int (s1 ||| s0)), some (.int (a5 + 1))] [] (n, y, I, L, R) Q) : sm_W ex d 0 0 218 90 [w0, w1, w2, some (.int a3), w4, some (.int a5)] [.int s0, .int s1] (n, y, I, L, R) Q := sm_in (sm_in (And.intro (Nat.le_of_ble_eq_true rfl) (sm_in (And.intro (Nat.le_of_ble_eq_true rfl) (sm_in (k))))))
-- LIKEST, GROUPS
theorem sp_unlike_symm (s : St) (a b : Nat) : sp_unlike s a b = sp_unlike s b a := by
  unfold sp_unlike
  congr 1
  funext f
  cases (sLook s a).testBit f <;> cases (sLook s b).testBit f <;> rfl
theorem sp_unlike_le (s : St) (a b : Nat) : sp_unlike s a b ≤ 6 := sp_pop_le _ 6
def lkB (s : St) (m : Nat) : Nat → Option Nat
  | 0 => none
  | j + 1 => if j = m then lkB s m j else match lkB s m j with
    | none => some j
    | some x => if sp_unlike s m j < sp_unlike s m x then some j else some x
theorem lkB_lt (s : St) (m : Nat) : ∀ j x, lkB s m j = some x → x < j
  | 0, x, h => by cases h
  | j + 1, x, h => by
    have ih := lkB_lt s m j
    unfold lkB at h
    split at h
    · have := ih x h; omega
    · split at h
      · cases h; omega
      · rename_i z hz
        split at h
        · cases h; omega
        · cases h
          have := ih _ hz
          omega
def lkM (s : St) (m : Nat) (o : Option Nat) : Int32 := match o with
  | none => 100000000
  | some x => nI (sp_unlike s m x)
def f_likest (g : GG) (a : Int32) : Int32 := if 0 ≤ a ∧ a < nI (sMen (gS g)) then sp_up (lkB (gS g) a.toNatClampNeg (sMen (gS g))) else -1
theorem C_likest {ex : sm_O} {d : Nat} {w2 w3 : Option Value} {g : GG} {a : Int32} (hd : 2 ≤ d) (hw : Wf g) : CM ex d 100 [some (.ref 0), some (.int a), w2, w3] g (f_likest g a) g := by
  intro n y I L R Q hc k
  have hs := hc.2.2.1
  have hG := hc.2.1
  have hok : sp_ok (gS g) := hw.1.1.1
  have h7 : sMen (gS g) ≤ 7 := hok.1
  have k := k I L hc (cKeep.rfl' I L)
  unfold f_likest at k
  refine w_X10_likest_0 hG (by omega) ?_
  rw [hs.1]
  by_cases q1 : a < 0
  · rw [if_pos q1]
    rw [if_neg (fun z => absurd q1 (Int32.not_lt.mpr z.1))] at k
    exact k
  rw [if_neg q1]
  by_cases q2 : nI (sMen (gS g)) ≤ a
  · rw [if_pos q2]
    rw [if_neg (fun z => absurd z.2 (Int32.not_lt.mpr q2))] at k
    exact k
  rw [if_neg q2]
  have hall : 0 ≤ a ∧ a < nI (sMen (gS g)) := ⟨Int32.not_lt.mp q1, Int32.not_le.mp q2⟩
  rw [if_pos hall] at k
  obtain ⟨m, rfl, hm⟩ := nat_man h7 hall
  rw [nI_clamp (by omega)] at k
  have key : ∀ (q j : Nat), j + q = sMen (gS g) → sm_W ex d 0 0 100 17 [some (.ref 0), some (.int (nI m)), some (.int (sp_up (lkB (gS g) m j))), some (.int (nI j))] [] (n, y, I, L, R) Q := by
    intro q
    induction q with
    | zero =>
      intro j hj
      obtain rfl : j = sMen (gS g) := by omega
      refine w_X10_likest_17 (d1 := 1) hG (by omega) ?_
      rw [hs.1, if_pos (Int32.le_refl _)]
      exact k
    | succ q ih =>
      intro j hj
      have nx := ih (j + 1) (by omega)
      refine w_X10_likest_17 (d1 := 1) hG (by omega) ?_
      rw [hs.1, if_neg (by rw [nI_leI (by omega) (by omega)]; omega), sm_n1]
      simp only [nI_eq (show j < 2 ^ 31 by omega) (show m < 2 ^ 31 by omega)]
      by_cases hjm : j = m
      · rw [if_pos hjm]
        have e : lkB (gS g) m (j + 1) = lkB (gS g) m j := by show (if _ then _ else _) = _; rw [if_pos hjm]
        rw [e] at nx
        exact nx
      · rw [if_neg hjm]
        cases hl : lkB (gS g) m j with
        | none =>
          have e : lkB (gS g) m (j + 1) = some j := by show (if _ then _ else _) = _; rw [if_neg hjm, hl]
          rw [e] at nx
          rw [if_pos (show sp_up none = -1 from rfl)]
          exact nx
        | some x =>
          have hx := lkB_lt (gS g) m j x hl
          rw [if_neg (show ¬ sp_up (some x) = -1 from nI_m1 (by omega))]
          refine c_X9_unlike (Nat.le_refl 1) (mk1 hG).1 hs hok hm (by omega) ?_
          refine w_X10_likest_47 (d1 := 1) hG (by omega) ?_
          refine c_X9_unlike (Nat.le_refl 1) (mk1 hG).1 hs hok hm (by omega) ?_
          refine w_X10_likest_56 ?_
          rw [sm_n1]
          have u1 := sp_unlike_le (gS g) m j
          have u2 := sp_unlike_le (gS g) m x
          have e : lkB (gS g) m (j + 1) = if sp_unlike (gS g) m j < sp_unlike (gS g) m x then some j else some x := by show (if _ then _ else _) = _; rw [if_neg hjm, hl]
          rw [e] at nx
          by_cases hlt : sp_unlike (gS g) m j < sp_unlike (gS g) m x
          · rw [if_pos hlt] at nx
            rw [if_neg (by rw [nI_leI (by omega) (by omega)]; omega)]
            exact nx
          · rw [if_neg hlt] at nx
            rw [if_pos (by rw [nI_leI (by omega) (by omega)]; omega)]
            exact nx
  exact key (sMen (gS g)) 0 (by omega)
theorem M_likest {ex : sm_O} {d : Nat} {w2 w3 w4 w5 : Option Value} {g : GG} {a : Int32} (hd : 2 ≤ d) (hw : Wf g) : MM ex d 219 [some (.ref 123), some (.int a), w2, w3, w4, w5] g (f_likest g a) g := by
  intro n y I0 L R Q hG hm k
  have hok : sp_ok (gS g) := hw.1.1.1
  have h7 : sMen (gS g) ≤ 7 := hok.1
  have e0 := hm.1.1
  have hm := MI_thr hm
  have k := k _ L hm (mKeep_thr I0)
  unfold f_likest at k
  refine w_X11_likest_0 hG (by omega) ?_
  rw [e0]
  generalize sm_st I0 123 0 0 = I at hm k ⊢
  by_cases q1 : 0 ≤ a ∧ a < nI (sMen (gS g))
  · rw [if_pos q1] at k ⊢
    obtain ⟨m, rfl, hmm⟩ := nat_man h7 q1
    rw [nI_clamp (by omega)] at k
    have key : ∀ (q j : Nat) (u5 : Option Value), j + q = sMen (gS g) → sm_W ex d 0 0 219 24 [some (.ref 123), some (.int (nI m)), some (.int (lkM (gS g) m (lkB (gS g) m j))), some (.int (sp_up (lkB (gS g) m j))), some (.int (nI j)), u5] [] (n, y, I, L, R) Q := by
      intro q
      induction q with
      | zero =>
        intro j u5 hj
        obtain rfl : j = sMen (gS g) := by omega
        refine w_X11_likest_24 (d1 := 1) hG (by omega) ?_
        rw [hm.1.1, if_pos (Int32.le_refl _)]
        exact k
      | succ q ih =>
        intro j u5 hj
        have nx := fun u5 => ih (j + 1) u5 (by omega)
        refine w_X11_likest_24 (d1 := 1) hG (by omega) ?_
        rw [hm.1.1, if_neg (by rw [nI_leI (by omega) (by omega)]; omega)]
        simp only [nI_eq (show j < 2 ^ 31 by omega) (show m < 2 ^ 31 by omega)]
        have hM : lkM (gS g) m (lkB (gS g) m j) ≤ 100000000 := by
          cases lkB (gS g) m j with
          | none => exact Int32.le_refl _
          | some x =>
            have u2 := sp_unlike_le (gS g) m x
            show nI (sp_unlike (gS g) m x) ≤ nI 100000000
            rw [nI_leI (by omega) (by omega)]
            omega
        by_cases hjm : j = m
        · rw [if_pos hjm]
          refine w_X11_likest_54 ?_
          rw [sm_n1, if_pos hM]
          have e : lkB (gS g) m (j + 1) = lkB (gS g) m j := by show (if _ then _ else _) = _; rw [if_pos hjm]
          rw [e] at nx
          exact nx _
        · rw [if_neg hjm]
          refine c_X11_unlike (s := gS g) (Nat.le_refl 1) hG hm.1 hok (by omega) hmm ?_
          refine w_X11_likest_54 ?_
          rw [sm_n1, sp_unlike_symm (gS g) j m]
          have u1 := sp_unlike_le (gS g) m j
          cases hl : lkB (gS g) m j with
          | none =>
            have e : lkB (gS g) m (j + 1) = some j := by show (if _ then _ else _) = _; rw [if_neg hjm, hl]
            rw [e] at nx
            rw [if_neg (by show ¬ nI 100000000 ≤ _; rw [nI_leI (by omega) (by omega)]; omega)]
            exact nx _
          | some x =>
            have u2 := sp_unlike_le (gS g) m x
            have e : lkB (gS g) m (j + 1) = if sp_unlike (gS g) m j < sp_unlike (gS g) m x then some j else some x := by show (if _ then _ else _) = _; rw [if_neg hjm, hl]
            rw [e] at nx
            by_cases hlt : sp_unlike (gS g) m j < sp_unlike (gS g) m x
            · rw [if_pos hlt] at nx
              rw [if_neg (by show ¬ nI _ ≤ _; rw [nI_leI (by omega) (by omega)]; omega)]
              exact nx _
            · rw [if_neg hlt] at nx
              rw [if_pos (by show nI _ ≤ _; rw [nI_leI (by omega) (by omega)]; omega)]
              exact nx _
    exact key (sMen (gS g)) 0 _ (by omega)
  · rw [if_neg q1] at k ⊢
    exact k
-- groups
def gpA (s : St) (h m : Nat) : Nat := sp_bits (fun o => decide (sp_unlike s m o ≤ h)) (sMen s)
def gp1 (s : St) (h : Nat) : Nat → Nat → Nat
  | 0, G => G
  | j + 1, G => if (gp1 s h j G).testBit j = true then gp1 s h j G ||| gpA s h j else gp1 s h j G
def gpN (s : St) (h : Nat) : Nat → Nat → Nat
  | 0, G => G
  | r + 1, G => gp1 s h (sMen s) (gpN s h r G)
theorem gpA_lt (s : St) (h m : Nat) : gpA s h m < 2 ^ sMen s := sp_bits_lt _ _
theorem gpA_tb (s : St) (h m o : Nat) : (gpA s h m).testBit o = (decide (o < sMen s) && decide (sp_unlike s m o ≤ h)) := sp_bits_tb _ _ _
theorem gp1_lt {s : St} {h G : Nat} (hG : G < 2 ^ sMen s) : ∀ j, gp1 s h j G < 2 ^ sMen s
  | 0 => hG
  | j + 1 => by
    unfold gp1
    split
    · exact Nat.or_lt_two_pow (gp1_lt hG j) (gpA_lt s h j)
    · exact gp1_lt hG j
theorem gpN_lt {s : St} {h G : Nat} (hG : G < 2 ^ sMen s) : ∀ r, gpN s h r G < 2 ^ sMen s
  | 0 => hG
  | r + 1 => gp1_lt (gpN_lt hG r) _
/-- more is kept -/
theorem gp1_mono {s : St} {h G i : Nat} (hi : G.testBit i = true) : ∀ j, (gp1 s h j G).testBit i = true
  | 0 => hi
  | j + 1 => by
    have := gp1_mono (s := s) (h := h) hi j
    unfold gp1
    split
    · rw [Nat.testBit_or, this]
      rfl
    · exact this
theorem gp1_mono2 {s : St} {h G i : Nat} : ∀ j j', j ≤ j' → (gp1 s h j G).testBit i = true → (gp1 s h j' G).testBit i = true := by
  intro j j' hj hi
  induction j' with
  | zero =>
    obtain rfl : j = 0 := by omega
    exact hi
  | succ j' ih =>
    by_cases e : j = j' + 1
    · rw [← e]; exact hi
    · have := ih (by omega)
      unfold gp1
      split
      · rw [Nat.testBit_or, this]
        rfl
      · exact this
/-- who is alike one that is in is in behind a round -/
theorem gp1_next {s : St} {h G i o : Nat} (hi : i < sMen s) (hin : G.testBit i = true) (ho : o < sMen s) (hu : sp_unlike s i o ≤ h) : (gp1 s h (sMen s) G).testBit o = true := by
  refine gp1_mono2 (i + 1) (sMen s) (by omega) ?_
  unfold gp1
  rw [if_pos (gp1_mono hin i), Nat.testBit_or, gpA_tb, decide_eq_true ho, decide_eq_true hu]
  simp
def gpC (s : St) (h C : Nat) : Prop := ∀ i o, i < sMen s → o < sMen s → C.testBit i = true → sp_unlike s i o ≤ h → C.testBit o = true
/-- all that is in leads back -/
theorem gp1_inv {s : St} {h m G : Nat} (hG : ∀ x, x < sMen s → G.testBit x = true → ∀ C, gpC s h C → C.testBit x = true → C.testBit m = true) : ∀ j, j ≤ sMen s → ∀ x, x < sMen s → (gp1 s h j G).testBit x = true → ∀ C, gpC s h C → C.testBit x = true → C.testBit m = true := by
  intro j
  induction j with
  | zero => intro _; exact hG
  | succ j ih =>
    intro hj x hx hin C hC hxC
    unfold gp1 at hin
    split at hin
    · rename_i hjin
      rw [Nat.testBit_or, Bool.or_eq_true] at hin
      rcases hin with q | q
      · exact ih (by omega) x hx q C hC hxC
      · rw [gpA_tb, Bool.and_eq_true] at q
        have hu := of_decide_eq_true q.2
        refine ih (by omega) j (by omega) hjin C hC (hC x j hx (by omega) hxC ?_)
        rw [sp_unlike_symm]
        exact hu
    · exact ih (by omega) x hx hin C hC hxC
theorem gpN_inv {s : St} {h m : Nat} : ∀ r x, x < sMen s → (gpN s h r (2 ^ m)).testBit x = true → ∀ C, gpC s h C → C.testBit x = true → C.testBit m = true
  | 0, x, _, hin, C, _, hxC => by
    have : m = x := by
      have hin : (2 ^ m).testBit x = true := hin
      rw [Nat.testBit_two_pow] at hin
      exact of_decide_eq_true hin
    rw [this]
    exact hxC
  | r + 1, x, hx, hin, C, hC, hxC => gp1_inv (G := gpN s h r (2 ^ m)) (fun x hx q C hC hxC => gpN_inv r x hx q C hC hxC) (sMen s) (Nat.le_refl _) x hx hin C hC hxC
theorem sp_pop_mono {p q : Nat → Bool} : ∀ n, (∀ i, i < n → p i = true → q i = true) → sp_pop p n ≤ sp_pop q n ∧ (sp_pop p n = sp_pop q n → ∀ i, i < n → q i = true → p i = true)
  | 0, _ => ⟨Nat.le_refl 0, fun _ i hi => absurd hi (by omega)⟩
  | n + 1, h => by
    obtain ⟨h1, h2⟩ := sp_pop_mono n (fun i hi => h i (by omega))
    have hn := h n (by omega)
    simp only [sp_pop]
    cases hp : p n with
    | true =>
      rw [hn hp]
      refine ⟨by simp; exact h1, fun e i hi hq => ?_⟩
      by_cases ei : i = n
      · rw [ei]; exact hp
      · exact h2 (by simpa using e) i (by omega) hq
    | false =>
      cases hq : q n with
      | true => exact ⟨by simp; omega, fun e => absurd e (by simp; omega)⟩
      | false =>
        refine ⟨by simpa using h1, fun e i hi hqi => ?_⟩
        by_cases ei : i = n
        · rw [ei, hq] at hqi; cases hqi
        · exact h2 (by simpa using e) i (by omega) hqi
/-- the rounds come to rest -/
theorem gpN_rest {s : St} {h m : Nat} (hm : m < sMen s) : gpN s h (sMen s + 1) (2 ^ m) = gpN s h (sMen s) (2 ^ m) := by
  have hlt : ∀ r, gpN s h r (2 ^ m) < 2 ^ sMen s := gpN_lt (Nat.pow_lt_pow_right (by decide) hm)
  have hmono : ∀ r i, i < sMen s → (gpN s h r (2 ^ m)).testBit i = true → (gpN s h (r + 1) (2 ^ m)).testBit i = true := fun r i _ q => gp1_mono q (sMen s)
  have hcnt : ∀ r, (∃ r', r' < r ∧ gpN s h (r' + 1) (2 ^ m) = gpN s h r' (2 ^ m)) ∨ r + 1 ≤ sp_pop (fun i => (gpN s h r (2 ^ m)).testBit i) (sMen s) := by
    intro r
    induction r with
    | zero =>
      right
      have : ∀ n, m < n → 1 ≤ sp_pop (fun i => (2 ^ m).testBit i) n := by
        intro n
        induction n with
        | zero => intro q; omega
        | succ n ihn =>
          intro q
          simp only [sp_pop]
          by_cases e : m = n
          · subst e
            rw [if_pos (by rw [Nat.testBit_two_pow_self])]
            omega
          · have := ihn (by omega)
            omega
      exact this (sMen s) hm
    | succ r ih =>
      rcases ih with ⟨r', h1, h2⟩ | ih
      · exact Or.inl ⟨r', by omega, h2⟩
      · have hp := sp_pop_mono (p := fun i => (gpN s h r (2 ^ m)).testBit i) (q := fun i => (gpN s h (r + 1) (2 ^ m)).testBit i) (sMen s) (hmono r)
        by_cases e : sp_pop (fun i => (gpN s h r (2 ^ m)).testBit i) (sMen s) = sp_pop (fun i => (gpN s h (r + 1) (2 ^ m)).testBit i) (sMen s)
        · refine Or.inl ⟨r, by omega, ?_⟩
          apply Nat.eq_of_testBit_eq
          intro i
          by_cases hi : i < sMen s
          · have a := hmono r i hi
            have b := hp.2 e i hi
            cases h1 : (gpN s h r (2 ^ m)).testBit i <;> cases h2 : (gpN s h (r + 1) (2 ^ m)).testBit i <;> simp_all
          · rw [Nat.testBit_lt_two_pow (Nat.lt_of_lt_of_le (hlt r) (Nat.pow_le_pow_right (by decide) (by omega))), Nat.testBit_lt_two_pow (Nat.lt_of_lt_of_le (hlt (r + 1)) (Nat.pow_le_pow_right (by decide) (by omega)))]
        · right
          omega
  rcases hcnt (sMen s) with ⟨r', h1, h2⟩ | h1
  · have stay : ∀ k, gpN s h (r' + k) (2 ^ m) = gpN s h r' (2 ^ m) := by
      intro k
      induction k with
      | zero => rfl
      | succ k ih =>
        have : gpN s h (r' + (k + 1)) (2 ^ m) = gp1 s h (sMen s) (gpN s h (r' + k) (2 ^ m)) := rfl
        rw [this, ih]
        exact h2
    have a := stay (sMen s - r')
    have b := stay (sMen s + 1 - r')
    rw [show r' + (sMen s - r') = sMen s by omega] at a
    rw [show r' + (sMen s + 1 - r') = sMen s + 1 by omega] at b
    rw [a, b]
  · have := sp_pop_le (fun i => (gpN s h (sMen s) (2 ^ m)).testBit i) (sMen s)
    omega
def gpO (s : St) (h m : Nat) : Nat := gpN s h (sMen s) (2 ^ m)
theorem gpO_lt {s : St} {h m : Nat} (hm : m < sMen s) : gpO s h m < 2 ^ sMen s := gpN_lt (Nat.pow_lt_pow_right (by decide) hm) _
theorem gpO_C {s : St} {h m : Nat} (hm : m < sMen s) : gpC s h (gpO s h m) := by
  intro i o hi ho hin hu
  have := gp1_next (h := h) hi hin ho hu
  have e : gp1 s h (sMen s) (gpO s h m) = gpO s h m := gpN_rest hm
  rw [e] at this
  exact this
theorem gpO_self {s : St} {h m : Nat} : (gpO s h m).testBit m = true := by
  have : ∀ r, (gpN s h r (2 ^ m)).testBit m = true := by
    intro r
    induction r with
    | zero => exact Nat.testBit_two_pow_self
    | succ r ih => exact gp1_mono ih (sMen s)
  exact this (sMen s)
theorem gpO_symm {s : St} {h a b : Nat} (ha : a < sMen s) (hb : b < sMen s) (hin : (gpO s h a).testBit b = true) : (gpO s h b).testBit a = true := gpN_inv (sMen s) b hb hin (gpO s h b) (gpO_C hb) gpO_self
/-- how many groups: at its lowest man each -/
def gpK (s : St) (h : Nat) : Nat → Nat
  | 0 => 0
  | j + 1 => gpK s h j + if (gpO s h j) &&& (2 ^ j - 1) = 0 then 1 else 0
theorem gpK_le (s : St) (h : Nat) : ∀ j, gpK s h j ≤ j
  | 0 => Nat.le_refl 0
  | j + 1 => by
    have := gpK_le s h j
    unfold gpK
    split <;> omega
def gpM (s : St) (h : Nat) : Nat → Nat
  | 0 => 0
  | j + 1 => gpM s h j ||| gpO s h j
theorem gpM_lt {s : St} {h : Nat} : ∀ j, j ≤ sMen s → gpM s h j < 2 ^ sMen s
  | 0, _ => Nat.two_pow_pos _
  | j + 1, hj => Nat.or_lt_two_pow (gpM_lt j (by omega)) (gpO_lt (by omega))
theorem gpM_tb {s : St} {h i : Nat} : ∀ j, (gpM s h j).testBit i = true ↔ ∃ x, x < j ∧ (gpO s h x).testBit i = true
  | 0 => by simp [gpM]
  | j + 1 => by
    unfold gpM
    rw [Nat.testBit_or, Bool.or_eq_true, gpM_tb j]
    constructor
    · rintro (⟨x, h1, h2⟩ | q)
      · exact ⟨x, by omega, h2⟩
      · exact ⟨j, by omega, q⟩
    · rintro ⟨x, h1, h2⟩
      by_cases e : x = j
      · exact Or.inr (e ▸ h2)
      · exact Or.inl ⟨x, by omega, h2⟩
theorem gpK_M {s : St} {h j : Nat} (hj : j < sMen s) : (gpO s h j) &&& (2 ^ j - 1) = 0 ↔ (gpM s h j).testBit j = false := by
  constructor
  · intro e
    cases q : (gpM s h j).testBit j with
    | false => rfl
    | true =>
      obtain ⟨x, h1, h2⟩ := (gpM_tb j).mp q
      have h3 := gpO_symm (by omega) hj h2
      have := congrArg (fun z => z.testBit x) e
      simp only [Nat.testBit_and, h3, Nat.testBit_two_pow_sub_one, decide_eq_true h1, Nat.zero_testBit] at this
      cases this
  · intro e
    apply Nat.eq_of_testBit_eq
    intro x
    rw [Nat.testBit_and, Nat.testBit_two_pow_sub_one, Nat.zero_testBit]
    by_cases hx : x < j
    · cases q : (gpO s h j).testBit x with
      | false => rfl
      | true =>
        have := (gpM_tb (s := s) (h := h) (i := j) j).mpr ⟨x, hx, gpO_symm hj (by omega) q⟩
        rw [e] at this
        cases this
    · simp [hx]
def f_groups (g : GG) (a b : Int32) : Int32 := if 0 ≤ a ∧ a ≤ 6 then (if b = -1 then nI (gpK (gS g) a.toNatClampNeg (sMen (gS g))) else if 0 ≤ b ∧ b < nI (sMen (gS g)) then nI (gpO (gS g) a.toNatClampNeg b.toNatClampNeg) else -1) else -1
theorem lt128 {s : St} {x : Nat} (h7 : sMen s ≤ 7) (h : x < 2 ^ sMen s) : x < 128 := Nat.lt_of_lt_of_le h (show 2 ^ sMen s ≤ 2 ^ 7 from Nat.pow_le_pow_right (by decide) h7)
theorem two128 {m : Nat} (h : m < 7) : 2 ^ m < 128 := Nat.lt_of_lt_of_le (Nat.pow_lt_pow_right (by decide) h) (by decide)
theorem or128 {a b : Nat} (ha : a < 128) (hb : b < 128) : a ||| b < 128 := Nat.or_lt_two_pow (n := 7) ha hb
theorem c_X9_alike {ex : sm_O} {n : Nat} {y : sm_Y} {I : Nat → Nat → Int32} {L : Nat → Nat → Int64} {R : Nat → Nat → Option Nat} {Q : sm_Q} {d o h m : Nat} {w3 w4 : Option Value} {s : St} (hd : 2 ≤ d) (ho : ok9 y R o) (hs : cS s o I) (hok : sp_ok s) (hh : h ≤ 6) (hm : m < sMen s) (k : Q (some (.int (nI (gpA s h m)))) (n, y, I, L, R)) : sm_W ex d 0 0 70 0 [some (.ref o), some (.int (nI h)), some (.int (nI m)), w3, w4] [] (n, y, I, L, R) Q := by
  have h7 := hok.1
  have key : ∀ (q j : Nat), j + q = sMen s → sm_W ex d 0 0 70 5 [some (.ref o), some (.int (nI h)), some (.int (nI m)), some (.int (nI (sp_bits (fun o => decide (sp_unlike s m o ≤ h)) j))), some (.int (nI j))] [] (n, y, I, L, R) Q := by
    intro q
    induction q with
    | zero =>
      intro j hj
      obtain rfl : j = sMen s := by omega
      refine w_X9_alike_5 (d1 := 1) ho (by omega) ?_
      rw [hs.1, if_pos (Int32.le_refl _)]
      exact k
    | succ q ih =>
      intro j hj
      refine w_X9_alike_5 (d1 := 1) ho (by omega) ?_
      rw [hs.1, if_neg (by rw [nI_leI (by omega) (by omega)]; omega)]
      refine c_X9_unlike (Nat.le_refl 1) ho hs hok hm (by omega) ?_
      refine w_X9_alike_22 ?_
      have hb : sp_bits (fun o => decide (sp_unlike s m o ≤ h)) j < 128 := Nat.lt_of_lt_of_le (sp_bits_lt _ j) (show 2 ^ j ≤ 2 ^ 7 from Nat.pow_le_pow_right (by decide) (by omega))
      have u1 := sp_unlike_le s m j
      have nx := ih (j + 1) (by omega)
      rw [← sp_bits_or] at nx
      rw [sm_n1, sm_shl7 j (by omega), sm_or7 _ hb _ (two128 (by omega)), show (0 : Int32) = nI 0 from rfl, sm_or7 _ hb 0 (by decide)]
      by_cases hu : sp_unlike s m j ≤ h
      · rw [if_neg (by rw [nI_ltI (by omega) (by omega)]; omega)]
        rw [if_pos (decide_eq_true hu)] at nx
        exact nx
      · rw [if_pos (by rw [nI_ltI (by omega) (by omega)]; omega)]
        rw [if_neg (by rw [decide_eq_false hu]; decide)] at nx
        exact nx
  refine w_X9_alike_0 ?_
  exact key (sMen s) 0 (by omega)
theorem c_X9_groupOf {ex : sm_O} {n : Nat} {y : sm_Y} {I : Nat → Nat → Int32} {L : Nat → Nat → Int64} {R : Nat → Nat → Option Nat} {Q : sm_Q} {d o h m : Nat} {w3 w4 w5 : Option Value} {s : St} (hd : 3 ≤ d) (ho : ok9 y R o) (hs : cS s o I) (hok : sp_ok s) (hh : h ≤ 6) (hm : m < sMen s) (k : Q (some (.int (nI (gpO s h m)))) (n, y, I, L, R)) : sm_W ex d 0 0 69 0 [some (.ref o), some (.int (nI h)), some (.int (nI m)), w3, w4, w5] [] (n, y, I, L, R) Q := by
  have h7 := hok.1
  have hp := Nat.pow_lt_pow_right (a := 2) (by decide) hm
  have outer : ∀ (q r : Nat) (w5 : Option Value), r + q = sMen s → sm_W ex d 0 0 69 7 [some (.ref o), some (.int (nI h)), some (.int (nI m)), some (.int (nI (gpN s h r (2 ^ m)))), some (.int (nI r)), w5] [] (n, y, I, L, R) Q := by
    intro q
    induction q with
    | zero =>
      intro r w5 hr
      obtain rfl : r = sMen s := by omega
      refine w_X9_groupOf_7 ho ?_
      rw [hs.1, if_pos (Int32.le_refl _)]
      exact k
    | succ q ih =>
      intro r w5 hr
      have hGl := gpN_lt (s := s) (h := h) hp r
      have inner : ∀ (p j : Nat), j + p = sMen s → sm_W ex d 0 0 69 19 [some (.ref o), some (.int (nI h)), some (.int (nI m)), some (.int (nI (gp1 s h j (gpN s h r (2 ^ m))))), some (.int (nI r)), some (.int (nI j))] [] (n, y, I, L, R) Q := by
        intro p
        induction p with
        | zero =>
          intro j hj
          obtain rfl : j = sMen s := by omega
          refine w_X9_groupOf_19 (d1 := 2) ho (by omega) ?_
          rw [hs.1, if_pos (Int32.le_refl _), sm_n1]
          exact ih (r + 1) _ (by omega)
        | succ p ihp =>
          intro j hj
          have nx := ihp (j + 1) (by omega)
          have hl := lt128 h7 (gp1_lt (h := h) hGl j)
          refine w_X9_groupOf_19 (d1 := 2) ho (by omega) ?_
          rw [hs.1, if_neg (by rw [nI_leI (by omega) (by omega)]; omega), sm_bit7 _ hl j (by omega), sm_n1]
          have e : gp1 s h (j + 1) (gpN s h r (2 ^ m)) = if (gp1 s h j (gpN s h r (2 ^ m))).testBit j = true then gp1 s h j (gpN s h r (2 ^ m)) ||| gpA s h j else gp1 s h j (gpN s h r (2 ^ m)) := rfl
          rw [e] at nx
          cases ht : (gp1 s h j (gpN s h r (2 ^ m))).testBit j with
          | true =>
            rw [ht, if_pos rfl] at nx
            rw [if_pos rfl, if_pos rfl]
            refine c_X9_alike (Nat.le_refl 2) ho hs hok hh (by omega) ?_
            refine w_X9_groupOf_46 ?_
            rw [sm_n1, sm_or7 _ hl _ (lt128 h7 (gpA_lt s h j))]
            exact nx
          | false =>
            rw [ht, if_neg (by decide)] at nx
            rw [if_neg (show ¬ (false = true) by decide), if_neg (by decide), show (0 : Int32) = nI 0 from rfl, sm_or7 _ hl 0 (by decide), Nat.or_zero]
            exact nx
      refine w_X9_groupOf_7 ho ?_
      rw [hs.1, if_neg (by rw [nI_leI (by omega) (by omega)]; omega)]
      exact inner (sMen s) 0 (by omega)
  refine w_X9_groupOf_0 ?_
  rw [sm_shl7 m (by omega)]
  exact outer (sMen s) 0 _ (by omega)
theorem sm_low7 : ∀ s, s < 128 → ∀ m, m < 7 → nI s &&& (((1 : Int32) <<< (nI m &&& 31)) - 1) = nI (s &&& (2 ^ m - 1)) := by decide +kernel
theorem c_X9_groupCount {ex : sm_O} {n : Nat} {y : sm_Y} {I : Nat → Nat → Int32} {L : Nat → Nat → Int64} {R : Nat → Nat → Option Nat} {Q : sm_Q} {d o h : Nat} {w2 w3 w4 : Option Value} {s : St} (hd : 4 ≤ d) (ho : ok9 y R o) (hs : cS s o I) (hok : sp_ok s) (hh : h ≤ 6) (k : Q (some (.int (nI (gpK s h (sMen s))))) (n, y, I, L, R)) : sm_W ex d 0 0 71 0 [some (.ref o), some (.int (nI h)), w2, w3, w4] [] (n, y, I, L, R) Q := by
  have h7 := hok.1
  have key : ∀ (q j : Nat) (w4 : Option Value), j + q = sMen s → sm_W ex d 0 0 71 4 [some (.ref o), some (.int (nI h)), some (.int (nI (gpK s h j))), some (.int (nI j)), w4] [] (n, y, I, L, R) Q := by
    intro q
    induction q with
    | zero =>
      intro j w4 hj
      obtain rfl : j = sMen s := by omega
      refine w_X9_groupCount_4 (d1 := 3) ho (by omega) ?_
      rw [hs.1, if_pos (Int32.le_refl _)]
      exact k
    | succ q ih =>
      intro j w4 hj
      refine w_X9_groupCount_4 (d1 := 3) ho (by omega) ?_
      rw [hs.1, if_neg (by rw [nI_leI (by omega) (by omega)]; omega)]
      refine c_X9_groupOf (Nat.le_refl 3) ho hs hok hh (by omega) ?_
      refine w_X9_groupCount_18 ?_
      have nx := fun w4 => ih (j + 1) w4 (by omega)
      have hl := lt128 h7 (gpO_lt (s := s) (h := h) (m := j) (by omega))
      have hl2 : gpO s h j &&& (2 ^ j - 1) < 128 := Nat.lt_of_le_of_lt Nat.and_le_left hl
      have e : gpK s h (j + 1) = gpK s h j + if (gpO s h j) &&& (2 ^ j - 1) = 0 then 1 else 0 := rfl
      rw [e] at nx
      have e0 : nI (gpK s h j) + 0 = nI (gpK s h j + 0) := nI_add _ 0
      rw [sm_low7 _ hl j (by omega), sm_n1, sm_n1, e0]
      by_cases hz : (gpO s h j) &&& (2 ^ j - 1) = 0
      · rw [if_pos (by rw [hz]; rfl)]
        rw [if_pos hz] at nx
        exact nx _
      · rw [if_neg (show ¬ nI (gpO s h j &&& (2 ^ j - 1)) = 0 from fun z => hz ((nI_eq (b := 0) (by omega) (by decide)).mp z))]
        rw [if_neg hz] at nx
        exact nx _
  refine w_X9_groupCount_0 ?_
  exact key (sMen s) 0 _ (by omega)
theorem C_groups {ex : sm_O} {d : Nat} {g : GG} {a b : Int32} (hd : 5 ≤ d) (hw : Wf g) : CM ex d 99 [some (.ref 0), some (.int a), some (.int b)] g (f_groups g a b) g := by
  intro n y I L R Q hc k
  have hs := hc.2.2.1
  have hG := hc.2.1
  have hok : sp_ok (gS g) := hw.1.1.1
  have h7 : sMen (gS g) ≤ 7 := hok.1
  have k := k I L hc (cKeep.rfl' I L)
  unfold f_groups at k
  refine w_X10_groups_0 (d1 := 4) hG (by omega) (by omega) ?_
  by_cases q1 : a < 0
  · rw [if_pos q1]
    rw [if_neg (fun z => absurd q1 (Int32.not_lt.mpr z.1))] at k
    exact k
  rw [if_neg q1]
  by_cases q2 : a ≤ 6
  · rw [if_pos q2]
    rw [if_pos ⟨Int32.not_lt.mp q1, q2⟩] at k
    obtain ⟨h, rfl, -, hh⟩ := sm_nat (lo := 0) (hi := 6) (by decide) ⟨Int32.not_lt.mp q1, q2⟩ (by decide)
    rw [nI_clamp (by omega)] at k
    by_cases q3 : b = -1
    · rw [if_pos q3] at k ⊢
      refine c_X9_groupCount (Nat.le_refl 4) (mk1 hG).1 hs hok hh ?_
      exact w_X10_groups_25 k
    · rw [if_neg q3] at k ⊢
      rw [hs.1]
      by_cases q4 : b < 0
      · rw [if_pos q4]
        rw [if_neg (fun z => absurd q4 (Int32.not_lt.mpr z.1))] at k
        exact k
      rw [if_neg q4]
      by_cases q5 : nI (sMen (gS g)) ≤ b
      · rw [if_pos q5]
        rw [if_neg (fun z => absurd z.2 (Int32.not_lt.mpr q5))] at k
        exact k
      rw [if_neg q5]
      have hall : 0 ≤ b ∧ b < nI (sMen (gS g)) := ⟨Int32.not_lt.mp q4, Int32.not_le.mp q5⟩
      rw [if_pos hall] at k
      obtain ⟨m, rfl, hm⟩ := nat_man h7 hall
      rw [nI_clamp (by omega)] at k
      refine c_X9_groupOf (by omega) (mk1 hG).1 hs hok hh hm ?_
      exact w_X10_groups_46 k
  · rw [if_neg q2]
    rw [if_neg (fun z => q2 z.2)] at k
    exact k
-- the model's groups
theorem c_X11_groupOf {ex : sm_O} {n : Nat} {y : sm_Y} {I : Nat → Nat → Int32} {L : Nat → Nat → Int64} {R : Nat → Nat → Option Nat} {Q : sm_Q} {d h m : Nat} {w3 w4 w5 w6 : Option Value} {s : St} (hd : 2 ≤ d) (hG : sm_G y R) (hs : mS s (I 125)) (hok : sp_ok s) (hh : h ≤ 6) (hm : m < sMen s) (k : Q (some (.int (nI (gpO s h m)))) (n, y, I, L, R)) : sm_W ex d 0 0 217 0 [some (.ref 123), some (.int (nI h)), some (.int (nI m)), w3, w4, w5, w6] [] (n, y, I, L, R) Q := by
  have h7 := hok.1
  have hp := Nat.pow_lt_pow_right (a := 2) (by decide) hm
  have outer : ∀ (q r : Nat) (w5 w6 : Option Value), r + q = sMen s → sm_W ex d 0 0 217 7 [some (.ref 123), some (.int (nI h)), some (.int (nI m)), some (.int (nI (gpN s h r (2 ^ m)))), some (.int (nI r)), w5, w6] [] (n, y, I, L, R) Q := by
    intro q
    induction q with
    | zero =>
      intro r w5 w6 hr
      obtain rfl : r = sMen s := by omega
      refine w_X11_groupOf_7 hG ?_
      rw [hs.1, if_pos (Int32.le_refl _)]
      exact k
    | succ q ih =>
      intro r w5 w6 hr
      have hGl := gpN_lt (s := s) (h := h) hp r
      have middle : ∀ (p j : Nat) (w6 : Option Value), j + p = sMen s → sm_W ex d 0 0 217 21 [some (.ref 123), some (.int (nI h)), some (.int (nI m)), some (.int (nI (gp1 s h j (gpN s h r (2 ^ m))))), some (.int (nI r)), some (.int (nI j)), w6] [] (n, y, I, L, R) Q := by
        intro p
        induction p with
        | zero =>
          intro j w6 hj
          obtain rfl : j = sMen s := by omega
          refine w_X11_groupOf_21 hG ?_
          rw [hs.1, if_pos (Int32.le_refl _), sm_n1]
          exact ih (r + 1) _ _ (by omega)
        | succ p ihp =>
          intro j w6 hj
          have hj7 : j < sMen s := by omega
          have nx := fun w6 => ihp (j + 1) w6 (by omega)
          have hl := lt128 h7 (gp1_lt (h := h) hGl j)
          have e : gp1 s h (j + 1) (gpN s h r (2 ^ m)) = if (gp1 s h j (gpN s h r (2 ^ m))).testBit j = true then gp1 s h j (gpN s h r (2 ^ m)) ||| gpA s h j else gp1 s h j (gpN s h r (2 ^ m)) := rfl
          rw [e] at nx
          refine w_X11_groupOf_21 hG ?_
          rw [hs.1, if_neg (by rw [nI_leI (by omega) (by omega)]; omega)]
          generalize gp1 s h j (gpN s h r (2 ^ m)) = G at nx hl ⊢
          cases ht : G.testBit j with
          | false =>
            rw [ht, if_neg (by decide)] at nx
            have inner : ∀ (u i : Nat), i + u = sMen s → sm_W ex d 0 0 217 35 [some (.ref 123), some (.int (nI h)), some (.int (nI m)), some (.int (nI G)), some (.int (nI r)), some (.int (nI j)), some (.int (nI i))] [] (n, y, I, L, R) Q := by
              intro u
              induction u with
              | zero =>
                intro i hi
                obtain rfl : i = sMen s := by omega
                refine w_X11_groupOf_35 (d1 := 1) hG (by omega) (by omega) ?_
                rw [hs.1, if_pos (Int32.le_refl _), sm_n1]
                exact nx _
              | succ u ihu =>
                intro i hi
                refine w_X11_groupOf_35 (d1 := 1) hG (by omega) (by omega) ?_
                rw [hs.1, if_neg (by rw [nI_leI (by omega) (by omega)]; omega), sm_bit7 _ hl j (by omega), ht, if_neg (show ¬ (false = true) by decide), if_neg (by decide), show (0 : Int32) = nI 0 from rfl, sm_or7 _ hl 0 (by decide), Nat.or_zero, sm_n1]
                exact ihu (i + 1) (by omega)
            exact inner (sMen s) 0 (by omega)
          | true =>
            rw [ht, if_pos rfl] at nx
            have inner : ∀ (u i : Nat), i + u = sMen s → sm_W ex d 0 0 217 35 [some (.ref 123), some (.int (nI h)), some (.int (nI m)), some (.int (nI (G ||| sp_bits (fun o => decide (sp_unlike s j o ≤ h)) i))), some (.int (nI r)), some (.int (nI j)), some (.int (nI i))] [] (n, y, I, L, R) Q := by
              intro u
              induction u with
              | zero =>
                intro i hi
                obtain rfl : i = sMen s := by omega
                refine w_X11_groupOf_35 (d1 := 1) hG (by omega) (by omega) ?_
                rw [hs.1, if_pos (Int32.le_refl _), sm_n1]
                exact nx _
              | succ u ihu =>
                intro i hi
                have nx2 := ihu (i + 1) (by omega)
                rw [← sp_bits_or, ← Nat.or_assoc] at nx2
                have hb : sp_bits (fun o => decide (sp_unlike s j o ≤ h)) i < 128 := Nat.lt_of_lt_of_le (sp_bits_lt _ i) (show 2 ^ i ≤ 2 ^ 7 from Nat.pow_le_pow_right (by decide) (by omega))
                have hl2 := or128 hl hb
                have u1 := sp_unlike_le s j i
                have tj : (G ||| sp_bits (fun o => decide (sp_unlike s j o ≤ h)) i).testBit j = true := by rw [Nat.testBit_or, ht]; rfl
                refine w_X11_groupOf_35 (d1 := 1) hG (by omega) (by omega) ?_
                rw [hs.1, if_neg (by rw [nI_leI (by omega) (by omega)]; omega), sm_bit7 _ hl2 j (by omega), tj, if_pos (show true = true from rfl), if_pos rfl]
                refine c_X11_unlike (s := s) (Nat.le_refl 1) hG hs hok hj7 (by omega) ?_
                refine w_X11_groupOf_64 ?_
                rw [sm_n1, sm_shl7 i (by omega), sm_or7 _ hl2 _ (two128 (by omega)), show (0 : Int32) = nI 0 from rfl, sm_or7 _ hl2 0 (by decide)]
                by_cases hu : sp_unlike s j i ≤ h
                · rw [if_neg (by rw [nI_ltI (by omega) (by omega)]; omega)]
                  rw [if_pos (decide_eq_true hu)] at nx2
                  exact nx2
                · rw [if_pos (by rw [nI_ltI (by omega) (by omega)]; omega)]
                  rw [if_neg (by rw [decide_eq_false hu]; decide)] at nx2
                  exact nx2
            have := inner (sMen s) 0 (by omega)
            rw [show sp_bits (fun o => decide (sp_unlike s j o ≤ h)) 0 = 0 from rfl, Nat.or_zero] at this
            exact this
      refine w_X11_groupOf_7 hG ?_
      rw [hs.1, if_neg (by rw [nI_leI (by omega) (by omega)]; omega)]
      exact middle (sMen s) 0 _ (by omega)
  refine w_X11_groupOf_0 ?_
  rw [sm_shl7 m (by omega)]
  exact outer (sMen s) 0 _ _ (by omega)
theorem M_groups {ex : sm_O} {d : Nat} {w3 w4 w5 : Option Value} {g : GG} {a b : Int32} (hd : 3 ≤ d) (hw : Wf g) : MM ex d 218 [some (.ref 123), some (.int a), some (.int b), w3, w4, w5] g (f_groups g a b) g := by
  intro n y I0 L R Q hG hm k
  have hok : sp_ok (gS g) := hw.1.1.1
  have h7 : sMen (gS g) ≤ 7 := hok.1
  have e0 := hm.1.1
  have hm := MI_thr hm
  have k := k _ L hm (mKeep_thr I0)
  unfold f_groups at k
  refine w_X11_groups_0 (d1 := 2) hG (by omega) (by omega) ?_
  have i1 : ((0 : Int64) ≤ a.toInt64 ∧ a.toInt64 ≤ (6 : Int64)) ↔ (0 ≤ a ∧ a ≤ 6) := sm_in64 (lo := 0) (hi := 6)
  rw [e0]
  simp only [i1]
  generalize sm_st I0 123 0 0 = I at hm k ⊢
  by_cases q1 : 0 ≤ a ∧ a ≤ 6
  · rw [if_pos q1] at k ⊢
    obtain ⟨h, rfl, -, hh⟩ := sm_nat (lo := 0) (hi := 6) (by decide) q1 (by decide)
    rw [nI_clamp (by omega)] at k
    by_cases q3 : b = -1
    · rw [if_pos q3] at k ⊢
      have key : ∀ (q j : Nat), j + q = sMen (gS g) → sm_W ex d 0 0 218 52 [some (.ref 123), some (.int (nI h)), some (.int b), some (.int (nI (gpK (gS g) h j))), some (.int (nI (gpM (gS g) h j))), some (.int (nI j))] [] (n, y, I, L, R) Q := by
        intro q
        induction q with
        | zero =>
          intro j hj
          obtain rfl : j = sMen (gS g) := by omega
          refine w_X11_groups_52 (d1 := 2) hG (by omega) (by omega) ?_
          rw [hm.1.1, if_pos (Int32.le_refl _)]
          exact k
        | succ q ih =>
          intro j hj
          have hj7 : j < sMen (gS g) := by omega
          have nx := ih (j + 1) (by omega)
          have hl := lt128 h7 (gpM_lt (s := gS g) (h := h) j (by omega))
          have hl2 := lt128 h7 (gpO_lt (s := gS g) (h := h) (m := j) hj7)
          have e : gpK (gS g) h (j + 1) = gpK (gS g) h j + if (gpO (gS g) h j) &&& (2 ^ j - 1) = 0 then 1 else 0 := rfl
          have e2 : gpM (gS g) h (j + 1) = gpM (gS g) h j ||| gpO (gS g) h j := rfl
          rw [e, e2] at nx
          refine w_X11_groups_52 (d1 := 2) hG (by omega) (by omega) ?_
          have e00 : nI (gpK (gS g) h j) + 0 = nI (gpK (gS g) h j + 0) := nI_add _ 0
          rw [hm.1.1, if_neg (by rw [nI_leI (by omega) (by omega)]; omega), sm_bit7 _ hl j (by omega), sm_n1, e00]
          have hK := gpK_M (h := h) hj7
          cases ht : (gpM (gS g) h j).testBit j with
          | false =>
            rw [if_pos (hK.mpr ht)] at nx
            rw [if_neg (show ¬ (false = true) by decide), if_neg (by decide)]
            refine c_X11_groupOf (Nat.le_refl 2) hG hm.1 hok hh hj7 ?_
            refine w_X11_groups_90 ?_
            rw [sm_n1, sm_or7 _ hl _ hl2]
            exact nx
          | true =>
            rw [if_neg (fun z => by rw [hK.mp z] at ht; cases ht)] at nx
            rw [if_pos (show true = true from rfl), if_pos rfl]
            refine c_X11_groupOf (Nat.le_refl 2) hG hm.1 hok hh hj7 ?_
            refine w_X11_groups_90 ?_
            rw [sm_n1, sm_or7 _ hl _ hl2]
            exact nx
      exact key (sMen (gS g)) 0 (by omega)
    · rw [if_neg q3] at k ⊢
      by_cases q4 : 0 ≤ b ∧ b < nI (sMen (gS g))
      · rw [if_pos q4] at k ⊢
        obtain ⟨m, rfl, hmm⟩ := nat_man h7 q4
        rw [nI_clamp (by omega)] at k
        refine c_X11_groupOf (Nat.le_refl 2) hG hm.1 hok hh hmm ?_
        exact w_X11_groups_43 k
      · rw [if_neg q4] at k ⊢
        exact k
  · rw [if_neg q1] at k ⊢
    exact k

