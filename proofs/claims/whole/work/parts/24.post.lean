set_option maxRecDepth 100000 in
theorem w_X5_can_0 {ex : sm_O} {d n : Nat} {y : sm_Y} {I : Nat → Nat → Int32} {L : Nat → Nat → Int64} {R : Nat → Nat → Option Nat} {Q : sm_Q} {w0 : Option Value} {a1 : Int32} {a2 : Nat} {a3 : Int32} {d1 : Nat} (ho0 : ok9 y R a2) (h1 : d1 < d) (k : if a1 = 3 then (vp_in 0 (ex.1 0).1 ∧ (if ((ex.1 0).2 0) ≤ (I (a2 + 4) 0) then (Q (some (.int 0)) (n, y, I, L, R)) else (Q (some (.int 1)) (n, y, I, L, R)))) else (if a1 = 0 then (if (I a2 6) = a3 then (Q (some (.int 0)) (n, y, I, L, R)) else (sm_W ex d1 0 0 65 0 [some (.ref a2), some (.int a3)] [] (n, y, I, L, R) (fun r μ1 => sm_W ex d 0 0 28 66 [w0, some (.int a1), some (.ref a2), some (.int a3)] (r.toList ++ []) μ1 Q))) else (sm_W ex d1 0 0 65 0 [some (.ref a2), some (.int a3)] [] (n, y, I, L, R) (fun r μ1 => sm_W ex d 0 0 28 34 [w0, some (.int a1), some (.ref a2), some (.int a3)] (r.toList ++ []) μ1 Q)))) : sm_W ex d 0 0 28 0 [w0, some (.int a1), some (.ref a2), some (.int a3)] [] (n, y, I, L, R) Q := sm_in (sm_in (sm_in (And.intro (fun c1 => have k1f := Eq.mp (if_neg c1) k; sm_in (sm_in (And.intro (fun c4 => have k4t := Eq.mp (if_pos c4) k1f; sm_in (sm_in (And.intro (ok9_y0 ho0) (sm_in (sm_in (And.intro (fun c5 => have k5t := Eq.mp (if_pos c5) k4t; sm_in (sm_in (And.intro rfl (And.intro (Or.inl rfl) k5t)))) (fun c5 => have k5f := Eq.mp (if_neg c5) k4t; sm_in (sm_in (sm_in (Exists.intro 9 (And.intro (ok9_y0 ho0) (And.intro rfl (sm_calln h1 (Nat.le_of_ble_eq_true rfl) (Nat.le_of_ble_eq_true rfl) k5f))))))))))))) (fun c4 => have k4f := Eq.mp (if_neg c4) k1f; sm_in (sm_in (sm_in (Exists.intro 9 (And.intro (ok9_y0 ho0) (And.intro rfl (sm_calln h1 (Nat.le_of_ble_eq_true rfl) (Nat.le_of_ble_eq_true rfl) k4f)))))))))) (fun c1 => have k1t := Eq.mp (if_pos c1) k; sm_in (sm_in (And.intro (ok9_y0 ho0) (sm_gfr rfl (ok9_r3 ho0) (sm_in (sm_in (Exists.intro 4 (And.intro (ok9_a4 ho0) (And.intro (sm_lin (by decide)) (sm_in (sm_in ((have e2 := k1t.1; have k2 := k1t.2; sm_in (And.intro (Nat.le_of_ble_eq_true rfl) (And.intro e2 (sm_in (And.intro (fun c3 => have k3t := Eq.mp (if_pos c3) k2; sm_in (sm_in (And.intro rfl (And.intro (Or.inl rfl) k3t)))) (fun c3 => have k3f := Eq.mp (if_neg c3) k2; sm_in (sm_in (sm_in (And.intro rfl (And.intro (Or.inr rfl) k3f)))))))))))))))))))))))))
set_option maxRecDepth 100000 in
theorem w_X5_can_34 {ex : sm_O} {d n : Nat} {y : sm_Y} {I : Nat → Nat → Int32} {L : Nat → Nat → Int64} {R : Nat → Nat → Option Nat} {Q : sm_Q} {w0 : Option Value} {w2 : Option Value} {w3 : Option Value} {a1 : Int32} {s0 : Int32} (k : if a1 = 2 then (if s0 = 1 then (Q (some (.int 1)) (n, y, I, L, R)) else (Q (some (.int 0)) (n, y, I, L, R))) else (if s0 = 0 then (Q (some (.int 1)) (n, y, I, L, R)) else (Q (some (.int 0)) (n, y, I, L, R)))) : sm_W ex d 0 0 28 34 [w0, some (.int a1), w2, w3] [.int s0] (n, y, I, L, R) Q := sm_in (sm_in (sm_in (And.intro (fun c1 => have k1f := Eq.mp (if_neg c1) k; sm_in (sm_in (And.intro (fun c3 => have k3f := Eq.mp (if_neg c3) k1f; sm_in (sm_in (And.intro rfl (And.intro (Or.inl rfl) k3f)))) (fun c3 => have k3t := Eq.mp (if_pos c3) k1f; sm_in (sm_in (sm_in (And.intro rfl (And.intro (Or.inr rfl) k3t)))))))) (fun c1 => have k1t := Eq.mp (if_pos c1) k; sm_in (sm_in (sm_in (And.intro (fun c2 => have k2f := Eq.mp (if_neg c2) k1t; sm_in (sm_in (And.intro rfl (And.intro (Or.inl rfl) k2f)))) (fun c2 => have k2t := Eq.mp (if_pos c2) k1t; sm_in (sm_in (sm_in (And.intro rfl (And.intro (Or.inr rfl) k2t))))))))))))
set_option maxRecDepth 100000 in
theorem w_X5_can_66 {ex : sm_O} {d n : Nat} {y : sm_Y} {I : Nat → Nat → Int32} {L : Nat → Nat → Int64} {R : Nat → Nat → Option Nat} {Q : sm_Q} {w1 : Option Value} {a2 : Nat} {a3 : Int32} {s0 : Int32} {d1 : Nat} (hG : sm_G y R) (ho0 : ok9 y R a2) (h1 : d1 < d) (k : if s0 = 0 then (vp_in a3 7 ∧ (if (I (a2 + 1) a3.toNatClampNeg) ≤ (I (a2 + 3) a3.toNatClampNeg) then (Q (some (.int 0)) (n, y, I, L, R)) else (sm_W ex d1 0 0 4 0 [some (.ref 6)] [] (n, y, I, L, R) (fun r μ1 => sm_W ex d 0 0 28 92 [some (.ref 50), w1, some (.ref a2), some (.int a3)] (r.toList ++ [.ref 50]) μ1 Q)))) else (Q (some (.int 0)) (n, y, I, L, R))) : sm_W ex d 0 0 28 66 [some (.ref 50), w1, some (.ref a2), some (.int a3)] [.int s0] (n, y, I, L, R) Q := sm_in (And.intro (fun c1 => have k1f := Eq.mp (if_neg c1) k; sm_in (sm_in (And.intro rfl (And.intro (Or.inl rfl) k1f)))) (fun c1 => have k1t := Eq.mp (if_pos c1) k; sm_in (sm_in (And.intro (ok9_y0 ho0) (sm_gfr rfl (ok9_r2 ho0) (sm_in ((have e2 := k1t.1; have k2 := k1t.2; sm_in (Exists.intro 7 (And.intro (ok9_a3 ho0) (And.intro e2 (sm_in (sm_in (And.intro (ok9_y0 ho0) (sm_gfr rfl (ok9_r0 ho0) (sm_in (sm_in (Exists.intro 7 (And.intro (ok9_a1 ho0) (And.intro e2 (sm_in (And.intro (fun c3 => have k3t := Eq.mp (if_pos c3) k2; sm_in (sm_in (And.intro rfl (And.intro (Or.inl rfl) k3t)))) (fun c3 => have k3f := Eq.mp (if_neg c3) k2; sm_in (sm_in (sm_in (And.intro (hG.1 50 (Nat.le_of_ble_eq_true rfl)) (sm_gfr rfl (hG.2 50 0 rfl) (sm_in (Exists.intro 0 (And.intro (hG.1 6 (Nat.le_of_ble_eq_true rfl)) (And.intro rfl (sm_calln h1 (Nat.le_of_ble_eq_true rfl) (Nat.le_of_ble_eq_true rfl) k3f))))))))))))))))))))))))))))))))
set_option maxRecDepth 100000 in
theorem w_X5_can_92 {ex : sm_O} {d n : Nat} {y : sm_Y} {I : Nat → Nat → Int32} {L : Nat → Nat → Int64} {R : Nat → Nat → Option Nat} {Q : sm_Q} {w0 : Option Value} {w1 : Option Value} {a2 : Nat} {a3 : Int32} {s0 : Nat} {d1 : Nat} (hG : sm_G y R) (h1 : d1 < d) (k : sm_W ex d1 0 0 26 0 [some (.ref 50), some (.ref s0), some (.int 3), some (.ref a2), some (.int a3), some (.int (-1)), none, none] [] (n, y, I, L, R) (fun r μ1 => sm_W ex d 0 0 28 99 [w0, w1, some (.ref a2), some (.int a3)] (r.toList ++ []) μ1 Q)) : sm_W ex d 0 0 28 92 [w0, w1, some (.ref a2), some (.int a3)] [.ref s0, .ref 50] (n, y, I, L, R) Q := sm_in (sm_in (sm_in (sm_in (sm_in (Exists.intro 5 (And.intro (hG.1 50 (Nat.le_of_ble_eq_true rfl)) (And.intro rfl (sm_calln h1 (Nat.le_of_ble_eq_true rfl) (Nat.le_of_ble_eq_true rfl) k))))))))
set_option maxRecDepth 100000 in
theorem w_X5_can_99 {ex : sm_O} {d n : Nat} {y : sm_Y} {I : Nat → Nat → Int32} {L : Nat → Nat → Int64} {R : Nat → Nat → Option Nat} {Q : sm_Q} {w0 : Option Value} {w1 : Option Value} {w2 : Option Value} {w3 : Option Value} {s0 : Int32} (k : if s0 = 0 then (Q (some (.int 1)) (n, y, I, L, R)) else (Q (some (.int 0)) (n, y, I, L, R))) : sm_W ex d 0 0 28 99 [w0, w1, w2, w3] [.int s0] (n, y, I, L, R) Q := sm_in (And.intro (fun c1 => have k1f := Eq.mp (if_neg c1) k; sm_in (sm_in (And.intro rfl (And.intro (Or.inl rfl) k1f)))) (fun c1 => have k1t := Eq.mp (if_pos c1) k; sm_in (sm_in (sm_in (And.intro rfl (And.intro (Or.inr rfl) k1t))))))
set_option maxRecDepth 100000 in
theorem w_X5_move_0 {ex : sm_O} {d n : Nat} {y : sm_Y} {I : Nat → Nat → Int32} {L : Nat → Nat → Int64} {R : Nat → Nat → Option Nat} {Q : sm_Q} {w4 : Option Value} {a1 : Int32} {a2 : Nat} {a3 : Int32} {d1 : Nat} (hG : sm_G y R) (ho0 : ok9 y R a2) (h1 : d1 < d) (k : if a1 = 0 then (sm_W ex d1 0 0 4 0 [some (.ref 6)] [] (n, y, I, L, R) (fun r μ1 => sm_W ex d 0 0 29 12 [some (.ref 50), some (.int a1), some (.ref a2), some (.int a3), w4] (r.toList ++ [.ref 50]) μ1 Q)) else (if a1 = 1 then (sm_W ex d1 0 0 31 0 [some (.ref 50), some (.ref a2), some (.int a3)] [] (n, y, I, L, R) (fun r μ1 => sm_W ex d 0 0 29 44 [some (.ref 50), some (.int a1), some (.ref a2), some (.int a3), w4] (r.toList ++ []) μ1 Q)) else (vp_in a3 7 ∧ sm_W ex d1 0 0 66 0 [some (.ref a2)] [] (n, y, sm_st (sm_st I a2 5 ((I a2 5) &&& (((1 : Int32) <<< (a3 &&& 31)) ^^^ (-1)))) (a2 + 3) a3.toNatClampNeg 0, L, R) (fun r μ1 => sm_W ex d 0 0 29 72 [some (.ref 50), some (.int a1), some (.ref a2), some (.int a3), w4] (r.toList ++ []) μ1 Q)))) : sm_W ex d 0 0 29 0 [some (.ref 50), some (.int a1), some (.ref a2), some (.int a3), w4] [] (n, y, I, L, R) Q := sm_in (sm_in (And.intro (fun c1 => have k1f := Eq.mp (if_neg c1) k; sm_in (sm_in (sm_in (And.intro (fun c2 => have k2f := Eq.mp (if_neg c2) k1f; sm_in (sm_in (And.intro rfl (sm_in (And.intro (ok9_y0 ho0) (sm_in (sm_in (sm_in (sm_in (sm_in (sm_in (sm_in (And.intro (ok9_y0 ho0) (sm_in (sm_in (And.intro (ok9_y0 ho0) (sm_gfr rfl (ok9_r2 ho0) (sm_in (sm_in ((have e3 := k2f.1; have k3 := k2f.2; sm_in (Exists.intro 7 (And.intro (ok9_a3 ho0) (And.intro e3 (sm_in (sm_in (Exists.intro 9 (And.intro (ok9_y0 ho0) (And.intro rfl (sm_calln h1 (Nat.le_of_ble_eq_true rfl) (Nat.le_of_ble_eq_true rfl) k3)))))))))))))))))))))))))))))) (fun c2 => have k2t := Eq.mp (if_pos c2) k1f; sm_in (sm_in (sm_in (sm_in (Exists.intro 5 (And.intro (hG.1 50 (Nat.le_of_ble_eq_true rfl)) (And.intro rfl (sm_calln h1 (Nat.le_of_ble_eq_true rfl) (Nat.le_of_ble_eq_true rfl) k2t)))))))))))) (fun c1 => have k1t := Eq.mp (if_pos c1) k; sm_in (sm_in (sm_in (And.intro (hG.1 50 (Nat.le_of_ble_eq_true rfl)) (sm_gfr rfl (hG.2 50 0 rfl) (sm_in (Exists.intro 0 (And.intro (hG.1 6 (Nat.le_of_ble_eq_true rfl)) (And.intro rfl (sm_calln h1 (Nat.le_of_ble_eq_true rfl) (Nat.le_of_ble_eq_true rfl) k1t))))))))))))
set_option maxRecDepth 100000 in
theorem w_X5_move_12 {ex : sm_O} {d n : Nat} {y : sm_Y} {I : Nat → Nat → Int32} {L : Nat → Nat → Int64} {R : Nat → Nat → Option Nat} {Q : sm_Q} {w0 : Option Value} {w1 : Option Value} {w4 : Option Value} {a2 : Nat} {a3 : Int32} {s0 : Nat} {d1 : Nat} (hG : sm_G y R) (ho0 : ok9 y R a2) (h1 : d1 < d) (k : sm_W ex d1 0 0 26 0 [some (.ref 50), some (.ref s0), some (.int 2), some (.ref a2), some (.int a3), some (.int (I a2 6)), none, none] [] (n, y, I, L, R) (fun r μ1 => sm_W ex d 0 0 29 22 [w0, w1, some (.ref a2), some (.int a3), w4] (r.toList ++ []) μ1 Q)) : sm_W ex d 0 0 29 12 [w0, w1, some (.ref a2), some (.int a3), w4] [.ref s0, .ref 50] (n, y, I, L, R) Q := sm_in (sm_in (sm_in (sm_in (sm_in (And.intro (ok9_y0 ho0) (sm_in (Exists.intro 5 (And.intro (hG.1 50 (Nat.le_of_ble_eq_true rfl)) (And.intro rfl (sm_calln h1 (Nat.le_of_ble_eq_true rfl) (Nat.le_of_ble_eq_true rfl) k))))))))))
set_option maxRecDepth 100000 in
theorem w_X5_move_22 {ex : sm_O} {d n : Nat} {y : sm_Y} {I : Nat → Nat → Int32} {L : Nat → Nat → Int64} {R : Nat → Nat → Option Nat} {Q : sm_Q} {w1 : Option Value} {w4 : Option Value} {a2 : Nat} {a3 : Int32} {s0 : Int32} {d1 : Nat} (hG : sm_G y R) (h1 : d1 < d) (k : sm_W ex d1 0 0 30 0 [some (.ref 50), some (.ref a2), some (.int a3)] [] (n, y, I, L, R) (fun r μ1 => sm_W ex d 0 0 29 30 [some (.ref 50), w1, some (.ref a2), some (.int a3), some (.int s0)] (r.toList ++ []) μ1 Q)) : sm_W ex d 0 0 29 22 [some (.ref 50), w1, some (.ref a2), some (.int a3), w4] [.int s0] (n, y, I, L, R) Q := sm_in (And.intro (Nat.le_of_ble_eq_true rfl) (sm_in (sm_in (sm_in (sm_in (Exists.intro 5 (And.intro (hG.1 50 (Nat.le_of_ble_eq_true rfl)) (And.intro rfl (sm_calln h1 (Nat.le_of_ble_eq_true rfl) (Nat.le_of_ble_eq_true rfl) k)))))))))
set_option maxRecDepth 100000 in
theorem w_X5_move_30 {ex : sm_O} {d n : Nat} {y : sm_Y} {I : Nat → Nat → Int32} {L : Nat → Nat → Int64} {R : Nat → Nat → Option Nat} {Q : sm_Q} {w0 : Option Value} {w1 : Option Value} {w2 : Option Value} {w3 : Option Value} {a4 : Int32} (k : Q (some (.int a4)) (n, y, I, L, R)) : sm_W ex d 0 0 29 30 [w0, w1, w2, w3, some (.int a4)] [] (n, y, I, L, R) Q := sm_in (sm_in (And.intro rfl k))
set_option maxRecDepth 100000 in
theorem w_X5_move_44 {ex : sm_O} {d n : Nat} {y : sm_Y} {I : Nat → Nat → Int32} {L : Nat → Nat → Int64} {R : Nat → Nat → Option Nat} {Q : sm_Q} {w0 : Option Value} {w1 : Option Value} {w3 : Option Value} {w4 : Option Value} {a2 : Nat} {d1 : Nat} (ho0 : ok9 y R a2) (h1 : d1 < d) (k : sm_W ex d1 0 0 66 0 [some (.ref a2)] [] (n, y, I, L, R) (fun r μ1 => sm_W ex d 0 0 29 72 [w0, w1, some (.ref a2), w3, w4] (r.toList ++ []) μ1 Q)) : sm_W ex d 0 0 29 44 [w0, w1, some (.ref a2), w3, w4] [] (n, y, I, L, R) Q := sm_in (sm_in (sm_in (Exists.intro 9 (And.intro (ok9_y0 ho0) (And.intro rfl (sm_calln h1 (Nat.le_of_ble_eq_true rfl) (Nat.le_of_ble_eq_true rfl) k))))))
set_option maxRecDepth 100000 in
theorem w_X5_move_72 {ex : sm_O} {d n : Nat} {y : sm_Y} {I : Nat → Nat → Int32} {L : Nat → Nat → Int64} {R : Nat → Nat → Option Nat} {Q : sm_Q} {w0 : Option Value} {w1 : Option Value} {w2 : Option Value} {w3 : Option Value} {w4 : Option Value} {s0 : Int32} (k : Q (some (.int s0)) (n, y, I, L, R)) : sm_W ex d 0 0 29 72 [w0, w1, w2, w3, w4] [.int s0] (n, y, I, L, R) Q := sm_in (And.intro rfl k)
set_option maxRecDepth 100000 in
theorem w_X5_goUp {ex : sm_O} {d n : Nat} {y : sm_Y} {I : Nat → Nat → Int32} {L : Nat → Nat → Int64} {R : Nat → Nat → Option Nat} {Q : sm_Q} {w0 : Option Value} {a1 : Nat} {a2 : Int32} (ho0 : ok9 y R a1) (k : Q none (n, y, sm_st (sm_st I a1 6 a2) a1 7 0, L, R)) : sm_W ex d 0 0 30 0 [w0, some (.ref a1), some (.int a2)] [] (n, y, I, L, R) Q := sm_in (sm_in (sm_in (And.intro (ok9_y0 ho0) (sm_in (sm_in (sm_in (And.intro (ok9_y0 ho0) (sm_in (And.intro rfl (And.intro rfl k))))))))))
set_option maxRecDepth 100000 in
theorem w_X5_cashier_0 {ex : sm_O} {d n : Nat} {y : sm_Y} {I : Nat → Nat → Int32} {L : Nat → Nat → Int64} {R : Nat → Nat → Option Nat} {Q : sm_Q} {a1 : Nat} {a2 : Int32} {d1 : Nat} (hG : sm_G y R) (ho0 : ok9 y R a1) (h1 : d1 < d) (k : if ((sm_st I a1 5 ((I a1 5) ||| ((1 : Int32) <<< (a2 &&& 31)))) a1 6) = a2 then (sm_W ex d1 0 0 30 0 [some (.ref 50), some (.ref a1), some (.int (-1))] [] (n, y, sm_st I a1 5 ((I a1 5) ||| ((1 : Int32) <<< (a2 &&& 31))), L, R) (fun r μ1 => sm_W ex d 0 0 31 26 [some (.ref 50), some (.ref a1), some (.int a2)] (r.toList ++ []) μ1 Q)) else (sm_W ex d 0 0 31 26 [some (.ref 50), some (.ref a1), some (.int a2)] [] (n, y, sm_st I a1 5 ((I a1 5) ||| ((1 : Int32) <<< (a2 &&& 31))), L, R) Q)) : sm_W ex d 0 0 31 0 [some (.ref 50), some (.ref a1), some (.int a2)] [] (n, y, I, L, R) Q := sm_in (sm_in (And.intro rfl (sm_in (And.intro (ok9_y0 ho0) (sm_in (sm_in (sm_in (sm_in (sm_in (And.intro (ok9_y0 ho0) (sm_in (sm_in (And.intro (ok9_y0 ho0) (sm_in (sm_in (And.intro (fun c1 => have k1f := Eq.mp (if_neg c1) k; k1f) (fun c1 => have k1t := Eq.mp (if_pos c1) k; sm_in (sm_in (sm_in (sm_in (Exists.intro 5 (And.intro (hG.1 50 (Nat.le_of_ble_eq_true rfl)) (And.intro rfl (sm_calln h1 (Nat.le_of_ble_eq_true rfl) (Nat.le_of_ble_eq_true rfl) k1t))))))))))))))))))))))))
set_option maxRecDepth 100000 in
theorem w_X5_cashier_26 {ex : sm_O} {d n : Nat} {y : sm_Y} {I : Nat → Nat → Int32} {L : Nat → Nat → Int64} {R : Nat → Nat → Option Nat} {Q : sm_Q} {w0 : Option Value} {w1 : Option Value} {w2 : Option Value} (k : Q none (n, y, I, L, R)) : sm_W ex d 0 0 31 26 [w0, w1, w2] [] (n, y, I, L, R) Q := sm_in (And.intro rfl (And.intro rfl k))
set_option maxRecDepth 100000 in
theorem w_X5_hour_0 {ex : sm_O} {d n : Nat} {y : sm_Y} {I : Nat → Nat → Int32} {L : Nat → Nat → Int64} {R : Nat → Nat → Option Nat} {Q : sm_Q} {w1 : Option Value} {w2 : Option Value} {w3 : Option Value} {w4 : Option Value} {w5 : Option Value} {d1 : Nat} (hG : sm_G y R) (h1 : d1 < d) (k : sm_W ex d1 0 0 4 0 [some (.ref 6)] [] (n, y, I, L, R) (fun r μ1 => sm_W ex d 0 0 32 7 [some (.ref 50), w1, w2, w3, w4, w5] (r.toList ++ []) μ1 Q)) : sm_W ex d 0 0 32 0 [some (.ref 50), w1, w2, w3, w4, w5] [] (n, y, I, L, R) Q := sm_in (sm_in (And.intro (hG.1 50 (Nat.le_of_ble_eq_true rfl)) (sm_gfr rfl (hG.2 50 0 rfl) (sm_in (Exists.intro 0 (And.intro (hG.1 6 (Nat.le_of_ble_eq_true rfl)) (And.intro rfl (sm_calln h1 (Nat.le_of_ble_eq_true rfl) (Nat.le_of_ble_eq_true rfl) k))))))))
set_option maxRecDepth 100000 in
theorem w_X5_hour_7 {ex : sm_O} {d n : Nat} {y : sm_Y} {I : Nat → Nat → Int32} {L : Nat → Nat → Int64} {R : Nat → Nat → Option Nat} {Q : sm_Q} {w0 : Option Value} {w2 : Option Value} {w3 : Option Value} {w4 : Option Value} {w5 : Option Value} {a1 : Nat} {s0 : Nat} (ho0 : ok9 y R a1) (k : sm_W ex d 0 0 32 16 [w0, some (.ref a1), some (.ref s0), some (.int (I a1 6)), some (.int 0), w5] [] (n, y, I, L, R) Q) : sm_W ex d 0 0 32 7 [w0, some (.ref a1), w2, w3, w4, w5] [.ref s0] (n, y, I, L, R) Q := sm_in (And.intro (Nat.le_of_ble_eq_true rfl) (sm_in (sm_in (And.intro (ok9_y0 ho0) (sm_in (And.intro (Nat.le_of_ble_eq_true rfl) (sm_in (sm_in (And.intro (Nat.le_of_ble_eq_true rfl) (k))))))))))
set_option maxRecDepth 100000 in
theorem w_X5_hour_16 {ex : sm_O} {d n : Nat} {y : sm_Y} {I : Nat → Nat → Int32} {L : Nat → Nat → Int64} {R : Nat → Nat → Option Nat} {Q : sm_Q} {w5 : Option Value} {a1 : Nat} {a2 : Nat} {a3 : Int32} {a4 : Int32} {d1 : Nat} (hG : sm_G y R) (ho0 : ok9 y R a1) (h1 : d1 < d) (k : if (I a1 4) ≤ a4 then (sm_W ex d1 0 0 64 0 [some (.ref a1), some (.int a3)] [] (n, y, sm_st I (a1 + 4) 0 ((I (a1 + 4) 0) + 1), L, R) (fun r μ1 => sm_W ex d 0 0 32 112 [some (.ref 50), some (.ref a1), some (.ref a2), some (.int a3), some (.int a4), w5] (r.toList ++ []) μ1 Q)) else (vp_in a4 7 ∧ (if a4 = a3 then (sm_W ex d1 0 0 26 0 [some (.ref 50), some (.ref a2), some (.int 0), some (.ref a1), some (.int a4), some (.int (-1)), none, none] [] (n, y, I, L, R) (fun r μ1 => sm_W ex d 0 0 32 54 [some (.ref 50), some (.ref a1), some (.ref a2), some (.int a3), some (.int a4), some (.int (I (a1 + 3) a4.toNatClampNeg))] (r.toList ++ [.int (I (a1 + 3) a4.toNatClampNeg), .int 99]) μ1 Q)) else (sm_W ex d1 0 0 26 0 [some (.ref 50), some (.ref a2), some (.int 1), some (.ref a1), some (.int a4), some (.int (-1)), none, none] [] (n, y, I, L, R) (fun r μ1 => sm_W ex d 0 0 32 76 [some (.ref 50), some (.ref a1), some (.ref a2), some (.int a3), some (.int a4), some (.int (I (a1 + 3) a4.toNatClampNeg))] (r.toList ++ [.int (I (a1 + 3) a4.toNatClampNeg), .int 0]) μ1 Q))))) : sm_W ex d 0 0 32 16 [some (.ref 50), some (.ref a1), some (.ref a2), some (.int a3), some (.int a4), w5] [] (n, y, I, L, R) Q := sm_in (sm_in (sm_in (And.intro (ok9_y0 ho0) (sm_in (And.intro (fun c1 => have k1t := Eq.mp (if_pos c1) k; sm_in (sm_in (And.intro (ok9_y0 ho0) (sm_gfr rfl (ok9_r3 ho0) (sm_in (sm_in (And.intro rfl (And.intro rfl (sm_in (Exists.intro 4 (And.intro (ok9_a4 ho0) (And.intro (sm_lin (by decide)) (sm_in (sm_in (sm_in (Exists.intro 4 (And.intro (ok9_a4 ho0) (And.intro (sm_lin (by decide)) (sm_in (sm_in (sm_in (Exists.intro 9 (And.intro (ok9_y0 ho0) (And.intro rfl (sm_calln h1 (Nat.le_of_ble_eq_true rfl) (Nat.le_of_ble_eq_true rfl) k1t))))))))))))))))))))))))) (fun c1 => have k1f := Eq.mp (if_neg c1) k; sm_in (sm_in (And.intro (ok9_y0 ho0) (sm_gfr rfl (ok9_r2 ho0) (sm_in ((have e2 := k1f.1; have k2 := k1f.2; sm_in (Exists.intro 7 (And.intro (ok9_a3 ho0) (And.intro e2 (sm_in (And.intro (Nat.le_of_ble_eq_true rfl) (sm_in (sm_in (sm_in (And.intro (fun c3 => have k3f := Eq.mp (if_neg c3) k2; sm_in (sm_in (sm_in (sm_in (sm_in (sm_in (sm_in (sm_in (sm_in (Exists.intro 5 (And.intro (hG.1 50 (Nat.le_of_ble_eq_true rfl)) (And.intro rfl (sm_calln h1 (Nat.le_of_ble_eq_true rfl) (Nat.le_of_ble_eq_true rfl) k3f))))))))))))) (fun c3 => have k3t := Eq.mp (if_pos c3) k2; sm_in (sm_in (sm_in (sm_in (sm_in (sm_in (sm_in (sm_in (sm_in (Exists.intro 5 (And.intro (hG.1 50 (Nat.le_of_ble_eq_true rfl)) (And.intro rfl (sm_calln h1 (Nat.le_of_ble_eq_true rfl) (Nat.le_of_ble_eq_true rfl) k3t))))))))))))))))))))))))))))))))))
set_option maxRecDepth 100000 in
theorem w_X5_hour_54 {ex : sm_O} {d n : Nat} {y : sm_Y} {I : Nat → Nat → Int32} {L : Nat → Nat → Int64} {R : Nat → Nat → Option Nat} {Q : sm_Q} {w0 : Option Value} {w2 : Option Value} {w5 : Option Value} {a1 : Nat} {a3 : Int32} {a4 : Int32} {s0 : Int32} {s1 : Int32} {s2 : Int32} (ho0 : ok9 y R a1) (h1 : 1 ≤ d) (k : vp_in a4 7 ∧ sm_W ex d 0 0 32 16 [w0, some (.ref a1), w2, some (.int a3), some (.int (a4 + 1)), some (.int (if (s1 + s0) < s2 then (s1 + s0) else s2))] [] (n, y, sm_st I (a1 + 3) a4.toNatClampNeg (if (s1 + s0) < s2 then (s1 + s0) else s2), L, R) Q) : sm_W ex d 0 0 32 54 [w0, some (.ref a1), w2, some (.int a3), some (.int a4), w5] [.int s0, .int s1, .int s2] (n, y, I, L, R) Q := sm_in (sm_in (And.intro h1 (And.intro (Nat.le_of_ble_eq_true rfl) (sm_in (And.intro (Nat.le_of_ble_eq_true rfl) (sm_in (sm_in (sm_in (And.intro (ok9_y0 ho0) (sm_gfr rfl (ok9_r2 ho0) (sm_in (sm_in ((have e1 := k.1; have k1 := k.2; sm_in (Exists.intro 7 (And.intro (ok9_a3 ho0) (And.intro e1 (sm_in (And.intro (Nat.le_of_ble_eq_true rfl) (sm_in (k1)))))))))))))))))))))
set_option maxRecDepth 100000 in
theorem w_X5_hour_76 {ex : sm_O} {d n : Nat} {y : sm_Y} {I : Nat → Nat → Int32} {L : Nat → Nat → Int64} {R : Nat → Nat → Option Nat} {Q : sm_Q} {w0 : Option Value} {w2 : Option Value} {w5 : Option Value} {a1 : Nat} {a3 : Int32} {a4 : Int32} {s0 : Int32} {s1 : Int32} {s2 : Int32} (ho0 : ok9 y R a1) (h1 : 1 ≤ d) (k : vp_in a4 7 ∧ sm_W ex d 0 0 32 16 [w0, some (.ref a1), w2, some (.int a3), some (.int (a4 + 1)), some (.int (if s2 < (s1 - s0) then (s1 - s0) else s2))] [] (n, y, sm_st I (a1 + 3) a4.toNatClampNeg (if s2 < (s1 - s0) then (s1 - s0) else s2), L, R) Q) : sm_W ex d 0 0 32 76 [w0, some (.ref a1), w2, some (.int a3), some (.int a4), w5] [.int s0, .int s1, .int s2] (n, y, I, L, R) Q := sm_in (sm_in (And.intro h1 (And.intro (Nat.le_of_ble_eq_true rfl) (sm_in (And.intro (Nat.le_of_ble_eq_true rfl) (sm_in (sm_in (And.intro (ok9_y0 ho0) (sm_gfr rfl (ok9_r2 ho0) (sm_in (sm_in ((have e1 := k.1; have k1 := k.2; sm_in (Exists.intro 7 (And.intro (ok9_a3 ho0) (And.intro e1 (sm_in (And.intro (Nat.le_of_ble_eq_true rfl) (sm_in (k1))))))))))))))))))))
set_option maxRecDepth 100000 in
theorem w_X5_hour_112 {ex : sm_O} {d n : Nat} {y : sm_Y} {I : Nat → Nat → Int32} {L : Nat → Nat → Int64} {R : Nat → Nat → Option Nat} {Q : sm_Q} {w2 : Option Value} {w4 : Option Value} {w5 : Option Value} {a1 : Nat} {a3 : Int32} {s0 : Int32} {d1 : Nat} (hG : sm_G y R) (ho0 : ok9 y R a1) (h1 : 1 ≤ d) (h2 : d1 < d) (k : if s0 = 0 then (Q (some (.int 0)) (n, y, I, L, R)) else (vp_in a3 7 ∧ (if ((sm_st I a1 7 (if ((I a1 7) + 1) < 99 then ((I a1 7) + 1) else 99)) (a1 + 1) a3.toNatClampNeg) < ((sm_st I a1 7 (if ((I a1 7) + 1) < 99 then ((I a1 7) + 1) else 99)) (a1 + 3) a3.toNatClampNeg) then (sm_W ex d1 0 0 31 0 [some (.ref 50), some (.ref a1), some (.int a3)] [] (n, y, sm_st I a1 7 (if ((I a1 7) + 1) < 99 then ((I a1 7) + 1) else 99), L, R) (fun r μ1 => sm_W ex d 0 0 32 155 [some (.ref 50), some (.ref a1), w2, some (.int a3), w4, w5] (r.toList ++ []) μ1 Q)) else (Q (some (.int 0)) (n, y, sm_st I a1 7 (if ((I a1 7) + 1) < 99 then ((I a1 7) + 1) else 99), L, R))))) : sm_W ex d 0 0 32 112 [some (.ref 50), some (.ref a1), w2, some (.int a3), w4, w5] [.int s0] (n, y, I, L, R) Q := sm_in (And.intro (fun c1 => have k1f := Eq.mp (if_neg c1) k; sm_in (sm_in (sm_in (sm_in (And.intro (ok9_y0 ho0) (sm_in (sm_in (sm_in (And.intro h1 (And.intro (Nat.le_of_ble_eq_true rfl) (sm_in (And.intro (ok9_y0 ho0) (sm_in (sm_in (And.intro (ok9_y0 ho0) (sm_gfr rfl (ok9_r2 ho0) (sm_in ((have e2 := k1f.1; have k2 := k1f.2; sm_in (Exists.intro 7 (And.intro (ok9_a3 ho0) (And.intro e2 (sm_in (sm_in (And.intro (ok9_y0 ho0) (sm_gfr rfl (ok9_r0 ho0) (sm_in (sm_in (Exists.intro 7 (And.intro (ok9_a1 ho0) (And.intro e2 (sm_in (And.intro (fun c3 => have k3t := Eq.mp (if_pos c3) k2; sm_in (sm_in (sm_in (sm_in (Exists.intro 5 (And.intro (hG.1 50 (Nat.le_of_ble_eq_true rfl)) (And.intro rfl (sm_calln h2 (Nat.le_of_ble_eq_true rfl) (Nat.le_of_ble_eq_true rfl) k3t)))))))) (fun c3 => have k3f := Eq.mp (if_neg c3) k2; sm_in (sm_in (And.intro rfl k3f)))))))))))))))))))))))))))))))))))) (fun c1 => have k1t := Eq.mp (if_pos c1) k; sm_in (sm_in (And.intro rfl k1t))))
set_option maxRecDepth 100000 in
theorem w_X5_hour_155 {ex : sm_O} {d n : Nat} {y : sm_Y} {I : Nat → Nat → Int32} {L : Nat → Nat → Int64} {R : Nat → Nat → Option Nat} {Q : sm_Q} {w0 : Option Value} {w1 : Option Value} {w2 : Option Value} {w3 : Option Value} {w4 : Option Value} {w5 : Option Value} (k : Q (some (.int 1)) (n, y, I, L, R)) : sm_W ex d 0 0 32 155 [w0, w1, w2, w3, w4, w5] [] (n, y, I, L, R) Q := sm_in (sm_in (And.intro rfl k))
set_option maxRecDepth 100000 in
theorem w_X5_wouldShake_0 {ex : sm_O} {d n : Nat} {y : sm_Y} {I : Nat → Nat → Int32} {L : Nat → Nat → Int64} {R : Nat → Nat → Option Nat} {Q : sm_Q} {w0 : Option Value} {w2 : Option Value} {a1 : Nat} {d1 : Nat} (ho0 : ok9 y R a1) (h1 : d1 < d) (k : sm_W ex d1 0 0 64 0 [some (.ref a1), some (.int (I a1 6))] [] (n, y, I, L, R) (fun r μ1 => sm_W ex d 0 0 33 10 [w0, some (.ref a1), some (.int (I a1 6))] (r.toList ++ []) μ1 Q)) : sm_W ex d 0 0 33 0 [w0, some (.ref a1), w2] [] (n, y, I, L, R) Q := sm_in (sm_in (And.intro (ok9_y0 ho0) (sm_in (And.intro (Nat.le_of_ble_eq_true rfl) (sm_in (sm_in (sm_in (Exists.intro 9 (And.intro (ok9_y0 ho0) (And.intro rfl (sm_calln h1 (Nat.le_of_ble_eq_true rfl) (Nat.le_of_ble_eq_true rfl) k)))))))))))
set_option maxRecDepth 100000 in
theorem w_X5_wouldShake_10 {ex : sm_O} {d n : Nat} {y : sm_Y} {I : Nat → Nat → Int32} {L : Nat → Nat → Int64} {R : Nat → Nat → Option Nat} {Q : sm_Q} {a1 : Nat} {a2 : Int32} {s0 : Int32} {d1 : Nat} (hG : sm_G y R) (ho0 : ok9 y R a1) (h1 : d1 < d) (k : if s0 = 0 then (Q (some (.int 0)) (n, y, I, L, R)) else (vp_in a2 7 ∧ sm_W ex d1 0 0 4 0 [some (.ref 6)] [] (n, y, I, L, R) (fun r μ1 => sm_W ex d 0 0 33 29 [some (.ref 50), some (.ref a1), some (.int a2)] (r.toList ++ [.ref 50, .int (I (a1 + 3) a2.toNatClampNeg)]) μ1 Q))) : sm_W ex d 0 0 33 10 [some (.ref 50), some (.ref a1), some (.int a2)] [.int s0] (n, y, I, L, R) Q := sm_in (And.intro (fun c1 => have k1f := Eq.mp (if_neg c1) k; sm_in (sm_in (And.intro (ok9_y0 ho0) (sm_gfr rfl (ok9_r2 ho0) (sm_in ((have e2 := k1f.1; have k2 := k1f.2; sm_in (Exists.intro 7 (And.intro (ok9_a3 ho0) (And.intro e2 (sm_in (sm_in (sm_in (And.intro (hG.1 50 (Nat.le_of_ble_eq_true rfl)) (sm_gfr rfl (hG.2 50 0 rfl) (sm_in (Exists.intro 0 (And.intro (hG.1 6 (Nat.le_of_ble_eq_true rfl)) (And.intro rfl (sm_calln h1 (Nat.le_of_ble_eq_true rfl) (Nat.le_of_ble_eq_true rfl) k2)))))))))))))))))))) (fun c1 => have k1t := Eq.mp (if_pos c1) k; sm_in (sm_in (And.intro rfl (And.intro (Or.inl rfl) k1t)))))
set_option maxRecDepth 100000 in
theorem w_X5_wouldShake_29 {ex : sm_O} {d n : Nat} {y : sm_Y} {I : Nat → Nat → Int32} {L : Nat → Nat → Int64} {R : Nat → Nat → Option Nat} {Q : sm_Q} {w0 : Option Value} {a1 : Nat} {a2 : Int32} {s0 : Nat} {s2 : Int32} {d1 : Nat} (hG : sm_G y R) (h1 : d1 < d) (k : sm_W ex d1 0 0 26 0 [some (.ref 50), some (.ref s0), some (.int 0), some (.ref a1), some (.int a2), some (.int (-1)), none, none] [] (n, y, I, L, R) (fun r μ1 => sm_W ex d 0 0 33 36 [w0, some (.ref a1), some (.int a2)] (r.toList ++ [.int s2]) μ1 Q)) : sm_W ex d 0 0 33 29 [w0, some (.ref a1), some (.int a2)] [.ref s0, .ref 50, .int s2] (n, y, I, L, R) Q := sm_in (sm_in (sm_in (sm_in (sm_in (Exists.intro 5 (And.intro (hG.1 50 (Nat.le_of_ble_eq_true rfl)) (And.intro rfl (sm_calln h1 (Nat.le_of_ble_eq_true rfl) (Nat.le_of_ble_eq_true rfl) k))))))))
set_option maxRecDepth 100000 in
theorem w_X5_wouldShake_36 {ex : sm_O} {d n : Nat} {y : sm_Y} {I : Nat → Nat → Int32} {L : Nat → Nat → Int64} {R : Nat → Nat → Option Nat} {Q : sm_Q} {w0 : Option Value} {a1 : Nat} {a2 : Int32} {s0 : Int32} {s1 : Int32} (ho0 : ok9 y R a1) (k : vp_in a2 7 ∧ (if (s1 + s0) ≤ (I (a1 + 1) a2.toNatClampNeg) then (Q (some (.int 0)) (n, y, I, L, R)) else (Q (some (.int 1)) (n, y, I, L, R)))) : sm_W ex d 0 0 33 36 [w0, some (.ref a1), some (.int a2)] [.int s0, .int s1] (n, y, I, L, R) Q := sm_in (sm_in (sm_in (And.intro (ok9_y0 ho0) (sm_gfr rfl (ok9_r0 ho0) (sm_in ((have e1 := k.1; have k1 := k.2; sm_in (Exists.intro 7 (And.intro (ok9_a1 ho0) (And.intro e1 (sm_in (And.intro (fun c2 => have k2t := Eq.mp (if_pos c2) k1; sm_in (sm_in (And.intro rfl (And.intro (Or.inl rfl) k2t)))) (fun c2 => have k2f := Eq.mp (if_neg c2) k1; sm_in (sm_in (sm_in (And.intro rfl (And.intro (Or.inr rfl) k2f)))))))))))))))))
-- THE CLASS'S POST
def lawOf (F : Option (Nat × Law)) : Law := match F with
  | none => []
  | some (_, l) => l
def lawAt (F : Option (Nat × Law)) : Nat := match F with
  | none => 8
  | some (j, _) => 14 + 6 * j
theorem sp_toldF_of (F : Option (Nat × Law)) (kd : Nat) (env : Nat → Int) : sp_toldF F kd env = sp_told (lawOf F) kd env := by
  match F with
  | none => rfl
  | some (_, _) => rfl
def cForce (I : Nat → Nat → Int32) (F : Option (Nat × Law)) : Prop := cLaw I (lawAt F) (lawOf F) ∧ match F with
  | none => I 6 3 = -1
  | some (j, _) => I 6 3 = nI j ∧ j < 6 ∧ ∃ c, I 6 2 = nI c ∧ c ≤ 6 ∧ j < c
theorem cForce_kept {I I' : Nat → Nat → Int32} {F : Option (Nat × Law)} (h : ∀ a j, 6 ≤ a → a < 50 → I' a j = I a j) (hF : cForce I F) : cForce I' F := by
  refine ⟨?_, ?_⟩
  · refine cLaw_kept (fun a j h1 h2 => h a j ?_ ?_) hF.1
    · match F with
      | none => have h1 : 8 ≤ a := h1; omega
      | some (i, _) => have h1 : 14 + 6 * i ≤ a := h1; omega
    · match F, hF with
      | none, _ => have h2 : a ≤ 8 + 5 := h2; omega
      | some (i, _), hF => have h2 : a ≤ 14 + 6 * i + 5 := h2; have := hF.2.2.1; omega
  · match F, hF with
    | none, hF => show I' 6 3 = -1; rw [h 6 3 (by omega) (by omega)]; exact hF.2
    | some (i, _), hF =>
      refine ⟨?_, hF.2.2.1, ?_⟩
      · rw [h 6 3 (by omega) (by omega)]
        exact hF.2.1
      · rw [h 6 2 (by omega) (by omega)]
        exact hF.2.2.2
theorem mk6 {y : sm_Y} {R : Nat → Nat → Option Nat} (hG : sm_G y R) (i : Nat) (hi : i < 6) : ok6 y R (14 + 6 * i) 200 12 := by
  match i, hi with
  | 0, _ => exact ⟨hG.1 14 (by decide), hG.2 14 0 rfl, hG.2 14 1 rfl, hG.2 14 2 rfl, hG.2 14 3 rfl, hG.2 14 4 rfl, hG.1 15 (by decide), hG.1 16 (by decide), hG.1 17 (by decide), hG.1 18 (by decide), hG.1 19 (by decide)⟩
  | 1, _ => exact ⟨hG.1 20 (by decide), hG.2 20 0 rfl, hG.2 20 1 rfl, hG.2 20 2 rfl, hG.2 20 3 rfl, hG.2 20 4 rfl, hG.1 21 (by decide), hG.1 22 (by decide), hG.1 23 (by decide), hG.1 24 (by decide), hG.1 25 (by decide)⟩
  | 2, _ => exact ⟨hG.1 26 (by decide), hG.2 26 0 rfl, hG.2 26 1 rfl, hG.2 26 2 rfl, hG.2 26 3 rfl, hG.2 26 4 rfl, hG.1 27 (by decide), hG.1 28 (by decide), hG.1 29 (by decide), hG.1 30 (by decide), hG.1 31 (by decide)⟩
  | 3, _ => exact ⟨hG.1 32 (by decide), hG.2 32 0 rfl, hG.2 32 1 rfl, hG.2 32 2 rfl, hG.2 32 3 rfl, hG.2 32 4 rfl, hG.1 33 (by decide), hG.1 34 (by decide), hG.1 35 (by decide), hG.1 36 (by decide), hG.1 37 (by decide)⟩
  | 4, _ => exact ⟨hG.1 38 (by decide), hG.2 38 0 rfl, hG.2 38 1 rfl, hG.2 38 2 rfl, hG.2 38 3 rfl, hG.2 38 4 rfl, hG.1 39 (by decide), hG.1 40 (by decide), hG.1 41 (by decide), hG.1 42 (by decide), hG.1 43 (by decide)⟩
  | 5, _ => exact ⟨hG.1 44 (by decide), hG.2 44 0 rfl, hG.2 44 1 rfl, hG.2 44 2 rfl, hG.2 44 3 rfl, hG.2 44 4 rfl, hG.1 45 (by decide), hG.1 46 (by decide), hG.1 47 (by decide), hG.1 48 (by decide), hG.1 49 (by decide)⟩
theorem mk8 {y : sm_Y} {R : Nat → Nat → Option Nat} (hG : sm_G y R) : ok6 y R 8 0 0 := ⟨hG.1 8 (by decide), hG.2 8 0 rfl, hG.2 8 1 rfl, hG.2 8 2 rfl, hG.2 8 3 rfl, hG.2 8 4 rfl, hG.1 9 (by decide), hG.1 10 (by decide), hG.1 11 (by decide), hG.1 12 (by decide), hG.1 13 (by decide)⟩
theorem mk0 {y : sm_Y} {R : Nat → Nat → Option Nat} (hG : sm_G y R) : ok0 y R 6 := by
  refine ⟨hG.1 6 (by decide), hG.2 6 0 rfl, hG.2 6 1 rfl, hG.1 7 (by decide), mk8 hG, fun i hi => ⟨?_, ?_⟩⟩
  · match i, hi with
    | 0, _ => exact hG.2 7 0 rfl
    | 1, _ => exact hG.2 7 1 rfl
    | 2, _ => exact hG.2 7 2 rfl
    | 3, _ => exact hG.2 7 3 rfl
    | 4, _ => exact hG.2 7 4 rfl
    | 5, _ => exact hG.2 7 5 rfl
  · have := mk6 hG i hi
    have e : 6 + (8 + 6 * i) = 14 + 6 * i := by omega
    rw [e]
    exact this
theorem c_X0_inForce {ex : sm_O} {n : Nat} {y : sm_Y} {I : Nat → Nat → Int32} {L : Nat → Nat → Int64} {R : Nat → Nat → Option Nat} {Q : sm_Q} {d : Nat} {F : Option (Nat × Law)} (hd : 1 ≤ d) (hG : sm_G y R) (hF : cForce I F) (k : Q (some (.ref (lawAt F))) (n, y, I, L, R)) : sm_W ex d 0 0 4 0 [some (.ref 6)] [] (n, y, I, L, R) Q := by
  refine w_X0_inForce_0 (d1 := 0) (mk0 hG) (by omega) ?_
  refine w_X0_lawOrNone (mk0 hG) ?_
  match F, hF, k with
  | none, hF, k =>
    rw [if_pos (by rw [show I 6 3 = -1 from hF.2]; decide)]
    exact w_X0_inForce_8 k
  | some (j, l), hF, k =>
    obtain ⟨h3, hj, c, hc, hc6, hjc⟩ := hF.2
    rw [h3, if_neg (nI_pos (by omega)), hc, if_neg (by rw [nI_leI (by omega) (by omega)]; omega), nI_clamp (by omega)]
    refine ⟨vp_in_nI hj (by decide), ?_⟩
    have e : 6 + (8 + 6 * j) = lawAt (some (j, l)) := by show _ = 14 + 6 * j; omega
    rw [e]
    exact w_X0_inForce_8 k
/-- asking the law in force -/
theorem c_told {ex : sm_O} {n : Nat} {y : sm_Y} {I : Nat → Nat → Int32} {L : Nat → Nat → Int64} {R : Nat → Nat → Option Nat} {Q : sm_Q} {d o m kd : Nat} {s : St} {other : Option Nat} {F : Option (Nat × Law)} (hd : 2 ≤ d) (hG : sm_G y R) (ho : cSt y R o) (hs : cS s o I) (hok : sp_ok s) (hm : m < sMen s) (ho2 : ∀ q, other = some q → q < sMen s) (hF : cForce I F) (hkd : kd ≤ 3)
    (k : ∀ (I' : Nat → Nat → Int32), cFt I I' → Q (some (.int (nI (sp_asked (lawOf F) kd s m other)))) (n, y, I', L, R)) : sm_W ex d 0 0 26 0 [some (.ref 50), some (.ref (lawAt F)), some (.int (nI kd)), some (.ref o), some (.int (nI m)), some (.int (sp_up other)), none, none] [] (n, y, I, L, R) Q := by
  match F, hF, k with
  | none, hF, k => exact c_X5_told hd hG ho hs hok hm ho2 (mk8 hG) (by decide) (fun q => absurd rfl q) hF.1 hkd k
  | some (j, l), hF, k => exact c_X5_told hd hG ho hs hok hm ho2 (mk6 hG j hF.2.2.1) (by have := hF.2.2.1; show 14 + 6 * j + 5 < 51 ∨ _; omega) (fun _ => ⟨rfl, rfl⟩) hF.1 hkd k
theorem sp_asked_t (F : Option (Nat × Law)) (s : St) (m : Nat) : sp_asked (lawOf F) 0 s m none = sp_tires F s m := by
  unfold sp_asked sp_tires
  rw [sp_toldF_of]
  rfl
theorem sp_asked_r (F : Option (Nat × Law)) (s : St) (m : Nat) : sp_asked (lawOf F) 1 s m none = sp_rests F s m := by
  unfold sp_asked sp_rests
  rw [sp_toldF_of]
  rfl
theorem sp_asked_n (F : Option (Nat × Law)) (s : St) (m : Nat) (o : Option Nat) : sp_asked (lawOf F) 2 s m o = sp_notice F s m o := by
  unfold sp_asked sp_notice
  rw [if_pos rfl]
  cases o with
  | none => rfl
  | some o =>
    dsimp only
    rw [sp_toldF_of]
theorem sp_asked_b (F : Option (Nat × Law)) (s : St) (m : Nat) : sp_asked (lawOf F) 3 s m none = if sp_bars F s m = true then 1 else 0 := by
  unfold sp_asked sp_bars
  rw [sp_toldF_of]
  rfl
/-- the four terms, outside -/
def exOK (ex : sm_O) : Prop := (ex.1 0).1 = 4 ∧ (ex.1 0).2 0 = 999 ∧ (ex.1 0).2 1 = 10 ∧ (ex.1 0).2 2 = 9 ∧ (ex.1 0).2 3 = 99
/-- what a move touches of the Standing at o -/
def cFm (o : Nat) (I I' : Nat → Nat → Int32) : Prop := ∀ a j, ¬ (51 ≤ a ∧ a ≤ 53) → ¬ (a = o ∧ 5 ≤ j ∧ j ≤ 7) → a ≠ o + 3 → ¬ (a = o + 4 ∧ j = 0) → I' a j = I a j
theorem cFm.rfl' (o : Nat) (I : Nat → Nat → Int32) : cFm o I I := fun _ _ _ _ _ _ => rfl
theorem cFm.trans {o : Nat} {I I' I2 : Nat → Nat → Int32} (h1 : cFm o I I') (h2 : cFm o I' I2) : cFm o I I2 := fun a j h g f e => (h2 a j h g f e).trans (h1 a j h g f e)
theorem cFt.m {I I' : Nat → Nat → Int32} (o : Nat) (h : cFt I I') : cFm o I I' := fun a j h1 _ _ _ => h a j h1
theorem cFm.f (o : Nat) (I : Nat → Nat → Int32) {j : Nat} (h : 5 ≤ j ∧ j ≤ 7) (v : Int32) : cFm o I (sm_st I o j v) := fun a i _ g _ _ => by
  by_cases ha : a = o
  · exact sm_st_j _ _ (fun hj => g ⟨ha, hj ▸ h⟩)
  · exact sm_st_o _ _ ha
theorem cFm.t (o : Nat) (I : Nat → Nat → Int32) (j : Nat) (v : Int32) : cFm o I (sm_st I (o + 3) j v) := fun a i _ _ g _ => sm_st_o _ _ g
theorem cFm.h (o : Nat) (I : Nat → Nat → Int32) (v : Int32) : cFm o I (sm_st I (o + 4) 0 v) := fun a i _ _ _ g => by
  by_cases ha : a = o + 4
  · exact sm_st_j _ _ (fun hj => g ⟨ha, hj⟩)
  · exact sm_st_o _ _ ha
theorem cFm.F {o : Nat} {I I' : Nat → Nat → Int32} {F : Option (Nat × Law)} (h : cFm o I I') (ho : o + 4 < 6 ∨ 53 < o) (hF : cForce I F) : cForce I' F := cForce_kept (fun a j h1 h2 => h a j (by omega) (by omega) (by omega) (by omega)) hF
theorem sp_bits_ext {p q : Nat → Bool} : ∀ n, (∀ i, i < n → p i = q i) → sp_bits p n = sp_bits q n
  | 0, _ => rfl
  | n + 1, h => by simp only [sp_bits, sp_bits_ext n (fun i hi => h i (by omega)), h n (by omega)]
theorem sp_bits_on (p : Nat → Bool) {m n : Nat} (hm : m < n) : sp_bits p n ||| 2 ^ m = sp_bits (sm_up p m true) n := by
  apply Nat.eq_of_testBit_eq
  intro i
  rw [Nat.testBit_or, sp_bits_tb, sp_bits_tb, Nat.testBit_two_pow]
  unfold sm_up
  by_cases h : i = m
  · subst h
    simp [hm]
  · have : ¬ m = i := fun e => h e.symm
    simp [h, this]
theorem sm_andn7 : ∀ s, s < 128 → ∀ m, m < 7 → nI s &&& (((1 : Int32) <<< (nI m &&& 31)) ^^^ (-1)) = nI (s &&& (127 - 2 ^ m)) := by decide +kernel
theorem sm_tbn7 : ∀ m, m < 7 → ∀ i, i < 7 → (127 - 2 ^ m).testBit i = decide (i ≠ m) := by decide +kernel
theorem sp_bits_off (p : Nat → Bool) {m n : Nat} (hm : m < n) (hn : n ≤ 7) : sp_bits p n &&& (127 - 2 ^ m) = sp_bits (sm_up p m false) n := by
  apply Nat.eq_of_testBit_eq
  intro i
  rw [Nat.testBit_and, sp_bits_tb, sp_bits_tb]
  by_cases hi : i < n
  · rw [sm_tbn7 m (by omega) i (by omega)]
    unfold sm_up
    by_cases h : i = m
    · subst h
      simp
    · simp [h]
  · simp [hi]
theorem cS_cash_lt {s : St} (h7 : sMen s ≤ 7) (p : Nat → Bool) : sp_bits p (sMen s) < 128 := Nat.lt_of_lt_of_le (sp_bits_lt _ _) (show 2 ^ sMen s ≤ 2 ^ 7 from Nat.pow_le_pow_right (by decide) h7)
theorem cS_relieve {I I' : Nat → Nat → Int32} {s : St} {o m : Nat} (hs : cS s o I) (h6 : I' o 6 = nI m) (h7 : I' o 7 = 0) (h : ∀ a j, o ≤ a → a ≤ o + 4 → ¬ (a = o ∧ (j = 6 ∨ j = 7)) → I' a j = I a j) : cS (sp_relieve s m) o I' := by
  refine ⟨?_, fun i hi => ?_, ?_, h6, h7, fun j hj => ?_⟩
  · rw [h o 4 (by omega) (by omega) (by omega)]; exact hs.1
  · rw [h (o + 1) i (by omega) (by omega) (by omega), h (o + 2) i (by omega) (by omega) (by omega), h (o + 3) i (by omega) (by omega) (by omega)]; exact hs.2.1 i hi
  · rw [h o 5 (by omega) (by omega) (by omega)]; exact hs.2.2.1
  · rw [h (o + 4) j (by omega) (by omega) (by omega)]; exact hs.2.2.2.2.2 j hj
theorem c_X5_cashier {ex : sm_O} {n : Nat} {y : sm_Y} {I : Nat → Nat → Int32} {L : Nat → Nat → Int64} {R : Nat → Nat → Option Nat} {Q : sm_Q} {d o m : Nat} {s : St} (hd : 1 ≤ d) (hG : sm_G y R) (ho : cSt y R o) (hs : cS s o I) (hok : sp_ok s) (hm : m < sMen s)
    (k : ∀ (I' : Nat → Nat → Int32), cFm o I I' → cS (sp_cashier s m) o I' → Q none (n, y, I', L, R)) : sm_W ex d 0 0 31 0 [some (.ref 50), some (.ref o), some (.int (nI m))] [] (n, y, I, L, R) Q := by
  have h7 := hok.1
  refine w_X5_cashier_0 (d1 := 0) hG ho.1 (by omega) ?_
  have hup := sp_up_eq hok.2.2.1 (by omega) hm
  rw [sm_st_j _ _ (by decide), hs.2.2.2.1, hs.2.2.1, sm_shl7 m (by omega), sm_or7 _ (cS_cash_lt h7 _) _ (Nat.lt_of_lt_of_le (Nat.pow_lt_pow_right (by decide) (by omega : m < 7)) (by decide)), sp_bits_on _ hm]
  simp only [hup]
  by_cases hu : sUp s = some m
  · rw [if_pos hu]
    refine w_X5_goUp ho.1 ?_
    refine w_X5_cashier_26 ?_
    refine k _ (((cFm.f o I (by omega) _).trans (cFm.f o _ (by omega) _)).trans (cFm.f o _ (by omega) _)) ?_
    refine ⟨?_, fun i hi => ?_, ?_, ?_, ?_, fun j hj => ?_⟩
    · rw [sm_st_j _ _ (by decide), sm_st_j _ _ (by decide), sm_st_j _ _ (by decide)]; exact hs.1
    · repeat rw [sm_st_o _ _ (by omega)]
      exact hs.2.1 i hi
    · rw [sm_st_j _ _ (by decide), sm_st_j _ _ (by decide), sm_st_s]; rfl
    · rw [sm_st_j _ _ (by decide), sm_st_s]
      show _ = sp_up (if sUp s = some m then none else sUp s)
      rw [if_pos hu]; rfl
    · rw [sm_st_s]
      show _ = nI (if sUp s = some m then 0 else sHeld s)
      rw [if_pos hu]; rfl
    · repeat rw [sm_st_o _ _ (by omega)]
      exact hs.2.2.2.2.2 j hj
  · rw [if_neg hu]
    refine w_X5_cashier_26 ?_
    refine k _ (cFm.f o I (by omega) _) ?_
    refine ⟨?_, fun i hi => ?_, ?_, ?_, ?_, fun j hj => ?_⟩
    · rw [sm_st_j _ _ (by decide)]; exact hs.1
    · repeat rw [sm_st_o _ _ (by omega)]
      exact hs.2.1 i hi
    · rw [sm_st_s]; rfl
    · rw [sm_st_j _ _ (by decide)]
      show _ = sp_up (if sUp s = some m then none else sUp s)
      rw [if_neg hu]; exact hs.2.2.2.1
    · rw [sm_st_j _ _ (by decide)]
      show _ = nI (if sUp s = some m then 0 else sHeld s)
      rw [if_neg hu]; exact hs.2.2.2.2.1
    · repeat rw [sm_st_o _ _ (by omega)]
      exact hs.2.2.2.2.2 j hj
theorem c_X5_can0 {ex : sm_O} {n : Nat} {y : sm_Y} {I : Nat → Nat → Int32} {L : Nat → Nat → Int64} {R : Nat → Nat → Option Nat} {Q : sm_Q} {d o m : Nat} {s : St} {F : Option (Nat × Law)} (hd : 3 ≤ d) (hG : sm_G y R) (ho : cSt y R o) (hs : cS s o I) (hok : sp_ok s) (hm : m < sMen s) (hF : cForce I F)
    (k : ∀ (I' : Nat → Nat → Int32) (x : Int32), cFt I I' → (sp_can F s m ∧ x = 1 ∨ ¬ sp_can F s m ∧ x = 0) → Q (some (.int x)) (n, y, I', L, R)) : sm_W ex d 0 0 28 0 [some (.ref 50), some (.int 0), some (.ref o), some (.int (nI m))] [] (n, y, I, L, R) Q := by
  have h7 := hok.1
  have hman := hok.2.1 m hm
  have hst := hs.2.1 m hm
  refine w_X5_can_0 (d1 := 0) ho.1 (by omega) ?_
  rw [if_neg (by decide), if_pos rfl, hs.2.2.2.1]
  simp only [sp_up_eq hok.2.2.1 (by omega) hm]
  by_cases hu : sUp s = some m
  · rw [if_pos hu]
    exact k I 0 (cFt.rfl' I) (Or.inr ⟨fun q => q.1 hu, rfl⟩)
  rw [if_neg hu]
  refine c_X9_isCashiered ho.1 hs h7 hm ?_
  refine w_X5_can_66 (d1 := 1) hG ho.1 (by omega) ?_
  cases hc : sCash s m with
  | true =>
    rw [if_neg (by simp)]
    exact k I 0 (cFt.rfl' I) (Or.inr ⟨fun q => by have := q.2.1; rw [hc] at this; exact absurd this (by decide), rfl⟩)
  | false =>
    rw [if_pos (by simp), nI_clamp (by omega), hst.1, hst.2.2]
    refine ⟨vp_in_nI (by omega) (by decide), ?_⟩
    have hle : nI (sHold s m) ≤ nI (sTired s m) ↔ sHold s m ≤ sTired s m := nI_leI (by omega) (by omega)
    simp only [hle]
    by_cases ht : sHold s m ≤ sTired s m
    · rw [if_pos ht]
      exact k I 0 (cFt.rfl' I) (Or.inr ⟨fun q => absurd q.2.2.1 (by omega), rfl⟩)
    rw [if_neg ht]
    refine c_X0_inForce (Nat.le_refl 1) hG hF ?_
    refine w_X5_can_92 (d1 := 2) hG (by omega) ?_
    refine c_told (kd := 3) (other := none) (Nat.le_refl 2) hG ho hs hok hm (fun _ q => by cases q) hF (by decide) ?_
    intro I1 hf1
    refine w_X5_can_99 ?_
    rw [sp_asked_b]
    cases hb : sp_bars F s m with
    | true =>
      rw [if_neg (by decide)]
      exact k I1 0 hf1 (Or.inr ⟨fun q => by have := q.2.2.2; rw [hb] at this; exact absurd this (by decide), rfl⟩)
    | false =>
      rw [if_pos (by decide)]
      exact k I1 1 hf1 (Or.inl ⟨⟨hu, hc, by omega, hb⟩, rfl⟩)
theorem c_X5_can3 {ex : sm_O} {n : Nat} {y : sm_Y} {I : Nat → Nat → Int32} {L : Nat → Nat → Int64} {R : Nat → Nat → Option Nat} {Q : sm_Q} {d o : Nat} {w3 : Int32} {s : St} (hd : 1 ≤ d) (hE : exOK ex) (ho : ok9 y R o) (hs : cS s o I) (hok : sp_ok s) (k : Q (some (.int (sm_b (sTerm s 0 < 999)))) (n, y, I, L, R)) : sm_W ex d 0 0 28 0 [some (.ref 50), some (.int 3), some (.ref o), some (.int w3)] [] (n, y, I, L, R) Q := by
  refine w_X5_can_0 (d1 := 0) ho (by omega) ?_
  have t := hok.2.2.2.2.1
  rw [if_pos rfl, hE.1, hE.2.1, hs.2.2.2.2.2 0 (by omega)]
  refine ⟨vp_in_nI (n := 0) (by decide) (by decide), ?_⟩
  have hle : (999 : Int32) ≤ nI (sTerm s 0) ↔ 999 ≤ sTerm s 0 := nI_leI (a := 999) (by decide) (by omega)
  simp only [hle]
  by_cases h : 999 ≤ sTerm s 0
  · rw [if_pos h]
    rw [sm_b_f (by omega)] at k
    exact k
  · rw [if_neg h]
    rw [sm_b_t (by omega)] at k
    exact k
theorem c_X5_can12 {ex : sm_O} {n : Nat} {y : sm_Y} {I : Nat → Nat → Int32} {L : Nat → Nat → Int64} {R : Nat → Nat → Option Nat} {Q : sm_Q} {d o m dd : Nat} {s : St} (hd : 1 ≤ d) (hdd : dd = 1 ∨ dd = 2) (ho : ok9 y R o) (hs : cS s o I) (h7 : sMen s ≤ 7) (hm : m < sMen s) (k : Q (some (.int (sm_b (sCash s m = decide (dd = 2))))) (n, y, I, L, R)) : sm_W ex d 0 0 28 0 [some (.ref 50), some (.int (nI dd)), some (.ref o), some (.int (nI m))] [] (n, y, I, L, R) Q := by
  refine w_X5_can_0 (d1 := 0) ho (by omega) ?_
  rw [if_neg (by rcases hdd with rfl | rfl <;> decide), if_neg (by rcases hdd with rfl | rfl <;> decide)]
  refine c_X9_isCashiered ho hs h7 hm ?_
  refine w_X5_can_34 ?_
  rcases hdd with rfl | rfl
  · rw [if_neg (by decide)]
    cases hc : sCash s m with
    | true =>
      rw [if_neg (by simp)]
      rw [sm_b_f (by rw [hc]; decide)] at k
      exact k
    | false =>
      rw [if_pos (by simp)]
      rw [sm_b_t (by rw [hc]; decide)] at k
      exact k
  · rw [if_pos (by decide)]
    cases hc : sCash s m with
    | true =>
      rw [if_pos (by simp)]
      rw [sm_b_t (by rw [hc]; decide)] at k
      exact k
    | false =>
      rw [if_neg (by simp)]
      rw [sm_b_f (by rw [hc]; decide)] at k
      exact k
theorem sp_relieve_ok {s : St} {m : Nat} (h : sp_ok s) (hm : m < sMen s) : sp_ok (sp_relieve s m) := by
  obtain ⟨h1, h2, h3, h4, h5, h6, h7, h8⟩ := h
  refine ⟨h1, h2, fun u hu => ?_, Nat.zero_le _, h5, h6, h7, h8⟩
  cases hu
  exact hm
theorem sp_pardon_ok {s : St} {m : Nat} (h : sp_ok s) : sp_ok (sp_pardon s m) := by
  obtain ⟨h1, h2, h3, h4, h5, h6, h7, h8⟩ := h
  refine ⟨h1, fun i hi => ⟨(h2 i hi).1, (h2 i hi).2.1, (h2 i hi).2.2.1, ?_⟩, h3, h4, h5, h6, h7, h8⟩
  show sm_up (sTired s) m 0 i ≤ 99
  unfold sm_up
  split
  · omega
  · exact (h2 i hi).2.2.2
theorem c_X5_move0 {ex : sm_O} {n : Nat} {y : sm_Y} {I : Nat → Nat → Int32} {L : Nat → Nat → Int64} {R : Nat → Nat → Option Nat} {Q : sm_Q} {d o m : Nat} {w4 : Option Value} {s : St} {F : Option (Nat × Law)} (hd : 3 ≤ d) (hG : sm_G y R) (ho : cSt y R o) (hs : cS s o I) (hok : sp_ok s) (hm : m < sMen s) (hF : cForce I F)
    (k : ∀ (I' : Nat → Nat → Int32), cFm o I I' → cS (sp_relieve s m) o I' → Q (some (.int (nI (sp_notice F s m (sUp s))))) (n, y, I', L, R)) : sm_W ex d 0 0 29 0 [some (.ref 50), some (.int 0), some (.ref o), some (.int (nI m)), w4] [] (n, y, I, L, R) Q := by
  refine w_X5_move_0 (d1 := 1) hG ho.1 (by omega) ?_
  rw [if_pos rfl]
  refine c_X0_inForce (Nat.le_refl 1) hG hF ?_
  refine w_X5_move_12 (d1 := 2) hG ho.1 (by omega) ?_
  rw [hs.2.2.2.1]
  refine c_told (kd := 2) (Nat.le_refl 2) hG ho hs hok hm hok.2.2.1 hF (by decide) ?_
  intro I1 hf1
  rw [sp_asked_n]
  refine w_X5_move_22 (d1 := 0) hG (by omega) ?_
  refine w_X5_goUp ho.1 ?_
  refine w_X5_move_30 ?_
  refine k _ (((hf1.m o).trans (cFm.f o _ (by omega) _)).trans (cFm.f o _ (by omega) _)) ?_
  have hs1 := hf1.S ho hs
  refine cS_relieve hs1 (by rw [sm_st_j _ _ (by decide), sm_st_s]) (sm_st_s _ _ _ _) (fun a j _ _ h => ?_)
  rw [sm_st_or _ _ (by omega), sm_st_or _ _ (by omega)]
theorem c_X5_move1 {ex : sm_O} {n : Nat} {y : sm_Y} {I : Nat → Nat → Int32} {L : Nat → Nat → Int64} {R : Nat → Nat → Option Nat} {Q : sm_Q} {d o m : Nat} {w4 : Option Value} {s : St} (hd : 2 ≤ d) (hG : sm_G y R) (ho : cSt y R o) (hs : cS s o I) (hok : sp_ok s) (hm : m < sMen s)
    (k : ∀ (I' : Nat → Nat → Int32), cFm o I I' → cS (sp_cashier s m) o I' → Q (some (.int (nI (sp_fit (sp_cashier s m))))) (n, y, I', L, R)) : sm_W ex d 0 0 29 0 [some (.ref 50), some (.int 1), some (.ref o), some (.int (nI m)), w4] [] (n, y, I, L, R) Q := by
  refine w_X5_move_0 (d1 := 1) hG ho.1 (by omega) ?_
  rw [if_neg (by decide), if_pos rfl]
  refine c_X5_cashier (Nat.le_refl 1) hG ho hs hok hm ?_
  intro I1 hf1 hs1
  refine w_X5_move_44 (d1 := 1) ho.1 (by omega) ?_
  refine c_X9_fit (Nat.le_refl 1) ho.1 hs1 hok.1 ?_
  exact w_X5_move_72 (k I1 hf1 hs1)
theorem c_X5_move2 {ex : sm_O} {n : Nat} {y : sm_Y} {I : Nat → Nat → Int32} {L : Nat → Nat → Int64} {R : Nat → Nat → Option Nat} {Q : sm_Q} {d o m : Nat} {w4 : Option Value} {s : St} (hd : 2 ≤ d) (hG : sm_G y R) (ho : cSt y R o) (hs : cS s o I) (hok : sp_ok s) (hm : m < sMen s)
    (k : ∀ (I' : Nat → Nat → Int32), cFm o I I' → cS (sp_pardon s m) o I' → Q (some (.int (nI (sp_fit (sp_pardon s m))))) (n, y, I', L, R)) : sm_W ex d 0 0 29 0 [some (.ref 50), some (.int 2), some (.ref o), some (.int (nI m)), w4] [] (n, y, I, L, R) Q := by
  have h7 := hok.1
  refine w_X5_move_0 (d1 := 1) hG ho.1 (by omega) ?_
  rw [if_neg (by decide), if_neg (by decide), nI_clamp (by omega), hs.2.2.1, sm_andn7 _ (cS_cash_lt h7 _) m (by omega), sp_bits_off _ hm h7]
  refine ⟨vp_in_nI (by omega) (by decide), ?_⟩
  have hs1 : cS (sp_pardon s m) o (sm_st (sm_st I o 5 (nI (sp_bits (sm_up (sCash s) m false) (sMen s)))) (o + 3) m 0) := by
    refine ⟨?_, fun i hi => ?_, ?_, ?_, ?_, fun j hj => ?_⟩
    · rw [sm_st_o _ _ (by omega), sm_st_j _ _ (by decide)]; exact hs.1
    · rw [sm_st_o _ _ (by omega), sm_st_o _ _ (by omega), sm_st_o _ _ (by omega), sm_st_o _ _ (by omega)]
      refine ⟨(hs.2.1 i hi).1, (hs.2.1 i hi).2.1, ?_⟩
      show _ = nI (sm_up (sTired s) m 0 i)
      unfold sm_up
      by_cases him : i = m
      · subst him
        rw [if_pos rfl, sm_st_s]
        rfl
      · rw [if_neg him, sm_st_j _ _ him, sm_st_o _ _ (by omega)]
        exact (hs.2.1 i hi).2.2
    · rw [sm_st_o _ _ (by omega), sm_st_s]; rfl
    · rw [sm_st_o _ _ (by omega), sm_st_j _ _ (by decide)]; exact hs.2.2.2.1
    · rw [sm_st_o _ _ (by omega), sm_st_j _ _ (by decide)]; exact hs.2.2.2.2.1
    · rw [sm_st_o _ _ (by omega), sm_st_o _ _ (by omega)]; exact hs.2.2.2.2.2 j hj
  refine c_X9_fit (Nat.le_refl 1) ho.1 hs1 hok.1 ?_
  exact w_X5_move_72 (k _ ((cFm.f o I (by omega) _).trans (cFm.t o _ _ _)) hs1)
def sp_part (F : Option (Nat × Law)) (s : St) (j : Nat) : St := (sMen s, sHold s, sLook s, (fun i => if i < j then sp_tire F s i else sTired s i), sCash s, sUp s, sHeld s, sTerm s)
theorem sp_part_ok {F : Option (Nat × Law)} {s : St} (j : Nat) (h : sp_ok s) : sp_ok (sp_part F s j) := by
  obtain ⟨h1, h2, h3, h4, h5, h6, h7, h8⟩ := h
  refine ⟨h1, fun i hi => ⟨(h2 i hi).1, (h2 i hi).2.1, (h2 i hi).2.2.1, ?_⟩, h3, h4, h5, h6, h7, h8⟩
  show (if i < j then sp_tire F s i else sTired s i) ≤ 99
  split
  · exact sp_tire_le F s i (h2 i hi).2.2.2
  · exact (h2 i hi).2.2.2
theorem sp_part_env (F : Option (Nat × Law)) (s : St) (j : Nat) : sp_env (sp_part F s j) j none = sp_env s j none := by
  funext i
  match i with
  | 0 => rfl
  | 1 => rfl
  | 2 =>
    show (((if j < j then sp_tire F s j else sTired s j) : Nat) : Int) = (sTired s j : Int)
    rw [if_neg (Nat.lt_irrefl j)]
  | 3 => rfl
  | 4 => rfl
  | 5 => rfl
  | 6 => rfl
  | 7 => rfl
  | _ + 8 => rfl
theorem sp_part_asked (F : Option (Nat × Law)) (s : St) (j kd : Nat) (l : Law) (h2 : kd ≠ 2) : sp_asked l kd (sp_part F s j) j none = sp_asked l kd s j none := by
  unfold sp_asked
  rw [sp_part_env]
theorem sp_tires_le (F : Option (Nat × Law)) (s : St) (m : Nat) : sp_tires F s m ≤ 9 := sp_clN_le 9 _
theorem sp_rests_le (F : Option (Nat × Law)) (s : St) (m : Nat) : sp_rests F s m ≤ 9 := sp_clN_le 9 _
theorem cS_part {I : Nat → Nat → Int32} {F : Option (Nat × Law)} {s : St} {o j : Nat} {v : Int32} (hs : cS (sp_part F s j) o I) (hv : v = nI (sp_tire F s j)) : cS (sp_part F s (j + 1)) o (sm_st I (o + 3) j v) := by
  refine ⟨?_, fun i hi => ?_, ?_, ?_, ?_, fun i hi => ?_⟩
  · rw [sm_st_o _ _ (by omega)]; exact hs.1
  · rw [sm_st_o _ _ (by omega), sm_st_o _ _ (by omega)]
    have h := hs.2.1 i hi
    refine ⟨h.1, h.2.1, ?_⟩
    show _ = nI (if i < j + 1 then sp_tire F s i else sTired s i)
    by_cases hij : i = j
    · subst hij
      rw [sm_st_s, if_pos (by omega)]
      exact hv
    · rw [sm_st_j _ _ hij]
      have h3 : I (o + 3) i = nI (if i < j then sp_tire F s i else sTired s i) := h.2.2
      rw [h3]
      have e : (i < j + 1) = (i < j) := propext (by omega)
      simp only [e]
  · rw [sm_st_o _ _ (by omega)]; exact hs.2.2.1
  · rw [sm_st_o _ _ (by omega)]; exact hs.2.2.2.1
  · rw [sm_st_o _ _ (by omega)]; exact hs.2.2.2.2.1
  · rw [sm_st_o _ _ (by omega)]; exact hs.2.2.2.2.2 i hi
set_option maxHeartbeats 1000000 in
theorem c_X5_hour {ex : sm_O} {n : Nat} {y : sm_Y} {I : Nat → Nat → Int32} {L : Nat → Nat → Int64} {R : Nat → Nat → Option Nat} {Q : sm_Q} {d o : Nat} {w2 w3 w4 w5 : Option Value} {s : St} {F : Option (Nat × Law)} (hd : 3 ≤ d) (hG : sm_G y R) (ho : cSt y R o) (hof : o + 4 < 6 ∨ 53 < o) (hs : cS s o I) (hok : sp_ok s) (ht0 : sTerm s 0 < 100000) (hF : cForce I F)
    (k : ∀ (I' : Nat → Nat → Int32), cFm o I I' → cS (sp_hour F s).1 o I' → Q (some (.int (nI (sp_hour F s).2))) (n, y, I', L, R)) : sm_W ex d 0 0 32 0 [some (.ref 50), some (.ref o), w2, w3, w4, w5] [] (n, y, I, L, R) Q := by
  have h7 := hok.1
  have key : ∀ (q j : Nat) (I1 : Nat → Nat → Int32) (v5 : Option Value), j + q = sMen s → cFm o I I1 → cS (sp_part F s j) o I1 → sm_W ex d 0 0 32 16 [some (.ref 50), some (.ref o), some (.ref (lawAt F)), some (.int (sp_up (sUp s))), some (.int (nI j)), v5] [] (n, y, I1, L, R) Q := by
    intro q
    induction q with
    | zero =>
      intro j I1 v5 hj hf1 hs1
      obtain rfl : j = sMen s := by omega
      refine w_X5_hour_16 (d1 := 1) hG ho.1 (by omega) ?_
      rw [show I1 o 4 = nI (sMen s) from hs1.1, if_pos (Int32.le_refl _)]
      refine c_X9_isMan ho.1 ?_
      rw [sm_st_o _ _ (by omega), show I1 o 4 = nI (sMen s) from hs1.1]
      have hh : I1 (o + 4) 0 = nI (sTerm s 0) := hs1.2.2.2.2.2 0 (by omega)
      rw [hh, sm_n1]
      have hf2 : cFm o I (sm_st I1 (o + 4) 0 (nI (sTerm s 0 + 1))) := hf1.trans (cFm.h o I1 _)
      -- the state behind the hour, whatever is held
      have hs2 : ∀ (I2 : Nat → Nat → Int32), (∀ a j, o ≤ a → a ≤ o + 4 → ¬ (a = o ∧ j = 7) → ¬ (a = o + 4 ∧ j = 0) → I2 a j = I1 a j) → I2 (o + 4) 0 = nI (sTerm s 0 + 1) → I2 o 7 = nI (match sUp s with | none => sHeld s | some _ => min 99 (sHeld s + 1)) → cS (sp_hour0 F s) o I2 := by
        intro I2 g g0 g7
        refine ⟨?_, fun i hi => ?_, ?_, ?_, g7, fun i hi => ?_⟩
        · rw [g o 4 (by omega) (by omega) (by omega) (by omega)]; exact hs1.1
        · rw [g (o + 1) i (by omega) (by omega) (by omega) (by omega), g (o + 2) i (by omega) (by omega) (by omega) (by omega), g (o + 3) i (by omega) (by omega) (by omega) (by omega)]
          have h := hs1.2.1 i hi
          refine ⟨h.1, h.2.1, ?_⟩
          have h3 : I1 (o + 3) i = nI (if i < sMen s then sp_tire F s i else sTired s i) := h.2.2
          rw [h3, if_pos (show i < sMen s from hi)]
          rfl
        · rw [g o 5 (by omega) (by omega) (by omega) (by omega)]; exact hs1.2.2.1
        · rw [g o 6 (by omega) (by omega) (by omega) (by omega)]; exact hs1.2.2.2.1
        · show _ = nI (sm_up (sTerm s) 0 (sTerm s 0 + 1) i)
          unfold sm_up
          by_cases hi0 : i = 0
          · subst hi0
            rw [if_pos rfl]
            exact g0
          · rw [if_neg hi0, g (o + 4) i (by omega) (by omega) (by omega) (by omega)]
            exact hs1.2.2.2.2.2 i hi
      cases hu : sUp s with
      | none =>
        rw [hu] at hs2
        rw [sm_b_f (by intro z; exact absurd z.1 (by decide))]
        refine w_X5_hour_112 (d1 := 1) hG ho.1 (by omega) (by omega) ?_
        rw [if_pos rfl]
        have k := k _ hf2
        unfold sp_hour at k
        rw [hu] at k
        refine k (hs2 _ (fun a j _ _ _ h2 => ?_) (sm_st_s _ _ _ _) ?_)
        · exact sm_st_or _ _ (by omega)
        · rw [sm_st_o _ _ (by omega)]
          exact hs1.2.2.2.2.1
      | some u =>
        rw [hu] at hs2
        have hum := hok.2.2.1 u hu
        have hum2 := hok.2.1 u hum
        show sm_W ex d 0 0 32 112 [some (.ref 50), some (.ref o), some (.ref (lawAt F)), some (.int (nI u)), some (.int (nI (sMen s))), v5] ([.int (sm_b (0 ≤ nI u ∧ nI u < nI (sMen s)))] ++ []) _ Q
        rw [sm_b_t ⟨nI_pos' (by omega), (nI_ltI (by omega) (by omega)).mpr hum⟩]
        refine w_X5_hour_112 (d1 := 1) hG ho.1 (by omega) (by omega) ?_
        rw [if_neg (by decide), nI_clamp (by omega)]
        refine ⟨vp_in_nI (by omega) (by decide), ?_⟩
        have e7 : (if (sm_st I1 (o + 4) 0 (nI (sTerm s 0 + 1))) o 7 + 1 < 99 then (sm_st I1 (o + 4) 0 (nI (sTerm s 0 + 1))) o 7 + 1 else 99) = nI (min 99 (sHeld s + 1)) := by
          rw [sm_st_o _ _ (by omega), show I1 o 7 = nI (sHeld s) from hs1.2.2.2.2.1, sm_n1]
          have := hok.2.2.2.1
          have hlt : nI (sHeld s + 1) < 99 ↔ sHeld s + 1 < 99 := nI_ltI (b := 99) (by omega) (by decide)
          simp only [hlt]
          split
          · congr 1
            omega
          · have : min 99 (sHeld s + 1) = 99 := by omega
            rw [this]
            rfl
        rw [e7]
        generalize hI3 : sm_st (sm_st I1 (o + 4) 0 (nI (sTerm s 0 + 1))) o 7 (nI (min 99 (sHeld s + 1))) = I3
        have hf3 : cFm o I I3 := by rw [← hI3]; exact hf2.trans (cFm.f o _ (by omega) _)
        have hs3 : cS (sp_hour0 F s) o I3 := by
          rw [← hI3]
          refine hs2 _ (fun a j _ _ h1 h2 => ?_) ?_ (sm_st_s _ _ _ _)
          · rw [sm_st_or _ _ (by omega), sm_st_or _ _ (by omega)]
          · rw [sm_st_o _ _ (by omega), sm_st_s]
        have hok3 : sp_ok (sp_hour0 F s) := sp_hour0_ok hok ht0
        have h3 := hs3.2.1 u hum
        have h3t : I3 (o + 3) u = nI (sp_tire F s u) := h3.2.2
        have h3h : I3 (o + 1) u = nI (sHold s u) := h3.1
        have hle := sp_tire_le F s u hum2.2.2.2
        have hlt : nI (sHold s u) < nI (sp_tire F s u) ↔ sHold s u < sp_tire F s u := nI_ltI (by omega) (by omega)
        rw [h3t, h3h]
        simp only [hlt]
        unfold sp_hour at k
        rw [hu] at k
        dsimp only at k
        by_cases hsh : sHold s u < sp_tire F s u
        · rw [if_pos hsh]
          rw [if_neg (by omega)] at k
          refine c_X5_cashier (Nat.le_refl 1) hG ho hs3 hok3 hum ?_
          intro I4 hf4 hs4
          exact w_X5_hour_155 (k I4 (hf3.trans hf4) hs4)
        · rw [if_neg hsh]
          rw [if_pos (by omega)] at k
          exact k I3 hf3 hs3
    | succ q ih =>
      intro j I1 v5 hj hf1 hs1
      have hjm : j < sMen s := by omega
      have hman := hok.2.1 j hjm
      have hF1 := hf1.F hof hF
      have hok1 := sp_part_ok (F := F) j hok
      refine w_X5_hour_16 (d1 := 2) hG ho.1 (by omega) ?_
      rw [show I1 o 4 = nI (sMen s) from hs1.1, if_neg (by rw [nI_leI (by omega) (by omega)]; omega), nI_clamp (by omega)]
      refine ⟨vp_in_nI (by omega) (by decide), ?_⟩
      have ht : I1 (o + 3) j = nI (sTired s j) := by
        have : I1 (o + 3) j = nI (if j < j then sp_tire F s j else sTired s j) := (hs1.2.1 j hjm).2.2
        rw [this, if_neg (Nat.lt_irrefl j)]
      rw [ht]
      have hup : nI j = sp_up (sUp s) ↔ sUp s = some j := by
        rw [eq_comm]
        exact sp_up_eq hok.2.2.1 (by omega) hjm
      simp only [hup]
      by_cases hu : sUp s = some j
      · rw [if_pos hu]
        refine c_told (kd := 0) (other := none) (Nat.le_refl 2) hG ho hs1 hok1 hjm (fun _ z => by cases z) hF1 (by decide) ?_
        intro I2 hf2
        rw [sp_part_asked _ _ _ _ _ (by decide), sp_asked_t]
        refine w_X5_hour_54 ho.1 (by omega) ?_
        have htl := sp_tires_le F s j
        rw [nI_add, sm_n1, nI_clamp (by omega)]
        refine ⟨vp_in_nI (by omega) (by decide), ?_⟩
        refine ih (j + 1) _ _ (by omega) ((hf1.trans (hf2.m o)).trans (cFm.t o _ _ _)) (cS_part (hf2.S ho hs1) ?_)
        have hlt : nI (sTired s j + sp_tires F s j) < 99 ↔ sTired s j + sp_tires F s j < 99 := nI_ltI (b := 99) (by omega) (by decide)
        simp only [hlt]
        unfold sp_tire
        rw [if_pos hu]
        split
        · congr 1
          omega
        · have : min 99 (sTired s j + sp_tires F s j) = 99 := by omega
          rw [this]
          rfl
      · rw [if_neg hu]
        refine c_told (kd := 1) (other := none) (Nat.le_refl 2) hG ho hs1 hok1 hjm (fun _ z => by cases z) hF1 (by decide) ?_
        intro I2 hf2
        rw [sp_part_asked _ _ _ _ _ (by decide), sp_asked_r]
        refine w_X5_hour_76 ho.1 (by omega) ?_
        have htl := sp_rests_le F s j
        rw [sm_n1, nI_clamp (by omega)]
        refine ⟨vp_in_nI (by omega) (by decide), ?_⟩
        refine ih (j + 1) _ _ (by omega) ((hf1.trans (hf2.m o)).trans (cFm.t o _ _ _)) (cS_part (hf2.S ho hs1) ?_)
        have e : (nI (sTired s j) - nI (sp_rests F s j)).toInt = (sTired s j : Int) - (sp_rests F s j : Int) := by
          rw [Int32.toInt_sub, nI_toInt (by omega), nI_toInt (by omega)]
          apply Int.bmod_eq_of_le <;> omega
        have hlt : (0 : Int32) < nI (sTired s j) - nI (sp_rests F s j) ↔ sp_rests F s j < sTired s j := by
          rw [Int32.lt_iff_toInt_lt, e]
          show (0 : Int) < _ ↔ _
          omega
        simp only [hlt]
        unfold sp_tire
        rw [if_neg hu]
        split
        · rw [pk_sub (by omega)]
        · have : sTired s j - sp_rests F s j = 0 := by omega
          rw [this]
          rfl
  refine w_X5_hour_0 (d1 := 1) hG (by omega) ?_
  refine c_X0_inForce (Nat.le_refl 1) hG hF ?_
  refine w_X5_hour_7 ho.1 ?_
  rw [hs.2.2.2.1]
  refine key (sMen s) 0 I _ (by omega) (cFm.rfl' o I) ?_
  refine ⟨hs.1, fun i hi => ?_, hs.2.2.1, hs.2.2.2.1, hs.2.2.2.2.1, hs.2.2.2.2.2⟩
  exact hs.2.1 i hi
def sp_shake (F : Option (Nat × Law)) (s : St) : Prop := ∃ u, sUp s = some u ∧ sHold s u < sTired s u + sp_tires F s u
theorem sp_shake_iff {F : Option (Nat × Law)} {s : St} (hok : sp_ok s) : sp_shake F s ↔ (sp_hour F s).2 = 1 := by
  unfold sp_shake sp_hour
  cases hu : sUp s with
  | none => simp
  | some u =>
    have hum := hok.2.1 u (hok.2.2.1 u hu)
    dsimp only
    have e : sp_tire F s u = min 99 (sTired s u + sp_tires F s u) := by unfold sp_tire; rw [if_pos hu]
    rw [e]
    by_cases h : min 99 (sTired s u + sp_tires F s u) ≤ sHold s u
    · rw [if_pos h]
      refine ⟨fun ⟨v, hv, q⟩ => ?_, fun q => absurd (show (0 : Nat) = 1 from q) (by decide)⟩
      cases hv
      omega
    · rw [if_neg h]
      exact ⟨fun _ => rfl, fun _ => ⟨u, rfl, by omega⟩⟩
theorem sp_hour_01 (F : Option (Nat × Law)) (s : St) : (sp_hour F s).2 = 0 ∨ (sp_hour F s).2 = 1 := by
  unfold sp_hour
  split
  · exact Or.inl rfl
  · split
    · exact Or.inl rfl
    · exact Or.inr rfl
theorem c_X5_wouldShake {ex : sm_O} {n : Nat} {y : sm_Y} {I : Nat → Nat → Int32} {L : Nat → Nat → Int64} {R : Nat → Nat → Option Nat} {Q : sm_Q} {d o : Nat} {w2 : Option Value} {s : St} {F : Option (Nat × Law)} (hd : 3 ≤ d) (hG : sm_G y R) (ho : cSt y R o) (hs : cS s o I) (hok : sp_ok s) (hF : cForce I F)
    (k : ∀ (I' : Nat → Nat → Int32) (x : Int32), cFt I I' → (sp_shake F s ∧ x = 1 ∨ ¬ sp_shake F s ∧ x = 0) → Q (some (.int x)) (n, y, I', L, R)) : sm_W ex d 0 0 33 0 [some (.ref 50), some (.ref o), w2] [] (n, y, I, L, R) Q := by
  have h7 := hok.1
  refine w_X5_wouldShake_0 (d1 := 0) ho.1 (by omega) ?_
  rw [hs.2.2.2.1]
  refine c_X9_isMan ho.1 ?_
  rw [hs.1]
  cases hu : sUp s with
  | none =>
    rw [sm_b_f (by intro z; exact absurd z.1 (by decide))]
    refine w_X5_wouldShake_10 (d1 := 1) hG ho.1 (by omega) ?_
    rw [if_pos rfl]
    exact k I 0 (cFt.rfl' I) (Or.inr ⟨fun ⟨v, hv, _⟩ => (by rw [hu] at hv; exact absurd hv (by simp)), rfl⟩)
  | some u =>
    have hum := hok.2.2.1 u hu
    have hum2 := hok.2.1 u hum
    show sm_W ex d 0 0 33 10 [some (.ref 50), some (.ref o), some (.int (nI u))] ([.int (sm_b (0 ≤ nI u ∧ nI u < nI (sMen s)))] ++ []) _ Q
    rw [sm_b_t ⟨nI_pos' (by omega), (nI_ltI (by omega) (by omega)).mpr hum⟩]
    refine w_X5_wouldShake_10 (d1 := 1) hG ho.1 (by omega) ?_
    rw [if_neg (by decide), nI_clamp (by omega), (hs.2.1 u hum).2.2]
    refine ⟨vp_in_nI (by omega) (by decide), ?_⟩
    refine c_X0_inForce (Nat.le_refl 1) hG hF ?_
    refine w_X5_wouldShake_29 (d1 := 2) hG (by omega) ?_
    refine c_told (kd := 0) (other := none) (Nat.le_refl 2) hG ho hs hok hum (fun _ z => by cases z) hF (by decide) ?_
    intro I1 hf1
    have htl := sp_tires_le F s u
    rw [sp_asked_t]
    refine w_X5_wouldShake_36 ho.1 ?_
    rw [nI_clamp (by omega), ((hf1.S ho hs).2.1 u hum).1, nI_add]
    refine ⟨vp_in_nI (by omega) (by decide), ?_⟩
    have hle : nI (sTired s u + sp_tires F s u) ≤ nI (sHold s u) ↔ sTired s u + sp_tires F s u ≤ sHold s u := nI_leI (by omega) (by omega)
    simp only [hle]
    split
    · exact k I1 0 hf1 (Or.inr ⟨fun ⟨v, hv, q⟩ => by rw [hu] at hv; cases hv; omega, rfl⟩)
    · exact k I1 1 hf1 (Or.inl ⟨⟨u, hu, by omega⟩, rfl⟩)

