set_option maxRecDepth 100000 in
theorem w_X9_possible_0 {ex : sm_O} {d n : Nat} {y : sm_Y} {I : Nat → Nat → Int32} {L : Nat → Nat → Int64} {R : Nat → Nat → Option Nat} {Q : sm_Q} {w1 : Option Value} {w2 : Option Value} {w3 : Option Value} {a0 : Nat} (k : sm_W ex d 0 0 72 4 [some (.ref a0), some (.int 0), some (.int 0), w3] [] (n, y, I, L, R) Q) : sm_W ex d 0 0 72 0 [some (.ref a0), w1, w2, w3] [] (n, y, I, L, R) Q := sm_in (sm_in (And.intro (Nat.le_of_ble_eq_true rfl) (sm_in (sm_in (And.intro (Nat.le_of_ble_eq_true rfl) (k))))))
set_option maxRecDepth 100000 in
theorem w_X9_possible_4 {ex : sm_O} {d n : Nat} {y : sm_Y} {I : Nat → Nat → Int32} {L : Nat → Nat → Int64} {R : Nat → Nat → Option Nat} {Q : sm_Q} {w3 : Option Value} {a0 : Nat} {a1 : Int32} {a2 : Int32} (ho0 : ok9 y R a0) (k : if (I a0 4) ≤ a2 then (Q (some (.int a1)) (n, y, I, L, R)) else (vp_in a2 7 ∧ (if ((I (a0 + 2) a2.toNatClampNeg) &&& (I a0 9)) = (I a0 9) then (if ((I (a0 + 2) a2.toNatClampNeg) &&& (I a0 10)) = 0 then (sm_W ex d 0 0 72 4 [some (.ref a0), some (.int (a1 ||| ((1 : Int32) <<< (a2 &&& 31)))), some (.int (a2 + 1)), some (.int 1)] [] (n, y, I, L, R) Q) else (sm_W ex d 0 0 72 4 [some (.ref a0), some (.int (a1 ||| 0)), some (.int (a2 + 1)), some (.int 0)] [] (n, y, I, L, R) Q)) else (sm_W ex d 0 0 72 4 [some (.ref a0), some (.int (a1 ||| 0)), some (.int (a2 + 1)), some (.int 0)] [] (n, y, I, L, R) Q)))) : sm_W ex d 0 0 72 4 [some (.ref a0), some (.int a1), some (.int a2), w3] [] (n, y, I, L, R) Q := sm_in (sm_in (sm_in (And.intro (ok9_y0 ho0) (sm_in (And.intro (fun c1 => have k1t := Eq.mp (if_pos c1) k; sm_in (sm_in (And.intro rfl k1t))) (fun c1 => have k1f := Eq.mp (if_neg c1) k; sm_in (sm_in (And.intro (ok9_y0 ho0) (sm_gfr rfl (ok9_r1 ho0) (sm_in ((have e2 := k1f.1; have k2 := k1f.2; sm_in (Exists.intro 7 (And.intro (ok9_a2 ho0) (And.intro e2 (sm_in (sm_in (And.intro (ok9_y0 ho0) (sm_in (sm_in (sm_in (And.intro (ok9_y0 ho0) (sm_in (And.intro (fun c3 => have k3f := Eq.mp (if_neg c3) k2; sm_in (sm_in (And.intro (Nat.le_of_ble_eq_true rfl) (sm_in (sm_in (sm_in (And.intro (fun _ => sm_in (sm_in (sm_in (And.intro (Nat.le_of_ble_eq_true rfl) (sm_in (And.intro (Nat.le_of_ble_eq_true rfl) (sm_in (k3f)))))))) (fun c => absurd (by decide : (0 : Int32) = 0) c)))))))) (fun c3 => have k3t := Eq.mp (if_pos c3) k2; sm_in (sm_in (And.intro (ok9_y0 ho0) (sm_gfr rfl (ok9_r1 ho0) (sm_in (sm_in (Exists.intro 7 (And.intro (ok9_a2 ho0) (And.intro e2 (sm_in (sm_in (And.intro (ok9_y0 ho0) (sm_in (sm_in (And.intro (fun c4 => have k4f := Eq.mp (if_neg c4) k3t; sm_in (sm_in (And.intro (Nat.le_of_ble_eq_true rfl) (sm_in (sm_in (sm_in (And.intro (fun _ => sm_in (sm_in (sm_in (And.intro (Nat.le_of_ble_eq_true rfl) (sm_in (And.intro (Nat.le_of_ble_eq_true rfl) (sm_in (k4f)))))))) (fun c => absurd (by decide : (0 : Int32) = 0) c)))))))) (fun c4 => have k4t := Eq.mp (if_pos c4) k3t; sm_in (sm_in (sm_in (And.intro (Nat.le_of_ble_eq_true rfl) (sm_in (sm_in (sm_in (And.intro (fun c => absurd c (by decide : ¬ (1 : Int32) = 0)) (fun _ => sm_in (sm_in (sm_in (sm_in (sm_in (sm_in (And.intro (Nat.le_of_ble_eq_true rfl) (sm_in (And.intro (Nat.le_of_ble_eq_true rfl) (sm_in (k4t))))))))))))))))))))))))))))))))))))))))))))))))))))))))))
set_option maxRecDepth 100000 in
theorem w_X9_leftAtMost_0 {ex : sm_O} {d n : Nat} {y : sm_Y} {I : Nat → Nat → Int32} {L : Nat → Nat → Int64} {R : Nat → Nat → Option Nat} {Q : sm_Q} {w0 : Option Value} {w1 : Option Value} {w3 : Option Value} {w4 : Option Value} {a2 : Int32} (k : sm_W ex d 0 0 73 5 [w0, w1, some (.int a2), some (.int 0), some (.int 0)] [] (n, y, I, L, R) Q) : sm_W ex d 0 0 73 0 [w0, w1, some (.int a2), w3, w4] [] (n, y, I, L, R) Q := sm_in (sm_in (And.intro (Nat.le_of_ble_eq_true rfl) (sm_in (sm_in (And.intro (Nat.le_of_ble_eq_true rfl) (k))))))
set_option maxRecDepth 100000 in
theorem w_X9_leftAtMost_5 {ex : sm_O} {d n : Nat} {y : sm_Y} {I : Nat → Nat → Int32} {L : Nat → Nat → Int64} {R : Nat → Nat → Option Nat} {Q : sm_Q} {a0 : Nat} {a1 : Int32} {a2 : Int32} {a3 : Int32} {a4 : Int32} {d1 : Nat} (ho0 : ok9 y R a0) (h1 : d1 < d) (k : if (I a0 4) ≤ a4 then (sm_W ex d1 0 0 240 0 [some (.int a1)] [] (n, y, I, L, R) (fun r μ1 => sm_W ex d 0 0 73 44 [some (.ref a0), some (.int a1), some (.int a2), some (.int a3), some (.int a4)] (r.toList ++ [.int a3]) μ1 Q)) else (vp_in a4 7 ∧ sm_W ex d 0 0 73 5 [some (.ref a0), some (.int a1), some (.int a2), some (.int (a3 + (((a1 >>> (a4 &&& 31)) &&& ((I (a0 + 2) a4.toNatClampNeg) >>> (a2 &&& 31))) &&& 1))), some (.int (a4 + 1))] [] (n, y, I, L, R) Q)) : sm_W ex d 0 0 73 5 [some (.ref a0), some (.int a1), some (.int a2), some (.int a3), some (.int a4)] [] (n, y, I, L, R) Q := sm_in (sm_in (sm_in (And.intro (ok9_y0 ho0) (sm_in (And.intro (fun c1 => have k1t := Eq.mp (if_pos c1) k; sm_in (sm_in (sm_in (And.intro (Nat.le_of_ble_eq_true rfl) (sm_calln h1 (Nat.le_of_ble_eq_true rfl) (Nat.le_of_ble_eq_true rfl) k1t))))) (fun c1 => have k1f := Eq.mp (if_neg c1) k; sm_in (sm_in (sm_in (sm_in (sm_in (sm_in (And.intro (ok9_y0 ho0) (sm_gfr rfl (ok9_r1 ho0) (sm_in ((have e2 := k1f.1; have k2 := k1f.2; sm_in (Exists.intro 7 (And.intro (ok9_a2 ho0) (And.intro e2 (sm_in (sm_in (sm_in (sm_in (sm_in (sm_in (sm_in (And.intro (Nat.le_of_ble_eq_true rfl) (sm_in (And.intro (Nat.le_of_ble_eq_true rfl) (sm_in (k2)))))))))))))))))))))))))))))))
set_option maxRecDepth 100000 in
theorem w_X9_leftAtMost_44 {ex : sm_O} {d n : Nat} {y : sm_Y} {I : Nat → Nat → Int32} {L : Nat → Nat → Int64} {R : Nat → Nat → Option Nat} {Q : sm_Q} {w0 : Option Value} {w1 : Option Value} {w2 : Option Value} {w4 : Option Value} {a3 : Int32} {s0 : Int32} {s1 : Int32} (h1 : 1 ≤ d) (k : Q (some (.int (if s1 < (s0 - a3) then (s0 - a3) else s1))) (n, y, I, L, R)) : sm_W ex d 0 0 73 44 [w0, w1, w2, some (.int a3), w4] [.int s0, .int s1] (n, y, I, L, R) Q := sm_in (sm_in (sm_in (And.intro h1 (And.intro (Nat.le_of_ble_eq_true rfl) (sm_in (And.intro rfl k))))))
set_option maxRecDepth 100000 in
theorem w_X10_canBe_0 {ex : sm_O} {d n : Nat} {y : sm_Y} {I : Nat → Nat → Int32} {L : Nat → Nat → Int64} {R : Nat → Nat → Option Nat} {Q : sm_Q} {d1 : Nat} (hG : sm_G y R) (h1 : d1 < d) (k : sm_W ex d1 0 0 72 0 [some (.ref 1), none, none, none] [] (n, y, I, L, R) (fun r μ1 => sm_W ex d 0 0 103 7 [some (.ref 0)] (r.toList ++ []) μ1 Q)) : sm_W ex d 0 0 103 0 [some (.ref 0)] [] (n, y, I, L, R) Q := sm_in (sm_in (And.intro (hG.1 0 (Nat.le_of_ble_eq_true rfl)) (sm_gfr rfl (hG.2 0 0 rfl) (sm_in (Exists.intro 9 (And.intro (hG.1 1 (Nat.le_of_ble_eq_true rfl)) (And.intro rfl (sm_calln h1 (Nat.le_of_ble_eq_true rfl) (Nat.le_of_ble_eq_true rfl) k))))))))
set_option maxRecDepth 100000 in
theorem w_X10_canBe_7 {ex : sm_O} {d n : Nat} {y : sm_Y} {I : Nat → Nat → Int32} {L : Nat → Nat → Int64} {R : Nat → Nat → Option Nat} {Q : sm_Q} {w0 : Option Value} {s0 : Int32} (k : Q (some (.int s0)) (n, y, I, L, R)) : sm_W ex d 0 0 103 7 [w0] [.int s0] (n, y, I, L, R) Q := sm_in (And.intro rfl k)
set_option maxRecDepth 100000 in
theorem w_X10_take_0 {ex : sm_O} {d n : Nat} {y : sm_Y} {I : Nat → Nat → Int32} {L : Nat → Nat → Int64} {R : Nat → Nat → Option Nat} {Q : sm_Q} {w1 : Option Value} {w2 : Option Value} {w3 : Option Value} {w4 : Option Value} {d1 : Nat} (hG : sm_G y R) (h1 : d1 < d) (k : sm_W ex d1 0 0 72 0 [some (.ref 1), none, none, none] [] (n, y, I, L, R) (fun r μ1 => sm_W ex d 0 0 104 7 [some (.ref 0), w1, w2, w3, w4] (r.toList ++ []) μ1 Q)) : sm_W ex d 0 0 104 0 [some (.ref 0), w1, w2, w3, w4] [] (n, y, I, L, R) Q := sm_in (sm_in (And.intro (hG.1 0 (Nat.le_of_ble_eq_true rfl)) (sm_gfr rfl (hG.2 0 0 rfl) (sm_in (Exists.intro 9 (And.intro (hG.1 1 (Nat.le_of_ble_eq_true rfl)) (And.intro rfl (sm_calln h1 (Nat.le_of_ble_eq_true rfl) (Nat.le_of_ble_eq_true rfl) k))))))))
set_option maxRecDepth 100000 in
theorem w_X10_take_7 {ex : sm_O} {d n : Nat} {y : sm_Y} {I : Nat → Nat → Int32} {L : Nat → Nat → Int64} {R : Nat → Nat → Option Nat} {Q : sm_Q} {w0 : Option Value} {w2 : Option Value} {w3 : Option Value} {w4 : Option Value} {a1 : Int32} {s0 : Int32} (k : if s0 = 0 then (Q (some (.int (-1))) (n, y, I, L, R)) else (if a1 < 0 then (Q (some (.int (-1))) (n, y, I, L, R)) else (if a1 ≤ 1 then (sm_W ex d 0 0 104 28 [w0, some (.int a1), some (.int s0), some (.int 0), some (.int 1)] [] (n, y, I, L, R) Q) else (Q (some (.int (-1))) (n, y, I, L, R))))) : sm_W ex d 0 0 104 7 [w0, some (.int a1), w2, w3, w4] [.int s0] (n, y, I, L, R) Q := sm_in (And.intro (Nat.le_of_ble_eq_true rfl) (sm_in (sm_in (And.intro (fun c1 => have k1t := Eq.mp (if_pos c1) k; sm_in (sm_in (And.intro rfl k1t))) (fun c1 => have k1f := Eq.mp (if_neg c1) k; sm_in (sm_in (And.intro (fun c2 => have k2t := Eq.mp (if_pos c2) k1f; sm_in (sm_in (And.intro rfl k2t))) (fun c2 => have k2f := Eq.mp (if_neg c2) k1f; sm_in (sm_in (sm_in (And.intro (fun c3 => have k3t := Eq.mp (if_pos c3) k2f; sm_in (sm_in (And.intro (Nat.le_of_ble_eq_true rfl) (sm_in (sm_in (And.intro (Nat.le_of_ble_eq_true rfl) (k3t))))))) (fun c3 => have k3f := Eq.mp (if_neg c3) k2f; sm_in (sm_in (And.intro rfl k3f))))))))))))))
set_option maxRecDepth 100000 in
theorem w_X10_take_28 {ex : sm_O} {d n : Nat} {y : sm_Y} {I : Nat → Nat → Int32} {L : Nat → Nat → Int64} {R : Nat → Nat → Option Nat} {Q : sm_Q} {a1 : Int32} {a2 : Int32} {a3 : Int32} {a4 : Int32} {d1 : Nat} (hG : sm_G y R) (h1 : d1 < d) (k : if 6 ≤ a4 then (if a1 = 0 then (sm_W ex d 0 0 104 83 [some (.ref 0), some (.int a1), some (.int a2), some (.int a3), some (.int a4)] [.int a3] (n, y, I, L, R) Q) else (sm_W ex d1 0 0 73 0 [some (.ref 1), some (.int a2), some (.int a3), none, none] [] (n, y, I, L, R) (fun r μ1 => sm_W ex d 0 0 104 83 [some (.ref 0), some (.int a1), some (.int a2), some (.int a3), some (.int a4)] (r.toList ++ []) μ1 Q))) else (sm_W ex d1 0 0 73 0 [some (.ref 1), some (.int a2), some (.int a4), none, none] [] (n, y, I, L, R) (fun r μ1 => sm_W ex d 0 0 104 45 [some (.ref 0), some (.int a1), some (.int a2), some (.int a3), some (.int a4)] (r.toList ++ []) μ1 Q))) : sm_W ex d 0 0 104 28 [some (.ref 0), some (.int a1), some (.int a2), some (.int a3), some (.int a4)] [] (n, y, I, L, R) Q := sm_in (sm_in (sm_in (And.intro (fun c1 => have k1t := Eq.mp (if_pos c1) k; sm_in (sm_in (And.intro (fun c2 => have k2f := Eq.mp (if_neg c2) k1t; sm_in (sm_in (And.intro (hG.1 0 (Nat.le_of_ble_eq_true rfl)) (sm_gfr rfl (hG.2 0 0 rfl) (sm_in (sm_in (sm_in (Exists.intro 9 (And.intro (hG.1 1 (Nat.le_of_ble_eq_true rfl)) (And.intro rfl (sm_calln h1 (Nat.le_of_ble_eq_true rfl) (Nat.le_of_ble_eq_true rfl) k2f))))))))))) (fun c2 => have k2t := Eq.mp (if_pos c2) k1t; sm_in (sm_in (k2t)))))) (fun c1 => have k1f := Eq.mp (if_neg c1) k; sm_in (sm_in (And.intro (hG.1 0 (Nat.le_of_ble_eq_true rfl)) (sm_gfr rfl (hG.2 0 0 rfl) (sm_in (sm_in (sm_in (Exists.intro 9 (And.intro (hG.1 1 (Nat.le_of_ble_eq_true rfl)) (And.intro rfl (sm_calln h1 (Nat.le_of_ble_eq_true rfl) (Nat.le_of_ble_eq_true rfl) k1f))))))))))))))
set_option maxRecDepth 100000 in
theorem w_X10_take_45 {ex : sm_O} {d n : Nat} {y : sm_Y} {I : Nat → Nat → Int32} {L : Nat → Nat → Int64} {R : Nat → Nat → Option Nat} {Q : sm_Q} {w1 : Option Value} {w4 : Option Value} {a2 : Int32} {a3 : Int32} {s0 : Int32} {d1 : Nat} (hG : sm_G y R) (h1 : d1 < d) (k : sm_W ex d1 0 0 73 0 [some (.ref 1), some (.int a2), some (.int a3), none, none] [] (n, y, I, L, R) (fun r μ1 => sm_W ex d 0 0 104 54 [some (.ref 0), w1, some (.int a2), some (.int a3), w4] (r.toList ++ [.int s0]) μ1 Q)) : sm_W ex d 0 0 104 45 [some (.ref 0), w1, some (.int a2), some (.int a3), w4] [.int s0] (n, y, I, L, R) Q := sm_in (sm_in (And.intro (hG.1 0 (Nat.le_of_ble_eq_true rfl)) (sm_gfr rfl (hG.2 0 0 rfl) (sm_in (sm_in (sm_in (Exists.intro 9 (And.intro (hG.1 1 (Nat.le_of_ble_eq_true rfl)) (And.intro rfl (sm_calln h1 (Nat.le_of_ble_eq_true rfl) (Nat.le_of_ble_eq_true rfl) k))))))))))
set_option maxRecDepth 100000 in
theorem w_X10_take_54 {ex : sm_O} {d n : Nat} {y : sm_Y} {I : Nat → Nat → Int32} {L : Nat → Nat → Int64} {R : Nat → Nat → Option Nat} {Q : sm_Q} {w0 : Option Value} {w1 : Option Value} {a2 : Int32} {a3 : Int32} {a4 : Int32} {s0 : Int32} {s1 : Int32} (k : if s0 ≤ s1 then (sm_W ex d 0 0 104 28 [w0, w1, some (.int a2), some (.int a3), some (.int (a4 + 1))] [] (n, y, I, L, R) Q) else (sm_W ex d 0 0 104 28 [w0, w1, some (.int a2), some (.int a4), some (.int (a4 + 1))] [] (n, y, I, L, R) Q)) : sm_W ex d 0 0 104 54 [w0, w1, some (.int a2), some (.int a3), some (.int a4)] [.int s0, .int s1] (n, y, I, L, R) Q := sm_in (And.intro (fun c1 => have k1t := Eq.mp (if_pos c1) k; sm_in (And.intro (Nat.le_of_ble_eq_true rfl) (sm_in (k1t)))) (fun c1 => have k1f := Eq.mp (if_neg c1) k; sm_in (sm_in (And.intro (Nat.le_of_ble_eq_true rfl) (sm_in (And.intro (Nat.le_of_ble_eq_true rfl) (sm_in (k1f))))))))
set_option maxRecDepth 100000 in
theorem w_X10_take_83 {ex : sm_O} {d n : Nat} {y : sm_Y} {I : Nat → Nat → Int32} {L : Nat → Nat → Int64} {R : Nat → Nat → Option Nat} {Q : sm_Q} {w0 : Option Value} {w1 : Option Value} {w2 : Option Value} {w3 : Option Value} {w4 : Option Value} {s0 : Int32} (k : Q (some (.int s0)) (n, y, I, L, R)) : sm_W ex d 0 0 104 83 [w0, w1, w2, w3, w4] [.int s0] (n, y, I, L, R) Q := sm_in (And.intro rfl k)
set_option maxRecDepth 100000 in
theorem w_X11_thatCanBe_0 {ex : sm_O} {d n : Nat} {y : sm_Y} {I : Nat → Nat → Int32} {L : Nat → Nat → Int64} {R : Nat → Nat → Option Nat} {Q : sm_Q} {w1 : Option Value} {w2 : Option Value} {w3 : Option Value} {w4 : Option Value} (k : sm_W ex d 0 0 223 4 [some (.ref 123), some (.int 0), some (.int 0), w3, w4] [] (n, y, I, L, R) Q) : sm_W ex d 0 0 223 0 [some (.ref 123), w1, w2, w3, w4] [] (n, y, I, L, R) Q := sm_in (sm_in (And.intro (Nat.le_of_ble_eq_true rfl) (sm_in (sm_in (And.intro (Nat.le_of_ble_eq_true rfl) (k))))))
set_option maxRecDepth 100000 in
theorem w_X11_thatCanBe_4 {ex : sm_O} {d n : Nat} {y : sm_Y} {I : Nat → Nat → Int32} {L : Nat → Nat → Int64} {R : Nat → Nat → Option Nat} {Q : sm_Q} {w3 : Option Value} {w4 : Option Value} {a1 : Int32} {a2 : Int32} (hG : sm_G y R) (k : if (I 125 0) ≤ a2 then (Q (some (.int a1)) (n, y, I, L, R)) else (sm_W ex d 0 0 223 19 [some (.ref 123), some (.int a1), some (.int a2), some (.int 1), some (.int 0)] [] (n, y, I, L, R) Q)) : sm_W ex d 0 0 223 4 [some (.ref 123), some (.int a1), some (.int a2), w3, w4] [] (n, y, I, L, R) Q := sm_in (sm_in (sm_in (And.intro (hG.1 123 (Nat.le_of_ble_eq_true rfl)) (sm_gfr rfl (hG.2 123 3 rfl) (sm_in (sm_in (Exists.intro 5450 (And.intro (hG.1 125 (Nat.le_of_ble_eq_true rfl)) (And.intro (sm_lin (by decide)) (sm_in (And.intro (fun c1 => have k1t := Eq.mp (if_pos c1) k; sm_in (sm_in (And.intro rfl k1t))) (fun c1 => have k1f := Eq.mp (if_neg c1) k; sm_in (sm_in (And.intro (Nat.le_of_ble_eq_true rfl) (sm_in (sm_in (And.intro (Nat.le_of_ble_eq_true rfl) (k1f))))))))))))))))))
set_option maxRecDepth 100000 in
theorem w_X11_thatCanBe_19 {ex : sm_O} {d n : Nat} {y : sm_Y} {I : Nat → Nat → Int32} {L : Nat → Nat → Int64} {R : Nat → Nat → Option Nat} {Q : sm_Q} {a1 : Int32} {a2 : Int32} {a3 : Int32} {a4 : Int32} (hG : sm_G y R) (hdep : 1 ≤ d) (k : if (I 125 1) ≤ a4 then (if a3 = 0 then (sm_W ex d 0 0 223 4 [some (.ref 123), some (.int (a1 ||| 0)), some (.int (a2 + 1)), some (.int a3), some (.int a4)] [] (n, y, I, L, R) Q) else (sm_W ex d 0 0 223 4 [some (.ref 123), some (.int (a1 ||| ((1 : Int32) <<< (a2 &&& 31)))), some (.int (a2 + 1)), some (.int a3), some (.int a4)] [] (n, y, I, L, R) Q)) else (if a3 = 0 then (sm_W ex d 0 0 223 19 [some (.ref 123), some (.int a1), some (.int a2), some (.int 0), some (.int (a4 + 1))] [] (n, y, I, L, R) Q) else (vp_in (31 + a2) 5450 ∧ vp_in (38 + (2 * a4)) 5450 ∧ vp_in ((38 + (2 * a4)) + 1) 5450 ∧ (if (I 125 ((38 + (2 * a4)) + 1).toNatClampNeg) = 1 then (if (sm_b (((I 125 (31 + a2).toNatClampNeg) >>> ((I 125 (38 + (2 * a4)).toNatClampNeg) &&& 31)) &&& 1 = 1)) = 1 then (sm_W ex d 0 0 223 19 [some (.ref 123), some (.int a1), some (.int a2), some (.int 1), some (.int (a4 + 1))] [] (n, y, I, L, R) Q) else (sm_W ex d 0 0 223 19 [some (.ref 123), some (.int a1), some (.int a2), some (.int 0), some (.int (a4 + 1))] [] (n, y, I, L, R) Q)) else (if (sm_b (((I 125 (31 + a2).toNatClampNeg) >>> ((I 125 (38 + (2 * a4)).toNatClampNeg) &&& 31)) &&& 1 = 1)) = 0 then (sm_W ex d 0 0 223 19 [some (.ref 123), some (.int a1), some (.int a2), some (.int 1), some (.int (a4 + 1))] [] (n, y, I, L, R) Q) else (sm_W ex d 0 0 223 19 [some (.ref 123), some (.int a1), some (.int a2), some (.int 0), some (.int (a4 + 1))] [] (n, y, I, L, R) Q)))))) : sm_W ex d 0 0 223 19 [some (.ref 123), some (.int a1), some (.int a2), some (.int a3), some (.int a4)] [] (n, y, I, L, R) Q := sm_in (sm_in (sm_in (And.intro (hG.1 123 (Nat.le_of_ble_eq_true rfl)) (sm_gfr rfl (hG.2 123 3 rfl) (sm_in (sm_in (Exists.intro 5450 (And.intro (hG.1 125 (Nat.le_of_ble_eq_true rfl)) (And.intro (sm_lin (by decide)) (sm_in (And.intro (fun c1 => have k1t := Eq.mp (if_pos c1) k; sm_in (sm_in (sm_in (And.intro (fun c2 => have k2t := Eq.mp (if_pos c2) k1t; sm_in (sm_in (sm_in (And.intro (Nat.le_of_ble_eq_true rfl) (sm_in (And.intro (Nat.le_of_ble_eq_true rfl) (sm_in (k2t)))))))) (fun c2 => have k2f := Eq.mp (if_neg c2) k1t; sm_in (sm_in (sm_in (sm_in (sm_in (sm_in (And.intro (Nat.le_of_ble_eq_true rfl) (sm_in (And.intro (Nat.le_of_ble_eq_true rfl) (sm_in (k2f))))))))))))))) (fun c1 => have k1f := Eq.mp (if_neg c1) k; sm_in (sm_in (And.intro (fun c3 => have k3t := Eq.mp (if_pos c3) k1f; sm_in (sm_in (And.intro (Nat.le_of_ble_eq_true rfl) (sm_in (And.intro (Nat.le_of_ble_eq_true rfl) (sm_in (k3t))))))) (fun c3 => have k3f := Eq.mp (if_neg c3) k1f; sm_in (sm_in (And.intro (hG.1 123 (Nat.le_of_ble_eq_true rfl)) (sm_gfr rfl (hG.2 123 3 rfl) (sm_in (sm_in (sm_in ((have e4 := k3f.1; have k4 := k3f.2; sm_in (Exists.intro 5450 (And.intro (hG.1 125 (Nat.le_of_ble_eq_true rfl)) (And.intro e4 (sm_in (sm_in (And.intro (hG.1 123 (Nat.le_of_ble_eq_true rfl)) (sm_gfr rfl (hG.2 123 3 rfl) (sm_in (sm_in (sm_in (sm_in (sm_in ((have e5 := k4.1; have k5 := k4.2; sm_in (Exists.intro 5450 (And.intro (hG.1 125 (Nat.le_of_ble_eq_true rfl)) (And.intro e5 (sm_in (And.intro (Nat.le_of_ble_eq_true rfl) (sm_calln (d1 := 0) (Nat.lt_of_lt_of_le (Nat.lt_succ_self 0) (Nat.le_trans (Nat.le_of_ble_eq_true rfl) hdep)) (Nat.le_of_ble_eq_true rfl) (Nat.le_of_ble_eq_true rfl) (c_X11_is  (sm_in (sm_in (And.intro (hG.1 123 (Nat.le_of_ble_eq_true rfl)) (sm_gfr rfl (hG.2 123 3 rfl) (sm_in (sm_in (sm_in (sm_in (sm_in (sm_in (sm_in ((have e6 := k5.1; have k6 := k5.2; sm_in (Exists.intro 5450 (And.intro (hG.1 125 (Nat.le_of_ble_eq_true rfl)) (And.intro e6 (sm_in (sm_in (And.intro (fun c7 => have k7f := Eq.mp (if_neg c7) k6; sm_in (sm_in (And.intro (fun c9 => have k9f := Eq.mp (if_neg c9) k7f; sm_in (sm_in (And.intro (Nat.le_of_ble_eq_true rfl) (sm_in (And.intro (Nat.le_of_ble_eq_true rfl) (sm_in (k9f))))))) (fun c9 => have k9t := Eq.mp (if_pos c9) k7f; sm_in (sm_in (sm_in (And.intro (Nat.le_of_ble_eq_true rfl) (sm_in (And.intro (Nat.le_of_ble_eq_true rfl) (sm_in (k9t))))))))))) (fun c7 => have k7t := Eq.mp (if_pos c7) k6; sm_in (sm_in (sm_in (And.intro (fun c8 => have k8f := Eq.mp (if_neg c8) k7t; sm_in (sm_in (And.intro (Nat.le_of_ble_eq_true rfl) (sm_in (And.intro (Nat.le_of_ble_eq_true rfl) (sm_in (k8f))))))) (fun c8 => have k8t := Eq.mp (if_pos c8) k7t; sm_in (sm_in (sm_in (And.intro (Nat.le_of_ble_eq_true rfl) (sm_in (And.intro (Nat.le_of_ble_eq_true rfl) (sm_in (k8t)))))))))))))))))))))))))))))))))))))))))))))))))))))))))))))))))))))))))))
set_option maxRecDepth 100000 in
theorem w_X11_canBe_0 {ex : sm_O} {d n : Nat} {y : sm_Y} {I : Nat → Nat → Int32} {L : Nat → Nat → Int64} {R : Nat → Nat → Option Nat} {Q : sm_Q} {d1 : Nat} (hG : sm_G y R) (h1 : d1 < d) (k : sm_W ex d1 0 0 223 0 [some (.ref 123), none, none, none, none] [] (n, y, sm_st I 123 0 0, L, R) (fun r μ1 => sm_W ex d 0 0 224 9 [some (.ref 123)] (r.toList ++ []) μ1 Q)) : sm_W ex d 0 0 224 0 [some (.ref 123)] [] (n, y, I, L, R) Q := sm_in (sm_in (sm_in (And.intro (hG.1 123 (Nat.le_of_ble_eq_true rfl)) (sm_in (sm_in (Exists.intro 11 (And.intro (hG.1 123 (Nat.le_of_ble_eq_true rfl)) (And.intro rfl (sm_calln h1 (Nat.le_of_ble_eq_true rfl) (Nat.le_of_ble_eq_true rfl) k)))))))))
set_option maxRecDepth 100000 in
theorem w_X11_canBe_9 {ex : sm_O} {d n : Nat} {y : sm_Y} {I : Nat → Nat → Int32} {L : Nat → Nat → Int64} {R : Nat → Nat → Option Nat} {Q : sm_Q} {w0 : Option Value} {s0 : Int32} (k : Q (some (.int s0)) (n, y, I, L, R)) : sm_W ex d 0 0 224 9 [w0] [.int s0] (n, y, I, L, R) Q := sm_in (And.intro rfl k)
set_option maxRecDepth 100000 in
theorem w_X11_take_0 {ex : sm_O} {d n : Nat} {y : sm_Y} {I : Nat → Nat → Int32} {L : Nat → Nat → Int64} {R : Nat → Nat → Option Nat} {Q : sm_Q} {w1 : Option Value} {w2 : Option Value} {w3 : Option Value} {w4 : Option Value} {w5 : Option Value} {w6 : Option Value} {w7 : Option Value} {w8 : Option Value} {d1 : Nat} (hG : sm_G y R) (h1 : d1 < d) (k : sm_W ex d1 0 0 223 0 [some (.ref 123), none, none, none, none] [] (n, y, sm_st I 123 0 0, L, R) (fun r μ1 => sm_W ex d 0 0 225 9 [some (.ref 123), w1, w2, w3, w4, w5, w6, w7, w8] (r.toList ++ []) μ1 Q)) : sm_W ex d 0 0 225 0 [some (.ref 123), w1, w2, w3, w4, w5, w6, w7, w8] [] (n, y, I, L, R) Q := sm_in (sm_in (sm_in (And.intro (hG.1 123 (Nat.le_of_ble_eq_true rfl)) (sm_in (sm_in (Exists.intro 11 (And.intro (hG.1 123 (Nat.le_of_ble_eq_true rfl)) (And.intro rfl (sm_calln h1 (Nat.le_of_ble_eq_true rfl) (Nat.le_of_ble_eq_true rfl) k)))))))))
set_option maxRecDepth 100000 in
theorem w_X11_take_9 {ex : sm_O} {d n : Nat} {y : sm_Y} {I : Nat → Nat → Int32} {L : Nat → Nat → Int64} {R : Nat → Nat → Option Nat} {Q : sm_Q} {w0 : Option Value} {w2 : Option Value} {w3 : Option Value} {w4 : Option Value} {w5 : Option Value} {w6 : Option Value} {w7 : Option Value} {w8 : Option Value} {a1 : Int32} {s0 : Int32} (hdep : 1 ≤ d) (k : if (0 : Int64) ≤ a1.toInt64 ∧ a1.toInt64 ≤ (1 : Int64) then (if s0 = 0 then (Q (some (.int (-1))) (n, y, I, L, R)) else (sm_W ex d 0 0 225 36 [w0, some (.int a1), some (.int s0), some (.int 100000000), some (.int (-1)), some (.int 0), w6, w7, w8] [] (n, y, I, L, R) Q)) else (Q (some (.int (-1))) (n, y, I, L, R))) : sm_W ex d 0 0 225 9 [w0, some (.int a1), w2, w3, w4, w5, w6, w7, w8] [.int s0] (n, y, I, L, R) Q := sm_in (And.intro (Nat.le_of_ble_eq_true rfl) (sm_in (sm_in (sm_in (sm_in (sm_in (And.intro (Nat.le_of_ble_eq_true rfl) (sm_calln (d1 := 0) (Nat.lt_of_lt_of_le (Nat.lt_succ_self 0) (Nat.le_trans (Nat.le_of_ble_eq_true rfl) hdep)) (Nat.le_of_ble_eq_true rfl) (Nat.le_of_ble_eq_true rfl) (c_X11_in  (sm_in (And.intro (fun c1 => have k1f := Eq.mp (if_neg (sm_b_0.mp c1)) k; sm_in (sm_in (And.intro rfl k1f))) (fun c1 => have k1t := Eq.mp (if_pos (sm_b_n.mp c1)) k; sm_in (sm_in (And.intro (fun c2 => have k2f := Eq.mp (if_neg c2) k1t; sm_in (sm_in (And.intro (Nat.le_of_ble_eq_true rfl) (sm_in (sm_in (And.intro (Nat.le_of_ble_eq_true rfl) (sm_in (sm_in (And.intro (Nat.le_of_ble_eq_true rfl) (k2f)))))))))) (fun c2 => have k2t := Eq.mp (if_pos c2) k1t; sm_in (sm_in (And.intro rfl k2t)))))))))))))))))
set_option maxRecDepth 100000 in
theorem w_X11_take_36 {ex : sm_O} {d n : Nat} {y : sm_Y} {I : Nat → Nat → Int32} {L : Nat → Nat → Int64} {R : Nat → Nat → Option Nat} {Q : sm_Q} {w0 : Option Value} {w2 : Option Value} {w6 : Option Value} {w7 : Option Value} {w8 : Option Value} {a1 : Int32} {a3 : Int32} {a4 : Int32} {a5 : Int32} (k : if 6 ≤ a5 then (if a1 = 0 then (Q (some (.int a4)) (n, y, I, L, R)) else (Q (some (.int a3)) (n, y, I, L, R))) else (sm_W ex d 0 0 225 49 [w0, some (.int a1), w2, some (.int a3), some (.int a4), some (.int a5), some (.int 0), some (.int 0), w8] [] (n, y, I, L, R) Q)) : sm_W ex d 0 0 225 36 [w0, some (.int a1), w2, some (.int a3), some (.int a4), some (.int a5), w6, w7, w8] [] (n, y, I, L, R) Q := sm_in (sm_in (sm_in (And.intro (fun c1 => have k1t := Eq.mp (if_pos c1) k; sm_in (sm_in (And.intro (fun c2 => have k2f := Eq.mp (if_neg c2) k1t; sm_in (sm_in (And.intro rfl k2f))) (fun c2 => have k2t := Eq.mp (if_pos c2) k1t; sm_in (sm_in (sm_in (And.intro rfl k2t))))))) (fun c1 => have k1f := Eq.mp (if_neg c1) k; sm_in (sm_in (And.intro (Nat.le_of_ble_eq_true rfl) (sm_in (sm_in (And.intro (Nat.le_of_ble_eq_true rfl) (k1f))))))))))
set_option maxRecDepth 100000 in
theorem w_X11_take_49 {ex : sm_O} {d n : Nat} {y : sm_Y} {I : Nat → Nat → Int32} {L : Nat → Nat → Int64} {R : Nat → Nat → Option Nat} {Q : sm_Q} {w1 : Option Value} {w3 : Option Value} {w4 : Option Value} {w8 : Option Value} {a2 : Int32} {a5 : Int32} {a6 : Int32} {a7 : Int32} {d1 : Nat} (hG : sm_G y R) (hdep : 1 ≤ d) (h1 : d1 < d) (k : if (I 125 0) ≤ a7 then (sm_W ex d1 0 0 127 0 [some (.int a2), none, none] [] (n, y, I, L, R) (fun r μ1 => sm_W ex d 0 0 225 107 [some (.ref 123), w1, some (.int a2), w3, w4, some (.int a5), some (.int a6), some (.int a7), w8] (r.toList ++ []) μ1 Q)) else (if (a2 >>> (a7 &&& 31)) &&& 1 = 1 then (vp_in (31 + a7) 5450 ∧ (if ((I 125 (31 + a7).toNatClampNeg) >>> (a5 &&& 31)) &&& 1 = 1 then (sm_W ex d 0 0 225 49 [some (.ref 123), w1, some (.int a2), w3, w4, some (.int a5), some (.int (a6 + 1)), some (.int (a7 + 1)), w8] [] (n, y, I, L, R) Q) else (sm_W ex d 0 0 225 49 [some (.ref 123), w1, some (.int a2), w3, w4, some (.int a5), some (.int (a6 + 0)), some (.int (a7 + 1)), w8] [] (n, y, I, L, R) Q))) else (sm_W ex d 0 0 225 49 [some (.ref 123), w1, some (.int a2), w3, w4, some (.int a5), some (.int (a6 + 0)), some (.int (a7 + 1)), w8] [] (n, y, I, L, R) Q))) : sm_W ex d 0 0 225 49 [some (.ref 123), w1, some (.int a2), w3, w4, some (.int a5), some (.int a6), some (.int a7), w8] [] (n, y, I, L, R) Q := sm_in (sm_in (sm_in (And.intro (hG.1 123 (Nat.le_of_ble_eq_true rfl)) (sm_gfr rfl (hG.2 123 3 rfl) (sm_in (sm_in (Exists.intro 5450 (And.intro (hG.1 125 (Nat.le_of_ble_eq_true rfl)) (And.intro (sm_lin (by decide)) (sm_in (And.intro (fun c1 => have k1t := Eq.mp (if_pos c1) k; sm_in (sm_in (And.intro (Nat.le_of_ble_eq_true rfl) (sm_calln h1 (Nat.le_of_ble_eq_true rfl) (Nat.le_of_ble_eq_true rfl) k1t)))) (fun c1 => have k1f := Eq.mp (if_neg c1) k; sm_in (sm_in (sm_in (sm_in (And.intro (Nat.le_of_ble_eq_true rfl) (sm_calln (d1 := 0) (Nat.lt_of_lt_of_le (Nat.lt_succ_self 0) (Nat.le_trans (Nat.le_of_ble_eq_true rfl) hdep)) (Nat.le_of_ble_eq_true rfl) (Nat.le_of_ble_eq_true rfl) (c_X11_is  (sm_in (And.intro (fun c2 => have k2f := Eq.mp (if_neg (sm_b_0.mp c2)) k1f; sm_in (sm_in (sm_in (And.intro (Nat.le_of_ble_eq_true rfl) (sm_in (And.intro (Nat.le_of_ble_eq_true rfl) (sm_in (k2f)))))))) (fun c2 => have k2t := Eq.mp (if_pos (sm_b_n.mp c2)) k1f; sm_in (sm_in (And.intro (hG.1 123 (Nat.le_of_ble_eq_true rfl)) (sm_gfr rfl (hG.2 123 3 rfl) (sm_in (sm_in (sm_in ((have e3 := k2t.1; have k3 := k2t.2; sm_in (Exists.intro 5450 (And.intro (hG.1 125 (Nat.le_of_ble_eq_true rfl)) (And.intro e3 (sm_in (sm_in (And.intro (Nat.le_of_ble_eq_true rfl) (sm_calln (d1 := 0) (Nat.lt_of_lt_of_le (Nat.lt_succ_self 0) (Nat.le_trans (Nat.le_of_ble_eq_true rfl) hdep)) (Nat.le_of_ble_eq_true rfl) (Nat.le_of_ble_eq_true rfl) (c_X11_is  (sm_in (And.intro (fun c4 => have k4f := Eq.mp (if_neg (sm_b_0.mp c4)) k3; sm_in (sm_in (sm_in (And.intro (Nat.le_of_ble_eq_true rfl) (sm_in (And.intro (Nat.le_of_ble_eq_true rfl) (sm_in (k4f)))))))) (fun c4 => have k4t := Eq.mp (if_pos (sm_b_n.mp c4)) k3; sm_in (sm_in (sm_in (sm_in (And.intro (Nat.le_of_ble_eq_true rfl) (sm_in (And.intro (Nat.le_of_ble_eq_true rfl) (sm_in (k4t))))))))))))))))))))))))))))))))))))))))))))))))
set_option maxRecDepth 100000 in
theorem w_X11_take_107 {ex : sm_O} {d n : Nat} {y : sm_Y} {I : Nat → Nat → Int32} {L : Nat → Nat → Int64} {R : Nat → Nat → Option Nat} {Q : sm_Q} {w0 : Option Value} {w1 : Option Value} {w7 : Option Value} {w8 : Option Value} {a2 : Int32} {a3 : Int32} {a4 : Int32} {a5 : Int32} {a6 : Int32} {s0 : Int32} (k : if a6 ≤ (s0 - a6) then (if a3 ≤ (s0 - a6) then (sm_W ex d 0 0 225 36 [w0, w1, some (.int a2), some (.int a3), some (.int a4), some (.int (a5 + 1)), some (.int a6), some (.int (s0 - a6)), some (.int (s0 - a6))] [] (n, y, I, L, R) Q) else (sm_W ex d 0 0 225 36 [w0, w1, some (.int a2), some (.int (s0 - a6)), some (.int a5), some (.int (a5 + 1)), some (.int a6), some (.int (s0 - a6)), some (.int (s0 - a6))] [] (n, y, I, L, R) Q)) else (if a3 ≤ a6 then (sm_W ex d 0 0 225 36 [w0, w1, some (.int a2), some (.int a3), some (.int a4), some (.int (a5 + 1)), some (.int a6), some (.int (s0 - a6)), some (.int a6)] [] (n, y, I, L, R) Q) else (sm_W ex d 0 0 225 36 [w0, w1, some (.int a2), some (.int a6), some (.int a5), some (.int (a5 + 1)), some (.int a6), some (.int (s0 - a6)), some (.int a6)] [] (n, y, I, L, R) Q))) : sm_W ex d 0 0 225 107 [w0, w1, some (.int a2), some (.int a3), some (.int a4), some (.int a5), some (.int a6), w7, w8] [.int s0] (n, y, I, L, R) Q := sm_in (sm_in (sm_in (And.intro (Nat.le_of_ble_eq_true rfl) (sm_in (sm_in (sm_in (And.intro (fun c1 => have k1t := Eq.mp (if_pos c1) k; sm_in (sm_in (And.intro (Nat.le_of_ble_eq_true rfl) (sm_in (sm_in (sm_in (And.intro (fun c2 => have k2t := Eq.mp (if_pos c2) k1t; sm_in (sm_in (And.intro (Nat.le_of_ble_eq_true rfl) (sm_in (sm_in (sm_in (And.intro (fun _ => sm_in (sm_in (And.intro (Nat.le_of_ble_eq_true rfl) (sm_in (And.intro (Nat.le_of_ble_eq_true rfl) (sm_in (k2t))))))) (fun c => absurd c2 c)))))))) (fun c2 => have k2f := Eq.mp (if_neg c2) k1t; sm_in (sm_in (sm_in (And.intro (Nat.le_of_ble_eq_true rfl) (sm_in (sm_in (sm_in (And.intro (fun c => absurd c c2) (fun _ => sm_in (sm_in (sm_in (And.intro (Nat.le_of_ble_eq_true rfl) (sm_in (And.intro (Nat.le_of_ble_eq_true rfl) (sm_in (k2f))))))))))))))))))))))) (fun c1 => have k1f := Eq.mp (if_neg c1) k; sm_in (sm_in (sm_in (And.intro (Nat.le_of_ble_eq_true rfl) (sm_in (sm_in (sm_in (And.intro (fun c3 => have k3t := Eq.mp (if_pos c3) k1f; sm_in (sm_in (And.intro (Nat.le_of_ble_eq_true rfl) (sm_in (sm_in (sm_in (And.intro (fun _ => sm_in (sm_in (And.intro (Nat.le_of_ble_eq_true rfl) (sm_in (And.intro (Nat.le_of_ble_eq_true rfl) (sm_in (k3t))))))) (fun c => absurd c3 c)))))))) (fun c3 => have k3f := Eq.mp (if_neg c3) k1f; sm_in (sm_in (sm_in (And.intro (Nat.le_of_ble_eq_true rfl) (sm_in (sm_in (sm_in (And.intro (fun c => absurd c c3) (fun _ => sm_in (sm_in (sm_in (And.intro (Nat.le_of_ble_eq_true rfl) (sm_in (And.intro (Nat.le_of_ble_eq_true rfl) (sm_in (k3f)))))))))))))))))))))))))))))))
-- CAN BE, TAKE
theorem sm_and6 : ∀ s, s < 64 → ∀ t, t < 64 → nI s &&& nI t = nI (s &&& t) := by decide +kernel
def sp_fits (pl : List (Nat × Nat)) (l : Nat) : Bool := pl.all (fun x => l.testBit x.1 == decide (x.2 = 1))
def sp_poss (s : St) (pl : List (Nat × Nat)) (m : Nat) : Bool := sp_fits pl (sLook s m)
theorem sp_bits64 (p : Nat → Bool) : sp_bits p 6 < 64 := sp_bits_lt p 6
theorem sp_sub {l : Nat} {p : Nat → Bool} : l &&& sp_bits p 6 = sp_bits p 6 ↔ ∀ f, f < 6 → p f = true → l.testBit f = true := by
  constructor
  · intro h f hf hp
    have := congrArg (fun x => x.testBit f) h
    simp only [Nat.testBit_and, sp_bits_tb, hf, hp, decide_true, Bool.and_true] at this
    exact this
  · intro h
    apply Nat.eq_of_testBit_eq
    intro f
    rw [Nat.testBit_and, sp_bits_tb]
    by_cases hf : f < 6
    · cases hp : p f with
      | false => simp
      | true => simp [h f hf hp, hf]
    · simp [hf]
theorem sp_dis {l : Nat} {p : Nat → Bool} : l &&& sp_bits p 6 = 0 ↔ ∀ f, f < 6 → p f = true → l.testBit f = false := by
  constructor
  · intro h f hf hp
    have := congrArg (fun x => x.testBit f) h
    simp only [Nat.testBit_and, sp_bits_tb, hf, hp, decide_true, Bool.and_true, Nat.zero_testBit] at this
    exact this
  · intro h
    apply Nat.eq_of_testBit_eq
    intro f
    rw [Nat.testBit_and, sp_bits_tb, Nat.zero_testBit]
    by_cases hf : f < 6
    · cases hp : p f with
      | false => simp
      | true => simp [h f hf hp]
    · simp [hf]
theorem sp_fits_iff {pl : List (Nat × Nat)} {l : Nat} (hw : ∀ x ∈ pl, x.1 < 6 ∧ x.2 ≤ 1) : sp_fits pl l = true ↔ (l &&& sp_pb pl 1 = sp_pb pl 1 ∧ l &&& sp_pb pl 0 = 0) := by
  unfold sp_pb
  rw [sp_sub, sp_dis]
  unfold sp_fits
  rw [List.all_eq_true]
  constructor
  · intro h
    refine ⟨fun f _ hp => ?_, fun f _ hp => ?_⟩
    · have := h (f, 1) (of_decide_eq_true hp)
      simpa using this
    · have := h (f, 0) (of_decide_eq_true hp)
      simpa using this
  · intro h x hx
    have hx1 := hw x hx
    obtain ⟨f, b⟩ := x
    have hb : b = 0 ∨ b = 1 := by have : b ≤ 1 := hx1.2; omega
    rcases hb with rfl | rfl
    · have := h.2 f hx1.1 (decide_eq_true hx)
      simp [this]
    · have := h.1 f hx1.1 (decide_eq_true hx)
      simp [this]
theorem c_X9_possible {ex : sm_O} {n : Nat} {y : sm_Y} {I : Nat → Nat → Int32} {L : Nat → Nat → Int64} {R : Nat → Nat → Option Nat} {Q : sm_Q} {d o : Nat} {w1 w2 w3 : Option Value} {s : St} {pl : List (Nat × Nat)} (ho : ok9 y R o) (hs : cS s o I) (hok : sp_ok s) (hp : cP pl o I) (hw : ∀ x ∈ pl, x.1 < 6 ∧ x.2 ≤ 1) (k : Q (some (.int (nI (sp_bits (sp_poss s pl) (sMen s))))) (n, y, I, L, R)) : sm_W ex d 0 0 72 0 [some (.ref o), w1, w2, w3] [] (n, y, I, L, R) Q := by
  have h7 := hok.1
  have key : ∀ (q j : Nat) (w3 : Option Value), j + q = sMen s → sm_W ex d 0 0 72 4 [some (.ref o), some (.int (nI (sp_bits (sp_poss s pl) j))), some (.int (nI j)), w3] [] (n, y, I, L, R) Q := by
    intro q
    induction q with
    | zero =>
      intro j w3 hj
      obtain rfl : j = sMen s := by omega
      refine w_X9_possible_4 ho ?_
      rw [hs.1, if_pos (Int32.le_refl _)]
      exact k
    | succ q ih =>
      intro j w3 hj
      have hl := (hok.2.1 j (by omega)).2.2.1
      refine w_X9_possible_4 ho ?_
      rw [hs.1, if_neg (by rw [nI_leI (by omega) (by omega)]; omega)]
      refine ⟨vp_in_nI (by omega) (by decide), ?_⟩
      have hb : sp_bits (sp_poss s pl) j < 128 := Nat.lt_of_lt_of_le (sp_bits_lt _ j) (show 2 ^ j ≤ 2 ^ 7 from Nat.pow_le_pow_right (by decide) (by omega))
      have h2 : 2 ^ j < 128 := Nat.lt_of_lt_of_le (Nat.pow_lt_pow_right (by decide) (by omega : j < 7)) (by decide)
      have l1 : sp_pb pl 1 < 64 := sp_bits64 _
      have l0 : sp_pb pl 0 < 64 := sp_bits64 _
      rw [nI_clamp (by omega), (hs.2.1 j (by omega)).2.1, hp.2.1, hp.2.2, sm_and6 _ hl _ l1, sm_and6 _ hl _ l0, sm_shl7 j (by omega), sm_or7 _ hb _ h2, show (0 : Int32) = nI 0 from rfl, sm_or7 _ hb 0 (by decide), sm_n1]
      have a1 : sLook s j &&& sp_pb pl 1 < 64 := Nat.lt_of_le_of_lt Nat.and_le_right l1
      have a0 : sLook s j &&& sp_pb pl 0 < 64 := Nat.lt_of_le_of_lt Nat.and_le_right l0
      have ih1 : ∀ w3, sm_W ex d 0 0 72 4 [some (.ref o), some (.int (nI (sp_bits (sp_poss s pl) j ||| if sp_poss s pl j then 2 ^ j else 0))), some (.int (nI (j + 1))), w3] [] (n, y, I, L, R) Q := fun w3 => by
        rw [sp_bits_or]
        exact ih (j + 1) w3 (by omega)
      simp only [nI_eq (show sLook s j &&& sp_pb pl 1 < 2 ^ 31 by omega) (show sp_pb pl 1 < 2 ^ 31 by omega), nI_eq (show sLook s j &&& sp_pb pl 0 < 2 ^ 31 by omega) (show 0 < 2 ^ 31 by omega)]
      have hiff := sp_fits_iff (l := sLook s j) hw
      cases hf : sp_poss s pl j with
      | true =>
        have hf' : sp_fits pl (sLook s j) = true := hf
        have h12 := hiff.mp hf'
        rw [if_pos h12.1, if_pos h12.2]
        have := ih1 (some (.int 1))
        rw [hf, if_pos rfl] at this
        exact this
      | false =>
        have hf' : ¬ sp_fits pl (sLook s j) = true := by
          show ¬ sp_poss s pl j = true
          rw [hf]
          decide
        have this := ih1 (some (.int 0))
        rw [hf, if_neg (by decide)] at this
        split
        · rename_i h1
          split
          · rename_i h2
            exact absurd (hiff.mpr ⟨h1, h2⟩) hf'
          · exact this
        · exact this
  refine w_X9_possible_0 ?_
  exact key (sMen s) 0 _ (by omega)
theorem C_canBe {ex : sm_O} {d : Nat} {g : GG} (hd : 1 ≤ d) (hw : Wf g) : CM ex d 103 [some (.ref 0)] g (nI (sp_bits (sp_poss (gS g) (gP g)) (sMen (gS g)))) g := by
  intro n y I L R Q hc k
  refine w_X10_canBe_0 (d1 := 0) hc.2.1 (by omega) ?_
  refine c_X9_possible (mk1 hc.2.1).1 hc.2.2.1 hw.1.1.1 hc.2.2.2.1 hw.1.2.1.2 ?_
  exact w_X10_canBe_7 (k I L hc (cKeep.rfl' I L))
-- the model
theorem c_X11_thatCanBe {ex : sm_O} {n : Nat} {y : sm_Y} {I : Nat → Nat → Int32} {L : Nat → Nat → Int64} {R : Nat → Nat → Option Nat} {Q : sm_Q} {d : Nat} {w1 w2 w3 w4 : Option Value} {s : St} {pl : List (Nat × Nat)} (hd : 1 ≤ d) (hG : sm_G y R) (hs : mS s (I 125)) (hok : sp_ok s) (hp : mP pl (I 125)) (h6 : pl.length ≤ 6) (hw : ∀ x ∈ pl, x.1 < 6 ∧ x.2 ≤ 1) (k : Q (some (.int (nI (sp_bits (sp_poss s pl) (sMen s))))) (n, y, I, L, R)) : sm_W ex d 0 0 223 0 [some (.ref 123), w1, w2, w3, w4] [] (n, y, I, L, R) Q := by
  have h7 := hok.1
  have key : ∀ (q j : Nat) (w3 w4 : Option Value), j + q = sMen s → sm_W ex d 0 0 223 4 [some (.ref 123), some (.int (nI (sp_bits (sp_poss s pl) j))), some (.int (nI j)), w3, w4] [] (n, y, I, L, R) Q := by
    intro q
    induction q with
    | zero =>
      intro j w3 w4 hj
      obtain rfl : j = sMen s := by omega
      refine w_X11_thatCanBe_4 hG ?_
      rw [hs.1, if_pos (Int32.le_refl _)]
      exact k
    | succ q ih =>
      intro j w3 w4 hj
      have hl := (hok.2.1 j (by omega)).2.2.1
      refine w_X11_thatCanBe_4 hG ?_
      rw [hs.1, if_neg (by rw [nI_leI (by omega) (by omega)]; omega)]
      have hb : sp_bits (sp_poss s pl) j < 128 := Nat.lt_of_lt_of_le (sp_bits_lt _ j) (show 2 ^ j ≤ 2 ^ 7 from Nat.pow_le_pow_right (by decide) (by omega))
      have h2 : 2 ^ j < 128 := Nat.lt_of_lt_of_le (Nat.pow_lt_pow_right (by decide) (by omega : j < 7)) (by decide)
      have ih1 : ∀ w3 w4, sm_W ex d 0 0 223 4 [some (.ref 123), some (.int (nI (sp_bits (sp_poss s pl) j ||| if sp_poss s pl j then 2 ^ j else 0))), some (.int (nI (j + 1))), w3, w4] [] (n, y, I, L, R) Q := fun w3 w4 => by
        rw [sp_bits_or]
        exact ih (j + 1) w3 w4 (by omega)
      have inner : ∀ (p i : Nat), i + p = pl.length → sm_W ex d 0 0 223 19 [some (.ref 123), some (.int (nI (sp_bits (sp_poss s pl) j))), some (.int (nI j)), some (.int (if sp_fits (pl.take i) (sLook s j) = true then 1 else 0)), some (.int (nI i))] [] (n, y, I, L, R) Q := by
        intro p
        induction p with
        | zero =>
          intro i hi
          obtain rfl : i = pl.length := by omega
          refine w_X11_thatCanBe_19 hG hd ?_
          rw [hp.1, if_pos (Int32.le_refl _), List.take_length, sm_shl7 j (by omega), sm_or7 _ hb _ h2, show (0 : Int32) = nI 0 from rfl, sm_or7 _ hb 0 (by decide), sm_n1]
          have ih2 := fun w3 w4 => ih1 w3 w4
          cases hf : sp_poss s pl j with
          | true =>
            have hf' : sp_fits pl (sLook s j) = true := hf
            rw [hf'] 
            rw [if_pos rfl, if_neg (by decide)]
            have := ih2 (some (.int 1)) (some (.int (nI pl.length)))
            rw [hf, if_pos rfl] at this
            exact this
          | false =>
            have hf' : sp_fits pl (sLook s j) = false := hf
            rw [hf', if_neg (show ¬ (false = true) by decide), if_pos rfl]
            have := ih2 (some (.int (nI 0))) (some (.int (nI pl.length)))
            rw [hf, if_neg (by decide)] at this
            exact this
        | succ p ihp =>
          intro i hi
          have hil : i < pl.length := by omega
          have hx : pl[i]? = some pl[i] := List.getElem?_eq_getElem hil
          have hxw := hw pl[i] (List.getElem_mem hil)
          have hpx := hp.2 i pl[i] hx
          have htk : sp_fits (pl.take (i + 1)) (sLook s j) = (sp_fits (pl.take i) (sLook s j) && ((sLook s j).testBit pl[i].1 == decide (pl[i].2 = 1))) := by
            unfold sp_fits
            rw [List.take_succ_eq_append_getElem hil, List.all_append]
            simp
          have nx := ihp (i + 1) (by omega)
          rw [htk] at nx
          refine w_X11_thatCanBe_19 hG hd ?_
          rw [hp.1, if_neg (by rw [nI_leI (by omega) (by omega)]; omega), sm_n1]
          cases hf : sp_fits (pl.take i) (sLook s j) with
          | false =>
            rw [if_neg (show ¬ (false = true) by decide), if_pos rfl]
            rw [hf] at nx
            exact nx
          | true =>
            rw [if_pos rfl, if_neg (by decide)]
            rw [hf] at nx
            have e38 : (38 : Int32) + 2 * nI i = nI (38 + 2 * i) := by rw [show (38 : Int32) = nI 38 from rfl, show (2 : Int32) = nI 2 from rfl, pk_mul, nI_add]
            rw [e38, sm_n1, sm_cx31 (by omega), nI_clamp (by omega), nI_clamp (by omega), (hs.2.1 j (by omega)).2.1, hpx.1, hpx.2, sm_bit64 _ hl _ hxw.1]
            have hn2 : (nI pl[i].2 = 1) ↔ pl[i].2 = 1 := nI_eq (b := 1) (by omega) (by decide)
            simp only [hn2]
            have nx : sm_W ex d 0 0 223 19 [some (.ref 123), some (.int (nI (sp_bits (sp_poss s pl) j))), some (.int (nI j)), some (.int (if ((sLook s j).testBit pl[i].1 == decide (pl[i].2 = 1)) = true then 1 else 0)), some (.int (nI (i + 1)))] [] (n, y, I, L, R) Q := by
              simpa using nx
            refine ⟨sm_ci31 (by omega) (by decide), vp_in_nI (by omega) (by decide), vp_in_nI (by omega) (by decide), ?_⟩
            cases ht : (sLook s j).testBit pl[i].1 with
            | true =>
              rw [ht] at nx
              rw [if_pos (show (true = true) from rfl), sm_b_t (show (1 : Int32) = 1 from rfl)]
              by_cases h1 : pl[i].2 = 1
              · rw [if_pos h1, if_pos rfl]
                rw [if_pos (by rw [decide_eq_true h1]; rfl)] at nx
                exact nx
              · rw [if_neg h1, if_neg (by decide)]
                rw [if_neg (by rw [decide_eq_false h1]; decide)] at nx
                exact nx
            | false =>
              rw [ht] at nx
              rw [if_neg (show ¬ (false = true) by decide), sm_b_f (show ¬ (0 : Int32) = 1 by decide)]
              by_cases h1 : pl[i].2 = 1
              · rw [if_pos h1, if_neg (by decide)]
                rw [if_neg (by rw [decide_eq_true h1]; decide)] at nx
                exact nx
              · rw [if_neg h1, if_pos rfl]
                rw [if_pos (by rw [decide_eq_false h1]; rfl)] at nx
                exact nx
      exact inner pl.length 0 (by omega)
  refine w_X11_thatCanBe_0 ?_
  exact key (sMen s) 0 _ _ (by omega)
theorem M_canBe {ex : sm_O} {d : Nat} {g : GG} (hd : 2 ≤ d) (hw : Wf g) : MM ex d 224 [some (.ref 123)] g (nI (sp_bits (sp_poss (gS g) (gP g)) (sMen (gS g)))) g := by
  intro n y I L R Q hG hm k
  refine w_X11_canBe_0 (d1 := 1) hG (by omega) ?_
  have hm0 := MI_thr hm
  refine c_X11_thatCanBe (Nat.le_refl 1) hG hm0.1 hw.1.1.1 hm0.2.1 hw.1.2.1.1 hw.1.2.1.2 ?_
  exact w_X11_canBe_9 (k _ L hm0 (mKeep_thr I))
-- take
def tkH (s : St) (pl : List (Nat × Nat)) (f j : Nat) : Nat := sp_pop (fun m => sp_poss s pl m && (sLook s m).testBit f) j
def tkW (s : St) (pl : List (Nat × Nat)) (f : Nat) : Nat := max (tkH s pl f (sMen s)) (sp_pop (sp_poss s pl) (sMen s) - tkH s pl f (sMen s))
def tkB (w : Nat → Nat) : Nat → Nat
  | 0 => 0
  | j + 1 => if w (j + 1) < w (tkB w j) then j + 1 else tkB w j
theorem tkB_le (w : Nat → Nat) : ∀ j, tkB w j ≤ j
  | 0 => Nat.le_refl 0
  | j + 1 => by
    have := tkB_le w j
    unfold tkB
    split <;> omega
theorem tkH_le (s : St) (pl : List (Nat × Nat)) (f : Nat) : ∀ j, tkH s pl f j ≤ sp_pop (sp_poss s pl) j
  | 0 => Nat.le_refl 0
  | j + 1 => by
    have ih : sp_pop (fun m => sp_poss s pl m && (sLook s m).testBit f) j ≤ sp_pop (sp_poss s pl) j := tkH_le s pl f j
    show sp_pop (fun m => sp_poss s pl m && (sLook s m).testBit f) j + (if (sp_poss s pl j && (sLook s j).testBit f) = true then 1 else 0) ≤ sp_pop (sp_poss s pl) j + (if sp_poss s pl j = true then 1 else 0)
    generalize sp_pop (fun m => sp_poss s pl m && (sLook s m).testBit f) j = A at ih ⊢
    generalize sp_pop (sp_poss s pl) j = B at ih ⊢
    cases sp_poss s pl j <;> cases (sLook s j).testBit f <;> simp <;> omega
theorem tkW_le (s : St) (pl : List (Nat × Nat)) (f : Nat) : tkW s pl f ≤ sMen s := by
  have h1 := tkH_le s pl f (sMen s)
  have h2 := sp_pop_le (sp_poss s pl) (sMen s)
  unfold tkW
  omega
theorem sm_and1 (a b : Int32) : a &&& b &&& 1 = (a &&& 1) &&& (b &&& 1) := by ac_rfl
theorem c_X9_left {ex : sm_O} {n : Nat} {y : sm_Y} {I : Nat → Nat → Int32} {L : Nat → Nat → Int64} {R : Nat → Nat → Option Nat} {Q : sm_Q} {d o f : Nat} {w3 w4 : Option Value} {s : St} {pl : List (Nat × Nat)} (hd : 1 ≤ d) (ho : ok9 y R o) (hs : cS s o I) (hok : sp_ok s) (hf : f < 6) (k : Q (some (.int (nI (tkW s pl f)))) (n, y, I, L, R)) : sm_W ex d 0 0 73 0 [some (.ref o), some (.int (nI (sp_bits (sp_poss s pl) (sMen s)))), some (.int (nI f)), w3, w4] [] (n, y, I, L, R) Q := by
  have h7 := hok.1
  have hb : sp_bits (sp_poss s pl) (sMen s) < 128 := Nat.lt_of_lt_of_le (sp_bits_lt _ _) (show 2 ^ sMen s ≤ 2 ^ 7 from Nat.pow_le_pow_right (by decide) h7)
  have key : ∀ (q j : Nat), j + q = sMen s → sm_W ex d 0 0 73 5 [some (.ref o), some (.int (nI (sp_bits (sp_poss s pl) (sMen s)))), some (.int (nI f)), some (.int (nI (tkH s pl f j))), some (.int (nI j))] [] (n, y, I, L, R) Q := by
    intro q
    induction q with
    | zero =>
      intro j hj
      obtain rfl : j = sMen s := by omega
      refine w_X9_leftAtMost_5 (d1 := 0) ho (by omega) ?_
      rw [hs.1, if_pos (Int32.le_refl _)]
      refine c_bcb h7 ?_
      refine w_X9_leftAtMost_44 hd ?_
      have h1 := tkH_le s pl f (sMen s)
      have h2 := sp_pop_le (sp_poss s pl) (sMen s)
      rw [pk_sub h1]
      have e : (if nI (tkH s pl f (sMen s)) < nI (sp_pop (sp_poss s pl) (sMen s) - tkH s pl f (sMen s)) then nI (sp_pop (sp_poss s pl) (sMen s) - tkH s pl f (sMen s)) else nI (tkH s pl f (sMen s))) = nI (tkW s pl f) := by
        unfold tkW
        by_cases h : tkH s pl f (sMen s) < sp_pop (sp_poss s pl) (sMen s) - tkH s pl f (sMen s)
        · rw [if_pos (by rw [nI_ltI (by omega) (by omega)]; exact h), Nat.max_eq_right (by omega)]
        · rw [if_neg (by rw [nI_ltI (by omega) (by omega)]; exact h), Nat.max_eq_left (by omega)]
      rw [e]
      exact k
    | succ q ih =>
      intro j hj
      have hl := (hok.2.1 j (by omega)).2.2.1
      refine w_X9_leftAtMost_5 (d1 := 0) ho (by omega) ?_
      rw [hs.1, if_neg (by rw [nI_leI (by omega) (by omega)]; omega)]
      refine ⟨vp_in_nI (by omega) (by decide), ?_⟩
      rw [nI_clamp (by omega), (hs.2.1 j (by omega)).2.1, sm_and1, sm_bit7 _ hb j (by omega), sm_bit64 _ hl f hf, sp_bits_tb, sm_n1]
      have e : nI (tkH s pl f j) + ((if (decide (j < sMen s) && sp_poss s pl j) = true then 1 else 0) &&& (if (sLook s j).testBit f = true then 1 else 0)) = nI (tkH s pl f (j + 1)) := by
        show _ = nI (tkH s pl f j + (if (sp_poss s pl j && (sLook s j).testBit f) = true then 1 else 0))
        rw [decide_eq_true (show j < sMen s by omega)]
        cases sp_poss s pl j <;> cases (sLook s j).testBit f <;> simp [← nI_add] <;> rfl
      rw [e]
      exact ih (j + 1) (by omega)
  refine w_X9_leftAtMost_0 ?_
  exact key (sMen s) 0 (by omega)
def f_take (g : GG) (w : Int32) : Int32 := if (0 ≤ w ∧ w ≤ 1) ∧ sp_bits (sp_poss (gS g) (gP g)) (sMen (gS g)) ≠ 0 then (if w = 0 then nI (tkB (tkW (gS g) (gP g)) 5) else nI (tkW (gS g) (gP g) (tkB (tkW (gS g) (gP g)) 5))) else -1
theorem C_take {ex : sm_O} {d : Nat} {w2 w3 w4 : Option Value} {g : GG} {w : Int32} (hd : 2 ≤ d) (hw : Wf g) : CM ex d 104 [some (.ref 0), some (.int w), w2, w3, w4] g (f_take g w) g := by
  intro n y I L R Q hc k
  have hok : sp_ok (gS g) := hw.1.1.1
  have h7 := hok.1
  have hG := hc.2.1
  have hb : sp_bits (sp_poss (gS g) (gP g)) (sMen (gS g)) < 128 := Nat.lt_of_lt_of_le (sp_bits_lt _ _) (show 2 ^ sMen (gS g) ≤ 2 ^ 7 from Nat.pow_le_pow_right (by decide) h7)
  have k := k I L hc (cKeep.rfl' I L)
  unfold f_take at k
  refine w_X10_take_0 (d1 := 1) hG (by omega) ?_
  refine c_X9_possible (mk1 hG).1 hc.2.2.1 hok hc.2.2.2.1 hw.1.2.1.2 ?_
  refine w_X10_take_7 ?_
  by_cases h0 : sp_bits (sp_poss (gS g) (gP g)) (sMen (gS g)) = 0
  · rw [if_neg (fun z => z.2 h0)] at k
    rw [h0, if_pos (by decide)]
    exact k
  rw [if_neg (by intro z; exact h0 ((nI_eq (b := 0) (by omega) (by decide)).mp z))]
  by_cases q1 : w < 0
  · rw [if_pos q1]
    rw [if_neg (fun z => absurd q1 (Int32.not_lt.mpr z.1.1))] at k
    exact k
  rw [if_neg q1]
  by_cases q2 : w ≤ 1
  · rw [if_pos q2]
    rw [if_pos ⟨⟨Int32.not_lt.mp q1, q2⟩, h0⟩] at k
    have key : ∀ (q j : Nat), j + q = 5 → sm_W ex d 0 0 104 28 [some (.ref 0), some (.int w), some (.int (nI (sp_bits (sp_poss (gS g) (gP g)) (sMen (gS g))))), some (.int (nI (tkB (tkW (gS g) (gP g)) j))), some (.int (nI (j + 1)))] [] (n, y, I, L, R) Q := by
      intro q
      induction q with
      | zero =>
        intro j hj
        obtain rfl : j = 5 := by omega
        have hB := tkB_le (tkW (gS g) (gP g)) 5
        refine w_X10_take_28 (d1 := 1) hG (by omega) ?_
        rw [if_pos (by decide)]
        by_cases hw0 : w = 0
        · rw [if_pos hw0] at k ⊢
          exact w_X10_take_83 k
        · rw [if_neg hw0] at k ⊢
          refine c_X9_left (Nat.le_refl 1) (mk1 hG).1 hc.2.2.1 hok (by omega) ?_
          exact w_X10_take_83 k
      | succ q ih =>
        intro j hj
        have hB := tkB_le (tkW (gS g) (gP g)) j
        have hW1 := tkW_le (gS g) (gP g) (j + 1)
        have hW2 := tkW_le (gS g) (gP g) (tkB (tkW (gS g) (gP g)) j)
        refine w_X10_take_28 (d1 := 1) hG (by omega) ?_
        rw [if_neg (by rw [sm_of 6, nI_leI (by decide) (by omega)]; omega)]
        refine c_X9_left (pl := gP g) (Nat.le_refl 1) (mk1 hG).1 hc.2.2.1 hok (by omega) ?_
        refine w_X10_take_45 (d1 := 1) hG (by omega) ?_
        refine c_X9_left (pl := gP g) (Nat.le_refl 1) (mk1 hG).1 hc.2.2.1 hok (by omega) ?_
        refine w_X10_take_54 ?_
        rw [sm_n1]
        have nx := ih (j + 1) (by omega)
        have e : tkB (tkW (gS g) (gP g)) (j + 1) = if tkW (gS g) (gP g) (j + 1) < tkW (gS g) (gP g) (tkB (tkW (gS g) (gP g)) j) then j + 1 else tkB (tkW (gS g) (gP g)) j := rfl
        rw [e] at nx
        by_cases hlt : tkW (gS g) (gP g) (j + 1) < tkW (gS g) (gP g) (tkB (tkW (gS g) (gP g)) j)
        · rw [if_pos hlt] at nx
          rw [if_neg (by rw [nI_leI (by omega) (by omega)]; omega)]
          exact nx
        · rw [if_neg hlt] at nx
          rw [if_pos (by rw [nI_leI (by omega) (by omega)]; omega)]
          exact nx
    exact key 5 0 rfl
  · rw [if_neg q2]
    rw [if_neg (fun z => q2 z.1.2)] at k
    exact k
theorem M_take {ex : sm_O} {d : Nat} {w2 w3 w4 w5 w6 w7 w8 : Option Value} {g : GG} {w : Int32} (hd : 2 ≤ d) (hw : Wf g) : MM ex d 225 [some (.ref 123), some (.int w), w2, w3, w4, w5, w6, w7, w8] g (f_take g w) g := by
  intro n y I0 L R Q hG hm k
  have hok : sp_ok (gS g) := hw.1.1.1
  have h7 := hok.1
  have hb : sp_bits (sp_poss (gS g) (gP g)) (sMen (gS g)) < 128 := Nat.lt_of_lt_of_le (sp_bits_lt _ _) (show 2 ^ sMen (gS g) ≤ 2 ^ 7 from Nat.pow_le_pow_right (by decide) h7)
  have hm := MI_thr hm
  have k := k _ L hm (mKeep_thr I0)
  unfold f_take at k
  refine w_X11_take_0 (d1 := 1) hG (by omega) ?_
  generalize sm_st I0 123 0 0 = I at hm k ⊢
  refine c_X11_thatCanBe (Nat.le_refl 1) hG hm.1 hok hm.2.1 hw.1.2.1.1 hw.1.2.1.2 ?_
  refine w_X11_take_9 (by omega) ?_
  have i2 : ((0 : Int64) ≤ w.toInt64 ∧ w.toInt64 ≤ (1 : Int64)) ↔ (0 ≤ w ∧ w ≤ 1) := sm_in64 (lo := 0) (hi := 1)
  simp only [i2]
  by_cases q1 : 0 ≤ w ∧ w ≤ 1
  · rw [if_pos q1]
    by_cases h0 : sp_bits (sp_poss (gS g) (gP g)) (sMen (gS g)) = 0
    · rw [if_neg (fun z => z.2 h0)] at k
      rw [h0, if_pos (by decide)]
      exact k
    rw [if_neg (by intro z; exact h0 ((nI_eq (b := 0) (by omega) (by decide)).mp z))]
    rw [if_pos ⟨q1, h0⟩] at k
    -- one feature
    have one : ∀ (f : Nat) (ls it : Int32) (u8 : Option Value), f < 6 → (∀ (u6 u7 u8 : Option Value), (nI (tkW (gS g) (gP g) f) < ls → sm_W ex d 0 0 225 36 [some (.ref 123), some (.int w), some (.int (nI (sp_bits (sp_poss (gS g) (gP g)) (sMen (gS g))))), some (.int (nI (tkW (gS g) (gP g) f))), some (.int (nI f)), some (.int (nI (f + 1))), u6, u7, u8] [] (n, y, I, L, R) Q) ∧ (¬ nI (tkW (gS g) (gP g) f) < ls → sm_W ex d 0 0 225 36 [some (.ref 123), some (.int w), some (.int (nI (sp_bits (sp_poss (gS g) (gP g)) (sMen (gS g))))), some (.int ls), some (.int it), some (.int (nI (f + 1))), u6, u7, u8] [] (n, y, I, L, R) Q)) → ∀ (q j : Nat), j + q = sMen (gS g) → sm_W ex d 0 0 225 49 [some (.ref 123), some (.int w), some (.int (nI (sp_bits (sp_poss (gS g) (gP g)) (sMen (gS g))))), some (.int ls), some (.int it), some (.int (nI f)), some (.int (nI (tkH (gS g) (gP g) f j))), some (.int (nI j)), u8] [] (n, y, I, L, R) Q := by
      intro f ls it u8 hf nx q
      induction q with
      | zero =>
        intro j hj
        obtain rfl : j = sMen (gS g) := by omega
        refine w_X11_take_49 (d1 := 1) hG (by omega) (by omega) ?_
        rw [hm.1.1, if_pos (Int32.le_refl _)]
        refine c_X11_many h7 ?_
        refine w_X11_take_107 ?_
        have h1 := tkH_le (gS g) (gP g) f (sMen (gS g))
        have h2 := sp_pop_le (sp_poss (gS g) (gP g)) (sMen (gS g))
        rw [pk_sub h1, sm_n1]
        by_cases hle : tkH (gS g) (gP g) f (sMen (gS g)) ≤ sp_pop (sp_poss (gS g) (gP g)) (sMen (gS g)) - tkH (gS g) (gP g) f (sMen (gS g))
        · have e : tkW (gS g) (gP g) f = sp_pop (sp_poss (gS g) (gP g)) (sMen (gS g)) - tkH (gS g) (gP g) f (sMen (gS g)) := Nat.max_eq_right hle
          rw [if_pos (by rw [nI_leI (by omega) (by omega)]; exact hle), ← e]
          by_cases hl : nI (tkW (gS g) (gP g) f) < ls
          · rw [if_neg (Int32.not_le.mpr hl)]
            exact (nx _ _ _).1 hl
          · rw [if_pos (Int32.not_lt.mp hl)]
            exact (nx _ _ _).2 hl
        · have e : tkW (gS g) (gP g) f = tkH (gS g) (gP g) f (sMen (gS g)) := Nat.max_eq_left (by omega)
          rw [if_neg (by rw [nI_leI (by omega) (by omega)]; exact hle), ← e]
          by_cases hl : nI (tkW (gS g) (gP g) f) < ls
          · rw [if_neg (Int32.not_le.mpr hl)]
            exact (nx _ _ _).1 hl
          · rw [if_pos (Int32.not_lt.mp hl)]
            exact (nx _ _ _).2 hl
      | succ q ih =>
        intro j hj
        have hl := (hok.2.1 j (by omega)).2.2.1
        refine w_X11_take_49 (d1 := 1) hG (by omega) (by omega) ?_
        rw [hm.1.1, if_neg (by rw [nI_leI (by omega) (by omega)]; omega), sm_bit7 _ hb j (by omega), sp_bits_tb, decide_eq_true (show j < sMen (gS g) by omega), sm_cx31 (by omega), (hm.1.2.1 j (by omega)).2.1, sm_bit64 _ hl f hf, sm_n1, sm_n1]
        have nx2 := ih (j + 1) (by omega)
        have e : tkH (gS g) (gP g) f (j + 1) = tkH (gS g) (gP g) f j + (if (sp_poss (gS g) (gP g) j && (sLook (gS g) j).testBit f) = true then 1 else 0) := rfl
        rw [e] at nx2
        have e0 : nI (tkH (gS g) (gP g) f j) + 0 = nI (tkH (gS g) (gP g) f j + 0) := nI_add _ 0
        rw [e0]
        cases h1 : sp_poss (gS g) (gP g) j with
        | false =>
          rw [h1] at nx2
          rw [if_neg (by decide)]
          exact nx2
        | true =>
          rw [h1] at nx2
          rw [if_pos (by decide)]
          refine ⟨sm_ci31 (by omega) (by decide), ?_⟩
          cases h2 : (sLook (gS g) j).testBit f with
          | false =>
            rw [h2] at nx2
            rw [if_neg (by decide)]
            exact nx2
          | true =>
            rw [h2] at nx2
            rw [if_pos (by decide)]
            exact nx2
    have key : ∀ (q j : Nat) (u6 u7 u8 : Option Value), j + q = 5 → sm_W ex d 0 0 225 36 [some (.ref 123), some (.int w), some (.int (nI (sp_bits (sp_poss (gS g) (gP g)) (sMen (gS g))))), some (.int (nI (tkW (gS g) (gP g) (tkB (tkW (gS g) (gP g)) j)))), some (.int (nI (tkB (tkW (gS g) (gP g)) j))), some (.int (nI (j + 1))), u6, u7, u8] [] (n, y, I, L, R) Q := by
      intro q
      induction q with
      | zero =>
        intro j u6 u7 u8 hj
        obtain rfl : j = 5 := by omega
        refine w_X11_take_36 ?_
        rw [if_pos (by decide)]
        exact ite_of k
      | succ q ih =>
        intro j u6 u7 u8 hj
        have hW1 := tkW_le (gS g) (gP g) (j + 1)
        have hW2 := tkW_le (gS g) (gP g) (tkB (tkW (gS g) (gP g)) j)
        refine w_X11_take_36 ?_
        rw [if_neg (by rw [sm_of 6, nI_leI (by decide) (by omega)]; omega)]
        refine one (j + 1) _ _ _ (by omega) (fun u6 u7 u8 => ?_) (sMen (gS g)) 0 (by omega)
        have nx := ih (j + 1) u6 u7 u8 (by omega)
        have e : tkB (tkW (gS g) (gP g)) (j + 1) = if tkW (gS g) (gP g) (j + 1) < tkW (gS g) (gP g) (tkB (tkW (gS g) (gP g)) j) then j + 1 else tkB (tkW (gS g) (gP g)) j := rfl
        rw [e] at nx
        rw [nI_ltI (by omega) (by omega)]
        refine ⟨fun hlt => ?_, fun hlt => ?_⟩
        · rw [if_pos hlt] at nx
          exact nx
        · rw [if_neg hlt] at nx
          exact nx
    refine w_X11_take_36 ?_
    rw [if_neg (by decide)]
    have hW0 := tkW_le (gS g) (gP g) 0
    refine one 0 _ _ _ (by omega) (fun u6 u7 u8 => ⟨fun _ => key 5 0 u6 u7 u8 rfl, fun hn => absurd ?_ hn⟩) (sMen (gS g)) 0 (by omega)
    show nI _ < nI 100000000
    rw [nI_ltI (by omega) (by omega)]
    omega
  · rw [if_neg q1]
    rw [if_neg (fun z => q1 z.1)] at k
    exact k

